theorem dX11_keyHere_80 : decode cX11_keyHere 80 = .ok (.iconst 5, 1) := by decide +kernel
theorem dX11_keyHere_81 : decode cX11_keyHere 81 = .ok (.goto 4, 3) := by decide +kernel
theorem dX11_keyHere_84 : decode cX11_keyHere 84 = .ok (.iconst (-1), 1) := by decide +kernel
theorem dX11_keyHere_85 : decode cX11_keyHere 85 = .ok (.ireturn, 1) := by decide +kernel
theorem dX11_readRule_0 : decode cX11_readRule 0 = .ok (.aload_n 0, 1) := by decide +kernel
theorem dX11_readRule_1 : decode cX11_readRule 1 = .ok (.iload_n 1, 1) := by decide +kernel
theorem dX11_readRule_2 : decode cX11_readRule 2 = .ok (.putfield 224, 3) := by decide +kernel
theorem dX11_readRule_5 : decode cX11_readRule 5 = .ok (.aload_n 0, 1) := by decide +kernel
theorem dX11_readRule_6 : decode cX11_readRule 6 = .ok (.iload_n 2, 1) := by decide +kernel
theorem dX11_readRule_7 : decode cX11_readRule 7 = .ok (.putfield 249, 3) := by decide +kernel
theorem dX11_readRule_10 : decode cX11_readRule 10 = .ok (.aload_n 0, 1) := by decide +kernel
theorem dX11_readRule_11 : decode cX11_readRule 11 = .ok (.iconst 0, 1) := by decide +kernel
theorem dX11_readRule_12 : decode cX11_readRule 12 = .ok (.putfield 176, 3) := by decide +kernel
theorem dX11_readRule_15 : decode cX11_readRule 15 = .ok (.aload_n 0, 1) := by decide +kernel
theorem dX11_readRule_16 : decode cX11_readRule 16 = .ok (.iconst 0, 1) := by decide +kernel
theorem dX11_readRule_17 : decode cX11_readRule 17 = .ok (.putfield 209, 3) := by decide +kernel
theorem dX11_readRule_20 : decode cX11_readRule 20 = .ok (.aload_n 0, 1) := by decide +kernel
theorem dX11_readRule_21 : decode cX11_readRule 21 = .ok (.iconst 0, 1) := by decide +kernel
theorem dX11_readRule_22 : decode cX11_readRule 22 = .ok (.putfield 202, 3) := by decide +kernel
theorem dX11_readRule_25 : decode cX11_readRule 25 = .ok (.aload_n 0, 1) := by decide +kernel
theorem dX11_readRule_26 : decode cX11_readRule 26 = .ok (.invokevirtual 215, 3) := by decide +kernel
theorem dX11_readRule_29 : decode cX11_readRule 29 = .ok (.aload_n 0, 1) := by decide +kernel
theorem dX11_readRule_30 : decode cX11_readRule 30 = .ok (.aload_n 0, 1) := by decide +kernel
theorem dX11_readRule_31 : decode cX11_readRule 31 = .ok (.invokevirtual 308, 3) := by decide +kernel
theorem dX11_readRule_34 : decode cX11_readRule 34 = .ok (.putfield 311, 3) := by decide +kernel
theorem dX11_readRule_37 : decode cX11_readRule 37 = .ok (.aload_n 0, 1) := by decide +kernel
theorem dX11_readRule_38 : decode cX11_readRule 38 = .ok (.getfield 311, 3) := by decide +kernel
theorem dX11_readRule_41 : decode cX11_readRule 41 = .ok (.iconst (-1), 1) := by decide +kernel
theorem dX11_readRule_42 : decode cX11_readRule 42 = .ok (.if_icmp .ne 10, 3) := by decide +kernel
theorem dX11_readRule_45 : decode cX11_readRule 45 = .ok (.aload_n 0, 1) := by decide +kernel
theorem dX11_readRule_46 : decode cX11_readRule 46 = .ok (.invokevirtual 212, 3) := by decide +kernel
theorem dX11_readRule_49 : decode cX11_readRule 49 = .ok (.goto 7, 3) := by decide +kernel
theorem dX11_readRule_52 : decode cX11_readRule 52 = .ok (.aload_n 0, 1) := by decide +kernel
theorem dX11_readRule_53 : decode cX11_readRule 53 = .ok (.invokevirtual 215, 3) := by decide +kernel
theorem dX11_readRule_56 : decode cX11_readRule 56 = .ok (.aload_n 0, 1) := by decide +kernel
theorem dX11_readRule_57 : decode cX11_readRule 57 = .ok (.aload_n 0, 1) := by decide +kernel
theorem dX11_readRule_58 : decode cX11_readRule 58 = .ok (.getfield 202, 3) := by decide +kernel
theorem dX11_readRule_61 : decode cX11_readRule 61 = .ok (.ifCond .eq 7, 3) := by decide +kernel
theorem dX11_readRule_64 : decode cX11_readRule 64 = .ok (.iconst 0, 1) := by decide +kernel
theorem dX11_readRule_65 : decode cX11_readRule 65 = .ok (.goto 7, 3) := by decide +kernel
theorem dX11_readRule_68 : decode cX11_readRule 68 = .ok (.aload_n 0, 1) := by decide +kernel
theorem dX11_readRule_69 : decode cX11_readRule 69 = .ok (.invokevirtual 262, 3) := by decide +kernel
theorem dX11_readRule_72 : decode cX11_readRule 72 = .ok (.putfield 314, 3) := by decide +kernel
theorem dX11_readRule_75 : decode cX11_readRule 75 = .ok (.aload_n 0, 1) := by decide +kernel
theorem dX11_readRule_76 : decode cX11_readRule 76 = .ok (.iconst 1, 1) := by decide +kernel
theorem dX11_readRule_77 : decode cX11_readRule 77 = .ok (.putfield 317, 3) := by decide +kernel
theorem dX11_readRule_80 : decode cX11_readRule 80 = .ok (.aload_n 0, 1) := by decide +kernel
theorem dX11_readRule_81 : decode cX11_readRule 81 = .ok (.ldc2_w 320, 3) := by decide +kernel
theorem dX11_readRule_84 : decode cX11_readRule 84 = .ok (.invokevirtual 220, 3) := by decide +kernel
theorem dX11_readRule_87 : decode cX11_readRule 87 = .ok (.ifCond .eq 23, 3) := by decide +kernel
theorem dX11_readRule_90 : decode cX11_readRule 90 = .ok (.aload_n 0, 1) := by decide +kernel
theorem dX11_readRule_91 : decode cX11_readRule 91 = .ok (.invokevirtual 215, 3) := by decide +kernel
theorem dX11_readRule_94 : decode cX11_readRule 94 = .ok (.aload_n 0, 1) := by decide +kernel
theorem dX11_readRule_95 : decode cX11_readRule 95 = .ok (.aload_n 0, 1) := by decide +kernel
theorem dX11_readRule_96 : decode cX11_readRule 96 = .ok (.invokevirtual 262, 3) := by decide +kernel
theorem dX11_readRule_99 : decode cX11_readRule 99 = .ok (.ifCond .eq 7, 3) := by decide +kernel
theorem dX11_readRule_102 : decode cX11_readRule 102 = .ok (.iconst 1, 1) := by decide +kernel
theorem dX11_readRule_103 : decode cX11_readRule 103 = .ok (.goto 4, 3) := by decide +kernel
theorem dX11_readRule_106 : decode cX11_readRule 106 = .ok (.iconst 0, 1) := by decide +kernel
theorem dX11_readRule_107 : decode cX11_readRule 107 = .ok (.putfield 317, 3) := by decide +kernel
theorem dX11_readRule_110 : decode cX11_readRule 110 = .ok (.aload_n 0, 1) := by decide +kernel
theorem dX11_readRule_111 : decode cX11_readRule 111 = .ok (.getfield 202, 3) := by decide +kernel
theorem dX11_readRule_114 : decode cX11_readRule 114 = .ok (.ifCond .ne 14, 3) := by decide +kernel
theorem dX11_readRule_117 : decode cX11_readRule 117 = .ok (.aload_n 0, 1) := by decide +kernel
theorem dX11_readRule_118 : decode cX11_readRule 118 = .ok (.getfield 185, 3) := by decide +kernel
theorem dX11_readRule_121 : decode cX11_readRule 121 = .ok (.ifCond .eq 7, 3) := by decide +kernel
theorem dX11_readRule_124 : decode cX11_readRule 124 = .ok (.aload_n 0, 1) := by decide +kernel
theorem dX11_readRule_125 : decode cX11_readRule 125 = .ok (.invokevirtual 212, 3) := by decide +kernel
theorem dX11_readRule_128 : decode cX11_readRule 128 = .ok (.return_, 1) := by decide +kernel
theorem dX11_rules_0 : decode cX11_rules 0 = .ok (.iload_n 2, 1) := by decide +kernel
theorem dX11_rules_1 : decode cX11_rules 1 = .ok (.bipush 100, 2) := by decide +kernel
theorem dX11_rules_3 : decode cX11_rules 3 = .ok (.if_icmp .lt 10, 3) := by decide +kernel
theorem dX11_rules_6 : decode cX11_rules 6 = .ok (.iload_n 2, 1) := by decide +kernel
theorem dX11_rules_7 : decode cX11_rules 7 = .ok (.bipush 100, 2) := by decide +kernel
theorem dX11_rules_9 : decode cX11_rules 9 = .ok (.isub, 1) := by decide +kernel
theorem dX11_rules_10 : decode cX11_rules 10 = .ok (.goto 4, 3) := by decide +kernel
theorem dX11_rules_13 : decode cX11_rules 13 = .ok (.iconst (-1), 1) := by decide +kernel
theorem dX11_rules_14 : decode cX11_rules 14 = .ok (.istore_n 3, 1) := by decide +kernel
theorem dX11_rules_15 : decode cX11_rules 15 = .ok (.iload_n 2, 1) := by decide +kernel
theorem dX11_rules_16 : decode cX11_rules 16 = .ok (.bipush 100, 2) := by decide +kernel
theorem dX11_rules_18 : decode cX11_rules 18 = .ok (.if_icmp .lt 12, 3) := by decide +kernel
theorem dX11_rules_21 : decode cX11_rules 21 = .ok (.aload_n 0, 1) := by decide +kernel
theorem dX11_rules_22 : decode cX11_rules 22 = .ok (.iload_n 3, 1) := by decide +kernel
theorem dX11_rules_23 : decode cX11_rules 23 = .ok (.iconst 3, 1) := by decide +kernel
theorem dX11_rules_24 : decode cX11_rules 24 = .ok (.invokevirtual 123, 3) := by decide +kernel
theorem dX11_rules_27 : decode cX11_rules 27 = .ok (.goto 4, 3) := by decide +kernel
theorem dX11_rules_30 : decode cX11_rules 30 = .ok (.iload_n 2, 1) := by decide +kernel
theorem dX11_rules_31 : decode cX11_rules 31 = .ok (.istore 4, 2) := by decide +kernel
theorem dX11_rules_33 : decode cX11_rules 33 = .ok (.aload_n 0, 1) := by decide +kernel
theorem dX11_rules_34 : decode cX11_rules 34 = .ok (.getfield 14, 3) := by decide +kernel
theorem dX11_rules_37 : decode cX11_rules 37 = .ok (.iconst 4, 1) := by decide +kernel
theorem dX11_rules_38 : decode cX11_rules 38 = .ok (.iaload, 1) := by decide +kernel
theorem dX11_rules_39 : decode cX11_rules 39 = .ok (.iconst 1, 1) := by decide +kernel
theorem dX11_rules_40 : decode cX11_rules 40 = .ok (.isub, 1) := by decide +kernel
theorem dX11_rules_41 : decode cX11_rules 41 = .ok (.istore 5, 2) := by decide +kernel
theorem dX11_rules_43 : decode cX11_rules 43 = .ok (.iload 5, 2) := by decide +kernel
theorem dX11_rules_45 : decode cX11_rules 45 = .ok (.ifCond .lt 137, 3) := by decide +kernel
theorem dX11_rules_48 : decode cX11_rules 48 = .ok (.sipush 1082, 3) := by decide +kernel
theorem dX11_rules_51 : decode cX11_rules 51 = .ok (.bipush 124, 2) := by decide +kernel
theorem dX11_rules_53 : decode cX11_rules 53 = .ok (.iload 5, 2) := by decide +kernel
theorem dX11_rules_55 : decode cX11_rules 55 = .ok (.imul, 1) := by decide +kernel
theorem dX11_rules_56 : decode cX11_rules 56 = .ok (.iadd, 1) := by decide +kernel
theorem dX11_rules_57 : decode cX11_rules 57 = .ok (.istore 6, 2) := by decide +kernel
theorem dX11_rules_59 : decode cX11_rules 59 = .ok (.aload_n 0, 1) := by decide +kernel
theorem dX11_rules_60 : decode cX11_rules 60 = .ok (.getfield 14, 3) := by decide +kernel
theorem dX11_rules_63 : decode cX11_rules 63 = .ok (.iload 6, 2) := by decide +kernel
theorem dX11_rules_65 : decode cX11_rules 65 = .ok (.iaload, 1) := by decide +kernel
theorem dX11_rules_66 : decode cX11_rules 66 = .ok (.iload_n 1, 1) := by decide +kernel
theorem dX11_rules_67 : decode cX11_rules 67 = .ok (.if_icmp .ne 109, 3) := by decide +kernel
theorem dX11_rules_70 : decode cX11_rules 70 = .ok (.aload_n 0, 1) := by decide +kernel
theorem dX11_rules_71 : decode cX11_rules 71 = .ok (.getfield 14, 3) := by decide +kernel
theorem dX11_rules_74 : decode cX11_rules 74 = .ok (.iload 6, 2) := by decide +kernel
theorem dX11_rules_76 : decode cX11_rules 76 = .ok (.iconst 1, 1) := by decide +kernel
theorem dX11_rules_77 : decode cX11_rules 77 = .ok (.iadd, 1) := by decide +kernel
theorem dX11_rules_78 : decode cX11_rules 78 = .ok (.iaload, 1) := by decide +kernel
theorem dX11_rules_79 : decode cX11_rules 79 = .ok (.aload_n 0, 1) := by decide +kernel
theorem dX11_rules_80 : decode cX11_rules 80 = .ok (.getfield 14, 3) := by decide +kernel
theorem dX11_rules_83 : decode cX11_rules 83 = .ok (.iconst 0, 1) := by decide +kernel
theorem dX11_rules_84 : decode cX11_rules 84 = .ok (.iaload, 1) := by decide +kernel
theorem dX11_rules_85 : decode cX11_rules 85 = .ok (.if_icmp .gt 91, 3) := by decide +kernel
theorem dX11_rules_88 : decode cX11_rules 88 = .ok (.aload_n 0, 1) := by decide +kernel
theorem dX11_rules_89 : decode cX11_rules 89 = .ok (.getfield 14, 3) := by decide +kernel
theorem dX11_rules_92 : decode cX11_rules 92 = .ok (.iload 6, 2) := by decide +kernel
theorem dX11_rules_94 : decode cX11_rules 94 = .ok (.iconst 2, 1) := by decide +kernel
theorem dX11_rules_95 : decode cX11_rules 95 = .ok (.iadd, 1) := by decide +kernel
theorem dX11_rules_96 : decode cX11_rules 96 = .ok (.iaload, 1) := by decide +kernel
theorem dX11_rules_97 : decode cX11_rules 97 = .ok (.aload_n 0, 1) := by decide +kernel
theorem dX11_rules_98 : decode cX11_rules 98 = .ok (.getfield 14, 3) := by decide +kernel
theorem dX11_rules_101 : decode cX11_rules 101 = .ok (.iconst 0, 1) := by decide +kernel
theorem dX11_rules_102 : decode cX11_rules 102 = .ok (.iaload, 1) := by decide +kernel
theorem dX11_rules_103 : decode cX11_rules 103 = .ok (.if_icmp .gt 6, 3) := by decide +kernel
theorem dX11_rules_106 : decode cX11_rules 106 = .ok (.goto 70, 3) := by decide +kernel
theorem dX11_rules_109 : decode cX11_rules 109 = .ok (.aload_n 0, 1) := by decide +kernel
theorem dX11_rules_110 : decode cX11_rules 110 = .ok (.aload_n 0, 1) := by decide +kernel
theorem dX11_rules_111 : decode cX11_rules 111 = .ok (.getfield 14, 3) := by decide +kernel
theorem dX11_rules_114 : decode cX11_rules 114 = .ok (.iload 6, 2) := by decide +kernel
theorem dX11_rules_116 : decode cX11_rules 116 = .ok (.iconst 3, 1) := by decide +kernel
theorem dX11_rules_117 : decode cX11_rules 117 = .ok (.iadd, 1) := by decide +kernel
theorem dX11_rules_118 : decode cX11_rules 118 = .ok (.iaload, 1) := by decide +kernel
theorem dX11_rules_119 : decode cX11_rules 119 = .ok (.putfield 173, 3) := by decide +kernel
theorem dX11_rules_122 : decode cX11_rules 122 = .ok (.iconst 0, 1) := by decide +kernel
theorem dX11_rules_123 : decode cX11_rules 123 = .ok (.istore 7, 2) := by decide +kernel
theorem dX11_rules_125 : decode cX11_rules 125 = .ok (.iload 7, 2) := by decide +kernel
theorem dX11_rules_127 : decode cX11_rules 127 = .ok (.aload_n 0, 1) := by decide +kernel
theorem dX11_rules_128 : decode cX11_rules 128 = .ok (.getfield 173, 3) := by decide +kernel
theorem dX11_rules_131 : decode cX11_rules 131 = .ok (.if_icmp .ge 28, 3) := by decide +kernel
theorem dX11_rules_134 : decode cX11_rules 134 = .ok (.aload_n 0, 1) := by decide +kernel
theorem dX11_rules_135 : decode cX11_rules 135 = .ok (.getfield 28, 3) := by decide +kernel
theorem dX11_rules_138 : decode cX11_rules 138 = .ok (.iload 7, 2) := by decide +kernel
theorem dX11_rules_140 : decode cX11_rules 140 = .ok (.aload_n 0, 1) := by decide +kernel
theorem dX11_rules_141 : decode cX11_rules 141 = .ok (.getfield 14, 3) := by decide +kernel
theorem dX11_rules_144 : decode cX11_rules 144 = .ok (.iload 6, 2) := by decide +kernel
theorem dX11_rules_146 : decode cX11_rules 146 = .ok (.iconst 4, 1) := by decide +kernel
theorem dX11_rules_147 : decode cX11_rules 147 = .ok (.iadd, 1) := by decide +kernel
theorem dX11_rules_148 : decode cX11_rules 148 = .ok (.iload 7, 2) := by decide +kernel
theorem dX11_rules_150 : decode cX11_rules 150 = .ok (.iadd, 1) := by decide +kernel
theorem dX11_rules_151 : decode cX11_rules 151 = .ok (.iaload, 1) := by decide +kernel
theorem dX11_rules_152 : decode cX11_rules 152 = .ok (.iastore, 1) := by decide +kernel
theorem dX11_rules_153 : decode cX11_rules 153 = .ok (.iinc 7 1, 3) := by decide +kernel
theorem dX11_rules_156 : decode cX11_rules 156 = .ok (.goto (-31), 3) := by decide +kernel
theorem dX11_rules_159 : decode cX11_rules 159 = .ok (.aload_n 0, 1) := by decide +kernel
theorem dX11_rules_160 : decode cX11_rules 160 = .ok (.iload 4, 2) := by decide +kernel
theorem dX11_rules_162 : decode cX11_rules 162 = .ok (.iload_n 3, 1) := by decide +kernel
theorem dX11_rules_163 : decode cX11_rules 163 = .ok (.invokevirtual 322, 3) := by decide +kernel
theorem dX11_rules_166 : decode cX11_rules 166 = .ok (.aload_n 0, 1) := by decide +kernel
theorem dX11_rules_167 : decode cX11_rules 167 = .ok (.getfield 317, 3) := by decide +kernel
theorem dX11_rules_170 : decode cX11_rules 170 = .ok (.ifCond .eq 6, 3) := by decide +kernel
theorem dX11_rules_173 : decode cX11_rules 173 = .ok (.iload 5, 2) := by decide +kernel
theorem dX11_rules_175 : decode cX11_rules 175 = .ok (.ireturn, 1) := by decide +kernel
theorem dX11_rules_176 : decode cX11_rules 176 = .ok (.iinc 5 (-1), 3) := by decide +kernel
theorem dX11_rules_179 : decode cX11_rules 179 = .ok (.goto (-136), 3) := by decide +kernel
theorem dX11_rules_182 : decode cX11_rules 182 = .ok (.iconst (-1), 1) := by decide +kernel
theorem dX11_rules_183 : decode cX11_rules 183 = .ok (.ireturn, 1) := by decide +kernel
theorem dX11_ruled_0 : decode cX11_ruled 0 = .ok (.aload_n 0, 1) := by decide +kernel
theorem dX11_ruled_1 : decode cX11_ruled 1 = .ok (.iload_n 1, 1) := by decide +kernel
theorem dX11_ruled_2 : decode cX11_ruled 2 = .ok (.iload_n 2, 1) := by decide +kernel
theorem dX11_ruled_3 : decode cX11_ruled 3 = .ok (.invokevirtual 326, 3) := by decide +kernel
theorem dX11_ruled_6 : decode cX11_ruled 6 = .ok (.iconst (-1), 1) := by decide +kernel
theorem dX11_ruled_7 : decode cX11_ruled 7 = .ok (.if_icmp .eq 10, 3) := by decide +kernel
theorem dX11_ruled_10 : decode cX11_ruled 10 = .ok (.aload_n 0, 1) := by decide +kernel
theorem dX11_ruled_11 : decode cX11_ruled 11 = .ok (.getfield 314, 3) := by decide +kernel
theorem dX11_ruled_14 : decode cX11_ruled 14 = .ok (.goto 4, 3) := by decide +kernel
theorem dX11_ruled_17 : decode cX11_ruled 17 = .ok (.iload_n 3, 1) := by decide +kernel
theorem dX11_ruled_18 : decode cX11_ruled 18 = .ok (.ireturn, 1) := by decide +kernel
theorem dX11_feed_0 : decode cX11_feed 0 = .ok (.iload_n 2, 1) := by decide +kernel
theorem dX11_feed_1 : decode cX11_feed 1 = .ok (.ifCond .ge 10, 3) := by decide +kernel
theorem dX11_feed_4 : decode cX11_feed 4 = .ok (.aload_n 0, 1) := by decide +kernel
theorem dX11_feed_5 : decode cX11_feed 5 = .ok (.bipush (-4), 2) := by decide +kernel
theorem dX11_feed_7 : decode cX11_feed 7 = .ok (.invokevirtual 108, 3) := by decide +kernel
theorem dX11_feed_10 : decode cX11_feed 10 = .ok (.ireturn, 1) := by decide +kernel
theorem dX11_feed_11 : decode cX11_feed 11 = .ok (.iload_n 2, 1) := by decide +kernel
theorem dX11_feed_12 : decode cX11_feed 12 = .ok (.iconst 4, 1) := by decide +kernel
theorem dX11_feed_13 : decode cX11_feed 13 = .ok (.if_icmp .le 10, 3) := by decide +kernel
theorem dX11_feed_16 : decode cX11_feed 16 = .ok (.aload_n 0, 1) := by decide +kernel
theorem dX11_feed_17 : decode cX11_feed 17 = .ok (.bipush (-7), 2) := by decide +kernel
theorem dX11_feed_19 : decode cX11_feed 19 = .ok (.invokevirtual 108, 3) := by decide +kernel
theorem dX11_feed_22 : decode cX11_feed 22 = .ok (.ireturn, 1) := by decide +kernel
theorem dX11_feed_23 : decode cX11_feed 23 = .ok (.aload_n 0, 1) := by decide +kernel
theorem dX11_feed_24 : decode cX11_feed 24 = .ok (.getfield 329, 3) := by decide +kernel
theorem dX11_feed_27 : decode cX11_feed 27 = .ok (.iload_n 2, 1) := by decide +kernel
theorem dX11_feed_28 : decode cX11_feed 28 = .ok (.iadd, 1) := by decide +kernel
theorem dX11_feed_29 : decode cX11_feed 29 = .ok (.bipush 120, 2) := by decide +kernel
theorem dX11_feed_31 : decode cX11_feed 31 = .ok (.if_icmp .le 10, 3) := by decide +kernel
theorem dX11_feed_34 : decode cX11_feed 34 = .ok (.aload_n 0, 1) := by decide +kernel
theorem dX11_feed_35 : decode cX11_feed 35 = .ok (.bipush (-8), 2) := by decide +kernel
theorem dX11_feed_37 : decode cX11_feed 37 = .ok (.invokevirtual 108, 3) := by decide +kernel
theorem dX11_feed_40 : decode cX11_feed 40 = .ok (.ireturn, 1) := by decide +kernel
theorem dX11_feed_41 : decode cX11_feed 41 = .ok (.iload_n 2, 1) := by decide +kernel
theorem dX11_feed_42 : decode cX11_feed 42 = .ok (.iconst 1, 1) := by decide +kernel
theorem dX11_feed_43 : decode cX11_feed 43 = .ok (.isub, 1) := by decide +kernel
theorem dX11_feed_44 : decode cX11_feed 44 = .ok (.istore_n 3, 1) := by decide +kernel
theorem dX11_feed_45 : decode cX11_feed 45 = .ok (.iload_n 3, 1) := by decide +kernel
theorem dX11_feed_46 : decode cX11_feed 46 = .ok (.ifCond .lt 38, 3) := by decide +kernel
theorem dX11_feed_49 : decode cX11_feed 49 = .ok (.aload_n 0, 1) := by decide +kernel
theorem dX11_feed_50 : decode cX11_feed 50 = .ok (.getfield 25, 3) := by decide +kernel
theorem dX11_feed_53 : decode cX11_feed 53 = .ok (.aload_n 0, 1) := by decide +kernel
theorem dX11_feed_54 : decode cX11_feed 54 = .ok (.getfield 329, 3) := by decide +kernel
theorem dX11_feed_57 : decode cX11_feed 57 = .ok (.iload_n 1, 1) := by decide +kernel
theorem dX11_feed_58 : decode cX11_feed 58 = .ok (.bipush 8, 2) := by decide +kernel
theorem dX11_feed_60 : decode cX11_feed 60 = .ok (.iload_n 3, 1) := by decide +kernel
theorem dX11_feed_61 : decode cX11_feed 61 = .ok (.imul, 1) := by decide +kernel
theorem dX11_feed_62 : decode cX11_feed 62 = .ok (.ishr, 1) := by decide +kernel
theorem dX11_feed_63 : decode cX11_feed 63 = .ok (.sipush 255, 3) := by decide +kernel
theorem dX11_feed_66 : decode cX11_feed 66 = .ok (.iand, 1) := by decide +kernel
theorem dX11_feed_67 : decode cX11_feed 67 = .ok (.iastore, 1) := by decide +kernel
theorem dX11_feed_68 : decode cX11_feed 68 = .ok (.aload_n 0, 1) := by decide +kernel
theorem dX11_feed_69 : decode cX11_feed 69 = .ok (.dup, 1) := by decide +kernel
theorem dX11_feed_70 : decode cX11_feed 70 = .ok (.getfield 329, 3) := by decide +kernel
theorem dX11_feed_73 : decode cX11_feed 73 = .ok (.iconst 1, 1) := by decide +kernel
theorem dX11_feed_74 : decode cX11_feed 74 = .ok (.iadd, 1) := by decide +kernel
theorem dX11_feed_75 : decode cX11_feed 75 = .ok (.putfield 329, 3) := by decide +kernel
theorem dX11_feed_78 : decode cX11_feed 78 = .ok (.iinc 3 (-1), 3) := by decide +kernel
theorem dX11_feed_81 : decode cX11_feed 81 = .ok (.goto (-36), 3) := by decide +kernel
theorem dX11_feed_84 : decode cX11_feed 84 = .ok (.aload_n 0, 1) := by decide +kernel
theorem dX11_feed_85 : decode cX11_feed 85 = .ok (.getfield 329, 3) := by decide +kernel
theorem dX11_feed_88 : decode cX11_feed 88 = .ok (.ireturn, 1) := by decide +kernel
theorem dX11_wipe_0 : decode cX11_wipe 0 = .ok (.aload_n 0, 1) := by decide +kernel
theorem dX11_wipe_1 : decode cX11_wipe 1 = .ok (.getfield 329, 3) := by decide +kernel
theorem dX11_wipe_4 : decode cX11_wipe 4 = .ok (.istore_n 1, 1) := by decide +kernel
theorem dX11_wipe_5 : decode cX11_wipe 5 = .ok (.aload_n 0, 1) := by decide +kernel
theorem dX11_wipe_6 : decode cX11_wipe 6 = .ok (.iconst 0, 1) := by decide +kernel
theorem dX11_wipe_7 : decode cX11_wipe 7 = .ok (.putfield 329, 3) := by decide +kernel
theorem dX11_wipe_10 : decode cX11_wipe 10 = .ok (.iload_n 1, 1) := by decide +kernel
theorem dX11_wipe_11 : decode cX11_wipe 11 = .ok (.ireturn, 1) := by decide +kernel
theorem dX11_rule_0 : decode cX11_rule 0 = .ok (.iload_n 1, 1) := by decide +kernel
theorem dX11_rule_1 : decode cX11_rule 1 = .ok (.iconst 0, 1) := by decide +kernel
theorem dX11_rule_2 : decode cX11_rule 2 = .ok (.sipush 1000, 3) := by decide +kernel
theorem dX11_rule_5 : decode cX11_rule 5 = .ok (.invokestatic 104, 3) := by decide +kernel
theorem dX11_rule_8 : decode cX11_rule 8 = .ok (.ifCond .eq 19, 3) := by decide +kernel
theorem dX11_rule_11 : decode cX11_rule 11 = .ok (.iload_n 2, 1) := by decide +kernel
theorem dX11_rule_12 : decode cX11_rule 12 = .ok (.iconst 0, 1) := by decide +kernel
theorem dX11_rule_13 : decode cX11_rule 13 = .ok (.sipush 1000, 3) := by decide +kernel
theorem dX11_rule_16 : decode cX11_rule 16 = .ok (.invokestatic 104, 3) := by decide +kernel
theorem dX11_rule_19 : decode cX11_rule 19 = .ok (.ifCond .eq 8, 3) := by decide +kernel
theorem dX11_rule_22 : decode cX11_rule 22 = .ok (.iload_n 1, 1) := by decide +kernel
theorem dX11_rule_23 : decode cX11_rule 23 = .ok (.iload_n 2, 1) := by decide +kernel
theorem dX11_rule_24 : decode cX11_rule 24 = .ok (.if_icmp .lt 10, 3) := by decide +kernel
theorem dX11_rule_27 : decode cX11_rule 27 = .ok (.aload_n 0, 1) := by decide +kernel
theorem dX11_rule_28 : decode cX11_rule 28 = .ok (.bipush (-7), 2) := by decide +kernel
theorem dX11_rule_30 : decode cX11_rule 30 = .ok (.invokevirtual 108, 3) := by decide +kernel
theorem dX11_rule_33 : decode cX11_rule 33 = .ok (.ireturn, 1) := by decide +kernel
theorem dX11_rule_34 : decode cX11_rule 34 = .ok (.aload_n 0, 1) := by decide +kernel
theorem dX11_rule_35 : decode cX11_rule 35 = .ok (.getfield 14, 3) := by decide +kernel
theorem dX11_rule_38 : decode cX11_rule 38 = .ok (.iconst 4, 1) := by decide +kernel
theorem dX11_rule_39 : decode cX11_rule 39 = .ok (.iaload, 1) := by decide +kernel
theorem dX11_rule_40 : decode cX11_rule 40 = .ok (.bipush 12, 2) := by decide +kernel
theorem dX11_rule_42 : decode cX11_rule 42 = .ok (.if_icmp .ne 10, 3) := by decide +kernel
theorem dX11_rule_45 : decode cX11_rule 45 = .ok (.aload_n 0, 1) := by decide +kernel
theorem dX11_rule_46 : decode cX11_rule 46 = .ok (.bipush (-8), 2) := by decide +kernel
theorem dX11_rule_48 : decode cX11_rule 48 = .ok (.invokevirtual 108, 3) := by decide +kernel
theorem dX11_rule_51 : decode cX11_rule 51 = .ok (.ireturn, 1) := by decide +kernel
theorem dX11_rule_52 : decode cX11_rule 52 = .ok (.aload_n 0, 1) := by decide +kernel
theorem dX11_rule_53 : decode cX11_rule 53 = .ok (.aload_n 0, 1) := by decide +kernel
theorem dX11_rule_54 : decode cX11_rule 54 = .ok (.getfield 329, 3) := by decide +kernel
theorem dX11_rule_57 : decode cX11_rule 57 = .ok (.putfield 173, 3) := by decide +kernel
theorem dX11_rule_60 : decode cX11_rule 60 = .ok (.iconst 0, 1) := by decide +kernel
theorem dX11_rule_61 : decode cX11_rule 61 = .ok (.istore_n 3, 1) := by decide +kernel
theorem dX11_rule_62 : decode cX11_rule 62 = .ok (.iload_n 3, 1) := by decide +kernel
theorem dX11_rule_63 : decode cX11_rule 63 = .ok (.aload_n 0, 1) := by decide +kernel
theorem dX11_rule_64 : decode cX11_rule 64 = .ok (.getfield 329, 3) := by decide +kernel
theorem dX11_rule_67 : decode cX11_rule 67 = .ok (.if_icmp .ge 21, 3) := by decide +kernel
theorem dX11_rule_70 : decode cX11_rule 70 = .ok (.aload_n 0, 1) := by decide +kernel
theorem dX11_rule_71 : decode cX11_rule 71 = .ok (.getfield 28, 3) := by decide +kernel
theorem dX11_rule_74 : decode cX11_rule 74 = .ok (.iload_n 3, 1) := by decide +kernel
theorem dX11_rule_75 : decode cX11_rule 75 = .ok (.aload_n 0, 1) := by decide +kernel
theorem dX11_rule_76 : decode cX11_rule 76 = .ok (.getfield 25, 3) := by decide +kernel
theorem dX11_rule_79 : decode cX11_rule 79 = .ok (.iload_n 3, 1) := by decide +kernel
theorem dX11_rule_80 : decode cX11_rule 80 = .ok (.iaload, 1) := by decide +kernel
theorem dX11_rule_81 : decode cX11_rule 81 = .ok (.iastore, 1) := by decide +kernel
theorem dX11_rule_82 : decode cX11_rule 82 = .ok (.iinc 3 1, 3) := by decide +kernel
theorem dX11_rule_85 : decode cX11_rule 85 = .ok (.goto (-23), 3) := by decide +kernel
theorem dX11_rule_88 : decode cX11_rule 88 = .ok (.aload_n 0, 1) := by decide +kernel
theorem dX11_rule_89 : decode cX11_rule 89 = .ok (.iconst 0, 1) := by decide +kernel
theorem dX11_rule_90 : decode cX11_rule 90 = .ok (.iconst (-1), 1) := by decide +kernel
theorem dX11_rule_91 : decode cX11_rule 91 = .ok (.invokevirtual 322, 3) := by decide +kernel
theorem dX11_rule_94 : decode cX11_rule 94 = .ok (.aload_n 0, 1) := by decide +kernel
theorem dX11_rule_95 : decode cX11_rule 95 = .ok (.getfield 202, 3) := by decide +kernel
theorem dX11_rule_98 : decode cX11_rule 98 = .ok (.ifCond .eq 11, 3) := by decide +kernel
theorem dX11_rule_101 : decode cX11_rule 101 = .ok (.bipush (-10), 2) := by decide +kernel
theorem dX11_rule_103 : decode cX11_rule 103 = .ok (.aload_n 0, 1) := by decide +kernel
theorem dX11_rule_104 : decode cX11_rule 104 = .ok (.getfield 206, 3) := by decide +kernel
theorem dX11_rule_107 : decode cX11_rule 107 = .ok (.isub, 1) := by decide +kernel
theorem dX11_rule_108 : decode cX11_rule 108 = .ok (.ireturn, 1) := by decide +kernel
theorem dX11_rule_109 : decode cX11_rule 109 = .ok (.sipush 1082, 3) := by decide +kernel
theorem dX11_rule_112 : decode cX11_rule 112 = .ok (.bipush 124, 2) := by decide +kernel
theorem dX11_rule_114 : decode cX11_rule 114 = .ok (.aload_n 0, 1) := by decide +kernel
theorem dX11_rule_115 : decode cX11_rule 115 = .ok (.getfield 14, 3) := by decide +kernel
theorem dX11_rule_118 : decode cX11_rule 118 = .ok (.iconst 4, 1) := by decide +kernel
theorem dX11_rule_119 : decode cX11_rule 119 = .ok (.iaload, 1) := by decide +kernel
theorem dX11_rule_120 : decode cX11_rule 120 = .ok (.imul, 1) := by decide +kernel
theorem dX11_rule_121 : decode cX11_rule 121 = .ok (.iadd, 1) := by decide +kernel
theorem dX11_rule_122 : decode cX11_rule 122 = .ok (.istore_n 3, 1) := by decide +kernel
theorem dX11_rule_123 : decode cX11_rule 123 = .ok (.aload_n 0, 1) := by decide +kernel
theorem dX11_rule_124 : decode cX11_rule 124 = .ok (.getfield 14, 3) := by decide +kernel
theorem dX11_rule_127 : decode cX11_rule 127 = .ok (.iload_n 3, 1) := by decide +kernel
theorem dX11_rule_128 : decode cX11_rule 128 = .ok (.aload_n 0, 1) := by decide +kernel
theorem dX11_rule_129 : decode cX11_rule 129 = .ok (.getfield 311, 3) := by decide +kernel
theorem dX11_rule_132 : decode cX11_rule 132 = .ok (.iastore, 1) := by decide +kernel
theorem dX11_rule_133 : decode cX11_rule 133 = .ok (.aload_n 0, 1) := by decide +kernel
theorem dX11_rule_134 : decode cX11_rule 134 = .ok (.getfield 14, 3) := by decide +kernel
theorem dX11_rule_137 : decode cX11_rule 137 = .ok (.iload_n 3, 1) := by decide +kernel
theorem dX11_rule_138 : decode cX11_rule 138 = .ok (.iconst 1, 1) := by decide +kernel
theorem dX11_rule_139 : decode cX11_rule 139 = .ok (.iadd, 1) := by decide +kernel
theorem dX11_rule_140 : decode cX11_rule 140 = .ok (.iload_n 1, 1) := by decide +kernel
theorem dX11_rule_141 : decode cX11_rule 141 = .ok (.iastore, 1) := by decide +kernel
theorem dX11_rule_142 : decode cX11_rule 142 = .ok (.aload_n 0, 1) := by decide +kernel
theorem dX11_rule_143 : decode cX11_rule 143 = .ok (.getfield 14, 3) := by decide +kernel
theorem dX11_rule_146 : decode cX11_rule 146 = .ok (.iload_n 3, 1) := by decide +kernel
theorem dX11_rule_147 : decode cX11_rule 147 = .ok (.iconst 2, 1) := by decide +kernel
theorem dX11_rule_148 : decode cX11_rule 148 = .ok (.iadd, 1) := by decide +kernel
theorem dX11_rule_149 : decode cX11_rule 149 = .ok (.iload_n 2, 1) := by decide +kernel
theorem dX11_rule_150 : decode cX11_rule 150 = .ok (.iastore, 1) := by decide +kernel
theorem dX11_rule_151 : decode cX11_rule 151 = .ok (.aload_n 0, 1) := by decide +kernel
theorem dX11_rule_152 : decode cX11_rule 152 = .ok (.getfield 14, 3) := by decide +kernel
theorem dX11_rule_155 : decode cX11_rule 155 = .ok (.iload_n 3, 1) := by decide +kernel
theorem dX11_rule_156 : decode cX11_rule 156 = .ok (.iconst 3, 1) := by decide +kernel
theorem dX11_rule_157 : decode cX11_rule 157 = .ok (.iadd, 1) := by decide +kernel
theorem dX11_rule_158 : decode cX11_rule 158 = .ok (.aload_n 0, 1) := by decide +kernel
theorem dX11_rule_159 : decode cX11_rule 159 = .ok (.getfield 329, 3) := by decide +kernel
theorem dX11_rule_162 : decode cX11_rule 162 = .ok (.iastore, 1) := by decide +kernel
theorem dX11_rule_163 : decode cX11_rule 163 = .ok (.iconst 0, 1) := by decide +kernel
theorem dX11_rule_164 : decode cX11_rule 164 = .ok (.istore 4, 2) := by decide +kernel
theorem dX11_rule_166 : decode cX11_rule 166 = .ok (.iload 4, 2) := by decide +kernel
theorem dX11_rule_168 : decode cX11_rule 168 = .ok (.aload_n 0, 1) := by decide +kernel
theorem dX11_rule_169 : decode cX11_rule 169 = .ok (.getfield 329, 3) := by decide +kernel
theorem dX11_rule_172 : decode cX11_rule 172 = .ok (.if_icmp .ge 27, 3) := by decide +kernel
theorem dX11_rule_175 : decode cX11_rule 175 = .ok (.aload_n 0, 1) := by decide +kernel
theorem dX11_rule_176 : decode cX11_rule 176 = .ok (.getfield 14, 3) := by decide +kernel
theorem dX11_rule_179 : decode cX11_rule 179 = .ok (.iload_n 3, 1) := by decide +kernel
theorem dX11_rule_180 : decode cX11_rule 180 = .ok (.iconst 4, 1) := by decide +kernel
theorem dX11_rule_181 : decode cX11_rule 181 = .ok (.iadd, 1) := by decide +kernel
theorem dX11_rule_182 : decode cX11_rule 182 = .ok (.iload 4, 2) := by decide +kernel
theorem dX11_rule_184 : decode cX11_rule 184 = .ok (.iadd, 1) := by decide +kernel
theorem dX11_rule_185 : decode cX11_rule 185 = .ok (.aload_n 0, 1) := by decide +kernel
theorem dX11_rule_186 : decode cX11_rule 186 = .ok (.getfield 25, 3) := by decide +kernel
theorem dX11_rule_189 : decode cX11_rule 189 = .ok (.iload 4, 2) := by decide +kernel
theorem dX11_rule_191 : decode cX11_rule 191 = .ok (.iaload, 1) := by decide +kernel
theorem dX11_rule_192 : decode cX11_rule 192 = .ok (.iastore, 1) := by decide +kernel
theorem dX11_rule_193 : decode cX11_rule 193 = .ok (.iinc 4 1, 3) := by decide +kernel
theorem dX11_rule_196 : decode cX11_rule 196 = .ok (.goto (-30), 3) := by decide +kernel
theorem dX11_rule_199 : decode cX11_rule 199 = .ok (.aload_n 0, 1) := by decide +kernel
theorem dX11_rule_200 : decode cX11_rule 200 = .ok (.iconst 0, 1) := by decide +kernel
theorem dX11_rule_201 : decode cX11_rule 201 = .ok (.putfield 329, 3) := by decide +kernel
theorem dX11_rule_204 : decode cX11_rule 204 = .ok (.aload_n 0, 1) := by decide +kernel
theorem dX11_rule_205 : decode cX11_rule 205 = .ok (.getfield 14, 3) := by decide +kernel
theorem dX11_rule_208 : decode cX11_rule 208 = .ok (.iconst 4, 1) := by decide +kernel
theorem dX11_rule_209 : decode cX11_rule 209 = .ok (.dup2, 1) := by decide +kernel
theorem dX11_rule_210 : decode cX11_rule 210 = .ok (.iaload, 1) := by decide +kernel
theorem dX11_rule_211 : decode cX11_rule 211 = .ok (.iconst 1, 1) := by decide +kernel
theorem dX11_rule_212 : decode cX11_rule 212 = .ok (.iadd, 1) := by decide +kernel
theorem dX11_rule_213 : decode cX11_rule 213 = .ok (.iastore, 1) := by decide +kernel
theorem dX11_rule_214 : decode cX11_rule 214 = .ok (.aload_n 0, 1) := by decide +kernel
theorem dX11_rule_215 : decode cX11_rule 215 = .ok (.getfield 14, 3) := by decide +kernel
theorem dX11_rule_218 : decode cX11_rule 218 = .ok (.iconst 4, 1) := by decide +kernel
theorem dX11_rule_219 : decode cX11_rule 219 = .ok (.iaload, 1) := by decide +kernel
theorem dX11_rule_220 : decode cX11_rule 220 = .ok (.iconst 1, 1) := by decide +kernel
theorem dX11_rule_221 : decode cX11_rule 221 = .ok (.isub, 1) := by decide +kernel
theorem dX11_rule_222 : decode cX11_rule 222 = .ok (.ireturn, 1) := by decide +kernel
theorem dX11_defaultOf_0 : decode cX11_defaultOf 0 = .ok (.iload_n 0, 1) := by decide +kernel
theorem dX11_defaultOf_1 : decode cX11_defaultOf 1 = .ok (.iconst 1, 1) := by decide +kernel
theorem dX11_defaultOf_2 : decode cX11_defaultOf 2 = .ok (.if_icmp .ne 8, 3) := by decide +kernel
theorem dX11_defaultOf_5 : decode cX11_defaultOf 5 = .ok (.bipush 120, 2) := by decide +kernel
theorem dX11_defaultOf_7 : decode cX11_defaultOf 7 = .ok (.goto 13, 3) := by decide +kernel
theorem dX11_defaultOf_10 : decode cX11_defaultOf 10 = .ok (.iload_n 0, 1) := by decide +kernel
theorem dX11_defaultOf_11 : decode cX11_defaultOf 11 = .ok (.iconst 5, 1) := by decide +kernel
theorem dX11_defaultOf_12 : decode cX11_defaultOf 12 = .ok (.if_icmp .ne 7, 3) := by decide +kernel
theorem dX11_defaultOf_15 : decode cX11_defaultOf 15 = .ok (.iconst 1, 1) := by decide +kernel
theorem dX11_defaultOf_16 : decode cX11_defaultOf 16 = .ok (.goto 4, 3) := by decide +kernel
theorem dX11_defaultOf_19 : decode cX11_defaultOf 19 = .ok (.iconst 0, 1) := by decide +kernel
theorem dX11_defaultOf_20 : decode cX11_defaultOf 20 = .ok (.ireturn, 1) := by decide +kernel
theorem dX11_isWho_0 : decode cX11_isWho 0 = .ok (.iload_n 1, 1) := by decide +kernel
theorem dX11_isWho_1 : decode cX11_isWho 1 = .ok (.iconst 0, 1) := by decide +kernel
theorem dX11_isWho_2 : decode cX11_isWho 2 = .ok (.iconst 5, 1) := by decide +kernel
theorem dX11_isWho_3 : decode cX11_isWho 3 = .ok (.invokestatic 104, 3) := by decide +kernel
theorem dX11_isWho_6 : decode cX11_isWho 6 = .ok (.ifCond .eq 26, 3) := by decide +kernel
theorem dX11_isWho_9 : decode cX11_isWho 9 = .ok (.aload_n 0, 1) := by decide +kernel
theorem dX11_isWho_10 : decode cX11_isWho 10 = .ok (.iload_n 2, 1) := by decide +kernel
theorem dX11_isWho_11 : decode cX11_isWho 11 = .ok (.invokevirtual 117, 3) := by decide +kernel
theorem dX11_isWho_14 : decode cX11_isWho 14 = .ok (.ifCond .ne 14, 3) := by decide +kernel
theorem dX11_isWho_17 : decode cX11_isWho 17 = .ok (.aload_n 0, 1) := by decide +kernel
theorem dX11_isWho_18 : decode cX11_isWho 18 = .ok (.iload_n 2, 1) := by decide +kernel
theorem dX11_isWho_19 : decode cX11_isWho 19 = .ok (.bipush 100, 2) := by decide +kernel
theorem dX11_isWho_21 : decode cX11_isWho 21 = .ok (.isub, 1) := by decide +kernel
theorem dX11_isWho_22 : decode cX11_isWho 22 = .ok (.invokevirtual 156, 3) := by decide +kernel
theorem dX11_isWho_25 : decode cX11_isWho 25 = .ok (.ifCond .eq 7, 3) := by decide +kernel
theorem dX11_isWho_28 : decode cX11_isWho 28 = .ok (.iconst 1, 1) := by decide +kernel
theorem dX11_isWho_29 : decode cX11_isWho 29 = .ok (.goto 4, 3) := by decide +kernel
theorem dX11_isWho_32 : decode cX11_isWho 32 = .ok (.iconst 0, 1) := by decide +kernel
theorem dX11_isWho_33 : decode cX11_isWho 33 = .ok (.ireturn, 1) := by decide +kernel
theorem dX11_says_0 : decode cX11_says 0 = .ok (.aload_n 0, 1) := by decide +kernel
theorem dX11_says_1 : decode cX11_says 1 = .ok (.iload_n 1, 1) := by decide +kernel
theorem dX11_says_2 : decode cX11_says 2 = .ok (.iload_n 2, 1) := by decide +kernel
theorem dX11_says_3 : decode cX11_says 3 = .ok (.invokevirtual 332, 3) := by decide +kernel
theorem dX11_says_6 : decode cX11_says 6 = .ok (.ifCond .eq 16, 3) := by decide +kernel
theorem dX11_says_9 : decode cX11_says 9 = .ok (.aload_n 0, 1) := by decide +kernel
theorem dX11_says_10 : decode cX11_says 10 = .ok (.iload_n 1, 1) := by decide +kernel
theorem dX11_says_11 : decode cX11_says 11 = .ok (.iload_n 2, 1) := by decide +kernel
theorem dX11_says_12 : decode cX11_says 12 = .ok (.iload_n 1, 1) := by decide +kernel
theorem dX11_says_13 : decode cX11_says 13 = .ok (.invokestatic 336, 3) := by decide +kernel
theorem dX11_says_16 : decode cX11_says 16 = .ok (.invokevirtual 159, 3) := by decide +kernel
theorem dX11_says_19 : decode cX11_says 19 = .ok (.goto 9, 3) := by decide +kernel
theorem dX11_says_22 : decode cX11_says 22 = .ok (.aload_n 0, 1) := by decide +kernel
theorem dX11_says_23 : decode cX11_says 23 = .ok (.bipush (-3), 2) := by decide +kernel
theorem dX11_says_25 : decode cX11_says 25 = .ok (.invokevirtual 130, 3) := by decide +kernel
theorem dX11_says_28 : decode cX11_says 28 = .ok (.ireturn, 1) := by decide +kernel
theorem dX11_why_0 : decode cX11_why 0 = .ok (.aload_n 0, 1) := by decide +kernel
theorem dX11_why_1 : decode cX11_why 1 = .ok (.iload_n 1, 1) := by decide +kernel
theorem dX11_why_2 : decode cX11_why 2 = .ok (.iload_n 2, 1) := by decide +kernel
theorem dX11_why_3 : decode cX11_why 3 = .ok (.invokevirtual 332, 3) := by decide +kernel
theorem dX11_why_6 : decode cX11_why 6 = .ok (.ifCond .eq 12, 3) := by decide +kernel
theorem dX11_why_9 : decode cX11_why 9 = .ok (.aload_n 0, 1) := by decide +kernel
theorem dX11_why_10 : decode cX11_why 10 = .ok (.iload_n 1, 1) := by decide +kernel
theorem dX11_why_11 : decode cX11_why 11 = .ok (.iload_n 2, 1) := by decide +kernel
theorem dX11_why_12 : decode cX11_why 12 = .ok (.invokevirtual 326, 3) := by decide +kernel
theorem dX11_why_15 : decode cX11_why 15 = .ok (.goto 9, 3) := by decide +kernel
theorem dX11_why_18 : decode cX11_why 18 = .ok (.aload_n 0, 1) := by decide +kernel
theorem dX11_why_19 : decode cX11_why 19 = .ok (.bipush (-3), 2) := by decide +kernel
theorem dX11_why_21 : decode cX11_why 21 = .ok (.invokevirtual 108, 3) := by decide +kernel
theorem dX11_why_24 : decode cX11_why 24 = .ok (.ireturn, 1) := by decide +kernel
theorem dX11_waits_0 : decode cX11_waits 0 = .ok (.aload_n 0, 1) := by decide +kernel
theorem dX11_waits_1 : decode cX11_waits 1 = .ok (.getfield 31, 3) := by decide +kernel
theorem dX11_waits_4 : decode cX11_waits 4 = .ok (.aload_n 0, 1) := by decide +kernel
theorem dX11_waits_5 : decode cX11_waits 5 = .ok (.getfield 339, 3) := by decide +kernel
theorem dX11_waits_8 : decode cX11_waits 8 = .ok (.iload_n 1, 1) := by decide +kernel
theorem dX11_waits_9 : decode cX11_waits 9 = .ok (.iastore, 1) := by decide +kernel
theorem dX11_waits_10 : decode cX11_waits 10 = .ok (.aload_n 0, 1) := by decide +kernel
theorem dX11_waits_11 : decode cX11_waits 11 = .ok (.getfield 34, 3) := by decide +kernel
theorem dX11_waits_14 : decode cX11_waits 14 = .ok (.aload_n 0, 1) := by decide +kernel
theorem dX11_waits_15 : decode cX11_waits 15 = .ok (.getfield 339, 3) := by decide +kernel
theorem dX11_waits_18 : decode cX11_waits 18 = .ok (.iload_n 2, 1) := by decide +kernel
theorem dX11_waits_19 : decode cX11_waits 19 = .ok (.iastore, 1) := by decide +kernel
theorem dX11_waits_20 : decode cX11_waits 20 = .ok (.aload_n 0, 1) := by decide +kernel
theorem dX11_waits_21 : decode cX11_waits 21 = .ok (.getfield 37, 3) := by decide +kernel
theorem dX11_waits_24 : decode cX11_waits 24 = .ok (.aload_n 0, 1) := by decide +kernel
theorem dX11_waits_25 : decode cX11_waits 25 = .ok (.getfield 339, 3) := by decide +kernel
theorem dX11_waits_28 : decode cX11_waits 28 = .ok (.iload_n 3, 1) := by decide +kernel
theorem dX11_waits_29 : decode cX11_waits 29 = .ok (.iastore, 1) := by decide +kernel
theorem dX11_waits_30 : decode cX11_waits 30 = .ok (.aload_n 0, 1) := by decide +kernel
theorem dX11_waits_31 : decode cX11_waits 31 = .ok (.getfield 40, 3) := by decide +kernel
theorem dX11_waits_34 : decode cX11_waits 34 = .ok (.aload_n 0, 1) := by decide +kernel
theorem dX11_waits_35 : decode cX11_waits 35 = .ok (.getfield 339, 3) := by decide +kernel
theorem dX11_waits_38 : decode cX11_waits 38 = .ok (.iload 4, 2) := by decide +kernel
theorem dX11_waits_40 : decode cX11_waits 40 = .ok (.iastore, 1) := by decide +kernel
theorem dX11_waits_41 : decode cX11_waits 41 = .ok (.aload_n 0, 1) := by decide +kernel
theorem dX11_waits_42 : decode cX11_waits 42 = .ok (.getfield 43, 3) := by decide +kernel
theorem dX11_waits_45 : decode cX11_waits 45 = .ok (.aload_n 0, 1) := by decide +kernel
theorem dX11_waits_46 : decode cX11_waits 46 = .ok (.getfield 339, 3) := by decide +kernel
theorem dX11_waits_49 : decode cX11_waits 49 = .ok (.iload 5, 2) := by decide +kernel
theorem dX11_waits_51 : decode cX11_waits 51 = .ok (.iastore, 1) := by decide +kernel
theorem dX11_waits_52 : decode cX11_waits 52 = .ok (.aload_n 0, 1) := by decide +kernel
theorem dX11_waits_53 : decode cX11_waits 53 = .ok (.dup, 1) := by decide +kernel
theorem dX11_waits_54 : decode cX11_waits 54 = .ok (.getfield 339, 3) := by decide +kernel
theorem dX11_waits_57 : decode cX11_waits 57 = .ok (.iconst 1, 1) := by decide +kernel
theorem dX11_waits_58 : decode cX11_waits 58 = .ok (.iadd, 1) := by decide +kernel
theorem dX11_waits_59 : decode cX11_waits 59 = .ok (.putfield 339, 3) := by decide +kernel
theorem dX11_waits_62 : decode cX11_waits 62 = .ok (.return_, 1) := by decide +kernel
theorem dX11_delivers_0 : decode cX11_delivers 0 = .ok (.sipush 4670, 3) := by decide +kernel
theorem dX11_delivers_3 : decode cX11_delivers 3 = .ok (.bipush 6, 2) := by decide +kernel
theorem dX11_delivers_5 : decode cX11_delivers 5 = .ok (.aload_n 0, 1) := by decide +kernel
theorem dX11_delivers_6 : decode cX11_delivers 6 = .ok (.getfield 14, 3) := by decide +kernel
theorem dX11_delivers_9 : decode cX11_delivers 9 = .ok (.bipush 7, 2) := by decide +kernel
theorem dX11_delivers_11 : decode cX11_delivers 11 = .ok (.iaload, 1) := by decide +kernel
theorem dX11_delivers_12 : decode cX11_delivers 12 = .ok (.imul, 1) := by decide +kernel
theorem dX11_delivers_13 : decode cX11_delivers 13 = .ok (.iadd, 1) := by decide +kernel
theorem dX11_delivers_14 : decode cX11_delivers 14 = .ok (.istore 4, 2) := by decide +kernel
theorem dX11_delivers_16 : decode cX11_delivers 16 = .ok (.aload_n 0, 1) := by decide +kernel
theorem dX11_delivers_17 : decode cX11_delivers 17 = .ok (.getfield 14, 3) := by decide +kernel
theorem dX11_delivers_20 : decode cX11_delivers 20 = .ok (.iload 4, 2) := by decide +kernel
theorem dX11_delivers_22 : decode cX11_delivers 22 = .ok (.iload_n 1, 1) := by decide +kernel
theorem dX11_delivers_23 : decode cX11_delivers 23 = .ok (.iastore, 1) := by decide +kernel
theorem dX11_delivers_24 : decode cX11_delivers 24 = .ok (.aload_n 0, 1) := by decide +kernel
theorem dX11_delivers_25 : decode cX11_delivers 25 = .ok (.getfield 14, 3) := by decide +kernel
theorem dX11_delivers_28 : decode cX11_delivers 28 = .ok (.iload 4, 2) := by decide +kernel
theorem dX11_delivers_30 : decode cX11_delivers 30 = .ok (.iconst 1, 1) := by decide +kernel
theorem dX11_delivers_31 : decode cX11_delivers 31 = .ok (.iadd, 1) := by decide +kernel
theorem dX11_delivers_32 : decode cX11_delivers 32 = .ok (.aload_n 0, 1) := by decide +kernel
theorem dX11_delivers_33 : decode cX11_delivers 33 = .ok (.getfield 34, 3) := by decide +kernel
theorem dX11_delivers_36 : decode cX11_delivers 36 = .ok (.iload_n 2, 1) := by decide +kernel
theorem dX11_delivers_37 : decode cX11_delivers 37 = .ok (.iaload, 1) := by decide +kernel
theorem dX11_delivers_38 : decode cX11_delivers 38 = .ok (.iastore, 1) := by decide +kernel
theorem dX11_delivers_39 : decode cX11_delivers 39 = .ok (.aload_n 0, 1) := by decide +kernel
theorem dX11_delivers_40 : decode cX11_delivers 40 = .ok (.getfield 14, 3) := by decide +kernel
theorem dX11_delivers_43 : decode cX11_delivers 43 = .ok (.iload 4, 2) := by decide +kernel
theorem dX11_delivers_45 : decode cX11_delivers 45 = .ok (.iconst 2, 1) := by decide +kernel
theorem dX11_delivers_46 : decode cX11_delivers 46 = .ok (.iadd, 1) := by decide +kernel
theorem dX11_delivers_47 : decode cX11_delivers 47 = .ok (.aload_n 0, 1) := by decide +kernel
theorem dX11_delivers_48 : decode cX11_delivers 48 = .ok (.getfield 31, 3) := by decide +kernel
theorem dX11_delivers_51 : decode cX11_delivers 51 = .ok (.iload_n 2, 1) := by decide +kernel
theorem dX11_delivers_52 : decode cX11_delivers 52 = .ok (.iaload, 1) := by decide +kernel
theorem dX11_delivers_53 : decode cX11_delivers 53 = .ok (.iastore, 1) := by decide +kernel
theorem dX11_delivers_54 : decode cX11_delivers 54 = .ok (.aload_n 0, 1) := by decide +kernel
theorem dX11_delivers_55 : decode cX11_delivers 55 = .ok (.getfield 14, 3) := by decide +kernel
theorem dX11_delivers_58 : decode cX11_delivers 58 = .ok (.iload 4, 2) := by decide +kernel
theorem dX11_delivers_60 : decode cX11_delivers 60 = .ok (.iconst 3, 1) := by decide +kernel
theorem dX11_delivers_61 : decode cX11_delivers 61 = .ok (.iadd, 1) := by decide +kernel
theorem dX11_delivers_62 : decode cX11_delivers 62 = .ok (.iload_n 3, 1) := by decide +kernel
theorem dX11_delivers_63 : decode cX11_delivers 63 = .ok (.iastore, 1) := by decide +kernel
theorem dX11_delivers_64 : decode cX11_delivers 64 = .ok (.aload_n 0, 1) := by decide +kernel
theorem dX11_delivers_65 : decode cX11_delivers 65 = .ok (.getfield 14, 3) := by decide +kernel
theorem dX11_delivers_68 : decode cX11_delivers 68 = .ok (.iload 4, 2) := by decide +kernel
theorem dX11_delivers_70 : decode cX11_delivers 70 = .ok (.iconst 4, 1) := by decide +kernel
theorem dX11_delivers_71 : decode cX11_delivers 71 = .ok (.iadd, 1) := by decide +kernel
theorem dX11_delivers_72 : decode cX11_delivers 72 = .ok (.aload_n 0, 1) := by decide +kernel
theorem dX11_delivers_73 : decode cX11_delivers 73 = .ok (.getfield 40, 3) := by decide +kernel
theorem dX11_delivers_76 : decode cX11_delivers 76 = .ok (.iload_n 2, 1) := by decide +kernel
theorem dX11_delivers_77 : decode cX11_delivers 77 = .ok (.iaload, 1) := by decide +kernel
theorem dX11_delivers_78 : decode cX11_delivers 78 = .ok (.iastore, 1) := by decide +kernel
theorem dX11_delivers_79 : decode cX11_delivers 79 = .ok (.aload_n 0, 1) := by decide +kernel
theorem dX11_delivers_80 : decode cX11_delivers 80 = .ok (.getfield 14, 3) := by decide +kernel
theorem dX11_delivers_83 : decode cX11_delivers 83 = .ok (.iload 4, 2) := by decide +kernel
theorem dX11_delivers_85 : decode cX11_delivers 85 = .ok (.iconst 5, 1) := by decide +kernel
theorem dX11_delivers_86 : decode cX11_delivers 86 = .ok (.iadd, 1) := by decide +kernel
theorem dX11_delivers_87 : decode cX11_delivers 87 = .ok (.aload_n 0, 1) := by decide +kernel
theorem dX11_delivers_88 : decode cX11_delivers 88 = .ok (.getfield 43, 3) := by decide +kernel
theorem dX11_delivers_91 : decode cX11_delivers 91 = .ok (.iload_n 2, 1) := by decide +kernel
theorem dX11_delivers_92 : decode cX11_delivers 92 = .ok (.iaload, 1) := by decide +kernel
theorem dX11_delivers_93 : decode cX11_delivers 93 = .ok (.iastore, 1) := by decide +kernel
theorem dX11_delivers_94 : decode cX11_delivers 94 = .ok (.aload_n 0, 1) := by decide +kernel
theorem dX11_delivers_95 : decode cX11_delivers 95 = .ok (.getfield 14, 3) := by decide +kernel
theorem dX11_delivers_98 : decode cX11_delivers 98 = .ok (.bipush 7, 2) := by decide +kernel
theorem dX11_delivers_100 : decode cX11_delivers 100 = .ok (.dup2, 1) := by decide +kernel
theorem dX11_delivers_101 : decode cX11_delivers 101 = .ok (.iaload, 1) := by decide +kernel
theorem dX11_delivers_102 : decode cX11_delivers 102 = .ok (.iconst 1, 1) := by decide +kernel
theorem dX11_delivers_103 : decode cX11_delivers 103 = .ok (.iadd, 1) := by decide +kernel
theorem dX11_delivers_104 : decode cX11_delivers 104 = .ok (.iastore, 1) := by decide +kernel
theorem dX11_delivers_105 : decode cX11_delivers 105 = .ok (.return_, 1) := by decide +kernel
theorem dX11_passes_0 : decode cX11_passes 0 = .ok (.aload_n 0, 1) := by decide +kernel
theorem dX11_passes_1 : decode cX11_passes 1 = .ok (.getfield 14, 3) := by decide +kernel
theorem dX11_passes_4 : decode cX11_passes 4 = .ok (.bipush 6, 2) := by decide +kernel
theorem dX11_passes_6 : decode cX11_passes 6 = .ok (.iaload, 1) := by decide +kernel
theorem dX11_passes_7 : decode cX11_passes 7 = .ok (.sipush 300, 3) := by decide +kernel
theorem dX11_passes_10 : decode cX11_passes 10 = .ok (.if_icmp .ge 101, 3) := by decide +kernel
theorem dX11_passes_13 : decode cX11_passes 13 = .ok (.sipush 2570, 3) := by decide +kernel
theorem dX11_passes_16 : decode cX11_passes 16 = .ok (.bipush 7, 2) := by decide +kernel
theorem dX11_passes_18 : decode cX11_passes 18 = .ok (.aload_n 0, 1) := by decide +kernel
theorem dX11_passes_19 : decode cX11_passes 19 = .ok (.getfield 14, 3) := by decide +kernel
theorem dX11_passes_22 : decode cX11_passes 22 = .ok (.bipush 6, 2) := by decide +kernel
theorem dX11_passes_24 : decode cX11_passes 24 = .ok (.iaload, 1) := by decide +kernel
theorem dX11_passes_25 : decode cX11_passes 25 = .ok (.imul, 1) := by decide +kernel
theorem dX11_passes_26 : decode cX11_passes 26 = .ok (.iadd, 1) := by decide +kernel
theorem dX11_passes_27 : decode cX11_passes 27 = .ok (.istore 7, 2) := by decide +kernel
theorem dX11_passes_29 : decode cX11_passes 29 = .ok (.aload_n 0, 1) := by decide +kernel
theorem dX11_passes_30 : decode cX11_passes 30 = .ok (.getfield 14, 3) := by decide +kernel
theorem dX11_passes_33 : decode cX11_passes 33 = .ok (.iload 7, 2) := by decide +kernel
theorem dX11_passes_35 : decode cX11_passes 35 = .ok (.iload_n 1, 1) := by decide +kernel
theorem dX11_passes_36 : decode cX11_passes 36 = .ok (.iastore, 1) := by decide +kernel
theorem dX11_passes_37 : decode cX11_passes 37 = .ok (.aload_n 0, 1) := by decide +kernel
theorem dX11_passes_38 : decode cX11_passes 38 = .ok (.getfield 14, 3) := by decide +kernel
theorem dX11_passes_41 : decode cX11_passes 41 = .ok (.iload 7, 2) := by decide +kernel
theorem dX11_passes_43 : decode cX11_passes 43 = .ok (.iconst 1, 1) := by decide +kernel
theorem dX11_passes_44 : decode cX11_passes 44 = .ok (.iadd, 1) := by decide +kernel
theorem dX11_passes_45 : decode cX11_passes 45 = .ok (.aload_n 0, 1) := by decide +kernel
theorem dX11_passes_46 : decode cX11_passes 46 = .ok (.getfield 34, 3) := by decide +kernel
theorem dX11_passes_49 : decode cX11_passes 49 = .ok (.iload_n 2, 1) := by decide +kernel
theorem dX11_passes_50 : decode cX11_passes 50 = .ok (.iaload, 1) := by decide +kernel
theorem dX11_passes_51 : decode cX11_passes 51 = .ok (.iastore, 1) := by decide +kernel
theorem dX11_passes_52 : decode cX11_passes 52 = .ok (.aload_n 0, 1) := by decide +kernel
theorem dX11_passes_53 : decode cX11_passes 53 = .ok (.getfield 14, 3) := by decide +kernel
theorem dX11_passes_56 : decode cX11_passes 56 = .ok (.iload 7, 2) := by decide +kernel
theorem dX11_passes_58 : decode cX11_passes 58 = .ok (.iconst 2, 1) := by decide +kernel
theorem dX11_passes_59 : decode cX11_passes 59 = .ok (.iadd, 1) := by decide +kernel
theorem dX11_passes_60 : decode cX11_passes 60 = .ok (.iload_n 3, 1) := by decide +kernel
theorem dX11_passes_61 : decode cX11_passes 61 = .ok (.iastore, 1) := by decide +kernel
theorem dX11_passes_62 : decode cX11_passes 62 = .ok (.aload_n 0, 1) := by decide +kernel
theorem dX11_passes_63 : decode cX11_passes 63 = .ok (.getfield 14, 3) := by decide +kernel
theorem dX11_passes_66 : decode cX11_passes 66 = .ok (.iload 7, 2) := by decide +kernel
theorem dX11_passes_68 : decode cX11_passes 68 = .ok (.iconst 3, 1) := by decide +kernel
theorem dX11_passes_69 : decode cX11_passes 69 = .ok (.iadd, 1) := by decide +kernel
theorem dX11_passes_70 : decode cX11_passes 70 = .ok (.aload_n 0, 1) := by decide +kernel
theorem dX11_passes_71 : decode cX11_passes 71 = .ok (.getfield 31, 3) := by decide +kernel
theorem dX11_passes_74 : decode cX11_passes 74 = .ok (.iload_n 2, 1) := by decide +kernel
theorem dX11_passes_75 : decode cX11_passes 75 = .ok (.iaload, 1) := by decide +kernel
theorem dX11_passes_76 : decode cX11_passes 76 = .ok (.iastore, 1) := by decide +kernel
theorem dX11_passes_77 : decode cX11_passes 77 = .ok (.aload_n 0, 1) := by decide +kernel
theorem dX11_passes_78 : decode cX11_passes 78 = .ok (.getfield 14, 3) := by decide +kernel
theorem dX11_passes_81 : decode cX11_passes 81 = .ok (.iload 7, 2) := by decide +kernel
theorem dX11_passes_83 : decode cX11_passes 83 = .ok (.iconst 4, 1) := by decide +kernel
theorem dX11_passes_84 : decode cX11_passes 84 = .ok (.iadd, 1) := by decide +kernel
theorem dX11_passes_85 : decode cX11_passes 85 = .ok (.iload 4, 2) := by decide +kernel
theorem dX11_passes_87 : decode cX11_passes 87 = .ok (.iastore, 1) := by decide +kernel
theorem dX11_passes_88 : decode cX11_passes 88 = .ok (.aload_n 0, 1) := by decide +kernel
theorem dX11_passes_89 : decode cX11_passes 89 = .ok (.getfield 14, 3) := by decide +kernel
theorem dX11_passes_92 : decode cX11_passes 92 = .ok (.iload 7, 2) := by decide +kernel
theorem dX11_passes_94 : decode cX11_passes 94 = .ok (.iconst 5, 1) := by decide +kernel
theorem dX11_passes_95 : decode cX11_passes 95 = .ok (.iadd, 1) := by decide +kernel
theorem dX11_passes_96 : decode cX11_passes 96 = .ok (.iload 5, 2) := by decide +kernel
theorem dX11_passes_98 : decode cX11_passes 98 = .ok (.iastore, 1) := by decide +kernel
theorem dX11_passes_99 : decode cX11_passes 99 = .ok (.aload_n 0, 1) := by decide +kernel
theorem dX11_passes_100 : decode cX11_passes 100 = .ok (.getfield 14, 3) := by decide +kernel
theorem dX11_passes_103 : decode cX11_passes 103 = .ok (.iload 7, 2) := by decide +kernel
theorem dX11_passes_105 : decode cX11_passes 105 = .ok (.bipush 6, 2) := by decide +kernel
theorem dX11_passes_107 : decode cX11_passes 107 = .ok (.iadd, 1) := by decide +kernel
theorem dX11_passes_108 : decode cX11_passes 108 = .ok (.iload 6, 2) := by decide +kernel
theorem dX11_passes_110 : decode cX11_passes 110 = .ok (.iastore, 1) := by decide +kernel
theorem dX11_passes_111 : decode cX11_passes 111 = .ok (.aload_n 0, 1) := by decide +kernel
theorem dX11_passes_112 : decode cX11_passes 112 = .ok (.getfield 14, 3) := by decide +kernel
theorem dX11_passes_115 : decode cX11_passes 115 = .ok (.bipush 6, 2) := by decide +kernel
theorem dX11_passes_117 : decode cX11_passes 117 = .ok (.dup2, 1) := by decide +kernel
theorem dX11_passes_118 : decode cX11_passes 118 = .ok (.iaload, 1) := by decide +kernel
theorem dX11_passes_119 : decode cX11_passes 119 = .ok (.iconst 1, 1) := by decide +kernel
theorem dX11_passes_120 : decode cX11_passes 120 = .ok (.iadd, 1) := by decide +kernel
theorem dX11_passes_121 : decode cX11_passes 121 = .ok (.iastore, 1) := by decide +kernel
theorem dX11_passes_122 : decode cX11_passes 122 = .ok (.aload_n 0, 1) := by decide +kernel
theorem dX11_passes_123 : decode cX11_passes 123 = .ok (.aload_n 0, 1) := by decide +kernel
theorem dX11_passes_124 : decode cX11_passes 124 = .ok (.getfield 31, 3) := by decide +kernel
theorem dX11_passes_127 : decode cX11_passes 127 = .ok (.iload_n 2, 1) := by decide +kernel
theorem dX11_passes_128 : decode cX11_passes 128 = .ok (.iaload, 1) := by decide +kernel
theorem dX11_passes_129 : decode cX11_passes 129 = .ok (.iload_n 3, 1) := by decide +kernel
theorem dX11_passes_130 : decode cX11_passes 130 = .ok (.iload 4, 2) := by decide +kernel
theorem dX11_passes_132 : decode cX11_passes 132 = .ok (.iload 5, 2) := by decide +kernel
theorem dX11_passes_134 : decode cX11_passes 134 = .ok (.iload 6, 2) := by decide +kernel
theorem dX11_passes_136 : decode cX11_passes 136 = .ok (.invokevirtual 342, 3) := by decide +kernel
theorem dX11_passes_139 : decode cX11_passes 139 = .ok (.return_, 1) := by decide +kernel
theorem dX11_names_0 : decode cX11_names 0 = .ok (.aload_n 0, 1) := by decide +kernel
theorem dX11_names_1 : decode cX11_names 1 = .ok (.iconst 1, 1) := by decide +kernel
theorem dX11_names_2 : decode cX11_names 2 = .ok (.iload_n 1, 1) := by decide +kernel
theorem dX11_names_3 : decode cX11_names 3 = .ok (.bipush 120, 2) := by decide +kernel
theorem dX11_names_5 : decode cX11_names 5 = .ok (.invokevirtual 159, 3) := by decide +kernel
theorem dX11_names_8 : decode cX11_names 8 = .ok (.istore_n 3, 1) := by decide +kernel
theorem dX11_names_9 : decode cX11_names 9 = .ok (.aload_n 0, 1) := by decide +kernel
theorem dX11_names_10 : decode cX11_names 10 = .ok (.iconst 0, 1) := by decide +kernel
theorem dX11_names_11 : decode cX11_names 11 = .ok (.putfield 339, 3) := by decide +kernel
theorem dX11_names_14 : decode cX11_names 14 = .ok (.iconst 0, 1) := by decide +kernel
theorem dX11_names_15 : decode cX11_names 15 = .ok (.istore 4, 2) := by decide +kernel
theorem dX11_names_17 : decode cX11_names 17 = .ok (.iload 4, 2) := by decide +kernel
theorem dX11_names_19 : decode cX11_names 19 = .ok (.bipush 60, 2) := by decide +kernel
theorem dX11_names_21 : decode cX11_names 21 = .ok (.if_icmp .ge 59, 3) := by decide +kernel
theorem dX11_names_24 : decode cX11_names 24 = .ok (.aload_n 0, 1) := by decide +kernel
theorem dX11_names_25 : decode cX11_names 25 = .ok (.getfield 49, 3) := by decide +kernel
theorem dX11_names_28 : decode cX11_names 28 = .ok (.iload 4, 2) := by decide +kernel
theorem dX11_names_30 : decode cX11_names 30 = .ok (.aload_n 0, 1) := by decide +kernel
theorem dX11_names_31 : decode cX11_names 31 = .ok (.iload 4, 2) := by decide +kernel
theorem dX11_names_33 : decode cX11_names 33 = .ok (.invokevirtual 133, 3) := by decide +kernel
theorem dX11_names_36 : decode cX11_names 36 = .ok (.ifCond .eq 36, 3) := by decide +kernel
theorem dX11_names_39 : decode cX11_names 39 = .ok (.aload_n 0, 1) := by decide +kernel
theorem dX11_names_40 : decode cX11_names 40 = .ok (.iload 4, 2) := by decide +kernel
theorem dX11_names_42 : decode cX11_names 42 = .ok (.iconst 3, 1) := by decide +kernel
theorem dX11_names_43 : decode cX11_names 43 = .ok (.invokevirtual 123, 3) := by decide +kernel
theorem dX11_names_46 : decode cX11_names 46 = .ok (.iload_n 1, 1) := by decide +kernel
theorem dX11_names_47 : decode cX11_names 47 = .ok (.if_icmp .ne 25, 3) := by decide +kernel
theorem dX11_names_50 : decode cX11_names 50 = .ok (.aload_n 0, 1) := by decide +kernel
theorem dX11_names_51 : decode cX11_names 51 = .ok (.iload 4, 2) := by decide +kernel
theorem dX11_names_53 : decode cX11_names 53 = .ok (.bipush 7, 2) := by decide +kernel
theorem dX11_names_55 : decode cX11_names 55 = .ok (.invokevirtual 123, 3) := by decide +kernel
theorem dX11_names_58 : decode cX11_names 58 = .ok (.iload_n 2, 1) := by decide +kernel
theorem dX11_names_59 : decode cX11_names 59 = .ok (.if_icmp .ne 13, 3) := by decide +kernel
theorem dX11_names_62 : decode cX11_names 62 = .ok (.aload_n 0, 1) := by decide +kernel
theorem dX11_names_63 : decode cX11_names 63 = .ok (.iload 4, 2) := by decide +kernel
theorem dX11_names_65 : decode cX11_names 65 = .ok (.iconst 4, 1) := by decide +kernel
theorem dX11_names_66 : decode cX11_names 66 = .ok (.invokevirtual 123, 3) := by decide +kernel
theorem dX11_names_69 : decode cX11_names 69 = .ok (.goto 4, 3) := by decide +kernel
theorem dX11_names_72 : decode cX11_names 72 = .ok (.iconst 0, 1) := by decide +kernel
theorem dX11_names_73 : decode cX11_names 73 = .ok (.iastore, 1) := by decide +kernel
theorem dX11_names_74 : decode cX11_names 74 = .ok (.iinc 4 1, 3) := by decide +kernel
theorem dX11_names_77 : decode cX11_names 77 = .ok (.goto (-60), 3) := by decide +kernel
theorem dX11_names_80 : decode cX11_names 80 = .ok (.iconst 0, 1) := by decide +kernel
theorem dX11_names_81 : decode cX11_names 81 = .ok (.istore 4, 2) := by decide +kernel
theorem dX11_names_83 : decode cX11_names 83 = .ok (.iload 4, 2) := by decide +kernel
theorem dX11_names_85 : decode cX11_names 85 = .ok (.aload_n 0, 1) := by decide +kernel
theorem dX11_names_86 : decode cX11_names 86 = .ok (.getfield 14, 3) := by decide +kernel
theorem dX11_names_89 : decode cX11_names 89 = .ok (.iconst 1, 1) := by decide +kernel
theorem dX11_names_90 : decode cX11_names 90 = .ok (.iaload, 1) := by decide +kernel
theorem dX11_names_91 : decode cX11_names 91 = .ok (.if_icmp .ge 55, 3) := by decide +kernel
theorem dX11_names_94 : decode cX11_names 94 = .ok (.aload_n 0, 1) := by decide +kernel
theorem dX11_names_95 : decode cX11_names 95 = .ok (.iload 4, 2) := by decide +kernel
theorem dX11_names_97 : decode cX11_names 97 = .ok (.iload_n 1, 1) := by decide +kernel
theorem dX11_names_98 : decode cX11_names 98 = .ok (.iload_n 2, 1) := by decide +kernel
theorem dX11_names_99 : decode cX11_names 99 = .ok (.invokevirtual 136, 3) := by decide +kernel
theorem dX11_names_102 : decode cX11_names 102 = .ok (.istore 5, 2) := by decide +kernel
theorem dX11_names_104 : decode cX11_names 104 = .ok (.aload_n 0, 1) := by decide +kernel
theorem dX11_names_105 : decode cX11_names 105 = .ok (.getfield 46, 3) := by decide +kernel
theorem dX11_names_108 : decode cX11_names 108 = .ok (.iload 4, 2) := by decide +kernel
theorem dX11_names_110 : decode cX11_names 110 = .ok (.iload 5, 2) := by decide +kernel
theorem dX11_names_112 : decode cX11_names 112 = .ok (.ifCond .ge 9, 3) := by decide +kernel
theorem dX11_names_115 : decode cX11_names 115 = .ok (.iload 5, 2) := by decide +kernel
theorem dX11_names_117 : decode cX11_names 117 = .ok (.ineg, 1) := by decide +kernel
theorem dX11_names_118 : decode cX11_names 118 = .ok (.goto 4, 3) := by decide +kernel
theorem dX11_names_121 : decode cX11_names 121 = .ok (.iconst 0, 1) := by decide +kernel
theorem dX11_names_122 : decode cX11_names 122 = .ok (.iastore, 1) := by decide +kernel
theorem dX11_names_123 : decode cX11_names 123 = .ok (.iload 5, 2) := by decide +kernel
theorem dX11_names_125 : decode cX11_names 125 = .ok (.ifCond .le 15, 3) := by decide +kernel
theorem dX11_names_128 : decode cX11_names 128 = .ok (.aload_n 0, 1) := by decide +kernel
theorem dX11_names_129 : decode cX11_names 129 = .ok (.iload 4, 2) := by decide +kernel
theorem dX11_names_131 : decode cX11_names 131 = .ok (.iload 4, 2) := by decide +kernel
theorem dX11_names_133 : decode cX11_names 133 = .ok (.iload 5, 2) := by decide +kernel
theorem dX11_names_135 : decode cX11_names 135 = .ok (.iconst 0, 1) := by decide +kernel
theorem dX11_names_136 : decode cX11_names 136 = .ok (.iconst (-1), 1) := by decide +kernel
theorem dX11_names_137 : decode cX11_names 137 = .ok (.invokevirtual 342, 3) := by decide +kernel
theorem dX11_names_140 : decode cX11_names 140 = .ok (.iinc 4 1, 3) := by decide +kernel
theorem dX11_names_143 : decode cX11_names 143 = .ok (.goto (-60), 3) := by decide +kernel
theorem dX11_names_146 : decode cX11_names 146 = .ok (.iconst 0, 1) := by decide +kernel
theorem dX11_names_147 : decode cX11_names 147 = .ok (.istore 4, 2) := by decide +kernel
theorem dX11_names_149 : decode cX11_names 149 = .ok (.iload 4, 2) := by decide +kernel
theorem dX11_names_151 : decode cX11_names 151 = .ok (.aload_n 0, 1) := by decide +kernel
theorem dX11_names_152 : decode cX11_names 152 = .ok (.getfield 339, 3) := by decide +kernel
theorem dX11_names_155 : decode cX11_names 155 = .ok (.if_icmp .ge 280, 3) := by decide +kernel
theorem dX11_names_158 : decode cX11_names 158 = .ok (.aload_n 0, 1) := by decide +kernel
theorem dX11_names_159 : decode cX11_names 159 = .ok (.getfield 34, 3) := by decide +kernel
theorem dX11_names_162 : decode cX11_names 162 = .ok (.iload 4, 2) := by decide +kernel
theorem dX11_names_164 : decode cX11_names 164 = .ok (.iaload, 1) := by decide +kernel
theorem dX11_names_165 : decode cX11_names 165 = .ok (.istore 5, 2) := by decide +kernel
theorem dX11_names_167 : decode cX11_names 167 = .ok (.aload_n 0, 1) := by decide +kernel
theorem dX11_names_168 : decode cX11_names 168 = .ok (.getfield 37, 3) := by decide +kernel
theorem dX11_names_171 : decode cX11_names 171 = .ok (.iload 4, 2) := by decide +kernel
theorem dX11_names_173 : decode cX11_names 173 = .ok (.iaload, 1) := by decide +kernel
theorem dX11_names_174 : decode cX11_names 174 = .ok (.istore 6, 2) := by decide +kernel
theorem dX11_names_176 : decode cX11_names 176 = .ok (.iload 5, 2) := by decide +kernel
theorem dX11_names_178 : decode cX11_names 178 = .ok (.aload_n 0, 1) := by decide +kernel
theorem dX11_names_179 : decode cX11_names 179 = .ok (.getfield 31, 3) := by decide +kernel
theorem dX11_names_182 : decode cX11_names 182 = .ok (.iload 4, 2) := by decide +kernel
theorem dX11_names_184 : decode cX11_names 184 = .ok (.iaload, 1) := by decide +kernel
theorem dX11_names_185 : decode cX11_names 185 = .ok (.if_icmp .eq 67, 3) := by decide +kernel
theorem dX11_names_188 : decode cX11_names 188 = .ok (.aload_n 0, 1) := by decide +kernel
theorem dX11_names_189 : decode cX11_names 189 = .ok (.getfield 46, 3) := by decide +kernel
theorem dX11_names_192 : decode cX11_names 192 = .ok (.iload 5, 2) := by decide +kernel
theorem dX11_names_194 : decode cX11_names 194 = .ok (.iaload, 1) := by decide +kernel
theorem dX11_names_195 : decode cX11_names 195 = .ok (.ifCond .le 57, 3) := by decide +kernel
theorem dX11_names_198 : decode cX11_names 198 = .ok (.iload 6, 2) := by decide +kernel
theorem dX11_names_200 : decode cX11_names 200 = .ok (.aload_n 0, 1) := by decide +kernel
theorem dX11_names_201 : decode cX11_names 201 = .ok (.getfield 46, 3) := by decide +kernel
theorem dX11_names_204 : decode cX11_names 204 = .ok (.iload 5, 2) := by decide +kernel
theorem dX11_names_206 : decode cX11_names 206 = .ok (.iaload, 1) := by decide +kernel
theorem dX11_names_207 : decode cX11_names 207 = .ok (.if_icmp .ge 8, 3) := by decide +kernel
theorem dX11_names_210 : decode cX11_names 210 = .ok (.iload 6, 2) := by decide +kernel
theorem dX11_names_212 : decode cX11_names 212 = .ok (.goto 10, 3) := by decide +kernel
theorem dX11_names_215 : decode cX11_names 215 = .ok (.aload_n 0, 1) := by decide +kernel
theorem dX11_names_216 : decode cX11_names 216 = .ok (.getfield 46, 3) := by decide +kernel
theorem dX11_names_219 : decode cX11_names 219 = .ok (.iload 5, 2) := by decide +kernel
theorem dX11_names_221 : decode cX11_names 221 = .ok (.iaload, 1) := by decide +kernel
theorem dX11_names_222 : decode cX11_names 222 = .ok (.istore 7, 2) := by decide +kernel
theorem dX11_names_224 : decode cX11_names 224 = .ok (.aload_n 0, 1) := by decide +kernel
theorem dX11_names_225 : decode cX11_names 225 = .ok (.iload_n 1, 1) := by decide +kernel
theorem dX11_names_226 : decode cX11_names 226 = .ok (.iload 4, 2) := by decide +kernel
theorem dX11_names_228 : decode cX11_names 228 = .ok (.iload 7, 2) := by decide +kernel
theorem dX11_names_230 : decode cX11_names 230 = .ok (.invokevirtual 346, 3) := by decide +kernel
theorem dX11_names_233 : decode cX11_names 233 = .ok (.aload_n 0, 1) := by decide +kernel
theorem dX11_names_234 : decode cX11_names 234 = .ok (.getfield 46, 3) := by decide +kernel
theorem dX11_names_237 : decode cX11_names 237 = .ok (.iload 5, 2) := by decide +kernel
theorem dX11_names_239 : decode cX11_names 239 = .ok (.dup2, 1) := by decide +kernel
theorem dX11_names_240 : decode cX11_names 240 = .ok (.iaload, 1) := by decide +kernel
theorem dX11_names_241 : decode cX11_names 241 = .ok (.iload 7, 2) := by decide +kernel
theorem dX11_names_243 : decode cX11_names 243 = .ok (.isub, 1) := by decide +kernel
theorem dX11_names_244 : decode cX11_names 244 = .ok (.iastore, 1) := by decide +kernel
theorem dX11_names_245 : decode cX11_names 245 = .ok (.iload 6, 2) := by decide +kernel
theorem dX11_names_247 : decode cX11_names 247 = .ok (.iload 7, 2) := by decide +kernel
theorem dX11_names_249 : decode cX11_names 249 = .ok (.isub, 1) := by decide +kernel
theorem dX11_names_250 : decode cX11_names 250 = .ok (.istore 6, 2) := by decide +kernel
theorem dX11_names_252 : decode cX11_names 252 = .ok (.aload_n 0, 1) := by decide +kernel
theorem dX11_names_253 : decode cX11_names 253 = .ok (.getfield 40, 3) := by decide +kernel
theorem dX11_names_256 : decode cX11_names 256 = .ok (.iload 4, 2) := by decide +kernel
theorem dX11_names_258 : decode cX11_names 258 = .ok (.iaload, 1) := by decide +kernel
theorem dX11_names_259 : decode cX11_names 259 = .ok (.aload_n 0, 1) := by decide +kernel
theorem dX11_names_260 : decode cX11_names 260 = .ok (.getfield 14, 3) := by decide +kernel
theorem dX11_names_263 : decode cX11_names 263 = .ok (.bipush 16, 2) := by decide +kernel
theorem dX11_names_265 : decode cX11_names 265 = .ok (.iconst 4, 1) := by decide +kernel
theorem dX11_names_266 : decode cX11_names 266 = .ok (.iload 5, 2) := by decide +kernel
theorem dX11_names_268 : decode cX11_names 268 = .ok (.imul, 1) := by decide +kernel
theorem dX11_names_269 : decode cX11_names 269 = .ok (.iadd, 1) := by decide +kernel
theorem dX11_names_270 : decode cX11_names 270 = .ok (.iconst 1, 1) := by decide +kernel
theorem dX11_names_271 : decode cX11_names 271 = .ok (.iadd, 1) := by decide +kernel
theorem dX11_names_272 : decode cX11_names 272 = .ok (.iaload, 1) := by decide +kernel
theorem dX11_names_273 : decode cX11_names 273 = .ok (.iadd, 1) := by decide +kernel
theorem dX11_names_274 : decode cX11_names 274 = .ok (.istore 7, 2) := by decide +kernel
theorem dX11_names_276 : decode cX11_names 276 = .ok (.aload_n 0, 1) := by decide +kernel
theorem dX11_names_277 : decode cX11_names 277 = .ok (.getfield 43, 3) := by decide +kernel
theorem dX11_names_280 : decode cX11_names 280 = .ok (.iload 4, 2) := by decide +kernel
theorem dX11_names_282 : decode cX11_names 282 = .ok (.iaload, 1) := by decide +kernel
theorem dX11_names_283 : decode cX11_names 283 = .ok (.iconst (-1), 1) := by decide +kernel
theorem dX11_names_284 : decode cX11_names 284 = .ok (.if_icmp .ne 25, 3) := by decide +kernel
theorem dX11_names_287 : decode cX11_names 287 = .ok (.aload_n 0, 1) := by decide +kernel
theorem dX11_names_288 : decode cX11_names 288 = .ok (.getfield 40, 3) := by decide +kernel
theorem dX11_names_291 : decode cX11_names 291 = .ok (.iload 4, 2) := by decide +kernel
theorem dX11_names_293 : decode cX11_names 293 = .ok (.iaload, 1) := by decide +kernel
theorem dX11_names_294 : decode cX11_names 294 = .ok (.iload_n 3, 1) := by decide +kernel
theorem dX11_names_295 : decode cX11_names 295 = .ok (.if_icmp .gt 14, 3) := by decide +kernel
theorem dX11_names_298 : decode cX11_names 298 = .ok (.iload 7, 2) := by decide +kernel
theorem dX11_names_300 : decode cX11_names 300 = .ok (.iload_n 3, 1) := by decide +kernel
theorem dX11_names_301 : decode cX11_names 301 = .ok (.if_icmp .le 8, 3) := by decide +kernel
theorem dX11_names_304 : decode cX11_names 304 = .ok (.iload 5, 2) := by decide +kernel
theorem dX11_names_306 : decode cX11_names 306 = .ok (.goto 10, 3) := by decide +kernel
theorem dX11_names_309 : decode cX11_names 309 = .ok (.aload_n 0, 1) := by decide +kernel
theorem dX11_names_310 : decode cX11_names 310 = .ok (.getfield 43, 3) := by decide +kernel
theorem dX11_names_313 : decode cX11_names 313 = .ok (.iload 4, 2) := by decide +kernel
theorem dX11_names_315 : decode cX11_names 315 = .ok (.iaload, 1) := by decide +kernel
theorem dX11_names_316 : decode cX11_names 316 = .ok (.istore 8, 2) := by decide +kernel
theorem dX11_names_318 : decode cX11_names 318 = .ok (.iconst 0, 1) := by decide +kernel
theorem dX11_names_319 : decode cX11_names 319 = .ok (.istore 9, 2) := by decide +kernel
theorem dX11_names_321 : decode cX11_names 321 = .ok (.iload 9, 2) := by decide +kernel
theorem dX11_names_323 : decode cX11_names 323 = .ok (.bipush 60, 2) := by decide +kernel
theorem dX11_names_325 : decode cX11_names 325 = .ok (.if_icmp .ge 104, 3) := by decide +kernel
theorem dX11_names_328 : decode cX11_names 328 = .ok (.iload 6, 2) := by decide +kernel
theorem dX11_names_330 : decode cX11_names 330 = .ok (.ifCond .le 99, 3) := by decide +kernel
theorem dX11_names_333 : decode cX11_names 333 = .ok (.aload_n 0, 1) := by decide +kernel
theorem dX11_names_334 : decode cX11_names 334 = .ok (.getfield 49, 3) := by decide +kernel
theorem dX11_names_337 : decode cX11_names 337 = .ok (.iload 9, 2) := by decide +kernel
theorem dX11_names_339 : decode cX11_names 339 = .ok (.iaload, 1) := by decide +kernel
theorem dX11_names_340 : decode cX11_names 340 = .ok (.ifCond .eq 83, 3) := by decide +kernel
theorem dX11_names_343 : decode cX11_names 343 = .ok (.aload_n 0, 1) := by decide +kernel
theorem dX11_names_344 : decode cX11_names 344 = .ok (.iload 9, 2) := by decide +kernel
theorem dX11_names_346 : decode cX11_names 346 = .ok (.iconst 2, 1) := by decide +kernel
theorem dX11_names_347 : decode cX11_names 347 = .ok (.invokevirtual 123, 3) := by decide +kernel
theorem dX11_names_350 : decode cX11_names 350 = .ok (.iload 5, 2) := by decide +kernel
theorem dX11_names_352 : decode cX11_names 352 = .ok (.if_icmp .eq 6, 3) := by decide +kernel
theorem dX11_names_355 : decode cX11_names 355 = .ok (.goto 68, 3) := by decide +kernel
theorem dX11_names_358 : decode cX11_names 358 = .ok (.iload 6, 2) := by decide +kernel
theorem dX11_names_360 : decode cX11_names 360 = .ok (.aload_n 0, 1) := by decide +kernel
theorem dX11_names_361 : decode cX11_names 361 = .ok (.getfield 49, 3) := by decide +kernel
theorem dX11_names_364 : decode cX11_names 364 = .ok (.iload 9, 2) := by decide +kernel
theorem dX11_names_366 : decode cX11_names 366 = .ok (.iaload, 1) := by decide +kernel
theorem dX11_names_367 : decode cX11_names 367 = .ok (.if_icmp .ge 8, 3) := by decide +kernel
theorem dX11_names_370 : decode cX11_names 370 = .ok (.iload 6, 2) := by decide +kernel
theorem dX11_names_372 : decode cX11_names 372 = .ok (.goto 10, 3) := by decide +kernel
theorem dX11_names_375 : decode cX11_names 375 = .ok (.aload_n 0, 1) := by decide +kernel
theorem dX11_names_376 : decode cX11_names 376 = .ok (.getfield 49, 3) := by decide +kernel
theorem dX11_names_379 : decode cX11_names 379 = .ok (.iload 9, 2) := by decide +kernel
theorem dX11_names_381 : decode cX11_names 381 = .ok (.iaload, 1) := by decide +kernel
theorem dX11_names_382 : decode cX11_names 382 = .ok (.istore 10, 2) := by decide +kernel
theorem dX11_names_384 : decode cX11_names 384 = .ok (.aload_n 0, 1) := by decide +kernel
theorem dX11_names_385 : decode cX11_names 385 = .ok (.getfield 49, 3) := by decide +kernel
theorem dX11_names_388 : decode cX11_names 388 = .ok (.iload 9, 2) := by decide +kernel
theorem dX11_names_390 : decode cX11_names 390 = .ok (.dup2, 1) := by decide +kernel
theorem dX11_names_391 : decode cX11_names 391 = .ok (.iaload, 1) := by decide +kernel
theorem dX11_names_392 : decode cX11_names 392 = .ok (.iload 10, 2) := by decide +kernel
theorem dX11_names_394 : decode cX11_names 394 = .ok (.isub, 1) := by decide +kernel
theorem dX11_names_395 : decode cX11_names 395 = .ok (.iastore, 1) := by decide +kernel
theorem dX11_names_396 : decode cX11_names 396 = .ok (.iload 6, 2) := by decide +kernel
theorem dX11_names_398 : decode cX11_names 398 = .ok (.iload 10, 2) := by decide +kernel
theorem dX11_names_400 : decode cX11_names 400 = .ok (.isub, 1) := by decide +kernel
theorem dX11_names_401 : decode cX11_names 401 = .ok (.istore 6, 2) := by decide +kernel
theorem dX11_names_403 : decode cX11_names 403 = .ok (.aload_n 0, 1) := by decide +kernel
theorem dX11_names_404 : decode cX11_names 404 = .ok (.iload_n 1, 1) := by decide +kernel
theorem dX11_names_405 : decode cX11_names 405 = .ok (.iload 4, 2) := by decide +kernel
theorem dX11_names_407 : decode cX11_names 407 = .ok (.aload_n 0, 1) := by decide +kernel
theorem dX11_names_408 : decode cX11_names 408 = .ok (.iload 9, 2) := by decide +kernel
theorem dX11_names_410 : decode cX11_names 410 = .ok (.iconst 1, 1) := by decide +kernel
theorem dX11_names_411 : decode cX11_names 411 = .ok (.invokevirtual 123, 3) := by decide +kernel
theorem dX11_names_414 : decode cX11_names 414 = .ok (.iload 10, 2) := by decide +kernel
theorem dX11_names_416 : decode cX11_names 416 = .ok (.iload 7, 2) := by decide +kernel
theorem dX11_names_418 : decode cX11_names 418 = .ok (.iload 8, 2) := by decide +kernel
theorem dX11_names_420 : decode cX11_names 420 = .ok (.invokevirtual 350, 3) := by decide +kernel
theorem dX11_names_423 : decode cX11_names 423 = .ok (.iinc 9 1, 3) := by decide +kernel
theorem dX11_names_426 : decode cX11_names 426 = .ok (.goto (-105), 3) := by decide +kernel
theorem dX11_names_429 : decode cX11_names 429 = .ok (.iinc 4 1, 3) := by decide +kernel
theorem dX11_names_432 : decode cX11_names 432 = .ok (.goto (-283), 3) := by decide +kernel
theorem dX11_names_435 : decode cX11_names 435 = .ok (.return_, 1) := by decide +kernel
theorem dX11_owing_0 : decode cX11_owing 0 = .ok (.iload_n 1, 1) := by decide +kernel
theorem dX11_owing_1 : decode cX11_owing 1 = .ok (.iload_n 2, 1) := by decide +kernel
theorem dX11_owing_2 : decode cX11_owing 2 = .ok (.if_icmp .ne 4, 3) := by decide +kernel
theorem dX11_owing_5 : decode cX11_owing 5 = .ok (.return_, 1) := by decide +kernel
theorem dX11_owing_6 : decode cX11_owing 6 = .ok (.lload_n 3, 1) := by decide +kernel
theorem dX11_owing_7 : decode cX11_owing 7 = .ok (.lconst 0, 1) := by decide +kernel
theorem dX11_owing_8 : decode cX11_owing 8 = .ok (.lcmp, 1) := by decide +kernel
theorem dX11_owing_9 : decode cX11_owing 9 = .ok (.ifCond .lt 21, 3) := by decide +kernel
theorem dX11_owing_12 : decode cX11_owing 12 = .ok (.aload_n 0, 1) := by decide +kernel
theorem dX11_owing_13 : decode cX11_owing 13 = .ok (.getfield 52, 3) := by decide +kernel
theorem dX11_owing_16 : decode cX11_owing 16 = .ok (.bipush 12, 2) := by decide +kernel
theorem dX11_owing_18 : decode cX11_owing 18 = .ok (.iload_n 1, 1) := by decide +kernel
theorem dX11_owing_19 : decode cX11_owing 19 = .ok (.imul, 1) := by decide +kernel
theorem dX11_owing_20 : decode cX11_owing 20 = .ok (.iload_n 2, 1) := by decide +kernel
theorem dX11_owing_21 : decode cX11_owing 21 = .ok (.iadd, 1) := by decide +kernel
theorem dX11_owing_22 : decode cX11_owing 22 = .ok (.dup2, 1) := by decide +kernel
theorem dX11_owing_23 : decode cX11_owing 23 = .ok (.laload, 1) := by decide +kernel
theorem dX11_owing_24 : decode cX11_owing 24 = .ok (.lload_n 3, 1) := by decide +kernel
theorem dX11_owing_25 : decode cX11_owing 25 = .ok (.ladd, 1) := by decide +kernel
theorem dX11_owing_26 : decode cX11_owing 26 = .ok (.lastore, 1) := by decide +kernel
theorem dX11_owing_27 : decode cX11_owing 27 = .ok (.goto 18, 3) := by decide +kernel
theorem dX11_owing_30 : decode cX11_owing 30 = .ok (.aload_n 0, 1) := by decide +kernel
theorem dX11_owing_31 : decode cX11_owing 31 = .ok (.getfield 52, 3) := by decide +kernel
theorem dX11_owing_34 : decode cX11_owing 34 = .ok (.bipush 12, 2) := by decide +kernel
theorem dX11_owing_36 : decode cX11_owing 36 = .ok (.iload_n 2, 1) := by decide +kernel
theorem dX11_owing_37 : decode cX11_owing 37 = .ok (.imul, 1) := by decide +kernel
theorem dX11_owing_38 : decode cX11_owing 38 = .ok (.iload_n 1, 1) := by decide +kernel
theorem dX11_owing_39 : decode cX11_owing 39 = .ok (.iadd, 1) := by decide +kernel
theorem dX11_owing_40 : decode cX11_owing 40 = .ok (.dup2, 1) := by decide +kernel
theorem dX11_owing_41 : decode cX11_owing 41 = .ok (.laload, 1) := by decide +kernel
theorem dX11_owing_42 : decode cX11_owing 42 = .ok (.lload_n 3, 1) := by decide +kernel
theorem dX11_owing_43 : decode cX11_owing 43 = .ok (.lsub, 1) := by decide +kernel
theorem dX11_owing_44 : decode cX11_owing 44 = .ok (.lastore, 1) := by decide +kernel
theorem dX11_owing_45 : decode cX11_owing 45 = .ok (.return_, 1) := by decide +kernel
theorem dX11_within_0 : decode cX11_within 0 = .ok (.iload_n 0, 1) := by decide +kernel
theorem dX11_within_1 : decode cX11_within 1 = .ok (.iload_n 1, 1) := by decide +kernel
theorem dX11_within_2 : decode cX11_within 2 = .ok (.if_icmp .ge 7, 3) := by decide +kernel
theorem dX11_within_5 : decode cX11_within 5 = .ok (.iload_n 1, 1) := by decide +kernel
theorem dX11_within_6 : decode cX11_within 6 = .ok (.goto 13, 3) := by decide +kernel
theorem dX11_within_9 : decode cX11_within 9 = .ok (.iload_n 0, 1) := by decide +kernel
theorem dX11_within_10 : decode cX11_within 10 = .ok (.iload_n 2, 1) := by decide +kernel
theorem dX11_within_11 : decode cX11_within 11 = .ok (.if_icmp .le 7, 3) := by decide +kernel
theorem dX11_within_14 : decode cX11_within 14 = .ok (.iload_n 2, 1) := by decide +kernel
theorem dX11_within_15 : decode cX11_within 15 = .ok (.goto 4, 3) := by decide +kernel
theorem dX11_within_18 : decode cX11_within 18 = .ok (.iload_n 0, 1) := by decide +kernel
theorem dX11_within_19 : decode cX11_within 19 = .ok (.ireturn, 1) := by decide +kernel
theorem dX11_owed_0 : decode cX11_owed 0 = .ok (.aload_n 0, 1) := by decide +kernel
theorem dX11_owed_1 : decode cX11_owed 1 = .ok (.getfield 14, 3) := by decide +kernel
theorem dX11_owed_4 : decode cX11_owed 4 = .ok (.iconst 1, 1) := by decide +kernel
theorem dX11_owed_5 : decode cX11_owed 5 = .ok (.iaload, 1) := by decide +kernel
theorem dX11_owed_6 : decode cX11_owed 6 = .ok (.istore_n 2, 1) := by decide +kernel
theorem dX11_owed_7 : decode cX11_owed 7 = .ok (.iconst 0, 1) := by decide +kernel
theorem dX11_owed_8 : decode cX11_owed 8 = .ok (.istore_n 3, 1) := by decide +kernel
theorem dX11_owed_9 : decode cX11_owed 9 = .ok (.iload_n 3, 1) := by decide +kernel
theorem dX11_owed_10 : decode cX11_owed 10 = .ok (.sipush 144, 3) := by decide +kernel
theorem dX11_owed_13 : decode cX11_owed 13 = .ok (.if_icmp .ge 24, 3) := by decide +kernel
theorem dX11_owed_16 : decode cX11_owed 16 = .ok (.aload_n 0, 1) := by decide +kernel
theorem dX11_owed_17 : decode cX11_owed 17 = .ok (.getfield 52, 3) := by decide +kernel
theorem dX11_owed_20 : decode cX11_owed 20 = .ok (.iload_n 3, 1) := by decide +kernel
theorem dX11_owed_21 : decode cX11_owed 21 = .ok (.aload_n 0, 1) := by decide +kernel
theorem dX11_owed_22 : decode cX11_owed 22 = .ok (.getfield 18, 3) := by decide +kernel
theorem dX11_owed_25 : decode cX11_owed 25 = .ok (.bipush 24, 2) := by decide +kernel
theorem dX11_owed_27 : decode cX11_owed 27 = .ok (.iload_n 3, 1) := by decide +kernel
theorem dX11_owed_28 : decode cX11_owed 28 = .ok (.iadd, 1) := by decide +kernel
theorem dX11_owed_29 : decode cX11_owed 29 = .ok (.laload, 1) := by decide +kernel
theorem dX11_owed_30 : decode cX11_owed 30 = .ok (.lastore, 1) := by decide +kernel
theorem dX11_owed_31 : decode cX11_owed 31 = .ok (.iinc 3 1, 3) := by decide +kernel
theorem dX11_owed_34 : decode cX11_owed 34 = .ok (.goto (-25), 3) := by decide +kernel
theorem dX11_owed_37 : decode cX11_owed 37 = .ok (.iconst 0, 1) := by decide +kernel
theorem dX11_owed_38 : decode cX11_owed 38 = .ok (.istore_n 3, 1) := by decide +kernel
theorem dX11_owed_39 : decode cX11_owed 39 = .ok (.iload_n 3, 1) := by decide +kernel
theorem dX11_owed_40 : decode cX11_owed 40 = .ok (.bipush 12, 2) := by decide +kernel
theorem dX11_owed_42 : decode cX11_owed 42 = .ok (.if_icmp .ge 30, 3) := by decide +kernel
theorem dX11_owed_45 : decode cX11_owed 45 = .ok (.aload_n 0, 1) := by decide +kernel
theorem dX11_owed_46 : decode cX11_owed 46 = .ok (.getfield 55, 3) := by decide +kernel
theorem dX11_owed_49 : decode cX11_owed 49 = .ok (.iload_n 3, 1) := by decide +kernel
theorem dX11_owed_50 : decode cX11_owed 50 = .ok (.lconst 0, 1) := by decide +kernel
theorem dX11_owed_51 : decode cX11_owed 51 = .ok (.lastore, 1) := by decide +kernel
theorem dX11_owed_52 : decode cX11_owed 52 = .ok (.aload_n 0, 1) := by decide +kernel
theorem dX11_owed_53 : decode cX11_owed 53 = .ok (.getfield 14, 3) := by decide +kernel
theorem dX11_owed_56 : decode cX11_owed 56 = .ok (.bipush 16, 2) := by decide +kernel
theorem dX11_owed_58 : decode cX11_owed 58 = .ok (.iconst 4, 1) := by decide +kernel
theorem dX11_owed_59 : decode cX11_owed 59 = .ok (.iload_n 3, 1) := by decide +kernel
theorem dX11_owed_60 : decode cX11_owed 60 = .ok (.imul, 1) := by decide +kernel
theorem dX11_owed_61 : decode cX11_owed 61 = .ok (.iadd, 1) := by decide +kernel
theorem dX11_owed_62 : decode cX11_owed 62 = .ok (.iconst 3, 1) := by decide +kernel
theorem dX11_owed_63 : decode cX11_owed 63 = .ok (.iadd, 1) := by decide +kernel
theorem dX11_owed_64 : decode cX11_owed 64 = .ok (.iconst 0, 1) := by decide +kernel
theorem dX11_owed_65 : decode cX11_owed 65 = .ok (.iastore, 1) := by decide +kernel
theorem dX11_owed_66 : decode cX11_owed 66 = .ok (.iinc 3 1, 3) := by decide +kernel
theorem dX11_owed_69 : decode cX11_owed 69 = .ok (.goto (-30), 3) := by decide +kernel
theorem dX11_owed_72 : decode cX11_owed 72 = .ok (.iconst 0, 1) := by decide +kernel
theorem dX11_owed_73 : decode cX11_owed 73 = .ok (.istore_n 3, 1) := by decide +kernel
theorem dX11_owed_74 : decode cX11_owed 74 = .ok (.iload_n 3, 1) := by decide +kernel
theorem dX11_owed_75 : decode cX11_owed 75 = .ok (.bipush 60, 2) := by decide +kernel
theorem dX11_owed_77 : decode cX11_owed 77 = .ok (.if_icmp .ge 75, 3) := by decide +kernel
theorem dX11_owed_80 : decode cX11_owed 80 = .ok (.aload_n 0, 1) := by decide +kernel
theorem dX11_owed_81 : decode cX11_owed 81 = .ok (.iload_n 3, 1) := by decide +kernel
theorem dX11_owed_82 : decode cX11_owed 82 = .ok (.invokevirtual 133, 3) := by decide +kernel
theorem dX11_owed_85 : decode cX11_owed 85 = .ok (.ifCond .eq 61, 3) := by decide +kernel
theorem dX11_owed_88 : decode cX11_owed 88 = .ok (.aload_n 0, 1) := by decide +kernel
theorem dX11_owed_89 : decode cX11_owed 89 = .ok (.iload_n 3, 1) := by decide +kernel
theorem dX11_owed_90 : decode cX11_owed 90 = .ok (.bipush 7, 2) := by decide +kernel
theorem dX11_owed_92 : decode cX11_owed 92 = .ok (.invokevirtual 123, 3) := by decide +kernel
theorem dX11_owed_95 : decode cX11_owed 95 = .ok (.iload_n 1, 1) := by decide +kernel
theorem dX11_owed_96 : decode cX11_owed 96 = .ok (.if_icmp .ne 50, 3) := by decide +kernel
theorem dX11_owed_99 : decode cX11_owed 99 = .ok (.aload_n 0, 1) := by decide +kernel
theorem dX11_owed_100 : decode cX11_owed 100 = .ok (.aload_n 0, 1) := by decide +kernel
theorem dX11_owed_101 : decode cX11_owed 101 = .ok (.iload_n 3, 1) := by decide +kernel
theorem dX11_owed_102 : decode cX11_owed 102 = .ok (.iconst 2, 1) := by decide +kernel
theorem dX11_owed_103 : decode cX11_owed 103 = .ok (.invokevirtual 123, 3) := by decide +kernel
theorem dX11_owed_106 : decode cX11_owed 106 = .ok (.aload_n 0, 1) := by decide +kernel
theorem dX11_owed_107 : decode cX11_owed 107 = .ok (.iload_n 3, 1) := by decide +kernel
theorem dX11_owed_108 : decode cX11_owed 108 = .ok (.iconst 1, 1) := by decide +kernel
theorem dX11_owed_109 : decode cX11_owed 109 = .ok (.invokevirtual 123, 3) := by decide +kernel
theorem dX11_owed_112 : decode cX11_owed 112 = .ok (.aload_n 0, 1) := by decide +kernel
theorem dX11_owed_113 : decode cX11_owed 113 = .ok (.iload_n 3, 1) := by decide +kernel
theorem dX11_owed_114 : decode cX11_owed 114 = .ok (.iconst 4, 1) := by decide +kernel
theorem dX11_owed_115 : decode cX11_owed 115 = .ok (.invokevirtual 123, 3) := by decide +kernel
theorem dX11_owed_118 : decode cX11_owed 118 = .ok (.i2l, 1) := by decide +kernel
theorem dX11_owed_119 : decode cX11_owed 119 = .ok (.aload_n 0, 1) := by decide +kernel
theorem dX11_owed_120 : decode cX11_owed 120 = .ok (.iload_n 3, 1) := by decide +kernel
theorem dX11_owed_121 : decode cX11_owed 121 = .ok (.iconst 5, 1) := by decide +kernel
theorem dX11_owed_122 : decode cX11_owed 122 = .ok (.invokevirtual 123, 3) := by decide +kernel
theorem dX11_owed_125 : decode cX11_owed 125 = .ok (.aload_n 0, 1) := by decide +kernel
theorem dX11_owed_126 : decode cX11_owed 126 = .ok (.getfield 14, 3) := by decide +kernel
theorem dX11_owed_129 : decode cX11_owed 129 = .ok (.sipush 184, 3) := by decide +kernel
theorem dX11_owed_132 : decode cX11_owed 132 = .ok (.aload_n 0, 1) := by decide +kernel
theorem dX11_owed_133 : decode cX11_owed 133 = .ok (.iload_n 3, 1) := by decide +kernel
theorem dX11_owed_134 : decode cX11_owed 134 = .ok (.iconst 3, 1) := by decide +kernel
theorem dX11_owed_135 : decode cX11_owed 135 = .ok (.invokevirtual 123, 3) := by decide +kernel
theorem dX11_owed_138 : decode cX11_owed 138 = .ok (.iadd, 1) := by decide +kernel
theorem dX11_owed_139 : decode cX11_owed 139 = .ok (.iaload, 1) := by decide +kernel
theorem dX11_owed_140 : decode cX11_owed 140 = .ok (.isub, 1) := by decide +kernel
theorem dX11_owed_141 : decode cX11_owed 141 = .ok (.i2l, 1) := by decide +kernel
theorem dX11_owed_142 : decode cX11_owed 142 = .ok (.lmul, 1) := by decide +kernel
theorem dX11_owed_143 : decode cX11_owed 143 = .ok (.invokevirtual 354, 3) := by decide +kernel
theorem dX11_owed_146 : decode cX11_owed 146 = .ok (.iinc 3 1, 3) := by decide +kernel
theorem dX11_owed_149 : decode cX11_owed 149 = .ok (.goto (-75), 3) := by decide +kernel
theorem dX11_owed_152 : decode cX11_owed 152 = .ok (.iconst 0, 1) := by decide +kernel
theorem dX11_owed_153 : decode cX11_owed 153 = .ok (.istore_n 3, 1) := by decide +kernel
theorem dX11_owed_154 : decode cX11_owed 154 = .ok (.iload_n 3, 1) := by decide +kernel
theorem dX11_owed_155 : decode cX11_owed 155 = .ok (.bipush 60, 2) := by decide +kernel
theorem dX11_owed_157 : decode cX11_owed 157 = .ok (.if_icmp .ge 24, 3) := by decide +kernel
theorem dX11_owed_160 : decode cX11_owed 160 = .ok (.aload_n 0, 1) := by decide +kernel
theorem dX11_owed_161 : decode cX11_owed 161 = .ok (.getfield 70, 3) := by decide +kernel
theorem dX11_owed_164 : decode cX11_owed 164 = .ok (.iload_n 3, 1) := by decide +kernel
theorem dX11_owed_165 : decode cX11_owed 165 = .ok (.aload_n 0, 1) := by decide +kernel
theorem dX11_owed_166 : decode cX11_owed 166 = .ok (.getfield 14, 3) := by decide +kernel
theorem dX11_owed_169 : decode cX11_owed 169 = .ok (.bipush 64, 2) := by decide +kernel
theorem dX11_owed_171 : decode cX11_owed 171 = .ok (.iload_n 3, 1) := by decide +kernel
theorem dX11_owed_172 : decode cX11_owed 172 = .ok (.iadd, 1) := by decide +kernel
theorem dX11_owed_173 : decode cX11_owed 173 = .ok (.iaload, 1) := by decide +kernel
theorem dX11_owed_174 : decode cX11_owed 174 = .ok (.iastore, 1) := by decide +kernel
theorem dX11_owed_175 : decode cX11_owed 175 = .ok (.iinc 3 1, 3) := by decide +kernel
theorem dX11_owed_178 : decode cX11_owed 178 = .ok (.goto (-24), 3) := by decide +kernel
theorem dX11_owed_181 : decode cX11_owed 181 = .ok (.iconst 0, 1) := by decide +kernel
theorem dX11_owed_182 : decode cX11_owed 182 = .ok (.istore_n 3, 1) := by decide +kernel
theorem dX11_owed_183 : decode cX11_owed 183 = .ok (.iload_n 3, 1) := by decide +kernel
theorem dX11_owed_184 : decode cX11_owed 184 = .ok (.aload_n 0, 1) := by decide +kernel
theorem dX11_owed_185 : decode cX11_owed 185 = .ok (.getfield 14, 3) := by decide +kernel
theorem dX11_owed_188 : decode cX11_owed 188 = .ok (.bipush 7, 2) := by decide +kernel
theorem dX11_owed_190 : decode cX11_owed 190 = .ok (.iaload, 1) := by decide +kernel
theorem dX11_owed_191 : decode cX11_owed 191 = .ok (.if_icmp .ge 269, 3) := by decide +kernel
theorem dX11_owed_194 : decode cX11_owed 194 = .ok (.sipush 4670, 3) := by decide +kernel
theorem dX11_owed_197 : decode cX11_owed 197 = .ok (.bipush 6, 2) := by decide +kernel
theorem dX11_owed_199 : decode cX11_owed 199 = .ok (.iload_n 3, 1) := by decide +kernel
theorem dX11_owed_200 : decode cX11_owed 200 = .ok (.imul, 1) := by decide +kernel
theorem dX11_owed_201 : decode cX11_owed 201 = .ok (.iadd, 1) := by decide +kernel
theorem dX11_owed_202 : decode cX11_owed 202 = .ok (.istore 4, 2) := by decide +kernel
theorem dX11_owed_204 : decode cX11_owed 204 = .ok (.aload_n 0, 1) := by decide +kernel
theorem dX11_owed_205 : decode cX11_owed 205 = .ok (.getfield 14, 3) := by decide +kernel
theorem dX11_owed_208 : decode cX11_owed 208 = .ok (.iload 4, 2) := by decide +kernel
theorem dX11_owed_210 : decode cX11_owed 210 = .ok (.iaload, 1) := by decide +kernel
theorem dX11_owed_211 : decode cX11_owed 211 = .ok (.istore 5, 2) := by decide +kernel
theorem dX11_owed_213 : decode cX11_owed 213 = .ok (.aload_n 0, 1) := by decide +kernel
theorem dX11_owed_214 : decode cX11_owed 214 = .ok (.getfield 14, 3) := by decide +kernel
theorem dX11_owed_217 : decode cX11_owed 217 = .ok (.iload 4, 2) := by decide +kernel
theorem dX11_owed_219 : decode cX11_owed 219 = .ok (.iconst 1, 1) := by decide +kernel
theorem dX11_owed_220 : decode cX11_owed 220 = .ok (.iadd, 1) := by decide +kernel
theorem dX11_owed_221 : decode cX11_owed 221 = .ok (.iaload, 1) := by decide +kernel
theorem dX11_owed_222 : decode cX11_owed 222 = .ok (.istore 6, 2) := by decide +kernel
theorem dX11_owed_224 : decode cX11_owed 224 = .ok (.aload_n 0, 1) := by decide +kernel
theorem dX11_owed_225 : decode cX11_owed 225 = .ok (.getfield 14, 3) := by decide +kernel
theorem dX11_owed_228 : decode cX11_owed 228 = .ok (.iload 4, 2) := by decide +kernel
theorem dX11_owed_230 : decode cX11_owed 230 = .ok (.iconst 3, 1) := by decide +kernel
theorem dX11_owed_231 : decode cX11_owed 231 = .ok (.iadd, 1) := by decide +kernel
theorem dX11_owed_232 : decode cX11_owed 232 = .ok (.iaload, 1) := by decide +kernel
theorem dX11_owed_233 : decode cX11_owed 233 = .ok (.istore 7, 2) := by decide +kernel
theorem dX11_owed_235 : decode cX11_owed 235 = .ok (.iload 7, 2) := by decide +kernel
theorem dX11_owed_237 : decode cX11_owed 237 = .ok (.i2l, 1) := by decide +kernel
theorem dX11_owed_238 : decode cX11_owed 238 = .ok (.aload_n 0, 1) := by decide +kernel
theorem dX11_owed_239 : decode cX11_owed 239 = .ok (.getfield 14, 3) := by decide +kernel
theorem dX11_owed_242 : decode cX11_owed 242 = .ok (.sipush 184, 3) := by decide +kernel
theorem dX11_owed_245 : decode cX11_owed 245 = .ok (.iload 5, 2) := by decide +kernel
theorem dX11_owed_247 : decode cX11_owed 247 = .ok (.iadd, 1) := by decide +kernel
theorem dX11_owed_248 : decode cX11_owed 248 = .ok (.iaload, 1) := by decide +kernel
theorem dX11_owed_249 : decode cX11_owed 249 = .ok (.i2l, 1) := by decide +kernel
theorem dX11_owed_250 : decode cX11_owed 250 = .ok (.lmul, 1) := by decide +kernel
theorem dX11_owed_251 : decode cX11_owed 251 = .ok (.lstore 8, 2) := by decide +kernel
theorem dX11_owed_253 : decode cX11_owed 253 = .ok (.aload_n 0, 1) := by decide +kernel
theorem dX11_owed_254 : decode cX11_owed 254 = .ok (.aload_n 0, 1) := by decide +kernel
theorem dX11_owed_255 : decode cX11_owed 255 = .ok (.getfield 14, 3) := by decide +kernel
theorem dX11_owed_258 : decode cX11_owed 258 = .ok (.iload 4, 2) := by decide +kernel
theorem dX11_owed_260 : decode cX11_owed 260 = .ok (.iconst 2, 1) := by decide +kernel
theorem dX11_owed_261 : decode cX11_owed 261 = .ok (.iadd, 1) := by decide +kernel
theorem dX11_owed_262 : decode cX11_owed 262 = .ok (.iaload, 1) := by decide +kernel
theorem dX11_owed_263 : decode cX11_owed 263 = .ok (.iload 6, 2) := by decide +kernel
theorem dX11_owed_265 : decode cX11_owed 265 = .ok (.lload 8, 2) := by decide +kernel
theorem dX11_owed_267 : decode cX11_owed 267 = .ok (.invokevirtual 354, 3) := by decide +kernel
theorem dX11_owed_270 : decode cX11_owed 270 = .ok (.iconst 5, 1) := by decide +kernel
theorem dX11_owed_271 : decode cX11_owed 271 = .ok (.iload 6, 2) := by decide +kernel
theorem dX11_owed_273 : decode cX11_owed 273 = .ok (.imul, 1) := by decide +kernel
theorem dX11_owed_274 : decode cX11_owed 274 = .ok (.iload 5, 2) := by decide +kernel
theorem dX11_owed_276 : decode cX11_owed 276 = .ok (.iadd, 1) := by decide +kernel
theorem dX11_owed_277 : decode cX11_owed 277 = .ok (.istore 10, 2) := by decide +kernel
theorem dX11_owed_279 : decode cX11_owed 279 = .ok (.iload 7, 2) := by decide +kernel
theorem dX11_owed_281 : decode cX11_owed 281 = .ok (.aload_n 0, 1) := by decide +kernel
theorem dX11_owed_282 : decode cX11_owed 282 = .ok (.getfield 70, 3) := by decide +kernel
theorem dX11_owed_285 : decode cX11_owed 285 = .ok (.iload 10, 2) := by decide +kernel
theorem dX11_owed_287 : decode cX11_owed 287 = .ok (.iaload, 1) := by decide +kernel
theorem dX11_owed_288 : decode cX11_owed 288 = .ok (.if_icmp .le 16, 3) := by decide +kernel
theorem dX11_owed_291 : decode cX11_owed 291 = .ok (.iload 7, 2) := by decide +kernel
theorem dX11_owed_293 : decode cX11_owed 293 = .ok (.aload_n 0, 1) := by decide +kernel
theorem dX11_owed_294 : decode cX11_owed 294 = .ok (.getfield 70, 3) := by decide +kernel
theorem dX11_owed_297 : decode cX11_owed 297 = .ok (.iload 10, 2) := by decide +kernel
theorem dX11_owed_299 : decode cX11_owed 299 = .ok (.iaload, 1) := by decide +kernel
theorem dX11_owed_300 : decode cX11_owed 300 = .ok (.isub, 1) := by decide +kernel
theorem dX11_owed_301 : decode cX11_owed 301 = .ok (.goto 4, 3) := by decide +kernel
theorem dX11_owed_304 : decode cX11_owed 304 = .ok (.iconst 0, 1) := by decide +kernel
theorem dX11_owed_305 : decode cX11_owed 305 = .ok (.istore 11, 2) := by decide +kernel
theorem dX11_owed_307 : decode cX11_owed 307 = .ok (.aload_n 0, 1) := by decide +kernel
theorem dX11_owed_308 : decode cX11_owed 308 = .ok (.getfield 70, 3) := by decide +kernel
theorem dX11_owed_311 : decode cX11_owed 311 = .ok (.iload 10, 2) := by decide +kernel
theorem dX11_owed_313 : decode cX11_owed 313 = .ok (.dup2, 1) := by decide +kernel
theorem dX11_owed_314 : decode cX11_owed 314 = .ok (.iaload, 1) := by decide +kernel
theorem dX11_owed_315 : decode cX11_owed 315 = .ok (.iload 7, 2) := by decide +kernel
theorem dX11_owed_317 : decode cX11_owed 317 = .ok (.iload 11, 2) := by decide +kernel
theorem dX11_owed_319 : decode cX11_owed 319 = .ok (.isub, 1) := by decide +kernel
theorem dX11_owed_320 : decode cX11_owed 320 = .ok (.isub, 1) := by decide +kernel
theorem dX11_owed_321 : decode cX11_owed 321 = .ok (.iastore, 1) := by decide +kernel
theorem dX11_owed_322 : decode cX11_owed 322 = .ok (.iload 11, 2) := by decide +kernel
theorem dX11_owed_324 : decode cX11_owed 324 = .ok (.ifCond .le 72, 3) := by decide +kernel
theorem dX11_owed_327 : decode cX11_owed 327 = .ok (.aload_n 0, 1) := by decide +kernel
theorem dX11_owed_328 : decode cX11_owed 328 = .ok (.getfield 55, 3) := by decide +kernel
theorem dX11_owed_331 : decode cX11_owed 331 = .ok (.iload 6, 2) := by decide +kernel
theorem dX11_owed_333 : decode cX11_owed 333 = .ok (.dup2, 1) := by decide +kernel
theorem dX11_owed_334 : decode cX11_owed 334 = .ok (.laload, 1) := by decide +kernel
theorem dX11_owed_335 : decode cX11_owed 335 = .ok (.iload 11, 2) := by decide +kernel
theorem dX11_owed_337 : decode cX11_owed 337 = .ok (.i2l, 1) := by decide +kernel
theorem dX11_owed_338 : decode cX11_owed 338 = .ok (.aload_n 0, 1) := by decide +kernel
theorem dX11_owed_339 : decode cX11_owed 339 = .ok (.getfield 14, 3) := by decide +kernel
theorem dX11_owed_342 : decode cX11_owed 342 = .ok (.sipush 184, 3) := by decide +kernel
theorem dX11_owed_345 : decode cX11_owed 345 = .ok (.iload 5, 2) := by decide +kernel
theorem dX11_owed_347 : decode cX11_owed 347 = .ok (.iadd, 1) := by decide +kernel
theorem dX11_owed_348 : decode cX11_owed 348 = .ok (.iaload, 1) := by decide +kernel
theorem dX11_owed_349 : decode cX11_owed 349 = .ok (.i2l, 1) := by decide +kernel
theorem dX11_owed_350 : decode cX11_owed 350 = .ok (.lmul, 1) := by decide +kernel
theorem dX11_owed_351 : decode cX11_owed 351 = .ok (.bipush 100, 2) := by decide +kernel
theorem dX11_owed_353 : decode cX11_owed 353 = .ok (.aload_n 0, 1) := by decide +kernel
theorem dX11_owed_354 : decode cX11_owed 354 = .ok (.iconst 3, 1) := by decide +kernel
theorem dX11_owed_355 : decode cX11_owed 355 = .ok (.iload 5, 2) := by decide +kernel
theorem dX11_owed_357 : decode cX11_owed 357 = .ok (.iconst 0, 1) := by decide +kernel
theorem dX11_owed_358 : decode cX11_owed 358 = .ok (.invokevirtual 159, 3) := by decide +kernel
theorem dX11_owed_361 : decode cX11_owed 361 = .ok (.iconst 0, 1) := by decide +kernel
theorem dX11_owed_362 : decode cX11_owed 362 = .ok (.sipush 1000, 3) := by decide +kernel
theorem dX11_owed_365 : decode cX11_owed 365 = .ok (.invokestatic 358, 3) := by decide +kernel
theorem dX11_owed_368 : decode cX11_owed 368 = .ok (.iadd, 1) := by decide +kernel
theorem dX11_owed_369 : decode cX11_owed 369 = .ok (.i2l, 1) := by decide +kernel
theorem dX11_owed_370 : decode cX11_owed 370 = .ok (.lmul, 1) := by decide +kernel
theorem dX11_owed_371 : decode cX11_owed 371 = .ok (.ldc2_w 361, 3) := by decide +kernel
theorem dX11_owed_374 : decode cX11_owed 374 = .ok (.ldiv, 1) := by decide +kernel
theorem dX11_owed_375 : decode cX11_owed 375 = .ok (.ladd, 1) := by decide +kernel
theorem dX11_owed_376 : decode cX11_owed 376 = .ok (.lastore, 1) := by decide +kernel
theorem dX11_owed_377 : decode cX11_owed 377 = .ok (.aload_n 0, 1) := by decide +kernel
theorem dX11_owed_378 : decode cX11_owed 378 = .ok (.getfield 14, 3) := by decide +kernel
theorem dX11_owed_381 : decode cX11_owed 381 = .ok (.bipush 16, 2) := by decide +kernel
theorem dX11_owed_383 : decode cX11_owed 383 = .ok (.iconst 4, 1) := by decide +kernel
theorem dX11_owed_384 : decode cX11_owed 384 = .ok (.iload 6, 2) := by decide +kernel
theorem dX11_owed_386 : decode cX11_owed 386 = .ok (.imul, 1) := by decide +kernel
theorem dX11_owed_387 : decode cX11_owed 387 = .ok (.iadd, 1) := by decide +kernel
theorem dX11_owed_388 : decode cX11_owed 388 = .ok (.iconst 3, 1) := by decide +kernel
theorem dX11_owed_389 : decode cX11_owed 389 = .ok (.iadd, 1) := by decide +kernel
theorem dX11_owed_390 : decode cX11_owed 390 = .ok (.dup2, 1) := by decide +kernel
theorem dX11_owed_391 : decode cX11_owed 391 = .ok (.iaload, 1) := by decide +kernel
theorem dX11_owed_392 : decode cX11_owed 392 = .ok (.iload 11, 2) := by decide +kernel
theorem dX11_owed_394 : decode cX11_owed 394 = .ok (.iadd, 1) := by decide +kernel
theorem dX11_owed_395 : decode cX11_owed 395 = .ok (.iastore, 1) := by decide +kernel
theorem dX11_owed_396 : decode cX11_owed 396 = .ok (.aload_n 0, 1) := by decide +kernel
theorem dX11_owed_397 : decode cX11_owed 397 = .ok (.getfield 14, 3) := by decide +kernel
theorem dX11_owed_400 : decode cX11_owed 400 = .ok (.iload 4, 2) := by decide +kernel
theorem dX11_owed_402 : decode cX11_owed 402 = .ok (.iconst 5, 1) := by decide +kernel
theorem dX11_owed_403 : decode cX11_owed 403 = .ok (.iadd, 1) := by decide +kernel
theorem dX11_owed_404 : decode cX11_owed 404 = .ok (.iaload, 1) := by decide +kernel
theorem dX11_owed_405 : decode cX11_owed 405 = .ok (.iconst (-1), 1) := by decide +kernel
theorem dX11_owed_406 : decode cX11_owed 406 = .ok (.if_icmp .eq 48, 3) := by decide +kernel
theorem dX11_owed_409 : decode cX11_owed 409 = .ok (.aload_n 0, 1) := by decide +kernel
theorem dX11_owed_410 : decode cX11_owed 410 = .ok (.aload_n 0, 1) := by decide +kernel
theorem dX11_owed_411 : decode cX11_owed 411 = .ok (.getfield 14, 3) := by decide +kernel
theorem dX11_owed_414 : decode cX11_owed 414 = .ok (.iload 4, 2) := by decide +kernel
theorem dX11_owed_416 : decode cX11_owed 416 = .ok (.iconst 5, 1) := by decide +kernel
theorem dX11_owed_417 : decode cX11_owed 417 = .ok (.iadd, 1) := by decide +kernel
theorem dX11_owed_418 : decode cX11_owed 418 = .ok (.iaload, 1) := by decide +kernel
theorem dX11_owed_419 : decode cX11_owed 419 = .ok (.aload_n 0, 1) := by decide +kernel
theorem dX11_owed_420 : decode cX11_owed 420 = .ok (.getfield 14, 3) := by decide +kernel
theorem dX11_owed_423 : decode cX11_owed 423 = .ok (.iload 4, 2) := by decide +kernel
theorem dX11_owed_425 : decode cX11_owed 425 = .ok (.iconst 2, 1) := by decide +kernel
theorem dX11_owed_426 : decode cX11_owed 426 = .ok (.iadd, 1) := by decide +kernel
theorem dX11_owed_427 : decode cX11_owed 427 = .ok (.iaload, 1) := by decide +kernel
theorem dX11_owed_428 : decode cX11_owed 428 = .ok (.lload 8, 2) := by decide +kernel
theorem dX11_owed_430 : decode cX11_owed 430 = .ok (.aload_n 0, 1) := by decide +kernel
theorem dX11_owed_431 : decode cX11_owed 431 = .ok (.iconst 2, 1) := by decide +kernel
theorem dX11_owed_432 : decode cX11_owed 432 = .ok (.iload 5, 2) := by decide +kernel
theorem dX11_owed_434 : decode cX11_owed 434 = .ok (.iconst 0, 1) := by decide +kernel
theorem dX11_owed_435 : decode cX11_owed 435 = .ok (.invokevirtual 159, 3) := by decide +kernel
theorem dX11_owed_438 : decode cX11_owed 438 = .ok (.iconst 0, 1) := by decide +kernel
theorem dX11_owed_439 : decode cX11_owed 439 = .ok (.sipush 1000, 3) := by decide +kernel
theorem dX11_owed_442 : decode cX11_owed 442 = .ok (.invokestatic 358, 3) := by decide +kernel
theorem dX11_owed_445 : decode cX11_owed 445 = .ok (.i2l, 1) := by decide +kernel
theorem dX11_owed_446 : decode cX11_owed 446 = .ok (.lmul, 1) := by decide +kernel
theorem dX11_owed_447 : decode cX11_owed 447 = .ok (.ldc2_w 361, 3) := by decide +kernel
theorem dX11_owed_450 : decode cX11_owed 450 = .ok (.ldiv, 1) := by decide +kernel
theorem dX11_owed_451 : decode cX11_owed 451 = .ok (.invokevirtual 354, 3) := by decide +kernel
theorem dX11_owed_454 : decode cX11_owed 454 = .ok (.iinc 3 1, 3) := by decide +kernel
theorem dX11_owed_457 : decode cX11_owed 457 = .ok (.goto (-274), 3) := by decide +kernel
theorem dX11_owed_460 : decode cX11_owed 460 = .ok (.iconst 0, 1) := by decide +kernel
theorem dX11_owed_461 : decode cX11_owed 461 = .ok (.istore_n 3, 1) := by decide +kernel
theorem dX11_owed_462 : decode cX11_owed 462 = .ok (.iload_n 3, 1) := by decide +kernel
theorem dX11_owed_463 : decode cX11_owed 463 = .ok (.iload_n 2, 1) := by decide +kernel
theorem dX11_owed_464 : decode cX11_owed 464 = .ok (.if_icmp .ge 117, 3) := by decide +kernel
theorem dX11_owed_467 : decode cX11_owed 467 = .ok (.iload_n 3, 1) := by decide +kernel
theorem dX11_owed_468 : decode cX11_owed 468 = .ok (.iconst 1, 1) := by decide +kernel
theorem dX11_owed_469 : decode cX11_owed 469 = .ok (.iadd, 1) := by decide +kernel
theorem dX11_owed_470 : decode cX11_owed 470 = .ok (.istore 4, 2) := by decide +kernel
theorem dX11_owed_472 : decode cX11_owed 472 = .ok (.iload 4, 2) := by decide +kernel
theorem dX11_owed_474 : decode cX11_owed 474 = .ok (.iload_n 2, 1) := by decide +kernel
theorem dX11_owed_475 : decode cX11_owed 475 = .ok (.if_icmp .ge 100, 3) := by decide +kernel
theorem dX11_owed_478 : decode cX11_owed 478 = .ok (.aload_n 0, 1) := by decide +kernel
theorem dX11_owed_479 : decode cX11_owed 479 = .ok (.getfield 52, 3) := by decide +kernel
theorem dX11_owed_482 : decode cX11_owed 482 = .ok (.bipush 12, 2) := by decide +kernel
theorem dX11_owed_484 : decode cX11_owed 484 = .ok (.iload_n 3, 1) := by decide +kernel
theorem dX11_owed_485 : decode cX11_owed 485 = .ok (.imul, 1) := by decide +kernel
theorem dX11_owed_486 : decode cX11_owed 486 = .ok (.iload 4, 2) := by decide +kernel
theorem dX11_owed_488 : decode cX11_owed 488 = .ok (.iadd, 1) := by decide +kernel
theorem dX11_owed_489 : decode cX11_owed 489 = .ok (.laload, 1) := by decide +kernel
theorem dX11_owed_490 : decode cX11_owed 490 = .ok (.aload_n 0, 1) := by decide +kernel
theorem dX11_owed_491 : decode cX11_owed 491 = .ok (.getfield 52, 3) := by decide +kernel
theorem dX11_owed_494 : decode cX11_owed 494 = .ok (.bipush 12, 2) := by decide +kernel
theorem dX11_owed_496 : decode cX11_owed 496 = .ok (.iload 4, 2) := by decide +kernel
theorem dX11_owed_498 : decode cX11_owed 498 = .ok (.imul, 1) := by decide +kernel
theorem dX11_owed_499 : decode cX11_owed 499 = .ok (.iload_n 3, 1) := by decide +kernel
theorem dX11_owed_500 : decode cX11_owed 500 = .ok (.iadd, 1) := by decide +kernel
theorem dX11_owed_501 : decode cX11_owed 501 = .ok (.laload, 1) := by decide +kernel
theorem dX11_owed_502 : decode cX11_owed 502 = .ok (.lcmp, 1) := by decide +kernel
theorem dX11_owed_503 : decode cX11_owed 503 = .ok (.ifCond .ge 18, 3) := by decide +kernel
theorem dX11_owed_506 : decode cX11_owed 506 = .ok (.aload_n 0, 1) := by decide +kernel
theorem dX11_owed_507 : decode cX11_owed 507 = .ok (.getfield 52, 3) := by decide +kernel
theorem dX11_owed_510 : decode cX11_owed 510 = .ok (.bipush 12, 2) := by decide +kernel
theorem dX11_owed_512 : decode cX11_owed 512 = .ok (.iload_n 3, 1) := by decide +kernel
theorem dX11_owed_513 : decode cX11_owed 513 = .ok (.imul, 1) := by decide +kernel
theorem dX11_owed_514 : decode cX11_owed 514 = .ok (.iload 4, 2) := by decide +kernel
theorem dX11_owed_516 : decode cX11_owed 516 = .ok (.iadd, 1) := by decide +kernel
theorem dX11_owed_517 : decode cX11_owed 517 = .ok (.laload, 1) := by decide +kernel
theorem dX11_owed_518 : decode cX11_owed 518 = .ok (.goto 15, 3) := by decide +kernel
theorem dX11_owed_521 : decode cX11_owed 521 = .ok (.aload_n 0, 1) := by decide +kernel
theorem dX11_owed_522 : decode cX11_owed 522 = .ok (.getfield 52, 3) := by decide +kernel
theorem dX11_owed_525 : decode cX11_owed 525 = .ok (.bipush 12, 2) := by decide +kernel
theorem dX11_owed_527 : decode cX11_owed 527 = .ok (.iload 4, 2) := by decide +kernel
theorem dX11_owed_529 : decode cX11_owed 529 = .ok (.imul, 1) := by decide +kernel
theorem dX11_owed_530 : decode cX11_owed 530 = .ok (.iload_n 3, 1) := by decide +kernel
theorem dX11_owed_531 : decode cX11_owed 531 = .ok (.iadd, 1) := by decide +kernel
theorem dX11_owed_532 : decode cX11_owed 532 = .ok (.laload, 1) := by decide +kernel
theorem dX11_owed_533 : decode cX11_owed 533 = .ok (.lstore 5, 2) := by decide +kernel
theorem dX11_owed_535 : decode cX11_owed 535 = .ok (.aload_n 0, 1) := by decide +kernel
theorem dX11_owed_536 : decode cX11_owed 536 = .ok (.getfield 52, 3) := by decide +kernel
theorem dX11_owed_539 : decode cX11_owed 539 = .ok (.bipush 12, 2) := by decide +kernel
theorem dX11_owed_541 : decode cX11_owed 541 = .ok (.iload_n 3, 1) := by decide +kernel
theorem dX11_owed_542 : decode cX11_owed 542 = .ok (.imul, 1) := by decide +kernel
theorem dX11_owed_543 : decode cX11_owed 543 = .ok (.iload 4, 2) := by decide +kernel
theorem dX11_owed_545 : decode cX11_owed 545 = .ok (.iadd, 1) := by decide +kernel
theorem dX11_owed_546 : decode cX11_owed 546 = .ok (.dup2, 1) := by decide +kernel
theorem dX11_owed_547 : decode cX11_owed 547 = .ok (.laload, 1) := by decide +kernel
theorem dX11_owed_548 : decode cX11_owed 548 = .ok (.lload 5, 2) := by decide +kernel
theorem dX11_owed_550 : decode cX11_owed 550 = .ok (.lsub, 1) := by decide +kernel
theorem dX11_owed_551 : decode cX11_owed 551 = .ok (.lastore, 1) := by decide +kernel
theorem dX11_owed_552 : decode cX11_owed 552 = .ok (.aload_n 0, 1) := by decide +kernel
theorem dX11_owed_553 : decode cX11_owed 553 = .ok (.getfield 52, 3) := by decide +kernel
theorem dX11_owed_556 : decode cX11_owed 556 = .ok (.bipush 12, 2) := by decide +kernel
theorem dX11_owed_558 : decode cX11_owed 558 = .ok (.iload 4, 2) := by decide +kernel
theorem dX11_owed_560 : decode cX11_owed 560 = .ok (.imul, 1) := by decide +kernel
theorem dX11_owed_561 : decode cX11_owed 561 = .ok (.iload_n 3, 1) := by decide +kernel
theorem dX11_owed_562 : decode cX11_owed 562 = .ok (.iadd, 1) := by decide +kernel
theorem dX11_owed_563 : decode cX11_owed 563 = .ok (.dup2, 1) := by decide +kernel
theorem dX11_owed_564 : decode cX11_owed 564 = .ok (.laload, 1) := by decide +kernel
theorem dX11_owed_565 : decode cX11_owed 565 = .ok (.lload 5, 2) := by decide +kernel
theorem dX11_owed_567 : decode cX11_owed 567 = .ok (.lsub, 1) := by decide +kernel
theorem dX11_owed_568 : decode cX11_owed 568 = .ok (.lastore, 1) := by decide +kernel
theorem dX11_owed_569 : decode cX11_owed 569 = .ok (.iinc 4 1, 3) := by decide +kernel
theorem dX11_owed_572 : decode cX11_owed 572 = .ok (.goto (-100), 3) := by decide +kernel
theorem dX11_owed_575 : decode cX11_owed 575 = .ok (.iinc 3 1, 3) := by decide +kernel
theorem dX11_owed_578 : decode cX11_owed 578 = .ok (.goto (-116), 3) := by decide +kernel
theorem dX11_owed_581 : decode cX11_owed 581 = .ok (.iconst 0, 1) := by decide +kernel
theorem dX11_owed_582 : decode cX11_owed 582 = .ok (.istore_n 3, 1) := by decide +kernel
theorem dX11_owed_583 : decode cX11_owed 583 = .ok (.iload_n 3, 1) := by decide +kernel
theorem dX11_owed_584 : decode cX11_owed 584 = .ok (.iload_n 2, 1) := by decide +kernel
theorem dX11_owed_585 : decode cX11_owed 585 = .ok (.if_icmp .ge 57, 3) := by decide +kernel
theorem dX11_owed_588 : decode cX11_owed 588 = .ok (.aload_n 0, 1) := by decide +kernel
theorem dX11_owed_589 : decode cX11_owed 589 = .ok (.getfield 58, 3) := by decide +kernel
theorem dX11_owed_592 : decode cX11_owed 592 = .ok (.iload_n 3, 1) := by decide +kernel
theorem dX11_owed_593 : decode cX11_owed 593 = .ok (.aload_n 0, 1) := by decide +kernel
theorem dX11_owed_594 : decode cX11_owed 594 = .ok (.getfield 55, 3) := by decide +kernel
theorem dX11_owed_597 : decode cX11_owed 597 = .ok (.iload_n 3, 1) := by decide +kernel
theorem dX11_owed_598 : decode cX11_owed 598 = .ok (.laload, 1) := by decide +kernel
theorem dX11_owed_599 : decode cX11_owed 599 = .ok (.lastore, 1) := by decide +kernel
theorem dX11_owed_600 : decode cX11_owed 600 = .ok (.iconst 0, 1) := by decide +kernel
theorem dX11_owed_601 : decode cX11_owed 601 = .ok (.istore 4, 2) := by decide +kernel
theorem dX11_owed_603 : decode cX11_owed 603 = .ok (.iload 4, 2) := by decide +kernel
theorem dX11_owed_605 : decode cX11_owed 605 = .ok (.iload_n 2, 1) := by decide +kernel
theorem dX11_owed_606 : decode cX11_owed 606 = .ok (.if_icmp .ge 30, 3) := by decide +kernel
theorem dX11_owed_609 : decode cX11_owed 609 = .ok (.aload_n 0, 1) := by decide +kernel
theorem dX11_owed_610 : decode cX11_owed 610 = .ok (.getfield 58, 3) := by decide +kernel
theorem dX11_owed_613 : decode cX11_owed 613 = .ok (.iload_n 3, 1) := by decide +kernel
theorem dX11_owed_614 : decode cX11_owed 614 = .ok (.dup2, 1) := by decide +kernel
theorem dX11_owed_615 : decode cX11_owed 615 = .ok (.laload, 1) := by decide +kernel
theorem dX11_owed_616 : decode cX11_owed 616 = .ok (.aload_n 0, 1) := by decide +kernel
theorem dX11_owed_617 : decode cX11_owed 617 = .ok (.getfield 52, 3) := by decide +kernel
theorem dX11_owed_620 : decode cX11_owed 620 = .ok (.bipush 12, 2) := by decide +kernel
theorem dX11_owed_622 : decode cX11_owed 622 = .ok (.iload_n 3, 1) := by decide +kernel
theorem dX11_owed_623 : decode cX11_owed 623 = .ok (.imul, 1) := by decide +kernel
theorem dX11_owed_624 : decode cX11_owed 624 = .ok (.iload 4, 2) := by decide +kernel
theorem dX11_owed_626 : decode cX11_owed 626 = .ok (.iadd, 1) := by decide +kernel
theorem dX11_owed_627 : decode cX11_owed 627 = .ok (.laload, 1) := by decide +kernel
theorem dX11_owed_628 : decode cX11_owed 628 = .ok (.ladd, 1) := by decide +kernel
theorem dX11_owed_629 : decode cX11_owed 629 = .ok (.lastore, 1) := by decide +kernel
theorem dX11_owed_630 : decode cX11_owed 630 = .ok (.iinc 4 1, 3) := by decide +kernel
theorem dX11_owed_633 : decode cX11_owed 633 = .ok (.goto (-30), 3) := by decide +kernel
theorem dX11_owed_636 : decode cX11_owed 636 = .ok (.iinc 3 1, 3) := by decide +kernel
theorem dX11_owed_639 : decode cX11_owed 639 = .ok (.goto (-56), 3) := by decide +kernel
theorem dX11_owed_642 : decode cX11_owed 642 = .ok (.return_, 1) := by decide +kernel
theorem dX11_gotten_0 : decode cX11_gotten 0 = .ok (.lconst 0, 1) := by decide +kernel
theorem dX11_gotten_1 : decode cX11_gotten 1 = .ok (.lstore_n 2, 1) := by decide +kernel
theorem dX11_gotten_2 : decode cX11_gotten 2 = .ok (.iconst 0, 1) := by decide +kernel
theorem dX11_gotten_3 : decode cX11_gotten 3 = .ok (.istore 4, 2) := by decide +kernel
theorem dX11_gotten_5 : decode cX11_gotten 5 = .ok (.iload 4, 2) := by decide +kernel
theorem dX11_gotten_7 : decode cX11_gotten 7 = .ok (.aload_n 0, 1) := by decide +kernel
theorem dX11_gotten_8 : decode cX11_gotten 8 = .ok (.getfield 14, 3) := by decide +kernel
theorem dX11_gotten_11 : decode cX11_gotten 11 = .ok (.iconst 1, 1) := by decide +kernel
theorem dX11_gotten_12 : decode cX11_gotten 12 = .ok (.iaload, 1) := by decide +kernel
theorem dX11_gotten_13 : decode cX11_gotten 13 = .ok (.if_icmp .ge 24, 3) := by decide +kernel
theorem dX11_gotten_16 : decode cX11_gotten 16 = .ok (.lload_n 2, 1) := by decide +kernel
theorem dX11_gotten_17 : decode cX11_gotten 17 = .ok (.aload_n 0, 1) := by decide +kernel
theorem dX11_gotten_18 : decode cX11_gotten 18 = .ok (.getfield 61, 3) := by decide +kernel
theorem dX11_gotten_21 : decode cX11_gotten 21 = .ok (.bipush 12, 2) := by decide +kernel
theorem dX11_gotten_23 : decode cX11_gotten 23 = .ok (.iload 4, 2) := by decide +kernel
theorem dX11_gotten_25 : decode cX11_gotten 25 = .ok (.imul, 1) := by decide +kernel
theorem dX11_gotten_26 : decode cX11_gotten 26 = .ok (.iload_n 1, 1) := by decide +kernel
theorem dX11_gotten_27 : decode cX11_gotten 27 = .ok (.iadd, 1) := by decide +kernel
theorem dX11_gotten_28 : decode cX11_gotten 28 = .ok (.laload, 1) := by decide +kernel
theorem dX11_gotten_29 : decode cX11_gotten 29 = .ok (.ladd, 1) := by decide +kernel
theorem dX11_gotten_30 : decode cX11_gotten 30 = .ok (.lstore_n 2, 1) := by decide +kernel
theorem dX11_gotten_31 : decode cX11_gotten 31 = .ok (.iinc 4 1, 3) := by decide +kernel
theorem dX11_gotten_34 : decode cX11_gotten 34 = .ok (.goto (-29), 3) := by decide +kernel
theorem dX11_gotten_37 : decode cX11_gotten 37 = .ok (.lload_n 2, 1) := by decide +kernel
theorem dX11_gotten_38 : decode cX11_gotten 38 = .ok (.lreturn, 1) := by decide +kernel
theorem dX11_pays_0 : decode cX11_pays 0 = .ok (.iconst 0, 1) := by decide +kernel
theorem dX11_pays_1 : decode cX11_pays 1 = .ok (.istore_n 1, 1) := by decide +kernel
theorem dX11_pays_2 : decode cX11_pays 2 = .ok (.iconst 0, 1) := by decide +kernel
theorem dX11_pays_3 : decode cX11_pays 3 = .ok (.istore_n 2, 1) := by decide +kernel
theorem dX11_pays_4 : decode cX11_pays 4 = .ok (.iload_n 2, 1) := by decide +kernel
theorem dX11_pays_5 : decode cX11_pays 5 = .ok (.aload_n 0, 1) := by decide +kernel
theorem dX11_pays_6 : decode cX11_pays 6 = .ok (.getfield 14, 3) := by decide +kernel
theorem dX11_pays_9 : decode cX11_pays 9 = .ok (.iconst 1, 1) := by decide +kernel
theorem dX11_pays_10 : decode cX11_pays 10 = .ok (.iaload, 1) := by decide +kernel
theorem dX11_pays_11 : decode cX11_pays 11 = .ok (.if_icmp .ge 198, 3) := by decide +kernel
theorem dX11_pays_14 : decode cX11_pays 14 = .ok (.aload_n 0, 1) := by decide +kernel
theorem dX11_pays_15 : decode cX11_pays 15 = .ok (.getfield 18, 3) := by decide +kernel
theorem dX11_pays_18 : decode cX11_pays 18 = .ok (.iconst 0, 1) := by decide +kernel
theorem dX11_pays_19 : decode cX11_pays 19 = .ok (.iload_n 2, 1) := by decide +kernel
theorem dX11_pays_20 : decode cX11_pays 20 = .ok (.iadd, 1) := by decide +kernel
theorem dX11_pays_21 : decode cX11_pays 21 = .ok (.laload, 1) := by decide +kernel
theorem dX11_pays_22 : decode cX11_pays 22 = .ok (.aload_n 0, 1) := by decide +kernel
theorem dX11_pays_23 : decode cX11_pays 23 = .ok (.iload_n 2, 1) := by decide +kernel
theorem dX11_pays_24 : decode cX11_pays 24 = .ok (.invokevirtual 363, 3) := by decide +kernel
theorem dX11_pays_27 : decode cX11_pays 27 = .ok (.ladd, 1) := by decide +kernel
theorem dX11_pays_28 : decode cX11_pays 28 = .ok (.lstore_n 3, 1) := by decide +kernel
theorem dX11_pays_29 : decode cX11_pays 29 = .ok (.lload_n 3, 1) := by decide +kernel
theorem dX11_pays_30 : decode cX11_pays 30 = .ok (.aload_n 0, 1) := by decide +kernel
theorem dX11_pays_31 : decode cX11_pays 31 = .ok (.getfield 58, 3) := by decide +kernel
theorem dX11_pays_34 : decode cX11_pays 34 = .ok (.iload_n 2, 1) := by decide +kernel
theorem dX11_pays_35 : decode cX11_pays 35 = .ok (.laload, 1) := by decide +kernel
theorem dX11_pays_36 : decode cX11_pays 36 = .ok (.lcmp, 1) := by decide +kernel
theorem dX11_pays_37 : decode cX11_pays 37 = .ok (.ifCond .lt 7, 3) := by decide +kernel
theorem dX11_pays_40 : decode cX11_pays 40 = .ok (.iconst 1, 1) := by decide +kernel
theorem dX11_pays_41 : decode cX11_pays 41 = .ok (.goto 4, 3) := by decide +kernel
theorem dX11_pays_44 : decode cX11_pays 44 = .ok (.iconst 0, 1) := by decide +kernel
theorem dX11_pays_45 : decode cX11_pays 45 = .ok (.istore 5, 2) := by decide +kernel
theorem dX11_pays_47 : decode cX11_pays 47 = .ok (.iconst 0, 1) := by decide +kernel
theorem dX11_pays_48 : decode cX11_pays 48 = .ok (.istore 6, 2) := by decide +kernel
theorem dX11_pays_50 : decode cX11_pays 50 = .ok (.iload 6, 2) := by decide +kernel
theorem dX11_pays_52 : decode cX11_pays 52 = .ok (.aload_n 0, 1) := by decide +kernel
theorem dX11_pays_53 : decode cX11_pays 53 = .ok (.getfield 14, 3) := by decide +kernel
theorem dX11_pays_56 : decode cX11_pays 56 = .ok (.iconst 1, 1) := by decide +kernel
theorem dX11_pays_57 : decode cX11_pays 57 = .ok (.iaload, 1) := by decide +kernel
theorem dX11_pays_58 : decode cX11_pays 58 = .ok (.if_icmp .ge 84, 3) := by decide +kernel
theorem dX11_pays_61 : decode cX11_pays 61 = .ok (.bipush 12, 2) := by decide +kernel
theorem dX11_pays_63 : decode cX11_pays 63 = .ok (.iload_n 2, 1) := by decide +kernel
theorem dX11_pays_64 : decode cX11_pays 64 = .ok (.imul, 1) := by decide +kernel
theorem dX11_pays_65 : decode cX11_pays 65 = .ok (.iload 6, 2) := by decide +kernel
theorem dX11_pays_67 : decode cX11_pays 67 = .ok (.iadd, 1) := by decide +kernel
theorem dX11_pays_68 : decode cX11_pays 68 = .ok (.istore 7, 2) := by decide +kernel
theorem dX11_pays_70 : decode cX11_pays 70 = .ok (.aload_n 0, 1) := by decide +kernel
theorem dX11_pays_71 : decode cX11_pays 71 = .ok (.getfield 64, 3) := by decide +kernel
theorem dX11_pays_74 : decode cX11_pays 74 = .ok (.iload 7, 2) := by decide +kernel
theorem dX11_pays_76 : decode cX11_pays 76 = .ok (.iload 5, 2) := by decide +kernel
theorem dX11_pays_78 : decode cX11_pays 78 = .ok (.ifCond .eq 13, 3) := by decide +kernel
theorem dX11_pays_81 : decode cX11_pays 81 = .ok (.aload_n 0, 1) := by decide +kernel
theorem dX11_pays_82 : decode cX11_pays 82 = .ok (.getfield 52, 3) := by decide +kernel
theorem dX11_pays_85 : decode cX11_pays 85 = .ok (.iload 7, 2) := by decide +kernel
theorem dX11_pays_87 : decode cX11_pays 87 = .ok (.laload, 1) := by decide +kernel
theorem dX11_pays_88 : decode cX11_pays 88 = .ok (.goto 19, 3) := by decide +kernel
theorem dX11_pays_91 : decode cX11_pays 91 = .ok (.aload_n 0, 1) := by decide +kernel
theorem dX11_pays_92 : decode cX11_pays 92 = .ok (.getfield 52, 3) := by decide +kernel
theorem dX11_pays_95 : decode cX11_pays 95 = .ok (.iload 7, 2) := by decide +kernel
theorem dX11_pays_97 : decode cX11_pays 97 = .ok (.laload, 1) := by decide +kernel
theorem dX11_pays_98 : decode cX11_pays 98 = .ok (.lload_n 3, 1) := by decide +kernel
theorem dX11_pays_99 : decode cX11_pays 99 = .ok (.lmul, 1) := by decide +kernel
theorem dX11_pays_100 : decode cX11_pays 100 = .ok (.aload_n 0, 1) := by decide +kernel
theorem dX11_pays_101 : decode cX11_pays 101 = .ok (.getfield 58, 3) := by decide +kernel
theorem dX11_pays_104 : decode cX11_pays 104 = .ok (.iload_n 2, 1) := by decide +kernel
theorem dX11_pays_105 : decode cX11_pays 105 = .ok (.laload, 1) := by decide +kernel
theorem dX11_pays_106 : decode cX11_pays 106 = .ok (.ldiv, 1) := by decide +kernel
theorem dX11_pays_107 : decode cX11_pays 107 = .ok (.lastore, 1) := by decide +kernel
theorem dX11_pays_108 : decode cX11_pays 108 = .ok (.iload_n 1, 1) := by decide +kernel
theorem dX11_pays_109 : decode cX11_pays 109 = .ok (.ifCond .ne 21, 3) := by decide +kernel
theorem dX11_pays_112 : decode cX11_pays 112 = .ok (.aload_n 0, 1) := by decide +kernel
theorem dX11_pays_113 : decode cX11_pays 113 = .ok (.getfield 64, 3) := by decide +kernel
theorem dX11_pays_116 : decode cX11_pays 116 = .ok (.iload 7, 2) := by decide +kernel
theorem dX11_pays_118 : decode cX11_pays 118 = .ok (.laload, 1) := by decide +kernel
theorem dX11_pays_119 : decode cX11_pays 119 = .ok (.aload_n 0, 1) := by decide +kernel
theorem dX11_pays_120 : decode cX11_pays 120 = .ok (.getfield 61, 3) := by decide +kernel
theorem dX11_pays_123 : decode cX11_pays 123 = .ok (.iload 7, 2) := by decide +kernel
theorem dX11_pays_125 : decode cX11_pays 125 = .ok (.laload, 1) := by decide +kernel
theorem dX11_pays_126 : decode cX11_pays 126 = .ok (.lcmp, 1) := by decide +kernel
theorem dX11_pays_127 : decode cX11_pays 127 = .ok (.ifCond .eq 7, 3) := by decide +kernel
theorem dX11_pays_130 : decode cX11_pays 130 = .ok (.iconst 1, 1) := by decide +kernel
theorem dX11_pays_131 : decode cX11_pays 131 = .ok (.goto 4, 3) := by decide +kernel
theorem dX11_pays_134 : decode cX11_pays 134 = .ok (.iconst 0, 1) := by decide +kernel
theorem dX11_pays_135 : decode cX11_pays 135 = .ok (.istore_n 1, 1) := by decide +kernel
theorem dX11_pays_136 : decode cX11_pays 136 = .ok (.iinc 6 1, 3) := by decide +kernel
theorem dX11_pays_139 : decode cX11_pays 139 = .ok (.goto (-89), 3) := by decide +kernel
theorem dX11_pays_142 : decode cX11_pays 142 = .ok (.iload 5, 2) := by decide +kernel
theorem dX11_pays_144 : decode cX11_pays 144 = .ok (.ifCond .eq 12, 3) := by decide +kernel
theorem dX11_pays_147 : decode cX11_pays 147 = .ok (.aload_n 0, 1) := by decide +kernel
theorem dX11_pays_148 : decode cX11_pays 148 = .ok (.getfield 55, 3) := by decide +kernel
theorem dX11_pays_151 : decode cX11_pays 151 = .ok (.iload_n 2, 1) := by decide +kernel
theorem dX11_pays_152 : decode cX11_pays 152 = .ok (.laload, 1) := by decide +kernel
theorem dX11_pays_153 : decode cX11_pays 153 = .ok (.goto 18, 3) := by decide +kernel
theorem dX11_pays_156 : decode cX11_pays 156 = .ok (.aload_n 0, 1) := by decide +kernel
theorem dX11_pays_157 : decode cX11_pays 157 = .ok (.getfield 55, 3) := by decide +kernel
theorem dX11_pays_160 : decode cX11_pays 160 = .ok (.iload_n 2, 1) := by decide +kernel
theorem dX11_pays_161 : decode cX11_pays 161 = .ok (.laload, 1) := by decide +kernel
theorem dX11_pays_162 : decode cX11_pays 162 = .ok (.lload_n 3, 1) := by decide +kernel
theorem dX11_pays_163 : decode cX11_pays 163 = .ok (.lmul, 1) := by decide +kernel
theorem dX11_pays_164 : decode cX11_pays 164 = .ok (.aload_n 0, 1) := by decide +kernel
theorem dX11_pays_165 : decode cX11_pays 165 = .ok (.getfield 58, 3) := by decide +kernel
theorem dX11_pays_168 : decode cX11_pays 168 = .ok (.iload_n 2, 1) := by decide +kernel
theorem dX11_pays_169 : decode cX11_pays 169 = .ok (.laload, 1) := by decide +kernel
theorem dX11_pays_170 : decode cX11_pays 170 = .ok (.ldiv, 1) := by decide +kernel
theorem dX11_pays_171 : decode cX11_pays 171 = .ok (.lstore 6, 2) := by decide +kernel
theorem dX11_pays_173 : decode cX11_pays 173 = .ok (.iload_n 1, 1) := by decide +kernel
theorem dX11_pays_174 : decode cX11_pays 174 = .ok (.ifCond .ne 15, 3) := by decide +kernel
theorem dX11_pays_177 : decode cX11_pays 177 = .ok (.lload 6, 2) := by decide +kernel
theorem dX11_pays_179 : decode cX11_pays 179 = .ok (.aload_n 0, 1) := by decide +kernel
theorem dX11_pays_180 : decode cX11_pays 180 = .ok (.getfield 67, 3) := by decide +kernel
theorem dX11_pays_183 : decode cX11_pays 183 = .ok (.iload_n 2, 1) := by decide +kernel
theorem dX11_pays_184 : decode cX11_pays 184 = .ok (.laload, 1) := by decide +kernel
theorem dX11_pays_185 : decode cX11_pays 185 = .ok (.lcmp, 1) := by decide +kernel
theorem dX11_pays_186 : decode cX11_pays 186 = .ok (.ifCond .eq 7, 3) := by decide +kernel
theorem dX11_pays_189 : decode cX11_pays 189 = .ok (.iconst 1, 1) := by decide +kernel
theorem dX11_pays_190 : decode cX11_pays 190 = .ok (.goto 4, 3) := by decide +kernel
theorem dX11_pays_193 : decode cX11_pays 193 = .ok (.iconst 0, 1) := by decide +kernel
theorem dX11_pays_194 : decode cX11_pays 194 = .ok (.istore_n 1, 1) := by decide +kernel
theorem dX11_pays_195 : decode cX11_pays 195 = .ok (.aload_n 0, 1) := by decide +kernel
theorem dX11_pays_196 : decode cX11_pays 196 = .ok (.getfield 67, 3) := by decide +kernel
theorem dX11_pays_199 : decode cX11_pays 199 = .ok (.iload_n 2, 1) := by decide +kernel
theorem dX11_pays_200 : decode cX11_pays 200 = .ok (.lload 6, 2) := by decide +kernel
theorem dX11_pays_202 : decode cX11_pays 202 = .ok (.lastore, 1) := by decide +kernel
theorem dX11_pays_203 : decode cX11_pays 203 = .ok (.iinc 2 1, 3) := by decide +kernel
theorem dX11_pays_206 : decode cX11_pays 206 = .ok (.goto (-202), 3) := by decide +kernel
theorem dX11_pays_209 : decode cX11_pays 209 = .ok (.iconst 0, 1) := by decide +kernel
theorem dX11_pays_210 : decode cX11_pays 210 = .ok (.istore_n 2, 1) := by decide +kernel
theorem dX11_pays_211 : decode cX11_pays 211 = .ok (.iload_n 2, 1) := by decide +kernel
theorem dX11_pays_212 : decode cX11_pays 212 = .ok (.sipush 144, 3) := by decide +kernel
theorem dX11_pays_215 : decode cX11_pays 215 = .ok (.if_icmp .ge 21, 3) := by decide +kernel
theorem dX11_pays_218 : decode cX11_pays 218 = .ok (.aload_n 0, 1) := by decide +kernel
theorem dX11_pays_219 : decode cX11_pays 219 = .ok (.getfield 61, 3) := by decide +kernel
theorem dX11_pays_222 : decode cX11_pays 222 = .ok (.iload_n 2, 1) := by decide +kernel
theorem dX11_pays_223 : decode cX11_pays 223 = .ok (.aload_n 0, 1) := by decide +kernel
theorem dX11_pays_224 : decode cX11_pays 224 = .ok (.getfield 64, 3) := by decide +kernel
theorem dX11_pays_227 : decode cX11_pays 227 = .ok (.iload_n 2, 1) := by decide +kernel
theorem dX11_pays_228 : decode cX11_pays 228 = .ok (.laload, 1) := by decide +kernel
theorem dX11_pays_229 : decode cX11_pays 229 = .ok (.lastore, 1) := by decide +kernel
theorem dX11_pays_230 : decode cX11_pays 230 = .ok (.iinc 2 1, 3) := by decide +kernel
theorem dX11_pays_233 : decode cX11_pays 233 = .ok (.goto (-22), 3) := by decide +kernel
theorem dX11_pays_236 : decode cX11_pays 236 = .ok (.iload_n 1, 1) := by decide +kernel
theorem dX11_pays_237 : decode cX11_pays 237 = .ok (.ireturn, 1) := by decide +kernel
theorem dX11_falls_0 : decode cX11_falls 0 = .ok (.aload_n 0, 1) := by decide +kernel
theorem dX11_falls_1 : decode cX11_falls 1 = .ok (.getfield 14, 3) := by decide +kernel
theorem dX11_falls_4 : decode cX11_falls 4 = .ok (.bipush 16, 2) := by decide +kernel
theorem dX11_falls_6 : decode cX11_falls 6 = .ok (.iconst 4, 1) := by decide +kernel
theorem dX11_falls_7 : decode cX11_falls 7 = .ok (.iload_n 1, 1) := by decide +kernel
theorem dX11_falls_8 : decode cX11_falls 8 = .ok (.imul, 1) := by decide +kernel
theorem dX11_falls_9 : decode cX11_falls 9 = .ok (.iadd, 1) := by decide +kernel
theorem dX11_falls_10 : decode cX11_falls 10 = .ok (.iconst 0, 1) := by decide +kernel
theorem dX11_falls_11 : decode cX11_falls 11 = .ok (.iastore, 1) := by decide +kernel
theorem dX11_falls_12 : decode cX11_falls 12 = .ok (.aload_n 0, 1) := by decide +kernel
theorem dX11_falls_13 : decode cX11_falls 13 = .ok (.getfield 14, 3) := by decide +kernel
theorem dX11_falls_16 : decode cX11_falls 16 = .ok (.bipush 16, 2) := by decide +kernel
theorem dX11_falls_18 : decode cX11_falls 18 = .ok (.iconst 4, 1) := by decide +kernel
theorem dX11_falls_19 : decode cX11_falls 19 = .ok (.iload_n 1, 1) := by decide +kernel
theorem dX11_falls_20 : decode cX11_falls 20 = .ok (.imul, 1) := by decide +kernel
theorem dX11_falls_21 : decode cX11_falls 21 = .ok (.iadd, 1) := by decide +kernel
theorem dX11_falls_22 : decode cX11_falls 22 = .ok (.iconst 2, 1) := by decide +kernel
theorem dX11_falls_23 : decode cX11_falls 23 = .ok (.iadd, 1) := by decide +kernel
theorem dX11_falls_24 : decode cX11_falls 24 = .ok (.aload_n 0, 1) := by decide +kernel
theorem dX11_falls_25 : decode cX11_falls 25 = .ok (.getfield 14, 3) := by decide +kernel
theorem dX11_falls_28 : decode cX11_falls 28 = .ok (.iconst 0, 1) := by decide +kernel
theorem dX11_falls_29 : decode cX11_falls 29 = .ok (.iaload, 1) := by decide +kernel
theorem dX11_falls_30 : decode cX11_falls 30 = .ok (.iastore, 1) := by decide +kernel
theorem dX11_falls_31 : decode cX11_falls 31 = .ok (.return_, 1) := by decide +kernel
theorem dX11_voids_0 : decode cX11_voids 0 = .ok (.sipush 192, 3) := by decide +kernel
theorem dX11_voids_3 : decode cX11_voids 3 = .ok (.bipush 12, 2) := by decide +kernel
theorem dX11_voids_5 : decode cX11_voids 5 = .ok (.iload_n 1, 1) := by decide +kernel
theorem dX11_voids_6 : decode cX11_voids 6 = .ok (.imul, 1) := by decide +kernel
theorem dX11_voids_7 : decode cX11_voids 7 = .ok (.iadd, 1) := by decide +kernel
theorem dX11_voids_8 : decode cX11_voids 8 = .ok (.istore_n 3, 1) := by decide +kernel
theorem dX11_voids_9 : decode cX11_voids 9 = .ok (.aload_n 0, 1) := by decide +kernel
theorem dX11_voids_10 : decode cX11_voids 10 = .ok (.getfield 14, 3) := by decide +kernel
theorem dX11_voids_13 : decode cX11_voids 13 = .ok (.iload_n 3, 1) := by decide +kernel
theorem dX11_voids_14 : decode cX11_voids 14 = .ok (.bipush 8, 2) := by decide +kernel
theorem dX11_voids_16 : decode cX11_voids 16 = .ok (.iadd, 1) := by decide +kernel
theorem dX11_voids_17 : decode cX11_voids 17 = .ok (.iconst 3, 1) := by decide +kernel
theorem dX11_voids_18 : decode cX11_voids 18 = .ok (.iastore, 1) := by decide +kernel
theorem dX11_voids_19 : decode cX11_voids 19 = .ok (.aload_n 0, 1) := by decide +kernel
theorem dX11_voids_20 : decode cX11_voids 20 = .ok (.getfield 14, 3) := by decide +kernel
theorem dX11_voids_23 : decode cX11_voids 23 = .ok (.iload_n 3, 1) := by decide +kernel
theorem dX11_voids_24 : decode cX11_voids 24 = .ok (.iconst 1, 1) := by decide +kernel
theorem dX11_voids_25 : decode cX11_voids 25 = .ok (.iadd, 1) := by decide +kernel
theorem dX11_voids_26 : decode cX11_voids 26 = .ok (.iaload, 1) := by decide +kernel
theorem dX11_voids_27 : decode cX11_voids 27 = .ok (.iload_n 2, 1) := by decide +kernel
theorem dX11_voids_28 : decode cX11_voids 28 = .ok (.if_icmp .ne 7, 3) := by decide +kernel
theorem dX11_voids_31 : decode cX11_voids 31 = .ok (.iconst 1, 1) := by decide +kernel
theorem dX11_voids_32 : decode cX11_voids 32 = .ok (.goto 4, 3) := by decide +kernel
theorem dX11_voids_35 : decode cX11_voids 35 = .ok (.iconst 0, 1) := by decide +kernel
theorem dX11_voids_36 : decode cX11_voids 36 = .ok (.istore 4, 2) := by decide +kernel
theorem dX11_voids_38 : decode cX11_voids 38 = .ok (.iload 4, 2) := by decide +kernel
theorem dX11_voids_40 : decode cX11_voids 40 = .ok (.ifCond .eq 14, 3) := by decide +kernel
theorem dX11_voids_43 : decode cX11_voids 43 = .ok (.aload_n 0, 1) := by decide +kernel
theorem dX11_voids_44 : decode cX11_voids 44 = .ok (.getfield 14, 3) := by decide +kernel
theorem dX11_voids_47 : decode cX11_voids 47 = .ok (.iload_n 3, 1) := by decide +kernel
theorem dX11_voids_48 : decode cX11_voids 48 = .ok (.iconst 2, 1) := by decide +kernel
theorem dX11_voids_49 : decode cX11_voids 49 = .ok (.iadd, 1) := by decide +kernel
theorem dX11_voids_50 : decode cX11_voids 50 = .ok (.iaload, 1) := by decide +kernel
theorem dX11_voids_51 : decode cX11_voids 51 = .ok (.goto 11, 3) := by decide +kernel
theorem dX11_voids_54 : decode cX11_voids 54 = .ok (.aload_n 0, 1) := by decide +kernel
theorem dX11_voids_55 : decode cX11_voids 55 = .ok (.getfield 14, 3) := by decide +kernel
theorem dX11_voids_58 : decode cX11_voids 58 = .ok (.iload_n 3, 1) := by decide +kernel
theorem dX11_voids_59 : decode cX11_voids 59 = .ok (.iconst 1, 1) := by decide +kernel
theorem dX11_voids_60 : decode cX11_voids 60 = .ok (.iadd, 1) := by decide +kernel
theorem dX11_voids_61 : decode cX11_voids 61 = .ok (.iaload, 1) := by decide +kernel
theorem dX11_voids_62 : decode cX11_voids 62 = .ok (.istore 5, 2) := by decide +kernel
theorem dX11_voids_64 : decode cX11_voids 64 = .ok (.aload_n 0, 1) := by decide +kernel
theorem dX11_voids_65 : decode cX11_voids 65 = .ok (.getfield 14, 3) := by decide +kernel
theorem dX11_voids_68 : decode cX11_voids 68 = .ok (.iload_n 3, 1) := by decide +kernel
theorem dX11_voids_69 : decode cX11_voids 69 = .ok (.iconst 4, 1) := by decide +kernel
theorem dX11_voids_70 : decode cX11_voids 70 = .ok (.iadd, 1) := by decide +kernel
theorem dX11_voids_71 : decode cX11_voids 71 = .ok (.iaload, 1) := by decide +kernel
theorem dX11_voids_72 : decode cX11_voids 72 = .ok (.i2l, 1) := by decide +kernel
theorem dX11_voids_73 : decode cX11_voids 73 = .ok (.iload 4, 2) := by decide +kernel
theorem dX11_voids_75 : decode cX11_voids 75 = .ok (.ifCond .eq 32, 3) := by decide +kernel
theorem dX11_voids_78 : decode cX11_voids 78 = .ok (.aload_n 0, 1) := by decide +kernel
theorem dX11_voids_79 : decode cX11_voids 79 = .ok (.getfield 14, 3) := by decide +kernel
theorem dX11_voids_82 : decode cX11_voids 82 = .ok (.sipush 184, 3) := by decide +kernel
theorem dX11_voids_85 : decode cX11_voids 85 = .ok (.aload_n 0, 1) := by decide +kernel
theorem dX11_voids_86 : decode cX11_voids 86 = .ok (.getfield 14, 3) := by decide +kernel
theorem dX11_voids_89 : decode cX11_voids 89 = .ok (.iload_n 3, 1) := by decide +kernel
theorem dX11_voids_90 : decode cX11_voids 90 = .ok (.iconst 3, 1) := by decide +kernel
theorem dX11_voids_91 : decode cX11_voids 91 = .ok (.iadd, 1) := by decide +kernel
theorem dX11_voids_92 : decode cX11_voids 92 = .ok (.iaload, 1) := by decide +kernel
theorem dX11_voids_93 : decode cX11_voids 93 = .ok (.iadd, 1) := by decide +kernel
theorem dX11_voids_94 : decode cX11_voids 94 = .ok (.iaload, 1) := by decide +kernel
theorem dX11_voids_95 : decode cX11_voids 95 = .ok (.aload_n 0, 1) := by decide +kernel
theorem dX11_voids_96 : decode cX11_voids 96 = .ok (.getfield 14, 3) := by decide +kernel
theorem dX11_voids_99 : decode cX11_voids 99 = .ok (.iload_n 3, 1) := by decide +kernel
theorem dX11_voids_100 : decode cX11_voids 100 = .ok (.iconst 5, 1) := by decide +kernel
theorem dX11_voids_101 : decode cX11_voids 101 = .ok (.iadd, 1) := by decide +kernel
theorem dX11_voids_102 : decode cX11_voids 102 = .ok (.iaload, 1) := by decide +kernel
theorem dX11_voids_103 : decode cX11_voids 103 = .ok (.isub, 1) := by decide +kernel
theorem dX11_voids_104 : decode cX11_voids 104 = .ok (.goto 29, 3) := by decide +kernel
theorem dX11_voids_107 : decode cX11_voids 107 = .ok (.aload_n 0, 1) := by decide +kernel
theorem dX11_voids_108 : decode cX11_voids 108 = .ok (.getfield 14, 3) := by decide +kernel
theorem dX11_voids_111 : decode cX11_voids 111 = .ok (.iload_n 3, 1) := by decide +kernel
theorem dX11_voids_112 : decode cX11_voids 112 = .ok (.iconst 5, 1) := by decide +kernel
theorem dX11_voids_113 : decode cX11_voids 113 = .ok (.iadd, 1) := by decide +kernel
theorem dX11_voids_114 : decode cX11_voids 114 = .ok (.iaload, 1) := by decide +kernel
theorem dX11_voids_115 : decode cX11_voids 115 = .ok (.aload_n 0, 1) := by decide +kernel
theorem dX11_voids_116 : decode cX11_voids 116 = .ok (.getfield 14, 3) := by decide +kernel
theorem dX11_voids_119 : decode cX11_voids 119 = .ok (.sipush 184, 3) := by decide +kernel
theorem dX11_voids_122 : decode cX11_voids 122 = .ok (.aload_n 0, 1) := by decide +kernel
theorem dX11_voids_123 : decode cX11_voids 123 = .ok (.getfield 14, 3) := by decide +kernel
theorem dX11_voids_126 : decode cX11_voids 126 = .ok (.iload_n 3, 1) := by decide +kernel
theorem dX11_voids_127 : decode cX11_voids 127 = .ok (.iconst 3, 1) := by decide +kernel
theorem dX11_voids_128 : decode cX11_voids 128 = .ok (.iadd, 1) := by decide +kernel
theorem dX11_voids_129 : decode cX11_voids 129 = .ok (.iaload, 1) := by decide +kernel
theorem dX11_voids_130 : decode cX11_voids 130 = .ok (.iadd, 1) := by decide +kernel
theorem dX11_voids_131 : decode cX11_voids 131 = .ok (.iaload, 1) := by decide +kernel
theorem dX11_voids_132 : decode cX11_voids 132 = .ok (.isub, 1) := by decide +kernel
theorem dX11_voids_133 : decode cX11_voids 133 = .ok (.i2l, 1) := by decide +kernel
theorem dX11_voids_134 : decode cX11_voids 134 = .ok (.lmul, 1) := by decide +kernel
theorem dX11_voids_135 : decode cX11_voids 135 = .ok (.lstore 6, 2) := by decide +kernel
theorem dX11_voids_137 : decode cX11_voids 137 = .ok (.lload 6, 2) := by decide +kernel
theorem dX11_voids_139 : decode cX11_voids 139 = .ok (.lconst 0, 1) := by decide +kernel
theorem dX11_voids_140 : decode cX11_voids 140 = .ok (.lcmp, 1) := by decide +kernel
theorem dX11_voids_141 : decode cX11_voids 141 = .ok (.ifCond .le 18, 3) := by decide +kernel
theorem dX11_voids_144 : decode cX11_voids 144 = .ok (.aload_n 0, 1) := by decide +kernel
theorem dX11_voids_145 : decode cX11_voids 145 = .ok (.getfield 18, 3) := by decide +kernel
theorem dX11_voids_148 : decode cX11_voids 148 = .ok (.bipush 12, 2) := by decide +kernel
theorem dX11_voids_150 : decode cX11_voids 150 = .ok (.iload 5, 2) := by decide +kernel
theorem dX11_voids_152 : decode cX11_voids 152 = .ok (.iadd, 1) := by decide +kernel
theorem dX11_voids_153 : decode cX11_voids 153 = .ok (.dup2, 1) := by decide +kernel
theorem dX11_voids_154 : decode cX11_voids 154 = .ok (.laload, 1) := by decide +kernel
theorem dX11_voids_155 : decode cX11_voids 155 = .ok (.lload 6, 2) := by decide +kernel
theorem dX11_voids_157 : decode cX11_voids 157 = .ok (.ladd, 1) := by decide +kernel
theorem dX11_voids_158 : decode cX11_voids 158 = .ok (.lastore, 1) := by decide +kernel
theorem dX11_voids_159 : decode cX11_voids 159 = .ok (.return_, 1) := by decide +kernel
theorem dX11_settles_0 : decode cX11_settles 0 = .ok (.aload_n 0, 1) := by decide +kernel
theorem dX11_settles_1 : decode cX11_settles 1 = .ok (.iload_n 1, 1) := by decide +kernel
theorem dX11_settles_2 : decode cX11_settles 2 = .ok (.invokevirtual 367, 3) := by decide +kernel
theorem dX11_settles_5 : decode cX11_settles 5 = .ok (.iconst 0, 1) := by decide +kernel
theorem dX11_settles_6 : decode cX11_settles 6 = .ok (.istore_n 2, 1) := by decide +kernel
theorem dX11_settles_7 : decode cX11_settles 7 = .ok (.iload_n 2, 1) := by decide +kernel
theorem dX11_settles_8 : decode cX11_settles 8 = .ok (.sipush 144, 3) := by decide +kernel
theorem dX11_settles_11 : decode cX11_settles 11 = .ok (.if_icmp .ge 23, 3) := by decide +kernel
theorem dX11_settles_14 : decode cX11_settles 14 = .ok (.aload_n 0, 1) := by decide +kernel
theorem dX11_settles_15 : decode cX11_settles 15 = .ok (.getfield 61, 3) := by decide +kernel
theorem dX11_settles_18 : decode cX11_settles 18 = .ok (.iload_n 2, 1) := by decide +kernel
theorem dX11_settles_19 : decode cX11_settles 19 = .ok (.lconst 0, 1) := by decide +kernel
theorem dX11_settles_20 : decode cX11_settles 20 = .ok (.lastore, 1) := by decide +kernel
theorem dX11_settles_21 : decode cX11_settles 21 = .ok (.aload_n 0, 1) := by decide +kernel
theorem dX11_settles_22 : decode cX11_settles 22 = .ok (.getfield 64, 3) := by decide +kernel
theorem dX11_settles_25 : decode cX11_settles 25 = .ok (.iload_n 2, 1) := by decide +kernel
theorem dX11_settles_26 : decode cX11_settles 26 = .ok (.lconst 0, 1) := by decide +kernel
theorem dX11_settles_27 : decode cX11_settles 27 = .ok (.lastore, 1) := by decide +kernel
theorem dX11_settles_28 : decode cX11_settles 28 = .ok (.iinc 2 1, 3) := by decide +kernel
theorem dX11_settles_31 : decode cX11_settles 31 = .ok (.goto (-24), 3) := by decide +kernel
theorem dX11_settles_34 : decode cX11_settles 34 = .ok (.iconst 0, 1) := by decide +kernel
theorem dX11_settles_35 : decode cX11_settles 35 = .ok (.istore_n 2, 1) := by decide +kernel
theorem dX11_settles_36 : decode cX11_settles 36 = .ok (.iload_n 2, 1) := by decide +kernel
theorem dX11_settles_37 : decode cX11_settles 37 = .ok (.bipush 12, 2) := by decide +kernel
theorem dX11_settles_39 : decode cX11_settles 39 = .ok (.if_icmp .ge 16, 3) := by decide +kernel
theorem dX11_settles_42 : decode cX11_settles 42 = .ok (.aload_n 0, 1) := by decide +kernel
theorem dX11_settles_43 : decode cX11_settles 43 = .ok (.getfield 67, 3) := by decide +kernel
theorem dX11_settles_46 : decode cX11_settles 46 = .ok (.iload_n 2, 1) := by decide +kernel
theorem dX11_settles_47 : decode cX11_settles 47 = .ok (.lconst 0, 1) := by decide +kernel
theorem dX11_settles_48 : decode cX11_settles 48 = .ok (.lastore, 1) := by decide +kernel
theorem dX11_settles_49 : decode cX11_settles 49 = .ok (.iinc 2 1, 3) := by decide +kernel
theorem dX11_settles_52 : decode cX11_settles 52 = .ok (.goto (-16), 3) := by decide +kernel
theorem dX11_settles_55 : decode cX11_settles 55 = .ok (.iconst 1, 1) := by decide +kernel
theorem dX11_settles_56 : decode cX11_settles 56 = .ok (.istore_n 2, 1) := by decide +kernel
theorem dX11_settles_57 : decode cX11_settles 57 = .ok (.iconst 0, 1) := by decide +kernel
theorem dX11_settles_58 : decode cX11_settles 58 = .ok (.istore_n 3, 1) := by decide +kernel
theorem dX11_settles_59 : decode cX11_settles 59 = .ok (.iload_n 3, 1) := by decide +kernel
theorem dX11_settles_60 : decode cX11_settles 60 = .ok (.sipush 1000, 3) := by decide +kernel
theorem dX11_settles_63 : decode cX11_settles 63 = .ok (.if_icmp .ge 18, 3) := by decide +kernel
theorem dX11_settles_66 : decode cX11_settles 66 = .ok (.iload_n 2, 1) := by decide +kernel
theorem dX11_settles_67 : decode cX11_settles 67 = .ok (.ifCond .eq 14, 3) := by decide +kernel
theorem dX11_settles_70 : decode cX11_settles 70 = .ok (.aload_n 0, 1) := by decide +kernel
theorem dX11_settles_71 : decode cX11_settles 71 = .ok (.invokevirtual 370, 3) := by decide +kernel
theorem dX11_settles_74 : decode cX11_settles 74 = .ok (.istore_n 2, 1) := by decide +kernel
theorem dX11_settles_75 : decode cX11_settles 75 = .ok (.iinc 3 1, 3) := by decide +kernel
theorem dX11_settles_78 : decode cX11_settles 78 = .ok (.goto (-19), 3) := by decide +kernel
theorem dX11_settles_81 : decode cX11_settles 81 = .ok (.iconst 0, 1) := by decide +kernel
theorem dX11_settles_82 : decode cX11_settles 82 = .ok (.istore_n 3, 1) := by decide +kernel
theorem dX11_settles_83 : decode cX11_settles 83 = .ok (.iload_n 3, 1) := by decide +kernel
theorem dX11_settles_84 : decode cX11_settles 84 = .ok (.aload_n 0, 1) := by decide +kernel
theorem dX11_settles_85 : decode cX11_settles 85 = .ok (.getfield 14, 3) := by decide +kernel
theorem dX11_settles_88 : decode cX11_settles 88 = .ok (.iconst 1, 1) := by decide +kernel
theorem dX11_settles_89 : decode cX11_settles 89 = .ok (.iaload, 1) := by decide +kernel
theorem dX11_settles_90 : decode cX11_settles 90 = .ok (.if_icmp .ge 127, 3) := by decide +kernel
theorem dX11_settles_93 : decode cX11_settles 93 = .ok (.aload_n 0, 1) := by decide +kernel
theorem dX11_settles_94 : decode cX11_settles 94 = .ok (.getfield 67, 3) := by decide +kernel
theorem dX11_settles_97 : decode cX11_settles 97 = .ok (.iload_n 3, 1) := by decide +kernel
theorem dX11_settles_98 : decode cX11_settles 98 = .ok (.laload, 1) := by decide +kernel
theorem dX11_settles_99 : decode cX11_settles 99 = .ok (.lstore 4, 2) := by decide +kernel
theorem dX11_settles_101 : decode cX11_settles 101 = .ok (.iconst 0, 1) := by decide +kernel
theorem dX11_settles_102 : decode cX11_settles 102 = .ok (.istore 6, 2) := by decide +kernel
theorem dX11_settles_104 : decode cX11_settles 104 = .ok (.iload 6, 2) := by decide +kernel
theorem dX11_settles_106 : decode cX11_settles 106 = .ok (.aload_n 0, 1) := by decide +kernel
theorem dX11_settles_107 : decode cX11_settles 107 = .ok (.getfield 14, 3) := by decide +kernel
theorem dX11_settles_110 : decode cX11_settles 110 = .ok (.iconst 1, 1) := by decide +kernel
theorem dX11_settles_111 : decode cX11_settles 111 = .ok (.iaload, 1) := by decide +kernel
theorem dX11_settles_112 : decode cX11_settles 112 = .ok (.if_icmp .ge 26, 3) := by decide +kernel
theorem dX11_settles_115 : decode cX11_settles 115 = .ok (.lload 4, 2) := by decide +kernel
theorem dX11_settles_117 : decode cX11_settles 117 = .ok (.aload_n 0, 1) := by decide +kernel
theorem dX11_settles_118 : decode cX11_settles 118 = .ok (.getfield 61, 3) := by decide +kernel
theorem dX11_settles_121 : decode cX11_settles 121 = .ok (.bipush 12, 2) := by decide +kernel
theorem dX11_settles_123 : decode cX11_settles 123 = .ok (.iload_n 3, 1) := by decide +kernel
theorem dX11_settles_124 : decode cX11_settles 124 = .ok (.imul, 1) := by decide +kernel
theorem dX11_settles_125 : decode cX11_settles 125 = .ok (.iload 6, 2) := by decide +kernel
theorem dX11_settles_127 : decode cX11_settles 127 = .ok (.iadd, 1) := by decide +kernel
theorem dX11_settles_128 : decode cX11_settles 128 = .ok (.laload, 1) := by decide +kernel
theorem dX11_settles_129 : decode cX11_settles 129 = .ok (.ladd, 1) := by decide +kernel
theorem dX11_settles_130 : decode cX11_settles 130 = .ok (.lstore 4, 2) := by decide +kernel
theorem dX11_settles_132 : decode cX11_settles 132 = .ok (.iinc 6 1, 3) := by decide +kernel
theorem dX11_settles_135 : decode cX11_settles 135 = .ok (.goto (-31), 3) := by decide +kernel
theorem dX11_settles_138 : decode cX11_settles 138 = .ok (.aload_n 0, 1) := by decide +kernel
theorem dX11_settles_139 : decode cX11_settles 139 = .ok (.getfield 18, 3) := by decide +kernel
theorem dX11_settles_142 : decode cX11_settles 142 = .ok (.sipush 168, 3) := by decide +kernel
theorem dX11_settles_145 : decode cX11_settles 145 = .ok (.iconst 4, 1) := by decide +kernel
theorem dX11_settles_146 : decode cX11_settles 146 = .ok (.iload_n 3, 1) := by decide +kernel
theorem dX11_settles_147 : decode cX11_settles 147 = .ok (.imul, 1) := by decide +kernel
theorem dX11_settles_148 : decode cX11_settles 148 = .ok (.iadd, 1) := by decide +kernel
theorem dX11_settles_149 : decode cX11_settles 149 = .ok (.aload_n 0, 1) := by decide +kernel
theorem dX11_settles_150 : decode cX11_settles 150 = .ok (.getfield 58, 3) := by decide +kernel
theorem dX11_settles_153 : decode cX11_settles 153 = .ok (.iload_n 3, 1) := by decide +kernel
theorem dX11_settles_154 : decode cX11_settles 154 = .ok (.laload, 1) := by decide +kernel
theorem dX11_settles_155 : decode cX11_settles 155 = .ok (.lastore, 1) := by decide +kernel
theorem dX11_settles_156 : decode cX11_settles 156 = .ok (.aload_n 0, 1) := by decide +kernel
theorem dX11_settles_157 : decode cX11_settles 157 = .ok (.getfield 18, 3) := by decide +kernel
theorem dX11_settles_160 : decode cX11_settles 160 = .ok (.sipush 168, 3) := by decide +kernel
theorem dX11_settles_163 : decode cX11_settles 163 = .ok (.iconst 4, 1) := by decide +kernel
theorem dX11_settles_164 : decode cX11_settles 164 = .ok (.iload_n 3, 1) := by decide +kernel
theorem dX11_settles_165 : decode cX11_settles 165 = .ok (.imul, 1) := by decide +kernel
theorem dX11_settles_166 : decode cX11_settles 166 = .ok (.iadd, 1) := by decide +kernel
theorem dX11_settles_167 : decode cX11_settles 167 = .ok (.iconst 1, 1) := by decide +kernel
theorem dX11_settles_168 : decode cX11_settles 168 = .ok (.iadd, 1) := by decide +kernel
theorem dX11_settles_169 : decode cX11_settles 169 = .ok (.lload 4, 2) := by decide +kernel
theorem dX11_settles_171 : decode cX11_settles 171 = .ok (.lastore, 1) := by decide +kernel
theorem dX11_settles_172 : decode cX11_settles 172 = .ok (.aload_n 0, 1) := by decide +kernel
theorem dX11_settles_173 : decode cX11_settles 173 = .ok (.getfield 18, 3) := by decide +kernel
theorem dX11_settles_176 : decode cX11_settles 176 = .ok (.sipush 168, 3) := by decide +kernel
theorem dX11_settles_179 : decode cX11_settles 179 = .ok (.iconst 4, 1) := by decide +kernel
theorem dX11_settles_180 : decode cX11_settles 180 = .ok (.iload_n 3, 1) := by decide +kernel
theorem dX11_settles_181 : decode cX11_settles 181 = .ok (.imul, 1) := by decide +kernel
theorem dX11_settles_182 : decode cX11_settles 182 = .ok (.iadd, 1) := by decide +kernel
theorem dX11_settles_183 : decode cX11_settles 183 = .ok (.iconst 2, 1) := by decide +kernel
theorem dX11_settles_184 : decode cX11_settles 184 = .ok (.iadd, 1) := by decide +kernel
theorem dX11_settles_185 : decode cX11_settles 185 = .ok (.aload_n 0, 1) := by decide +kernel
theorem dX11_settles_186 : decode cX11_settles 186 = .ok (.iload_n 3, 1) := by decide +kernel
theorem dX11_settles_187 : decode cX11_settles 187 = .ok (.invokevirtual 363, 3) := by decide +kernel
theorem dX11_settles_190 : decode cX11_settles 190 = .ok (.lastore, 1) := by decide +kernel
theorem dX11_settles_191 : decode cX11_settles 191 = .ok (.aload_n 0, 1) := by decide +kernel
theorem dX11_settles_192 : decode cX11_settles 192 = .ok (.getfield 18, 3) := by decide +kernel
theorem dX11_settles_195 : decode cX11_settles 195 = .ok (.sipush 168, 3) := by decide +kernel
theorem dX11_settles_198 : decode cX11_settles 198 = .ok (.iconst 4, 1) := by decide +kernel
theorem dX11_settles_199 : decode cX11_settles 199 = .ok (.iload_n 3, 1) := by decide +kernel
theorem dX11_settles_200 : decode cX11_settles 200 = .ok (.imul, 1) := by decide +kernel
theorem dX11_settles_201 : decode cX11_settles 201 = .ok (.iadd, 1) := by decide +kernel
theorem dX11_settles_202 : decode cX11_settles 202 = .ok (.iconst 3, 1) := by decide +kernel
theorem dX11_settles_203 : decode cX11_settles 203 = .ok (.iadd, 1) := by decide +kernel
theorem dX11_settles_204 : decode cX11_settles 204 = .ok (.aload_n 0, 1) := by decide +kernel
theorem dX11_settles_205 : decode cX11_settles 205 = .ok (.getfield 55, 3) := by decide +kernel
theorem dX11_settles_208 : decode cX11_settles 208 = .ok (.iload_n 3, 1) := by decide +kernel
theorem dX11_settles_209 : decode cX11_settles 209 = .ok (.laload, 1) := by decide +kernel
theorem dX11_settles_210 : decode cX11_settles 210 = .ok (.lastore, 1) := by decide +kernel
theorem dX11_settles_211 : decode cX11_settles 211 = .ok (.iinc 3 1, 3) := by decide +kernel
theorem dX11_settles_214 : decode cX11_settles 214 = .ok (.goto (-131), 3) := by decide +kernel
theorem dX11_settles_217 : decode cX11_settles 217 = .ok (.aload_n 0, 1) := by decide +kernel
theorem dX11_settles_218 : decode cX11_settles 218 = .ok (.getfield 14, 3) := by decide +kernel
theorem dX11_settles_221 : decode cX11_settles 221 = .ok (.bipush 9, 2) := by decide +kernel
theorem dX11_settles_223 : decode cX11_settles 223 = .ok (.iconst 1, 1) := by decide +kernel
theorem dX11_settles_224 : decode cX11_settles 224 = .ok (.iastore, 1) := by decide +kernel
theorem dX11_settles_225 : decode cX11_settles 225 = .ok (.iconst 0, 1) := by decide +kernel
theorem dX11_settles_226 : decode cX11_settles 226 = .ok (.istore_n 3, 1) := by decide +kernel
theorem dX11_settles_227 : decode cX11_settles 227 = .ok (.iload_n 3, 1) := by decide +kernel
theorem dX11_settles_228 : decode cX11_settles 228 = .ok (.aload_n 0, 1) := by decide +kernel
theorem dX11_settles_229 : decode cX11_settles 229 = .ok (.getfield 14, 3) := by decide +kernel
theorem dX11_settles_232 : decode cX11_settles 232 = .ok (.iconst 1, 1) := by decide +kernel
theorem dX11_settles_233 : decode cX11_settles 233 = .ok (.iaload, 1) := by decide +kernel
theorem dX11_settles_234 : decode cX11_settles 234 = .ok (.if_icmp .ge 86, 3) := by decide +kernel
theorem dX11_settles_237 : decode cX11_settles 237 = .ok (.aload_n 0, 1) := by decide +kernel
theorem dX11_settles_238 : decode cX11_settles 238 = .ok (.getfield 18, 3) := by decide +kernel
theorem dX11_settles_241 : decode cX11_settles 241 = .ok (.iconst 0, 1) := by decide +kernel
theorem dX11_settles_242 : decode cX11_settles 242 = .ok (.iload_n 3, 1) := by decide +kernel
theorem dX11_settles_243 : decode cX11_settles 243 = .ok (.iadd, 1) := by decide +kernel
theorem dX11_settles_244 : decode cX11_settles 244 = .ok (.dup2, 1) := by decide +kernel
theorem dX11_settles_245 : decode cX11_settles 245 = .ok (.laload, 1) := by decide +kernel
theorem dX11_settles_246 : decode cX11_settles 246 = .ok (.aload_n 0, 1) := by decide +kernel
theorem dX11_settles_247 : decode cX11_settles 247 = .ok (.getfield 18, 3) := by decide +kernel
theorem dX11_settles_250 : decode cX11_settles 250 = .ok (.sipush 168, 3) := by decide +kernel
theorem dX11_settles_253 : decode cX11_settles 253 = .ok (.iconst 4, 1) := by decide +kernel
theorem dX11_settles_254 : decode cX11_settles 254 = .ok (.iload_n 3, 1) := by decide +kernel
theorem dX11_settles_255 : decode cX11_settles 255 = .ok (.imul, 1) := by decide +kernel
theorem dX11_settles_256 : decode cX11_settles 256 = .ok (.iadd, 1) := by decide +kernel
theorem dX11_settles_257 : decode cX11_settles 257 = .ok (.iconst 2, 1) := by decide +kernel
theorem dX11_settles_258 : decode cX11_settles 258 = .ok (.iadd, 1) := by decide +kernel
theorem dX11_settles_259 : decode cX11_settles 259 = .ok (.laload, 1) := by decide +kernel
theorem dX11_settles_260 : decode cX11_settles 260 = .ok (.aload_n 0, 1) := by decide +kernel
theorem dX11_settles_261 : decode cX11_settles 261 = .ok (.getfield 18, 3) := by decide +kernel
theorem dX11_settles_264 : decode cX11_settles 264 = .ok (.sipush 168, 3) := by decide +kernel
theorem dX11_settles_267 : decode cX11_settles 267 = .ok (.iconst 4, 1) := by decide +kernel
theorem dX11_settles_268 : decode cX11_settles 268 = .ok (.iload_n 3, 1) := by decide +kernel
theorem dX11_settles_269 : decode cX11_settles 269 = .ok (.imul, 1) := by decide +kernel
theorem dX11_settles_270 : decode cX11_settles 270 = .ok (.iadd, 1) := by decide +kernel
theorem dX11_settles_271 : decode cX11_settles 271 = .ok (.iconst 1, 1) := by decide +kernel
theorem dX11_settles_272 : decode cX11_settles 272 = .ok (.iadd, 1) := by decide +kernel
theorem dX11_settles_273 : decode cX11_settles 273 = .ok (.laload, 1) := by decide +kernel
theorem dX11_settles_274 : decode cX11_settles 274 = .ok (.lsub, 1) := by decide +kernel
theorem dX11_settles_275 : decode cX11_settles 275 = .ok (.ladd, 1) := by decide +kernel
theorem dX11_settles_276 : decode cX11_settles 276 = .ok (.lastore, 1) := by decide +kernel
theorem dX11_settles_277 : decode cX11_settles 277 = .ok (.aload_n 0, 1) := by decide +kernel
theorem dX11_settles_278 : decode cX11_settles 278 = .ok (.getfield 18, 3) := by decide +kernel
theorem dX11_settles_281 : decode cX11_settles 281 = .ok (.sipush 168, 3) := by decide +kernel
theorem dX11_settles_284 : decode cX11_settles 284 = .ok (.iconst 4, 1) := by decide +kernel
theorem dX11_settles_285 : decode cX11_settles 285 = .ok (.iload_n 3, 1) := by decide +kernel
theorem dX11_settles_286 : decode cX11_settles 286 = .ok (.imul, 1) := by decide +kernel
theorem dX11_settles_287 : decode cX11_settles 287 = .ok (.iadd, 1) := by decide +kernel
theorem dX11_settles_288 : decode cX11_settles 288 = .ok (.iconst 1, 1) := by decide +kernel
theorem dX11_settles_289 : decode cX11_settles 289 = .ok (.iadd, 1) := by decide +kernel
theorem dX11_settles_290 : decode cX11_settles 290 = .ok (.laload, 1) := by decide +kernel
theorem dX11_settles_291 : decode cX11_settles 291 = .ok (.aload_n 0, 1) := by decide +kernel
theorem dX11_settles_292 : decode cX11_settles 292 = .ok (.getfield 58, 3) := by decide +kernel
theorem dX11_settles_295 : decode cX11_settles 295 = .ok (.iload_n 3, 1) := by decide +kernel
theorem dX11_settles_296 : decode cX11_settles 296 = .ok (.laload, 1) := by decide +kernel
theorem dX11_settles_297 : decode cX11_settles 297 = .ok (.lcmp, 1) := by decide +kernel
theorem dX11_settles_298 : decode cX11_settles 298 = .ok (.ifCond .ge 16, 3) := by decide +kernel
theorem dX11_settles_301 : decode cX11_settles 301 = .ok (.aload_n 0, 1) := by decide +kernel
theorem dX11_settles_302 : decode cX11_settles 302 = .ok (.iload_n 3, 1) := by decide +kernel
theorem dX11_settles_303 : decode cX11_settles 303 = .ok (.invokevirtual 120, 3) := by decide +kernel
theorem dX11_settles_306 : decode cX11_settles 306 = .ok (.ifCond .eq 8, 3) := by decide +kernel
theorem dX11_settles_309 : decode cX11_settles 309 = .ok (.aload_n 0, 1) := by decide +kernel
theorem dX11_settles_310 : decode cX11_settles 310 = .ok (.iload_n 3, 1) := by decide +kernel
theorem dX11_settles_311 : decode cX11_settles 311 = .ok (.invokevirtual 373, 3) := by decide +kernel
theorem dX11_settles_314 : decode cX11_settles 314 = .ok (.iinc 3 1, 3) := by decide +kernel
theorem dX11_settles_317 : decode cX11_settles 317 = .ok (.goto (-90), 3) := by decide +kernel
