theorem dX11_free_24 : decode cX11_free 24 = .ok (.iload_n 2, 1) := by decide +kernel
theorem dX11_free_25 : decode cX11_free 25 = .ok (.ireturn, 1) := by decide +kernel
theorem dX11_accountOf_0 : decode cX11_accountOf 0 = .ok (.iload_n 1, 1) := by decide +kernel
theorem dX11_accountOf_1 : decode cX11_accountOf 1 = .ok (.bipush 14, 2) := by decide +kernel
theorem dX11_accountOf_3 : decode cX11_accountOf 3 = .ok (.irem, 1) := by decide +kernel
theorem dX11_accountOf_4 : decode cX11_accountOf 4 = .ok (.bipush 10, 2) := by decide +kernel
theorem dX11_accountOf_6 : decode cX11_accountOf 6 = .ok (.if_icmp .ge 10, 3) := by decide +kernel
theorem dX11_accountOf_9 : decode cX11_accountOf 9 = .ok (.iload_n 1, 1) := by decide +kernel
theorem dX11_accountOf_10 : decode cX11_accountOf 10 = .ok (.bipush 14, 2) := by decide +kernel
theorem dX11_accountOf_12 : decode cX11_accountOf 12 = .ok (.idiv, 1) := by decide +kernel
theorem dX11_accountOf_13 : decode cX11_accountOf 13 = .ok (.goto 9, 3) := by decide +kernel
theorem dX11_accountOf_16 : decode cX11_accountOf 16 = .ok (.iload_n 1, 1) := by decide +kernel
theorem dX11_accountOf_17 : decode cX11_accountOf 17 = .ok (.bipush 14, 2) := by decide +kernel
theorem dX11_accountOf_19 : decode cX11_accountOf 19 = .ok (.idiv, 1) := by decide +kernel
theorem dX11_accountOf_20 : decode cX11_accountOf 20 = .ok (.iconst 1, 1) := by decide +kernel
theorem dX11_accountOf_21 : decode cX11_accountOf 21 = .ok (.iadd, 1) := by decide +kernel
theorem dX11_accountOf_22 : decode cX11_accountOf 22 = .ok (.ireturn, 1) := by decide +kernel
theorem dX11_makes_0 : decode cX11_makes 0 = .ok (.aload_n 0, 1) := by decide +kernel
theorem dX11_makes_1 : decode cX11_makes 1 = .ok (.iconst 0, 1) := by decide +kernel
theorem dX11_makes_2 : decode cX11_makes 2 = .ok (.invokevirtual 140, 3) := by decide +kernel
theorem dX11_makes_5 : decode cX11_makes 5 = .ok (.istore 7, 2) := by decide +kernel
theorem dX11_makes_7 : decode cX11_makes 7 = .ok (.sipush 192, 3) := by decide +kernel
theorem dX11_makes_10 : decode cX11_makes 10 = .ok (.bipush 12, 2) := by decide +kernel
theorem dX11_makes_12 : decode cX11_makes 12 = .ok (.iload 7, 2) := by decide +kernel
theorem dX11_makes_14 : decode cX11_makes 14 = .ok (.imul, 1) := by decide +kernel
theorem dX11_makes_15 : decode cX11_makes 15 = .ok (.iadd, 1) := by decide +kernel
theorem dX11_makes_16 : decode cX11_makes 16 = .ok (.istore 8, 2) := by decide +kernel
theorem dX11_makes_18 : decode cX11_makes 18 = .ok (.aload_n 0, 1) := by decide +kernel
theorem dX11_makes_19 : decode cX11_makes 19 = .ok (.getfield 14, 3) := by decide +kernel
theorem dX11_makes_22 : decode cX11_makes 22 = .ok (.iload 8, 2) := by decide +kernel
theorem dX11_makes_24 : decode cX11_makes 24 = .ok (.iconst 1, 1) := by decide +kernel
theorem dX11_makes_25 : decode cX11_makes 25 = .ok (.iastore, 1) := by decide +kernel
theorem dX11_makes_26 : decode cX11_makes 26 = .ok (.aload_n 0, 1) := by decide +kernel
theorem dX11_makes_27 : decode cX11_makes 27 = .ok (.getfield 14, 3) := by decide +kernel
theorem dX11_makes_30 : decode cX11_makes 30 = .ok (.iload 8, 2) := by decide +kernel
theorem dX11_makes_32 : decode cX11_makes 32 = .ok (.iconst 1, 1) := by decide +kernel
theorem dX11_makes_33 : decode cX11_makes 33 = .ok (.iadd, 1) := by decide +kernel
theorem dX11_makes_34 : decode cX11_makes 34 = .ok (.iload_n 1, 1) := by decide +kernel
theorem dX11_makes_35 : decode cX11_makes 35 = .ok (.iastore, 1) := by decide +kernel
theorem dX11_makes_36 : decode cX11_makes 36 = .ok (.aload_n 0, 1) := by decide +kernel
theorem dX11_makes_37 : decode cX11_makes 37 = .ok (.getfield 14, 3) := by decide +kernel
theorem dX11_makes_40 : decode cX11_makes 40 = .ok (.iload 8, 2) := by decide +kernel
theorem dX11_makes_42 : decode cX11_makes 42 = .ok (.iconst 2, 1) := by decide +kernel
theorem dX11_makes_43 : decode cX11_makes 43 = .ok (.iadd, 1) := by decide +kernel
theorem dX11_makes_44 : decode cX11_makes 44 = .ok (.iload_n 2, 1) := by decide +kernel
theorem dX11_makes_45 : decode cX11_makes 45 = .ok (.iastore, 1) := by decide +kernel
theorem dX11_makes_46 : decode cX11_makes 46 = .ok (.aload_n 0, 1) := by decide +kernel
theorem dX11_makes_47 : decode cX11_makes 47 = .ok (.getfield 14, 3) := by decide +kernel
theorem dX11_makes_50 : decode cX11_makes 50 = .ok (.iload 8, 2) := by decide +kernel
theorem dX11_makes_52 : decode cX11_makes 52 = .ok (.iconst 3, 1) := by decide +kernel
theorem dX11_makes_53 : decode cX11_makes 53 = .ok (.iadd, 1) := by decide +kernel
theorem dX11_makes_54 : decode cX11_makes 54 = .ok (.iload_n 3, 1) := by decide +kernel
theorem dX11_makes_55 : decode cX11_makes 55 = .ok (.iastore, 1) := by decide +kernel
theorem dX11_makes_56 : decode cX11_makes 56 = .ok (.aload_n 0, 1) := by decide +kernel
theorem dX11_makes_57 : decode cX11_makes 57 = .ok (.getfield 14, 3) := by decide +kernel
theorem dX11_makes_60 : decode cX11_makes 60 = .ok (.iload 8, 2) := by decide +kernel
theorem dX11_makes_62 : decode cX11_makes 62 = .ok (.iconst 4, 1) := by decide +kernel
theorem dX11_makes_63 : decode cX11_makes 63 = .ok (.iadd, 1) := by decide +kernel
theorem dX11_makes_64 : decode cX11_makes 64 = .ok (.iload 4, 2) := by decide +kernel
theorem dX11_makes_66 : decode cX11_makes 66 = .ok (.iastore, 1) := by decide +kernel
theorem dX11_makes_67 : decode cX11_makes 67 = .ok (.aload_n 0, 1) := by decide +kernel
theorem dX11_makes_68 : decode cX11_makes 68 = .ok (.getfield 14, 3) := by decide +kernel
theorem dX11_makes_71 : decode cX11_makes 71 = .ok (.iload 8, 2) := by decide +kernel
theorem dX11_makes_73 : decode cX11_makes 73 = .ok (.iconst 5, 1) := by decide +kernel
theorem dX11_makes_74 : decode cX11_makes 74 = .ok (.iadd, 1) := by decide +kernel
theorem dX11_makes_75 : decode cX11_makes 75 = .ok (.iload 5, 2) := by decide +kernel
theorem dX11_makes_77 : decode cX11_makes 77 = .ok (.iastore, 1) := by decide +kernel
theorem dX11_makes_78 : decode cX11_makes 78 = .ok (.aload_n 0, 1) := by decide +kernel
theorem dX11_makes_79 : decode cX11_makes 79 = .ok (.getfield 14, 3) := by decide +kernel
theorem dX11_makes_82 : decode cX11_makes 82 = .ok (.iload 8, 2) := by decide +kernel
theorem dX11_makes_84 : decode cX11_makes 84 = .ok (.bipush 6, 2) := by decide +kernel
theorem dX11_makes_86 : decode cX11_makes 86 = .ok (.iadd, 1) := by decide +kernel
theorem dX11_makes_87 : decode cX11_makes 87 = .ok (.aload_n 0, 1) := by decide +kernel
theorem dX11_makes_88 : decode cX11_makes 88 = .ok (.getfield 14, 3) := by decide +kernel
theorem dX11_makes_91 : decode cX11_makes 91 = .ok (.iconst 0, 1) := by decide +kernel
theorem dX11_makes_92 : decode cX11_makes 92 = .ok (.iaload, 1) := by decide +kernel
theorem dX11_makes_93 : decode cX11_makes 93 = .ok (.iastore, 1) := by decide +kernel
theorem dX11_makes_94 : decode cX11_makes 94 = .ok (.aload_n 0, 1) := by decide +kernel
theorem dX11_makes_95 : decode cX11_makes 95 = .ok (.getfield 14, 3) := by decide +kernel
theorem dX11_makes_98 : decode cX11_makes 98 = .ok (.iload 8, 2) := by decide +kernel
theorem dX11_makes_100 : decode cX11_makes 100 = .ok (.bipush 7, 2) := by decide +kernel
theorem dX11_makes_102 : decode cX11_makes 102 = .ok (.iadd, 1) := by decide +kernel
theorem dX11_makes_103 : decode cX11_makes 103 = .ok (.iload 6, 2) := by decide +kernel
theorem dX11_makes_105 : decode cX11_makes 105 = .ok (.iastore, 1) := by decide +kernel
theorem dX11_makes_106 : decode cX11_makes 106 = .ok (.aload_n 0, 1) := by decide +kernel
theorem dX11_makes_107 : decode cX11_makes 107 = .ok (.getfield 14, 3) := by decide +kernel
theorem dX11_makes_110 : decode cX11_makes 110 = .ok (.iload 8, 2) := by decide +kernel
theorem dX11_makes_112 : decode cX11_makes 112 = .ok (.bipush 8, 2) := by decide +kernel
theorem dX11_makes_114 : decode cX11_makes 114 = .ok (.iadd, 1) := by decide +kernel
theorem dX11_makes_115 : decode cX11_makes 115 = .ok (.iconst 0, 1) := by decide +kernel
theorem dX11_makes_116 : decode cX11_makes 116 = .ok (.iastore, 1) := by decide +kernel
theorem dX11_makes_117 : decode cX11_makes 117 = .ok (.aload_n 0, 1) := by decide +kernel
theorem dX11_makes_118 : decode cX11_makes 118 = .ok (.getfield 14, 3) := by decide +kernel
theorem dX11_makes_121 : decode cX11_makes 121 = .ok (.iload 8, 2) := by decide +kernel
theorem dX11_makes_123 : decode cX11_makes 123 = .ok (.bipush 9, 2) := by decide +kernel
theorem dX11_makes_125 : decode cX11_makes 125 = .ok (.iadd, 1) := by decide +kernel
theorem dX11_makes_126 : decode cX11_makes 126 = .ok (.iconst (-1), 1) := by decide +kernel
theorem dX11_makes_127 : decode cX11_makes 127 = .ok (.iastore, 1) := by decide +kernel
theorem dX11_makes_128 : decode cX11_makes 128 = .ok (.aload_n 0, 1) := by decide +kernel
theorem dX11_makes_129 : decode cX11_makes 129 = .ok (.getfield 14, 3) := by decide +kernel
theorem dX11_makes_132 : decode cX11_makes 132 = .ok (.iload 8, 2) := by decide +kernel
theorem dX11_makes_134 : decode cX11_makes 134 = .ok (.bipush 10, 2) := by decide +kernel
theorem dX11_makes_136 : decode cX11_makes 136 = .ok (.iadd, 1) := by decide +kernel
theorem dX11_makes_137 : decode cX11_makes 137 = .ok (.iconst (-1), 1) := by decide +kernel
theorem dX11_makes_138 : decode cX11_makes 138 = .ok (.iastore, 1) := by decide +kernel
theorem dX11_makes_139 : decode cX11_makes 139 = .ok (.aload_n 0, 1) := by decide +kernel
theorem dX11_makes_140 : decode cX11_makes 140 = .ok (.getfield 14, 3) := by decide +kernel
theorem dX11_makes_143 : decode cX11_makes 143 = .ok (.iload 8, 2) := by decide +kernel
theorem dX11_makes_145 : decode cX11_makes 145 = .ok (.bipush 11, 2) := by decide +kernel
theorem dX11_makes_147 : decode cX11_makes 147 = .ok (.iadd, 1) := by decide +kernel
theorem dX11_makes_148 : decode cX11_makes 148 = .ok (.iconst 0, 1) := by decide +kernel
theorem dX11_makes_149 : decode cX11_makes 149 = .ok (.iastore, 1) := by decide +kernel
theorem dX11_makes_150 : decode cX11_makes 150 = .ok (.iload 7, 2) := by decide +kernel
theorem dX11_makes_152 : decode cX11_makes 152 = .ok (.ireturn, 1) := by decide +kernel
theorem dX11_stand_0 : decode cX11_stand 0 = .ok (.sipush 192, 3) := by decide +kernel
theorem dX11_stand_3 : decode cX11_stand 3 = .ok (.bipush 12, 2) := by decide +kernel
theorem dX11_stand_5 : decode cX11_stand 5 = .ok (.iload_n 1, 1) := by decide +kernel
theorem dX11_stand_6 : decode cX11_stand 6 = .ok (.imul, 1) := by decide +kernel
theorem dX11_stand_7 : decode cX11_stand 7 = .ok (.iadd, 1) := by decide +kernel
theorem dX11_stand_8 : decode cX11_stand 8 = .ok (.istore_n 2, 1) := by decide +kernel
theorem dX11_stand_9 : decode cX11_stand 9 = .ok (.aload_n 0, 1) := by decide +kernel
theorem dX11_stand_10 : decode cX11_stand 10 = .ok (.getfield 14, 3) := by decide +kernel
theorem dX11_stand_13 : decode cX11_stand 13 = .ok (.iload_n 2, 1) := by decide +kernel
theorem dX11_stand_14 : decode cX11_stand 14 = .ok (.bipush 9, 2) := by decide +kernel
theorem dX11_stand_16 : decode cX11_stand 16 = .ok (.iadd, 1) := by decide +kernel
theorem dX11_stand_17 : decode cX11_stand 17 = .ok (.iaload, 1) := by decide +kernel
theorem dX11_stand_18 : decode cX11_stand 18 = .ok (.iconst (-1), 1) := by decide +kernel
theorem dX11_stand_19 : decode cX11_stand 19 = .ok (.if_icmp .ne 18, 3) := by decide +kernel
theorem dX11_stand_22 : decode cX11_stand 22 = .ok (.aload_n 0, 1) := by decide +kernel
theorem dX11_stand_23 : decode cX11_stand 23 = .ok (.getfield 14, 3) := by decide +kernel
theorem dX11_stand_26 : decode cX11_stand 26 = .ok (.iload_n 2, 1) := by decide +kernel
theorem dX11_stand_27 : decode cX11_stand 27 = .ok (.bipush 9, 2) := by decide +kernel
theorem dX11_stand_29 : decode cX11_stand 29 = .ok (.iadd, 1) := by decide +kernel
theorem dX11_stand_30 : decode cX11_stand 30 = .ok (.aload_n 0, 1) := by decide +kernel
theorem dX11_stand_31 : decode cX11_stand 31 = .ok (.getfield 14, 3) := by decide +kernel
theorem dX11_stand_34 : decode cX11_stand 34 = .ok (.iconst 0, 1) := by decide +kernel
theorem dX11_stand_35 : decode cX11_stand 35 = .ok (.iaload, 1) := by decide +kernel
theorem dX11_stand_36 : decode cX11_stand 36 = .ok (.iastore, 1) := by decide +kernel
theorem dX11_stand_37 : decode cX11_stand 37 = .ok (.aload_n 0, 1) := by decide +kernel
theorem dX11_stand_38 : decode cX11_stand 38 = .ok (.getfield 14, 3) := by decide +kernel
theorem dX11_stand_41 : decode cX11_stand 41 = .ok (.iload_n 2, 1) := by decide +kernel
theorem dX11_stand_42 : decode cX11_stand 42 = .ok (.bipush 10, 2) := by decide +kernel
theorem dX11_stand_44 : decode cX11_stand 44 = .ok (.iadd, 1) := by decide +kernel
theorem dX11_stand_45 : decode cX11_stand 45 = .ok (.iaload, 1) := by decide +kernel
theorem dX11_stand_46 : decode cX11_stand 46 = .ok (.iconst (-1), 1) := by decide +kernel
theorem dX11_stand_47 : decode cX11_stand 47 = .ok (.if_icmp .ne 18, 3) := by decide +kernel
theorem dX11_stand_50 : decode cX11_stand 50 = .ok (.aload_n 0, 1) := by decide +kernel
theorem dX11_stand_51 : decode cX11_stand 51 = .ok (.getfield 14, 3) := by decide +kernel
theorem dX11_stand_54 : decode cX11_stand 54 = .ok (.iload_n 2, 1) := by decide +kernel
theorem dX11_stand_55 : decode cX11_stand 55 = .ok (.bipush 10, 2) := by decide +kernel
theorem dX11_stand_57 : decode cX11_stand 57 = .ok (.iadd, 1) := by decide +kernel
theorem dX11_stand_58 : decode cX11_stand 58 = .ok (.aload_n 0, 1) := by decide +kernel
theorem dX11_stand_59 : decode cX11_stand 59 = .ok (.getfield 14, 3) := by decide +kernel
theorem dX11_stand_62 : decode cX11_stand 62 = .ok (.iconst 0, 1) := by decide +kernel
theorem dX11_stand_63 : decode cX11_stand 63 = .ok (.iaload, 1) := by decide +kernel
theorem dX11_stand_64 : decode cX11_stand 64 = .ok (.iastore, 1) := by decide +kernel
theorem dX11_stand_65 : decode cX11_stand 65 = .ok (.aload_n 0, 1) := by decide +kernel
theorem dX11_stand_66 : decode cX11_stand 66 = .ok (.getfield 14, 3) := by decide +kernel
theorem dX11_stand_69 : decode cX11_stand 69 = .ok (.iload_n 2, 1) := by decide +kernel
theorem dX11_stand_70 : decode cX11_stand 70 = .ok (.bipush 8, 2) := by decide +kernel
theorem dX11_stand_72 : decode cX11_stand 72 = .ok (.iadd, 1) := by decide +kernel
theorem dX11_stand_73 : decode cX11_stand 73 = .ok (.iconst 1, 1) := by decide +kernel
theorem dX11_stand_74 : decode cX11_stand 74 = .ok (.iastore, 1) := by decide +kernel
theorem dX11_stand_75 : decode cX11_stand 75 = .ok (.return_, 1) := by decide +kernel
theorem dX11_areMen_0 : decode cX11_areMen 0 = .ok (.iload_n 1, 1) := by decide +kernel
theorem dX11_areMen_1 : decode cX11_areMen 1 = .ok (.ifCond .lt 29, 3) := by decide +kernel
theorem dX11_areMen_4 : decode cX11_areMen 4 = .ok (.aload_n 0, 1) := by decide +kernel
theorem dX11_areMen_5 : decode cX11_areMen 5 = .ok (.iload_n 1, 1) := by decide +kernel
theorem dX11_areMen_6 : decode cX11_areMen 6 = .ok (.bipush 100, 2) := by decide +kernel
theorem dX11_areMen_8 : decode cX11_areMen 8 = .ok (.idiv, 1) := by decide +kernel
theorem dX11_areMen_9 : decode cX11_areMen 9 = .ok (.invokevirtual 113, 3) := by decide +kernel
theorem dX11_areMen_12 : decode cX11_areMen 12 = .ok (.ifCond .eq 18, 3) := by decide +kernel
theorem dX11_areMen_15 : decode cX11_areMen 15 = .ok (.aload_n 0, 1) := by decide +kernel
theorem dX11_areMen_16 : decode cX11_areMen 16 = .ok (.iload_n 1, 1) := by decide +kernel
theorem dX11_areMen_17 : decode cX11_areMen 17 = .ok (.bipush 100, 2) := by decide +kernel
theorem dX11_areMen_19 : decode cX11_areMen 19 = .ok (.irem, 1) := by decide +kernel
theorem dX11_areMen_20 : decode cX11_areMen 20 = .ok (.invokevirtual 113, 3) := by decide +kernel
theorem dX11_areMen_23 : decode cX11_areMen 23 = .ok (.ifCond .eq 7, 3) := by decide +kernel
theorem dX11_areMen_26 : decode cX11_areMen 26 = .ok (.iconst 1, 1) := by decide +kernel
theorem dX11_areMen_27 : decode cX11_areMen 27 = .ok (.goto 4, 3) := by decide +kernel
theorem dX11_areMen_30 : decode cX11_areMen 30 = .ok (.iconst 0, 1) := by decide +kernel
theorem dX11_areMen_31 : decode cX11_areMen 31 = .ok (.ireturn, 1) := by decide +kernel
theorem dX11_mayDeal_0 : decode cX11_mayDeal 0 = .ok (.iload_n 1, 1) := by decide +kernel
theorem dX11_mayDeal_1 : decode cX11_mayDeal 1 = .ok (.bipush 100, 2) := by decide +kernel
theorem dX11_mayDeal_3 : decode cX11_mayDeal 3 = .ok (.idiv, 1) := by decide +kernel
theorem dX11_mayDeal_4 : decode cX11_mayDeal 4 = .ok (.iload_n 1, 1) := by decide +kernel
theorem dX11_mayDeal_5 : decode cX11_mayDeal 5 = .ok (.bipush 100, 2) := by decide +kernel
theorem dX11_mayDeal_7 : decode cX11_mayDeal 7 = .ok (.irem, 1) := by decide +kernel
theorem dX11_mayDeal_8 : decode cX11_mayDeal 8 = .ok (.if_icmp .eq 29, 3) := by decide +kernel
theorem dX11_mayDeal_11 : decode cX11_mayDeal 11 = .ok (.aload_n 0, 1) := by decide +kernel
theorem dX11_mayDeal_12 : decode cX11_mayDeal 12 = .ok (.iload_n 1, 1) := by decide +kernel
theorem dX11_mayDeal_13 : decode cX11_mayDeal 13 = .ok (.bipush 100, 2) := by decide +kernel
theorem dX11_mayDeal_15 : decode cX11_mayDeal 15 = .ok (.idiv, 1) := by decide +kernel
theorem dX11_mayDeal_16 : decode cX11_mayDeal 16 = .ok (.invokevirtual 120, 3) := by decide +kernel
theorem dX11_mayDeal_19 : decode cX11_mayDeal 19 = .ok (.ifCond .eq 18, 3) := by decide +kernel
theorem dX11_mayDeal_22 : decode cX11_mayDeal 22 = .ok (.aload_n 0, 1) := by decide +kernel
theorem dX11_mayDeal_23 : decode cX11_mayDeal 23 = .ok (.iload_n 1, 1) := by decide +kernel
theorem dX11_mayDeal_24 : decode cX11_mayDeal 24 = .ok (.bipush 100, 2) := by decide +kernel
theorem dX11_mayDeal_26 : decode cX11_mayDeal 26 = .ok (.irem, 1) := by decide +kernel
theorem dX11_mayDeal_27 : decode cX11_mayDeal 27 = .ok (.invokevirtual 120, 3) := by decide +kernel
theorem dX11_mayDeal_30 : decode cX11_mayDeal 30 = .ok (.ifCond .eq 7, 3) := by decide +kernel
theorem dX11_mayDeal_33 : decode cX11_mayDeal 33 = .ok (.iconst 1, 1) := by decide +kernel
theorem dX11_mayDeal_34 : decode cX11_mayDeal 34 = .ok (.goto 4, 3) := by decide +kernel
theorem dX11_mayDeal_37 : decode cX11_mayDeal 37 = .ok (.iconst 0, 1) := by decide +kernel
theorem dX11_mayDeal_38 : decode cX11_mayDeal 38 = .ok (.ireturn, 1) := by decide +kernel
theorem dX11_bargain_0 : decode cX11_bargain 0 = .ok (.aload_n 0, 1) := by decide +kernel
theorem dX11_bargain_1 : decode cX11_bargain 1 = .ok (.iload_n 1, 1) := by decide +kernel
theorem dX11_bargain_2 : decode cX11_bargain 2 = .ok (.invokevirtual 143, 3) := by decide +kernel
theorem dX11_bargain_5 : decode cX11_bargain 5 = .ok (.ifCond .eq 11, 3) := by decide +kernel
theorem dX11_bargain_8 : decode cX11_bargain 8 = .ok (.aload_n 0, 1) := by decide +kernel
theorem dX11_bargain_9 : decode cX11_bargain 9 = .ok (.iload_n 2, 1) := by decide +kernel
theorem dX11_bargain_10 : decode cX11_bargain 10 = .ok (.invokevirtual 117, 3) := by decide +kernel
theorem dX11_bargain_13 : decode cX11_bargain 13 = .ok (.ifCond .ne 10, 3) := by decide +kernel
theorem dX11_bargain_16 : decode cX11_bargain 16 = .ok (.aload_n 0, 1) := by decide +kernel
theorem dX11_bargain_17 : decode cX11_bargain 17 = .ok (.bipush (-3), 2) := by decide +kernel
theorem dX11_bargain_19 : decode cX11_bargain 19 = .ok (.invokevirtual 108, 3) := by decide +kernel
theorem dX11_bargain_22 : decode cX11_bargain 22 = .ok (.ireturn, 1) := by decide +kernel
theorem dX11_bargain_23 : decode cX11_bargain 23 = .ok (.iload_n 3, 1) := by decide +kernel
theorem dX11_bargain_24 : decode cX11_bargain 24 = .ok (.iconst 1, 1) := by decide +kernel
theorem dX11_bargain_25 : decode cX11_bargain 25 = .ok (.bipush 99, 2) := by decide +kernel
theorem dX11_bargain_27 : decode cX11_bargain 27 = .ok (.invokestatic 104, 3) := by decide +kernel
theorem dX11_bargain_30 : decode cX11_bargain 30 = .ok (.ifCond .eq 23, 3) := by decide +kernel
theorem dX11_bargain_33 : decode cX11_bargain 33 = .ok (.iload 4, 2) := by decide +kernel
theorem dX11_bargain_35 : decode cX11_bargain 35 = .ok (.iconst 1, 1) := by decide +kernel
theorem dX11_bargain_36 : decode cX11_bargain 36 = .ok (.sipush 9999, 3) := by decide +kernel
theorem dX11_bargain_39 : decode cX11_bargain 39 = .ok (.invokestatic 104, 3) := by decide +kernel
theorem dX11_bargain_42 : decode cX11_bargain 42 = .ok (.ifCond .eq 11, 3) := by decide +kernel
theorem dX11_bargain_45 : decode cX11_bargain 45 = .ok (.aload_n 0, 1) := by decide +kernel
theorem dX11_bargain_46 : decode cX11_bargain 46 = .ok (.iload_n 1, 1) := by decide +kernel
theorem dX11_bargain_47 : decode cX11_bargain 47 = .ok (.invokevirtual 146, 3) := by decide +kernel
theorem dX11_bargain_50 : decode cX11_bargain 50 = .ok (.ifCond .ne 10, 3) := by decide +kernel
theorem dX11_bargain_53 : decode cX11_bargain 53 = .ok (.aload_n 0, 1) := by decide +kernel
theorem dX11_bargain_54 : decode cX11_bargain 54 = .ok (.bipush (-7), 2) := by decide +kernel
theorem dX11_bargain_56 : decode cX11_bargain 56 = .ok (.invokevirtual 108, 3) := by decide +kernel
theorem dX11_bargain_59 : decode cX11_bargain 59 = .ok (.ireturn, 1) := by decide +kernel
theorem dX11_bargain_60 : decode cX11_bargain 60 = .ok (.aload_n 0, 1) := by decide +kernel
theorem dX11_bargain_61 : decode cX11_bargain 61 = .ok (.iconst 0, 1) := by decide +kernel
theorem dX11_bargain_62 : decode cX11_bargain 62 = .ok (.invokevirtual 140, 3) := by decide +kernel
theorem dX11_bargain_65 : decode cX11_bargain 65 = .ok (.bipush 60, 2) := by decide +kernel
theorem dX11_bargain_67 : decode cX11_bargain 67 = .ok (.if_icmp .ne 12, 3) := by decide +kernel
theorem dX11_bargain_70 : decode cX11_bargain 70 = .ok (.aload_n 0, 1) := by decide +kernel
theorem dX11_bargain_71 : decode cX11_bargain 71 = .ok (.bipush (-8), 2) := by decide +kernel
theorem dX11_bargain_73 : decode cX11_bargain 73 = .ok (.invokevirtual 108, 3) := by decide +kernel
theorem dX11_bargain_76 : decode cX11_bargain 76 = .ok (.goto 29, 3) := by decide +kernel
theorem dX11_bargain_79 : decode cX11_bargain 79 = .ok (.aload_n 0, 1) := by decide +kernel
theorem dX11_bargain_80 : decode cX11_bargain 80 = .ok (.iload_n 1, 1) := by decide +kernel
theorem dX11_bargain_81 : decode cX11_bargain 81 = .ok (.bipush 100, 2) := by decide +kernel
theorem dX11_bargain_83 : decode cX11_bargain 83 = .ok (.idiv, 1) := by decide +kernel
theorem dX11_bargain_84 : decode cX11_bargain 84 = .ok (.iload_n 1, 1) := by decide +kernel
theorem dX11_bargain_85 : decode cX11_bargain 85 = .ok (.bipush 100, 2) := by decide +kernel
theorem dX11_bargain_87 : decode cX11_bargain 87 = .ok (.irem, 1) := by decide +kernel
theorem dX11_bargain_88 : decode cX11_bargain 88 = .ok (.iload_n 2, 1) := by decide +kernel
theorem dX11_bargain_89 : decode cX11_bargain 89 = .ok (.iload_n 3, 1) := by decide +kernel
theorem dX11_bargain_90 : decode cX11_bargain 90 = .ok (.iload 4, 2) := by decide +kernel
theorem dX11_bargain_92 : decode cX11_bargain 92 = .ok (.aload_n 0, 1) := by decide +kernel
theorem dX11_bargain_93 : decode cX11_bargain 93 = .ok (.aload_n 0, 1) := by decide +kernel
theorem dX11_bargain_94 : decode cX11_bargain 94 = .ok (.getfield 14, 3) := by decide +kernel
theorem dX11_bargain_97 : decode cX11_bargain 97 = .ok (.iconst 0, 1) := by decide +kernel
theorem dX11_bargain_98 : decode cX11_bargain 98 = .ok (.iaload, 1) := by decide +kernel
theorem dX11_bargain_99 : decode cX11_bargain 99 = .ok (.invokevirtual 149, 3) := by decide +kernel
theorem dX11_bargain_102 : decode cX11_bargain 102 = .ok (.invokevirtual 152, 3) := by decide +kernel
theorem dX11_bargain_105 : decode cX11_bargain 105 = .ok (.ireturn, 1) := by decide +kernel
theorem dX11_isBargain_0 : decode cX11_isBargain 0 = .ok (.iload_n 1, 1) := by decide +kernel
theorem dX11_isBargain_1 : decode cX11_isBargain 1 = .ok (.iconst 0, 1) := by decide +kernel
theorem dX11_isBargain_2 : decode cX11_isBargain 2 = .ok (.bipush 59, 2) := by decide +kernel
theorem dX11_isBargain_4 : decode cX11_isBargain 4 = .ok (.invokestatic 104, 3) := by decide +kernel
theorem dX11_isBargain_7 : decode cX11_isBargain 7 = .ok (.ifCond .eq 17, 3) := by decide +kernel
theorem dX11_isBargain_10 : decode cX11_isBargain 10 = .ok (.aload_n 0, 1) := by decide +kernel
theorem dX11_isBargain_11 : decode cX11_isBargain 11 = .ok (.iload_n 1, 1) := by decide +kernel
theorem dX11_isBargain_12 : decode cX11_isBargain 12 = .ok (.iconst 0, 1) := by decide +kernel
theorem dX11_isBargain_13 : decode cX11_isBargain 13 = .ok (.invokevirtual 123, 3) := by decide +kernel
theorem dX11_isBargain_16 : decode cX11_isBargain 16 = .ok (.iconst 1, 1) := by decide +kernel
theorem dX11_isBargain_17 : decode cX11_isBargain 17 = .ok (.if_icmp .ne 7, 3) := by decide +kernel
theorem dX11_isBargain_20 : decode cX11_isBargain 20 = .ok (.iconst 1, 1) := by decide +kernel
theorem dX11_isBargain_21 : decode cX11_isBargain 21 = .ok (.goto 4, 3) := by decide +kernel
theorem dX11_isBargain_24 : decode cX11_isBargain 24 = .ok (.iconst 0, 1) := by decide +kernel
theorem dX11_isBargain_25 : decode cX11_isBargain 25 = .ok (.ireturn, 1) := by decide +kernel
theorem dX11_mark_0 : decode cX11_mark 0 = .ok (.aload_n 0, 1) := by decide +kernel
theorem dX11_mark_1 : decode cX11_mark 1 = .ok (.iload_n 1, 1) := by decide +kernel
theorem dX11_mark_2 : decode cX11_mark 2 = .ok (.invokevirtual 156, 3) := by decide +kernel
theorem dX11_mark_5 : decode cX11_mark 5 = .ok (.ifCond .eq 11, 3) := by decide +kernel
theorem dX11_mark_8 : decode cX11_mark 8 = .ok (.aload_n 0, 1) := by decide +kernel
theorem dX11_mark_9 : decode cX11_mark 9 = .ok (.iload_n 2, 1) := by decide +kernel
theorem dX11_mark_10 : decode cX11_mark 10 = .ok (.invokevirtual 113, 3) := by decide +kernel
theorem dX11_mark_13 : decode cX11_mark 13 = .ok (.ifCond .ne 10, 3) := by decide +kernel
theorem dX11_mark_16 : decode cX11_mark 16 = .ok (.aload_n 0, 1) := by decide +kernel
theorem dX11_mark_17 : decode cX11_mark 17 = .ok (.bipush (-3), 2) := by decide +kernel
theorem dX11_mark_19 : decode cX11_mark 19 = .ok (.invokevirtual 108, 3) := by decide +kernel
theorem dX11_mark_22 : decode cX11_mark 22 = .ok (.ireturn, 1) := by decide +kernel
theorem dX11_mark_23 : decode cX11_mark 23 = .ok (.aload_n 0, 1) := by decide +kernel
theorem dX11_mark_24 : decode cX11_mark 24 = .ok (.iload_n 1, 1) := by decide +kernel
theorem dX11_mark_25 : decode cX11_mark 25 = .ok (.iconst 1, 1) := by decide +kernel
theorem dX11_mark_26 : decode cX11_mark 26 = .ok (.invokevirtual 123, 3) := by decide +kernel
theorem dX11_mark_29 : decode cX11_mark 29 = .ok (.iload_n 2, 1) := by decide +kernel
theorem dX11_mark_30 : decode cX11_mark 30 = .ok (.if_icmp .eq 20, 3) := by decide +kernel
theorem dX11_mark_33 : decode cX11_mark 33 = .ok (.aload_n 0, 1) := by decide +kernel
theorem dX11_mark_34 : decode cX11_mark 34 = .ok (.iload_n 1, 1) := by decide +kernel
theorem dX11_mark_35 : decode cX11_mark 35 = .ok (.iconst 2, 1) := by decide +kernel
theorem dX11_mark_36 : decode cX11_mark 36 = .ok (.invokevirtual 123, 3) := by decide +kernel
theorem dX11_mark_39 : decode cX11_mark 39 = .ok (.iload_n 2, 1) := by decide +kernel
theorem dX11_mark_40 : decode cX11_mark 40 = .ok (.if_icmp .eq 10, 3) := by decide +kernel
theorem dX11_mark_43 : decode cX11_mark 43 = .ok (.aload_n 0, 1) := by decide +kernel
theorem dX11_mark_44 : decode cX11_mark 44 = .ok (.bipush (-5), 2) := by decide +kernel
theorem dX11_mark_46 : decode cX11_mark 46 = .ok (.invokevirtual 108, 3) := by decide +kernel
theorem dX11_mark_49 : decode cX11_mark 49 = .ok (.ireturn, 1) := by decide +kernel
theorem dX11_mark_50 : decode cX11_mark 50 = .ok (.sipush 192, 3) := by decide +kernel
theorem dX11_mark_53 : decode cX11_mark 53 = .ok (.bipush 12, 2) := by decide +kernel
theorem dX11_mark_55 : decode cX11_mark 55 = .ok (.iload_n 1, 1) := by decide +kernel
theorem dX11_mark_56 : decode cX11_mark 56 = .ok (.imul, 1) := by decide +kernel
theorem dX11_mark_57 : decode cX11_mark 57 = .ok (.iadd, 1) := by decide +kernel
theorem dX11_mark_58 : decode cX11_mark 58 = .ok (.aload_n 0, 1) := by decide +kernel
theorem dX11_mark_59 : decode cX11_mark 59 = .ok (.iload_n 1, 1) := by decide +kernel
theorem dX11_mark_60 : decode cX11_mark 60 = .ok (.iconst 1, 1) := by decide +kernel
theorem dX11_mark_61 : decode cX11_mark 61 = .ok (.invokevirtual 123, 3) := by decide +kernel
theorem dX11_mark_64 : decode cX11_mark 64 = .ok (.iload_n 2, 1) := by decide +kernel
theorem dX11_mark_65 : decode cX11_mark 65 = .ok (.if_icmp .ne 8, 3) := by decide +kernel
theorem dX11_mark_68 : decode cX11_mark 68 = .ok (.bipush 9, 2) := by decide +kernel
theorem dX11_mark_70 : decode cX11_mark 70 = .ok (.goto 5, 3) := by decide +kernel
theorem dX11_mark_73 : decode cX11_mark 73 = .ok (.bipush 10, 2) := by decide +kernel
theorem dX11_mark_75 : decode cX11_mark 75 = .ok (.iadd, 1) := by decide +kernel
theorem dX11_mark_76 : decode cX11_mark 76 = .ok (.istore_n 3, 1) := by decide +kernel
theorem dX11_mark_77 : decode cX11_mark 77 = .ok (.aload_n 0, 1) := by decide +kernel
theorem dX11_mark_78 : decode cX11_mark 78 = .ok (.iload_n 1, 1) := by decide +kernel
theorem dX11_mark_79 : decode cX11_mark 79 = .ok (.bipush 8, 2) := by decide +kernel
theorem dX11_mark_81 : decode cX11_mark 81 = .ok (.invokevirtual 123, 3) := by decide +kernel
theorem dX11_mark_84 : decode cX11_mark 84 = .ok (.ifCond .ne 13, 3) := by decide +kernel
theorem dX11_mark_87 : decode cX11_mark 87 = .ok (.aload_n 0, 1) := by decide +kernel
theorem dX11_mark_88 : decode cX11_mark 88 = .ok (.getfield 14, 3) := by decide +kernel
theorem dX11_mark_91 : decode cX11_mark 91 = .ok (.iload_n 3, 1) := by decide +kernel
theorem dX11_mark_92 : decode cX11_mark 92 = .ok (.iaload, 1) := by decide +kernel
theorem dX11_mark_93 : decode cX11_mark 93 = .ok (.iconst (-1), 1) := by decide +kernel
theorem dX11_mark_94 : decode cX11_mark 94 = .ok (.if_icmp .eq 10, 3) := by decide +kernel
theorem dX11_mark_97 : decode cX11_mark 97 = .ok (.aload_n 0, 1) := by decide +kernel
theorem dX11_mark_98 : decode cX11_mark 98 = .ok (.bipush (-7), 2) := by decide +kernel
theorem dX11_mark_100 : decode cX11_mark 100 = .ok (.invokevirtual 108, 3) := by decide +kernel
theorem dX11_mark_103 : decode cX11_mark 103 = .ok (.ireturn, 1) := by decide +kernel
theorem dX11_mark_104 : decode cX11_mark 104 = .ok (.aload_n 0, 1) := by decide +kernel
theorem dX11_mark_105 : decode cX11_mark 105 = .ok (.getfield 14, 3) := by decide +kernel
theorem dX11_mark_108 : decode cX11_mark 108 = .ok (.iload_n 3, 1) := by decide +kernel
theorem dX11_mark_109 : decode cX11_mark 109 = .ok (.aload_n 0, 1) := by decide +kernel
theorem dX11_mark_110 : decode cX11_mark 110 = .ok (.getfield 14, 3) := by decide +kernel
theorem dX11_mark_113 : decode cX11_mark 113 = .ok (.iconst 0, 1) := by decide +kernel
theorem dX11_mark_114 : decode cX11_mark 114 = .ok (.iaload, 1) := by decide +kernel
theorem dX11_mark_115 : decode cX11_mark 115 = .ok (.iastore, 1) := by decide +kernel
theorem dX11_mark_116 : decode cX11_mark 116 = .ok (.aload_n 0, 1) := by decide +kernel
theorem dX11_mark_117 : decode cX11_mark 117 = .ok (.iload_n 1, 1) := by decide +kernel
theorem dX11_mark_118 : decode cX11_mark 118 = .ok (.bipush 9, 2) := by decide +kernel
theorem dX11_mark_120 : decode cX11_mark 120 = .ok (.invokevirtual 123, 3) := by decide +kernel
theorem dX11_mark_123 : decode cX11_mark 123 = .ok (.iconst (-1), 1) := by decide +kernel
theorem dX11_mark_124 : decode cX11_mark 124 = .ok (.if_icmp .eq 14, 3) := by decide +kernel
theorem dX11_mark_127 : decode cX11_mark 127 = .ok (.aload_n 0, 1) := by decide +kernel
theorem dX11_mark_128 : decode cX11_mark 128 = .ok (.iload_n 1, 1) := by decide +kernel
theorem dX11_mark_129 : decode cX11_mark 129 = .ok (.bipush 10, 2) := by decide +kernel
theorem dX11_mark_131 : decode cX11_mark 131 = .ok (.invokevirtual 123, 3) := by decide +kernel
theorem dX11_mark_134 : decode cX11_mark 134 = .ok (.iconst (-1), 1) := by decide +kernel
theorem dX11_mark_135 : decode cX11_mark 135 = .ok (.if_icmp .ne 5, 3) := by decide +kernel
theorem dX11_mark_138 : decode cX11_mark 138 = .ok (.iconst 0, 1) := by decide +kernel
theorem dX11_mark_139 : decode cX11_mark 139 = .ok (.ireturn, 1) := by decide +kernel
theorem dX11_mark_140 : decode cX11_mark 140 = .ok (.aload_n 0, 1) := by decide +kernel
theorem dX11_mark_141 : decode cX11_mark 141 = .ok (.getfield 14, 3) := by decide +kernel
theorem dX11_mark_144 : decode cX11_mark 144 = .ok (.sipush 192, 3) := by decide +kernel
theorem dX11_mark_147 : decode cX11_mark 147 = .ok (.bipush 12, 2) := by decide +kernel
theorem dX11_mark_149 : decode cX11_mark 149 = .ok (.iload_n 1, 1) := by decide +kernel
theorem dX11_mark_150 : decode cX11_mark 150 = .ok (.imul, 1) := by decide +kernel
theorem dX11_mark_151 : decode cX11_mark 151 = .ok (.iadd, 1) := by decide +kernel
theorem dX11_mark_152 : decode cX11_mark 152 = .ok (.bipush 8, 2) := by decide +kernel
theorem dX11_mark_154 : decode cX11_mark 154 = .ok (.iadd, 1) := by decide +kernel
theorem dX11_mark_155 : decode cX11_mark 155 = .ok (.iconst 1, 1) := by decide +kernel
theorem dX11_mark_156 : decode cX11_mark 156 = .ok (.iastore, 1) := by decide +kernel
theorem dX11_mark_157 : decode cX11_mark 157 = .ok (.iconst 1, 1) := by decide +kernel
theorem dX11_mark_158 : decode cX11_mark 158 = .ok (.ireturn, 1) := by decide +kernel
theorem dX11_clear_0 : decode cX11_clear 0 = .ok (.aload_n 0, 1) := by decide +kernel
theorem dX11_clear_1 : decode cX11_clear 1 = .ok (.iload_n 1, 1) := by decide +kernel
theorem dX11_clear_2 : decode cX11_clear 2 = .ok (.invokevirtual 156, 3) := by decide +kernel
theorem dX11_clear_5 : decode cX11_clear 5 = .ok (.ifCond .ne 10, 3) := by decide +kernel
theorem dX11_clear_8 : decode cX11_clear 8 = .ok (.aload_n 0, 1) := by decide +kernel
theorem dX11_clear_9 : decode cX11_clear 9 = .ok (.bipush (-3), 2) := by decide +kernel
theorem dX11_clear_11 : decode cX11_clear 11 = .ok (.invokevirtual 108, 3) := by decide +kernel
theorem dX11_clear_14 : decode cX11_clear 14 = .ok (.ireturn, 1) := by decide +kernel
theorem dX11_clear_15 : decode cX11_clear 15 = .ok (.aload_n 0, 1) := by decide +kernel
theorem dX11_clear_16 : decode cX11_clear 16 = .ok (.iload_n 1, 1) := by decide +kernel
theorem dX11_clear_17 : decode cX11_clear 17 = .ok (.invokevirtual 127, 3) := by decide +kernel
theorem dX11_clear_20 : decode cX11_clear 20 = .ok (.ifCond .eq 10, 3) := by decide +kernel
theorem dX11_clear_23 : decode cX11_clear 23 = .ok (.aload_n 0, 1) := by decide +kernel
theorem dX11_clear_24 : decode cX11_clear 24 = .ok (.bipush (-7), 2) := by decide +kernel
theorem dX11_clear_26 : decode cX11_clear 26 = .ok (.invokevirtual 108, 3) := by decide +kernel
theorem dX11_clear_29 : decode cX11_clear 29 = .ok (.ireturn, 1) := by decide +kernel
theorem dX11_clear_30 : decode cX11_clear 30 = .ok (.aload_n 0, 1) := by decide +kernel
theorem dX11_clear_31 : decode cX11_clear 31 = .ok (.getfield 14, 3) := by decide +kernel
theorem dX11_clear_34 : decode cX11_clear 34 = .ok (.sipush 192, 3) := by decide +kernel
theorem dX11_clear_37 : decode cX11_clear 37 = .ok (.bipush 12, 2) := by decide +kernel
theorem dX11_clear_39 : decode cX11_clear 39 = .ok (.iload_n 1, 1) := by decide +kernel
theorem dX11_clear_40 : decode cX11_clear 40 = .ok (.imul, 1) := by decide +kernel
theorem dX11_clear_41 : decode cX11_clear 41 = .ok (.iadd, 1) := by decide +kernel
theorem dX11_clear_42 : decode cX11_clear 42 = .ok (.iconst 0, 1) := by decide +kernel
theorem dX11_clear_43 : decode cX11_clear 43 = .ok (.iastore, 1) := by decide +kernel
theorem dX11_clear_44 : decode cX11_clear 44 = .ok (.aload_n 0, 1) := by decide +kernel
theorem dX11_clear_45 : decode cX11_clear 45 = .ok (.iload_n 1, 1) := by decide +kernel
theorem dX11_clear_46 : decode cX11_clear 46 = .ok (.bipush 8, 2) := by decide +kernel
theorem dX11_clear_48 : decode cX11_clear 48 = .ok (.invokevirtual 123, 3) := by decide +kernel
theorem dX11_clear_51 : decode cX11_clear 51 = .ok (.ireturn, 1) := by decide +kernel
theorem dX11_of_0 : decode cX11_of 0 = .ok (.aload_n 0, 1) := by decide +kernel
theorem dX11_of_1 : decode cX11_of 1 = .ok (.iload_n 1, 1) := by decide +kernel
theorem dX11_of_2 : decode cX11_of 2 = .ok (.invokevirtual 156, 3) := by decide +kernel
theorem dX11_of_5 : decode cX11_of 5 = .ok (.ifCond .ne 10, 3) := by decide +kernel
theorem dX11_of_8 : decode cX11_of 8 = .ok (.aload_n 0, 1) := by decide +kernel
theorem dX11_of_9 : decode cX11_of 9 = .ok (.bipush (-3), 2) := by decide +kernel
theorem dX11_of_11 : decode cX11_of 11 = .ok (.invokevirtual 108, 3) := by decide +kernel
theorem dX11_of_14 : decode cX11_of 14 = .ok (.ireturn, 1) := by decide +kernel
theorem dX11_of_15 : decode cX11_of 15 = .ok (.iload_n 2, 1) := by decide +kernel
theorem dX11_of_16 : decode cX11_of 16 = .ok (.iconst 0, 1) := by decide +kernel
theorem dX11_of_17 : decode cX11_of 17 = .ok (.bipush 10, 2) := by decide +kernel
theorem dX11_of_19 : decode cX11_of 19 = .ok (.invokestatic 104, 3) := by decide +kernel
theorem dX11_of_22 : decode cX11_of 22 = .ok (.ifCond .eq 14, 3) := by decide +kernel
theorem dX11_of_25 : decode cX11_of 25 = .ok (.aload_n 0, 1) := by decide +kernel
theorem dX11_of_26 : decode cX11_of 26 = .ok (.iload_n 1, 1) := by decide +kernel
theorem dX11_of_27 : decode cX11_of 27 = .ok (.iconst 1, 1) := by decide +kernel
theorem dX11_of_28 : decode cX11_of 28 = .ok (.iload_n 2, 1) := by decide +kernel
theorem dX11_of_29 : decode cX11_of 29 = .ok (.iadd, 1) := by decide +kernel
theorem dX11_of_30 : decode cX11_of 30 = .ok (.invokevirtual 123, 3) := by decide +kernel
theorem dX11_of_33 : decode cX11_of 33 = .ok (.goto 9, 3) := by decide +kernel
theorem dX11_of_36 : decode cX11_of 36 = .ok (.aload_n 0, 1) := by decide +kernel
theorem dX11_of_37 : decode cX11_of 37 = .ok (.bipush (-7), 2) := by decide +kernel
theorem dX11_of_39 : decode cX11_of 39 = .ok (.invokevirtual 108, 3) := by decide +kernel
theorem dX11_of_42 : decode cX11_of 42 = .ok (.ireturn, 1) := by decide +kernel
theorem dX11_knew_0 : decode cX11_knew 0 = .ok (.aload_n 0, 1) := by decide +kernel
theorem dX11_knew_1 : decode cX11_knew 1 = .ok (.iload_n 1, 1) := by decide +kernel
theorem dX11_knew_2 : decode cX11_knew 2 = .ok (.invokevirtual 113, 3) := by decide +kernel
theorem dX11_knew_5 : decode cX11_knew 5 = .ok (.ifCond .eq 11, 3) := by decide +kernel
theorem dX11_knew_8 : decode cX11_knew 8 = .ok (.aload_n 0, 1) := by decide +kernel
theorem dX11_knew_9 : decode cX11_knew 9 = .ok (.iload_n 2, 1) := by decide +kernel
theorem dX11_knew_10 : decode cX11_knew 10 = .ok (.invokevirtual 117, 3) := by decide +kernel
theorem dX11_knew_13 : decode cX11_knew 13 = .ok (.ifCond .ne 10, 3) := by decide +kernel
theorem dX11_knew_16 : decode cX11_knew 16 = .ok (.aload_n 0, 1) := by decide +kernel
theorem dX11_knew_17 : decode cX11_knew 17 = .ok (.bipush (-3), 2) := by decide +kernel
theorem dX11_knew_19 : decode cX11_knew 19 = .ok (.invokevirtual 130, 3) := by decide +kernel
theorem dX11_knew_22 : decode cX11_knew 22 = .ok (.ireturn, 1) := by decide +kernel
theorem dX11_knew_23 : decode cX11_knew 23 = .ok (.iload_n 3, 1) := by decide +kernel
theorem dX11_knew_24 : decode cX11_knew 24 = .ok (.ifCond .lt 18, 3) := by decide +kernel
theorem dX11_knew_27 : decode cX11_knew 27 = .ok (.iload 4, 2) := by decide +kernel
theorem dX11_knew_29 : decode cX11_knew 29 = .ok (.iconst 0, 1) := by decide +kernel
theorem dX11_knew_30 : decode cX11_knew 30 = .ok (.aload_n 0, 1) := by decide +kernel
theorem dX11_knew_31 : decode cX11_knew 31 = .ok (.getfield 14, 3) := by decide +kernel
theorem dX11_knew_34 : decode cX11_knew 34 = .ok (.iconst 0, 1) := by decide +kernel
theorem dX11_knew_35 : decode cX11_knew 35 = .ok (.iaload, 1) := by decide +kernel
theorem dX11_knew_36 : decode cX11_knew 36 = .ok (.invokestatic 104, 3) := by decide +kernel
theorem dX11_knew_39 : decode cX11_knew 39 = .ok (.ifCond .ne 10, 3) := by decide +kernel
theorem dX11_knew_42 : decode cX11_knew 42 = .ok (.aload_n 0, 1) := by decide +kernel
theorem dX11_knew_43 : decode cX11_knew 43 = .ok (.bipush (-7), 2) := by decide +kernel
theorem dX11_knew_45 : decode cX11_knew 45 = .ok (.invokevirtual 130, 3) := by decide +kernel
theorem dX11_knew_48 : decode cX11_knew 48 = .ok (.ireturn, 1) := by decide +kernel
theorem dX11_knew_49 : decode cX11_knew 49 = .ok (.iconst 0, 1) := by decide +kernel
theorem dX11_knew_50 : decode cX11_knew 50 = .ok (.istore 5, 2) := by decide +kernel
theorem dX11_knew_52 : decode cX11_knew 52 = .ok (.iconst 0, 1) := by decide +kernel
theorem dX11_knew_53 : decode cX11_knew 53 = .ok (.istore 6, 2) := by decide +kernel
theorem dX11_knew_55 : decode cX11_knew 55 = .ok (.iload 6, 2) := by decide +kernel
theorem dX11_knew_57 : decode cX11_knew 57 = .ok (.bipush 60, 2) := by decide +kernel
theorem dX11_knew_59 : decode cX11_knew 59 = .ok (.if_icmp .ge 148, 3) := by decide +kernel
theorem dX11_knew_62 : decode cX11_knew 62 = .ok (.aload_n 0, 1) := by decide +kernel
theorem dX11_knew_63 : decode cX11_knew 63 = .ok (.iload 6, 2) := by decide +kernel
theorem dX11_knew_65 : decode cX11_knew 65 = .ok (.invokevirtual 127, 3) := by decide +kernel
theorem dX11_knew_68 : decode cX11_knew 68 = .ok (.ifCond .eq 133, 3) := by decide +kernel
theorem dX11_knew_71 : decode cX11_knew 71 = .ok (.aload_n 0, 1) := by decide +kernel
theorem dX11_knew_72 : decode cX11_knew 72 = .ok (.iload 6, 2) := by decide +kernel
theorem dX11_knew_74 : decode cX11_knew 74 = .ok (.iconst 3, 1) := by decide +kernel
theorem dX11_knew_75 : decode cX11_knew 75 = .ok (.invokevirtual 123, 3) := by decide +kernel
theorem dX11_knew_78 : decode cX11_knew 78 = .ok (.iload_n 2, 1) := by decide +kernel
theorem dX11_knew_79 : decode cX11_knew 79 = .ok (.if_icmp .ne 122, 3) := by decide +kernel
theorem dX11_knew_82 : decode cX11_knew 82 = .ok (.aload_n 0, 1) := by decide +kernel
theorem dX11_knew_83 : decode cX11_knew 83 = .ok (.iload 6, 2) := by decide +kernel
theorem dX11_knew_85 : decode cX11_knew 85 = .ok (.bipush 7, 2) := by decide +kernel
theorem dX11_knew_87 : decode cX11_knew 87 = .ok (.invokevirtual 123, 3) := by decide +kernel
theorem dX11_knew_90 : decode cX11_knew 90 = .ok (.iload_n 3, 1) := by decide +kernel
theorem dX11_knew_91 : decode cX11_knew 91 = .ok (.if_icmp .ne 110, 3) := by decide +kernel
theorem dX11_knew_94 : decode cX11_knew 94 = .ok (.aload_n 0, 1) := by decide +kernel
theorem dX11_knew_95 : decode cX11_knew 95 = .ok (.iload 6, 2) := by decide +kernel
theorem dX11_knew_97 : decode cX11_knew 97 = .ok (.bipush 9, 2) := by decide +kernel
theorem dX11_knew_99 : decode cX11_knew 99 = .ok (.invokevirtual 123, 3) := by decide +kernel
theorem dX11_knew_102 : decode cX11_knew 102 = .ok (.iconst (-1), 1) := by decide +kernel
theorem dX11_knew_103 : decode cX11_knew 103 = .ok (.if_icmp .eq 98, 3) := by decide +kernel
theorem dX11_knew_106 : decode cX11_knew 106 = .ok (.aload_n 0, 1) := by decide +kernel
theorem dX11_knew_107 : decode cX11_knew 107 = .ok (.iload 6, 2) := by decide +kernel
theorem dX11_knew_109 : decode cX11_knew 109 = .ok (.bipush 9, 2) := by decide +kernel
theorem dX11_knew_111 : decode cX11_knew 111 = .ok (.invokevirtual 123, 3) := by decide +kernel
theorem dX11_knew_114 : decode cX11_knew 114 = .ok (.iload 4, 2) := by decide +kernel
theorem dX11_knew_116 : decode cX11_knew 116 = .ok (.if_icmp .gt 85, 3) := by decide +kernel
theorem dX11_knew_119 : decode cX11_knew 119 = .ok (.aload_n 0, 1) := by decide +kernel
theorem dX11_knew_120 : decode cX11_knew 120 = .ok (.iload 6, 2) := by decide +kernel
theorem dX11_knew_122 : decode cX11_knew 122 = .ok (.bipush 10, 2) := by decide +kernel
theorem dX11_knew_124 : decode cX11_knew 124 = .ok (.invokevirtual 123, 3) := by decide +kernel
theorem dX11_knew_127 : decode cX11_knew 127 = .ok (.iconst (-1), 1) := by decide +kernel
theorem dX11_knew_128 : decode cX11_knew 128 = .ok (.if_icmp .eq 73, 3) := by decide +kernel
theorem dX11_knew_131 : decode cX11_knew 131 = .ok (.aload_n 0, 1) := by decide +kernel
theorem dX11_knew_132 : decode cX11_knew 132 = .ok (.iload 6, 2) := by decide +kernel
theorem dX11_knew_134 : decode cX11_knew 134 = .ok (.bipush 10, 2) := by decide +kernel
theorem dX11_knew_136 : decode cX11_knew 136 = .ok (.invokevirtual 123, 3) := by decide +kernel
theorem dX11_knew_139 : decode cX11_knew 139 = .ok (.iload 4, 2) := by decide +kernel
theorem dX11_knew_141 : decode cX11_knew 141 = .ok (.if_icmp .le 6, 3) := by decide +kernel
theorem dX11_knew_144 : decode cX11_knew 144 = .ok (.goto 57, 3) := by decide +kernel
theorem dX11_knew_147 : decode cX11_knew 147 = .ok (.iload 5, 2) := by decide +kernel
theorem dX11_knew_149 : decode cX11_knew 149 = .ok (.aload_n 0, 1) := by decide +kernel
theorem dX11_knew_150 : decode cX11_knew 150 = .ok (.iload 6, 2) := by decide +kernel
theorem dX11_knew_152 : decode cX11_knew 152 = .ok (.iconst 2, 1) := by decide +kernel
theorem dX11_knew_153 : decode cX11_knew 153 = .ok (.invokevirtual 123, 3) := by decide +kernel
theorem dX11_knew_156 : decode cX11_knew 156 = .ok (.iload_n 1, 1) := by decide +kernel
theorem dX11_knew_157 : decode cX11_knew 157 = .ok (.if_icmp .ne 13, 3) := by decide +kernel
theorem dX11_knew_160 : decode cX11_knew 160 = .ok (.aload_n 0, 1) := by decide +kernel
theorem dX11_knew_161 : decode cX11_knew 161 = .ok (.iload 6, 2) := by decide +kernel
theorem dX11_knew_163 : decode cX11_knew 163 = .ok (.iconst 4, 1) := by decide +kernel
theorem dX11_knew_164 : decode cX11_knew 164 = .ok (.invokevirtual 123, 3) := by decide +kernel
theorem dX11_knew_167 : decode cX11_knew 167 = .ok (.goto 4, 3) := by decide +kernel
theorem dX11_knew_170 : decode cX11_knew 170 = .ok (.iconst 0, 1) := by decide +kernel
theorem dX11_knew_171 : decode cX11_knew 171 = .ok (.iadd, 1) := by decide +kernel
theorem dX11_knew_172 : decode cX11_knew 172 = .ok (.istore 5, 2) := by decide +kernel
theorem dX11_knew_174 : decode cX11_knew 174 = .ok (.iload 5, 2) := by decide +kernel
theorem dX11_knew_176 : decode cX11_knew 176 = .ok (.aload_n 0, 1) := by decide +kernel
theorem dX11_knew_177 : decode cX11_knew 177 = .ok (.iload 6, 2) := by decide +kernel
theorem dX11_knew_179 : decode cX11_knew 179 = .ok (.iconst 1, 1) := by decide +kernel
theorem dX11_knew_180 : decode cX11_knew 180 = .ok (.invokevirtual 123, 3) := by decide +kernel
theorem dX11_knew_183 : decode cX11_knew 183 = .ok (.iload_n 1, 1) := by decide +kernel
theorem dX11_knew_184 : decode cX11_knew 184 = .ok (.if_icmp .ne 13, 3) := by decide +kernel
theorem dX11_knew_187 : decode cX11_knew 187 = .ok (.aload_n 0, 1) := by decide +kernel
theorem dX11_knew_188 : decode cX11_knew 188 = .ok (.iload 6, 2) := by decide +kernel
theorem dX11_knew_190 : decode cX11_knew 190 = .ok (.iconst 4, 1) := by decide +kernel
theorem dX11_knew_191 : decode cX11_knew 191 = .ok (.invokevirtual 123, 3) := by decide +kernel
theorem dX11_knew_194 : decode cX11_knew 194 = .ok (.goto 4, 3) := by decide +kernel
theorem dX11_knew_197 : decode cX11_knew 197 = .ok (.iconst 0, 1) := by decide +kernel
theorem dX11_knew_198 : decode cX11_knew 198 = .ok (.isub, 1) := by decide +kernel
theorem dX11_knew_199 : decode cX11_knew 199 = .ok (.istore 5, 2) := by decide +kernel
theorem dX11_knew_201 : decode cX11_knew 201 = .ok (.iinc 6 1, 3) := by decide +kernel
theorem dX11_knew_204 : decode cX11_knew 204 = .ok (.goto (-149), 3) := by decide +kernel
theorem dX11_knew_207 : decode cX11_knew 207 = .ok (.iload 5, 2) := by decide +kernel
theorem dX11_knew_209 : decode cX11_knew 209 = .ok (.ireturn, 1) := by decide +kernel
theorem dX11_putOff_0 : decode cX11_putOff 0 = .ok (.aload_n 0, 1) := by decide +kernel
theorem dX11_putOff_1 : decode cX11_putOff 1 = .ok (.iload_n 1, 1) := by decide +kernel
theorem dX11_putOff_2 : decode cX11_putOff 2 = .ok (.invokevirtual 143, 3) := by decide +kernel
theorem dX11_putOff_5 : decode cX11_putOff 5 = .ok (.ifCond .eq 11, 3) := by decide +kernel
theorem dX11_putOff_8 : decode cX11_putOff 8 = .ok (.aload_n 0, 1) := by decide +kernel
theorem dX11_putOff_9 : decode cX11_putOff 9 = .ok (.iload_n 2, 1) := by decide +kernel
theorem dX11_putOff_10 : decode cX11_putOff 10 = .ok (.invokevirtual 117, 3) := by decide +kernel
theorem dX11_putOff_13 : decode cX11_putOff 13 = .ok (.ifCond .ne 10, 3) := by decide +kernel
theorem dX11_putOff_16 : decode cX11_putOff 16 = .ok (.aload_n 0, 1) := by decide +kernel
theorem dX11_putOff_17 : decode cX11_putOff 17 = .ok (.bipush (-3), 2) := by decide +kernel
theorem dX11_putOff_19 : decode cX11_putOff 19 = .ok (.invokevirtual 108, 3) := by decide +kernel
theorem dX11_putOff_22 : decode cX11_putOff 22 = .ok (.ireturn, 1) := by decide +kernel
theorem dX11_putOff_23 : decode cX11_putOff 23 = .ok (.aload_n 0, 1) := by decide +kernel
theorem dX11_putOff_24 : decode cX11_putOff 24 = .ok (.getfield 14, 3) := by decide +kernel
theorem dX11_putOff_27 : decode cX11_putOff 27 = .ok (.sipush 184, 3) := by decide +kernel
theorem dX11_putOff_30 : decode cX11_putOff 30 = .ok (.iload_n 2, 1) := by decide +kernel
theorem dX11_putOff_31 : decode cX11_putOff 31 = .ok (.iadd, 1) := by decide +kernel
theorem dX11_putOff_32 : decode cX11_putOff 32 = .ok (.iaload, 1) := by decide +kernel
theorem dX11_putOff_33 : decode cX11_putOff 33 = .ok (.istore 4, 2) := by decide +kernel
theorem dX11_putOff_35 : decode cX11_putOff 35 = .ok (.iload_n 3, 1) := by decide +kernel
theorem dX11_putOff_36 : decode cX11_putOff 36 = .ok (.iconst 1, 1) := by decide +kernel
theorem dX11_putOff_37 : decode cX11_putOff 37 = .ok (.bipush 99, 2) := by decide +kernel
theorem dX11_putOff_39 : decode cX11_putOff 39 = .ok (.invokestatic 104, 3) := by decide +kernel
theorem dX11_putOff_42 : decode cX11_putOff 42 = .ok (.ifCond .eq 30, 3) := by decide +kernel
theorem dX11_putOff_45 : decode cX11_putOff 45 = .ok (.aload_n 0, 1) := by decide +kernel
theorem dX11_putOff_46 : decode cX11_putOff 46 = .ok (.iload_n 1, 1) := by decide +kernel
theorem dX11_putOff_47 : decode cX11_putOff 47 = .ok (.invokevirtual 146, 3) := by decide +kernel
theorem dX11_putOff_50 : decode cX11_putOff 50 = .ok (.ifCond .eq 22, 3) := by decide +kernel
theorem dX11_putOff_53 : decode cX11_putOff 53 = .ok (.aload_n 0, 1) := by decide +kernel
theorem dX11_putOff_54 : decode cX11_putOff 54 = .ok (.getfield 14, 3) := by decide +kernel
theorem dX11_putOff_57 : decode cX11_putOff 57 = .ok (.iconst 0, 1) := by decide +kernel
theorem dX11_putOff_58 : decode cX11_putOff 58 = .ok (.iaload, 1) := by decide +kernel
theorem dX11_putOff_59 : decode cX11_putOff 59 = .ok (.bipush 14, 2) := by decide +kernel
theorem dX11_putOff_61 : decode cX11_putOff 61 = .ok (.irem, 1) := by decide +kernel
theorem dX11_putOff_62 : decode cX11_putOff 62 = .ok (.bipush 10, 2) := by decide +kernel
theorem dX11_putOff_64 : decode cX11_putOff 64 = .ok (.if_icmp .ne 8, 3) := by decide +kernel
theorem dX11_putOff_67 : decode cX11_putOff 67 = .ok (.iload 4, 2) := by decide +kernel
theorem dX11_putOff_69 : decode cX11_putOff 69 = .ok (.ifCond .ne 10, 3) := by decide +kernel
theorem dX11_putOff_72 : decode cX11_putOff 72 = .ok (.aload_n 0, 1) := by decide +kernel
theorem dX11_putOff_73 : decode cX11_putOff 73 = .ok (.bipush (-7), 2) := by decide +kernel
theorem dX11_putOff_75 : decode cX11_putOff 75 = .ok (.invokevirtual 108, 3) := by decide +kernel
theorem dX11_putOff_78 : decode cX11_putOff 78 = .ok (.ireturn, 1) := by decide +kernel
theorem dX11_putOff_79 : decode cX11_putOff 79 = .ok (.aload_n 0, 1) := by decide +kernel
theorem dX11_putOff_80 : decode cX11_putOff 80 = .ok (.aload_n 0, 1) := by decide +kernel
theorem dX11_putOff_81 : decode cX11_putOff 81 = .ok (.iconst 0, 1) := by decide +kernel
theorem dX11_putOff_82 : decode cX11_putOff 82 = .ok (.invokevirtual 140, 3) := by decide +kernel
theorem dX11_putOff_85 : decode cX11_putOff 85 = .ok (.iconst 1, 1) := by decide +kernel
theorem dX11_putOff_86 : decode cX11_putOff 86 = .ok (.iadd, 1) := by decide +kernel
theorem dX11_putOff_87 : decode cX11_putOff 87 = .ok (.invokevirtual 140, 3) := by decide +kernel
theorem dX11_putOff_90 : decode cX11_putOff 90 = .ok (.bipush 60, 2) := by decide +kernel
theorem dX11_putOff_92 : decode cX11_putOff 92 = .ok (.if_icmp .lt 10, 3) := by decide +kernel
theorem dX11_putOff_95 : decode cX11_putOff 95 = .ok (.aload_n 0, 1) := by decide +kernel
theorem dX11_putOff_96 : decode cX11_putOff 96 = .ok (.bipush (-8), 2) := by decide +kernel
theorem dX11_putOff_98 : decode cX11_putOff 98 = .ok (.invokevirtual 108, 3) := by decide +kernel
theorem dX11_putOff_101 : decode cX11_putOff 101 = .ok (.ireturn, 1) := by decide +kernel
theorem dX11_putOff_102 : decode cX11_putOff 102 = .ok (.iload 4, 2) := by decide +kernel
theorem dX11_putOff_104 : decode cX11_putOff 104 = .ok (.i2l, 1) := by decide +kernel
theorem dX11_putOff_105 : decode cX11_putOff 105 = .ok (.iload 4, 2) := by decide +kernel
theorem dX11_putOff_107 : decode cX11_putOff 107 = .ok (.i2l, 1) := by decide +kernel
theorem dX11_putOff_108 : decode cX11_putOff 108 = .ok (.aload_n 0, 1) := by decide +kernel
theorem dX11_putOff_109 : decode cX11_putOff 109 = .ok (.iconst 0, 1) := by decide +kernel
theorem dX11_putOff_110 : decode cX11_putOff 110 = .ok (.iload_n 2, 1) := by decide +kernel
theorem dX11_putOff_111 : decode cX11_putOff 111 = .ok (.iconst 0, 1) := by decide +kernel
theorem dX11_putOff_112 : decode cX11_putOff 112 = .ok (.invokevirtual 159, 3) := by decide +kernel
theorem dX11_putOff_115 : decode cX11_putOff 115 = .ok (.i2l, 1) := by decide +kernel
theorem dX11_putOff_116 : decode cX11_putOff 116 = .ok (.lmul, 1) := by decide +kernel
theorem dX11_putOff_117 : decode cX11_putOff 117 = .ok (.ldc2_w 162, 3) := by decide +kernel
theorem dX11_putOff_120 : decode cX11_putOff 120 = .ok (.ldiv, 1) := by decide +kernel
theorem dX11_putOff_121 : decode cX11_putOff 121 = .ok (.ladd, 1) := by decide +kernel
theorem dX11_putOff_122 : decode cX11_putOff 122 = .ok (.lstore 5, 2) := by decide +kernel
theorem dX11_putOff_124 : decode cX11_putOff 124 = .ok (.iload_n 1, 1) := by decide +kernel
theorem dX11_putOff_125 : decode cX11_putOff 125 = .ok (.bipush 100, 2) := by decide +kernel
theorem dX11_putOff_127 : decode cX11_putOff 127 = .ok (.idiv, 1) := by decide +kernel
theorem dX11_putOff_128 : decode cX11_putOff 128 = .ok (.istore 7, 2) := by decide +kernel
theorem dX11_putOff_130 : decode cX11_putOff 130 = .ok (.iload_n 1, 1) := by decide +kernel
theorem dX11_putOff_131 : decode cX11_putOff 131 = .ok (.bipush 100, 2) := by decide +kernel
theorem dX11_putOff_133 : decode cX11_putOff 133 = .ok (.irem, 1) := by decide +kernel
theorem dX11_putOff_134 : decode cX11_putOff 134 = .ok (.istore 8, 2) := by decide +kernel
theorem dX11_putOff_136 : decode cX11_putOff 136 = .ok (.aload_n 0, 1) := by decide +kernel
theorem dX11_putOff_137 : decode cX11_putOff 137 = .ok (.iload 7, 2) := by decide +kernel
theorem dX11_putOff_139 : decode cX11_putOff 139 = .ok (.iload 8, 2) := by decide +kernel
theorem dX11_putOff_141 : decode cX11_putOff 141 = .ok (.iload_n 2, 1) := by decide +kernel
theorem dX11_putOff_142 : decode cX11_putOff 142 = .ok (.iload_n 3, 1) := by decide +kernel
theorem dX11_putOff_143 : decode cX11_putOff 143 = .ok (.iload 4, 2) := by decide +kernel
theorem dX11_putOff_145 : decode cX11_putOff 145 = .ok (.aload_n 0, 1) := by decide +kernel
theorem dX11_putOff_146 : decode cX11_putOff 146 = .ok (.getfield 14, 3) := by decide +kernel
theorem dX11_putOff_149 : decode cX11_putOff 149 = .ok (.iconst 0, 1) := by decide +kernel
theorem dX11_putOff_150 : decode cX11_putOff 150 = .ok (.iaload, 1) := by decide +kernel
theorem dX11_putOff_151 : decode cX11_putOff 151 = .ok (.bipush 14, 2) := by decide +kernel
theorem dX11_putOff_153 : decode cX11_putOff 153 = .ok (.idiv, 1) := by decide +kernel
theorem dX11_putOff_154 : decode cX11_putOff 154 = .ok (.invokevirtual 152, 3) := by decide +kernel
theorem dX11_putOff_157 : decode cX11_putOff 157 = .ok (.istore 9, 2) := by decide +kernel
theorem dX11_putOff_159 : decode cX11_putOff 159 = .ok (.aload_n 0, 1) := by decide +kernel
theorem dX11_putOff_160 : decode cX11_putOff 160 = .ok (.iload 8, 2) := by decide +kernel
theorem dX11_putOff_162 : decode cX11_putOff 162 = .ok (.iload 7, 2) := by decide +kernel
theorem dX11_putOff_164 : decode cX11_putOff 164 = .ok (.iload_n 2, 1) := by decide +kernel
theorem dX11_putOff_165 : decode cX11_putOff 165 = .ok (.iload_n 3, 1) := by decide +kernel
theorem dX11_putOff_166 : decode cX11_putOff 166 = .ok (.lload 5, 2) := by decide +kernel
theorem dX11_putOff_168 : decode cX11_putOff 168 = .ok (.lconst 1, 1) := by decide +kernel
theorem dX11_putOff_169 : decode cX11_putOff 169 = .ok (.lcmp, 1) := by decide +kernel
theorem dX11_putOff_170 : decode cX11_putOff 170 = .ok (.ifCond .ge 7, 3) := by decide +kernel
theorem dX11_putOff_173 : decode cX11_putOff 173 = .ok (.iconst 1, 1) := by decide +kernel
theorem dX11_putOff_174 : decode cX11_putOff 174 = .ok (.goto 21, 3) := by decide +kernel
theorem dX11_putOff_177 : decode cX11_putOff 177 = .ok (.lload 5, 2) := by decide +kernel
theorem dX11_putOff_179 : decode cX11_putOff 179 = .ok (.ldc2_w 164, 3) := by decide +kernel
theorem dX11_putOff_182 : decode cX11_putOff 182 = .ok (.lcmp, 1) := by decide +kernel
theorem dX11_putOff_183 : decode cX11_putOff 183 = .ok (.ifCond .le 9, 3) := by decide +kernel
theorem dX11_putOff_186 : decode cX11_putOff 186 = .ok (.sipush 9999, 3) := by decide +kernel
theorem dX11_putOff_189 : decode cX11_putOff 189 = .ok (.goto 6, 3) := by decide +kernel
theorem dX11_putOff_192 : decode cX11_putOff 192 = .ok (.lload 5, 2) := by decide +kernel
theorem dX11_putOff_194 : decode cX11_putOff 194 = .ok (.l2i, 1) := by decide +kernel
theorem dX11_putOff_195 : decode cX11_putOff 195 = .ok (.aload_n 0, 1) := by decide +kernel
theorem dX11_putOff_196 : decode cX11_putOff 196 = .ok (.getfield 14, 3) := by decide +kernel
theorem dX11_putOff_199 : decode cX11_putOff 199 = .ok (.iconst 0, 1) := by decide +kernel
theorem dX11_putOff_200 : decode cX11_putOff 200 = .ok (.iaload, 1) := by decide +kernel
theorem dX11_putOff_201 : decode cX11_putOff 201 = .ok (.bipush 14, 2) := by decide +kernel
theorem dX11_putOff_203 : decode cX11_putOff 203 = .ok (.idiv, 1) := by decide +kernel
theorem dX11_putOff_204 : decode cX11_putOff 204 = .ok (.iconst 1, 1) := by decide +kernel
theorem dX11_putOff_205 : decode cX11_putOff 205 = .ok (.iadd, 1) := by decide +kernel
theorem dX11_putOff_206 : decode cX11_putOff 206 = .ok (.invokevirtual 152, 3) := by decide +kernel
theorem dX11_putOff_209 : decode cX11_putOff 209 = .ok (.istore 10, 2) := by decide +kernel
theorem dX11_putOff_211 : decode cX11_putOff 211 = .ok (.aload_n 0, 1) := by decide +kernel
theorem dX11_putOff_212 : decode cX11_putOff 212 = .ok (.getfield 14, 3) := by decide +kernel
theorem dX11_putOff_215 : decode cX11_putOff 215 = .ok (.sipush 192, 3) := by decide +kernel
theorem dX11_putOff_218 : decode cX11_putOff 218 = .ok (.bipush 12, 2) := by decide +kernel
theorem dX11_putOff_220 : decode cX11_putOff 220 = .ok (.iload 9, 2) := by decide +kernel
theorem dX11_putOff_222 : decode cX11_putOff 222 = .ok (.imul, 1) := by decide +kernel
theorem dX11_putOff_223 : decode cX11_putOff 223 = .ok (.iadd, 1) := by decide +kernel
theorem dX11_putOff_224 : decode cX11_putOff 224 = .ok (.bipush 11, 2) := by decide +kernel
theorem dX11_putOff_226 : decode cX11_putOff 226 = .ok (.iadd, 1) := by decide +kernel
theorem dX11_putOff_227 : decode cX11_putOff 227 = .ok (.iconst 1, 1) := by decide +kernel
theorem dX11_putOff_228 : decode cX11_putOff 228 = .ok (.iastore, 1) := by decide +kernel
theorem dX11_putOff_229 : decode cX11_putOff 229 = .ok (.aload_n 0, 1) := by decide +kernel
theorem dX11_putOff_230 : decode cX11_putOff 230 = .ok (.getfield 14, 3) := by decide +kernel
theorem dX11_putOff_233 : decode cX11_putOff 233 = .ok (.sipush 192, 3) := by decide +kernel
theorem dX11_putOff_236 : decode cX11_putOff 236 = .ok (.bipush 12, 2) := by decide +kernel
theorem dX11_putOff_238 : decode cX11_putOff 238 = .ok (.iload 10, 2) := by decide +kernel
theorem dX11_putOff_240 : decode cX11_putOff 240 = .ok (.imul, 1) := by decide +kernel
theorem dX11_putOff_241 : decode cX11_putOff 241 = .ok (.iadd, 1) := by decide +kernel
theorem dX11_putOff_242 : decode cX11_putOff 242 = .ok (.bipush 11, 2) := by decide +kernel
theorem dX11_putOff_244 : decode cX11_putOff 244 = .ok (.iadd, 1) := by decide +kernel
theorem dX11_putOff_245 : decode cX11_putOff 245 = .ok (.iconst 1, 1) := by decide +kernel
theorem dX11_putOff_246 : decode cX11_putOff 246 = .ok (.iastore, 1) := by decide +kernel
theorem dX11_putOff_247 : decode cX11_putOff 247 = .ok (.aload_n 0, 1) := by decide +kernel
theorem dX11_putOff_248 : decode cX11_putOff 248 = .ok (.iload 9, 2) := by decide +kernel
theorem dX11_putOff_250 : decode cX11_putOff 250 = .ok (.invokevirtual 166, 3) := by decide +kernel
theorem dX11_putOff_253 : decode cX11_putOff 253 = .ok (.aload_n 0, 1) := by decide +kernel
theorem dX11_putOff_254 : decode cX11_putOff 254 = .ok (.iload 10, 2) := by decide +kernel
theorem dX11_putOff_256 : decode cX11_putOff 256 = .ok (.invokevirtual 166, 3) := by decide +kernel
theorem dX11_putOff_259 : decode cX11_putOff 259 = .ok (.iload 10, 2) := by decide +kernel
theorem dX11_putOff_261 : decode cX11_putOff 261 = .ok (.ireturn, 1) := by decide +kernel
theorem dX11_op_0 : decode cX11_op 0 = .ok (.aload_n 0, 1) := by decide +kernel
theorem dX11_op_1 : decode cX11_op 1 = .ok (.getfield 14, 3) := by decide +kernel
theorem dX11_op_4 : decode cX11_op 4 = .ok (.sipush 912, 3) := by decide +kernel
theorem dX11_op_7 : decode cX11_op 7 = .ok (.bipush 7, 2) := by decide +kernel
theorem dX11_op_9 : decode cX11_op 9 = .ok (.iload_n 1, 1) := by decide +kernel
theorem dX11_op_10 : decode cX11_op 10 = .ok (.imul, 1) := by decide +kernel
theorem dX11_op_11 : decode cX11_op 11 = .ok (.iadd, 1) := by decide +kernel
theorem dX11_op_12 : decode cX11_op 12 = .ok (.iload_n 2, 1) := by decide +kernel
theorem dX11_op_13 : decode cX11_op 13 = .ok (.iadd, 1) := by decide +kernel
theorem dX11_op_14 : decode cX11_op 14 = .ok (.iaload, 1) := by decide +kernel
theorem dX11_op_15 : decode cX11_op 15 = .ok (.ireturn, 1) := by decide +kernel
theorem dX11_option_0 : decode cX11_option 0 = .ok (.aload_n 0, 1) := by decide +kernel
theorem dX11_option_1 : decode cX11_option 1 = .ok (.iload_n 1, 1) := by decide +kernel
theorem dX11_option_2 : decode cX11_option 2 = .ok (.invokevirtual 143, 3) := by decide +kernel
theorem dX11_option_5 : decode cX11_option 5 = .ok (.ifCond .eq 11, 3) := by decide +kernel
theorem dX11_option_8 : decode cX11_option 8 = .ok (.aload_n 0, 1) := by decide +kernel
theorem dX11_option_9 : decode cX11_option 9 = .ok (.iload_n 2, 1) := by decide +kernel
theorem dX11_option_10 : decode cX11_option 10 = .ok (.invokevirtual 117, 3) := by decide +kernel
theorem dX11_option_13 : decode cX11_option 13 = .ok (.ifCond .ne 10, 3) := by decide +kernel
theorem dX11_option_16 : decode cX11_option 16 = .ok (.aload_n 0, 1) := by decide +kernel
theorem dX11_option_17 : decode cX11_option 17 = .ok (.bipush (-3), 2) := by decide +kernel
theorem dX11_option_19 : decode cX11_option 19 = .ok (.invokevirtual 108, 3) := by decide +kernel
theorem dX11_option_22 : decode cX11_option 22 = .ok (.ireturn, 1) := by decide +kernel
theorem dX11_option_23 : decode cX11_option 23 = .ok (.iload_n 1, 1) := by decide +kernel
theorem dX11_option_24 : decode cX11_option 24 = .ok (.bipush 100, 2) := by decide +kernel
theorem dX11_option_26 : decode cX11_option 26 = .ok (.idiv, 1) := by decide +kernel
theorem dX11_option_27 : decode cX11_option 27 = .ok (.istore 5, 2) := by decide +kernel
theorem dX11_option_29 : decode cX11_option 29 = .ok (.iload_n 3, 1) := by decide +kernel
theorem dX11_option_30 : decode cX11_option 30 = .ok (.ifCond .lt 73, 3) := by decide +kernel
theorem dX11_option_33 : decode cX11_option 33 = .ok (.iload_n 3, 1) := by decide +kernel
theorem dX11_option_34 : decode cX11_option 34 = .ok (.sipush 10000, 3) := by decide +kernel
theorem dX11_option_37 : decode cX11_option 37 = .ok (.idiv, 1) := by decide +kernel
theorem dX11_option_38 : decode cX11_option 38 = .ok (.iconst 1, 1) := by decide +kernel
theorem dX11_option_39 : decode cX11_option 39 = .ok (.bipush 99, 2) := by decide +kernel
theorem dX11_option_41 : decode cX11_option 41 = .ok (.invokestatic 104, 3) := by decide +kernel
theorem dX11_option_44 : decode cX11_option 44 = .ok (.ifCond .eq 59, 3) := by decide +kernel
theorem dX11_option_47 : decode cX11_option 47 = .ok (.iload_n 3, 1) := by decide +kernel
theorem dX11_option_48 : decode cX11_option 48 = .ok (.sipush 10000, 3) := by decide +kernel
theorem dX11_option_51 : decode cX11_option 51 = .ok (.irem, 1) := by decide +kernel
theorem dX11_option_52 : decode cX11_option 52 = .ok (.ifCond .eq 51, 3) := by decide +kernel
theorem dX11_option_55 : decode cX11_option 55 = .ok (.iload 4, 2) := by decide +kernel
theorem dX11_option_57 : decode cX11_option 57 = .ok (.ifCond .lt 46, 3) := by decide +kernel
theorem dX11_option_60 : decode cX11_option 60 = .ok (.iload 4, 2) := by decide +kernel
theorem dX11_option_62 : decode cX11_option 62 = .ok (.sipush 10000, 3) := by decide +kernel
theorem dX11_option_65 : decode cX11_option 65 = .ok (.idiv, 1) := by decide +kernel
theorem dX11_option_66 : decode cX11_option 66 = .ok (.iconst 1, 1) := by decide +kernel
theorem dX11_option_67 : decode cX11_option 67 = .ok (.bipush 40, 2) := by decide +kernel
theorem dX11_option_69 : decode cX11_option 69 = .ok (.invokestatic 104, 3) := by decide +kernel
theorem dX11_option_72 : decode cX11_option 72 = .ok (.ifCond .eq 31, 3) := by decide +kernel
theorem dX11_option_75 : decode cX11_option 75 = .ok (.aload_n 0, 1) := by decide +kernel
theorem dX11_option_76 : decode cX11_option 76 = .ok (.iload_n 1, 1) := by decide +kernel
theorem dX11_option_77 : decode cX11_option 77 = .ok (.invokevirtual 146, 3) := by decide +kernel
theorem dX11_option_80 : decode cX11_option 80 = .ok (.ifCond .eq 23, 3) := by decide +kernel
theorem dX11_option_83 : decode cX11_option 83 = .ok (.aload_n 0, 1) := by decide +kernel
theorem dX11_option_84 : decode cX11_option 84 = .ok (.getfield 18, 3) := by decide +kernel
theorem dX11_option_87 : decode cX11_option 87 = .ok (.iconst 0, 1) := by decide +kernel
theorem dX11_option_88 : decode cX11_option 88 = .ok (.iload 5, 2) := by decide +kernel
theorem dX11_option_90 : decode cX11_option 90 = .ok (.iadd, 1) := by decide +kernel
theorem dX11_option_91 : decode cX11_option 91 = .ok (.laload, 1) := by decide +kernel
theorem dX11_option_92 : decode cX11_option 92 = .ok (.iload 4, 2) := by decide +kernel
theorem dX11_option_94 : decode cX11_option 94 = .ok (.sipush 10000, 3) := by decide +kernel
theorem dX11_option_97 : decode cX11_option 97 = .ok (.irem, 1) := by decide +kernel
theorem dX11_option_98 : decode cX11_option 98 = .ok (.i2l, 1) := by decide +kernel
theorem dX11_option_99 : decode cX11_option 99 = .ok (.lcmp, 1) := by decide +kernel
theorem dX11_option_100 : decode cX11_option 100 = .ok (.ifCond .ge 10, 3) := by decide +kernel
theorem dX11_option_103 : decode cX11_option 103 = .ok (.aload_n 0, 1) := by decide +kernel
theorem dX11_option_104 : decode cX11_option 104 = .ok (.bipush (-7), 2) := by decide +kernel
theorem dX11_option_106 : decode cX11_option 106 = .ok (.invokevirtual 108, 3) := by decide +kernel
theorem dX11_option_109 : decode cX11_option 109 = .ok (.ireturn, 1) := by decide +kernel
theorem dX11_option_110 : decode cX11_option 110 = .ok (.aload_n 0, 1) := by decide +kernel
theorem dX11_option_111 : decode cX11_option 111 = .ok (.getfield 14, 3) := by decide +kernel
theorem dX11_option_114 : decode cX11_option 114 = .ok (.iconst 3, 1) := by decide +kernel
theorem dX11_option_115 : decode cX11_option 115 = .ok (.iaload, 1) := by decide +kernel
theorem dX11_option_116 : decode cX11_option 116 = .ok (.bipush 20, 2) := by decide +kernel
theorem dX11_option_118 : decode cX11_option 118 = .ok (.if_icmp .ne 10, 3) := by decide +kernel
theorem dX11_option_121 : decode cX11_option 121 = .ok (.aload_n 0, 1) := by decide +kernel
theorem dX11_option_122 : decode cX11_option 122 = .ok (.bipush (-8), 2) := by decide +kernel
theorem dX11_option_124 : decode cX11_option 124 = .ok (.invokevirtual 108, 3) := by decide +kernel
theorem dX11_option_127 : decode cX11_option 127 = .ok (.ireturn, 1) := by decide +kernel
theorem dX11_option_128 : decode cX11_option 128 = .ok (.aload_n 0, 1) := by decide +kernel
theorem dX11_option_129 : decode cX11_option 129 = .ok (.getfield 18, 3) := by decide +kernel
theorem dX11_option_132 : decode cX11_option 132 = .ok (.iconst 0, 1) := by decide +kernel
theorem dX11_option_133 : decode cX11_option 133 = .ok (.iload 5, 2) := by decide +kernel
theorem dX11_option_135 : decode cX11_option 135 = .ok (.iadd, 1) := by decide +kernel
theorem dX11_option_136 : decode cX11_option 136 = .ok (.dup2, 1) := by decide +kernel
theorem dX11_option_137 : decode cX11_option 137 = .ok (.laload, 1) := by decide +kernel
theorem dX11_option_138 : decode cX11_option 138 = .ok (.iload 4, 2) := by decide +kernel
theorem dX11_option_140 : decode cX11_option 140 = .ok (.sipush 10000, 3) := by decide +kernel
theorem dX11_option_143 : decode cX11_option 143 = .ok (.irem, 1) := by decide +kernel
theorem dX11_option_144 : decode cX11_option 144 = .ok (.i2l, 1) := by decide +kernel
theorem dX11_option_145 : decode cX11_option 145 = .ok (.lsub, 1) := by decide +kernel
theorem dX11_option_146 : decode cX11_option 146 = .ok (.lastore, 1) := by decide +kernel
theorem dX11_option_147 : decode cX11_option 147 = .ok (.aload_n 0, 1) := by decide +kernel
theorem dX11_option_148 : decode cX11_option 148 = .ok (.getfield 18, 3) := by decide +kernel
theorem dX11_option_151 : decode cX11_option 151 = .ok (.iconst 0, 1) := by decide +kernel
theorem dX11_option_152 : decode cX11_option 152 = .ok (.iload_n 1, 1) := by decide +kernel
theorem dX11_option_153 : decode cX11_option 153 = .ok (.bipush 100, 2) := by decide +kernel
theorem dX11_option_155 : decode cX11_option 155 = .ok (.irem, 1) := by decide +kernel
theorem dX11_option_156 : decode cX11_option 156 = .ok (.iadd, 1) := by decide +kernel
theorem dX11_option_157 : decode cX11_option 157 = .ok (.dup2, 1) := by decide +kernel
theorem dX11_option_158 : decode cX11_option 158 = .ok (.laload, 1) := by decide +kernel
theorem dX11_option_159 : decode cX11_option 159 = .ok (.iload 4, 2) := by decide +kernel
theorem dX11_option_161 : decode cX11_option 161 = .ok (.sipush 10000, 3) := by decide +kernel
theorem dX11_option_164 : decode cX11_option 164 = .ok (.irem, 1) := by decide +kernel
theorem dX11_option_165 : decode cX11_option 165 = .ok (.i2l, 1) := by decide +kernel
theorem dX11_option_166 : decode cX11_option 166 = .ok (.ladd, 1) := by decide +kernel
theorem dX11_option_167 : decode cX11_option 167 = .ok (.lastore, 1) := by decide +kernel
theorem dX11_option_168 : decode cX11_option 168 = .ok (.sipush 912, 3) := by decide +kernel
theorem dX11_option_171 : decode cX11_option 171 = .ok (.bipush 7, 2) := by decide +kernel
theorem dX11_option_173 : decode cX11_option 173 = .ok (.aload_n 0, 1) := by decide +kernel
theorem dX11_option_174 : decode cX11_option 174 = .ok (.getfield 14, 3) := by decide +kernel
theorem dX11_option_177 : decode cX11_option 177 = .ok (.iconst 3, 1) := by decide +kernel
theorem dX11_option_178 : decode cX11_option 178 = .ok (.iaload, 1) := by decide +kernel
theorem dX11_option_179 : decode cX11_option 179 = .ok (.imul, 1) := by decide +kernel
theorem dX11_option_180 : decode cX11_option 180 = .ok (.iadd, 1) := by decide +kernel
theorem dX11_option_181 : decode cX11_option 181 = .ok (.istore 6, 2) := by decide +kernel
theorem dX11_option_183 : decode cX11_option 183 = .ok (.aload_n 0, 1) := by decide +kernel
theorem dX11_option_184 : decode cX11_option 184 = .ok (.getfield 14, 3) := by decide +kernel
theorem dX11_option_187 : decode cX11_option 187 = .ok (.iload 6, 2) := by decide +kernel
theorem dX11_option_189 : decode cX11_option 189 = .ok (.iload 5, 2) := by decide +kernel
theorem dX11_option_191 : decode cX11_option 191 = .ok (.iastore, 1) := by decide +kernel
theorem dX11_option_192 : decode cX11_option 192 = .ok (.aload_n 0, 1) := by decide +kernel
theorem dX11_option_193 : decode cX11_option 193 = .ok (.getfield 14, 3) := by decide +kernel
theorem dX11_option_196 : decode cX11_option 196 = .ok (.iload 6, 2) := by decide +kernel
theorem dX11_option_198 : decode cX11_option 198 = .ok (.iconst 1, 1) := by decide +kernel
theorem dX11_option_199 : decode cX11_option 199 = .ok (.iadd, 1) := by decide +kernel
theorem dX11_option_200 : decode cX11_option 200 = .ok (.iload_n 1, 1) := by decide +kernel
theorem dX11_option_201 : decode cX11_option 201 = .ok (.bipush 100, 2) := by decide +kernel
theorem dX11_option_203 : decode cX11_option 203 = .ok (.irem, 1) := by decide +kernel
theorem dX11_option_204 : decode cX11_option 204 = .ok (.iastore, 1) := by decide +kernel
theorem dX11_option_205 : decode cX11_option 205 = .ok (.aload_n 0, 1) := by decide +kernel
theorem dX11_option_206 : decode cX11_option 206 = .ok (.getfield 14, 3) := by decide +kernel
theorem dX11_option_209 : decode cX11_option 209 = .ok (.iload 6, 2) := by decide +kernel
theorem dX11_option_211 : decode cX11_option 211 = .ok (.iconst 2, 1) := by decide +kernel
theorem dX11_option_212 : decode cX11_option 212 = .ok (.iadd, 1) := by decide +kernel
theorem dX11_option_213 : decode cX11_option 213 = .ok (.iload_n 2, 1) := by decide +kernel
theorem dX11_option_214 : decode cX11_option 214 = .ok (.iastore, 1) := by decide +kernel
theorem dX11_option_215 : decode cX11_option 215 = .ok (.aload_n 0, 1) := by decide +kernel
theorem dX11_option_216 : decode cX11_option 216 = .ok (.getfield 14, 3) := by decide +kernel
theorem dX11_option_219 : decode cX11_option 219 = .ok (.iload 6, 2) := by decide +kernel
theorem dX11_option_221 : decode cX11_option 221 = .ok (.iconst 3, 1) := by decide +kernel
theorem dX11_option_222 : decode cX11_option 222 = .ok (.iadd, 1) := by decide +kernel
theorem dX11_option_223 : decode cX11_option 223 = .ok (.iload_n 3, 1) := by decide +kernel
theorem dX11_option_224 : decode cX11_option 224 = .ok (.sipush 10000, 3) := by decide +kernel
theorem dX11_option_227 : decode cX11_option 227 = .ok (.idiv, 1) := by decide +kernel
theorem dX11_option_228 : decode cX11_option 228 = .ok (.iastore, 1) := by decide +kernel
theorem dX11_option_229 : decode cX11_option 229 = .ok (.aload_n 0, 1) := by decide +kernel
theorem dX11_option_230 : decode cX11_option 230 = .ok (.getfield 14, 3) := by decide +kernel
theorem dX11_option_233 : decode cX11_option 233 = .ok (.iload 6, 2) := by decide +kernel
theorem dX11_option_235 : decode cX11_option 235 = .ok (.iconst 4, 1) := by decide +kernel
theorem dX11_option_236 : decode cX11_option 236 = .ok (.iadd, 1) := by decide +kernel
theorem dX11_option_237 : decode cX11_option 237 = .ok (.iload_n 3, 1) := by decide +kernel
theorem dX11_option_238 : decode cX11_option 238 = .ok (.sipush 10000, 3) := by decide +kernel
theorem dX11_option_241 : decode cX11_option 241 = .ok (.irem, 1) := by decide +kernel
theorem dX11_option_242 : decode cX11_option 242 = .ok (.iastore, 1) := by decide +kernel
theorem dX11_option_243 : decode cX11_option 243 = .ok (.aload_n 0, 1) := by decide +kernel
theorem dX11_option_244 : decode cX11_option 244 = .ok (.getfield 14, 3) := by decide +kernel
theorem dX11_option_247 : decode cX11_option 247 = .ok (.iload 6, 2) := by decide +kernel
theorem dX11_option_249 : decode cX11_option 249 = .ok (.iconst 5, 1) := by decide +kernel
theorem dX11_option_250 : decode cX11_option 250 = .ok (.iadd, 1) := by decide +kernel
theorem dX11_option_251 : decode cX11_option 251 = .ok (.aload_n 0, 1) := by decide +kernel
theorem dX11_option_252 : decode cX11_option 252 = .ok (.getfield 14, 3) := by decide +kernel
theorem dX11_option_255 : decode cX11_option 255 = .ok (.iconst 0, 1) := by decide +kernel
theorem dX11_option_256 : decode cX11_option 256 = .ok (.iaload, 1) := by decide +kernel
theorem dX11_option_257 : decode cX11_option 257 = .ok (.iload 4, 2) := by decide +kernel
theorem dX11_option_259 : decode cX11_option 259 = .ok (.sipush 10000, 3) := by decide +kernel
theorem dX11_option_262 : decode cX11_option 262 = .ok (.idiv, 1) := by decide +kernel
theorem dX11_option_263 : decode cX11_option 263 = .ok (.iadd, 1) := by decide +kernel
theorem dX11_option_264 : decode cX11_option 264 = .ok (.iconst 1, 1) := by decide +kernel
theorem dX11_option_265 : decode cX11_option 265 = .ok (.isub, 1) := by decide +kernel
theorem dX11_option_266 : decode cX11_option 266 = .ok (.iastore, 1) := by decide +kernel
theorem dX11_option_267 : decode cX11_option 267 = .ok (.aload_n 0, 1) := by decide +kernel
theorem dX11_option_268 : decode cX11_option 268 = .ok (.getfield 14, 3) := by decide +kernel
theorem dX11_option_271 : decode cX11_option 271 = .ok (.iload 6, 2) := by decide +kernel
theorem dX11_option_273 : decode cX11_option 273 = .ok (.bipush 6, 2) := by decide +kernel
theorem dX11_option_275 : decode cX11_option 275 = .ok (.iadd, 1) := by decide +kernel
theorem dX11_option_276 : decode cX11_option 276 = .ok (.iconst 0, 1) := by decide +kernel
theorem dX11_option_277 : decode cX11_option 277 = .ok (.iastore, 1) := by decide +kernel
theorem dX11_option_278 : decode cX11_option 278 = .ok (.aload_n 0, 1) := by decide +kernel
theorem dX11_option_279 : decode cX11_option 279 = .ok (.getfield 14, 3) := by decide +kernel
theorem dX11_option_282 : decode cX11_option 282 = .ok (.iconst 3, 1) := by decide +kernel
theorem dX11_option_283 : decode cX11_option 283 = .ok (.dup2, 1) := by decide +kernel
theorem dX11_option_284 : decode cX11_option 284 = .ok (.iaload, 1) := by decide +kernel
theorem dX11_option_285 : decode cX11_option 285 = .ok (.iconst 1, 1) := by decide +kernel
theorem dX11_option_286 : decode cX11_option 286 = .ok (.iadd, 1) := by decide +kernel
theorem dX11_option_287 : decode cX11_option 287 = .ok (.iastore, 1) := by decide +kernel
theorem dX11_option_288 : decode cX11_option 288 = .ok (.aload_n 0, 1) := by decide +kernel
theorem dX11_option_289 : decode cX11_option 289 = .ok (.getfield 14, 3) := by decide +kernel
theorem dX11_option_292 : decode cX11_option 292 = .ok (.iconst 3, 1) := by decide +kernel
theorem dX11_option_293 : decode cX11_option 293 = .ok (.iaload, 1) := by decide +kernel
theorem dX11_option_294 : decode cX11_option 294 = .ok (.iconst 1, 1) := by decide +kernel
theorem dX11_option_295 : decode cX11_option 295 = .ok (.isub, 1) := by decide +kernel
theorem dX11_option_296 : decode cX11_option 296 = .ok (.ireturn, 1) := by decide +kernel
theorem dX11_declare_0 : decode cX11_declare 0 = .ok (.iload_n 1, 1) := by decide +kernel
theorem dX11_declare_1 : decode cX11_declare 1 = .ok (.iconst 0, 1) := by decide +kernel
theorem dX11_declare_2 : decode cX11_declare 2 = .ok (.aload_n 0, 1) := by decide +kernel
theorem dX11_declare_3 : decode cX11_declare 3 = .ok (.getfield 14, 3) := by decide +kernel
theorem dX11_declare_6 : decode cX11_declare 6 = .ok (.iconst 3, 1) := by decide +kernel
theorem dX11_declare_7 : decode cX11_declare 7 = .ok (.iaload, 1) := by decide +kernel
theorem dX11_declare_8 : decode cX11_declare 8 = .ok (.iconst 1, 1) := by decide +kernel
theorem dX11_declare_9 : decode cX11_declare 9 = .ok (.isub, 1) := by decide +kernel
theorem dX11_declare_10 : decode cX11_declare 10 = .ok (.invokestatic 104, 3) := by decide +kernel
theorem dX11_declare_13 : decode cX11_declare 13 = .ok (.ifCond .ne 10, 3) := by decide +kernel
theorem dX11_declare_16 : decode cX11_declare 16 = .ok (.aload_n 0, 1) := by decide +kernel
theorem dX11_declare_17 : decode cX11_declare 17 = .ok (.bipush (-3), 2) := by decide +kernel
theorem dX11_declare_19 : decode cX11_declare 19 = .ok (.invokevirtual 108, 3) := by decide +kernel
theorem dX11_declare_22 : decode cX11_declare 22 = .ok (.ireturn, 1) := by decide +kernel
theorem dX11_declare_23 : decode cX11_declare 23 = .ok (.aload_n 0, 1) := by decide +kernel
theorem dX11_declare_24 : decode cX11_declare 24 = .ok (.iload_n 1, 1) := by decide +kernel
theorem dX11_declare_25 : decode cX11_declare 25 = .ok (.bipush 6, 2) := by decide +kernel
theorem dX11_declare_27 : decode cX11_declare 27 = .ok (.invokevirtual 170, 3) := by decide +kernel
theorem dX11_declare_30 : decode cX11_declare 30 = .ok (.ifCond .eq 10, 3) := by decide +kernel
theorem dX11_declare_33 : decode cX11_declare 33 = .ok (.aload_n 0, 1) := by decide +kernel
theorem dX11_declare_34 : decode cX11_declare 34 = .ok (.bipush (-7), 2) := by decide +kernel
theorem dX11_declare_36 : decode cX11_declare 36 = .ok (.invokevirtual 108, 3) := by decide +kernel
theorem dX11_declare_39 : decode cX11_declare 39 = .ok (.ireturn, 1) := by decide +kernel
theorem dX11_declare_40 : decode cX11_declare 40 = .ok (.aload_n 0, 1) := by decide +kernel
theorem dX11_declare_41 : decode cX11_declare 41 = .ok (.iconst 0, 1) := by decide +kernel
theorem dX11_declare_42 : decode cX11_declare 42 = .ok (.invokevirtual 140, 3) := by decide +kernel
theorem dX11_declare_45 : decode cX11_declare 45 = .ok (.bipush 60, 2) := by decide +kernel
theorem dX11_declare_47 : decode cX11_declare 47 = .ok (.if_icmp .ne 10, 3) := by decide +kernel
theorem dX11_declare_50 : decode cX11_declare 50 = .ok (.aload_n 0, 1) := by decide +kernel
theorem dX11_declare_51 : decode cX11_declare 51 = .ok (.bipush (-8), 2) := by decide +kernel
theorem dX11_declare_53 : decode cX11_declare 53 = .ok (.invokevirtual 108, 3) := by decide +kernel
theorem dX11_declare_56 : decode cX11_declare 56 = .ok (.ireturn, 1) := by decide +kernel
theorem dX11_declare_57 : decode cX11_declare 57 = .ok (.aload_n 0, 1) := by decide +kernel
theorem dX11_declare_58 : decode cX11_declare 58 = .ok (.aload_n 0, 1) := by decide +kernel
theorem dX11_declare_59 : decode cX11_declare 59 = .ok (.iload_n 1, 1) := by decide +kernel
theorem dX11_declare_60 : decode cX11_declare 60 = .ok (.iconst 1, 1) := by decide +kernel
theorem dX11_declare_61 : decode cX11_declare 61 = .ok (.invokevirtual 170, 3) := by decide +kernel
theorem dX11_declare_64 : decode cX11_declare 64 = .ok (.aload_n 0, 1) := by decide +kernel
theorem dX11_declare_65 : decode cX11_declare 65 = .ok (.iload_n 1, 1) := by decide +kernel
theorem dX11_declare_66 : decode cX11_declare 66 = .ok (.iconst 0, 1) := by decide +kernel
theorem dX11_declare_67 : decode cX11_declare 67 = .ok (.invokevirtual 170, 3) := by decide +kernel
theorem dX11_declare_70 : decode cX11_declare 70 = .ok (.aload_n 0, 1) := by decide +kernel
theorem dX11_declare_71 : decode cX11_declare 71 = .ok (.iload_n 1, 1) := by decide +kernel
theorem dX11_declare_72 : decode cX11_declare 72 = .ok (.iconst 2, 1) := by decide +kernel
theorem dX11_declare_73 : decode cX11_declare 73 = .ok (.invokevirtual 170, 3) := by decide +kernel
theorem dX11_declare_76 : decode cX11_declare 76 = .ok (.aload_n 0, 1) := by decide +kernel
theorem dX11_declare_77 : decode cX11_declare 77 = .ok (.iload_n 1, 1) := by decide +kernel
theorem dX11_declare_78 : decode cX11_declare 78 = .ok (.iconst 3, 1) := by decide +kernel
theorem dX11_declare_79 : decode cX11_declare 79 = .ok (.invokevirtual 170, 3) := by decide +kernel
theorem dX11_declare_82 : decode cX11_declare 82 = .ok (.aload_n 0, 1) := by decide +kernel
theorem dX11_declare_83 : decode cX11_declare 83 = .ok (.iload_n 1, 1) := by decide +kernel
theorem dX11_declare_84 : decode cX11_declare 84 = .ok (.iconst 4, 1) := by decide +kernel
theorem dX11_declare_85 : decode cX11_declare 85 = .ok (.invokevirtual 170, 3) := by decide +kernel
theorem dX11_declare_88 : decode cX11_declare 88 = .ok (.aload_n 0, 1) := by decide +kernel
theorem dX11_declare_89 : decode cX11_declare 89 = .ok (.aload_n 0, 1) := by decide +kernel
theorem dX11_declare_90 : decode cX11_declare 90 = .ok (.getfield 14, 3) := by decide +kernel
theorem dX11_declare_93 : decode cX11_declare 93 = .ok (.iconst 0, 1) := by decide +kernel
theorem dX11_declare_94 : decode cX11_declare 94 = .ok (.iaload, 1) := by decide +kernel
theorem dX11_declare_95 : decode cX11_declare 95 = .ok (.invokevirtual 149, 3) := by decide +kernel
theorem dX11_declare_98 : decode cX11_declare 98 = .ok (.invokevirtual 152, 3) := by decide +kernel
theorem dX11_declare_101 : decode cX11_declare 101 = .ok (.istore_n 2, 1) := by decide +kernel
theorem dX11_declare_102 : decode cX11_declare 102 = .ok (.aload_n 0, 1) := by decide +kernel
theorem dX11_declare_103 : decode cX11_declare 103 = .ok (.iload_n 2, 1) := by decide +kernel
theorem dX11_declare_104 : decode cX11_declare 104 = .ok (.invokevirtual 166, 3) := by decide +kernel
theorem dX11_declare_107 : decode cX11_declare 107 = .ok (.aload_n 0, 1) := by decide +kernel
theorem dX11_declare_108 : decode cX11_declare 108 = .ok (.getfield 14, 3) := by decide +kernel
theorem dX11_declare_111 : decode cX11_declare 111 = .ok (.sipush 912, 3) := by decide +kernel
theorem dX11_declare_114 : decode cX11_declare 114 = .ok (.bipush 7, 2) := by decide +kernel
theorem dX11_declare_116 : decode cX11_declare 116 = .ok (.iload_n 1, 1) := by decide +kernel
theorem dX11_declare_117 : decode cX11_declare 117 = .ok (.imul, 1) := by decide +kernel
theorem dX11_declare_118 : decode cX11_declare 118 = .ok (.iadd, 1) := by decide +kernel
theorem dX11_declare_119 : decode cX11_declare 119 = .ok (.bipush 6, 2) := by decide +kernel
theorem dX11_declare_121 : decode cX11_declare 121 = .ok (.iadd, 1) := by decide +kernel
theorem dX11_declare_122 : decode cX11_declare 122 = .ok (.iconst 1, 1) := by decide +kernel
theorem dX11_declare_123 : decode cX11_declare 123 = .ok (.iastore, 1) := by decide +kernel
theorem dX11_declare_124 : decode cX11_declare 124 = .ok (.iload_n 2, 1) := by decide +kernel
theorem dX11_declare_125 : decode cX11_declare 125 = .ok (.ireturn, 1) := by decide +kernel
theorem dX11_optionOf_0 : decode cX11_optionOf 0 = .ok (.iload_n 1, 1) := by decide +kernel
theorem dX11_optionOf_1 : decode cX11_optionOf 1 = .ok (.iconst 0, 1) := by decide +kernel
theorem dX11_optionOf_2 : decode cX11_optionOf 2 = .ok (.aload_n 0, 1) := by decide +kernel
theorem dX11_optionOf_3 : decode cX11_optionOf 3 = .ok (.getfield 14, 3) := by decide +kernel
theorem dX11_optionOf_6 : decode cX11_optionOf 6 = .ok (.iconst 3, 1) := by decide +kernel
theorem dX11_optionOf_7 : decode cX11_optionOf 7 = .ok (.iaload, 1) := by decide +kernel
theorem dX11_optionOf_8 : decode cX11_optionOf 8 = .ok (.iconst 1, 1) := by decide +kernel
theorem dX11_optionOf_9 : decode cX11_optionOf 9 = .ok (.isub, 1) := by decide +kernel
theorem dX11_optionOf_10 : decode cX11_optionOf 10 = .ok (.invokestatic 104, 3) := by decide +kernel
theorem dX11_optionOf_13 : decode cX11_optionOf 13 = .ok (.ifCond .ne 10, 3) := by decide +kernel
theorem dX11_optionOf_16 : decode cX11_optionOf 16 = .ok (.aload_n 0, 1) := by decide +kernel
theorem dX11_optionOf_17 : decode cX11_optionOf 17 = .ok (.bipush (-3), 2) := by decide +kernel
theorem dX11_optionOf_19 : decode cX11_optionOf 19 = .ok (.invokevirtual 108, 3) := by decide +kernel
theorem dX11_optionOf_22 : decode cX11_optionOf 22 = .ok (.ireturn, 1) := by decide +kernel
theorem dX11_optionOf_23 : decode cX11_optionOf 23 = .ok (.iload_n 2, 1) := by decide +kernel
theorem dX11_optionOf_24 : decode cX11_optionOf 24 = .ok (.iconst 0, 1) := by decide +kernel
theorem dX11_optionOf_25 : decode cX11_optionOf 25 = .ok (.bipush 6, 2) := by decide +kernel
theorem dX11_optionOf_27 : decode cX11_optionOf 27 = .ok (.invokestatic 104, 3) := by decide +kernel
theorem dX11_optionOf_30 : decode cX11_optionOf 30 = .ok (.ifCond .eq 12, 3) := by decide +kernel
theorem dX11_optionOf_33 : decode cX11_optionOf 33 = .ok (.aload_n 0, 1) := by decide +kernel
theorem dX11_optionOf_34 : decode cX11_optionOf 34 = .ok (.iload_n 1, 1) := by decide +kernel
theorem dX11_optionOf_35 : decode cX11_optionOf 35 = .ok (.iload_n 2, 1) := by decide +kernel
theorem dX11_optionOf_36 : decode cX11_optionOf 36 = .ok (.invokevirtual 170, 3) := by decide +kernel
theorem dX11_optionOf_39 : decode cX11_optionOf 39 = .ok (.goto 9, 3) := by decide +kernel
theorem dX11_optionOf_42 : decode cX11_optionOf 42 = .ok (.aload_n 0, 1) := by decide +kernel
theorem dX11_optionOf_43 : decode cX11_optionOf 43 = .ok (.bipush (-7), 2) := by decide +kernel
theorem dX11_optionOf_45 : decode cX11_optionOf 45 = .ok (.invokevirtual 108, 3) := by decide +kernel
theorem dX11_optionOf_48 : decode cX11_optionOf 48 = .ok (.ireturn, 1) := by decide +kernel
theorem dX11_dividend_0 : decode cX11_dividend 0 = .ok (.aload_n 0, 1) := by decide +kernel
theorem dX11_dividend_1 : decode cX11_dividend 1 = .ok (.iload_n 1, 1) := by decide +kernel
theorem dX11_dividend_2 : decode cX11_dividend 2 = .ok (.invokevirtual 117, 3) := by decide +kernel
theorem dX11_dividend_5 : decode cX11_dividend 5 = .ok (.ifCond .ne 10, 3) := by decide +kernel
theorem dX11_dividend_8 : decode cX11_dividend 8 = .ok (.aload_n 0, 1) := by decide +kernel
theorem dX11_dividend_9 : decode cX11_dividend 9 = .ok (.bipush (-3), 2) := by decide +kernel
theorem dX11_dividend_11 : decode cX11_dividend 11 = .ok (.invokevirtual 108, 3) := by decide +kernel
theorem dX11_dividend_14 : decode cX11_dividend 14 = .ok (.ireturn, 1) := by decide +kernel
theorem dX11_dividend_15 : decode cX11_dividend 15 = .ok (.iload_n 2, 1) := by decide +kernel
theorem dX11_dividend_16 : decode cX11_dividend 16 = .ok (.aload_n 0, 1) := by decide +kernel
theorem dX11_dividend_17 : decode cX11_dividend 17 = .ok (.getfield 14, 3) := by decide +kernel
theorem dX11_dividend_20 : decode cX11_dividend 20 = .ok (.iconst 0, 1) := by decide +kernel
theorem dX11_dividend_21 : decode cX11_dividend 21 = .ok (.iaload, 1) := by decide +kernel
theorem dX11_dividend_22 : decode cX11_dividend 22 = .ok (.sipush 699, 3) := by decide +kernel
theorem dX11_dividend_25 : decode cX11_dividend 25 = .ok (.invokestatic 104, 3) := by decide +kernel
theorem dX11_dividend_28 : decode cX11_dividend 28 = .ok (.ifCond .eq 14, 3) := by decide +kernel
theorem dX11_dividend_31 : decode cX11_dividend 31 = .ok (.iload_n 3, 1) := by decide +kernel
theorem dX11_dividend_32 : decode cX11_dividend 32 = .ok (.iconst 1, 1) := by decide +kernel
theorem dX11_dividend_33 : decode cX11_dividend 33 = .ok (.sipush 999, 3) := by decide +kernel
theorem dX11_dividend_36 : decode cX11_dividend 36 = .ok (.invokestatic 104, 3) := by decide +kernel
theorem dX11_dividend_39 : decode cX11_dividend 39 = .ok (.ifCond .ne 10, 3) := by decide +kernel
theorem dX11_dividend_42 : decode cX11_dividend 42 = .ok (.aload_n 0, 1) := by decide +kernel
theorem dX11_dividend_43 : decode cX11_dividend 43 = .ok (.bipush (-7), 2) := by decide +kernel
theorem dX11_dividend_45 : decode cX11_dividend 45 = .ok (.invokevirtual 108, 3) := by decide +kernel
theorem dX11_dividend_48 : decode cX11_dividend 48 = .ok (.ireturn, 1) := by decide +kernel
theorem dX11_dividend_49 : decode cX11_dividend 49 = .ok (.aload_n 0, 1) := by decide +kernel
theorem dX11_dividend_50 : decode cX11_dividend 50 = .ok (.getfield 14, 3) := by decide +kernel
theorem dX11_dividend_53 : decode cX11_dividend 53 = .ok (.iconst 5, 1) := by decide +kernel
theorem dX11_dividend_54 : decode cX11_dividend 54 = .ok (.iaload, 1) := by decide +kernel
theorem dX11_dividend_55 : decode cX11_dividend 55 = .ok (.bipush 10, 2) := by decide +kernel
theorem dX11_dividend_57 : decode cX11_dividend 57 = .ok (.if_icmp .ne 10, 3) := by decide +kernel
theorem dX11_dividend_60 : decode cX11_dividend 60 = .ok (.aload_n 0, 1) := by decide +kernel
theorem dX11_dividend_61 : decode cX11_dividend 61 = .ok (.bipush (-8), 2) := by decide +kernel
theorem dX11_dividend_63 : decode cX11_dividend 63 = .ok (.invokevirtual 108, 3) := by decide +kernel
theorem dX11_dividend_66 : decode cX11_dividend 66 = .ok (.ireturn, 1) := by decide +kernel
theorem dX11_dividend_67 : decode cX11_dividend 67 = .ok (.sipush 1052, 3) := by decide +kernel
theorem dX11_dividend_70 : decode cX11_dividend 70 = .ok (.iconst 3, 1) := by decide +kernel
theorem dX11_dividend_71 : decode cX11_dividend 71 = .ok (.aload_n 0, 1) := by decide +kernel
theorem dX11_dividend_72 : decode cX11_dividend 72 = .ok (.getfield 14, 3) := by decide +kernel
theorem dX11_dividend_75 : decode cX11_dividend 75 = .ok (.iconst 5, 1) := by decide +kernel
theorem dX11_dividend_76 : decode cX11_dividend 76 = .ok (.iaload, 1) := by decide +kernel
theorem dX11_dividend_77 : decode cX11_dividend 77 = .ok (.imul, 1) := by decide +kernel
theorem dX11_dividend_78 : decode cX11_dividend 78 = .ok (.iadd, 1) := by decide +kernel
theorem dX11_dividend_79 : decode cX11_dividend 79 = .ok (.istore 4, 2) := by decide +kernel
theorem dX11_dividend_81 : decode cX11_dividend 81 = .ok (.aload_n 0, 1) := by decide +kernel
theorem dX11_dividend_82 : decode cX11_dividend 82 = .ok (.getfield 14, 3) := by decide +kernel
theorem dX11_dividend_85 : decode cX11_dividend 85 = .ok (.iload 4, 2) := by decide +kernel
theorem dX11_dividend_87 : decode cX11_dividend 87 = .ok (.iload_n 1, 1) := by decide +kernel
theorem dX11_dividend_88 : decode cX11_dividend 88 = .ok (.iastore, 1) := by decide +kernel
theorem dX11_dividend_89 : decode cX11_dividend 89 = .ok (.aload_n 0, 1) := by decide +kernel
theorem dX11_dividend_90 : decode cX11_dividend 90 = .ok (.getfield 14, 3) := by decide +kernel
theorem dX11_dividend_93 : decode cX11_dividend 93 = .ok (.iload 4, 2) := by decide +kernel
theorem dX11_dividend_95 : decode cX11_dividend 95 = .ok (.iconst 1, 1) := by decide +kernel
theorem dX11_dividend_96 : decode cX11_dividend 96 = .ok (.iadd, 1) := by decide +kernel
theorem dX11_dividend_97 : decode cX11_dividend 97 = .ok (.iload_n 2, 1) := by decide +kernel
theorem dX11_dividend_98 : decode cX11_dividend 98 = .ok (.iastore, 1) := by decide +kernel
theorem dX11_dividend_99 : decode cX11_dividend 99 = .ok (.aload_n 0, 1) := by decide +kernel
theorem dX11_dividend_100 : decode cX11_dividend 100 = .ok (.getfield 14, 3) := by decide +kernel
theorem dX11_dividend_103 : decode cX11_dividend 103 = .ok (.iload 4, 2) := by decide +kernel
theorem dX11_dividend_105 : decode cX11_dividend 105 = .ok (.iconst 2, 1) := by decide +kernel
theorem dX11_dividend_106 : decode cX11_dividend 106 = .ok (.iadd, 1) := by decide +kernel
theorem dX11_dividend_107 : decode cX11_dividend 107 = .ok (.iload_n 3, 1) := by decide +kernel
theorem dX11_dividend_108 : decode cX11_dividend 108 = .ok (.iastore, 1) := by decide +kernel
theorem dX11_dividend_109 : decode cX11_dividend 109 = .ok (.aload_n 0, 1) := by decide +kernel
theorem dX11_dividend_110 : decode cX11_dividend 110 = .ok (.getfield 14, 3) := by decide +kernel
theorem dX11_dividend_113 : decode cX11_dividend 113 = .ok (.iconst 5, 1) := by decide +kernel
theorem dX11_dividend_114 : decode cX11_dividend 114 = .ok (.dup2, 1) := by decide +kernel
theorem dX11_dividend_115 : decode cX11_dividend 115 = .ok (.iaload, 1) := by decide +kernel
theorem dX11_dividend_116 : decode cX11_dividend 116 = .ok (.iconst 1, 1) := by decide +kernel
theorem dX11_dividend_117 : decode cX11_dividend 117 = .ok (.iadd, 1) := by decide +kernel
theorem dX11_dividend_118 : decode cX11_dividend 118 = .ok (.iastore, 1) := by decide +kernel
theorem dX11_dividend_119 : decode cX11_dividend 119 = .ok (.aload_n 0, 1) := by decide +kernel
theorem dX11_dividend_120 : decode cX11_dividend 120 = .ok (.getfield 14, 3) := by decide +kernel
theorem dX11_dividend_123 : decode cX11_dividend 123 = .ok (.iconst 5, 1) := by decide +kernel
theorem dX11_dividend_124 : decode cX11_dividend 124 = .ok (.iaload, 1) := by decide +kernel
theorem dX11_dividend_125 : decode cX11_dividend 125 = .ok (.ireturn, 1) := by decide +kernel
theorem dX11_byteAt_0 : decode cX11_byteAt 0 = .ok (.iload_n 1, 1) := by decide +kernel
theorem dX11_byteAt_1 : decode cX11_byteAt 1 = .ok (.aload_n 0, 1) := by decide +kernel
theorem dX11_byteAt_2 : decode cX11_byteAt 2 = .ok (.getfield 173, 3) := by decide +kernel
theorem dX11_byteAt_5 : decode cX11_byteAt 5 = .ok (.if_icmp .ge 12, 3) := by decide +kernel
theorem dX11_byteAt_8 : decode cX11_byteAt 8 = .ok (.aload_n 0, 1) := by decide +kernel
theorem dX11_byteAt_9 : decode cX11_byteAt 9 = .ok (.getfield 28, 3) := by decide +kernel
theorem dX11_byteAt_12 : decode cX11_byteAt 12 = .ok (.iload_n 1, 1) := by decide +kernel
theorem dX11_byteAt_13 : decode cX11_byteAt 13 = .ok (.iaload, 1) := by decide +kernel
theorem dX11_byteAt_14 : decode cX11_byteAt 14 = .ok (.goto 4, 3) := by decide +kernel
theorem dX11_byteAt_17 : decode cX11_byteAt 17 = .ok (.iconst (-1), 1) := by decide +kernel
theorem dX11_byteAt_18 : decode cX11_byteAt 18 = .ok (.ireturn, 1) := by decide +kernel
theorem dX11_next_0 : decode cX11_next 0 = .ok (.aload_n 0, 1) := by decide +kernel
theorem dX11_next_1 : decode cX11_next 1 = .ok (.aload_n 0, 1) := by decide +kernel
theorem dX11_next_2 : decode cX11_next 2 = .ok (.getfield 176, 3) := by decide +kernel
theorem dX11_next_5 : decode cX11_next 5 = .ok (.invokevirtual 179, 3) := by decide +kernel
theorem dX11_next_8 : decode cX11_next 8 = .ok (.bipush 32, 2) := by decide +kernel
theorem dX11_next_10 : decode cX11_next 10 = .ok (.if_icmp .ne 16, 3) := by decide +kernel
theorem dX11_next_13 : decode cX11_next 13 = .ok (.aload_n 0, 1) := by decide +kernel
theorem dX11_next_14 : decode cX11_next 14 = .ok (.dup, 1) := by decide +kernel
theorem dX11_next_15 : decode cX11_next 15 = .ok (.getfield 176, 3) := by decide +kernel
theorem dX11_next_18 : decode cX11_next 18 = .ok (.iconst 1, 1) := by decide +kernel
theorem dX11_next_19 : decode cX11_next 19 = .ok (.iadd, 1) := by decide +kernel
theorem dX11_next_20 : decode cX11_next 20 = .ok (.putfield 176, 3) := by decide +kernel
theorem dX11_next_23 : decode cX11_next 23 = .ok (.goto (-23), 3) := by decide +kernel
theorem dX11_next_26 : decode cX11_next 26 = .ok (.aload_n 0, 1) := by decide +kernel
theorem dX11_next_27 : decode cX11_next 27 = .ok (.aload_n 0, 1) := by decide +kernel
theorem dX11_next_28 : decode cX11_next 28 = .ok (.getfield 176, 3) := by decide +kernel
theorem dX11_next_31 : decode cX11_next 31 = .ok (.putfield 182, 3) := by decide +kernel
theorem dX11_next_34 : decode cX11_next 34 = .ok (.aload_n 0, 1) := by decide +kernel
theorem dX11_next_35 : decode cX11_next 35 = .ok (.aload_n 0, 1) := by decide +kernel
theorem dX11_next_36 : decode cX11_next 36 = .ok (.getfield 176, 3) := by decide +kernel
theorem dX11_next_39 : decode cX11_next 39 = .ok (.invokevirtual 179, 3) := by decide +kernel
theorem dX11_next_42 : decode cX11_next 42 = .ok (.istore_n 1, 1) := by decide +kernel
theorem dX11_next_43 : decode cX11_next 43 = .ok (.aload_n 0, 1) := by decide +kernel
theorem dX11_next_44 : decode cX11_next 44 = .ok (.iconst 4, 1) := by decide +kernel
theorem dX11_next_45 : decode cX11_next 45 = .ok (.putfield 185, 3) := by decide +kernel
theorem dX11_next_48 : decode cX11_next 48 = .ok (.iload_n 1, 1) := by decide +kernel
theorem dX11_next_49 : decode cX11_next 49 = .ok (.ifCond .ge 19, 3) := by decide +kernel
theorem dX11_next_52 : decode cX11_next 52 = .ok (.aload_n 0, 1) := by decide +kernel
theorem dX11_next_53 : decode cX11_next 53 = .ok (.iconst 0, 1) := by decide +kernel
theorem dX11_next_54 : decode cX11_next 54 = .ok (.putfield 185, 3) := by decide +kernel
theorem dX11_next_57 : decode cX11_next 57 = .ok (.aload_n 0, 1) := by decide +kernel
theorem dX11_next_58 : decode cX11_next 58 = .ok (.aload_n 0, 1) := by decide +kernel
theorem dX11_next_59 : decode cX11_next 59 = .ok (.getfield 173, 3) := by decide +kernel
theorem dX11_next_62 : decode cX11_next 62 = .ok (.putfield 182, 3) := by decide +kernel
theorem dX11_next_65 : decode cX11_next 65 = .ok (.goto 294, 3) := by decide +kernel
theorem dX11_next_68 : decode cX11_next 68 = .ok (.iload_n 1, 1) := by decide +kernel
theorem dX11_next_69 : decode cX11_next 69 = .ok (.bipush 97, 2) := by decide +kernel
theorem dX11_next_71 : decode cX11_next 71 = .ok (.bipush 122, 2) := by decide +kernel
theorem dX11_next_73 : decode cX11_next 73 = .ok (.invokestatic 104, 3) := by decide +kernel
theorem dX11_next_76 : decode cX11_next 76 = .ok (.ifCond .eq 90, 3) := by decide +kernel
theorem dX11_next_79 : decode cX11_next 79 = .ok (.aload_n 0, 1) := by decide +kernel
theorem dX11_next_80 : decode cX11_next 80 = .ok (.iconst 1, 1) := by decide +kernel
theorem dX11_next_81 : decode cX11_next 81 = .ok (.putfield 185, 3) := by decide +kernel
theorem dX11_next_84 : decode cX11_next 84 = .ok (.aload_n 0, 1) := by decide +kernel
theorem dX11_next_85 : decode cX11_next 85 = .ok (.lconst 0, 1) := by decide +kernel
theorem dX11_next_86 : decode cX11_next 86 = .ok (.putfield 188, 3) := by decide +kernel
theorem dX11_next_89 : decode cX11_next 89 = .ok (.iconst 0, 1) := by decide +kernel
theorem dX11_next_90 : decode cX11_next 90 = .ok (.istore_n 2, 1) := by decide +kernel
theorem dX11_next_91 : decode cX11_next 91 = .ok (.aload_n 0, 1) := by decide +kernel
theorem dX11_next_92 : decode cX11_next 92 = .ok (.aload_n 0, 1) := by decide +kernel
theorem dX11_next_93 : decode cX11_next 93 = .ok (.getfield 176, 3) := by decide +kernel
theorem dX11_next_96 : decode cX11_next 96 = .ok (.invokevirtual 179, 3) := by decide +kernel
theorem dX11_next_99 : decode cX11_next 99 = .ok (.bipush 97, 2) := by decide +kernel
theorem dX11_next_101 : decode cX11_next 101 = .ok (.bipush 122, 2) := by decide +kernel
theorem dX11_next_103 : decode cX11_next 103 = .ok (.invokestatic 104, 3) := by decide +kernel
theorem dX11_next_106 : decode cX11_next 106 = .ok (.ifCond .eq 57, 3) := by decide +kernel
theorem dX11_next_109 : decode cX11_next 109 = .ok (.aload_n 0, 1) := by decide +kernel
theorem dX11_next_110 : decode cX11_next 110 = .ok (.iload_n 2, 1) := by decide +kernel
theorem dX11_next_111 : decode cX11_next 111 = .ok (.bipush 7, 2) := by decide +kernel
theorem dX11_next_113 : decode cX11_next 113 = .ok (.if_icmp .ge 28, 3) := by decide +kernel
theorem dX11_next_116 : decode cX11_next 116 = .ok (.ldc2_w 192, 3) := by decide +kernel
theorem dX11_next_119 : decode cX11_next 119 = .ok (.aload_n 0, 1) := by decide +kernel
theorem dX11_next_120 : decode cX11_next 120 = .ok (.getfield 188, 3) := by decide +kernel
theorem dX11_next_123 : decode cX11_next 123 = .ok (.lmul, 1) := by decide +kernel
theorem dX11_next_124 : decode cX11_next 124 = .ok (.aload_n 0, 1) := by decide +kernel
theorem dX11_next_125 : decode cX11_next 125 = .ok (.aload_n 0, 1) := by decide +kernel
theorem dX11_next_126 : decode cX11_next 126 = .ok (.getfield 176, 3) := by decide +kernel
theorem dX11_next_129 : decode cX11_next 129 = .ok (.invokevirtual 179, 3) := by decide +kernel
theorem dX11_next_132 : decode cX11_next 132 = .ok (.i2l, 1) := by decide +kernel
theorem dX11_next_133 : decode cX11_next 133 = .ok (.ladd, 1) := by decide +kernel
theorem dX11_next_134 : decode cX11_next 134 = .ok (.ldc2_w 194, 3) := by decide +kernel
theorem dX11_next_137 : decode cX11_next 137 = .ok (.lsub, 1) := by decide +kernel
theorem dX11_next_138 : decode cX11_next 138 = .ok (.goto 6, 3) := by decide +kernel
theorem dX11_next_141 : decode cX11_next 141 = .ok (.ldc2_w 196, 3) := by decide +kernel
theorem dX11_next_144 : decode cX11_next 144 = .ok (.putfield 188, 3) := by decide +kernel
theorem dX11_next_147 : decode cX11_next 147 = .ok (.iinc 2 1, 3) := by decide +kernel
theorem dX11_next_150 : decode cX11_next 150 = .ok (.aload_n 0, 1) := by decide +kernel
theorem dX11_next_151 : decode cX11_next 151 = .ok (.dup, 1) := by decide +kernel
theorem dX11_next_152 : decode cX11_next 152 = .ok (.getfield 176, 3) := by decide +kernel
theorem dX11_next_155 : decode cX11_next 155 = .ok (.iconst 1, 1) := by decide +kernel
theorem dX11_next_156 : decode cX11_next 156 = .ok (.iadd, 1) := by decide +kernel
theorem dX11_next_157 : decode cX11_next 157 = .ok (.putfield 176, 3) := by decide +kernel
theorem dX11_next_160 : decode cX11_next 160 = .ok (.goto (-69), 3) := by decide +kernel
theorem dX11_next_163 : decode cX11_next 163 = .ok (.goto 196, 3) := by decide +kernel
theorem dX11_next_166 : decode cX11_next 166 = .ok (.iload_n 1, 1) := by decide +kernel
theorem dX11_next_167 : decode cX11_next 167 = .ok (.bipush 48, 2) := by decide +kernel
theorem dX11_next_169 : decode cX11_next 169 = .ok (.bipush 57, 2) := by decide +kernel
theorem dX11_next_171 : decode cX11_next 171 = .ok (.invokestatic 104, 3) := by decide +kernel
theorem dX11_next_174 : decode cX11_next 174 = .ok (.ifCond .eq 104, 3) := by decide +kernel
theorem dX11_next_177 : decode cX11_next 177 = .ok (.aload_n 0, 1) := by decide +kernel
theorem dX11_next_178 : decode cX11_next 178 = .ok (.iconst 2, 1) := by decide +kernel
theorem dX11_next_179 : decode cX11_next 179 = .ok (.putfield 185, 3) := by decide +kernel
theorem dX11_next_182 : decode cX11_next 182 = .ok (.aload_n 0, 1) := by decide +kernel
theorem dX11_next_183 : decode cX11_next 183 = .ok (.lconst 0, 1) := by decide +kernel
theorem dX11_next_184 : decode cX11_next 184 = .ok (.putfield 188, 3) := by decide +kernel
theorem dX11_next_187 : decode cX11_next 187 = .ok (.iconst 0, 1) := by decide +kernel
theorem dX11_next_188 : decode cX11_next 188 = .ok (.istore_n 2, 1) := by decide +kernel
theorem dX11_next_189 : decode cX11_next 189 = .ok (.aload_n 0, 1) := by decide +kernel
theorem dX11_next_190 : decode cX11_next 190 = .ok (.aload_n 0, 1) := by decide +kernel
theorem dX11_next_191 : decode cX11_next 191 = .ok (.getfield 176, 3) := by decide +kernel
theorem dX11_next_194 : decode cX11_next 194 = .ok (.invokevirtual 179, 3) := by decide +kernel
theorem dX11_next_197 : decode cX11_next 197 = .ok (.bipush 48, 2) := by decide +kernel
theorem dX11_next_199 : decode cX11_next 199 = .ok (.bipush 57, 2) := by decide +kernel
theorem dX11_next_201 : decode cX11_next 201 = .ok (.invokestatic 104, 3) := by decide +kernel
theorem dX11_next_204 : decode cX11_next 204 = .ok (.ifCond .eq 57, 3) := by decide +kernel
theorem dX11_next_207 : decode cX11_next 207 = .ok (.aload_n 0, 1) := by decide +kernel
theorem dX11_next_208 : decode cX11_next 208 = .ok (.iload_n 2, 1) := by decide +kernel
theorem dX11_next_209 : decode cX11_next 209 = .ok (.iconst 5, 1) := by decide +kernel
theorem dX11_next_210 : decode cX11_next 210 = .ok (.if_icmp .ge 28, 3) := by decide +kernel
theorem dX11_next_213 : decode cX11_next 213 = .ok (.ldc2_w 198, 3) := by decide +kernel
theorem dX11_next_216 : decode cX11_next 216 = .ok (.aload_n 0, 1) := by decide +kernel
theorem dX11_next_217 : decode cX11_next 217 = .ok (.getfield 188, 3) := by decide +kernel
theorem dX11_next_220 : decode cX11_next 220 = .ok (.lmul, 1) := by decide +kernel
theorem dX11_next_221 : decode cX11_next 221 = .ok (.aload_n 0, 1) := by decide +kernel
theorem dX11_next_222 : decode cX11_next 222 = .ok (.aload_n 0, 1) := by decide +kernel
theorem dX11_next_223 : decode cX11_next 223 = .ok (.getfield 176, 3) := by decide +kernel
theorem dX11_next_226 : decode cX11_next 226 = .ok (.invokevirtual 179, 3) := by decide +kernel
theorem dX11_next_229 : decode cX11_next 229 = .ok (.i2l, 1) := by decide +kernel
theorem dX11_next_230 : decode cX11_next 230 = .ok (.ladd, 1) := by decide +kernel
theorem dX11_next_231 : decode cX11_next 231 = .ok (.ldc2_w 200, 3) := by decide +kernel
theorem dX11_next_234 : decode cX11_next 234 = .ok (.lsub, 1) := by decide +kernel
theorem dX11_next_235 : decode cX11_next 235 = .ok (.goto 7, 3) := by decide +kernel
theorem dX11_next_238 : decode cX11_next 238 = .ok (.aload_n 0, 1) := by decide +kernel
theorem dX11_next_239 : decode cX11_next 239 = .ok (.getfield 188, 3) := by decide +kernel
theorem dX11_next_242 : decode cX11_next 242 = .ok (.putfield 188, 3) := by decide +kernel
theorem dX11_next_245 : decode cX11_next 245 = .ok (.iinc 2 1, 3) := by decide +kernel
theorem dX11_next_248 : decode cX11_next 248 = .ok (.aload_n 0, 1) := by decide +kernel
theorem dX11_next_249 : decode cX11_next 249 = .ok (.dup, 1) := by decide +kernel
theorem dX11_next_250 : decode cX11_next 250 = .ok (.getfield 176, 3) := by decide +kernel
theorem dX11_next_253 : decode cX11_next 253 = .ok (.iconst 1, 1) := by decide +kernel
theorem dX11_next_254 : decode cX11_next 254 = .ok (.iadd, 1) := by decide +kernel
theorem dX11_next_255 : decode cX11_next 255 = .ok (.putfield 176, 3) := by decide +kernel
theorem dX11_next_258 : decode cX11_next 258 = .ok (.goto (-69), 3) := by decide +kernel
theorem dX11_next_261 : decode cX11_next 261 = .ok (.aload_n 0, 1) := by decide +kernel
theorem dX11_next_262 : decode cX11_next 262 = .ok (.iload_n 2, 1) := by decide +kernel
theorem dX11_next_263 : decode cX11_next 263 = .ok (.iconst 5, 1) := by decide +kernel
theorem dX11_next_264 : decode cX11_next 264 = .ok (.if_icmp .le 7, 3) := by decide +kernel
theorem dX11_next_267 : decode cX11_next 267 = .ok (.iconst 4, 1) := by decide +kernel
theorem dX11_next_268 : decode cX11_next 268 = .ok (.goto 4, 3) := by decide +kernel
theorem dX11_next_271 : decode cX11_next 271 = .ok (.iconst 2, 1) := by decide +kernel
theorem dX11_next_272 : decode cX11_next 272 = .ok (.putfield 185, 3) := by decide +kernel
theorem dX11_next_275 : decode cX11_next 275 = .ok (.goto 84, 3) := by decide +kernel
theorem dX11_next_278 : decode cX11_next 278 = .ok (.iload_n 1, 1) := by decide +kernel
theorem dX11_next_279 : decode cX11_next 279 = .ok (.bipush 40, 2) := by decide +kernel
theorem dX11_next_281 : decode cX11_next 281 = .ok (.if_icmp .eq 57, 3) := by decide +kernel
theorem dX11_next_284 : decode cX11_next 284 = .ok (.iload_n 1, 1) := by decide +kernel
theorem dX11_next_285 : decode cX11_next 285 = .ok (.bipush 41, 2) := by decide +kernel
theorem dX11_next_287 : decode cX11_next 287 = .ok (.if_icmp .eq 51, 3) := by decide +kernel
theorem dX11_next_290 : decode cX11_next 290 = .ok (.iload_n 1, 1) := by decide +kernel
theorem dX11_next_291 : decode cX11_next 291 = .ok (.bipush 43, 2) := by decide +kernel
theorem dX11_next_293 : decode cX11_next 293 = .ok (.if_icmp .eq 45, 3) := by decide +kernel
theorem dX11_next_296 : decode cX11_next 296 = .ok (.iload_n 1, 1) := by decide +kernel
theorem dX11_next_297 : decode cX11_next 297 = .ok (.bipush 45, 2) := by decide +kernel
theorem dX11_next_299 : decode cX11_next 299 = .ok (.if_icmp .eq 39, 3) := by decide +kernel
theorem dX11_next_302 : decode cX11_next 302 = .ok (.iload_n 1, 1) := by decide +kernel
theorem dX11_next_303 : decode cX11_next 303 = .ok (.bipush 42, 2) := by decide +kernel
theorem dX11_next_305 : decode cX11_next 305 = .ok (.if_icmp .eq 33, 3) := by decide +kernel
theorem dX11_next_308 : decode cX11_next 308 = .ok (.iload_n 1, 1) := by decide +kernel
theorem dX11_next_309 : decode cX11_next 309 = .ok (.bipush 47, 2) := by decide +kernel
theorem dX11_next_311 : decode cX11_next 311 = .ok (.if_icmp .eq 27, 3) := by decide +kernel
theorem dX11_next_314 : decode cX11_next 314 = .ok (.iload_n 1, 1) := by decide +kernel
theorem dX11_next_315 : decode cX11_next 315 = .ok (.bipush 37, 2) := by decide +kernel
theorem dX11_next_317 : decode cX11_next 317 = .ok (.if_icmp .eq 21, 3) := by decide +kernel
theorem dX11_next_320 : decode cX11_next 320 = .ok (.iload_n 1, 1) := by decide +kernel
theorem dX11_next_321 : decode cX11_next 321 = .ok (.bipush 61, 2) := by decide +kernel
theorem dX11_next_323 : decode cX11_next 323 = .ok (.if_icmp .eq 15, 3) := by decide +kernel
theorem dX11_next_326 : decode cX11_next 326 = .ok (.iload_n 1, 1) := by decide +kernel
theorem dX11_next_327 : decode cX11_next 327 = .ok (.bipush 60, 2) := by decide +kernel
theorem dX11_next_329 : decode cX11_next 329 = .ok (.if_icmp .eq 9, 3) := by decide +kernel
theorem dX11_next_332 : decode cX11_next 332 = .ok (.iload_n 1, 1) := by decide +kernel
theorem dX11_next_333 : decode cX11_next 333 = .ok (.bipush 62, 2) := by decide +kernel
theorem dX11_next_335 : decode cX11_next 335 = .ok (.if_icmp .ne 24, 3) := by decide +kernel
theorem dX11_next_338 : decode cX11_next 338 = .ok (.aload_n 0, 1) := by decide +kernel
theorem dX11_next_339 : decode cX11_next 339 = .ok (.iconst 3, 1) := by decide +kernel
theorem dX11_next_340 : decode cX11_next 340 = .ok (.putfield 185, 3) := by decide +kernel
theorem dX11_next_343 : decode cX11_next 343 = .ok (.aload_n 0, 1) := by decide +kernel
theorem dX11_next_344 : decode cX11_next 344 = .ok (.iload_n 1, 1) := by decide +kernel
theorem dX11_next_345 : decode cX11_next 345 = .ok (.i2l, 1) := by decide +kernel
theorem dX11_next_346 : decode cX11_next 346 = .ok (.putfield 188, 3) := by decide +kernel
theorem dX11_next_349 : decode cX11_next 349 = .ok (.aload_n 0, 1) := by decide +kernel
theorem dX11_next_350 : decode cX11_next 350 = .ok (.dup, 1) := by decide +kernel
theorem dX11_next_351 : decode cX11_next 351 = .ok (.getfield 176, 3) := by decide +kernel
theorem dX11_next_354 : decode cX11_next 354 = .ok (.iconst 1, 1) := by decide +kernel
theorem dX11_next_355 : decode cX11_next 355 = .ok (.iadd, 1) := by decide +kernel
theorem dX11_next_356 : decode cX11_next 356 = .ok (.putfield 176, 3) := by decide +kernel
theorem dX11_next_359 : decode cX11_next 359 = .ok (.return_, 1) := by decide +kernel
theorem dX11_fail_0 : decode cX11_fail 0 = .ok (.aload_n 0, 1) := by decide +kernel
theorem dX11_fail_1 : decode cX11_fail 1 = .ok (.getfield 202, 3) := by decide +kernel
theorem dX11_fail_4 : decode cX11_fail 4 = .ok (.ifCond .ne 16, 3) := by decide +kernel
theorem dX11_fail_7 : decode cX11_fail 7 = .ok (.aload_n 0, 1) := by decide +kernel
theorem dX11_fail_8 : decode cX11_fail 8 = .ok (.iconst 1, 1) := by decide +kernel
theorem dX11_fail_9 : decode cX11_fail 9 = .ok (.putfield 202, 3) := by decide +kernel
theorem dX11_fail_12 : decode cX11_fail 12 = .ok (.aload_n 0, 1) := by decide +kernel
theorem dX11_fail_13 : decode cX11_fail 13 = .ok (.aload_n 0, 1) := by decide +kernel
theorem dX11_fail_14 : decode cX11_fail 14 = .ok (.getfield 182, 3) := by decide +kernel
theorem dX11_fail_17 : decode cX11_fail 17 = .ok (.putfield 206, 3) := by decide +kernel
theorem dX11_fail_20 : decode cX11_fail 20 = .ok (.return_, 1) := by decide +kernel
theorem dX11_isWord_0 : decode cX11_isWord 0 = .ok (.aload_n 0, 1) := by decide +kernel
theorem dX11_isWord_1 : decode cX11_isWord 1 = .ok (.getfield 202, 3) := by decide +kernel
theorem dX11_isWord_4 : decode cX11_isWord 4 = .ok (.ifCond .ne 24, 3) := by decide +kernel
theorem dX11_isWord_7 : decode cX11_isWord 7 = .ok (.aload_n 0, 1) := by decide +kernel
theorem dX11_isWord_8 : decode cX11_isWord 8 = .ok (.getfield 185, 3) := by decide +kernel
theorem dX11_isWord_11 : decode cX11_isWord 11 = .ok (.iconst 1, 1) := by decide +kernel
theorem dX11_isWord_12 : decode cX11_isWord 12 = .ok (.if_icmp .ne 16, 3) := by decide +kernel
theorem dX11_isWord_15 : decode cX11_isWord 15 = .ok (.aload_n 0, 1) := by decide +kernel
theorem dX11_isWord_16 : decode cX11_isWord 16 = .ok (.getfield 188, 3) := by decide +kernel
theorem dX11_isWord_19 : decode cX11_isWord 19 = .ok (.lload_n 1, 1) := by decide +kernel
theorem dX11_isWord_20 : decode cX11_isWord 20 = .ok (.lcmp, 1) := by decide +kernel
theorem dX11_isWord_21 : decode cX11_isWord 21 = .ok (.ifCond .ne 7, 3) := by decide +kernel
theorem dX11_isWord_24 : decode cX11_isWord 24 = .ok (.iconst 1, 1) := by decide +kernel
theorem dX11_isWord_25 : decode cX11_isWord 25 = .ok (.goto 4, 3) := by decide +kernel
theorem dX11_isWord_28 : decode cX11_isWord 28 = .ok (.iconst 0, 1) := by decide +kernel
theorem dX11_isWord_29 : decode cX11_isWord 29 = .ok (.ireturn, 1) := by decide +kernel
theorem dX11_isSign_0 : decode cX11_isSign 0 = .ok (.aload_n 0, 1) := by decide +kernel
theorem dX11_isSign_1 : decode cX11_isSign 1 = .ok (.getfield 202, 3) := by decide +kernel
theorem dX11_isSign_4 : decode cX11_isSign 4 = .ok (.ifCond .ne 25, 3) := by decide +kernel
theorem dX11_isSign_7 : decode cX11_isSign 7 = .ok (.aload_n 0, 1) := by decide +kernel
theorem dX11_isSign_8 : decode cX11_isSign 8 = .ok (.getfield 185, 3) := by decide +kernel
theorem dX11_isSign_11 : decode cX11_isSign 11 = .ok (.iconst 3, 1) := by decide +kernel
theorem dX11_isSign_12 : decode cX11_isSign 12 = .ok (.if_icmp .ne 17, 3) := by decide +kernel
theorem dX11_isSign_15 : decode cX11_isSign 15 = .ok (.aload_n 0, 1) := by decide +kernel
theorem dX11_isSign_16 : decode cX11_isSign 16 = .ok (.getfield 188, 3) := by decide +kernel
theorem dX11_isSign_19 : decode cX11_isSign 19 = .ok (.iload_n 1, 1) := by decide +kernel
theorem dX11_isSign_20 : decode cX11_isSign 20 = .ok (.i2l, 1) := by decide +kernel
theorem dX11_isSign_21 : decode cX11_isSign 21 = .ok (.lcmp, 1) := by decide +kernel
theorem dX11_isSign_22 : decode cX11_isSign 22 = .ok (.ifCond .ne 7, 3) := by decide +kernel
theorem dX11_isSign_25 : decode cX11_isSign 25 = .ok (.iconst 1, 1) := by decide +kernel
theorem dX11_isSign_26 : decode cX11_isSign 26 = .ok (.goto 4, 3) := by decide +kernel
theorem dX11_isSign_29 : decode cX11_isSign 29 = .ok (.iconst 0, 1) := by decide +kernel
theorem dX11_isSign_30 : decode cX11_isSign 30 = .ok (.ireturn, 1) := by decide +kernel
theorem dX11_opens_0 : decode cX11_opens 0 = .ok (.aload_n 0, 1) := by decide +kernel
theorem dX11_opens_1 : decode cX11_opens 1 = .ok (.getfield 209, 3) := by decide +kernel
theorem dX11_opens_4 : decode cX11_opens 4 = .ok (.bipush 6, 2) := by decide +kernel
theorem dX11_opens_6 : decode cX11_opens 6 = .ok (.if_icmp .ne 9, 3) := by decide +kernel
theorem dX11_opens_9 : decode cX11_opens 9 = .ok (.aload_n 0, 1) := by decide +kernel
theorem dX11_opens_10 : decode cX11_opens 10 = .ok (.invokevirtual 212, 3) := by decide +kernel
theorem dX11_opens_13 : decode cX11_opens 13 = .ok (.iconst 0, 1) := by decide +kernel
theorem dX11_opens_14 : decode cX11_opens 14 = .ok (.ireturn, 1) := by decide +kernel
theorem dX11_opens_15 : decode cX11_opens 15 = .ok (.aload_n 0, 1) := by decide +kernel
theorem dX11_opens_16 : decode cX11_opens 16 = .ok (.dup, 1) := by decide +kernel
theorem dX11_opens_17 : decode cX11_opens 17 = .ok (.getfield 209, 3) := by decide +kernel
theorem dX11_opens_20 : decode cX11_opens 20 = .ok (.iconst 1, 1) := by decide +kernel
theorem dX11_opens_21 : decode cX11_opens 21 = .ok (.iadd, 1) := by decide +kernel
theorem dX11_opens_22 : decode cX11_opens 22 = .ok (.putfield 209, 3) := by decide +kernel
theorem dX11_opens_25 : decode cX11_opens 25 = .ok (.aload_n 0, 1) := by decide +kernel
theorem dX11_opens_26 : decode cX11_opens 26 = .ok (.invokevirtual 215, 3) := by decide +kernel
theorem dX11_opens_29 : decode cX11_opens 29 = .ok (.iconst 1, 1) := by decide +kernel
theorem dX11_opens_30 : decode cX11_opens 30 = .ok (.ireturn, 1) := by decide +kernel
theorem dX11_menUp_0 : decode cX11_menUp 0 = .ok (.iconst 0, 1) := by decide +kernel
theorem dX11_menUp_1 : decode cX11_menUp 1 = .ok (.istore_n 1, 1) := by decide +kernel
theorem dX11_menUp_2 : decode cX11_menUp 2 = .ok (.iconst 0, 1) := by decide +kernel
theorem dX11_menUp_3 : decode cX11_menUp 3 = .ok (.istore_n 2, 1) := by decide +kernel
theorem dX11_menUp_4 : decode cX11_menUp 4 = .ok (.iload_n 2, 1) := by decide +kernel
theorem dX11_menUp_5 : decode cX11_menUp 5 = .ok (.aload_n 0, 1) := by decide +kernel
theorem dX11_menUp_6 : decode cX11_menUp 6 = .ok (.getfield 14, 3) := by decide +kernel
theorem dX11_menUp_9 : decode cX11_menUp 9 = .ok (.iconst 1, 1) := by decide +kernel
theorem dX11_menUp_10 : decode cX11_menUp 10 = .ok (.iaload, 1) := by decide +kernel
theorem dX11_menUp_11 : decode cX11_menUp 11 = .ok (.if_icmp .ge 25, 3) := by decide +kernel
theorem dX11_menUp_14 : decode cX11_menUp 14 = .ok (.iload_n 1, 1) := by decide +kernel
theorem dX11_menUp_15 : decode cX11_menUp 15 = .ok (.aload_n 0, 1) := by decide +kernel
theorem dX11_menUp_16 : decode cX11_menUp 16 = .ok (.iload_n 2, 1) := by decide +kernel
theorem dX11_menUp_17 : decode cX11_menUp 17 = .ok (.invokevirtual 120, 3) := by decide +kernel
theorem dX11_menUp_20 : decode cX11_menUp 20 = .ok (.ifCond .eq 7, 3) := by decide +kernel
theorem dX11_menUp_23 : decode cX11_menUp 23 = .ok (.iconst 1, 1) := by decide +kernel
theorem dX11_menUp_24 : decode cX11_menUp 24 = .ok (.goto 4, 3) := by decide +kernel
theorem dX11_menUp_27 : decode cX11_menUp 27 = .ok (.iconst 0, 1) := by decide +kernel
theorem dX11_menUp_28 : decode cX11_menUp 28 = .ok (.iadd, 1) := by decide +kernel
theorem dX11_menUp_29 : decode cX11_menUp 29 = .ok (.istore_n 1, 1) := by decide +kernel
theorem dX11_menUp_30 : decode cX11_menUp 30 = .ok (.iinc 2 1, 3) := by decide +kernel
theorem dX11_menUp_33 : decode cX11_menUp 33 = .ok (.goto (-29), 3) := by decide +kernel
theorem dX11_menUp_36 : decode cX11_menUp 36 = .ok (.iload_n 1, 1) := by decide +kernel
theorem dX11_menUp_37 : decode cX11_menUp 37 = .ok (.ireturn, 1) := by decide +kernel
theorem dX11_name_0 : decode cX11_name 0 = .ok (.aload_n 0, 1) := by decide +kernel
theorem dX11_name_1 : decode cX11_name 1 = .ok (.ldc2_w 218, 3) := by decide +kernel
theorem dX11_name_4 : decode cX11_name 4 = .ok (.invokevirtual 220, 3) := by decide +kernel
theorem dX11_name_7 : decode cX11_name 7 = .ok (.ifCond .eq 8, 3) := by decide +kernel
theorem dX11_name_10 : decode cX11_name 10 = .ok (.aload_n 0, 1) := by decide +kernel
theorem dX11_name_11 : decode cX11_name 11 = .ok (.getfield 224, 3) := by decide +kernel
theorem dX11_name_14 : decode cX11_name 14 = .ok (.ireturn, 1) := by decide +kernel
theorem dX11_name_15 : decode cX11_name 15 = .ok (.aload_n 0, 1) := by decide +kernel
theorem dX11_name_16 : decode cX11_name 16 = .ok (.ldc2_w 227, 3) := by decide +kernel
theorem dX11_name_19 : decode cX11_name 19 = .ok (.invokevirtual 220, 3) := by decide +kernel
theorem dX11_name_22 : decode cX11_name 22 = .ok (.ifCond .eq 17, 3) := by decide +kernel
theorem dX11_name_25 : decode cX11_name 25 = .ok (.aload_n 0, 1) := by decide +kernel
theorem dX11_name_26 : decode cX11_name 26 = .ok (.getfield 14, 3) := by decide +kernel
theorem dX11_name_29 : decode cX11_name 29 = .ok (.sipush 184, 3) := by decide +kernel
theorem dX11_name_32 : decode cX11_name 32 = .ok (.aload_n 0, 1) := by decide +kernel
theorem dX11_name_33 : decode cX11_name 33 = .ok (.getfield 224, 3) := by decide +kernel
theorem dX11_name_36 : decode cX11_name 36 = .ok (.iadd, 1) := by decide +kernel
theorem dX11_name_37 : decode cX11_name 37 = .ok (.iaload, 1) := by decide +kernel
theorem dX11_name_38 : decode cX11_name 38 = .ok (.ireturn, 1) := by decide +kernel
theorem dX11_name_39 : decode cX11_name 39 = .ok (.aload_n 0, 1) := by decide +kernel
theorem dX11_name_40 : decode cX11_name 40 = .ok (.ldc2_w 229, 3) := by decide +kernel
theorem dX11_name_43 : decode cX11_name 43 = .ok (.invokevirtual 220, 3) := by decide +kernel
theorem dX11_name_46 : decode cX11_name 46 = .ok (.ifCond .eq 10, 3) := by decide +kernel
theorem dX11_name_49 : decode cX11_name 49 = .ok (.aload_n 0, 1) := by decide +kernel
theorem dX11_name_50 : decode cX11_name 50 = .ok (.getfield 14, 3) := by decide +kernel
theorem dX11_name_53 : decode cX11_name 53 = .ok (.iconst 0, 1) := by decide +kernel
theorem dX11_name_54 : decode cX11_name 54 = .ok (.iaload, 1) := by decide +kernel
theorem dX11_name_55 : decode cX11_name 55 = .ok (.ireturn, 1) := by decide +kernel
theorem dX11_name_56 : decode cX11_name 56 = .ok (.aload_n 0, 1) := by decide +kernel
theorem dX11_name_57 : decode cX11_name 57 = .ok (.ldc2_w 231, 3) := by decide +kernel
theorem dX11_name_60 : decode cX11_name 60 = .ok (.invokevirtual 220, 3) := by decide +kernel
theorem dX11_name_63 : decode cX11_name 63 = .ok (.ifCond .eq 13, 3) := by decide +kernel
theorem dX11_name_66 : decode cX11_name 66 = .ok (.aload_n 0, 1) := by decide +kernel
theorem dX11_name_67 : decode cX11_name 67 = .ok (.getfield 14, 3) := by decide +kernel
theorem dX11_name_70 : decode cX11_name 70 = .ok (.iconst 0, 1) := by decide +kernel
theorem dX11_name_71 : decode cX11_name 71 = .ok (.iaload, 1) := by decide +kernel
theorem dX11_name_72 : decode cX11_name 72 = .ok (.bipush 14, 2) := by decide +kernel
theorem dX11_name_74 : decode cX11_name 74 = .ok (.irem, 1) := by decide +kernel
theorem dX11_name_75 : decode cX11_name 75 = .ok (.ireturn, 1) := by decide +kernel
theorem dX11_name_76 : decode cX11_name 76 = .ok (.aload_n 0, 1) := by decide +kernel
theorem dX11_name_77 : decode cX11_name 77 = .ok (.ldc2_w 233, 3) := by decide +kernel
theorem dX11_name_80 : decode cX11_name 80 = .ok (.invokevirtual 220, 3) := by decide +kernel
theorem dX11_name_83 : decode cX11_name 83 = .ok (.ifCond .eq 8, 3) := by decide +kernel
theorem dX11_name_86 : decode cX11_name 86 = .ok (.aload_n 0, 1) := by decide +kernel
theorem dX11_name_87 : decode cX11_name 87 = .ok (.invokevirtual 235, 3) := by decide +kernel
theorem dX11_name_90 : decode cX11_name 90 = .ok (.ireturn, 1) := by decide +kernel
theorem dX11_name_91 : decode cX11_name 91 = .ok (.aload_n 0, 1) := by decide +kernel
theorem dX11_name_92 : decode cX11_name 92 = .ok (.ldc2_w 239, 3) := by decide +kernel
theorem dX11_name_95 : decode cX11_name 95 = .ok (.invokevirtual 220, 3) := by decide +kernel
theorem dX11_name_98 : decode cX11_name 98 = .ok (.ifCond .eq 7, 3) := by decide +kernel
theorem dX11_name_101 : decode cX11_name 101 = .ok (.iconst 4, 1) := by decide +kernel
theorem dX11_name_102 : decode cX11_name 102 = .ok (.goto 61, 3) := by decide +kernel
theorem dX11_name_105 : decode cX11_name 105 = .ok (.aload_n 0, 1) := by decide +kernel
theorem dX11_name_106 : decode cX11_name 106 = .ok (.ldc2_w 241, 3) := by decide +kernel
theorem dX11_name_109 : decode cX11_name 109 = .ok (.invokevirtual 220, 3) := by decide +kernel
theorem dX11_name_112 : decode cX11_name 112 = .ok (.ifCond .eq 7, 3) := by decide +kernel
theorem dX11_name_115 : decode cX11_name 115 = .ok (.iconst 5, 1) := by decide +kernel
theorem dX11_name_116 : decode cX11_name 116 = .ok (.goto 47, 3) := by decide +kernel
theorem dX11_name_119 : decode cX11_name 119 = .ok (.aload_n 0, 1) := by decide +kernel
theorem dX11_name_120 : decode cX11_name 120 = .ok (.ldc2_w 243, 3) := by decide +kernel
theorem dX11_name_123 : decode cX11_name 123 = .ok (.invokevirtual 220, 3) := by decide +kernel
theorem dX11_name_126 : decode cX11_name 126 = .ok (.ifCond .eq 7, 3) := by decide +kernel
theorem dX11_name_129 : decode cX11_name 129 = .ok (.iconst 1, 1) := by decide +kernel
theorem dX11_name_130 : decode cX11_name 130 = .ok (.goto 33, 3) := by decide +kernel
theorem dX11_name_133 : decode cX11_name 133 = .ok (.aload_n 0, 1) := by decide +kernel
theorem dX11_name_134 : decode cX11_name 134 = .ok (.ldc2_w 245, 3) := by decide +kernel
theorem dX11_name_137 : decode cX11_name 137 = .ok (.invokevirtual 220, 3) := by decide +kernel
theorem dX11_name_140 : decode cX11_name 140 = .ok (.ifCond .eq 7, 3) := by decide +kernel
theorem dX11_name_143 : decode cX11_name 143 = .ok (.iconst 2, 1) := by decide +kernel
theorem dX11_name_144 : decode cX11_name 144 = .ok (.goto 19, 3) := by decide +kernel
theorem dX11_name_147 : decode cX11_name 147 = .ok (.aload_n 0, 1) := by decide +kernel
theorem dX11_name_148 : decode cX11_name 148 = .ok (.ldc2_w 247, 3) := by decide +kernel
theorem dX11_name_151 : decode cX11_name 151 = .ok (.invokevirtual 220, 3) := by decide +kernel
theorem dX11_name_154 : decode cX11_name 154 = .ok (.ifCond .eq 8, 3) := by decide +kernel
theorem dX11_name_157 : decode cX11_name 157 = .ok (.bipush 9, 2) := by decide +kernel
theorem dX11_name_159 : decode cX11_name 159 = .ok (.goto 4, 3) := by decide +kernel
theorem dX11_name_162 : decode cX11_name 162 = .ok (.iconst (-1), 1) := by decide +kernel
theorem dX11_name_163 : decode cX11_name 163 = .ok (.istore_n 1, 1) := by decide +kernel
theorem dX11_name_164 : decode cX11_name 164 = .ok (.iload_n 1, 1) := by decide +kernel
theorem dX11_name_165 : decode cX11_name 165 = .ok (.iconst (-1), 1) := by decide +kernel
theorem dX11_name_166 : decode cX11_name 166 = .ok (.if_icmp .ne 9, 3) := by decide +kernel
theorem dX11_name_169 : decode cX11_name 169 = .ok (.aload_n 0, 1) := by decide +kernel
theorem dX11_name_170 : decode cX11_name 170 = .ok (.invokevirtual 212, 3) := by decide +kernel
theorem dX11_name_173 : decode cX11_name 173 = .ok (.iconst 0, 1) := by decide +kernel
theorem dX11_name_174 : decode cX11_name 174 = .ok (.ireturn, 1) := by decide +kernel
theorem dX11_name_175 : decode cX11_name 175 = .ok (.aload_n 0, 1) := by decide +kernel
theorem dX11_name_176 : decode cX11_name 176 = .ok (.getfield 249, 3) := by decide +kernel
theorem dX11_name_179 : decode cX11_name 179 = .ok (.iconst (-1), 1) := by decide +kernel
theorem dX11_name_180 : decode cX11_name 180 = .ok (.if_icmp .ne 5, 3) := by decide +kernel
theorem dX11_name_183 : decode cX11_name 183 = .ok (.iconst 0, 1) := by decide +kernel
theorem dX11_name_184 : decode cX11_name 184 = .ok (.ireturn, 1) := by decide +kernel
theorem dX11_name_185 : decode cX11_name 185 = .ok (.iload_n 1, 1) := by decide +kernel
theorem dX11_name_186 : decode cX11_name 186 = .ok (.bipush 9, 2) := by decide +kernel
theorem dX11_name_188 : decode cX11_name 188 = .ok (.if_icmp .ne 45, 3) := by decide +kernel
theorem dX11_name_191 : decode cX11_name 191 = .ok (.aload_n 0, 1) := by decide +kernel
theorem dX11_name_192 : decode cX11_name 192 = .ok (.aload_n 0, 1) := by decide +kernel
theorem dX11_name_193 : decode cX11_name 193 = .ok (.getfield 249, 3) := by decide +kernel
theorem dX11_name_196 : decode cX11_name 196 = .ok (.bipush 9, 2) := by decide +kernel
theorem dX11_name_198 : decode cX11_name 198 = .ok (.invokevirtual 123, 3) := by decide +kernel
theorem dX11_name_201 : decode cX11_name 201 = .ok (.iconst (-1), 1) := by decide +kernel
theorem dX11_name_202 : decode cX11_name 202 = .ok (.if_icmp .eq 7, 3) := by decide +kernel
theorem dX11_name_205 : decode cX11_name 205 = .ok (.iconst 1, 1) := by decide +kernel
theorem dX11_name_206 : decode cX11_name 206 = .ok (.goto 4, 3) := by decide +kernel
theorem dX11_name_209 : decode cX11_name 209 = .ok (.iconst 0, 1) := by decide +kernel
theorem dX11_name_210 : decode cX11_name 210 = .ok (.aload_n 0, 1) := by decide +kernel
theorem dX11_name_211 : decode cX11_name 211 = .ok (.aload_n 0, 1) := by decide +kernel
theorem dX11_name_212 : decode cX11_name 212 = .ok (.getfield 249, 3) := by decide +kernel
theorem dX11_name_215 : decode cX11_name 215 = .ok (.bipush 10, 2) := by decide +kernel
theorem dX11_name_217 : decode cX11_name 217 = .ok (.invokevirtual 123, 3) := by decide +kernel
theorem dX11_name_220 : decode cX11_name 220 = .ok (.iconst (-1), 1) := by decide +kernel
theorem dX11_name_221 : decode cX11_name 221 = .ok (.if_icmp .eq 7, 3) := by decide +kernel
theorem dX11_name_224 : decode cX11_name 224 = .ok (.iconst 2, 1) := by decide +kernel
theorem dX11_name_225 : decode cX11_name 225 = .ok (.goto 4, 3) := by decide +kernel
theorem dX11_name_228 : decode cX11_name 228 = .ok (.iconst 0, 1) := by decide +kernel
theorem dX11_name_229 : decode cX11_name 229 = .ok (.iadd, 1) := by decide +kernel
theorem dX11_name_230 : decode cX11_name 230 = .ok (.goto 12, 3) := by decide +kernel
theorem dX11_name_233 : decode cX11_name 233 = .ok (.aload_n 0, 1) := by decide +kernel
theorem dX11_name_234 : decode cX11_name 234 = .ok (.aload_n 0, 1) := by decide +kernel
theorem dX11_name_235 : decode cX11_name 235 = .ok (.getfield 249, 3) := by decide +kernel
theorem dX11_name_238 : decode cX11_name 238 = .ok (.iload_n 1, 1) := by decide +kernel
theorem dX11_name_239 : decode cX11_name 239 = .ok (.invokevirtual 123, 3) := by decide +kernel
theorem dX11_name_242 : decode cX11_name 242 = .ok (.ireturn, 1) := by decide +kernel
theorem dX11_one_0 : decode cX11_one 0 = .ok (.iconst 0, 1) := by decide +kernel
theorem dX11_one_1 : decode cX11_one 1 = .ok (.istore_n 1, 1) := by decide +kernel
theorem dX11_one_2 : decode cX11_one 2 = .ok (.aload_n 0, 1) := by decide +kernel
theorem dX11_one_3 : decode cX11_one 3 = .ok (.bipush 45, 2) := by decide +kernel
theorem dX11_one_5 : decode cX11_one 5 = .ok (.invokevirtual 252, 3) := by decide +kernel
theorem dX11_one_8 : decode cX11_one 8 = .ok (.ifCond .eq 29, 3) := by decide +kernel
theorem dX11_one_11 : decode cX11_one 11 = .ok (.aload_n 0, 1) := by decide +kernel
theorem dX11_one_12 : decode cX11_one 12 = .ok (.invokevirtual 255, 3) := by decide +kernel
theorem dX11_one_15 : decode cX11_one 15 = .ok (.ifCond .eq 146, 3) := by decide +kernel
theorem dX11_one_18 : decode cX11_one 18 = .ok (.aload_n 0, 1) := by decide +kernel
theorem dX11_one_19 : decode cX11_one 19 = .ok (.invokevirtual 259, 3) := by decide +kernel
theorem dX11_one_22 : decode cX11_one 22 = .ok (.ineg, 1) := by decide +kernel
theorem dX11_one_23 : decode cX11_one 23 = .ok (.istore_n 1, 1) := by decide +kernel
theorem dX11_one_24 : decode cX11_one 24 = .ok (.aload_n 0, 1) := by decide +kernel
theorem dX11_one_25 : decode cX11_one 25 = .ok (.dup, 1) := by decide +kernel
theorem dX11_one_26 : decode cX11_one 26 = .ok (.getfield 209, 3) := by decide +kernel
theorem dX11_one_29 : decode cX11_one 29 = .ok (.iconst 1, 1) := by decide +kernel
theorem dX11_one_30 : decode cX11_one 30 = .ok (.isub, 1) := by decide +kernel
theorem dX11_one_31 : decode cX11_one 31 = .ok (.putfield 209, 3) := by decide +kernel
theorem dX11_one_34 : decode cX11_one 34 = .ok (.goto 127, 3) := by decide +kernel
theorem dX11_one_37 : decode cX11_one 37 = .ok (.aload_n 0, 1) := by decide +kernel
theorem dX11_one_38 : decode cX11_one 38 = .ok (.bipush 40, 2) := by decide +kernel
theorem dX11_one_40 : decode cX11_one 40 = .ok (.invokevirtual 252, 3) := by decide +kernel
theorem dX11_one_43 : decode cX11_one 43 = .ok (.ifCond .eq 52, 3) := by decide +kernel
theorem dX11_one_46 : decode cX11_one 46 = .ok (.aload_n 0, 1) := by decide +kernel
theorem dX11_one_47 : decode cX11_one 47 = .ok (.invokevirtual 255, 3) := by decide +kernel
theorem dX11_one_50 : decode cX11_one 50 = .ok (.ifCond .eq 111, 3) := by decide +kernel
theorem dX11_one_53 : decode cX11_one 53 = .ok (.aload_n 0, 1) := by decide +kernel
theorem dX11_one_54 : decode cX11_one 54 = .ok (.invokevirtual 262, 3) := by decide +kernel
theorem dX11_one_57 : decode cX11_one 57 = .ok (.istore_n 1, 1) := by decide +kernel
theorem dX11_one_58 : decode cX11_one 58 = .ok (.aload_n 0, 1) := by decide +kernel
theorem dX11_one_59 : decode cX11_one 59 = .ok (.bipush 41, 2) := by decide +kernel
theorem dX11_one_61 : decode cX11_one 61 = .ok (.invokevirtual 252, 3) := by decide +kernel
theorem dX11_one_64 : decode cX11_one 64 = .ok (.ifCond .ne 7, 3) := by decide +kernel
theorem dX11_one_67 : decode cX11_one 67 = .ok (.aload_n 0, 1) := by decide +kernel
theorem dX11_one_68 : decode cX11_one 68 = .ok (.invokevirtual 212, 3) := by decide +kernel
theorem dX11_one_71 : decode cX11_one 71 = .ok (.aload_n 0, 1) := by decide +kernel
theorem dX11_one_72 : decode cX11_one 72 = .ok (.dup, 1) := by decide +kernel
theorem dX11_one_73 : decode cX11_one 73 = .ok (.getfield 209, 3) := by decide +kernel
theorem dX11_one_76 : decode cX11_one 76 = .ok (.iconst 1, 1) := by decide +kernel
theorem dX11_one_77 : decode cX11_one 77 = .ok (.isub, 1) := by decide +kernel
theorem dX11_one_78 : decode cX11_one 78 = .ok (.putfield 209, 3) := by decide +kernel
theorem dX11_one_81 : decode cX11_one 81 = .ok (.aload_n 0, 1) := by decide +kernel
theorem dX11_one_82 : decode cX11_one 82 = .ok (.getfield 202, 3) := by decide +kernel
theorem dX11_one_85 : decode cX11_one 85 = .ok (.ifCond .ne 76, 3) := by decide +kernel
theorem dX11_one_88 : decode cX11_one 88 = .ok (.aload_n 0, 1) := by decide +kernel
theorem dX11_one_89 : decode cX11_one 89 = .ok (.invokevirtual 215, 3) := by decide +kernel
theorem dX11_one_92 : decode cX11_one 92 = .ok (.goto 69, 3) := by decide +kernel
theorem dX11_one_95 : decode cX11_one 95 = .ok (.aload_n 0, 1) := by decide +kernel
theorem dX11_one_96 : decode cX11_one 96 = .ok (.getfield 202, 3) := by decide +kernel
theorem dX11_one_99 : decode cX11_one 99 = .ok (.ifCond .ne 24, 3) := by decide +kernel
theorem dX11_one_102 : decode cX11_one 102 = .ok (.aload_n 0, 1) := by decide +kernel
theorem dX11_one_103 : decode cX11_one 103 = .ok (.getfield 185, 3) := by decide +kernel
theorem dX11_one_106 : decode cX11_one 106 = .ok (.iconst 2, 1) := by decide +kernel
theorem dX11_one_107 : decode cX11_one 107 = .ok (.if_icmp .ne 16, 3) := by decide +kernel
theorem dX11_one_110 : decode cX11_one 110 = .ok (.aload_n 0, 1) := by decide +kernel
theorem dX11_one_111 : decode cX11_one 111 = .ok (.getfield 188, 3) := by decide +kernel
theorem dX11_one_114 : decode cX11_one 114 = .ok (.l2i, 1) := by decide +kernel
theorem dX11_one_115 : decode cX11_one 115 = .ok (.istore_n 1, 1) := by decide +kernel
theorem dX11_one_116 : decode cX11_one 116 = .ok (.aload_n 0, 1) := by decide +kernel
theorem dX11_one_117 : decode cX11_one 117 = .ok (.invokevirtual 215, 3) := by decide +kernel
theorem dX11_one_120 : decode cX11_one 120 = .ok (.goto 41, 3) := by decide +kernel
theorem dX11_one_123 : decode cX11_one 123 = .ok (.aload_n 0, 1) := by decide +kernel
theorem dX11_one_124 : decode cX11_one 124 = .ok (.getfield 202, 3) := by decide +kernel
theorem dX11_one_127 : decode cX11_one 127 = .ok (.ifCond .ne 30, 3) := by decide +kernel
theorem dX11_one_130 : decode cX11_one 130 = .ok (.aload_n 0, 1) := by decide +kernel
theorem dX11_one_131 : decode cX11_one 131 = .ok (.getfield 185, 3) := by decide +kernel
theorem dX11_one_134 : decode cX11_one 134 = .ok (.iconst 1, 1) := by decide +kernel
theorem dX11_one_135 : decode cX11_one 135 = .ok (.if_icmp .ne 22, 3) := by decide +kernel
theorem dX11_one_138 : decode cX11_one 138 = .ok (.aload_n 0, 1) := by decide +kernel
theorem dX11_one_139 : decode cX11_one 139 = .ok (.invokevirtual 265, 3) := by decide +kernel
theorem dX11_one_142 : decode cX11_one 142 = .ok (.istore_n 1, 1) := by decide +kernel
theorem dX11_one_143 : decode cX11_one 143 = .ok (.aload_n 0, 1) := by decide +kernel
theorem dX11_one_144 : decode cX11_one 144 = .ok (.getfield 202, 3) := by decide +kernel
theorem dX11_one_147 : decode cX11_one 147 = .ok (.ifCond .ne 14, 3) := by decide +kernel
theorem dX11_one_150 : decode cX11_one 150 = .ok (.aload_n 0, 1) := by decide +kernel
theorem dX11_one_151 : decode cX11_one 151 = .ok (.invokevirtual 215, 3) := by decide +kernel
theorem dX11_one_154 : decode cX11_one 154 = .ok (.goto 7, 3) := by decide +kernel
theorem dX11_one_157 : decode cX11_one 157 = .ok (.aload_n 0, 1) := by decide +kernel
theorem dX11_one_158 : decode cX11_one 158 = .ok (.invokevirtual 212, 3) := by decide +kernel
theorem dX11_one_161 : decode cX11_one 161 = .ok (.iload_n 1, 1) := by decide +kernel
theorem dX11_one_162 : decode cX11_one 162 = .ok (.ireturn, 1) := by decide +kernel
theorem dX11_term_0 : decode cX11_term 0 = .ok (.aload_n 0, 1) := by decide +kernel
theorem dX11_term_1 : decode cX11_term 1 = .ok (.invokevirtual 259, 3) := by decide +kernel
theorem dX11_term_4 : decode cX11_term 4 = .ok (.istore_n 1, 1) := by decide +kernel
theorem dX11_term_5 : decode cX11_term 5 = .ok (.aload_n 0, 1) := by decide +kernel
theorem dX11_term_6 : decode cX11_term 6 = .ok (.bipush 42, 2) := by decide +kernel
theorem dX11_term_8 : decode cX11_term 8 = .ok (.invokevirtual 252, 3) := by decide +kernel
theorem dX11_term_11 : decode cX11_term 11 = .ok (.ifCond .ne 21, 3) := by decide +kernel
theorem dX11_term_14 : decode cX11_term 14 = .ok (.aload_n 0, 1) := by decide +kernel
theorem dX11_term_15 : decode cX11_term 15 = .ok (.bipush 47, 2) := by decide +kernel
theorem dX11_term_17 : decode cX11_term 17 = .ok (.invokevirtual 252, 3) := by decide +kernel
theorem dX11_term_20 : decode cX11_term 20 = .ok (.ifCond .ne 12, 3) := by decide +kernel
theorem dX11_term_23 : decode cX11_term 23 = .ok (.aload_n 0, 1) := by decide +kernel
theorem dX11_term_24 : decode cX11_term 24 = .ok (.bipush 37, 2) := by decide +kernel
theorem dX11_term_26 : decode cX11_term 26 = .ok (.invokevirtual 252, 3) := by decide +kernel
theorem dX11_term_29 : decode cX11_term 29 = .ok (.ifCond .eq 91, 3) := by decide +kernel
theorem dX11_term_32 : decode cX11_term 32 = .ok (.aload_n 0, 1) := by decide +kernel
theorem dX11_term_33 : decode cX11_term 33 = .ok (.getfield 188, 3) := by decide +kernel
theorem dX11_term_36 : decode cX11_term 36 = .ok (.lstore_n 2, 1) := by decide +kernel
theorem dX11_term_37 : decode cX11_term 37 = .ok (.aload_n 0, 1) := by decide +kernel
theorem dX11_term_38 : decode cX11_term 38 = .ok (.invokevirtual 215, 3) := by decide +kernel
theorem dX11_term_41 : decode cX11_term 41 = .ok (.aload_n 0, 1) := by decide +kernel
theorem dX11_term_42 : decode cX11_term 42 = .ok (.invokevirtual 259, 3) := by decide +kernel
theorem dX11_term_45 : decode cX11_term 45 = .ok (.istore 4, 2) := by decide +kernel
theorem dX11_term_47 : decode cX11_term 47 = .ok (.lload_n 2, 1) := by decide +kernel
theorem dX11_term_48 : decode cX11_term 48 = .ok (.ldc2_w 268, 3) := by decide +kernel
theorem dX11_term_51 : decode cX11_term 51 = .ok (.lcmp, 1) := by decide +kernel
theorem dX11_term_52 : decode cX11_term 52 = .ok (.ifCond .ne 11, 3) := by decide +kernel
theorem dX11_term_55 : decode cX11_term 55 = .ok (.iload_n 1, 1) := by decide +kernel
theorem dX11_term_56 : decode cX11_term 56 = .ok (.iload 4, 2) := by decide +kernel
theorem dX11_term_58 : decode cX11_term 58 = .ok (.imul, 1) := by decide +kernel
theorem dX11_term_59 : decode cX11_term 59 = .ok (.istore_n 1, 1) := by decide +kernel
theorem dX11_term_60 : decode cX11_term 60 = .ok (.goto 57, 3) := by decide +kernel
theorem dX11_term_63 : decode cX11_term 63 = .ok (.iload 4, 2) := by decide +kernel
theorem dX11_term_65 : decode cX11_term 65 = .ok (.ifCond .ne 8, 3) := by decide +kernel
theorem dX11_term_68 : decode cX11_term 68 = .ok (.iconst 0, 1) := by decide +kernel
theorem dX11_term_69 : decode cX11_term 69 = .ok (.istore_n 1, 1) := by decide +kernel
theorem dX11_term_70 : decode cX11_term 70 = .ok (.goto 47, 3) := by decide +kernel
theorem dX11_term_73 : decode cX11_term 73 = .ok (.iload 4, 2) := by decide +kernel
theorem dX11_term_75 : decode cX11_term 75 = .ok (.iconst (-1), 1) := by decide +kernel
theorem dX11_term_76 : decode cX11_term 76 = .ok (.if_icmp .ne 21, 3) := by decide +kernel
theorem dX11_term_79 : decode cX11_term 79 = .ok (.lload_n 2, 1) := by decide +kernel
theorem dX11_term_80 : decode cX11_term 80 = .ok (.ldc2_w 270, 3) := by decide +kernel
theorem dX11_term_83 : decode cX11_term 83 = .ok (.lcmp, 1) := by decide +kernel
theorem dX11_term_84 : decode cX11_term 84 = .ok (.ifCond .ne 8, 3) := by decide +kernel
theorem dX11_term_87 : decode cX11_term 87 = .ok (.iload_n 1, 1) := by decide +kernel
theorem dX11_term_88 : decode cX11_term 88 = .ok (.ineg, 1) := by decide +kernel
theorem dX11_term_89 : decode cX11_term 89 = .ok (.goto 4, 3) := by decide +kernel
theorem dX11_term_92 : decode cX11_term 92 = .ok (.iconst 0, 1) := by decide +kernel
theorem dX11_term_93 : decode cX11_term 93 = .ok (.istore_n 1, 1) := by decide +kernel
theorem dX11_term_94 : decode cX11_term 94 = .ok (.goto 23, 3) := by decide +kernel
theorem dX11_term_97 : decode cX11_term 97 = .ok (.lload_n 2, 1) := by decide +kernel
theorem dX11_term_98 : decode cX11_term 98 = .ok (.ldc2_w 270, 3) := by decide +kernel
theorem dX11_term_101 : decode cX11_term 101 = .ok (.lcmp, 1) := by decide +kernel
theorem dX11_term_102 : decode cX11_term 102 = .ok (.ifCond .ne 10, 3) := by decide +kernel
theorem dX11_term_105 : decode cX11_term 105 = .ok (.iload_n 1, 1) := by decide +kernel
theorem dX11_term_106 : decode cX11_term 106 = .ok (.iload 4, 2) := by decide +kernel
theorem dX11_term_108 : decode cX11_term 108 = .ok (.idiv, 1) := by decide +kernel
theorem dX11_term_109 : decode cX11_term 109 = .ok (.goto 7, 3) := by decide +kernel
theorem dX11_term_112 : decode cX11_term 112 = .ok (.iload_n 1, 1) := by decide +kernel
theorem dX11_term_113 : decode cX11_term 113 = .ok (.iload 4, 2) := by decide +kernel
theorem dX11_term_115 : decode cX11_term 115 = .ok (.irem, 1) := by decide +kernel
theorem dX11_term_116 : decode cX11_term 116 = .ok (.istore_n 1, 1) := by decide +kernel
theorem dX11_term_117 : decode cX11_term 117 = .ok (.goto (-112), 3) := by decide +kernel
theorem dX11_term_120 : decode cX11_term 120 = .ok (.iload_n 1, 1) := by decide +kernel
theorem dX11_term_121 : decode cX11_term 121 = .ok (.ireturn, 1) := by decide +kernel
theorem dX11_added_0 : decode cX11_added 0 = .ok (.aload_n 0, 1) := by decide +kernel
theorem dX11_added_1 : decode cX11_added 1 = .ok (.invokevirtual 272, 3) := by decide +kernel
theorem dX11_added_4 : decode cX11_added 4 = .ok (.istore_n 1, 1) := by decide +kernel
theorem dX11_added_5 : decode cX11_added 5 = .ok (.aload_n 0, 1) := by decide +kernel
theorem dX11_added_6 : decode cX11_added 6 = .ok (.bipush 43, 2) := by decide +kernel
theorem dX11_added_8 : decode cX11_added 8 = .ok (.invokevirtual 252, 3) := by decide +kernel
theorem dX11_added_11 : decode cX11_added 11 = .ok (.ifCond .ne 12, 3) := by decide +kernel
theorem dX11_added_14 : decode cX11_added 14 = .ok (.aload_n 0, 1) := by decide +kernel
theorem dX11_added_15 : decode cX11_added 15 = .ok (.bipush 45, 2) := by decide +kernel
theorem dX11_added_17 : decode cX11_added 17 = .ok (.invokevirtual 252, 3) := by decide +kernel
theorem dX11_added_20 : decode cX11_added 20 = .ok (.ifCond .eq 46, 3) := by decide +kernel
theorem dX11_added_23 : decode cX11_added 23 = .ok (.aload_n 0, 1) := by decide +kernel
theorem dX11_added_24 : decode cX11_added 24 = .ok (.getfield 188, 3) := by decide +kernel
theorem dX11_added_27 : decode cX11_added 27 = .ok (.ldc2_w 275, 3) := by decide +kernel
theorem dX11_added_30 : decode cX11_added 30 = .ok (.lcmp, 1) := by decide +kernel
theorem dX11_added_31 : decode cX11_added 31 = .ok (.ifCond .ne 7, 3) := by decide +kernel
theorem dX11_added_34 : decode cX11_added 34 = .ok (.iconst 1, 1) := by decide +kernel
theorem dX11_added_35 : decode cX11_added 35 = .ok (.goto 4, 3) := by decide +kernel
theorem dX11_added_38 : decode cX11_added 38 = .ok (.iconst 0, 1) := by decide +kernel
theorem dX11_added_39 : decode cX11_added 39 = .ok (.istore_n 2, 1) := by decide +kernel
theorem dX11_added_40 : decode cX11_added 40 = .ok (.aload_n 0, 1) := by decide +kernel
theorem dX11_added_41 : decode cX11_added 41 = .ok (.invokevirtual 215, 3) := by decide +kernel
theorem dX11_added_44 : decode cX11_added 44 = .ok (.aload_n 0, 1) := by decide +kernel
theorem dX11_added_45 : decode cX11_added 45 = .ok (.invokevirtual 272, 3) := by decide +kernel
theorem dX11_added_48 : decode cX11_added 48 = .ok (.istore_n 3, 1) := by decide +kernel
theorem dX11_added_49 : decode cX11_added 49 = .ok (.iload_n 2, 1) := by decide +kernel
theorem dX11_added_50 : decode cX11_added 50 = .ok (.ifCond .eq 9, 3) := by decide +kernel
theorem dX11_added_53 : decode cX11_added 53 = .ok (.iload_n 1, 1) := by decide +kernel
theorem dX11_added_54 : decode cX11_added 54 = .ok (.iload_n 3, 1) := by decide +kernel
theorem dX11_added_55 : decode cX11_added 55 = .ok (.iadd, 1) := by decide +kernel
theorem dX11_added_56 : decode cX11_added 56 = .ok (.goto 6, 3) := by decide +kernel
theorem dX11_added_59 : decode cX11_added 59 = .ok (.iload_n 1, 1) := by decide +kernel
theorem dX11_added_60 : decode cX11_added 60 = .ok (.iload_n 3, 1) := by decide +kernel
theorem dX11_added_61 : decode cX11_added 61 = .ok (.isub, 1) := by decide +kernel
theorem dX11_added_62 : decode cX11_added 62 = .ok (.istore_n 1, 1) := by decide +kernel
theorem dX11_added_63 : decode cX11_added 63 = .ok (.goto (-58), 3) := by decide +kernel
theorem dX11_added_66 : decode cX11_added 66 = .ok (.iload_n 1, 1) := by decide +kernel
theorem dX11_added_67 : decode cX11_added 67 = .ok (.ireturn, 1) := by decide +kernel
theorem dX11_not_0 : decode cX11_not 0 = .ok (.aload_n 0, 1) := by decide +kernel
theorem dX11_not_1 : decode cX11_not 1 = .ok (.ldc2_w 277, 3) := by decide +kernel
theorem dX11_not_4 : decode cX11_not 4 = .ok (.invokevirtual 220, 3) := by decide +kernel
theorem dX11_not_7 : decode cX11_not 7 = .ok (.ifCond .eq 37, 3) := by decide +kernel
theorem dX11_not_10 : decode cX11_not 10 = .ok (.aload_n 0, 1) := by decide +kernel
theorem dX11_not_11 : decode cX11_not 11 = .ok (.invokevirtual 255, 3) := by decide +kernel
theorem dX11_not_14 : decode cX11_not 14 = .ok (.ifCond .ne 5, 3) := by decide +kernel
theorem dX11_not_17 : decode cX11_not 17 = .ok (.iconst 0, 1) := by decide +kernel
theorem dX11_not_18 : decode cX11_not 18 = .ok (.ireturn, 1) := by decide +kernel
theorem dX11_not_19 : decode cX11_not 19 = .ok (.aload_n 0, 1) := by decide +kernel
theorem dX11_not_20 : decode cX11_not 20 = .ok (.invokevirtual 279, 3) := by decide +kernel
theorem dX11_not_23 : decode cX11_not 23 = .ok (.istore_n 1, 1) := by decide +kernel
theorem dX11_not_24 : decode cX11_not 24 = .ok (.aload_n 0, 1) := by decide +kernel
theorem dX11_not_25 : decode cX11_not 25 = .ok (.dup, 1) := by decide +kernel
theorem dX11_not_26 : decode cX11_not 26 = .ok (.getfield 209, 3) := by decide +kernel
theorem dX11_not_29 : decode cX11_not 29 = .ok (.iconst 1, 1) := by decide +kernel
theorem dX11_not_30 : decode cX11_not 30 = .ok (.isub, 1) := by decide +kernel
theorem dX11_not_31 : decode cX11_not 31 = .ok (.putfield 209, 3) := by decide +kernel
theorem dX11_not_34 : decode cX11_not 34 = .ok (.iload_n 1, 1) := by decide +kernel
theorem dX11_not_35 : decode cX11_not 35 = .ok (.ifCond .ne 7, 3) := by decide +kernel
theorem dX11_not_38 : decode cX11_not 38 = .ok (.iconst 1, 1) := by decide +kernel
theorem dX11_not_39 : decode cX11_not 39 = .ok (.goto 4, 3) := by decide +kernel
theorem dX11_not_42 : decode cX11_not 42 = .ok (.iconst 0, 1) := by decide +kernel
theorem dX11_not_43 : decode cX11_not 43 = .ok (.ireturn, 1) := by decide +kernel
theorem dX11_not_44 : decode cX11_not 44 = .ok (.aload_n 0, 1) := by decide +kernel
theorem dX11_not_45 : decode cX11_not 45 = .ok (.invokevirtual 282, 3) := by decide +kernel
theorem dX11_not_48 : decode cX11_not 48 = .ok (.istore_n 1, 1) := by decide +kernel
theorem dX11_not_49 : decode cX11_not 49 = .ok (.aload_n 0, 1) := by decide +kernel
theorem dX11_not_50 : decode cX11_not 50 = .ok (.bipush 60, 2) := by decide +kernel
theorem dX11_not_52 : decode cX11_not 52 = .ok (.invokevirtual 252, 3) := by decide +kernel
theorem dX11_not_55 : decode cX11_not 55 = .ok (.ifCond .ne 23, 3) := by decide +kernel
theorem dX11_not_58 : decode cX11_not 58 = .ok (.aload_n 0, 1) := by decide +kernel
theorem dX11_not_59 : decode cX11_not 59 = .ok (.bipush 61, 2) := by decide +kernel
theorem dX11_not_61 : decode cX11_not 61 = .ok (.invokevirtual 252, 3) := by decide +kernel
theorem dX11_not_64 : decode cX11_not 64 = .ok (.ifCond .ne 14, 3) := by decide +kernel
theorem dX11_not_67 : decode cX11_not 67 = .ok (.aload_n 0, 1) := by decide +kernel
theorem dX11_not_68 : decode cX11_not 68 = .ok (.bipush 62, 2) := by decide +kernel
theorem dX11_not_70 : decode cX11_not 70 = .ok (.invokevirtual 252, 3) := by decide +kernel
theorem dX11_not_73 : decode cX11_not 73 = .ok (.ifCond .ne 5, 3) := by decide +kernel
theorem dX11_not_76 : decode cX11_not 76 = .ok (.iload_n 1, 1) := by decide +kernel
theorem dX11_not_77 : decode cX11_not 77 = .ok (.ireturn, 1) := by decide +kernel
theorem dX11_not_78 : decode cX11_not 78 = .ok (.aload_n 0, 1) := by decide +kernel
theorem dX11_not_79 : decode cX11_not 79 = .ok (.getfield 188, 3) := by decide +kernel
theorem dX11_not_82 : decode cX11_not 82 = .ok (.lstore_n 2, 1) := by decide +kernel
theorem dX11_not_83 : decode cX11_not 83 = .ok (.aload_n 0, 1) := by decide +kernel
theorem dX11_not_84 : decode cX11_not 84 = .ok (.invokevirtual 215, 3) := by decide +kernel
theorem dX11_not_87 : decode cX11_not 87 = .ok (.aload_n 0, 1) := by decide +kernel
theorem dX11_not_88 : decode cX11_not 88 = .ok (.invokevirtual 282, 3) := by decide +kernel
theorem dX11_not_91 : decode cX11_not 91 = .ok (.istore 4, 2) := by decide +kernel
theorem dX11_not_93 : decode cX11_not 93 = .ok (.lload_n 2, 1) := by decide +kernel
theorem dX11_not_94 : decode cX11_not 94 = .ok (.ldc2_w 285, 3) := by decide +kernel
theorem dX11_not_97 : decode cX11_not 97 = .ok (.lcmp, 1) := by decide +kernel
theorem dX11_not_98 : decode cX11_not 98 = .ok (.ifCond .ne 12, 3) := by decide +kernel
theorem dX11_not_101 : decode cX11_not 101 = .ok (.iload_n 1, 1) := by decide +kernel
theorem dX11_not_102 : decode cX11_not 102 = .ok (.iload 4, 2) := by decide +kernel
theorem dX11_not_104 : decode cX11_not 104 = .ok (.if_icmp .ge 33, 3) := by decide +kernel
theorem dX11_not_107 : decode cX11_not 107 = .ok (.goto 26, 3) := by decide +kernel
theorem dX11_not_110 : decode cX11_not 110 = .ok (.lload_n 2, 1) := by decide +kernel
theorem dX11_not_111 : decode cX11_not 111 = .ok (.ldc2_w 287, 3) := by decide +kernel
theorem dX11_not_114 : decode cX11_not 114 = .ok (.lcmp, 1) := by decide +kernel
theorem dX11_not_115 : decode cX11_not 115 = .ok (.ifCond .ne 12, 3) := by decide +kernel
theorem dX11_not_118 : decode cX11_not 118 = .ok (.iload_n 1, 1) := by decide +kernel
theorem dX11_not_119 : decode cX11_not 119 = .ok (.iload 4, 2) := by decide +kernel
theorem dX11_not_121 : decode cX11_not 121 = .ok (.if_icmp .ne 16, 3) := by decide +kernel
theorem dX11_not_124 : decode cX11_not 124 = .ok (.goto 9, 3) := by decide +kernel
theorem dX11_not_127 : decode cX11_not 127 = .ok (.iload_n 1, 1) := by decide +kernel
theorem dX11_not_128 : decode cX11_not 128 = .ok (.iload 4, 2) := by decide +kernel
theorem dX11_not_130 : decode cX11_not 130 = .ok (.if_icmp .le 7, 3) := by decide +kernel
theorem dX11_not_133 : decode cX11_not 133 = .ok (.iconst 1, 1) := by decide +kernel
theorem dX11_not_134 : decode cX11_not 134 = .ok (.goto 4, 3) := by decide +kernel
theorem dX11_not_137 : decode cX11_not 137 = .ok (.iconst 0, 1) := by decide +kernel
theorem dX11_not_138 : decode cX11_not 138 = .ok (.ireturn, 1) := by decide +kernel
theorem dX11_both_0 : decode cX11_both 0 = .ok (.aload_n 0, 1) := by decide +kernel
theorem dX11_both_1 : decode cX11_both 1 = .ok (.invokevirtual 279, 3) := by decide +kernel
theorem dX11_both_4 : decode cX11_both 4 = .ok (.istore_n 1, 1) := by decide +kernel
theorem dX11_both_5 : decode cX11_both 5 = .ok (.aload_n 0, 1) := by decide +kernel
theorem dX11_both_6 : decode cX11_both 6 = .ok (.ldc2_w 289, 3) := by decide +kernel
theorem dX11_both_9 : decode cX11_both 9 = .ok (.invokevirtual 220, 3) := by decide +kernel
theorem dX11_both_12 : decode cX11_both 12 = .ok (.ifCond .eq 29, 3) := by decide +kernel
theorem dX11_both_15 : decode cX11_both 15 = .ok (.aload_n 0, 1) := by decide +kernel
theorem dX11_both_16 : decode cX11_both 16 = .ok (.invokevirtual 215, 3) := by decide +kernel
theorem dX11_both_19 : decode cX11_both 19 = .ok (.aload_n 0, 1) := by decide +kernel
theorem dX11_both_20 : decode cX11_both 20 = .ok (.invokevirtual 279, 3) := by decide +kernel
theorem dX11_both_23 : decode cX11_both 23 = .ok (.istore_n 2, 1) := by decide +kernel
theorem dX11_both_24 : decode cX11_both 24 = .ok (.iload_n 1, 1) := by decide +kernel
theorem dX11_both_25 : decode cX11_both 25 = .ok (.ifCond .eq 11, 3) := by decide +kernel
theorem dX11_both_28 : decode cX11_both 28 = .ok (.iload_n 2, 1) := by decide +kernel
theorem dX11_both_29 : decode cX11_both 29 = .ok (.ifCond .eq 7, 3) := by decide +kernel
theorem dX11_both_32 : decode cX11_both 32 = .ok (.iconst 1, 1) := by decide +kernel
theorem dX11_both_33 : decode cX11_both 33 = .ok (.goto 4, 3) := by decide +kernel
theorem dX11_both_36 : decode cX11_both 36 = .ok (.iconst 0, 1) := by decide +kernel
theorem dX11_both_37 : decode cX11_both 37 = .ok (.istore_n 1, 1) := by decide +kernel
theorem dX11_both_38 : decode cX11_both 38 = .ok (.goto (-33), 3) := by decide +kernel
theorem dX11_both_41 : decode cX11_both 41 = .ok (.iload_n 1, 1) := by decide +kernel
theorem dX11_both_42 : decode cX11_both 42 = .ok (.ireturn, 1) := by decide +kernel
theorem dX11_either_0 : decode cX11_either 0 = .ok (.aload_n 0, 1) := by decide +kernel
theorem dX11_either_1 : decode cX11_either 1 = .ok (.invokevirtual 291, 3) := by decide +kernel
theorem dX11_either_4 : decode cX11_either 4 = .ok (.istore_n 1, 1) := by decide +kernel
theorem dX11_either_5 : decode cX11_either 5 = .ok (.aload_n 0, 1) := by decide +kernel
theorem dX11_either_6 : decode cX11_either 6 = .ok (.ldc2_w 294, 3) := by decide +kernel
theorem dX11_either_9 : decode cX11_either 9 = .ok (.invokevirtual 220, 3) := by decide +kernel
theorem dX11_either_12 : decode cX11_either 12 = .ok (.ifCond .eq 29, 3) := by decide +kernel
theorem dX11_either_15 : decode cX11_either 15 = .ok (.aload_n 0, 1) := by decide +kernel
theorem dX11_either_16 : decode cX11_either 16 = .ok (.invokevirtual 215, 3) := by decide +kernel
theorem dX11_either_19 : decode cX11_either 19 = .ok (.aload_n 0, 1) := by decide +kernel
theorem dX11_either_20 : decode cX11_either 20 = .ok (.invokevirtual 291, 3) := by decide +kernel
theorem dX11_either_23 : decode cX11_either 23 = .ok (.istore_n 2, 1) := by decide +kernel
theorem dX11_either_24 : decode cX11_either 24 = .ok (.iload_n 1, 1) := by decide +kernel
theorem dX11_either_25 : decode cX11_either 25 = .ok (.ifCond .ne 7, 3) := by decide +kernel
theorem dX11_either_28 : decode cX11_either 28 = .ok (.iload_n 2, 1) := by decide +kernel
theorem dX11_either_29 : decode cX11_either 29 = .ok (.ifCond .eq 7, 3) := by decide +kernel
theorem dX11_either_32 : decode cX11_either 32 = .ok (.iconst 1, 1) := by decide +kernel
theorem dX11_either_33 : decode cX11_either 33 = .ok (.goto 4, 3) := by decide +kernel
theorem dX11_either_36 : decode cX11_either 36 = .ok (.iconst 0, 1) := by decide +kernel
theorem dX11_either_37 : decode cX11_either 37 = .ok (.istore_n 1, 1) := by decide +kernel
theorem dX11_either_38 : decode cX11_either 38 = .ok (.goto (-33), 3) := by decide +kernel
theorem dX11_either_41 : decode cX11_either 41 = .ok (.iload_n 1, 1) := by decide +kernel
theorem dX11_either_42 : decode cX11_either 42 = .ok (.ireturn, 1) := by decide +kernel
theorem dX11_keyHere_0 : decode cX11_keyHere 0 = .ok (.aload_n 0, 1) := by decide +kernel
theorem dX11_keyHere_1 : decode cX11_keyHere 1 = .ok (.ldc2_w 296, 3) := by decide +kernel
theorem dX11_keyHere_4 : decode cX11_keyHere 4 = .ok (.invokevirtual 220, 3) := by decide +kernel
theorem dX11_keyHere_7 : decode cX11_keyHere 7 = .ok (.ifCond .eq 7, 3) := by decide +kernel
theorem dX11_keyHere_10 : decode cX11_keyHere 10 = .ok (.iconst 0, 1) := by decide +kernel
theorem dX11_keyHere_11 : decode cX11_keyHere 11 = .ok (.goto 74, 3) := by decide +kernel
theorem dX11_keyHere_14 : decode cX11_keyHere 14 = .ok (.aload_n 0, 1) := by decide +kernel
theorem dX11_keyHere_15 : decode cX11_keyHere 15 = .ok (.ldc2_w 298, 3) := by decide +kernel
theorem dX11_keyHere_18 : decode cX11_keyHere 18 = .ok (.invokevirtual 220, 3) := by decide +kernel
theorem dX11_keyHere_21 : decode cX11_keyHere 21 = .ok (.ifCond .eq 7, 3) := by decide +kernel
theorem dX11_keyHere_24 : decode cX11_keyHere 24 = .ok (.iconst 1, 1) := by decide +kernel
theorem dX11_keyHere_25 : decode cX11_keyHere 25 = .ok (.goto 60, 3) := by decide +kernel
theorem dX11_keyHere_28 : decode cX11_keyHere 28 = .ok (.aload_n 0, 1) := by decide +kernel
theorem dX11_keyHere_29 : decode cX11_keyHere 29 = .ok (.ldc2_w 300, 3) := by decide +kernel
theorem dX11_keyHere_32 : decode cX11_keyHere 32 = .ok (.invokevirtual 220, 3) := by decide +kernel
theorem dX11_keyHere_35 : decode cX11_keyHere 35 = .ok (.ifCond .eq 7, 3) := by decide +kernel
theorem dX11_keyHere_38 : decode cX11_keyHere 38 = .ok (.iconst 2, 1) := by decide +kernel
theorem dX11_keyHere_39 : decode cX11_keyHere 39 = .ok (.goto 46, 3) := by decide +kernel
theorem dX11_keyHere_42 : decode cX11_keyHere 42 = .ok (.aload_n 0, 1) := by decide +kernel
theorem dX11_keyHere_43 : decode cX11_keyHere 43 = .ok (.ldc2_w 302, 3) := by decide +kernel
theorem dX11_keyHere_46 : decode cX11_keyHere 46 = .ok (.invokevirtual 220, 3) := by decide +kernel
theorem dX11_keyHere_49 : decode cX11_keyHere 49 = .ok (.ifCond .eq 7, 3) := by decide +kernel
theorem dX11_keyHere_52 : decode cX11_keyHere 52 = .ok (.iconst 3, 1) := by decide +kernel
theorem dX11_keyHere_53 : decode cX11_keyHere 53 = .ok (.goto 32, 3) := by decide +kernel
theorem dX11_keyHere_56 : decode cX11_keyHere 56 = .ok (.aload_n 0, 1) := by decide +kernel
theorem dX11_keyHere_57 : decode cX11_keyHere 57 = .ok (.ldc2_w 304, 3) := by decide +kernel
theorem dX11_keyHere_60 : decode cX11_keyHere 60 = .ok (.invokevirtual 220, 3) := by decide +kernel
theorem dX11_keyHere_63 : decode cX11_keyHere 63 = .ok (.ifCond .eq 7, 3) := by decide +kernel
theorem dX11_keyHere_66 : decode cX11_keyHere 66 = .ok (.iconst 4, 1) := by decide +kernel
theorem dX11_keyHere_67 : decode cX11_keyHere 67 = .ok (.goto 18, 3) := by decide +kernel
theorem dX11_keyHere_70 : decode cX11_keyHere 70 = .ok (.aload_n 0, 1) := by decide +kernel
theorem dX11_keyHere_71 : decode cX11_keyHere 71 = .ok (.ldc2_w 306, 3) := by decide +kernel
theorem dX11_keyHere_74 : decode cX11_keyHere 74 = .ok (.invokevirtual 220, 3) := by decide +kernel
theorem dX11_keyHere_77 : decode cX11_keyHere 77 = .ok (.ifCond .eq 7, 3) := by decide +kernel
