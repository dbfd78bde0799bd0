theorem dX7_failingByRolling_27 : decode cX7_failingByRolling 27 = .ok (.aload_n 0, 1) := by decide +kernel
theorem dX7_failingByRolling_28 : decode cX7_failingByRolling 28 = .ok (.iconst 0, 1) := by decide +kernel
theorem dX7_failingByRolling_29 : decode cX7_failingByRolling 29 = .ok (.putfield 123, 3) := by decide +kernel
theorem dX7_failingByRolling_32 : decode cX7_failingByRolling 32 = .ok (.iload_n 2, 1) := by decide +kernel
theorem dX7_failingByRolling_33 : decode cX7_failingByRolling 33 = .ok (.iconst 1, 1) := by decide +kernel
theorem dX7_failingByRolling_34 : decode cX7_failingByRolling 34 = .ok (.isub, 1) := by decide +kernel
theorem dX7_failingByRolling_35 : decode cX7_failingByRolling 35 = .ok (.bipush 14, 2) := by decide +kernel
theorem dX7_failingByRolling_37 : decode cX7_failingByRolling 37 = .ok (.imul, 1) := by decide +kernel
theorem dX7_failingByRolling_38 : decode cX7_failingByRolling 38 = .ok (.istore 4, 2) := by decide +kernel
theorem dX7_failingByRolling_40 : decode cX7_failingByRolling 40 = .ok (.iload_n 2, 1) := by decide +kernel
theorem dX7_failingByRolling_41 : decode cX7_failingByRolling 41 = .ok (.bipush 14, 2) := by decide +kernel
theorem dX7_failingByRolling_43 : decode cX7_failingByRolling 43 = .ok (.imul, 1) := by decide +kernel
theorem dX7_failingByRolling_44 : decode cX7_failingByRolling 44 = .ok (.bipush 14, 2) := by decide +kernel
theorem dX7_failingByRolling_46 : decode cX7_failingByRolling 46 = .ok (.iadd, 1) := by decide +kernel
theorem dX7_failingByRolling_47 : decode cX7_failingByRolling 47 = .ok (.iconst 1, 1) := by decide +kernel
theorem dX7_failingByRolling_48 : decode cX7_failingByRolling 48 = .ok (.isub, 1) := by decide +kernel
theorem dX7_failingByRolling_49 : decode cX7_failingByRolling 49 = .ok (.iload_n 3, 1) := by decide +kernel
theorem dX7_failingByRolling_50 : decode cX7_failingByRolling 50 = .ok (.isub, 1) := by decide +kernel
theorem dX7_failingByRolling_51 : decode cX7_failingByRolling 51 = .ok (.istore 5, 2) := by decide +kernel
theorem dX7_failingByRolling_53 : decode cX7_failingByRolling 53 = .ok (.iconst 0, 1) := by decide +kernel
theorem dX7_failingByRolling_54 : decode cX7_failingByRolling 54 = .ok (.istore 6, 2) := by decide +kernel
theorem dX7_failingByRolling_56 : decode cX7_failingByRolling 56 = .ok (.iload 4, 2) := by decide +kernel
theorem dX7_failingByRolling_58 : decode cX7_failingByRolling 58 = .ok (.istore 7, 2) := by decide +kernel
theorem dX7_failingByRolling_60 : decode cX7_failingByRolling 60 = .ok (.iload 7, 2) := by decide +kernel
theorem dX7_failingByRolling_62 : decode cX7_failingByRolling 62 = .ok (.iload 5, 2) := by decide +kernel
theorem dX7_failingByRolling_64 : decode cX7_failingByRolling 64 = .ok (.if_icmp .gt 81, 3) := by decide +kernel
theorem dX7_failingByRolling_67 : decode cX7_failingByRolling 67 = .ok (.iconst 0, 1) := by decide +kernel
theorem dX7_failingByRolling_68 : decode cX7_failingByRolling 68 = .ok (.istore 8, 2) := by decide +kernel
theorem dX7_failingByRolling_70 : decode cX7_failingByRolling 70 = .ok (.iload 8, 2) := by decide +kernel
theorem dX7_failingByRolling_72 : decode cX7_failingByRolling 72 = .ok (.bipush 60, 2) := by decide +kernel
theorem dX7_failingByRolling_74 : decode cX7_failingByRolling 74 = .ok (.if_icmp .ge 65, 3) := by decide +kernel
theorem dX7_failingByRolling_77 : decode cX7_failingByRolling 77 = .ok (.aload_n 1, 1) := by decide +kernel
theorem dX7_failingByRolling_78 : decode cX7_failingByRolling 78 = .ok (.getfield 37, 3) := by decide +kernel
theorem dX7_failingByRolling_81 : decode cX7_failingByRolling 81 = .ok (.iload 8, 2) := by decide +kernel
theorem dX7_failingByRolling_83 : decode cX7_failingByRolling 83 = .ok (.iload_n 2, 1) := by decide +kernel
theorem dX7_failingByRolling_84 : decode cX7_failingByRolling 84 = .ok (.invokevirtual 126, 3) := by decide +kernel
theorem dX7_failingByRolling_87 : decode cX7_failingByRolling 87 = .ok (.ifCond .eq 22, 3) := by decide +kernel
theorem dX7_failingByRolling_90 : decode cX7_failingByRolling 90 = .ok (.aload_n 1, 1) := by decide +kernel
theorem dX7_failingByRolling_91 : decode cX7_failingByRolling 91 = .ok (.getfield 37, 3) := by decide +kernel
theorem dX7_failingByRolling_94 : decode cX7_failingByRolling 94 = .ok (.iload 8, 2) := by decide +kernel
theorem dX7_failingByRolling_96 : decode cX7_failingByRolling 96 = .ok (.iconst 5, 1) := by decide +kernel
theorem dX7_failingByRolling_97 : decode cX7_failingByRolling 97 = .ok (.invokevirtual 130, 3) := by decide +kernel
theorem dX7_failingByRolling_100 : decode cX7_failingByRolling 100 = .ok (.iload 7, 2) := by decide +kernel
theorem dX7_failingByRolling_102 : decode cX7_failingByRolling 102 = .ok (.if_icmp .ne 7, 3) := by decide +kernel
theorem dX7_failingByRolling_105 : decode cX7_failingByRolling 105 = .ok (.iconst 1, 1) := by decide +kernel
theorem dX7_failingByRolling_106 : decode cX7_failingByRolling 106 = .ok (.goto 4, 3) := by decide +kernel
theorem dX7_failingByRolling_109 : decode cX7_failingByRolling 109 = .ok (.iconst 0, 1) := by decide +kernel
theorem dX7_failingByRolling_110 : decode cX7_failingByRolling 110 = .ok (.istore 9, 2) := by decide +kernel
theorem dX7_failingByRolling_112 : decode cX7_failingByRolling 112 = .ok (.iload 9, 2) := by decide +kernel
theorem dX7_failingByRolling_114 : decode cX7_failingByRolling 114 = .ok (.ifCond .eq 19, 3) := by decide +kernel
theorem dX7_failingByRolling_117 : decode cX7_failingByRolling 117 = .ok (.aload_n 0, 1) := by decide +kernel
theorem dX7_failingByRolling_118 : decode cX7_failingByRolling 118 = .ok (.aload_n 1, 1) := by decide +kernel
theorem dX7_failingByRolling_119 : decode cX7_failingByRolling 119 = .ok (.getfield 37, 3) := by decide +kernel
theorem dX7_failingByRolling_122 : decode cX7_failingByRolling 122 = .ok (.iload 8, 2) := by decide +kernel
theorem dX7_failingByRolling_124 : decode cX7_failingByRolling 124 = .ok (.invokevirtual 133, 3) := by decide +kernel
theorem dX7_failingByRolling_127 : decode cX7_failingByRolling 127 = .ok (.ifCond .eq 6, 3) := by decide +kernel
theorem dX7_failingByRolling_130 : decode cX7_failingByRolling 130 = .ok (.iinc 6 1, 3) := by decide +kernel
theorem dX7_failingByRolling_133 : decode cX7_failingByRolling 133 = .ok (.iinc 8 1, 3) := by decide +kernel
theorem dX7_failingByRolling_136 : decode cX7_failingByRolling 136 = .ok (.goto (-66), 3) := by decide +kernel
theorem dX7_failingByRolling_139 : decode cX7_failingByRolling 139 = .ok (.iinc 7 1, 3) := by decide +kernel
theorem dX7_failingByRolling_142 : decode cX7_failingByRolling 142 = .ok (.goto (-82), 3) := by decide +kernel
theorem dX7_failingByRolling_145 : decode cX7_failingByRolling 145 = .ok (.iload 6, 2) := by decide +kernel
theorem dX7_failingByRolling_147 : decode cX7_failingByRolling 147 = .ok (.ireturn, 1) := by decide +kernel
theorem dX7_failsToPay_0 : decode cX7_failsToPay 0 = .ok (.aload_n 1, 1) := by decide +kernel
theorem dX7_failsToPay_1 : decode cX7_failsToPay 1 = .ok (.iload_n 2, 1) := by decide +kernel
theorem dX7_failsToPay_2 : decode cX7_failsToPay 2 = .ok (.iconst 0, 1) := by decide +kernel
theorem dX7_failsToPay_3 : decode cX7_failsToPay 3 = .ok (.invokevirtual 130, 3) := by decide +kernel
theorem dX7_failsToPay_6 : decode cX7_failsToPay 6 = .ok (.istore_n 3, 1) := by decide +kernel
theorem dX7_failsToPay_7 : decode cX7_failsToPay 7 = .ok (.aload_n 1, 1) := by decide +kernel
theorem dX7_failsToPay_8 : decode cX7_failsToPay 8 = .ok (.iload_n 2, 1) := by decide +kernel
theorem dX7_failsToPay_9 : decode cX7_failsToPay 9 = .ok (.iconst 1, 1) := by decide +kernel
theorem dX7_failsToPay_10 : decode cX7_failsToPay 10 = .ok (.invokevirtual 130, 3) := by decide +kernel
theorem dX7_failsToPay_13 : decode cX7_failsToPay 13 = .ok (.istore 4, 2) := by decide +kernel
theorem dX7_failsToPay_15 : decode cX7_failsToPay 15 = .ok (.aload_n 0, 1) := by decide +kernel
theorem dX7_failsToPay_16 : decode cX7_failsToPay 16 = .ok (.getfield 123, 3) := by decide +kernel
theorem dX7_failsToPay_19 : decode cX7_failsToPay 19 = .ok (.iload_n 3, 1) := by decide +kernel
theorem dX7_failsToPay_20 : decode cX7_failsToPay 20 = .ok (.ishr, 1) := by decide +kernel
theorem dX7_failsToPay_21 : decode cX7_failsToPay 21 = .ok (.iconst 1, 1) := by decide +kernel
theorem dX7_failsToPay_22 : decode cX7_failsToPay 22 = .ok (.iand, 1) := by decide +kernel
theorem dX7_failsToPay_23 : decode cX7_failsToPay 23 = .ok (.ifCond .ne 15, 3) := by decide +kernel
theorem dX7_failsToPay_26 : decode cX7_failsToPay 26 = .ok (.aload_n 0, 1) := by decide +kernel
theorem dX7_failsToPay_27 : decode cX7_failsToPay 27 = .ok (.getfield 123, 3) := by decide +kernel
theorem dX7_failsToPay_30 : decode cX7_failsToPay 30 = .ok (.iload 4, 2) := by decide +kernel
theorem dX7_failsToPay_32 : decode cX7_failsToPay 32 = .ok (.ishr, 1) := by decide +kernel
theorem dX7_failsToPay_33 : decode cX7_failsToPay 33 = .ok (.iconst 1, 1) := by decide +kernel
theorem dX7_failsToPay_34 : decode cX7_failsToPay 34 = .ok (.iand, 1) := by decide +kernel
theorem dX7_failsToPay_35 : decode cX7_failsToPay 35 = .ok (.ifCond .eq 5, 3) := by decide +kernel
theorem dX7_failsToPay_38 : decode cX7_failsToPay 38 = .ok (.iconst 0, 1) := by decide +kernel
theorem dX7_failsToPay_39 : decode cX7_failsToPay 39 = .ok (.ireturn, 1) := by decide +kernel
theorem dX7_failsToPay_40 : decode cX7_failsToPay 40 = .ok (.aload_n 1, 1) := by decide +kernel
theorem dX7_failsToPay_41 : decode cX7_failsToPay 41 = .ok (.iload_n 2, 1) := by decide +kernel
theorem dX7_failsToPay_42 : decode cX7_failsToPay 42 = .ok (.invokestatic 137, 3) := by decide +kernel
theorem dX7_failsToPay_45 : decode cX7_failsToPay 45 = .ok (.lstore 5, 2) := by decide +kernel
theorem dX7_failsToPay_47 : decode cX7_failsToPay 47 = .ok (.aload_n 0, 1) := by decide +kernel
theorem dX7_failsToPay_48 : decode cX7_failsToPay 48 = .ok (.getfield 34, 3) := by decide +kernel
theorem dX7_failsToPay_51 : decode cX7_failsToPay 51 = .ok (.iload 4, 2) := by decide +kernel
theorem dX7_failsToPay_53 : decode cX7_failsToPay 53 = .ok (.laload, 1) := by decide +kernel
theorem dX7_failsToPay_54 : decode cX7_failsToPay 54 = .ok (.lload 5, 2) := by decide +kernel
theorem dX7_failsToPay_56 : decode cX7_failsToPay 56 = .ok (.lcmp, 1) := by decide +kernel
theorem dX7_failsToPay_57 : decode cX7_failsToPay 57 = .ok (.ifCond .ge 18, 3) := by decide +kernel
theorem dX7_failsToPay_60 : decode cX7_failsToPay 60 = .ok (.aload_n 0, 1) := by decide +kernel
theorem dX7_failsToPay_61 : decode cX7_failsToPay 61 = .ok (.dup, 1) := by decide +kernel
theorem dX7_failsToPay_62 : decode cX7_failsToPay 62 = .ok (.getfield 123, 3) := by decide +kernel
theorem dX7_failsToPay_65 : decode cX7_failsToPay 65 = .ok (.iconst 1, 1) := by decide +kernel
theorem dX7_failsToPay_66 : decode cX7_failsToPay 66 = .ok (.iload 4, 2) := by decide +kernel
theorem dX7_failsToPay_68 : decode cX7_failsToPay 68 = .ok (.ishl, 1) := by decide +kernel
theorem dX7_failsToPay_69 : decode cX7_failsToPay 69 = .ok (.ior, 1) := by decide +kernel
theorem dX7_failsToPay_70 : decode cX7_failsToPay 70 = .ok (.putfield 123, 3) := by decide +kernel
theorem dX7_failsToPay_73 : decode cX7_failsToPay 73 = .ok (.iconst 1, 1) := by decide +kernel
theorem dX7_failsToPay_74 : decode cX7_failsToPay 74 = .ok (.ireturn, 1) := by decide +kernel
theorem dX7_failsToPay_75 : decode cX7_failsToPay 75 = .ok (.aload_n 0, 1) := by decide +kernel
theorem dX7_failsToPay_76 : decode cX7_failsToPay 76 = .ok (.getfield 34, 3) := by decide +kernel
theorem dX7_failsToPay_79 : decode cX7_failsToPay 79 = .ok (.iload 4, 2) := by decide +kernel
theorem dX7_failsToPay_81 : decode cX7_failsToPay 81 = .ok (.dup2, 1) := by decide +kernel
theorem dX7_failsToPay_82 : decode cX7_failsToPay 82 = .ok (.laload, 1) := by decide +kernel
theorem dX7_failsToPay_83 : decode cX7_failsToPay 83 = .ok (.lload 5, 2) := by decide +kernel
theorem dX7_failsToPay_85 : decode cX7_failsToPay 85 = .ok (.lsub, 1) := by decide +kernel
theorem dX7_failsToPay_86 : decode cX7_failsToPay 86 = .ok (.lastore, 1) := by decide +kernel
theorem dX7_failsToPay_87 : decode cX7_failsToPay 87 = .ok (.aload_n 0, 1) := by decide +kernel
theorem dX7_failsToPay_88 : decode cX7_failsToPay 88 = .ok (.getfield 34, 3) := by decide +kernel
theorem dX7_failsToPay_91 : decode cX7_failsToPay 91 = .ok (.iload_n 3, 1) := by decide +kernel
theorem dX7_failsToPay_92 : decode cX7_failsToPay 92 = .ok (.dup2, 1) := by decide +kernel
theorem dX7_failsToPay_93 : decode cX7_failsToPay 93 = .ok (.laload, 1) := by decide +kernel
theorem dX7_failsToPay_94 : decode cX7_failsToPay 94 = .ok (.lload 5, 2) := by decide +kernel
theorem dX7_failsToPay_96 : decode cX7_failsToPay 96 = .ok (.ladd, 1) := by decide +kernel
theorem dX7_failsToPay_97 : decode cX7_failsToPay 97 = .ok (.lastore, 1) := by decide +kernel
theorem dX7_failsToPay_98 : decode cX7_failsToPay 98 = .ok (.iconst 0, 1) := by decide +kernel
theorem dX7_failsToPay_99 : decode cX7_failsToPay 99 = .ok (.ireturn, 1) := by decide +kernel
theorem dX7_worth_0 : decode cX7_worth 0 = .ok (.aload_n 0, 1) := by decide +kernel
theorem dX7_worth_1 : decode cX7_worth 1 = .ok (.iload_n 1, 1) := by decide +kernel
theorem dX7_worth_2 : decode cX7_worth 2 = .ok (.iconst 3, 1) := by decide +kernel
theorem dX7_worth_3 : decode cX7_worth 3 = .ok (.invokevirtual 130, 3) := by decide +kernel
theorem dX7_worth_6 : decode cX7_worth 6 = .ok (.i2l, 1) := by decide +kernel
theorem dX7_worth_7 : decode cX7_worth 7 = .ok (.aload_n 0, 1) := by decide +kernel
theorem dX7_worth_8 : decode cX7_worth 8 = .ok (.iload_n 1, 1) := by decide +kernel
theorem dX7_worth_9 : decode cX7_worth 9 = .ok (.iconst 4, 1) := by decide +kernel
theorem dX7_worth_10 : decode cX7_worth 10 = .ok (.invokevirtual 130, 3) := by decide +kernel
theorem dX7_worth_13 : decode cX7_worth 13 = .ok (.i2l, 1) := by decide +kernel
theorem dX7_worth_14 : decode cX7_worth 14 = .ok (.lmul, 1) := by decide +kernel
theorem dX7_worth_15 : decode cX7_worth 15 = .ok (.lreturn, 1) := by decide +kernel
theorem dX7_failingByClearing_0 : decode cX7_failingByClearing 0 = .ok (.aload_n 1, 1) := by decide +kernel
theorem dX7_failingByClearing_1 : decode cX7_failingByClearing 1 = .ok (.getfield 65, 3) := by decide +kernel
theorem dX7_failingByClearing_4 : decode cX7_failingByClearing 4 = .ok (.getfield 116, 3) := by decide +kernel
theorem dX7_failingByClearing_7 : decode cX7_failingByClearing 7 = .ok (.iconst 0, 1) := by decide +kernel
theorem dX7_failingByClearing_8 : decode cX7_failingByClearing 8 = .ok (.aload_n 0, 1) := by decide +kernel
theorem dX7_failingByClearing_9 : decode cX7_failingByClearing 9 = .ok (.getfield 34, 3) := by decide +kernel
theorem dX7_failingByClearing_12 : decode cX7_failingByClearing 12 = .ok (.iconst 0, 1) := by decide +kernel
theorem dX7_failingByClearing_13 : decode cX7_failingByClearing 13 = .ok (.bipush 12, 2) := by decide +kernel
theorem dX7_failingByClearing_15 : decode cX7_failingByClearing 15 = .ok (.invokestatic 117, 3) := by decide +kernel
theorem dX7_failingByClearing_18 : decode cX7_failingByClearing 18 = .ok (.iconst 0, 1) := by decide +kernel
theorem dX7_failingByClearing_19 : decode cX7_failingByClearing 19 = .ok (.istore_n 3, 1) := by decide +kernel
theorem dX7_failingByClearing_20 : decode cX7_failingByClearing 20 = .ok (.iload_n 3, 1) := by decide +kernel
theorem dX7_failingByClearing_21 : decode cX7_failingByClearing 21 = .ok (.bipush 60, 2) := by decide +kernel
theorem dX7_failingByClearing_23 : decode cX7_failingByClearing 23 = .ok (.if_icmp .ge 71, 3) := by decide +kernel
theorem dX7_failingByClearing_26 : decode cX7_failingByClearing 26 = .ok (.aload_n 1, 1) := by decide +kernel
theorem dX7_failingByClearing_27 : decode cX7_failingByClearing 27 = .ok (.getfield 37, 3) := by decide +kernel
theorem dX7_failingByClearing_30 : decode cX7_failingByClearing 30 = .ok (.iload_n 3, 1) := by decide +kernel
theorem dX7_failingByClearing_31 : decode cX7_failingByClearing 31 = .ok (.iload_n 2, 1) := by decide +kernel
theorem dX7_failingByClearing_32 : decode cX7_failingByClearing 32 = .ok (.invokevirtual 126, 3) := by decide +kernel
theorem dX7_failingByClearing_35 : decode cX7_failingByClearing 35 = .ok (.ifCond .eq 53, 3) := by decide +kernel
theorem dX7_failingByClearing_38 : decode cX7_failingByClearing 38 = .ok (.aload_n 0, 1) := by decide +kernel
theorem dX7_failingByClearing_39 : decode cX7_failingByClearing 39 = .ok (.getfield 34, 3) := by decide +kernel
theorem dX7_failingByClearing_42 : decode cX7_failingByClearing 42 = .ok (.aload_n 1, 1) := by decide +kernel
theorem dX7_failingByClearing_43 : decode cX7_failingByClearing 43 = .ok (.getfield 37, 3) := by decide +kernel
theorem dX7_failingByClearing_46 : decode cX7_failingByClearing 46 = .ok (.iload_n 3, 1) := by decide +kernel
theorem dX7_failingByClearing_47 : decode cX7_failingByClearing 47 = .ok (.iconst 1, 1) := by decide +kernel
theorem dX7_failingByClearing_48 : decode cX7_failingByClearing 48 = .ok (.invokevirtual 130, 3) := by decide +kernel
theorem dX7_failingByClearing_51 : decode cX7_failingByClearing 51 = .ok (.dup2, 1) := by decide +kernel
theorem dX7_failingByClearing_52 : decode cX7_failingByClearing 52 = .ok (.laload, 1) := by decide +kernel
theorem dX7_failingByClearing_53 : decode cX7_failingByClearing 53 = .ok (.aload_n 1, 1) := by decide +kernel
theorem dX7_failingByClearing_54 : decode cX7_failingByClearing 54 = .ok (.getfield 37, 3) := by decide +kernel
theorem dX7_failingByClearing_57 : decode cX7_failingByClearing 57 = .ok (.iload_n 3, 1) := by decide +kernel
theorem dX7_failingByClearing_58 : decode cX7_failingByClearing 58 = .ok (.invokestatic 137, 3) := by decide +kernel
theorem dX7_failingByClearing_61 : decode cX7_failingByClearing 61 = .ok (.lsub, 1) := by decide +kernel
theorem dX7_failingByClearing_62 : decode cX7_failingByClearing 62 = .ok (.lastore, 1) := by decide +kernel
theorem dX7_failingByClearing_63 : decode cX7_failingByClearing 63 = .ok (.aload_n 0, 1) := by decide +kernel
theorem dX7_failingByClearing_64 : decode cX7_failingByClearing 64 = .ok (.getfield 34, 3) := by decide +kernel
theorem dX7_failingByClearing_67 : decode cX7_failingByClearing 67 = .ok (.aload_n 1, 1) := by decide +kernel
theorem dX7_failingByClearing_68 : decode cX7_failingByClearing 68 = .ok (.getfield 37, 3) := by decide +kernel
theorem dX7_failingByClearing_71 : decode cX7_failingByClearing 71 = .ok (.iload_n 3, 1) := by decide +kernel
theorem dX7_failingByClearing_72 : decode cX7_failingByClearing 72 = .ok (.iconst 0, 1) := by decide +kernel
theorem dX7_failingByClearing_73 : decode cX7_failingByClearing 73 = .ok (.invokevirtual 130, 3) := by decide +kernel
theorem dX7_failingByClearing_76 : decode cX7_failingByClearing 76 = .ok (.dup2, 1) := by decide +kernel
theorem dX7_failingByClearing_77 : decode cX7_failingByClearing 77 = .ok (.laload, 1) := by decide +kernel
theorem dX7_failingByClearing_78 : decode cX7_failingByClearing 78 = .ok (.aload_n 1, 1) := by decide +kernel
theorem dX7_failingByClearing_79 : decode cX7_failingByClearing 79 = .ok (.getfield 37, 3) := by decide +kernel
theorem dX7_failingByClearing_82 : decode cX7_failingByClearing 82 = .ok (.iload_n 3, 1) := by decide +kernel
theorem dX7_failingByClearing_83 : decode cX7_failingByClearing 83 = .ok (.invokestatic 137, 3) := by decide +kernel
theorem dX7_failingByClearing_86 : decode cX7_failingByClearing 86 = .ok (.ladd, 1) := by decide +kernel
theorem dX7_failingByClearing_87 : decode cX7_failingByClearing 87 = .ok (.lastore, 1) := by decide +kernel
theorem dX7_failingByClearing_88 : decode cX7_failingByClearing 88 = .ok (.iinc 3 1, 3) := by decide +kernel
theorem dX7_failingByClearing_91 : decode cX7_failingByClearing 91 = .ok (.goto (-71), 3) := by decide +kernel
theorem dX7_failingByClearing_94 : decode cX7_failingByClearing 94 = .ok (.iconst 0, 1) := by decide +kernel
theorem dX7_failingByClearing_95 : decode cX7_failingByClearing 95 = .ok (.istore_n 3, 1) := by decide +kernel
theorem dX7_failingByClearing_96 : decode cX7_failingByClearing 96 = .ok (.iconst 0, 1) := by decide +kernel
theorem dX7_failingByClearing_97 : decode cX7_failingByClearing 97 = .ok (.istore 4, 2) := by decide +kernel
theorem dX7_failingByClearing_99 : decode cX7_failingByClearing 99 = .ok (.iload 4, 2) := by decide +kernel
theorem dX7_failingByClearing_101 : decode cX7_failingByClearing 101 = .ok (.aload_n 1, 1) := by decide +kernel
theorem dX7_failingByClearing_102 : decode cX7_failingByClearing 102 = .ok (.getfield 65, 3) := by decide +kernel
theorem dX7_failingByClearing_105 : decode cX7_failingByClearing 105 = .ok (.getfield 69, 3) := by decide +kernel
theorem dX7_failingByClearing_108 : decode cX7_failingByClearing 108 = .ok (.if_icmp .ge 24, 3) := by decide +kernel
theorem dX7_failingByClearing_111 : decode cX7_failingByClearing 111 = .ok (.aload_n 0, 1) := by decide +kernel
theorem dX7_failingByClearing_112 : decode cX7_failingByClearing 112 = .ok (.getfield 34, 3) := by decide +kernel
theorem dX7_failingByClearing_115 : decode cX7_failingByClearing 115 = .ok (.iload 4, 2) := by decide +kernel
theorem dX7_failingByClearing_117 : decode cX7_failingByClearing 117 = .ok (.laload, 1) := by decide +kernel
theorem dX7_failingByClearing_118 : decode cX7_failingByClearing 118 = .ok (.lconst 0, 1) := by decide +kernel
theorem dX7_failingByClearing_119 : decode cX7_failingByClearing 119 = .ok (.lcmp, 1) := by decide +kernel
theorem dX7_failingByClearing_120 : decode cX7_failingByClearing 120 = .ok (.ifCond .ge 6, 3) := by decide +kernel
theorem dX7_failingByClearing_123 : decode cX7_failingByClearing 123 = .ok (.iinc 3 1, 3) := by decide +kernel
theorem dX7_failingByClearing_126 : decode cX7_failingByClearing 126 = .ok (.iinc 4 1, 3) := by decide +kernel
theorem dX7_failingByClearing_129 : decode cX7_failingByClearing 129 = .ok (.goto (-30), 3) := by decide +kernel
theorem dX7_failingByClearing_132 : decode cX7_failingByClearing 132 = .ok (.iload_n 3, 1) := by decide +kernel
theorem dX7_failingByClearing_133 : decode cX7_failingByClearing 133 = .ok (.ireturn, 1) := by decide +kernel
theorem dX8_init_0 : decode cX8_init 0 = .ok (.aload_n 0, 1) := by decide +kernel
theorem dX8_init_1 : decode cX8_init 1 = .ok (.invokespecial 1, 3) := by decide +kernel
theorem dX8_init_4 : decode cX8_init 4 = .ok (.aload_n 0, 1) := by decide +kernel
theorem dX8_init_5 : decode cX8_init 5 = .ok (.iload_n 1, 1) := by decide +kernel
theorem dX8_init_6 : decode cX8_init 6 = .ok (.putfield 7, 3) := by decide +kernel
theorem dX8_init_9 : decode cX8_init 9 = .ok (.aload_n 0, 1) := by decide +kernel
theorem dX8_init_10 : decode cX8_init 10 = .ok (.iload_n 2, 1) := by decide +kernel
theorem dX8_init_11 : decode cX8_init 11 = .ok (.putfield 13, 3) := by decide +kernel
theorem dX8_init_14 : decode cX8_init 14 = .ok (.aload_n 0, 1) := by decide +kernel
theorem dX8_init_15 : decode cX8_init 15 = .ok (.iload_n 1, 1) := by decide +kernel
theorem dX8_init_16 : decode cX8_init 16 = .ok (.iload_n 2, 1) := by decide +kernel
theorem dX8_init_17 : decode cX8_init 17 = .ok (.imul, 1) := by decide +kernel
theorem dX8_init_18 : decode cX8_init 18 = .ok (.newarray .int, 2) := by decide +kernel
theorem dX8_init_20 : decode cX8_init 20 = .ok (.putfield 16, 3) := by decide +kernel
theorem dX8_init_23 : decode cX8_init 23 = .ok (.aload_n 0, 1) := by decide +kernel
theorem dX8_init_24 : decode cX8_init 24 = .ok (.iconst 0, 1) := by decide +kernel
theorem dX8_init_25 : decode cX8_init 25 = .ok (.putfield 20, 3) := by decide +kernel
theorem dX8_init_28 : decode cX8_init 28 = .ok (.return_, 1) := by decide +kernel
theorem dX8_hasRoom_0 : decode cX8_hasRoom 0 = .ok (.aload_n 0, 1) := by decide +kernel
theorem dX8_hasRoom_1 : decode cX8_hasRoom 1 = .ok (.getfield 20, 3) := by decide +kernel
theorem dX8_hasRoom_4 : decode cX8_hasRoom 4 = .ok (.aload_n 0, 1) := by decide +kernel
theorem dX8_hasRoom_5 : decode cX8_hasRoom 5 = .ok (.getfield 7, 3) := by decide +kernel
theorem dX8_hasRoom_8 : decode cX8_hasRoom 8 = .ok (.if_icmp .ge 7, 3) := by decide +kernel
theorem dX8_hasRoom_11 : decode cX8_hasRoom 11 = .ok (.iconst 1, 1) := by decide +kernel
theorem dX8_hasRoom_12 : decode cX8_hasRoom 12 = .ok (.goto 4, 3) := by decide +kernel
theorem dX8_hasRoom_15 : decode cX8_hasRoom 15 = .ok (.iconst 0, 1) := by decide +kernel
theorem dX8_hasRoom_16 : decode cX8_hasRoom 16 = .ok (.ireturn, 1) := by decide +kernel
theorem dX8_hasColumn_0 : decode cX8_hasColumn 0 = .ok (.iload_n 1, 1) := by decide +kernel
theorem dX8_hasColumn_1 : decode cX8_hasColumn 1 = .ok (.ifCond .lt 15, 3) := by decide +kernel
theorem dX8_hasColumn_4 : decode cX8_hasColumn 4 = .ok (.iload_n 1, 1) := by decide +kernel
theorem dX8_hasColumn_5 : decode cX8_hasColumn 5 = .ok (.aload_n 0, 1) := by decide +kernel
theorem dX8_hasColumn_6 : decode cX8_hasColumn 6 = .ok (.getfield 13, 3) := by decide +kernel
theorem dX8_hasColumn_9 : decode cX8_hasColumn 9 = .ok (.if_icmp .ge 7, 3) := by decide +kernel
theorem dX8_hasColumn_12 : decode cX8_hasColumn 12 = .ok (.iconst 1, 1) := by decide +kernel
theorem dX8_hasColumn_13 : decode cX8_hasColumn 13 = .ok (.goto 4, 3) := by decide +kernel
theorem dX8_hasColumn_16 : decode cX8_hasColumn 16 = .ok (.iconst 0, 1) := by decide +kernel
theorem dX8_hasColumn_17 : decode cX8_hasColumn 17 = .ok (.ireturn, 1) := by decide +kernel
theorem dX8_isNoted_0 : decode cX8_isNoted 0 = .ok (.iload_n 1, 1) := by decide +kernel
theorem dX8_isNoted_1 : decode cX8_isNoted 1 = .ok (.ifCond .lt 23, 3) := by decide +kernel
theorem dX8_isNoted_4 : decode cX8_isNoted 4 = .ok (.iload_n 1, 1) := by decide +kernel
theorem dX8_isNoted_5 : decode cX8_isNoted 5 = .ok (.aload_n 0, 1) := by decide +kernel
theorem dX8_isNoted_6 : decode cX8_isNoted 6 = .ok (.getfield 20, 3) := by decide +kernel
theorem dX8_isNoted_9 : decode cX8_isNoted 9 = .ok (.if_icmp .ge 15, 3) := by decide +kernel
theorem dX8_isNoted_12 : decode cX8_isNoted 12 = .ok (.iload_n 1, 1) := by decide +kernel
theorem dX8_isNoted_13 : decode cX8_isNoted 13 = .ok (.aload_n 0, 1) := by decide +kernel
theorem dX8_isNoted_14 : decode cX8_isNoted 14 = .ok (.getfield 7, 3) := by decide +kernel
theorem dX8_isNoted_17 : decode cX8_isNoted 17 = .ok (.if_icmp .ge 7, 3) := by decide +kernel
theorem dX8_isNoted_20 : decode cX8_isNoted 20 = .ok (.iconst 1, 1) := by decide +kernel
theorem dX8_isNoted_21 : decode cX8_isNoted 21 = .ok (.goto 4, 3) := by decide +kernel
theorem dX8_isNoted_24 : decode cX8_isNoted 24 = .ok (.iconst 0, 1) := by decide +kernel
theorem dX8_isNoted_25 : decode cX8_isNoted 25 = .ok (.ireturn, 1) := by decide +kernel
theorem dX8_at_0 : decode cX8_at 0 = .ok (.iload_n 1, 1) := by decide +kernel
theorem dX8_at_1 : decode cX8_at 1 = .ok (.ifCond .lt 27, 3) := by decide +kernel
theorem dX8_at_4 : decode cX8_at 4 = .ok (.iload_n 1, 1) := by decide +kernel
theorem dX8_at_5 : decode cX8_at 5 = .ok (.aload_n 0, 1) := by decide +kernel
theorem dX8_at_6 : decode cX8_at 6 = .ok (.getfield 7, 3) := by decide +kernel
theorem dX8_at_9 : decode cX8_at 9 = .ok (.if_icmp .ge 19, 3) := by decide +kernel
theorem dX8_at_12 : decode cX8_at 12 = .ok (.iload_n 2, 1) := by decide +kernel
theorem dX8_at_13 : decode cX8_at 13 = .ok (.ifCond .lt 15, 3) := by decide +kernel
theorem dX8_at_16 : decode cX8_at 16 = .ok (.iload_n 2, 1) := by decide +kernel
theorem dX8_at_17 : decode cX8_at 17 = .ok (.aload_n 0, 1) := by decide +kernel
theorem dX8_at_18 : decode cX8_at 18 = .ok (.getfield 13, 3) := by decide +kernel
theorem dX8_at_21 : decode cX8_at 21 = .ok (.if_icmp .ge 7, 3) := by decide +kernel
theorem dX8_at_24 : decode cX8_at 24 = .ok (.iconst 1, 1) := by decide +kernel
theorem dX8_at_25 : decode cX8_at 25 = .ok (.goto 4, 3) := by decide +kernel
theorem dX8_at_28 : decode cX8_at 28 = .ok (.iconst 0, 1) := by decide +kernel
theorem dX8_at_29 : decode cX8_at 29 = .ok (.istore_n 3, 1) := by decide +kernel
theorem dX8_at_30 : decode cX8_at 30 = .ok (.iload_n 3, 1) := by decide +kernel
theorem dX8_at_31 : decode cX8_at 31 = .ok (.ifCond .eq 19, 3) := by decide +kernel
theorem dX8_at_34 : decode cX8_at 34 = .ok (.aload_n 0, 1) := by decide +kernel
theorem dX8_at_35 : decode cX8_at 35 = .ok (.getfield 16, 3) := by decide +kernel
theorem dX8_at_38 : decode cX8_at 38 = .ok (.iload_n 1, 1) := by decide +kernel
theorem dX8_at_39 : decode cX8_at 39 = .ok (.aload_n 0, 1) := by decide +kernel
theorem dX8_at_40 : decode cX8_at 40 = .ok (.getfield 13, 3) := by decide +kernel
theorem dX8_at_43 : decode cX8_at 43 = .ok (.imul, 1) := by decide +kernel
theorem dX8_at_44 : decode cX8_at 44 = .ok (.iload_n 2, 1) := by decide +kernel
theorem dX8_at_45 : decode cX8_at 45 = .ok (.iadd, 1) := by decide +kernel
theorem dX8_at_46 : decode cX8_at 46 = .ok (.iaload, 1) := by decide +kernel
theorem dX8_at_47 : decode cX8_at 47 = .ok (.goto 4, 3) := by decide +kernel
theorem dX8_at_50 : decode cX8_at 50 = .ok (.iconst 0, 1) := by decide +kernel
theorem dX8_at_51 : decode cX8_at 51 = .ok (.ireturn, 1) := by decide +kernel
theorem dX8_put_0 : decode cX8_put 0 = .ok (.iload_n 1, 1) := by decide +kernel
theorem dX8_put_1 : decode cX8_put 1 = .ok (.ifCond .lt 27, 3) := by decide +kernel
theorem dX8_put_4 : decode cX8_put 4 = .ok (.iload_n 1, 1) := by decide +kernel
theorem dX8_put_5 : decode cX8_put 5 = .ok (.aload_n 0, 1) := by decide +kernel
theorem dX8_put_6 : decode cX8_put 6 = .ok (.getfield 7, 3) := by decide +kernel
theorem dX8_put_9 : decode cX8_put 9 = .ok (.if_icmp .ge 19, 3) := by decide +kernel
theorem dX8_put_12 : decode cX8_put 12 = .ok (.iload_n 2, 1) := by decide +kernel
theorem dX8_put_13 : decode cX8_put 13 = .ok (.ifCond .lt 15, 3) := by decide +kernel
theorem dX8_put_16 : decode cX8_put 16 = .ok (.iload_n 2, 1) := by decide +kernel
theorem dX8_put_17 : decode cX8_put 17 = .ok (.aload_n 0, 1) := by decide +kernel
theorem dX8_put_18 : decode cX8_put 18 = .ok (.getfield 13, 3) := by decide +kernel
theorem dX8_put_21 : decode cX8_put 21 = .ok (.if_icmp .ge 7, 3) := by decide +kernel
theorem dX8_put_24 : decode cX8_put 24 = .ok (.iconst 1, 1) := by decide +kernel
theorem dX8_put_25 : decode cX8_put 25 = .ok (.goto 4, 3) := by decide +kernel
theorem dX8_put_28 : decode cX8_put 28 = .ok (.iconst 0, 1) := by decide +kernel
theorem dX8_put_29 : decode cX8_put 29 = .ok (.istore 4, 2) := by decide +kernel
theorem dX8_put_31 : decode cX8_put 31 = .ok (.iload 4, 2) := by decide +kernel
theorem dX8_put_33 : decode cX8_put 33 = .ok (.ifCond .eq 17, 3) := by decide +kernel
theorem dX8_put_36 : decode cX8_put 36 = .ok (.aload_n 0, 1) := by decide +kernel
theorem dX8_put_37 : decode cX8_put 37 = .ok (.getfield 16, 3) := by decide +kernel
theorem dX8_put_40 : decode cX8_put 40 = .ok (.iload_n 1, 1) := by decide +kernel
theorem dX8_put_41 : decode cX8_put 41 = .ok (.aload_n 0, 1) := by decide +kernel
theorem dX8_put_42 : decode cX8_put 42 = .ok (.getfield 13, 3) := by decide +kernel
theorem dX8_put_45 : decode cX8_put 45 = .ok (.imul, 1) := by decide +kernel
theorem dX8_put_46 : decode cX8_put 46 = .ok (.iload_n 2, 1) := by decide +kernel
theorem dX8_put_47 : decode cX8_put 47 = .ok (.iadd, 1) := by decide +kernel
theorem dX8_put_48 : decode cX8_put 48 = .ok (.iload_n 3, 1) := by decide +kernel
theorem dX8_put_49 : decode cX8_put 49 = .ok (.iastore, 1) := by decide +kernel
theorem dX8_put_50 : decode cX8_put 50 = .ok (.return_, 1) := by decide +kernel
theorem dX8_takeOver_0 : decode cX8_takeOver 0 = .ok (.aload_n 0, 1) := by decide +kernel
theorem dX8_takeOver_1 : decode cX8_takeOver 1 = .ok (.aload_n 1, 1) := by decide +kernel
theorem dX8_takeOver_2 : decode cX8_takeOver 2 = .ok (.getfield 20, 3) := by decide +kernel
theorem dX8_takeOver_5 : decode cX8_takeOver 5 = .ok (.putfield 20, 3) := by decide +kernel
theorem dX8_takeOver_8 : decode cX8_takeOver 8 = .ok (.aload_n 1, 1) := by decide +kernel
theorem dX8_takeOver_9 : decode cX8_takeOver 9 = .ok (.getfield 16, 3) := by decide +kernel
theorem dX8_takeOver_12 : decode cX8_takeOver 12 = .ok (.iconst 0, 1) := by decide +kernel
theorem dX8_takeOver_13 : decode cX8_takeOver 13 = .ok (.aload_n 0, 1) := by decide +kernel
theorem dX8_takeOver_14 : decode cX8_takeOver 14 = .ok (.getfield 16, 3) := by decide +kernel
theorem dX8_takeOver_17 : decode cX8_takeOver 17 = .ok (.iconst 0, 1) := by decide +kernel
theorem dX8_takeOver_18 : decode cX8_takeOver 18 = .ok (.aload_n 0, 1) := by decide +kernel
theorem dX8_takeOver_19 : decode cX8_takeOver 19 = .ok (.getfield 16, 3) := by decide +kernel
theorem dX8_takeOver_22 : decode cX8_takeOver 22 = .ok (.arraylength, 1) := by decide +kernel
theorem dX8_takeOver_23 : decode cX8_takeOver 23 = .ok (.aload_n 1, 1) := by decide +kernel
theorem dX8_takeOver_24 : decode cX8_takeOver 24 = .ok (.getfield 16, 3) := by decide +kernel
theorem dX8_takeOver_27 : decode cX8_takeOver 27 = .ok (.arraylength, 1) := by decide +kernel
theorem dX8_takeOver_28 : decode cX8_takeOver 28 = .ok (.invokestatic 23, 3) := by decide +kernel
theorem dX8_takeOver_31 : decode cX8_takeOver 31 = .ok (.invokestatic 29, 3) := by decide +kernel
theorem dX8_takeOver_34 : decode cX8_takeOver 34 = .ok (.return_, 1) := by decide +kernel
theorem dX9_init_0 : decode cX9_init 0 = .ok (.aload_n 0, 1) := by decide +kernel
theorem dX9_init_1 : decode cX9_init 1 = .ok (.invokespecial 3, 3) := by decide +kernel
theorem dX9_init_4 : decode cX9_init 4 = .ok (.aload_n 0, 1) := by decide +kernel
theorem dX9_init_5 : decode cX9_init 5 = .ok (.bipush 120, 2) := by decide +kernel
theorem dX9_init_7 : decode cX9_init 7 = .ok (.newarray .int, 2) := by decide +kernel
theorem dX9_init_9 : decode cX9_init 9 = .ok (.putfield 9, 3) := by decide +kernel
theorem dX9_init_12 : decode cX9_init 12 = .ok (.aload_n 0, 1) := by decide +kernel
theorem dX9_init_13 : decode cX9_init 13 = .ok (.bipush 120, 2) := by decide +kernel
theorem dX9_init_15 : decode cX9_init 15 = .ok (.newarray .int, 2) := by decide +kernel
theorem dX9_init_17 : decode cX9_init 17 = .ok (.putfield 15, 3) := by decide +kernel
theorem dX9_init_20 : decode cX9_init 20 = .ok (.return_, 1) := by decide +kernel
theorem dX9_append_0 : decode cX9_append 0 = .ok (.iload_n 2, 1) := by decide +kernel
theorem dX9_append_1 : decode cX9_append 1 = .ok (.iconst 1, 1) := by decide +kernel
theorem dX9_append_2 : decode cX9_append 2 = .ok (.isub, 1) := by decide +kernel
theorem dX9_append_3 : decode cX9_append 3 = .ok (.istore_n 3, 1) := by decide +kernel
theorem dX9_append_4 : decode cX9_append 4 = .ok (.iload_n 3, 1) := by decide +kernel
theorem dX9_append_5 : decode cX9_append 5 = .ok (.ifCond .lt 47, 3) := by decide +kernel
theorem dX9_append_8 : decode cX9_append 8 = .ok (.aload_n 0, 1) := by decide +kernel
theorem dX9_append_9 : decode cX9_append 9 = .ok (.getfield 18, 3) := by decide +kernel
theorem dX9_append_12 : decode cX9_append 12 = .ok (.bipush 120, 2) := by decide +kernel
theorem dX9_append_14 : decode cX9_append 14 = .ok (.if_icmp .ge 38, 3) := by decide +kernel
theorem dX9_append_17 : decode cX9_append 17 = .ok (.aload_n 0, 1) := by decide +kernel
theorem dX9_append_18 : decode cX9_append 18 = .ok (.getfield 9, 3) := by decide +kernel
theorem dX9_append_21 : decode cX9_append 21 = .ok (.aload_n 0, 1) := by decide +kernel
theorem dX9_append_22 : decode cX9_append 22 = .ok (.getfield 18, 3) := by decide +kernel
theorem dX9_append_25 : decode cX9_append 25 = .ok (.iload_n 1, 1) := by decide +kernel
theorem dX9_append_26 : decode cX9_append 26 = .ok (.bipush 8, 2) := by decide +kernel
theorem dX9_append_28 : decode cX9_append 28 = .ok (.iload_n 3, 1) := by decide +kernel
theorem dX9_append_29 : decode cX9_append 29 = .ok (.imul, 1) := by decide +kernel
theorem dX9_append_30 : decode cX9_append 30 = .ok (.iushr, 1) := by decide +kernel
theorem dX9_append_31 : decode cX9_append 31 = .ok (.sipush 255, 3) := by decide +kernel
theorem dX9_append_34 : decode cX9_append 34 = .ok (.iand, 1) := by decide +kernel
theorem dX9_append_35 : decode cX9_append 35 = .ok (.iastore, 1) := by decide +kernel
theorem dX9_append_36 : decode cX9_append 36 = .ok (.aload_n 0, 1) := by decide +kernel
theorem dX9_append_37 : decode cX9_append 37 = .ok (.dup, 1) := by decide +kernel
theorem dX9_append_38 : decode cX9_append 38 = .ok (.getfield 18, 3) := by decide +kernel
theorem dX9_append_41 : decode cX9_append 41 = .ok (.iconst 1, 1) := by decide +kernel
theorem dX9_append_42 : decode cX9_append 42 = .ok (.iadd, 1) := by decide +kernel
theorem dX9_append_43 : decode cX9_append 43 = .ok (.putfield 18, 3) := by decide +kernel
theorem dX9_append_46 : decode cX9_append 46 = .ok (.iinc 3 (-1), 3) := by decide +kernel
theorem dX9_append_49 : decode cX9_append 49 = .ok (.goto (-45), 3) := by decide +kernel
theorem dX9_append_52 : decode cX9_append 52 = .ok (.return_, 1) := by decide +kernel
theorem dX9_isRule_0 : decode cX9_isRule 0 = .ok (.aload_n 0, 1) := by decide +kernel
theorem dX9_isRule_1 : decode cX9_isRule 1 = .ok (.iconst 0, 1) := by decide +kernel
theorem dX9_isRule_2 : decode cX9_isRule 2 = .ok (.putfield 22, 3) := by decide +kernel
theorem dX9_isRule_5 : decode cX9_isRule 5 = .ok (.aload_n 0, 1) := by decide +kernel
theorem dX9_isRule_6 : decode cX9_isRule 6 = .ok (.iconst 0, 1) := by decide +kernel
theorem dX9_isRule_7 : decode cX9_isRule 7 = .ok (.putfield 25, 3) := by decide +kernel
theorem dX9_isRule_10 : decode cX9_isRule 10 = .ok (.aload_n 0, 1) := by decide +kernel
theorem dX9_isRule_11 : decode cX9_isRule 11 = .ok (.invokevirtual 28, 3) := by decide +kernel
theorem dX9_isRule_14 : decode cX9_isRule 14 = .ok (.aload_n 0, 1) := by decide +kernel
theorem dX9_isRule_15 : decode cX9_isRule 15 = .ok (.getfield 31, 3) := by decide +kernel
theorem dX9_isRule_18 : decode cX9_isRule 18 = .ok (.iconst 1, 1) := by decide +kernel
theorem dX9_isRule_19 : decode cX9_isRule 19 = .ok (.if_icmp .eq 5, 3) := by decide +kernel
theorem dX9_isRule_22 : decode cX9_isRule 22 = .ok (.iconst 0, 1) := by decide +kernel
theorem dX9_isRule_23 : decode cX9_isRule 23 = .ok (.ireturn, 1) := by decide +kernel
theorem dX9_isRule_24 : decode cX9_isRule 24 = .ok (.aload_n 0, 1) := by decide +kernel
theorem dX9_isRule_25 : decode cX9_isRule 25 = .ok (.aload_n 0, 1) := by decide +kernel
theorem dX9_isRule_26 : decode cX9_isRule 26 = .ok (.getfield 34, 3) := by decide +kernel
theorem dX9_isRule_29 : decode cX9_isRule 29 = .ok (.putfield 37, 3) := by decide +kernel
theorem dX9_isRule_32 : decode cX9_isRule 32 = .ok (.aload_n 0, 1) := by decide +kernel
theorem dX9_isRule_33 : decode cX9_isRule 33 = .ok (.invokevirtual 28, 3) := by decide +kernel
theorem dX9_isRule_36 : decode cX9_isRule 36 = .ok (.aload_n 0, 1) := by decide +kernel
theorem dX9_isRule_37 : decode cX9_isRule 37 = .ok (.iconst 0, 1) := by decide +kernel
theorem dX9_isRule_38 : decode cX9_isRule 38 = .ok (.iconst 0, 1) := by decide +kernel
theorem dX9_isRule_39 : decode cX9_isRule 39 = .ok (.invokevirtual 40, 3) := by decide +kernel
theorem dX9_isRule_42 : decode cX9_isRule 42 = .ok (.ifCond .ne 5, 3) := by decide +kernel
theorem dX9_isRule_45 : decode cX9_isRule 45 = .ok (.iconst 0, 1) := by decide +kernel
theorem dX9_isRule_46 : decode cX9_isRule 46 = .ok (.ireturn, 1) := by decide +kernel
theorem dX9_isRule_47 : decode cX9_isRule 47 = .ok (.aload_n 0, 1) := by decide +kernel
theorem dX9_isRule_48 : decode cX9_isRule 48 = .ok (.aload_n 0, 1) := by decide +kernel
theorem dX9_isRule_49 : decode cX9_isRule 49 = .ok (.getfield 25, 3) := by decide +kernel
theorem dX9_isRule_52 : decode cX9_isRule 52 = .ok (.putfield 44, 3) := by decide +kernel
theorem dX9_isRule_55 : decode cX9_isRule 55 = .ok (.aload_n 0, 1) := by decide +kernel
theorem dX9_isRule_56 : decode cX9_isRule 56 = .ok (.getfield 31, 3) := by decide +kernel
theorem dX9_isRule_59 : decode cX9_isRule 59 = .ok (.iconst 4, 1) := by decide +kernel
theorem dX9_isRule_60 : decode cX9_isRule 60 = .ok (.if_icmp .ne 18, 3) := by decide +kernel
theorem dX9_isRule_63 : decode cX9_isRule 63 = .ok (.aload_n 0, 1) := by decide +kernel
theorem dX9_isRule_64 : decode cX9_isRule 64 = .ok (.invokevirtual 28, 3) := by decide +kernel
theorem dX9_isRule_67 : decode cX9_isRule 67 = .ok (.aload_n 0, 1) := by decide +kernel
theorem dX9_isRule_68 : decode cX9_isRule 68 = .ok (.iconst 0, 1) := by decide +kernel
theorem dX9_isRule_69 : decode cX9_isRule 69 = .ok (.iconst 0, 1) := by decide +kernel
theorem dX9_isRule_70 : decode cX9_isRule 70 = .ok (.invokevirtual 40, 3) := by decide +kernel
theorem dX9_isRule_73 : decode cX9_isRule 73 = .ok (.ifCond .ne 5, 3) := by decide +kernel
theorem dX9_isRule_76 : decode cX9_isRule 76 = .ok (.iconst 0, 1) := by decide +kernel
theorem dX9_isRule_77 : decode cX9_isRule 77 = .ok (.ireturn, 1) := by decide +kernel
theorem dX9_isRule_78 : decode cX9_isRule 78 = .ok (.aload_n 0, 1) := by decide +kernel
theorem dX9_isRule_79 : decode cX9_isRule 79 = .ok (.getfield 31, 3) := by decide +kernel
theorem dX9_isRule_82 : decode cX9_isRule 82 = .ok (.bipush 8, 2) := by decide +kernel
theorem dX9_isRule_84 : decode cX9_isRule 84 = .ok (.if_icmp .ne 7, 3) := by decide +kernel
theorem dX9_isRule_87 : decode cX9_isRule 87 = .ok (.iconst 1, 1) := by decide +kernel
theorem dX9_isRule_88 : decode cX9_isRule 88 = .ok (.goto 4, 3) := by decide +kernel
theorem dX9_isRule_91 : decode cX9_isRule 91 = .ok (.iconst 0, 1) := by decide +kernel
theorem dX9_isRule_92 : decode cX9_isRule 92 = .ok (.ireturn, 1) := by decide +kernel
theorem dX9_fault_0 : decode cX9_fault 0 = .ok (.aload_n 0, 1) := by decide +kernel
theorem dX9_fault_1 : decode cX9_fault 1 = .ok (.getfield 47, 3) := by decide +kernel
theorem dX9_fault_4 : decode cX9_fault 4 = .ok (.ireturn, 1) := by decide +kernel
theorem dX9_readLevel_0 : decode cX9_readLevel 0 = .ok (.iload_n 1, 1) := by decide +kernel
theorem dX9_readLevel_1 : decode cX9_readLevel 1 = .ok (.iconst 5, 1) := by decide +kernel
theorem dX9_readLevel_2 : decode cX9_readLevel 2 = .ok (.if_icmp .lt 9, 3) := by decide +kernel
theorem dX9_readLevel_5 : decode cX9_readLevel 5 = .ok (.aload_n 0, 1) := by decide +kernel
theorem dX9_readLevel_6 : decode cX9_readLevel 6 = .ok (.iload_n 2, 1) := by decide +kernel
theorem dX9_readLevel_7 : decode cX9_readLevel 7 = .ok (.invokevirtual 50, 3) := by decide +kernel
theorem dX9_readLevel_10 : decode cX9_readLevel 10 = .ok (.ireturn, 1) := by decide +kernel
theorem dX9_readLevel_11 : decode cX9_readLevel 11 = .ok (.iload_n 1, 1) := by decide +kernel
theorem dX9_readLevel_12 : decode cX9_readLevel 12 = .ok (.iconst 2, 1) := by decide +kernel
theorem dX9_readLevel_13 : decode cX9_readLevel 13 = .ok (.if_icmp .ne 21, 3) := by decide +kernel
theorem dX9_readLevel_16 : decode cX9_readLevel 16 = .ok (.aload_n 0, 1) := by decide +kernel
theorem dX9_readLevel_17 : decode cX9_readLevel 17 = .ok (.getfield 31, 3) := by decide +kernel
theorem dX9_readLevel_20 : decode cX9_readLevel 20 = .ok (.bipush 7, 2) := by decide +kernel
theorem dX9_readLevel_22 : decode cX9_readLevel 22 = .ok (.if_icmp .ne 12, 3) := by decide +kernel
theorem dX9_readLevel_25 : decode cX9_readLevel 25 = .ok (.aload_n 0, 1) := by decide +kernel
theorem dX9_readLevel_26 : decode cX9_readLevel 26 = .ok (.iconst 2, 1) := by decide +kernel
theorem dX9_readLevel_27 : decode cX9_readLevel 27 = .ok (.iload_n 2, 1) := by decide +kernel
theorem dX9_readLevel_28 : decode cX9_readLevel 28 = .ok (.bipush (-20), 2) := by decide +kernel
theorem dX9_readLevel_30 : decode cX9_readLevel 30 = .ok (.invokevirtual 56, 3) := by decide +kernel
theorem dX9_readLevel_33 : decode cX9_readLevel 33 = .ok (.ireturn, 1) := by decide +kernel
theorem dX9_readLevel_34 : decode cX9_readLevel 34 = .ok (.aload_n 0, 1) := by decide +kernel
theorem dX9_readLevel_35 : decode cX9_readLevel 35 = .ok (.iload_n 1, 1) := by decide +kernel
theorem dX9_readLevel_36 : decode cX9_readLevel 36 = .ok (.iconst 1, 1) := by decide +kernel
theorem dX9_readLevel_37 : decode cX9_readLevel 37 = .ok (.iadd, 1) := by decide +kernel
theorem dX9_readLevel_38 : decode cX9_readLevel 38 = .ok (.iload_n 2, 1) := by decide +kernel
theorem dX9_readLevel_39 : decode cX9_readLevel 39 = .ok (.invokevirtual 40, 3) := by decide +kernel
theorem dX9_readLevel_42 : decode cX9_readLevel 42 = .ok (.istore_n 3, 1) := by decide +kernel
theorem dX9_readLevel_43 : decode cX9_readLevel 43 = .ok (.iload_n 1, 1) := by decide +kernel
theorem dX9_readLevel_44 : decode cX9_readLevel 44 = .ok (.iconst 2, 1) := by decide +kernel
theorem dX9_readLevel_45 : decode cX9_readLevel 45 = .ok (.if_icmp .ne 7, 3) := by decide +kernel
theorem dX9_readLevel_48 : decode cX9_readLevel 48 = .ok (.iconst 1, 1) := by decide +kernel
theorem dX9_readLevel_49 : decode cX9_readLevel 49 = .ok (.goto 5, 3) := by decide +kernel
theorem dX9_readLevel_52 : decode cX9_readLevel 52 = .ok (.bipush 120, 2) := by decide +kernel
theorem dX9_readLevel_54 : decode cX9_readLevel 54 = .ok (.istore 4, 2) := by decide +kernel
theorem dX9_readLevel_56 : decode cX9_readLevel 56 = .ok (.iconst 0, 1) := by decide +kernel
theorem dX9_readLevel_57 : decode cX9_readLevel 57 = .ok (.istore 5, 2) := by decide +kernel
theorem dX9_readLevel_59 : decode cX9_readLevel 59 = .ok (.iload 5, 2) := by decide +kernel
theorem dX9_readLevel_61 : decode cX9_readLevel 61 = .ok (.iload 4, 2) := by decide +kernel
theorem dX9_readLevel_63 : decode cX9_readLevel 63 = .ok (.if_icmp .ge 49, 3) := by decide +kernel
theorem dX9_readLevel_66 : decode cX9_readLevel 66 = .ok (.iload_n 3, 1) := by decide +kernel
theorem dX9_readLevel_67 : decode cX9_readLevel 67 = .ok (.ifCond .eq 45, 3) := by decide +kernel
theorem dX9_readLevel_70 : decode cX9_readLevel 70 = .ok (.aload_n 0, 1) := by decide +kernel
theorem dX9_readLevel_71 : decode cX9_readLevel 71 = .ok (.iload_n 1, 1) := by decide +kernel
theorem dX9_readLevel_72 : decode cX9_readLevel 72 = .ok (.invokevirtual 60, 3) := by decide +kernel
theorem dX9_readLevel_75 : decode cX9_readLevel 75 = .ok (.ifCond .eq 37, 3) := by decide +kernel
theorem dX9_readLevel_78 : decode cX9_readLevel 78 = .ok (.aload_n 0, 1) := by decide +kernel
theorem dX9_readLevel_79 : decode cX9_readLevel 79 = .ok (.getfield 31, 3) := by decide +kernel
theorem dX9_readLevel_82 : decode cX9_readLevel 82 = .ok (.istore 6, 2) := by decide +kernel
theorem dX9_readLevel_84 : decode cX9_readLevel 84 = .ok (.aload_n 0, 1) := by decide +kernel
theorem dX9_readLevel_85 : decode cX9_readLevel 85 = .ok (.invokevirtual 28, 3) := by decide +kernel
theorem dX9_readLevel_88 : decode cX9_readLevel 88 = .ok (.aload_n 0, 1) := by decide +kernel
theorem dX9_readLevel_89 : decode cX9_readLevel 89 = .ok (.iload_n 1, 1) := by decide +kernel
theorem dX9_readLevel_90 : decode cX9_readLevel 90 = .ok (.iconst 1, 1) := by decide +kernel
theorem dX9_readLevel_91 : decode cX9_readLevel 91 = .ok (.iadd, 1) := by decide +kernel
theorem dX9_readLevel_92 : decode cX9_readLevel 92 = .ok (.iload_n 2, 1) := by decide +kernel
theorem dX9_readLevel_93 : decode cX9_readLevel 93 = .ok (.invokevirtual 40, 3) := by decide +kernel
theorem dX9_readLevel_96 : decode cX9_readLevel 96 = .ok (.istore_n 3, 1) := by decide +kernel
theorem dX9_readLevel_97 : decode cX9_readLevel 97 = .ok (.aload_n 0, 1) := by decide +kernel
theorem dX9_readLevel_98 : decode cX9_readLevel 98 = .ok (.bipush (-100), 2) := by decide +kernel
theorem dX9_readLevel_100 : decode cX9_readLevel 100 = .ok (.iload 6, 2) := by decide +kernel
theorem dX9_readLevel_102 : decode cX9_readLevel 102 = .ok (.isub, 1) := by decide +kernel
theorem dX9_readLevel_103 : decode cX9_readLevel 103 = .ok (.invokevirtual 63, 3) := by decide +kernel
theorem dX9_readLevel_106 : decode cX9_readLevel 106 = .ok (.iinc 5 1, 3) := by decide +kernel
theorem dX9_readLevel_109 : decode cX9_readLevel 109 = .ok (.goto (-50), 3) := by decide +kernel
theorem dX9_readLevel_112 : decode cX9_readLevel 112 = .ok (.iload_n 3, 1) := by decide +kernel
theorem dX9_readLevel_113 : decode cX9_readLevel 113 = .ok (.ireturn, 1) := by decide +kernel
theorem dX9_joins_0 : decode cX9_joins 0 = .ok (.iload_n 1, 1) := by decide +kernel
theorem dX9_joins_1 : decode cX9_joins 1 = .ok (.tableswitch 117 0 3 #[31, 45, 60, 93], 31) := by decide +kernel
theorem dX9_joins_32 : decode cX9_joins 32 = .ok (.aload_n 0, 1) := by decide +kernel
theorem dX9_joins_33 : decode cX9_joins 33 = .ok (.getfield 31, 3) := by decide +kernel
theorem dX9_joins_36 : decode cX9_joins 36 = .ok (.iconst 5, 1) := by decide +kernel
theorem dX9_joins_37 : decode cX9_joins 37 = .ok (.if_icmp .ne 7, 3) := by decide +kernel
theorem dX9_joins_40 : decode cX9_joins 40 = .ok (.iconst 1, 1) := by decide +kernel
theorem dX9_joins_41 : decode cX9_joins 41 = .ok (.goto 4, 3) := by decide +kernel
theorem dX9_joins_44 : decode cX9_joins 44 = .ok (.iconst 0, 1) := by decide +kernel
theorem dX9_joins_45 : decode cX9_joins 45 = .ok (.ireturn, 1) := by decide +kernel
theorem dX9_joins_46 : decode cX9_joins 46 = .ok (.aload_n 0, 1) := by decide +kernel
theorem dX9_joins_47 : decode cX9_joins 47 = .ok (.getfield 31, 3) := by decide +kernel
theorem dX9_joins_50 : decode cX9_joins 50 = .ok (.bipush 6, 2) := by decide +kernel
theorem dX9_joins_52 : decode cX9_joins 52 = .ok (.if_icmp .ne 7, 3) := by decide +kernel
theorem dX9_joins_55 : decode cX9_joins 55 = .ok (.iconst 1, 1) := by decide +kernel
theorem dX9_joins_56 : decode cX9_joins 56 = .ok (.goto 4, 3) := by decide +kernel
theorem dX9_joins_59 : decode cX9_joins 59 = .ok (.iconst 0, 1) := by decide +kernel
theorem dX9_joins_60 : decode cX9_joins 60 = .ok (.ireturn, 1) := by decide +kernel
theorem dX9_joins_61 : decode cX9_joins 61 = .ok (.aload_n 0, 1) := by decide +kernel
theorem dX9_joins_62 : decode cX9_joins 62 = .ok (.getfield 31, 3) := by decide +kernel
theorem dX9_joins_65 : decode cX9_joins 65 = .ok (.bipush 61, 2) := by decide +kernel
theorem dX9_joins_67 : decode cX9_joins 67 = .ok (.if_icmp .eq 21, 3) := by decide +kernel
theorem dX9_joins_70 : decode cX9_joins 70 = .ok (.aload_n 0, 1) := by decide +kernel
theorem dX9_joins_71 : decode cX9_joins 71 = .ok (.getfield 31, 3) := by decide +kernel
theorem dX9_joins_74 : decode cX9_joins 74 = .ok (.bipush 60, 2) := by decide +kernel
theorem dX9_joins_76 : decode cX9_joins 76 = .ok (.if_icmp .eq 12, 3) := by decide +kernel
theorem dX9_joins_79 : decode cX9_joins 79 = .ok (.aload_n 0, 1) := by decide +kernel
theorem dX9_joins_80 : decode cX9_joins 80 = .ok (.getfield 31, 3) := by decide +kernel
theorem dX9_joins_83 : decode cX9_joins 83 = .ok (.bipush 62, 2) := by decide +kernel
theorem dX9_joins_85 : decode cX9_joins 85 = .ok (.if_icmp .ne 7, 3) := by decide +kernel
theorem dX9_joins_88 : decode cX9_joins 88 = .ok (.iconst 1, 1) := by decide +kernel
theorem dX9_joins_89 : decode cX9_joins 89 = .ok (.goto 4, 3) := by decide +kernel
theorem dX9_joins_92 : decode cX9_joins 92 = .ok (.iconst 0, 1) := by decide +kernel
theorem dX9_joins_93 : decode cX9_joins 93 = .ok (.ireturn, 1) := by decide +kernel
theorem dX9_joins_94 : decode cX9_joins 94 = .ok (.aload_n 0, 1) := by decide +kernel
theorem dX9_joins_95 : decode cX9_joins 95 = .ok (.getfield 31, 3) := by decide +kernel
theorem dX9_joins_98 : decode cX9_joins 98 = .ok (.bipush 43, 2) := by decide +kernel
theorem dX9_joins_100 : decode cX9_joins 100 = .ok (.if_icmp .eq 12, 3) := by decide +kernel
theorem dX9_joins_103 : decode cX9_joins 103 = .ok (.aload_n 0, 1) := by decide +kernel
theorem dX9_joins_104 : decode cX9_joins 104 = .ok (.getfield 31, 3) := by decide +kernel
theorem dX9_joins_107 : decode cX9_joins 107 = .ok (.bipush 45, 2) := by decide +kernel
theorem dX9_joins_109 : decode cX9_joins 109 = .ok (.if_icmp .ne 7, 3) := by decide +kernel
theorem dX9_joins_112 : decode cX9_joins 112 = .ok (.iconst 1, 1) := by decide +kernel
theorem dX9_joins_113 : decode cX9_joins 113 = .ok (.goto 4, 3) := by decide +kernel
theorem dX9_joins_116 : decode cX9_joins 116 = .ok (.iconst 0, 1) := by decide +kernel
theorem dX9_joins_117 : decode cX9_joins 117 = .ok (.ireturn, 1) := by decide +kernel
theorem dX9_joins_118 : decode cX9_joins 118 = .ok (.aload_n 0, 1) := by decide +kernel
theorem dX9_joins_119 : decode cX9_joins 119 = .ok (.getfield 31, 3) := by decide +kernel
theorem dX9_joins_122 : decode cX9_joins 122 = .ok (.bipush 42, 2) := by decide +kernel
theorem dX9_joins_124 : decode cX9_joins 124 = .ok (.if_icmp .eq 21, 3) := by decide +kernel
theorem dX9_joins_127 : decode cX9_joins 127 = .ok (.aload_n 0, 1) := by decide +kernel
theorem dX9_joins_128 : decode cX9_joins 128 = .ok (.getfield 31, 3) := by decide +kernel
theorem dX9_joins_131 : decode cX9_joins 131 = .ok (.bipush 47, 2) := by decide +kernel
theorem dX9_joins_133 : decode cX9_joins 133 = .ok (.if_icmp .eq 12, 3) := by decide +kernel
theorem dX9_joins_136 : decode cX9_joins 136 = .ok (.aload_n 0, 1) := by decide +kernel
theorem dX9_joins_137 : decode cX9_joins 137 = .ok (.getfield 31, 3) := by decide +kernel
theorem dX9_joins_140 : decode cX9_joins 140 = .ok (.bipush 37, 2) := by decide +kernel
theorem dX9_joins_142 : decode cX9_joins 142 = .ok (.if_icmp .ne 7, 3) := by decide +kernel
theorem dX9_joins_145 : decode cX9_joins 145 = .ok (.iconst 1, 1) := by decide +kernel
theorem dX9_joins_146 : decode cX9_joins 146 = .ok (.goto 4, 3) := by decide +kernel
theorem dX9_joins_149 : decode cX9_joins 149 = .ok (.iconst 0, 1) := by decide +kernel
theorem dX9_joins_150 : decode cX9_joins 150 = .ok (.ireturn, 1) := by decide +kernel
theorem dX9_readOpened_0 : decode cX9_readOpened 0 = .ok (.iload_n 2, 1) := by decide +kernel
theorem dX9_readOpened_1 : decode cX9_readOpened 1 = .ok (.bipush 6, 2) := by decide +kernel
theorem dX9_readOpened_3 : decode cX9_readOpened 3 = .ok (.if_icmp .lt 5, 3) := by decide +kernel
theorem dX9_readOpened_6 : decode cX9_readOpened 6 = .ok (.iconst 0, 1) := by decide +kernel
theorem dX9_readOpened_7 : decode cX9_readOpened 7 = .ok (.ireturn, 1) := by decide +kernel
theorem dX9_readOpened_8 : decode cX9_readOpened 8 = .ok (.aload_n 0, 1) := by decide +kernel
theorem dX9_readOpened_9 : decode cX9_readOpened 9 = .ok (.invokevirtual 28, 3) := by decide +kernel
theorem dX9_readOpened_12 : decode cX9_readOpened 12 = .ok (.aload_n 0, 1) := by decide +kernel
theorem dX9_readOpened_13 : decode cX9_readOpened 13 = .ok (.iload_n 1, 1) := by decide +kernel
theorem dX9_readOpened_14 : decode cX9_readOpened 14 = .ok (.iload_n 2, 1) := by decide +kernel
theorem dX9_readOpened_15 : decode cX9_readOpened 15 = .ok (.iconst 1, 1) := by decide +kernel
theorem dX9_readOpened_16 : decode cX9_readOpened 16 = .ok (.iadd, 1) := by decide +kernel
theorem dX9_readOpened_17 : decode cX9_readOpened 17 = .ok (.invokevirtual 40, 3) := by decide +kernel
theorem dX9_readOpened_20 : decode cX9_readOpened 20 = .ok (.istore 4, 2) := by decide +kernel
theorem dX9_readOpened_22 : decode cX9_readOpened 22 = .ok (.aload_n 0, 1) := by decide +kernel
theorem dX9_readOpened_23 : decode cX9_readOpened 23 = .ok (.iload_n 3, 1) := by decide +kernel
theorem dX9_readOpened_24 : decode cX9_readOpened 24 = .ok (.invokevirtual 63, 3) := by decide +kernel
theorem dX9_readOpened_27 : decode cX9_readOpened 27 = .ok (.iload 4, 2) := by decide +kernel
theorem dX9_readOpened_29 : decode cX9_readOpened 29 = .ok (.ireturn, 1) := by decide +kernel
theorem dX9_readOne_0 : decode cX9_readOne 0 = .ok (.aload_n 0, 1) := by decide +kernel
theorem dX9_readOne_1 : decode cX9_readOne 1 = .ok (.getfield 31, 3) := by decide +kernel
theorem dX9_readOne_4 : decode cX9_readOne 4 = .ok (.iconst 3, 1) := by decide +kernel
theorem dX9_readOne_5 : decode cX9_readOne 5 = .ok (.if_icmp .eq 11, 3) := by decide +kernel
theorem dX9_readOne_8 : decode cX9_readOne 8 = .ok (.aload_n 0, 1) := by decide +kernel
theorem dX9_readOne_9 : decode cX9_readOne 9 = .ok (.getfield 31, 3) := by decide +kernel
theorem dX9_readOne_12 : decode cX9_readOne 12 = .ok (.iconst 2, 1) := by decide +kernel
theorem dX9_readOne_13 : decode cX9_readOne 13 = .ok (.if_icmp .ne 34, 3) := by decide +kernel
theorem dX9_readOne_16 : decode cX9_readOne 16 = .ok (.aload_n 0, 1) := by decide +kernel
theorem dX9_readOne_17 : decode cX9_readOne 17 = .ok (.aload_n 0, 1) := by decide +kernel
theorem dX9_readOne_18 : decode cX9_readOne 18 = .ok (.getfield 31, 3) := by decide +kernel
theorem dX9_readOne_21 : decode cX9_readOne 21 = .ok (.iconst 3, 1) := by decide +kernel
theorem dX9_readOne_22 : decode cX9_readOne 22 = .ok (.if_icmp .ne 10, 3) := by decide +kernel
theorem dX9_readOne_25 : decode cX9_readOne 25 = .ok (.aload_n 0, 1) := by decide +kernel
theorem dX9_readOne_26 : decode cX9_readOne 26 = .ok (.getfield 34, 3) := by decide +kernel
theorem dX9_readOne_29 : decode cX9_readOne 29 = .ok (.goto 9, 3) := by decide +kernel
theorem dX9_readOne_32 : decode cX9_readOne 32 = .ok (.iconst (-1), 1) := by decide +kernel
theorem dX9_readOne_33 : decode cX9_readOne 33 = .ok (.aload_n 0, 1) := by decide +kernel
theorem dX9_readOne_34 : decode cX9_readOne 34 = .ok (.getfield 34, 3) := by decide +kernel
theorem dX9_readOne_37 : decode cX9_readOne 37 = .ok (.isub, 1) := by decide +kernel
theorem dX9_readOne_38 : decode cX9_readOne 38 = .ok (.invokevirtual 63, 3) := by decide +kernel
theorem dX9_readOne_41 : decode cX9_readOne 41 = .ok (.aload_n 0, 1) := by decide +kernel
theorem dX9_readOne_42 : decode cX9_readOne 42 = .ok (.invokevirtual 28, 3) := by decide +kernel
theorem dX9_readOne_45 : decode cX9_readOne 45 = .ok (.iconst 1, 1) := by decide +kernel
theorem dX9_readOne_46 : decode cX9_readOne 46 = .ok (.ireturn, 1) := by decide +kernel
theorem dX9_readOne_47 : decode cX9_readOne 47 = .ok (.aload_n 0, 1) := by decide +kernel
theorem dX9_readOne_48 : decode cX9_readOne 48 = .ok (.getfield 31, 3) := by decide +kernel
theorem dX9_readOne_51 : decode cX9_readOne 51 = .ok (.bipush 45, 2) := by decide +kernel
theorem dX9_readOne_53 : decode cX9_readOne 53 = .ok (.if_icmp .ne 12, 3) := by decide +kernel
theorem dX9_readOne_56 : decode cX9_readOne 56 = .ok (.aload_n 0, 1) := by decide +kernel
theorem dX9_readOne_57 : decode cX9_readOne 57 = .ok (.iconst 5, 1) := by decide +kernel
theorem dX9_readOne_58 : decode cX9_readOne 58 = .ok (.iload_n 1, 1) := by decide +kernel
theorem dX9_readOne_59 : decode cX9_readOne 59 = .ok (.bipush (-21), 2) := by decide +kernel
theorem dX9_readOne_61 : decode cX9_readOne 61 = .ok (.invokevirtual 56, 3) := by decide +kernel
theorem dX9_readOne_64 : decode cX9_readOne 64 = .ok (.ireturn, 1) := by decide +kernel
theorem dX9_readOne_65 : decode cX9_readOne 65 = .ok (.aload_n 0, 1) := by decide +kernel
theorem dX9_readOne_66 : decode cX9_readOne 66 = .ok (.getfield 31, 3) := by decide +kernel
theorem dX9_readOne_69 : decode cX9_readOne 69 = .ok (.bipush 40, 2) := by decide +kernel
theorem dX9_readOne_71 : decode cX9_readOne 71 = .ok (.if_icmp .ne 9, 3) := by decide +kernel
theorem dX9_readOne_74 : decode cX9_readOne 74 = .ok (.iload_n 1, 1) := by decide +kernel
theorem dX9_readOne_75 : decode cX9_readOne 75 = .ok (.bipush 6, 2) := by decide +kernel
theorem dX9_readOne_77 : decode cX9_readOne 77 = .ok (.if_icmp .lt 5, 3) := by decide +kernel
theorem dX9_readOne_80 : decode cX9_readOne 80 = .ok (.iconst 0, 1) := by decide +kernel
theorem dX9_readOne_81 : decode cX9_readOne 81 = .ok (.ireturn, 1) := by decide +kernel
theorem dX9_readOne_82 : decode cX9_readOne 82 = .ok (.aload_n 0, 1) := by decide +kernel
theorem dX9_readOne_83 : decode cX9_readOne 83 = .ok (.invokevirtual 28, 3) := by decide +kernel
theorem dX9_readOne_86 : decode cX9_readOne 86 = .ok (.aload_n 0, 1) := by decide +kernel
theorem dX9_readOne_87 : decode cX9_readOne 87 = .ok (.iconst 0, 1) := by decide +kernel
theorem dX9_readOne_88 : decode cX9_readOne 88 = .ok (.iload_n 1, 1) := by decide +kernel
theorem dX9_readOne_89 : decode cX9_readOne 89 = .ok (.iconst 1, 1) := by decide +kernel
theorem dX9_readOne_90 : decode cX9_readOne 90 = .ok (.iadd, 1) := by decide +kernel
theorem dX9_readOne_91 : decode cX9_readOne 91 = .ok (.invokevirtual 40, 3) := by decide +kernel
theorem dX9_readOne_94 : decode cX9_readOne 94 = .ok (.ifCond .eq 12, 3) := by decide +kernel
theorem dX9_readOne_97 : decode cX9_readOne 97 = .ok (.aload_n 0, 1) := by decide +kernel
theorem dX9_readOne_98 : decode cX9_readOne 98 = .ok (.getfield 31, 3) := by decide +kernel
theorem dX9_readOne_101 : decode cX9_readOne 101 = .ok (.bipush 41, 2) := by decide +kernel
theorem dX9_readOne_103 : decode cX9_readOne 103 = .ok (.if_icmp .eq 5, 3) := by decide +kernel
theorem dX9_readOne_106 : decode cX9_readOne 106 = .ok (.iconst 0, 1) := by decide +kernel
theorem dX9_readOne_107 : decode cX9_readOne 107 = .ok (.ireturn, 1) := by decide +kernel
theorem dX9_readOne_108 : decode cX9_readOne 108 = .ok (.aload_n 0, 1) := by decide +kernel
theorem dX9_readOne_109 : decode cX9_readOne 109 = .ok (.invokevirtual 28, 3) := by decide +kernel
theorem dX9_readOne_112 : decode cX9_readOne 112 = .ok (.iconst 1, 1) := by decide +kernel
theorem dX9_readOne_113 : decode cX9_readOne 113 = .ok (.ireturn, 1) := by decide +kernel
theorem dX9_emit_0 : decode cX9_emit 0 = .ok (.aload_n 0, 1) := by decide +kernel
theorem dX9_emit_1 : decode cX9_emit 1 = .ok (.getfield 25, 3) := by decide +kernel
theorem dX9_emit_4 : decode cX9_emit 4 = .ok (.bipush 120, 2) := by decide +kernel
theorem dX9_emit_6 : decode cX9_emit 6 = .ok (.if_icmp .ge 23, 3) := by decide +kernel
theorem dX9_emit_9 : decode cX9_emit 9 = .ok (.aload_n 0, 1) := by decide +kernel
theorem dX9_emit_10 : decode cX9_emit 10 = .ok (.getfield 15, 3) := by decide +kernel
theorem dX9_emit_13 : decode cX9_emit 13 = .ok (.aload_n 0, 1) := by decide +kernel
theorem dX9_emit_14 : decode cX9_emit 14 = .ok (.getfield 25, 3) := by decide +kernel
theorem dX9_emit_17 : decode cX9_emit 17 = .ok (.iload_n 1, 1) := by decide +kernel
theorem dX9_emit_18 : decode cX9_emit 18 = .ok (.iastore, 1) := by decide +kernel
theorem dX9_emit_19 : decode cX9_emit 19 = .ok (.aload_n 0, 1) := by decide +kernel
theorem dX9_emit_20 : decode cX9_emit 20 = .ok (.dup, 1) := by decide +kernel
theorem dX9_emit_21 : decode cX9_emit 21 = .ok (.getfield 25, 3) := by decide +kernel
theorem dX9_emit_24 : decode cX9_emit 24 = .ok (.iconst 1, 1) := by decide +kernel
theorem dX9_emit_25 : decode cX9_emit 25 = .ok (.iadd, 1) := by decide +kernel
theorem dX9_emit_26 : decode cX9_emit 26 = .ok (.putfield 25, 3) := by decide +kernel
theorem dX9_emit_29 : decode cX9_emit 29 = .ok (.return_, 1) := by decide +kernel
theorem dX9_byteAt_0 : decode cX9_byteAt 0 = .ok (.iload_n 1, 1) := by decide +kernel
theorem dX9_byteAt_1 : decode cX9_byteAt 1 = .ok (.ifCond .lt 26, 3) := by decide +kernel
theorem dX9_byteAt_4 : decode cX9_byteAt 4 = .ok (.iload_n 1, 1) := by decide +kernel
theorem dX9_byteAt_5 : decode cX9_byteAt 5 = .ok (.aload_n 0, 1) := by decide +kernel
theorem dX9_byteAt_6 : decode cX9_byteAt 6 = .ok (.getfield 18, 3) := by decide +kernel
theorem dX9_byteAt_9 : decode cX9_byteAt 9 = .ok (.if_icmp .ge 18, 3) := by decide +kernel
theorem dX9_byteAt_12 : decode cX9_byteAt 12 = .ok (.iload_n 1, 1) := by decide +kernel
theorem dX9_byteAt_13 : decode cX9_byteAt 13 = .ok (.bipush 120, 2) := by decide +kernel
theorem dX9_byteAt_15 : decode cX9_byteAt 15 = .ok (.if_icmp .ge 12, 3) := by decide +kernel
theorem dX9_byteAt_18 : decode cX9_byteAt 18 = .ok (.aload_n 0, 1) := by decide +kernel
theorem dX9_byteAt_19 : decode cX9_byteAt 19 = .ok (.getfield 9, 3) := by decide +kernel
theorem dX9_byteAt_22 : decode cX9_byteAt 22 = .ok (.iload_n 1, 1) := by decide +kernel
theorem dX9_byteAt_23 : decode cX9_byteAt 23 = .ok (.iaload, 1) := by decide +kernel
theorem dX9_byteAt_24 : decode cX9_byteAt 24 = .ok (.goto 4, 3) := by decide +kernel
theorem dX9_byteAt_27 : decode cX9_byteAt 27 = .ok (.iconst 0, 1) := by decide +kernel
theorem dX9_byteAt_28 : decode cX9_byteAt 28 = .ok (.ireturn, 1) := by decide +kernel
theorem dX9_takeToken_0 : decode cX9_takeToken 0 = .ok (.iconst 0, 1) := by decide +kernel
theorem dX9_takeToken_1 : decode cX9_takeToken 1 = .ok (.istore_n 1, 1) := by decide +kernel
theorem dX9_takeToken_2 : decode cX9_takeToken 2 = .ok (.iload_n 1, 1) := by decide +kernel
theorem dX9_takeToken_3 : decode cX9_takeToken 3 = .ok (.bipush 120, 2) := by decide +kernel
theorem dX9_takeToken_5 : decode cX9_takeToken 5 = .ok (.if_icmp .ge 32, 3) := by decide +kernel
theorem dX9_takeToken_8 : decode cX9_takeToken 8 = .ok (.aload_n 0, 1) := by decide +kernel
theorem dX9_takeToken_9 : decode cX9_takeToken 9 = .ok (.aload_n 0, 1) := by decide +kernel
theorem dX9_takeToken_10 : decode cX9_takeToken 10 = .ok (.getfield 22, 3) := by decide +kernel
theorem dX9_takeToken_13 : decode cX9_takeToken 13 = .ok (.invokevirtual 67, 3) := by decide +kernel
theorem dX9_takeToken_16 : decode cX9_takeToken 16 = .ok (.bipush 32, 2) := by decide +kernel
theorem dX9_takeToken_18 : decode cX9_takeToken 18 = .ok (.if_icmp .ne 19, 3) := by decide +kernel
theorem dX9_takeToken_21 : decode cX9_takeToken 21 = .ok (.aload_n 0, 1) := by decide +kernel
theorem dX9_takeToken_22 : decode cX9_takeToken 22 = .ok (.dup, 1) := by decide +kernel
theorem dX9_takeToken_23 : decode cX9_takeToken 23 = .ok (.getfield 22, 3) := by decide +kernel
theorem dX9_takeToken_26 : decode cX9_takeToken 26 = .ok (.iconst 1, 1) := by decide +kernel
theorem dX9_takeToken_27 : decode cX9_takeToken 27 = .ok (.iadd, 1) := by decide +kernel
theorem dX9_takeToken_28 : decode cX9_takeToken 28 = .ok (.putfield 22, 3) := by decide +kernel
theorem dX9_takeToken_31 : decode cX9_takeToken 31 = .ok (.iinc 1 1, 3) := by decide +kernel
theorem dX9_takeToken_34 : decode cX9_takeToken 34 = .ok (.goto (-32), 3) := by decide +kernel
theorem dX9_takeToken_37 : decode cX9_takeToken 37 = .ok (.aload_n 0, 1) := by decide +kernel
theorem dX9_takeToken_38 : decode cX9_takeToken 38 = .ok (.aload_n 0, 1) := by decide +kernel
theorem dX9_takeToken_39 : decode cX9_takeToken 39 = .ok (.getfield 22, 3) := by decide +kernel
theorem dX9_takeToken_42 : decode cX9_takeToken 42 = .ok (.putfield 47, 3) := by decide +kernel
theorem dX9_takeToken_45 : decode cX9_takeToken 45 = .ok (.aload_n 0, 1) := by decide +kernel
theorem dX9_takeToken_46 : decode cX9_takeToken 46 = .ok (.aload_n 0, 1) := by decide +kernel
theorem dX9_takeToken_47 : decode cX9_takeToken 47 = .ok (.getfield 47, 3) := by decide +kernel
theorem dX9_takeToken_50 : decode cX9_takeToken 50 = .ok (.invokevirtual 67, 3) := by decide +kernel
theorem dX9_takeToken_53 : decode cX9_takeToken 53 = .ok (.istore_n 1, 1) := by decide +kernel
theorem dX9_takeToken_54 : decode cX9_takeToken 54 = .ok (.aload_n 0, 1) := by decide +kernel
theorem dX9_takeToken_55 : decode cX9_takeToken 55 = .ok (.getfield 47, 3) := by decide +kernel
theorem dX9_takeToken_58 : decode cX9_takeToken 58 = .ok (.aload_n 0, 1) := by decide +kernel
theorem dX9_takeToken_59 : decode cX9_takeToken 59 = .ok (.getfield 18, 3) := by decide +kernel
theorem dX9_takeToken_62 : decode cX9_takeToken 62 = .ok (.if_icmp .lt 12, 3) := by decide +kernel
theorem dX9_takeToken_65 : decode cX9_takeToken 65 = .ok (.aload_n 0, 1) := by decide +kernel
theorem dX9_takeToken_66 : decode cX9_takeToken 66 = .ok (.bipush 8, 2) := by decide +kernel
theorem dX9_takeToken_68 : decode cX9_takeToken 68 = .ok (.putfield 31, 3) := by decide +kernel
theorem dX9_takeToken_71 : decode cX9_takeToken 71 = .ok (.goto 76, 3) := by decide +kernel
theorem dX9_takeToken_74 : decode cX9_takeToken 74 = .ok (.iload_n 1, 1) := by decide +kernel
theorem dX9_takeToken_75 : decode cX9_takeToken 75 = .ok (.bipush 97, 2) := by decide +kernel
theorem dX9_takeToken_77 : decode cX9_takeToken 77 = .ok (.if_icmp .lt 24, 3) := by decide +kernel
theorem dX9_takeToken_80 : decode cX9_takeToken 80 = .ok (.iload_n 1, 1) := by decide +kernel
theorem dX9_takeToken_81 : decode cX9_takeToken 81 = .ok (.bipush 122, 2) := by decide +kernel
theorem dX9_takeToken_83 : decode cX9_takeToken 83 = .ok (.if_icmp .gt 18, 3) := by decide +kernel
theorem dX9_takeToken_86 : decode cX9_takeToken 86 = .ok (.aload_n 0, 1) := by decide +kernel
theorem dX9_takeToken_87 : decode cX9_takeToken 87 = .ok (.invokevirtual 71, 3) := by decide +kernel
theorem dX9_takeToken_90 : decode cX9_takeToken 90 = .ok (.aload_n 0, 1) := by decide +kernel
theorem dX9_takeToken_91 : decode cX9_takeToken 91 = .ok (.aload_n 0, 1) := by decide +kernel
theorem dX9_takeToken_92 : decode cX9_takeToken 92 = .ok (.invokevirtual 74, 3) := by decide +kernel
theorem dX9_takeToken_95 : decode cX9_takeToken 95 = .ok (.invokevirtual 78, 3) := by decide +kernel
theorem dX9_takeToken_98 : decode cX9_takeToken 98 = .ok (.goto 49, 3) := by decide +kernel
theorem dX9_takeToken_101 : decode cX9_takeToken 101 = .ok (.iload_n 1, 1) := by decide +kernel
theorem dX9_takeToken_102 : decode cX9_takeToken 102 = .ok (.bipush 48, 2) := by decide +kernel
theorem dX9_takeToken_104 : decode cX9_takeToken 104 = .ok (.if_icmp .lt 16, 3) := by decide +kernel
theorem dX9_takeToken_107 : decode cX9_takeToken 107 = .ok (.iload_n 1, 1) := by decide +kernel
theorem dX9_takeToken_108 : decode cX9_takeToken 108 = .ok (.bipush 57, 2) := by decide +kernel
theorem dX9_takeToken_110 : decode cX9_takeToken 110 = .ok (.if_icmp .gt 10, 3) := by decide +kernel
theorem dX9_takeToken_113 : decode cX9_takeToken 113 = .ok (.aload_n 0, 1) := by decide +kernel
theorem dX9_takeToken_114 : decode cX9_takeToken 114 = .ok (.invokevirtual 81, 3) := by decide +kernel
theorem dX9_takeToken_117 : decode cX9_takeToken 117 = .ok (.goto 30, 3) := by decide +kernel
theorem dX9_takeToken_120 : decode cX9_takeToken 120 = .ok (.aload_n 0, 1) := by decide +kernel
theorem dX9_takeToken_121 : decode cX9_takeToken 121 = .ok (.iload_n 1, 1) := by decide +kernel
theorem dX9_takeToken_122 : decode cX9_takeToken 122 = .ok (.invokestatic 84, 3) := by decide +kernel
theorem dX9_takeToken_125 : decode cX9_takeToken 125 = .ok (.ifCond .eq 7, 3) := by decide +kernel
theorem dX9_takeToken_128 : decode cX9_takeToken 128 = .ok (.iload_n 1, 1) := by decide +kernel
theorem dX9_takeToken_129 : decode cX9_takeToken 129 = .ok (.goto 5, 3) := by decide +kernel
theorem dX9_takeToken_132 : decode cX9_takeToken 132 = .ok (.bipush 9, 2) := by decide +kernel
theorem dX9_takeToken_134 : decode cX9_takeToken 134 = .ok (.putfield 31, 3) := by decide +kernel
theorem dX9_takeToken_137 : decode cX9_takeToken 137 = .ok (.aload_n 0, 1) := by decide +kernel
theorem dX9_takeToken_138 : decode cX9_takeToken 138 = .ok (.dup, 1) := by decide +kernel
theorem dX9_takeToken_139 : decode cX9_takeToken 139 = .ok (.getfield 22, 3) := by decide +kernel
theorem dX9_takeToken_142 : decode cX9_takeToken 142 = .ok (.iconst 1, 1) := by decide +kernel
theorem dX9_takeToken_143 : decode cX9_takeToken 143 = .ok (.iadd, 1) := by decide +kernel
theorem dX9_takeToken_144 : decode cX9_takeToken 144 = .ok (.putfield 22, 3) := by decide +kernel
theorem dX9_takeToken_147 : decode cX9_takeToken 147 = .ok (.return_, 1) := by decide +kernel
theorem dX9_isSign_0 : decode cX9_isSign 0 = .ok (.iload_n 0, 1) := by decide +kernel
theorem dX9_isSign_1 : decode cX9_isSign 1 = .ok (.bipush 40, 2) := by decide +kernel
theorem dX9_isSign_3 : decode cX9_isSign 3 = .ok (.if_icmp .eq 57, 3) := by decide +kernel
theorem dX9_isSign_6 : decode cX9_isSign 6 = .ok (.iload_n 0, 1) := by decide +kernel
theorem dX9_isSign_7 : decode cX9_isSign 7 = .ok (.bipush 41, 2) := by decide +kernel
theorem dX9_isSign_9 : decode cX9_isSign 9 = .ok (.if_icmp .eq 51, 3) := by decide +kernel
theorem dX9_isSign_12 : decode cX9_isSign 12 = .ok (.iload_n 0, 1) := by decide +kernel
theorem dX9_isSign_13 : decode cX9_isSign 13 = .ok (.bipush 43, 2) := by decide +kernel
theorem dX9_isSign_15 : decode cX9_isSign 15 = .ok (.if_icmp .eq 45, 3) := by decide +kernel
theorem dX9_isSign_18 : decode cX9_isSign 18 = .ok (.iload_n 0, 1) := by decide +kernel
theorem dX9_isSign_19 : decode cX9_isSign 19 = .ok (.bipush 45, 2) := by decide +kernel
theorem dX9_isSign_21 : decode cX9_isSign 21 = .ok (.if_icmp .eq 39, 3) := by decide +kernel
theorem dX9_isSign_24 : decode cX9_isSign 24 = .ok (.iload_n 0, 1) := by decide +kernel
theorem dX9_isSign_25 : decode cX9_isSign 25 = .ok (.bipush 42, 2) := by decide +kernel
theorem dX9_isSign_27 : decode cX9_isSign 27 = .ok (.if_icmp .eq 33, 3) := by decide +kernel
theorem dX9_isSign_30 : decode cX9_isSign 30 = .ok (.iload_n 0, 1) := by decide +kernel
theorem dX9_isSign_31 : decode cX9_isSign 31 = .ok (.bipush 47, 2) := by decide +kernel
theorem dX9_isSign_33 : decode cX9_isSign 33 = .ok (.if_icmp .eq 27, 3) := by decide +kernel
theorem dX9_isSign_36 : decode cX9_isSign 36 = .ok (.iload_n 0, 1) := by decide +kernel
theorem dX9_isSign_37 : decode cX9_isSign 37 = .ok (.bipush 37, 2) := by decide +kernel
theorem dX9_isSign_39 : decode cX9_isSign 39 = .ok (.if_icmp .eq 21, 3) := by decide +kernel
theorem dX9_isSign_42 : decode cX9_isSign 42 = .ok (.iload_n 0, 1) := by decide +kernel
theorem dX9_isSign_43 : decode cX9_isSign 43 = .ok (.bipush 61, 2) := by decide +kernel
theorem dX9_isSign_45 : decode cX9_isSign 45 = .ok (.if_icmp .eq 15, 3) := by decide +kernel
theorem dX9_isSign_48 : decode cX9_isSign 48 = .ok (.iload_n 0, 1) := by decide +kernel
theorem dX9_isSign_49 : decode cX9_isSign 49 = .ok (.bipush 60, 2) := by decide +kernel
theorem dX9_isSign_51 : decode cX9_isSign 51 = .ok (.if_icmp .eq 9, 3) := by decide +kernel
theorem dX9_isSign_54 : decode cX9_isSign 54 = .ok (.iload_n 0, 1) := by decide +kernel
theorem dX9_isSign_55 : decode cX9_isSign 55 = .ok (.bipush 62, 2) := by decide +kernel
theorem dX9_isSign_57 : decode cX9_isSign 57 = .ok (.if_icmp .ne 7, 3) := by decide +kernel
theorem dX9_isSign_60 : decode cX9_isSign 60 = .ok (.iconst 1, 1) := by decide +kernel
theorem dX9_isSign_61 : decode cX9_isSign 61 = .ok (.goto 4, 3) := by decide +kernel
theorem dX9_isSign_64 : decode cX9_isSign 64 = .ok (.iconst 0, 1) := by decide +kernel
theorem dX9_isSign_65 : decode cX9_isSign 65 = .ok (.ireturn, 1) := by decide +kernel
theorem dX9_takeNumber_0 : decode cX9_takeNumber 0 = .ok (.aload_n 0, 1) := by decide +kernel
theorem dX9_takeNumber_1 : decode cX9_takeNumber 1 = .ok (.iconst 0, 1) := by decide +kernel
theorem dX9_takeNumber_2 : decode cX9_takeNumber 2 = .ok (.putfield 34, 3) := by decide +kernel
theorem dX9_takeNumber_5 : decode cX9_takeNumber 5 = .ok (.iconst 0, 1) := by decide +kernel
theorem dX9_takeNumber_6 : decode cX9_takeNumber 6 = .ok (.istore_n 1, 1) := by decide +kernel
theorem dX9_takeNumber_7 : decode cX9_takeNumber 7 = .ok (.iload_n 1, 1) := by decide +kernel
theorem dX9_takeNumber_8 : decode cX9_takeNumber 8 = .ok (.bipush 120, 2) := by decide +kernel
theorem dX9_takeNumber_10 : decode cX9_takeNumber 10 = .ok (.if_icmp .ge 68, 3) := by decide +kernel
theorem dX9_takeNumber_13 : decode cX9_takeNumber 13 = .ok (.aload_n 0, 1) := by decide +kernel
theorem dX9_takeNumber_14 : decode cX9_takeNumber 14 = .ok (.aload_n 0, 1) := by decide +kernel
theorem dX9_takeNumber_15 : decode cX9_takeNumber 15 = .ok (.getfield 22, 3) := by decide +kernel
theorem dX9_takeNumber_18 : decode cX9_takeNumber 18 = .ok (.invokevirtual 67, 3) := by decide +kernel
theorem dX9_takeNumber_21 : decode cX9_takeNumber 21 = .ok (.bipush 48, 2) := by decide +kernel
theorem dX9_takeNumber_23 : decode cX9_takeNumber 23 = .ok (.if_icmp .lt 55, 3) := by decide +kernel
theorem dX9_takeNumber_26 : decode cX9_takeNumber 26 = .ok (.aload_n 0, 1) := by decide +kernel
theorem dX9_takeNumber_27 : decode cX9_takeNumber 27 = .ok (.aload_n 0, 1) := by decide +kernel
theorem dX9_takeNumber_28 : decode cX9_takeNumber 28 = .ok (.getfield 22, 3) := by decide +kernel
theorem dX9_takeNumber_31 : decode cX9_takeNumber 31 = .ok (.invokevirtual 67, 3) := by decide +kernel
theorem dX9_takeNumber_34 : decode cX9_takeNumber 34 = .ok (.bipush 57, 2) := by decide +kernel
theorem dX9_takeNumber_36 : decode cX9_takeNumber 36 = .ok (.if_icmp .gt 42, 3) := by decide +kernel
theorem dX9_takeNumber_39 : decode cX9_takeNumber 39 = .ok (.aload_n 0, 1) := by decide +kernel
theorem dX9_takeNumber_40 : decode cX9_takeNumber 40 = .ok (.aload_n 0, 1) := by decide +kernel
theorem dX9_takeNumber_41 : decode cX9_takeNumber 41 = .ok (.getfield 34, 3) := by decide +kernel
theorem dX9_takeNumber_44 : decode cX9_takeNumber 44 = .ok (.bipush 10, 2) := by decide +kernel
theorem dX9_takeNumber_46 : decode cX9_takeNumber 46 = .ok (.imul, 1) := by decide +kernel
theorem dX9_takeNumber_47 : decode cX9_takeNumber 47 = .ok (.aload_n 0, 1) := by decide +kernel
theorem dX9_takeNumber_48 : decode cX9_takeNumber 48 = .ok (.aload_n 0, 1) := by decide +kernel
theorem dX9_takeNumber_49 : decode cX9_takeNumber 49 = .ok (.getfield 22, 3) := by decide +kernel
theorem dX9_takeNumber_52 : decode cX9_takeNumber 52 = .ok (.invokevirtual 67, 3) := by decide +kernel
theorem dX9_takeNumber_55 : decode cX9_takeNumber 55 = .ok (.iadd, 1) := by decide +kernel
theorem dX9_takeNumber_56 : decode cX9_takeNumber 56 = .ok (.bipush 48, 2) := by decide +kernel
theorem dX9_takeNumber_58 : decode cX9_takeNumber 58 = .ok (.isub, 1) := by decide +kernel
theorem dX9_takeNumber_59 : decode cX9_takeNumber 59 = .ok (.putfield 34, 3) := by decide +kernel
theorem dX9_takeNumber_62 : decode cX9_takeNumber 62 = .ok (.aload_n 0, 1) := by decide +kernel
theorem dX9_takeNumber_63 : decode cX9_takeNumber 63 = .ok (.dup, 1) := by decide +kernel
theorem dX9_takeNumber_64 : decode cX9_takeNumber 64 = .ok (.getfield 22, 3) := by decide +kernel
theorem dX9_takeNumber_67 : decode cX9_takeNumber 67 = .ok (.iconst 1, 1) := by decide +kernel
theorem dX9_takeNumber_68 : decode cX9_takeNumber 68 = .ok (.iadd, 1) := by decide +kernel
theorem dX9_takeNumber_69 : decode cX9_takeNumber 69 = .ok (.putfield 22, 3) := by decide +kernel
theorem dX9_takeNumber_72 : decode cX9_takeNumber 72 = .ok (.iinc 1 1, 3) := by decide +kernel
theorem dX9_takeNumber_75 : decode cX9_takeNumber 75 = .ok (.goto (-68), 3) := by decide +kernel
theorem dX9_takeNumber_78 : decode cX9_takeNumber 78 = .ok (.aload_n 0, 1) := by decide +kernel
theorem dX9_takeNumber_79 : decode cX9_takeNumber 79 = .ok (.aload_n 0, 1) := by decide +kernel
theorem dX9_takeNumber_80 : decode cX9_takeNumber 80 = .ok (.getfield 22, 3) := by decide +kernel
theorem dX9_takeNumber_83 : decode cX9_takeNumber 83 = .ok (.aload_n 0, 1) := by decide +kernel
theorem dX9_takeNumber_84 : decode cX9_takeNumber 84 = .ok (.getfield 47, 3) := by decide +kernel
theorem dX9_takeNumber_87 : decode cX9_takeNumber 87 = .ok (.isub, 1) := by decide +kernel
theorem dX9_takeNumber_88 : decode cX9_takeNumber 88 = .ok (.iconst 5, 1) := by decide +kernel
theorem dX9_takeNumber_89 : decode cX9_takeNumber 89 = .ok (.if_icmp .le 8, 3) := by decide +kernel
theorem dX9_takeNumber_92 : decode cX9_takeNumber 92 = .ok (.bipush 9, 2) := by decide +kernel
theorem dX9_takeNumber_94 : decode cX9_takeNumber 94 = .ok (.goto 4, 3) := by decide +kernel
theorem dX9_takeNumber_97 : decode cX9_takeNumber 97 = .ok (.iconst 3, 1) := by decide +kernel
theorem dX9_takeNumber_98 : decode cX9_takeNumber 98 = .ok (.putfield 31, 3) := by decide +kernel
theorem dX9_takeNumber_101 : decode cX9_takeNumber 101 = .ok (.return_, 1) := by decide +kernel
theorem dX9_skipLetters_0 : decode cX9_skipLetters 0 = .ok (.iconst 0, 1) := by decide +kernel
theorem dX9_skipLetters_1 : decode cX9_skipLetters 1 = .ok (.istore_n 1, 1) := by decide +kernel
theorem dX9_skipLetters_2 : decode cX9_skipLetters 2 = .ok (.iload_n 1, 1) := by decide +kernel
theorem dX9_skipLetters_3 : decode cX9_skipLetters 3 = .ok (.bipush 120, 2) := by decide +kernel
theorem dX9_skipLetters_5 : decode cX9_skipLetters 5 = .ok (.if_icmp .ge 45, 3) := by decide +kernel
theorem dX9_skipLetters_8 : decode cX9_skipLetters 8 = .ok (.aload_n 0, 1) := by decide +kernel
theorem dX9_skipLetters_9 : decode cX9_skipLetters 9 = .ok (.aload_n 0, 1) := by decide +kernel
theorem dX9_skipLetters_10 : decode cX9_skipLetters 10 = .ok (.getfield 22, 3) := by decide +kernel
theorem dX9_skipLetters_13 : decode cX9_skipLetters 13 = .ok (.invokevirtual 67, 3) := by decide +kernel
theorem dX9_skipLetters_16 : decode cX9_skipLetters 16 = .ok (.bipush 97, 2) := by decide +kernel
theorem dX9_skipLetters_18 : decode cX9_skipLetters 18 = .ok (.if_icmp .lt 32, 3) := by decide +kernel
theorem dX9_skipLetters_21 : decode cX9_skipLetters 21 = .ok (.aload_n 0, 1) := by decide +kernel
theorem dX9_skipLetters_22 : decode cX9_skipLetters 22 = .ok (.aload_n 0, 1) := by decide +kernel
theorem dX9_skipLetters_23 : decode cX9_skipLetters 23 = .ok (.getfield 22, 3) := by decide +kernel
theorem dX9_skipLetters_26 : decode cX9_skipLetters 26 = .ok (.invokevirtual 67, 3) := by decide +kernel
theorem dX9_skipLetters_29 : decode cX9_skipLetters 29 = .ok (.bipush 122, 2) := by decide +kernel
theorem dX9_skipLetters_31 : decode cX9_skipLetters 31 = .ok (.if_icmp .gt 19, 3) := by decide +kernel
theorem dX9_skipLetters_34 : decode cX9_skipLetters 34 = .ok (.aload_n 0, 1) := by decide +kernel
theorem dX9_skipLetters_35 : decode cX9_skipLetters 35 = .ok (.dup, 1) := by decide +kernel
theorem dX9_skipLetters_36 : decode cX9_skipLetters 36 = .ok (.getfield 22, 3) := by decide +kernel
theorem dX9_skipLetters_39 : decode cX9_skipLetters 39 = .ok (.iconst 1, 1) := by decide +kernel
theorem dX9_skipLetters_40 : decode cX9_skipLetters 40 = .ok (.iadd, 1) := by decide +kernel
theorem dX9_skipLetters_41 : decode cX9_skipLetters 41 = .ok (.putfield 22, 3) := by decide +kernel
theorem dX9_skipLetters_44 : decode cX9_skipLetters 44 = .ok (.iinc 1 1, 3) := by decide +kernel
theorem dX9_skipLetters_47 : decode cX9_skipLetters 47 = .ok (.goto (-45), 3) := by decide +kernel
theorem dX9_skipLetters_50 : decode cX9_skipLetters 50 = .ok (.return_, 1) := by decide +kernel
theorem dX9_takeWord_0 : decode cX9_takeWord 0 = .ok (.iload_n 1, 1) := by decide +kernel
theorem dX9_takeWord_1 : decode cX9_takeWord 1 = .ok (.iconst (-1), 1) := by decide +kernel
theorem dX9_takeWord_2 : decode cX9_takeWord 2 = .ok (.if_icmp .ne 12, 3) := by decide +kernel
theorem dX9_takeWord_5 : decode cX9_takeWord 5 = .ok (.aload_n 0, 1) := by decide +kernel
theorem dX9_takeWord_6 : decode cX9_takeWord 6 = .ok (.bipush 9, 2) := by decide +kernel
theorem dX9_takeWord_8 : decode cX9_takeWord 8 = .ok (.putfield 31, 3) := by decide +kernel
theorem dX9_takeWord_11 : decode cX9_takeWord 11 = .ok (.goto 54, 3) := by decide +kernel
theorem dX9_takeWord_14 : decode cX9_takeWord 14 = .ok (.iload_n 1, 1) := by decide +kernel
theorem dX9_takeWord_15 : decode cX9_takeWord 15 = .ok (.bipush 6, 2) := by decide +kernel
theorem dX9_takeWord_17 : decode cX9_takeWord 17 = .ok (.if_icmp .ge 16, 3) := by decide +kernel
theorem dX9_takeWord_20 : decode cX9_takeWord 20 = .ok (.aload_n 0, 1) := by decide +kernel
theorem dX9_takeWord_21 : decode cX9_takeWord 21 = .ok (.iconst 1, 1) := by decide +kernel
theorem dX9_takeWord_22 : decode cX9_takeWord 22 = .ok (.putfield 31, 3) := by decide +kernel
theorem dX9_takeWord_25 : decode cX9_takeWord 25 = .ok (.aload_n 0, 1) := by decide +kernel
theorem dX9_takeWord_26 : decode cX9_takeWord 26 = .ok (.iload_n 1, 1) := by decide +kernel
theorem dX9_takeWord_27 : decode cX9_takeWord 27 = .ok (.putfield 34, 3) := by decide +kernel
theorem dX9_takeWord_30 : decode cX9_takeWord 30 = .ok (.goto 35, 3) := by decide +kernel
theorem dX9_takeWord_33 : decode cX9_takeWord 33 = .ok (.iload_n 1, 1) := by decide +kernel
theorem dX9_takeWord_34 : decode cX9_takeWord 34 = .ok (.bipush 16, 2) := by decide +kernel
theorem dX9_takeWord_36 : decode cX9_takeWord 36 = .ok (.if_icmp .ge 19, 3) := by decide +kernel
theorem dX9_takeWord_39 : decode cX9_takeWord 39 = .ok (.aload_n 0, 1) := by decide +kernel
theorem dX9_takeWord_40 : decode cX9_takeWord 40 = .ok (.iconst 2, 1) := by decide +kernel
theorem dX9_takeWord_41 : decode cX9_takeWord 41 = .ok (.putfield 31, 3) := by decide +kernel
theorem dX9_takeWord_44 : decode cX9_takeWord 44 = .ok (.aload_n 0, 1) := by decide +kernel
theorem dX9_takeWord_45 : decode cX9_takeWord 45 = .ok (.iload_n 1, 1) := by decide +kernel
theorem dX9_takeWord_46 : decode cX9_takeWord 46 = .ok (.bipush 6, 2) := by decide +kernel
theorem dX9_takeWord_48 : decode cX9_takeWord 48 = .ok (.isub, 1) := by decide +kernel
theorem dX9_takeWord_49 : decode cX9_takeWord 49 = .ok (.putfield 34, 3) := by decide +kernel
theorem dX9_takeWord_52 : decode cX9_takeWord 52 = .ok (.goto 13, 3) := by decide +kernel
theorem dX9_takeWord_55 : decode cX9_takeWord 55 = .ok (.aload_n 0, 1) := by decide +kernel
theorem dX9_takeWord_56 : decode cX9_takeWord 56 = .ok (.iconst 4, 1) := by decide +kernel
theorem dX9_takeWord_57 : decode cX9_takeWord 57 = .ok (.iload_n 1, 1) := by decide +kernel
theorem dX9_takeWord_58 : decode cX9_takeWord 58 = .ok (.iadd, 1) := by decide +kernel
theorem dX9_takeWord_59 : decode cX9_takeWord 59 = .ok (.bipush 16, 2) := by decide +kernel
theorem dX9_takeWord_61 : decode cX9_takeWord 61 = .ok (.isub, 1) := by decide +kernel
theorem dX9_takeWord_62 : decode cX9_takeWord 62 = .ok (.putfield 31, 3) := by decide +kernel
theorem dX9_takeWord_65 : decode cX9_takeWord 65 = .ok (.return_, 1) := by decide +kernel
theorem dX9_wordAtHand_0 : decode cX9_wordAtHand 0 = .ok (.iconst 0, 1) := by decide +kernel
theorem dX9_wordAtHand_1 : decode cX9_wordAtHand 1 = .ok (.istore_n 1, 1) := by decide +kernel
theorem dX9_wordAtHand_2 : decode cX9_wordAtHand 2 = .ok (.aload_n 0, 1) := by decide +kernel
theorem dX9_wordAtHand_3 : decode cX9_wordAtHand 3 = .ok (.getfield 47, 3) := by decide +kernel
theorem dX9_wordAtHand_6 : decode cX9_wordAtHand 6 = .ok (.istore_n 2, 1) := by decide +kernel
theorem dX9_wordAtHand_7 : decode cX9_wordAtHand 7 = .ok (.iconst 1, 1) := by decide +kernel
theorem dX9_wordAtHand_8 : decode cX9_wordAtHand 8 = .ok (.istore_n 3, 1) := by decide +kernel
theorem dX9_wordAtHand_9 : decode cX9_wordAtHand 9 = .ok (.iconst 0, 1) := by decide +kernel
theorem dX9_wordAtHand_10 : decode cX9_wordAtHand 10 = .ok (.istore 4, 2) := by decide +kernel
theorem dX9_wordAtHand_12 : decode cX9_wordAtHand 12 = .ok (.iload 4, 2) := by decide +kernel
theorem dX9_wordAtHand_14 : decode cX9_wordAtHand 14 = .ok (.ldc 87, 2) := by decide +kernel
theorem dX9_wordAtHand_16 : decode cX9_wordAtHand 16 = .ok (.invokevirtual 89, 3) := by decide +kernel
theorem dX9_wordAtHand_19 : decode cX9_wordAtHand 19 = .ok (.if_icmp .ge 90, 3) := by decide +kernel
theorem dX9_wordAtHand_22 : decode cX9_wordAtHand 22 = .ok (.ldc 87, 2) := by decide +kernel
theorem dX9_wordAtHand_24 : decode cX9_wordAtHand 24 = .ok (.iload 4, 2) := by decide +kernel
theorem dX9_wordAtHand_26 : decode cX9_wordAtHand 26 = .ok (.invokevirtual 94, 3) := by decide +kernel
theorem dX9_wordAtHand_29 : decode cX9_wordAtHand 29 = .ok (.istore 5, 2) := by decide +kernel
theorem dX9_wordAtHand_31 : decode cX9_wordAtHand 31 = .ok (.iload 5, 2) := by decide +kernel
theorem dX9_wordAtHand_33 : decode cX9_wordAtHand 33 = .ok (.bipush 32, 2) := by decide +kernel
theorem dX9_wordAtHand_35 : decode cX9_wordAtHand 35 = .ok (.if_icmp .eq 44, 3) := by decide +kernel
theorem dX9_wordAtHand_38 : decode cX9_wordAtHand 38 = .ok (.iload_n 3, 1) := by decide +kernel
theorem dX9_wordAtHand_39 : decode cX9_wordAtHand 39 = .ok (.ifCond .eq 32, 3) := by decide +kernel
theorem dX9_wordAtHand_42 : decode cX9_wordAtHand 42 = .ok (.iload_n 2, 1) := by decide +kernel
theorem dX9_wordAtHand_43 : decode cX9_wordAtHand 43 = .ok (.aload_n 0, 1) := by decide +kernel
theorem dX9_wordAtHand_44 : decode cX9_wordAtHand 44 = .ok (.getfield 22, 3) := by decide +kernel
theorem dX9_wordAtHand_47 : decode cX9_wordAtHand 47 = .ok (.if_icmp .ge 24, 3) := by decide +kernel
theorem dX9_wordAtHand_50 : decode cX9_wordAtHand 50 = .ok (.iload_n 2, 1) := by decide +kernel
theorem dX9_wordAtHand_51 : decode cX9_wordAtHand 51 = .ok (.bipush 120, 2) := by decide +kernel
theorem dX9_wordAtHand_53 : decode cX9_wordAtHand 53 = .ok (.if_icmp .ge 18, 3) := by decide +kernel
theorem dX9_wordAtHand_56 : decode cX9_wordAtHand 56 = .ok (.aload_n 0, 1) := by decide +kernel
theorem dX9_wordAtHand_57 : decode cX9_wordAtHand 57 = .ok (.getfield 9, 3) := by decide +kernel
theorem dX9_wordAtHand_60 : decode cX9_wordAtHand 60 = .ok (.iload_n 2, 1) := by decide +kernel
theorem dX9_wordAtHand_61 : decode cX9_wordAtHand 61 = .ok (.iaload, 1) := by decide +kernel
theorem dX9_wordAtHand_62 : decode cX9_wordAtHand 62 = .ok (.iload 5, 2) := by decide +kernel
theorem dX9_wordAtHand_64 : decode cX9_wordAtHand 64 = .ok (.if_icmp .ne 7, 3) := by decide +kernel
theorem dX9_wordAtHand_67 : decode cX9_wordAtHand 67 = .ok (.iconst 1, 1) := by decide +kernel
theorem dX9_wordAtHand_68 : decode cX9_wordAtHand 68 = .ok (.goto 4, 3) := by decide +kernel
theorem dX9_wordAtHand_71 : decode cX9_wordAtHand 71 = .ok (.iconst 0, 1) := by decide +kernel
theorem dX9_wordAtHand_72 : decode cX9_wordAtHand 72 = .ok (.istore_n 3, 1) := by decide +kernel
theorem dX9_wordAtHand_73 : decode cX9_wordAtHand 73 = .ok (.iinc 2 1, 3) := by decide +kernel
theorem dX9_wordAtHand_76 : decode cX9_wordAtHand 76 = .ok (.goto 27, 3) := by decide +kernel
theorem dX9_wordAtHand_79 : decode cX9_wordAtHand 79 = .ok (.iload_n 3, 1) := by decide +kernel
theorem dX9_wordAtHand_80 : decode cX9_wordAtHand 80 = .ok (.ifCond .eq 13, 3) := by decide +kernel
theorem dX9_wordAtHand_83 : decode cX9_wordAtHand 83 = .ok (.iload_n 2, 1) := by decide +kernel
theorem dX9_wordAtHand_84 : decode cX9_wordAtHand 84 = .ok (.aload_n 0, 1) := by decide +kernel
theorem dX9_wordAtHand_85 : decode cX9_wordAtHand 85 = .ok (.getfield 22, 3) := by decide +kernel
theorem dX9_wordAtHand_88 : decode cX9_wordAtHand 88 = .ok (.if_icmp .ne 5, 3) := by decide +kernel
theorem dX9_wordAtHand_91 : decode cX9_wordAtHand 91 = .ok (.iload_n 1, 1) := by decide +kernel
theorem dX9_wordAtHand_92 : decode cX9_wordAtHand 92 = .ok (.ireturn, 1) := by decide +kernel
theorem dX9_wordAtHand_93 : decode cX9_wordAtHand 93 = .ok (.iinc 1 1, 3) := by decide +kernel
theorem dX9_wordAtHand_96 : decode cX9_wordAtHand 96 = .ok (.aload_n 0, 1) := by decide +kernel
theorem dX9_wordAtHand_97 : decode cX9_wordAtHand 97 = .ok (.getfield 47, 3) := by decide +kernel
theorem dX9_wordAtHand_100 : decode cX9_wordAtHand 100 = .ok (.istore_n 2, 1) := by decide +kernel
theorem dX9_wordAtHand_101 : decode cX9_wordAtHand 101 = .ok (.iconst 1, 1) := by decide +kernel
theorem dX9_wordAtHand_102 : decode cX9_wordAtHand 102 = .ok (.istore_n 3, 1) := by decide +kernel
theorem dX9_wordAtHand_103 : decode cX9_wordAtHand 103 = .ok (.iinc 4 1, 3) := by decide +kernel
theorem dX9_wordAtHand_106 : decode cX9_wordAtHand 106 = .ok (.goto (-94), 3) := by decide +kernel
theorem dX9_wordAtHand_109 : decode cX9_wordAtHand 109 = .ok (.iconst (-1), 1) := by decide +kernel
theorem dX9_wordAtHand_110 : decode cX9_wordAtHand 110 = .ok (.ireturn, 1) := by decide +kernel
theorem dX10_init_0 : decode cX10_init 0 = .ok (.aload_n 0, 1) := by decide +kernel
theorem dX10_init_1 : decode cX10_init 1 = .ok (.invokespecial 1, 3) := by decide +kernel
theorem dX10_init_4 : decode cX10_init 4 = .ok (.aload_n 0, 1) := by decide +kernel
theorem dX10_init_5 : decode cX10_init 5 = .ok (.new 7, 3) := by decide +kernel
theorem dX10_init_8 : decode cX10_init 8 = .ok (.dup, 1) := by decide +kernel
theorem dX10_init_9 : decode cX10_init 9 = .ok (.invokespecial 9, 3) := by decide +kernel
theorem dX10_init_12 : decode cX10_init 12 = .ok (.putfield 10, 3) := by decide +kernel
theorem dX10_init_15 : decode cX10_init 15 = .ok (.aload_n 0, 1) := by decide +kernel
theorem dX10_init_16 : decode cX10_init 16 = .ok (.aconst_null, 1) := by decide +kernel
theorem dX10_init_17 : decode cX10_init 17 = .ok (.putfield 16, 3) := by decide +kernel
theorem dX10_init_20 : decode cX10_init 20 = .ok (.aload_n 0, 1) := by decide +kernel
theorem dX10_init_21 : decode cX10_init 21 = .ok (.new 19, 3) := by decide +kernel
theorem dX10_init_24 : decode cX10_init 24 = .ok (.dup, 1) := by decide +kernel
theorem dX10_init_25 : decode cX10_init 25 = .ok (.invokespecial 21, 3) := by decide +kernel
theorem dX10_init_28 : decode cX10_init 28 = .ok (.putfield 22, 3) := by decide +kernel
theorem dX10_init_31 : decode cX10_init 31 = .ok (.aload_n 0, 1) := by decide +kernel
theorem dX10_init_32 : decode cX10_init 32 = .ok (.new 26, 3) := by decide +kernel
theorem dX10_init_35 : decode cX10_init 35 = .ok (.dup, 1) := by decide +kernel
theorem dX10_init_36 : decode cX10_init 36 = .ok (.invokespecial 28, 3) := by decide +kernel
theorem dX10_init_39 : decode cX10_init 39 = .ok (.putfield 29, 3) := by decide +kernel
theorem dX10_init_42 : decode cX10_init 42 = .ok (.aload_n 0, 1) := by decide +kernel
theorem dX10_init_43 : decode cX10_init 43 = .ok (.new 33, 3) := by decide +kernel
theorem dX10_init_46 : decode cX10_init 46 = .ok (.dup, 1) := by decide +kernel
theorem dX10_init_47 : decode cX10_init 47 = .ok (.invokespecial 35, 3) := by decide +kernel
theorem dX10_init_50 : decode cX10_init 50 = .ok (.putfield 36, 3) := by decide +kernel
theorem dX10_init_53 : decode cX10_init 53 = .ok (.aload_n 0, 1) := by decide +kernel
theorem dX10_init_54 : decode cX10_init 54 = .ok (.new 40, 3) := by decide +kernel
theorem dX10_init_57 : decode cX10_init 57 = .ok (.dup, 1) := by decide +kernel
theorem dX10_init_58 : decode cX10_init 58 = .ok (.invokespecial 42, 3) := by decide +kernel
theorem dX10_init_61 : decode cX10_init 61 = .ok (.putfield 43, 3) := by decide +kernel
theorem dX10_init_64 : decode cX10_init 64 = .ok (.aload_n 0, 1) := by decide +kernel
theorem dX10_init_65 : decode cX10_init 65 = .ok (.new 47, 3) := by decide +kernel
theorem dX10_init_68 : decode cX10_init 68 = .ok (.dup, 1) := by decide +kernel
theorem dX10_init_69 : decode cX10_init 69 = .ok (.invokespecial 49, 3) := by decide +kernel
theorem dX10_init_72 : decode cX10_init 72 = .ok (.putfield 50, 3) := by decide +kernel
theorem dX10_init_75 : decode cX10_init 75 = .ok (.aload_n 0, 1) := by decide +kernel
theorem dX10_init_76 : decode cX10_init 76 = .ok (.bipush 60, 2) := by decide +kernel
theorem dX10_init_78 : decode cX10_init 78 = .ok (.newarray .int, 2) := by decide +kernel
theorem dX10_init_80 : decode cX10_init 80 = .ok (.putfield 54, 3) := by decide +kernel
theorem dX10_init_83 : decode cX10_init 83 = .ok (.aload_n 0, 1) := by decide +kernel
theorem dX10_init_84 : decode cX10_init 84 = .ok (.iconst (-1), 1) := by decide +kernel
theorem dX10_init_85 : decode cX10_init 85 = .ok (.putfield 58, 3) := by decide +kernel
theorem dX10_init_88 : decode cX10_init 88 = .ok (.aload_n 0, 1) := by decide +kernel
theorem dX10_init_89 : decode cX10_init 89 = .ok (.bipush 9, 2) := by decide +kernel
theorem dX10_init_91 : decode cX10_init 91 = .ok (.newarray .int, 2) := by decide +kernel
theorem dX10_init_93 : decode cX10_init 93 = .ok (.putfield 62, 3) := by decide +kernel
theorem dX10_init_96 : decode cX10_init 96 = .ok (.return_, 1) := by decide +kernel
theorem dX10_man_0 : decode cX10_man 0 = .ok (.iload_n 1, 1) := by decide +kernel
theorem dX10_man_1 : decode cX10_man 1 = .ok (.iconst 0, 1) := by decide +kernel
theorem dX10_man_2 : decode cX10_man 2 = .ok (.ldc 65, 2) := by decide +kernel
theorem dX10_man_4 : decode cX10_man 4 = .ok (.invokestatic 66, 3) := by decide +kernel
theorem dX10_man_7 : decode cX10_man 7 = .ok (.ifCond .eq 13, 3) := by decide +kernel
theorem dX10_man_10 : decode cX10_man 10 = .ok (.iload_n 2, 1) := by decide +kernel
theorem dX10_man_11 : decode cX10_man 11 = .ok (.iconst 0, 1) := by decide +kernel
theorem dX10_man_12 : decode cX10_man 12 = .ok (.bipush 99, 2) := by decide +kernel
theorem dX10_man_14 : decode cX10_man 14 = .ok (.invokestatic 66, 3) := by decide +kernel
theorem dX10_man_17 : decode cX10_man 17 = .ok (.ifCond .ne 10, 3) := by decide +kernel
theorem dX10_man_20 : decode cX10_man 20 = .ok (.aload_n 0, 1) := by decide +kernel
theorem dX10_man_21 : decode cX10_man 21 = .ok (.bipush (-7), 2) := by decide +kernel
theorem dX10_man_23 : decode cX10_man 23 = .ok (.invokevirtual 70, 3) := by decide +kernel
theorem dX10_man_26 : decode cX10_man 26 = .ok (.ireturn, 1) := by decide +kernel
theorem dX10_man_27 : decode cX10_man 27 = .ok (.aload_n 0, 1) := by decide +kernel
theorem dX10_man_28 : decode cX10_man 28 = .ok (.getfield 10, 3) := by decide +kernel
theorem dX10_man_31 : decode cX10_man 31 = .ok (.getfield 74, 3) := by decide +kernel
theorem dX10_man_34 : decode cX10_man 34 = .ok (.getfield 78, 3) := by decide +kernel
theorem dX10_man_37 : decode cX10_man 37 = .ok (.bipush 12, 2) := by decide +kernel
theorem dX10_man_39 : decode cX10_man 39 = .ok (.if_icmp .lt 10, 3) := by decide +kernel
theorem dX10_man_42 : decode cX10_man 42 = .ok (.aload_n 0, 1) := by decide +kernel
theorem dX10_man_43 : decode cX10_man 43 = .ok (.bipush (-8), 2) := by decide +kernel
theorem dX10_man_45 : decode cX10_man 45 = .ok (.invokevirtual 70, 3) := by decide +kernel
theorem dX10_man_48 : decode cX10_man 48 = .ok (.ireturn, 1) := by decide +kernel
theorem dX10_man_49 : decode cX10_man 49 = .ok (.aload_n 0, 1) := by decide +kernel
theorem dX10_man_50 : decode cX10_man 50 = .ok (.getfield 10, 3) := by decide +kernel
theorem dX10_man_53 : decode cX10_man 53 = .ok (.getfield 74, 3) := by decide +kernel
theorem dX10_man_56 : decode cX10_man 56 = .ok (.iload_n 1, 1) := by decide +kernel
theorem dX10_man_57 : decode cX10_man 57 = .ok (.iload_n 2, 1) := by decide +kernel
theorem dX10_man_58 : decode cX10_man 58 = .ok (.invokevirtual 83, 3) := by decide +kernel
theorem dX10_man_61 : decode cX10_man 61 = .ok (.ireturn, 1) := by decide +kernel
theorem dX10_stock_0 : decode cX10_stock 0 = .ok (.aload_n 0, 1) := by decide +kernel
theorem dX10_stock_1 : decode cX10_stock 1 = .ok (.getfield 10, 3) := by decide +kernel
theorem dX10_stock_4 : decode cX10_stock 4 = .ok (.getfield 87, 3) := by decide +kernel
theorem dX10_stock_7 : decode cX10_stock 7 = .ok (.iconst 5, 1) := by decide +kernel
theorem dX10_stock_8 : decode cX10_stock 8 = .ok (.if_icmp .lt 10, 3) := by decide +kernel
theorem dX10_stock_11 : decode cX10_stock 11 = .ok (.aload_n 0, 1) := by decide +kernel
theorem dX10_stock_12 : decode cX10_stock 12 = .ok (.bipush (-8), 2) := by decide +kernel
theorem dX10_stock_14 : decode cX10_stock 14 = .ok (.invokevirtual 70, 3) := by decide +kernel
theorem dX10_stock_17 : decode cX10_stock 17 = .ok (.ireturn, 1) := by decide +kernel
theorem dX10_stock_18 : decode cX10_stock 18 = .ok (.aload_n 0, 1) := by decide +kernel
theorem dX10_stock_19 : decode cX10_stock 19 = .ok (.getfield 10, 3) := by decide +kernel
theorem dX10_stock_22 : decode cX10_stock 22 = .ok (.dup, 1) := by decide +kernel
theorem dX10_stock_23 : decode cX10_stock 23 = .ok (.getfield 87, 3) := by decide +kernel
theorem dX10_stock_26 : decode cX10_stock 26 = .ok (.iconst 1, 1) := by decide +kernel
theorem dX10_stock_27 : decode cX10_stock 27 = .ok (.iadd, 1) := by decide +kernel
theorem dX10_stock_28 : decode cX10_stock 28 = .ok (.putfield 87, 3) := by decide +kernel
theorem dX10_stock_31 : decode cX10_stock 31 = .ok (.aload_n 0, 1) := by decide +kernel
theorem dX10_stock_32 : decode cX10_stock 32 = .ok (.getfield 10, 3) := by decide +kernel
theorem dX10_stock_35 : decode cX10_stock 35 = .ok (.getfield 87, 3) := by decide +kernel
theorem dX10_stock_38 : decode cX10_stock 38 = .ok (.iconst 1, 1) := by decide +kernel
theorem dX10_stock_39 : decode cX10_stock 39 = .ok (.isub, 1) := by decide +kernel
theorem dX10_stock_40 : decode cX10_stock 40 = .ok (.ireturn, 1) := by decide +kernel
theorem dX10_hold_0 : decode cX10_hold 0 = .ok (.aload_n 0, 1) := by decide +kernel
theorem dX10_hold_1 : decode cX10_hold 1 = .ok (.iload_n 1, 1) := by decide +kernel
theorem dX10_hold_2 : decode cX10_hold 2 = .ok (.invokevirtual 90, 3) := by decide +kernel
theorem dX10_hold_5 : decode cX10_hold 5 = .ok (.ifCond .eq 11, 3) := by decide +kernel
theorem dX10_hold_8 : decode cX10_hold 8 = .ok (.aload_n 0, 1) := by decide +kernel
theorem dX10_hold_9 : decode cX10_hold 9 = .ok (.iload_n 2, 1) := by decide +kernel
theorem dX10_hold_10 : decode cX10_hold 10 = .ok (.invokevirtual 94, 3) := by decide +kernel
theorem dX10_hold_13 : decode cX10_hold 13 = .ok (.ifCond .ne 10, 3) := by decide +kernel
theorem dX10_hold_16 : decode cX10_hold 16 = .ok (.aload_n 0, 1) := by decide +kernel
theorem dX10_hold_17 : decode cX10_hold 17 = .ok (.bipush (-3), 2) := by decide +kernel
theorem dX10_hold_19 : decode cX10_hold 19 = .ok (.invokevirtual 70, 3) := by decide +kernel
theorem dX10_hold_22 : decode cX10_hold 22 = .ok (.ireturn, 1) := by decide +kernel
theorem dX10_hold_23 : decode cX10_hold 23 = .ok (.iload_n 3, 1) := by decide +kernel
theorem dX10_hold_24 : decode cX10_hold 24 = .ok (.iconst 0, 1) := by decide +kernel
theorem dX10_hold_25 : decode cX10_hold 25 = .ok (.sipush 9999, 3) := by decide +kernel
theorem dX10_hold_28 : decode cX10_hold 28 = .ok (.invokestatic 66, 3) := by decide +kernel
theorem dX10_hold_31 : decode cX10_hold 31 = .ok (.ifCond .eq 17, 3) := by decide +kernel
theorem dX10_hold_34 : decode cX10_hold 34 = .ok (.aload_n 0, 1) := by decide +kernel
theorem dX10_hold_35 : decode cX10_hold 35 = .ok (.getfield 10, 3) := by decide +kernel
theorem dX10_hold_38 : decode cX10_hold 38 = .ok (.getfield 74, 3) := by decide +kernel
theorem dX10_hold_41 : decode cX10_hold 41 = .ok (.iload_n 1, 1) := by decide +kernel
theorem dX10_hold_42 : decode cX10_hold 42 = .ok (.invokevirtual 97, 3) := by decide +kernel
theorem dX10_hold_45 : decode cX10_hold 45 = .ok (.ifCond .ne 10, 3) := by decide +kernel
theorem dX10_hold_48 : decode cX10_hold 48 = .ok (.aload_n 0, 1) := by decide +kernel
theorem dX10_hold_49 : decode cX10_hold 49 = .ok (.bipush (-7), 2) := by decide +kernel
theorem dX10_hold_51 : decode cX10_hold 51 = .ok (.invokevirtual 70, 3) := by decide +kernel
theorem dX10_hold_54 : decode cX10_hold 54 = .ok (.ireturn, 1) := by decide +kernel
theorem dX10_hold_55 : decode cX10_hold 55 = .ok (.iload_n 1, 1) := by decide +kernel
theorem dX10_hold_56 : decode cX10_hold 56 = .ok (.iload_n 2, 1) := by decide +kernel
theorem dX10_hold_57 : decode cX10_hold 57 = .ok (.invokestatic 100, 3) := by decide +kernel
theorem dX10_hold_60 : decode cX10_hold 60 = .ok (.istore 4, 2) := by decide +kernel
theorem dX10_hold_62 : decode cX10_hold 62 = .ok (.aload_n 0, 1) := by decide +kernel
theorem dX10_hold_63 : decode cX10_hold 63 = .ok (.getfield 10, 3) := by decide +kernel
theorem dX10_hold_66 : decode cX10_hold 66 = .ok (.getfield 74, 3) := by decide +kernel
theorem dX10_hold_69 : decode cX10_hold 69 = .ok (.getfield 103, 3) := by decide +kernel
theorem dX10_hold_72 : decode cX10_hold 72 = .ok (.iload 4, 2) := by decide +kernel
theorem dX10_hold_74 : decode cX10_hold 74 = .ok (.dup2, 1) := by decide +kernel
theorem dX10_hold_75 : decode cX10_hold 75 = .ok (.iaload, 1) := by decide +kernel
theorem dX10_hold_76 : decode cX10_hold 76 = .ok (.iload_n 3, 1) := by decide +kernel
theorem dX10_hold_77 : decode cX10_hold 77 = .ok (.iadd, 1) := by decide +kernel
theorem dX10_hold_78 : decode cX10_hold 78 = .ok (.iastore, 1) := by decide +kernel
theorem dX10_hold_79 : decode cX10_hold 79 = .ok (.aload_n 0, 1) := by decide +kernel
theorem dX10_hold_80 : decode cX10_hold 80 = .ok (.getfield 10, 3) := by decide +kernel
theorem dX10_hold_83 : decode cX10_hold 83 = .ok (.getfield 74, 3) := by decide +kernel
theorem dX10_hold_86 : decode cX10_hold 86 = .ok (.getfield 103, 3) := by decide +kernel
theorem dX10_hold_89 : decode cX10_hold 89 = .ok (.iload 4, 2) := by decide +kernel
theorem dX10_hold_91 : decode cX10_hold 91 = .ok (.iaload, 1) := by decide +kernel
theorem dX10_hold_92 : decode cX10_hold 92 = .ok (.ireturn, 1) := by decide +kernel
theorem dX10_lend_0 : decode cX10_lend 0 = .ok (.aload_n 0, 1) := by decide +kernel
theorem dX10_lend_1 : decode cX10_lend 1 = .ok (.iload_n 1, 1) := by decide +kernel
theorem dX10_lend_2 : decode cX10_lend 2 = .ok (.invokevirtual 90, 3) := by decide +kernel
theorem dX10_lend_5 : decode cX10_lend 5 = .ok (.ifCond .ne 10, 3) := by decide +kernel
theorem dX10_lend_8 : decode cX10_lend 8 = .ok (.aload_n 0, 1) := by decide +kernel
theorem dX10_lend_9 : decode cX10_lend 9 = .ok (.bipush (-3), 2) := by decide +kernel
theorem dX10_lend_11 : decode cX10_lend 11 = .ok (.invokevirtual 70, 3) := by decide +kernel
theorem dX10_lend_14 : decode cX10_lend 14 = .ok (.ireturn, 1) := by decide +kernel
theorem dX10_lend_15 : decode cX10_lend 15 = .ok (.iload_n 2, 1) := by decide +kernel
theorem dX10_lend_16 : decode cX10_lend 16 = .ok (.iconst 0, 1) := by decide +kernel
theorem dX10_lend_17 : decode cX10_lend 17 = .ok (.ldc 65, 2) := by decide +kernel
theorem dX10_lend_19 : decode cX10_lend 19 = .ok (.invokestatic 66, 3) := by decide +kernel
theorem dX10_lend_22 : decode cX10_lend 22 = .ok (.ifCond .eq 17, 3) := by decide +kernel
theorem dX10_lend_25 : decode cX10_lend 25 = .ok (.aload_n 0, 1) := by decide +kernel
theorem dX10_lend_26 : decode cX10_lend 26 = .ok (.getfield 10, 3) := by decide +kernel
theorem dX10_lend_29 : decode cX10_lend 29 = .ok (.getfield 74, 3) := by decide +kernel
theorem dX10_lend_32 : decode cX10_lend 32 = .ok (.iload_n 1, 1) := by decide +kernel
theorem dX10_lend_33 : decode cX10_lend 33 = .ok (.invokevirtual 97, 3) := by decide +kernel
theorem dX10_lend_36 : decode cX10_lend 36 = .ok (.ifCond .ne 10, 3) := by decide +kernel
theorem dX10_lend_39 : decode cX10_lend 39 = .ok (.aload_n 0, 1) := by decide +kernel
theorem dX10_lend_40 : decode cX10_lend 40 = .ok (.bipush (-7), 2) := by decide +kernel
theorem dX10_lend_42 : decode cX10_lend 42 = .ok (.invokevirtual 70, 3) := by decide +kernel
theorem dX10_lend_45 : decode cX10_lend 45 = .ok (.ireturn, 1) := by decide +kernel
theorem dX10_lend_46 : decode cX10_lend 46 = .ok (.aload_n 0, 1) := by decide +kernel
theorem dX10_lend_47 : decode cX10_lend 47 = .ok (.getfield 10, 3) := by decide +kernel
theorem dX10_lend_50 : decode cX10_lend 50 = .ok (.getfield 74, 3) := by decide +kernel
theorem dX10_lend_53 : decode cX10_lend 53 = .ok (.getfield 106, 3) := by decide +kernel
theorem dX10_lend_56 : decode cX10_lend 56 = .ok (.iload_n 1, 1) := by decide +kernel
theorem dX10_lend_57 : decode cX10_lend 57 = .ok (.dup2, 1) := by decide +kernel
theorem dX10_lend_58 : decode cX10_lend 58 = .ok (.laload, 1) := by decide +kernel
theorem dX10_lend_59 : decode cX10_lend 59 = .ok (.iload_n 2, 1) := by decide +kernel
theorem dX10_lend_60 : decode cX10_lend 60 = .ok (.i2l, 1) := by decide +kernel
theorem dX10_lend_61 : decode cX10_lend 61 = .ok (.ladd, 1) := by decide +kernel
theorem dX10_lend_62 : decode cX10_lend 62 = .ok (.lastore, 1) := by decide +kernel
theorem dX10_lend_63 : decode cX10_lend 63 = .ok (.iconst 1, 1) := by decide +kernel
theorem dX10_lend_64 : decode cX10_lend 64 = .ok (.ireturn, 1) := by decide +kernel
theorem dX10_asks_0 : decode cX10_asks 0 = .ok (.aload_n 0, 1) := by decide +kernel
theorem dX10_asks_1 : decode cX10_asks 1 = .ok (.iload_n 1, 1) := by decide +kernel
theorem dX10_asks_2 : decode cX10_asks 2 = .ok (.invokevirtual 90, 3) := by decide +kernel
theorem dX10_asks_5 : decode cX10_asks 5 = .ok (.ifCond .eq 11, 3) := by decide +kernel
theorem dX10_asks_8 : decode cX10_asks 8 = .ok (.aload_n 0, 1) := by decide +kernel
theorem dX10_asks_9 : decode cX10_asks 9 = .ok (.iload_n 2, 1) := by decide +kernel
theorem dX10_asks_10 : decode cX10_asks 10 = .ok (.invokevirtual 94, 3) := by decide +kernel
theorem dX10_asks_13 : decode cX10_asks 13 = .ok (.ifCond .ne 10, 3) := by decide +kernel
theorem dX10_asks_16 : decode cX10_asks 16 = .ok (.aload_n 0, 1) := by decide +kernel
theorem dX10_asks_17 : decode cX10_asks 17 = .ok (.bipush (-3), 2) := by decide +kernel
theorem dX10_asks_19 : decode cX10_asks 19 = .ok (.invokevirtual 70, 3) := by decide +kernel
theorem dX10_asks_22 : decode cX10_asks 22 = .ok (.ireturn, 1) := by decide +kernel
theorem dX10_asks_23 : decode cX10_asks 23 = .ok (.iload_n 3, 1) := by decide +kernel
theorem dX10_asks_24 : decode cX10_asks 24 = .ok (.iconst 0, 1) := by decide +kernel
theorem dX10_asks_25 : decode cX10_asks 25 = .ok (.sipush 9999, 3) := by decide +kernel
theorem dX10_asks_28 : decode cX10_asks 28 = .ok (.invokestatic 66, 3) := by decide +kernel
theorem dX10_asks_31 : decode cX10_asks 31 = .ok (.ifCond .ne 10, 3) := by decide +kernel
theorem dX10_asks_34 : decode cX10_asks 34 = .ok (.aload_n 0, 1) := by decide +kernel
theorem dX10_asks_35 : decode cX10_asks 35 = .ok (.bipush (-7), 2) := by decide +kernel
theorem dX10_asks_37 : decode cX10_asks 37 = .ok (.invokevirtual 70, 3) := by decide +kernel
theorem dX10_asks_40 : decode cX10_asks 40 = .ok (.ireturn, 1) := by decide +kernel
theorem dX10_asks_41 : decode cX10_asks 41 = .ok (.iload_n 1, 1) := by decide +kernel
theorem dX10_asks_42 : decode cX10_asks 42 = .ok (.iload_n 2, 1) := by decide +kernel
theorem dX10_asks_43 : decode cX10_asks 43 = .ok (.invokestatic 100, 3) := by decide +kernel
theorem dX10_asks_46 : decode cX10_asks 46 = .ok (.istore 4, 2) := by decide +kernel
theorem dX10_asks_48 : decode cX10_asks 48 = .ok (.aload_n 0, 1) := by decide +kernel
theorem dX10_asks_49 : decode cX10_asks 49 = .ok (.getfield 10, 3) := by decide +kernel
theorem dX10_asks_52 : decode cX10_asks 52 = .ok (.getfield 74, 3) := by decide +kernel
theorem dX10_asks_55 : decode cX10_asks 55 = .ok (.getfield 110, 3) := by decide +kernel
theorem dX10_asks_58 : decode cX10_asks 58 = .ok (.iload 4, 2) := by decide +kernel
theorem dX10_asks_60 : decode cX10_asks 60 = .ok (.iaload, 1) := by decide +kernel
theorem dX10_asks_61 : decode cX10_asks 61 = .ok (.istore 5, 2) := by decide +kernel
theorem dX10_asks_63 : decode cX10_asks 63 = .ok (.aload_n 0, 1) := by decide +kernel
theorem dX10_asks_64 : decode cX10_asks 64 = .ok (.getfield 10, 3) := by decide +kernel
theorem dX10_asks_67 : decode cX10_asks 67 = .ok (.getfield 74, 3) := by decide +kernel
theorem dX10_asks_70 : decode cX10_asks 70 = .ok (.getfield 110, 3) := by decide +kernel
theorem dX10_asks_73 : decode cX10_asks 73 = .ok (.iload 4, 2) := by decide +kernel
theorem dX10_asks_75 : decode cX10_asks 75 = .ok (.iload_n 3, 1) := by decide +kernel
theorem dX10_asks_76 : decode cX10_asks 76 = .ok (.iastore, 1) := by decide +kernel
theorem dX10_asks_77 : decode cX10_asks 77 = .ok (.iload 5, 2) := by decide +kernel
theorem dX10_asks_79 : decode cX10_asks 79 = .ok (.ireturn, 1) := by decide +kernel
theorem dX10_look_0 : decode cX10_look 0 = .ok (.aload_n 0, 1) := by decide +kernel
theorem dX10_look_1 : decode cX10_look 1 = .ok (.iload_n 1, 1) := by decide +kernel
theorem dX10_look_2 : decode cX10_look 2 = .ok (.invokevirtual 90, 3) := by decide +kernel
theorem dX10_look_5 : decode cX10_look 5 = .ok (.ifCond .ne 10, 3) := by decide +kernel
theorem dX10_look_8 : decode cX10_look 8 = .ok (.aload_n 0, 1) := by decide +kernel
theorem dX10_look_9 : decode cX10_look 9 = .ok (.bipush (-3), 2) := by decide +kernel
theorem dX10_look_11 : decode cX10_look 11 = .ok (.invokevirtual 70, 3) := by decide +kernel
theorem dX10_look_14 : decode cX10_look 14 = .ok (.ireturn, 1) := by decide +kernel
theorem dX10_look_15 : decode cX10_look 15 = .ok (.iload_n 2, 1) := by decide +kernel
theorem dX10_look_16 : decode cX10_look 16 = .ok (.tableswitch 90 0 3 #[32, 52, 65, 78], 32) := by decide +kernel
theorem dX10_look_48 : decode cX10_look 48 = .ok (.aload_n 0, 1) := by decide +kernel
theorem dX10_look_49 : decode cX10_look 49 = .ok (.getfield 10, 3) := by decide +kernel
theorem dX10_look_52 : decode cX10_look 52 = .ok (.getfield 74, 3) := by decide +kernel
theorem dX10_look_55 : decode cX10_look 55 = .ok (.iload_n 1, 1) := by decide +kernel
theorem dX10_look_56 : decode cX10_look 56 = .ok (.invokevirtual 97, 3) := by decide +kernel
theorem dX10_look_59 : decode cX10_look 59 = .ok (.ifCond .eq 7, 3) := by decide +kernel
theorem dX10_look_62 : decode cX10_look 62 = .ok (.iconst 1, 1) := by decide +kernel
theorem dX10_look_63 : decode cX10_look 63 = .ok (.goto 4, 3) := by decide +kernel
theorem dX10_look_66 : decode cX10_look 66 = .ok (.iconst 0, 1) := by decide +kernel
theorem dX10_look_67 : decode cX10_look 67 = .ok (.ireturn, 1) := by decide +kernel
theorem dX10_look_68 : decode cX10_look 68 = .ok (.aload_n 0, 1) := by decide +kernel
theorem dX10_look_69 : decode cX10_look 69 = .ok (.getfield 10, 3) := by decide +kernel
theorem dX10_look_72 : decode cX10_look 72 = .ok (.getfield 74, 3) := by decide +kernel
theorem dX10_look_75 : decode cX10_look 75 = .ok (.getfield 113, 3) := by decide +kernel
theorem dX10_look_78 : decode cX10_look 78 = .ok (.iload_n 1, 1) := by decide +kernel
theorem dX10_look_79 : decode cX10_look 79 = .ok (.iaload, 1) := by decide +kernel
theorem dX10_look_80 : decode cX10_look 80 = .ok (.ireturn, 1) := by decide +kernel
theorem dX10_look_81 : decode cX10_look 81 = .ok (.aload_n 0, 1) := by decide +kernel
theorem dX10_look_82 : decode cX10_look 82 = .ok (.getfield 10, 3) := by decide +kernel
theorem dX10_look_85 : decode cX10_look 85 = .ok (.getfield 74, 3) := by decide +kernel
theorem dX10_look_88 : decode cX10_look 88 = .ok (.getfield 116, 3) := by decide +kernel
theorem dX10_look_91 : decode cX10_look 91 = .ok (.iload_n 1, 1) := by decide +kernel
theorem dX10_look_92 : decode cX10_look 92 = .ok (.iaload, 1) := by decide +kernel
theorem dX10_look_93 : decode cX10_look 93 = .ok (.ireturn, 1) := by decide +kernel
theorem dX10_look_94 : decode cX10_look 94 = .ok (.aload_n 0, 1) := by decide +kernel
theorem dX10_look_95 : decode cX10_look 95 = .ok (.getfield 10, 3) := by decide +kernel
theorem dX10_look_98 : decode cX10_look 98 = .ok (.getfield 119, 3) := by decide +kernel
theorem dX10_look_101 : decode cX10_look 101 = .ok (.iload_n 1, 1) := by decide +kernel
theorem dX10_look_102 : decode cX10_look 102 = .ok (.invokevirtual 123, 3) := by decide +kernel
theorem dX10_look_105 : decode cX10_look 105 = .ok (.ireturn, 1) := by decide +kernel
theorem dX10_look_106 : decode cX10_look 106 = .ok (.aload_n 0, 1) := by decide +kernel
theorem dX10_look_107 : decode cX10_look 107 = .ok (.bipush (-7), 2) := by decide +kernel
theorem dX10_look_109 : decode cX10_look 109 = .ok (.invokevirtual 70, 3) := by decide +kernel
theorem dX10_look_112 : decode cX10_look 112 = .ok (.ireturn, 1) := by decide +kernel
theorem dX10_coin_0 : decode cX10_coin 0 = .ok (.aload_n 0, 1) := by decide +kernel
theorem dX10_coin_1 : decode cX10_coin 1 = .ok (.iload_n 1, 1) := by decide +kernel
theorem dX10_coin_2 : decode cX10_coin 2 = .ok (.invokevirtual 90, 3) := by decide +kernel
theorem dX10_coin_5 : decode cX10_coin 5 = .ok (.ifCond .ne 11, 3) := by decide +kernel
theorem dX10_coin_8 : decode cX10_coin 8 = .ok (.aload_n 0, 1) := by decide +kernel
theorem dX10_coin_9 : decode cX10_coin 9 = .ok (.bipush (-3), 2) := by decide +kernel
theorem dX10_coin_11 : decode cX10_coin 11 = .ok (.invokevirtual 128, 3) := by decide +kernel
theorem dX10_coin_14 : decode cX10_coin 14 = .ok (.i2l, 1) := by decide +kernel
theorem dX10_coin_15 : decode cX10_coin 15 = .ok (.lreturn, 1) := by decide +kernel
theorem dX10_coin_16 : decode cX10_coin 16 = .ok (.iload_n 2, 1) := by decide +kernel
theorem dX10_coin_17 : decode cX10_coin 17 = .ok (.tableswitch 65 0 2 #[27, 40, 53], 27) := by decide +kernel
theorem dX10_coin_44 : decode cX10_coin 44 = .ok (.aload_n 0, 1) := by decide +kernel
theorem dX10_coin_45 : decode cX10_coin 45 = .ok (.getfield 10, 3) := by decide +kernel
theorem dX10_coin_48 : decode cX10_coin 48 = .ok (.getfield 74, 3) := by decide +kernel
theorem dX10_coin_51 : decode cX10_coin 51 = .ok (.getfield 106, 3) := by decide +kernel
theorem dX10_coin_54 : decode cX10_coin 54 = .ok (.iload_n 1, 1) := by decide +kernel
theorem dX10_coin_55 : decode cX10_coin 55 = .ok (.laload, 1) := by decide +kernel
theorem dX10_coin_56 : decode cX10_coin 56 = .ok (.lreturn, 1) := by decide +kernel
theorem dX10_coin_57 : decode cX10_coin 57 = .ok (.aload_n 0, 1) := by decide +kernel
theorem dX10_coin_58 : decode cX10_coin 58 = .ok (.getfield 10, 3) := by decide +kernel
theorem dX10_coin_61 : decode cX10_coin 61 = .ok (.getfield 74, 3) := by decide +kernel
theorem dX10_coin_64 : decode cX10_coin 64 = .ok (.getfield 131, 3) := by decide +kernel
theorem dX10_coin_67 : decode cX10_coin 67 = .ok (.iload_n 1, 1) := by decide +kernel
theorem dX10_coin_68 : decode cX10_coin 68 = .ok (.laload, 1) := by decide +kernel
theorem dX10_coin_69 : decode cX10_coin 69 = .ok (.lreturn, 1) := by decide +kernel
theorem dX10_coin_70 : decode cX10_coin 70 = .ok (.aload_n 0, 1) := by decide +kernel
theorem dX10_coin_71 : decode cX10_coin 71 = .ok (.getfield 10, 3) := by decide +kernel
theorem dX10_coin_74 : decode cX10_coin 74 = .ok (.getfield 74, 3) := by decide +kernel
theorem dX10_coin_77 : decode cX10_coin 77 = .ok (.iload_n 1, 1) := by decide +kernel
theorem dX10_coin_78 : decode cX10_coin 78 = .ok (.invokevirtual 134, 3) := by decide +kernel
theorem dX10_coin_81 : decode cX10_coin 81 = .ok (.lreturn, 1) := by decide +kernel
theorem dX10_coin_82 : decode cX10_coin 82 = .ok (.aload_n 0, 1) := by decide +kernel
theorem dX10_coin_83 : decode cX10_coin 83 = .ok (.bipush (-7), 2) := by decide +kernel
theorem dX10_coin_85 : decode cX10_coin 85 = .ok (.invokevirtual 128, 3) := by decide +kernel
theorem dX10_coin_88 : decode cX10_coin 88 = .ok (.i2l, 1) := by decide +kernel
theorem dX10_coin_89 : decode cX10_coin 89 = .ok (.lreturn, 1) := by decide +kernel
theorem dX10_has_0 : decode cX10_has 0 = .ok (.aload_n 0, 1) := by decide +kernel
theorem dX10_has_1 : decode cX10_has 1 = .ok (.iload_n 1, 1) := by decide +kernel
theorem dX10_has_2 : decode cX10_has 2 = .ok (.invokevirtual 90, 3) := by decide +kernel
theorem dX10_has_5 : decode cX10_has 5 = .ok (.ifCond .eq 11, 3) := by decide +kernel
theorem dX10_has_8 : decode cX10_has 8 = .ok (.aload_n 0, 1) := by decide +kernel
theorem dX10_has_9 : decode cX10_has 9 = .ok (.iload_n 2, 1) := by decide +kernel
theorem dX10_has_10 : decode cX10_has 10 = .ok (.invokevirtual 94, 3) := by decide +kernel
theorem dX10_has_13 : decode cX10_has 13 = .ok (.ifCond .ne 10, 3) := by decide +kernel
theorem dX10_has_16 : decode cX10_has 16 = .ok (.aload_n 0, 1) := by decide +kernel
theorem dX10_has_17 : decode cX10_has 17 = .ok (.bipush (-3), 2) := by decide +kernel
theorem dX10_has_19 : decode cX10_has 19 = .ok (.invokevirtual 128, 3) := by decide +kernel
theorem dX10_has_22 : decode cX10_has 22 = .ok (.ireturn, 1) := by decide +kernel
theorem dX10_has_23 : decode cX10_has 23 = .ok (.iload_n 3, 1) := by decide +kernel
theorem dX10_has_24 : decode cX10_has 24 = .ok (.tableswitch 108 0 3 #[32, 49, 69, 91], 32) := by decide +kernel
theorem dX10_has_56 : decode cX10_has 56 = .ok (.aload_n 0, 1) := by decide +kernel
theorem dX10_has_57 : decode cX10_has 57 = .ok (.getfield 10, 3) := by decide +kernel
theorem dX10_has_60 : decode cX10_has 60 = .ok (.getfield 74, 3) := by decide +kernel
theorem dX10_has_63 : decode cX10_has 63 = .ok (.getfield 103, 3) := by decide +kernel
theorem dX10_has_66 : decode cX10_has 66 = .ok (.iload_n 1, 1) := by decide +kernel
theorem dX10_has_67 : decode cX10_has 67 = .ok (.iload_n 2, 1) := by decide +kernel
theorem dX10_has_68 : decode cX10_has 68 = .ok (.invokestatic 100, 3) := by decide +kernel
theorem dX10_has_71 : decode cX10_has 71 = .ok (.iaload, 1) := by decide +kernel
theorem dX10_has_72 : decode cX10_has 72 = .ok (.ireturn, 1) := by decide +kernel
theorem dX10_has_73 : decode cX10_has 73 = .ok (.aload_n 0, 1) := by decide +kernel
theorem dX10_has_74 : decode cX10_has 74 = .ok (.getfield 10, 3) := by decide +kernel
theorem dX10_has_77 : decode cX10_has 77 = .ok (.getfield 119, 3) := by decide +kernel
theorem dX10_has_80 : decode cX10_has 80 = .ok (.iload_n 1, 1) := by decide +kernel
theorem dX10_has_81 : decode cX10_has 81 = .ok (.iload_n 2, 1) := by decide +kernel
theorem dX10_has_82 : decode cX10_has 82 = .ok (.aload_n 0, 1) := by decide +kernel
theorem dX10_has_83 : decode cX10_has 83 = .ok (.getfield 10, 3) := by decide +kernel
theorem dX10_has_86 : decode cX10_has 86 = .ok (.invokevirtual 138, 3) := by decide +kernel
theorem dX10_has_89 : decode cX10_has 89 = .ok (.invokevirtual 142, 3) := by decide +kernel
theorem dX10_has_92 : decode cX10_has 92 = .ok (.ireturn, 1) := by decide +kernel
theorem dX10_has_93 : decode cX10_has 93 = .ok (.aload_n 0, 1) := by decide +kernel
theorem dX10_has_94 : decode cX10_has 94 = .ok (.getfield 10, 3) := by decide +kernel
theorem dX10_has_97 : decode cX10_has 97 = .ok (.getfield 119, 3) := by decide +kernel
theorem dX10_has_100 : decode cX10_has 100 = .ok (.iload_n 1, 1) := by decide +kernel
theorem dX10_has_101 : decode cX10_has 101 = .ok (.iload_n 2, 1) := by decide +kernel
theorem dX10_has_102 : decode cX10_has 102 = .ok (.aload_n 0, 1) := by decide +kernel
theorem dX10_has_103 : decode cX10_has 103 = .ok (.getfield 10, 3) := by decide +kernel
theorem dX10_has_106 : decode cX10_has 106 = .ok (.invokevirtual 138, 3) := by decide +kernel
theorem dX10_has_109 : decode cX10_has 109 = .ok (.iconst 1, 1) := by decide +kernel
theorem dX10_has_110 : decode cX10_has 110 = .ok (.iadd, 1) := by decide +kernel
theorem dX10_has_111 : decode cX10_has 111 = .ok (.invokevirtual 142, 3) := by decide +kernel
theorem dX10_has_114 : decode cX10_has 114 = .ok (.ireturn, 1) := by decide +kernel
theorem dX10_has_115 : decode cX10_has 115 = .ok (.aload_n 0, 1) := by decide +kernel
theorem dX10_has_116 : decode cX10_has 116 = .ok (.getfield 10, 3) := by decide +kernel
theorem dX10_has_119 : decode cX10_has 119 = .ok (.getfield 74, 3) := by decide +kernel
theorem dX10_has_122 : decode cX10_has 122 = .ok (.getfield 110, 3) := by decide +kernel
theorem dX10_has_125 : decode cX10_has 125 = .ok (.iload_n 1, 1) := by decide +kernel
theorem dX10_has_126 : decode cX10_has 126 = .ok (.iload_n 2, 1) := by decide +kernel
theorem dX10_has_127 : decode cX10_has 127 = .ok (.invokestatic 100, 3) := by decide +kernel
theorem dX10_has_130 : decode cX10_has 130 = .ok (.iaload, 1) := by decide +kernel
theorem dX10_has_131 : decode cX10_has 131 = .ok (.ireturn, 1) := by decide +kernel
theorem dX10_has_132 : decode cX10_has 132 = .ok (.aload_n 0, 1) := by decide +kernel
theorem dX10_has_133 : decode cX10_has 133 = .ok (.bipush (-7), 2) := by decide +kernel
theorem dX10_has_135 : decode cX10_has 135 = .ok (.invokevirtual 128, 3) := by decide +kernel
theorem dX10_has_138 : decode cX10_has 138 = .ok (.ireturn, 1) := by decide +kernel
theorem dX10_made_0 : decode cX10_made 0 = .ok (.aload_n 0, 1) := by decide +kernel
theorem dX10_made_1 : decode cX10_made 1 = .ok (.iload_n 1, 1) := by decide +kernel
theorem dX10_made_2 : decode cX10_made 2 = .ok (.invokevirtual 94, 3) := by decide +kernel
theorem dX10_made_5 : decode cX10_made 5 = .ok (.ifCond .eq 15, 3) := by decide +kernel
theorem dX10_made_8 : decode cX10_made 8 = .ok (.aload_n 0, 1) := by decide +kernel
theorem dX10_made_9 : decode cX10_made 9 = .ok (.getfield 10, 3) := by decide +kernel
theorem dX10_made_12 : decode cX10_made 12 = .ok (.getfield 146, 3) := by decide +kernel
theorem dX10_made_15 : decode cX10_made 15 = .ok (.iload_n 1, 1) := by decide +kernel
theorem dX10_made_16 : decode cX10_made 16 = .ok (.iaload, 1) := by decide +kernel
theorem dX10_made_17 : decode cX10_made 17 = .ok (.goto 9, 3) := by decide +kernel
theorem dX10_made_20 : decode cX10_made 20 = .ok (.aload_n 0, 1) := by decide +kernel
theorem dX10_made_21 : decode cX10_made 21 = .ok (.bipush (-3), 2) := by decide +kernel
theorem dX10_made_23 : decode cX10_made 23 = .ok (.invokevirtual 70, 3) := by decide +kernel
theorem dX10_made_26 : decode cX10_made 26 = .ok (.ireturn, 1) := by decide +kernel
theorem dX10_bargain_0 : decode cX10_bargain 0 = .ok (.aload_n 0, 1) := by decide +kernel
theorem dX10_bargain_1 : decode cX10_bargain 1 = .ok (.iload_n 1, 1) := by decide +kernel
theorem dX10_bargain_2 : decode cX10_bargain 2 = .ok (.invokevirtual 149, 3) := by decide +kernel
theorem dX10_bargain_5 : decode cX10_bargain 5 = .ok (.ifCond .eq 11, 3) := by decide +kernel
theorem dX10_bargain_8 : decode cX10_bargain 8 = .ok (.aload_n 0, 1) := by decide +kernel
theorem dX10_bargain_9 : decode cX10_bargain 9 = .ok (.iload_n 2, 1) := by decide +kernel
theorem dX10_bargain_10 : decode cX10_bargain 10 = .ok (.invokevirtual 94, 3) := by decide +kernel
theorem dX10_bargain_13 : decode cX10_bargain 13 = .ok (.ifCond .ne 10, 3) := by decide +kernel
theorem dX10_bargain_16 : decode cX10_bargain 16 = .ok (.aload_n 0, 1) := by decide +kernel
theorem dX10_bargain_17 : decode cX10_bargain 17 = .ok (.bipush (-3), 2) := by decide +kernel
theorem dX10_bargain_19 : decode cX10_bargain 19 = .ok (.invokevirtual 70, 3) := by decide +kernel
theorem dX10_bargain_22 : decode cX10_bargain 22 = .ok (.ireturn, 1) := by decide +kernel
theorem dX10_bargain_23 : decode cX10_bargain 23 = .ok (.iload_n 3, 1) := by decide +kernel
theorem dX10_bargain_24 : decode cX10_bargain 24 = .ok (.iconst 1, 1) := by decide +kernel
theorem dX10_bargain_25 : decode cX10_bargain 25 = .ok (.bipush 99, 2) := by decide +kernel
theorem dX10_bargain_27 : decode cX10_bargain 27 = .ok (.invokestatic 66, 3) := by decide +kernel
theorem dX10_bargain_30 : decode cX10_bargain 30 = .ok (.ifCond .eq 19, 3) := by decide +kernel
theorem dX10_bargain_33 : decode cX10_bargain 33 = .ok (.iload 4, 2) := by decide +kernel
theorem dX10_bargain_35 : decode cX10_bargain 35 = .ok (.iconst 1, 1) := by decide +kernel
theorem dX10_bargain_36 : decode cX10_bargain 36 = .ok (.sipush 9999, 3) := by decide +kernel
theorem dX10_bargain_39 : decode cX10_bargain 39 = .ok (.invokestatic 66, 3) := by decide +kernel
theorem dX10_bargain_42 : decode cX10_bargain 42 = .ok (.ifCond .eq 7, 3) := by decide +kernel
theorem dX10_bargain_45 : decode cX10_bargain 45 = .ok (.iconst 1, 1) := by decide +kernel
theorem dX10_bargain_46 : decode cX10_bargain 46 = .ok (.goto 4, 3) := by decide +kernel
theorem dX10_bargain_49 : decode cX10_bargain 49 = .ok (.iconst 0, 1) := by decide +kernel
theorem dX10_bargain_50 : decode cX10_bargain 50 = .ok (.istore 5, 2) := by decide +kernel
theorem dX10_bargain_52 : decode cX10_bargain 52 = .ok (.iload 5, 2) := by decide +kernel
theorem dX10_bargain_54 : decode cX10_bargain 54 = .ok (.ifCond .eq 11, 3) := by decide +kernel
theorem dX10_bargain_57 : decode cX10_bargain 57 = .ok (.aload_n 0, 1) := by decide +kernel
theorem dX10_bargain_58 : decode cX10_bargain 58 = .ok (.iload_n 1, 1) := by decide +kernel
theorem dX10_bargain_59 : decode cX10_bargain 59 = .ok (.invokevirtual 152, 3) := by decide +kernel
theorem dX10_bargain_62 : decode cX10_bargain 62 = .ok (.ifCond .ne 10, 3) := by decide +kernel
theorem dX10_bargain_65 : decode cX10_bargain 65 = .ok (.aload_n 0, 1) := by decide +kernel
theorem dX10_bargain_66 : decode cX10_bargain 66 = .ok (.bipush (-7), 2) := by decide +kernel
theorem dX10_bargain_68 : decode cX10_bargain 68 = .ok (.invokevirtual 70, 3) := by decide +kernel
theorem dX10_bargain_71 : decode cX10_bargain 71 = .ok (.ireturn, 1) := by decide +kernel
theorem dX10_bargain_72 : decode cX10_bargain 72 = .ok (.aload_n 0, 1) := by decide +kernel
theorem dX10_bargain_73 : decode cX10_bargain 73 = .ok (.getfield 10, 3) := by decide +kernel
theorem dX10_bargain_76 : decode cX10_bargain 76 = .ok (.getfield 119, 3) := by decide +kernel
theorem dX10_bargain_79 : decode cX10_bargain 79 = .ok (.iconst 0, 1) := by decide +kernel
theorem dX10_bargain_80 : decode cX10_bargain 80 = .ok (.invokevirtual 155, 3) := by decide +kernel
theorem dX10_bargain_83 : decode cX10_bargain 83 = .ok (.istore 6, 2) := by decide +kernel
theorem dX10_bargain_85 : decode cX10_bargain 85 = .ok (.iload 6, 2) := by decide +kernel
theorem dX10_bargain_87 : decode cX10_bargain 87 = .ok (.iconst (-1), 1) := by decide +kernel
theorem dX10_bargain_88 : decode cX10_bargain 88 = .ok (.if_icmp .ne 10, 3) := by decide +kernel
theorem dX10_bargain_91 : decode cX10_bargain 91 = .ok (.aload_n 0, 1) := by decide +kernel
theorem dX10_bargain_92 : decode cX10_bargain 92 = .ok (.bipush (-8), 2) := by decide +kernel
theorem dX10_bargain_94 : decode cX10_bargain 94 = .ok (.invokevirtual 70, 3) := by decide +kernel
theorem dX10_bargain_97 : decode cX10_bargain 97 = .ok (.ireturn, 1) := by decide +kernel
theorem dX10_bargain_98 : decode cX10_bargain 98 = .ok (.aload_n 0, 1) := by decide +kernel
theorem dX10_bargain_99 : decode cX10_bargain 99 = .ok (.getfield 10, 3) := by decide +kernel
theorem dX10_bargain_102 : decode cX10_bargain 102 = .ok (.getfield 119, 3) := by decide +kernel
theorem dX10_bargain_105 : decode cX10_bargain 105 = .ok (.iload 6, 2) := by decide +kernel
theorem dX10_bargain_107 : decode cX10_bargain 107 = .ok (.iload_n 1, 1) := by decide +kernel
theorem dX10_bargain_108 : decode cX10_bargain 108 = .ok (.invokestatic 158, 3) := by decide +kernel
theorem dX10_bargain_111 : decode cX10_bargain 111 = .ok (.iload_n 1, 1) := by decide +kernel
theorem dX10_bargain_112 : decode cX10_bargain 112 = .ok (.invokestatic 161, 3) := by decide +kernel
theorem dX10_bargain_115 : decode cX10_bargain 115 = .ok (.iload_n 2, 1) := by decide +kernel
theorem dX10_bargain_116 : decode cX10_bargain 116 = .ok (.iload_n 3, 1) := by decide +kernel
theorem dX10_bargain_117 : decode cX10_bargain 117 = .ok (.iload 4, 2) := by decide +kernel
theorem dX10_bargain_119 : decode cX10_bargain 119 = .ok (.aload_n 0, 1) := by decide +kernel
theorem dX10_bargain_120 : decode cX10_bargain 120 = .ok (.getfield 10, 3) := by decide +kernel
theorem dX10_bargain_123 : decode cX10_bargain 123 = .ok (.getfield 164, 3) := by decide +kernel
theorem dX10_bargain_126 : decode cX10_bargain 126 = .ok (.invokevirtual 167, 3) := by decide +kernel
theorem dX10_bargain_129 : decode cX10_bargain 129 = .ok (.iload 6, 2) := by decide +kernel
theorem dX10_bargain_131 : decode cX10_bargain 131 = .ok (.ireturn, 1) := by decide +kernel
theorem dX10_mark_0 : decode cX10_mark 0 = .ok (.aload_n 0, 1) := by decide +kernel
theorem dX10_mark_1 : decode cX10_mark 1 = .ok (.getfield 10, 3) := by decide +kernel
theorem dX10_mark_4 : decode cX10_mark 4 = .ok (.getfield 119, 3) := by decide +kernel
theorem dX10_mark_7 : decode cX10_mark 7 = .ok (.iload_n 1, 1) := by decide +kernel
theorem dX10_mark_8 : decode cX10_mark 8 = .ok (.invokevirtual 171, 3) := by decide +kernel
theorem dX10_mark_11 : decode cX10_mark 11 = .ok (.ifCond .eq 11, 3) := by decide +kernel
theorem dX10_mark_14 : decode cX10_mark 14 = .ok (.aload_n 0, 1) := by decide +kernel
theorem dX10_mark_15 : decode cX10_mark 15 = .ok (.iload_n 2, 1) := by decide +kernel
theorem dX10_mark_16 : decode cX10_mark 16 = .ok (.invokevirtual 90, 3) := by decide +kernel
theorem dX10_mark_19 : decode cX10_mark 19 = .ok (.ifCond .ne 10, 3) := by decide +kernel
theorem dX10_mark_22 : decode cX10_mark 22 = .ok (.aload_n 0, 1) := by decide +kernel
theorem dX10_mark_23 : decode cX10_mark 23 = .ok (.bipush (-3), 2) := by decide +kernel
theorem dX10_mark_25 : decode cX10_mark 25 = .ok (.invokevirtual 70, 3) := by decide +kernel
theorem dX10_mark_28 : decode cX10_mark 28 = .ok (.ireturn, 1) := by decide +kernel
theorem dX10_mark_29 : decode cX10_mark 29 = .ok (.aload_n 0, 1) := by decide +kernel
theorem dX10_mark_30 : decode cX10_mark 30 = .ok (.getfield 10, 3) := by decide +kernel
theorem dX10_mark_33 : decode cX10_mark 33 = .ok (.getfield 119, 3) := by decide +kernel
theorem dX10_mark_36 : decode cX10_mark 36 = .ok (.iload_n 1, 1) := by decide +kernel
theorem dX10_mark_37 : decode cX10_mark 37 = .ok (.iload_n 2, 1) := by decide +kernel
theorem dX10_mark_38 : decode cX10_mark 38 = .ok (.invokevirtual 174, 3) := by decide +kernel
theorem dX10_mark_41 : decode cX10_mark 41 = .ok (.istore_n 3, 1) := by decide +kernel
theorem dX10_mark_42 : decode cX10_mark 42 = .ok (.iload_n 3, 1) := by decide +kernel
theorem dX10_mark_43 : decode cX10_mark 43 = .ok (.iconst (-1), 1) := by decide +kernel
theorem dX10_mark_44 : decode cX10_mark 44 = .ok (.if_icmp .ne 10, 3) := by decide +kernel
theorem dX10_mark_47 : decode cX10_mark 47 = .ok (.aload_n 0, 1) := by decide +kernel
theorem dX10_mark_48 : decode cX10_mark 48 = .ok (.bipush (-5), 2) := by decide +kernel
theorem dX10_mark_50 : decode cX10_mark 50 = .ok (.invokevirtual 70, 3) := by decide +kernel
theorem dX10_mark_53 : decode cX10_mark 53 = .ok (.ireturn, 1) := by decide +kernel
theorem dX10_mark_54 : decode cX10_mark 54 = .ok (.aload_n 0, 1) := by decide +kernel
theorem dX10_mark_55 : decode cX10_mark 55 = .ok (.getfield 10, 3) := by decide +kernel
theorem dX10_mark_58 : decode cX10_mark 58 = .ok (.getfield 119, 3) := by decide +kernel
theorem dX10_mark_61 : decode cX10_mark 61 = .ok (.iload_n 1, 1) := by decide +kernel
theorem dX10_mark_62 : decode cX10_mark 62 = .ok (.bipush 7, 2) := by decide +kernel
theorem dX10_mark_64 : decode cX10_mark 64 = .ok (.invokevirtual 177, 3) := by decide +kernel
theorem dX10_mark_67 : decode cX10_mark 67 = .ok (.ifCond .ne 19, 3) := by decide +kernel
theorem dX10_mark_70 : decode cX10_mark 70 = .ok (.aload_n 0, 1) := by decide +kernel
theorem dX10_mark_71 : decode cX10_mark 71 = .ok (.getfield 10, 3) := by decide +kernel
theorem dX10_mark_74 : decode cX10_mark 74 = .ok (.getfield 119, 3) := by decide +kernel
theorem dX10_mark_77 : decode cX10_mark 77 = .ok (.iload_n 1, 1) := by decide +kernel
theorem dX10_mark_78 : decode cX10_mark 78 = .ok (.iload_n 3, 1) := by decide +kernel
theorem dX10_mark_79 : decode cX10_mark 79 = .ok (.invokevirtual 177, 3) := by decide +kernel
theorem dX10_mark_82 : decode cX10_mark 82 = .ok (.iconst (-1), 1) := by decide +kernel
theorem dX10_mark_83 : decode cX10_mark 83 = .ok (.if_icmp .eq 10, 3) := by decide +kernel
theorem dX10_mark_86 : decode cX10_mark 86 = .ok (.aload_n 0, 1) := by decide +kernel
theorem dX10_mark_87 : decode cX10_mark 87 = .ok (.bipush (-7), 2) := by decide +kernel
theorem dX10_mark_89 : decode cX10_mark 89 = .ok (.invokevirtual 70, 3) := by decide +kernel
theorem dX10_mark_92 : decode cX10_mark 92 = .ok (.ireturn, 1) := by decide +kernel
theorem dX10_mark_93 : decode cX10_mark 93 = .ok (.aload_n 0, 1) := by decide +kernel
theorem dX10_mark_94 : decode cX10_mark 94 = .ok (.getfield 10, 3) := by decide +kernel
theorem dX10_mark_97 : decode cX10_mark 97 = .ok (.getfield 119, 3) := by decide +kernel
theorem dX10_mark_100 : decode cX10_mark 100 = .ok (.iload_n 1, 1) := by decide +kernel
theorem dX10_mark_101 : decode cX10_mark 101 = .ok (.iload_n 3, 1) := by decide +kernel
theorem dX10_mark_102 : decode cX10_mark 102 = .ok (.aload_n 0, 1) := by decide +kernel
theorem dX10_mark_103 : decode cX10_mark 103 = .ok (.getfield 10, 3) := by decide +kernel
theorem dX10_mark_106 : decode cX10_mark 106 = .ok (.getfield 164, 3) := by decide +kernel
theorem dX10_mark_109 : decode cX10_mark 109 = .ok (.invokevirtual 180, 3) := by decide +kernel
theorem dX10_mark_112 : decode cX10_mark 112 = .ok (.ifCond .eq 7, 3) := by decide +kernel
theorem dX10_mark_115 : decode cX10_mark 115 = .ok (.iconst 1, 1) := by decide +kernel
theorem dX10_mark_116 : decode cX10_mark 116 = .ok (.goto 4, 3) := by decide +kernel
theorem dX10_mark_119 : decode cX10_mark 119 = .ok (.iconst 0, 1) := by decide +kernel
theorem dX10_mark_120 : decode cX10_mark 120 = .ok (.ireturn, 1) := by decide +kernel
theorem dX10_clear_0 : decode cX10_clear 0 = .ok (.aload_n 0, 1) := by decide +kernel
theorem dX10_clear_1 : decode cX10_clear 1 = .ok (.getfield 10, 3) := by decide +kernel
theorem dX10_clear_4 : decode cX10_clear 4 = .ok (.getfield 119, 3) := by decide +kernel
theorem dX10_clear_7 : decode cX10_clear 7 = .ok (.iload_n 1, 1) := by decide +kernel
theorem dX10_clear_8 : decode cX10_clear 8 = .ok (.invokevirtual 171, 3) := by decide +kernel
theorem dX10_clear_11 : decode cX10_clear 11 = .ok (.ifCond .ne 10, 3) := by decide +kernel
theorem dX10_clear_14 : decode cX10_clear 14 = .ok (.aload_n 0, 1) := by decide +kernel
theorem dX10_clear_15 : decode cX10_clear 15 = .ok (.bipush (-3), 2) := by decide +kernel
theorem dX10_clear_17 : decode cX10_clear 17 = .ok (.invokevirtual 70, 3) := by decide +kernel
theorem dX10_clear_20 : decode cX10_clear 20 = .ok (.ireturn, 1) := by decide +kernel
theorem dX10_clear_21 : decode cX10_clear 21 = .ok (.aload_n 0, 1) := by decide +kernel
theorem dX10_clear_22 : decode cX10_clear 22 = .ok (.getfield 10, 3) := by decide +kernel
theorem dX10_clear_25 : decode cX10_clear 25 = .ok (.getfield 119, 3) := by decide +kernel
theorem dX10_clear_28 : decode cX10_clear 28 = .ok (.iload_n 1, 1) := by decide +kernel
theorem dX10_clear_29 : decode cX10_clear 29 = .ok (.invokevirtual 183, 3) := by decide +kernel
theorem dX10_clear_32 : decode cX10_clear 32 = .ok (.ifCond .eq 10, 3) := by decide +kernel
theorem dX10_clear_35 : decode cX10_clear 35 = .ok (.aload_n 0, 1) := by decide +kernel
theorem dX10_clear_36 : decode cX10_clear 36 = .ok (.bipush (-7), 2) := by decide +kernel
theorem dX10_clear_38 : decode cX10_clear 38 = .ok (.invokevirtual 70, 3) := by decide +kernel
theorem dX10_clear_41 : decode cX10_clear 41 = .ok (.ireturn, 1) := by decide +kernel
theorem dX10_clear_42 : decode cX10_clear 42 = .ok (.aload_n 0, 1) := by decide +kernel
theorem dX10_clear_43 : decode cX10_clear 43 = .ok (.getfield 10, 3) := by decide +kernel
theorem dX10_clear_46 : decode cX10_clear 46 = .ok (.getfield 119, 3) := by decide +kernel
theorem dX10_clear_49 : decode cX10_clear 49 = .ok (.iload_n 1, 1) := by decide +kernel
theorem dX10_clear_50 : decode cX10_clear 50 = .ok (.bipush 7, 2) := by decide +kernel
theorem dX10_clear_52 : decode cX10_clear 52 = .ok (.invokevirtual 177, 3) := by decide +kernel
theorem dX10_clear_55 : decode cX10_clear 55 = .ok (.istore_n 2, 1) := by decide +kernel
theorem dX10_clear_56 : decode cX10_clear 56 = .ok (.aload_n 0, 1) := by decide +kernel
theorem dX10_clear_57 : decode cX10_clear 57 = .ok (.getfield 10, 3) := by decide +kernel
theorem dX10_clear_60 : decode cX10_clear 60 = .ok (.getfield 119, 3) := by decide +kernel
theorem dX10_clear_63 : decode cX10_clear 63 = .ok (.iload_n 1, 1) := by decide +kernel
theorem dX10_clear_64 : decode cX10_clear 64 = .ok (.iconst (-1), 1) := by decide +kernel
theorem dX10_clear_65 : decode cX10_clear 65 = .ok (.invokevirtual 186, 3) := by decide +kernel
theorem dX10_clear_68 : decode cX10_clear 68 = .ok (.iload_n 2, 1) := by decide +kernel
theorem dX10_clear_69 : decode cX10_clear 69 = .ok (.ireturn, 1) := by decide +kernel
theorem dX10_of_0 : decode cX10_of 0 = .ok (.aload_n 0, 1) := by decide +kernel
theorem dX10_of_1 : decode cX10_of 1 = .ok (.getfield 10, 3) := by decide +kernel
theorem dX10_of_4 : decode cX10_of 4 = .ok (.getfield 119, 3) := by decide +kernel
theorem dX10_of_7 : decode cX10_of 7 = .ok (.iload_n 1, 1) := by decide +kernel
theorem dX10_of_8 : decode cX10_of 8 = .ok (.invokevirtual 171, 3) := by decide +kernel
theorem dX10_of_11 : decode cX10_of 11 = .ok (.ifCond .ne 10, 3) := by decide +kernel
theorem dX10_of_14 : decode cX10_of 14 = .ok (.aload_n 0, 1) := by decide +kernel
theorem dX10_of_15 : decode cX10_of 15 = .ok (.bipush (-3), 2) := by decide +kernel
theorem dX10_of_17 : decode cX10_of 17 = .ok (.invokevirtual 70, 3) := by decide +kernel
theorem dX10_of_20 : decode cX10_of 20 = .ok (.ireturn, 1) := by decide +kernel
theorem dX10_of_21 : decode cX10_of 21 = .ok (.iload_n 2, 1) := by decide +kernel
theorem dX10_of_22 : decode cX10_of 22 = .ok (.iconst 0, 1) := by decide +kernel
theorem dX10_of_23 : decode cX10_of 23 = .ok (.bipush 10, 2) := by decide +kernel
theorem dX10_of_25 : decode cX10_of 25 = .ok (.invokestatic 66, 3) := by decide +kernel
theorem dX10_of_28 : decode cX10_of 28 = .ok (.ifCond .eq 18, 3) := by decide +kernel
theorem dX10_of_31 : decode cX10_of 31 = .ok (.aload_n 0, 1) := by decide +kernel
theorem dX10_of_32 : decode cX10_of 32 = .ok (.getfield 10, 3) := by decide +kernel
theorem dX10_of_35 : decode cX10_of 35 = .ok (.getfield 119, 3) := by decide +kernel
theorem dX10_of_38 : decode cX10_of 38 = .ok (.iload_n 1, 1) := by decide +kernel
theorem dX10_of_39 : decode cX10_of 39 = .ok (.iload_n 2, 1) := by decide +kernel
theorem dX10_of_40 : decode cX10_of 40 = .ok (.invokevirtual 177, 3) := by decide +kernel
theorem dX10_of_43 : decode cX10_of 43 = .ok (.goto 9, 3) := by decide +kernel
theorem dX10_of_46 : decode cX10_of 46 = .ok (.aload_n 0, 1) := by decide +kernel
theorem dX10_of_47 : decode cX10_of 47 = .ok (.bipush (-7), 2) := by decide +kernel
theorem dX10_of_49 : decode cX10_of 49 = .ok (.invokevirtual 70, 3) := by decide +kernel
theorem dX10_of_52 : decode cX10_of 52 = .ok (.ireturn, 1) := by decide +kernel
theorem dX10_knew_0 : decode cX10_knew 0 = .ok (.aload_n 0, 1) := by decide +kernel
theorem dX10_knew_1 : decode cX10_knew 1 = .ok (.iload_n 1, 1) := by decide +kernel
theorem dX10_knew_2 : decode cX10_knew 2 = .ok (.invokevirtual 90, 3) := by decide +kernel
theorem dX10_knew_5 : decode cX10_knew 5 = .ok (.ifCond .eq 11, 3) := by decide +kernel
theorem dX10_knew_8 : decode cX10_knew 8 = .ok (.aload_n 0, 1) := by decide +kernel
theorem dX10_knew_9 : decode cX10_knew 9 = .ok (.iload_n 2, 1) := by decide +kernel
theorem dX10_knew_10 : decode cX10_knew 10 = .ok (.invokevirtual 94, 3) := by decide +kernel
theorem dX10_knew_13 : decode cX10_knew 13 = .ok (.ifCond .ne 10, 3) := by decide +kernel
theorem dX10_knew_16 : decode cX10_knew 16 = .ok (.aload_n 0, 1) := by decide +kernel
theorem dX10_knew_17 : decode cX10_knew 17 = .ok (.bipush (-3), 2) := by decide +kernel
theorem dX10_knew_19 : decode cX10_knew 19 = .ok (.invokevirtual 128, 3) := by decide +kernel
theorem dX10_knew_22 : decode cX10_knew 22 = .ok (.ireturn, 1) := by decide +kernel
theorem dX10_knew_23 : decode cX10_knew 23 = .ok (.iload_n 3, 1) := by decide +kernel
theorem dX10_knew_24 : decode cX10_knew 24 = .ok (.ifCond .lt 19, 3) := by decide +kernel
theorem dX10_knew_27 : decode cX10_knew 27 = .ok (.iload 4, 2) := by decide +kernel
theorem dX10_knew_29 : decode cX10_knew 29 = .ok (.iconst 0, 1) := by decide +kernel
theorem dX10_knew_30 : decode cX10_knew 30 = .ok (.aload_n 0, 1) := by decide +kernel
theorem dX10_knew_31 : decode cX10_knew 31 = .ok (.getfield 10, 3) := by decide +kernel
theorem dX10_knew_34 : decode cX10_knew 34 = .ok (.getfield 164, 3) := by decide +kernel
theorem dX10_knew_37 : decode cX10_knew 37 = .ok (.invokestatic 66, 3) := by decide +kernel
theorem dX10_knew_40 : decode cX10_knew 40 = .ok (.ifCond .ne 10, 3) := by decide +kernel
theorem dX10_knew_43 : decode cX10_knew 43 = .ok (.aload_n 0, 1) := by decide +kernel
theorem dX10_knew_44 : decode cX10_knew 44 = .ok (.bipush (-7), 2) := by decide +kernel
theorem dX10_knew_46 : decode cX10_knew 46 = .ok (.invokevirtual 128, 3) := by decide +kernel
theorem dX10_knew_49 : decode cX10_knew 49 = .ok (.ireturn, 1) := by decide +kernel
theorem dX10_knew_50 : decode cX10_knew 50 = .ok (.aload_n 0, 1) := by decide +kernel
theorem dX10_knew_51 : decode cX10_knew 51 = .ok (.getfield 10, 3) := by decide +kernel
theorem dX10_knew_54 : decode cX10_knew 54 = .ok (.getfield 119, 3) := by decide +kernel
theorem dX10_knew_57 : decode cX10_knew 57 = .ok (.iload_n 1, 1) := by decide +kernel
theorem dX10_knew_58 : decode cX10_knew 58 = .ok (.iload_n 2, 1) := by decide +kernel
theorem dX10_knew_59 : decode cX10_knew 59 = .ok (.iload_n 3, 1) := by decide +kernel
theorem dX10_knew_60 : decode cX10_knew 60 = .ok (.iload 4, 2) := by decide +kernel
theorem dX10_knew_62 : decode cX10_knew 62 = .ok (.invokevirtual 190, 3) := by decide +kernel
theorem dX10_knew_65 : decode cX10_knew 65 = .ok (.ireturn, 1) := by decide +kernel
theorem dX10_putOff_0 : decode cX10_putOff 0 = .ok (.aload_n 0, 1) := by decide +kernel
theorem dX10_putOff_1 : decode cX10_putOff 1 = .ok (.iload_n 1, 1) := by decide +kernel
theorem dX10_putOff_2 : decode cX10_putOff 2 = .ok (.invokevirtual 149, 3) := by decide +kernel
theorem dX10_putOff_5 : decode cX10_putOff 5 = .ok (.ifCond .eq 11, 3) := by decide +kernel
theorem dX10_putOff_8 : decode cX10_putOff 8 = .ok (.aload_n 0, 1) := by decide +kernel
theorem dX10_putOff_9 : decode cX10_putOff 9 = .ok (.iload_n 2, 1) := by decide +kernel
theorem dX10_putOff_10 : decode cX10_putOff 10 = .ok (.invokevirtual 94, 3) := by decide +kernel
theorem dX10_putOff_13 : decode cX10_putOff 13 = .ok (.ifCond .ne 10, 3) := by decide +kernel
theorem dX10_putOff_16 : decode cX10_putOff 16 = .ok (.aload_n 0, 1) := by decide +kernel
theorem dX10_putOff_17 : decode cX10_putOff 17 = .ok (.bipush (-3), 2) := by decide +kernel
theorem dX10_putOff_19 : decode cX10_putOff 19 = .ok (.invokevirtual 70, 3) := by decide +kernel
theorem dX10_putOff_22 : decode cX10_putOff 22 = .ok (.ireturn, 1) := by decide +kernel
theorem dX10_putOff_23 : decode cX10_putOff 23 = .ok (.iload_n 3, 1) := by decide +kernel
theorem dX10_putOff_24 : decode cX10_putOff 24 = .ok (.iconst 1, 1) := by decide +kernel
theorem dX10_putOff_25 : decode cX10_putOff 25 = .ok (.bipush 99, 2) := by decide +kernel
theorem dX10_putOff_27 : decode cX10_putOff 27 = .ok (.invokestatic 66, 3) := by decide +kernel
theorem dX10_putOff_30 : decode cX10_putOff 30 = .ok (.ifCond .eq 35, 3) := by decide +kernel
theorem dX10_putOff_33 : decode cX10_putOff 33 = .ok (.aload_n 0, 1) := by decide +kernel
theorem dX10_putOff_34 : decode cX10_putOff 34 = .ok (.iload_n 1, 1) := by decide +kernel
theorem dX10_putOff_35 : decode cX10_putOff 35 = .ok (.invokevirtual 152, 3) := by decide +kernel
theorem dX10_putOff_38 : decode cX10_putOff 38 = .ok (.ifCond .eq 27, 3) := by decide +kernel
theorem dX10_putOff_41 : decode cX10_putOff 41 = .ok (.aload_n 0, 1) := by decide +kernel
theorem dX10_putOff_42 : decode cX10_putOff 42 = .ok (.getfield 10, 3) := by decide +kernel
theorem dX10_putOff_45 : decode cX10_putOff 45 = .ok (.invokevirtual 194, 3) := by decide +kernel
theorem dX10_putOff_48 : decode cX10_putOff 48 = .ok (.bipush 10, 2) := by decide +kernel
theorem dX10_putOff_50 : decode cX10_putOff 50 = .ok (.if_icmp .ne 15, 3) := by decide +kernel
theorem dX10_putOff_53 : decode cX10_putOff 53 = .ok (.aload_n 0, 1) := by decide +kernel
theorem dX10_putOff_54 : decode cX10_putOff 54 = .ok (.getfield 10, 3) := by decide +kernel
theorem dX10_putOff_57 : decode cX10_putOff 57 = .ok (.getfield 146, 3) := by decide +kernel
theorem dX10_putOff_60 : decode cX10_putOff 60 = .ok (.iload_n 2, 1) := by decide +kernel
theorem dX10_putOff_61 : decode cX10_putOff 61 = .ok (.iaload, 1) := by decide +kernel
theorem dX10_putOff_62 : decode cX10_putOff 62 = .ok (.ifCond .ne 10, 3) := by decide +kernel
theorem dX10_putOff_65 : decode cX10_putOff 65 = .ok (.aload_n 0, 1) := by decide +kernel
theorem dX10_putOff_66 : decode cX10_putOff 66 = .ok (.bipush (-7), 2) := by decide +kernel
theorem dX10_putOff_68 : decode cX10_putOff 68 = .ok (.invokevirtual 70, 3) := by decide +kernel
theorem dX10_putOff_71 : decode cX10_putOff 71 = .ok (.ireturn, 1) := by decide +kernel
theorem dX10_putOff_72 : decode cX10_putOff 72 = .ok (.aload_n 0, 1) := by decide +kernel
theorem dX10_putOff_73 : decode cX10_putOff 73 = .ok (.getfield 10, 3) := by decide +kernel
theorem dX10_putOff_76 : decode cX10_putOff 76 = .ok (.getfield 119, 3) := by decide +kernel
theorem dX10_putOff_79 : decode cX10_putOff 79 = .ok (.iconst 0, 1) := by decide +kernel
theorem dX10_putOff_80 : decode cX10_putOff 80 = .ok (.invokevirtual 155, 3) := by decide +kernel
theorem dX10_putOff_83 : decode cX10_putOff 83 = .ok (.istore 4, 2) := by decide +kernel
theorem dX10_putOff_85 : decode cX10_putOff 85 = .ok (.iload 4, 2) := by decide +kernel
theorem dX10_putOff_87 : decode cX10_putOff 87 = .ok (.iconst (-1), 1) := by decide +kernel
theorem dX10_putOff_88 : decode cX10_putOff 88 = .ok (.if_icmp .ne 7, 3) := by decide +kernel
theorem dX10_putOff_91 : decode cX10_putOff 91 = .ok (.iconst (-1), 1) := by decide +kernel
theorem dX10_putOff_92 : decode cX10_putOff 92 = .ok (.goto 17, 3) := by decide +kernel
theorem dX10_putOff_95 : decode cX10_putOff 95 = .ok (.aload_n 0, 1) := by decide +kernel
theorem dX10_putOff_96 : decode cX10_putOff 96 = .ok (.getfield 10, 3) := by decide +kernel
theorem dX10_putOff_99 : decode cX10_putOff 99 = .ok (.getfield 119, 3) := by decide +kernel
theorem dX10_putOff_102 : decode cX10_putOff 102 = .ok (.iload 4, 2) := by decide +kernel
theorem dX10_putOff_104 : decode cX10_putOff 104 = .ok (.iconst 1, 1) := by decide +kernel
theorem dX10_putOff_105 : decode cX10_putOff 105 = .ok (.iadd, 1) := by decide +kernel
theorem dX10_putOff_106 : decode cX10_putOff 106 = .ok (.invokevirtual 155, 3) := by decide +kernel
theorem dX10_putOff_109 : decode cX10_putOff 109 = .ok (.istore 5, 2) := by decide +kernel
theorem dX10_putOff_111 : decode cX10_putOff 111 = .ok (.iload 5, 2) := by decide +kernel
theorem dX10_putOff_113 : decode cX10_putOff 113 = .ok (.iconst (-1), 1) := by decide +kernel
theorem dX10_putOff_114 : decode cX10_putOff 114 = .ok (.if_icmp .ne 10, 3) := by decide +kernel
theorem dX10_putOff_117 : decode cX10_putOff 117 = .ok (.aload_n 0, 1) := by decide +kernel
theorem dX10_putOff_118 : decode cX10_putOff 118 = .ok (.bipush (-8), 2) := by decide +kernel
theorem dX10_putOff_120 : decode cX10_putOff 120 = .ok (.invokevirtual 70, 3) := by decide +kernel
theorem dX10_putOff_123 : decode cX10_putOff 123 = .ok (.ireturn, 1) := by decide +kernel
theorem dX10_putOff_124 : decode cX10_putOff 124 = .ok (.aload_n 0, 1) := by decide +kernel
theorem dX10_putOff_125 : decode cX10_putOff 125 = .ok (.getfield 10, 3) := by decide +kernel
theorem dX10_putOff_128 : decode cX10_putOff 128 = .ok (.getfield 146, 3) := by decide +kernel
theorem dX10_putOff_131 : decode cX10_putOff 131 = .ok (.iload_n 2, 1) := by decide +kernel
theorem dX10_putOff_132 : decode cX10_putOff 132 = .ok (.iaload, 1) := by decide +kernel
theorem dX10_putOff_133 : decode cX10_putOff 133 = .ok (.aload_n 0, 1) := by decide +kernel
theorem dX10_putOff_134 : decode cX10_putOff 134 = .ok (.getfield 10, 3) := by decide +kernel
theorem dX10_putOff_137 : decode cX10_putOff 137 = .ok (.getfield 196, 3) := by decide +kernel
theorem dX10_putOff_140 : decode cX10_putOff 140 = .ok (.iconst 0, 1) := by decide +kernel
theorem dX10_putOff_141 : decode cX10_putOff 141 = .ok (.aload_n 0, 1) := by decide +kernel
theorem dX10_putOff_142 : decode cX10_putOff 142 = .ok (.getfield 10, 3) := by decide +kernel
theorem dX10_putOff_145 : decode cX10_putOff 145 = .ok (.iload_n 2, 1) := by decide +kernel
theorem dX10_putOff_146 : decode cX10_putOff 146 = .ok (.iconst (-1), 1) := by decide +kernel
theorem dX10_putOff_147 : decode cX10_putOff 147 = .ok (.invokevirtual 200, 3) := by decide +kernel
theorem dX10_putOff_150 : decode cX10_putOff 150 = .ok (.invokestatic 206, 3) := by decide +kernel
theorem dX10_putOff_153 : decode cX10_putOff 153 = .ok (.istore 6, 2) := by decide +kernel
theorem dX10_putOff_155 : decode cX10_putOff 155 = .ok (.aload_n 0, 1) := by decide +kernel
theorem dX10_putOff_156 : decode cX10_putOff 156 = .ok (.getfield 10, 3) := by decide +kernel
theorem dX10_putOff_159 : decode cX10_putOff 159 = .ok (.getfield 119, 3) := by decide +kernel
theorem dX10_putOff_162 : decode cX10_putOff 162 = .ok (.iload 4, 2) := by decide +kernel
theorem dX10_putOff_164 : decode cX10_putOff 164 = .ok (.iload_n 1, 1) := by decide +kernel
theorem dX10_putOff_165 : decode cX10_putOff 165 = .ok (.invokestatic 158, 3) := by decide +kernel
theorem dX10_putOff_168 : decode cX10_putOff 168 = .ok (.iload_n 1, 1) := by decide +kernel
theorem dX10_putOff_169 : decode cX10_putOff 169 = .ok (.invokestatic 161, 3) := by decide +kernel
theorem dX10_putOff_172 : decode cX10_putOff 172 = .ok (.iload_n 2, 1) := by decide +kernel
theorem dX10_putOff_173 : decode cX10_putOff 173 = .ok (.iload_n 3, 1) := by decide +kernel
theorem dX10_putOff_174 : decode cX10_putOff 174 = .ok (.aload_n 0, 1) := by decide +kernel
theorem dX10_putOff_175 : decode cX10_putOff 175 = .ok (.getfield 10, 3) := by decide +kernel
theorem dX10_putOff_178 : decode cX10_putOff 178 = .ok (.getfield 146, 3) := by decide +kernel
theorem dX10_putOff_181 : decode cX10_putOff 181 = .ok (.iload_n 2, 1) := by decide +kernel
theorem dX10_putOff_182 : decode cX10_putOff 182 = .ok (.iaload, 1) := by decide +kernel
theorem dX10_putOff_183 : decode cX10_putOff 183 = .ok (.aload_n 0, 1) := by decide +kernel
theorem dX10_putOff_184 : decode cX10_putOff 184 = .ok (.getfield 10, 3) := by decide +kernel
theorem dX10_putOff_187 : decode cX10_putOff 187 = .ok (.getfield 164, 3) := by decide +kernel
theorem dX10_putOff_190 : decode cX10_putOff 190 = .ok (.invokevirtual 167, 3) := by decide +kernel
theorem dX10_putOff_193 : decode cX10_putOff 193 = .ok (.aload_n 0, 1) := by decide +kernel
theorem dX10_putOff_194 : decode cX10_putOff 194 = .ok (.getfield 10, 3) := by decide +kernel
theorem dX10_putOff_197 : decode cX10_putOff 197 = .ok (.getfield 119, 3) := by decide +kernel
theorem dX10_putOff_200 : decode cX10_putOff 200 = .ok (.iload 4, 2) := by decide +kernel
theorem dX10_putOff_202 : decode cX10_putOff 202 = .ok (.aload_n 0, 1) := by decide +kernel
theorem dX10_putOff_203 : decode cX10_putOff 203 = .ok (.getfield 10, 3) := by decide +kernel
theorem dX10_putOff_206 : decode cX10_putOff 206 = .ok (.invokevirtual 138, 3) := by decide +kernel
theorem dX10_putOff_209 : decode cX10_putOff 209 = .ok (.aload_n 0, 1) := by decide +kernel
theorem dX10_putOff_210 : decode cX10_putOff 210 = .ok (.getfield 10, 3) := by decide +kernel
theorem dX10_putOff_213 : decode cX10_putOff 213 = .ok (.getfield 164, 3) := by decide +kernel
theorem dX10_putOff_216 : decode cX10_putOff 216 = .ok (.invokevirtual 209, 3) := by decide +kernel
theorem dX10_putOff_219 : decode cX10_putOff 219 = .ok (.aload_n 0, 1) := by decide +kernel
theorem dX10_putOff_220 : decode cX10_putOff 220 = .ok (.getfield 10, 3) := by decide +kernel
theorem dX10_putOff_223 : decode cX10_putOff 223 = .ok (.getfield 119, 3) := by decide +kernel
theorem dX10_putOff_226 : decode cX10_putOff 226 = .ok (.iload 5, 2) := by decide +kernel
theorem dX10_putOff_228 : decode cX10_putOff 228 = .ok (.iload_n 1, 1) := by decide +kernel
theorem dX10_putOff_229 : decode cX10_putOff 229 = .ok (.invokestatic 161, 3) := by decide +kernel
theorem dX10_putOff_232 : decode cX10_putOff 232 = .ok (.iload_n 1, 1) := by decide +kernel
theorem dX10_putOff_233 : decode cX10_putOff 233 = .ok (.invokestatic 158, 3) := by decide +kernel
theorem dX10_putOff_236 : decode cX10_putOff 236 = .ok (.iload_n 2, 1) := by decide +kernel
theorem dX10_putOff_237 : decode cX10_putOff 237 = .ok (.iload_n 3, 1) := by decide +kernel
theorem dX10_putOff_238 : decode cX10_putOff 238 = .ok (.iload 6, 2) := by decide +kernel
theorem dX10_putOff_240 : decode cX10_putOff 240 = .ok (.aload_n 0, 1) := by decide +kernel
theorem dX10_putOff_241 : decode cX10_putOff 241 = .ok (.getfield 10, 3) := by decide +kernel
theorem dX10_putOff_244 : decode cX10_putOff 244 = .ok (.getfield 164, 3) := by decide +kernel
theorem dX10_putOff_247 : decode cX10_putOff 247 = .ok (.invokevirtual 167, 3) := by decide +kernel
theorem dX10_putOff_250 : decode cX10_putOff 250 = .ok (.aload_n 0, 1) := by decide +kernel
theorem dX10_putOff_251 : decode cX10_putOff 251 = .ok (.getfield 10, 3) := by decide +kernel
theorem dX10_putOff_254 : decode cX10_putOff 254 = .ok (.getfield 119, 3) := by decide +kernel
theorem dX10_putOff_257 : decode cX10_putOff 257 = .ok (.iload 5, 2) := by decide +kernel
theorem dX10_putOff_259 : decode cX10_putOff 259 = .ok (.aload_n 0, 1) := by decide +kernel
theorem dX10_putOff_260 : decode cX10_putOff 260 = .ok (.getfield 10, 3) := by decide +kernel
theorem dX10_putOff_263 : decode cX10_putOff 263 = .ok (.invokevirtual 138, 3) := by decide +kernel
theorem dX10_putOff_266 : decode cX10_putOff 266 = .ok (.iconst 1, 1) := by decide +kernel
theorem dX10_putOff_267 : decode cX10_putOff 267 = .ok (.iadd, 1) := by decide +kernel
theorem dX10_putOff_268 : decode cX10_putOff 268 = .ok (.aload_n 0, 1) := by decide +kernel
theorem dX10_putOff_269 : decode cX10_putOff 269 = .ok (.getfield 10, 3) := by decide +kernel
theorem dX10_putOff_272 : decode cX10_putOff 272 = .ok (.getfield 164, 3) := by decide +kernel
theorem dX10_putOff_275 : decode cX10_putOff 275 = .ok (.invokevirtual 209, 3) := by decide +kernel
theorem dX10_putOff_278 : decode cX10_putOff 278 = .ok (.iload 5, 2) := by decide +kernel
theorem dX10_putOff_280 : decode cX10_putOff 280 = .ok (.ireturn, 1) := by decide +kernel
theorem dX10_option_0 : decode cX10_option 0 = .ok (.aload_n 0, 1) := by decide +kernel
theorem dX10_option_1 : decode cX10_option 1 = .ok (.iload_n 1, 1) := by decide +kernel
theorem dX10_option_2 : decode cX10_option 2 = .ok (.invokevirtual 149, 3) := by decide +kernel
theorem dX10_option_5 : decode cX10_option 5 = .ok (.ifCond .eq 11, 3) := by decide +kernel
theorem dX10_option_8 : decode cX10_option 8 = .ok (.aload_n 0, 1) := by decide +kernel
theorem dX10_option_9 : decode cX10_option 9 = .ok (.iload_n 2, 1) := by decide +kernel
theorem dX10_option_10 : decode cX10_option 10 = .ok (.invokevirtual 94, 3) := by decide +kernel
theorem dX10_option_13 : decode cX10_option 13 = .ok (.ifCond .ne 10, 3) := by decide +kernel
theorem dX10_option_16 : decode cX10_option 16 = .ok (.aload_n 0, 1) := by decide +kernel
theorem dX10_option_17 : decode cX10_option 17 = .ok (.bipush (-3), 2) := by decide +kernel
theorem dX10_option_19 : decode cX10_option 19 = .ok (.invokevirtual 70, 3) := by decide +kernel
theorem dX10_option_22 : decode cX10_option 22 = .ok (.ireturn, 1) := by decide +kernel
theorem dX10_option_23 : decode cX10_option 23 = .ok (.iload 4, 2) := by decide +kernel
theorem dX10_option_25 : decode cX10_option 25 = .ok (.sipush 10000, 3) := by decide +kernel
theorem dX10_option_28 : decode cX10_option 28 = .ok (.idiv, 1) := by decide +kernel
theorem dX10_option_29 : decode cX10_option 29 = .ok (.istore 5, 2) := by decide +kernel
theorem dX10_option_31 : decode cX10_option 31 = .ok (.iload 4, 2) := by decide +kernel
theorem dX10_option_33 : decode cX10_option 33 = .ok (.sipush 10000, 3) := by decide +kernel
theorem dX10_option_36 : decode cX10_option 36 = .ok (.irem, 1) := by decide +kernel
theorem dX10_option_37 : decode cX10_option 37 = .ok (.istore 6, 2) := by decide +kernel
theorem dX10_option_39 : decode cX10_option 39 = .ok (.iload_n 3, 1) := by decide +kernel
theorem dX10_option_40 : decode cX10_option 40 = .ok (.sipush 10000, 3) := by decide +kernel
theorem dX10_option_43 : decode cX10_option 43 = .ok (.idiv, 1) := by decide +kernel
theorem dX10_option_44 : decode cX10_option 44 = .ok (.iconst 1, 1) := by decide +kernel
theorem dX10_option_45 : decode cX10_option 45 = .ok (.bipush 99, 2) := by decide +kernel
theorem dX10_option_47 : decode cX10_option 47 = .ok (.invokestatic 66, 3) := by decide +kernel
theorem dX10_option_50 : decode cX10_option 50 = .ok (.ifCond .eq 26, 3) := by decide +kernel
theorem dX10_option_53 : decode cX10_option 53 = .ok (.iload_n 3, 1) := by decide +kernel
theorem dX10_option_54 : decode cX10_option 54 = .ok (.sipush 10000, 3) := by decide +kernel
theorem dX10_option_57 : decode cX10_option 57 = .ok (.irem, 1) := by decide +kernel
theorem dX10_option_58 : decode cX10_option 58 = .ok (.ifCond .le 18, 3) := by decide +kernel
theorem dX10_option_61 : decode cX10_option 61 = .ok (.iload 5, 2) := by decide +kernel
theorem dX10_option_63 : decode cX10_option 63 = .ok (.iconst 1, 1) := by decide +kernel
theorem dX10_option_64 : decode cX10_option 64 = .ok (.bipush 40, 2) := by decide +kernel
theorem dX10_option_66 : decode cX10_option 66 = .ok (.invokestatic 66, 3) := by decide +kernel
theorem dX10_option_69 : decode cX10_option 69 = .ok (.ifCond .eq 7, 3) := by decide +kernel
theorem dX10_option_72 : decode cX10_option 72 = .ok (.iconst 1, 1) := by decide +kernel
theorem dX10_option_73 : decode cX10_option 73 = .ok (.goto 4, 3) := by decide +kernel
theorem dX10_option_76 : decode cX10_option 76 = .ok (.iconst 0, 1) := by decide +kernel
theorem dX10_option_77 : decode cX10_option 77 = .ok (.istore 7, 2) := by decide +kernel
theorem dX10_option_79 : decode cX10_option 79 = .ok (.iload 7, 2) := by decide +kernel
theorem dX10_option_81 : decode cX10_option 81 = .ok (.ifCond .eq 33, 3) := by decide +kernel
theorem dX10_option_84 : decode cX10_option 84 = .ok (.aload_n 0, 1) := by decide +kernel
theorem dX10_option_85 : decode cX10_option 85 = .ok (.iload_n 1, 1) := by decide +kernel
theorem dX10_option_86 : decode cX10_option 86 = .ok (.invokevirtual 152, 3) := by decide +kernel
theorem dX10_option_89 : decode cX10_option 89 = .ok (.ifCond .eq 25, 3) := by decide +kernel
theorem dX10_option_92 : decode cX10_option 92 = .ok (.aload_n 0, 1) := by decide +kernel
theorem dX10_option_93 : decode cX10_option 93 = .ok (.getfield 10, 3) := by decide +kernel
theorem dX10_option_96 : decode cX10_option 96 = .ok (.getfield 74, 3) := by decide +kernel
theorem dX10_option_99 : decode cX10_option 99 = .ok (.getfield 106, 3) := by decide +kernel
theorem dX10_option_102 : decode cX10_option 102 = .ok (.iload_n 1, 1) := by decide +kernel
theorem dX10_option_103 : decode cX10_option 103 = .ok (.invokestatic 158, 3) := by decide +kernel
theorem dX10_option_106 : decode cX10_option 106 = .ok (.laload, 1) := by decide +kernel
theorem dX10_option_107 : decode cX10_option 107 = .ok (.iload 6, 2) := by decide +kernel
theorem dX10_option_109 : decode cX10_option 109 = .ok (.i2l, 1) := by decide +kernel
theorem dX10_option_110 : decode cX10_option 110 = .ok (.lcmp, 1) := by decide +kernel
theorem dX10_option_111 : decode cX10_option 111 = .ok (.ifCond .ge 10, 3) := by decide +kernel
theorem dX10_option_114 : decode cX10_option 114 = .ok (.aload_n 0, 1) := by decide +kernel
theorem dX10_option_115 : decode cX10_option 115 = .ok (.bipush (-7), 2) := by decide +kernel
theorem dX10_option_117 : decode cX10_option 117 = .ok (.invokevirtual 70, 3) := by decide +kernel
theorem dX10_option_120 : decode cX10_option 120 = .ok (.ireturn, 1) := by decide +kernel
theorem dX10_option_121 : decode cX10_option 121 = .ok (.aload_n 0, 1) := by decide +kernel
theorem dX10_option_122 : decode cX10_option 122 = .ok (.getfield 10, 3) := by decide +kernel
theorem dX10_option_125 : decode cX10_option 125 = .ok (.getfield 213, 3) := by decide +kernel
theorem dX10_option_128 : decode cX10_option 128 = .ok (.invokevirtual 217, 3) := by decide +kernel
theorem dX10_option_131 : decode cX10_option 131 = .ok (.ifCond .ne 10, 3) := by decide +kernel
theorem dX10_option_134 : decode cX10_option 134 = .ok (.aload_n 0, 1) := by decide +kernel
theorem dX10_option_135 : decode cX10_option 135 = .ok (.bipush (-8), 2) := by decide +kernel
theorem dX10_option_137 : decode cX10_option 137 = .ok (.invokevirtual 70, 3) := by decide +kernel
theorem dX10_option_140 : decode cX10_option 140 = .ok (.ireturn, 1) := by decide +kernel
theorem dX10_option_141 : decode cX10_option 141 = .ok (.aload_n 0, 1) := by decide +kernel
theorem dX10_option_142 : decode cX10_option 142 = .ok (.getfield 10, 3) := by decide +kernel
theorem dX10_option_145 : decode cX10_option 145 = .ok (.getfield 74, 3) := by decide +kernel
theorem dX10_option_148 : decode cX10_option 148 = .ok (.getfield 106, 3) := by decide +kernel
theorem dX10_option_151 : decode cX10_option 151 = .ok (.iload_n 1, 1) := by decide +kernel
theorem dX10_option_152 : decode cX10_option 152 = .ok (.invokestatic 158, 3) := by decide +kernel
theorem dX10_option_155 : decode cX10_option 155 = .ok (.dup2, 1) := by decide +kernel
theorem dX10_option_156 : decode cX10_option 156 = .ok (.laload, 1) := by decide +kernel
theorem dX10_option_157 : decode cX10_option 157 = .ok (.iload 6, 2) := by decide +kernel
theorem dX10_option_159 : decode cX10_option 159 = .ok (.i2l, 1) := by decide +kernel
theorem dX10_option_160 : decode cX10_option 160 = .ok (.lsub, 1) := by decide +kernel
theorem dX10_option_161 : decode cX10_option 161 = .ok (.lastore, 1) := by decide +kernel
theorem dX10_option_162 : decode cX10_option 162 = .ok (.aload_n 0, 1) := by decide +kernel
theorem dX10_option_163 : decode cX10_option 163 = .ok (.getfield 10, 3) := by decide +kernel
theorem dX10_option_166 : decode cX10_option 166 = .ok (.getfield 74, 3) := by decide +kernel
theorem dX10_option_169 : decode cX10_option 169 = .ok (.getfield 106, 3) := by decide +kernel
theorem dX10_option_172 : decode cX10_option 172 = .ok (.iload_n 1, 1) := by decide +kernel
theorem dX10_option_173 : decode cX10_option 173 = .ok (.invokestatic 161, 3) := by decide +kernel
theorem dX10_option_176 : decode cX10_option 176 = .ok (.dup2, 1) := by decide +kernel
theorem dX10_option_177 : decode cX10_option 177 = .ok (.laload, 1) := by decide +kernel
theorem dX10_option_178 : decode cX10_option 178 = .ok (.iload 6, 2) := by decide +kernel
theorem dX10_option_180 : decode cX10_option 180 = .ok (.i2l, 1) := by decide +kernel
theorem dX10_option_181 : decode cX10_option 181 = .ok (.ladd, 1) := by decide +kernel
theorem dX10_option_182 : decode cX10_option 182 = .ok (.lastore, 1) := by decide +kernel
theorem dX10_option_183 : decode cX10_option 183 = .ok (.aload_n 0, 1) := by decide +kernel
theorem dX10_option_184 : decode cX10_option 184 = .ok (.getfield 10, 3) := by decide +kernel
theorem dX10_option_187 : decode cX10_option 187 = .ok (.iload_n 1, 1) := by decide +kernel
