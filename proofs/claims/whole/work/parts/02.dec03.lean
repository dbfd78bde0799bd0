theorem dX10_option_188 : decode cX10_option 188 = .ok (.invokestatic 158, 3) := by decide +kernel
theorem dX10_option_191 : decode cX10_option 191 = .ok (.iload_n 1, 1) := by decide +kernel
theorem dX10_option_192 : decode cX10_option 192 = .ok (.invokestatic 161, 3) := by decide +kernel
theorem dX10_option_195 : decode cX10_option 195 = .ok (.iload_n 2, 1) := by decide +kernel
theorem dX10_option_196 : decode cX10_option 196 = .ok (.iload_n 3, 1) := by decide +kernel
theorem dX10_option_197 : decode cX10_option 197 = .ok (.aload_n 0, 1) := by decide +kernel
theorem dX10_option_198 : decode cX10_option 198 = .ok (.getfield 10, 3) := by decide +kernel
theorem dX10_option_201 : decode cX10_option 201 = .ok (.getfield 164, 3) := by decide +kernel
theorem dX10_option_204 : decode cX10_option 204 = .ok (.iload 5, 2) := by decide +kernel
theorem dX10_option_206 : decode cX10_option 206 = .ok (.iadd, 1) := by decide +kernel
theorem dX10_option_207 : decode cX10_option 207 = .ok (.iconst 1, 1) := by decide +kernel
theorem dX10_option_208 : decode cX10_option 208 = .ok (.isub, 1) := by decide +kernel
theorem dX10_option_209 : decode cX10_option 209 = .ok (.invokevirtual 223, 3) := by decide +kernel
theorem dX10_option_212 : decode cX10_option 212 = .ok (.ireturn, 1) := by decide +kernel
theorem dX10_declare_0 : decode cX10_declare 0 = .ok (.aload_n 0, 1) := by decide +kernel
theorem dX10_declare_1 : decode cX10_declare 1 = .ok (.getfield 10, 3) := by decide +kernel
theorem dX10_declare_4 : decode cX10_declare 4 = .ok (.getfield 213, 3) := by decide +kernel
theorem dX10_declare_7 : decode cX10_declare 7 = .ok (.iload_n 1, 1) := by decide +kernel
theorem dX10_declare_8 : decode cX10_declare 8 = .ok (.invokevirtual 227, 3) := by decide +kernel
theorem dX10_declare_11 : decode cX10_declare 11 = .ok (.ifCond .ne 10, 3) := by decide +kernel
theorem dX10_declare_14 : decode cX10_declare 14 = .ok (.aload_n 0, 1) := by decide +kernel
theorem dX10_declare_15 : decode cX10_declare 15 = .ok (.bipush (-3), 2) := by decide +kernel
theorem dX10_declare_17 : decode cX10_declare 17 = .ok (.invokevirtual 70, 3) := by decide +kernel
theorem dX10_declare_20 : decode cX10_declare 20 = .ok (.ireturn, 1) := by decide +kernel
theorem dX10_declare_21 : decode cX10_declare 21 = .ok (.aload_n 0, 1) := by decide +kernel
theorem dX10_declare_22 : decode cX10_declare 22 = .ok (.getfield 10, 3) := by decide +kernel
theorem dX10_declare_25 : decode cX10_declare 25 = .ok (.getfield 213, 3) := by decide +kernel
theorem dX10_declare_28 : decode cX10_declare 28 = .ok (.iload_n 1, 1) := by decide +kernel
theorem dX10_declare_29 : decode cX10_declare 29 = .ok (.bipush 6, 2) := by decide +kernel
theorem dX10_declare_31 : decode cX10_declare 31 = .ok (.invokevirtual 230, 3) := by decide +kernel
theorem dX10_declare_34 : decode cX10_declare 34 = .ok (.ifCond .eq 10, 3) := by decide +kernel
theorem dX10_declare_37 : decode cX10_declare 37 = .ok (.aload_n 0, 1) := by decide +kernel
theorem dX10_declare_38 : decode cX10_declare 38 = .ok (.bipush (-7), 2) := by decide +kernel
theorem dX10_declare_40 : decode cX10_declare 40 = .ok (.invokevirtual 70, 3) := by decide +kernel
theorem dX10_declare_43 : decode cX10_declare 43 = .ok (.ireturn, 1) := by decide +kernel
theorem dX10_declare_44 : decode cX10_declare 44 = .ok (.aload_n 0, 1) := by decide +kernel
theorem dX10_declare_45 : decode cX10_declare 45 = .ok (.getfield 10, 3) := by decide +kernel
theorem dX10_declare_48 : decode cX10_declare 48 = .ok (.getfield 119, 3) := by decide +kernel
theorem dX10_declare_51 : decode cX10_declare 51 = .ok (.iconst 0, 1) := by decide +kernel
theorem dX10_declare_52 : decode cX10_declare 52 = .ok (.invokevirtual 155, 3) := by decide +kernel
theorem dX10_declare_55 : decode cX10_declare 55 = .ok (.istore_n 2, 1) := by decide +kernel
theorem dX10_declare_56 : decode cX10_declare 56 = .ok (.iload_n 2, 1) := by decide +kernel
theorem dX10_declare_57 : decode cX10_declare 57 = .ok (.iconst (-1), 1) := by decide +kernel
theorem dX10_declare_58 : decode cX10_declare 58 = .ok (.if_icmp .ne 10, 3) := by decide +kernel
theorem dX10_declare_61 : decode cX10_declare 61 = .ok (.aload_n 0, 1) := by decide +kernel
theorem dX10_declare_62 : decode cX10_declare 62 = .ok (.bipush (-8), 2) := by decide +kernel
theorem dX10_declare_64 : decode cX10_declare 64 = .ok (.invokevirtual 70, 3) := by decide +kernel
theorem dX10_declare_67 : decode cX10_declare 67 = .ok (.ireturn, 1) := by decide +kernel
theorem dX10_declare_68 : decode cX10_declare 68 = .ok (.aload_n 0, 1) := by decide +kernel
theorem dX10_declare_69 : decode cX10_declare 69 = .ok (.getfield 10, 3) := by decide +kernel
theorem dX10_declare_72 : decode cX10_declare 72 = .ok (.iload_n 1, 1) := by decide +kernel
theorem dX10_declare_73 : decode cX10_declare 73 = .ok (.iload_n 2, 1) := by decide +kernel
theorem dX10_declare_74 : decode cX10_declare 74 = .ok (.invokevirtual 231, 3) := by decide +kernel
theorem dX10_declare_77 : decode cX10_declare 77 = .ok (.iload_n 2, 1) := by decide +kernel
theorem dX10_declare_78 : decode cX10_declare 78 = .ok (.ireturn, 1) := by decide +kernel
theorem dX10_optionOf_0 : decode cX10_optionOf 0 = .ok (.aload_n 0, 1) := by decide +kernel
theorem dX10_optionOf_1 : decode cX10_optionOf 1 = .ok (.aload_n 0, 1) := by decide +kernel
theorem dX10_optionOf_2 : decode cX10_optionOf 2 = .ok (.getfield 10, 3) := by decide +kernel
theorem dX10_optionOf_5 : decode cX10_optionOf 5 = .ok (.getfield 213, 3) := by decide +kernel
theorem dX10_optionOf_8 : decode cX10_optionOf 8 = .ok (.iload_n 1, 1) := by decide +kernel
theorem dX10_optionOf_9 : decode cX10_optionOf 9 = .ok (.iload_n 2, 1) := by decide +kernel
theorem dX10_optionOf_10 : decode cX10_optionOf 10 = .ok (.invokevirtual 234, 3) := by decide +kernel
theorem dX10_optionOf_13 : decode cX10_optionOf 13 = .ok (.ireturn, 1) := by decide +kernel
theorem dX10_dividend_0 : decode cX10_dividend 0 = .ok (.aload_n 0, 1) := by decide +kernel
theorem dX10_dividend_1 : decode cX10_dividend 1 = .ok (.iload_n 1, 1) := by decide +kernel
theorem dX10_dividend_2 : decode cX10_dividend 2 = .ok (.invokevirtual 94, 3) := by decide +kernel
theorem dX10_dividend_5 : decode cX10_dividend 5 = .ok (.ifCond .ne 10, 3) := by decide +kernel
theorem dX10_dividend_8 : decode cX10_dividend 8 = .ok (.aload_n 0, 1) := by decide +kernel
theorem dX10_dividend_9 : decode cX10_dividend 9 = .ok (.bipush (-3), 2) := by decide +kernel
theorem dX10_dividend_11 : decode cX10_dividend 11 = .ok (.invokevirtual 70, 3) := by decide +kernel
theorem dX10_dividend_14 : decode cX10_dividend 14 = .ok (.ireturn, 1) := by decide +kernel
theorem dX10_dividend_15 : decode cX10_dividend 15 = .ok (.iload_n 2, 1) := by decide +kernel
theorem dX10_dividend_16 : decode cX10_dividend 16 = .ok (.aload_n 0, 1) := by decide +kernel
theorem dX10_dividend_17 : decode cX10_dividend 17 = .ok (.getfield 10, 3) := by decide +kernel
theorem dX10_dividend_20 : decode cX10_dividend 20 = .ok (.getfield 164, 3) := by decide +kernel
theorem dX10_dividend_23 : decode cX10_dividend 23 = .ok (.sipush 699, 3) := by decide +kernel
theorem dX10_dividend_26 : decode cX10_dividend 26 = .ok (.invokestatic 66, 3) := by decide +kernel
theorem dX10_dividend_29 : decode cX10_dividend 29 = .ok (.ifCond .eq 14, 3) := by decide +kernel
theorem dX10_dividend_32 : decode cX10_dividend 32 = .ok (.iload_n 3, 1) := by decide +kernel
theorem dX10_dividend_33 : decode cX10_dividend 33 = .ok (.iconst 1, 1) := by decide +kernel
theorem dX10_dividend_34 : decode cX10_dividend 34 = .ok (.sipush 999, 3) := by decide +kernel
theorem dX10_dividend_37 : decode cX10_dividend 37 = .ok (.invokestatic 66, 3) := by decide +kernel
theorem dX10_dividend_40 : decode cX10_dividend 40 = .ok (.ifCond .ne 10, 3) := by decide +kernel
theorem dX10_dividend_43 : decode cX10_dividend 43 = .ok (.aload_n 0, 1) := by decide +kernel
theorem dX10_dividend_44 : decode cX10_dividend 44 = .ok (.bipush (-7), 2) := by decide +kernel
theorem dX10_dividend_46 : decode cX10_dividend 46 = .ok (.invokevirtual 70, 3) := by decide +kernel
theorem dX10_dividend_49 : decode cX10_dividend 49 = .ok (.ireturn, 1) := by decide +kernel
theorem dX10_dividend_50 : decode cX10_dividend 50 = .ok (.aload_n 0, 1) := by decide +kernel
theorem dX10_dividend_51 : decode cX10_dividend 51 = .ok (.getfield 10, 3) := by decide +kernel
theorem dX10_dividend_54 : decode cX10_dividend 54 = .ok (.getfield 238, 3) := by decide +kernel
theorem dX10_dividend_57 : decode cX10_dividend 57 = .ok (.invokevirtual 217, 3) := by decide +kernel
theorem dX10_dividend_60 : decode cX10_dividend 60 = .ok (.ifCond .ne 10, 3) := by decide +kernel
theorem dX10_dividend_63 : decode cX10_dividend 63 = .ok (.aload_n 0, 1) := by decide +kernel
theorem dX10_dividend_64 : decode cX10_dividend 64 = .ok (.bipush (-8), 2) := by decide +kernel
theorem dX10_dividend_66 : decode cX10_dividend 66 = .ok (.invokevirtual 70, 3) := by decide +kernel
theorem dX10_dividend_69 : decode cX10_dividend 69 = .ok (.ireturn, 1) := by decide +kernel
theorem dX10_dividend_70 : decode cX10_dividend 70 = .ok (.aload_n 0, 1) := by decide +kernel
theorem dX10_dividend_71 : decode cX10_dividend 71 = .ok (.getfield 10, 3) := by decide +kernel
theorem dX10_dividend_74 : decode cX10_dividend 74 = .ok (.iload_n 1, 1) := by decide +kernel
theorem dX10_dividend_75 : decode cX10_dividend 75 = .ok (.iload_n 2, 1) := by decide +kernel
theorem dX10_dividend_76 : decode cX10_dividend 76 = .ok (.iload_n 3, 1) := by decide +kernel
theorem dX10_dividend_77 : decode cX10_dividend 77 = .ok (.invokevirtual 241, 3) := by decide +kernel
theorem dX10_dividend_80 : decode cX10_dividend 80 = .ok (.ireturn, 1) := by decide +kernel
theorem dX10_feed_0 : decode cX10_feed 0 = .ok (.iload_n 2, 1) := by decide +kernel
theorem dX10_feed_1 : decode cX10_feed 1 = .ok (.ifCond .ge 10, 3) := by decide +kernel
theorem dX10_feed_4 : decode cX10_feed 4 = .ok (.aload_n 0, 1) := by decide +kernel
theorem dX10_feed_5 : decode cX10_feed 5 = .ok (.bipush (-4), 2) := by decide +kernel
theorem dX10_feed_7 : decode cX10_feed 7 = .ok (.invokevirtual 70, 3) := by decide +kernel
theorem dX10_feed_10 : decode cX10_feed 10 = .ok (.ireturn, 1) := by decide +kernel
theorem dX10_feed_11 : decode cX10_feed 11 = .ok (.iload_n 2, 1) := by decide +kernel
theorem dX10_feed_12 : decode cX10_feed 12 = .ok (.iconst 4, 1) := by decide +kernel
theorem dX10_feed_13 : decode cX10_feed 13 = .ok (.if_icmp .le 10, 3) := by decide +kernel
theorem dX10_feed_16 : decode cX10_feed 16 = .ok (.aload_n 0, 1) := by decide +kernel
theorem dX10_feed_17 : decode cX10_feed 17 = .ok (.bipush (-7), 2) := by decide +kernel
theorem dX10_feed_19 : decode cX10_feed 19 = .ok (.invokevirtual 70, 3) := by decide +kernel
theorem dX10_feed_22 : decode cX10_feed 22 = .ok (.ireturn, 1) := by decide +kernel
theorem dX10_feed_23 : decode cX10_feed 23 = .ok (.aload_n 0, 1) := by decide +kernel
theorem dX10_feed_24 : decode cX10_feed 24 = .ok (.getfield 22, 3) := by decide +kernel
theorem dX10_feed_27 : decode cX10_feed 27 = .ok (.getfield 244, 3) := by decide +kernel
theorem dX10_feed_30 : decode cX10_feed 30 = .ok (.iload_n 2, 1) := by decide +kernel
theorem dX10_feed_31 : decode cX10_feed 31 = .ok (.iadd, 1) := by decide +kernel
theorem dX10_feed_32 : decode cX10_feed 32 = .ok (.bipush 120, 2) := by decide +kernel
theorem dX10_feed_34 : decode cX10_feed 34 = .ok (.if_icmp .le 10, 3) := by decide +kernel
theorem dX10_feed_37 : decode cX10_feed 37 = .ok (.aload_n 0, 1) := by decide +kernel
theorem dX10_feed_38 : decode cX10_feed 38 = .ok (.bipush (-8), 2) := by decide +kernel
theorem dX10_feed_40 : decode cX10_feed 40 = .ok (.invokevirtual 70, 3) := by decide +kernel
theorem dX10_feed_43 : decode cX10_feed 43 = .ok (.ireturn, 1) := by decide +kernel
theorem dX10_feed_44 : decode cX10_feed 44 = .ok (.aload_n 0, 1) := by decide +kernel
theorem dX10_feed_45 : decode cX10_feed 45 = .ok (.getfield 22, 3) := by decide +kernel
theorem dX10_feed_48 : decode cX10_feed 48 = .ok (.iload_n 1, 1) := by decide +kernel
theorem dX10_feed_49 : decode cX10_feed 49 = .ok (.iload_n 2, 1) := by decide +kernel
theorem dX10_feed_50 : decode cX10_feed 50 = .ok (.invokevirtual 245, 3) := by decide +kernel
theorem dX10_feed_53 : decode cX10_feed 53 = .ok (.aload_n 0, 1) := by decide +kernel
theorem dX10_feed_54 : decode cX10_feed 54 = .ok (.getfield 22, 3) := by decide +kernel
theorem dX10_feed_57 : decode cX10_feed 57 = .ok (.getfield 244, 3) := by decide +kernel
theorem dX10_feed_60 : decode cX10_feed 60 = .ok (.ireturn, 1) := by decide +kernel
theorem dX10_wipe_0 : decode cX10_wipe 0 = .ok (.aload_n 0, 1) := by decide +kernel
theorem dX10_wipe_1 : decode cX10_wipe 1 = .ok (.getfield 22, 3) := by decide +kernel
theorem dX10_wipe_4 : decode cX10_wipe 4 = .ok (.getfield 244, 3) := by decide +kernel
theorem dX10_wipe_7 : decode cX10_wipe 7 = .ok (.istore_n 1, 1) := by decide +kernel
theorem dX10_wipe_8 : decode cX10_wipe 8 = .ok (.aload_n 0, 1) := by decide +kernel
theorem dX10_wipe_9 : decode cX10_wipe 9 = .ok (.getfield 22, 3) := by decide +kernel
theorem dX10_wipe_12 : decode cX10_wipe 12 = .ok (.iconst 0, 1) := by decide +kernel
theorem dX10_wipe_13 : decode cX10_wipe 13 = .ok (.putfield 244, 3) := by decide +kernel
theorem dX10_wipe_16 : decode cX10_wipe 16 = .ok (.iload_n 1, 1) := by decide +kernel
theorem dX10_wipe_17 : decode cX10_wipe 17 = .ok (.ireturn, 1) := by decide +kernel
theorem dX10_rule_0 : decode cX10_rule 0 = .ok (.iload_n 1, 1) := by decide +kernel
theorem dX10_rule_1 : decode cX10_rule 1 = .ok (.ifCond .lt 15, 3) := by decide +kernel
theorem dX10_rule_4 : decode cX10_rule 4 = .ok (.iload_n 1, 1) := by decide +kernel
theorem dX10_rule_5 : decode cX10_rule 5 = .ok (.iload_n 2, 1) := by decide +kernel
theorem dX10_rule_6 : decode cX10_rule 6 = .ok (.if_icmp .ge 10, 3) := by decide +kernel
theorem dX10_rule_9 : decode cX10_rule 9 = .ok (.iload_n 2, 1) := by decide +kernel
theorem dX10_rule_10 : decode cX10_rule 10 = .ok (.sipush 1000, 3) := by decide +kernel
theorem dX10_rule_13 : decode cX10_rule 13 = .ok (.if_icmp .le 10, 3) := by decide +kernel
theorem dX10_rule_16 : decode cX10_rule 16 = .ok (.aload_n 0, 1) := by decide +kernel
theorem dX10_rule_17 : decode cX10_rule 17 = .ok (.bipush (-7), 2) := by decide +kernel
theorem dX10_rule_19 : decode cX10_rule 19 = .ok (.invokevirtual 70, 3) := by decide +kernel
theorem dX10_rule_22 : decode cX10_rule 22 = .ok (.ireturn, 1) := by decide +kernel
theorem dX10_rule_23 : decode cX10_rule 23 = .ok (.aload_n 0, 1) := by decide +kernel
theorem dX10_rule_24 : decode cX10_rule 24 = .ok (.getfield 10, 3) := by decide +kernel
theorem dX10_rule_27 : decode cX10_rule 27 = .ok (.getfield 196, 3) := by decide +kernel
theorem dX10_rule_30 : decode cX10_rule 30 = .ok (.getfield 248, 3) := by decide +kernel
theorem dX10_rule_33 : decode cX10_rule 33 = .ok (.invokevirtual 217, 3) := by decide +kernel
theorem dX10_rule_36 : decode cX10_rule 36 = .ok (.ifCond .ne 10, 3) := by decide +kernel
theorem dX10_rule_39 : decode cX10_rule 39 = .ok (.aload_n 0, 1) := by decide +kernel
theorem dX10_rule_40 : decode cX10_rule 40 = .ok (.bipush (-8), 2) := by decide +kernel
theorem dX10_rule_42 : decode cX10_rule 42 = .ok (.invokevirtual 70, 3) := by decide +kernel
theorem dX10_rule_45 : decode cX10_rule 45 = .ok (.ireturn, 1) := by decide +kernel
theorem dX10_rule_46 : decode cX10_rule 46 = .ok (.aload_n 0, 1) := by decide +kernel
theorem dX10_rule_47 : decode cX10_rule 47 = .ok (.getfield 22, 3) := by decide +kernel
theorem dX10_rule_50 : decode cX10_rule 50 = .ok (.invokevirtual 251, 3) := by decide +kernel
theorem dX10_rule_53 : decode cX10_rule 53 = .ok (.ifCond .ne 14, 3) := by decide +kernel
theorem dX10_rule_56 : decode cX10_rule 56 = .ok (.bipush (-10), 2) := by decide +kernel
theorem dX10_rule_58 : decode cX10_rule 58 = .ok (.aload_n 0, 1) := by decide +kernel
theorem dX10_rule_59 : decode cX10_rule 59 = .ok (.getfield 22, 3) := by decide +kernel
theorem dX10_rule_62 : decode cX10_rule 62 = .ok (.invokevirtual 254, 3) := by decide +kernel
theorem dX10_rule_65 : decode cX10_rule 65 = .ok (.isub, 1) := by decide +kernel
theorem dX10_rule_66 : decode cX10_rule 66 = .ok (.ireturn, 1) := by decide +kernel
theorem dX10_rule_67 : decode cX10_rule 67 = .ok (.aload_n 0, 1) := by decide +kernel
theorem dX10_rule_68 : decode cX10_rule 68 = .ok (.getfield 10, 3) := by decide +kernel
theorem dX10_rule_71 : decode cX10_rule 71 = .ok (.getfield 196, 3) := by decide +kernel
theorem dX10_rule_74 : decode cX10_rule 74 = .ok (.aload_n 0, 1) := by decide +kernel
theorem dX10_rule_75 : decode cX10_rule 75 = .ok (.getfield 22, 3) := by decide +kernel
theorem dX10_rule_78 : decode cX10_rule 78 = .ok (.iload_n 1, 1) := by decide +kernel
theorem dX10_rule_79 : decode cX10_rule 79 = .ok (.iload_n 2, 1) := by decide +kernel
theorem dX10_rule_80 : decode cX10_rule 80 = .ok (.invokevirtual 257, 3) := by decide +kernel
theorem dX10_rule_83 : decode cX10_rule 83 = .ok (.istore_n 3, 1) := by decide +kernel
theorem dX10_rule_84 : decode cX10_rule 84 = .ok (.aload_n 0, 1) := by decide +kernel
theorem dX10_rule_85 : decode cX10_rule 85 = .ok (.getfield 22, 3) := by decide +kernel
theorem dX10_rule_88 : decode cX10_rule 88 = .ok (.iconst 0, 1) := by decide +kernel
theorem dX10_rule_89 : decode cX10_rule 89 = .ok (.putfield 244, 3) := by decide +kernel
theorem dX10_rule_92 : decode cX10_rule 92 = .ok (.iload_n 3, 1) := by decide +kernel
theorem dX10_rule_93 : decode cX10_rule 93 = .ok (.ireturn, 1) := by decide +kernel
theorem dX10_says_0 : decode cX10_says 0 = .ok (.iload_n 1, 1) := by decide +kernel
theorem dX10_says_1 : decode cX10_says 1 = .ok (.iconst 0, 1) := by decide +kernel
theorem dX10_says_2 : decode cX10_says 2 = .ok (.iconst 5, 1) := by decide +kernel
theorem dX10_says_3 : decode cX10_says 3 = .ok (.invokestatic 66, 3) := by decide +kernel
theorem dX10_says_6 : decode cX10_says 6 = .ok (.ifCond .eq 11, 3) := by decide +kernel
theorem dX10_says_9 : decode cX10_says 9 = .ok (.aload_n 0, 1) := by decide +kernel
theorem dX10_says_10 : decode cX10_says 10 = .ok (.iload_n 2, 1) := by decide +kernel
theorem dX10_says_11 : decode cX10_says 11 = .ok (.invokevirtual 260, 3) := by decide +kernel
theorem dX10_says_14 : decode cX10_says 14 = .ok (.ifCond .ne 10, 3) := by decide +kernel
theorem dX10_says_17 : decode cX10_says 17 = .ok (.aload_n 0, 1) := by decide +kernel
theorem dX10_says_18 : decode cX10_says 18 = .ok (.bipush (-3), 2) := by decide +kernel
theorem dX10_says_20 : decode cX10_says 20 = .ok (.invokevirtual 128, 3) := by decide +kernel
theorem dX10_says_23 : decode cX10_says 23 = .ok (.ireturn, 1) := by decide +kernel
theorem dX10_says_24 : decode cX10_says 24 = .ok (.aload_n 0, 1) := by decide +kernel
theorem dX10_says_25 : decode cX10_says 25 = .ok (.getfield 10, 3) := by decide +kernel
theorem dX10_says_28 : decode cX10_says 28 = .ok (.getfield 196, 3) := by decide +kernel
theorem dX10_says_31 : decode cX10_says 31 = .ok (.iload_n 1, 1) := by decide +kernel
theorem dX10_says_32 : decode cX10_says 32 = .ok (.aload_n 0, 1) := by decide +kernel
theorem dX10_says_33 : decode cX10_says 33 = .ok (.getfield 10, 3) := by decide +kernel
theorem dX10_says_36 : decode cX10_says 36 = .ok (.aload_n 0, 1) := by decide +kernel
theorem dX10_says_37 : decode cX10_says 37 = .ok (.iload_n 2, 1) := by decide +kernel
theorem dX10_says_38 : decode cX10_says 38 = .ok (.invokevirtual 263, 3) := by decide +kernel
theorem dX10_says_41 : decode cX10_says 41 = .ok (.aload_n 0, 1) := by decide +kernel
theorem dX10_says_42 : decode cX10_says 42 = .ok (.iload_n 2, 1) := by decide +kernel
theorem dX10_says_43 : decode cX10_says 43 = .ok (.invokevirtual 266, 3) := by decide +kernel
theorem dX10_says_46 : decode cX10_says 46 = .ok (.invokevirtual 200, 3) := by decide +kernel
theorem dX10_says_49 : decode cX10_says 49 = .ok (.ireturn, 1) := by decide +kernel
theorem dX10_why_0 : decode cX10_why 0 = .ok (.iload_n 1, 1) := by decide +kernel
theorem dX10_why_1 : decode cX10_why 1 = .ok (.iconst 0, 1) := by decide +kernel
theorem dX10_why_2 : decode cX10_why 2 = .ok (.iconst 5, 1) := by decide +kernel
theorem dX10_why_3 : decode cX10_why 3 = .ok (.invokestatic 66, 3) := by decide +kernel
theorem dX10_why_6 : decode cX10_why 6 = .ok (.ifCond .eq 11, 3) := by decide +kernel
theorem dX10_why_9 : decode cX10_why 9 = .ok (.aload_n 0, 1) := by decide +kernel
theorem dX10_why_10 : decode cX10_why 10 = .ok (.iload_n 2, 1) := by decide +kernel
theorem dX10_why_11 : decode cX10_why 11 = .ok (.invokevirtual 260, 3) := by decide +kernel
theorem dX10_why_14 : decode cX10_why 14 = .ok (.ifCond .ne 10, 3) := by decide +kernel
theorem dX10_why_17 : decode cX10_why 17 = .ok (.aload_n 0, 1) := by decide +kernel
theorem dX10_why_18 : decode cX10_why 18 = .ok (.bipush (-3), 2) := by decide +kernel
theorem dX10_why_20 : decode cX10_why 20 = .ok (.invokevirtual 70, 3) := by decide +kernel
theorem dX10_why_23 : decode cX10_why 23 = .ok (.ireturn, 1) := by decide +kernel
theorem dX10_why_24 : decode cX10_why 24 = .ok (.aload_n 0, 1) := by decide +kernel
theorem dX10_why_25 : decode cX10_why 25 = .ok (.getfield 10, 3) := by decide +kernel
theorem dX10_why_28 : decode cX10_why 28 = .ok (.getfield 196, 3) := by decide +kernel
theorem dX10_why_31 : decode cX10_why 31 = .ok (.iload_n 1, 1) := by decide +kernel
theorem dX10_why_32 : decode cX10_why 32 = .ok (.aload_n 0, 1) := by decide +kernel
theorem dX10_why_33 : decode cX10_why 33 = .ok (.getfield 10, 3) := by decide +kernel
theorem dX10_why_36 : decode cX10_why 36 = .ok (.aload_n 0, 1) := by decide +kernel
theorem dX10_why_37 : decode cX10_why 37 = .ok (.iload_n 2, 1) := by decide +kernel
theorem dX10_why_38 : decode cX10_why 38 = .ok (.invokevirtual 263, 3) := by decide +kernel
theorem dX10_why_41 : decode cX10_why 41 = .ok (.aload_n 0, 1) := by decide +kernel
theorem dX10_why_42 : decode cX10_why 42 = .ok (.iload_n 2, 1) := by decide +kernel
theorem dX10_why_43 : decode cX10_why 43 = .ok (.invokevirtual 266, 3) := by decide +kernel
theorem dX10_why_46 : decode cX10_why 46 = .ok (.invokevirtual 269, 3) := by decide +kernel
theorem dX10_why_49 : decode cX10_why 49 = .ok (.ireturn, 1) := by decide +kernel
theorem dX10_run_0 : decode cX10_run 0 = .ok (.iload_n 1, 1) := by decide +kernel
theorem dX10_run_1 : decode cX10_run 1 = .ok (.ifCond .ge 10, 3) := by decide +kernel
theorem dX10_run_4 : decode cX10_run 4 = .ok (.aload_n 0, 1) := by decide +kernel
theorem dX10_run_5 : decode cX10_run 5 = .ok (.bipush (-4), 2) := by decide +kernel
theorem dX10_run_7 : decode cX10_run 7 = .ok (.invokevirtual 70, 3) := by decide +kernel
theorem dX10_run_10 : decode cX10_run 10 = .ok (.ireturn, 1) := by decide +kernel
theorem dX10_run_11 : decode cX10_run 11 = .ok (.iload_n 1, 1) := by decide +kernel
theorem dX10_run_12 : decode cX10_run 12 = .ok (.iconst 1, 1) := by decide +kernel
theorem dX10_run_13 : decode cX10_run 13 = .ok (.bipush 28, 2) := by decide +kernel
theorem dX10_run_15 : decode cX10_run 15 = .ok (.invokestatic 66, 3) := by decide +kernel
theorem dX10_run_18 : decode cX10_run 18 = .ok (.ifCond .ne 10, 3) := by decide +kernel
theorem dX10_run_21 : decode cX10_run 21 = .ok (.aload_n 0, 1) := by decide +kernel
theorem dX10_run_22 : decode cX10_run 22 = .ok (.bipush (-7), 2) := by decide +kernel
theorem dX10_run_24 : decode cX10_run 24 = .ok (.invokevirtual 70, 3) := by decide +kernel
theorem dX10_run_27 : decode cX10_run 27 = .ok (.ireturn, 1) := by decide +kernel
theorem dX10_run_28 : decode cX10_run 28 = .ok (.aload_n 0, 1) := by decide +kernel
theorem dX10_run_29 : decode cX10_run 29 = .ok (.getfield 10, 3) := by decide +kernel
theorem dX10_run_32 : decode cX10_run 32 = .ok (.getfield 164, 3) := by decide +kernel
theorem dX10_run_35 : decode cX10_run 35 = .ok (.iload_n 1, 1) := by decide +kernel
theorem dX10_run_36 : decode cX10_run 36 = .ok (.iadd, 1) := by decide +kernel
theorem dX10_run_37 : decode cX10_run 37 = .ok (.sipush 700, 3) := by decide +kernel
theorem dX10_run_40 : decode cX10_run 40 = .ok (.if_icmp .le 10, 3) := by decide +kernel
theorem dX10_run_43 : decode cX10_run 43 = .ok (.aload_n 0, 1) := by decide +kernel
theorem dX10_run_44 : decode cX10_run 44 = .ok (.bipush (-8), 2) := by decide +kernel
theorem dX10_run_46 : decode cX10_run 46 = .ok (.invokevirtual 70, 3) := by decide +kernel
theorem dX10_run_49 : decode cX10_run 49 = .ok (.ireturn, 1) := by decide +kernel
theorem dX10_run_50 : decode cX10_run 50 = .ok (.iconst 0, 1) := by decide +kernel
theorem dX10_run_51 : decode cX10_run 51 = .ok (.istore_n 2, 1) := by decide +kernel
theorem dX10_run_52 : decode cX10_run 52 = .ok (.iconst 0, 1) := by decide +kernel
theorem dX10_run_53 : decode cX10_run 53 = .ok (.istore_n 3, 1) := by decide +kernel
theorem dX10_run_54 : decode cX10_run 54 = .ok (.iload_n 3, 1) := by decide +kernel
theorem dX10_run_55 : decode cX10_run 55 = .ok (.iload_n 1, 1) := by decide +kernel
theorem dX10_run_56 : decode cX10_run 56 = .ok (.if_icmp .ge 141, 3) := by decide +kernel
theorem dX10_run_59 : decode cX10_run 59 = .ok (.aload_n 0, 1) := by decide +kernel
theorem dX10_run_60 : decode cX10_run 60 = .ok (.getfield 29, 3) := by decide +kernel
theorem dX10_run_63 : decode cX10_run 63 = .ok (.aload_n 0, 1) := by decide +kernel
theorem dX10_run_64 : decode cX10_run 64 = .ok (.getfield 10, 3) := by decide +kernel
theorem dX10_run_67 : decode cX10_run 67 = .ok (.invokevirtual 272, 3) := by decide +kernel
theorem dX10_run_70 : decode cX10_run 70 = .ok (.aload_n 0, 1) := by decide +kernel
theorem dX10_run_71 : decode cX10_run 71 = .ok (.getfield 29, 3) := by decide +kernel
theorem dX10_run_74 : decode cX10_run 74 = .ok (.aload_n 0, 1) := by decide +kernel
theorem dX10_run_75 : decode cX10_run 75 = .ok (.getfield 10, 3) := by decide +kernel
theorem dX10_run_78 : decode cX10_run 78 = .ok (.invokevirtual 276, 3) := by decide +kernel
theorem dX10_run_81 : decode cX10_run 81 = .ok (.aload_n 0, 1) := by decide +kernel
theorem dX10_run_82 : decode cX10_run 82 = .ok (.getfield 10, 3) := by decide +kernel
theorem dX10_run_85 : decode cX10_run 85 = .ok (.invokevirtual 194, 3) := by decide +kernel
theorem dX10_run_88 : decode cX10_run 88 = .ok (.bipush 9, 2) := by decide +kernel
theorem dX10_run_90 : decode cX10_run 90 = .ok (.if_icmp .ne 14, 3) := by decide +kernel
theorem dX10_run_93 : decode cX10_run 93 = .ok (.aload_n 0, 1) := by decide +kernel
theorem dX10_run_94 : decode cX10_run 94 = .ok (.getfield 29, 3) := by decide +kernel
theorem dX10_run_97 : decode cX10_run 97 = .ok (.aload_n 0, 1) := by decide +kernel
theorem dX10_run_98 : decode cX10_run 98 = .ok (.getfield 10, 3) := by decide +kernel
theorem dX10_run_101 : decode cX10_run 101 = .ok (.invokevirtual 279, 3) := by decide +kernel
theorem dX10_run_104 : decode cX10_run 104 = .ok (.aload_n 0, 1) := by decide +kernel
theorem dX10_run_105 : decode cX10_run 105 = .ok (.getfield 10, 3) := by decide +kernel
theorem dX10_run_108 : decode cX10_run 108 = .ok (.invokevirtual 194, 3) := by decide +kernel
theorem dX10_run_111 : decode cX10_run 111 = .ok (.bipush 11, 2) := by decide +kernel
theorem dX10_run_113 : decode cX10_run 113 = .ok (.if_icmp .ne 21, 3) := by decide +kernel
theorem dX10_run_116 : decode cX10_run 116 = .ok (.aload_n 0, 1) := by decide +kernel
theorem dX10_run_117 : decode cX10_run 117 = .ok (.getfield 36, 3) := by decide +kernel
theorem dX10_run_120 : decode cX10_run 120 = .ok (.aload_n 0, 1) := by decide +kernel
theorem dX10_run_121 : decode cX10_run 121 = .ok (.getfield 10, 3) := by decide +kernel
theorem dX10_run_124 : decode cX10_run 124 = .ok (.aload_n 0, 1) := by decide +kernel
theorem dX10_run_125 : decode cX10_run 125 = .ok (.getfield 10, 3) := by decide +kernel
theorem dX10_run_128 : decode cX10_run 128 = .ok (.invokevirtual 138, 3) := by decide +kernel
theorem dX10_run_131 : decode cX10_run 131 = .ok (.invokevirtual 282, 3) := by decide +kernel
theorem dX10_run_134 : decode cX10_run 134 = .ok (.aload_n 0, 1) := by decide +kernel
theorem dX10_run_135 : decode cX10_run 135 = .ok (.getfield 10, 3) := by decide +kernel
theorem dX10_run_138 : decode cX10_run 138 = .ok (.invokevirtual 194, 3) := by decide +kernel
theorem dX10_run_141 : decode cX10_run 141 = .ok (.bipush 12, 2) := by decide +kernel
theorem dX10_run_143 : decode cX10_run 143 = .ok (.if_icmp .ne 24, 3) := by decide +kernel
theorem dX10_run_146 : decode cX10_run 146 = .ok (.iload_n 2, 1) := by decide +kernel
theorem dX10_run_147 : decode cX10_run 147 = .ok (.aload_n 0, 1) := by decide +kernel
theorem dX10_run_148 : decode cX10_run 148 = .ok (.getfield 43, 3) := by decide +kernel
theorem dX10_run_151 : decode cX10_run 151 = .ok (.aload_n 0, 1) := by decide +kernel
theorem dX10_run_152 : decode cX10_run 152 = .ok (.getfield 10, 3) := by decide +kernel
theorem dX10_run_155 : decode cX10_run 155 = .ok (.aload_n 0, 1) := by decide +kernel
theorem dX10_run_156 : decode cX10_run 156 = .ok (.getfield 10, 3) := by decide +kernel
theorem dX10_run_159 : decode cX10_run 159 = .ok (.invokevirtual 138, 3) := by decide +kernel
theorem dX10_run_162 : decode cX10_run 162 = .ok (.invokevirtual 286, 3) := by decide +kernel
theorem dX10_run_165 : decode cX10_run 165 = .ok (.iadd, 1) := by decide +kernel
theorem dX10_run_166 : decode cX10_run 166 = .ok (.istore_n 2, 1) := by decide +kernel
theorem dX10_run_167 : decode cX10_run 167 = .ok (.aload_n 0, 1) := by decide +kernel
theorem dX10_run_168 : decode cX10_run 168 = .ok (.getfield 29, 3) := by decide +kernel
theorem dX10_run_171 : decode cX10_run 171 = .ok (.aload_n 0, 1) := by decide +kernel
theorem dX10_run_172 : decode cX10_run 172 = .ok (.getfield 10, 3) := by decide +kernel
theorem dX10_run_175 : decode cX10_run 175 = .ok (.invokevirtual 290, 3) := by decide +kernel
theorem dX10_run_178 : decode cX10_run 178 = .ok (.aload_n 0, 1) := by decide +kernel
theorem dX10_run_179 : decode cX10_run 179 = .ok (.getfield 10, 3) := by decide +kernel
theorem dX10_run_182 : decode cX10_run 182 = .ok (.dup, 1) := by decide +kernel
theorem dX10_run_183 : decode cX10_run 183 = .ok (.getfield 164, 3) := by decide +kernel
theorem dX10_run_186 : decode cX10_run 186 = .ok (.iconst 1, 1) := by decide +kernel
theorem dX10_run_187 : decode cX10_run 187 = .ok (.iadd, 1) := by decide +kernel
theorem dX10_run_188 : decode cX10_run 188 = .ok (.putfield 164, 3) := by decide +kernel
theorem dX10_run_191 : decode cX10_run 191 = .ok (.iinc 3 1, 3) := by decide +kernel
theorem dX10_run_194 : decode cX10_run 194 = .ok (.goto (-140), 3) := by decide +kernel
theorem dX10_run_197 : decode cX10_run 197 = .ok (.iload_n 2, 1) := by decide +kernel
theorem dX10_run_198 : decode cX10_run 198 = .ok (.ireturn, 1) := by decide +kernel
theorem dX10_pass_0 : decode cX10_pass 0 = .ok (.aload_n 0, 1) := by decide +kernel
theorem dX10_pass_1 : decode cX10_pass 1 = .ok (.getfield 10, 3) := by decide +kernel
theorem dX10_pass_4 : decode cX10_pass 4 = .ok (.getfield 293, 3) := by decide +kernel
theorem dX10_pass_7 : decode cX10_pass 7 = .ok (.ifCond .eq 19, 3) := by decide +kernel
theorem dX10_pass_10 : decode cX10_pass 10 = .ok (.aload_n 0, 1) := by decide +kernel
theorem dX10_pass_11 : decode cX10_pass 11 = .ok (.aload_n 0, 1) := by decide +kernel
theorem dX10_pass_12 : decode cX10_pass 12 = .ok (.getfield 10, 3) := by decide +kernel
theorem dX10_pass_15 : decode cX10_pass 15 = .ok (.getfield 297, 3) := by decide +kernel
theorem dX10_pass_18 : decode cX10_pass 18 = .ok (.iload_n 1, 1) := by decide +kernel
theorem dX10_pass_19 : decode cX10_pass 19 = .ok (.iload_n 2, 1) := by decide +kernel
theorem dX10_pass_20 : decode cX10_pass 20 = .ok (.invokevirtual 234, 3) := by decide +kernel
theorem dX10_pass_23 : decode cX10_pass 23 = .ok (.goto 9, 3) := by decide +kernel
theorem dX10_pass_26 : decode cX10_pass 26 = .ok (.aload_n 0, 1) := by decide +kernel
theorem dX10_pass_27 : decode cX10_pass 27 = .ok (.bipush (-2), 2) := by decide +kernel
theorem dX10_pass_29 : decode cX10_pass 29 = .ok (.invokevirtual 70, 3) := by decide +kernel
theorem dX10_pass_32 : decode cX10_pass 32 = .ok (.ireturn, 1) := by decide +kernel
theorem dX10_delivery_0 : decode cX10_delivery 0 = .ok (.aload_n 0, 1) := by decide +kernel
theorem dX10_delivery_1 : decode cX10_delivery 1 = .ok (.getfield 10, 3) := by decide +kernel
theorem dX10_delivery_4 : decode cX10_delivery 4 = .ok (.getfield 293, 3) := by decide +kernel
theorem dX10_delivery_7 : decode cX10_delivery 7 = .ok (.ifCond .eq 19, 3) := by decide +kernel
theorem dX10_delivery_10 : decode cX10_delivery 10 = .ok (.aload_n 0, 1) := by decide +kernel
theorem dX10_delivery_11 : decode cX10_delivery 11 = .ok (.aload_n 0, 1) := by decide +kernel
theorem dX10_delivery_12 : decode cX10_delivery 12 = .ok (.getfield 10, 3) := by decide +kernel
theorem dX10_delivery_15 : decode cX10_delivery 15 = .ok (.getfield 300, 3) := by decide +kernel
theorem dX10_delivery_18 : decode cX10_delivery 18 = .ok (.iload_n 1, 1) := by decide +kernel
theorem dX10_delivery_19 : decode cX10_delivery 19 = .ok (.iload_n 2, 1) := by decide +kernel
theorem dX10_delivery_20 : decode cX10_delivery 20 = .ok (.invokevirtual 234, 3) := by decide +kernel
theorem dX10_delivery_23 : decode cX10_delivery 23 = .ok (.goto 9, 3) := by decide +kernel
theorem dX10_delivery_26 : decode cX10_delivery 26 = .ok (.aload_n 0, 1) := by decide +kernel
theorem dX10_delivery_27 : decode cX10_delivery 27 = .ok (.bipush (-2), 2) := by decide +kernel
theorem dX10_delivery_29 : decode cX10_delivery 29 = .ok (.invokevirtual 70, 3) := by decide +kernel
theorem dX10_delivery_32 : decode cX10_delivery 32 = .ok (.ireturn, 1) := by decide +kernel
theorem dX10_settled_0 : decode cX10_settled 0 = .ok (.aload_n 0, 1) := by decide +kernel
theorem dX10_settled_1 : decode cX10_settled 1 = .ok (.getfield 10, 3) := by decide +kernel
theorem dX10_settled_4 : decode cX10_settled 4 = .ok (.getfield 303, 3) := by decide +kernel
theorem dX10_settled_7 : decode cX10_settled 7 = .ok (.ifCond .ne 11, 3) := by decide +kernel
theorem dX10_settled_10 : decode cX10_settled 10 = .ok (.aload_n 0, 1) := by decide +kernel
theorem dX10_settled_11 : decode cX10_settled 11 = .ok (.bipush (-2), 2) := by decide +kernel
theorem dX10_settled_13 : decode cX10_settled 13 = .ok (.invokevirtual 128, 3) := by decide +kernel
theorem dX10_settled_16 : decode cX10_settled 16 = .ok (.i2l, 1) := by decide +kernel
theorem dX10_settled_17 : decode cX10_settled 17 = .ok (.lreturn, 1) := by decide +kernel
theorem dX10_settled_18 : decode cX10_settled 18 = .ok (.aload_n 0, 1) := by decide +kernel
theorem dX10_settled_19 : decode cX10_settled 19 = .ok (.iload_n 1, 1) := by decide +kernel
theorem dX10_settled_20 : decode cX10_settled 20 = .ok (.invokevirtual 90, 3) := by decide +kernel
theorem dX10_settled_23 : decode cX10_settled 23 = .ok (.ifCond .ne 11, 3) := by decide +kernel
theorem dX10_settled_26 : decode cX10_settled 26 = .ok (.aload_n 0, 1) := by decide +kernel
theorem dX10_settled_27 : decode cX10_settled 27 = .ok (.bipush (-3), 2) := by decide +kernel
theorem dX10_settled_29 : decode cX10_settled 29 = .ok (.invokevirtual 128, 3) := by decide +kernel
theorem dX10_settled_32 : decode cX10_settled 32 = .ok (.i2l, 1) := by decide +kernel
theorem dX10_settled_33 : decode cX10_settled 33 = .ok (.lreturn, 1) := by decide +kernel
theorem dX10_settled_34 : decode cX10_settled 34 = .ok (.iload_n 2, 1) := by decide +kernel
theorem dX10_settled_35 : decode cX10_settled 35 = .ok (.iconst 0, 1) := by decide +kernel
theorem dX10_settled_36 : decode cX10_settled 36 = .ok (.iconst 4, 1) := by decide +kernel
theorem dX10_settled_37 : decode cX10_settled 37 = .ok (.invokestatic 66, 3) := by decide +kernel
theorem dX10_settled_40 : decode cX10_settled 40 = .ok (.ifCond .ne 11, 3) := by decide +kernel
theorem dX10_settled_43 : decode cX10_settled 43 = .ok (.aload_n 0, 1) := by decide +kernel
theorem dX10_settled_44 : decode cX10_settled 44 = .ok (.bipush (-7), 2) := by decide +kernel
theorem dX10_settled_46 : decode cX10_settled 46 = .ok (.invokevirtual 128, 3) := by decide +kernel
theorem dX10_settled_49 : decode cX10_settled 49 = .ok (.i2l, 1) := by decide +kernel
theorem dX10_settled_50 : decode cX10_settled 50 = .ok (.lreturn, 1) := by decide +kernel
theorem dX10_settled_51 : decode cX10_settled 51 = .ok (.aload_n 0, 1) := by decide +kernel
theorem dX10_settled_52 : decode cX10_settled 52 = .ok (.getfield 10, 3) := by decide +kernel
theorem dX10_settled_55 : decode cX10_settled 55 = .ok (.getfield 306, 3) := by decide +kernel
theorem dX10_settled_58 : decode cX10_settled 58 = .ok (.iload_n 1, 1) := by decide +kernel
theorem dX10_settled_59 : decode cX10_settled 59 = .ok (.iconst 5, 1) := by decide +kernel
theorem dX10_settled_60 : decode cX10_settled 60 = .ok (.imul, 1) := by decide +kernel
theorem dX10_settled_61 : decode cX10_settled 61 = .ok (.iload_n 2, 1) := by decide +kernel
theorem dX10_settled_62 : decode cX10_settled 62 = .ok (.iadd, 1) := by decide +kernel
theorem dX10_settled_63 : decode cX10_settled 63 = .ok (.laload, 1) := by decide +kernel
theorem dX10_settled_64 : decode cX10_settled 64 = .ok (.lreturn, 1) := by decide +kernel
theorem dX10_least_0 : decode cX10_least 0 = .ok (.aload_n 0, 1) := by decide +kernel
theorem dX10_least_1 : decode cX10_least 1 = .ok (.iload_n 1, 1) := by decide +kernel
theorem dX10_least_2 : decode cX10_least 2 = .ok (.invokevirtual 94, 3) := by decide +kernel
theorem dX10_least_5 : decode cX10_least 5 = .ok (.ifCond .ne 10, 3) := by decide +kernel
theorem dX10_least_8 : decode cX10_least 8 = .ok (.aload_n 0, 1) := by decide +kernel
theorem dX10_least_9 : decode cX10_least 9 = .ok (.bipush (-3), 2) := by decide +kernel
theorem dX10_least_11 : decode cX10_least 11 = .ok (.invokevirtual 70, 3) := by decide +kernel
theorem dX10_least_14 : decode cX10_least 14 = .ok (.ireturn, 1) := by decide +kernel
theorem dX10_least_15 : decode cX10_least 15 = .ok (.iload_n 2, 1) := by decide +kernel
theorem dX10_least_16 : decode cX10_least 16 = .ok (.ifCond .ge 10, 3) := by decide +kernel
theorem dX10_least_19 : decode cX10_least 19 = .ok (.aload_n 0, 1) := by decide +kernel
theorem dX10_least_20 : decode cX10_least 20 = .ok (.bipush (-7), 2) := by decide +kernel
theorem dX10_least_22 : decode cX10_least 22 = .ok (.invokevirtual 70, 3) := by decide +kernel
theorem dX10_least_25 : decode cX10_least 25 = .ok (.ireturn, 1) := by decide +kernel
theorem dX10_least_26 : decode cX10_least 26 = .ok (.aload_n 0, 1) := by decide +kernel
theorem dX10_least_27 : decode cX10_least 27 = .ok (.getfield 50, 3) := by decide +kernel
theorem dX10_least_30 : decode cX10_least 30 = .ok (.aload_n 0, 1) := by decide +kernel
theorem dX10_least_31 : decode cX10_least 31 = .ok (.getfield 10, 3) := by decide +kernel
theorem dX10_least_34 : decode cX10_least 34 = .ok (.iload_n 1, 1) := by decide +kernel
theorem dX10_least_35 : decode cX10_least 35 = .ok (.iload_n 2, 1) := by decide +kernel
theorem dX10_least_36 : decode cX10_least 36 = .ok (.invokevirtual 309, 3) := by decide +kernel
theorem dX10_least_39 : decode cX10_least 39 = .ok (.istore_n 3, 1) := by decide +kernel
theorem dX10_least_40 : decode cX10_least 40 = .ok (.iload_n 3, 1) := by decide +kernel
theorem dX10_least_41 : decode cX10_least 41 = .ok (.iconst (-1), 1) := by decide +kernel
theorem dX10_least_42 : decode cX10_least 42 = .ok (.if_icmp .ne 12, 3) := by decide +kernel
theorem dX10_least_45 : decode cX10_least 45 = .ok (.aload_n 0, 1) := by decide +kernel
theorem dX10_least_46 : decode cX10_least 46 = .ok (.bipush (-5), 2) := by decide +kernel
theorem dX10_least_48 : decode cX10_least 48 = .ok (.invokevirtual 70, 3) := by decide +kernel
theorem dX10_least_51 : decode cX10_least 51 = .ok (.goto 4, 3) := by decide +kernel
theorem dX10_least_54 : decode cX10_least 54 = .ok (.iload_n 3, 1) := by decide +kernel
theorem dX10_least_55 : decode cX10_least 55 = .ok (.ireturn, 1) := by decide +kernel
theorem dX10_judge_0 : decode cX10_judge 0 = .ok (.aload_n 0, 1) := by decide +kernel
theorem dX10_judge_1 : decode cX10_judge 1 = .ok (.iload_n 1, 1) := by decide +kernel
theorem dX10_judge_2 : decode cX10_judge 2 = .ok (.invokevirtual 94, 3) := by decide +kernel
theorem dX10_judge_5 : decode cX10_judge 5 = .ok (.ifCond .ne 10, 3) := by decide +kernel
theorem dX10_judge_8 : decode cX10_judge 8 = .ok (.aload_n 0, 1) := by decide +kernel
theorem dX10_judge_9 : decode cX10_judge 9 = .ok (.bipush (-3), 2) := by decide +kernel
theorem dX10_judge_11 : decode cX10_judge 11 = .ok (.invokevirtual 70, 3) := by decide +kernel
theorem dX10_judge_14 : decode cX10_judge 14 = .ok (.ireturn, 1) := by decide +kernel
theorem dX10_judge_15 : decode cX10_judge 15 = .ok (.iload_n 2, 1) := by decide +kernel
theorem dX10_judge_16 : decode cX10_judge 16 = .ok (.ifCond .ge 10, 3) := by decide +kernel
theorem dX10_judge_19 : decode cX10_judge 19 = .ok (.aload_n 0, 1) := by decide +kernel
theorem dX10_judge_20 : decode cX10_judge 20 = .ok (.bipush (-7), 2) := by decide +kernel
theorem dX10_judge_22 : decode cX10_judge 22 = .ok (.invokevirtual 70, 3) := by decide +kernel
theorem dX10_judge_25 : decode cX10_judge 25 = .ok (.ireturn, 1) := by decide +kernel
theorem dX10_judge_26 : decode cX10_judge 26 = .ok (.aload_n 0, 1) := by decide +kernel
theorem dX10_judge_27 : decode cX10_judge 27 = .ok (.getfield 58, 3) := by decide +kernel
theorem dX10_judge_30 : decode cX10_judge 30 = .ok (.iconst (-1), 1) := by decide +kernel
theorem dX10_judge_31 : decode cX10_judge 31 = .ok (.if_icmp .ne 10, 3) := by decide +kernel
theorem dX10_judge_34 : decode cX10_judge 34 = .ok (.aload_n 0, 1) := by decide +kernel
theorem dX10_judge_35 : decode cX10_judge 35 = .ok (.bipush (-2), 2) := by decide +kernel
theorem dX10_judge_37 : decode cX10_judge 37 = .ok (.invokevirtual 70, 3) := by decide +kernel
theorem dX10_judge_40 : decode cX10_judge 40 = .ok (.ireturn, 1) := by decide +kernel
theorem dX10_judge_41 : decode cX10_judge 41 = .ok (.aload_n 0, 1) := by decide +kernel
theorem dX10_judge_42 : decode cX10_judge 42 = .ok (.getfield 58, 3) := by decide +kernel
theorem dX10_judge_45 : decode cX10_judge 45 = .ok (.iconst 3, 1) := by decide +kernel
theorem dX10_judge_46 : decode cX10_judge 46 = .ok (.irem, 1) := by decide +kernel
theorem dX10_judge_47 : decode cX10_judge 47 = .ok (.ifCond .eq 10, 3) := by decide +kernel
theorem dX10_judge_50 : decode cX10_judge 50 = .ok (.aload_n 0, 1) := by decide +kernel
theorem dX10_judge_51 : decode cX10_judge 51 = .ok (.bipush (-5), 2) := by decide +kernel
theorem dX10_judge_53 : decode cX10_judge 53 = .ok (.invokevirtual 70, 3) := by decide +kernel
theorem dX10_judge_56 : decode cX10_judge 56 = .ok (.ireturn, 1) := by decide +kernel
theorem dX10_judge_57 : decode cX10_judge 57 = .ok (.aload_n 0, 1) := by decide +kernel
theorem dX10_judge_58 : decode cX10_judge 58 = .ok (.getfield 50, 3) := by decide +kernel
theorem dX10_judge_61 : decode cX10_judge 61 = .ok (.aload_n 0, 1) := by decide +kernel
theorem dX10_judge_62 : decode cX10_judge 62 = .ok (.getfield 10, 3) := by decide +kernel
theorem dX10_judge_65 : decode cX10_judge 65 = .ok (.iload_n 1, 1) := by decide +kernel
theorem dX10_judge_66 : decode cX10_judge 66 = .ok (.iload_n 2, 1) := by decide +kernel
theorem dX10_judge_67 : decode cX10_judge 67 = .ok (.aload_n 0, 1) := by decide +kernel
theorem dX10_judge_68 : decode cX10_judge 68 = .ok (.getfield 54, 3) := by decide +kernel
theorem dX10_judge_71 : decode cX10_judge 71 = .ok (.aload_n 0, 1) := by decide +kernel
theorem dX10_judge_72 : decode cX10_judge 72 = .ok (.getfield 58, 3) := by decide +kernel
theorem dX10_judge_75 : decode cX10_judge 75 = .ok (.invokevirtual 313, 3) := by decide +kernel
theorem dX10_judge_78 : decode cX10_judge 78 = .ok (.ifCond .eq 12, 3) := by decide +kernel
theorem dX10_judge_81 : decode cX10_judge 81 = .ok (.aload_n 0, 1) := by decide +kernel
theorem dX10_judge_82 : decode cX10_judge 82 = .ok (.getfield 58, 3) := by decide +kernel
theorem dX10_judge_85 : decode cX10_judge 85 = .ok (.iconst 3, 1) := by decide +kernel
theorem dX10_judge_86 : decode cX10_judge 86 = .ok (.idiv, 1) := by decide +kernel
theorem dX10_judge_87 : decode cX10_judge 87 = .ok (.goto 4, 3) := by decide +kernel
theorem dX10_judge_90 : decode cX10_judge 90 = .ok (.iconst (-1), 1) := by decide +kernel
theorem dX10_judge_91 : decode cX10_judge 91 = .ok (.ireturn, 1) := by decide +kernel
theorem dX10_corner_0 : decode cX10_corner 0 = .ok (.aload_n 0, 1) := by decide +kernel
theorem dX10_corner_1 : decode cX10_corner 1 = .ok (.iload_n 1, 1) := by decide +kernel
theorem dX10_corner_2 : decode cX10_corner 2 = .ok (.invokevirtual 94, 3) := by decide +kernel
theorem dX10_corner_5 : decode cX10_corner 5 = .ok (.ifCond .eq 11, 3) := by decide +kernel
theorem dX10_corner_8 : decode cX10_corner 8 = .ok (.aload_n 0, 1) := by decide +kernel
theorem dX10_corner_9 : decode cX10_corner 9 = .ok (.iload_n 2, 1) := by decide +kernel
theorem dX10_corner_10 : decode cX10_corner 10 = .ok (.invokevirtual 90, 3) := by decide +kernel
theorem dX10_corner_13 : decode cX10_corner 13 = .ok (.ifCond .ne 10, 3) := by decide +kernel
theorem dX10_corner_16 : decode cX10_corner 16 = .ok (.aload_n 0, 1) := by decide +kernel
theorem dX10_corner_17 : decode cX10_corner 17 = .ok (.bipush (-3), 2) := by decide +kernel
theorem dX10_corner_19 : decode cX10_corner 19 = .ok (.invokevirtual 70, 3) := by decide +kernel
theorem dX10_corner_22 : decode cX10_corner 22 = .ok (.ireturn, 1) := by decide +kernel
theorem dX10_corner_23 : decode cX10_corner 23 = .ok (.iload_n 3, 1) := by decide +kernel
theorem dX10_corner_24 : decode cX10_corner 24 = .ok (.iconst 0, 1) := by decide +kernel
theorem dX10_corner_25 : decode cX10_corner 25 = .ok (.iconst 2, 1) := by decide +kernel
theorem dX10_corner_26 : decode cX10_corner 26 = .ok (.invokestatic 66, 3) := by decide +kernel
theorem dX10_corner_29 : decode cX10_corner 29 = .ok (.ifCond .ne 10, 3) := by decide +kernel
theorem dX10_corner_32 : decode cX10_corner 32 = .ok (.aload_n 0, 1) := by decide +kernel
theorem dX10_corner_33 : decode cX10_corner 33 = .ok (.bipush (-7), 2) := by decide +kernel
theorem dX10_corner_35 : decode cX10_corner 35 = .ok (.invokevirtual 70, 3) := by decide +kernel
theorem dX10_corner_38 : decode cX10_corner 38 = .ok (.ireturn, 1) := by decide +kernel
theorem dX10_corner_39 : decode cX10_corner 39 = .ok (.aload_n 0, 1) := by decide +kernel
theorem dX10_corner_40 : decode cX10_corner 40 = .ok (.getfield 50, 3) := by decide +kernel
theorem dX10_corner_43 : decode cX10_corner 43 = .ok (.aload_n 0, 1) := by decide +kernel
theorem dX10_corner_44 : decode cX10_corner 44 = .ok (.getfield 10, 3) := by decide +kernel
theorem dX10_corner_47 : decode cX10_corner 47 = .ok (.iload_n 1, 1) := by decide +kernel
theorem dX10_corner_48 : decode cX10_corner 48 = .ok (.iload_n 2, 1) := by decide +kernel
theorem dX10_corner_49 : decode cX10_corner 49 = .ok (.invokevirtual 317, 3) := by decide +kernel
theorem dX10_corner_52 : decode cX10_corner 52 = .ok (.istore 4, 2) := by decide +kernel
theorem dX10_corner_54 : decode cX10_corner 54 = .ok (.aload_n 0, 1) := by decide +kernel
theorem dX10_corner_55 : decode cX10_corner 55 = .ok (.getfield 50, 3) := by decide +kernel
theorem dX10_corner_58 : decode cX10_corner 58 = .ok (.aload_n 0, 1) := by decide +kernel
theorem dX10_corner_59 : decode cX10_corner 59 = .ok (.getfield 10, 3) := by decide +kernel
theorem dX10_corner_62 : decode cX10_corner 62 = .ok (.iload_n 1, 1) := by decide +kernel
theorem dX10_corner_63 : decode cX10_corner 63 = .ok (.iload_n 2, 1) := by decide +kernel
theorem dX10_corner_64 : decode cX10_corner 64 = .ok (.invokevirtual 320, 3) := by decide +kernel
theorem dX10_corner_67 : decode cX10_corner 67 = .ok (.istore 5, 2) := by decide +kernel
theorem dX10_corner_69 : decode cX10_corner 69 = .ok (.iload_n 3, 1) := by decide +kernel
theorem dX10_corner_70 : decode cX10_corner 70 = .ok (.lookupswitch 39 #[(0, 26), (1, 36)], 26) := by decide +kernel
theorem dX10_corner_96 : decode cX10_corner 96 = .ok (.iload 4, 2) := by decide +kernel
theorem dX10_corner_98 : decode cX10_corner 98 = .ok (.iload 5, 2) := by decide +kernel
theorem dX10_corner_100 : decode cX10_corner 100 = .ok (.isub, 1) := by decide +kernel
theorem dX10_corner_101 : decode cX10_corner 101 = .ok (.iconst 0, 1) := by decide +kernel
theorem dX10_corner_102 : decode cX10_corner 102 = .ok (.invokestatic 323, 3) := by decide +kernel
theorem dX10_corner_105 : decode cX10_corner 105 = .ok (.ireturn, 1) := by decide +kernel
theorem dX10_corner_106 : decode cX10_corner 106 = .ok (.iload 4, 2) := by decide +kernel
theorem dX10_corner_108 : decode cX10_corner 108 = .ok (.ireturn, 1) := by decide +kernel
theorem dX10_corner_109 : decode cX10_corner 109 = .ok (.iload 5, 2) := by decide +kernel
theorem dX10_corner_111 : decode cX10_corner 111 = .ok (.ireturn, 1) := by decide +kernel
theorem dX10_squeeze_0 : decode cX10_squeeze 0 = .ok (.aload_n 0, 1) := by decide +kernel
theorem dX10_squeeze_1 : decode cX10_squeeze 1 = .ok (.iload_n 1, 1) := by decide +kernel
theorem dX10_squeeze_2 : decode cX10_squeeze 2 = .ok (.invokevirtual 94, 3) := by decide +kernel
theorem dX10_squeeze_5 : decode cX10_squeeze 5 = .ok (.ifCond .eq 11, 3) := by decide +kernel
theorem dX10_squeeze_8 : decode cX10_squeeze 8 = .ok (.aload_n 0, 1) := by decide +kernel
theorem dX10_squeeze_9 : decode cX10_squeeze 9 = .ok (.iload_n 2, 1) := by decide +kernel
theorem dX10_squeeze_10 : decode cX10_squeeze 10 = .ok (.invokevirtual 90, 3) := by decide +kernel
theorem dX10_squeeze_13 : decode cX10_squeeze 13 = .ok (.ifCond .ne 11, 3) := by decide +kernel
theorem dX10_squeeze_16 : decode cX10_squeeze 16 = .ok (.aload_n 0, 1) := by decide +kernel
theorem dX10_squeeze_17 : decode cX10_squeeze 17 = .ok (.bipush (-3), 2) := by decide +kernel
theorem dX10_squeeze_19 : decode cX10_squeeze 19 = .ok (.invokevirtual 128, 3) := by decide +kernel
theorem dX10_squeeze_22 : decode cX10_squeeze 22 = .ok (.i2l, 1) := by decide +kernel
theorem dX10_squeeze_23 : decode cX10_squeeze 23 = .ok (.lreturn, 1) := by decide +kernel
theorem dX10_squeeze_24 : decode cX10_squeeze 24 = .ok (.aload_n 0, 1) := by decide +kernel
theorem dX10_squeeze_25 : decode cX10_squeeze 25 = .ok (.getfield 50, 3) := by decide +kernel
theorem dX10_squeeze_28 : decode cX10_squeeze 28 = .ok (.aload_n 0, 1) := by decide +kernel
theorem dX10_squeeze_29 : decode cX10_squeeze 29 = .ok (.getfield 10, 3) := by decide +kernel
theorem dX10_squeeze_32 : decode cX10_squeeze 32 = .ok (.iload_n 1, 1) := by decide +kernel
theorem dX10_squeeze_33 : decode cX10_squeeze 33 = .ok (.iload_n 2, 1) := by decide +kernel
theorem dX10_squeeze_34 : decode cX10_squeeze 34 = .ok (.invokevirtual 328, 3) := by decide +kernel
theorem dX10_squeeze_37 : decode cX10_squeeze 37 = .ok (.lreturn, 1) := by decide +kernel
theorem dX10_rolling_0 : decode cX10_rolling 0 = .ok (.iload_n 1, 1) := by decide +kernel
theorem dX10_rolling_1 : decode cX10_rolling 1 = .ok (.ifCond .lt 13, 3) := by decide +kernel
theorem dX10_rolling_4 : decode cX10_rolling 4 = .ok (.iload_n 2, 1) := by decide +kernel
theorem dX10_rolling_5 : decode cX10_rolling 5 = .ok (.iconst 0, 1) := by decide +kernel
theorem dX10_rolling_6 : decode cX10_rolling 6 = .ok (.bipush 28, 2) := by decide +kernel
theorem dX10_rolling_8 : decode cX10_rolling 8 = .ok (.invokestatic 66, 3) := by decide +kernel
theorem dX10_rolling_11 : decode cX10_rolling 11 = .ok (.ifCond .ne 10, 3) := by decide +kernel
theorem dX10_rolling_14 : decode cX10_rolling 14 = .ok (.aload_n 0, 1) := by decide +kernel
theorem dX10_rolling_15 : decode cX10_rolling 15 = .ok (.bipush (-7), 2) := by decide +kernel
theorem dX10_rolling_17 : decode cX10_rolling 17 = .ok (.invokevirtual 70, 3) := by decide +kernel
theorem dX10_rolling_20 : decode cX10_rolling 20 = .ok (.ireturn, 1) := by decide +kernel
theorem dX10_rolling_21 : decode cX10_rolling 21 = .ok (.aload_n 0, 1) := by decide +kernel
theorem dX10_rolling_22 : decode cX10_rolling 22 = .ok (.getfield 50, 3) := by decide +kernel
theorem dX10_rolling_25 : decode cX10_rolling 25 = .ok (.aload_n 0, 1) := by decide +kernel
theorem dX10_rolling_26 : decode cX10_rolling 26 = .ok (.getfield 10, 3) := by decide +kernel
theorem dX10_rolling_29 : decode cX10_rolling 29 = .ok (.iload_n 1, 1) := by decide +kernel
theorem dX10_rolling_30 : decode cX10_rolling 30 = .ok (.iload_n 2, 1) := by decide +kernel
theorem dX10_rolling_31 : decode cX10_rolling 31 = .ok (.invokevirtual 332, 3) := by decide +kernel
theorem dX10_rolling_34 : decode cX10_rolling 34 = .ok (.ireturn, 1) := by decide +kernel
theorem dX10_clearing_0 : decode cX10_clearing 0 = .ok (.iload_n 1, 1) := by decide +kernel
theorem dX10_clearing_1 : decode cX10_clearing 1 = .ok (.ifCond .ge 12, 3) := by decide +kernel
theorem dX10_clearing_4 : decode cX10_clearing 4 = .ok (.aload_n 0, 1) := by decide +kernel
theorem dX10_clearing_5 : decode cX10_clearing 5 = .ok (.bipush (-7), 2) := by decide +kernel
theorem dX10_clearing_7 : decode cX10_clearing 7 = .ok (.invokevirtual 70, 3) := by decide +kernel
theorem dX10_clearing_10 : decode cX10_clearing 10 = .ok (.goto 15, 3) := by decide +kernel
theorem dX10_clearing_13 : decode cX10_clearing 13 = .ok (.aload_n 0, 1) := by decide +kernel
theorem dX10_clearing_14 : decode cX10_clearing 14 = .ok (.getfield 50, 3) := by decide +kernel
theorem dX10_clearing_17 : decode cX10_clearing 17 = .ok (.aload_n 0, 1) := by decide +kernel
theorem dX10_clearing_18 : decode cX10_clearing 18 = .ok (.getfield 10, 3) := by decide +kernel
theorem dX10_clearing_21 : decode cX10_clearing 21 = .ok (.iload_n 1, 1) := by decide +kernel
theorem dX10_clearing_22 : decode cX10_clearing 22 = .ok (.invokevirtual 335, 3) := by decide +kernel
theorem dX10_clearing_25 : decode cX10_clearing 25 = .ok (.ireturn, 1) := by decide +kernel
theorem dX10_count_0 : decode cX10_count 0 = .ok (.iload_n 1, 1) := by decide +kernel
theorem dX10_count_1 : decode cX10_count 1 = .ok (.tableswitch 224 0 15 #[79, 87, 95, 103, 114, 122, 122, 122, 122, 136, 147, 161, 169, 191, 202, 213], 79) := by decide +kernel
theorem dX10_count_80 : decode cX10_count 80 = .ok (.aload_n 0, 1) := by decide +kernel
theorem dX10_count_81 : decode cX10_count 81 = .ok (.getfield 10, 3) := by decide +kernel
theorem dX10_count_84 : decode cX10_count 84 = .ok (.getfield 164, 3) := by decide +kernel
theorem dX10_count_87 : decode cX10_count 87 = .ok (.ireturn, 1) := by decide +kernel
theorem dX10_count_88 : decode cX10_count 88 = .ok (.aload_n 0, 1) := by decide +kernel
theorem dX10_count_89 : decode cX10_count 89 = .ok (.getfield 10, 3) := by decide +kernel
theorem dX10_count_92 : decode cX10_count 92 = .ok (.invokevirtual 194, 3) := by decide +kernel
theorem dX10_count_95 : decode cX10_count 95 = .ok (.ireturn, 1) := by decide +kernel
theorem dX10_count_96 : decode cX10_count 96 = .ok (.aload_n 0, 1) := by decide +kernel
theorem dX10_count_97 : decode cX10_count 97 = .ok (.getfield 10, 3) := by decide +kernel
theorem dX10_count_100 : decode cX10_count 100 = .ok (.invokevirtual 138, 3) := by decide +kernel
theorem dX10_count_103 : decode cX10_count 103 = .ok (.ireturn, 1) := by decide +kernel
theorem dX10_count_104 : decode cX10_count 104 = .ok (.aload_n 0, 1) := by decide +kernel
theorem dX10_count_105 : decode cX10_count 105 = .ok (.getfield 10, 3) := by decide +kernel
theorem dX10_count_108 : decode cX10_count 108 = .ok (.getfield 74, 3) := by decide +kernel
theorem dX10_count_111 : decode cX10_count 111 = .ok (.getfield 78, 3) := by decide +kernel
theorem dX10_count_114 : decode cX10_count 114 = .ok (.ireturn, 1) := by decide +kernel
theorem dX10_count_115 : decode cX10_count 115 = .ok (.aload_n 0, 1) := by decide +kernel
theorem dX10_count_116 : decode cX10_count 116 = .ok (.getfield 10, 3) := by decide +kernel
theorem dX10_count_119 : decode cX10_count 119 = .ok (.getfield 87, 3) := by decide +kernel
theorem dX10_count_122 : decode cX10_count 122 = .ok (.ireturn, 1) := by decide +kernel
theorem dX10_count_123 : decode cX10_count 123 = .ok (.aload_n 0, 1) := by decide +kernel
theorem dX10_count_124 : decode cX10_count 124 = .ok (.getfield 10, 3) := by decide +kernel
theorem dX10_count_127 : decode cX10_count 127 = .ok (.getfield 119, 3) := by decide +kernel
theorem dX10_count_130 : decode cX10_count 130 = .ok (.iload_n 1, 1) := by decide +kernel
theorem dX10_count_131 : decode cX10_count 131 = .ok (.iconst 5, 1) := by decide +kernel
theorem dX10_count_132 : decode cX10_count 132 = .ok (.isub, 1) := by decide +kernel
theorem dX10_count_133 : decode cX10_count 133 = .ok (.invokevirtual 338, 3) := by decide +kernel
theorem dX10_count_136 : decode cX10_count 136 = .ok (.ireturn, 1) := by decide +kernel
theorem dX10_count_137 : decode cX10_count 137 = .ok (.aload_n 0, 1) := by decide +kernel
theorem dX10_count_138 : decode cX10_count 138 = .ok (.getfield 10, 3) := by decide +kernel
theorem dX10_count_141 : decode cX10_count 141 = .ok (.getfield 213, 3) := by decide +kernel
theorem dX10_count_144 : decode cX10_count 144 = .ok (.getfield 341, 3) := by decide +kernel
theorem dX10_count_147 : decode cX10_count 147 = .ok (.ireturn, 1) := by decide +kernel
theorem dX10_count_148 : decode cX10_count 148 = .ok (.aload_n 0, 1) := by decide +kernel
theorem dX10_count_149 : decode cX10_count 149 = .ok (.getfield 10, 3) := by decide +kernel
theorem dX10_count_152 : decode cX10_count 152 = .ok (.getfield 196, 3) := by decide +kernel
theorem dX10_count_155 : decode cX10_count 155 = .ok (.getfield 248, 3) := by decide +kernel
theorem dX10_count_158 : decode cX10_count 158 = .ok (.getfield 341, 3) := by decide +kernel
theorem dX10_count_161 : decode cX10_count 161 = .ok (.ireturn, 1) := by decide +kernel
theorem dX10_count_162 : decode cX10_count 162 = .ok (.aload_n 0, 1) := by decide +kernel
theorem dX10_count_163 : decode cX10_count 163 = .ok (.getfield 22, 3) := by decide +kernel
theorem dX10_count_166 : decode cX10_count 166 = .ok (.getfield 244, 3) := by decide +kernel
theorem dX10_count_169 : decode cX10_count 169 = .ok (.ireturn, 1) := by decide +kernel
theorem dX10_count_170 : decode cX10_count 170 = .ok (.aload_n 0, 1) := by decide +kernel
theorem dX10_count_171 : decode cX10_count 171 = .ok (.getfield 10, 3) := by decide +kernel
theorem dX10_count_174 : decode cX10_count 174 = .ok (.getfield 74, 3) := by decide +kernel
theorem dX10_count_177 : decode cX10_count 177 = .ok (.getfield 78, 3) := by decide +kernel
theorem dX10_count_180 : decode cX10_count 180 = .ok (.aload_n 0, 1) := by decide +kernel
theorem dX10_count_181 : decode cX10_count 181 = .ok (.getfield 10, 3) := by decide +kernel
theorem dX10_count_184 : decode cX10_count 184 = .ok (.getfield 74, 3) := by decide +kernel
theorem dX10_count_187 : decode cX10_count 187 = .ok (.invokevirtual 342, 3) := by decide +kernel
theorem dX10_count_190 : decode cX10_count 190 = .ok (.isub, 1) := by decide +kernel
theorem dX10_count_191 : decode cX10_count 191 = .ok (.ireturn, 1) := by decide +kernel
theorem dX10_count_192 : decode cX10_count 192 = .ok (.aload_n 0, 1) := by decide +kernel
theorem dX10_count_193 : decode cX10_count 193 = .ok (.getfield 10, 3) := by decide +kernel
theorem dX10_count_196 : decode cX10_count 196 = .ok (.getfield 297, 3) := by decide +kernel
theorem dX10_count_199 : decode cX10_count 199 = .ok (.getfield 341, 3) := by decide +kernel
theorem dX10_count_202 : decode cX10_count 202 = .ok (.ireturn, 1) := by decide +kernel
theorem dX10_count_203 : decode cX10_count 203 = .ok (.aload_n 0, 1) := by decide +kernel
theorem dX10_count_204 : decode cX10_count 204 = .ok (.getfield 10, 3) := by decide +kernel
theorem dX10_count_207 : decode cX10_count 207 = .ok (.getfield 300, 3) := by decide +kernel
theorem dX10_count_210 : decode cX10_count 210 = .ok (.getfield 341, 3) := by decide +kernel
theorem dX10_count_213 : decode cX10_count 213 = .ok (.ireturn, 1) := by decide +kernel
theorem dX10_count_214 : decode cX10_count 214 = .ok (.aload_n 0, 1) := by decide +kernel
theorem dX10_count_215 : decode cX10_count 215 = .ok (.getfield 10, 3) := by decide +kernel
theorem dX10_count_218 : decode cX10_count 218 = .ok (.getfield 238, 3) := by decide +kernel
theorem dX10_count_221 : decode cX10_count 221 = .ok (.getfield 341, 3) := by decide +kernel
theorem dX10_count_224 : decode cX10_count 224 = .ok (.ireturn, 1) := by decide +kernel
theorem dX10_count_225 : decode cX10_count 225 = .ok (.aload_n 0, 1) := by decide +kernel
theorem dX10_count_226 : decode cX10_count 226 = .ok (.bipush (-7), 2) := by decide +kernel
theorem dX10_count_228 : decode cX10_count 228 = .ok (.invokevirtual 70, 3) := by decide +kernel
theorem dX10_count_231 : decode cX10_count 231 = .ok (.ireturn, 1) := by decide +kernel
theorem dX10_image_0 : decode cX10_image 0 = .ok (.aload_n 0, 1) := by decide +kernel
theorem dX10_image_1 : decode cX10_image 1 = .ok (.getfield 16, 3) := by decide +kernel
theorem dX10_image_4 : decode cX10_image 4 = .ok (.ifnonnull 14, 3) := by decide +kernel
theorem dX10_image_7 : decode cX10_image 7 = .ok (.aload_n 0, 1) := by decide +kernel
theorem dX10_image_8 : decode cX10_image 8 = .ok (.new 7, 3) := by decide +kernel
theorem dX10_image_11 : decode cX10_image 11 = .ok (.dup, 1) := by decide +kernel
theorem dX10_image_12 : decode cX10_image 12 = .ok (.invokespecial 9, 3) := by decide +kernel
theorem dX10_image_15 : decode cX10_image 15 = .ok (.putfield 16, 3) := by decide +kernel
theorem dX10_image_18 : decode cX10_image 18 = .ok (.aload_n 0, 1) := by decide +kernel
theorem dX10_image_19 : decode cX10_image 19 = .ok (.getfield 16, 3) := by decide +kernel
theorem dX10_image_22 : decode cX10_image 22 = .ok (.aload_n 0, 1) := by decide +kernel
theorem dX10_image_23 : decode cX10_image 23 = .ok (.getfield 10, 3) := by decide +kernel
theorem dX10_image_26 : decode cX10_image 26 = .ok (.invokevirtual 345, 3) := by decide +kernel
theorem dX10_image_29 : decode cX10_image 29 = .ok (.aload_n 0, 1) := by decide +kernel
theorem dX10_image_30 : decode cX10_image 30 = .ok (.getfield 10, 3) := by decide +kernel
theorem dX10_image_33 : decode cX10_image 33 = .ok (.getfield 164, 3) := by decide +kernel
theorem dX10_image_36 : decode cX10_image 36 = .ok (.ireturn, 1) := by decide +kernel
theorem dX10_back_0 : decode cX10_back 0 = .ok (.aload_n 0, 1) := by decide +kernel
theorem dX10_back_1 : decode cX10_back 1 = .ok (.getfield 16, 3) := by decide +kernel
theorem dX10_back_4 : decode cX10_back 4 = .ok (.ifnonnull 10, 3) := by decide +kernel
theorem dX10_back_7 : decode cX10_back 7 = .ok (.aload_n 0, 1) := by decide +kernel
theorem dX10_back_8 : decode cX10_back 8 = .ok (.bipush (-2), 2) := by decide +kernel
theorem dX10_back_10 : decode cX10_back 10 = .ok (.invokevirtual 70, 3) := by decide +kernel
theorem dX10_back_13 : decode cX10_back 13 = .ok (.ireturn, 1) := by decide +kernel
theorem dX10_back_14 : decode cX10_back 14 = .ok (.aload_n 0, 1) := by decide +kernel
theorem dX10_back_15 : decode cX10_back 15 = .ok (.getfield 10, 3) := by decide +kernel
theorem dX10_back_18 : decode cX10_back 18 = .ok (.aload_n 0, 1) := by decide +kernel
theorem dX10_back_19 : decode cX10_back 19 = .ok (.getfield 16, 3) := by decide +kernel
theorem dX10_back_22 : decode cX10_back 22 = .ok (.invokevirtual 345, 3) := by decide +kernel
theorem dX10_back_25 : decode cX10_back 25 = .ok (.aload_n 0, 1) := by decide +kernel
theorem dX10_back_26 : decode cX10_back 26 = .ok (.getfield 10, 3) := by decide +kernel
theorem dX10_back_29 : decode cX10_back 29 = .ok (.getfield 164, 3) := by decide +kernel
theorem dX10_back_32 : decode cX10_back 32 = .ok (.ireturn, 1) := by decide +kernel
theorem dX10_lay_0 : decode cX10_lay 0 = .ok (.iload_n 1, 1) := by decide +kernel
theorem dX10_lay_1 : decode cX10_lay 1 = .ok (.ifCond .ge 10, 3) := by decide +kernel
theorem dX10_lay_4 : decode cX10_lay 4 = .ok (.aload_n 0, 1) := by decide +kernel
theorem dX10_lay_5 : decode cX10_lay 5 = .ok (.bipush (-4), 2) := by decide +kernel
theorem dX10_lay_7 : decode cX10_lay 7 = .ok (.invokevirtual 70, 3) := by decide +kernel
theorem dX10_lay_10 : decode cX10_lay 10 = .ok (.ireturn, 1) := by decide +kernel
theorem dX10_lay_11 : decode cX10_lay 11 = .ok (.iload_n 1, 1) := by decide +kernel
theorem dX10_lay_12 : decode cX10_lay 12 = .ok (.bipush 60, 2) := by decide +kernel
theorem dX10_lay_14 : decode cX10_lay 14 = .ok (.if_icmp .le 10, 3) := by decide +kernel
theorem dX10_lay_17 : decode cX10_lay 17 = .ok (.aload_n 0, 1) := by decide +kernel
theorem dX10_lay_18 : decode cX10_lay 18 = .ok (.bipush (-7), 2) := by decide +kernel
theorem dX10_lay_20 : decode cX10_lay 20 = .ok (.invokevirtual 70, 3) := by decide +kernel
theorem dX10_lay_23 : decode cX10_lay 23 = .ok (.ireturn, 1) := by decide +kernel
theorem dX10_lay_24 : decode cX10_lay 24 = .ok (.aload_n 0, 1) := by decide +kernel
theorem dX10_lay_25 : decode cX10_lay 25 = .ok (.getfield 54, 3) := by decide +kernel
theorem dX10_lay_28 : decode cX10_lay 28 = .ok (.iconst 0, 1) := by decide +kernel
theorem dX10_lay_29 : decode cX10_lay 29 = .ok (.invokestatic 348, 3) := by decide +kernel
theorem dX10_lay_32 : decode cX10_lay 32 = .ok (.aload_n 0, 1) := by decide +kernel
theorem dX10_lay_33 : decode cX10_lay 33 = .ok (.iload_n 1, 1) := by decide +kernel
theorem dX10_lay_34 : decode cX10_lay 34 = .ok (.putfield 58, 3) := by decide +kernel
theorem dX10_lay_37 : decode cX10_lay 37 = .ok (.iload_n 1, 1) := by decide +kernel
theorem dX10_lay_38 : decode cX10_lay 38 = .ok (.ireturn, 1) := by decide +kernel
theorem dX10_set_0 : decode cX10_set 0 = .ok (.aload_n 0, 1) := by decide +kernel
theorem dX10_set_1 : decode cX10_set 1 = .ok (.getfield 58, 3) := by decide +kernel
theorem dX10_set_4 : decode cX10_set 4 = .ok (.iconst (-1), 1) := by decide +kernel
theorem dX10_set_5 : decode cX10_set 5 = .ok (.if_icmp .ne 10, 3) := by decide +kernel
theorem dX10_set_8 : decode cX10_set 8 = .ok (.aload_n 0, 1) := by decide +kernel
theorem dX10_set_9 : decode cX10_set 9 = .ok (.bipush (-2), 2) := by decide +kernel
theorem dX10_set_11 : decode cX10_set 11 = .ok (.invokevirtual 128, 3) := by decide +kernel
theorem dX10_set_14 : decode cX10_set 14 = .ok (.ireturn, 1) := by decide +kernel
theorem dX10_set_15 : decode cX10_set 15 = .ok (.iload_n 1, 1) := by decide +kernel
theorem dX10_set_16 : decode cX10_set 16 = .ok (.iconst 0, 1) := by decide +kernel
theorem dX10_set_17 : decode cX10_set 17 = .ok (.aload_n 0, 1) := by decide +kernel
theorem dX10_set_18 : decode cX10_set 18 = .ok (.getfield 58, 3) := by decide +kernel
theorem dX10_set_21 : decode cX10_set 21 = .ok (.iconst 1, 1) := by decide +kernel
theorem dX10_set_22 : decode cX10_set 22 = .ok (.isub, 1) := by decide +kernel
theorem dX10_set_23 : decode cX10_set 23 = .ok (.invokestatic 66, 3) := by decide +kernel
theorem dX10_set_26 : decode cX10_set 26 = .ok (.ifCond .ne 10, 3) := by decide +kernel
theorem dX10_set_29 : decode cX10_set 29 = .ok (.aload_n 0, 1) := by decide +kernel
theorem dX10_set_30 : decode cX10_set 30 = .ok (.bipush (-3), 2) := by decide +kernel
theorem dX10_set_32 : decode cX10_set 32 = .ok (.invokevirtual 128, 3) := by decide +kernel
theorem dX10_set_35 : decode cX10_set 35 = .ok (.ireturn, 1) := by decide +kernel
theorem dX10_set_36 : decode cX10_set 36 = .ok (.aload_n 0, 1) := by decide +kernel
theorem dX10_set_37 : decode cX10_set 37 = .ok (.getfield 54, 3) := by decide +kernel
theorem dX10_set_40 : decode cX10_set 40 = .ok (.iload_n 1, 1) := by decide +kernel
theorem dX10_set_41 : decode cX10_set 41 = .ok (.iaload, 1) := by decide +kernel
theorem dX10_set_42 : decode cX10_set 42 = .ok (.istore_n 3, 1) := by decide +kernel
theorem dX10_set_43 : decode cX10_set 43 = .ok (.aload_n 0, 1) := by decide +kernel
theorem dX10_set_44 : decode cX10_set 44 = .ok (.getfield 54, 3) := by decide +kernel
theorem dX10_set_47 : decode cX10_set 47 = .ok (.iload_n 1, 1) := by decide +kernel
theorem dX10_set_48 : decode cX10_set 48 = .ok (.iload_n 2, 1) := by decide +kernel
theorem dX10_set_49 : decode cX10_set 49 = .ok (.iastore, 1) := by decide +kernel
theorem dX10_set_50 : decode cX10_set 50 = .ok (.iload_n 3, 1) := by decide +kernel
theorem dX10_set_51 : decode cX10_set 51 = .ok (.ireturn, 1) := by decide +kernel
theorem dX10_tear_0 : decode cX10_tear 0 = .ok (.aload_n 0, 1) := by decide +kernel
theorem dX10_tear_1 : decode cX10_tear 1 = .ok (.getfield 58, 3) := by decide +kernel
theorem dX10_tear_4 : decode cX10_tear 4 = .ok (.iconst (-1), 1) := by decide +kernel
theorem dX10_tear_5 : decode cX10_tear 5 = .ok (.if_icmp .ne 7, 3) := by decide +kernel
theorem dX10_tear_8 : decode cX10_tear 8 = .ok (.iconst 0, 1) := by decide +kernel
theorem dX10_tear_9 : decode cX10_tear 9 = .ok (.goto 4, 3) := by decide +kernel
theorem dX10_tear_12 : decode cX10_tear 12 = .ok (.iconst 1, 1) := by decide +kernel
theorem dX10_tear_13 : decode cX10_tear 13 = .ok (.istore_n 1, 1) := by decide +kernel
theorem dX10_tear_14 : decode cX10_tear 14 = .ok (.aload_n 0, 1) := by decide +kernel
theorem dX10_tear_15 : decode cX10_tear 15 = .ok (.iconst (-1), 1) := by decide +kernel
theorem dX10_tear_16 : decode cX10_tear 16 = .ok (.putfield 58, 3) := by decide +kernel
theorem dX10_tear_19 : decode cX10_tear 19 = .ok (.iload_n 1, 1) := by decide +kernel
theorem dX10_tear_20 : decode cX10_tear 20 = .ok (.ireturn, 1) := by decide +kernel
theorem dX10_row_0 : decode cX10_row 0 = .ok (.aload_n 0, 1) := by decide +kernel
theorem dX10_row_1 : decode cX10_row 1 = .ok (.getfield 58, 3) := by decide +kernel
theorem dX10_row_4 : decode cX10_row 4 = .ok (.iconst (-1), 1) := by decide +kernel
theorem dX10_row_5 : decode cX10_row 5 = .ok (.if_icmp .ne 10, 3) := by decide +kernel
theorem dX10_row_8 : decode cX10_row 8 = .ok (.aload_n 0, 1) := by decide +kernel
theorem dX10_row_9 : decode cX10_row 9 = .ok (.bipush (-2), 2) := by decide +kernel
theorem dX10_row_11 : decode cX10_row 11 = .ok (.invokevirtual 128, 3) := by decide +kernel
theorem dX10_row_14 : decode cX10_row 14 = .ok (.ireturn, 1) := by decide +kernel
theorem dX10_row_15 : decode cX10_row 15 = .ok (.iload_n 1, 1) := by decide +kernel
theorem dX10_row_16 : decode cX10_row 16 = .ok (.iconst 0, 1) := by decide +kernel
theorem dX10_row_17 : decode cX10_row 17 = .ok (.aload_n 0, 1) := by decide +kernel
theorem dX10_row_18 : decode cX10_row 18 = .ok (.getfield 58, 3) := by decide +kernel
theorem dX10_row_21 : decode cX10_row 21 = .ok (.iconst 1, 1) := by decide +kernel
theorem dX10_row_22 : decode cX10_row 22 = .ok (.isub, 1) := by decide +kernel
theorem dX10_row_23 : decode cX10_row 23 = .ok (.invokestatic 66, 3) := by decide +kernel
theorem dX10_row_26 : decode cX10_row 26 = .ok (.ifCond .eq 12, 3) := by decide +kernel
theorem dX10_row_29 : decode cX10_row 29 = .ok (.aload_n 0, 1) := by decide +kernel
theorem dX10_row_30 : decode cX10_row 30 = .ok (.getfield 54, 3) := by decide +kernel
theorem dX10_row_33 : decode cX10_row 33 = .ok (.iload_n 1, 1) := by decide +kernel
theorem dX10_row_34 : decode cX10_row 34 = .ok (.iaload, 1) := by decide +kernel
theorem dX10_row_35 : decode cX10_row 35 = .ok (.goto 9, 3) := by decide +kernel
theorem dX10_row_38 : decode cX10_row 38 = .ok (.aload_n 0, 1) := by decide +kernel
theorem dX10_row_39 : decode cX10_row 39 = .ok (.bipush (-3), 2) := by decide +kernel
theorem dX10_row_41 : decode cX10_row 41 = .ok (.invokevirtual 128, 3) := by decide +kernel
theorem dX10_row_44 : decode cX10_row 44 = .ok (.ireturn, 1) := by decide +kernel
theorem dX10_copy_0 : decode cX10_copy 0 = .ok (.aload_n 0, 1) := by decide +kernel
theorem dX10_copy_1 : decode cX10_copy 1 = .ok (.getfield 58, 3) := by decide +kernel
theorem dX10_copy_4 : decode cX10_copy 4 = .ok (.iconst (-1), 1) := by decide +kernel
theorem dX10_copy_5 : decode cX10_copy 5 = .ok (.if_icmp .ne 10, 3) := by decide +kernel
theorem dX10_copy_8 : decode cX10_copy 8 = .ok (.aload_n 0, 1) := by decide +kernel
theorem dX10_copy_9 : decode cX10_copy 9 = .ok (.bipush (-2), 2) := by decide +kernel
theorem dX10_copy_11 : decode cX10_copy 11 = .ok (.invokevirtual 70, 3) := by decide +kernel
theorem dX10_copy_14 : decode cX10_copy 14 = .ok (.ireturn, 1) := by decide +kernel
theorem dX10_copy_15 : decode cX10_copy 15 = .ok (.iload_n 3, 1) := by decide +kernel
theorem dX10_copy_16 : decode cX10_copy 16 = .ok (.ifCond .ge 10, 3) := by decide +kernel
theorem dX10_copy_19 : decode cX10_copy 19 = .ok (.aload_n 0, 1) := by decide +kernel
theorem dX10_copy_20 : decode cX10_copy 20 = .ok (.bipush (-4), 2) := by decide +kernel
theorem dX10_copy_22 : decode cX10_copy 22 = .ok (.invokevirtual 70, 3) := by decide +kernel
theorem dX10_copy_25 : decode cX10_copy 25 = .ok (.ireturn, 1) := by decide +kernel
theorem dX10_copy_26 : decode cX10_copy 26 = .ok (.aload_n 0, 1) := by decide +kernel
theorem dX10_copy_27 : decode cX10_copy 27 = .ok (.getfield 58, 3) := by decide +kernel
theorem dX10_copy_30 : decode cX10_copy 30 = .ok (.iload_n 3, 1) := by decide +kernel
theorem dX10_copy_31 : decode cX10_copy 31 = .ok (.isub, 1) := by decide +kernel
theorem dX10_copy_32 : decode cX10_copy 32 = .ok (.istore 4, 2) := by decide +kernel
theorem dX10_copy_34 : decode cX10_copy 34 = .ok (.iload_n 1, 1) := by decide +kernel
theorem dX10_copy_35 : decode cX10_copy 35 = .ok (.iconst 0, 1) := by decide +kernel
theorem dX10_copy_36 : decode cX10_copy 36 = .ok (.iload 4, 2) := by decide +kernel
theorem dX10_copy_38 : decode cX10_copy 38 = .ok (.invokestatic 66, 3) := by decide +kernel
theorem dX10_copy_41 : decode cX10_copy 41 = .ok (.ifCond .eq 13, 3) := by decide +kernel
theorem dX10_copy_44 : decode cX10_copy 44 = .ok (.iload_n 2, 1) := by decide +kernel
theorem dX10_copy_45 : decode cX10_copy 45 = .ok (.iconst 0, 1) := by decide +kernel
theorem dX10_copy_46 : decode cX10_copy 46 = .ok (.iload 4, 2) := by decide +kernel
theorem dX10_copy_48 : decode cX10_copy 48 = .ok (.invokestatic 66, 3) := by decide +kernel
theorem dX10_copy_51 : decode cX10_copy 51 = .ok (.ifCond .ne 10, 3) := by decide +kernel
theorem dX10_copy_54 : decode cX10_copy 54 = .ok (.aload_n 0, 1) := by decide +kernel
theorem dX10_copy_55 : decode cX10_copy 55 = .ok (.bipush (-6), 2) := by decide +kernel
theorem dX10_copy_57 : decode cX10_copy 57 = .ok (.invokevirtual 70, 3) := by decide +kernel
theorem dX10_copy_60 : decode cX10_copy 60 = .ok (.ireturn, 1) := by decide +kernel
theorem dX10_copy_61 : decode cX10_copy 61 = .ok (.aload_n 0, 1) := by decide +kernel
theorem dX10_copy_62 : decode cX10_copy 62 = .ok (.getfield 54, 3) := by decide +kernel
theorem dX10_copy_65 : decode cX10_copy 65 = .ok (.iload_n 1, 1) := by decide +kernel
theorem dX10_copy_66 : decode cX10_copy 66 = .ok (.aload_n 0, 1) := by decide +kernel
theorem dX10_copy_67 : decode cX10_copy 67 = .ok (.getfield 54, 3) := by decide +kernel
theorem dX10_copy_70 : decode cX10_copy 70 = .ok (.iload_n 2, 1) := by decide +kernel
theorem dX10_copy_71 : decode cX10_copy 71 = .ok (.iload_n 3, 1) := by decide +kernel
theorem dX10_copy_72 : decode cX10_copy 72 = .ok (.invokestatic 354, 3) := by decide +kernel
theorem dX10_copy_75 : decode cX10_copy 75 = .ok (.iload_n 3, 1) := by decide +kernel
theorem dX10_copy_76 : decode cX10_copy 76 = .ok (.ireturn, 1) := by decide +kernel
theorem dX10_status_0 : decode cX10_status 0 = .ok (.iload_n 1, 1) := by decide +kernel
theorem dX10_status_1 : decode cX10_status 1 = .ok (.bipush (-8), 2) := by decide +kernel
theorem dX10_status_3 : decode cX10_status 3 = .ok (.bipush (-2), 2) := by decide +kernel
theorem dX10_status_5 : decode cX10_status 5 = .ok (.invokestatic 66, 3) := by decide +kernel
theorem dX10_status_8 : decode cX10_status 8 = .ok (.ifCond .eq 13, 3) := by decide +kernel
theorem dX10_status_11 : decode cX10_status 11 = .ok (.aload_n 0, 1) := by decide +kernel
theorem dX10_status_12 : decode cX10_status 12 = .ok (.getfield 62, 3) := by decide +kernel
theorem dX10_status_15 : decode cX10_status 15 = .ok (.iload_n 1, 1) := by decide +kernel
theorem dX10_status_16 : decode cX10_status 16 = .ok (.ineg, 1) := by decide +kernel
theorem dX10_status_17 : decode cX10_status 17 = .ok (.iaload, 1) := by decide +kernel
theorem dX10_status_18 : decode cX10_status 18 = .ok (.goto 9, 3) := by decide +kernel
theorem dX10_status_21 : decode cX10_status 21 = .ok (.aload_n 0, 1) := by decide +kernel
theorem dX10_status_22 : decode cX10_status 22 = .ok (.bipush (-7), 2) := by decide +kernel
theorem dX10_status_24 : decode cX10_status 24 = .ok (.invokevirtual 70, 3) := by decide +kernel
theorem dX10_status_27 : decode cX10_status 27 = .ok (.ireturn, 1) := by decide +kernel
theorem dX10_refuse_0 : decode cX10_refuse 0 = .ok (.aload_n 0, 1) := by decide +kernel
theorem dX10_refuse_1 : decode cX10_refuse 1 = .ok (.getfield 62, 3) := by decide +kernel
theorem dX10_refuse_4 : decode cX10_refuse 4 = .ok (.iload_n 1, 1) := by decide +kernel
theorem dX10_refuse_5 : decode cX10_refuse 5 = .ok (.ineg, 1) := by decide +kernel
theorem dX10_refuse_6 : decode cX10_refuse 6 = .ok (.dup2, 1) := by decide +kernel
theorem dX10_refuse_7 : decode cX10_refuse 7 = .ok (.iaload, 1) := by decide +kernel
theorem dX10_refuse_8 : decode cX10_refuse 8 = .ok (.iconst 1, 1) := by decide +kernel
theorem dX10_refuse_9 : decode cX10_refuse 9 = .ok (.iadd, 1) := by decide +kernel
theorem dX10_refuse_10 : decode cX10_refuse 10 = .ok (.iastore, 1) := by decide +kernel
theorem dX10_refuse_11 : decode cX10_refuse 11 = .ok (.iload_n 1, 1) := by decide +kernel
theorem dX10_refuse_12 : decode cX10_refuse 12 = .ok (.ireturn, 1) := by decide +kernel
theorem dX10_refuseAsZero_0 : decode cX10_refuseAsZero 0 = .ok (.aload_n 0, 1) := by decide +kernel
theorem dX10_refuseAsZero_1 : decode cX10_refuseAsZero 1 = .ok (.iload_n 1, 1) := by decide +kernel
theorem dX10_refuseAsZero_2 : decode cX10_refuseAsZero 2 = .ok (.invokevirtual 70, 3) := by decide +kernel
theorem dX10_refuseAsZero_5 : decode cX10_refuseAsZero 5 = .ok (.pop, 1) := by decide +kernel
theorem dX10_refuseAsZero_6 : decode cX10_refuseAsZero 6 = .ok (.iconst 0, 1) := by decide +kernel
theorem dX10_refuseAsZero_7 : decode cX10_refuseAsZero 7 = .ok (.ireturn, 1) := by decide +kernel
theorem dX10_isWithin_0 : decode cX10_isWithin 0 = .ok (.iload_n 0, 1) := by decide +kernel
theorem dX10_isWithin_1 : decode cX10_isWithin 1 = .ok (.iload_n 1, 1) := by decide +kernel
theorem dX10_isWithin_2 : decode cX10_isWithin 2 = .ok (.if_icmp .lt 12, 3) := by decide +kernel
theorem dX10_isWithin_5 : decode cX10_isWithin 5 = .ok (.iload_n 0, 1) := by decide +kernel
theorem dX10_isWithin_6 : decode cX10_isWithin 6 = .ok (.iload_n 2, 1) := by decide +kernel
theorem dX10_isWithin_7 : decode cX10_isWithin 7 = .ok (.if_icmp .gt 7, 3) := by decide +kernel
theorem dX10_isWithin_10 : decode cX10_isWithin 10 = .ok (.iconst 1, 1) := by decide +kernel
theorem dX10_isWithin_11 : decode cX10_isWithin 11 = .ok (.goto 4, 3) := by decide +kernel
theorem dX10_isWithin_14 : decode cX10_isWithin 14 = .ok (.iconst 0, 1) := by decide +kernel
theorem dX10_isWithin_15 : decode cX10_isWithin 15 = .ok (.ireturn, 1) := by decide +kernel
theorem dX10_isMan_0 : decode cX10_isMan 0 = .ok (.iload_n 1, 1) := by decide +kernel
theorem dX10_isMan_1 : decode cX10_isMan 1 = .ok (.iconst 0, 1) := by decide +kernel
theorem dX10_isMan_2 : decode cX10_isMan 2 = .ok (.aload_n 0, 1) := by decide +kernel
theorem dX10_isMan_3 : decode cX10_isMan 3 = .ok (.getfield 10, 3) := by decide +kernel
theorem dX10_isMan_6 : decode cX10_isMan 6 = .ok (.getfield 74, 3) := by decide +kernel
theorem dX10_isMan_9 : decode cX10_isMan 9 = .ok (.getfield 78, 3) := by decide +kernel
theorem dX10_isMan_12 : decode cX10_isMan 12 = .ok (.iconst 1, 1) := by decide +kernel
theorem dX10_isMan_13 : decode cX10_isMan 13 = .ok (.isub, 1) := by decide +kernel
theorem dX10_isMan_14 : decode cX10_isMan 14 = .ok (.invokestatic 66, 3) := by decide +kernel
theorem dX10_isMan_17 : decode cX10_isMan 17 = .ok (.ireturn, 1) := by decide +kernel
theorem dX10_isStock_0 : decode cX10_isStock 0 = .ok (.iload_n 1, 1) := by decide +kernel
theorem dX10_isStock_1 : decode cX10_isStock 1 = .ok (.iconst 0, 1) := by decide +kernel
theorem dX10_isStock_2 : decode cX10_isStock 2 = .ok (.aload_n 0, 1) := by decide +kernel
theorem dX10_isStock_3 : decode cX10_isStock 3 = .ok (.getfield 10, 3) := by decide +kernel
theorem dX10_isStock_6 : decode cX10_isStock 6 = .ok (.getfield 87, 3) := by decide +kernel
theorem dX10_isStock_9 : decode cX10_isStock 9 = .ok (.iconst 1, 1) := by decide +kernel
theorem dX10_isStock_10 : decode cX10_isStock 10 = .ok (.isub, 1) := by decide +kernel
theorem dX10_isStock_11 : decode cX10_isStock 11 = .ok (.invokestatic 66, 3) := by decide +kernel
theorem dX10_isStock_14 : decode cX10_isStock 14 = .ok (.ireturn, 1) := by decide +kernel
theorem dX10_first_0 : decode cX10_first 0 = .ok (.iload_n 0, 1) := by decide +kernel
theorem dX10_first_1 : decode cX10_first 1 = .ok (.bipush 100, 2) := by decide +kernel
theorem dX10_first_3 : decode cX10_first 3 = .ok (.idiv, 1) := by decide +kernel
theorem dX10_first_4 : decode cX10_first 4 = .ok (.ireturn, 1) := by decide +kernel
theorem dX10_second_0 : decode cX10_second 0 = .ok (.iload_n 0, 1) := by decide +kernel
theorem dX10_second_1 : decode cX10_second 1 = .ok (.bipush 100, 2) := by decide +kernel
theorem dX10_second_3 : decode cX10_second 3 = .ok (.irem, 1) := by decide +kernel
theorem dX10_second_4 : decode cX10_second 4 = .ok (.ireturn, 1) := by decide +kernel
theorem dX10_areMen_0 : decode cX10_areMen 0 = .ok (.aload_n 0, 1) := by decide +kernel
theorem dX10_areMen_1 : decode cX10_areMen 1 = .ok (.iload_n 1, 1) := by decide +kernel
theorem dX10_areMen_2 : decode cX10_areMen 2 = .ok (.invokestatic 158, 3) := by decide +kernel
theorem dX10_areMen_5 : decode cX10_areMen 5 = .ok (.invokevirtual 90, 3) := by decide +kernel
theorem dX10_areMen_8 : decode cX10_areMen 8 = .ok (.ifCond .eq 18, 3) := by decide +kernel
theorem dX10_areMen_11 : decode cX10_areMen 11 = .ok (.aload_n 0, 1) := by decide +kernel
theorem dX10_areMen_12 : decode cX10_areMen 12 = .ok (.iload_n 1, 1) := by decide +kernel
theorem dX10_areMen_13 : decode cX10_areMen 13 = .ok (.invokestatic 161, 3) := by decide +kernel
theorem dX10_areMen_16 : decode cX10_areMen 16 = .ok (.invokevirtual 90, 3) := by decide +kernel
theorem dX10_areMen_19 : decode cX10_areMen 19 = .ok (.ifCond .eq 7, 3) := by decide +kernel
theorem dX10_areMen_22 : decode cX10_areMen 22 = .ok (.iconst 1, 1) := by decide +kernel
theorem dX10_areMen_23 : decode cX10_areMen 23 = .ok (.goto 4, 3) := by decide +kernel
theorem dX10_areMen_26 : decode cX10_areMen 26 = .ok (.iconst 0, 1) := by decide +kernel
theorem dX10_areMen_27 : decode cX10_areMen 27 = .ok (.ireturn, 1) := by decide +kernel
theorem dX10_mayDeal_0 : decode cX10_mayDeal 0 = .ok (.iload_n 1, 1) := by decide +kernel
theorem dX10_mayDeal_1 : decode cX10_mayDeal 1 = .ok (.invokestatic 158, 3) := by decide +kernel
theorem dX10_mayDeal_4 : decode cX10_mayDeal 4 = .ok (.iload_n 1, 1) := by decide +kernel
theorem dX10_mayDeal_5 : decode cX10_mayDeal 5 = .ok (.invokestatic 161, 3) := by decide +kernel
theorem dX10_mayDeal_8 : decode cX10_mayDeal 8 = .ok (.if_icmp .eq 41, 3) := by decide +kernel
theorem dX10_mayDeal_11 : decode cX10_mayDeal 11 = .ok (.aload_n 0, 1) := by decide +kernel
theorem dX10_mayDeal_12 : decode cX10_mayDeal 12 = .ok (.getfield 10, 3) := by decide +kernel
theorem dX10_mayDeal_15 : decode cX10_mayDeal 15 = .ok (.getfield 74, 3) := by decide +kernel
theorem dX10_mayDeal_18 : decode cX10_mayDeal 18 = .ok (.iload_n 1, 1) := by decide +kernel
theorem dX10_mayDeal_19 : decode cX10_mayDeal 19 = .ok (.invokestatic 158, 3) := by decide +kernel
theorem dX10_mayDeal_22 : decode cX10_mayDeal 22 = .ok (.invokevirtual 97, 3) := by decide +kernel
theorem dX10_mayDeal_25 : decode cX10_mayDeal 25 = .ok (.ifCond .eq 24, 3) := by decide +kernel
theorem dX10_mayDeal_28 : decode cX10_mayDeal 28 = .ok (.aload_n 0, 1) := by decide +kernel
theorem dX10_mayDeal_29 : decode cX10_mayDeal 29 = .ok (.getfield 10, 3) := by decide +kernel
theorem dX10_mayDeal_32 : decode cX10_mayDeal 32 = .ok (.getfield 74, 3) := by decide +kernel
theorem dX10_mayDeal_35 : decode cX10_mayDeal 35 = .ok (.iload_n 1, 1) := by decide +kernel
theorem dX10_mayDeal_36 : decode cX10_mayDeal 36 = .ok (.invokestatic 161, 3) := by decide +kernel
theorem dX10_mayDeal_39 : decode cX10_mayDeal 39 = .ok (.invokevirtual 97, 3) := by decide +kernel
theorem dX10_mayDeal_42 : decode cX10_mayDeal 42 = .ok (.ifCond .eq 7, 3) := by decide +kernel
theorem dX10_mayDeal_45 : decode cX10_mayDeal 45 = .ok (.iconst 1, 1) := by decide +kernel
theorem dX10_mayDeal_46 : decode cX10_mayDeal 46 = .ok (.goto 4, 3) := by decide +kernel
theorem dX10_mayDeal_49 : decode cX10_mayDeal 49 = .ok (.iconst 0, 1) := by decide +kernel
theorem dX10_mayDeal_50 : decode cX10_mayDeal 50 = .ok (.ireturn, 1) := by decide +kernel
theorem dX10_putOffPrice_0 : decode cX10_putOffPrice 0 = .ok (.iload_n 0, 1) := by decide +kernel
theorem dX10_putOffPrice_1 : decode cX10_putOffPrice 1 = .ok (.i2l, 1) := by decide +kernel
theorem dX10_putOffPrice_2 : decode cX10_putOffPrice 2 = .ok (.iload_n 0, 1) := by decide +kernel
theorem dX10_putOffPrice_3 : decode cX10_putOffPrice 3 = .ok (.i2l, 1) := by decide +kernel
theorem dX10_putOffPrice_4 : decode cX10_putOffPrice 4 = .ok (.iload_n 1, 1) := by decide +kernel
theorem dX10_putOffPrice_5 : decode cX10_putOffPrice 5 = .ok (.i2l, 1) := by decide +kernel
theorem dX10_putOffPrice_6 : decode cX10_putOffPrice 6 = .ok (.lmul, 1) := by decide +kernel
theorem dX10_putOffPrice_7 : decode cX10_putOffPrice 7 = .ok (.ldc2_w 360, 3) := by decide +kernel
theorem dX10_putOffPrice_10 : decode cX10_putOffPrice 10 = .ok (.ldiv, 1) := by decide +kernel
theorem dX10_putOffPrice_11 : decode cX10_putOffPrice 11 = .ok (.ladd, 1) := by decide +kernel
theorem dX10_putOffPrice_12 : decode cX10_putOffPrice 12 = .ok (.lstore_n 2, 1) := by decide +kernel
theorem dX10_putOffPrice_13 : decode cX10_putOffPrice 13 = .ok (.lconst 1, 1) := by decide +kernel
theorem dX10_putOffPrice_14 : decode cX10_putOffPrice 14 = .ok (.lload_n 2, 1) := by decide +kernel
theorem dX10_putOffPrice_15 : decode cX10_putOffPrice 15 = .ok (.ldc2_w 362, 3) := by decide +kernel
theorem dX10_putOffPrice_18 : decode cX10_putOffPrice 18 = .ok (.invokestatic 364, 3) := by decide +kernel
theorem dX10_putOffPrice_21 : decode cX10_putOffPrice 21 = .ok (.invokestatic 368, 3) := by decide +kernel
theorem dX10_putOffPrice_24 : decode cX10_putOffPrice 24 = .ok (.l2i, 1) := by decide +kernel
theorem dX10_putOffPrice_25 : decode cX10_putOffPrice 25 = .ok (.ireturn, 1) := by decide +kernel
theorem dX10_readOf_0 : decode cX10_readOf 0 = .ok (.aload_n 1, 1) := by decide +kernel
theorem dX10_readOf_1 : decode cX10_readOf 1 = .ok (.iload_n 2, 1) := by decide +kernel
theorem dX10_readOf_2 : decode cX10_readOf 2 = .ok (.invokevirtual 227, 3) := by decide +kernel
theorem dX10_readOf_5 : decode cX10_readOf 5 = .ok (.ifCond .ne 10, 3) := by decide +kernel
theorem dX10_readOf_8 : decode cX10_readOf 8 = .ok (.aload_n 0, 1) := by decide +kernel
theorem dX10_readOf_9 : decode cX10_readOf 9 = .ok (.bipush (-3), 2) := by decide +kernel
theorem dX10_readOf_11 : decode cX10_readOf 11 = .ok (.invokevirtual 70, 3) := by decide +kernel
theorem dX10_readOf_14 : decode cX10_readOf 14 = .ok (.ireturn, 1) := by decide +kernel
theorem dX10_readOf_15 : decode cX10_readOf 15 = .ok (.aload_n 1, 1) := by decide +kernel
theorem dX10_readOf_16 : decode cX10_readOf 16 = .ok (.iload_n 3, 1) := by decide +kernel
theorem dX10_readOf_17 : decode cX10_readOf 17 = .ok (.invokevirtual 370, 3) := by decide +kernel
theorem dX10_readOf_20 : decode cX10_readOf 20 = .ok (.ifCond .eq 12, 3) := by decide +kernel
theorem dX10_readOf_23 : decode cX10_readOf 23 = .ok (.aload_n 1, 1) := by decide +kernel
theorem dX10_readOf_24 : decode cX10_readOf 24 = .ok (.iload_n 2, 1) := by decide +kernel
theorem dX10_readOf_25 : decode cX10_readOf 25 = .ok (.iload_n 3, 1) := by decide +kernel
theorem dX10_readOf_26 : decode cX10_readOf 26 = .ok (.invokevirtual 230, 3) := by decide +kernel
theorem dX10_readOf_29 : decode cX10_readOf 29 = .ok (.goto 9, 3) := by decide +kernel
theorem dX10_readOf_32 : decode cX10_readOf 32 = .ok (.aload_n 0, 1) := by decide +kernel
theorem dX10_readOf_33 : decode cX10_readOf 33 = .ok (.bipush (-7), 2) := by decide +kernel
theorem dX10_readOf_35 : decode cX10_readOf 35 = .ok (.invokevirtual 70, 3) := by decide +kernel
theorem dX10_readOf_38 : decode cX10_readOf 38 = .ok (.ireturn, 1) := by decide +kernel
theorem dX10_isToldOf_0 : decode cX10_isToldOf 0 = .ok (.aload_n 0, 1) := by decide +kernel
theorem dX10_isToldOf_1 : decode cX10_isToldOf 1 = .ok (.iload_n 1, 1) := by decide +kernel
theorem dX10_isToldOf_2 : decode cX10_isToldOf 2 = .ok (.invokevirtual 94, 3) := by decide +kernel
theorem dX10_isToldOf_5 : decode cX10_isToldOf 5 = .ok (.ifCond .ne 12, 3) := by decide +kernel
theorem dX10_isToldOf_8 : decode cX10_isToldOf 8 = .ok (.aload_n 0, 1) := by decide +kernel
theorem dX10_isToldOf_9 : decode cX10_isToldOf 9 = .ok (.iload_n 1, 1) := by decide +kernel
theorem dX10_isToldOf_10 : decode cX10_isToldOf 10 = .ok (.invokevirtual 266, 3) := by decide +kernel
theorem dX10_isToldOf_13 : decode cX10_isToldOf 13 = .ok (.iconst (-1), 1) := by decide +kernel
theorem dX10_isToldOf_14 : decode cX10_isToldOf 14 = .ok (.if_icmp .eq 7, 3) := by decide +kernel
theorem dX10_isToldOf_17 : decode cX10_isToldOf 17 = .ok (.iconst 1, 1) := by decide +kernel
theorem dX10_isToldOf_18 : decode cX10_isToldOf 18 = .ok (.goto 4, 3) := by decide +kernel
theorem dX10_isToldOf_21 : decode cX10_isToldOf 21 = .ok (.iconst 0, 1) := by decide +kernel
theorem dX10_isToldOf_22 : decode cX10_isToldOf 22 = .ok (.ireturn, 1) := by decide +kernel
theorem dX10_bargainToldOf_0 : decode cX10_bargainToldOf 0 = .ok (.iload_n 1, 1) := by decide +kernel
theorem dX10_bargainToldOf_1 : decode cX10_bargainToldOf 1 = .ok (.bipush 100, 2) := by decide +kernel
theorem dX10_bargainToldOf_3 : decode cX10_bargainToldOf 3 = .ok (.if_icmp .lt 24, 3) := by decide +kernel
theorem dX10_bargainToldOf_6 : decode cX10_bargainToldOf 6 = .ok (.aload_n 0, 1) := by decide +kernel
theorem dX10_bargainToldOf_7 : decode cX10_bargainToldOf 7 = .ok (.getfield 10, 3) := by decide +kernel
theorem dX10_bargainToldOf_10 : decode cX10_bargainToldOf 10 = .ok (.getfield 119, 3) := by decide +kernel
theorem dX10_bargainToldOf_13 : decode cX10_bargainToldOf 13 = .ok (.iload_n 1, 1) := by decide +kernel
theorem dX10_bargainToldOf_14 : decode cX10_bargainToldOf 14 = .ok (.bipush 100, 2) := by decide +kernel
theorem dX10_bargainToldOf_16 : decode cX10_bargainToldOf 16 = .ok (.isub, 1) := by decide +kernel
theorem dX10_bargainToldOf_17 : decode cX10_bargainToldOf 17 = .ok (.invokevirtual 171, 3) := by decide +kernel
theorem dX10_bargainToldOf_20 : decode cX10_bargainToldOf 20 = .ok (.ifCond .eq 7, 3) := by decide +kernel
theorem dX10_bargainToldOf_23 : decode cX10_bargainToldOf 23 = .ok (.iconst 1, 1) := by decide +kernel
theorem dX10_bargainToldOf_24 : decode cX10_bargainToldOf 24 = .ok (.goto 4, 3) := by decide +kernel
theorem dX10_bargainToldOf_27 : decode cX10_bargainToldOf 27 = .ok (.iconst 0, 1) := by decide +kernel
theorem dX10_bargainToldOf_28 : decode cX10_bargainToldOf 28 = .ok (.istore_n 2, 1) := by decide +kernel
theorem dX10_bargainToldOf_29 : decode cX10_bargainToldOf 29 = .ok (.iload_n 2, 1) := by decide +kernel
theorem dX10_bargainToldOf_30 : decode cX10_bargainToldOf 30 = .ok (.ifCond .eq 10, 3) := by decide +kernel
theorem dX10_bargainToldOf_33 : decode cX10_bargainToldOf 33 = .ok (.iload_n 1, 1) := by decide +kernel
theorem dX10_bargainToldOf_34 : decode cX10_bargainToldOf 34 = .ok (.bipush 100, 2) := by decide +kernel
theorem dX10_bargainToldOf_36 : decode cX10_bargainToldOf 36 = .ok (.isub, 1) := by decide +kernel
theorem dX10_bargainToldOf_37 : decode cX10_bargainToldOf 37 = .ok (.goto 4, 3) := by decide +kernel
theorem dX10_bargainToldOf_40 : decode cX10_bargainToldOf 40 = .ok (.iconst (-1), 1) := by decide +kernel
theorem dX10_bargainToldOf_41 : decode cX10_bargainToldOf 41 = .ok (.ireturn, 1) := by decide +kernel
theorem dX10_stockToldOf_0 : decode cX10_stockToldOf 0 = .ok (.aload_n 0, 1) := by decide +kernel
theorem dX10_stockToldOf_1 : decode cX10_stockToldOf 1 = .ok (.iload_n 1, 1) := by decide +kernel
theorem dX10_stockToldOf_2 : decode cX10_stockToldOf 2 = .ok (.invokevirtual 266, 3) := by decide +kernel
theorem dX10_stockToldOf_5 : decode cX10_stockToldOf 5 = .ok (.istore_n 2, 1) := by decide +kernel
theorem dX10_stockToldOf_6 : decode cX10_stockToldOf 6 = .ok (.iload_n 2, 1) := by decide +kernel
theorem dX10_stockToldOf_7 : decode cX10_stockToldOf 7 = .ok (.iconst (-1), 1) := by decide +kernel
theorem dX10_stockToldOf_8 : decode cX10_stockToldOf 8 = .ok (.if_icmp .ne 7, 3) := by decide +kernel
theorem dX10_stockToldOf_11 : decode cX10_stockToldOf 11 = .ok (.iload_n 1, 1) := by decide +kernel
theorem dX10_stockToldOf_12 : decode cX10_stockToldOf 12 = .ok (.goto 15, 3) := by decide +kernel
theorem dX10_stockToldOf_15 : decode cX10_stockToldOf 15 = .ok (.aload_n 0, 1) := by decide +kernel
theorem dX10_stockToldOf_16 : decode cX10_stockToldOf 16 = .ok (.getfield 10, 3) := by decide +kernel
theorem dX10_stockToldOf_19 : decode cX10_stockToldOf 19 = .ok (.getfield 119, 3) := by decide +kernel
theorem dX10_stockToldOf_22 : decode cX10_stockToldOf 22 = .ok (.iload_n 2, 1) := by decide +kernel
theorem dX10_stockToldOf_23 : decode cX10_stockToldOf 23 = .ok (.iconst 2, 1) := by decide +kernel
theorem dX10_stockToldOf_24 : decode cX10_stockToldOf 24 = .ok (.invokevirtual 177, 3) := by decide +kernel
theorem dX10_stockToldOf_27 : decode cX10_stockToldOf 27 = .ok (.ireturn, 1) := by decide +kernel
theorem dX11_in_0 : decode cX11_in 0 = .ok (.iload_n 0, 1) := by decide +kernel
theorem dX11_in_1 : decode cX11_in 1 = .ok (.iload_n 1, 1) := by decide +kernel
theorem dX11_in_2 : decode cX11_in 2 = .ok (.if_icmp .lt 12, 3) := by decide +kernel
theorem dX11_in_5 : decode cX11_in 5 = .ok (.iload_n 0, 1) := by decide +kernel
theorem dX11_in_6 : decode cX11_in 6 = .ok (.iload_n 2, 1) := by decide +kernel
theorem dX11_in_7 : decode cX11_in 7 = .ok (.if_icmp .gt 7, 3) := by decide +kernel
theorem dX11_in_10 : decode cX11_in 10 = .ok (.iconst 1, 1) := by decide +kernel
theorem dX11_in_11 : decode cX11_in 11 = .ok (.goto 4, 3) := by decide +kernel
theorem dX11_in_14 : decode cX11_in 14 = .ok (.iconst 0, 1) := by decide +kernel
theorem dX11_in_15 : decode cX11_in 15 = .ok (.ireturn, 1) := by decide +kernel
theorem dX11_init_0 : decode cX11_init 0 = .ok (.aload_n 0, 1) := by decide +kernel
theorem dX11_init_1 : decode cX11_init 1 = .ok (.invokespecial 7, 3) := by decide +kernel
theorem dX11_init_4 : decode cX11_init 4 = .ok (.aload_n 0, 1) := by decide +kernel
theorem dX11_init_5 : decode cX11_init 5 = .ok (.ldc 13, 2) := by decide +kernel
theorem dX11_init_7 : decode cX11_init 7 = .ok (.newarray .int, 2) := by decide +kernel
theorem dX11_init_9 : decode cX11_init 9 = .ok (.putfield 14, 3) := by decide +kernel
theorem dX11_init_12 : decode cX11_init 12 = .ok (.aload_n 0, 1) := by decide +kernel
theorem dX11_init_13 : decode cX11_init 13 = .ok (.sipush 216, 3) := by decide +kernel
theorem dX11_init_16 : decode cX11_init 16 = .ok (.newarray .long, 2) := by decide +kernel
theorem dX11_init_18 : decode cX11_init 18 = .ok (.putfield 18, 3) := by decide +kernel
theorem dX11_init_21 : decode cX11_init 21 = .ok (.aload_n 0, 1) := by decide +kernel
theorem dX11_init_22 : decode cX11_init 22 = .ok (.bipush 9, 2) := by decide +kernel
theorem dX11_init_24 : decode cX11_init 24 = .ok (.newarray .int, 2) := by decide +kernel
theorem dX11_init_26 : decode cX11_init 26 = .ok (.putfield 22, 3) := by decide +kernel
theorem dX11_init_29 : decode cX11_init 29 = .ok (.aload_n 0, 1) := by decide +kernel
theorem dX11_init_30 : decode cX11_init 30 = .ok (.bipush 120, 2) := by decide +kernel
theorem dX11_init_32 : decode cX11_init 32 = .ok (.newarray .int, 2) := by decide +kernel
theorem dX11_init_34 : decode cX11_init 34 = .ok (.putfield 25, 3) := by decide +kernel
theorem dX11_init_37 : decode cX11_init 37 = .ok (.aload_n 0, 1) := by decide +kernel
theorem dX11_init_38 : decode cX11_init 38 = .ok (.bipush 120, 2) := by decide +kernel
theorem dX11_init_40 : decode cX11_init 40 = .ok (.newarray .int, 2) := by decide +kernel
theorem dX11_init_42 : decode cX11_init 42 = .ok (.putfield 28, 3) := by decide +kernel
theorem dX11_init_45 : decode cX11_init 45 = .ok (.aload_n 0, 1) := by decide +kernel
theorem dX11_init_46 : decode cX11_init 46 = .ok (.sipush 8000, 3) := by decide +kernel
theorem dX11_init_49 : decode cX11_init 49 = .ok (.newarray .int, 2) := by decide +kernel
theorem dX11_init_51 : decode cX11_init 51 = .ok (.putfield 31, 3) := by decide +kernel
theorem dX11_init_54 : decode cX11_init 54 = .ok (.aload_n 0, 1) := by decide +kernel
theorem dX11_init_55 : decode cX11_init 55 = .ok (.sipush 8000, 3) := by decide +kernel
theorem dX11_init_58 : decode cX11_init 58 = .ok (.newarray .int, 2) := by decide +kernel
theorem dX11_init_60 : decode cX11_init 60 = .ok (.putfield 34, 3) := by decide +kernel
theorem dX11_init_63 : decode cX11_init 63 = .ok (.aload_n 0, 1) := by decide +kernel
theorem dX11_init_64 : decode cX11_init 64 = .ok (.sipush 8000, 3) := by decide +kernel
theorem dX11_init_67 : decode cX11_init 67 = .ok (.newarray .int, 2) := by decide +kernel
theorem dX11_init_69 : decode cX11_init 69 = .ok (.putfield 37, 3) := by decide +kernel
theorem dX11_init_72 : decode cX11_init 72 = .ok (.aload_n 0, 1) := by decide +kernel
theorem dX11_init_73 : decode cX11_init 73 = .ok (.sipush 8000, 3) := by decide +kernel
theorem dX11_init_76 : decode cX11_init 76 = .ok (.newarray .int, 2) := by decide +kernel
theorem dX11_init_78 : decode cX11_init 78 = .ok (.putfield 40, 3) := by decide +kernel
theorem dX11_init_81 : decode cX11_init 81 = .ok (.aload_n 0, 1) := by decide +kernel
theorem dX11_init_82 : decode cX11_init 82 = .ok (.sipush 8000, 3) := by decide +kernel
theorem dX11_init_85 : decode cX11_init 85 = .ok (.newarray .int, 2) := by decide +kernel
theorem dX11_init_87 : decode cX11_init 87 = .ok (.putfield 43, 3) := by decide +kernel
theorem dX11_init_90 : decode cX11_init 90 = .ok (.aload_n 0, 1) := by decide +kernel
theorem dX11_init_91 : decode cX11_init 91 = .ok (.bipush 12, 2) := by decide +kernel
theorem dX11_init_93 : decode cX11_init 93 = .ok (.newarray .int, 2) := by decide +kernel
theorem dX11_init_95 : decode cX11_init 95 = .ok (.putfield 46, 3) := by decide +kernel
theorem dX11_init_98 : decode cX11_init 98 = .ok (.aload_n 0, 1) := by decide +kernel
theorem dX11_init_99 : decode cX11_init 99 = .ok (.bipush 60, 2) := by decide +kernel
theorem dX11_init_101 : decode cX11_init 101 = .ok (.newarray .int, 2) := by decide +kernel
theorem dX11_init_103 : decode cX11_init 103 = .ok (.putfield 49, 3) := by decide +kernel
theorem dX11_init_106 : decode cX11_init 106 = .ok (.aload_n 0, 1) := by decide +kernel
theorem dX11_init_107 : decode cX11_init 107 = .ok (.sipush 144, 3) := by decide +kernel
theorem dX11_init_110 : decode cX11_init 110 = .ok (.newarray .long, 2) := by decide +kernel
theorem dX11_init_112 : decode cX11_init 112 = .ok (.putfield 52, 3) := by decide +kernel
theorem dX11_init_115 : decode cX11_init 115 = .ok (.aload_n 0, 1) := by decide +kernel
theorem dX11_init_116 : decode cX11_init 116 = .ok (.bipush 12, 2) := by decide +kernel
theorem dX11_init_118 : decode cX11_init 118 = .ok (.newarray .long, 2) := by decide +kernel
theorem dX11_init_120 : decode cX11_init 120 = .ok (.putfield 55, 3) := by decide +kernel
theorem dX11_init_123 : decode cX11_init 123 = .ok (.aload_n 0, 1) := by decide +kernel
theorem dX11_init_124 : decode cX11_init 124 = .ok (.bipush 12, 2) := by decide +kernel
theorem dX11_init_126 : decode cX11_init 126 = .ok (.newarray .long, 2) := by decide +kernel
theorem dX11_init_128 : decode cX11_init 128 = .ok (.putfield 58, 3) := by decide +kernel
theorem dX11_init_131 : decode cX11_init 131 = .ok (.aload_n 0, 1) := by decide +kernel
theorem dX11_init_132 : decode cX11_init 132 = .ok (.sipush 144, 3) := by decide +kernel
theorem dX11_init_135 : decode cX11_init 135 = .ok (.newarray .long, 2) := by decide +kernel
theorem dX11_init_137 : decode cX11_init 137 = .ok (.putfield 61, 3) := by decide +kernel
theorem dX11_init_140 : decode cX11_init 140 = .ok (.aload_n 0, 1) := by decide +kernel
theorem dX11_init_141 : decode cX11_init 141 = .ok (.sipush 144, 3) := by decide +kernel
theorem dX11_init_144 : decode cX11_init 144 = .ok (.newarray .long, 2) := by decide +kernel
theorem dX11_init_146 : decode cX11_init 146 = .ok (.putfield 64, 3) := by decide +kernel
theorem dX11_init_149 : decode cX11_init 149 = .ok (.aload_n 0, 1) := by decide +kernel
theorem dX11_init_150 : decode cX11_init 150 = .ok (.bipush 12, 2) := by decide +kernel
theorem dX11_init_152 : decode cX11_init 152 = .ok (.newarray .long, 2) := by decide +kernel
theorem dX11_init_154 : decode cX11_init 154 = .ok (.putfield 67, 3) := by decide +kernel
theorem dX11_init_157 : decode cX11_init 157 = .ok (.aload_n 0, 1) := by decide +kernel
theorem dX11_init_158 : decode cX11_init 158 = .ok (.bipush 60, 2) := by decide +kernel
theorem dX11_init_160 : decode cX11_init 160 = .ok (.newarray .int, 2) := by decide +kernel
theorem dX11_init_162 : decode cX11_init 162 = .ok (.putfield 70, 3) := by decide +kernel
theorem dX11_init_165 : decode cX11_init 165 = .ok (.aload_n 0, 1) := by decide +kernel
theorem dX11_init_166 : decode cX11_init 166 = .ok (.bipush 12, 2) := by decide +kernel
theorem dX11_init_168 : decode cX11_init 168 = .ok (.newarray .int, 2) := by decide +kernel
theorem dX11_init_170 : decode cX11_init 170 = .ok (.putfield 73, 3) := by decide +kernel
theorem dX11_init_173 : decode cX11_init 173 = .ok (.aload_n 0, 1) := by decide +kernel
theorem dX11_init_174 : decode cX11_init 174 = .ok (.bipush 12, 2) := by decide +kernel
theorem dX11_init_176 : decode cX11_init 176 = .ok (.newarray .int, 2) := by decide +kernel
theorem dX11_init_178 : decode cX11_init 178 = .ok (.putfield 76, 3) := by decide +kernel
theorem dX11_init_181 : decode cX11_init 181 = .ok (.aload_n 0, 1) := by decide +kernel
theorem dX11_init_182 : decode cX11_init 182 = .ok (.sipush 1024, 3) := by decide +kernel
theorem dX11_init_185 : decode cX11_init 185 = .ok (.newarray .int, 2) := by decide +kernel
theorem dX11_init_187 : decode cX11_init 187 = .ok (.putfield 79, 3) := by decide +kernel
theorem dX11_init_190 : decode cX11_init 190 = .ok (.aload_n 0, 1) := by decide +kernel
theorem dX11_init_191 : decode cX11_init 191 = .ok (.sipush 1024, 3) := by decide +kernel
theorem dX11_init_194 : decode cX11_init 194 = .ok (.newarray .int, 2) := by decide +kernel
theorem dX11_init_196 : decode cX11_init 196 = .ok (.putfield 82, 3) := by decide +kernel
theorem dX11_init_199 : decode cX11_init 199 = .ok (.aload_n 0, 1) := by decide +kernel
theorem dX11_init_200 : decode cX11_init 200 = .ok (.bipush 12, 2) := by decide +kernel
theorem dX11_init_202 : decode cX11_init 202 = .ok (.newarray .long, 2) := by decide +kernel
theorem dX11_init_204 : decode cX11_init 204 = .ok (.putfield 85, 3) := by decide +kernel
theorem dX11_init_207 : decode cX11_init 207 = .ok (.aload_n 0, 1) := by decide +kernel
theorem dX11_init_208 : decode cX11_init 208 = .ok (.bipush 12, 2) := by decide +kernel
theorem dX11_init_210 : decode cX11_init 210 = .ok (.newarray .boolean, 2) := by decide +kernel
theorem dX11_init_212 : decode cX11_init 212 = .ok (.putfield 88, 3) := by decide +kernel
theorem dX11_init_215 : decode cX11_init 215 = .ok (.aload_n 0, 1) := by decide +kernel
theorem dX11_init_216 : decode cX11_init 216 = .ok (.bipush 60, 2) := by decide +kernel
theorem dX11_init_218 : decode cX11_init 218 = .ok (.newarray .boolean, 2) := by decide +kernel
theorem dX11_init_220 : decode cX11_init 220 = .ok (.putfield 92, 3) := by decide +kernel
theorem dX11_init_223 : decode cX11_init 223 = .ok (.aload_n 0, 1) := by decide +kernel
theorem dX11_init_224 : decode cX11_init 224 = .ok (.ldc 13, 2) := by decide +kernel
theorem dX11_init_226 : decode cX11_init 226 = .ok (.newarray .int, 2) := by decide +kernel
theorem dX11_init_228 : decode cX11_init 228 = .ok (.putfield 95, 3) := by decide +kernel
theorem dX11_init_231 : decode cX11_init 231 = .ok (.aload_n 0, 1) := by decide +kernel
theorem dX11_init_232 : decode cX11_init 232 = .ok (.sipush 216, 3) := by decide +kernel
theorem dX11_init_235 : decode cX11_init 235 = .ok (.newarray .long, 2) := by decide +kernel
theorem dX11_init_237 : decode cX11_init 237 = .ok (.putfield 98, 3) := by decide +kernel
theorem dX11_init_240 : decode cX11_init 240 = .ok (.aload_n 0, 1) := by decide +kernel
theorem dX11_init_241 : decode cX11_init 241 = .ok (.bipush 60, 2) := by decide +kernel
theorem dX11_init_243 : decode cX11_init 243 = .ok (.newarray .int, 2) := by decide +kernel
theorem dX11_init_245 : decode cX11_init 245 = .ok (.putfield 101, 3) := by decide +kernel
theorem dX11_init_248 : decode cX11_init 248 = .ok (.aload_n 0, 1) := by decide +kernel
theorem dX11_init_249 : decode cX11_init 249 = .ok (.getfield 14, 3) := by decide +kernel
theorem dX11_init_252 : decode cX11_init 252 = .ok (.iconst 0, 1) := by decide +kernel
theorem dX11_init_253 : decode cX11_init 253 = .ok (.iconst 0, 1) := by decide +kernel
theorem dX11_init_254 : decode cX11_init 254 = .ok (.iastore, 1) := by decide +kernel
theorem dX11_init_255 : decode cX11_init 255 = .ok (.return_, 1) := by decide +kernel
theorem dX11_refuse_0 : decode cX11_refuse 0 = .ok (.aload_n 0, 1) := by decide +kernel
theorem dX11_refuse_1 : decode cX11_refuse 1 = .ok (.getfield 22, 3) := by decide +kernel
theorem dX11_refuse_4 : decode cX11_refuse 4 = .ok (.iload_n 1, 1) := by decide +kernel
theorem dX11_refuse_5 : decode cX11_refuse 5 = .ok (.ineg, 1) := by decide +kernel
theorem dX11_refuse_6 : decode cX11_refuse 6 = .ok (.dup2, 1) := by decide +kernel
theorem dX11_refuse_7 : decode cX11_refuse 7 = .ok (.iaload, 1) := by decide +kernel
theorem dX11_refuse_8 : decode cX11_refuse 8 = .ok (.iconst 1, 1) := by decide +kernel
theorem dX11_refuse_9 : decode cX11_refuse 9 = .ok (.iadd, 1) := by decide +kernel
theorem dX11_refuse_10 : decode cX11_refuse 10 = .ok (.iastore, 1) := by decide +kernel
theorem dX11_refuse_11 : decode cX11_refuse 11 = .ok (.iload_n 1, 1) := by decide +kernel
theorem dX11_refuse_12 : decode cX11_refuse 12 = .ok (.ireturn, 1) := by decide +kernel
theorem dX11_hush_0 : decode cX11_hush 0 = .ok (.aload_n 0, 1) := by decide +kernel
theorem dX11_hush_1 : decode cX11_hush 1 = .ok (.getfield 22, 3) := by decide +kernel
theorem dX11_hush_4 : decode cX11_hush 4 = .ok (.iload_n 1, 1) := by decide +kernel
theorem dX11_hush_5 : decode cX11_hush 5 = .ok (.ineg, 1) := by decide +kernel
theorem dX11_hush_6 : decode cX11_hush 6 = .ok (.dup2, 1) := by decide +kernel
theorem dX11_hush_7 : decode cX11_hush 7 = .ok (.iaload, 1) := by decide +kernel
theorem dX11_hush_8 : decode cX11_hush 8 = .ok (.iconst 1, 1) := by decide +kernel
theorem dX11_hush_9 : decode cX11_hush 9 = .ok (.iadd, 1) := by decide +kernel
theorem dX11_hush_10 : decode cX11_hush 10 = .ok (.iastore, 1) := by decide +kernel
theorem dX11_hush_11 : decode cX11_hush 11 = .ok (.iconst 0, 1) := by decide +kernel
theorem dX11_hush_12 : decode cX11_hush 12 = .ok (.ireturn, 1) := by decide +kernel
theorem dX11_status_0 : decode cX11_status 0 = .ok (.iload_n 1, 1) := by decide +kernel
theorem dX11_status_1 : decode cX11_status 1 = .ok (.bipush (-8), 2) := by decide +kernel
theorem dX11_status_3 : decode cX11_status 3 = .ok (.bipush (-2), 2) := by decide +kernel
theorem dX11_status_5 : decode cX11_status 5 = .ok (.invokestatic 104, 3) := by decide +kernel
theorem dX11_status_8 : decode cX11_status 8 = .ok (.ifCond .eq 13, 3) := by decide +kernel
theorem dX11_status_11 : decode cX11_status 11 = .ok (.aload_n 0, 1) := by decide +kernel
theorem dX11_status_12 : decode cX11_status 12 = .ok (.getfield 22, 3) := by decide +kernel
theorem dX11_status_15 : decode cX11_status 15 = .ok (.iload_n 1, 1) := by decide +kernel
theorem dX11_status_16 : decode cX11_status 16 = .ok (.ineg, 1) := by decide +kernel
theorem dX11_status_17 : decode cX11_status 17 = .ok (.iaload, 1) := by decide +kernel
theorem dX11_status_18 : decode cX11_status 18 = .ok (.goto 9, 3) := by decide +kernel
theorem dX11_status_21 : decode cX11_status 21 = .ok (.aload_n 0, 1) := by decide +kernel
theorem dX11_status_22 : decode cX11_status 22 = .ok (.bipush (-7), 2) := by decide +kernel
theorem dX11_status_24 : decode cX11_status 24 = .ok (.invokevirtual 108, 3) := by decide +kernel
theorem dX11_status_27 : decode cX11_status 27 = .ok (.ireturn, 1) := by decide +kernel
theorem dX11_isMan_0 : decode cX11_isMan 0 = .ok (.iload_n 1, 1) := by decide +kernel
theorem dX11_isMan_1 : decode cX11_isMan 1 = .ok (.iconst 0, 1) := by decide +kernel
theorem dX11_isMan_2 : decode cX11_isMan 2 = .ok (.aload_n 0, 1) := by decide +kernel
theorem dX11_isMan_3 : decode cX11_isMan 3 = .ok (.getfield 14, 3) := by decide +kernel
theorem dX11_isMan_6 : decode cX11_isMan 6 = .ok (.iconst 1, 1) := by decide +kernel
theorem dX11_isMan_7 : decode cX11_isMan 7 = .ok (.iaload, 1) := by decide +kernel
theorem dX11_isMan_8 : decode cX11_isMan 8 = .ok (.iconst 1, 1) := by decide +kernel
theorem dX11_isMan_9 : decode cX11_isMan 9 = .ok (.isub, 1) := by decide +kernel
theorem dX11_isMan_10 : decode cX11_isMan 10 = .ok (.invokestatic 104, 3) := by decide +kernel
theorem dX11_isMan_13 : decode cX11_isMan 13 = .ok (.ireturn, 1) := by decide +kernel
theorem dX11_isStock_0 : decode cX11_isStock 0 = .ok (.iload_n 1, 1) := by decide +kernel
theorem dX11_isStock_1 : decode cX11_isStock 1 = .ok (.iconst 0, 1) := by decide +kernel
theorem dX11_isStock_2 : decode cX11_isStock 2 = .ok (.aload_n 0, 1) := by decide +kernel
theorem dX11_isStock_3 : decode cX11_isStock 3 = .ok (.getfield 14, 3) := by decide +kernel
theorem dX11_isStock_6 : decode cX11_isStock 6 = .ok (.iconst 2, 1) := by decide +kernel
theorem dX11_isStock_7 : decode cX11_isStock 7 = .ok (.iaload, 1) := by decide +kernel
theorem dX11_isStock_8 : decode cX11_isStock 8 = .ok (.iconst 1, 1) := by decide +kernel
theorem dX11_isStock_9 : decode cX11_isStock 9 = .ok (.isub, 1) := by decide +kernel
theorem dX11_isStock_10 : decode cX11_isStock 10 = .ok (.invokestatic 104, 3) := by decide +kernel
theorem dX11_isStock_13 : decode cX11_isStock 13 = .ok (.ireturn, 1) := by decide +kernel
theorem dX11_isUp_0 : decode cX11_isUp 0 = .ok (.aload_n 0, 1) := by decide +kernel
theorem dX11_isUp_1 : decode cX11_isUp 1 = .ok (.getfield 14, 3) := by decide +kernel
theorem dX11_isUp_4 : decode cX11_isUp 4 = .ok (.bipush 16, 2) := by decide +kernel
theorem dX11_isUp_6 : decode cX11_isUp 6 = .ok (.iconst 4, 1) := by decide +kernel
theorem dX11_isUp_7 : decode cX11_isUp 7 = .ok (.iload_n 1, 1) := by decide +kernel
theorem dX11_isUp_8 : decode cX11_isUp 8 = .ok (.imul, 1) := by decide +kernel
theorem dX11_isUp_9 : decode cX11_isUp 9 = .ok (.iadd, 1) := by decide +kernel
theorem dX11_isUp_10 : decode cX11_isUp 10 = .ok (.iaload, 1) := by decide +kernel
theorem dX11_isUp_11 : decode cX11_isUp 11 = .ok (.iconst 1, 1) := by decide +kernel
theorem dX11_isUp_12 : decode cX11_isUp 12 = .ok (.if_icmp .ne 7, 3) := by decide +kernel
theorem dX11_isUp_15 : decode cX11_isUp 15 = .ok (.iconst 1, 1) := by decide +kernel
theorem dX11_isUp_16 : decode cX11_isUp 16 = .ok (.goto 4, 3) := by decide +kernel
theorem dX11_isUp_19 : decode cX11_isUp 19 = .ok (.iconst 0, 1) := by decide +kernel
theorem dX11_isUp_20 : decode cX11_isUp 20 = .ok (.ireturn, 1) := by decide +kernel
theorem dX11_man_0 : decode cX11_man 0 = .ok (.iload_n 1, 1) := by decide +kernel
theorem dX11_man_1 : decode cX11_man 1 = .ok (.iconst 0, 1) := by decide +kernel
theorem dX11_man_2 : decode cX11_man 2 = .ok (.ldc 112, 2) := by decide +kernel
theorem dX11_man_4 : decode cX11_man 4 = .ok (.invokestatic 104, 3) := by decide +kernel
theorem dX11_man_7 : decode cX11_man 7 = .ok (.ifCond .eq 13, 3) := by decide +kernel
theorem dX11_man_10 : decode cX11_man 10 = .ok (.iload_n 2, 1) := by decide +kernel
theorem dX11_man_11 : decode cX11_man 11 = .ok (.iconst 0, 1) := by decide +kernel
theorem dX11_man_12 : decode cX11_man 12 = .ok (.bipush 99, 2) := by decide +kernel
theorem dX11_man_14 : decode cX11_man 14 = .ok (.invokestatic 104, 3) := by decide +kernel
theorem dX11_man_17 : decode cX11_man 17 = .ok (.ifCond .ne 10, 3) := by decide +kernel
theorem dX11_man_20 : decode cX11_man 20 = .ok (.aload_n 0, 1) := by decide +kernel
theorem dX11_man_21 : decode cX11_man 21 = .ok (.bipush (-7), 2) := by decide +kernel
theorem dX11_man_23 : decode cX11_man 23 = .ok (.invokevirtual 108, 3) := by decide +kernel
theorem dX11_man_26 : decode cX11_man 26 = .ok (.ireturn, 1) := by decide +kernel
theorem dX11_man_27 : decode cX11_man 27 = .ok (.aload_n 0, 1) := by decide +kernel
theorem dX11_man_28 : decode cX11_man 28 = .ok (.getfield 14, 3) := by decide +kernel
theorem dX11_man_31 : decode cX11_man 31 = .ok (.iconst 1, 1) := by decide +kernel
theorem dX11_man_32 : decode cX11_man 32 = .ok (.iaload, 1) := by decide +kernel
theorem dX11_man_33 : decode cX11_man 33 = .ok (.bipush 12, 2) := by decide +kernel
theorem dX11_man_35 : decode cX11_man 35 = .ok (.if_icmp .ne 10, 3) := by decide +kernel
theorem dX11_man_38 : decode cX11_man 38 = .ok (.aload_n 0, 1) := by decide +kernel
theorem dX11_man_39 : decode cX11_man 39 = .ok (.bipush (-8), 2) := by decide +kernel
theorem dX11_man_41 : decode cX11_man 41 = .ok (.invokevirtual 108, 3) := by decide +kernel
theorem dX11_man_44 : decode cX11_man 44 = .ok (.ireturn, 1) := by decide +kernel
theorem dX11_man_45 : decode cX11_man 45 = .ok (.aload_n 0, 1) := by decide +kernel
theorem dX11_man_46 : decode cX11_man 46 = .ok (.getfield 14, 3) := by decide +kernel
theorem dX11_man_49 : decode cX11_man 49 = .ok (.iconst 1, 1) := by decide +kernel
theorem dX11_man_50 : decode cX11_man 50 = .ok (.iaload, 1) := by decide +kernel
theorem dX11_man_51 : decode cX11_man 51 = .ok (.istore_n 3, 1) := by decide +kernel
theorem dX11_man_52 : decode cX11_man 52 = .ok (.aload_n 0, 1) := by decide +kernel
theorem dX11_man_53 : decode cX11_man 53 = .ok (.getfield 14, 3) := by decide +kernel
theorem dX11_man_56 : decode cX11_man 56 = .ok (.bipush 16, 2) := by decide +kernel
theorem dX11_man_58 : decode cX11_man 58 = .ok (.iconst 4, 1) := by decide +kernel
theorem dX11_man_59 : decode cX11_man 59 = .ok (.iload_n 3, 1) := by decide +kernel
theorem dX11_man_60 : decode cX11_man 60 = .ok (.imul, 1) := by decide +kernel
theorem dX11_man_61 : decode cX11_man 61 = .ok (.iadd, 1) := by decide +kernel
theorem dX11_man_62 : decode cX11_man 62 = .ok (.iconst 1, 1) := by decide +kernel
theorem dX11_man_63 : decode cX11_man 63 = .ok (.iastore, 1) := by decide +kernel
theorem dX11_man_64 : decode cX11_man 64 = .ok (.aload_n 0, 1) := by decide +kernel
theorem dX11_man_65 : decode cX11_man 65 = .ok (.getfield 14, 3) := by decide +kernel
theorem dX11_man_68 : decode cX11_man 68 = .ok (.bipush 16, 2) := by decide +kernel
theorem dX11_man_70 : decode cX11_man 70 = .ok (.iconst 4, 1) := by decide +kernel
theorem dX11_man_71 : decode cX11_man 71 = .ok (.iload_n 3, 1) := by decide +kernel
theorem dX11_man_72 : decode cX11_man 72 = .ok (.imul, 1) := by decide +kernel
theorem dX11_man_73 : decode cX11_man 73 = .ok (.iadd, 1) := by decide +kernel
theorem dX11_man_74 : decode cX11_man 74 = .ok (.iconst 1, 1) := by decide +kernel
theorem dX11_man_75 : decode cX11_man 75 = .ok (.iadd, 1) := by decide +kernel
theorem dX11_man_76 : decode cX11_man 76 = .ok (.iload_n 2, 1) := by decide +kernel
theorem dX11_man_77 : decode cX11_man 77 = .ok (.iastore, 1) := by decide +kernel
theorem dX11_man_78 : decode cX11_man 78 = .ok (.aload_n 0, 1) := by decide +kernel
theorem dX11_man_79 : decode cX11_man 79 = .ok (.getfield 14, 3) := by decide +kernel
theorem dX11_man_82 : decode cX11_man 82 = .ok (.bipush 16, 2) := by decide +kernel
theorem dX11_man_84 : decode cX11_man 84 = .ok (.iconst 4, 1) := by decide +kernel
theorem dX11_man_85 : decode cX11_man 85 = .ok (.iload_n 3, 1) := by decide +kernel
theorem dX11_man_86 : decode cX11_man 86 = .ok (.imul, 1) := by decide +kernel
theorem dX11_man_87 : decode cX11_man 87 = .ok (.iadd, 1) := by decide +kernel
theorem dX11_man_88 : decode cX11_man 88 = .ok (.iconst 2, 1) := by decide +kernel
theorem dX11_man_89 : decode cX11_man 89 = .ok (.iadd, 1) := by decide +kernel
theorem dX11_man_90 : decode cX11_man 90 = .ok (.iconst (-1), 1) := by decide +kernel
theorem dX11_man_91 : decode cX11_man 91 = .ok (.iastore, 1) := by decide +kernel
theorem dX11_man_92 : decode cX11_man 92 = .ok (.aload_n 0, 1) := by decide +kernel
theorem dX11_man_93 : decode cX11_man 93 = .ok (.getfield 14, 3) := by decide +kernel
theorem dX11_man_96 : decode cX11_man 96 = .ok (.bipush 16, 2) := by decide +kernel
theorem dX11_man_98 : decode cX11_man 98 = .ok (.iconst 4, 1) := by decide +kernel
theorem dX11_man_99 : decode cX11_man 99 = .ok (.iload_n 3, 1) := by decide +kernel
theorem dX11_man_100 : decode cX11_man 100 = .ok (.imul, 1) := by decide +kernel
theorem dX11_man_101 : decode cX11_man 101 = .ok (.iadd, 1) := by decide +kernel
theorem dX11_man_102 : decode cX11_man 102 = .ok (.iconst 3, 1) := by decide +kernel
theorem dX11_man_103 : decode cX11_man 103 = .ok (.iadd, 1) := by decide +kernel
theorem dX11_man_104 : decode cX11_man 104 = .ok (.iconst 0, 1) := by decide +kernel
theorem dX11_man_105 : decode cX11_man 105 = .ok (.iastore, 1) := by decide +kernel
theorem dX11_man_106 : decode cX11_man 106 = .ok (.aload_n 0, 1) := by decide +kernel
theorem dX11_man_107 : decode cX11_man 107 = .ok (.getfield 18, 3) := by decide +kernel
theorem dX11_man_110 : decode cX11_man 110 = .ok (.iconst 0, 1) := by decide +kernel
theorem dX11_man_111 : decode cX11_man 111 = .ok (.iload_n 3, 1) := by decide +kernel
theorem dX11_man_112 : decode cX11_man 112 = .ok (.iadd, 1) := by decide +kernel
theorem dX11_man_113 : decode cX11_man 113 = .ok (.iload_n 1, 1) := by decide +kernel
theorem dX11_man_114 : decode cX11_man 114 = .ok (.i2l, 1) := by decide +kernel
theorem dX11_man_115 : decode cX11_man 115 = .ok (.lastore, 1) := by decide +kernel
theorem dX11_man_116 : decode cX11_man 116 = .ok (.aload_n 0, 1) := by decide +kernel
theorem dX11_man_117 : decode cX11_man 117 = .ok (.getfield 14, 3) := by decide +kernel
theorem dX11_man_120 : decode cX11_man 120 = .ok (.iconst 1, 1) := by decide +kernel
theorem dX11_man_121 : decode cX11_man 121 = .ok (.dup2, 1) := by decide +kernel
theorem dX11_man_122 : decode cX11_man 122 = .ok (.iaload, 1) := by decide +kernel
theorem dX11_man_123 : decode cX11_man 123 = .ok (.iconst 1, 1) := by decide +kernel
theorem dX11_man_124 : decode cX11_man 124 = .ok (.iadd, 1) := by decide +kernel
theorem dX11_man_125 : decode cX11_man 125 = .ok (.iastore, 1) := by decide +kernel
theorem dX11_man_126 : decode cX11_man 126 = .ok (.iload_n 3, 1) := by decide +kernel
theorem dX11_man_127 : decode cX11_man 127 = .ok (.ireturn, 1) := by decide +kernel
theorem dX11_stock_0 : decode cX11_stock 0 = .ok (.aload_n 0, 1) := by decide +kernel
theorem dX11_stock_1 : decode cX11_stock 1 = .ok (.getfield 14, 3) := by decide +kernel
theorem dX11_stock_4 : decode cX11_stock 4 = .ok (.iconst 2, 1) := by decide +kernel
theorem dX11_stock_5 : decode cX11_stock 5 = .ok (.iaload, 1) := by decide +kernel
theorem dX11_stock_6 : decode cX11_stock 6 = .ok (.iconst 5, 1) := by decide +kernel
theorem dX11_stock_7 : decode cX11_stock 7 = .ok (.if_icmp .ne 10, 3) := by decide +kernel
theorem dX11_stock_10 : decode cX11_stock 10 = .ok (.aload_n 0, 1) := by decide +kernel
theorem dX11_stock_11 : decode cX11_stock 11 = .ok (.bipush (-8), 2) := by decide +kernel
theorem dX11_stock_13 : decode cX11_stock 13 = .ok (.invokevirtual 108, 3) := by decide +kernel
theorem dX11_stock_16 : decode cX11_stock 16 = .ok (.ireturn, 1) := by decide +kernel
theorem dX11_stock_17 : decode cX11_stock 17 = .ok (.aload_n 0, 1) := by decide +kernel
theorem dX11_stock_18 : decode cX11_stock 18 = .ok (.getfield 14, 3) := by decide +kernel
theorem dX11_stock_21 : decode cX11_stock 21 = .ok (.iconst 2, 1) := by decide +kernel
theorem dX11_stock_22 : decode cX11_stock 22 = .ok (.dup2, 1) := by decide +kernel
theorem dX11_stock_23 : decode cX11_stock 23 = .ok (.iaload, 1) := by decide +kernel
theorem dX11_stock_24 : decode cX11_stock 24 = .ok (.iconst 1, 1) := by decide +kernel
theorem dX11_stock_25 : decode cX11_stock 25 = .ok (.iadd, 1) := by decide +kernel
theorem dX11_stock_26 : decode cX11_stock 26 = .ok (.iastore, 1) := by decide +kernel
theorem dX11_stock_27 : decode cX11_stock 27 = .ok (.aload_n 0, 1) := by decide +kernel
theorem dX11_stock_28 : decode cX11_stock 28 = .ok (.getfield 14, 3) := by decide +kernel
theorem dX11_stock_31 : decode cX11_stock 31 = .ok (.iconst 2, 1) := by decide +kernel
theorem dX11_stock_32 : decode cX11_stock 32 = .ok (.iaload, 1) := by decide +kernel
theorem dX11_stock_33 : decode cX11_stock 33 = .ok (.iconst 1, 1) := by decide +kernel
theorem dX11_stock_34 : decode cX11_stock 34 = .ok (.isub, 1) := by decide +kernel
theorem dX11_stock_35 : decode cX11_stock 35 = .ok (.ireturn, 1) := by decide +kernel
theorem dX11_hold_0 : decode cX11_hold 0 = .ok (.aload_n 0, 1) := by decide +kernel
theorem dX11_hold_1 : decode cX11_hold 1 = .ok (.iload_n 1, 1) := by decide +kernel
theorem dX11_hold_2 : decode cX11_hold 2 = .ok (.invokevirtual 113, 3) := by decide +kernel
theorem dX11_hold_5 : decode cX11_hold 5 = .ok (.ifCond .eq 11, 3) := by decide +kernel
theorem dX11_hold_8 : decode cX11_hold 8 = .ok (.aload_n 0, 1) := by decide +kernel
theorem dX11_hold_9 : decode cX11_hold 9 = .ok (.iload_n 2, 1) := by decide +kernel
theorem dX11_hold_10 : decode cX11_hold 10 = .ok (.invokevirtual 117, 3) := by decide +kernel
theorem dX11_hold_13 : decode cX11_hold 13 = .ok (.ifCond .ne 10, 3) := by decide +kernel
theorem dX11_hold_16 : decode cX11_hold 16 = .ok (.aload_n 0, 1) := by decide +kernel
theorem dX11_hold_17 : decode cX11_hold 17 = .ok (.bipush (-3), 2) := by decide +kernel
theorem dX11_hold_19 : decode cX11_hold 19 = .ok (.invokevirtual 108, 3) := by decide +kernel
theorem dX11_hold_22 : decode cX11_hold 22 = .ok (.ireturn, 1) := by decide +kernel
theorem dX11_hold_23 : decode cX11_hold 23 = .ok (.iload_n 3, 1) := by decide +kernel
theorem dX11_hold_24 : decode cX11_hold 24 = .ok (.iconst 0, 1) := by decide +kernel
theorem dX11_hold_25 : decode cX11_hold 25 = .ok (.sipush 9999, 3) := by decide +kernel
theorem dX11_hold_28 : decode cX11_hold 28 = .ok (.invokestatic 104, 3) := by decide +kernel
theorem dX11_hold_31 : decode cX11_hold 31 = .ok (.ifCond .eq 11, 3) := by decide +kernel
theorem dX11_hold_34 : decode cX11_hold 34 = .ok (.aload_n 0, 1) := by decide +kernel
theorem dX11_hold_35 : decode cX11_hold 35 = .ok (.iload_n 1, 1) := by decide +kernel
theorem dX11_hold_36 : decode cX11_hold 36 = .ok (.invokevirtual 120, 3) := by decide +kernel
theorem dX11_hold_39 : decode cX11_hold 39 = .ok (.ifCond .ne 10, 3) := by decide +kernel
theorem dX11_hold_42 : decode cX11_hold 42 = .ok (.aload_n 0, 1) := by decide +kernel
theorem dX11_hold_43 : decode cX11_hold 43 = .ok (.bipush (-7), 2) := by decide +kernel
theorem dX11_hold_45 : decode cX11_hold 45 = .ok (.invokevirtual 108, 3) := by decide +kernel
theorem dX11_hold_48 : decode cX11_hold 48 = .ok (.ireturn, 1) := by decide +kernel
theorem dX11_hold_49 : decode cX11_hold 49 = .ok (.aload_n 0, 1) := by decide +kernel
theorem dX11_hold_50 : decode cX11_hold 50 = .ok (.getfield 14, 3) := by decide +kernel
theorem dX11_hold_53 : decode cX11_hold 53 = .ok (.bipush 64, 2) := by decide +kernel
theorem dX11_hold_55 : decode cX11_hold 55 = .ok (.iconst 5, 1) := by decide +kernel
theorem dX11_hold_56 : decode cX11_hold 56 = .ok (.iload_n 1, 1) := by decide +kernel
theorem dX11_hold_57 : decode cX11_hold 57 = .ok (.imul, 1) := by decide +kernel
theorem dX11_hold_58 : decode cX11_hold 58 = .ok (.iadd, 1) := by decide +kernel
theorem dX11_hold_59 : decode cX11_hold 59 = .ok (.iload_n 2, 1) := by decide +kernel
theorem dX11_hold_60 : decode cX11_hold 60 = .ok (.iadd, 1) := by decide +kernel
theorem dX11_hold_61 : decode cX11_hold 61 = .ok (.dup2, 1) := by decide +kernel
theorem dX11_hold_62 : decode cX11_hold 62 = .ok (.iaload, 1) := by decide +kernel
theorem dX11_hold_63 : decode cX11_hold 63 = .ok (.iload_n 3, 1) := by decide +kernel
theorem dX11_hold_64 : decode cX11_hold 64 = .ok (.iadd, 1) := by decide +kernel
theorem dX11_hold_65 : decode cX11_hold 65 = .ok (.iastore, 1) := by decide +kernel
theorem dX11_hold_66 : decode cX11_hold 66 = .ok (.aload_n 0, 1) := by decide +kernel
theorem dX11_hold_67 : decode cX11_hold 67 = .ok (.getfield 14, 3) := by decide +kernel
theorem dX11_hold_70 : decode cX11_hold 70 = .ok (.bipush 64, 2) := by decide +kernel
theorem dX11_hold_72 : decode cX11_hold 72 = .ok (.iconst 5, 1) := by decide +kernel
theorem dX11_hold_73 : decode cX11_hold 73 = .ok (.iload_n 1, 1) := by decide +kernel
theorem dX11_hold_74 : decode cX11_hold 74 = .ok (.imul, 1) := by decide +kernel
theorem dX11_hold_75 : decode cX11_hold 75 = .ok (.iadd, 1) := by decide +kernel
theorem dX11_hold_76 : decode cX11_hold 76 = .ok (.iload_n 2, 1) := by decide +kernel
theorem dX11_hold_77 : decode cX11_hold 77 = .ok (.iadd, 1) := by decide +kernel
theorem dX11_hold_78 : decode cX11_hold 78 = .ok (.iaload, 1) := by decide +kernel
theorem dX11_hold_79 : decode cX11_hold 79 = .ok (.ireturn, 1) := by decide +kernel
theorem dX11_lend_0 : decode cX11_lend 0 = .ok (.aload_n 0, 1) := by decide +kernel
theorem dX11_lend_1 : decode cX11_lend 1 = .ok (.iload_n 1, 1) := by decide +kernel
theorem dX11_lend_2 : decode cX11_lend 2 = .ok (.invokevirtual 113, 3) := by decide +kernel
theorem dX11_lend_5 : decode cX11_lend 5 = .ok (.ifCond .ne 10, 3) := by decide +kernel
theorem dX11_lend_8 : decode cX11_lend 8 = .ok (.aload_n 0, 1) := by decide +kernel
theorem dX11_lend_9 : decode cX11_lend 9 = .ok (.bipush (-3), 2) := by decide +kernel
theorem dX11_lend_11 : decode cX11_lend 11 = .ok (.invokevirtual 108, 3) := by decide +kernel
theorem dX11_lend_14 : decode cX11_lend 14 = .ok (.ireturn, 1) := by decide +kernel
theorem dX11_lend_15 : decode cX11_lend 15 = .ok (.iload_n 2, 1) := by decide +kernel
theorem dX11_lend_16 : decode cX11_lend 16 = .ok (.iconst 0, 1) := by decide +kernel
theorem dX11_lend_17 : decode cX11_lend 17 = .ok (.ldc 112, 2) := by decide +kernel
theorem dX11_lend_19 : decode cX11_lend 19 = .ok (.invokestatic 104, 3) := by decide +kernel
theorem dX11_lend_22 : decode cX11_lend 22 = .ok (.ifCond .eq 11, 3) := by decide +kernel
theorem dX11_lend_25 : decode cX11_lend 25 = .ok (.aload_n 0, 1) := by decide +kernel
theorem dX11_lend_26 : decode cX11_lend 26 = .ok (.iload_n 1, 1) := by decide +kernel
theorem dX11_lend_27 : decode cX11_lend 27 = .ok (.invokevirtual 120, 3) := by decide +kernel
theorem dX11_lend_30 : decode cX11_lend 30 = .ok (.ifCond .ne 10, 3) := by decide +kernel
theorem dX11_lend_33 : decode cX11_lend 33 = .ok (.aload_n 0, 1) := by decide +kernel
theorem dX11_lend_34 : decode cX11_lend 34 = .ok (.bipush (-7), 2) := by decide +kernel
theorem dX11_lend_36 : decode cX11_lend 36 = .ok (.invokevirtual 108, 3) := by decide +kernel
theorem dX11_lend_39 : decode cX11_lend 39 = .ok (.ireturn, 1) := by decide +kernel
theorem dX11_lend_40 : decode cX11_lend 40 = .ok (.aload_n 0, 1) := by decide +kernel
theorem dX11_lend_41 : decode cX11_lend 41 = .ok (.getfield 18, 3) := by decide +kernel
theorem dX11_lend_44 : decode cX11_lend 44 = .ok (.iconst 0, 1) := by decide +kernel
theorem dX11_lend_45 : decode cX11_lend 45 = .ok (.iload_n 1, 1) := by decide +kernel
theorem dX11_lend_46 : decode cX11_lend 46 = .ok (.iadd, 1) := by decide +kernel
theorem dX11_lend_47 : decode cX11_lend 47 = .ok (.dup2, 1) := by decide +kernel
theorem dX11_lend_48 : decode cX11_lend 48 = .ok (.laload, 1) := by decide +kernel
theorem dX11_lend_49 : decode cX11_lend 49 = .ok (.iload_n 2, 1) := by decide +kernel
theorem dX11_lend_50 : decode cX11_lend 50 = .ok (.i2l, 1) := by decide +kernel
theorem dX11_lend_51 : decode cX11_lend 51 = .ok (.ladd, 1) := by decide +kernel
theorem dX11_lend_52 : decode cX11_lend 52 = .ok (.lastore, 1) := by decide +kernel
theorem dX11_lend_53 : decode cX11_lend 53 = .ok (.iconst 1, 1) := by decide +kernel
theorem dX11_lend_54 : decode cX11_lend 54 = .ok (.ireturn, 1) := by decide +kernel
theorem dX11_asks_0 : decode cX11_asks 0 = .ok (.aload_n 0, 1) := by decide +kernel
theorem dX11_asks_1 : decode cX11_asks 1 = .ok (.iload_n 1, 1) := by decide +kernel
theorem dX11_asks_2 : decode cX11_asks 2 = .ok (.invokevirtual 113, 3) := by decide +kernel
theorem dX11_asks_5 : decode cX11_asks 5 = .ok (.ifCond .eq 11, 3) := by decide +kernel
theorem dX11_asks_8 : decode cX11_asks 8 = .ok (.aload_n 0, 1) := by decide +kernel
theorem dX11_asks_9 : decode cX11_asks 9 = .ok (.iload_n 2, 1) := by decide +kernel
theorem dX11_asks_10 : decode cX11_asks 10 = .ok (.invokevirtual 117, 3) := by decide +kernel
theorem dX11_asks_13 : decode cX11_asks 13 = .ok (.ifCond .ne 10, 3) := by decide +kernel
theorem dX11_asks_16 : decode cX11_asks 16 = .ok (.aload_n 0, 1) := by decide +kernel
theorem dX11_asks_17 : decode cX11_asks 17 = .ok (.bipush (-3), 2) := by decide +kernel
theorem dX11_asks_19 : decode cX11_asks 19 = .ok (.invokevirtual 108, 3) := by decide +kernel
theorem dX11_asks_22 : decode cX11_asks 22 = .ok (.ireturn, 1) := by decide +kernel
theorem dX11_asks_23 : decode cX11_asks 23 = .ok (.iload_n 3, 1) := by decide +kernel
theorem dX11_asks_24 : decode cX11_asks 24 = .ok (.iconst 0, 1) := by decide +kernel
theorem dX11_asks_25 : decode cX11_asks 25 = .ok (.sipush 9999, 3) := by decide +kernel
theorem dX11_asks_28 : decode cX11_asks 28 = .ok (.invokestatic 104, 3) := by decide +kernel
theorem dX11_asks_31 : decode cX11_asks 31 = .ok (.ifCond .ne 10, 3) := by decide +kernel
theorem dX11_asks_34 : decode cX11_asks 34 = .ok (.aload_n 0, 1) := by decide +kernel
theorem dX11_asks_35 : decode cX11_asks 35 = .ok (.bipush (-7), 2) := by decide +kernel
theorem dX11_asks_37 : decode cX11_asks 37 = .ok (.invokevirtual 108, 3) := by decide +kernel
theorem dX11_asks_40 : decode cX11_asks 40 = .ok (.ireturn, 1) := by decide +kernel
theorem dX11_asks_41 : decode cX11_asks 41 = .ok (.aload_n 0, 1) := by decide +kernel
theorem dX11_asks_42 : decode cX11_asks 42 = .ok (.getfield 14, 3) := by decide +kernel
theorem dX11_asks_45 : decode cX11_asks 45 = .ok (.bipush 124, 2) := by decide +kernel
theorem dX11_asks_47 : decode cX11_asks 47 = .ok (.iconst 5, 1) := by decide +kernel
theorem dX11_asks_48 : decode cX11_asks 48 = .ok (.iload_n 1, 1) := by decide +kernel
theorem dX11_asks_49 : decode cX11_asks 49 = .ok (.imul, 1) := by decide +kernel
theorem dX11_asks_50 : decode cX11_asks 50 = .ok (.iadd, 1) := by decide +kernel
theorem dX11_asks_51 : decode cX11_asks 51 = .ok (.iload_n 2, 1) := by decide +kernel
theorem dX11_asks_52 : decode cX11_asks 52 = .ok (.iadd, 1) := by decide +kernel
theorem dX11_asks_53 : decode cX11_asks 53 = .ok (.iaload, 1) := by decide +kernel
theorem dX11_asks_54 : decode cX11_asks 54 = .ok (.istore 4, 2) := by decide +kernel
theorem dX11_asks_56 : decode cX11_asks 56 = .ok (.aload_n 0, 1) := by decide +kernel
theorem dX11_asks_57 : decode cX11_asks 57 = .ok (.getfield 14, 3) := by decide +kernel
theorem dX11_asks_60 : decode cX11_asks 60 = .ok (.bipush 124, 2) := by decide +kernel
theorem dX11_asks_62 : decode cX11_asks 62 = .ok (.iconst 5, 1) := by decide +kernel
theorem dX11_asks_63 : decode cX11_asks 63 = .ok (.iload_n 1, 1) := by decide +kernel
theorem dX11_asks_64 : decode cX11_asks 64 = .ok (.imul, 1) := by decide +kernel
theorem dX11_asks_65 : decode cX11_asks 65 = .ok (.iadd, 1) := by decide +kernel
theorem dX11_asks_66 : decode cX11_asks 66 = .ok (.iload_n 2, 1) := by decide +kernel
theorem dX11_asks_67 : decode cX11_asks 67 = .ok (.iadd, 1) := by decide +kernel
theorem dX11_asks_68 : decode cX11_asks 68 = .ok (.iload_n 3, 1) := by decide +kernel
theorem dX11_asks_69 : decode cX11_asks 69 = .ok (.iastore, 1) := by decide +kernel
theorem dX11_asks_70 : decode cX11_asks 70 = .ok (.iload 4, 2) := by decide +kernel
theorem dX11_asks_72 : decode cX11_asks 72 = .ok (.ireturn, 1) := by decide +kernel
theorem dX11_bg_0 : decode cX11_bg 0 = .ok (.aload_n 0, 1) := by decide +kernel
theorem dX11_bg_1 : decode cX11_bg 1 = .ok (.getfield 14, 3) := by decide +kernel
theorem dX11_bg_4 : decode cX11_bg 4 = .ok (.sipush 192, 3) := by decide +kernel
theorem dX11_bg_7 : decode cX11_bg 7 = .ok (.bipush 12, 2) := by decide +kernel
theorem dX11_bg_9 : decode cX11_bg 9 = .ok (.iload_n 1, 1) := by decide +kernel
theorem dX11_bg_10 : decode cX11_bg 10 = .ok (.imul, 1) := by decide +kernel
theorem dX11_bg_11 : decode cX11_bg 11 = .ok (.iadd, 1) := by decide +kernel
theorem dX11_bg_12 : decode cX11_bg 12 = .ok (.iload_n 2, 1) := by decide +kernel
theorem dX11_bg_13 : decode cX11_bg 13 = .ok (.iadd, 1) := by decide +kernel
theorem dX11_bg_14 : decode cX11_bg 14 = .ok (.iaload, 1) := by decide +kernel
theorem dX11_bg_15 : decode cX11_bg 15 = .ok (.ireturn, 1) := by decide +kernel
theorem dX11_stands_0 : decode cX11_stands 0 = .ok (.aload_n 0, 1) := by decide +kernel
theorem dX11_stands_1 : decode cX11_stands 1 = .ok (.iload_n 1, 1) := by decide +kernel
theorem dX11_stands_2 : decode cX11_stands 2 = .ok (.iconst 0, 1) := by decide +kernel
theorem dX11_stands_3 : decode cX11_stands 3 = .ok (.invokevirtual 123, 3) := by decide +kernel
theorem dX11_stands_6 : decode cX11_stands 6 = .ok (.iconst 1, 1) := by decide +kernel
theorem dX11_stands_7 : decode cX11_stands 7 = .ok (.if_icmp .ne 18, 3) := by decide +kernel
theorem dX11_stands_10 : decode cX11_stands 10 = .ok (.aload_n 0, 1) := by decide +kernel
theorem dX11_stands_11 : decode cX11_stands 11 = .ok (.iload_n 1, 1) := by decide +kernel
theorem dX11_stands_12 : decode cX11_stands 12 = .ok (.bipush 8, 2) := by decide +kernel
theorem dX11_stands_14 : decode cX11_stands 14 = .ok (.invokevirtual 123, 3) := by decide +kernel
theorem dX11_stands_17 : decode cX11_stands 17 = .ok (.iconst 1, 1) := by decide +kernel
theorem dX11_stands_18 : decode cX11_stands 18 = .ok (.if_icmp .ne 7, 3) := by decide +kernel
theorem dX11_stands_21 : decode cX11_stands 21 = .ok (.iconst 1, 1) := by decide +kernel
theorem dX11_stands_22 : decode cX11_stands 22 = .ok (.goto 4, 3) := by decide +kernel
theorem dX11_stands_25 : decode cX11_stands 25 = .ok (.iconst 0, 1) := by decide +kernel
theorem dX11_stands_26 : decode cX11_stands 26 = .ok (.ireturn, 1) := by decide +kernel
theorem dX11_isLive_0 : decode cX11_isLive 0 = .ok (.aload_n 0, 1) := by decide +kernel
theorem dX11_isLive_1 : decode cX11_isLive 1 = .ok (.iload_n 1, 1) := by decide +kernel
theorem dX11_isLive_2 : decode cX11_isLive 2 = .ok (.iconst 0, 1) := by decide +kernel
theorem dX11_isLive_3 : decode cX11_isLive 3 = .ok (.invokevirtual 123, 3) := by decide +kernel
theorem dX11_isLive_6 : decode cX11_isLive 6 = .ok (.iconst 1, 1) := by decide +kernel
theorem dX11_isLive_7 : decode cX11_isLive 7 = .ok (.if_icmp .ne 18, 3) := by decide +kernel
theorem dX11_isLive_10 : decode cX11_isLive 10 = .ok (.aload_n 0, 1) := by decide +kernel
theorem dX11_isLive_11 : decode cX11_isLive 11 = .ok (.iload_n 1, 1) := by decide +kernel
theorem dX11_isLive_12 : decode cX11_isLive 12 = .ok (.bipush 8, 2) := by decide +kernel
theorem dX11_isLive_14 : decode cX11_isLive 14 = .ok (.invokevirtual 123, 3) := by decide +kernel
theorem dX11_isLive_17 : decode cX11_isLive 17 = .ok (.iconst 2, 1) := by decide +kernel
theorem dX11_isLive_18 : decode cX11_isLive 18 = .ok (.if_icmp .ge 7, 3) := by decide +kernel
theorem dX11_isLive_21 : decode cX11_isLive 21 = .ok (.iconst 1, 1) := by decide +kernel
theorem dX11_isLive_22 : decode cX11_isLive 22 = .ok (.goto 4, 3) := by decide +kernel
theorem dX11_isLive_25 : decode cX11_isLive 25 = .ok (.iconst 0, 1) := by decide +kernel
theorem dX11_isLive_26 : decode cX11_isLive 26 = .ok (.ireturn, 1) := by decide +kernel
theorem dX11_look_0 : decode cX11_look 0 = .ok (.aload_n 0, 1) := by decide +kernel
theorem dX11_look_1 : decode cX11_look 1 = .ok (.iload_n 1, 1) := by decide +kernel
theorem dX11_look_2 : decode cX11_look 2 = .ok (.invokevirtual 113, 3) := by decide +kernel
theorem dX11_look_5 : decode cX11_look 5 = .ok (.ifCond .ne 10, 3) := by decide +kernel
theorem dX11_look_8 : decode cX11_look 8 = .ok (.aload_n 0, 1) := by decide +kernel
theorem dX11_look_9 : decode cX11_look 9 = .ok (.bipush (-3), 2) := by decide +kernel
theorem dX11_look_11 : decode cX11_look 11 = .ok (.invokevirtual 108, 3) := by decide +kernel
theorem dX11_look_14 : decode cX11_look 14 = .ok (.ireturn, 1) := by decide +kernel
theorem dX11_look_15 : decode cX11_look 15 = .ok (.iload_n 2, 1) := by decide +kernel
theorem dX11_look_16 : decode cX11_look 16 = .ok (.iconst 3, 1) := by decide +kernel
theorem dX11_look_17 : decode cX11_look 17 = .ok (.if_icmp .ne 62, 3) := by decide +kernel
theorem dX11_look_20 : decode cX11_look 20 = .ok (.iconst 0, 1) := by decide +kernel
theorem dX11_look_21 : decode cX11_look 21 = .ok (.istore_n 3, 1) := by decide +kernel
theorem dX11_look_22 : decode cX11_look 22 = .ok (.iconst 0, 1) := by decide +kernel
theorem dX11_look_23 : decode cX11_look 23 = .ok (.istore 4, 2) := by decide +kernel
theorem dX11_look_25 : decode cX11_look 25 = .ok (.iload 4, 2) := by decide +kernel
theorem dX11_look_27 : decode cX11_look 27 = .ok (.bipush 60, 2) := by decide +kernel
theorem dX11_look_29 : decode cX11_look 29 = .ok (.if_icmp .ge 48, 3) := by decide +kernel
theorem dX11_look_32 : decode cX11_look 32 = .ok (.iload_n 3, 1) := by decide +kernel
theorem dX11_look_33 : decode cX11_look 33 = .ok (.aload_n 0, 1) := by decide +kernel
theorem dX11_look_34 : decode cX11_look 34 = .ok (.iload 4, 2) := by decide +kernel
theorem dX11_look_36 : decode cX11_look 36 = .ok (.invokevirtual 127, 3) := by decide +kernel
theorem dX11_look_39 : decode cX11_look 39 = .ok (.ifCond .eq 29, 3) := by decide +kernel
theorem dX11_look_42 : decode cX11_look 42 = .ok (.aload_n 0, 1) := by decide +kernel
theorem dX11_look_43 : decode cX11_look 43 = .ok (.iload 4, 2) := by decide +kernel
theorem dX11_look_45 : decode cX11_look 45 = .ok (.iconst 1, 1) := by decide +kernel
theorem dX11_look_46 : decode cX11_look 46 = .ok (.invokevirtual 123, 3) := by decide +kernel
theorem dX11_look_49 : decode cX11_look 49 = .ok (.iload_n 1, 1) := by decide +kernel
theorem dX11_look_50 : decode cX11_look 50 = .ok (.if_icmp .eq 14, 3) := by decide +kernel
theorem dX11_look_53 : decode cX11_look 53 = .ok (.aload_n 0, 1) := by decide +kernel
theorem dX11_look_54 : decode cX11_look 54 = .ok (.iload 4, 2) := by decide +kernel
theorem dX11_look_56 : decode cX11_look 56 = .ok (.iconst 2, 1) := by decide +kernel
theorem dX11_look_57 : decode cX11_look 57 = .ok (.invokevirtual 123, 3) := by decide +kernel
theorem dX11_look_60 : decode cX11_look 60 = .ok (.iload_n 1, 1) := by decide +kernel
theorem dX11_look_61 : decode cX11_look 61 = .ok (.if_icmp .ne 7, 3) := by decide +kernel
theorem dX11_look_64 : decode cX11_look 64 = .ok (.iconst 1, 1) := by decide +kernel
theorem dX11_look_65 : decode cX11_look 65 = .ok (.goto 4, 3) := by decide +kernel
theorem dX11_look_68 : decode cX11_look 68 = .ok (.iconst 0, 1) := by decide +kernel
theorem dX11_look_69 : decode cX11_look 69 = .ok (.iadd, 1) := by decide +kernel
theorem dX11_look_70 : decode cX11_look 70 = .ok (.istore_n 3, 1) := by decide +kernel
theorem dX11_look_71 : decode cX11_look 71 = .ok (.iinc 4 1, 3) := by decide +kernel
theorem dX11_look_74 : decode cX11_look 74 = .ok (.goto (-49), 3) := by decide +kernel
theorem dX11_look_77 : decode cX11_look 77 = .ok (.iload_n 3, 1) := by decide +kernel
theorem dX11_look_78 : decode cX11_look 78 = .ok (.ireturn, 1) := by decide +kernel
theorem dX11_look_79 : decode cX11_look 79 = .ok (.iload_n 2, 1) := by decide +kernel
theorem dX11_look_80 : decode cX11_look 80 = .ok (.iconst 0, 1) := by decide +kernel
theorem dX11_look_81 : decode cX11_look 81 = .ok (.iconst 2, 1) := by decide +kernel
theorem dX11_look_82 : decode cX11_look 82 = .ok (.invokestatic 104, 3) := by decide +kernel
theorem dX11_look_85 : decode cX11_look 85 = .ok (.ifCond .eq 19, 3) := by decide +kernel
theorem dX11_look_88 : decode cX11_look 88 = .ok (.aload_n 0, 1) := by decide +kernel
theorem dX11_look_89 : decode cX11_look 89 = .ok (.getfield 14, 3) := by decide +kernel
theorem dX11_look_92 : decode cX11_look 92 = .ok (.bipush 16, 2) := by decide +kernel
theorem dX11_look_94 : decode cX11_look 94 = .ok (.iconst 4, 1) := by decide +kernel
theorem dX11_look_95 : decode cX11_look 95 = .ok (.iload_n 1, 1) := by decide +kernel
theorem dX11_look_96 : decode cX11_look 96 = .ok (.imul, 1) := by decide +kernel
theorem dX11_look_97 : decode cX11_look 97 = .ok (.iadd, 1) := by decide +kernel
theorem dX11_look_98 : decode cX11_look 98 = .ok (.iload_n 2, 1) := by decide +kernel
theorem dX11_look_99 : decode cX11_look 99 = .ok (.iadd, 1) := by decide +kernel
theorem dX11_look_100 : decode cX11_look 100 = .ok (.iaload, 1) := by decide +kernel
theorem dX11_look_101 : decode cX11_look 101 = .ok (.goto 9, 3) := by decide +kernel
theorem dX11_look_104 : decode cX11_look 104 = .ok (.aload_n 0, 1) := by decide +kernel
theorem dX11_look_105 : decode cX11_look 105 = .ok (.bipush (-7), 2) := by decide +kernel
theorem dX11_look_107 : decode cX11_look 107 = .ok (.invokevirtual 108, 3) := by decide +kernel
theorem dX11_look_110 : decode cX11_look 110 = .ok (.ireturn, 1) := by decide +kernel
theorem dX11_coin_0 : decode cX11_coin 0 = .ok (.aload_n 0, 1) := by decide +kernel
theorem dX11_coin_1 : decode cX11_coin 1 = .ok (.iload_n 1, 1) := by decide +kernel
theorem dX11_coin_2 : decode cX11_coin 2 = .ok (.invokevirtual 113, 3) := by decide +kernel
theorem dX11_coin_5 : decode cX11_coin 5 = .ok (.ifCond .ne 11, 3) := by decide +kernel
theorem dX11_coin_8 : decode cX11_coin 8 = .ok (.aload_n 0, 1) := by decide +kernel
theorem dX11_coin_9 : decode cX11_coin 9 = .ok (.bipush (-3), 2) := by decide +kernel
theorem dX11_coin_11 : decode cX11_coin 11 = .ok (.invokevirtual 130, 3) := by decide +kernel
theorem dX11_coin_14 : decode cX11_coin 14 = .ok (.i2l, 1) := by decide +kernel
theorem dX11_coin_15 : decode cX11_coin 15 = .ok (.lreturn, 1) := by decide +kernel
theorem dX11_coin_16 : decode cX11_coin 16 = .ok (.iload_n 2, 1) := by decide +kernel
theorem dX11_coin_17 : decode cX11_coin 17 = .ok (.iconst 0, 1) := by decide +kernel
theorem dX11_coin_18 : decode cX11_coin 18 = .ok (.iconst 2, 1) := by decide +kernel
theorem dX11_coin_19 : decode cX11_coin 19 = .ok (.invokestatic 104, 3) := by decide +kernel
theorem dX11_coin_22 : decode cX11_coin 22 = .ok (.ifCond .ne 11, 3) := by decide +kernel
theorem dX11_coin_25 : decode cX11_coin 25 = .ok (.aload_n 0, 1) := by decide +kernel
theorem dX11_coin_26 : decode cX11_coin 26 = .ok (.bipush (-7), 2) := by decide +kernel
theorem dX11_coin_28 : decode cX11_coin 28 = .ok (.invokevirtual 130, 3) := by decide +kernel
theorem dX11_coin_31 : decode cX11_coin 31 = .ok (.i2l, 1) := by decide +kernel
theorem dX11_coin_32 : decode cX11_coin 32 = .ok (.lreturn, 1) := by decide +kernel
theorem dX11_coin_33 : decode cX11_coin 33 = .ok (.iload_n 2, 1) := by decide +kernel
theorem dX11_coin_34 : decode cX11_coin 34 = .ok (.iconst 2, 1) := by decide +kernel
theorem dX11_coin_35 : decode cX11_coin 35 = .ok (.if_icmp .ge 21, 3) := by decide +kernel
theorem dX11_coin_38 : decode cX11_coin 38 = .ok (.aload_n 0, 1) := by decide +kernel
theorem dX11_coin_39 : decode cX11_coin 39 = .ok (.getfield 18, 3) := by decide +kernel
theorem dX11_coin_42 : decode cX11_coin 42 = .ok (.iload_n 2, 1) := by decide +kernel
theorem dX11_coin_43 : decode cX11_coin 43 = .ok (.ifCond .ne 7, 3) := by decide +kernel
theorem dX11_coin_46 : decode cX11_coin 46 = .ok (.iconst 0, 1) := by decide +kernel
theorem dX11_coin_47 : decode cX11_coin 47 = .ok (.goto 5, 3) := by decide +kernel
theorem dX11_coin_50 : decode cX11_coin 50 = .ok (.bipush 12, 2) := by decide +kernel
theorem dX11_coin_52 : decode cX11_coin 52 = .ok (.iload_n 1, 1) := by decide +kernel
theorem dX11_coin_53 : decode cX11_coin 53 = .ok (.iadd, 1) := by decide +kernel
theorem dX11_coin_54 : decode cX11_coin 54 = .ok (.laload, 1) := by decide +kernel
theorem dX11_coin_55 : decode cX11_coin 55 = .ok (.lreturn, 1) := by decide +kernel
theorem dX11_coin_56 : decode cX11_coin 56 = .ok (.lconst 0, 1) := by decide +kernel
theorem dX11_coin_57 : decode cX11_coin 57 = .ok (.lstore_n 3, 1) := by decide +kernel
theorem dX11_coin_58 : decode cX11_coin 58 = .ok (.iconst 0, 1) := by decide +kernel
theorem dX11_coin_59 : decode cX11_coin 59 = .ok (.istore 5, 2) := by decide +kernel
theorem dX11_coin_61 : decode cX11_coin 61 = .ok (.iload 5, 2) := by decide +kernel
theorem dX11_coin_63 : decode cX11_coin 63 = .ok (.bipush 12, 2) := by decide +kernel
theorem dX11_coin_65 : decode cX11_coin 65 = .ok (.if_icmp .ge 27, 3) := by decide +kernel
theorem dX11_coin_68 : decode cX11_coin 68 = .ok (.lload_n 3, 1) := by decide +kernel
theorem dX11_coin_69 : decode cX11_coin 69 = .ok (.aload_n 0, 1) := by decide +kernel
theorem dX11_coin_70 : decode cX11_coin 70 = .ok (.getfield 18, 3) := by decide +kernel
theorem dX11_coin_73 : decode cX11_coin 73 = .ok (.bipush 24, 2) := by decide +kernel
theorem dX11_coin_75 : decode cX11_coin 75 = .ok (.bipush 12, 2) := by decide +kernel
theorem dX11_coin_77 : decode cX11_coin 77 = .ok (.iload_n 1, 1) := by decide +kernel
theorem dX11_coin_78 : decode cX11_coin 78 = .ok (.imul, 1) := by decide +kernel
theorem dX11_coin_79 : decode cX11_coin 79 = .ok (.iadd, 1) := by decide +kernel
theorem dX11_coin_80 : decode cX11_coin 80 = .ok (.iload 5, 2) := by decide +kernel
theorem dX11_coin_82 : decode cX11_coin 82 = .ok (.iadd, 1) := by decide +kernel
theorem dX11_coin_83 : decode cX11_coin 83 = .ok (.laload, 1) := by decide +kernel
theorem dX11_coin_84 : decode cX11_coin 84 = .ok (.ladd, 1) := by decide +kernel
theorem dX11_coin_85 : decode cX11_coin 85 = .ok (.lstore_n 3, 1) := by decide +kernel
theorem dX11_coin_86 : decode cX11_coin 86 = .ok (.iinc 5 1, 3) := by decide +kernel
theorem dX11_coin_89 : decode cX11_coin 89 = .ok (.goto (-28), 3) := by decide +kernel
theorem dX11_coin_92 : decode cX11_coin 92 = .ok (.lload_n 3, 1) := by decide +kernel
theorem dX11_coin_93 : decode cX11_coin 93 = .ok (.lreturn, 1) := by decide +kernel
theorem dX11_net_0 : decode cX11_net 0 = .ok (.iconst 0, 1) := by decide +kernel
theorem dX11_net_1 : decode cX11_net 1 = .ok (.istore 4, 2) := by decide +kernel
theorem dX11_net_3 : decode cX11_net 3 = .ok (.iconst 0, 1) := by decide +kernel
theorem dX11_net_4 : decode cX11_net 4 = .ok (.istore 5, 2) := by decide +kernel
theorem dX11_net_6 : decode cX11_net 6 = .ok (.iload 5, 2) := by decide +kernel
theorem dX11_net_8 : decode cX11_net 8 = .ok (.bipush 60, 2) := by decide +kernel
theorem dX11_net_10 : decode cX11_net 10 = .ok (.if_icmp .ge 98, 3) := by decide +kernel
theorem dX11_net_13 : decode cX11_net 13 = .ok (.aload_n 0, 1) := by decide +kernel
theorem dX11_net_14 : decode cX11_net 14 = .ok (.iload 5, 2) := by decide +kernel
theorem dX11_net_16 : decode cX11_net 16 = .ok (.invokevirtual 133, 3) := by decide +kernel
theorem dX11_net_19 : decode cX11_net 19 = .ok (.ifCond .eq 83, 3) := by decide +kernel
theorem dX11_net_22 : decode cX11_net 22 = .ok (.aload_n 0, 1) := by decide +kernel
theorem dX11_net_23 : decode cX11_net 23 = .ok (.iload 5, 2) := by decide +kernel
theorem dX11_net_25 : decode cX11_net 25 = .ok (.iconst 3, 1) := by decide +kernel
theorem dX11_net_26 : decode cX11_net 26 = .ok (.invokevirtual 123, 3) := by decide +kernel
theorem dX11_net_29 : decode cX11_net 29 = .ok (.iload_n 2, 1) := by decide +kernel
theorem dX11_net_30 : decode cX11_net 30 = .ok (.if_icmp .ne 72, 3) := by decide +kernel
theorem dX11_net_33 : decode cX11_net 33 = .ok (.aload_n 0, 1) := by decide +kernel
theorem dX11_net_34 : decode cX11_net 34 = .ok (.iload 5, 2) := by decide +kernel
theorem dX11_net_36 : decode cX11_net 36 = .ok (.bipush 7, 2) := by decide +kernel
theorem dX11_net_38 : decode cX11_net 38 = .ok (.invokevirtual 123, 3) := by decide +kernel
theorem dX11_net_41 : decode cX11_net 41 = .ok (.iload_n 3, 1) := by decide +kernel
theorem dX11_net_42 : decode cX11_net 42 = .ok (.if_icmp .eq 6, 3) := by decide +kernel
theorem dX11_net_45 : decode cX11_net 45 = .ok (.goto 57, 3) := by decide +kernel
theorem dX11_net_48 : decode cX11_net 48 = .ok (.iload 4, 2) := by decide +kernel
theorem dX11_net_50 : decode cX11_net 50 = .ok (.aload_n 0, 1) := by decide +kernel
theorem dX11_net_51 : decode cX11_net 51 = .ok (.iload 5, 2) := by decide +kernel
theorem dX11_net_53 : decode cX11_net 53 = .ok (.iconst 2, 1) := by decide +kernel
theorem dX11_net_54 : decode cX11_net 54 = .ok (.invokevirtual 123, 3) := by decide +kernel
theorem dX11_net_57 : decode cX11_net 57 = .ok (.iload_n 1, 1) := by decide +kernel
theorem dX11_net_58 : decode cX11_net 58 = .ok (.if_icmp .ne 13, 3) := by decide +kernel
theorem dX11_net_61 : decode cX11_net 61 = .ok (.aload_n 0, 1) := by decide +kernel
theorem dX11_net_62 : decode cX11_net 62 = .ok (.iload 5, 2) := by decide +kernel
theorem dX11_net_64 : decode cX11_net 64 = .ok (.iconst 4, 1) := by decide +kernel
theorem dX11_net_65 : decode cX11_net 65 = .ok (.invokevirtual 123, 3) := by decide +kernel
theorem dX11_net_68 : decode cX11_net 68 = .ok (.goto 4, 3) := by decide +kernel
theorem dX11_net_71 : decode cX11_net 71 = .ok (.iconst 0, 1) := by decide +kernel
theorem dX11_net_72 : decode cX11_net 72 = .ok (.iadd, 1) := by decide +kernel
theorem dX11_net_73 : decode cX11_net 73 = .ok (.istore 4, 2) := by decide +kernel
theorem dX11_net_75 : decode cX11_net 75 = .ok (.iload 4, 2) := by decide +kernel
theorem dX11_net_77 : decode cX11_net 77 = .ok (.aload_n 0, 1) := by decide +kernel
theorem dX11_net_78 : decode cX11_net 78 = .ok (.iload 5, 2) := by decide +kernel
theorem dX11_net_80 : decode cX11_net 80 = .ok (.iconst 1, 1) := by decide +kernel
theorem dX11_net_81 : decode cX11_net 81 = .ok (.invokevirtual 123, 3) := by decide +kernel
theorem dX11_net_84 : decode cX11_net 84 = .ok (.iload_n 1, 1) := by decide +kernel
theorem dX11_net_85 : decode cX11_net 85 = .ok (.if_icmp .ne 13, 3) := by decide +kernel
theorem dX11_net_88 : decode cX11_net 88 = .ok (.aload_n 0, 1) := by decide +kernel
theorem dX11_net_89 : decode cX11_net 89 = .ok (.iload 5, 2) := by decide +kernel
theorem dX11_net_91 : decode cX11_net 91 = .ok (.iconst 4, 1) := by decide +kernel
theorem dX11_net_92 : decode cX11_net 92 = .ok (.invokevirtual 123, 3) := by decide +kernel
theorem dX11_net_95 : decode cX11_net 95 = .ok (.goto 4, 3) := by decide +kernel
theorem dX11_net_98 : decode cX11_net 98 = .ok (.iconst 0, 1) := by decide +kernel
theorem dX11_net_99 : decode cX11_net 99 = .ok (.isub, 1) := by decide +kernel
theorem dX11_net_100 : decode cX11_net 100 = .ok (.istore 4, 2) := by decide +kernel
theorem dX11_net_102 : decode cX11_net 102 = .ok (.iinc 5 1, 3) := by decide +kernel
theorem dX11_net_105 : decode cX11_net 105 = .ok (.goto (-99), 3) := by decide +kernel
theorem dX11_net_108 : decode cX11_net 108 = .ok (.iload 4, 2) := by decide +kernel
theorem dX11_net_110 : decode cX11_net 110 = .ok (.ireturn, 1) := by decide +kernel
theorem dX11_has_0 : decode cX11_has 0 = .ok (.aload_n 0, 1) := by decide +kernel
theorem dX11_has_1 : decode cX11_has 1 = .ok (.iload_n 1, 1) := by decide +kernel
theorem dX11_has_2 : decode cX11_has 2 = .ok (.invokevirtual 113, 3) := by decide +kernel
theorem dX11_has_5 : decode cX11_has 5 = .ok (.ifCond .eq 11, 3) := by decide +kernel
theorem dX11_has_8 : decode cX11_has 8 = .ok (.aload_n 0, 1) := by decide +kernel
theorem dX11_has_9 : decode cX11_has 9 = .ok (.iload_n 2, 1) := by decide +kernel
theorem dX11_has_10 : decode cX11_has 10 = .ok (.invokevirtual 117, 3) := by decide +kernel
theorem dX11_has_13 : decode cX11_has 13 = .ok (.ifCond .ne 10, 3) := by decide +kernel
theorem dX11_has_16 : decode cX11_has 16 = .ok (.aload_n 0, 1) := by decide +kernel
theorem dX11_has_17 : decode cX11_has 17 = .ok (.bipush (-3), 2) := by decide +kernel
theorem dX11_has_19 : decode cX11_has 19 = .ok (.invokevirtual 130, 3) := by decide +kernel
theorem dX11_has_22 : decode cX11_has 22 = .ok (.ireturn, 1) := by decide +kernel
theorem dX11_has_23 : decode cX11_has 23 = .ok (.iload_n 3, 1) := by decide +kernel
theorem dX11_has_24 : decode cX11_has 24 = .ok (.tableswitch 94 0 3 #[32, 46, 62, 80], 32) := by decide +kernel
theorem dX11_has_56 : decode cX11_has 56 = .ok (.aload_n 0, 1) := by decide +kernel
theorem dX11_has_57 : decode cX11_has 57 = .ok (.getfield 14, 3) := by decide +kernel
theorem dX11_has_60 : decode cX11_has 60 = .ok (.bipush 64, 2) := by decide +kernel
theorem dX11_has_62 : decode cX11_has 62 = .ok (.iconst 5, 1) := by decide +kernel
theorem dX11_has_63 : decode cX11_has 63 = .ok (.iload_n 1, 1) := by decide +kernel
theorem dX11_has_64 : decode cX11_has 64 = .ok (.imul, 1) := by decide +kernel
theorem dX11_has_65 : decode cX11_has 65 = .ok (.iadd, 1) := by decide +kernel
theorem dX11_has_66 : decode cX11_has 66 = .ok (.iload_n 2, 1) := by decide +kernel
theorem dX11_has_67 : decode cX11_has 67 = .ok (.iadd, 1) := by decide +kernel
theorem dX11_has_68 : decode cX11_has 68 = .ok (.iaload, 1) := by decide +kernel
theorem dX11_has_69 : decode cX11_has 69 = .ok (.ireturn, 1) := by decide +kernel
theorem dX11_has_70 : decode cX11_has 70 = .ok (.aload_n 0, 1) := by decide +kernel
theorem dX11_has_71 : decode cX11_has 71 = .ok (.iload_n 1, 1) := by decide +kernel
theorem dX11_has_72 : decode cX11_has 72 = .ok (.iload_n 2, 1) := by decide +kernel
theorem dX11_has_73 : decode cX11_has 73 = .ok (.aload_n 0, 1) := by decide +kernel
theorem dX11_has_74 : decode cX11_has 74 = .ok (.getfield 14, 3) := by decide +kernel
theorem dX11_has_77 : decode cX11_has 77 = .ok (.iconst 0, 1) := by decide +kernel
theorem dX11_has_78 : decode cX11_has 78 = .ok (.iaload, 1) := by decide +kernel
theorem dX11_has_79 : decode cX11_has 79 = .ok (.bipush 14, 2) := by decide +kernel
theorem dX11_has_81 : decode cX11_has 81 = .ok (.idiv, 1) := by decide +kernel
theorem dX11_has_82 : decode cX11_has 82 = .ok (.invokevirtual 136, 3) := by decide +kernel
theorem dX11_has_85 : decode cX11_has 85 = .ok (.ireturn, 1) := by decide +kernel
theorem dX11_has_86 : decode cX11_has 86 = .ok (.aload_n 0, 1) := by decide +kernel
theorem dX11_has_87 : decode cX11_has 87 = .ok (.iload_n 1, 1) := by decide +kernel
theorem dX11_has_88 : decode cX11_has 88 = .ok (.iload_n 2, 1) := by decide +kernel
theorem dX11_has_89 : decode cX11_has 89 = .ok (.aload_n 0, 1) := by decide +kernel
theorem dX11_has_90 : decode cX11_has 90 = .ok (.getfield 14, 3) := by decide +kernel
theorem dX11_has_93 : decode cX11_has 93 = .ok (.iconst 0, 1) := by decide +kernel
theorem dX11_has_94 : decode cX11_has 94 = .ok (.iaload, 1) := by decide +kernel
theorem dX11_has_95 : decode cX11_has 95 = .ok (.bipush 14, 2) := by decide +kernel
theorem dX11_has_97 : decode cX11_has 97 = .ok (.idiv, 1) := by decide +kernel
theorem dX11_has_98 : decode cX11_has 98 = .ok (.iconst 1, 1) := by decide +kernel
theorem dX11_has_99 : decode cX11_has 99 = .ok (.iadd, 1) := by decide +kernel
theorem dX11_has_100 : decode cX11_has 100 = .ok (.invokevirtual 136, 3) := by decide +kernel
theorem dX11_has_103 : decode cX11_has 103 = .ok (.ireturn, 1) := by decide +kernel
theorem dX11_has_104 : decode cX11_has 104 = .ok (.aload_n 0, 1) := by decide +kernel
theorem dX11_has_105 : decode cX11_has 105 = .ok (.getfield 14, 3) := by decide +kernel
theorem dX11_has_108 : decode cX11_has 108 = .ok (.bipush 124, 2) := by decide +kernel
theorem dX11_has_110 : decode cX11_has 110 = .ok (.iconst 5, 1) := by decide +kernel
theorem dX11_has_111 : decode cX11_has 111 = .ok (.iload_n 1, 1) := by decide +kernel
theorem dX11_has_112 : decode cX11_has 112 = .ok (.imul, 1) := by decide +kernel
theorem dX11_has_113 : decode cX11_has 113 = .ok (.iadd, 1) := by decide +kernel
theorem dX11_has_114 : decode cX11_has 114 = .ok (.iload_n 2, 1) := by decide +kernel
theorem dX11_has_115 : decode cX11_has 115 = .ok (.iadd, 1) := by decide +kernel
theorem dX11_has_116 : decode cX11_has 116 = .ok (.iaload, 1) := by decide +kernel
theorem dX11_has_117 : decode cX11_has 117 = .ok (.ireturn, 1) := by decide +kernel
theorem dX11_has_118 : decode cX11_has 118 = .ok (.aload_n 0, 1) := by decide +kernel
theorem dX11_has_119 : decode cX11_has 119 = .ok (.bipush (-7), 2) := by decide +kernel
theorem dX11_has_121 : decode cX11_has 121 = .ok (.invokevirtual 130, 3) := by decide +kernel
theorem dX11_has_124 : decode cX11_has 124 = .ok (.ireturn, 1) := by decide +kernel
theorem dX11_made_0 : decode cX11_made 0 = .ok (.aload_n 0, 1) := by decide +kernel
theorem dX11_made_1 : decode cX11_made 1 = .ok (.iload_n 1, 1) := by decide +kernel
theorem dX11_made_2 : decode cX11_made 2 = .ok (.invokevirtual 117, 3) := by decide +kernel
theorem dX11_made_5 : decode cX11_made 5 = .ok (.ifCond .eq 16, 3) := by decide +kernel
theorem dX11_made_8 : decode cX11_made 8 = .ok (.aload_n 0, 1) := by decide +kernel
theorem dX11_made_9 : decode cX11_made 9 = .ok (.getfield 14, 3) := by decide +kernel
theorem dX11_made_12 : decode cX11_made 12 = .ok (.sipush 184, 3) := by decide +kernel
theorem dX11_made_15 : decode cX11_made 15 = .ok (.iload_n 1, 1) := by decide +kernel
theorem dX11_made_16 : decode cX11_made 16 = .ok (.iadd, 1) := by decide +kernel
theorem dX11_made_17 : decode cX11_made 17 = .ok (.iaload, 1) := by decide +kernel
theorem dX11_made_18 : decode cX11_made 18 = .ok (.goto 9, 3) := by decide +kernel
theorem dX11_made_21 : decode cX11_made 21 = .ok (.aload_n 0, 1) := by decide +kernel
theorem dX11_made_22 : decode cX11_made 22 = .ok (.bipush (-3), 2) := by decide +kernel
theorem dX11_made_24 : decode cX11_made 24 = .ok (.invokevirtual 108, 3) := by decide +kernel
theorem dX11_made_27 : decode cX11_made 27 = .ok (.ireturn, 1) := by decide +kernel
theorem dX11_free_0 : decode cX11_free 0 = .ok (.iload_n 1, 1) := by decide +kernel
theorem dX11_free_1 : decode cX11_free 1 = .ok (.istore_n 2, 1) := by decide +kernel
theorem dX11_free_2 : decode cX11_free 2 = .ok (.iload_n 2, 1) := by decide +kernel
theorem dX11_free_3 : decode cX11_free 3 = .ok (.bipush 60, 2) := by decide +kernel
theorem dX11_free_5 : decode cX11_free 5 = .ok (.if_icmp .ge 19, 3) := by decide +kernel
theorem dX11_free_8 : decode cX11_free 8 = .ok (.aload_n 0, 1) := by decide +kernel
theorem dX11_free_9 : decode cX11_free 9 = .ok (.iload_n 2, 1) := by decide +kernel
theorem dX11_free_10 : decode cX11_free 10 = .ok (.iconst 0, 1) := by decide +kernel
theorem dX11_free_11 : decode cX11_free 11 = .ok (.invokevirtual 123, 3) := by decide +kernel
theorem dX11_free_14 : decode cX11_free 14 = .ok (.iconst 1, 1) := by decide +kernel
theorem dX11_free_15 : decode cX11_free 15 = .ok (.if_icmp .ne 9, 3) := by decide +kernel
theorem dX11_free_18 : decode cX11_free 18 = .ok (.iinc 2 1, 3) := by decide +kernel
theorem dX11_free_21 : decode cX11_free 21 = .ok (.goto (-19), 3) := by decide +kernel
