theorem tw_1710 : ((.methodLink "AccountDayLaw" (146 : Nat) yX11_squeeze) : Cond) ∈ lw_tbl := tb_8 (List.mem_of_getElem? (i := 30) (by decide +kernel))
theorem tw_1714 : ((.methodLink "AccountDayLaw" (150 : Nat) yX11_rolling) : Cond) ∈ lw_tbl := tb_8 (List.mem_of_getElem? (i := 34) (by decide +kernel))
theorem tw_1718 : ((.constantLong "AccountDayModel" (407 : Nat) (14 : Int64)) : Cond) ∈ lw_tbl := tb_8 (List.mem_of_getElem? (i := 38) (by decide +kernel))
theorem tw_1719 : ((.constantLong "AccountDayModel" (409 : Nat) (13 : Int64)) : Cond) ∈ lw_tbl := tb_8 (List.mem_of_getElem? (i := 39) (by decide +kernel))
theorem tw_1720 : ((.methodLink "AccountDayModel" (411 : Nat) yX11_firstOf) : Cond) ∈ lw_tbl := tb_8 (List.mem_of_getElem? (i := 40) (by decide +kernel))
theorem tw_1724 : ((.methodLink "AccountDayLaw" (154 : Nat) yX11_clearing) : Cond) ∈ lw_tbl := tb_8 (List.mem_of_getElem? (i := 44) (by decide +kernel))
theorem tw_1728 : ((.methodLink "AccountDayLaw" (158 : Nat) yX11_count) : Cond) ∈ lw_tbl := tb_8 (List.mem_of_getElem? (i := 48) (by decide +kernel))
theorem tw_1732 : ((.methodLink "AccountDayModel" (414 : Nat) yX11_manyOf) : Cond) ∈ lw_tbl := tb_8 (List.mem_of_getElem? (i := 52) (by decide +kernel))
theorem tw_1736 : ((.methodLink "AccountDayLaw" (162 : Nat) yX11_image) : Cond) ∈ lw_tbl := tb_8 (List.mem_of_getElem? (i := 56) (by decide +kernel))
theorem tw_1740 : ((.methodLink "AccountDayLaw" (166 : Nat) yX11_back) : Cond) ∈ lw_tbl := tb_8 (List.mem_of_getElem? (i := 60) (by decide +kernel))
theorem tw_1744 : ((.methodLink "AccountDayLaw" (170 : Nat) yX11_lay) : Cond) ∈ lw_tbl := tb_8 (List.mem_of_getElem? (i := 64) (by decide +kernel))
theorem tw_1748 : ((.methodLink "AccountDayLaw" (174 : Nat) yX11_set) : Cond) ∈ lw_tbl := tb_8 (List.mem_of_getElem? (i := 68) (by decide +kernel))
theorem tw_1752 : ((.methodLink "AccountDayLaw" (178 : Nat) yX11_tear) : Cond) ∈ lw_tbl := tb_8 (List.mem_of_getElem? (i := 72) (by decide +kernel))
theorem tw_1756 : ((.methodLink "AccountDayLaw" (182 : Nat) yX11_row) : Cond) ∈ lw_tbl := tb_8 (List.mem_of_getElem? (i := 76) (by decide +kernel))
theorem tw_1760 : ((.methodLink "AccountDayLaw" (186 : Nat) yX11_copy) : Cond) ∈ lw_tbl := tb_8 (List.mem_of_getElem? (i := 80) (by decide +kernel))
theorem tw_1764 : ((.fieldLink "java/lang/String" (9 : Nat) "java/lang/String" "value" "[B") : Cond) ∈ lw_tbl := tb_8 (List.mem_of_getElem? (i := 84) (by decide +kernel))
theorem tw_1765 : ((.fieldLink "java/lang/String" (15 : Nat) "java/lang/String" "coder" "B") : Cond) ∈ lw_tbl := tb_8 (List.mem_of_getElem? (i := 85) (by decide +kernel))
theorem xwl_0 : ∀ w ∈ u_ws RX0 TX0 1, w ∈ lw_tbl ∧ goodWord w = true := x_wl [126] (by decide +kernel)
theorem xwl_1 : ∀ w ∈ u_ws RX1 TX1 13, w ∈ lw_tbl ∧ goodWord w = true := x_wl [209, 211, 213, 215, 217, 219, 221, 223, 225, 227, 229, 231, 233] (by decide +kernel)
theorem xwl_3 : ∀ w ∈ u_ws RX3 TX3 8, w ∈ lw_tbl ∧ goodWord w = true := x_wl [70, 72, 74, 76, 78, 80, 82, 84] (by decide +kernel)
theorem xwl_4 : ∀ w ∈ u_ws RX4 TX4 9, w ∈ lw_tbl ∧ goodWord w = true := x_wl [300, 302, 304, 306, 308, 310, 312, 314, 316] (by decide +kernel)
theorem xwl_5 : ∀ w ∈ u_ws RX5 TX5 4, w ∈ lw_tbl ∧ goodWord w = true := x_wl [142, 144, 146, 148] (by decide +kernel)
theorem xwl_6 : ∀ w ∈ u_ws RX6 TX6 4, w ∈ lw_tbl ∧ goodWord w = true := x_wl [329, 331, 333, 335] (by decide +kernel)
theorem xwl_7 : ∀ w ∈ u_ws RX7 TX7 9, w ∈ lw_tbl ∧ goodWord w = true := x_wl [353, 355, 357, 359, 361, 363, 365, 367, 369] (by decide +kernel)
theorem xwl_8 : ∀ w ∈ u_ws RX8 TX8 4, w ∈ lw_tbl ∧ goodWord w = true := x_wl [111, 113, 115, 117] (by decide +kernel)
theorem xwl_9 : ∀ w ∈ u_ws RX9 TX9 10, w ∈ lw_tbl ∧ goodWord w = true := x_wl [257, 259, 261, 263, 265, 267, 269, 271, 273, 275] (by decide +kernel)
theorem xwl_10 : ∀ w ∈ u_ws RX10 TX10 10, w ∈ lw_tbl ∧ goodWord w = true := x_wl [382, 384, 386, 388, 390, 392, 394, 396, 398, 400] (by decide +kernel)
theorem xwl_11 : ∀ w ∈ u_ws RX11 TX11 48, w ∈ lw_tbl ∧ goodWord w = true := x_wl [1233, 1235, 1237, 1239, 1241, 1243, 1245, 1247, 1249, 1251, 1253, 1255, 1257, 1259, 1261, 1263, 1265, 1267, 1269, 1271, 1273, 1275, 1277, 1279, 1281, 1283, 1285, 1287, 1289, 1291, 1293, 1295, 1297, 1299, 1301, 1303, 1305, 1307, 1309, 1311, 1313, 1315, 1317, 1319, 1321, 1323, 1325, 1327] (by decide +kernel)
theorem xf_X0_16 : xFl RX0 16 0 0 := ⟨_, rfl, by decide +kernel, xwl_0, tb_1 (List.mem_of_getElem? (i := 124) (by decide +kernel)), rfl⟩
theorem xf_X10_10 : xFl RX10 10 10 0 := ⟨_, rfl, by decide +kernel, xwl_10, tb_2 (List.mem_of_getElem? (i := 132) (by decide +kernel)), rfl⟩
theorem xf_X10_103 : xFl RX10 103 3 6 := ⟨_, rfl, by decide +kernel, xwl_3, tb_1 (List.mem_of_getElem? (i := 64) (by decide +kernel)), rfl⟩
theorem xf_X10_106 : xFl RX10 106 3 1 := ⟨_, rfl, by decide +kernel, xwl_3, tb_1 (List.mem_of_getElem? (i := 47) (by decide +kernel)), rfl⟩
theorem xf_X10_110 : xFl RX10 110 3 7 := ⟨_, rfl, by decide +kernel, xwl_3, tb_1 (List.mem_of_getElem? (i := 68) (by decide +kernel)), rfl⟩
theorem xf_X10_113 : xFl RX10 113 3 4 := ⟨_, rfl, by decide +kernel, xwl_3, tb_1 (List.mem_of_getElem? (i := 58) (by decide +kernel)), rfl⟩
theorem xf_X10_116 : xFl RX10 116 3 5 := ⟨_, rfl, by decide +kernel, xwl_3, tb_1 (List.mem_of_getElem? (i := 60) (by decide +kernel)), rfl⟩
theorem xf_X10_119 : xFl RX10 119 1 4 := ⟨_, rfl, by decide +kernel, xwl_1, tb_1 (List.mem_of_getElem? (i := 180) (by decide +kernel)), rfl⟩
theorem xf_X10_131 : xFl RX10 131 3 2 := ⟨_, rfl, by decide +kernel, xwl_3, tb_1 (List.mem_of_getElem? (i := 51) (by decide +kernel)), rfl⟩
theorem xf_X10_146 : xFl RX10 146 1 2 := ⟨_, rfl, by decide +kernel, xwl_1, tb_1 (List.mem_of_getElem? (i := 166) (by decide +kernel)), rfl⟩
theorem xf_X10_16 : xFl RX10 16 10 1 := ⟨_, rfl, by decide +kernel, xwl_10, tb_2 (List.mem_of_getElem? (i := 133) (by decide +kernel)), rfl⟩
theorem xf_X10_164 : xFl RX10 164 1 0 := ⟨_, rfl, by decide +kernel, xwl_1, tb_1 (List.mem_of_getElem? (i := 156) (by decide +kernel)), rfl⟩
theorem xf_X10_196 : xFl RX10 196 1 5 := ⟨_, rfl, by decide +kernel, xwl_1, tb_1 (List.mem_of_getElem? (i := 185) (by decide +kernel)), rfl⟩
theorem xf_X10_213 : xFl RX10 213 1 6 := ⟨_, rfl, by decide +kernel, xwl_1, tb_1 (List.mem_of_getElem? (i := 188) (by decide +kernel)), rfl⟩
theorem xf_X10_22 : xFl RX10 22 10 2 := ⟨_, rfl, by decide +kernel, xwl_10, tb_2 (List.mem_of_getElem? (i := 134) (by decide +kernel)), rfl⟩
theorem xf_X10_238 : xFl RX10 238 1 7 := ⟨_, rfl, by decide +kernel, xwl_1, tb_1 (List.mem_of_getElem? (i := 192) (by decide +kernel)), rfl⟩
theorem xf_X10_244 : xFl RX10 244 9 0 := ⟨_, rfl, by decide +kernel, xwl_9, tb_2 (List.mem_of_getElem? (i := 3) (by decide +kernel)), rfl⟩
theorem xf_X10_248 : xFl RX10 248 5 0 := ⟨_, rfl, by decide +kernel, xwl_5, tb_1 (List.mem_of_getElem? (i := 138) (by decide +kernel)), rfl⟩
theorem xf_X10_29 : xFl RX10 29 10 3 := ⟨_, rfl, by decide +kernel, xwl_10, tb_2 (List.mem_of_getElem? (i := 135) (by decide +kernel)), rfl⟩
theorem xf_X10_293 : xFl RX10 293 1 11 := ⟨_, rfl, by decide +kernel, xwl_1, tb_1 (List.mem_of_getElem? (i := 205) (by decide +kernel)), rfl⟩
theorem xf_X10_297 : xFl RX10 297 1 8 := ⟨_, rfl, by decide +kernel, xwl_1, tb_1 (List.mem_of_getElem? (i := 195) (by decide +kernel)), rfl⟩
theorem xf_X10_300 : xFl RX10 300 1 9 := ⟨_, rfl, by decide +kernel, xwl_1, tb_1 (List.mem_of_getElem? (i := 199) (by decide +kernel)), rfl⟩
theorem xf_X10_303 : xFl RX10 303 1 12 := ⟨_, rfl, by decide +kernel, xwl_1, tb_1 (List.mem_of_getElem? (i := 208) (by decide +kernel)), rfl⟩
theorem xf_X10_306 : xFl RX10 306 1 10 := ⟨_, rfl, by decide +kernel, xwl_1, tb_1 (List.mem_of_getElem? (i := 202) (by decide +kernel)), rfl⟩
theorem xf_X10_341 : xFl RX10 341 8 3 := ⟨_, rfl, by decide +kernel, xwl_8, tb_1 (List.mem_of_getElem? (i := 110) (by decide +kernel)), rfl⟩
theorem xf_X10_36 : xFl RX10 36 10 4 := ⟨_, rfl, by decide +kernel, xwl_10, tb_2 (List.mem_of_getElem? (i := 136) (by decide +kernel)), rfl⟩
theorem xf_X10_43 : xFl RX10 43 10 5 := ⟨_, rfl, by decide +kernel, xwl_10, tb_2 (List.mem_of_getElem? (i := 137) (by decide +kernel)), rfl⟩
theorem xf_X10_50 : xFl RX10 50 10 6 := ⟨_, rfl, by decide +kernel, xwl_10, tb_2 (List.mem_of_getElem? (i := 138) (by decide +kernel)), rfl⟩
theorem xf_X10_54 : xFl RX10 54 10 7 := ⟨_, rfl, by decide +kernel, xwl_10, tb_2 (List.mem_of_getElem? (i := 139) (by decide +kernel)), rfl⟩
theorem xf_X10_58 : xFl RX10 58 10 8 := ⟨_, rfl, by decide +kernel, xwl_10, tb_2 (List.mem_of_getElem? (i := 140) (by decide +kernel)), rfl⟩
theorem xf_X10_62 : xFl RX10 62 10 9 := ⟨_, rfl, by decide +kernel, xwl_10, tb_2 (List.mem_of_getElem? (i := 141) (by decide +kernel)), rfl⟩
theorem xf_X10_74 : xFl RX10 74 1 3 := ⟨_, rfl, by decide +kernel, xwl_1, tb_1 (List.mem_of_getElem? (i := 168) (by decide +kernel)), rfl⟩
theorem xf_X10_78 : xFl RX10 78 3 0 := ⟨_, rfl, by decide +kernel, xwl_3, tb_1 (List.mem_of_getElem? (i := 40) (by decide +kernel)), rfl⟩
theorem xf_X10_87 : xFl RX10 87 1 1 := ⟨_, rfl, by decide +kernel, xwl_1, tb_1 (List.mem_of_getElem? (i := 159) (by decide +kernel)), rfl⟩
theorem xf_X11_101 : xFl RX11 101 11 45 := ⟨_, rfl, by decide +kernel, xwl_11, tb_6 (List.mem_of_getElem? (i := 30) (by decide +kernel)), rfl⟩
theorem xf_X11_14 : xFl RX11 14 11 1 := ⟨_, rfl, by decide +kernel, xwl_11, tb_5 (List.mem_of_getElem? (i := 226) (by decide +kernel)), rfl⟩
theorem xf_X11_173 : xFl RX11 173 11 7 := ⟨_, rfl, by decide +kernel, xwl_11, tb_5 (List.mem_of_getElem? (i := 232) (by decide +kernel)), rfl⟩
theorem xf_X11_176 : xFl RX11 176 11 11 := ⟨_, rfl, by decide +kernel, xwl_11, tb_5 (List.mem_of_getElem? (i := 236) (by decide +kernel)), rfl⟩
theorem xf_X11_18 : xFl RX11 18 11 2 := ⟨_, rfl, by decide +kernel, xwl_11, tb_5 (List.mem_of_getElem? (i := 227) (by decide +kernel)), rfl⟩
theorem xf_X11_182 : xFl RX11 182 11 9 := ⟨_, rfl, by decide +kernel, xwl_11, tb_5 (List.mem_of_getElem? (i := 234) (by decide +kernel)), rfl⟩
theorem xf_X11_185 : xFl RX11 185 11 8 := ⟨_, rfl, by decide +kernel, xwl_11, tb_5 (List.mem_of_getElem? (i := 233) (by decide +kernel)), rfl⟩
theorem xf_X11_188 : xFl RX11 188 11 10 := ⟨_, rfl, by decide +kernel, xwl_11, tb_5 (List.mem_of_getElem? (i := 235) (by decide +kernel)), rfl⟩
theorem xf_X11_202 : xFl RX11 202 11 13 := ⟨_, rfl, by decide +kernel, xwl_11, tb_5 (List.mem_of_getElem? (i := 238) (by decide +kernel)), rfl⟩
theorem xf_X11_206 : xFl RX11 206 11 14 := ⟨_, rfl, by decide +kernel, xwl_11, tb_5 (List.mem_of_getElem? (i := 239) (by decide +kernel)), rfl⟩
theorem xf_X11_209 : xFl RX11 209 11 12 := ⟨_, rfl, by decide +kernel, xwl_11, tb_5 (List.mem_of_getElem? (i := 237) (by decide +kernel)), rfl⟩
theorem xf_X11_22 : xFl RX11 22 11 3 := ⟨_, rfl, by decide +kernel, xwl_11, tb_5 (List.mem_of_getElem? (i := 228) (by decide +kernel)), rfl⟩
theorem xf_X11_224 : xFl RX11 224 11 15 := ⟨_, rfl, by decide +kernel, xwl_11, tb_6 (List.mem_of_getElem? (i := 0) (by decide +kernel)), rfl⟩
theorem xf_X11_249 : xFl RX11 249 11 16 := ⟨_, rfl, by decide +kernel, xwl_11, tb_6 (List.mem_of_getElem? (i := 1) (by decide +kernel)), rfl⟩
theorem xf_X11_25 : xFl RX11 25 11 4 := ⟨_, rfl, by decide +kernel, xwl_11, tb_5 (List.mem_of_getElem? (i := 229) (by decide +kernel)), rfl⟩
theorem xf_X11_28 : xFl RX11 28 11 6 := ⟨_, rfl, by decide +kernel, xwl_11, tb_5 (List.mem_of_getElem? (i := 231) (by decide +kernel)), rfl⟩
theorem xf_X11_31 : xFl RX11 31 11 20 := ⟨_, rfl, by decide +kernel, xwl_11, tb_6 (List.mem_of_getElem? (i := 5) (by decide +kernel)), rfl⟩
theorem xf_X11_311 : xFl RX11 311 11 17 := ⟨_, rfl, by decide +kernel, xwl_11, tb_6 (List.mem_of_getElem? (i := 2) (by decide +kernel)), rfl⟩
theorem xf_X11_314 : xFl RX11 314 11 18 := ⟨_, rfl, by decide +kernel, xwl_11, tb_6 (List.mem_of_getElem? (i := 3) (by decide +kernel)), rfl⟩
theorem xf_X11_317 : xFl RX11 317 11 19 := ⟨_, rfl, by decide +kernel, xwl_11, tb_6 (List.mem_of_getElem? (i := 4) (by decide +kernel)), rfl⟩
theorem xf_X11_329 : xFl RX11 329 11 5 := ⟨_, rfl, by decide +kernel, xwl_11, tb_5 (List.mem_of_getElem? (i := 230) (by decide +kernel)), rfl⟩
theorem xf_X11_339 : xFl RX11 339 11 25 := ⟨_, rfl, by decide +kernel, xwl_11, tb_6 (List.mem_of_getElem? (i := 10) (by decide +kernel)), rfl⟩
theorem xf_X11_34 : xFl RX11 34 11 21 := ⟨_, rfl, by decide +kernel, xwl_11, tb_6 (List.mem_of_getElem? (i := 6) (by decide +kernel)), rfl⟩
theorem xf_X11_37 : xFl RX11 37 11 22 := ⟨_, rfl, by decide +kernel, xwl_11, tb_6 (List.mem_of_getElem? (i := 7) (by decide +kernel)), rfl⟩
theorem xf_X11_394 : xFl RX11 394 11 47 := ⟨_, rfl, by decide +kernel, xwl_11, tb_6 (List.mem_of_getElem? (i := 32) (by decide +kernel)), rfl⟩
theorem xf_X11_397 : xFl RX11 397 11 46 := ⟨_, rfl, by decide +kernel, xwl_11, tb_6 (List.mem_of_getElem? (i := 31) (by decide +kernel)), rfl⟩
theorem xf_X11_40 : xFl RX11 40 11 23 := ⟨_, rfl, by decide +kernel, xwl_11, tb_6 (List.mem_of_getElem? (i := 8) (by decide +kernel)), rfl⟩
theorem xf_X11_417 : xFl RX11 417 11 44 := ⟨_, rfl, by decide +kernel, xwl_11, tb_6 (List.mem_of_getElem? (i := 29) (by decide +kernel)), rfl⟩
theorem xf_X11_43 : xFl RX11 43 11 24 := ⟨_, rfl, by decide +kernel, xwl_11, tb_6 (List.mem_of_getElem? (i := 9) (by decide +kernel)), rfl⟩
theorem xf_X11_46 : xFl RX11 46 11 26 := ⟨_, rfl, by decide +kernel, xwl_11, tb_6 (List.mem_of_getElem? (i := 11) (by decide +kernel)), rfl⟩
theorem xf_X11_49 : xFl RX11 49 11 27 := ⟨_, rfl, by decide +kernel, xwl_11, tb_6 (List.mem_of_getElem? (i := 12) (by decide +kernel)), rfl⟩
theorem xf_X11_52 : xFl RX11 52 11 28 := ⟨_, rfl, by decide +kernel, xwl_11, tb_6 (List.mem_of_getElem? (i := 13) (by decide +kernel)), rfl⟩
theorem xf_X11_55 : xFl RX11 55 11 29 := ⟨_, rfl, by decide +kernel, xwl_11, tb_6 (List.mem_of_getElem? (i := 14) (by decide +kernel)), rfl⟩
theorem xf_X11_58 : xFl RX11 58 11 30 := ⟨_, rfl, by decide +kernel, xwl_11, tb_6 (List.mem_of_getElem? (i := 15) (by decide +kernel)), rfl⟩
theorem xf_X11_61 : xFl RX11 61 11 31 := ⟨_, rfl, by decide +kernel, xwl_11, tb_6 (List.mem_of_getElem? (i := 16) (by decide +kernel)), rfl⟩
theorem xf_X11_64 : xFl RX11 64 11 32 := ⟨_, rfl, by decide +kernel, xwl_11, tb_6 (List.mem_of_getElem? (i := 17) (by decide +kernel)), rfl⟩
theorem xf_X11_67 : xFl RX11 67 11 33 := ⟨_, rfl, by decide +kernel, xwl_11, tb_6 (List.mem_of_getElem? (i := 18) (by decide +kernel)), rfl⟩
theorem xf_X11_70 : xFl RX11 70 11 34 := ⟨_, rfl, by decide +kernel, xwl_11, tb_6 (List.mem_of_getElem? (i := 19) (by decide +kernel)), rfl⟩
theorem xf_X11_73 : xFl RX11 73 11 35 := ⟨_, rfl, by decide +kernel, xwl_11, tb_6 (List.mem_of_getElem? (i := 20) (by decide +kernel)), rfl⟩
theorem xf_X11_76 : xFl RX11 76 11 36 := ⟨_, rfl, by decide +kernel, xwl_11, tb_6 (List.mem_of_getElem? (i := 21) (by decide +kernel)), rfl⟩
theorem xf_X11_79 : xFl RX11 79 11 37 := ⟨_, rfl, by decide +kernel, xwl_11, tb_6 (List.mem_of_getElem? (i := 22) (by decide +kernel)), rfl⟩
theorem xf_X11_82 : xFl RX11 82 11 38 := ⟨_, rfl, by decide +kernel, xwl_11, tb_6 (List.mem_of_getElem? (i := 23) (by decide +kernel)), rfl⟩
theorem xf_X11_85 : xFl RX11 85 11 39 := ⟨_, rfl, by decide +kernel, xwl_11, tb_6 (List.mem_of_getElem? (i := 24) (by decide +kernel)), rfl⟩
theorem xf_X11_88 : xFl RX11 88 11 40 := ⟨_, rfl, by decide +kernel, xwl_11, tb_6 (List.mem_of_getElem? (i := 25) (by decide +kernel)), rfl⟩
theorem xf_X11_92 : xFl RX11 92 11 41 := ⟨_, rfl, by decide +kernel, xwl_11, tb_6 (List.mem_of_getElem? (i := 26) (by decide +kernel)), rfl⟩
theorem xf_X11_95 : xFl RX11 95 11 42 := ⟨_, rfl, by decide +kernel, xwl_11, tb_6 (List.mem_of_getElem? (i := 27) (by decide +kernel)), rfl⟩
theorem xf_X11_98 : xFl RX11 98 11 43 := ⟨_, rfl, by decide +kernel, xwl_11, tb_6 (List.mem_of_getElem? (i := 28) (by decide +kernel)), rfl⟩
theorem xf_X1_102 : xFl RX1 102 1 11 := ⟨_, rfl, by decide +kernel, xwl_1, tb_1 (List.mem_of_getElem? (i := 204) (by decide +kernel)), rfl⟩
theorem xf_X1_106 : xFl RX1 106 1 12 := ⟨_, rfl, by decide +kernel, xwl_1, tb_1 (List.mem_of_getElem? (i := 207) (by decide +kernel)), rfl⟩
theorem xf_X1_18 : xFl RX1 18 1 3 := ⟨_, rfl, by decide +kernel, xwl_1, tb_1 (List.mem_of_getElem? (i := 167) (by decide +kernel)), rfl⟩
theorem xf_X1_25 : xFl RX1 25 1 4 := ⟨_, rfl, by decide +kernel, xwl_1, tb_1 (List.mem_of_getElem? (i := 174) (by decide +kernel)), rfl⟩
theorem xf_X1_32 : xFl RX1 32 1 5 := ⟨_, rfl, by decide +kernel, xwl_1, tb_1 (List.mem_of_getElem? (i := 181) (by decide +kernel)), rfl⟩
theorem xf_X1_41 : xFl RX1 41 1 6 := ⟨_, rfl, by decide +kernel, xwl_1, tb_1 (List.mem_of_getElem? (i := 186) (by decide +kernel)), rfl⟩
theorem xf_X1_45 : xFl RX1 45 1 7 := ⟨_, rfl, by decide +kernel, xwl_1, tb_1 (List.mem_of_getElem? (i := 190) (by decide +kernel)), rfl⟩
theorem xf_X1_48 : xFl RX1 48 1 8 := ⟨_, rfl, by decide +kernel, xwl_1, tb_1 (List.mem_of_getElem? (i := 193) (by decide +kernel)), rfl⟩
theorem xf_X1_51 : xFl RX1 51 1 9 := ⟨_, rfl, by decide +kernel, xwl_1, tb_1 (List.mem_of_getElem? (i := 196) (by decide +kernel)), rfl⟩
theorem xf_X1_54 : xFl RX1 54 1 10 := ⟨_, rfl, by decide +kernel, xwl_1, tb_1 (List.mem_of_getElem? (i := 200) (by decide +kernel)), rfl⟩
theorem xf_X1_58 : xFl RX1 58 1 0 := ⟨_, rfl, by decide +kernel, xwl_1, tb_1 (List.mem_of_getElem? (i := 153) (by decide +kernel)), rfl⟩
theorem xf_X1_62 : xFl RX1 62 8 3 := ⟨_, rfl, by decide +kernel, xwl_8, tb_1 (List.mem_of_getElem? (i := 108) (by decide +kernel)), rfl⟩
theorem xf_X1_80 : xFl RX1 80 1 1 := ⟨_, rfl, by decide +kernel, xwl_1, tb_1 (List.mem_of_getElem? (i := 161) (by decide +kernel)), rfl⟩
theorem xf_X1_9 : xFl RX1 9 1 2 := ⟨_, rfl, by decide +kernel, xwl_1, tb_1 (List.mem_of_getElem? (i := 162) (by decide +kernel)), rfl⟩
theorem xf_X1_93 : xFl RX1 93 0 0 := ⟨_, rfl, by decide +kernel, xwl_0, tb_1 (List.mem_of_getElem? (i := 125) (by decide +kernel)), rfl⟩
theorem xf_X2_106 : xFl RX2 106 1 2 := ⟨_, rfl, by decide +kernel, xwl_1, tb_1 (List.mem_of_getElem? (i := 165) (by decide +kernel)), rfl⟩
theorem xf_X2_113 : xFl RX2 113 1 6 := ⟨_, rfl, by decide +kernel, xwl_1, tb_1 (List.mem_of_getElem? (i := 187) (by decide +kernel)), rfl⟩
theorem xf_X2_21 : xFl RX2 21 1 0 := ⟨_, rfl, by decide +kernel, xwl_1, tb_1 (List.mem_of_getElem? (i := 154) (by decide +kernel)), rfl⟩
theorem xf_X2_25 : xFl RX2 25 1 5 := ⟨_, rfl, by decide +kernel, xwl_1, tb_1 (List.mem_of_getElem? (i := 183) (by decide +kernel)), rfl⟩
theorem xf_X2_42 : xFl RX2 42 1 7 := ⟨_, rfl, by decide +kernel, xwl_1, tb_1 (List.mem_of_getElem? (i := 191) (by decide +kernel)), rfl⟩
theorem xf_X2_46 : xFl RX2 46 8 3 := ⟨_, rfl, by decide +kernel, xwl_8, tb_1 (List.mem_of_getElem? (i := 107) (by decide +kernel)), rfl⟩
theorem xf_X2_70 : xFl RX2 70 1 3 := ⟨_, rfl, by decide +kernel, xwl_1, tb_1 (List.mem_of_getElem? (i := 170) (by decide +kernel)), rfl⟩
theorem xf_X2_74 : xFl RX2 74 3 0 := ⟨_, rfl, by decide +kernel, xwl_3, tb_1 (List.mem_of_getElem? (i := 42) (by decide +kernel)), rfl⟩
theorem xf_X2_81 : xFl RX2 81 3 1 := ⟨_, rfl, by decide +kernel, xwl_3, tb_1 (List.mem_of_getElem? (i := 46) (by decide +kernel)), rfl⟩
theorem xf_X2_85 : xFl RX2 85 3 6 := ⟨_, rfl, by decide +kernel, xwl_3, tb_1 (List.mem_of_getElem? (i := 63) (by decide +kernel)), rfl⟩
theorem xf_X2_9 : xFl RX2 9 1 4 := ⟨_, rfl, by decide +kernel, xwl_1, tb_1 (List.mem_of_getElem? (i := 175) (by decide +kernel)), rfl⟩
theorem xf_X2_92 : xFl RX2 92 3 3 := ⟨_, rfl, by decide +kernel, xwl_3, tb_1 (List.mem_of_getElem? (i := 54) (by decide +kernel)), rfl⟩
theorem xf_X2_95 : xFl RX2 95 1 1 := ⟨_, rfl, by decide +kernel, xwl_1, tb_1 (List.mem_of_getElem? (i := 160) (by decide +kernel)), rfl⟩
theorem xf_X3_15 : xFl RX3 15 3 2 := ⟨_, rfl, by decide +kernel, xwl_3, tb_1 (List.mem_of_getElem? (i := 50) (by decide +kernel)), rfl⟩
theorem xf_X3_18 : xFl RX3 18 3 3 := ⟨_, rfl, by decide +kernel, xwl_3, tb_1 (List.mem_of_getElem? (i := 53) (by decide +kernel)), rfl⟩
theorem xf_X3_21 : xFl RX3 21 3 4 := ⟨_, rfl, by decide +kernel, xwl_3, tb_1 (List.mem_of_getElem? (i := 56) (by decide +kernel)), rfl⟩
theorem xf_X3_25 : xFl RX3 25 3 5 := ⟨_, rfl, by decide +kernel, xwl_3, tb_1 (List.mem_of_getElem? (i := 59) (by decide +kernel)), rfl⟩
theorem xf_X3_28 : xFl RX3 28 3 6 := ⟨_, rfl, by decide +kernel, xwl_3, tb_1 (List.mem_of_getElem? (i := 62) (by decide +kernel)), rfl⟩
theorem xf_X3_31 : xFl RX3 31 3 7 := ⟨_, rfl, by decide +kernel, xwl_3, tb_1 (List.mem_of_getElem? (i := 67) (by decide +kernel)), rfl⟩
theorem xf_X3_34 : xFl RX3 34 3 0 := ⟨_, rfl, by decide +kernel, xwl_3, tb_1 (List.mem_of_getElem? (i := 41) (by decide +kernel)), rfl⟩
theorem xf_X3_9 : xFl RX3 9 3 1 := ⟨_, rfl, by decide +kernel, xwl_3, tb_1 (List.mem_of_getElem? (i := 45) (by decide +kernel)), rfl⟩
theorem xf_X4_11 : xFl RX4 11 4 0 := ⟨_, rfl, by decide +kernel, xwl_4, tb_2 (List.mem_of_getElem? (i := 51) (by decide +kernel)), rfl⟩
theorem xf_X4_119 : xFl RX4 119 1 3 := ⟨_, rfl, by decide +kernel, xwl_1, tb_1 (List.mem_of_getElem? (i := 173) (by decide +kernel)), rfl⟩
theorem xf_X4_123 : xFl RX4 123 3 4 := ⟨_, rfl, by decide +kernel, xwl_3, tb_1 (List.mem_of_getElem? (i := 57) (by decide +kernel)), rfl⟩
theorem xf_X4_15 : xFl RX4 15 4 1 := ⟨_, rfl, by decide +kernel, xwl_4, tb_2 (List.mem_of_getElem? (i := 52) (by decide +kernel)), rfl⟩
theorem xf_X4_18 : xFl RX4 18 4 2 := ⟨_, rfl, by decide +kernel, xwl_4, tb_2 (List.mem_of_getElem? (i := 53) (by decide +kernel)), rfl⟩
theorem xf_X4_21 : xFl RX4 21 4 3 := ⟨_, rfl, by decide +kernel, xwl_4, tb_2 (List.mem_of_getElem? (i := 54) (by decide +kernel)), rfl⟩
theorem xf_X4_24 : xFl RX4 24 4 4 := ⟨_, rfl, by decide +kernel, xwl_4, tb_2 (List.mem_of_getElem? (i := 55) (by decide +kernel)), rfl⟩
theorem xf_X4_27 : xFl RX4 27 4 7 := ⟨_, rfl, by decide +kernel, xwl_4, tb_2 (List.mem_of_getElem? (i := 58) (by decide +kernel)), rfl⟩
theorem xf_X4_30 : xFl RX4 30 4 8 := ⟨_, rfl, by decide +kernel, xwl_4, tb_2 (List.mem_of_getElem? (i := 59) (by decide +kernel)), rfl⟩
theorem xf_X4_33 : xFl RX4 33 1 11 := ⟨_, rfl, by decide +kernel, xwl_1, tb_1 (List.mem_of_getElem? (i := 203) (by decide +kernel)), rfl⟩
theorem xf_X4_39 : xFl RX4 39 1 8 := ⟨_, rfl, by decide +kernel, xwl_1, tb_1 (List.mem_of_getElem? (i := 194) (by decide +kernel)), rfl⟩
theorem xf_X4_43 : xFl RX4 43 8 3 := ⟨_, rfl, by decide +kernel, xwl_8, tb_1 (List.mem_of_getElem? (i := 106) (by decide +kernel)), rfl⟩
theorem xf_X4_49 : xFl RX4 49 1 9 := ⟨_, rfl, by decide +kernel, xwl_1, tb_1 (List.mem_of_getElem? (i := 197) (by decide +kernel)), rfl⟩
theorem xf_X4_52 : xFl RX4 52 1 1 := ⟨_, rfl, by decide +kernel, xwl_1, tb_1 (List.mem_of_getElem? (i := 158) (by decide +kernel)), rfl⟩
theorem xf_X4_59 : xFl RX4 59 1 5 := ⟨_, rfl, by decide +kernel, xwl_1, tb_1 (List.mem_of_getElem? (i := 182) (by decide +kernel)), rfl⟩
theorem xf_X4_69 : xFl RX4 69 4 6 := ⟨_, rfl, by decide +kernel, xwl_4, tb_2 (List.mem_of_getElem? (i := 57) (by decide +kernel)), rfl⟩
theorem xf_X4_75 : xFl RX4 75 1 4 := ⟨_, rfl, by decide +kernel, xwl_1, tb_1 (List.mem_of_getElem? (i := 178) (by decide +kernel)), rfl⟩
theorem xf_X4_93 : xFl RX4 93 4 5 := ⟨_, rfl, by decide +kernel, xwl_4, tb_2 (List.mem_of_getElem? (i := 56) (by decide +kernel)), rfl⟩
theorem xf_X5_102 : xFl RX5 102 1 4 := ⟨_, rfl, by decide +kernel, xwl_1, tb_1 (List.mem_of_getElem? (i := 179) (by decide +kernel)), rfl⟩
theorem xf_X5_16 : xFl RX5 16 5 0 := ⟨_, rfl, by decide +kernel, xwl_5, tb_1 (List.mem_of_getElem? (i := 137) (by decide +kernel)), rfl⟩
theorem xf_X5_20 : xFl RX5 20 5 1 := ⟨_, rfl, by decide +kernel, xwl_5, tb_1 (List.mem_of_getElem? (i := 139) (by decide +kernel)), rfl⟩
theorem xf_X5_24 : xFl RX5 24 5 2 := ⟨_, rfl, by decide +kernel, xwl_5, tb_1 (List.mem_of_getElem? (i := 140) (by decide +kernel)), rfl⟩
theorem xf_X5_27 : xFl RX5 27 5 3 := ⟨_, rfl, by decide +kernel, xwl_5, tb_1 (List.mem_of_getElem? (i := 141) (by decide +kernel)), rfl⟩
theorem xf_X5_30 : xFl RX5 30 8 3 := ⟨_, rfl, by decide +kernel, xwl_8, tb_1 (List.mem_of_getElem? (i := 105) (by decide +kernel)), rfl⟩
theorem xf_X5_34 : xFl RX5 34 9 6 := ⟨_, rfl, by decide +kernel, xwl_9, tb_2 (List.mem_of_getElem? (i := 9) (by decide +kernel)), rfl⟩
theorem xf_X5_43 : xFl RX5 43 9 9 := ⟨_, rfl, by decide +kernel, xwl_9, tb_2 (List.mem_of_getElem? (i := 15) (by decide +kernel)), rfl⟩
theorem xf_X5_46 : xFl RX5 46 9 8 := ⟨_, rfl, by decide +kernel, xwl_9, tb_2 (List.mem_of_getElem? (i := 13) (by decide +kernel)), rfl⟩
theorem xf_X5_49 : xFl RX5 49 9 7 := ⟨_, rfl, by decide +kernel, xwl_9, tb_2 (List.mem_of_getElem? (i := 12) (by decide +kernel)), rfl⟩
theorem xf_X5_75 : xFl RX5 75 1 0 := ⟨_, rfl, by decide +kernel, xwl_1, tb_1 (List.mem_of_getElem? (i := 155) (by decide +kernel)), rfl⟩
theorem xf_X5_86 : xFl RX5 86 1 2 := ⟨_, rfl, by decide +kernel, xwl_1, tb_1 (List.mem_of_getElem? (i := 164) (by decide +kernel)), rfl⟩
theorem xf_X5_93 : xFl RX5 93 1 3 := ⟨_, rfl, by decide +kernel, xwl_1, tb_1 (List.mem_of_getElem? (i := 172) (by decide +kernel)), rfl⟩
theorem xf_X6_101 : xFl RX6 101 8 3 := ⟨_, rfl, by decide +kernel, xwl_8, tb_1 (List.mem_of_getElem? (i := 109) (by decide +kernel)), rfl⟩
theorem xf_X6_11 : xFl RX6 11 6 0 := ⟨_, rfl, by decide +kernel, xwl_6, tb_2 (List.mem_of_getElem? (i := 85) (by decide +kernel)), rfl⟩
theorem xf_X6_117 : xFl RX6 117 1 5 := ⟨_, rfl, by decide +kernel, xwl_1, tb_1 (List.mem_of_getElem? (i := 184) (by decide +kernel)), rfl⟩
theorem xf_X6_133 : xFl RX6 133 3 6 := ⟨_, rfl, by decide +kernel, xwl_3, tb_1 (List.mem_of_getElem? (i := 65) (by decide +kernel)), rfl⟩
theorem xf_X6_144 : xFl RX6 144 3 3 := ⟨_, rfl, by decide +kernel, xwl_3, tb_1 (List.mem_of_getElem? (i := 55) (by decide +kernel)), rfl⟩
theorem xf_X6_15 : xFl RX6 15 6 1 := ⟨_, rfl, by decide +kernel, xwl_6, tb_2 (List.mem_of_getElem? (i := 86) (by decide +kernel)), rfl⟩
theorem xf_X6_160 : xFl RX6 160 3 0 := ⟨_, rfl, by decide +kernel, xwl_3, tb_1 (List.mem_of_getElem? (i := 44) (by decide +kernel)), rfl⟩
theorem xf_X6_161 : xFl RX6 161 3 1 := ⟨_, rfl, by decide +kernel, xwl_3, tb_1 (List.mem_of_getElem? (i := 49) (by decide +kernel)), rfl⟩
theorem xf_X6_18 : xFl RX6 18 6 2 := ⟨_, rfl, by decide +kernel, xwl_6, tb_2 (List.mem_of_getElem? (i := 87) (by decide +kernel)), rfl⟩
theorem xf_X6_181 : xFl RX6 181 3 5 := ⟨_, rfl, by decide +kernel, xwl_3, tb_1 (List.mem_of_getElem? (i := 61) (by decide +kernel)), rfl⟩
theorem xf_X6_184 : xFl RX6 184 1 0 := ⟨_, rfl, by decide +kernel, xwl_1, tb_1 (List.mem_of_getElem? (i := 157) (by decide +kernel)), rfl⟩
theorem xf_X6_194 : xFl RX6 194 1 6 := ⟨_, rfl, by decide +kernel, xwl_1, tb_1 (List.mem_of_getElem? (i := 189) (by decide +kernel)), rfl⟩
theorem xf_X6_207 : xFl RX6 207 3 2 := ⟨_, rfl, by decide +kernel, xwl_3, tb_1 (List.mem_of_getElem? (i := 52) (by decide +kernel)), rfl⟩
theorem xf_X6_21 : xFl RX6 21 6 3 := ⟨_, rfl, by decide +kernel, xwl_6, tb_2 (List.mem_of_getElem? (i := 88) (by decide +kernel)), rfl⟩
theorem xf_X6_24 : xFl RX6 24 1 12 := ⟨_, rfl, by decide +kernel, xwl_1, tb_1 (List.mem_of_getElem? (i := 206) (by decide +kernel)), rfl⟩
theorem xf_X6_36 : xFl RX6 36 1 10 := ⟨_, rfl, by decide +kernel, xwl_1, tb_1 (List.mem_of_getElem? (i := 201) (by decide +kernel)), rfl⟩
theorem xf_X6_47 : xFl RX6 47 1 3 := ⟨_, rfl, by decide +kernel, xwl_1, tb_1 (List.mem_of_getElem? (i := 169) (by decide +kernel)), rfl⟩
theorem xf_X6_64 : xFl RX6 64 1 4 := ⟨_, rfl, by decide +kernel, xwl_1, tb_1 (List.mem_of_getElem? (i := 177) (by decide +kernel)), rfl⟩
theorem xf_X6_89 : xFl RX6 89 1 2 := ⟨_, rfl, by decide +kernel, xwl_1, tb_1 (List.mem_of_getElem? (i := 163) (by decide +kernel)), rfl⟩
theorem xf_X6_97 : xFl RX6 97 1 9 := ⟨_, rfl, by decide +kernel, xwl_1, tb_1 (List.mem_of_getElem? (i := 198) (by decide +kernel)), rfl⟩
theorem xf_X7_11 : xFl RX7 11 7 0 := ⟨_, rfl, by decide +kernel, xwl_7, tb_2 (List.mem_of_getElem? (i := 104) (by decide +kernel)), rfl⟩
theorem xf_X7_113 : xFl RX7 113 3 7 := ⟨_, rfl, by decide +kernel, xwl_3, tb_1 (List.mem_of_getElem? (i := 69) (by decide +kernel)), rfl⟩
theorem xf_X7_116 : xFl RX7 116 3 1 := ⟨_, rfl, by decide +kernel, xwl_3, tb_1 (List.mem_of_getElem? (i := 48) (by decide +kernel)), rfl⟩
theorem xf_X7_123 : xFl RX7 123 7 8 := ⟨_, rfl, by decide +kernel, xwl_7, tb_2 (List.mem_of_getElem? (i := 112) (by decide +kernel)), rfl⟩
theorem xf_X7_15 : xFl RX7 15 7 1 := ⟨_, rfl, by decide +kernel, xwl_7, tb_2 (List.mem_of_getElem? (i := 105) (by decide +kernel)), rfl⟩
theorem xf_X7_18 : xFl RX7 18 7 2 := ⟨_, rfl, by decide +kernel, xwl_7, tb_2 (List.mem_of_getElem? (i := 106) (by decide +kernel)), rfl⟩
theorem xf_X7_21 : xFl RX7 21 7 3 := ⟨_, rfl, by decide +kernel, xwl_7, tb_2 (List.mem_of_getElem? (i := 107) (by decide +kernel)), rfl⟩
theorem xf_X7_24 : xFl RX7 24 7 4 := ⟨_, rfl, by decide +kernel, xwl_7, tb_2 (List.mem_of_getElem? (i := 108) (by decide +kernel)), rfl⟩
theorem xf_X7_28 : xFl RX7 28 7 5 := ⟨_, rfl, by decide +kernel, xwl_7, tb_2 (List.mem_of_getElem? (i := 109) (by decide +kernel)), rfl⟩
theorem xf_X7_31 : xFl RX7 31 7 6 := ⟨_, rfl, by decide +kernel, xwl_7, tb_2 (List.mem_of_getElem? (i := 110) (by decide +kernel)), rfl⟩
theorem xf_X7_34 : xFl RX7 34 7 7 := ⟨_, rfl, by decide +kernel, xwl_7, tb_2 (List.mem_of_getElem? (i := 111) (by decide +kernel)), rfl⟩
theorem xf_X7_37 : xFl RX7 37 1 4 := ⟨_, rfl, by decide +kernel, xwl_1, tb_1 (List.mem_of_getElem? (i := 176) (by decide +kernel)), rfl⟩
theorem xf_X7_65 : xFl RX7 65 1 3 := ⟨_, rfl, by decide +kernel, xwl_1, tb_1 (List.mem_of_getElem? (i := 171) (by decide +kernel)), rfl⟩
theorem xf_X7_69 : xFl RX7 69 3 0 := ⟨_, rfl, by decide +kernel, xwl_3, tb_1 (List.mem_of_getElem? (i := 43) (by decide +kernel)), rfl⟩
theorem xf_X7_90 : xFl RX7 90 3 6 := ⟨_, rfl, by decide +kernel, xwl_3, tb_1 (List.mem_of_getElem? (i := 66) (by decide +kernel)), rfl⟩
theorem xf_X8_13 : xFl RX8 13 8 1 := ⟨_, rfl, by decide +kernel, xwl_8, tb_1 (List.mem_of_getElem? (i := 102) (by decide +kernel)), rfl⟩
theorem xf_X8_16 : xFl RX8 16 8 2 := ⟨_, rfl, by decide +kernel, xwl_8, tb_1 (List.mem_of_getElem? (i := 103) (by decide +kernel)), rfl⟩
theorem xf_X8_20 : xFl RX8 20 8 3 := ⟨_, rfl, by decide +kernel, xwl_8, tb_1 (List.mem_of_getElem? (i := 104) (by decide +kernel)), rfl⟩
theorem xf_X8_7 : xFl RX8 7 8 0 := ⟨_, rfl, by decide +kernel, xwl_8, tb_1 (List.mem_of_getElem? (i := 101) (by decide +kernel)), rfl⟩
theorem xf_X9_15 : xFl RX9 15 9 7 := ⟨_, rfl, by decide +kernel, xwl_9, tb_2 (List.mem_of_getElem? (i := 11) (by decide +kernel)), rfl⟩
theorem xf_X9_18 : xFl RX9 18 9 0 := ⟨_, rfl, by decide +kernel, xwl_9, tb_2 (List.mem_of_getElem? (i := 2) (by decide +kernel)), rfl⟩
theorem xf_X9_22 : xFl RX9 22 9 3 := ⟨_, rfl, by decide +kernel, xwl_9, tb_2 (List.mem_of_getElem? (i := 6) (by decide +kernel)), rfl⟩
theorem xf_X9_25 : xFl RX9 25 9 8 := ⟨_, rfl, by decide +kernel, xwl_9, tb_2 (List.mem_of_getElem? (i := 14) (by decide +kernel)), rfl⟩
theorem xf_X9_31 : xFl RX9 31 9 4 := ⟨_, rfl, by decide +kernel, xwl_9, tb_2 (List.mem_of_getElem? (i := 7) (by decide +kernel)), rfl⟩
theorem xf_X9_34 : xFl RX9 34 9 5 := ⟨_, rfl, by decide +kernel, xwl_9, tb_2 (List.mem_of_getElem? (i := 8) (by decide +kernel)), rfl⟩
theorem xf_X9_37 : xFl RX9 37 9 6 := ⟨_, rfl, by decide +kernel, xwl_9, tb_2 (List.mem_of_getElem? (i := 10) (by decide +kernel)), rfl⟩
theorem xf_X9_44 : xFl RX9 44 9 9 := ⟨_, rfl, by decide +kernel, xwl_9, tb_2 (List.mem_of_getElem? (i := 16) (by decide +kernel)), rfl⟩
theorem xf_X9_47 : xFl RX9 47 9 2 := ⟨_, rfl, by decide +kernel, xwl_9, tb_2 (List.mem_of_getElem? (i := 5) (by decide +kernel)), rfl⟩
theorem xf_X9_9 : xFl RX9 9 9 1 := ⟨_, rfl, by decide +kernel, xwl_9, tb_2 (List.mem_of_getElem? (i := 4) (by decide +kernel)), rfl⟩
theorem xp_10_8 : xFp 10 8 .int := ⟨_, tyX10, rfl, rfl, by decide +kernel, tyX10_ok, nmX10⟩
theorem xp_11_0 : xFp 11 0 .int := ⟨_, tyX11, rfl, rfl, by decide +kernel, tyX11_ok, nmX11⟩
theorem xp_11_10 : xFp 11 10 .long := ⟨_, tyX11, rfl, rfl, by decide +kernel, tyX11_ok, nmX11⟩
theorem xp_11_11 : xFp 11 11 .int := ⟨_, tyX11, rfl, rfl, by decide +kernel, tyX11_ok, nmX11⟩
theorem xp_11_12 : xFp 11 12 .int := ⟨_, tyX11, rfl, rfl, by decide +kernel, tyX11_ok, nmX11⟩
theorem xp_11_13 : xFp 11 13 .boolean := ⟨_, tyX11, rfl, rfl, by decide +kernel, tyX11_ok, nmX11⟩
theorem xp_11_14 : xFp 11 14 .int := ⟨_, tyX11, rfl, rfl, by decide +kernel, tyX11_ok, nmX11⟩
theorem xp_11_15 : xFp 11 15 .int := ⟨_, tyX11, rfl, rfl, by decide +kernel, tyX11_ok, nmX11⟩
theorem xp_11_16 : xFp 11 16 .int := ⟨_, tyX11, rfl, rfl, by decide +kernel, tyX11_ok, nmX11⟩
theorem xp_11_17 : xFp 11 17 .int := ⟨_, tyX11, rfl, rfl, by decide +kernel, tyX11_ok, nmX11⟩
theorem xp_11_18 : xFp 11 18 .int := ⟨_, tyX11, rfl, rfl, by decide +kernel, tyX11_ok, nmX11⟩
theorem xp_11_19 : xFp 11 19 .boolean := ⟨_, tyX11, rfl, rfl, by decide +kernel, tyX11_ok, nmX11⟩
theorem xp_11_25 : xFp 11 25 .int := ⟨_, tyX11, rfl, rfl, by decide +kernel, tyX11_ok, nmX11⟩
theorem xp_11_44 : xFp 11 44 .boolean := ⟨_, tyX11, rfl, rfl, by decide +kernel, tyX11_ok, nmX11⟩
theorem xp_11_46 : xFp 11 46 .int := ⟨_, tyX11, rfl, rfl, by decide +kernel, tyX11_ok, nmX11⟩
theorem xp_11_47 : xFp 11 47 .boolean := ⟨_, tyX11, rfl, rfl, by decide +kernel, tyX11_ok, nmX11⟩
theorem xp_11_5 : xFp 11 5 .int := ⟨_, tyX11, rfl, rfl, by decide +kernel, tyX11_ok, nmX11⟩
theorem xp_11_7 : xFp 11 7 .int := ⟨_, tyX11, rfl, rfl, by decide +kernel, tyX11_ok, nmX11⟩
theorem xp_11_8 : xFp 11 8 .int := ⟨_, tyX11, rfl, rfl, by decide +kernel, tyX11_ok, nmX11⟩
theorem xp_11_9 : xFp 11 9 .int := ⟨_, tyX11, rfl, rfl, by decide +kernel, tyX11_ok, nmX11⟩
theorem xp_1_0 : xFp 1 0 .int := ⟨_, tyX1, rfl, rfl, by decide +kernel, tyX1_ok, nmX1⟩
theorem xp_1_1 : xFp 1 1 .int := ⟨_, tyX1, rfl, rfl, by decide +kernel, tyX1_ok, nmX1⟩
theorem xp_1_11 : xFp 1 11 .boolean := ⟨_, tyX1, rfl, rfl, by decide +kernel, tyX1_ok, nmX1⟩
theorem xp_1_12 : xFp 1 12 .boolean := ⟨_, tyX1, rfl, rfl, by decide +kernel, tyX1_ok, nmX1⟩
theorem xp_3_0 : xFp 3 0 .int := ⟨_, tyX3, rfl, rfl, by decide +kernel, tyX3_ok, nmX3⟩
theorem xp_4_5 : xFp 4 5 .int := ⟨_, tyX4, rfl, rfl, by decide +kernel, tyX4_ok, nmX4⟩
theorem xp_4_6 : xFp 4 6 .int := ⟨_, tyX4, rfl, rfl, by decide +kernel, tyX4_ok, nmX4⟩
theorem xp_7_8 : xFp 7 8 .int := ⟨_, tyX7, rfl, rfl, by decide +kernel, tyX7_ok, nmX7⟩
theorem xp_8_3 : xFp 8 3 .int := ⟨_, tyX8, rfl, rfl, by decide +kernel, tyX8_ok, nmX8⟩
theorem xp_9_0 : xFp 9 0 .int := ⟨_, tyX9, rfl, rfl, by decide +kernel, tyX9_ok, nmX9⟩
theorem xp_9_2 : xFp 9 2 .int := ⟨_, tyX9, rfl, rfl, by decide +kernel, tyX9_ok, nmX9⟩
theorem xp_9_3 : xFp 9 3 .int := ⟨_, tyX9, rfl, rfl, by decide +kernel, tyX9_ok, nmX9⟩
theorem xp_9_4 : xFp 9 4 .int := ⟨_, tyX9, rfl, rfl, by decide +kernel, tyX9_ok, nmX9⟩
theorem xp_9_5 : xFp 9 5 .int := ⟨_, tyX9, rfl, rfl, by decide +kernel, tyX9_ok, nmX9⟩
theorem xp_9_6 : xFp 9 6 .int := ⟨_, tyX9, rfl, rfl, by decide +kernel, tyX9_ok, nmX9⟩
theorem xp_9_8 : xFp 9 8 .int := ⟨_, tyX9, rfl, rfl, by decide +kernel, tyX9_ok, nmX9⟩
theorem xp_9_9 : xFp 9 9 .int := ⟨_, tyX9, rfl, rfl, by decide +kernel, tyX9_ok, nmX9⟩
set_option maxRecDepth 20000 in
theorem xy_J7_fill_53178 : xYs yJ7_fill_53178 cJ7_fill_53178 4 none 2 := ⟨tb_3 (List.mem_of_getElem? (i := 114) rfl), tb_3 (List.mem_of_getElem? (i := 113) (by decide +kernel)), tb_1 (List.mem_of_getElem? (i := 14) (by decide +kernel)), by decide +kernel, by decide +kernel⟩
set_option maxRecDepth 20000 in
theorem xy_J7_fill_d0a16 : xYs yJ7_fill_d0a16 cJ7_fill_d0a16 5 none 2 := ⟨tb_4 (List.mem_of_getElem? (i := 200) rfl), tb_4 (List.mem_of_getElem? (i := 199) (by decide +kernel)), tb_1 (List.mem_of_getElem? (i := 14) (by decide +kernel)), by decide +kernel, by decide +kernel⟩
set_option maxRecDepth 20000 in
theorem xy_X0_at : xYv yX0_at cX0_at 3 (some .int) 2 := ⟨tb_3 (List.mem_of_getElem? (i := 66) rfl), tb_3 (List.mem_of_getElem? (i := 64) (by decide +kernel)), tb_3 (List.mem_of_getElem? (i := 65) (by decide +kernel)), tb_1 (List.mem_of_getElem? (i := 4) (by decide +kernel)), by decide +kernel, by decide +kernel⟩
set_option maxRecDepth 20000 in
theorem xy_X0_gainOf : xYv yX0_gainOf cX0_gainOf 3 (some .int) 2 := ⟨tb_2 (List.mem_of_getElem? (i := 229) rfl), tb_2 (List.mem_of_getElem? (i := 228) (by decide +kernel)), List.mem_append_left _ (List.mem_of_getElem? (i := 3) (by decide +kernel)), tb_1 (List.mem_of_getElem? (i := 4) (by decide +kernel)), by decide +kernel, by decide +kernel⟩
set_option maxRecDepth 20000 in
theorem xy_X0_inState : xYv yX0_inState cX0_inState 4 (some .int) 1 := ⟨tb_5 (List.mem_of_getElem? (i := 162) rfl), tb_5 (List.mem_of_getElem? (i := 160) (by decide +kernel)), tb_5 (List.mem_of_getElem? (i := 161) (by decide +kernel)), tb_1 (List.mem_of_getElem? (i := 4) (by decide +kernel)), by decide +kernel, by decide +kernel⟩
set_option maxRecDepth 20000 in
theorem xy_X0_isLiving : xYv yX0_isLiving cX0_isLiving 3 (some .boolean) 1 := ⟨tb_2 (List.mem_of_getElem? (i := 221) rfl), tb_2 (List.mem_of_getElem? (i := 219) (by decide +kernel)), tb_2 (List.mem_of_getElem? (i := 220) (by decide +kernel)), tb_1 (List.mem_of_getElem? (i := 4) (by decide +kernel)), by decide +kernel, by decide +kernel⟩
set_option maxRecDepth 20000 in
theorem xy_X0_isThere : xYv yX0_isThere cX0_isThere 2 (some .boolean) 1 := ⟨tb_3 (List.mem_of_getElem? (i := 58) rfl), tb_3 (List.mem_of_getElem? (i := 56) (by decide +kernel)), tb_3 (List.mem_of_getElem? (i := 57) (by decide +kernel)), tb_1 (List.mem_of_getElem? (i := 4) (by decide +kernel)), by decide +kernel, by decide +kernel⟩
set_option maxRecDepth 20000 in
theorem xy_X0_leastFree : xYv yX0_leastFree cX0_leastFree 3 (some .int) 1 := ⟨tb_3 (List.mem_of_getElem? (i := 43) rfl), tb_3 (List.mem_of_getElem? (i := 41) (by decide +kernel)), tb_3 (List.mem_of_getElem? (i := 42) (by decide +kernel)), tb_1 (List.mem_of_getElem? (i := 4) (by decide +kernel)), by decide +kernel, by decide +kernel⟩
set_option maxRecDepth 20000 in
theorem xy_X0_livingOf : xYv yX0_livingOf cX0_livingOf 4 (some .int) 1 := ⟨tb_2 (List.mem_of_getElem? (i := 217) rfl), tb_2 (List.mem_of_getElem? (i := 215) (by decide +kernel)), tb_2 (List.mem_of_getElem? (i := 216) (by decide +kernel)), tb_1 (List.mem_of_getElem? (i := 4) (by decide +kernel)), by decide +kernel, by decide +kernel⟩
set_option maxRecDepth 20000 in
theorem xy_X0_makePutOff : xYv yX0_makePutOff cX0_makePutOff 4 none 3 := ⟨tb_3 (List.mem_of_getElem? (i := 150) rfl), tb_3 (List.mem_of_getElem? (i := 148) (by decide +kernel)), tb_3 (List.mem_of_getElem? (i := 149) (by decide +kernel)), tb_1 (List.mem_of_getElem? (i := 4) (by decide +kernel)), by decide +kernel, by decide +kernel⟩
set_option maxRecDepth 20000 in
theorem xy_X0_makeStand : xYv yX0_makeStand cX0_makeStand 3 none 2 := ⟨tb_3 (List.mem_of_getElem? (i := 154) rfl), tb_3 (List.mem_of_getElem? (i := 152) (by decide +kernel)), tb_3 (List.mem_of_getElem? (i := 153) (by decide +kernel)), tb_1 (List.mem_of_getElem? (i := 4) (by decide +kernel)), by decide +kernel, by decide +kernel⟩
set_option maxRecDepth 20000 in
theorem xy_X0_markBy : xYv yX0_markBy cX0_markBy 5 (some .boolean) 3 := ⟨tb_3 (List.mem_of_getElem? (i := 70) rfl), tb_3 (List.mem_of_getElem? (i := 68) (by decide +kernel)), tb_3 (List.mem_of_getElem? (i := 69) (by decide +kernel)), tb_1 (List.mem_of_getElem? (i := 4) (by decide +kernel)), by decide +kernel, by decide +kernel⟩
set_option maxRecDepth 20000 in
theorem xy_X0_markColumnOf : xYv yX0_markColumnOf cX0_markColumnOf 3 (some .int) 2 := ⟨tb_3 (List.mem_of_getElem? (i := 62) rfl), tb_3 (List.mem_of_getElem? (i := 60) (by decide +kernel)), tb_3 (List.mem_of_getElem? (i := 61) (by decide +kernel)), tb_1 (List.mem_of_getElem? (i := 4) (by decide +kernel)), by decide +kernel, by decide +kernel⟩
set_option maxRecDepth 20000 in
theorem xy_X0_marksOf : xYv yX0_marksOf cX0_marksOf 3 (some .int) 1 := ⟨tb_3 (List.mem_of_getElem? (i := 125) rfl), tb_3 (List.mem_of_getElem? (i := 123) (by decide +kernel)), tb_3 (List.mem_of_getElem? (i := 124) (by decide +kernel)), tb_1 (List.mem_of_getElem? (i := 4) (by decide +kernel)), by decide +kernel, by decide +kernel⟩
set_option maxRecDepth 20000 in
theorem xy_X0_netKnownOf : xYv yX0_netKnownOf cX0_netKnownOf 8 (some .int) 4 := ⟨tb_3 (List.mem_of_getElem? (i := 91) rfl), tb_3 (List.mem_of_getElem? (i := 89) (by decide +kernel)), tb_3 (List.mem_of_getElem? (i := 90) (by decide +kernel)), tb_1 (List.mem_of_getElem? (i := 4) (by decide +kernel)), by decide +kernel, by decide +kernel⟩
set_option maxRecDepth 20000 in
theorem xy_X0_netOf : xYv yX0_netOf cX0_netOf 6 (some .int) 3 := ⟨tb_3 (List.mem_of_getElem? (i := 13) rfl), tb_3 (List.mem_of_getElem? (i := 11) (by decide +kernel)), tb_3 (List.mem_of_getElem? (i := 12) (by decide +kernel)), tb_1 (List.mem_of_getElem? (i := 4) (by decide +kernel)), by decide +kernel, by decide +kernel⟩
set_option maxRecDepth 20000 in
theorem xy_X0_netsInto : xYv yX0_netsInto cX0_netsInto 5 none 3 := ⟨tb_4 (List.mem_of_getElem? (i := 166) rfl), tb_4 (List.mem_of_getElem? (i := 164) (by decide +kernel)), tb_4 (List.mem_of_getElem? (i := 165) (by decide +kernel)), tb_1 (List.mem_of_getElem? (i := 4) (by decide +kernel)), by decide +kernel, by decide +kernel⟩
set_option maxRecDepth 20000 in
theorem xy_X0_putState : xYv yX0_putState cX0_putState 3 none 2 := ⟨tb_3 (List.mem_of_getElem? (i := 79) rfl), tb_3 (List.mem_of_getElem? (i := 77) (by decide +kernel)), tb_3 (List.mem_of_getElem? (i := 78) (by decide +kernel)), tb_1 (List.mem_of_getElem? (i := 4) (by decide +kernel)), by decide +kernel, by decide +kernel⟩
set_option maxRecDepth 20000 in
theorem xy_X0_standsFor : xYv yX0_standsFor cX0_standsFor 3 (some .boolean) 2 := ⟨tb_4 (List.mem_of_getElem? (i := 208) rfl), tb_4 (List.mem_of_getElem? (i := 206) (by decide +kernel)), tb_4 (List.mem_of_getElem? (i := 207) (by decide +kernel)), tb_1 (List.mem_of_getElem? (i := 4) (by decide +kernel)), by decide +kernel, by decide +kernel⟩
set_option maxRecDepth 20000 in
theorem xy_X0_standsIn : xYv yX0_standsIn cX0_standsIn 4 (some .boolean) 3 := ⟨tb_3 (List.mem_of_getElem? (i := 17) rfl), tb_3 (List.mem_of_getElem? (i := 15) (by decide +kernel)), tb_3 (List.mem_of_getElem? (i := 16) (by decide +kernel)), tb_1 (List.mem_of_getElem? (i := 4) (by decide +kernel)), by decide +kernel, by decide +kernel⟩
set_option maxRecDepth 20000 in
theorem xy_X0_write : xYv yX0_write cX0_write 9 none 7 := ⟨tb_3 (List.mem_of_getElem? (i := 50) rfl), tb_3 (List.mem_of_getElem? (i := 48) (by decide +kernel)), tb_3 (List.mem_of_getElem? (i := 49) (by decide +kernel)), tb_1 (List.mem_of_getElem? (i := 4) (by decide +kernel)), by decide +kernel, by decide +kernel⟩
set_option maxRecDepth 20000 in
theorem xy_X10_areMen : xYv yX10_areMen cX10_areMen 2 (some .boolean) 1 := ⟨tb_3 (List.mem_of_getElem? (i := 29) rfl), tb_3 (List.mem_of_getElem? (i := 28) (by decide +kernel)), List.mem_append_left _ (List.mem_of_getElem? (i := 5) (by decide +kernel)), tb_1 (List.mem_of_getElem? (i := 1) (by decide +kernel)), by decide +kernel, by decide +kernel⟩
set_option maxRecDepth 20000 in
theorem xy_X10_asks : xYv yX10_asks cX10_asks 6 (some .int) 3 := ⟨tb_2 (List.mem_of_getElem? (i := 209) rfl), tb_2 (List.mem_of_getElem? (i := 207) (by decide +kernel)), tb_2 (List.mem_of_getElem? (i := 208) (by decide +kernel)), tb_1 (List.mem_of_getElem? (i := 1) (by decide +kernel)), by decide +kernel, by decide +kernel⟩
set_option maxRecDepth 20000 in
theorem xy_X10_back : xYv yX10_back cX10_back 1 (some .int) 0 := ⟨tb_5 (List.mem_of_getElem? (i := 192) rfl), tb_5 (List.mem_of_getElem? (i := 190) (by decide +kernel)), tb_5 (List.mem_of_getElem? (i := 191) (by decide +kernel)), tb_1 (List.mem_of_getElem? (i := 1) (by decide +kernel)), by decide +kernel, by decide +kernel⟩
set_option maxRecDepth 20000 in
theorem xy_X10_bargain : xYv yX10_bargain cX10_bargain 7 (some .int) 4 := ⟨tb_3 (List.mem_of_getElem? (i := 25) rfl), tb_3 (List.mem_of_getElem? (i := 23) (by decide +kernel)), tb_3 (List.mem_of_getElem? (i := 24) (by decide +kernel)), tb_1 (List.mem_of_getElem? (i := 1) (by decide +kernel)), by decide +kernel, by decide +kernel⟩
set_option maxRecDepth 20000 in
theorem xy_X10_bargainToldOf : xYv yX10_bargainToldOf cX10_bargainToldOf 3 (some .int) 1 := ⟨tb_4 (List.mem_of_getElem? (i := 104) rfl), tb_4 (List.mem_of_getElem? (i := 103) (by decide +kernel)), List.mem_append_left _ (List.mem_of_getElem? (i := 22) (by decide +kernel)), tb_1 (List.mem_of_getElem? (i := 1) (by decide +kernel)), by decide +kernel, by decide +kernel⟩
set_option maxRecDepth 20000 in
theorem xy_X10_clear : xYv yX10_clear cX10_clear 3 (some .int) 1 := ⟨tb_3 (List.mem_of_getElem? (i := 74) rfl), tb_3 (List.mem_of_getElem? (i := 72) (by decide +kernel)), tb_3 (List.mem_of_getElem? (i := 73) (by decide +kernel)), tb_1 (List.mem_of_getElem? (i := 1) (by decide +kernel)), by decide +kernel, by decide +kernel⟩
set_option maxRecDepth 20000 in
theorem xy_X10_clearing : xYv yX10_clearing cX10_clearing 2 (some .int) 1 := ⟨tb_5 (List.mem_of_getElem? (i := 150) rfl), tb_5 (List.mem_of_getElem? (i := 148) (by decide +kernel)), tb_5 (List.mem_of_getElem? (i := 149) (by decide +kernel)), tb_1 (List.mem_of_getElem? (i := 1) (by decide +kernel)), by decide +kernel, by decide +kernel⟩
set_option maxRecDepth 20000 in
theorem xy_X10_coin : xYv yX10_coin cX10_coin 3 (some .long) 2 := ⟨tb_2 (List.mem_of_getElem? (i := 233) rfl), tb_2 (List.mem_of_getElem? (i := 231) (by decide +kernel)), tb_2 (List.mem_of_getElem? (i := 232) (by decide +kernel)), tb_1 (List.mem_of_getElem? (i := 1) (by decide +kernel)), by decide +kernel, by decide +kernel⟩
set_option maxRecDepth 20000 in
theorem xy_X10_copy : xYv yX10_copy cX10_copy 5 (some .int) 3 := ⟨tb_5 (List.mem_of_getElem? (i := 213) rfl), tb_5 (List.mem_of_getElem? (i := 211) (by decide +kernel)), tb_5 (List.mem_of_getElem? (i := 212) (by decide +kernel)), tb_1 (List.mem_of_getElem? (i := 1) (by decide +kernel)), by decide +kernel, by decide +kernel⟩
set_option maxRecDepth 20000 in
theorem xy_X10_corner : xYv yX10_corner cX10_corner 6 (some .int) 3 := ⟨tb_5 (List.mem_of_getElem? (i := 96) rfl), tb_5 (List.mem_of_getElem? (i := 94) (by decide +kernel)), tb_5 (List.mem_of_getElem? (i := 95) (by decide +kernel)), tb_1 (List.mem_of_getElem? (i := 1) (by decide +kernel)), by decide +kernel, by decide +kernel⟩
set_option maxRecDepth 20000 in
theorem xy_X10_count : xYv yX10_count cX10_count 2 (some .int) 1 := ⟨tb_5 (List.mem_of_getElem? (i := 158) rfl), tb_5 (List.mem_of_getElem? (i := 156) (by decide +kernel)), tb_5 (List.mem_of_getElem? (i := 157) (by decide +kernel)), tb_1 (List.mem_of_getElem? (i := 1) (by decide +kernel)), by decide +kernel, by decide +kernel⟩
set_option maxRecDepth 20000 in
theorem xy_X10_declare : xYv yX10_declare cX10_declare 3 (some .int) 1 := ⟨tb_3 (List.mem_of_getElem? (i := 171) rfl), tb_3 (List.mem_of_getElem? (i := 169) (by decide +kernel)), tb_3 (List.mem_of_getElem? (i := 170) (by decide +kernel)), tb_1 (List.mem_of_getElem? (i := 1) (by decide +kernel)), by decide +kernel, by decide +kernel⟩
set_option maxRecDepth 20000 in
theorem xy_X10_delivery : xYv yX10_delivery cX10_delivery 3 (some .int) 2 := ⟨tb_5 (List.mem_of_getElem? (i := 61) rfl), tb_5 (List.mem_of_getElem? (i := 59) (by decide +kernel)), tb_5 (List.mem_of_getElem? (i := 60) (by decide +kernel)), tb_1 (List.mem_of_getElem? (i := 1) (by decide +kernel)), by decide +kernel, by decide +kernel⟩
set_option maxRecDepth 20000 in
theorem xy_X10_dividend : xYv yX10_dividend cX10_dividend 4 (some .int) 3 := ⟨tb_3 (List.mem_of_getElem? (i := 199) rfl), tb_3 (List.mem_of_getElem? (i := 197) (by decide +kernel)), tb_3 (List.mem_of_getElem? (i := 198) (by decide +kernel)), tb_1 (List.mem_of_getElem? (i := 1) (by decide +kernel)), by decide +kernel, by decide +kernel⟩
set_option maxRecDepth 20000 in
theorem xy_X10_feed : xYv yX10_feed cX10_feed 3 (some .int) 2 := ⟨tb_3 (List.mem_of_getElem? (i := 207) rfl), tb_3 (List.mem_of_getElem? (i := 205) (by decide +kernel)), tb_3 (List.mem_of_getElem? (i := 206) (by decide +kernel)), tb_1 (List.mem_of_getElem? (i := 1) (by decide +kernel)), by decide +kernel, by decide +kernel⟩
set_option maxRecDepth 20000 in
theorem xy_X10_first : xYs yX10_first cX10_first 1 (some .int) 1 := ⟨tb_3 (List.mem_of_getElem? (i := 32) rfl), tb_3 (List.mem_of_getElem? (i := 31) (by decide +kernel)), tb_1 (List.mem_of_getElem? (i := 1) (by decide +kernel)), by decide +kernel, by decide +kernel⟩
set_option maxRecDepth 20000 in
theorem xy_X10_has : xYv yX10_has cX10_has 4 (some .int) 3 := ⟨tb_3 (List.mem_of_getElem? (i := 5) rfl), tb_3 (List.mem_of_getElem? (i := 3) (by decide +kernel)), tb_3 (List.mem_of_getElem? (i := 4) (by decide +kernel)), tb_1 (List.mem_of_getElem? (i := 1) (by decide +kernel)), by decide +kernel, by decide +kernel⟩
set_option maxRecDepth 20000 in
theorem xy_X10_hold : xYv yX10_hold cX10_hold 5 (some .int) 3 := ⟨tb_2 (List.mem_of_getElem? (i := 186) rfl), tb_2 (List.mem_of_getElem? (i := 184) (by decide +kernel)), tb_2 (List.mem_of_getElem? (i := 185) (by decide +kernel)), tb_1 (List.mem_of_getElem? (i := 1) (by decide +kernel)), by decide +kernel, by decide +kernel⟩
set_option maxRecDepth 20000 in
theorem xy_X10_image : xYv yX10_image cX10_image 1 (some .int) 0 := ⟨tb_5 (List.mem_of_getElem? (i := 167) rfl), tb_5 (List.mem_of_getElem? (i := 165) (by decide +kernel)), tb_5 (List.mem_of_getElem? (i := 166) (by decide +kernel)), tb_1 (List.mem_of_getElem? (i := 1) (by decide +kernel)), by decide +kernel, by decide +kernel⟩
set_option maxRecDepth 20000 in
theorem xy_X10_isMan : xYv yX10_isMan cX10_isMan 2 (some .boolean) 1 := ⟨tb_2 (List.mem_of_getElem? (i := 190) rfl), tb_2 (List.mem_of_getElem? (i := 189) (by decide +kernel)), List.mem_append_left _ (List.mem_of_getElem? (i := 1) (by decide +kernel)), tb_1 (List.mem_of_getElem? (i := 1) (by decide +kernel)), by decide +kernel, by decide +kernel⟩
set_option maxRecDepth 20000 in
theorem xy_X10_isStock : xYv yX10_isStock cX10_isStock 2 (some .boolean) 1 := ⟨tb_2 (List.mem_of_getElem? (i := 194) rfl), tb_2 (List.mem_of_getElem? (i := 193) (by decide +kernel)), List.mem_append_left _ (List.mem_of_getElem? (i := 2) (by decide +kernel)), tb_1 (List.mem_of_getElem? (i := 1) (by decide +kernel)), by decide +kernel, by decide +kernel⟩
set_option maxRecDepth 20000 in
theorem xy_X10_isToldOf : xYv yX10_isToldOf cX10_isToldOf 2 (some .boolean) 1 := ⟨tb_4 (List.mem_of_getElem? (i := 100) rfl), tb_4 (List.mem_of_getElem? (i := 99) (by decide +kernel)), List.mem_append_left _ (List.mem_of_getElem? (i := 21) (by decide +kernel)), tb_1 (List.mem_of_getElem? (i := 1) (by decide +kernel)), by decide +kernel, by decide +kernel⟩
set_option maxRecDepth 20000 in
theorem xy_X10_isWithin : xYs yX10_isWithin cX10_isWithin 3 (some .boolean) 3 := ⟨tb_2 (List.mem_of_getElem? (i := 170) rfl), tb_2 (List.mem_of_getElem? (i := 169) (by decide +kernel)), tb_1 (List.mem_of_getElem? (i := 1) (by decide +kernel)), by decide +kernel, by decide +kernel⟩
set_option maxRecDepth 20000 in
theorem xy_X10_judge : xYv yX10_judge cX10_judge 3 (some .int) 2 := ⟨tb_5 (List.mem_of_getElem? (i := 83) rfl), tb_5 (List.mem_of_getElem? (i := 81) (by decide +kernel)), tb_5 (List.mem_of_getElem? (i := 82) (by decide +kernel)), tb_1 (List.mem_of_getElem? (i := 1) (by decide +kernel)), by decide +kernel, by decide +kernel⟩
set_option maxRecDepth 20000 in
theorem xy_X10_knew : xYv yX10_knew cX10_knew 5 (some .int) 4 := ⟨tb_3 (List.mem_of_getElem? (i := 87) rfl), tb_3 (List.mem_of_getElem? (i := 85) (by decide +kernel)), tb_3 (List.mem_of_getElem? (i := 86) (by decide +kernel)), tb_1 (List.mem_of_getElem? (i := 1) (by decide +kernel)), by decide +kernel, by decide +kernel⟩
set_option maxRecDepth 20000 in
theorem xy_X10_lay : xYv yX10_lay cX10_lay 2 (some .int) 1 := ⟨tb_5 (List.mem_of_getElem? (i := 196) rfl), tb_5 (List.mem_of_getElem? (i := 194) (by decide +kernel)), tb_5 (List.mem_of_getElem? (i := 195) (by decide +kernel)), tb_1 (List.mem_of_getElem? (i := 1) (by decide +kernel)), by decide +kernel, by decide +kernel⟩
set_option maxRecDepth 20000 in
theorem xy_X10_least : xYv yX10_least cX10_least 4 (some .int) 2 := ⟨tb_5 (List.mem_of_getElem? (i := 69) rfl), tb_5 (List.mem_of_getElem? (i := 67) (by decide +kernel)), tb_5 (List.mem_of_getElem? (i := 68) (by decide +kernel)), tb_1 (List.mem_of_getElem? (i := 1) (by decide +kernel)), by decide +kernel, by decide +kernel⟩
set_option maxRecDepth 20000 in
theorem xy_X10_lend : xYv yX10_lend cX10_lend 3 (some .int) 2 := ⟨tb_2 (List.mem_of_getElem? (i := 205) rfl), tb_2 (List.mem_of_getElem? (i := 203) (by decide +kernel)), tb_2 (List.mem_of_getElem? (i := 204) (by decide +kernel)), tb_1 (List.mem_of_getElem? (i := 1) (by decide +kernel)), by decide +kernel, by decide +kernel⟩
set_option maxRecDepth 20000 in
theorem xy_X10_look : xYv yX10_look cX10_look 3 (some .int) 2 := ⟨tb_2 (List.mem_of_getElem? (i := 213) rfl), tb_2 (List.mem_of_getElem? (i := 211) (by decide +kernel)), tb_2 (List.mem_of_getElem? (i := 212) (by decide +kernel)), tb_1 (List.mem_of_getElem? (i := 1) (by decide +kernel)), by decide +kernel, by decide +kernel⟩
set_option maxRecDepth 20000 in
theorem xy_X10_made : xYv yX10_made cX10_made 2 (some .int) 1 := ⟨tb_3 (List.mem_of_getElem? (i := 21) rfl), tb_3 (List.mem_of_getElem? (i := 19) (by decide +kernel)), tb_3 (List.mem_of_getElem? (i := 20) (by decide +kernel)), tb_1 (List.mem_of_getElem? (i := 1) (by decide +kernel)), by decide +kernel, by decide +kernel⟩
set_option maxRecDepth 20000 in
theorem xy_X10_man : xYv yX10_man cX10_man 3 (some .int) 2 := ⟨tb_2 (List.mem_of_getElem? (i := 166) rfl), tb_2 (List.mem_of_getElem? (i := 164) (by decide +kernel)), tb_2 (List.mem_of_getElem? (i := 165) (by decide +kernel)), tb_1 (List.mem_of_getElem? (i := 1) (by decide +kernel)), by decide +kernel, by decide +kernel⟩
set_option maxRecDepth 20000 in
theorem xy_X10_mark : xYv yX10_mark cX10_mark 4 (some .int) 2 := ⟨tb_3 (List.mem_of_getElem? (i := 54) rfl), tb_3 (List.mem_of_getElem? (i := 52) (by decide +kernel)), tb_3 (List.mem_of_getElem? (i := 53) (by decide +kernel)), tb_1 (List.mem_of_getElem? (i := 1) (by decide +kernel)), by decide +kernel, by decide +kernel⟩
set_option maxRecDepth 20000 in
theorem xy_X10_mayDeal : xYv yX10_mayDeal cX10_mayDeal 2 (some .boolean) 1 := ⟨tb_3 (List.mem_of_getElem? (i := 39) rfl), tb_3 (List.mem_of_getElem? (i := 38) (by decide +kernel)), List.mem_append_left _ (List.mem_of_getElem? (i := 6) (by decide +kernel)), tb_1 (List.mem_of_getElem? (i := 1) (by decide +kernel)), by decide +kernel, by decide +kernel⟩
set_option maxRecDepth 20000 in
theorem xy_X10_of : xYv yX10_of cX10_of 3 (some .int) 2 := ⟨tb_3 (List.mem_of_getElem? (i := 83) rfl), tb_3 (List.mem_of_getElem? (i := 81) (by decide +kernel)), tb_3 (List.mem_of_getElem? (i := 82) (by decide +kernel)), tb_1 (List.mem_of_getElem? (i := 1) (by decide +kernel)), by decide +kernel, by decide +kernel⟩
set_option maxRecDepth 20000 in
theorem xy_X10_option : xYv yX10_option cX10_option 8 (some .int) 4 := ⟨tb_3 (List.mem_of_getElem? (i := 158) rfl), tb_3 (List.mem_of_getElem? (i := 156) (by decide +kernel)), tb_3 (List.mem_of_getElem? (i := 157) (by decide +kernel)), tb_1 (List.mem_of_getElem? (i := 1) (by decide +kernel)), by decide +kernel, by decide +kernel⟩
set_option maxRecDepth 20000 in
theorem xy_X10_optionOf : xYv yX10_optionOf cX10_optionOf 3 (some .int) 2 := ⟨tb_3 (List.mem_of_getElem? (i := 187) rfl), tb_3 (List.mem_of_getElem? (i := 185) (by decide +kernel)), tb_3 (List.mem_of_getElem? (i := 186) (by decide +kernel)), tb_1 (List.mem_of_getElem? (i := 1) (by decide +kernel)), by decide +kernel, by decide +kernel⟩
set_option maxRecDepth 20000 in
theorem xy_X10_pass : xYv yX10_pass cX10_pass 3 (some .int) 2 := ⟨tb_5 (List.mem_of_getElem? (i := 57) rfl), tb_5 (List.mem_of_getElem? (i := 55) (by decide +kernel)), tb_5 (List.mem_of_getElem? (i := 56) (by decide +kernel)), tb_1 (List.mem_of_getElem? (i := 1) (by decide +kernel)), by decide +kernel, by decide +kernel⟩
set_option maxRecDepth 20000 in
theorem xy_X10_putOff : xYv yX10_putOff cX10_putOff 7 (some .int) 3 := ⟨tb_3 (List.mem_of_getElem? (i := 95) rfl), tb_3 (List.mem_of_getElem? (i := 93) (by decide +kernel)), tb_3 (List.mem_of_getElem? (i := 94) (by decide +kernel)), tb_1 (List.mem_of_getElem? (i := 1) (by decide +kernel)), by decide +kernel, by decide +kernel⟩
set_option maxRecDepth 20000 in
theorem xy_X10_putOffPrice : xYs yX10_putOffPrice cX10_putOffPrice 4 (some .int) 2 := ⟨tb_3 (List.mem_of_getElem? (i := 138) rfl), tb_3 (List.mem_of_getElem? (i := 137) (by decide +kernel)), tb_1 (List.mem_of_getElem? (i := 1) (by decide +kernel)), by decide +kernel, by decide +kernel⟩
set_option maxRecDepth 20000 in
theorem xy_X10_readOf : xYv yX10_readOf cX10_readOf 4 (some .int) 3 := ⟨tb_3 (List.mem_of_getElem? (i := 191) rfl), tb_3 (List.mem_of_getElem? (i := 190) (by decide +kernel)), List.mem_append_left _ (List.mem_of_getElem? (i := 9) (by decide +kernel)), tb_1 (List.mem_of_getElem? (i := 1) (by decide +kernel)), by decide +kernel, by decide +kernel⟩
set_option maxRecDepth 20000 in
theorem xy_X10_refuse : xYv yX10_refuse cX10_refuse 2 (some .int) 1 := ⟨tb_2 (List.mem_of_getElem? (i := 174) rfl), tb_2 (List.mem_of_getElem? (i := 173) (by decide +kernel)), List.mem_append_left _ (List.mem_of_getElem? (i := 0) (by decide +kernel)), tb_1 (List.mem_of_getElem? (i := 1) (by decide +kernel)), by decide +kernel, by decide +kernel⟩
set_option maxRecDepth 20000 in
theorem xy_X10_refuseAsZero : xYv yX10_refuseAsZero cX10_refuseAsZero 2 (some .int) 1 := ⟨tb_2 (List.mem_of_getElem? (i := 237) rfl), tb_2 (List.mem_of_getElem? (i := 236) (by decide +kernel)), List.mem_append_left _ (List.mem_of_getElem? (i := 4) (by decide +kernel)), tb_1 (List.mem_of_getElem? (i := 1) (by decide +kernel)), by decide +kernel, by decide +kernel⟩
set_option maxRecDepth 20000 in
theorem xy_X10_rolling : xYv yX10_rolling cX10_rolling 3 (some .int) 2 := ⟨tb_5 (List.mem_of_getElem? (i := 132) rfl), tb_5 (List.mem_of_getElem? (i := 130) (by decide +kernel)), tb_5 (List.mem_of_getElem? (i := 131) (by decide +kernel)), tb_1 (List.mem_of_getElem? (i := 1) (by decide +kernel)), by decide +kernel, by decide +kernel⟩
set_option maxRecDepth 20000 in
theorem xy_X10_row : xYv yX10_row cX10_row 2 (some .int) 1 := ⟨tb_5 (List.mem_of_getElem? (i := 209) rfl), tb_5 (List.mem_of_getElem? (i := 207) (by decide +kernel)), tb_5 (List.mem_of_getElem? (i := 208) (by decide +kernel)), tb_1 (List.mem_of_getElem? (i := 1) (by decide +kernel)), by decide +kernel, by decide +kernel⟩
set_option maxRecDepth 20000 in
theorem xy_X10_rule : xYv yX10_rule cX10_rule 4 (some .int) 2 := ⟨tb_3 (List.mem_of_getElem? (i := 219) rfl), tb_3 (List.mem_of_getElem? (i := 217) (by decide +kernel)), tb_3 (List.mem_of_getElem? (i := 218) (by decide +kernel)), tb_1 (List.mem_of_getElem? (i := 1) (by decide +kernel)), by decide +kernel, by decide +kernel⟩
set_option maxRecDepth 20000 in
theorem xy_X10_run : xYv yX10_run cX10_run 4 (some .int) 1 := ⟨tb_4 (List.mem_of_getElem? (i := 117) rfl), tb_4 (List.mem_of_getElem? (i := 115) (by decide +kernel)), tb_4 (List.mem_of_getElem? (i := 116) (by decide +kernel)), tb_1 (List.mem_of_getElem? (i := 1) (by decide +kernel)), by decide +kernel, by decide +kernel⟩
