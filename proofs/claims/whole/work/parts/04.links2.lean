set_option maxRecDepth 20000 in
theorem xy_X10_says : xYv yX10_says cX10_says 3 (some .int) 2 := ⟨tb_4 (List.mem_of_getElem? (i := 96) rfl), tb_4 (List.mem_of_getElem? (i := 94) (by decide +kernel)), tb_4 (List.mem_of_getElem? (i := 95) (by decide +kernel)), tb_1 (List.mem_of_getElem? (i := 1) (by decide +kernel)), by decide +kernel, by decide +kernel⟩
set_option maxRecDepth 20000 in
theorem xy_X10_second : xYs yX10_second cX10_second 1 (some .int) 1 := ⟨tb_3 (List.mem_of_getElem? (i := 35) rfl), tb_3 (List.mem_of_getElem? (i := 34) (by decide +kernel)), tb_1 (List.mem_of_getElem? (i := 1) (by decide +kernel)), by decide +kernel, by decide +kernel⟩
set_option maxRecDepth 20000 in
theorem xy_X10_set : xYv yX10_set cX10_set 4 (some .int) 2 := ⟨tb_5 (List.mem_of_getElem? (i := 201) rfl), tb_5 (List.mem_of_getElem? (i := 199) (by decide +kernel)), tb_5 (List.mem_of_getElem? (i := 200) (by decide +kernel)), tb_1 (List.mem_of_getElem? (i := 1) (by decide +kernel)), by decide +kernel, by decide +kernel⟩
set_option maxRecDepth 20000 in
theorem xy_X10_settled : xYv yX10_settled cX10_settled 3 (some .long) 2 := ⟨tb_5 (List.mem_of_getElem? (i := 65) rfl), tb_5 (List.mem_of_getElem? (i := 63) (by decide +kernel)), tb_5 (List.mem_of_getElem? (i := 64) (by decide +kernel)), tb_1 (List.mem_of_getElem? (i := 1) (by decide +kernel)), by decide +kernel, by decide +kernel⟩
set_option maxRecDepth 20000 in
theorem xy_X10_squeeze : xYv yX10_squeeze cX10_squeeze 3 (some .long) 2 := ⟨tb_5 (List.mem_of_getElem? (i := 117) rfl), tb_5 (List.mem_of_getElem? (i := 115) (by decide +kernel)), tb_5 (List.mem_of_getElem? (i := 116) (by decide +kernel)), tb_1 (List.mem_of_getElem? (i := 1) (by decide +kernel)), by decide +kernel, by decide +kernel⟩
set_option maxRecDepth 20000 in
theorem xy_X10_status : xYv yX10_status cX10_status 2 (some .int) 1 := ⟨tb_5 (List.mem_of_getElem? (i := 218) rfl), tb_5 (List.mem_of_getElem? (i := 216) (by decide +kernel)), tb_5 (List.mem_of_getElem? (i := 217) (by decide +kernel)), tb_1 (List.mem_of_getElem? (i := 1) (by decide +kernel)), by decide +kernel, by decide +kernel⟩
set_option maxRecDepth 20000 in
theorem xy_X10_stock : xYv yX10_stock cX10_stock 1 (some .int) 0 := ⟨tb_2 (List.mem_of_getElem? (i := 182) rfl), tb_2 (List.mem_of_getElem? (i := 180) (by decide +kernel)), tb_2 (List.mem_of_getElem? (i := 181) (by decide +kernel)), tb_1 (List.mem_of_getElem? (i := 1) (by decide +kernel)), by decide +kernel, by decide +kernel⟩
set_option maxRecDepth 20000 in
theorem xy_X10_stockToldOf : xYv yX10_stockToldOf cX10_stockToldOf 3 (some .int) 1 := ⟨tb_4 (List.mem_of_getElem? (i := 108) rfl), tb_4 (List.mem_of_getElem? (i := 107) (by decide +kernel)), List.mem_append_left _ (List.mem_of_getElem? (i := 23) (by decide +kernel)), tb_1 (List.mem_of_getElem? (i := 1) (by decide +kernel)), by decide +kernel, by decide +kernel⟩
set_option maxRecDepth 20000 in
theorem xy_X10_tear : xYv yX10_tear cX10_tear 2 (some .int) 0 := ⟨tb_5 (List.mem_of_getElem? (i := 205) rfl), tb_5 (List.mem_of_getElem? (i := 203) (by decide +kernel)), tb_5 (List.mem_of_getElem? (i := 204) (by decide +kernel)), tb_1 (List.mem_of_getElem? (i := 1) (by decide +kernel)), by decide +kernel, by decide +kernel⟩
set_option maxRecDepth 20000 in
theorem xy_X10_why : xYv yX10_why cX10_why 3 (some .int) 2 := ⟨tb_4 (List.mem_of_getElem? (i := 112) rfl), tb_4 (List.mem_of_getElem? (i := 110) (by decide +kernel)), tb_4 (List.mem_of_getElem? (i := 111) (by decide +kernel)), tb_1 (List.mem_of_getElem? (i := 1) (by decide +kernel)), by decide +kernel, by decide +kernel⟩
set_option maxRecDepth 20000 in
theorem xy_X10_wipe : xYv yX10_wipe cX10_wipe 2 (some .int) 0 := ⟨tb_3 (List.mem_of_getElem? (i := 215) rfl), tb_3 (List.mem_of_getElem? (i := 213) (by decide +kernel)), tb_3 (List.mem_of_getElem? (i := 214) (by decide +kernel)), tb_1 (List.mem_of_getElem? (i := 1) (by decide +kernel)), by decide +kernel, by decide +kernel⟩
set_option maxRecDepth 20000 in
theorem xy_X11_accountOf : xYv yX11_accountOf cX11_accountOf 2 (some .int) 1 := ⟨tb_6 (List.mem_of_getElem? (i := 230) rfl), tb_6 (List.mem_of_getElem? (i := 229) (by decide +kernel)), List.mem_append_left _ (List.mem_of_getElem? (i := 66) (by decide +kernel)), tb_1 (List.mem_of_getElem? (i := 12) (by decide +kernel)), by decide +kernel, by decide +kernel⟩
set_option maxRecDepth 20000 in
theorem xy_X11_added : xYv yX11_added cX11_added 4 (some .int) 0 := ⟨tb_7 (List.mem_of_getElem? (i := 82) rfl), tb_7 (List.mem_of_getElem? (i := 81) (by decide +kernel)), List.mem_append_left _ (List.mem_of_getElem? (i := 81) (by decide +kernel)), tb_1 (List.mem_of_getElem? (i := 12) (by decide +kernel)), by decide +kernel, by decide +kernel⟩
set_option maxRecDepth 20000 in
theorem xy_X11_areMen : xYv yX11_areMen cX11_areMen 2 (some .boolean) 1 := ⟨tb_6 (List.mem_of_getElem? (i := 218) rfl), tb_6 (List.mem_of_getElem? (i := 217) (by decide +kernel)), List.mem_append_left _ (List.mem_of_getElem? (i := 63) (by decide +kernel)), tb_1 (List.mem_of_getElem? (i := 12) (by decide +kernel)), by decide +kernel, by decide +kernel⟩
set_option maxRecDepth 20000 in
theorem xy_X11_asks : xYv yX11_asks cX11_asks 5 (some .int) 3 := ⟨tb_6 (List.mem_of_getElem? (i := 174) rfl), tb_6 (List.mem_of_getElem? (i := 172) (by decide +kernel)), tb_6 (List.mem_of_getElem? (i := 173) (by decide +kernel)), tb_1 (List.mem_of_getElem? (i := 12) (by decide +kernel)), by decide +kernel, by decide +kernel⟩
set_option maxRecDepth 20000 in
theorem xy_X11_back : xYv yX11_back cX11_back 2 (some .int) 0 := ⟨tb_8 (List.mem_of_getElem? (i := 63) rfl), tb_8 (List.mem_of_getElem? (i := 61) (by decide +kernel)), tb_8 (List.mem_of_getElem? (i := 62) (by decide +kernel)), tb_1 (List.mem_of_getElem? (i := 12) (by decide +kernel)), by decide +kernel, by decide +kernel⟩
set_option maxRecDepth 20000 in
theorem xy_X11_bargain : xYv yX11_bargain cX11_bargain 5 (some .int) 4 := ⟨tb_6 (List.mem_of_getElem? (i := 214) rfl), tb_6 (List.mem_of_getElem? (i := 212) (by decide +kernel)), tb_6 (List.mem_of_getElem? (i := 213) (by decide +kernel)), tb_1 (List.mem_of_getElem? (i := 12) (by decide +kernel)), by decide +kernel, by decide +kernel⟩
set_option maxRecDepth 20000 in
theorem xy_X11_bg : xYv yX11_bg cX11_bg 3 (some .int) 2 := ⟨tb_6 (List.mem_of_getElem? (i := 186) rfl), tb_6 (List.mem_of_getElem? (i := 185) (by decide +kernel)), List.mem_append_left _ (List.mem_of_getElem? (i := 59) (by decide +kernel)), tb_1 (List.mem_of_getElem? (i := 12) (by decide +kernel)), by decide +kernel, by decide +kernel⟩
set_option maxRecDepth 20000 in
theorem xy_X11_both : xYv yX11_both cX11_both 3 (some .int) 0 := ⟨tb_7 (List.mem_of_getElem? (i := 69) rfl), tb_7 (List.mem_of_getElem? (i := 68) (by decide +kernel)), List.mem_append_left _ (List.mem_of_getElem? (i := 78) (by decide +kernel)), tb_1 (List.mem_of_getElem? (i := 12) (by decide +kernel)), by decide +kernel, by decide +kernel⟩
set_option maxRecDepth 20000 in
theorem xy_X11_byteAt : xYv yX11_byteAt cX11_byteAt 2 (some .int) 1 := ⟨tb_7 (List.mem_of_getElem? (i := 38) rfl), tb_7 (List.mem_of_getElem? (i := 37) (by decide +kernel)), List.mem_append_left _ (List.mem_of_getElem? (i := 73) (by decide +kernel)), tb_1 (List.mem_of_getElem? (i := 12) (by decide +kernel)), by decide +kernel, by decide +kernel⟩
set_option maxRecDepth 20000 in
theorem xy_X11_clear : xYv yX11_clear cX11_clear 2 (some .int) 1 := ⟨tb_7 (List.mem_of_getElem? (i := 6) rfl), tb_7 (List.mem_of_getElem? (i := 4) (by decide +kernel)), tb_7 (List.mem_of_getElem? (i := 5) (by decide +kernel)), tb_1 (List.mem_of_getElem? (i := 12) (by decide +kernel)), by decide +kernel, by decide +kernel⟩
set_option maxRecDepth 20000 in
theorem xy_X11_clearing : xYv yX11_clearing cX11_clearing 9 (some .int) 1 := ⟨tb_8 (List.mem_of_getElem? (i := 47) rfl), tb_8 (List.mem_of_getElem? (i := 45) (by decide +kernel)), tb_8 (List.mem_of_getElem? (i := 46) (by decide +kernel)), tb_1 (List.mem_of_getElem? (i := 12) (by decide +kernel)), by decide +kernel, by decide +kernel⟩
set_option maxRecDepth 20000 in
theorem xy_X11_close : xYv yX11_close cX11_close 6 none 0 := ⟨tb_7 (List.mem_of_getElem? (i := 181) rfl), tb_7 (List.mem_of_getElem? (i := 180) (by decide +kernel)), List.mem_append_left _ (List.mem_of_getElem? (i := 90) (by decide +kernel)), tb_1 (List.mem_of_getElem? (i := 12) (by decide +kernel)), by decide +kernel, by decide +kernel⟩
set_option maxRecDepth 20000 in
theorem xy_X11_coin : xYv yX11_coin cX11_coin 6 (some .long) 2 := ⟨tb_6 (List.mem_of_getElem? (i := 190) rfl), tb_6 (List.mem_of_getElem? (i := 188) (by decide +kernel)), tb_6 (List.mem_of_getElem? (i := 189) (by decide +kernel)), tb_1 (List.mem_of_getElem? (i := 12) (by decide +kernel)), by decide +kernel, by decide +kernel⟩
set_option maxRecDepth 20000 in
theorem xy_X11_copy : xYv yX11_copy cX11_copy 5 (some .int) 3 := ⟨tb_8 (List.mem_of_getElem? (i := 83) rfl), tb_8 (List.mem_of_getElem? (i := 81) (by decide +kernel)), tb_8 (List.mem_of_getElem? (i := 82) (by decide +kernel)), tb_1 (List.mem_of_getElem? (i := 12) (by decide +kernel)), by decide +kernel, by decide +kernel⟩
set_option maxRecDepth 20000 in
theorem xy_X11_corner : xYv yX11_corner cX11_corner 6 (some .int) 3 := ⟨tb_8 (List.mem_of_getElem? (i := 21) rfl), tb_8 (List.mem_of_getElem? (i := 19) (by decide +kernel)), tb_8 (List.mem_of_getElem? (i := 20) (by decide +kernel)), tb_1 (List.mem_of_getElem? (i := 12) (by decide +kernel)), by decide +kernel, by decide +kernel⟩
set_option maxRecDepth 20000 in
theorem xy_X11_count : xYv yX11_count cX11_count 2 (some .int) 1 := ⟨tb_8 (List.mem_of_getElem? (i := 51) rfl), tb_8 (List.mem_of_getElem? (i := 49) (by decide +kernel)), tb_8 (List.mem_of_getElem? (i := 50) (by decide +kernel)), tb_1 (List.mem_of_getElem? (i := 12) (by decide +kernel)), by decide +kernel, by decide +kernel⟩
set_option maxRecDepth 20000 in
theorem xy_X11_declare : xYv yX11_declare cX11_declare 3 (some .int) 1 := ⟨tb_7 (List.mem_of_getElem? (i := 134) rfl), tb_7 (List.mem_of_getElem? (i := 132) (by decide +kernel)), tb_7 (List.mem_of_getElem? (i := 133) (by decide +kernel)), tb_1 (List.mem_of_getElem? (i := 12) (by decide +kernel)), by decide +kernel, by decide +kernel⟩
set_option maxRecDepth 20000 in
theorem xy_X11_defaultOf : xYs yX11_defaultOf cX11_defaultOf 1 (some .int) 1 := ⟨tb_7 (List.mem_of_getElem? (i := 169) rfl), tb_7 (List.mem_of_getElem? (i := 168) (by decide +kernel)), tb_1 (List.mem_of_getElem? (i := 12) (by decide +kernel)), by decide +kernel, by decide +kernel⟩
set_option maxRecDepth 20000 in
theorem xy_X11_delivers : xYv yX11_delivers cX11_delivers 5 none 3 := ⟨tb_7 (List.mem_of_getElem? (i := 201) rfl), tb_7 (List.mem_of_getElem? (i := 200) (by decide +kernel)), List.mem_append_left _ (List.mem_of_getElem? (i := 95) (by decide +kernel)), tb_1 (List.mem_of_getElem? (i := 12) (by decide +kernel)), by decide +kernel, by decide +kernel⟩
set_option maxRecDepth 20000 in
theorem xy_X11_delivery : xYv yX11_delivery cX11_delivery 3 (some .int) 2 := ⟨tb_8 (List.mem_of_getElem? (i := 5) rfl), tb_8 (List.mem_of_getElem? (i := 3) (by decide +kernel)), tb_8 (List.mem_of_getElem? (i := 4) (by decide +kernel)), tb_1 (List.mem_of_getElem? (i := 12) (by decide +kernel)), by decide +kernel, by decide +kernel⟩
set_option maxRecDepth 20000 in
theorem xy_X11_dividend : xYv yX11_dividend cX11_dividend 5 (some .int) 3 := ⟨tb_7 (List.mem_of_getElem? (i := 146) rfl), tb_7 (List.mem_of_getElem? (i := 144) (by decide +kernel)), tb_7 (List.mem_of_getElem? (i := 145) (by decide +kernel)), tb_1 (List.mem_of_getElem? (i := 12) (by decide +kernel)), by decide +kernel, by decide +kernel⟩
set_option maxRecDepth 20000 in
theorem xy_X11_either : xYv yX11_either cX11_either 3 (some .int) 0 := ⟨tb_7 (List.mem_of_getElem? (i := 65) rfl), tb_7 (List.mem_of_getElem? (i := 64) (by decide +kernel)), List.mem_append_left _ (List.mem_of_getElem? (i := 77) (by decide +kernel)), tb_1 (List.mem_of_getElem? (i := 12) (by decide +kernel)), by decide +kernel, by decide +kernel⟩
set_option maxRecDepth 20000 in
theorem xy_X11_fail : xYv yX11_fail cX11_fail 1 none 0 := ⟨tb_7 (List.mem_of_getElem? (i := 61) rfl), tb_7 (List.mem_of_getElem? (i := 60) (by decide +kernel)), List.mem_append_left _ (List.mem_of_getElem? (i := 76) (by decide +kernel)), tb_1 (List.mem_of_getElem? (i := 12) (by decide +kernel)), by decide +kernel, by decide +kernel⟩
set_option maxRecDepth 20000 in
theorem xy_X11_falls : xYv yX11_falls cX11_falls 2 none 1 := ⟨tb_7 (List.mem_of_getElem? (i := 233) rfl), tb_7 (List.mem_of_getElem? (i := 232) (by decide +kernel)), List.mem_append_left _ (List.mem_of_getElem? (i := 102) (by decide +kernel)), tb_1 (List.mem_of_getElem? (i := 12) (by decide +kernel)), by decide +kernel, by decide +kernel⟩
set_option maxRecDepth 20000 in
theorem xy_X11_feed : xYv yX11_feed cX11_feed 4 (some .int) 2 := ⟨tb_7 (List.mem_of_getElem? (i := 150) rfl), tb_7 (List.mem_of_getElem? (i := 148) (by decide +kernel)), tb_7 (List.mem_of_getElem? (i := 149) (by decide +kernel)), tb_1 (List.mem_of_getElem? (i := 12) (by decide +kernel)), by decide +kernel, by decide +kernel⟩
set_option maxRecDepth 20000 in
theorem xy_X11_firstOf : xYv yX11_firstOf cX11_firstOf 3 (some .int) 0 := ⟨tb_8 (List.mem_of_getElem? (i := 43) rfl), tb_8 (List.mem_of_getElem? (i := 42) (by decide +kernel)), List.mem_append_left _ (List.mem_of_getElem? (i := 106) (by decide +kernel)), tb_1 (List.mem_of_getElem? (i := 12) (by decide +kernel)), by decide +kernel, by decide +kernel⟩
set_option maxRecDepth 20000 in
theorem xy_X11_free : xYv yX11_free cX11_free 3 (some .int) 1 := ⟨tb_6 (List.mem_of_getElem? (i := 226) rfl), tb_6 (List.mem_of_getElem? (i := 225) (by decide +kernel)), List.mem_append_left _ (List.mem_of_getElem? (i := 65) (by decide +kernel)), tb_1 (List.mem_of_getElem? (i := 12) (by decide +kernel)), by decide +kernel, by decide +kernel⟩
set_option maxRecDepth 20000 in
theorem xy_X11_gotten : xYv yX11_gotten cX11_gotten 5 (some .long) 1 := ⟨tb_7 (List.mem_of_getElem? (i := 229) rfl), tb_7 (List.mem_of_getElem? (i := 228) (by decide +kernel)), List.mem_append_left _ (List.mem_of_getElem? (i := 101) (by decide +kernel)), tb_1 (List.mem_of_getElem? (i := 12) (by decide +kernel)), by decide +kernel, by decide +kernel⟩
set_option maxRecDepth 20000 in
theorem xy_X11_has : xYv yX11_has cX11_has 4 (some .int) 3 := ⟨tb_6 (List.mem_of_getElem? (i := 198) rfl), tb_6 (List.mem_of_getElem? (i := 196) (by decide +kernel)), tb_6 (List.mem_of_getElem? (i := 197) (by decide +kernel)), tb_1 (List.mem_of_getElem? (i := 12) (by decide +kernel)), by decide +kernel, by decide +kernel⟩
set_option maxRecDepth 20000 in
theorem xy_X11_hold : xYv yX11_hold cX11_hold 4 (some .int) 3 := ⟨tb_6 (List.mem_of_getElem? (i := 154) rfl), tb_6 (List.mem_of_getElem? (i := 152) (by decide +kernel)), tb_6 (List.mem_of_getElem? (i := 153) (by decide +kernel)), tb_1 (List.mem_of_getElem? (i := 12) (by decide +kernel)), by decide +kernel, by decide +kernel⟩
set_option maxRecDepth 20000 in
theorem xy_X11_hush : xYv yX11_hush cX11_hush 2 (some .int) 1 := ⟨tb_6 (List.mem_of_getElem? (i := 194) rfl), tb_6 (List.mem_of_getElem? (i := 193) (by decide +kernel)), List.mem_append_left _ (List.mem_of_getElem? (i := 60) (by decide +kernel)), tb_1 (List.mem_of_getElem? (i := 12) (by decide +kernel)), by decide +kernel, by decide +kernel⟩
set_option maxRecDepth 20000 in
theorem xy_X11_image : xYv yX11_image cX11_image 2 (some .int) 0 := ⟨tb_8 (List.mem_of_getElem? (i := 59) rfl), tb_8 (List.mem_of_getElem? (i := 57) (by decide +kernel)), tb_8 (List.mem_of_getElem? (i := 58) (by decide +kernel)), tb_1 (List.mem_of_getElem? (i := 12) (by decide +kernel)), by decide +kernel, by decide +kernel⟩
set_option maxRecDepth 20000 in
theorem xy_X11_in : xYs yX11_in cX11_in 3 (some .boolean) 3 := ⟨tb_6 (List.mem_of_getElem? (i := 137) rfl), tb_6 (List.mem_of_getElem? (i := 136) (by decide +kernel)), tb_1 (List.mem_of_getElem? (i := 12) (by decide +kernel)), by decide +kernel, by decide +kernel⟩
set_option maxRecDepth 20000 in
theorem xy_X11_isBargain : xYv yX11_isBargain cX11_isBargain 2 (some .boolean) 1 := ⟨tb_7 (List.mem_of_getElem? (i := 2) rfl), tb_7 (List.mem_of_getElem? (i := 1) (by decide +kernel)), List.mem_append_left _ (List.mem_of_getElem? (i := 68) (by decide +kernel)), tb_1 (List.mem_of_getElem? (i := 12) (by decide +kernel)), by decide +kernel, by decide +kernel⟩
set_option maxRecDepth 20000 in
theorem xy_X11_isLive : xYv yX11_isLive cX11_isLive 2 (some .boolean) 1 := ⟨tb_6 (List.mem_of_getElem? (i := 182) rfl), tb_6 (List.mem_of_getElem? (i := 181) (by decide +kernel)), List.mem_append_left _ (List.mem_of_getElem? (i := 58) (by decide +kernel)), tb_1 (List.mem_of_getElem? (i := 12) (by decide +kernel)), by decide +kernel, by decide +kernel⟩
set_option maxRecDepth 20000 in
theorem xy_X11_isMan : xYv yX11_isMan cX11_isMan 2 (some .boolean) 1 := ⟨tb_6 (List.mem_of_getElem? (i := 158) rfl), tb_6 (List.mem_of_getElem? (i := 157) (by decide +kernel)), List.mem_append_left _ (List.mem_of_getElem? (i := 55) (by decide +kernel)), tb_1 (List.mem_of_getElem? (i := 12) (by decide +kernel)), by decide +kernel, by decide +kernel⟩
set_option maxRecDepth 20000 in
theorem xy_X11_isSign : xYv yX11_isSign cX11_isSign 2 (some .boolean) 1 := ⟨tb_7 (List.mem_of_getElem? (i := 94) rfl), tb_7 (List.mem_of_getElem? (i := 93) (by decide +kernel)), List.mem_append_left _ (List.mem_of_getElem? (i := 84) (by decide +kernel)), tb_1 (List.mem_of_getElem? (i := 12) (by decide +kernel)), by decide +kernel, by decide +kernel⟩
set_option maxRecDepth 20000 in
theorem xy_X11_isStock : xYv yX11_isStock cX11_isStock 2 (some .boolean) 1 := ⟨tb_6 (List.mem_of_getElem? (i := 162) rfl), tb_6 (List.mem_of_getElem? (i := 161) (by decide +kernel)), List.mem_append_left _ (List.mem_of_getElem? (i := 56) (by decide +kernel)), tb_1 (List.mem_of_getElem? (i := 12) (by decide +kernel)), by decide +kernel, by decide +kernel⟩
set_option maxRecDepth 20000 in
theorem xy_X11_isUp : xYv yX11_isUp cX11_isUp 2 (some .boolean) 1 := ⟨tb_6 (List.mem_of_getElem? (i := 166) rfl), tb_6 (List.mem_of_getElem? (i := 165) (by decide +kernel)), List.mem_append_left _ (List.mem_of_getElem? (i := 57) (by decide +kernel)), tb_1 (List.mem_of_getElem? (i := 12) (by decide +kernel)), by decide +kernel, by decide +kernel⟩
set_option maxRecDepth 20000 in
theorem xy_X11_isWho : xYv yX11_isWho cX11_isWho 3 (some .boolean) 2 := ⟨tb_7 (List.mem_of_getElem? (i := 166) rfl), tb_7 (List.mem_of_getElem? (i := 165) (by decide +kernel)), List.mem_append_left _ (List.mem_of_getElem? (i := 89) (by decide +kernel)), tb_1 (List.mem_of_getElem? (i := 12) (by decide +kernel)), by decide +kernel, by decide +kernel⟩
set_option maxRecDepth 20000 in
theorem xy_X11_isWord : xYv yX11_isWord cX11_isWord 3 (some .boolean) 1 := ⟨tb_7 (List.mem_of_getElem? (i := 52) rfl), tb_7 (List.mem_of_getElem? (i := 51) (by decide +kernel)), List.mem_append_left _ (List.mem_of_getElem? (i := 75) (by decide +kernel)), tb_1 (List.mem_of_getElem? (i := 12) (by decide +kernel)), by decide +kernel, by decide +kernel⟩
set_option maxRecDepth 20000 in
theorem xy_X11_judge : xYv yX11_judge cX11_judge 7 (some .int) 2 := ⟨tb_8 (List.mem_of_getElem? (i := 17) rfl), tb_8 (List.mem_of_getElem? (i := 15) (by decide +kernel)), tb_8 (List.mem_of_getElem? (i := 16) (by decide +kernel)), tb_1 (List.mem_of_getElem? (i := 12) (by decide +kernel)), by decide +kernel, by decide +kernel⟩
set_option maxRecDepth 20000 in
theorem xy_X11_keyHere : xYv yX11_keyHere cX11_keyHere 1 (some .int) 0 := ⟨tb_7 (List.mem_of_getElem? (i := 47) rfl), tb_7 (List.mem_of_getElem? (i := 46) (by decide +kernel)), List.mem_append_left _ (List.mem_of_getElem? (i := 74) (by decide +kernel)), tb_1 (List.mem_of_getElem? (i := 12) (by decide +kernel)), by decide +kernel, by decide +kernel⟩
set_option maxRecDepth 20000 in
theorem xy_X11_knew : xYv yX11_knew cX11_knew 7 (some .int) 4 := ⟨tb_7 (List.mem_of_getElem? (i := 14) rfl), tb_7 (List.mem_of_getElem? (i := 12) (by decide +kernel)), tb_7 (List.mem_of_getElem? (i := 13) (by decide +kernel)), tb_1 (List.mem_of_getElem? (i := 12) (by decide +kernel)), by decide +kernel, by decide +kernel⟩
set_option maxRecDepth 20000 in
theorem xy_X11_lay : xYv yX11_lay cX11_lay 3 (some .int) 1 := ⟨tb_8 (List.mem_of_getElem? (i := 67) rfl), tb_8 (List.mem_of_getElem? (i := 65) (by decide +kernel)), tb_8 (List.mem_of_getElem? (i := 66) (by decide +kernel)), tb_1 (List.mem_of_getElem? (i := 12) (by decide +kernel)), by decide +kernel, by decide +kernel⟩
set_option maxRecDepth 20000 in
theorem xy_X11_least : xYv yX11_least cX11_least 7 (some .int) 2 := ⟨tb_8 (List.mem_of_getElem? (i := 13) rfl), tb_8 (List.mem_of_getElem? (i := 11) (by decide +kernel)), tb_8 (List.mem_of_getElem? (i := 12) (by decide +kernel)), tb_1 (List.mem_of_getElem? (i := 12) (by decide +kernel)), by decide +kernel, by decide +kernel⟩
set_option maxRecDepth 20000 in
theorem xy_X11_lend : xYv yX11_lend cX11_lend 3 (some .int) 2 := ⟨tb_6 (List.mem_of_getElem? (i := 170) rfl), tb_6 (List.mem_of_getElem? (i := 168) (by decide +kernel)), tb_6 (List.mem_of_getElem? (i := 169) (by decide +kernel)), tb_1 (List.mem_of_getElem? (i := 12) (by decide +kernel)), by decide +kernel, by decide +kernel⟩
set_option maxRecDepth 20000 in
theorem xy_X11_look : xYv yX11_look cX11_look 5 (some .int) 2 := ⟨tb_6 (List.mem_of_getElem? (i := 178) rfl), tb_6 (List.mem_of_getElem? (i := 176) (by decide +kernel)), tb_6 (List.mem_of_getElem? (i := 177) (by decide +kernel)), tb_1 (List.mem_of_getElem? (i := 12) (by decide +kernel)), by decide +kernel, by decide +kernel⟩
set_option maxRecDepth 20000 in
theorem xy_X11_made : xYv yX11_made cX11_made 2 (some .int) 1 := ⟨tb_6 (List.mem_of_getElem? (i := 210) rfl), tb_6 (List.mem_of_getElem? (i := 208) (by decide +kernel)), tb_6 (List.mem_of_getElem? (i := 209) (by decide +kernel)), tb_1 (List.mem_of_getElem? (i := 12) (by decide +kernel)), by decide +kernel, by decide +kernel⟩
set_option maxRecDepth 20000 in
theorem xy_X11_makes : xYv yX11_makes cX11_makes 9 (some .int) 6 := ⟨tb_6 (List.mem_of_getElem? (i := 234) rfl), tb_6 (List.mem_of_getElem? (i := 233) (by decide +kernel)), List.mem_append_left _ (List.mem_of_getElem? (i := 67) (by decide +kernel)), tb_1 (List.mem_of_getElem? (i := 12) (by decide +kernel)), by decide +kernel, by decide +kernel⟩
set_option maxRecDepth 20000 in
theorem xy_X11_man : xYv yX11_man cX11_man 4 (some .int) 2 := ⟨tb_6 (List.mem_of_getElem? (i := 145) rfl), tb_6 (List.mem_of_getElem? (i := 143) (by decide +kernel)), tb_6 (List.mem_of_getElem? (i := 144) (by decide +kernel)), tb_1 (List.mem_of_getElem? (i := 12) (by decide +kernel)), by decide +kernel, by decide +kernel⟩
set_option maxRecDepth 20000 in
theorem xy_X11_manyOf : xYv yX11_manyOf cX11_manyOf 4 (some .int) 1 := ⟨tb_8 (List.mem_of_getElem? (i := 55) rfl), tb_8 (List.mem_of_getElem? (i := 54) (by decide +kernel)), List.mem_append_left _ (List.mem_of_getElem? (i := 107) (by decide +kernel)), tb_1 (List.mem_of_getElem? (i := 12) (by decide +kernel)), by decide +kernel, by decide +kernel⟩
set_option maxRecDepth 20000 in
theorem xy_X11_mark : xYv yX11_mark cX11_mark 4 (some .int) 2 := ⟨tb_6 (List.mem_of_getElem? (i := 238) rfl), tb_6 (List.mem_of_getElem? (i := 236) (by decide +kernel)), tb_6 (List.mem_of_getElem? (i := 237) (by decide +kernel)), tb_1 (List.mem_of_getElem? (i := 12) (by decide +kernel)), by decide +kernel, by decide +kernel⟩
set_option maxRecDepth 20000 in
theorem xy_X11_marksUp : xYv yX11_marksUp cX11_marksUp 5 none 1 := ⟨tb_7 (List.mem_of_getElem? (i := 189) rfl), tb_7 (List.mem_of_getElem? (i := 188) (by decide +kernel)), List.mem_append_left _ (List.mem_of_getElem? (i := 92) (by decide +kernel)), tb_1 (List.mem_of_getElem? (i := 12) (by decide +kernel)), by decide +kernel, by decide +kernel⟩
set_option maxRecDepth 20000 in
theorem xy_X11_mayDeal : xYv yX11_mayDeal cX11_mayDeal 2 (some .boolean) 1 := ⟨tb_6 (List.mem_of_getElem? (i := 222) rfl), tb_6 (List.mem_of_getElem? (i := 221) (by decide +kernel)), List.mem_append_left _ (List.mem_of_getElem? (i := 64) (by decide +kernel)), tb_1 (List.mem_of_getElem? (i := 12) (by decide +kernel)), by decide +kernel, by decide +kernel⟩
set_option maxRecDepth 20000 in
theorem xy_X11_menUp : xYv yX11_menUp cX11_menUp 3 (some .int) 0 := ⟨tb_7 (List.mem_of_getElem? (i := 107) rfl), tb_7 (List.mem_of_getElem? (i := 106) (by decide +kernel)), List.mem_append_left _ (List.mem_of_getElem? (i := 86) (by decide +kernel)), tb_1 (List.mem_of_getElem? (i := 12) (by decide +kernel)), by decide +kernel, by decide +kernel⟩
set_option maxRecDepth 20000 in
theorem xy_X11_name : xYv yX11_name cX11_name 2 (some .int) 0 := ⟨tb_7 (List.mem_of_getElem? (i := 98) rfl), tb_7 (List.mem_of_getElem? (i := 97) (by decide +kernel)), List.mem_append_left _ (List.mem_of_getElem? (i := 85) (by decide +kernel)), tb_1 (List.mem_of_getElem? (i := 12) (by decide +kernel)), by decide +kernel, by decide +kernel⟩
set_option maxRecDepth 20000 in
theorem xy_X11_names : xYv yX11_names cX11_names 11 none 2 := ⟨tb_7 (List.mem_of_getElem? (i := 193) rfl), tb_7 (List.mem_of_getElem? (i := 192) (by decide +kernel)), List.mem_append_left _ (List.mem_of_getElem? (i := 93) (by decide +kernel)), tb_1 (List.mem_of_getElem? (i := 12) (by decide +kernel)), by decide +kernel, by decide +kernel⟩
set_option maxRecDepth 20000 in
theorem xy_X11_net : xYv yX11_net cX11_net 6 (some .int) 3 := ⟨tb_6 (List.mem_of_getElem? (i := 202) rfl), tb_6 (List.mem_of_getElem? (i := 201) (by decide +kernel)), List.mem_append_left _ (List.mem_of_getElem? (i := 61) (by decide +kernel)), tb_1 (List.mem_of_getElem? (i := 12) (by decide +kernel)), by decide +kernel, by decide +kernel⟩
set_option maxRecDepth 20000 in
theorem xy_X11_next : xYv yX11_next cX11_next 3 none 0 := ⟨tb_7 (List.mem_of_getElem? (i := 34) rfl), tb_7 (List.mem_of_getElem? (i := 33) (by decide +kernel)), List.mem_append_left _ (List.mem_of_getElem? (i := 72) (by decide +kernel)), tb_1 (List.mem_of_getElem? (i := 12) (by decide +kernel)), by decide +kernel, by decide +kernel⟩
set_option maxRecDepth 20000 in
theorem xy_X11_not : xYv yX11_not cX11_not 5 (some .int) 0 := ⟨tb_7 (List.mem_of_getElem? (i := 73) rfl), tb_7 (List.mem_of_getElem? (i := 72) (by decide +kernel)), List.mem_append_left _ (List.mem_of_getElem? (i := 79) (by decide +kernel)), tb_1 (List.mem_of_getElem? (i := 12) (by decide +kernel)), by decide +kernel, by decide +kernel⟩
set_option maxRecDepth 20000 in
theorem xy_X11_of : xYv yX11_of cX11_of 3 (some .int) 2 := ⟨tb_7 (List.mem_of_getElem? (i := 10) rfl), tb_7 (List.mem_of_getElem? (i := 8) (by decide +kernel)), tb_7 (List.mem_of_getElem? (i := 9) (by decide +kernel)), tb_1 (List.mem_of_getElem? (i := 12) (by decide +kernel)), by decide +kernel, by decide +kernel⟩
set_option maxRecDepth 20000 in
theorem xy_X11_one : xYv yX11_one cX11_one 2 (some .int) 0 := ⟨tb_7 (List.mem_of_getElem? (i := 90) rfl), tb_7 (List.mem_of_getElem? (i := 89) (by decide +kernel)), List.mem_append_left _ (List.mem_of_getElem? (i := 83) (by decide +kernel)), tb_1 (List.mem_of_getElem? (i := 12) (by decide +kernel)), by decide +kernel, by decide +kernel⟩
set_option maxRecDepth 20000 in
theorem xy_X11_op : xYv yX11_op cX11_op 3 (some .int) 2 := ⟨tb_7 (List.mem_of_getElem? (i := 138) rfl), tb_7 (List.mem_of_getElem? (i := 137) (by decide +kernel)), List.mem_append_left _ (List.mem_of_getElem? (i := 88) (by decide +kernel)), tb_1 (List.mem_of_getElem? (i := 12) (by decide +kernel)), by decide +kernel, by decide +kernel⟩
set_option maxRecDepth 20000 in
theorem xy_X11_opens : xYv yX11_opens cX11_opens 1 (some .boolean) 0 := ⟨tb_7 (List.mem_of_getElem? (i := 78) rfl), tb_7 (List.mem_of_getElem? (i := 77) (by decide +kernel)), List.mem_append_left _ (List.mem_of_getElem? (i := 80) (by decide +kernel)), tb_1 (List.mem_of_getElem? (i := 12) (by decide +kernel)), by decide +kernel, by decide +kernel⟩
set_option maxRecDepth 20000 in
theorem xy_X11_option : xYv yX11_option cX11_option 7 (some .int) 4 := ⟨tb_7 (List.mem_of_getElem? (i := 130) rfl), tb_7 (List.mem_of_getElem? (i := 128) (by decide +kernel)), tb_7 (List.mem_of_getElem? (i := 129) (by decide +kernel)), tb_1 (List.mem_of_getElem? (i := 12) (by decide +kernel)), by decide +kernel, by decide +kernel⟩
set_option maxRecDepth 20000 in
theorem xy_X11_optionOf : xYv yX11_optionOf cX11_optionOf 3 (some .int) 2 := ⟨tb_7 (List.mem_of_getElem? (i := 142) rfl), tb_7 (List.mem_of_getElem? (i := 140) (by decide +kernel)), tb_7 (List.mem_of_getElem? (i := 141) (by decide +kernel)), tb_1 (List.mem_of_getElem? (i := 12) (by decide +kernel)), by decide +kernel, by decide +kernel⟩
set_option maxRecDepth 20000 in
theorem xy_X11_owed : xYv yX11_owed cX11_owed 12 none 1 := ⟨tb_7 (List.mem_of_getElem? (i := 213) rfl), tb_7 (List.mem_of_getElem? (i := 212) (by decide +kernel)), List.mem_append_left _ (List.mem_of_getElem? (i := 98) (by decide +kernel)), tb_1 (List.mem_of_getElem? (i := 12) (by decide +kernel)), by decide +kernel, by decide +kernel⟩
set_option maxRecDepth 20000 in
theorem xy_X11_owing : xYv yX11_owing cX11_owing 5 none 3 := ⟨tb_7 (List.mem_of_getElem? (i := 217) rfl), tb_7 (List.mem_of_getElem? (i := 216) (by decide +kernel)), List.mem_append_left _ (List.mem_of_getElem? (i := 99) (by decide +kernel)), tb_1 (List.mem_of_getElem? (i := 12) (by decide +kernel)), by decide +kernel, by decide +kernel⟩
set_option maxRecDepth 20000 in
theorem xy_X11_pass : xYv yX11_pass cX11_pass 3 (some .int) 2 := ⟨tb_8 (List.mem_of_getElem? (i := 1) rfl), tb_7 (List.mem_of_getElem? (i := 239) (by decide +kernel)), tb_8 (List.mem_of_getElem? (i := 0) (by decide +kernel)), tb_1 (List.mem_of_getElem? (i := 12) (by decide +kernel)), by decide +kernel, by decide +kernel⟩
set_option maxRecDepth 20000 in
theorem xy_X11_passes : xYv yX11_passes cX11_passes 8 none 6 := ⟨tb_7 (List.mem_of_getElem? (i := 205) rfl), tb_7 (List.mem_of_getElem? (i := 204) (by decide +kernel)), List.mem_append_left _ (List.mem_of_getElem? (i := 96) (by decide +kernel)), tb_1 (List.mem_of_getElem? (i := 12) (by decide +kernel)), by decide +kernel, by decide +kernel⟩
set_option maxRecDepth 20000 in
theorem xy_X11_pays : xYv yX11_pays cX11_pays 8 (some .boolean) 0 := ⟨tb_7 (List.mem_of_getElem? (i := 225) rfl), tb_7 (List.mem_of_getElem? (i := 224) (by decide +kernel)), List.mem_append_left _ (List.mem_of_getElem? (i := 100) (by decide +kernel)), tb_1 (List.mem_of_getElem? (i := 12) (by decide +kernel)), by decide +kernel, by decide +kernel⟩
set_option maxRecDepth 20000 in
theorem xy_X11_paysOut : xYv yX11_paysOut cX11_paysOut 4 none 2 := ⟨tb_7 (List.mem_of_getElem? (i := 185) rfl), tb_7 (List.mem_of_getElem? (i := 184) (by decide +kernel)), List.mem_append_left _ (List.mem_of_getElem? (i := 91) (by decide +kernel)), tb_1 (List.mem_of_getElem? (i := 12) (by decide +kernel)), by decide +kernel, by decide +kernel⟩
set_option maxRecDepth 20000 in
theorem xy_X11_putOff : xYv yX11_putOff cX11_putOff 11 (some .int) 3 := ⟨tb_7 (List.mem_of_getElem? (i := 18) rfl), tb_7 (List.mem_of_getElem? (i := 16) (by decide +kernel)), tb_7 (List.mem_of_getElem? (i := 17) (by decide +kernel)), tb_1 (List.mem_of_getElem? (i := 12) (by decide +kernel)), by decide +kernel, by decide +kernel⟩
set_option maxRecDepth 20000 in
theorem xy_X11_readRule : xYv yX11_readRule cX11_readRule 3 none 2 := ⟨tb_7 (List.mem_of_getElem? (i := 30) rfl), tb_7 (List.mem_of_getElem? (i := 29) (by decide +kernel)), List.mem_append_left _ (List.mem_of_getElem? (i := 71) (by decide +kernel)), tb_1 (List.mem_of_getElem? (i := 12) (by decide +kernel)), by decide +kernel, by decide +kernel⟩
set_option maxRecDepth 20000 in
theorem xy_X11_refuse : xYv yX11_refuse cX11_refuse 2 (some .int) 1 := ⟨tb_6 (List.mem_of_getElem? (i := 141) rfl), tb_6 (List.mem_of_getElem? (i := 140) (by decide +kernel)), List.mem_append_left _ (List.mem_of_getElem? (i := 54) (by decide +kernel)), tb_1 (List.mem_of_getElem? (i := 12) (by decide +kernel)), by decide +kernel, by decide +kernel⟩
set_option maxRecDepth 20000 in
theorem xy_X11_rolling : xYv yX11_rolling cX11_rolling 9 (some .int) 2 := ⟨tb_8 (List.mem_of_getElem? (i := 37) rfl), tb_8 (List.mem_of_getElem? (i := 35) (by decide +kernel)), tb_8 (List.mem_of_getElem? (i := 36) (by decide +kernel)), tb_1 (List.mem_of_getElem? (i := 12) (by decide +kernel)), by decide +kernel, by decide +kernel⟩
set_option maxRecDepth 20000 in
theorem xy_X11_row : xYv yX11_row cX11_row 2 (some .int) 1 := ⟨tb_8 (List.mem_of_getElem? (i := 79) rfl), tb_8 (List.mem_of_getElem? (i := 77) (by decide +kernel)), tb_8 (List.mem_of_getElem? (i := 78) (by decide +kernel)), tb_1 (List.mem_of_getElem? (i := 12) (by decide +kernel)), by decide +kernel, by decide +kernel⟩
set_option maxRecDepth 20000 in
theorem xy_X11_rule : xYv yX11_rule cX11_rule 5 (some .int) 2 := ⟨tb_7 (List.mem_of_getElem? (i := 158) rfl), tb_7 (List.mem_of_getElem? (i := 156) (by decide +kernel)), tb_7 (List.mem_of_getElem? (i := 157) (by decide +kernel)), tb_1 (List.mem_of_getElem? (i := 12) (by decide +kernel)), by decide +kernel, by decide +kernel⟩
set_option maxRecDepth 20000 in
theorem xy_X11_ruled : xYv yX11_ruled cX11_ruled 4 (some .int) 3 := ⟨tb_7 (List.mem_of_getElem? (i := 22) rfl), tb_7 (List.mem_of_getElem? (i := 21) (by decide +kernel)), List.mem_append_left _ (List.mem_of_getElem? (i := 69) (by decide +kernel)), tb_1 (List.mem_of_getElem? (i := 12) (by decide +kernel)), by decide +kernel, by decide +kernel⟩
set_option maxRecDepth 20000 in
theorem xy_X11_rules : xYv yX11_rules cX11_rules 8 (some .int) 2 := ⟨tb_7 (List.mem_of_getElem? (i := 26) rfl), tb_7 (List.mem_of_getElem? (i := 25) (by decide +kernel)), List.mem_append_left _ (List.mem_of_getElem? (i := 70) (by decide +kernel)), tb_1 (List.mem_of_getElem? (i := 12) (by decide +kernel)), by decide +kernel, by decide +kernel⟩
set_option maxRecDepth 20000 in
theorem xy_X11_run : xYv yX11_run cX11_run 4 (some .int) 1 := ⟨tb_7 (List.mem_of_getElem? (i := 177) rfl), tb_7 (List.mem_of_getElem? (i := 175) (by decide +kernel)), tb_7 (List.mem_of_getElem? (i := 176) (by decide +kernel)), tb_1 (List.mem_of_getElem? (i := 12) (by decide +kernel)), by decide +kernel, by decide +kernel⟩
set_option maxRecDepth 20000 in
theorem xy_X11_says : xYv yX11_says cX11_says 3 (some .int) 2 := ⟨tb_7 (List.mem_of_getElem? (i := 162) rfl), tb_7 (List.mem_of_getElem? (i := 160) (by decide +kernel)), tb_7 (List.mem_of_getElem? (i := 161) (by decide +kernel)), tb_1 (List.mem_of_getElem? (i := 12) (by decide +kernel)), by decide +kernel, by decide +kernel⟩
set_option maxRecDepth 20000 in
theorem xy_X11_set : xYv yX11_set cX11_set 4 (some .int) 2 := ⟨tb_8 (List.mem_of_getElem? (i := 71) rfl), tb_8 (List.mem_of_getElem? (i := 69) (by decide +kernel)), tb_8 (List.mem_of_getElem? (i := 70) (by decide +kernel)), tb_1 (List.mem_of_getElem? (i := 12) (by decide +kernel)), by decide +kernel, by decide +kernel⟩
set_option maxRecDepth 20000 in
theorem xy_X11_settled : xYv yX11_settled cX11_settled 3 (some .long) 2 := ⟨tb_8 (List.mem_of_getElem? (i := 9) rfl), tb_8 (List.mem_of_getElem? (i := 7) (by decide +kernel)), tb_8 (List.mem_of_getElem? (i := 8) (by decide +kernel)), tb_1 (List.mem_of_getElem? (i := 12) (by decide +kernel)), by decide +kernel, by decide +kernel⟩
set_option maxRecDepth 20000 in
theorem xy_X11_settles : xYv yX11_settles cX11_settles 7 none 1 := ⟨tb_7 (List.mem_of_getElem? (i := 209) rfl), tb_7 (List.mem_of_getElem? (i := 208) (by decide +kernel)), List.mem_append_left _ (List.mem_of_getElem? (i := 97) (by decide +kernel)), tb_1 (List.mem_of_getElem? (i := 12) (by decide +kernel)), by decide +kernel, by decide +kernel⟩
set_option maxRecDepth 20000 in
theorem xy_X11_squeeze : xYv yX11_squeeze cX11_squeeze 8 (some .long) 2 := ⟨tb_8 (List.mem_of_getElem? (i := 33) rfl), tb_8 (List.mem_of_getElem? (i := 31) (by decide +kernel)), tb_8 (List.mem_of_getElem? (i := 32) (by decide +kernel)), tb_1 (List.mem_of_getElem? (i := 12) (by decide +kernel)), by decide +kernel, by decide +kernel⟩
set_option maxRecDepth 20000 in
theorem xy_X11_stand : xYv yX11_stand cX11_stand 3 none 1 := ⟨tb_7 (List.mem_of_getElem? (i := 126) rfl), tb_7 (List.mem_of_getElem? (i := 125) (by decide +kernel)), List.mem_append_left _ (List.mem_of_getElem? (i := 87) (by decide +kernel)), tb_1 (List.mem_of_getElem? (i := 12) (by decide +kernel)), by decide +kernel, by decide +kernel⟩
set_option maxRecDepth 20000 in
theorem xy_X11_stands : xYv yX11_stands cX11_stands 2 (some .boolean) 1 := ⟨tb_6 (List.mem_of_getElem? (i := 206) rfl), tb_6 (List.mem_of_getElem? (i := 205) (by decide +kernel)), List.mem_append_left _ (List.mem_of_getElem? (i := 62) (by decide +kernel)), tb_1 (List.mem_of_getElem? (i := 12) (by decide +kernel)), by decide +kernel, by decide +kernel⟩
set_option maxRecDepth 20000 in
theorem xy_X11_status : xYv yX11_status cX11_status 2 (some .int) 1 := ⟨tb_6 (List.mem_of_getElem? (i := 134) rfl), tb_6 (List.mem_of_getElem? (i := 132) (by decide +kernel)), tb_6 (List.mem_of_getElem? (i := 133) (by decide +kernel)), tb_1 (List.mem_of_getElem? (i := 12) (by decide +kernel)), by decide +kernel, by decide +kernel⟩
set_option maxRecDepth 20000 in
theorem xy_X11_stock : xYv yX11_stock cX11_stock 1 (some .int) 0 := ⟨tb_6 (List.mem_of_getElem? (i := 150) rfl), tb_6 (List.mem_of_getElem? (i := 148) (by decide +kernel)), tb_6 (List.mem_of_getElem? (i := 149) (by decide +kernel)), tb_1 (List.mem_of_getElem? (i := 12) (by decide +kernel)), by decide +kernel, by decide +kernel⟩
set_option maxRecDepth 20000 in
theorem xy_X11_sumOf : xYv yX11_sumOf cX11_sumOf 7 (some .int) 3 := ⟨tb_8 (List.mem_of_getElem? (i := 25) rfl), tb_8 (List.mem_of_getElem? (i := 24) (by decide +kernel)), List.mem_append_left _ (List.mem_of_getElem? (i := 104) (by decide +kernel)), tb_1 (List.mem_of_getElem? (i := 12) (by decide +kernel)), by decide +kernel, by decide +kernel⟩
set_option maxRecDepth 20000 in
theorem xy_X11_tear : xYv yX11_tear cX11_tear 2 (some .int) 0 := ⟨tb_8 (List.mem_of_getElem? (i := 75) rfl), tb_8 (List.mem_of_getElem? (i := 73) (by decide +kernel)), tb_8 (List.mem_of_getElem? (i := 74) (by decide +kernel)), tb_1 (List.mem_of_getElem? (i := 12) (by decide +kernel)), by decide +kernel, by decide +kernel⟩
set_option maxRecDepth 20000 in
theorem xy_X11_term : xYv yX11_term cX11_term 5 (some .int) 0 := ⟨tb_7 (List.mem_of_getElem? (i := 86) rfl), tb_7 (List.mem_of_getElem? (i := 85) (by decide +kernel)), List.mem_append_left _ (List.mem_of_getElem? (i := 82) (by decide +kernel)), tb_1 (List.mem_of_getElem? (i := 12) (by decide +kernel)), by decide +kernel, by decide +kernel⟩
set_option maxRecDepth 20000 in
theorem xy_X11_there : xYv yX11_there cX11_there 3 (some .int) 2 := ⟨tb_8 (List.mem_of_getElem? (i := 29) rfl), tb_8 (List.mem_of_getElem? (i := 28) (by decide +kernel)), List.mem_append_left _ (List.mem_of_getElem? (i := 105) (by decide +kernel)), tb_1 (List.mem_of_getElem? (i := 12) (by decide +kernel)), by decide +kernel, by decide +kernel⟩
set_option maxRecDepth 20000 in
theorem xy_X11_voids : xYv yX11_voids cX11_voids 8 none 2 := ⟨tb_7 (List.mem_of_getElem? (i := 237) rfl), tb_7 (List.mem_of_getElem? (i := 236) (by decide +kernel)), List.mem_append_left _ (List.mem_of_getElem? (i := 103) (by decide +kernel)), tb_1 (List.mem_of_getElem? (i := 12) (by decide +kernel)), by decide +kernel, by decide +kernel⟩
set_option maxRecDepth 20000 in
theorem xy_X11_waits : xYv yX11_waits cX11_waits 6 none 5 := ⟨tb_7 (List.mem_of_getElem? (i := 197) rfl), tb_7 (List.mem_of_getElem? (i := 196) (by decide +kernel)), List.mem_append_left _ (List.mem_of_getElem? (i := 94) (by decide +kernel)), tb_1 (List.mem_of_getElem? (i := 12) (by decide +kernel)), by decide +kernel, by decide +kernel⟩
set_option maxRecDepth 20000 in
theorem xy_X11_why : xYv yX11_why cX11_why 3 (some .int) 2 := ⟨tb_7 (List.mem_of_getElem? (i := 173) rfl), tb_7 (List.mem_of_getElem? (i := 171) (by decide +kernel)), tb_7 (List.mem_of_getElem? (i := 172) (by decide +kernel)), tb_1 (List.mem_of_getElem? (i := 12) (by decide +kernel)), by decide +kernel, by decide +kernel⟩
set_option maxRecDepth 20000 in
theorem xy_X11_wipe : xYv yX11_wipe cX11_wipe 2 (some .int) 0 := ⟨tb_7 (List.mem_of_getElem? (i := 154) rfl), tb_7 (List.mem_of_getElem? (i := 152) (by decide +kernel)), tb_7 (List.mem_of_getElem? (i := 153) (by decide +kernel)), tb_1 (List.mem_of_getElem? (i := 12) (by decide +kernel)), by decide +kernel, by decide +kernel⟩
set_option maxRecDepth 20000 in
theorem xy_X11_within : xYs yX11_within cX11_within 3 (some .int) 3 := ⟨tb_7 (List.mem_of_getElem? (i := 220) rfl), tb_7 (List.mem_of_getElem? (i := 219) (by decide +kernel)), tb_1 (List.mem_of_getElem? (i := 12) (by decide +kernel)), by decide +kernel, by decide +kernel⟩
set_option maxRecDepth 20000 in
theorem xy_X1_account : xYv yX1_account cX1_account 1 (some .int) 0 := ⟨tb_3 (List.mem_of_getElem? (i := 9) rfl), tb_3 (List.mem_of_getElem? (i := 7) (by decide +kernel)), tb_3 (List.mem_of_getElem? (i := 8) (by decide +kernel)), tb_1 (List.mem_of_getElem? (i := 2) (by decide +kernel)), by decide +kernel, by decide +kernel⟩
set_option maxRecDepth 20000 in
theorem xy_X1_declareInto : xYv yX1_declareInto cX1_declareInto 3 none 2 := ⟨tb_3 (List.mem_of_getElem? (i := 180) rfl), tb_3 (List.mem_of_getElem? (i := 178) (by decide +kernel)), tb_3 (List.mem_of_getElem? (i := 179) (by decide +kernel)), tb_1 (List.mem_of_getElem? (i := 2) (by decide +kernel)), by decide +kernel, by decide +kernel⟩
set_option maxRecDepth 20000 in
theorem xy_X1_enterDividend : xYv yX1_enterDividend cX1_enterDividend 5 (some .int) 3 := ⟨tb_3 (List.mem_of_getElem? (i := 203) rfl), tb_3 (List.mem_of_getElem? (i := 201) (by decide +kernel)), tb_3 (List.mem_of_getElem? (i := 202) (by decide +kernel)), tb_1 (List.mem_of_getElem? (i := 2) (by decide +kernel)), by decide +kernel, by decide +kernel⟩
set_option maxRecDepth 20000 in
theorem xy_X1_enterOption : xYv yX1_enterOption cX1_enterOption 7 (some .int) 5 := ⟨tb_3 (List.mem_of_getElem? (i := 166) rfl), tb_3 (List.mem_of_getElem? (i := 164) (by decide +kernel)), tb_3 (List.mem_of_getElem? (i := 165) (by decide +kernel)), tb_1 (List.mem_of_getElem? (i := 2) (by decide +kernel)), by decide +kernel, by decide +kernel⟩
set_option maxRecDepth 20000 in
theorem xy_X1_place : xYv yX1_place cX1_place 1 (some .int) 0 := ⟨tb_3 (List.mem_of_getElem? (i := 99) rfl), tb_3 (List.mem_of_getElem? (i := 97) (by decide +kernel)), tb_3 (List.mem_of_getElem? (i := 98) (by decide +kernel)), tb_1 (List.mem_of_getElem? (i := 2) (by decide +kernel)), by decide +kernel, by decide +kernel⟩
set_option maxRecDepth 20000 in
theorem xy_X1_takeOver : xYv yX1_takeOver cX1_takeOver 2 none 1 := ⟨tb_5 (List.mem_of_getElem? (i := 171) rfl), tb_5 (List.mem_of_getElem? (i := 169) (by decide +kernel)), tb_5 (List.mem_of_getElem? (i := 170) (by decide +kernel)), tb_1 (List.mem_of_getElem? (i := 2) (by decide +kernel)), by decide +kernel, by decide +kernel⟩
set_option maxRecDepth 20000 in
theorem xy_X2_endOptions : xYv yX2_endOptions cX2_endOptions 5 none 1 := ⟨tb_5 (List.mem_of_getElem? (i := 53) rfl), tb_5 (List.mem_of_getElem? (i := 51) (by decide +kernel)), tb_5 (List.mem_of_getElem? (i := 52) (by decide +kernel)), tb_1 (List.mem_of_getElem? (i := 8) (by decide +kernel)), by decide +kernel, by decide +kernel⟩
set_option maxRecDepth 20000 in
theorem xy_X2_judgeOpen : xYv yX2_judgeOpen cX2_judgeOpen 5 none 1 := ⟨tb_4 (List.mem_of_getElem? (i := 121) rfl), tb_4 (List.mem_of_getElem? (i := 119) (by decide +kernel)), tb_4 (List.mem_of_getElem? (i := 120) (by decide +kernel)), tb_1 (List.mem_of_getElem? (i := 8) (by decide +kernel)), by decide +kernel, by decide +kernel⟩
set_option maxRecDepth 20000 in
theorem xy_X2_lastMade : xYv yX2_lastMade cX2_lastMade 7 (some .int) 3 := ⟨tb_4 (List.mem_of_getElem? (i := 153) rfl), tb_4 (List.mem_of_getElem? (i := 152) (by decide +kernel)), List.mem_append_left _ (List.mem_of_getElem? (i := 26) (by decide +kernel)), tb_1 (List.mem_of_getElem? (i := 8) (by decide +kernel)), by decide +kernel, by decide +kernel⟩
set_option maxRecDepth 20000 in
theorem xy_X2_makeUp : xYv yX2_makeUp cX2_makeUp 4 none 1 := ⟨tb_4 (List.mem_of_getElem? (i := 148) rfl), tb_4 (List.mem_of_getElem? (i := 146) (by decide +kernel)), tb_4 (List.mem_of_getElem? (i := 147) (by decide +kernel)), tb_1 (List.mem_of_getElem? (i := 8) (by decide +kernel)), by decide +kernel, by decide +kernel⟩
set_option maxRecDepth 20000 in
theorem xy_X2_oweExtra : xYv yX2_oweExtra cX2_oweExtra 8 none 3 := ⟨tb_4 (List.mem_of_getElem? (i := 143) rfl), tb_4 (List.mem_of_getElem? (i := 142) (by decide +kernel)), List.mem_append_left _ (List.mem_of_getElem? (i := 25) (by decide +kernel)), tb_1 (List.mem_of_getElem? (i := 8) (by decide +kernel)), by decide +kernel, by decide +kernel⟩
set_option maxRecDepth 20000 in
theorem xy_X2_payDividends : xYv yX2_payDividends cX2_payDividends 9 none 1 := ⟨tb_4 (List.mem_of_getElem? (i := 129) rfl), tb_4 (List.mem_of_getElem? (i := 127) (by decide +kernel)), tb_4 (List.mem_of_getElem? (i := 128) (by decide +kernel)), tb_1 (List.mem_of_getElem? (i := 8) (by decide +kernel)), by decide +kernel, by decide +kernel⟩
set_option maxRecDepth 20000 in
theorem xy_X2_payHolders : xYv yX2_payHolders cX2_payHolders 5 none 3 := ⟨tb_4 (List.mem_of_getElem? (i := 137) rfl), tb_4 (List.mem_of_getElem? (i := 136) (by decide +kernel)), List.mem_append_left _ (List.mem_of_getElem? (i := 24) (by decide +kernel)), tb_1 (List.mem_of_getElem? (i := 8) (by decide +kernel)), by decide +kernel, by decide +kernel⟩
set_option maxRecDepth 20000 in
theorem xy_X3_enter : xYv yX3_enter cX3_enter 4 (some .int) 2 := ⟨tb_2 (List.mem_of_getElem? (i := 178) rfl), tb_2 (List.mem_of_getElem? (i := 176) (by decide +kernel)), tb_2 (List.mem_of_getElem? (i := 177) (by decide +kernel)), tb_1 (List.mem_of_getElem? (i := 3) (by decide +kernel)), by decide +kernel, by decide +kernel⟩
set_option maxRecDepth 20000 in
theorem xy_X3_extraOwedBy : xYv yX3_extraOwedBy cX3_extraOwedBy 5 (some .long) 1 := ⟨tb_3 (List.mem_of_getElem? (i := 1) rfl), tb_2 (List.mem_of_getElem? (i := 239) (by decide +kernel)), tb_3 (List.mem_of_getElem? (i := 0) (by decide +kernel)), tb_1 (List.mem_of_getElem? (i := 3) (by decide +kernel)), by decide +kernel, by decide +kernel⟩
set_option maxRecDepth 20000 in
theorem xy_X3_isUp : xYv yX3_isUp cX3_isUp 2 (some .boolean) 1 := ⟨tb_2 (List.mem_of_getElem? (i := 198) rfl), tb_2 (List.mem_of_getElem? (i := 196) (by decide +kernel)), tb_2 (List.mem_of_getElem? (i := 197) (by decide +kernel)), tb_1 (List.mem_of_getElem? (i := 3) (by decide +kernel)), by decide +kernel, by decide +kernel⟩
set_option maxRecDepth 20000 in
theorem xy_X3_place : xYs yX3_place cX3_place 2 (some .int) 2 := ⟨tb_2 (List.mem_of_getElem? (i := 201) rfl), tb_2 (List.mem_of_getElem? (i := 200) (by decide +kernel)), tb_1 (List.mem_of_getElem? (i := 3) (by decide +kernel)), by decide +kernel, by decide +kernel⟩
set_option maxRecDepth 20000 in
theorem xy_X3_takeOver : xYv yX3_takeOver cX3_takeOver 2 none 1 := ⟨tb_5 (List.mem_of_getElem? (i := 176) rfl), tb_5 (List.mem_of_getElem? (i := 174) (by decide +kernel)), tb_5 (List.mem_of_getElem? (i := 175) (by decide +kernel)), tb_1 (List.mem_of_getElem? (i := 3) (by decide +kernel)), by decide +kernel, by decide +kernel⟩
set_option maxRecDepth 20000 in
theorem xy_X3_upCount : xYv yX3_upCount cX3_upCount 3 (some .int) 0 := ⟨tb_3 (List.mem_of_getElem? (i := 119) rfl), tb_3 (List.mem_of_getElem? (i := 117) (by decide +kernel)), tb_3 (List.mem_of_getElem? (i := 118) (by decide +kernel)), tb_1 (List.mem_of_getElem? (i := 3) (by decide +kernel)), by decide +kernel, by decide +kernel⟩
set_option maxRecDepth 20000 in
theorem xy_X4_layOut : xYv yX4_layOut cX4_layOut 6 none 3 := ⟨tb_4 (List.mem_of_getElem? (i := 162) rfl), tb_4 (List.mem_of_getElem? (i := 161) (by decide +kernel)), List.mem_append_left _ (List.mem_of_getElem? (i := 27) (by decide +kernel)), tb_1 (List.mem_of_getElem? (i := 9) (by decide +kernel)), by decide +kernel, by decide +kernel⟩
set_option maxRecDepth 20000 in
theorem xy_X4_line : xYv yX4_line cX4_line 7 (some .int) 5 := ⟨tb_4 (List.mem_of_getElem? (i := 173) rfl), tb_4 (List.mem_of_getElem? (i := 172) (by decide +kernel)), List.mem_append_left _ (List.mem_of_getElem? (i := 28) (by decide +kernel)), tb_1 (List.mem_of_getElem? (i := 9) (by decide +kernel)), by decide +kernel, by decide +kernel⟩
set_option maxRecDepth 20000 in
theorem xy_X4_nameAccount : xYv yX4_nameAccount cX4_nameAccount 6 none 2 := ⟨tb_4 (List.mem_of_getElem? (i := 158) rfl), tb_4 (List.mem_of_getElem? (i := 156) (by decide +kernel)), tb_4 (List.mem_of_getElem? (i := 157) (by decide +kernel)), tb_1 (List.mem_of_getElem? (i := 9) (by decide +kernel)), by decide +kernel, by decide +kernel⟩
set_option maxRecDepth 20000 in
theorem xy_X4_noteDelivery : xYv yX4_noteDelivery cX4_noteDelivery 7 none 4 := ⟨tb_4 (List.mem_of_getElem? (i := 184) rfl), tb_4 (List.mem_of_getElem? (i := 183) (by decide +kernel)), List.mem_append_left _ (List.mem_of_getElem? (i := 30) (by decide +kernel)), tb_1 (List.mem_of_getElem? (i := 9) (by decide +kernel)), by decide +kernel, by decide +kernel⟩
set_option maxRecDepth 20000 in
theorem xy_X4_notePass : xYv yX4_notePass cX4_notePass 6 none 4 := ⟨tb_4 (List.mem_of_getElem? (i := 193) rfl), tb_4 (List.mem_of_getElem? (i := 192) (by decide +kernel)), List.mem_append_left _ (List.mem_of_getElem? (i := 32) (by decide +kernel)), tb_1 (List.mem_of_getElem? (i := 9) (by decide +kernel)), by decide +kernel, by decide +kernel⟩
set_option maxRecDepth 20000 in
theorem xy_X4_passOn : xYv yX4_passOn cX4_passOn 13 none 4 := ⟨tb_4 (List.mem_of_getElem? (i := 189) rfl), tb_4 (List.mem_of_getElem? (i := 188) (by decide +kernel)), List.mem_append_left _ (List.mem_of_getElem? (i := 31) (by decide +kernel)), tb_1 (List.mem_of_getElem? (i := 9) (by decide +kernel)), by decide +kernel, by decide +kernel⟩
set_option maxRecDepth 20000 in
theorem xy_X4_takeFirst : xYv yX4_takeFirst cX4_takeFirst 7 none 3 := ⟨tb_4 (List.mem_of_getElem? (i := 178) rfl), tb_4 (List.mem_of_getElem? (i := 177) (by decide +kernel)), List.mem_append_left _ (List.mem_of_getElem? (i := 29) (by decide +kernel)), tb_1 (List.mem_of_getElem? (i := 9) (by decide +kernel)), by decide +kernel, by decide +kernel⟩
set_option maxRecDepth 20000 in
theorem xy_X5_enter : xYv yX5_enter cX5_enter 5 (some .int) 3 := ⟨tb_4 (List.mem_of_getElem? (i := 87) rfl), tb_4 (List.mem_of_getElem? (i := 85) (by decide +kernel)), tb_4 (List.mem_of_getElem? (i := 86) (by decide +kernel)), tb_1 (List.mem_of_getElem? (i := 6) (by decide +kernel)), by decide +kernel, by decide +kernel⟩
set_option maxRecDepth 20000 in
theorem xy_X5_find : xYv yX5_find cX5_find 9 (some .int) 4 := ⟨tb_3 (List.mem_of_getElem? (i := 107) rfl), tb_3 (List.mem_of_getElem? (i := 105) (by decide +kernel)), tb_3 (List.mem_of_getElem? (i := 106) (by decide +kernel)), tb_1 (List.mem_of_getElem? (i := 6) (by decide +kernel)), by decide +kernel, by decide +kernel⟩
set_option maxRecDepth 20000 in
theorem xy_X5_joined : xYs yX5_joined cX5_joined 3 (some .int) 3 := ⟨tb_3 (List.mem_of_getElem? (i := 133) rfl), tb_3 (List.mem_of_getElem? (i := 132) (by decide +kernel)), tb_1 (List.mem_of_getElem? (i := 6) (by decide +kernel)), by decide +kernel, by decide +kernel⟩
set_option maxRecDepth 20000 in
theorem xy_X5_nameAll : xYv yX5_nameAll cX5_nameAll 4 none 3 := ⟨tb_3 (List.mem_of_getElem? (i := 111) rfl), tb_3 (List.mem_of_getElem? (i := 110) (by decide +kernel)), List.mem_append_left _ (List.mem_of_getElem? (i := 7) (by decide +kernel)), tb_1 (List.mem_of_getElem? (i := 6) (by decide +kernel)), by decide +kernel, by decide +kernel⟩
set_option maxRecDepth 20000 in
theorem xy_X5_takeOver : xYv yX5_takeOver cX5_takeOver 2 none 1 := ⟨tb_5 (List.mem_of_getElem? (i := 187) rfl), tb_5 (List.mem_of_getElem? (i := 185) (by decide +kernel)), tb_5 (List.mem_of_getElem? (i := 186) (by decide +kernel)), tb_1 (List.mem_of_getElem? (i := 6) (by decide +kernel)), by decide +kernel, by decide +kernel⟩
set_option maxRecDepth 20000 in
theorem xy_X5_tells : xYv yX5_tells cX5_tells 6 (some .int) 4 := ⟨tb_3 (List.mem_of_getElem? (i := 103) rfl), tb_3 (List.mem_of_getElem? (i := 101) (by decide +kernel)), tb_3 (List.mem_of_getElem? (i := 102) (by decide +kernel)), tb_1 (List.mem_of_getElem? (i := 6) (by decide +kernel)), by decide +kernel, by decide +kernel⟩
set_option maxRecDepth 20000 in
theorem xy_X5_work : xYv yX5_work cX5_work 7 (some .int) 3 := ⟨tb_3 (List.mem_of_getElem? (i := 130) rfl), tb_3 (List.mem_of_getElem? (i := 129) (by decide +kernel)), List.mem_append_left _ (List.mem_of_getElem? (i := 8) (by decide +kernel)), tb_1 (List.mem_of_getElem? (i := 6) (by decide +kernel)), by decide +kernel, by decide +kernel⟩
set_option maxRecDepth 20000 in
theorem xy_X6_endBargains : xYv yX6_endBargains cX6_endBargains 4 none 2 := ⟨tb_5 (List.mem_of_getElem? (i := 28) rfl), tb_5 (List.mem_of_getElem? (i := 27) (by decide +kernel)), List.mem_append_left _ (List.mem_of_getElem? (i := 44) (by decide +kernel)), tb_1 (List.mem_of_getElem? (i := 10) (by decide +kernel)), by decide +kernel, by decide +kernel⟩
set_option maxRecDepth 20000 in
theorem xy_X6_endOptionsOf : xYv yX6_endOptionsOf cX6_endOptionsOf 5 none 2 := ⟨tb_5 (List.mem_of_getElem? (i := 48) rfl), tb_5 (List.mem_of_getElem? (i := 47) (by decide +kernel)), List.mem_append_left _ (List.mem_of_getElem? (i := 48) (by decide +kernel)), tb_1 (List.mem_of_getElem? (i := 10) (by decide +kernel)), by decide +kernel, by decide +kernel⟩
set_option maxRecDepth 20000 in
theorem xy_X6_hammer : xYv yX6_hammer cX6_hammer 4 (some .int) 1 := ⟨tb_5 (List.mem_of_getElem? (i := 33) rfl), tb_5 (List.mem_of_getElem? (i := 32) (by decide +kernel)), List.mem_append_left _ (List.mem_of_getElem? (i := 45) (by decide +kernel)), tb_1 (List.mem_of_getElem? (i := 10) (by decide +kernel)), by decide +kernel, by decide +kernel⟩
set_option maxRecDepth 20000 in
theorem xy_X6_leaveTheRest : xYv yX6_leaveTheRest cX6_leaveTheRest 5 none 0 := ⟨tb_4 (List.mem_of_getElem? (i := 238) rfl), tb_4 (List.mem_of_getElem? (i := 237) (by decide +kernel)), List.mem_append_left _ (List.mem_of_getElem? (i := 38) (by decide +kernel)), tb_1 (List.mem_of_getElem? (i := 10) (by decide +kernel)), by decide +kernel, by decide +kernel⟩
set_option maxRecDepth 20000 in
theorem xy_X6_moveCoin : xYv yX6_moveCoin cX6_moveCoin 8 none 1 := ⟨tb_5 (List.mem_of_getElem? (i := 24) rfl), tb_5 (List.mem_of_getElem? (i := 23) (by decide +kernel)), List.mem_append_left _ (List.mem_of_getElem? (i := 43) (by decide +kernel)), tb_1 (List.mem_of_getElem? (i := 10) (by decide +kernel)), by decide +kernel, by decide +kernel⟩
set_option maxRecDepth 20000 in
theorem xy_X6_moveShares : xYv yX6_moveShares cX6_moveShares 7 (some .int) 5 := ⟨tb_4 (List.mem_of_getElem? (i := 223) rfl), tb_4 (List.mem_of_getElem? (i := 222) (by decide +kernel)), List.mem_append_left _ (List.mem_of_getElem? (i := 36) (by decide +kernel)), tb_1 (List.mem_of_getElem? (i := 10) (by decide +kernel)), by decide +kernel, by decide +kernel⟩
set_option maxRecDepth 20000 in
theorem xy_X6_owe : xYv yX6_owe cX6_owe 5 none 3 := ⟨tb_4 (List.mem_of_getElem? (i := 213) rfl), tb_4 (List.mem_of_getElem? (i := 212) (by decide +kernel)), List.mem_append_left _ (List.mem_of_getElem? (i := 34) (by decide +kernel)), tb_1 (List.mem_of_getElem? (i := 10) (by decide +kernel)), by decide +kernel, by decide +kernel⟩
set_option maxRecDepth 20000 in
theorem xy_X6_oweDeliveries : xYv yX6_oweDeliveries cX6_oweDeliveries 14 none 1 := ⟨tb_4 (List.mem_of_getElem? (i := 217) rfl), tb_4 (List.mem_of_getElem? (i := 216) (by decide +kernel)), List.mem_append_left _ (List.mem_of_getElem? (i := 35) (by decide +kernel)), tb_1 (List.mem_of_getElem? (i := 10) (by decide +kernel)), by decide +kernel, by decide +kernel⟩
set_option maxRecDepth 20000 in
theorem xy_X6_oweDifferences : xYv yX6_oweDifferences cX6_oweDifferences 6 none 2 := ⟨tb_4 (List.mem_of_getElem? (i := 204) rfl), tb_4 (List.mem_of_getElem? (i := 203) (by decide +kernel)), List.mem_append_left _ (List.mem_of_getElem? (i := 33) (by decide +kernel)), tb_1 (List.mem_of_getElem? (i := 10) (by decide +kernel)), by decide +kernel, by decide +kernel⟩
set_option maxRecDepth 20000 in
theorem xy_X6_oweExtra : xYv yX6_oweExtra cX6_oweExtra 4 none 1 := ⟨tb_4 (List.mem_of_getElem? (i := 234) rfl), tb_4 (List.mem_of_getElem? (i := 233) (by decide +kernel)), List.mem_append_left _ (List.mem_of_getElem? (i := 37) (by decide +kernel)), tb_1 (List.mem_of_getElem? (i := 10) (by decide +kernel)), by decide +kernel, by decide +kernel⟩
set_option maxRecDepth 20000 in
theorem xy_X6_part : xYs yX6_part cX6_part 10 (some .long) 3 := ⟨tb_5 (List.mem_of_getElem? (i := 19) rfl), tb_5 (List.mem_of_getElem? (i := 18) (by decide +kernel)), tb_1 (List.mem_of_getElem? (i := 10) (by decide +kernel)), by decide +kernel, by decide +kernel⟩
set_option maxRecDepth 20000 in
theorem xy_X6_payInRounds : xYv yX6_payInRounds cX6_payInRounds 5 none 1 := ⟨tb_5 (List.mem_of_getElem? (i := 7) rfl), tb_5 (List.mem_of_getElem? (i := 6) (by decide +kernel)), List.mem_append_left _ (List.mem_of_getElem? (i := 40) (by decide +kernel)), tb_1 (List.mem_of_getElem? (i := 10) (by decide +kernel)), by decide +kernel, by decide +kernel⟩
set_option maxRecDepth 20000 in
theorem xy_X6_payOf : xYv yX6_payOf cX6_payOf 7 (some .boolean) 2 := ⟨tb_5 (List.mem_of_getElem? (i := 16) rfl), tb_5 (List.mem_of_getElem? (i := 15) (by decide +kernel)), List.mem_append_left _ (List.mem_of_getElem? (i := 42) (by decide +kernel)), tb_1 (List.mem_of_getElem? (i := 10) (by decide +kernel)), by decide +kernel, by decide +kernel⟩
set_option maxRecDepth 20000 in
theorem xy_X6_percent : xYs yX6_percent cX6_percent 1 (some .int) 1 := ⟨tb_4 (List.mem_of_getElem? (i := 228) rfl), tb_4 (List.mem_of_getElem? (i := 227) (by decide +kernel)), tb_1 (List.mem_of_getElem? (i := 10) (by decide +kernel)), by decide +kernel, by decide +kernel⟩
set_option maxRecDepth 20000 in
theorem xy_X6_settleAccount : xYv yX6_settleAccount cX6_settleAccount 4 (some .int) 2 := ⟨tb_4 (List.mem_of_getElem? (i := 197) rfl), tb_4 (List.mem_of_getElem? (i := 195) (by decide +kernel)), tb_4 (List.mem_of_getElem? (i := 196) (by decide +kernel)), tb_1 (List.mem_of_getElem? (i := 10) (by decide +kernel)), by decide +kernel, by decide +kernel⟩
set_option maxRecDepth 20000 in
theorem xy_X6_sumOf : xYv yX6_sumOf cX6_sumOf 6 (some .long) 2 := ⟨tb_5 (List.mem_of_getElem? (i := 3) rfl), tb_5 (List.mem_of_getElem? (i := 2) (by decide +kernel)), List.mem_append_left _ (List.mem_of_getElem? (i := 39) (by decide +kernel)), tb_1 (List.mem_of_getElem? (i := 10) (by decide +kernel)), by decide +kernel, by decide +kernel⟩
set_option maxRecDepth 20000 in
theorem xy_X6_sumTo : xYv yX6_sumTo cX6_sumTo 6 (some .long) 2 := ⟨tb_5 (List.mem_of_getElem? (i := 12) rfl), tb_5 (List.mem_of_getElem? (i := 11) (by decide +kernel)), List.mem_append_left _ (List.mem_of_getElem? (i := 41) (by decide +kernel)), tb_1 (List.mem_of_getElem? (i := 10) (by decide +kernel)), by decide +kernel, by decide +kernel⟩
set_option maxRecDepth 20000 in
theorem xy_X6_voidBargainsOf : xYv yX6_voidBargainsOf cX6_voidBargainsOf 10 none 2 := ⟨tb_5 (List.mem_of_getElem? (i := 42) rfl), tb_5 (List.mem_of_getElem? (i := 41) (by decide +kernel)), List.mem_append_left _ (List.mem_of_getElem? (i := 47) (by decide +kernel)), tb_1 (List.mem_of_getElem? (i := 10) (by decide +kernel)), by decide +kernel, by decide +kernel⟩
set_option maxRecDepth 20000 in
theorem xy_X6_voidOthers : xYv yX6_voidOthers cX6_voidOthers 3 none 1 := ⟨tb_5 (List.mem_of_getElem? (i := 37) rfl), tb_5 (List.mem_of_getElem? (i := 36) (by decide +kernel)), List.mem_append_left _ (List.mem_of_getElem? (i := 46) (by decide +kernel)), tb_1 (List.mem_of_getElem? (i := 10) (by decide +kernel)), by decide +kernel, by decide +kernel⟩
set_option maxRecDepth 20000 in
theorem xy_X7_cheapest : xYv yX7_cheapest cX7_cheapest 6 (some .int) 2 := ⟨tb_5 (List.mem_of_getElem? (i := 126) rfl), tb_5 (List.mem_of_getElem? (i := 125) (by decide +kernel)), List.mem_append_left _ (List.mem_of_getElem? (i := 52) (by decide +kernel)), tb_1 (List.mem_of_getElem? (i := 11) (by decide +kernel)), by decide +kernel, by decide +kernel⟩
set_option maxRecDepth 20000 in
theorem xy_X7_failingByClearing : xYv yX7_failingByClearing cX7_failingByClearing 5 (some .int) 2 := ⟨tb_5 (List.mem_of_getElem? (i := 154) rfl), tb_5 (List.mem_of_getElem? (i := 152) (by decide +kernel)), tb_5 (List.mem_of_getElem? (i := 153) (by decide +kernel)), tb_1 (List.mem_of_getElem? (i := 11) (by decide +kernel)), by decide +kernel, by decide +kernel⟩
set_option maxRecDepth 20000 in
theorem xy_X7_failingByRolling : xYv yX7_failingByRolling cX7_failingByRolling 10 (some .int) 3 := ⟨tb_5 (List.mem_of_getElem? (i := 136) rfl), tb_5 (List.mem_of_getElem? (i := 134) (by decide +kernel)), tb_5 (List.mem_of_getElem? (i := 135) (by decide +kernel)), tb_1 (List.mem_of_getElem? (i := 11) (by decide +kernel)), by decide +kernel, by decide +kernel⟩
set_option maxRecDepth 20000 in
theorem xy_X7_failsToPay : xYv yX7_failsToPay cX7_failsToPay 7 (some .boolean) 2 := ⟨tb_5 (List.mem_of_getElem? (i := 143) rfl), tb_5 (List.mem_of_getElem? (i := 142) (by decide +kernel)), List.mem_append_left _ (List.mem_of_getElem? (i := 53) (by decide +kernel)), tb_1 (List.mem_of_getElem? (i := 11) (by decide +kernel)), by decide +kernel, by decide +kernel⟩
set_option maxRecDepth 20000 in
theorem xy_X7_fewestPasses : xYv yX7_fewestPasses cX7_fewestPasses 6 (some .int) 3 := ⟨tb_5 (List.mem_of_getElem? (i := 73) rfl), tb_5 (List.mem_of_getElem? (i := 71) (by decide +kernel)), tb_5 (List.mem_of_getElem? (i := 72) (by decide +kernel)), tb_1 (List.mem_of_getElem? (i := 11) (by decide +kernel)), by decide +kernel, by decide +kernel⟩
set_option maxRecDepth 20000 in
theorem xy_X7_haveOfOthers : xYv yX7_haveOfOthers cX7_haveOfOthers 6 (some .int) 3 := ⟨tb_5 (List.mem_of_getElem? (i := 112) rfl), tb_5 (List.mem_of_getElem? (i := 110) (by decide +kernel)), tb_5 (List.mem_of_getElem? (i := 111) (by decide +kernel)), tb_1 (List.mem_of_getElem? (i := 11) (by decide +kernel)), by decide +kernel, by decide +kernel⟩
set_option maxRecDepth 20000 in
theorem xy_X7_isGood : xYv yX7_isGood cX7_isGood 10 (some .boolean) 5 := ⟨tb_5 (List.mem_of_getElem? (i := 87) rfl), tb_5 (List.mem_of_getElem? (i := 85) (by decide +kernel)), tb_5 (List.mem_of_getElem? (i := 86) (by decide +kernel)), tb_1 (List.mem_of_getElem? (i := 11) (by decide +kernel)), by decide +kernel, by decide +kernel⟩
set_option maxRecDepth 20000 in
theorem xy_X7_isWhole : xYv yX7_isWhole cX7_isWhole 6 (some .boolean) 3 := ⟨tb_5 (List.mem_of_getElem? (i := 92) rfl), tb_5 (List.mem_of_getElem? (i := 91) (by decide +kernel)), List.mem_append_left _ (List.mem_of_getElem? (i := 50) (by decide +kernel)), tb_1 (List.mem_of_getElem? (i := 11) (by decide +kernel)), by decide +kernel, by decide +kernel⟩
set_option maxRecDepth 20000 in
theorem xy_X7_leastCost : xYv yX7_leastCost cX7_leastCost 10 (some .long) 3 := ⟨tb_5 (List.mem_of_getElem? (i := 121) rfl), tb_5 (List.mem_of_getElem? (i := 119) (by decide +kernel)), tb_5 (List.mem_of_getElem? (i := 120) (by decide +kernel)), tb_1 (List.mem_of_getElem? (i := 11) (by decide +kernel)), by decide +kernel, by decide +kernel⟩
set_option maxRecDepth 20000 in
theorem xy_X7_mostParts : xYv yX7_mostParts cX7_mostParts 7 (some .int) 1 := ⟨tb_5 (List.mem_of_getElem? (i := 78) rfl), tb_5 (List.mem_of_getElem? (i := 77) (by decide +kernel)), List.mem_append_left _ (List.mem_of_getElem? (i := 49) (by decide +kernel)), tb_1 (List.mem_of_getElem? (i := 11) (by decide +kernel)), by decide +kernel, by decide +kernel⟩
set_option maxRecDepth 20000 in
theorem xy_X7_needOfOthers : xYv yX7_needOfOthers cX7_needOfOthers 6 (some .int) 3 := ⟨tb_5 (List.mem_of_getElem? (i := 100) rfl), tb_5 (List.mem_of_getElem? (i := 98) (by decide +kernel)), tb_5 (List.mem_of_getElem? (i := 99) (by decide +kernel)), tb_1 (List.mem_of_getElem? (i := 11) (by decide +kernel)), by decide +kernel, by decide +kernel⟩
set_option maxRecDepth 20000 in
theorem xy_X7_takePositions : xYv yX7_takePositions cX7_takePositions 4 none 2 := ⟨tb_5 (List.mem_of_getElem? (i := 104) rfl), tb_5 (List.mem_of_getElem? (i := 103) (by decide +kernel)), List.mem_append_left _ (List.mem_of_getElem? (i := 51) (by decide +kernel)), tb_1 (List.mem_of_getElem? (i := 11) (by decide +kernel)), by decide +kernel, by decide +kernel⟩
set_option maxRecDepth 20000 in
theorem xy_X7_worth : xYs yX7_worth cX7_worth 2 (some .long) 2 := ⟨tb_5 (List.mem_of_getElem? (i := 146) rfl), tb_5 (List.mem_of_getElem? (i := 145) (by decide +kernel)), tb_1 (List.mem_of_getElem? (i := 11) (by decide +kernel)), by decide +kernel, by decide +kernel⟩
set_option maxRecDepth 20000 in
theorem xy_X8_at : xYv yX8_at cX8_at 4 (some .int) 2 := ⟨tb_2 (List.mem_of_getElem? (i := 225) rfl), tb_2 (List.mem_of_getElem? (i := 223) (by decide +kernel)), tb_2 (List.mem_of_getElem? (i := 224) (by decide +kernel)), tb_1 (List.mem_of_getElem? (i := 5) (by decide +kernel)), by decide +kernel, by decide +kernel⟩
set_option maxRecDepth 20000 in
theorem xy_X8_hasColumn : xYv yX8_hasColumn cX8_hasColumn 2 (some .boolean) 1 := ⟨tb_3 (List.mem_of_getElem? (i := 195) rfl), tb_3 (List.mem_of_getElem? (i := 193) (by decide +kernel)), tb_3 (List.mem_of_getElem? (i := 194) (by decide +kernel)), tb_1 (List.mem_of_getElem? (i := 5) (by decide +kernel)), by decide +kernel, by decide +kernel⟩
set_option maxRecDepth 20000 in
theorem xy_X8_hasRoom : xYv yX8_hasRoom cX8_hasRoom 1 (some .boolean) 0 := ⟨tb_3 (List.mem_of_getElem? (i := 162) rfl), tb_3 (List.mem_of_getElem? (i := 160) (by decide +kernel)), tb_3 (List.mem_of_getElem? (i := 161) (by decide +kernel)), tb_1 (List.mem_of_getElem? (i := 5) (by decide +kernel)), by decide +kernel, by decide +kernel⟩
set_option maxRecDepth 20000 in
theorem xy_X8_isNoted : xYv yX8_isNoted cX8_isNoted 2 (some .boolean) 1 := ⟨tb_3 (List.mem_of_getElem? (i := 175) rfl), tb_3 (List.mem_of_getElem? (i := 173) (by decide +kernel)), tb_3 (List.mem_of_getElem? (i := 174) (by decide +kernel)), tb_1 (List.mem_of_getElem? (i := 5) (by decide +kernel)), by decide +kernel, by decide +kernel⟩
set_option maxRecDepth 20000 in
theorem xy_X8_put : xYv yX8_put cX8_put 5 none 3 := ⟨tb_1 (List.mem_of_getElem? (i := 123) rfl), tb_1 (List.mem_of_getElem? (i := 121) (by decide +kernel)), tb_1 (List.mem_of_getElem? (i := 122) (by decide +kernel)), tb_1 (List.mem_of_getElem? (i := 5) (by decide +kernel)), by decide +kernel, by decide +kernel⟩
set_option maxRecDepth 20000 in
theorem xy_X8_takeOver : xYv yX8_takeOver cX8_takeOver 2 none 1 := ⟨tb_5 (List.mem_of_getElem? (i := 181) rfl), tb_5 (List.mem_of_getElem? (i := 179) (by decide +kernel)), tb_5 (List.mem_of_getElem? (i := 180) (by decide +kernel)), tb_1 (List.mem_of_getElem? (i := 5) (by decide +kernel)), by decide +kernel, by decide +kernel⟩
set_option maxRecDepth 20000 in
theorem xy_X9_append : xYv yX9_append cX9_append 4 none 2 := ⟨tb_3 (List.mem_of_getElem? (i := 211) rfl), tb_3 (List.mem_of_getElem? (i := 209) (by decide +kernel)), tb_3 (List.mem_of_getElem? (i := 210) (by decide +kernel)), tb_1 (List.mem_of_getElem? (i := 7) (by decide +kernel)), by decide +kernel, by decide +kernel⟩
set_option maxRecDepth 20000 in
theorem xy_X9_byteAt : xYv yX9_byteAt cX9_byteAt 2 (some .int) 1 := ⟨tb_3 (List.mem_of_getElem? (i := 231) rfl), tb_3 (List.mem_of_getElem? (i := 230) (by decide +kernel)), List.mem_append_left _ (List.mem_of_getElem? (i := 11) (by decide +kernel)), tb_1 (List.mem_of_getElem? (i := 7) (by decide +kernel)), by decide +kernel, by decide +kernel⟩
set_option maxRecDepth 20000 in
theorem xy_X9_emit : xYv yX9_emit cX9_emit 2 none 1 := ⟨tb_4 (List.mem_of_getElem? (i := 71) rfl), tb_4 (List.mem_of_getElem? (i := 70) (by decide +kernel)), List.mem_append_left _ (List.mem_of_getElem? (i := 18) (by decide +kernel)), tb_1 (List.mem_of_getElem? (i := 7) (by decide +kernel)), by decide +kernel, by decide +kernel⟩
set_option maxRecDepth 20000 in
theorem xy_X9_fault : xYv yX9_fault cX9_fault 1 (some .int) 0 := ⟨tb_4 (List.mem_of_getElem? (i := 83) rfl), tb_4 (List.mem_of_getElem? (i := 81) (by decide +kernel)), tb_4 (List.mem_of_getElem? (i := 82) (by decide +kernel)), tb_1 (List.mem_of_getElem? (i := 7) (by decide +kernel)), by decide +kernel, by decide +kernel⟩
set_option maxRecDepth 20000 in
theorem xy_X9_isRule : xYv yX9_isRule cX9_isRule 1 (some .boolean) 0 := ⟨tb_3 (List.mem_of_getElem? (i := 223) rfl), tb_3 (List.mem_of_getElem? (i := 221) (by decide +kernel)), tb_3 (List.mem_of_getElem? (i := 222) (by decide +kernel)), tb_1 (List.mem_of_getElem? (i := 7) (by decide +kernel)), by decide +kernel, by decide +kernel⟩
set_option maxRecDepth 20000 in
theorem xy_X9_isSign : xYs yX9_isSign cX9_isSign 1 (some .boolean) 1 := ⟨tb_4 (List.mem_of_getElem? (i := 59) rfl), tb_4 (List.mem_of_getElem? (i := 58) (by decide +kernel)), tb_1 (List.mem_of_getElem? (i := 7) (by decide +kernel)), by decide +kernel, by decide +kernel⟩
set_option maxRecDepth 20000 in
theorem xy_X9_joins : xYv yX9_joins cX9_joins 2 (some .boolean) 1 := ⟨tb_4 (List.mem_of_getElem? (i := 79) rfl), tb_4 (List.mem_of_getElem? (i := 78) (by decide +kernel)), List.mem_append_left _ (List.mem_of_getElem? (i := 20) (by decide +kernel)), tb_1 (List.mem_of_getElem? (i := 7) (by decide +kernel)), by decide +kernel, by decide +kernel⟩
set_option maxRecDepth 20000 in
theorem xy_X9_readLevel : xYv yX9_readLevel cX9_readLevel 7 (some .boolean) 2 := ⟨tb_4 (List.mem_of_getElem? (i := 63) rfl), tb_4 (List.mem_of_getElem? (i := 62) (by decide +kernel)), List.mem_append_left _ (List.mem_of_getElem? (i := 16) (by decide +kernel)), tb_1 (List.mem_of_getElem? (i := 7) (by decide +kernel)), by decide +kernel, by decide +kernel⟩
set_option maxRecDepth 20000 in
theorem xy_X9_readOne : xYv yX9_readOne cX9_readOne 2 (some .boolean) 1 := ⟨tb_4 (List.mem_of_getElem? (i := 67) rfl), tb_4 (List.mem_of_getElem? (i := 66) (by decide +kernel)), List.mem_append_left _ (List.mem_of_getElem? (i := 17) (by decide +kernel)), tb_1 (List.mem_of_getElem? (i := 7) (by decide +kernel)), by decide +kernel, by decide +kernel⟩
set_option maxRecDepth 20000 in
theorem xy_X9_readOpened : xYv yX9_readOpened cX9_readOpened 5 (some .boolean) 3 := ⟨tb_4 (List.mem_of_getElem? (i := 75) rfl), tb_4 (List.mem_of_getElem? (i := 74) (by decide +kernel)), List.mem_append_left _ (List.mem_of_getElem? (i := 19) (by decide +kernel)), tb_1 (List.mem_of_getElem? (i := 7) (by decide +kernel)), by decide +kernel, by decide +kernel⟩
set_option maxRecDepth 20000 in
theorem xy_X9_skipLetters : xYv yX9_skipLetters cX9_skipLetters 2 none 0 := ⟨tb_3 (List.mem_of_getElem? (i := 235) rfl), tb_3 (List.mem_of_getElem? (i := 234) (by decide +kernel)), List.mem_append_left _ (List.mem_of_getElem? (i := 12) (by decide +kernel)), tb_1 (List.mem_of_getElem? (i := 7) (by decide +kernel)), by decide +kernel, by decide +kernel⟩
set_option maxRecDepth 20000 in
theorem xy_X9_takeNumber : xYv yX9_takeNumber cX9_takeNumber 2 none 0 := ⟨tb_4 (List.mem_of_getElem? (i := 56) rfl), tb_4 (List.mem_of_getElem? (i := 55) (by decide +kernel)), List.mem_append_left _ (List.mem_of_getElem? (i := 15) (by decide +kernel)), tb_1 (List.mem_of_getElem? (i := 7) (by decide +kernel)), by decide +kernel, by decide +kernel⟩
set_option maxRecDepth 20000 in
theorem xy_X9_takeToken : xYv yX9_takeToken cX9_takeToken 2 none 0 := ⟨tb_3 (List.mem_of_getElem? (i := 227) rfl), tb_3 (List.mem_of_getElem? (i := 226) (by decide +kernel)), List.mem_append_left _ (List.mem_of_getElem? (i := 10) (by decide +kernel)), tb_1 (List.mem_of_getElem? (i := 7) (by decide +kernel)), by decide +kernel, by decide +kernel⟩
set_option maxRecDepth 20000 in
theorem xy_X9_takeWord : xYv yX9_takeWord cX9_takeWord 2 none 1 := ⟨tb_4 (List.mem_of_getElem? (i := 52) rfl), tb_4 (List.mem_of_getElem? (i := 51) (by decide +kernel)), List.mem_append_left _ (List.mem_of_getElem? (i := 14) (by decide +kernel)), tb_1 (List.mem_of_getElem? (i := 7) (by decide +kernel)), by decide +kernel, by decide +kernel⟩
set_option maxRecDepth 20000 in
theorem xy_X9_wordAtHand : xYv yX9_wordAtHand cX9_wordAtHand 6 (some .int) 0 := ⟨tb_3 (List.mem_of_getElem? (i := 239) rfl), tb_3 (List.mem_of_getElem? (i := 238) (by decide +kernel)), List.mem_append_left _ (List.mem_of_getElem? (i := 13) (by decide +kernel)), tb_1 (List.mem_of_getElem? (i := 7) (by decide +kernel)), by decide +kernel, by decide +kernel⟩

