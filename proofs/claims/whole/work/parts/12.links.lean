theorem tb_sub (ws : List Cond) (ps : List Nat) (hp : ws = ps.filterMap (fun i => lw_tbl[i]?)) (hg : ws.all goodWord = true) : ∀ w ∈ ws, w ∈ tb := by
  intro w hw
  have h1 := List.all_eq_true.mp hg w hw
  rw [hp] at hw
  obtain ⟨i, -, hi⟩ := List.mem_filterMap.mp hw
  exact tb_of i hi h1
theorem tl1 {w : Cond} (h : w ∈ tables_1_1) : w ∈ lw_tbl := List.mem_append_right _ (show w ∈ tables_1 from List.mem_append_left _ h)
theorem tc1 {w : Cond} {i : Nat} (h : tables_1_1[i]? = some w) (g : goodWord w = true) : w ∈ tb := List.mem_filter.mpr ⟨tl1 (List.mem_of_getElem? h), g⟩
theorem tl2 {w : Cond} (h : w ∈ tables_1_2) : w ∈ lw_tbl := List.mem_append_right _ (show w ∈ tables_1 from List.mem_append_right _ (List.mem_append_left _ h))
theorem tc2 {w : Cond} {i : Nat} (h : tables_1_2[i]? = some w) (g : goodWord w = true) : w ∈ tb := List.mem_filter.mpr ⟨tl2 (List.mem_of_getElem? h), g⟩
theorem tl3 {w : Cond} (h : w ∈ tables_1_3) : w ∈ lw_tbl := List.mem_append_right _ (show w ∈ tables_1 from List.mem_append_right _ (List.mem_append_right _ (List.mem_append_left _ h)))
theorem tc3 {w : Cond} {i : Nat} (h : tables_1_3[i]? = some w) (g : goodWord w = true) : w ∈ tb := List.mem_filter.mpr ⟨tl3 (List.mem_of_getElem? h), g⟩
theorem tl4 {w : Cond} (h : w ∈ tables_1_4) : w ∈ lw_tbl := List.mem_append_right _ (show w ∈ tables_1 from List.mem_append_right _ (List.mem_append_right _ (List.mem_append_right _ (List.mem_append_left _ h))))
theorem tc4 {w : Cond} {i : Nat} (h : tables_1_4[i]? = some w) (g : goodWord w = true) : w ∈ tb := List.mem_filter.mpr ⟨tl4 (List.mem_of_getElem? h), g⟩
theorem tl5 {w : Cond} (h : w ∈ tables_1_5) : w ∈ lw_tbl := List.mem_append_right _ (show w ∈ tables_1 from List.mem_append_right _ (List.mem_append_right _ (List.mem_append_right _ (List.mem_append_right _ (List.mem_append_left _ h)))))
theorem tc5 {w : Cond} {i : Nat} (h : tables_1_5[i]? = some w) (g : goodWord w = true) : w ∈ tb := List.mem_filter.mpr ⟨tl5 (List.mem_of_getElem? h), g⟩
theorem tl6 {w : Cond} (h : w ∈ tables_1_6) : w ∈ lw_tbl := List.mem_append_right _ (show w ∈ tables_1 from List.mem_append_right _ (List.mem_append_right _ (List.mem_append_right _ (List.mem_append_right _ (List.mem_append_right _ (List.mem_append_left _ h))))))
theorem tc6 {w : Cond} {i : Nat} (h : tables_1_6[i]? = some w) (g : goodWord w = true) : w ∈ tb := List.mem_filter.mpr ⟨tl6 (List.mem_of_getElem? h), g⟩
theorem tl7 {w : Cond} (h : w ∈ tables_1_7) : w ∈ lw_tbl := List.mem_append_right _ (show w ∈ tables_1 from List.mem_append_right _ (List.mem_append_right _ (List.mem_append_right _ (List.mem_append_right _ (List.mem_append_right _ (List.mem_append_right _ (List.mem_append_left _ h)))))))
theorem tc7 {w : Cond} {i : Nat} (h : tables_1_7[i]? = some w) (g : goodWord w = true) : w ∈ tb := List.mem_filter.mpr ⟨tl7 (List.mem_of_getElem? h), g⟩
theorem tl8 {w : Cond} (h : w ∈ tables_1_8) : w ∈ lw_tbl := List.mem_append_right _ (show w ∈ tables_1 from List.mem_append_right _ (List.mem_append_right _ (List.mem_append_right _ (List.mem_append_right _ (List.mem_append_right _ (List.mem_append_right _ (List.mem_append_right _ (h))))))))
theorem tc8 {w : Cond} {i : Nat} (h : tables_1_8[i]? = some w) (g : goodWord w = true) : w ∈ tb := List.mem_filter.mpr ⟨tl8 (List.mem_of_getElem? h), g⟩
theorem inT0 : ∀ w ∈ u_ws RX0 TX0 12, w ∈ tb := tb_sub _ [360, 361, 362, 342, 344, 346, 348, 350, 352, 354, 356, 358] (by decide +kernel) (by decide +kernel)
theorem inT1 : ∀ w ∈ u_ws RX1 TX1 2, w ∈ tb := tb_sub _ [200, 202] (by decide +kernel) (by decide +kernel)
theorem inT2 : ∀ w ∈ u_ws RX3 TX3 3, w ∈ tb := tb_sub _ [250, 252, 254] (by decide +kernel) (by decide +kernel)
theorem inT3 : ∀ w ∈ u_ws RX4 TX4 10, w ∈ tb := tb_sub _ [443, 444, 445, 429, 431, 433, 435, 437, 439, 441] (by decide +kernel) (by decide +kernel)
theorem inT4 : ∀ w ∈ u_ws RX5 TX5 4, w ∈ tb := tb_sub _ [323, 324, 325, 321] (by decide +kernel) (by decide +kernel)
theorem inT5 : ∀ w ∈ u_ws RX6 TX6 5, w ∈ tb := tb_sub _ [307, 309, 311, 303, 305] (by decide +kernel) (by decide +kernel)
theorem inT6 : ∀ w ∈ u_ws RX7 TX7 3, w ∈ tb := tb_sub _ [179, 181, 183] (by decide +kernel) (by decide +kernel)
theorem inT7 : ∀ w ∈ u_ws RX8 TX8 5, w ∈ tb := tb_sub _ [227, 229, 231, 233, 235] (by decide +kernel) (by decide +kernel)
theorem inT8 : ∀ w ∈ u_ws RX9 TX9 17, w ∈ tb := tb_sub _ [412, 413, 414, 384, 386, 388, 390, 392, 394, 396, 398, 400, 402, 404, 406, 408, 410] (by decide +kernel) (by decide +kernel)
theorem inT9 : ∀ w ∈ u_ws RX10 TX10 9, w ∈ tb := tb_sub _ [459, 461, 463, 465, 467, 469, 471, 473, 475] (by decide +kernel) (by decide +kernel)
theorem inT10 : ∀ w ∈ u_ws RX11 TX11 31, w ∈ tb := tb_sub _ [1430, 1432, 1434, 1436, 1438, 1440, 1442, 1444, 1446, 1448, 1450, 1452, 1454, 1456, 1458, 1460, 1462, 1464, 1466, 1468, 1470, 1472, 1474, 1476, 1478, 1480, 1482, 1484, 1486, 1488, 1490] (by decide +kernel) (by decide +kernel)
def mX10_init : aM := (yX10_init, cX10_init, 2, none, [])
def mX7_init : aM := (yX7_init, cX7_init, 1, none, [])
def mX1_init : aM := (yX1_init, cX1_init, 1, none, [])
def mX8_init : aM := (yX8_init, cX8_init, 2, none, [])
def mX3_init : aM := (yX3_init, cX3_init, 1, none, [])
def mX6_init : aM := (yX6_init, cX6_init, 1, none, [])
def mX2_init : aM := (yX2_init, cX2_init, 1, none, [])
def mX5_init : aM := (yX5_init, cX5_init, 1, none, [])
def mX0_init : aM := (yX0_init, cX0_init, 2, none, [])
def mX9_init : aM := (yX9_init, cX9_init, 2, none, [])
def mX4_init : aM := (yX4_init, cX4_init, 2, none, [])
def mJ7_fill_53178 : aM := (yJ7_fill_53178, cJ7_fill_53178, 4, none, [])
def mX10_feed : aM := (yX10_feed, cX10_feed, 6, (some .int), [])
def mX1_addHigh4 : aM := (yX1_addHigh4, cX1_addHigh4, 2, none, [])
def mX1_add : aM := (yX1_add, cX1_add, 2, none, [])
def mX10_end : aM := (yX10_end, cX10_end, 2, (some .boolean), [])
def mX10_again : aM := (yX10_again, cX10_again, 1, (some .int), [])
def mX1_takeFrom : aM := (yX1_takeFrom, cX1_takeFrom, 2, none, [])
def mX10_place : aM := (yX10_place, cX10_place, 1, (some .int), [])
def mX10_told : aM := (yX10_told, cX10_told, 2, (some .int), [])
def mX10_write : aM := (yX10_write, cX10_write, 3, (some .int), [])
def mX10_hasRaster : aM := (yX10_hasRaster, cX10_hasRaster, 2, (some .boolean), [])
def mX10_isShelf : aM := (yX10_isShelf, cX10_isShelf, 1, (some .boolean), [])
def mX7_isEmpty : aM := (yX7_isEmpty, cX7_isEmpty, 1, (some .boolean), [])
def mX10_familyOf : aM := (yX10_familyOf, cX10_familyOf, 1, (some .int), [])
def mX10_putOut : aM := (yX10_putOut, cX10_putOut, 4, (some .boolean), [])
def mX10_fits : aM := (yX10_fits, cX10_fits, 3, (some .boolean), [])
def mX7_isPlain : aM := (yX7_isPlain, cX7_isPlain, 4, (some .boolean), [])
def mX7_count : aM := (yX7_count, cX7_count, 1, (some .int), [])
def mX7_get : aM := (yX7_get, cX7_get, 2, (some .int), [])
def mX7_isOpaque : aM := (yX7_isOpaque, cX7_isOpaque, 3, (some .boolean), [])
def mX10_alphaOf : aM := (yX10_alphaOf, cX10_alphaOf, 1, (some .int), [])
def mX7_isGray : aM := (yX7_isGray, cX7_isGray, 4, (some .boolean), [])
def mX10_redOf : aM := (yX10_redOf, cX10_redOf, 1, (some .int), [])
def mX10_greenOf : aM := (yX10_greenOf, cX10_greenOf, 1, (some .int), [])
def mX10_blueOf : aM := (yX10_blueOf, cX10_blueOf, 1, (some .int), [])
def mX10_hasFewColours : aM := (yX10_hasFewColours, cX10_hasFewColours, 2, (some .boolean), [])
def mX3_gather : aM := (yX3_gather, cX3_gather, 6, none, [])
def mX3_slotOf : aM := (yX3_slotOf, cX3_slotOf, 6, (some .int), [])
def mX0_encode : aM := (yX0_encode, cX0_encode, 7, none, [])
def mX0_writeHeader : aM := (yX0_writeHeader, cX0_writeHeader, 4, none, [])
def mX1_addZeros : aM := (yX1_addZeros, cX1_addZeros, 3, none, [])
def mX1_addLow4 : aM := (yX1_addLow4, cX1_addLow4, 2, none, [])
def mX1_addLow2 : aM := (yX1_addLow2, cX1_addLow2, 2, none, [])
def mX3_get : aM := (yX3_get, cX3_get, 2, (some .int), [])
def mX0_writeBlueFirst : aM := (yX0_writeBlueFirst, cX0_writeBlueFirst, 2, none, [])
def mX0_writeRuns : aM := (yX0_writeRuns, cX0_writeRuns, 9, none, [])
def mX3_numberOf : aM := (yX3_numberOf, cX3_numberOf, 2, (some .int), [])
def mJ9_max_7cf53 : aM := (yJ9_max_7cf53, cJ9_max_7cf53, 2, (some .int), [])
def mX0_writeRow : aM := (yX0_writeRow, cX0_writeRow, 7, none, [])
def mX1_setLow4 : aM := (yX1_setLow4, cX1_setLow4, 4, none, [])
def mX4_encode : aM := (yX4_encode, cX4_encode, 8, none, [])
def mX4_writeHeader : aM := (yX4_writeHeader, cX4_writeHeader, 4, none, [])
def mX4_writeLine : aM := (yX4_writeLine, cX4_writeLine, 10, none, [])
def mX4_sampleAt : aM := (yX4_sampleAt, cX4_sampleAt, 6, (some .int), [])
def mX4_writeTable : aM := (yX4_writeTable, cX4_writeTable, 4, none, [])
def mX5_encode : aM := (yX5_encode, cX5_encode, 4, none, [])
def mX1_addDecimal : aM := (yX1_addDecimal, cX1_addDecimal, 2, none, [])
def mX5_writeSigns : aM := (yX5_writeSigns, cX5_writeSigns, 5, none, [])
def mX5_writeBits : aM := (yX5_writeBits, cX5_writeBits, 6, none, [])
def mX5_writeSamples : aM := (yX5_writeSamples, cX5_writeSamples, 6, none, [])
def mX5_writeNumbers : aM := (yX5_writeNumbers, cX5_writeNumbers, 3, none, [])
def mX5_writeBytes : aM := (yX5_writeBytes, cX5_writeBytes, 3, none, [])
def mX6_encode : aM := (yX6_encode, cX6_encode, 4, none, [])
def mX6_writeChunks : aM := (yX6_writeChunks, cX6_writeChunks, 7, none, [])
def mX6_start : aM := (yX6_start, cX6_start, 1, none, [])
def mX6_runAt : aM := (yX6_runAt, cX6_runAt, 5, (some .int), [])
def mJ9_min_7cf53 : aM := (yJ9_min_7cf53, cJ9_min_7cf53, 2, (some .int), [])
def mX6_writePixel : aM := (yX6_writePixel, cX6_writePixel, 3, none, [])
def mX6_homeOf : aM := (yX6_homeOf, cX6_homeOf, 1, (some .int), [])
def mX6_writeMove : aM := (yX6_writeMove, cX6_writeMove, 8, (some .boolean), [])
def mX6_isWithin : aM := (yX6_isWithin, cX6_isWithin, 2, (some .boolean), [])
def mX6_keep : aM := (yX6_keep, cX6_keep, 1, none, [])
def mX9_encode : aM := (yX9_encode, cX9_encode, 9, none, [])
def mX9_kindOf : aM := (yX9_kindOf, cX9_kindOf, 1, (some .int), [])
def mX9_writeColour : aM := (yX9_writeColour, cX9_writeColour, 3, none, [])
def mX9_writePackets : aM := (yX9_writePackets, cX9_writePackets, 9, none, [])
def mX9_isLikeNext : aM := (yX9_isLikeNext, cX9_isLikeNext, 4, (some .boolean), [])
def mX9_packetSize : aM := (yX9_packetSize, cX9_packetSize, 6, (some .int), [])
def mX9_writePixels : aM := (yX9_writePixels, cX9_writePixels, 9, none, [])
def mX10_byteAt : aM := (yX10_byteAt, cX10_byteAt, 2, (some .int), [])
def mX1_at : aM := (yX1_at, cX1_at, 2, (some .int), [])
def mX10_make : aM := (yX10_make, cX10_make, 6, (some .boolean), [])
def mX10_isTooLarge : aM := (yX10_isTooLarge, cX10_isTooLarge, 4, (some .boolean), [])
def mX7_fill : aM := (yX7_fill, cX7_fill, 4, none, [])
def mX7_set : aM := (yX7_set, cX7_set, 3, none, [])
def mX10_raster : aM := (yX10_raster, cX10_raster, 4, (some .int), [])
def mX10_holds : aM := (yX10_holds, cX10_holds, 3, (some .boolean), [])
def mX10_copy : aM := (yX10_copy, cX10_copy, 3, (some .boolean), [])
def mX7_takeFrom : aM := (yX7_takeFrom, cX7_takeFrom, 4, none, [])
def mX10_same : aM := (yX10_same, cX10_same, 3, (some .boolean), [])
def mX7_isLike : aM := (yX7_isLike, cX7_isLike, 4, (some .boolean), [])
def mX10_chain : aM := (yX10_chain, cX10_chain, 6, (some .int), [])
def mX10_takeIn : aM := (yX10_takeIn, cX10_takeIn, 6, (some .int), [(27, 40, 43, 207)])
def mX8_open : aM := (yX8_open, cX8_open, 2, none, [])
def mX0_decode : aM := (yX0_decode, cX0_decode, 5, none, [])
def mX8_want : aM := (yX8_want, cX8_want, 3, none, [])
def mX8_next : aM := (yX8_next, cX8_next, 2, (some .int), [])
def mX8_refuse : aM := (yX8_refuse, cX8_refuse, 3, none, [])
def mX8_wantLow4 : aM := (yX8_wantLow4, cX8_wantLow4, 3, none, [])
def mX8_low4 : aM := (yX8_low4, cX8_low4, 2, (some .int), [])
def mX8_low2 : aM := (yX8_low2, cX8_low2, 2, (some .int), [])
def mX0_readSize : aM := (yX0_readSize, cX0_readSize, 7, none, [])
def mX8_lay : aM := (yX8_lay, cX8_lay, 7, none, [])
def mX0_readDepth : aM := (yX0_readDepth, cX0_readDepth, 4, none, [])
def mX8_pass : aM := (yX8_pass, cX8_pass, 3, none, [])
def mX0_readUsed : aM := (yX0_readUsed, cX0_readUsed, 4, none, [])
def mX0_askLayout : aM := (yX0_askLayout, cX0_askLayout, 5, none, [])
def mX0_readColours : aM := (yX0_readColours, cX0_readColours, 4, none, [])
def mX0_readBlueFirst : aM := (yX0_readBlueFirst, cX0_readBlueFirst, 4, (some .int), [])
def mX10_pixelOf : aM := (yX10_pixelOf, cX10_pixelOf, 4, (some .int), [])
def mX0_readRows : aM := (yX0_readRows, cX0_readRows, 7, none, [])
def mX0_readIndexed : aM := (yX0_readIndexed, cX0_readIndexed, 5, (some .int), [])
def mX0_colourOf : aM := (yX0_colourOf, cX0_colourOf, 4, (some .int), [])
def mX0_readDirect : aM := (yX0_readDirect, cX0_readDirect, 3, (some .int), [])
def mX10_ofSixteenBits : aM := (yX10_ofSixteenBits, cX10_ofSixteenBits, 2, (some .int), [])
def mX10_ofFiveBits : aM := (yX10_ofFiveBits, cX10_ofFiveBits, 1, (some .int), [])
def mX0_readPairs : aM := (yX0_readPairs, cX0_readPairs, 8, none, [])
def mX0_askRoom : aM := (yX0_askRoom, cX0_askRoom, 5, none, [])
def mX0_readLike : aM := (yX0_readLike, cX0_readLike, 6, none, [])
def mX0_part : aM := (yX0_part, cX0_part, 3, (some .int), [])
def mX0_paint : aM := (yX0_paint, cX0_paint, 3, none, [])
def mX0_readUnlike : aM := (yX0_readUnlike, cX0_readUnlike, 7, none, [])
def mX0_move : aM := (yX0_move, cX0_move, 5, none, [])
def mX8_wantEnd : aM := (yX8_wantEnd, cX8_wantEnd, 1, none, [])
def mX4_decode : aM := (yX4_decode, cX4_decode, 4, none, [])
def mX4_readVersion : aM := (yX4_readVersion, cX4_readVersion, 3, none, [])
def mX4_readBits : aM := (yX4_readBits, cX4_readBits, 3, none, [])
def mX4_readSize : aM := (yX4_readSize, cX4_readSize, 7, none, [])
def mX4_readColours : aM := (yX4_readColours, cX4_readColours, 6, none, [])
def mX4_readPlanes : aM := (yX4_readPlanes, cX4_readPlanes, 4, none, [])
def mX4_readStep : aM := (yX4_readStep, cX4_readStep, 4, none, [])
def mX4_readLine : aM := (yX4_readLine, cX4_readLine, 12, none, [])
def mX4_addBits : aM := (yX4_addBits, cX4_addBits, 10, none, [])
def mX4_colour : aM := (yX4_colour, cX4_colour, 5, none, [])
def mX5_decode : aM := (yX5_decode, cX5_decode, 3, none, [])
def mX5_readKind : aM := (yX5_readKind, cX5_readKind, 3, none, [])
def mX5_readSize : aM := (yX5_readSize, cX5_readSize, 5, none, [])
def mX5_passGap : aM := (yX5_passGap, cX5_passGap, 2, none, [])
def mX8_peek : aM := (yX8_peek, cX8_peek, 1, (some .int), [])
def mX5_isBlank : aM := (yX5_isBlank, cX5_isBlank, 1, (some .boolean), [])
def mX5_passBlanks : aM := (yX5_passBlanks, cX5_passBlanks, 3, none, [])
def mX5_readNumber : aM := (yX5_readNumber, cX5_readNumber, 4, (some .int), [])
def mX5_isDigit : aM := (yX5_isDigit, cX5_isDigit, 1, (some .boolean), [])
def mX5_askNumber : aM := (yX5_askNumber, cX5_askNumber, 4, none, [])
def mX5_readOneBlank : aM := (yX5_readOneBlank, cX5_readOneBlank, 2, none, [])
def mX5_readSigns : aM := (yX5_readSigns, cX5_readSigns, 6, none, [])
def mX5_readBits : aM := (yX5_readBits, cX5_readBits, 6, none, [])
def mX5_readSamples : aM := (yX5_readSamples, cX5_readSamples, 9, none, [])
def mX5_readSample : aM := (yX5_readSample, cX5_readSample, 4, (some .int), [])
def mX6_decode : aM := (yX6_decode, cX6_decode, 9, none, [])
def mX6_readSide : aM := (yX6_readSide, cX6_readSide, 4, (some .long), [])
def mX8_high4 : aM := (yX8_high4, cX8_high4, 3, (some .int), [])
def mX6_readChoice : aM := (yX6_readChoice, cX6_readChoice, 5, (some .int), [])
def mX6_readChunks : aM := (yX6_readChunks, cX6_readChunks, 11, (some .int), [])
def mX6_readPixel : aM := (yX6_readPixel, cX6_readPixel, 6, (some .int), [])
def mX6_moved : aM := (yX6_moved, cX6_moved, 4, (some .int), [])
def mX9_decode : aM := (yX9_decode, cX9_decode, 4, none, [])
def mX9_readTypes : aM := (yX9_readTypes, cX9_readTypes, 4, none, [])
def mX9_readMapHeader : aM := (yX9_readMapHeader, cX9_readMapHeader, 4, none, [])
def mX9_readSize : aM := (yX9_readSize, cX9_readSize, 5, none, [])
def mX9_readSide : aM := (yX9_readSide, cX9_readSide, 3, (some .int), [])
def mX9_readBits : aM := (yX9_readBits, cX9_readBits, 5, none, [])
def mX9_readFlags : aM := (yX9_readFlags, cX9_readFlags, 5, none, [])
def mX9_readEntries : aM := (yX9_readEntries, cX9_readEntries, 4, none, [])
def mX9_readColour : aM := (yX9_readColour, cX9_readColour, 7, (some .int), [])
def mX10_grayOf : aM := (yX10_grayOf, cX10_grayOf, 1, (some .int), [])
def mX9_readPixels : aM := (yX9_readPixels, cX9_readPixels, 8, none, [])
def mX9_readPacketHead : aM := (yX9_readPacketHead, cX9_readPacketHead, 5, none, [])
def mX9_readPixel : aM := (yX9_readPixel, cX9_readPixel, 4, (some .int), [])
def mX9_readFooter : aM := (yX9_readFooter, cX9_readFooter, 6, none, [])
def mJ0_length_8abf5 : aM := (yJ0_length_8abf5, cJ0_length_8abf5, 1, (some .int), [])
def mJ0_coder_7d493 : aM := (yJ0_coder_7d493, cJ0_coder_7d493, 1, (some .byte), [])
def mJ0_charAt_5068e : aM := (yJ0_charAt_5068e, cJ0_charAt_5068e, 2, (some .char), [])
def mJ0_isLatin1_aae02 : aM := (yJ0_isLatin1_aae02, cJ0_isLatin1_aae02, 1, (some .boolean), [])
def mJ1_charAt_3b067 : aM := (yJ1_charAt_3b067, cJ1_charAt_3b067, 2, (some .char), [])
def mJ0_checkIndex_df160 : aM := (yJ0_checkIndex_df160, cJ0_checkIndex_df160, 2, none, [])
def mJ3_checkIndex_8e157 : aM := (yJ3_checkIndex_8e157, cJ3_checkIndex_8e157, 3, (some .int), [])
def mJ2_charAt_3b067 : aM := (yJ2_charAt_3b067, cJ2_charAt_3b067, 2, (some .char), [])
def mJ2_checkIndex_2214a : aM := (yJ2_checkIndex_2214a, cJ2_checkIndex_2214a, 2, none, [])
def mJ2_length_9d52b : aM := (yJ2_length_9d52b, cJ2_length_9d52b, 1, (some .int), [])
def mJ2_getChar_3b067 : aM := (yJ2_getChar_3b067, cJ2_getChar_3b067, 2, (some .char), [])
def mL_read : aM := (yL_read, cL_read, 5, (some .int), [(0, 10, 13, 13), (0, 10, 17, 15)])
def mX10_read : aM := (yX10_read, cX10_read, 4, (some .int), [])
def mL_bytes : aM := (yL_bytes, cL_bytes, 4, (some .int), [(0, 8, 11, 15)])
def mX10_bytes : aM := (yX10_bytes, cX10_bytes, 6, (some .long), [])
def mL_dot : aM := (yL_dot, cL_dot, 7, (some .int), [(0, 14, 17, 13), (0, 14, 21, 25)])
def mX10_dot : aM := (yX10_dot, cX10_dot, 8, (some .int), [])
def mX10_spot : aM := (yX10_spot, cX10_spot, 5, (some .int), [])
def mL_sweep : aM := (yL_sweep, cL_sweep, 9, (some .int), [(0, 18, 21, 13), (0, 18, 25, 25)])
def mX10_sweep : aM := (yX10_sweep, cX10_sweep, 11, (some .int), [])
def mL_pixel : aM := (yL_pixel, cL_pixel, 6, (some .int), [(0, 12, 15, 13), (0, 12, 19, 25)])
def mX10_pixel : aM := (yX10_pixel, cX10_pixel, 5, (some .int), [])
def mX11_init : aM := (yX11_init, cX11_init, 1, none, [])
def mX11_thrown : aM := (yX11_thrown, cX11_thrown, 1, (some .int), [])
def mX11_feed : aM := (yX11_feed, cX11_feed, 6, (some .int), [])
def mX11_four : aM := (yX11_four, cX11_four, 3, none, [])
def mX11_end : aM := (yX11_end, cX11_end, 2, (some .boolean), [])
def mX11_again : aM := (yX11_again, cX11_again, 2, (some .int), [])
def mX11_read : aM := (yX11_read, cX11_read, 4, (some .int), [])
def mX11_isShelf : aM := (yX11_isShelf, cX11_isShelf, 1, (some .boolean), [])
def mX11_readFile : aM := (yX11_readFile, cX11_readFile, 4, (some .boolean), [])
def mX11_readChunks : aM := (yX11_readChunks, cX11_readChunks, 14, (some .boolean), [])
def mX11_sign : aM := (yX11_sign, cX11_sign, 2, (some .boolean), [])
def mX11_want : aM := (yX11_want, cX11_want, 2, (some .boolean), [])
def mX11_wrong : aM := (yX11_wrong, cX11_wrong, 3, (some .boolean), [])
def mX11_b : aM := (yX11_b, cX11_b, 2, (some .int), [])
def mX11_top : aM := (yX11_top, cX11_top, 6, (some .long), [])
def mX11_fits : aM := (yX11_fits, cX11_fits, 6, (some .boolean), [])
def mX11_mix : aM := (yX11_mix, cX11_mix, 4, (some .int), [])
def mX11_more : aM := (yX11_more, cX11_more, 4, (some .int), [])
def mX11_spot : aM := (yX11_spot, cX11_spot, 1, (some .int), [])
def mX11_closes : aM := (yX11_closes, cX11_closes, 1, (some .boolean), [])
def mX11_readMaps : aM := (yX11_readMaps, cX11_readMaps, 4, (some .boolean), [])
def mX11_gap : aM := (yX11_gap, cX11_gap, 2, (some .boolean), [])
def mX11_skip : aM := (yX11_skip, cX11_skip, 2, none, [])
def mX11_isBlank : aM := (yX11_isBlank, cX11_isBlank, 2, (some .boolean), [])
def mX11_number : aM := (yX11_number, cX11_number, 2, (some .int), [])
def mX11_readSigns : aM := (yX11_readSigns, cX11_readSigns, 2, (some .boolean), [])
def mX11_gray : aM := (yX11_gray, cX11_gray, 1, (some .int), [])
def mX11_readNumbers : aM := (yX11_readNumbers, cX11_readNumbers, 7, (some .boolean), [])
def mX11_scaled : aM := (yX11_scaled, cX11_scaled, 2, (some .int), [])
def mX11_readBits : aM := (yX11_readBits, cX11_readBits, 3, (some .boolean), [])
def mX11_readSamples : aM := (yX11_readSamples, cX11_readSamples, 7, (some .boolean), [])
def mX11_readRows : aM := (yX11_readRows, cX11_readRows, 16, (some .boolean), [])
def mX11_low : aM := (yX11_low, cX11_low, 6, (some .long), [])
def mX11_readPlainRows : aM := (yX11_readPlainRows, cX11_readPlainRows, 10, (some .boolean), [])
def mX11_fifth : aM := (yX11_fifth, cX11_fifth, 1, (some .int), [])
def mX11_readPairs : aM := (yX11_readPairs, cX11_readPairs, 11, (some .boolean), [])
def mX11_put : aM := (yX11_put, cX11_put, 4, none, [])
def mX11_readTarga : aM := (yX11_readTarga, cX11_readTarga, 25, (some .boolean), [])
def mX11_readShort : aM := (yX11_readShort, cX11_readShort, 1, (some .boolean), [])
def mX11_colour : aM := (yX11_colour, cX11_colour, 5, (some .int), [])
def mX11_isTail : aM := (yX11_isTail, cX11_isTail, 4, (some .boolean), [])
def mX11_readPlanes : aM := (yX11_readPlanes, cX11_readPlanes, 12, (some .boolean), [])
def mX11_readLine : aM := (yX11_readLine, cX11_readLine, 13, (some .boolean), [])
def mX11_keep : aM := (yX11_keep, cX11_keep, 4, none, [])
def mX11_place : aM := (yX11_place, cX11_place, 1, (some .int), [])
def mX11_told : aM := (yX11_told, cX11_told, 2, (some .int), [])
def mX11_write : aM := (yX11_write, cX11_write, 3, (some .int), [])
def mX11_canHold : aM := (yX11_canHold, cX11_canHold, 3, (some .boolean), [])
def mX11_isPlain : aM := (yX11_isPlain, cX11_isPlain, 3, (some .boolean), [])
def mX11_many : aM := (yX11_many, cX11_many, 2, (some .int), [])
def mX11_isOpaque : aM := (yX11_isOpaque, cX11_isOpaque, 3, (some .boolean), [])
def mX11_isGrayRaster : aM := (yX11_isGrayRaster, cX11_isGrayRaster, 4, (some .boolean), [])
def mX11_colourCount : aM := (yX11_colourCount, cX11_colourCount, 5, (some .int), [])
def mX11_sift : aM := (yX11_sift, cX11_sift, 7, none, [])
def mX11_writeFile : aM := (yX11_writeFile, cX11_writeFile, 3, none, [])
def mX11_writeChunks : aM := (yX11_writeChunks, cX11_writeChunks, 7, none, [])
def mX11_put_ : aM := (yX11_put_, cX11_put_, 2, none, [])
def mX11_putTop : aM := (yX11_putTop, cX11_putTop, 3, none, [])
def mX11_chunk : aM := (yX11_chunk, cX11_chunk, 9, none, [])
def mX11_writeMaps : aM := (yX11_writeMaps, cX11_writeMaps, 8, none, [])
def mX11_putNumber : aM := (yX11_putNumber, cX11_putNumber, 2, none, [])
def mX11_at : aM := (yX11_at, cX11_at, 4, (some .int), [])
def mX11_writeRows : aM := (yX11_writeRows, cX11_writeRows, 9, none, [])
def mX11_listColours : aM := (yX11_listColours, cX11_listColours, 4, none, [])
def mX11_colourOf : aM := (yX11_colourOf, cX11_colourOf, 3, (some .int), [])
def mX11_putLow : aM := (yX11_putLow, cX11_putLow, 4, none, [])
def mX11_putBack : aM := (yX11_putBack, cX11_putBack, 3, none, [])
def mX11_mend : aM := (yX11_mend, cX11_mend, 4, none, [])
def mX11_writeTarga : aM := (yX11_writeTarga, cX11_writeTarga, 12, none, [])
def mX11_isLike : aM := (yX11_isLike, cX11_isLike, 4, (some .boolean), [])
def mX11_writePlanes : aM := (yX11_writePlanes, cX11_writePlanes, 10, none, [])
def mX11_sample : aM := (yX11_sample, cX11_sample, 7, (some .int), [])
def mX11_byteAt : aM := (yX11_byteAt, cX11_byteAt, 2, (some .int), [])
def mX11_bytes : aM := (yX11_bytes, cX11_bytes, 5, (some .long), [])
def mX11_make : aM := (yX11_make, cX11_make, 6, (some .boolean), [])
def mX11_dot : aM := (yX11_dot, cX11_dot, 7, (some .int), [])
def mX11_pixelAt : aM := (yX11_pixelAt, cX11_pixelAt, 4, (some .int), [])
def mX11_sweep : aM := (yX11_sweep, cX11_sweep, 10, (some .int), [])
def mX11_pixel : aM := (yX11_pixel, cX11_pixel, 5, (some .int), [])
def mX11_raster : aM := (yX11_raster, cX11_raster, 3, (some .int), [])
def mX11_holds : aM := (yX11_holds, cX11_holds, 3, (some .boolean), [])
def mX11_copy : aM := (yX11_copy, cX11_copy, 4, (some .boolean), [])
def mX11_same : aM := (yX11_same, cX11_same, 4, (some .boolean), [])
def mX11_chain : aM := (yX11_chain, cX11_chain, 8, (some .int), [])
theorem tw162 : Cond.fieldLink RX7 9 "RasterMint$Raster" "pixels" "[I" ∈ tb := tc1 (i := 42) (by decide +kernel) rfl
theorem flX7_9_6 : fldOK RX7 9 6 0 := ⟨RX7, TX7, 3, "RasterMint$Raster", rfl, inT6, by decide, tw162, Or.inl rfl⟩
theorem ptX7_9_6 : putOK RX7 9 6 0 (.array .int) true := ⟨RX7, TX7, 3, "RasterMint$Raster", tyX7, rfl, inT6, by decide, tw162, Or.inl rfl, tyX7_ok, nmX7, rfl, by decide +kernel, by decide⟩
theorem tw163 : Cond.fieldLink RX7 15 "RasterMint$Raster" "width" "I" ∈ tb := tc1 (i := 43) (by decide +kernel) rfl
theorem flX7_15_6 : fldOK RX7 15 6 1 := ⟨RX7, TX7, 3, "RasterMint$Raster", rfl, inT6, by decide, tw163, Or.inl rfl⟩
theorem ptX7_15_6 : putOK RX7 15 6 1 .int false := ⟨RX7, TX7, 3, "RasterMint$Raster", tyX7, rfl, inT6, by decide, tw163, Or.inl rfl, tyX7_ok, nmX7, rfl, by decide +kernel, by decide⟩
theorem tw164 : Cond.fieldLink RX4 46 "RasterMint$Raster" "width" "I" ∈ tb := tc1 (i := 44) (by decide +kernel) rfl
theorem flX4_46_6 : fldOK RX4 46 6 1 := ⟨RX7, TX7, 3, "RasterMint$Raster", rfl, inT6, by decide, tw164, Or.inl rfl⟩
theorem ptX4_46_6 : putOK RX4 46 6 1 .int false := ⟨RX7, TX7, 3, "RasterMint$Raster", tyX7, rfl, inT6, by decide, tw164, Or.inl rfl, tyX7_ok, nmX7, rfl, by decide +kernel, by decide⟩
theorem tw165 : Cond.fieldLink RX0 119 "RasterMint$Raster" "width" "I" ∈ tb := tc1 (i := 45) (by decide +kernel) rfl
theorem flX0_119_6 : fldOK RX0 119 6 1 := ⟨RX7, TX7, 3, "RasterMint$Raster", rfl, inT6, by decide, tw165, Or.inl rfl⟩
theorem ptX0_119_6 : putOK RX0 119 6 1 .int false := ⟨RX7, TX7, 3, "RasterMint$Raster", tyX7, rfl, inT6, by decide, tw165, Or.inl rfl, tyX7_ok, nmX7, rfl, by decide +kernel, by decide⟩
theorem tw166 : Cond.fieldLink RX9 126 "RasterMint$Raster" "width" "I" ∈ tb := tc1 (i := 46) (by decide +kernel) rfl
theorem flX9_126_6 : fldOK RX9 126 6 1 := ⟨RX7, TX7, 3, "RasterMint$Raster", rfl, inT6, by decide, tw166, Or.inl rfl⟩
theorem ptX9_126_6 : putOK RX9 126 6 1 .int false := ⟨RX7, TX7, 3, "RasterMint$Raster", tyX7, rfl, inT6, by decide, tw166, Or.inl rfl, tyX7_ok, nmX7, rfl, by decide +kernel, by decide⟩
theorem tw167 : Cond.fieldLink RX6 122 "RasterMint$Raster" "width" "I" ∈ tb := tc1 (i := 47) (by decide +kernel) rfl
theorem flX6_122_6 : fldOK RX6 122 6 1 := ⟨RX7, TX7, 3, "RasterMint$Raster", rfl, inT6, by decide, tw167, Or.inl rfl⟩
theorem ptX6_122_6 : putOK RX6 122 6 1 .int false := ⟨RX7, TX7, 3, "RasterMint$Raster", tyX7, rfl, inT6, by decide, tw167, Or.inl rfl, tyX7_ok, nmX7, rfl, by decide +kernel, by decide⟩
theorem tw168 : Cond.fieldLink RX10 135 "RasterMint$Raster" "width" "I" ∈ tb := tc1 (i := 48) (by decide +kernel) rfl
theorem flX10_135_6 : fldOK RX10 135 6 1 := ⟨RX7, TX7, 3, "RasterMint$Raster", rfl, inT6, by decide, tw168, Or.inl rfl⟩
theorem ptX10_135_6 : putOK RX10 135 6 1 .int false := ⟨RX7, TX7, 3, "RasterMint$Raster", tyX7, rfl, inT6, by decide, tw168, Or.inl rfl, tyX7_ok, nmX7, rfl, by decide +kernel, by decide⟩
theorem tw169 : Cond.fieldLink RX8 61 "RasterMint$Raster" "width" "I" ∈ tb := tc1 (i := 49) (by decide +kernel) rfl
theorem flX8_61_6 : fldOK RX8 61 6 1 := ⟨RX7, TX7, 3, "RasterMint$Raster", rfl, inT6, by decide, tw169, Or.inl rfl⟩
theorem ptX8_61_6 : putOK RX8 61 6 1 .int false := ⟨RX7, TX7, 3, "RasterMint$Raster", tyX7, rfl, inT6, by decide, tw169, Or.inl rfl, tyX7_ok, nmX7, rfl, by decide +kernel, by decide⟩
theorem tw170 : Cond.fieldLink RX5 114 "RasterMint$Raster" "width" "I" ∈ tb := tc1 (i := 50) (by decide +kernel) rfl
theorem flX5_114_6 : fldOK RX5 114 6 1 := ⟨RX7, TX7, 3, "RasterMint$Raster", rfl, inT6, by decide, tw170, Or.inl rfl⟩
theorem ptX5_114_6 : putOK RX5 114 6 1 .int false := ⟨RX7, TX7, 3, "RasterMint$Raster", tyX7, rfl, inT6, by decide, tw170, Or.inl rfl, tyX7_ok, nmX7, rfl, by decide +kernel, by decide⟩
theorem tw171 : Cond.fieldLink RX4 58 "RasterMint$Raster" "height" "I" ∈ tb := tc1 (i := 51) (by decide +kernel) rfl
theorem flX4_58_6 : fldOK RX4 58 6 2 := ⟨RX7, TX7, 3, "RasterMint$Raster", rfl, inT6, by decide, tw171, Or.inl rfl⟩
theorem ptX4_58_6 : putOK RX4 58 6 2 .int false := ⟨RX7, TX7, 3, "RasterMint$Raster", tyX7, rfl, inT6, by decide, tw171, Or.inl rfl, tyX7_ok, nmX7, rfl, by decide +kernel, by decide⟩
theorem tw172 : Cond.fieldLink RX7 19 "RasterMint$Raster" "height" "I" ∈ tb := tc1 (i := 52) (by decide +kernel) rfl
theorem flX7_19_6 : fldOK RX7 19 6 2 := ⟨RX7, TX7, 3, "RasterMint$Raster", rfl, inT6, by decide, tw172, Or.inl rfl⟩
theorem ptX7_19_6 : putOK RX7 19 6 2 .int false := ⟨RX7, TX7, 3, "RasterMint$Raster", tyX7, rfl, inT6, by decide, tw172, Or.inl rfl, tyX7_ok, nmX7, rfl, by decide +kernel, by decide⟩
theorem tw173 : Cond.fieldLink RX9 121 "RasterMint$Raster" "height" "I" ∈ tb := tc1 (i := 53) (by decide +kernel) rfl
theorem flX9_121_6 : fldOK RX9 121 6 2 := ⟨RX7, TX7, 3, "RasterMint$Raster", rfl, inT6, by decide, tw173, Or.inl rfl⟩
theorem ptX9_121_6 : putOK RX9 121 6 2 .int false := ⟨RX7, TX7, 3, "RasterMint$Raster", tyX7, rfl, inT6, by decide, tw173, Or.inl rfl, tyX7_ok, nmX7, rfl, by decide +kernel, by decide⟩
theorem tw174 : Cond.fieldLink RX0 124 "RasterMint$Raster" "height" "I" ∈ tb := tc1 (i := 54) (by decide +kernel) rfl
theorem flX0_124_6 : fldOK RX0 124 6 2 := ⟨RX7, TX7, 3, "RasterMint$Raster", rfl, inT6, by decide, tw174, Or.inl rfl⟩
theorem ptX0_124_6 : putOK RX0 124 6 2 .int false := ⟨RX7, TX7, 3, "RasterMint$Raster", tyX7, rfl, inT6, by decide, tw174, Or.inl rfl, tyX7_ok, nmX7, rfl, by decide +kernel, by decide⟩
theorem tw175 : Cond.fieldLink RX6 128 "RasterMint$Raster" "height" "I" ∈ tb := tc1 (i := 55) (by decide +kernel) rfl
theorem flX6_128_6 : fldOK RX6 128 6 2 := ⟨RX7, TX7, 3, "RasterMint$Raster", rfl, inT6, by decide, tw175, Or.inl rfl⟩
theorem ptX6_128_6 : putOK RX6 128 6 2 .int false := ⟨RX7, TX7, 3, "RasterMint$Raster", tyX7, rfl, inT6, by decide, tw175, Or.inl rfl, tyX7_ok, nmX7, rfl, by decide +kernel, by decide⟩
theorem tw176 : Cond.fieldLink RX10 138 "RasterMint$Raster" "height" "I" ∈ tb := tc1 (i := 56) (by decide +kernel) rfl
theorem flX10_138_6 : fldOK RX10 138 6 2 := ⟨RX7, TX7, 3, "RasterMint$Raster", rfl, inT6, by decide, tw176, Or.inl rfl⟩
theorem ptX10_138_6 : putOK RX10 138 6 2 .int false := ⟨RX7, TX7, 3, "RasterMint$Raster", tyX7, rfl, inT6, by decide, tw176, Or.inl rfl, tyX7_ok, nmX7, rfl, by decide +kernel, by decide⟩
theorem tw177 : Cond.fieldLink RX5 111 "RasterMint$Raster" "height" "I" ∈ tb := tc1 (i := 57) (by decide +kernel) rfl
theorem flX5_111_6 : fldOK RX5 111 6 2 := ⟨RX7, TX7, 3, "RasterMint$Raster", rfl, inT6, by decide, tw177, Or.inl rfl⟩
theorem ptX5_111_6 : putOK RX5 111 6 2 .int false := ⟨RX7, TX7, 3, "RasterMint$Raster", tyX7, rfl, inT6, by decide, tw177, Or.inl rfl, tyX7_ok, nmX7, rfl, by decide +kernel, by decide⟩
theorem tw178 : Cond.fieldLink RX8 66 "RasterMint$Raster" "height" "I" ∈ tb := tc1 (i := 58) (by decide +kernel) rfl
theorem flX8_66_6 : fldOK RX8 66 6 2 := ⟨RX7, TX7, 3, "RasterMint$Raster", rfl, inT6, by decide, tw178, Or.inl rfl⟩
theorem ptX8_66_6 : putOK RX8 66 6 2 .int false := ⟨RX7, TX7, 3, "RasterMint$Raster", tyX7, rfl, inT6, by decide, tw178, Or.inl rfl, tyX7_ok, nmX7, rfl, by decide +kernel, by decide⟩
theorem tw194 : Cond.fieldLink RX8 9 "RasterMint$ByteRow" "cells" "[B" ∈ tb := tc1 (i := 74) (by decide +kernel) rfl
theorem flX8_9_1 : fldOK RX8 9 1 0 := ⟨RX1, TX1, 2, "RasterMint$ByteRow", rfl, inT1, by decide, tw194, Or.inl rfl⟩
theorem tw195 : Cond.fieldLink RX1 10 "RasterMint$ByteRow" "cells" "[B" ∈ tb := tc1 (i := 75) (by decide +kernel) rfl
theorem flX1_10_1 : fldOK RX1 10 1 0 := ⟨RX1, TX1, 2, "RasterMint$ByteRow", rfl, inT1, by decide, tw195, Or.inl rfl⟩
theorem ptX1_10_1 : putOK RX1 10 1 0 (.array .byte) true := ⟨RX1, TX1, 2, "RasterMint$ByteRow", tyX1, rfl, inT1, by decide, tw195, Or.inl rfl, tyX1_ok, nmX1, rfl, by decide +kernel, by decide⟩
theorem tw196 : Cond.fieldLink RX10 83 "RasterMint$ByteRow" "count" "I" ∈ tb := tc1 (i := 76) (by decide +kernel) rfl
theorem flX10_83_1 : fldOK RX10 83 1 1 := ⟨RX1, TX1, 2, "RasterMint$ByteRow", rfl, inT1, by decide, tw196, Or.inl rfl⟩
theorem ptX10_83_1 : putOK RX10 83 1 1 .int false := ⟨RX1, TX1, 2, "RasterMint$ByteRow", tyX1, rfl, inT1, by decide, tw196, Or.inl rfl, tyX1_ok, nmX1, rfl, by decide +kernel, by decide⟩
theorem tw197 : Cond.fieldLink RX1 16 "RasterMint$ByteRow" "count" "I" ∈ tb := tc1 (i := 77) (by decide +kernel) rfl
theorem flX1_16_1 : fldOK RX1 16 1 1 := ⟨RX1, TX1, 2, "RasterMint$ByteRow", rfl, inT1, by decide, tw197, Or.inl rfl⟩
theorem ptX1_16_1 : putOK RX1 16 1 1 .int false := ⟨RX1, TX1, 2, "RasterMint$ByteRow", tyX1, rfl, inT1, by decide, tw197, Or.inl rfl, tyX1_ok, nmX1, rfl, by decide +kernel, by decide⟩
theorem tw198 : Cond.fieldLink RX8 18 "RasterMint$ByteRow" "count" "I" ∈ tb := tc1 (i := 78) (by decide +kernel) rfl
theorem flX8_18_1 : fldOK RX8 18 1 1 := ⟨RX1, TX1, 2, "RasterMint$ByteRow", rfl, inT1, by decide, tw198, Or.inl rfl⟩
theorem ptX8_18_1 : putOK RX8 18 1 1 .int false := ⟨RX1, TX1, 2, "RasterMint$ByteRow", tyX1, rfl, inT1, by decide, tw198, Or.inl rfl, tyX1_ok, nmX1, rfl, by decide +kernel, by decide⟩
theorem tw199 : Cond.fieldLink RX0 211 "RasterMint$ByteRow" "count" "I" ∈ tb := tc1 (i := 79) (by decide +kernel) rfl
theorem flX0_211_1 : fldOK RX0 211 1 1 := ⟨RX1, TX1, 2, "RasterMint$ByteRow", rfl, inT1, by decide, tw199, Or.inl rfl⟩
theorem ptX0_211_1 : putOK RX0 211 1 1 .int false := ⟨RX1, TX1, 2, "RasterMint$ByteRow", tyX1, rfl, inT1, by decide, tw199, Or.inl rfl, tyX1_ok, nmX1, rfl, by decide +kernel, by decide⟩
theorem tw212 : Cond.fieldLink RX8 15 "RasterMint$Source" "cells" "[B" ∈ tb := tc1 (i := 92) (by decide +kernel) rfl
theorem flX8_15_7 : fldOK RX8 15 7 0 := ⟨RX8, TX8, 5, "RasterMint$Source", rfl, inT7, by decide, tw212, Or.inl rfl⟩
theorem ptX8_15_7 : putOK RX8 15 7 0 (.array .byte) false := ⟨RX8, TX8, 5, "RasterMint$Source", tyX8, rfl, inT7, by decide, tw212, Or.inl rfl, tyX8_ok, nmX8, rfl, by decide +kernel, by decide⟩
theorem tw213 : Cond.fieldLink RX8 22 "RasterMint$Source" "size" "I" ∈ tb := tc1 (i := 93) (by decide +kernel) rfl
theorem flX8_22_7 : fldOK RX8 22 7 1 := ⟨RX8, TX8, 5, "RasterMint$Source", rfl, inT7, by decide, tw213, Or.inl rfl⟩
theorem ptX8_22_7 : putOK RX8 22 7 1 .int false := ⟨RX8, TX8, 5, "RasterMint$Source", tyX8, rfl, inT7, by decide, tw213, Or.inl rfl, tyX8_ok, nmX8, rfl, by decide +kernel, by decide⟩
theorem tw214 : Cond.fieldLink RX0 25 "RasterMint$Source" "size" "I" ∈ tb := tc1 (i := 94) (by decide +kernel) rfl
theorem flX0_25_7 : fldOK RX0 25 7 1 := ⟨RX8, TX8, 5, "RasterMint$Source", rfl, inT7, by decide, tw214, Or.inl rfl⟩
theorem ptX0_25_7 : putOK RX0 25 7 1 .int false := ⟨RX8, TX8, 5, "RasterMint$Source", tyX8, rfl, inT7, by decide, tw214, Or.inl rfl, tyX8_ok, nmX8, rfl, by decide +kernel, by decide⟩
theorem tw215 : Cond.fieldLink RX5 91 "RasterMint$Source" "size" "I" ∈ tb := tc1 (i := 95) (by decide +kernel) rfl
theorem flX5_91_7 : fldOK RX5 91 7 1 := ⟨RX8, TX8, 5, "RasterMint$Source", rfl, inT7, by decide, tw215, Or.inl rfl⟩
theorem ptX5_91_7 : putOK RX5 91 7 1 .int false := ⟨RX8, TX8, 5, "RasterMint$Source", tyX8, rfl, inT7, by decide, tw215, Or.inl rfl, tyX8_ok, nmX8, rfl, by decide +kernel, by decide⟩
theorem tw216 : Cond.fieldLink RX9 159 "RasterMint$Source" "size" "I" ∈ tb := tc1 (i := 96) (by decide +kernel) rfl
theorem flX9_159_7 : fldOK RX9 159 7 1 := ⟨RX8, TX8, 5, "RasterMint$Source", rfl, inT7, by decide, tw216, Or.inl rfl⟩
theorem ptX9_159_7 : putOK RX9 159 7 1 .int false := ⟨RX8, TX8, 5, "RasterMint$Source", tyX8, rfl, inT7, by decide, tw216, Or.inl rfl, tyX8_ok, nmX8, rfl, by decide +kernel, by decide⟩
theorem tw217 : Cond.fieldLink RX8 25 "RasterMint$Source" "at" "I" ∈ tb := tc1 (i := 97) (by decide +kernel) rfl
theorem flX8_25_7 : fldOK RX8 25 7 2 := ⟨RX8, TX8, 5, "RasterMint$Source", rfl, inT7, by decide, tw217, Or.inl rfl⟩
theorem ptX8_25_7 : putOK RX8 25 7 2 .int false := ⟨RX8, TX8, 5, "RasterMint$Source", tyX8, rfl, inT7, by decide, tw217, Or.inl rfl, tyX8_ok, nmX8, rfl, by decide +kernel, by decide⟩
theorem tw218 : Cond.fieldLink RX6 25 "RasterMint$Source" "at" "I" ∈ tb := tc1 (i := 98) (by decide +kernel) rfl
theorem flX6_25_7 : fldOK RX6 25 7 2 := ⟨RX8, TX8, 5, "RasterMint$Source", rfl, inT7, by decide, tw218, Or.inl rfl⟩
theorem ptX6_25_7 : putOK RX6 25 7 2 .int false := ⟨RX8, TX8, 5, "RasterMint$Source", tyX8, rfl, inT7, by decide, tw218, Or.inl rfl, tyX8_ok, nmX8, rfl, by decide +kernel, by decide⟩
theorem tw219 : Cond.fieldLink RX5 47 "RasterMint$Source" "at" "I" ∈ tb := tc1 (i := 99) (by decide +kernel) rfl
theorem flX5_47_7 : fldOK RX5 47 7 2 := ⟨RX8, TX8, 5, "RasterMint$Source", rfl, inT7, by decide, tw219, Or.inl rfl⟩
theorem ptX5_47_7 : putOK RX5 47 7 2 .int false := ⟨RX8, TX8, 5, "RasterMint$Source", tyX8, rfl, inT7, by decide, tw219, Or.inl rfl, tyX8_ok, nmX8, rfl, by decide +kernel, by decide⟩
theorem tw220 : Cond.fieldLink RX0 57 "RasterMint$Source" "at" "I" ∈ tb := tc1 (i := 100) (by decide +kernel) rfl
theorem flX0_57_7 : fldOK RX0 57 7 2 := ⟨RX8, TX8, 5, "RasterMint$Source", rfl, inT7, by decide, tw220, Or.inl rfl⟩
theorem ptX0_57_7 : putOK RX0 57 7 2 .int false := ⟨RX8, TX8, 5, "RasterMint$Source", tyX8, rfl, inT7, by decide, tw220, Or.inl rfl, tyX8_ok, nmX8, rfl, by decide +kernel, by decide⟩
theorem tw221 : Cond.fieldLink RX4 90 "RasterMint$Source" "at" "I" ∈ tb := tc1 (i := 101) (by decide +kernel) rfl
theorem flX4_90_7 : fldOK RX4 90 7 2 := ⟨RX8, TX8, 5, "RasterMint$Source", rfl, inT7, by decide, tw221, Or.inl rfl⟩
theorem ptX4_90_7 : putOK RX4 90 7 2 .int false := ⟨RX8, TX8, 5, "RasterMint$Source", tyX8, rfl, inT7, by decide, tw221, Or.inl rfl, tyX8_ok, nmX8, rfl, by decide +kernel, by decide⟩
theorem tw222 : Cond.fieldLink RX9 74 "RasterMint$Source" "at" "I" ∈ tb := tc1 (i := 102) (by decide +kernel) rfl
theorem flX9_74_7 : fldOK RX9 74 7 2 := ⟨RX8, TX8, 5, "RasterMint$Source", rfl, inT7, by decide, tw222, Or.inl rfl⟩
theorem ptX9_74_7 : putOK RX9 74 7 2 .int false := ⟨RX8, TX8, 5, "RasterMint$Source", tyX8, rfl, inT7, by decide, tw222, Or.inl rfl, tyX8_ok, nmX8, rfl, by decide +kernel, by decide⟩
theorem tw223 : Cond.fieldLink RX8 28 "RasterMint$Source" "fault" "I" ∈ tb := tc1 (i := 103) (by decide +kernel) rfl
theorem flX8_28_7 : fldOK RX8 28 7 3 := ⟨RX8, TX8, 5, "RasterMint$Source", rfl, inT7, by decide, tw223, Or.inl rfl⟩
theorem ptX8_28_7 : putOK RX8 28 7 3 .int false := ⟨RX8, TX8, 5, "RasterMint$Source", tyX8, rfl, inT7, by decide, tw223, Or.inl rfl, tyX8_ok, nmX8, rfl, by decide +kernel, by decide⟩
theorem tw224 : Cond.fieldLink RX10 209 "RasterMint$Source" "fault" "I" ∈ tb := tc1 (i := 104) (by decide +kernel) rfl
theorem flX10_209_7 : fldOK RX10 209 7 3 := ⟨RX8, TX8, 5, "RasterMint$Source", rfl, inT7, by decide, tw224, Or.inl rfl⟩
theorem ptX10_209_7 : putOK RX10 209 7 3 .int false := ⟨RX8, TX8, 5, "RasterMint$Source", tyX8, rfl, inT7, by decide, tw224, Or.inl rfl, tyX8_ok, nmX8, rfl, by decide +kernel, by decide⟩
theorem tw225 : Cond.fieldLink RX8 31 "RasterMint$Source" "faultPlace" "I" ∈ tb := tc1 (i := 105) (by decide +kernel) rfl
theorem flX8_31_7 : fldOK RX8 31 7 4 := ⟨RX8, TX8, 5, "RasterMint$Source", rfl, inT7, by decide, tw225, Or.inl rfl⟩
theorem ptX8_31_7 : putOK RX8 31 7 4 .int false := ⟨RX8, TX8, 5, "RasterMint$Source", tyX8, rfl, inT7, by decide, tw225, Or.inl rfl, tyX8_ok, nmX8, rfl, by decide +kernel, by decide⟩
theorem tw226 : Cond.fieldLink RX10 114 "RasterMint$Source" "faultPlace" "I" ∈ tb := tc1 (i := 106) (by decide +kernel) rfl
theorem flX10_114_7 : fldOK RX10 114 7 4 := ⟨RX8, TX8, 5, "RasterMint$Source", rfl, inT7, by decide, tw226, Or.inl rfl⟩
theorem ptX10_114_7 : putOK RX10 114 7 4 .int false := ⟨RX8, TX8, 5, "RasterMint$Source", tyX8, rfl, inT7, by decide, tw226, Or.inl rfl, tyX8_ok, nmX8, rfl, by decide +kernel, by decide⟩
theorem tw244 : Cond.fieldLink RX3 9 "RasterMint$Palette" "colours" "[I" ∈ tb := tc1 (i := 124) (by decide +kernel) rfl
theorem flX3_9_2 : fldOK RX3 9 2 0 := ⟨RX3, TX3, 3, "RasterMint$Palette", rfl, inT2, by decide, tw244, Or.inl rfl⟩
theorem ptX3_9_2 : putOK RX3 9 2 0 (.array .int) true := ⟨RX3, TX3, 3, "RasterMint$Palette", tyX3, rfl, inT2, by decide, tw244, Or.inl rfl, tyX3_ok, nmX3, rfl, by decide +kernel, by decide⟩
theorem tw245 : Cond.fieldLink RX3 15 "RasterMint$Palette" "slots" "[I" ∈ tb := tc1 (i := 125) (by decide +kernel) rfl
theorem flX3_15_2 : fldOK RX3 15 2 1 := ⟨RX3, TX3, 3, "RasterMint$Palette", rfl, inT2, by decide, tw245, Or.inl rfl⟩
theorem ptX3_15_2 : putOK RX3 15 2 1 (.array .int) true := ⟨RX3, TX3, 3, "RasterMint$Palette", tyX3, rfl, inT2, by decide, tw245, Or.inl rfl, tyX3_ok, nmX3, rfl, by decide +kernel, by decide⟩
theorem tw246 : Cond.fieldLink RX3 24 "RasterMint$Palette" "count" "I" ∈ tb := tc1 (i := 126) (by decide +kernel) rfl
theorem flX3_24_2 : fldOK RX3 24 2 2 := ⟨RX3, TX3, 3, "RasterMint$Palette", rfl, inT2, by decide, tw246, Or.inl rfl⟩
theorem ptX3_24_2 : putOK RX3 24 2 2 .int false := ⟨RX3, TX3, 3, "RasterMint$Palette", tyX3, rfl, inT2, by decide, tw246, Or.inl rfl, tyX3_ok, nmX3, rfl, by decide +kernel, by decide⟩
theorem tw247 : Cond.fieldLink RX9 186 "RasterMint$Palette" "count" "I" ∈ tb := tc1 (i := 127) (by decide +kernel) rfl
theorem flX9_186_2 : fldOK RX9 186 2 2 := ⟨RX3, TX3, 3, "RasterMint$Palette", rfl, inT2, by decide, tw247, Or.inl rfl⟩
theorem ptX9_186_2 : putOK RX9 186 2 2 .int false := ⟨RX3, TX3, 3, "RasterMint$Palette", tyX3, rfl, inT2, by decide, tw247, Or.inl rfl, tyX3_ok, nmX3, rfl, by decide +kernel, by decide⟩
theorem tw248 : Cond.fieldLink RX10 170 "RasterMint$Palette" "count" "I" ∈ tb := tc1 (i := 128) (by decide +kernel) rfl
theorem flX10_170_2 : fldOK RX10 170 2 2 := ⟨RX3, TX3, 3, "RasterMint$Palette", rfl, inT2, by decide, tw248, Or.inl rfl⟩
theorem ptX10_170_2 : putOK RX10 170 2 2 .int false := ⟨RX3, TX3, 3, "RasterMint$Palette", tyX3, rfl, inT2, by decide, tw248, Or.inl rfl, tyX3_ok, nmX3, rfl, by decide +kernel, by decide⟩
theorem tw249 : Cond.fieldLink RX0 183 "RasterMint$Palette" "count" "I" ∈ tb := tc1 (i := 129) (by decide +kernel) rfl
theorem flX0_183_2 : fldOK RX0 183 2 2 := ⟨RX3, TX3, 3, "RasterMint$Palette", rfl, inT2, by decide, tw249, Or.inl rfl⟩
theorem ptX0_183_2 : putOK RX0 183 2 2 .int false := ⟨RX3, TX3, 3, "RasterMint$Palette", tyX3, rfl, inT2, by decide, tw249, Or.inl rfl, tyX3_ok, nmX3, rfl, by decide +kernel, by decide⟩
theorem tw268 : Cond.fieldLink RX6 9 "RasterMint$Qoi" "places" "[I" ∈ tb := tc1 (i := 148) (by decide +kernel) rfl
theorem flX6_9_5 : fldOK RX6 9 5 3 := ⟨RX6, TX6, 5, "RasterMint$Qoi", rfl, inT5, by decide, tw268, Or.inl rfl⟩
theorem ptX6_9_5 : putOK RX6 9 5 3 (.array .int) true := ⟨RX6, TX6, 5, "RasterMint$Qoi", tyX6, rfl, inT5, by decide, tw268, Or.inl rfl, tyX6_ok, nmX6, rfl, by decide +kernel, by decide⟩
theorem tw269 : Cond.fieldLink RX6 78 "RasterMint$Qoi" "last" "I" ∈ tb := tc1 (i := 149) (by decide +kernel) rfl
theorem flX6_78_5 : fldOK RX6 78 5 4 := ⟨RX6, TX6, 5, "RasterMint$Qoi", rfl, inT5, by decide, tw269, Or.inl rfl⟩
theorem ptX6_78_5 : putOK RX6 78 5 4 .int false := ⟨RX6, TX6, 5, "RasterMint$Qoi", tyX6, rfl, inT5, by decide, tw269, Or.inl rfl, tyX6_ok, nmX6, rfl, by decide +kernel, by decide⟩
theorem tw270 : Cond.fieldLink RX5 29 "RasterMint$Pnm" "first" "I" ∈ tb := tc1 (i := 150) (by decide +kernel) rfl
theorem tw271 : Cond.sameField "RasterMint$Pnm" "RasterMint$Format" "first" "I" ∈ tb := tc1 (i := 151) (by decide +kernel) rfl
theorem flX5_29_4 : fldOK RX5 29 4 0 := ⟨RX5, TX5, 4, "RasterMint$Pnm", rfl, inT4, by decide, tw270, Or.inr tw271⟩
theorem ptX5_29_4 : putOK RX5 29 4 0 .int false := ⟨RX5, TX5, 4, "RasterMint$Pnm", tyX5, rfl, inT4, by decide, tw270, Or.inr tw271, tyX5_ok, nmX5, rfl, by decide +kernel, by decide⟩
theorem tw272 : Cond.fieldLink RX6 37 "RasterMint$Qoi" "first" "I" ∈ tb := tc1 (i := 152) (by decide +kernel) rfl
theorem tw273 : Cond.sameField "RasterMint$Qoi" "RasterMint$Format" "first" "I" ∈ tb := tc1 (i := 153) (by decide +kernel) rfl
theorem flX6_37_5 : fldOK RX6 37 5 0 := ⟨RX6, TX6, 5, "RasterMint$Qoi", rfl, inT5, by decide, tw272, Or.inr tw273⟩
theorem ptX6_37_5 : putOK RX6 37 5 0 .int false := ⟨RX6, TX6, 5, "RasterMint$Qoi", tyX6, rfl, inT5, by decide, tw272, Or.inr tw273, tyX6_ok, nmX6, rfl, by decide +kernel, by decide⟩
theorem tw274 : Cond.fieldLink RX9 59 "RasterMint$Tga" "first" "I" ∈ tb := tc1 (i := 154) (by decide +kernel) rfl
theorem tw275 : Cond.sameField "RasterMint$Tga" "RasterMint$Format" "first" "I" ∈ tb := tc1 (i := 155) (by decide +kernel) rfl
theorem flX9_59_8 : fldOK RX9 59 8 0 := ⟨RX9, TX9, 17, "RasterMint$Tga", rfl, inT8, by decide, tw274, Or.inr tw275⟩
theorem ptX9_59_8 : putOK RX9 59 8 0 .int false := ⟨RX9, TX9, 17, "RasterMint$Tga", tyX9, rfl, inT8, by decide, tw274, Or.inr tw275, tyX9_ok, nmX9, rfl, by decide +kernel, by decide⟩
theorem tw276 : Cond.fieldLink RX0 75 "RasterMint$Bmp" "first" "I" ∈ tb := tc1 (i := 156) (by decide +kernel) rfl
theorem tw277 : Cond.sameField "RasterMint$Bmp" "RasterMint$Format" "first" "I" ∈ tb := tc1 (i := 157) (by decide +kernel) rfl
theorem flX0_75_0 : fldOK RX0 75 0 0 := ⟨RX0, TX0, 12, "RasterMint$Bmp", rfl, inT0, by decide, tw276, Or.inr tw277⟩
theorem ptX0_75_0 : putOK RX0 75 0 0 .int false := ⟨RX0, TX0, 12, "RasterMint$Bmp", tyX0, rfl, inT0, by decide, tw276, Or.inr tw277, tyX0_ok, nmX0, rfl, by decide +kernel, by decide⟩
theorem tw278 : Cond.fieldLink RX4 78 "RasterMint$Pcx" "first" "I" ∈ tb := tc1 (i := 158) (by decide +kernel) rfl
theorem tw279 : Cond.sameField "RasterMint$Pcx" "RasterMint$Format" "first" "I" ∈ tb := tc1 (i := 159) (by decide +kernel) rfl
theorem flX4_78_3 : fldOK RX4 78 3 0 := ⟨RX4, TX4, 10, "RasterMint$Pcx", rfl, inT3, by decide, tw278, Or.inr tw279⟩
theorem ptX4_78_3 : putOK RX4 78 3 0 .int false := ⟨RX4, TX4, 10, "RasterMint$Pcx", tyX4, rfl, inT3, by decide, tw278, Or.inr tw279, tyX4_ok, nmX4, rfl, by decide +kernel, by decide⟩
theorem tw280 : Cond.fieldLink RX10 212 "RasterMint$Format" "first" "I" ∈ tb := tc1 (i := 160) (by decide +kernel) rfl
theorem flX10_212_0 : fldOK RX10 212 0 0 := ⟨RX0, TX0, 12, "RasterMint$Format", rfl, inT0, by decide, tw280, Or.inl rfl⟩
theorem ptX10_212_0 : putOK RX10 212 0 0 .int false := ⟨RX0, TX0, 12, "RasterMint$Format", tyX0, rfl, inT0, by decide, tw280, Or.inl rfl, tyX0_ok, nmX0, rfl, by decide +kernel, by decide⟩
theorem flX10_212_3 : fldOK RX10 212 3 0 := ⟨RX4, TX4, 10, "RasterMint$Format", rfl, inT3, by decide, tw280, Or.inl rfl⟩
theorem ptX10_212_3 : putOK RX10 212 3 0 .int false := ⟨RX4, TX4, 10, "RasterMint$Format", tyX4, rfl, inT3, by decide, tw280, Or.inl rfl, tyX4_ok, nmX4, rfl, by decide +kernel, by decide⟩
theorem flX10_212_4 : fldOK RX10 212 4 0 := ⟨RX5, TX5, 4, "RasterMint$Format", rfl, inT4, by decide, tw280, Or.inl rfl⟩
theorem ptX10_212_4 : putOK RX10 212 4 0 .int false := ⟨RX5, TX5, 4, "RasterMint$Format", tyX5, rfl, inT4, by decide, tw280, Or.inl rfl, tyX5_ok, nmX5, rfl, by decide +kernel, by decide⟩
theorem flX10_212_5 : fldOK RX10 212 5 0 := ⟨RX6, TX6, 5, "RasterMint$Format", rfl, inT5, by decide, tw280, Or.inl rfl⟩
theorem ptX10_212_5 : putOK RX10 212 5 0 .int false := ⟨RX6, TX6, 5, "RasterMint$Format", tyX6, rfl, inT5, by decide, tw280, Or.inl rfl, tyX6_ok, nmX6, rfl, by decide +kernel, by decide⟩
theorem flX10_212_8 : fldOK RX10 212 8 0 := ⟨RX9, TX9, 17, "RasterMint$Format", rfl, inT8, by decide, tw280, Or.inl rfl⟩
theorem ptX10_212_8 : putOK RX10 212 8 0 .int false := ⟨RX9, TX9, 17, "RasterMint$Format", tyX9, rfl, inT8, by decide, tw280, Or.inl rfl, tyX9_ok, nmX9, rfl, by decide +kernel, by decide⟩
theorem tw281 : Cond.fieldLink RX5 25 "RasterMint$Pnm" "second" "I" ∈ tb := tc1 (i := 161) (by decide +kernel) rfl
theorem tw282 : Cond.sameField "RasterMint$Pnm" "RasterMint$Format" "second" "I" ∈ tb := tc1 (i := 162) (by decide +kernel) rfl
theorem flX5_25_4 : fldOK RX5 25 4 1 := ⟨RX5, TX5, 4, "RasterMint$Pnm", rfl, inT4, by decide, tw281, Or.inr tw282⟩
theorem ptX5_25_4 : putOK RX5 25 4 1 .int false := ⟨RX5, TX5, 4, "RasterMint$Pnm", tyX5, rfl, inT4, by decide, tw281, Or.inr tw282, tyX5_ok, nmX5, rfl, by decide +kernel, by decide⟩
theorem tw283 : Cond.fieldLink RX6 40 "RasterMint$Qoi" "second" "I" ∈ tb := tc1 (i := 163) (by decide +kernel) rfl
theorem tw284 : Cond.sameField "RasterMint$Qoi" "RasterMint$Format" "second" "I" ∈ tb := tc1 (i := 164) (by decide +kernel) rfl
theorem flX6_40_5 : fldOK RX6 40 5 1 := ⟨RX6, TX6, 5, "RasterMint$Qoi", rfl, inT5, by decide, tw283, Or.inr tw284⟩
theorem ptX6_40_5 : putOK RX6 40 5 1 .int false := ⟨RX6, TX6, 5, "RasterMint$Qoi", tyX6, rfl, inT5, by decide, tw283, Or.inr tw284, tyX6_ok, nmX6, rfl, by decide +kernel, by decide⟩
theorem tw285 : Cond.fieldLink RX9 65 "RasterMint$Tga" "second" "I" ∈ tb := tc1 (i := 165) (by decide +kernel) rfl
theorem tw286 : Cond.sameField "RasterMint$Tga" "RasterMint$Format" "second" "I" ∈ tb := tc1 (i := 166) (by decide +kernel) rfl
theorem flX9_65_8 : fldOK RX9 65 8 1 := ⟨RX9, TX9, 17, "RasterMint$Tga", rfl, inT8, by decide, tw285, Or.inr tw286⟩
theorem ptX9_65_8 : putOK RX9 65 8 1 .int false := ⟨RX9, TX9, 17, "RasterMint$Tga", tyX9, rfl, inT8, by decide, tw285, Or.inr tw286, tyX9_ok, nmX9, rfl, by decide +kernel, by decide⟩
theorem tw287 : Cond.fieldLink RX0 78 "RasterMint$Bmp" "second" "I" ∈ tb := tc1 (i := 167) (by decide +kernel) rfl
theorem tw288 : Cond.sameField "RasterMint$Bmp" "RasterMint$Format" "second" "I" ∈ tb := tc1 (i := 168) (by decide +kernel) rfl
theorem flX0_78_0 : fldOK RX0 78 0 1 := ⟨RX0, TX0, 12, "RasterMint$Bmp", rfl, inT0, by decide, tw287, Or.inr tw288⟩
theorem ptX0_78_0 : putOK RX0 78 0 1 .int false := ⟨RX0, TX0, 12, "RasterMint$Bmp", tyX0, rfl, inT0, by decide, tw287, Or.inr tw288, tyX0_ok, nmX0, rfl, by decide +kernel, by decide⟩
theorem tw289 : Cond.fieldLink RX4 81 "RasterMint$Pcx" "second" "I" ∈ tb := tc1 (i := 169) (by decide +kernel) rfl
theorem tw290 : Cond.sameField "RasterMint$Pcx" "RasterMint$Format" "second" "I" ∈ tb := tc1 (i := 170) (by decide +kernel) rfl
theorem flX4_81_3 : fldOK RX4 81 3 1 := ⟨RX4, TX4, 10, "RasterMint$Pcx", rfl, inT3, by decide, tw289, Or.inr tw290⟩
theorem ptX4_81_3 : putOK RX4 81 3 1 .int false := ⟨RX4, TX4, 10, "RasterMint$Pcx", tyX4, rfl, inT3, by decide, tw289, Or.inr tw290, tyX4_ok, nmX4, rfl, by decide +kernel, by decide⟩
theorem tw291 : Cond.fieldLink RX10 215 "RasterMint$Format" "second" "I" ∈ tb := tc1 (i := 171) (by decide +kernel) rfl
theorem flX10_215_0 : fldOK RX10 215 0 1 := ⟨RX0, TX0, 12, "RasterMint$Format", rfl, inT0, by decide, tw291, Or.inl rfl⟩
theorem ptX10_215_0 : putOK RX10 215 0 1 .int false := ⟨RX0, TX0, 12, "RasterMint$Format", tyX0, rfl, inT0, by decide, tw291, Or.inl rfl, tyX0_ok, nmX0, rfl, by decide +kernel, by decide⟩
theorem flX10_215_3 : fldOK RX10 215 3 1 := ⟨RX4, TX4, 10, "RasterMint$Format", rfl, inT3, by decide, tw291, Or.inl rfl⟩
theorem ptX10_215_3 : putOK RX10 215 3 1 .int false := ⟨RX4, TX4, 10, "RasterMint$Format", tyX4, rfl, inT3, by decide, tw291, Or.inl rfl, tyX4_ok, nmX4, rfl, by decide +kernel, by decide⟩
theorem flX10_215_4 : fldOK RX10 215 4 1 := ⟨RX5, TX5, 4, "RasterMint$Format", rfl, inT4, by decide, tw291, Or.inl rfl⟩
theorem ptX10_215_4 : putOK RX10 215 4 1 .int false := ⟨RX5, TX5, 4, "RasterMint$Format", tyX5, rfl, inT4, by decide, tw291, Or.inl rfl, tyX5_ok, nmX5, rfl, by decide +kernel, by decide⟩
theorem flX10_215_5 : fldOK RX10 215 5 1 := ⟨RX6, TX6, 5, "RasterMint$Format", rfl, inT5, by decide, tw291, Or.inl rfl⟩
theorem ptX10_215_5 : putOK RX10 215 5 1 .int false := ⟨RX6, TX6, 5, "RasterMint$Format", tyX6, rfl, inT5, by decide, tw291, Or.inl rfl, tyX6_ok, nmX6, rfl, by decide +kernel, by decide⟩
theorem flX10_215_8 : fldOK RX10 215 8 1 := ⟨RX9, TX9, 17, "RasterMint$Format", rfl, inT8, by decide, tw291, Or.inl rfl⟩
theorem ptX10_215_8 : putOK RX10 215 8 1 .int false := ⟨RX9, TX9, 17, "RasterMint$Format", tyX9, rfl, inT8, by decide, tw291, Or.inl rfl, tyX9_ok, nmX9, rfl, by decide +kernel, by decide⟩
theorem tw292 : Cond.fieldLink RX9 71 "RasterMint$Tga" "third" "I" ∈ tb := tc1 (i := 172) (by decide +kernel) rfl
theorem tw293 : Cond.sameField "RasterMint$Tga" "RasterMint$Format" "third" "I" ∈ tb := tc1 (i := 173) (by decide +kernel) rfl
theorem flX9_71_8 : fldOK RX9 71 8 2 := ⟨RX9, TX9, 17, "RasterMint$Tga", rfl, inT8, by decide, tw292, Or.inr tw293⟩
theorem ptX9_71_8 : putOK RX9 71 8 2 .int false := ⟨RX9, TX9, 17, "RasterMint$Tga", tyX9, rfl, inT8, by decide, tw292, Or.inr tw293, tyX9_ok, nmX9, rfl, by decide +kernel, by decide⟩
theorem tw294 : Cond.fieldLink RX6 47 "RasterMint$Qoi" "third" "I" ∈ tb := tc1 (i := 174) (by decide +kernel) rfl
theorem tw295 : Cond.sameField "RasterMint$Qoi" "RasterMint$Format" "third" "I" ∈ tb := tc1 (i := 175) (by decide +kernel) rfl
theorem flX6_47_5 : fldOK RX6 47 5 2 := ⟨RX6, TX6, 5, "RasterMint$Qoi", rfl, inT5, by decide, tw294, Or.inr tw295⟩
theorem ptX6_47_5 : putOK RX6 47 5 2 .int false := ⟨RX6, TX6, 5, "RasterMint$Qoi", tyX6, rfl, inT5, by decide, tw294, Or.inr tw295, tyX6_ok, nmX6, rfl, by decide +kernel, by decide⟩
theorem tw296 : Cond.fieldLink RX5 50 "RasterMint$Pnm" "third" "I" ∈ tb := tc1 (i := 176) (by decide +kernel) rfl
theorem tw297 : Cond.sameField "RasterMint$Pnm" "RasterMint$Format" "third" "I" ∈ tb := tc1 (i := 177) (by decide +kernel) rfl
theorem flX5_50_4 : fldOK RX5 50 4 2 := ⟨RX5, TX5, 4, "RasterMint$Pnm", rfl, inT4, by decide, tw296, Or.inr tw297⟩
theorem ptX5_50_4 : putOK RX5 50 4 2 .int false := ⟨RX5, TX5, 4, "RasterMint$Pnm", tyX5, rfl, inT4, by decide, tw296, Or.inr tw297, tyX5_ok, nmX5, rfl, by decide +kernel, by decide⟩
theorem tw298 : Cond.fieldLink RX0 84 "RasterMint$Bmp" "third" "I" ∈ tb := tc1 (i := 178) (by decide +kernel) rfl
theorem tw299 : Cond.sameField "RasterMint$Bmp" "RasterMint$Format" "third" "I" ∈ tb := tc1 (i := 179) (by decide +kernel) rfl
theorem flX0_84_0 : fldOK RX0 84 0 2 := ⟨RX0, TX0, 12, "RasterMint$Bmp", rfl, inT0, by decide, tw298, Or.inr tw299⟩
theorem ptX0_84_0 : putOK RX0 84 0 2 .int false := ⟨RX0, TX0, 12, "RasterMint$Bmp", tyX0, rfl, inT0, by decide, tw298, Or.inr tw299, tyX0_ok, nmX0, rfl, by decide +kernel, by decide⟩
theorem tw300 : Cond.fieldLink RX4 87 "RasterMint$Pcx" "third" "I" ∈ tb := tc1 (i := 180) (by decide +kernel) rfl
theorem tw301 : Cond.sameField "RasterMint$Pcx" "RasterMint$Format" "third" "I" ∈ tb := tc1 (i := 181) (by decide +kernel) rfl
theorem flX4_87_3 : fldOK RX4 87 3 2 := ⟨RX4, TX4, 10, "RasterMint$Pcx", rfl, inT3, by decide, tw300, Or.inr tw301⟩
theorem ptX4_87_3 : putOK RX4 87 3 2 .int false := ⟨RX4, TX4, 10, "RasterMint$Pcx", tyX4, rfl, inT3, by decide, tw300, Or.inr tw301, tyX4_ok, nmX4, rfl, by decide +kernel, by decide⟩
theorem tw302 : Cond.fieldLink RX10 218 "RasterMint$Format" "third" "I" ∈ tb := tc1 (i := 182) (by decide +kernel) rfl
theorem flX10_218_0 : fldOK RX10 218 0 2 := ⟨RX0, TX0, 12, "RasterMint$Format", rfl, inT0, by decide, tw302, Or.inl rfl⟩
theorem ptX10_218_0 : putOK RX10 218 0 2 .int false := ⟨RX0, TX0, 12, "RasterMint$Format", tyX0, rfl, inT0, by decide, tw302, Or.inl rfl, tyX0_ok, nmX0, rfl, by decide +kernel, by decide⟩
theorem flX10_218_3 : fldOK RX10 218 3 2 := ⟨RX4, TX4, 10, "RasterMint$Format", rfl, inT3, by decide, tw302, Or.inl rfl⟩
theorem ptX10_218_3 : putOK RX10 218 3 2 .int false := ⟨RX4, TX4, 10, "RasterMint$Format", tyX4, rfl, inT3, by decide, tw302, Or.inl rfl, tyX4_ok, nmX4, rfl, by decide +kernel, by decide⟩
theorem flX10_218_4 : fldOK RX10 218 4 2 := ⟨RX5, TX5, 4, "RasterMint$Format", rfl, inT4, by decide, tw302, Or.inl rfl⟩
theorem ptX10_218_4 : putOK RX10 218 4 2 .int false := ⟨RX5, TX5, 4, "RasterMint$Format", tyX5, rfl, inT4, by decide, tw302, Or.inl rfl, tyX5_ok, nmX5, rfl, by decide +kernel, by decide⟩
theorem flX10_218_5 : fldOK RX10 218 5 2 := ⟨RX6, TX6, 5, "RasterMint$Format", rfl, inT5, by decide, tw302, Or.inl rfl⟩
theorem ptX10_218_5 : putOK RX10 218 5 2 .int false := ⟨RX6, TX6, 5, "RasterMint$Format", tyX6, rfl, inT5, by decide, tw302, Or.inl rfl, tyX6_ok, nmX6, rfl, by decide +kernel, by decide⟩
theorem flX10_218_8 : fldOK RX10 218 8 2 := ⟨RX9, TX9, 17, "RasterMint$Format", rfl, inT8, by decide, tw302, Or.inl rfl⟩
theorem ptX10_218_8 : putOK RX10 218 8 2 .int false := ⟨RX9, TX9, 17, "RasterMint$Format", tyX9, rfl, inT8, by decide, tw302, Or.inl rfl, tyX9_ok, nmX9, rfl, by decide +kernel, by decide⟩
theorem tw320 : Cond.fieldLink RX5 77 "RasterMint$Pnm" "numberPlace" "I" ∈ tb := tc1 (i := 200) (by decide +kernel) rfl
theorem flX5_77_4 : fldOK RX5 77 4 3 := ⟨RX5, TX5, 4, "RasterMint$Pnm", rfl, inT4, by decide, tw320, Or.inl rfl⟩
theorem ptX5_77_4 : putOK RX5 77 4 3 .int false := ⟨RX5, TX5, 4, "RasterMint$Pnm", tyX5, rfl, inT4, by decide, tw320, Or.inl rfl, tyX5_ok, nmX5, rfl, by decide +kernel, by decide⟩
theorem tw333 : Cond.fieldLink RX0 15 "RasterMint$Bmp" "palette" "LRasterMint$Palette;" ∈ tb := tc1 (i := 213) (by decide +kernel) rfl
theorem flX0_15_0 : fldOK RX0 15 0 3 := ⟨RX0, TX0, 12, "RasterMint$Bmp", rfl, inT0, by decide, tw333, Or.inl rfl⟩
theorem ptX0_15_0 : putOK RX0 15 0 3 (.object "RasterMint$Palette") true := ⟨RX0, TX0, 12, "RasterMint$Bmp", tyX0, rfl, inT0, by decide, tw333, Or.inl rfl, tyX0_ok, nmX0, rfl, by decide +kernel, by decide⟩
theorem tw334 : Cond.fieldLink RX0 9 "RasterMint$Bmp" "colours" "[I" ∈ tb := tc1 (i := 214) (by decide +kernel) rfl
theorem flX0_9_0 : fldOK RX0 9 0 4 := ⟨RX0, TX0, 12, "RasterMint$Bmp", rfl, inT0, by decide, tw334, Or.inl rfl⟩
theorem ptX0_9_0 : putOK RX0 9 0 4 (.array .int) true := ⟨RX0, TX0, 12, "RasterMint$Bmp", tyX0, rfl, inT0, by decide, tw334, Or.inl rfl, tyX0_ok, nmX0, rfl, by decide +kernel, by decide⟩
theorem tw335 : Cond.fieldLink RX0 91 "RasterMint$Bmp" "topFirst" "Z" ∈ tb := tc1 (i := 215) (by decide +kernel) rfl
theorem flX0_91_0 : fldOK RX0 91 0 5 := ⟨RX0, TX0, 12, "RasterMint$Bmp", rfl, inT0, by decide, tw335, Or.inl rfl⟩
theorem ptX0_91_0 : putOK RX0 91 0 5 .boolean false := ⟨RX0, TX0, 12, "RasterMint$Bmp", tyX0, rfl, inT0, by decide, tw335, Or.inl rfl, tyX0_ok, nmX0, rfl, by decide +kernel, by decide⟩
theorem tw336 : Cond.fieldLink RX0 72 "RasterMint$Bmp" "bits" "I" ∈ tb := tc1 (i := 216) (by decide +kernel) rfl
theorem flX0_72_0 : fldOK RX0 72 0 6 := ⟨RX0, TX0, 12, "RasterMint$Bmp", rfl, inT0, by decide, tw336, Or.inl rfl⟩
theorem ptX0_72_0 : putOK RX0 72 0 6 .int false := ⟨RX0, TX0, 12, "RasterMint$Bmp", tyX0, rfl, inT0, by decide, tw336, Or.inl rfl, tyX0_ok, nmX0, rfl, by decide +kernel, by decide⟩
theorem tw337 : Cond.fieldLink RX0 60 "RasterMint$Bmp" "compression" "I" ∈ tb := tc1 (i := 217) (by decide +kernel) rfl
theorem flX0_60_0 : fldOK RX0 60 0 7 := ⟨RX0, TX0, 12, "RasterMint$Bmp", rfl, inT0, by decide, tw337, Or.inl rfl⟩
theorem ptX0_60_0 : putOK RX0 60 0 7 .int false := ⟨RX0, TX0, 12, "RasterMint$Bmp", tyX0, rfl, inT0, by decide, tw337, Or.inl rfl, tyX0_ok, nmX0, rfl, by decide +kernel, by decide⟩
theorem tw338 : Cond.fieldLink RX0 81 "RasterMint$Bmp" "used" "I" ∈ tb := tc1 (i := 218) (by decide +kernel) rfl
theorem flX0_81_0 : fldOK RX0 81 0 8 := ⟨RX0, TX0, 12, "RasterMint$Bmp", rfl, inT0, by decide, tw338, Or.inl rfl⟩
theorem ptX0_81_0 : putOK RX0 81 0 8 .int false := ⟨RX0, TX0, 12, "RasterMint$Bmp", tyX0, rfl, inT0, by decide, tw338, Or.inl rfl, tyX0_ok, nmX0, rfl, by decide +kernel, by decide⟩
theorem tw339 : Cond.fieldLink RX0 137 "RasterMint$Bmp" "packed" "I" ∈ tb := tc1 (i := 219) (by decide +kernel) rfl
theorem flX0_137_0 : fldOK RX0 137 0 9 := ⟨RX0, TX0, 12, "RasterMint$Bmp", rfl, inT0, by decide, tw339, Or.inl rfl⟩
theorem ptX0_137_0 : putOK RX0 137 0 9 .int false := ⟨RX0, TX0, 12, "RasterMint$Bmp", tyX0, rfl, inT0, by decide, tw339, Or.inl rfl, tyX0_ok, nmX0, rfl, by decide +kernel, by decide⟩
theorem tw340 : Cond.fieldLink RX0 150 "RasterMint$Bmp" "column" "I" ∈ tb := tc1 (i := 220) (by decide +kernel) rfl
theorem flX0_150_0 : fldOK RX0 150 0 10 := ⟨RX0, TX0, 12, "RasterMint$Bmp", rfl, inT0, by decide, tw340, Or.inl rfl⟩
theorem ptX0_150_0 : putOK RX0 150 0 10 .int false := ⟨RX0, TX0, 12, "RasterMint$Bmp", tyX0, rfl, inT0, by decide, tw340, Or.inl rfl, tyX0_ok, nmX0, rfl, by decide +kernel, by decide⟩
theorem tw341 : Cond.fieldLink RX0 153 "RasterMint$Bmp" "rowsUp" "I" ∈ tb := tc1 (i := 221) (by decide +kernel) rfl
theorem flX0_153_0 : fldOK RX0 153 0 11 := ⟨RX0, TX0, 12, "RasterMint$Bmp", rfl, inT0, by decide, tw341, Or.inl rfl⟩
theorem ptX0_153_0 : putOK RX0 153 0 11 .int false := ⟨RX0, TX0, 12, "RasterMint$Bmp", tyX0, rfl, inT0, by decide, tw341, Or.inl rfl, tyX0_ok, nmX0, rfl, by decide +kernel, by decide⟩
theorem tw370 : Cond.fieldLink RX9 15 "RasterMint$Tga" "palette" "LRasterMint$Palette;" ∈ tb := tc2 (i := 10) (by decide +kernel) rfl
theorem flX9_15_8 : fldOK RX9 15 8 3 := ⟨RX9, TX9, 17, "RasterMint$Tga", rfl, inT8, by decide, tw370, Or.inl rfl⟩
theorem ptX9_15_8 : putOK RX9 15 8 3 (.object "RasterMint$Palette") true := ⟨RX9, TX9, 17, "RasterMint$Tga", tyX9, rfl, inT8, by decide, tw370, Or.inl rfl, tyX9_ok, nmX9, rfl, by decide +kernel, by decide⟩
theorem tw371 : Cond.fieldLink RX9 9 "RasterMint$Tga" "entries" "[I" ∈ tb := tc2 (i := 11) (by decide +kernel) rfl
theorem flX9_9_8 : fldOK RX9 9 8 4 := ⟨RX9, TX9, 17, "RasterMint$Tga", rfl, inT8, by decide, tw371, Or.inl rfl⟩
theorem ptX9_9_8 : putOK RX9 9 8 4 (.array .int) true := ⟨RX9, TX9, 17, "RasterMint$Tga", tyX9, rfl, inT8, by decide, tw371, Or.inl rfl, tyX9_ok, nmX9, rfl, by decide +kernel, by decide⟩
theorem tw372 : Cond.fieldLink RX9 77 "RasterMint$Tga" "map" "I" ∈ tb := tc2 (i := 12) (by decide +kernel) rfl
theorem flX9_77_8 : fldOK RX9 77 8 5 := ⟨RX9, TX9, 17, "RasterMint$Tga", rfl, inT8, by decide, tw372, Or.inl rfl⟩
theorem ptX9_77_8 : putOK RX9 77 8 5 .int false := ⟨RX9, TX9, 17, "RasterMint$Tga", tyX9, rfl, inT8, by decide, tw372, Or.inl rfl, tyX9_ok, nmX9, rfl, by decide +kernel, by decide⟩
theorem tw373 : Cond.fieldLink RX9 55 "RasterMint$Tga" "type" "I" ∈ tb := tc2 (i := 13) (by decide +kernel) rfl
theorem flX9_55_8 : fldOK RX9 55 8 6 := ⟨RX9, TX9, 17, "RasterMint$Tga", rfl, inT8, by decide, tw373, Or.inl rfl⟩
theorem ptX9_55_8 : putOK RX9 55 8 6 .int false := ⟨RX9, TX9, 17, "RasterMint$Tga", tyX9, rfl, inT8, by decide, tw373, Or.inl rfl, tyX9_ok, nmX9, rfl, by decide +kernel, by decide⟩
theorem tw374 : Cond.fieldLink RX9 91 "RasterMint$Tga" "firstEntry" "I" ∈ tb := tc2 (i := 14) (by decide +kernel) rfl
theorem flX9_91_8 : fldOK RX9 91 8 7 := ⟨RX9, TX9, 17, "RasterMint$Tga", rfl, inT8, by decide, tw374, Or.inl rfl⟩
theorem ptX9_91_8 : putOK RX9 91 8 7 .int false := ⟨RX9, TX9, 17, "RasterMint$Tga", tyX9, rfl, inT8, by decide, tw374, Or.inl rfl, tyX9_ok, nmX9, rfl, by decide +kernel, by decide⟩
theorem tw375 : Cond.fieldLink RX9 94 "RasterMint$Tga" "many" "I" ∈ tb := tc2 (i := 15) (by decide +kernel) rfl
theorem flX9_94_8 : fldOK RX9 94 8 8 := ⟨RX9, TX9, 17, "RasterMint$Tga", rfl, inT8, by decide, tw375, Or.inl rfl⟩
theorem ptX9_94_8 : putOK RX9 94 8 8 .int false := ⟨RX9, TX9, 17, "RasterMint$Tga", tyX9, rfl, inT8, by decide, tw375, Or.inl rfl, tyX9_ok, nmX9, rfl, by decide +kernel, by decide⟩
theorem tw376 : Cond.fieldLink RX9 97 "RasterMint$Tga" "deep" "I" ∈ tb := tc2 (i := 16) (by decide +kernel) rfl
theorem flX9_97_8 : fldOK RX9 97 8 9 := ⟨RX9, TX9, 17, "RasterMint$Tga", rfl, inT8, by decide, tw376, Or.inl rfl⟩
theorem ptX9_97_8 : putOK RX9 97 8 9 .int false := ⟨RX9, TX9, 17, "RasterMint$Tga", tyX9, rfl, inT8, by decide, tw376, Or.inl rfl, tyX9_ok, nmX9, rfl, by decide +kernel, by decide⟩
theorem tw377 : Cond.fieldLink RX9 62 "RasterMint$Tga" "bits" "I" ∈ tb := tc2 (i := 17) (by decide +kernel) rfl
theorem flX9_62_8 : fldOK RX9 62 8 10 := ⟨RX9, TX9, 17, "RasterMint$Tga", rfl, inT8, by decide, tw377, Or.inl rfl⟩
theorem ptX9_62_8 : putOK RX9 62 8 10 .int false := ⟨RX9, TX9, 17, "RasterMint$Tga", tyX9, rfl, inT8, by decide, tw377, Or.inl rfl, tyX9_ok, nmX9, rfl, by decide +kernel, by decide⟩
theorem tw378 : Cond.fieldLink RX9 108 "RasterMint$Tga" "flags" "I" ∈ tb := tc2 (i := 18) (by decide +kernel) rfl
theorem flX9_108_8 : fldOK RX9 108 8 11 := ⟨RX9, TX9, 17, "RasterMint$Tga", rfl, inT8, by decide, tw378, Or.inl rfl⟩
theorem ptX9_108_8 : putOK RX9 108 8 11 .int false := ⟨RX9, TX9, 17, "RasterMint$Tga", tyX9, rfl, inT8, by decide, tw378, Or.inl rfl, tyX9_ok, nmX9, rfl, by decide +kernel, by decide⟩
theorem tw379 : Cond.fieldLink RX9 111 "RasterMint$Tga" "alphaBits" "I" ∈ tb := tc2 (i := 19) (by decide +kernel) rfl
theorem flX9_111_8 : fldOK RX9 111 8 12 := ⟨RX9, TX9, 17, "RasterMint$Tga", rfl, inT8, by decide, tw379, Or.inl rfl⟩
theorem ptX9_111_8 : putOK RX9 111 8 12 .int false := ⟨RX9, TX9, 17, "RasterMint$Tga", tyX9, rfl, inT8, by decide, tw379, Or.inl rfl, tyX9_ok, nmX9, rfl, by decide +kernel, by decide⟩
theorem tw380 : Cond.fieldLink RX9 84 "RasterMint$Tga" "indexed" "Z" ∈ tb := tc2 (i := 20) (by decide +kernel) rfl
theorem flX9_84_8 : fldOK RX9 84 8 13 := ⟨RX9, TX9, 17, "RasterMint$Tga", rfl, inT8, by decide, tw380, Or.inl rfl⟩
theorem ptX9_84_8 : putOK RX9 84 8 13 .boolean false := ⟨RX9, TX9, 17, "RasterMint$Tga", tyX9, rfl, inT8, by decide, tw380, Or.inl rfl, tyX9_ok, nmX9, rfl, by decide +kernel, by decide⟩
theorem tw381 : Cond.fieldLink RX9 68 "RasterMint$Tga" "packets" "I" ∈ tb := tc2 (i := 21) (by decide +kernel) rfl
theorem flX9_68_8 : fldOK RX9 68 8 14 := ⟨RX9, TX9, 17, "RasterMint$Tga", rfl, inT8, by decide, tw381, Or.inl rfl⟩
theorem ptX9_68_8 : putOK RX9 68 8 14 .int false := ⟨RX9, TX9, 17, "RasterMint$Tga", tyX9, rfl, inT8, by decide, tw381, Or.inl rfl, tyX9_ok, nmX9, rfl, by decide +kernel, by decide⟩
theorem tw382 : Cond.fieldLink RX9 118 "RasterMint$Tga" "packetLeft" "I" ∈ tb := tc2 (i := 22) (by decide +kernel) rfl
theorem flX9_118_8 : fldOK RX9 118 8 15 := ⟨RX9, TX9, 17, "RasterMint$Tga", rfl, inT8, by decide, tw382, Or.inl rfl⟩
theorem ptX9_118_8 : putOK RX9 118 8 15 .int false := ⟨RX9, TX9, 17, "RasterMint$Tga", tyX9, rfl, inT8, by decide, tw382, Or.inl rfl, tyX9_ok, nmX9, rfl, by decide +kernel, by decide⟩
theorem tw383 : Cond.fieldLink RX9 133 "RasterMint$Tga" "packetLike" "Z" ∈ tb := tc2 (i := 23) (by decide +kernel) rfl
theorem flX9_133_8 : fldOK RX9 133 8 16 := ⟨RX9, TX9, 17, "RasterMint$Tga", rfl, inT8, by decide, tw383, Or.inl rfl⟩
theorem ptX9_133_8 : putOK RX9 133 8 16 .boolean false := ⟨RX9, TX9, 17, "RasterMint$Tga", tyX9, rfl, inT8, by decide, tw383, Or.inl rfl, tyX9_ok, nmX9, rfl, by decide +kernel, by decide⟩
theorem tw422 : Cond.fieldLink RX4 15 "RasterMint$Pcx" "palette" "LRasterMint$Palette;" ∈ tb := tc2 (i := 62) (by decide +kernel) rfl
theorem flX4_15_3 : fldOK RX4 15 3 3 := ⟨RX4, TX4, 10, "RasterMint$Pcx", rfl, inT3, by decide, tw422, Or.inl rfl⟩
theorem ptX4_15_3 : putOK RX4 15 3 3 (.object "RasterMint$Palette") true := ⟨RX4, TX4, 10, "RasterMint$Pcx", tyX4, rfl, inT3, by decide, tw422, Or.inl rfl, tyX4_ok, nmX4, rfl, by decide +kernel, by decide⟩
theorem tw423 : Cond.fieldLink RX4 9 "RasterMint$Pcx" "colours" "[I" ∈ tb := tc2 (i := 63) (by decide +kernel) rfl
theorem flX4_9_3 : fldOK RX4 9 3 4 := ⟨RX4, TX4, 10, "RasterMint$Pcx", rfl, inT3, by decide, tw423, Or.inl rfl⟩
theorem ptX4_9_3 : putOK RX4 9 3 4 (.array .int) true := ⟨RX4, TX4, 10, "RasterMint$Pcx", tyX4, rfl, inT3, by decide, tw423, Or.inl rfl, tyX4_ok, nmX4, rfl, by decide +kernel, by decide⟩
theorem tw424 : Cond.fieldLink RX4 97 "RasterMint$Pcx" "version" "I" ∈ tb := tc2 (i := 64) (by decide +kernel) rfl
theorem flX4_97_3 : fldOK RX4 97 3 5 := ⟨RX4, TX4, 10, "RasterMint$Pcx", rfl, inT3, by decide, tw424, Or.inl rfl⟩
theorem ptX4_97_3 : putOK RX4 97 3 5 .int false := ⟨RX4, TX4, 10, "RasterMint$Pcx", tyX4, rfl, inT3, by decide, tw424, Or.inl rfl, tyX4_ok, nmX4, rfl, by decide +kernel, by decide⟩
theorem tw425 : Cond.fieldLink RX4 65 "RasterMint$Pcx" "bits" "I" ∈ tb := tc2 (i := 65) (by decide +kernel) rfl
theorem flX4_65_3 : fldOK RX4 65 3 6 := ⟨RX4, TX4, 10, "RasterMint$Pcx", rfl, inT3, by decide, tw425, Or.inl rfl⟩
theorem ptX4_65_3 : putOK RX4 65 3 6 .int false := ⟨RX4, TX4, 10, "RasterMint$Pcx", tyX4, rfl, inT3, by decide, tw425, Or.inl rfl, tyX4_ok, nmX4, rfl, by decide +kernel, by decide⟩
theorem tw426 : Cond.fieldLink RX4 104 "RasterMint$Pcx" "pixelsAByte" "I" ∈ tb := tc2 (i := 66) (by decide +kernel) rfl
theorem flX4_104_3 : fldOK RX4 104 3 7 := ⟨RX4, TX4, 10, "RasterMint$Pcx", rfl, inT3, by decide, tw426, Or.inl rfl⟩
theorem ptX4_104_3 : putOK RX4 104 3 7 .int false := ⟨RX4, TX4, 10, "RasterMint$Pcx", tyX4, rfl, inT3, by decide, tw426, Or.inl rfl, tyX4_ok, nmX4, rfl, by decide +kernel, by decide⟩
theorem tw427 : Cond.fieldLink RX4 68 "RasterMint$Pcx" "planes" "I" ∈ tb := tc2 (i := 67) (by decide +kernel) rfl
theorem flX4_68_3 : fldOK RX4 68 3 8 := ⟨RX4, TX4, 10, "RasterMint$Pcx", rfl, inT3, by decide, tw427, Or.inl rfl⟩
theorem ptX4_68_3 : putOK RX4 68 3 8 .int false := ⟨RX4, TX4, 10, "RasterMint$Pcx", tyX4, rfl, inT3, by decide, tw427, Or.inl rfl, tyX4_ok, nmX4, rfl, by decide +kernel, by decide⟩
theorem tw428 : Cond.fieldLink RX4 84 "RasterMint$Pcx" "step" "I" ∈ tb := tc2 (i := 68) (by decide +kernel) rfl
theorem flX4_84_3 : fldOK RX4 84 3 9 := ⟨RX4, TX4, 10, "RasterMint$Pcx", rfl, inT3, by decide, tw428, Or.inl rfl⟩
theorem ptX4_84_3 : putOK RX4 84 3 9 .int false := ⟨RX4, TX4, 10, "RasterMint$Pcx", tyX4, rfl, inT3, by decide, tw428, Or.inl rfl, tyX4_ok, nmX4, rfl, by decide +kernel, by decide⟩
theorem tw450 : Cond.fieldLink RX10 11 "RasterMint" "shelves" "[LRasterMint$Raster;" ∈ tb := tc2 (i := 90) (by decide +kernel) rfl
theorem flX10_11_9 : fldOK RX10 11 9 0 := ⟨RX10, TX10, 9, "RasterMint", rfl, inT9, by decide, tw450, Or.inl rfl⟩
theorem ptX10_11_9 : putOK RX10 11 9 0 (.array (.object "RasterMint$Raster")) true := ⟨RX10, TX10, 9, "RasterMint", tyX10, rfl, inT9, by decide, tw450, Or.inl rfl, tyX10_ok, nmX10, rfl, by decide +kernel, by decide⟩
theorem tw451 : Cond.fieldLink RX10 48 "RasterMint" "formats" "[LRasterMint$Format;" ∈ tb := tc2 (i := 91) (by decide +kernel) rfl
theorem flX10_48_9 : fldOK RX10 48 9 1 := ⟨RX10, TX10, 9, "RasterMint", rfl, inT9, by decide, tw451, Or.inl rfl⟩
theorem ptX10_48_9 : putOK RX10 48 9 1 (.array (.object "RasterMint$Format")) true := ⟨RX10, TX10, 9, "RasterMint", tyX10, rfl, inT9, by decide, tw451, Or.inl rfl, tyX10_ok, nmX10, rfl, by decide +kernel, by decide⟩
theorem tw452 : Cond.fieldLink RX10 23 "RasterMint" "tape" "LRasterMint$ByteRow;" ∈ tb := tc2 (i := 92) (by decide +kernel) rfl
theorem flX10_23_9 : fldOK RX10 23 9 2 := ⟨RX10, TX10, 9, "RasterMint", rfl, inT9, by decide, tw452, Or.inl rfl⟩
theorem ptX10_23_9 : putOK RX10 23 9 2 (.object "RasterMint$ByteRow") true := ⟨RX10, TX10, 9, "RasterMint", tyX10, rfl, inT9, by decide, tw452, Or.inl rfl, tyX10_ok, nmX10, rfl, by decide +kernel, by decide⟩
theorem tw453 : Cond.fieldLink RX10 27 "RasterMint" "output" "LRasterMint$ByteRow;" ∈ tb := tc2 (i := 93) (by decide +kernel) rfl
theorem flX10_27_9 : fldOK RX10 27 9 3 := ⟨RX10, TX10, 9, "RasterMint", rfl, inT9, by decide, tw453, Or.inl rfl⟩
theorem ptX10_27_9 : putOK RX10 27 9 3 (.object "RasterMint$ByteRow") true := ⟨RX10, TX10, 9, "RasterMint", tyX10, rfl, inT9, by decide, tw453, Or.inl rfl, tyX10_ok, nmX10, rfl, by decide +kernel, by decide⟩
theorem tw454 : Cond.fieldLink RX10 35 "RasterMint" "source" "LRasterMint$Source;" ∈ tb := tc2 (i := 94) (by decide +kernel) rfl
theorem flX10_35_9 : fldOK RX10 35 9 4 := ⟨RX10, TX10, 9, "RasterMint", rfl, inT9, by decide, tw454, Or.inl rfl⟩
theorem ptX10_35_9 : putOK RX10 35 9 4 (.object "RasterMint$Source") true := ⟨RX10, TX10, 9, "RasterMint", tyX10, rfl, inT9, by decide, tw454, Or.inl rfl, tyX10_ok, nmX10, rfl, by decide +kernel, by decide⟩
theorem tw455 : Cond.fieldLink RX10 42 "RasterMint" "palette" "LRasterMint$Palette;" ∈ tb := tc2 (i := 95) (by decide +kernel) rfl
theorem flX10_42_9 : fldOK RX10 42 9 5 := ⟨RX10, TX10, 9, "RasterMint", rfl, inT9, by decide, tw455, Or.inl rfl⟩
theorem ptX10_42_9 : putOK RX10 42 9 5 (.object "RasterMint$Palette") true := ⟨RX10, TX10, 9, "RasterMint", tyX10, rfl, inT9, by decide, tw455, Or.inl rfl, tyX10_ok, nmX10, rfl, by decide +kernel, by decide⟩
theorem tw456 : Cond.fieldLink RX10 69 "RasterMint" "facts" "[I" ∈ tb := tc2 (i := 96) (by decide +kernel) rfl
theorem flX10_69_9 : fldOK RX10 69 9 6 := ⟨RX10, TX10, 9, "RasterMint", rfl, inT9, by decide, tw456, Or.inl rfl⟩
theorem ptX10_69_9 : putOK RX10 69 9 6 (.array .int) true := ⟨RX10, TX10, 9, "RasterMint", tyX10, rfl, inT9, by decide, tw456, Or.inl rfl, tyX10_ok, nmX10, rfl, by decide +kernel, by decide⟩
theorem tw457 : Cond.fieldLink RX10 16 "RasterMint" "spare" "LRasterMint$Raster;" ∈ tb := tc2 (i := 97) (by decide +kernel) rfl
theorem flX10_16_9 : fldOK RX10 16 9 7 := ⟨RX10, TX10, 9, "RasterMint", rfl, inT9, by decide, tw457, Or.inl rfl⟩
theorem ptX10_16_9 : putOK RX10 16 9 7 (.object "RasterMint$Raster") false := ⟨RX10, TX10, 9, "RasterMint", tyX10, rfl, inT9, by decide, tw457, Or.inl rfl, tyX10_ok, nmX10, rfl, by decide +kernel, by decide⟩
theorem tw458 : Cond.fieldLink RX10 79 "RasterMint" "faultPlace" "I" ∈ tb := tc2 (i := 98) (by decide +kernel) rfl
theorem flX10_79_9 : fldOK RX10 79 9 8 := ⟨RX10, TX10, 9, "RasterMint", rfl, inT9, by decide, tw458, Or.inl rfl⟩
theorem ptX10_79_9 : putOK RX10 79 9 8 .int false := ⟨RX10, TX10, 9, "RasterMint", tyX10, rfl, inT9, by decide, tw458, Or.inl rfl, tyX10_ok, nmX10, rfl, by decide +kernel, by decide⟩
theorem tw1399 : Cond.fieldLink RX11 10 "RasterMintModel" "tape" "[B" ∈ tb := tc6 (i := 79) (by decide +kernel) rfl
theorem flX11_10_10 : fldOK RX11 10 10 0 := ⟨RX11, TX11, 31, "RasterMintModel", rfl, inT10, by decide, tw1399, Or.inl rfl⟩
theorem ptX11_10_10 : putOK RX11 10 10 0 (.array .byte) true := ⟨RX11, TX11, 31, "RasterMintModel", tyX11, rfl, inT10, by decide, tw1399, Or.inl rfl, tyX11_ok, nmX11, rfl, by decide +kernel, by decide⟩
theorem tw1400 : Cond.fieldLink RX11 64 "RasterMintModel" "taped" "I" ∈ tb := tc6 (i := 80) (by decide +kernel) rfl
theorem flX11_64_10 : fldOK RX11 64 10 1 := ⟨RX11, TX11, 31, "RasterMintModel", rfl, inT10, by decide, tw1400, Or.inl rfl⟩
theorem ptX11_64_10 : putOK RX11 64 10 1 .int false := ⟨RX11, TX11, 31, "RasterMintModel", tyX11, rfl, inT10, by decide, tw1400, Or.inl rfl, tyX11_ok, nmX11, rfl, by decide +kernel, by decide⟩
theorem tw1401 : Cond.fieldLink RX11 14 "RasterMintModel" "out" "[B" ∈ tb := tc6 (i := 81) (by decide +kernel) rfl
theorem flX11_14_10 : fldOK RX11 14 10 2 := ⟨RX11, TX11, 31, "RasterMintModel", rfl, inT10, by decide, tw1401, Or.inl rfl⟩
theorem ptX11_14_10 : putOK RX11 14 10 2 (.array .byte) true := ⟨RX11, TX11, 31, "RasterMintModel", tyX11, rfl, inT10, by decide, tw1401, Or.inl rfl, tyX11_ok, nmX11, rfl, by decide +kernel, by decide⟩
theorem tw1402 : Cond.fieldLink RX11 75 "RasterMintModel" "outMany" "I" ∈ tb := tc6 (i := 82) (by decide +kernel) rfl
theorem flX11_75_10 : fldOK RX11 75 10 3 := ⟨RX11, TX11, 31, "RasterMintModel", rfl, inT10, by decide, tw1402, Or.inl rfl⟩
theorem ptX11_75_10 : putOK RX11 75 10 3 .int false := ⟨RX11, TX11, 31, "RasterMintModel", tyX11, rfl, inT10, by decide, tw1402, Or.inl rfl, tyX11_ok, nmX11, rfl, by decide +kernel, by decide⟩
theorem tw1403 : Cond.fieldLink RX11 71 "RasterMintModel" "hasOut" "Z" ∈ tb := tc6 (i := 83) (by decide +kernel) rfl
theorem flX11_71_10 : fldOK RX11 71 10 4 := ⟨RX11, TX11, 31, "RasterMintModel", rfl, inT10, by decide, tw1403, Or.inl rfl⟩
theorem ptX11_71_10 : putOK RX11 71 10 4 .boolean false := ⟨RX11, TX11, 31, "RasterMintModel", tyX11, rfl, inT10, by decide, tw1403, Or.inl rfl, tyX11_ok, nmX11, rfl, by decide +kernel, by decide⟩
theorem tw1404 : Cond.fieldLink RX11 17 "RasterMintModel" "dots" "[I" ∈ tb := tc6 (i := 84) (by decide +kernel) rfl
theorem flX11_17_10 : fldOK RX11 17 10 5 := ⟨RX11, TX11, 31, "RasterMintModel", rfl, inT10, by decide, tw1404, Or.inl rfl⟩
theorem ptX11_17_10 : putOK RX11 17 10 5 (.array .int) true := ⟨RX11, TX11, 31, "RasterMintModel", tyX11, rfl, inT10, by decide, tw1404, Or.inl rfl, tyX11_ok, nmX11, rfl, by decide +kernel, by decide⟩
theorem tw1405 : Cond.fieldLink RX11 21 "RasterMintModel" "wide" "[I" ∈ tb := tc6 (i := 85) (by decide +kernel) rfl
theorem flX11_21_10 : fldOK RX11 21 10 6 := ⟨RX11, TX11, 31, "RasterMintModel", rfl, inT10, by decide, tw1405, Or.inl rfl⟩
theorem ptX11_21_10 : putOK RX11 21 10 6 (.array .int) true := ⟨RX11, TX11, 31, "RasterMintModel", tyX11, rfl, inT10, by decide, tw1405, Or.inl rfl, tyX11_ok, nmX11, rfl, by decide +kernel, by decide⟩
theorem tw1406 : Cond.fieldLink RX11 24 "RasterMintModel" "high" "[I" ∈ tb := tc6 (i := 86) (by decide +kernel) rfl
theorem flX11_24_10 : fldOK RX11 24 10 7 := ⟨RX11, TX11, 31, "RasterMintModel", rfl, inT10, by decide, tw1406, Or.inl rfl⟩
theorem ptX11_24_10 : putOK RX11 24 10 7 (.array .int) true := ⟨RX11, TX11, 31, "RasterMintModel", tyX11, rfl, inT10, by decide, tw1406, Or.inl rfl, tyX11_ok, nmX11, rfl, by decide +kernel, by decide⟩
theorem tw1407 : Cond.fieldLink RX11 61 "RasterMintModel" "thrown" "I" ∈ tb := tc6 (i := 87) (by decide +kernel) rfl
theorem flX11_61_10 : fldOK RX11 61 10 8 := ⟨RX11, TX11, 31, "RasterMintModel", rfl, inT10, by decide, tw1407, Or.inl rfl⟩
theorem ptX11_61_10 : putOK RX11 61 10 8 .int false := ⟨RX11, TX11, 31, "RasterMintModel", tyX11, rfl, inT10, by decide, tw1407, Or.inl rfl, tyX11_ok, nmX11, rfl, by decide +kernel, by decide⟩
theorem tw1408 : Cond.fieldLink RX11 94 "RasterMintModel" "src" "[B" ∈ tb := tc6 (i := 88) (by decide +kernel) rfl
theorem flX11_94_10 : fldOK RX11 94 10 9 := ⟨RX11, TX11, 31, "RasterMintModel", rfl, inT10, by decide, tw1408, Or.inl rfl⟩
theorem ptX11_94_10 : putOK RX11 94 10 9 (.array .byte) false := ⟨RX11, TX11, 31, "RasterMintModel", tyX11, rfl, inT10, by decide, tw1408, Or.inl rfl, tyX11_ok, nmX11, rfl, by decide +kernel, by decide⟩
theorem tw1409 : Cond.fieldLink RX11 87 "RasterMintModel" "size" "I" ∈ tb := tc6 (i := 89) (by decide +kernel) rfl
theorem flX11_87_10 : fldOK RX11 87 10 10 := ⟨RX11, TX11, 31, "RasterMintModel", rfl, inT10, by decide, tw1409, Or.inl rfl⟩
theorem ptX11_87_10 : putOK RX11 87 10 10 .int false := ⟨RX11, TX11, 31, "RasterMintModel", tyX11, rfl, inT10, by decide, tw1409, Or.inl rfl, tyX11_ok, nmX11, rfl, by decide +kernel, by decide⟩
theorem tw1410 : Cond.fieldLink RX11 84 "RasterMintModel" "at" "I" ∈ tb := tc6 (i := 90) (by decide +kernel) rfl
theorem flX11_84_10 : fldOK RX11 84 10 11 := ⟨RX11, TX11, 31, "RasterMintModel", rfl, inT10, by decide, tw1410, Or.inl rfl⟩
theorem ptX11_84_10 : putOK RX11 84 10 11 .int false := ⟨RX11, TX11, 31, "RasterMintModel", tyX11, rfl, inT10, by decide, tw1410, Or.inl rfl, tyX11_ok, nmX11, rfl, by decide +kernel, by decide⟩
theorem tw1411 : Cond.fieldLink RX11 78 "RasterMintModel" "kind" "I" ∈ tb := tc6 (i := 91) (by decide +kernel) rfl
theorem flX11_78_10 : fldOK RX11 78 10 12 := ⟨RX11, TX11, 31, "RasterMintModel", rfl, inT10, by decide, tw1411, Or.inl rfl⟩
theorem ptX11_78_10 : putOK RX11 78 10 12 .int false := ⟨RX11, TX11, 31, "RasterMintModel", tyX11, rfl, inT10, by decide, tw1411, Or.inl rfl, tyX11_ok, nmX11, rfl, by decide +kernel, by decide⟩
theorem tw1412 : Cond.fieldLink RX11 81 "RasterMintModel" "where" "I" ∈ tb := tc6 (i := 92) (by decide +kernel) rfl
theorem flX11_81_10 : fldOK RX11 81 10 13 := ⟨RX11, TX11, 31, "RasterMintModel", rfl, inT10, by decide, tw1412, Or.inl rfl⟩
theorem ptX11_81_10 : putOK RX11 81 10 13 .int false := ⟨RX11, TX11, 31, "RasterMintModel", tyX11, rfl, inT10, by decide, tw1412, Or.inl rfl, tyX11_ok, nmX11, rfl, by decide +kernel, by decide⟩
theorem tw1413 : Cond.fieldLink RX11 27 "RasterMintModel" "got" "[I" ∈ tb := tc6 (i := 93) (by decide +kernel) rfl
theorem flX11_27_10 : fldOK RX11 27 10 14 := ⟨RX11, TX11, 31, "RasterMintModel", rfl, inT10, by decide, tw1413, Or.inl rfl⟩
theorem ptX11_27_10 : putOK RX11 27 10 14 (.array .int) true := ⟨RX11, TX11, 31, "RasterMintModel", tyX11, rfl, inT10, by decide, tw1413, Or.inl rfl, tyX11_ok, nmX11, rfl, by decide +kernel, by decide⟩
theorem tw1414 : Cond.fieldLink RX11 109 "RasterMintModel" "gotWide" "I" ∈ tb := tc6 (i := 94) (by decide +kernel) rfl
theorem flX11_109_10 : fldOK RX11 109 10 15 := ⟨RX11, TX11, 31, "RasterMintModel", rfl, inT10, by decide, tw1414, Or.inl rfl⟩
theorem ptX11_109_10 : putOK RX11 109 10 15 .int false := ⟨RX11, TX11, 31, "RasterMintModel", tyX11, rfl, inT10, by decide, tw1414, Or.inl rfl, tyX11_ok, nmX11, rfl, by decide +kernel, by decide⟩
theorem tw1415 : Cond.fieldLink RX11 112 "RasterMintModel" "gotHigh" "I" ∈ tb := tc6 (i := 95) (by decide +kernel) rfl
theorem flX11_112_10 : fldOK RX11 112 10 16 := ⟨RX11, TX11, 31, "RasterMintModel", rfl, inT10, by decide, tw1415, Or.inl rfl⟩
theorem ptX11_112_10 : putOK RX11 112 10 16 .int false := ⟨RX11, TX11, 31, "RasterMintModel", tyX11, rfl, inT10, by decide, tw1415, Or.inl rfl, tyX11_ok, nmX11, rfl, by decide +kernel, by decide⟩
theorem tw1416 : Cond.fieldLink RX11 130 "RasterMintModel" "one" "I" ∈ tb := tc6 (i := 96) (by decide +kernel) rfl
theorem flX11_130_10 : fldOK RX11 130 10 17 := ⟨RX11, TX11, 31, "RasterMintModel", rfl, inT10, by decide, tw1416, Or.inl rfl⟩
theorem ptX11_130_10 : putOK RX11 130 10 17 .int false := ⟨RX11, TX11, 31, "RasterMintModel", tyX11, rfl, inT10, by decide, tw1416, Or.inl rfl, tyX11_ok, nmX11, rfl, by decide +kernel, by decide⟩
theorem tw1417 : Cond.fieldLink RX11 133 "RasterMintModel" "two" "I" ∈ tb := tc6 (i := 97) (by decide +kernel) rfl
theorem flX11_133_10 : fldOK RX11 133 10 18 := ⟨RX11, TX11, 31, "RasterMintModel", rfl, inT10, by decide, tw1417, Or.inl rfl⟩
theorem ptX11_133_10 : putOK RX11 133 10 18 .int false := ⟨RX11, TX11, 31, "RasterMintModel", tyX11, rfl, inT10, by decide, tw1417, Or.inl rfl, tyX11_ok, nmX11, rfl, by decide +kernel, by decide⟩
theorem tw1418 : Cond.fieldLink RX11 136 "RasterMintModel" "three" "I" ∈ tb := tc6 (i := 98) (by decide +kernel) rfl
theorem flX11_136_10 : fldOK RX11 136 10 19 := ⟨RX11, TX11, 31, "RasterMintModel", rfl, inT10, by decide, tw1418, Or.inl rfl⟩
theorem ptX11_136_10 : putOK RX11 136 10 19 .int false := ⟨RX11, TX11, 31, "RasterMintModel", tyX11, rfl, inT10, by decide, tw1418, Or.inl rfl, tyX11_ok, nmX11, rfl, by decide +kernel, by decide⟩
theorem tw1419 : Cond.fieldLink RX11 30 "RasterMintModel" "toldFamily" "I" ∈ tb := tc6 (i := 99) (by decide +kernel) rfl
theorem flX11_30_10 : fldOK RX11 30 10 20 := ⟨RX11, TX11, 31, "RasterMintModel", rfl, inT10, by decide, tw1419, Or.inl rfl⟩
theorem ptX11_30_10 : putOK RX11 30 10 20 .int false := ⟨RX11, TX11, 31, "RasterMintModel", tyX11, rfl, inT10, by decide, tw1419, Or.inl rfl, tyX11_ok, nmX11, rfl, by decide +kernel, by decide⟩
theorem tw1420 : Cond.fieldLink RX11 34 "RasterMintModel" "toldOne" "I" ∈ tb := tc6 (i := 100) (by decide +kernel) rfl
theorem flX11_34_10 : fldOK RX11 34 10 21 := ⟨RX11, TX11, 31, "RasterMintModel", rfl, inT10, by decide, tw1420, Or.inl rfl⟩
theorem ptX11_34_10 : putOK RX11 34 10 21 .int false := ⟨RX11, TX11, 31, "RasterMintModel", tyX11, rfl, inT10, by decide, tw1420, Or.inl rfl, tyX11_ok, nmX11, rfl, by decide +kernel, by decide⟩
theorem tw1421 : Cond.fieldLink RX11 37 "RasterMintModel" "toldTwo" "I" ∈ tb := tc6 (i := 101) (by decide +kernel) rfl
theorem flX11_37_10 : fldOK RX11 37 10 22 := ⟨RX11, TX11, 31, "RasterMintModel", rfl, inT10, by decide, tw1421, Or.inl rfl⟩
theorem ptX11_37_10 : putOK RX11 37 10 22 .int false := ⟨RX11, TX11, 31, "RasterMintModel", tyX11, rfl, inT10, by decide, tw1421, Or.inl rfl, tyX11_ok, nmX11, rfl, by decide +kernel, by decide⟩
theorem tw1422 : Cond.fieldLink RX11 40 "RasterMintModel" "toldThree" "I" ∈ tb := tc6 (i := 102) (by decide +kernel) rfl
theorem flX11_40_10 : fldOK RX11 40 10 23 := ⟨RX11, TX11, 31, "RasterMintModel", rfl, inT10, by decide, tw1422, Or.inl rfl⟩
theorem ptX11_40_10 : putOK RX11 40 10 23 .int false := ⟨RX11, TX11, 31, "RasterMintModel", tyX11, rfl, inT10, by decide, tw1422, Or.inl rfl, tyX11_ok, nmX11, rfl, by decide +kernel, by decide⟩
theorem tw1423 : Cond.fieldLink RX11 43 "RasterMintModel" "faultPlace" "I" ∈ tb := tc6 (i := 103) (by decide +kernel) rfl
theorem flX11_43_10 : fldOK RX11 43 10 24 := ⟨RX11, TX11, 31, "RasterMintModel", rfl, inT10, by decide, tw1423, Or.inl rfl⟩
theorem ptX11_43_10 : putOK RX11 43 10 24 .int false := ⟨RX11, TX11, 31, "RasterMintModel", tyX11, rfl, inT10, by decide, tw1423, Or.inl rfl, tyX11_ok, nmX11, rfl, by decide +kernel, by decide⟩
theorem tw1424 : Cond.fieldLink RX11 46 "RasterMintModel" "spots" "[I" ∈ tb := tc6 (i := 104) (by decide +kernel) rfl
theorem flX11_46_10 : fldOK RX11 46 10 25 := ⟨RX11, TX11, 31, "RasterMintModel", rfl, inT10, by decide, tw1424, Or.inl rfl⟩
theorem ptX11_46_10 : putOK RX11 46 10 25 (.array .int) true := ⟨RX11, TX11, 31, "RasterMintModel", tyX11, rfl, inT10, by decide, tw1424, Or.inl rfl, tyX11_ok, nmX11, rfl, by decide +kernel, by decide⟩
theorem tw1425 : Cond.fieldLink RX11 49 "RasterMintModel" "table" "[I" ∈ tb := tc6 (i := 105) (by decide +kernel) rfl
theorem flX11_49_10 : fldOK RX11 49 10 26 := ⟨RX11, TX11, 31, "RasterMintModel", rfl, inT10, by decide, tw1425, Or.inl rfl⟩
theorem ptX11_49_10 : putOK RX11 49 10 26 (.array .int) true := ⟨RX11, TX11, 31, "RasterMintModel", tyX11, rfl, inT10, by decide, tw1425, Or.inl rfl, tyX11_ok, nmX11, rfl, by decide +kernel, by decide⟩
theorem tw1426 : Cond.fieldLink RX11 52 "RasterMintModel" "lines" "[B" ∈ tb := tc6 (i := 106) (by decide +kernel) rfl
theorem flX11_52_10 : fldOK RX11 52 10 27 := ⟨RX11, TX11, 31, "RasterMintModel", rfl, inT10, by decide, tw1426, Or.inl rfl⟩
theorem ptX11_52_10 : putOK RX11 52 10 27 (.array .byte) true := ⟨RX11, TX11, 31, "RasterMintModel", tyX11, rfl, inT10, by decide, tw1426, Or.inl rfl, tyX11_ok, nmX11, rfl, by decide +kernel, by decide⟩
theorem tw1427 : Cond.fieldLink RX11 55 "RasterMintModel" "sorted" "[I" ∈ tb := tc6 (i := 107) (by decide +kernel) rfl
theorem flX11_55_10 : fldOK RX11 55 10 28 := ⟨RX11, TX11, 31, "RasterMintModel", rfl, inT10, by decide, tw1427, Or.inl rfl⟩
theorem ptX11_55_10 : putOK RX11 55 10 28 (.array .int) true := ⟨RX11, TX11, 31, "RasterMintModel", tyX11, rfl, inT10, by decide, tw1427, Or.inl rfl, tyX11_ok, nmX11, rfl, by decide +kernel, by decide⟩
theorem tw1428 : Cond.fieldLink RX11 58 "RasterMintModel" "colours" "[I" ∈ tb := tc6 (i := 108) (by decide +kernel) rfl
theorem flX11_58_10 : fldOK RX11 58 10 29 := ⟨RX11, TX11, 31, "RasterMintModel", rfl, inT10, by decide, tw1428, Or.inl rfl⟩
theorem ptX11_58_10 : putOK RX11 58 10 29 (.array .int) true := ⟨RX11, TX11, 31, "RasterMintModel", tyX11, rfl, inT10, by decide, tw1428, Or.inl rfl, tyX11_ok, nmX11, rfl, by decide +kernel, by decide⟩
theorem tw1429 : Cond.fieldLink RX11 262 "RasterMintModel" "colourMany" "I" ∈ tb := tc6 (i := 109) (by decide +kernel) rfl
theorem flX11_262_10 : fldOK RX11 262 10 30 := ⟨RX11, TX11, 31, "RasterMintModel", rfl, inT10, by decide, tw1429, Or.inl rfl⟩
theorem ptX11_262_10 : putOK RX11 262 10 30 .int false := ⟨RX11, TX11, 31, "RasterMintModel", tyX11, rfl, inT10, by decide, tw1429, Or.inl rfl, tyX11_ok, nmX11, rfl, by decide +kernel, by decide⟩
theorem tw149 : Cond.methodLink RL 35 yX10_init ∈ tb := tc1 (i := 29) (by decide +kernel) rfl
theorem tw121 : Cond.initialized RX10 ∈ tb := tc1 (i := 1) (by decide +kernel) rfl
set_option maxRecDepth 20000 in
theorem tw151 : Cond.code yX10_init cX10_init 2 none ∈ tb := tc1 (i := 31) rfl rfl
theorem tw150 : Cond.instanceMethod yX10_init ∈ tb := tc1 (i := 30) (by decide +kernel) rfl
theorem ckL_35 : cOK RL 35 mX10_init 0 ∧ Cond.instanceMethod mX10_init.1 ∈ tb ∧ mX10_init.1.name = "<init>" ∧ mX10_init.2.2.2.1 = none := ⟨⟨tw149, tw121, tw151, rfl, by decide +kernel⟩, tw150, rfl, rfl⟩
theorem tw122 : Cond.initialized RX7 ∈ tb := tc1 (i := 2) (by decide +kernel) rfl
set_option maxRecDepth 20000 in
theorem tw160 : Cond.code yX7_init cX7_init 1 none ∈ tb := tc1 (i := 40) rfl rfl
theorem tw159 : Cond.instanceMethod yX7_init ∈ tb := tc1 (i := 39) (by decide +kernel) rfl
theorem ckX10_15 : cnOK RX10 15 "RasterMint" mX7_init 0 ∧ Cond.instanceMethod mX7_init.1 ∈ tb ∧ mX7_init.1.name = "<init>" ∧ mX7_init.2.2.2.1 = none := ⟨⟨tl1 (List.mem_of_getElem? (i := 38) (by decide +kernel)), tw122, tw160, rfl, by decide +kernel⟩, tw159, rfl, rfl⟩
theorem tw123 : Cond.initialized RX1 ∈ tb := tc1 (i := 3) (by decide +kernel) rfl
set_option maxRecDepth 20000 in
theorem tw191 : Cond.code yX1_init cX1_init 1 none ∈ tb := tc1 (i := 71) rfl rfl
theorem tw190 : Cond.instanceMethod yX1_init ∈ tb := tc1 (i := 70) (by decide +kernel) rfl
theorem ckX10_22 : cnOK RX10 22 "RasterMint" mX1_init 0 ∧ Cond.instanceMethod mX1_init.1 ∈ tb ∧ mX1_init.1.name = "<init>" ∧ mX1_init.2.2.2.1 = none := ⟨⟨tl1 (List.mem_of_getElem? (i := 69) (by decide +kernel)), tw123, tw191, rfl, by decide +kernel⟩, tw190, rfl, rfl⟩
theorem tw208 : Cond.methodLink RX10 32 yX8_init ∈ tb := tc1 (i := 88) (by decide +kernel) rfl
theorem tw124 : Cond.initialized RX8 ∈ tb := tc1 (i := 4) (by decide +kernel) rfl
set_option maxRecDepth 20000 in
theorem tw210 : Cond.code yX8_init cX8_init 2 none ∈ tb := tc1 (i := 90) rfl rfl
theorem tw209 : Cond.instanceMethod yX8_init ∈ tb := tc1 (i := 89) (by decide +kernel) rfl
theorem ckX10_32 : cOK RX10 32 mX8_init 1 ∧ Cond.instanceMethod mX8_init.1 ∈ tb ∧ mX8_init.1.name = "<init>" ∧ mX8_init.2.2.2.1 = none := ⟨⟨tw208, tw124, tw210, rfl, by decide +kernel⟩, tw209, rfl, rfl⟩
theorem tw125 : Cond.initialized RX3 ∈ tb := tc1 (i := 5) (by decide +kernel) rfl
set_option maxRecDepth 20000 in
theorem tw242 : Cond.code yX3_init cX3_init 1 none ∈ tb := tc1 (i := 122) rfl rfl
theorem tw241 : Cond.instanceMethod yX3_init ∈ tb := tc1 (i := 121) (by decide +kernel) rfl
theorem ckX10_41 : cnOK RX10 41 "RasterMint" mX3_init 0 ∧ Cond.instanceMethod mX3_init.1 ∈ tb ∧ mX3_init.1.name = "<init>" ∧ mX3_init.2.2.2.1 = none := ⟨⟨tl1 (List.mem_of_getElem? (i := 120) (by decide +kernel)), tw125, tw242, rfl, by decide +kernel⟩, tw241, rfl, rfl⟩
theorem tw127 : Cond.initialized RX6 ∈ tb := tc1 (i := 7) (by decide +kernel) rfl
set_option maxRecDepth 20000 in
theorem tw263 : Cond.code yX6_init cX6_init 1 none ∈ tb := tc1 (i := 143) rfl rfl
theorem tw262 : Cond.instanceMethod yX6_init ∈ tb := tc1 (i := 142) (by decide +kernel) rfl
theorem ckX10_54 : cnOK RX10 54 "RasterMint" mX6_init 0 ∧ Cond.instanceMethod mX6_init.1 ∈ tb ∧ mX6_init.1.name = "<init>" ∧ mX6_init.2.2.2.1 = none := ⟨⟨tl1 (List.mem_of_getElem? (i := 141) (by decide +kernel)), tw127, tw263, rfl, by decide +kernel⟩, tw262, rfl, rfl⟩
theorem tw126 : Cond.initialized RX2 ∈ tb := tc1 (i := 6) (by decide +kernel) rfl
set_option maxRecDepth 20000 in
theorem tw266 : Cond.code yX2_init cX2_init 1 none ∈ tb := tc1 (i := 146) rfl rfl
theorem tw265 : Cond.instanceMethod yX2_init ∈ tb := tc1 (i := 145) (by decide +kernel) rfl
theorem ckX6_3 : cnOK RX6 3 "RasterMint" mX2_init 0 ∧ Cond.instanceMethod mX2_init.1 ∈ tb ∧ mX2_init.1.name = "<init>" ∧ mX2_init.2.2.2.1 = none := ⟨⟨tl1 (List.mem_of_getElem? (i := 144) (by decide +kernel)), tw126, tw266, rfl, by decide +kernel⟩, tw265, rfl, rfl⟩
theorem tw128 : Cond.initialized RX5 ∈ tb := tc1 (i := 8) (by decide +kernel) rfl
set_option maxRecDepth 20000 in
theorem tw318 : Cond.code yX5_init cX5_init 1 none ∈ tb := tc1 (i := 198) rfl rfl
theorem tw317 : Cond.instanceMethod yX5_init ∈ tb := tc1 (i := 197) (by decide +kernel) rfl
theorem ckX10_57 : cnOK RX10 57 "RasterMint" mX5_init 0 ∧ Cond.instanceMethod mX5_init.1 ∈ tb ∧ mX5_init.1.name = "<init>" ∧ mX5_init.2.2.2.1 = none := ⟨⟨tl1 (List.mem_of_getElem? (i := 196) (by decide +kernel)), tw128, tw318, rfl, by decide +kernel⟩, tw317, rfl, rfl⟩
theorem ckX5_3 : cnOK RX5 3 "RasterMint" mX2_init 0 ∧ Cond.instanceMethod mX2_init.1 ∈ tb ∧ mX2_init.1.name = "<init>" ∧ mX2_init.2.2.2.1 = none := ⟨⟨tl1 (List.mem_of_getElem? (i := 199) (by decide +kernel)), tw126, tw266, rfl, by decide +kernel⟩, tw265, rfl, rfl⟩
theorem tw329 : Cond.methodLink RX10 60 yX0_init ∈ tb := tc1 (i := 209) (by decide +kernel) rfl
theorem tw129 : Cond.initialized RX0 ∈ tb := tc1 (i := 9) (by decide +kernel) rfl
set_option maxRecDepth 20000 in
theorem tw331 : Cond.code yX0_init cX0_init 2 none ∈ tb := tc1 (i := 211) rfl rfl
theorem tw330 : Cond.instanceMethod yX0_init ∈ tb := tc1 (i := 210) (by decide +kernel) rfl
theorem ckX10_60 : cOK RX10 60 mX0_init 1 ∧ Cond.instanceMethod mX0_init.1 ∈ tb ∧ mX0_init.1.name = "<init>" ∧ mX0_init.2.2.2.1 = none := ⟨⟨tw329, tw129, tw331, rfl, by decide +kernel⟩, tw330, rfl, rfl⟩
theorem ckX0_3 : cnOK RX0 3 "RasterMint" mX2_init 0 ∧ Cond.instanceMethod mX2_init.1 ∈ tb ∧ mX2_init.1.name = "<init>" ∧ mX2_init.2.2.2.1 = none := ⟨⟨tl1 (List.mem_of_getElem? (i := 212) (by decide +kernel)), tw126, tw266, rfl, by decide +kernel⟩, tw265, rfl, rfl⟩
theorem tw366 : Cond.methodLink RX10 65 yX9_init ∈ tb := tc2 (i := 6) (by decide +kernel) rfl
theorem tw130 : Cond.initialized RX9 ∈ tb := tc1 (i := 10) (by decide +kernel) rfl
set_option maxRecDepth 20000 in
theorem tw368 : Cond.code yX9_init cX9_init 2 none ∈ tb := tc2 (i := 8) rfl rfl
theorem tw367 : Cond.instanceMethod yX9_init ∈ tb := tc2 (i := 7) (by decide +kernel) rfl
theorem ckX10_65 : cOK RX10 65 mX9_init 1 ∧ Cond.instanceMethod mX9_init.1 ∈ tb ∧ mX9_init.1.name = "<init>" ∧ mX9_init.2.2.2.1 = none := ⟨⟨tw366, tw130, tw368, rfl, by decide +kernel⟩, tw367, rfl, rfl⟩
theorem ckX9_3 : cnOK RX9 3 "RasterMint" mX2_init 0 ∧ Cond.instanceMethod mX2_init.1 ∈ tb ∧ mX2_init.1.name = "<init>" ∧ mX2_init.2.2.2.1 = none := ⟨⟨tl2 (List.mem_of_getElem? (i := 9) (by decide +kernel)), tw126, tw266, rfl, by decide +kernel⟩, tw265, rfl, rfl⟩
theorem tw418 : Cond.methodLink RX10 68 yX4_init ∈ tb := tc2 (i := 58) (by decide +kernel) rfl
theorem tw131 : Cond.initialized RX4 ∈ tb := tc1 (i := 11) (by decide +kernel) rfl
set_option maxRecDepth 20000 in
theorem tw420 : Cond.code yX4_init cX4_init 2 none ∈ tb := tc2 (i := 60) rfl rfl
theorem tw419 : Cond.instanceMethod yX4_init ∈ tb := tc2 (i := 59) (by decide +kernel) rfl
theorem ckX10_68 : cOK RX10 68 mX4_init 1 ∧ Cond.instanceMethod mX4_init.1 ∈ tb ∧ mX4_init.1.name = "<init>" ∧ mX4_init.2.2.2.1 = none := ⟨⟨tw418, tw131, tw420, rfl, by decide +kernel⟩, tw419, rfl, rfl⟩
theorem ckX4_3 : cnOK RX4 3 "RasterMint" mX2_init 0 ∧ Cond.instanceMethod mX2_init.1 ∈ tb ∧ mX2_init.1.name = "<init>" ∧ mX2_init.2.2.2.1 = none := ⟨⟨tl2 (List.mem_of_getElem? (i := 61) (by decide +kernel)), tw126, tw266, rfl, by decide +kernel⟩, tw265, rfl, rfl⟩
theorem tw447 : Cond.methodLink RX10 73 yJ7_fill_53178 ∈ tb := tc2 (i := 87) (by decide +kernel) rfl
theorem tw132 : Cond.initialized RJ7 ∈ tb := tc1 (i := 12) (by decide +kernel) rfl
set_option maxRecDepth 20000 in
theorem tw449 : Cond.code yJ7_fill_53178 cJ7_fill_53178 4 none ∈ tb := tc2 (i := 89) rfl rfl
theorem tw448 : Cond.static yJ7_fill_53178 ∈ tb := tc2 (i := 88) (by decide +kernel) rfl
theorem csX10_73 : cOK RX10 73 mJ7_fill_53178 2 ∧ Cond.static mJ7_fill_53178.1 ∈ tb := ⟨⟨tw447, tw132, tw449, rfl, by decide +kernel⟩, tw448⟩
theorem tw478 : Cond.methodLink RL 39 yX10_feed ∈ tb := tc2 (i := 118) (by decide +kernel) rfl
set_option maxRecDepth 20000 in
theorem tw481 : Cond.code yX10_feed cX10_feed 6 (some .int) ∈ tb := tc2 (i := 121) rfl rfl
theorem tw479 : Cond.instanceMethod yX10_feed ∈ tb := tc2 (i := 119) (by decide +kernel) rfl
theorem tw480 : Cond.selects RX10 yX10_feed yX10_feed ∈ tb := tc2 (i := 120) (by decide +kernel) rfl
theorem cvL_39 : cOK RL 39 mX10_feed 5 ∧ Cond.instanceMethod mX10_feed.1 ∈ tb ∧ ∃ (Cn : String) (T : u_T) (N : Nat), vwCl[9]? = some (Cn, T, N) ∧ Cond.selects Cn mX10_feed.1 mX10_feed.1 ∈ tb := ⟨⟨tw478, tw121, tw481, rfl, by decide +kernel⟩, tw479, RX10, TX10, 9, rfl, tw480⟩
theorem tw483 : Cond.methodLink RX10 87 yX1_addHigh4 ∈ tb := tc2 (i := 123) (by decide +kernel) rfl
set_option maxRecDepth 20000 in
theorem tw486 : Cond.code yX1_addHigh4 cX1_addHigh4 2 none ∈ tb := tc2 (i := 126) rfl rfl
theorem tw484 : Cond.instanceMethod yX1_addHigh4 ∈ tb := tc2 (i := 124) (by decide +kernel) rfl
theorem tw485 : Cond.selects RX1 yX1_addHigh4 yX1_addHigh4 ∈ tb := tc2 (i := 125) (by decide +kernel) rfl
theorem cvX10_87 : cOK RX10 87 mX1_addHigh4 1 ∧ Cond.instanceMethod mX1_addHigh4.1 ∈ tb ∧ ∃ (Cn : String) (T : u_T) (N : Nat), vwCl[1]? = some (Cn, T, N) ∧ Cond.selects Cn mX1_addHigh4.1 mX1_addHigh4.1 ∈ tb := ⟨⟨tw483, tw123, tw486, rfl, by decide +kernel⟩, tw484, RX1, TX1, 2, rfl, tw485⟩
theorem tw487 : Cond.methodLink RX1 20 yX1_add ∈ tb := tc2 (i := 127) (by decide +kernel) rfl
set_option maxRecDepth 20000 in
theorem tw490 : Cond.code yX1_add cX1_add 2 none ∈ tb := tc2 (i := 130) rfl rfl
theorem tw488 : Cond.instanceMethod yX1_add ∈ tb := tc2 (i := 128) (by decide +kernel) rfl
theorem tw489 : Cond.selects RX1 yX1_add yX1_add ∈ tb := tc2 (i := 129) (by decide +kernel) rfl
theorem cvX1_20 : cOK RX1 20 mX1_add 1 ∧ Cond.instanceMethod mX1_add.1 ∈ tb ∧ ∃ (Cn : String) (T : u_T) (N : Nat), vwCl[1]? = some (Cn, T, N) ∧ Cond.selects Cn mX1_add.1 mX1_add.1 ∈ tb := ⟨⟨tw487, tw123, tw490, rfl, by decide +kernel⟩, tw488, RX1, TX1, 2, rfl, tw489⟩
theorem tw491 : Cond.methodLink RL 44 yX10_end ∈ tb := tc2 (i := 131) (by decide +kernel) rfl
set_option maxRecDepth 20000 in
theorem tw494 : Cond.code yX10_end cX10_end 2 (some .boolean) ∈ tb := tc2 (i := 134) rfl rfl
theorem tw492 : Cond.instanceMethod yX10_end ∈ tb := tc2 (i := 132) (by decide +kernel) rfl
theorem tw493 : Cond.selects RX10 yX10_end yX10_end ∈ tb := tc2 (i := 133) (by decide +kernel) rfl
theorem cvL_44 : cOK RL 44 mX10_end 1 ∧ Cond.instanceMethod mX10_end.1 ∈ tb ∧ ∃ (Cn : String) (T : u_T) (N : Nat), vwCl[9]? = some (Cn, T, N) ∧ Cond.selects Cn mX10_end.1 mX10_end.1 ∈ tb := ⟨⟨tw491, tw121, tw494, rfl, by decide +kernel⟩, tw492, RX10, TX10, 9, rfl, tw493⟩
theorem tw495 : Cond.methodLink RL 49 yX10_again ∈ tb := tc2 (i := 135) (by decide +kernel) rfl
set_option maxRecDepth 20000 in
theorem tw498 : Cond.code yX10_again cX10_again 1 (some .int) ∈ tb := tc2 (i := 138) rfl rfl
theorem tw496 : Cond.instanceMethod yX10_again ∈ tb := tc2 (i := 136) (by decide +kernel) rfl
theorem tw497 : Cond.selects RX10 yX10_again yX10_again ∈ tb := tc2 (i := 137) (by decide +kernel) rfl
theorem cvL_49 : cOK RL 49 mX10_again 0 ∧ Cond.instanceMethod mX10_again.1 ∈ tb ∧ ∃ (Cn : String) (T : u_T) (N : Nat), vwCl[9]? = some (Cn, T, N) ∧ Cond.selects Cn mX10_again.1 mX10_again.1 ∈ tb := ⟨⟨tw495, tw121, tw498, rfl, by decide +kernel⟩, tw496, RX10, TX10, 9, rfl, tw497⟩
theorem tw499 : Cond.methodLink RX10 91 yX1_takeFrom ∈ tb := tc2 (i := 139) (by decide +kernel) rfl
set_option maxRecDepth 20000 in
theorem tw502 : Cond.code yX1_takeFrom cX1_takeFrom 2 none ∈ tb := tc2 (i := 142) rfl rfl
theorem tw500 : Cond.instanceMethod yX1_takeFrom ∈ tb := tc2 (i := 140) (by decide +kernel) rfl
theorem tw501 : Cond.selects RX1 yX1_takeFrom yX1_takeFrom ∈ tb := tc2 (i := 141) (by decide +kernel) rfl
theorem cvX10_91 : cOK RX10 91 mX1_takeFrom 1 ∧ Cond.instanceMethod mX1_takeFrom.1 ∈ tb ∧ ∃ (Cn : String) (T : u_T) (N : Nat), vwCl[1]? = some (Cn, T, N) ∧ Cond.selects Cn mX1_takeFrom.1 mX1_takeFrom.1 ∈ tb := ⟨⟨tw499, tw123, tw502, rfl, by decide +kernel⟩, tw500, RX1, TX1, 2, rfl, tw501⟩
theorem tw506 : Cond.methodLink RL 63 yX10_place ∈ tb := tc2 (i := 146) (by decide +kernel) rfl
set_option maxRecDepth 20000 in
theorem tw509 : Cond.code yX10_place cX10_place 1 (some .int) ∈ tb := tc2 (i := 149) rfl rfl
theorem tw507 : Cond.instanceMethod yX10_place ∈ tb := tc2 (i := 147) (by decide +kernel) rfl
theorem tw508 : Cond.selects RX10 yX10_place yX10_place ∈ tb := tc2 (i := 148) (by decide +kernel) rfl
theorem cvL_63 : cOK RL 63 mX10_place 0 ∧ Cond.instanceMethod mX10_place.1 ∈ tb ∧ ∃ (Cn : String) (T : u_T) (N : Nat), vwCl[9]? = some (Cn, T, N) ∧ Cond.selects Cn mX10_place.1 mX10_place.1 ∈ tb := ⟨⟨tw506, tw121, tw509, rfl, by decide +kernel⟩, tw507, RX10, TX10, 9, rfl, tw508⟩
theorem tw510 : Cond.methodLink RL 67 yX10_told ∈ tb := tc2 (i := 150) (by decide +kernel) rfl
set_option maxRecDepth 20000 in
theorem tw513 : Cond.code yX10_told cX10_told 2 (some .int) ∈ tb := tc2 (i := 153) rfl rfl
theorem tw511 : Cond.instanceMethod yX10_told ∈ tb := tc2 (i := 151) (by decide +kernel) rfl
theorem tw512 : Cond.selects RX10 yX10_told yX10_told ∈ tb := tc2 (i := 152) (by decide +kernel) rfl
theorem cvL_67 : cOK RL 67 mX10_told 1 ∧ Cond.instanceMethod mX10_told.1 ∈ tb ∧ ∃ (Cn : String) (T : u_T) (N : Nat), vwCl[9]? = some (Cn, T, N) ∧ Cond.selects Cn mX10_told.1 mX10_told.1 ∈ tb := ⟨⟨tw510, tw121, tw513, rfl, by decide +kernel⟩, tw511, RX10, TX10, 9, rfl, tw512⟩
theorem tw514 : Cond.methodLink RL 72 yX10_write ∈ tb := tc2 (i := 154) (by decide +kernel) rfl
set_option maxRecDepth 20000 in
theorem tw517 : Cond.code yX10_write cX10_write 3 (some .int) ∈ tb := tc2 (i := 157) rfl rfl
theorem tw515 : Cond.instanceMethod yX10_write ∈ tb := tc2 (i := 155) (by decide +kernel) rfl
theorem tw516 : Cond.selects RX10 yX10_write yX10_write ∈ tb := tc2 (i := 156) (by decide +kernel) rfl
theorem cvL_72 : cOK RL 72 mX10_write 2 ∧ Cond.instanceMethod mX10_write.1 ∈ tb ∧ ∃ (Cn : String) (T : u_T) (N : Nat), vwCl[9]? = some (Cn, T, N) ∧ Cond.selects Cn mX10_write.1 mX10_write.1 ∈ tb := ⟨⟨tw514, tw121, tw517, rfl, by decide +kernel⟩, tw515, RX10, TX10, 9, rfl, tw516⟩
theorem tw518 : Cond.methodLink RX10 115 yX10_hasRaster ∈ tb := tc2 (i := 158) (by decide +kernel) rfl
set_option maxRecDepth 20000 in
theorem tw521 : Cond.code yX10_hasRaster cX10_hasRaster 2 (some .boolean) ∈ tb := tc2 (i := 161) rfl rfl
theorem tw520 : Cond.instanceMethod yX10_hasRaster ∈ tb := tc2 (i := 160) (by decide +kernel) rfl
theorem tw0 : Cond.selects RX10 yX10_hasRaster yX10_hasRaster ∈ tb := tb_of 0 (by decide +kernel) rfl
theorem cvX10_115 : cOK RX10 115 mX10_hasRaster 1 ∧ Cond.instanceMethod mX10_hasRaster.1 ∈ tb ∧ ∃ (Cn : String) (T : u_T) (N : Nat), vwCl[9]? = some (Cn, T, N) ∧ Cond.selects Cn mX10_hasRaster.1 mX10_hasRaster.1 ∈ tb := ⟨⟨tw518, tw121, tw521, rfl, by decide +kernel⟩, tw520, RX10, TX10, 9, rfl, tw0⟩
theorem tw522 : Cond.methodLink RX10 94 yX10_isShelf ∈ tb := tc2 (i := 162) (by decide +kernel) rfl
set_option maxRecDepth 20000 in
theorem tw524 : Cond.code yX10_isShelf cX10_isShelf 1 (some .boolean) ∈ tb := tc2 (i := 164) rfl rfl
theorem tw523 : Cond.static yX10_isShelf ∈ tb := tc2 (i := 163) (by decide +kernel) rfl
theorem csX10_94 : cOK RX10 94 mX10_isShelf 1 ∧ Cond.static mX10_isShelf.1 ∈ tb := ⟨⟨tw522, tw121, tw524, rfl, by decide +kernel⟩, tw523⟩
theorem tw525 : Cond.methodLink RX10 190 yX7_isEmpty ∈ tb := tc2 (i := 165) (by decide +kernel) rfl
set_option maxRecDepth 20000 in
theorem tw528 : Cond.code yX7_isEmpty cX7_isEmpty 1 (some .boolean) ∈ tb := tc2 (i := 168) rfl rfl
theorem tw526 : Cond.instanceMethod yX7_isEmpty ∈ tb := tc2 (i := 166) (by decide +kernel) rfl
theorem tw527 : Cond.selects RX7 yX7_isEmpty yX7_isEmpty ∈ tb := tc2 (i := 167) (by decide +kernel) rfl
theorem cvX10_190 : cOK RX10 190 mX7_isEmpty 0 ∧ Cond.instanceMethod mX7_isEmpty.1 ∈ tb ∧ ∃ (Cn : String) (T : u_T) (N : Nat), vwCl[6]? = some (Cn, T, N) ∧ Cond.selects Cn mX7_isEmpty.1 mX7_isEmpty.1 ∈ tb := ⟨⟨tw525, tw122, tw528, rfl, by decide +kernel⟩, tw526, RX7, TX7, 3, rfl, tw527⟩
theorem tw529 : Cond.methodLink RX10 118 yX10_familyOf ∈ tb := tc2 (i := 169) (by decide +kernel) rfl
set_option maxRecDepth 20000 in
theorem tw531 : Cond.code yX10_familyOf cX10_familyOf 1 (some .int) ∈ tb := tc2 (i := 171) rfl rfl
theorem tw530 : Cond.static yX10_familyOf ∈ tb := tc2 (i := 170) (by decide +kernel) rfl
theorem csX10_118 : cOK RX10 118 mX10_familyOf 1 ∧ Cond.static mX10_familyOf.1 ∈ tb := ⟨⟨tw529, tw121, tw531, rfl, by decide +kernel⟩, tw530⟩
theorem tw532 : Cond.methodLink RX10 122 yX10_putOut ∈ tb := tc2 (i := 172) (by decide +kernel) rfl
set_option maxRecDepth 20000 in
theorem tw535 : Cond.code yX10_putOut cX10_putOut 4 (some .boolean) ∈ tb := tc2 (i := 175) rfl rfl
theorem tw534 : Cond.instanceMethod yX10_putOut ∈ tb := tc2 (i := 174) (by decide +kernel) rfl
theorem tw1 : Cond.selects RX10 yX10_putOut yX10_putOut ∈ tb := tb_of 1 (by decide +kernel) rfl
theorem cvX10_122 : cOK RX10 122 mX10_putOut 2 ∧ Cond.instanceMethod mX10_putOut.1 ∈ tb ∧ ∃ (Cn : String) (T : u_T) (N : Nat), vwCl[9]? = some (Cn, T, N) ∧ Cond.selects Cn mX10_putOut.1 mX10_putOut.1 ∈ tb := ⟨⟨tw532, tw121, tw535, rfl, by decide +kernel⟩, tw534, RX10, TX10, 9, rfl, tw1⟩
theorem tw536 : Cond.methodLink RX10 181 yX10_fits ∈ tb := tc2 (i := 176) (by decide +kernel) rfl
set_option maxRecDepth 20000 in
theorem tw539 : Cond.code yX10_fits cX10_fits 3 (some .boolean) ∈ tb := tc2 (i := 179) rfl rfl
theorem tw538 : Cond.instanceMethod yX10_fits ∈ tb := tc2 (i := 178) (by decide +kernel) rfl
theorem tw2 : Cond.selects RX10 yX10_fits yX10_fits ∈ tb := tb_of 2 (by decide +kernel) rfl
theorem cvX10_181 : cOK RX10 181 mX10_fits 2 ∧ Cond.instanceMethod mX10_fits.1 ∈ tb ∧ ∃ (Cn : String) (T : u_T) (N : Nat), vwCl[9]? = some (Cn, T, N) ∧ Cond.selects Cn mX10_fits.1 mX10_fits.1 ∈ tb := ⟨⟨tw536, tw121, tw539, rfl, by decide +kernel⟩, tw538, RX10, TX10, 9, rfl, tw2⟩
theorem tw540 : Cond.methodLink RX10 178 yX7_isPlain ∈ tb := tc2 (i := 180) (by decide +kernel) rfl
set_option maxRecDepth 20000 in
theorem tw543 : Cond.code yX7_isPlain cX7_isPlain 4 (some .boolean) ∈ tb := tc2 (i := 183) rfl rfl
theorem tw541 : Cond.instanceMethod yX7_isPlain ∈ tb := tc2 (i := 181) (by decide +kernel) rfl
theorem tw542 : Cond.selects RX7 yX7_isPlain yX7_isPlain ∈ tb := tc2 (i := 182) (by decide +kernel) rfl
theorem cvX10_178 : cOK RX10 178 mX7_isPlain 0 ∧ Cond.instanceMethod mX7_isPlain.1 ∈ tb ∧ ∃ (Cn : String) (T : u_T) (N : Nat), vwCl[6]? = some (Cn, T, N) ∧ Cond.selects Cn mX7_isPlain.1 mX7_isPlain.1 ∈ tb := ⟨⟨tw540, tw122, tw543, rfl, by decide +kernel⟩, tw541, RX7, TX7, 3, rfl, tw542⟩
theorem tw544 : Cond.methodLink RX7 22 yX7_count ∈ tb := tc2 (i := 184) (by decide +kernel) rfl
set_option maxRecDepth 20000 in
theorem tw547 : Cond.code yX7_count cX7_count 1 (some .int) ∈ tb := tc2 (i := 187) rfl rfl
theorem tw545 : Cond.instanceMethod yX7_count ∈ tb := tc2 (i := 185) (by decide +kernel) rfl
theorem tw546 : Cond.selects RX7 yX7_count yX7_count ∈ tb := tc2 (i := 186) (by decide +kernel) rfl
theorem cvX7_22 : cOK RX7 22 mX7_count 0 ∧ Cond.instanceMethod mX7_count.1 ∈ tb ∧ ∃ (Cn : String) (T : u_T) (N : Nat), vwCl[6]? = some (Cn, T, N) ∧ Cond.selects Cn mX7_count.1 mX7_count.1 ∈ tb := ⟨⟨tw544, tw122, tw547, rfl, by decide +kernel⟩, tw545, RX7, TX7, 3, rfl, tw546⟩
theorem tw548 : Cond.methodLink RX7 30 yX7_get ∈ tb := tc2 (i := 188) (by decide +kernel) rfl
set_option maxRecDepth 20000 in
theorem tw551 : Cond.code yX7_get cX7_get 2 (some .int) ∈ tb := tc2 (i := 191) rfl rfl
theorem tw549 : Cond.instanceMethod yX7_get ∈ tb := tc2 (i := 189) (by decide +kernel) rfl
theorem tw550 : Cond.selects RX7 yX7_get yX7_get ∈ tb := tc2 (i := 190) (by decide +kernel) rfl
theorem cvX7_30 : cOK RX7 30 mX7_get 1 ∧ Cond.instanceMethod mX7_get.1 ∈ tb ∧ ∃ (Cn : String) (T : u_T) (N : Nat), vwCl[6]? = some (Cn, T, N) ∧ Cond.selects Cn mX7_get.1 mX7_get.1 ∈ tb := ⟨⟨tw548, tw122, tw551, rfl, by decide +kernel⟩, tw549, RX7, TX7, 3, rfl, tw550⟩
theorem tw552 : Cond.methodLink RX10 171 yX7_isOpaque ∈ tb := tc2 (i := 192) (by decide +kernel) rfl
set_option maxRecDepth 20000 in
theorem tw555 : Cond.code yX7_isOpaque cX7_isOpaque 3 (some .boolean) ∈ tb := tc2 (i := 195) rfl rfl
theorem tw553 : Cond.instanceMethod yX7_isOpaque ∈ tb := tc2 (i := 193) (by decide +kernel) rfl
theorem tw554 : Cond.selects RX7 yX7_isOpaque yX7_isOpaque ∈ tb := tc2 (i := 194) (by decide +kernel) rfl
theorem cvX10_171 : cOK RX10 171 mX7_isOpaque 0 ∧ Cond.instanceMethod mX7_isOpaque.1 ∈ tb ∧ ∃ (Cn : String) (T : u_T) (N : Nat), vwCl[6]? = some (Cn, T, N) ∧ Cond.selects Cn mX7_isOpaque.1 mX7_isOpaque.1 ∈ tb := ⟨⟨tw552, tw122, tw555, rfl, by decide +kernel⟩, tw553, RX7, TX7, 3, rfl, tw554⟩
set_option maxRecDepth 20000 in
theorem tw558 : Cond.code yX10_alphaOf cX10_alphaOf 1 (some .int) ∈ tb := tc2 (i := 198) rfl rfl
theorem tw557 : Cond.static yX10_alphaOf ∈ tb := tc2 (i := 197) (by decide +kernel) rfl
theorem csX7_34 : cnOK RX7 34 "RasterMint" mX10_alphaOf 1 ∧ Cond.static mX10_alphaOf.1 ∈ tb := ⟨⟨tl2 (List.mem_of_getElem? (i := 196) (by decide +kernel)), tw121, tw558, rfl, by decide +kernel⟩, tw557⟩
theorem tw559 : Cond.methodLink RX10 175 yX7_isGray ∈ tb := tc2 (i := 199) (by decide +kernel) rfl
set_option maxRecDepth 20000 in
theorem tw562 : Cond.code yX7_isGray cX7_isGray 4 (some .boolean) ∈ tb := tc2 (i := 202) rfl rfl
theorem tw560 : Cond.instanceMethod yX7_isGray ∈ tb := tc2 (i := 200) (by decide +kernel) rfl
theorem tw561 : Cond.selects RX7 yX7_isGray yX7_isGray ∈ tb := tc2 (i := 201) (by decide +kernel) rfl
theorem cvX10_175 : cOK RX10 175 mX7_isGray 0 ∧ Cond.instanceMethod mX7_isGray.1 ∈ tb ∧ ∃ (Cn : String) (T : u_T) (N : Nat), vwCl[6]? = some (Cn, T, N) ∧ Cond.selects Cn mX7_isGray.1 mX7_isGray.1 ∈ tb := ⟨⟨tw559, tw122, tw562, rfl, by decide +kernel⟩, tw560, RX7, TX7, 3, rfl, tw561⟩
set_option maxRecDepth 20000 in
theorem tw565 : Cond.code yX10_redOf cX10_redOf 1 (some .int) ∈ tb := tc2 (i := 205) rfl rfl
theorem tw564 : Cond.static yX10_redOf ∈ tb := tc2 (i := 204) (by decide +kernel) rfl
theorem csX7_37 : cnOK RX7 37 "RasterMint" mX10_redOf 1 ∧ Cond.static mX10_redOf.1 ∈ tb := ⟨⟨tl2 (List.mem_of_getElem? (i := 203) (by decide +kernel)), tw121, tw565, rfl, by decide +kernel⟩, tw564⟩
set_option maxRecDepth 20000 in
theorem tw568 : Cond.code yX10_greenOf cX10_greenOf 1 (some .int) ∈ tb := tc2 (i := 208) rfl rfl
theorem tw567 : Cond.static yX10_greenOf ∈ tb := tc2 (i := 207) (by decide +kernel) rfl
theorem csX7_40 : cnOK RX7 40 "RasterMint" mX10_greenOf 1 ∧ Cond.static mX10_greenOf.1 ∈ tb := ⟨⟨tl2 (List.mem_of_getElem? (i := 206) (by decide +kernel)), tw121, tw568, rfl, by decide +kernel⟩, tw567⟩
set_option maxRecDepth 20000 in
theorem tw571 : Cond.code yX10_blueOf cX10_blueOf 1 (some .int) ∈ tb := tc2 (i := 211) rfl rfl
theorem tw570 : Cond.static yX10_blueOf ∈ tb := tc2 (i := 210) (by decide +kernel) rfl
theorem csX7_43 : cnOK RX7 43 "RasterMint" mX10_blueOf 1 ∧ Cond.static mX10_blueOf.1 ∈ tb := ⟨⟨tl2 (List.mem_of_getElem? (i := 209) (by decide +kernel)), tw121, tw571, rfl, by decide +kernel⟩, tw570⟩
theorem tw572 : Cond.methodLink RX10 225 yX10_hasFewColours ∈ tb := tc2 (i := 212) (by decide +kernel) rfl
set_option maxRecDepth 20000 in
theorem tw575 : Cond.code yX10_hasFewColours cX10_hasFewColours 2 (some .boolean) ∈ tb := tc2 (i := 215) rfl rfl
theorem tw574 : Cond.instanceMethod yX10_hasFewColours ∈ tb := tc2 (i := 214) (by decide +kernel) rfl
theorem tw3 : Cond.selects RX10 yX10_hasFewColours yX10_hasFewColours ∈ tb := tb_of 3 (by decide +kernel) rfl
theorem cvX10_225 : cOK RX10 225 mX10_hasFewColours 1 ∧ Cond.instanceMethod mX10_hasFewColours.1 ∈ tb ∧ ∃ (Cn : String) (T : u_T) (N : Nat), vwCl[9]? = some (Cn, T, N) ∧ Cond.selects Cn mX10_hasFewColours.1 mX10_hasFewColours.1 ∈ tb := ⟨⟨tw572, tw121, tw575, rfl, by decide +kernel⟩, tw574, RX10, TX10, 9, rfl, tw3⟩
theorem tw576 : Cond.methodLink RX10 166 yX3_gather ∈ tb := tc2 (i := 216) (by decide +kernel) rfl
set_option maxRecDepth 20000 in
theorem tw579 : Cond.code yX3_gather cX3_gather 6 none ∈ tb := tc2 (i := 219) rfl rfl
theorem tw577 : Cond.instanceMethod yX3_gather ∈ tb := tc2 (i := 217) (by decide +kernel) rfl
theorem tw578 : Cond.selects RX3 yX3_gather yX3_gather ∈ tb := tc2 (i := 218) (by decide +kernel) rfl
theorem cvX10_166 : cOK RX10 166 mX3_gather 1 ∧ Cond.instanceMethod mX3_gather.1 ∈ tb ∧ ∃ (Cn : String) (T : u_T) (N : Nat), vwCl[2]? = some (Cn, T, N) ∧ Cond.selects Cn mX3_gather.1 mX3_gather.1 ∈ tb := ⟨⟨tw576, tw125, tw579, rfl, by decide +kernel⟩, tw577, RX3, TX3, 3, rfl, tw578⟩
theorem tw580 : Cond.methodLink RX3 18 yJ7_fill_53178 ∈ tb := tc2 (i := 220) (by decide +kernel) rfl
theorem csX3_18 : cOK RX3 18 mJ7_fill_53178 2 ∧ Cond.static mJ7_fill_53178.1 ∈ tb := ⟨⟨tw580, tw132, tw449, rfl, by decide +kernel⟩, tw448⟩
theorem tw581 : Cond.methodLink RX3 28 yX7_count ∈ tb := tc2 (i := 221) (by decide +kernel) rfl
theorem cvX3_28 : cOK RX3 28 mX7_count 0 ∧ Cond.instanceMethod mX7_count.1 ∈ tb ∧ ∃ (Cn : String) (T : u_T) (N : Nat), vwCl[6]? = some (Cn, T, N) ∧ Cond.selects Cn mX7_count.1 mX7_count.1 ∈ tb := ⟨⟨tw581, tw122, tw547, rfl, by decide +kernel⟩, tw545, RX7, TX7, 3, rfl, tw546⟩
theorem tw582 : Cond.methodLink RX3 33 yX7_get ∈ tb := tc2 (i := 222) (by decide +kernel) rfl
theorem cvX3_33 : cOK RX3 33 mX7_get 1 ∧ Cond.instanceMethod mX7_get.1 ∈ tb ∧ ∃ (Cn : String) (T : u_T) (N : Nat), vwCl[6]? = some (Cn, T, N) ∧ Cond.selects Cn mX7_get.1 mX7_get.1 ∈ tb := ⟨⟨tw582, tw122, tw551, rfl, by decide +kernel⟩, tw549, RX7, TX7, 3, rfl, tw550⟩
theorem tw583 : Cond.methodLink RX3 37 yX3_slotOf ∈ tb := tc2 (i := 223) (by decide +kernel) rfl
set_option maxRecDepth 20000 in
theorem tw586 : Cond.code yX3_slotOf cX3_slotOf 6 (some .int) ∈ tb := tc2 (i := 226) rfl rfl
theorem tw585 : Cond.instanceMethod yX3_slotOf ∈ tb := tc2 (i := 225) (by decide +kernel) rfl
theorem tw4 : Cond.selects RX3 yX3_slotOf yX3_slotOf ∈ tb := tb_of 4 (by decide +kernel) rfl
theorem cvX3_37 : cOK RX3 37 mX3_slotOf 1 ∧ Cond.instanceMethod mX3_slotOf.1 ∈ tb ∧ ∃ (Cn : String) (T : u_T) (N : Nat), vwCl[2]? = some (Cn, T, N) ∧ Cond.selects Cn mX3_slotOf.1 mX3_slotOf.1 ∈ tb := ⟨⟨tw583, tw125, tw586, rfl, by decide +kernel⟩, tw585, RX3, TX3, 3, rfl, tw4⟩
theorem tw595 : Cond.methodLink RX0 177 yX3_gather ∈ tb := tc2 (i := 235) (by decide +kernel) rfl
theorem cvX0_177 : cOK RX0 177 mX3_gather 1 ∧ Cond.instanceMethod mX3_gather.1 ∈ tb ∧ ∃ (Cn : String) (T : u_T) (N : Nat), vwCl[2]? = some (Cn, T, N) ∧ Cond.selects Cn mX3_gather.1 mX3_gather.1 ∈ tb := ⟨⟨tw595, tw125, tw579, rfl, by decide +kernel⟩, tw577, RX3, TX3, 3, rfl, tw578⟩
theorem tw596 : Cond.methodLink RX0 186 yX0_writeHeader ∈ tb := tc2 (i := 236) (by decide +kernel) rfl
set_option maxRecDepth 20000 in
theorem tw598 : Cond.code yX0_writeHeader cX0_writeHeader 4 none ∈ tb := tc2 (i := 238) rfl rfl
theorem tw597 : Cond.static yX0_writeHeader ∈ tb := tc2 (i := 237) (by decide +kernel) rfl
theorem csX0_186 : cOK RX0 186 mX0_writeHeader 4 ∧ Cond.static mX0_writeHeader.1 ∈ tb := ⟨⟨tw596, tw129, tw598, rfl, by decide +kernel⟩, tw597⟩
theorem tw599 : Cond.methodLink RX0 198 yX1_add ∈ tb := tc2 (i := 239) (by decide +kernel) rfl
theorem cvX0_198 : cOK RX0 198 mX1_add 1 ∧ Cond.instanceMethod mX1_add.1 ∈ tb ∧ ∃ (Cn : String) (T : u_T) (N : Nat), vwCl[1]? = some (Cn, T, N) ∧ Cond.selects Cn mX1_add.1 mX1_add.1 ∈ tb := ⟨⟨tw599, tw123, tw490, rfl, by decide +kernel⟩, tw488, RX1, TX1, 2, rfl, tw489⟩
theorem tw600 : Cond.methodLink RX0 215 yX1_addZeros ∈ tb := tc3 (i := 0) (by decide +kernel) rfl
set_option maxRecDepth 20000 in
theorem tw603 : Cond.code yX1_addZeros cX1_addZeros 3 none ∈ tb := tc3 (i := 3) rfl rfl
theorem tw601 : Cond.instanceMethod yX1_addZeros ∈ tb := tc3 (i := 1) (by decide +kernel) rfl
theorem tw602 : Cond.selects RX1 yX1_addZeros yX1_addZeros ∈ tb := tc3 (i := 2) (by decide +kernel) rfl
theorem cvX0_215 : cOK RX0 215 mX1_addZeros 1 ∧ Cond.instanceMethod mX1_addZeros.1 ∈ tb ∧ ∃ (Cn : String) (T : u_T) (N : Nat), vwCl[1]? = some (Cn, T, N) ∧ Cond.selects Cn mX1_addZeros.1 mX1_addZeros.1 ∈ tb := ⟨⟨tw600, tw123, tw603, rfl, by decide +kernel⟩, tw601, RX1, TX1, 2, rfl, tw602⟩
theorem tw604 : Cond.methodLink RX0 218 yX1_addLow4 ∈ tb := tc3 (i := 4) (by decide +kernel) rfl
set_option maxRecDepth 20000 in
theorem tw607 : Cond.code yX1_addLow4 cX1_addLow4 2 none ∈ tb := tc3 (i := 7) rfl rfl
theorem tw605 : Cond.instanceMethod yX1_addLow4 ∈ tb := tc3 (i := 5) (by decide +kernel) rfl
theorem tw606 : Cond.selects RX1 yX1_addLow4 yX1_addLow4 ∈ tb := tc3 (i := 6) (by decide +kernel) rfl
theorem cvX0_218 : cOK RX0 218 mX1_addLow4 1 ∧ Cond.instanceMethod mX1_addLow4.1 ∈ tb ∧ ∃ (Cn : String) (T : u_T) (N : Nat), vwCl[1]? = some (Cn, T, N) ∧ Cond.selects Cn mX1_addLow4.1 mX1_addLow4.1 ∈ tb := ⟨⟨tw604, tw123, tw607, rfl, by decide +kernel⟩, tw605, RX1, TX1, 2, rfl, tw606⟩
theorem tw608 : Cond.methodLink RX1 24 yX1_addLow2 ∈ tb := tc3 (i := 8) (by decide +kernel) rfl
set_option maxRecDepth 20000 in
theorem tw611 : Cond.code yX1_addLow2 cX1_addLow2 2 none ∈ tb := tc3 (i := 11) rfl rfl
theorem tw609 : Cond.instanceMethod yX1_addLow2 ∈ tb := tc3 (i := 9) (by decide +kernel) rfl
theorem tw610 : Cond.selects RX1 yX1_addLow2 yX1_addLow2 ∈ tb := tc3 (i := 10) (by decide +kernel) rfl
theorem cvX1_24 : cOK RX1 24 mX1_addLow2 1 ∧ Cond.instanceMethod mX1_addLow2.1 ∈ tb ∧ ∃ (Cn : String) (T : u_T) (N : Nat), vwCl[1]? = some (Cn, T, N) ∧ Cond.selects Cn mX1_addLow2.1 mX1_addLow2.1 ∈ tb := ⟨⟨tw608, tw123, tw611, rfl, by decide +kernel⟩, tw609, RX1, TX1, 2, rfl, tw610⟩
theorem tw612 : Cond.methodLink RX0 221 yX1_addLow2 ∈ tb := tc3 (i := 12) (by decide +kernel) rfl
theorem cvX0_221 : cOK RX0 221 mX1_addLow2 1 ∧ Cond.instanceMethod mX1_addLow2.1 ∈ tb ∧ ∃ (Cn : String) (T : u_T) (N : Nat), vwCl[1]? = some (Cn, T, N) ∧ Cond.selects Cn mX1_addLow2.1 mX1_addLow2.1 ∈ tb := ⟨⟨tw612, tw123, tw611, rfl, by decide +kernel⟩, tw609, RX1, TX1, 2, rfl, tw610⟩
theorem tw613 : Cond.methodLink RX0 190 yX3_get ∈ tb := tc3 (i := 13) (by decide +kernel) rfl
set_option maxRecDepth 20000 in
theorem tw616 : Cond.code yX3_get cX3_get 2 (some .int) ∈ tb := tc3 (i := 16) rfl rfl
theorem tw614 : Cond.instanceMethod yX3_get ∈ tb := tc3 (i := 14) (by decide +kernel) rfl
theorem tw615 : Cond.selects RX3 yX3_get yX3_get ∈ tb := tc3 (i := 15) (by decide +kernel) rfl
theorem cvX0_190 : cOK RX0 190 mX3_get 1 ∧ Cond.instanceMethod mX3_get.1 ∈ tb ∧ ∃ (Cn : String) (T : u_T) (N : Nat), vwCl[2]? = some (Cn, T, N) ∧ Cond.selects Cn mX3_get.1 mX3_get.1 ∈ tb := ⟨⟨tw613, tw125, tw616, rfl, by decide +kernel⟩, tw614, RX3, TX3, 3, rfl, tw615⟩
theorem tw617 : Cond.methodLink RX0 194 yX0_writeBlueFirst ∈ tb := tc3 (i := 17) (by decide +kernel) rfl
set_option maxRecDepth 20000 in
theorem tw619 : Cond.code yX0_writeBlueFirst cX0_writeBlueFirst 2 none ∈ tb := tc3 (i := 19) rfl rfl
theorem tw618 : Cond.static yX0_writeBlueFirst ∈ tb := tc3 (i := 18) (by decide +kernel) rfl
theorem csX0_194 : cOK RX0 194 mX0_writeBlueFirst 2 ∧ Cond.static mX0_writeBlueFirst.1 ∈ tb := ⟨⟨tw617, tw129, tw619, rfl, by decide +kernel⟩, tw618⟩
theorem csX0_224 : cnOK RX0 224 "RasterMint" mX10_blueOf 1 ∧ Cond.static mX10_blueOf.1 ∈ tb := ⟨⟨tl3 (List.mem_of_getElem? (i := 20) (by decide +kernel)), tw121, tw571, rfl, by decide +kernel⟩, tw570⟩
theorem csX0_227 : cnOK RX0 227 "RasterMint" mX10_greenOf 1 ∧ Cond.static mX10_greenOf.1 ∈ tb := ⟨⟨tl3 (List.mem_of_getElem? (i := 21) (by decide +kernel)), tw121, tw568, rfl, by decide +kernel⟩, tw567⟩
theorem csX0_230 : cnOK RX0 230 "RasterMint" mX10_redOf 1 ∧ Cond.static mX10_redOf.1 ∈ tb := ⟨⟨tl3 (List.mem_of_getElem? (i := 22) (by decide +kernel)), tw121, tw565, rfl, by decide +kernel⟩, tw564⟩
theorem tw623 : Cond.methodLink RX0 203 yX0_writeRuns ∈ tb := tc3 (i := 23) (by decide +kernel) rfl
set_option maxRecDepth 20000 in
theorem tw626 : Cond.code yX0_writeRuns cX0_writeRuns 9 none ∈ tb := tc3 (i := 26) rfl rfl
theorem tw625 : Cond.instanceMethod yX0_writeRuns ∈ tb := tc3 (i := 25) (by decide +kernel) rfl
theorem tw5 : Cond.selects RX0 yX0_writeRuns yX0_writeRuns ∈ tb := tb_of 5 (by decide +kernel) rfl
theorem cvX0_203 : cOK RX0 203 mX0_writeRuns 3 ∧ Cond.instanceMethod mX0_writeRuns.1 ∈ tb ∧ ∃ (Cn : String) (T : u_T) (N : Nat), vwCl[0]? = some (Cn, T, N) ∧ Cond.selects Cn mX0_writeRuns.1 mX0_writeRuns.1 ∈ tb := ⟨⟨tw623, tw129, tw626, rfl, by decide +kernel⟩, tw625, RX0, TX0, 12, rfl, tw5⟩
theorem tw627 : Cond.methodLink RX0 233 yX7_get ∈ tb := tc3 (i := 27) (by decide +kernel) rfl
theorem cvX0_233 : cOK RX0 233 mX7_get 1 ∧ Cond.instanceMethod mX7_get.1 ∈ tb ∧ ∃ (Cn : String) (T : u_T) (N : Nat), vwCl[6]? = some (Cn, T, N) ∧ Cond.selects Cn mX7_get.1 mX7_get.1 ∈ tb := ⟨⟨tw627, tw122, tw551, rfl, by decide +kernel⟩, tw549, RX7, TX7, 3, rfl, tw550⟩
theorem tw628 : Cond.methodLink RX0 234 yX3_numberOf ∈ tb := tc3 (i := 28) (by decide +kernel) rfl
set_option maxRecDepth 20000 in
theorem tw631 : Cond.code yX3_numberOf cX3_numberOf 2 (some .int) ∈ tb := tc3 (i := 31) rfl rfl
theorem tw629 : Cond.instanceMethod yX3_numberOf ∈ tb := tc3 (i := 29) (by decide +kernel) rfl
theorem tw630 : Cond.selects RX3 yX3_numberOf yX3_numberOf ∈ tb := tc3 (i := 30) (by decide +kernel) rfl
theorem cvX0_234 : cOK RX0 234 mX3_numberOf 1 ∧ Cond.instanceMethod mX3_numberOf.1 ∈ tb ∧ ∃ (Cn : String) (T : u_T) (N : Nat), vwCl[2]? = some (Cn, T, N) ∧ Cond.selects Cn mX3_numberOf.1 mX3_numberOf.1 ∈ tb := ⟨⟨tw628, tw125, tw631, rfl, by decide +kernel⟩, tw629, RX3, TX3, 3, rfl, tw630⟩
theorem tw632 : Cond.methodLink RX3 40 yJ9_max_7cf53 ∈ tb := tc3 (i := 32) (by decide +kernel) rfl
theorem tw141 : Cond.initialized RJ9 ∈ tb := tc1 (i := 21) (by decide +kernel) rfl
set_option maxRecDepth 20000 in
theorem tw634 : Cond.code yJ9_max_7cf53 cJ9_max_7cf53 2 (some .int) ∈ tb := tc3 (i := 34) rfl rfl
theorem tw633 : Cond.static yJ9_max_7cf53 ∈ tb := tc3 (i := 33) (by decide +kernel) rfl
theorem csX3_40 : cOK RX3 40 mJ9_max_7cf53 2 ∧ Cond.static mJ9_max_7cf53.1 ∈ tb := ⟨⟨tw632, tw141, tw634, rfl, by decide +kernel⟩, tw633⟩
theorem tw635 : Cond.methodLink RX0 207 yX0_writeRow ∈ tb := tc3 (i := 35) (by decide +kernel) rfl
set_option maxRecDepth 20000 in
theorem tw638 : Cond.code yX0_writeRow cX0_writeRow 7 none ∈ tb := tc3 (i := 38) rfl rfl
theorem tw637 : Cond.instanceMethod yX0_writeRow ∈ tb := tc3 (i := 37) (by decide +kernel) rfl
theorem tw6 : Cond.selects RX0 yX0_writeRow yX0_writeRow ∈ tb := tb_of 6 (by decide +kernel) rfl
theorem cvX0_207 : cOK RX0 207 mX0_writeRow 4 ∧ Cond.instanceMethod mX0_writeRow.1 ∈ tb ∧ ∃ (Cn : String) (T : u_T) (N : Nat), vwCl[0]? = some (Cn, T, N) ∧ Cond.selects Cn mX0_writeRow.1 mX0_writeRow.1 ∈ tb := ⟨⟨tw635, tw129, tw638, rfl, by decide +kernel⟩, tw637, RX0, TX0, 12, rfl, tw6⟩
theorem tw639 : Cond.methodLink RX0 212 yX1_setLow4 ∈ tb := tc3 (i := 39) (by decide +kernel) rfl
set_option maxRecDepth 20000 in
theorem tw642 : Cond.code yX1_setLow4 cX1_setLow4 4 none ∈ tb := tc3 (i := 42) rfl rfl
theorem tw640 : Cond.instanceMethod yX1_setLow4 ∈ tb := tc3 (i := 40) (by decide +kernel) rfl
theorem tw641 : Cond.selects RX1 yX1_setLow4 yX1_setLow4 ∈ tb := tc3 (i := 41) (by decide +kernel) rfl
theorem cvX0_212 : cOK RX0 212 mX1_setLow4 2 ∧ Cond.instanceMethod mX1_setLow4.1 ∈ tb ∧ ∃ (Cn : String) (T : u_T) (N : Nat), vwCl[1]? = some (Cn, T, N) ∧ Cond.selects Cn mX1_setLow4.1 mX1_setLow4.1 ∈ tb := ⟨⟨tw639, tw123, tw642, rfl, by decide +kernel⟩, tw640, RX1, TX1, 2, rfl, tw641⟩
theorem tw646 : Cond.methodLink RX4 138 yX3_gather ∈ tb := tc3 (i := 46) (by decide +kernel) rfl
theorem cvX4_138 : cOK RX4 138 mX3_gather 1 ∧ Cond.instanceMethod mX3_gather.1 ∈ tb ∧ ∃ (Cn : String) (T : u_T) (N : Nat), vwCl[2]? = some (Cn, T, N) ∧ Cond.selects Cn mX3_gather.1 mX3_gather.1 ∈ tb := ⟨⟨tw646, tw125, tw579, rfl, by decide +kernel⟩, tw577, RX3, TX3, 3, rfl, tw578⟩
theorem tw647 : Cond.methodLink RX4 143 yX4_writeHeader ∈ tb := tc3 (i := 47) (by decide +kernel) rfl
set_option maxRecDepth 20000 in
theorem tw649 : Cond.code yX4_writeHeader cX4_writeHeader 4 none ∈ tb := tc3 (i := 49) rfl rfl
theorem tw648 : Cond.static yX4_writeHeader ∈ tb := tc3 (i := 48) (by decide +kernel) rfl
theorem csX4_143 : cOK RX4 143 mX4_writeHeader 4 ∧ Cond.static mX4_writeHeader.1 ∈ tb := ⟨⟨tw647, tw131, tw649, rfl, by decide +kernel⟩, tw648⟩
theorem tw650 : Cond.methodLink RX4 155 yX1_add ∈ tb := tc3 (i := 50) (by decide +kernel) rfl
theorem cvX4_155 : cOK RX4 155 mX1_add 1 ∧ Cond.instanceMethod mX1_add.1 ∈ tb ∧ ∃ (Cn : String) (T : u_T) (N : Nat), vwCl[1]? = some (Cn, T, N) ∧ Cond.selects Cn mX1_add.1 mX1_add.1 ∈ tb := ⟨⟨tw650, tw123, tw490, rfl, by decide +kernel⟩, tw488, RX1, TX1, 2, rfl, tw489⟩
theorem tw651 : Cond.methodLink RX4 160 yX1_addLow4 ∈ tb := tc3 (i := 51) (by decide +kernel) rfl
theorem cvX4_160 : cOK RX4 160 mX1_addLow4 1 ∧ Cond.instanceMethod mX1_addLow4.1 ∈ tb ∧ ∃ (Cn : String) (T : u_T) (N : Nat), vwCl[1]? = some (Cn, T, N) ∧ Cond.selects Cn mX1_addLow4.1 mX1_addLow4.1 ∈ tb := ⟨⟨tw651, tw123, tw607, rfl, by decide +kernel⟩, tw605, RX1, TX1, 2, rfl, tw606⟩
theorem tw652 : Cond.methodLink RX4 163 yX1_addLow2 ∈ tb := tc3 (i := 52) (by decide +kernel) rfl
theorem cvX4_163 : cOK RX4 163 mX1_addLow2 1 ∧ Cond.instanceMethod mX1_addLow2.1 ∈ tb ∧ ∃ (Cn : String) (T : u_T) (N : Nat), vwCl[1]? = some (Cn, T, N) ∧ Cond.selects Cn mX1_addLow2.1 mX1_addLow2.1 ∈ tb := ⟨⟨tw652, tw123, tw611, rfl, by decide +kernel⟩, tw609, RX1, TX1, 2, rfl, tw610⟩
theorem tw653 : Cond.methodLink RX4 166 yX1_addZeros ∈ tb := tc3 (i := 53) (by decide +kernel) rfl
theorem cvX4_166 : cOK RX4 166 mX1_addZeros 1 ∧ Cond.instanceMethod mX1_addZeros.1 ∈ tb ∧ ∃ (Cn : String) (T : u_T) (N : Nat), vwCl[1]? = some (Cn, T, N) ∧ Cond.selects Cn mX1_addZeros.1 mX1_addZeros.1 ∈ tb := ⟨⟨tw653, tw123, tw603, rfl, by decide +kernel⟩, tw601, RX1, TX1, 2, rfl, tw602⟩
theorem tw654 : Cond.methodLink RX4 147 yX4_writeLine ∈ tb := tc3 (i := 54) (by decide +kernel) rfl
set_option maxRecDepth 20000 in
theorem tw657 : Cond.code yX4_writeLine cX4_writeLine 10 none ∈ tb := tc3 (i := 57) rfl rfl
theorem tw656 : Cond.instanceMethod yX4_writeLine ∈ tb := tc3 (i := 56) (by decide +kernel) rfl
theorem tw7 : Cond.selects RX4 yX4_writeLine yX4_writeLine ∈ tb := tb_of 7 (by decide +kernel) rfl
theorem cvX4_147 : cOK RX4 147 mX4_writeLine 5 ∧ Cond.instanceMethod mX4_writeLine.1 ∈ tb ∧ ∃ (Cn : String) (T : u_T) (N : Nat), vwCl[3]? = some (Cn, T, N) ∧ Cond.selects Cn mX4_writeLine.1 mX4_writeLine.1 ∈ tb := ⟨⟨tw654, tw131, tw657, rfl, by decide +kernel⟩, tw656, RX4, TX4, 10, rfl, tw7⟩
theorem tw658 : Cond.methodLink RX4 169 yX4_sampleAt ∈ tb := tc3 (i := 58) (by decide +kernel) rfl
set_option maxRecDepth 20000 in
theorem tw661 : Cond.code yX4_sampleAt cX4_sampleAt 6 (some .int) ∈ tb := tc3 (i := 61) rfl rfl
theorem tw660 : Cond.instanceMethod yX4_sampleAt ∈ tb := tc3 (i := 60) (by decide +kernel) rfl
theorem tw8 : Cond.selects RX4 yX4_sampleAt yX4_sampleAt ∈ tb := tb_of 8 (by decide +kernel) rfl
theorem cvX4_169 : cOK RX4 169 mX4_sampleAt 4 ∧ Cond.instanceMethod mX4_sampleAt.1 ∈ tb ∧ ∃ (Cn : String) (T : u_T) (N : Nat), vwCl[3]? = some (Cn, T, N) ∧ Cond.selects Cn mX4_sampleAt.1 mX4_sampleAt.1 ∈ tb := ⟨⟨tw658, tw131, tw661, rfl, by decide +kernel⟩, tw660, RX4, TX4, 10, rfl, tw8⟩
theorem tw662 : Cond.methodLink RX4 128 yX7_get ∈ tb := tc3 (i := 62) (by decide +kernel) rfl
theorem cvX4_128 : cOK RX4 128 mX7_get 1 ∧ Cond.instanceMethod mX7_get.1 ∈ tb ∧ ∃ (Cn : String) (T : u_T) (N : Nat), vwCl[6]? = some (Cn, T, N) ∧ Cond.selects Cn mX7_get.1 mX7_get.1 ∈ tb := ⟨⟨tw662, tw122, tw551, rfl, by decide +kernel⟩, tw549, RX7, TX7, 3, rfl, tw550⟩
theorem tw663 : Cond.methodLink RX4 173 yX3_numberOf ∈ tb := tc3 (i := 63) (by decide +kernel) rfl
theorem cvX4_173 : cOK RX4 173 mX3_numberOf 1 ∧ Cond.instanceMethod mX3_numberOf.1 ∈ tb ∧ ∃ (Cn : String) (T : u_T) (N : Nat), vwCl[2]? = some (Cn, T, N) ∧ Cond.selects Cn mX3_numberOf.1 mX3_numberOf.1 ∈ tb := ⟨⟨tw663, tw125, tw631, rfl, by decide +kernel⟩, tw629, RX3, TX3, 3, rfl, tw630⟩
theorem tw664 : Cond.methodLink RX4 151 yX4_writeTable ∈ tb := tc3 (i := 64) (by decide +kernel) rfl
set_option maxRecDepth 20000 in
theorem tw667 : Cond.code yX4_writeTable cX4_writeTable 4 none ∈ tb := tc3 (i := 67) rfl rfl
theorem tw666 : Cond.instanceMethod yX4_writeTable ∈ tb := tc3 (i := 66) (by decide +kernel) rfl
theorem tw9 : Cond.selects RX4 yX4_writeTable yX4_writeTable ∈ tb := tb_of 9 (by decide +kernel) rfl
theorem cvX4_151 : cOK RX4 151 mX4_writeTable 1 ∧ Cond.instanceMethod mX4_writeTable.1 ∈ tb ∧ ∃ (Cn : String) (T : u_T) (N : Nat), vwCl[3]? = some (Cn, T, N) ∧ Cond.selects Cn mX4_writeTable.1 mX4_writeTable.1 ∈ tb := ⟨⟨tw664, tw131, tw667, rfl, by decide +kernel⟩, tw666, RX4, TX4, 10, rfl, tw9⟩
theorem tw668 : Cond.methodLink RX4 176 yX3_get ∈ tb := tc3 (i := 68) (by decide +kernel) rfl
theorem cvX4_176 : cOK RX4 176 mX3_get 1 ∧ Cond.instanceMethod mX3_get.1 ∈ tb ∧ ∃ (Cn : String) (T : u_T) (N : Nat), vwCl[2]? = some (Cn, T, N) ∧ Cond.selects Cn mX3_get.1 mX3_get.1 ∈ tb := ⟨⟨tw668, tw125, tw616, rfl, by decide +kernel⟩, tw614, RX3, TX3, 3, rfl, tw615⟩
theorem csX4_177 : cnOK RX4 177 "RasterMint" mX10_redOf 1 ∧ Cond.static mX10_redOf.1 ∈ tb := ⟨⟨tl3 (List.mem_of_getElem? (i := 69) (by decide +kernel)), tw121, tw565, rfl, by decide +kernel⟩, tw564⟩
theorem csX4_180 : cnOK RX4 180 "RasterMint" mX10_greenOf 1 ∧ Cond.static mX10_greenOf.1 ∈ tb := ⟨⟨tl3 (List.mem_of_getElem? (i := 70) (by decide +kernel)), tw121, tw568, rfl, by decide +kernel⟩, tw567⟩
theorem csX4_183 : cnOK RX4 183 "RasterMint" mX10_blueOf 1 ∧ Cond.static mX10_blueOf.1 ∈ tb := ⟨⟨tl3 (List.mem_of_getElem? (i := 71) (by decide +kernel)), tw121, tw571, rfl, by decide +kernel⟩, tw570⟩
theorem tw675 : Cond.methodLink RX5 124 yX1_add ∈ tb := tc3 (i := 75) (by decide +kernel) rfl
theorem cvX5_124 : cOK RX5 124 mX1_add 1 ∧ Cond.instanceMethod mX1_add.1 ∈ tb ∧ ∃ (Cn : String) (T : u_T) (N : Nat), vwCl[1]? = some (Cn, T, N) ∧ Cond.selects Cn mX1_add.1 mX1_add.1 ∈ tb := ⟨⟨tw675, tw123, tw490, rfl, by decide +kernel⟩, tw488, RX1, TX1, 2, rfl, tw489⟩
theorem tw676 : Cond.methodLink RX5 129 yX1_addDecimal ∈ tb := tc3 (i := 76) (by decide +kernel) rfl
set_option maxRecDepth 20000 in
theorem tw679 : Cond.code yX1_addDecimal cX1_addDecimal 2 none ∈ tb := tc3 (i := 79) rfl rfl
theorem tw677 : Cond.instanceMethod yX1_addDecimal ∈ tb := tc3 (i := 77) (by decide +kernel) rfl
theorem tw678 : Cond.selects RX1 yX1_addDecimal yX1_addDecimal ∈ tb := tc3 (i := 78) (by decide +kernel) rfl
theorem cvX5_129 : cOK RX5 129 mX1_addDecimal 1 ∧ Cond.instanceMethod mX1_addDecimal.1 ∈ tb ∧ ∃ (Cn : String) (T : u_T) (N : Nat), vwCl[1]? = some (Cn, T, N) ∧ Cond.selects Cn mX1_addDecimal.1 mX1_addDecimal.1 ∈ tb := ⟨⟨tw676, tw123, tw679, rfl, by decide +kernel⟩, tw677, RX1, TX1, 2, rfl, tw678⟩
theorem tw680 : Cond.methodLink RX5 132 yX5_writeSigns ∈ tb := tc3 (i := 80) (by decide +kernel) rfl
set_option maxRecDepth 20000 in
theorem tw682 : Cond.code yX5_writeSigns cX5_writeSigns 5 none ∈ tb := tc3 (i := 82) rfl rfl
theorem tw681 : Cond.static yX5_writeSigns ∈ tb := tc3 (i := 81) (by decide +kernel) rfl
theorem csX5_132 : cOK RX5 132 mX5_writeSigns 2 ∧ Cond.static mX5_writeSigns.1 ∈ tb := ⟨⟨tw680, tw128, tw682, rfl, by decide +kernel⟩, tw681⟩
theorem tw683 : Cond.methodLink RX5 143 yX7_get ∈ tb := tc3 (i := 83) (by decide +kernel) rfl
theorem cvX5_143 : cOK RX5 143 mX7_get 1 ∧ Cond.instanceMethod mX7_get.1 ∈ tb ∧ ∃ (Cn : String) (T : u_T) (N : Nat), vwCl[6]? = some (Cn, T, N) ∧ Cond.selects Cn mX7_get.1 mX7_get.1 ∈ tb := ⟨⟨tw683, tw122, tw551, rfl, by decide +kernel⟩, tw549, RX7, TX7, 3, rfl, tw550⟩
theorem tw684 : Cond.methodLink RX5 136 yX5_writeBits ∈ tb := tc3 (i := 84) (by decide +kernel) rfl
set_option maxRecDepth 20000 in
theorem tw686 : Cond.code yX5_writeBits cX5_writeBits 6 none ∈ tb := tc3 (i := 86) rfl rfl
theorem tw685 : Cond.static yX5_writeBits ∈ tb := tc3 (i := 85) (by decide +kernel) rfl
theorem csX5_136 : cOK RX5 136 mX5_writeBits 2 ∧ Cond.static mX5_writeBits.1 ∈ tb := ⟨⟨tw684, tw128, tw686, rfl, by decide +kernel⟩, tw685⟩
theorem tw687 : Cond.methodLink RX5 139 yX5_writeSamples ∈ tb := tc3 (i := 87) (by decide +kernel) rfl
set_option maxRecDepth 20000 in
theorem tw689 : Cond.code yX5_writeSamples cX5_writeSamples 6 none ∈ tb := tc3 (i := 89) rfl rfl
theorem tw688 : Cond.static yX5_writeSamples ∈ tb := tc3 (i := 88) (by decide +kernel) rfl
theorem csX5_139 : cOK RX5 139 mX5_writeSamples 3 ∧ Cond.static mX5_writeSamples.1 ∈ tb := ⟨⟨tw687, tw128, tw689, rfl, by decide +kernel⟩, tw688⟩
theorem tw690 : Cond.methodLink RX5 103 yX7_count ∈ tb := tc3 (i := 90) (by decide +kernel) rfl
theorem cvX5_103 : cOK RX5 103 mX7_count 0 ∧ Cond.instanceMethod mX7_count.1 ∈ tb ∧ ∃ (Cn : String) (T : u_T) (N : Nat), vwCl[6]? = some (Cn, T, N) ∧ Cond.selects Cn mX7_count.1 mX7_count.1 ∈ tb := ⟨⟨tw690, tw122, tw547, rfl, by decide +kernel⟩, tw545, RX7, TX7, 3, rfl, tw546⟩
theorem tw691 : Cond.methodLink RX5 147 yX5_writeNumbers ∈ tb := tc3 (i := 91) (by decide +kernel) rfl
set_option maxRecDepth 20000 in
theorem tw693 : Cond.code yX5_writeNumbers cX5_writeNumbers 3 none ∈ tb := tc3 (i := 93) rfl rfl
theorem tw692 : Cond.static yX5_writeNumbers ∈ tb := tc3 (i := 92) (by decide +kernel) rfl
theorem csX5_147 : cOK RX5 147 mX5_writeNumbers 3 ∧ Cond.static mX5_writeNumbers.1 ∈ tb := ⟨⟨tw691, tw128, tw693, rfl, by decide +kernel⟩, tw692⟩
theorem csX5_154 : cnOK RX5 154 "RasterMint" mX10_redOf 1 ∧ Cond.static mX10_redOf.1 ∈ tb := ⟨⟨tl3 (List.mem_of_getElem? (i := 94) (by decide +kernel)), tw121, tw565, rfl, by decide +kernel⟩, tw564⟩
theorem csX5_157 : cnOK RX5 157 "RasterMint" mX10_greenOf 1 ∧ Cond.static mX10_greenOf.1 ∈ tb := ⟨⟨tl3 (List.mem_of_getElem? (i := 95) (by decide +kernel)), tw121, tw568, rfl, by decide +kernel⟩, tw567⟩
theorem csX5_160 : cnOK RX5 160 "RasterMint" mX10_blueOf 1 ∧ Cond.static mX10_blueOf.1 ∈ tb := ⟨⟨tl3 (List.mem_of_getElem? (i := 96) (by decide +kernel)), tw121, tw571, rfl, by decide +kernel⟩, tw570⟩
theorem tw697 : Cond.methodLink RX5 151 yX5_writeBytes ∈ tb := tc3 (i := 97) (by decide +kernel) rfl
set_option maxRecDepth 20000 in
theorem tw699 : Cond.code yX5_writeBytes cX5_writeBytes 3 none ∈ tb := tc3 (i := 99) rfl rfl
theorem tw698 : Cond.static yX5_writeBytes ∈ tb := tc3 (i := 98) (by decide +kernel) rfl
theorem csX5_151 : cOK RX5 151 mX5_writeBytes 3 ∧ Cond.static mX5_writeBytes.1 ∈ tb := ⟨⟨tw697, tw128, tw699, rfl, by decide +kernel⟩, tw698⟩
theorem tw703 : Cond.methodLink RX6 117 yX1_add ∈ tb := tc3 (i := 103) (by decide +kernel) rfl
theorem cvX6_117 : cOK RX6 117 mX1_add 1 ∧ Cond.instanceMethod mX1_add.1 ∈ tb ∧ ∃ (Cn : String) (T : u_T) (N : Nat), vwCl[1]? = some (Cn, T, N) ∧ Cond.selects Cn mX1_add.1 mX1_add.1 ∈ tb := ⟨⟨tw703, tw123, tw490, rfl, by decide +kernel⟩, tw488, RX1, TX1, 2, rfl, tw489⟩
theorem tw704 : Cond.methodLink RX6 125 yX1_addHigh4 ∈ tb := tc3 (i := 104) (by decide +kernel) rfl
theorem cvX6_125 : cOK RX6 125 mX1_addHigh4 1 ∧ Cond.instanceMethod mX1_addHigh4.1 ∈ tb ∧ ∃ (Cn : String) (T : u_T) (N : Nat), vwCl[1]? = some (Cn, T, N) ∧ Cond.selects Cn mX1_addHigh4.1 mX1_addHigh4.1 ∈ tb := ⟨⟨tw704, tw123, tw486, rfl, by decide +kernel⟩, tw484, RX1, TX1, 2, rfl, tw485⟩
theorem tw705 : Cond.methodLink RX6 131 yX7_isOpaque ∈ tb := tc3 (i := 105) (by decide +kernel) rfl
theorem cvX6_131 : cOK RX6 131 mX7_isOpaque 0 ∧ Cond.instanceMethod mX7_isOpaque.1 ∈ tb ∧ ∃ (Cn : String) (T : u_T) (N : Nat), vwCl[6]? = some (Cn, T, N) ∧ Cond.selects Cn mX7_isOpaque.1 mX7_isOpaque.1 ∈ tb := ⟨⟨tw705, tw122, tw555, rfl, by decide +kernel⟩, tw553, RX7, TX7, 3, rfl, tw554⟩
theorem tw706 : Cond.methodLink RX6 135 yX6_writeChunks ∈ tb := tc3 (i := 106) (by decide +kernel) rfl
set_option maxRecDepth 20000 in
theorem tw709 : Cond.code yX6_writeChunks cX6_writeChunks 7 none ∈ tb := tc3 (i := 109) rfl rfl
theorem tw708 : Cond.instanceMethod yX6_writeChunks ∈ tb := tc3 (i := 108) (by decide +kernel) rfl
theorem tw10 : Cond.selects RX6 yX6_writeChunks yX6_writeChunks ∈ tb := tb_of 10 (by decide +kernel) rfl
theorem cvX6_135 : cOK RX6 135 mX6_writeChunks 2 ∧ Cond.instanceMethod mX6_writeChunks.1 ∈ tb ∧ ∃ (Cn : String) (T : u_T) (N : Nat), vwCl[5]? = some (Cn, T, N) ∧ Cond.selects Cn mX6_writeChunks.1 mX6_writeChunks.1 ∈ tb := ⟨⟨tw706, tw127, tw709, rfl, by decide +kernel⟩, tw708, RX6, TX6, 5, rfl, tw10⟩
theorem tw710 : Cond.methodLink RX6 66 yX6_start ∈ tb := tc3 (i := 110) (by decide +kernel) rfl
set_option maxRecDepth 20000 in
theorem tw713 : Cond.code yX6_start cX6_start 1 none ∈ tb := tc3 (i := 113) rfl rfl
theorem tw712 : Cond.instanceMethod yX6_start ∈ tb := tc3 (i := 112) (by decide +kernel) rfl
theorem tw11 : Cond.selects RX6 yX6_start yX6_start ∈ tb := tb_of 11 (by decide +kernel) rfl
theorem cvX6_66 : cOK RX6 66 mX6_start 0 ∧ Cond.instanceMethod mX6_start.1 ∈ tb ∧ ∃ (Cn : String) (T : u_T) (N : Nat), vwCl[5]? = some (Cn, T, N) ∧ Cond.selects Cn mX6_start.1 mX6_start.1 ∈ tb := ⟨⟨tw710, tw127, tw713, rfl, by decide +kernel⟩, tw712, RX6, TX6, 5, rfl, tw11⟩
theorem tw714 : Cond.methodLink RX6 108 yJ7_fill_53178 ∈ tb := tc3 (i := 114) (by decide +kernel) rfl
theorem csX6_108 : cOK RX6 108 mJ7_fill_53178 2 ∧ Cond.static mJ7_fill_53178.1 ∈ tb := ⟨⟨tw714, tw132, tw449, rfl, by decide +kernel⟩, tw448⟩
theorem tw715 : Cond.methodLink RX6 69 yX7_count ∈ tb := tc3 (i := 115) (by decide +kernel) rfl
theorem cvX6_69 : cOK RX6 69 mX7_count 0 ∧ Cond.instanceMethod mX7_count.1 ∈ tb ∧ ∃ (Cn : String) (T : u_T) (N : Nat), vwCl[6]? = some (Cn, T, N) ∧ Cond.selects Cn mX7_count.1 mX7_count.1 ∈ tb := ⟨⟨tw715, tw122, tw547, rfl, by decide +kernel⟩, tw545, RX7, TX7, 3, rfl, tw546⟩
theorem tw716 : Cond.methodLink RX6 142 yX6_runAt ∈ tb := tc3 (i := 116) (by decide +kernel) rfl
set_option maxRecDepth 20000 in
theorem tw719 : Cond.code yX6_runAt cX6_runAt 5 (some .int) ∈ tb := tc3 (i := 119) rfl rfl
theorem tw718 : Cond.instanceMethod yX6_runAt ∈ tb := tc3 (i := 118) (by decide +kernel) rfl
theorem tw12 : Cond.selects RX6 yX6_runAt yX6_runAt ∈ tb := tb_of 12 (by decide +kernel) rfl
theorem cvX6_142 : cOK RX6 142 mX6_runAt 2 ∧ Cond.instanceMethod mX6_runAt.1 ∈ tb ∧ ∃ (Cn : String) (T : u_T) (N : Nat), vwCl[5]? = some (Cn, T, N) ∧ Cond.selects Cn mX6_runAt.1 mX6_runAt.1 ∈ tb := ⟨⟨tw716, tw127, tw719, rfl, by decide +kernel⟩, tw718, RX6, TX6, 5, rfl, tw12⟩
theorem tw720 : Cond.methodLink RX6 159 yJ9_min_7cf53 ∈ tb := tc3 (i := 120) (by decide +kernel) rfl
set_option maxRecDepth 20000 in
theorem tw722 : Cond.code yJ9_min_7cf53 cJ9_min_7cf53 2 (some .int) ∈ tb := tc3 (i := 122) rfl rfl
theorem tw721 : Cond.static yJ9_min_7cf53 ∈ tb := tc3 (i := 121) (by decide +kernel) rfl
theorem csX6_159 : cOK RX6 159 mJ9_min_7cf53 2 ∧ Cond.static mJ9_min_7cf53.1 ∈ tb := ⟨⟨tw720, tw141, tw722, rfl, by decide +kernel⟩, tw721⟩
theorem tw723 : Cond.methodLink RX6 146 yX7_get ∈ tb := tc3 (i := 123) (by decide +kernel) rfl
theorem cvX6_146 : cOK RX6 146 mX7_get 1 ∧ Cond.instanceMethod mX7_get.1 ∈ tb ∧ ∃ (Cn : String) (T : u_T) (N : Nat), vwCl[6]? = some (Cn, T, N) ∧ Cond.selects Cn mX7_get.1 mX7_get.1 ∈ tb := ⟨⟨tw723, tw122, tw551, rfl, by decide +kernel⟩, tw549, RX7, TX7, 3, rfl, tw550⟩
theorem tw724 : Cond.methodLink RX6 149 yX6_writePixel ∈ tb := tc3 (i := 124) (by decide +kernel) rfl
set_option maxRecDepth 20000 in
theorem tw727 : Cond.code yX6_writePixel cX6_writePixel 3 none ∈ tb := tc3 (i := 127) rfl rfl
theorem tw726 : Cond.instanceMethod yX6_writePixel ∈ tb := tc3 (i := 126) (by decide +kernel) rfl
theorem tw13 : Cond.selects RX6 yX6_writePixel yX6_writePixel ∈ tb := tb_of 13 (by decide +kernel) rfl
theorem cvX6_149 : cOK RX6 149 mX6_writePixel 2 ∧ Cond.instanceMethod mX6_writePixel.1 ∈ tb ∧ ∃ (Cn : String) (T : u_T) (N : Nat), vwCl[5]? = some (Cn, T, N) ∧ Cond.selects Cn mX6_writePixel.1 mX6_writePixel.1 ∈ tb := ⟨⟨tw724, tw127, tw727, rfl, by decide +kernel⟩, tw726, RX6, TX6, 5, rfl, tw13⟩
theorem tw728 : Cond.methodLink RX6 114 yX6_homeOf ∈ tb := tc3 (i := 128) (by decide +kernel) rfl
set_option maxRecDepth 20000 in
theorem tw730 : Cond.code yX6_homeOf cX6_homeOf 1 (some .int) ∈ tb := tc3 (i := 130) rfl rfl
theorem tw729 : Cond.static yX6_homeOf ∈ tb := tc3 (i := 129) (by decide +kernel) rfl
theorem csX6_114 : cOK RX6 114 mX6_homeOf 1 ∧ Cond.static mX6_homeOf.1 ∈ tb := ⟨⟨tw728, tw127, tw730, rfl, by decide +kernel⟩, tw729⟩
theorem csX6_99 : cnOK RX6 99 "RasterMint" mX10_redOf 1 ∧ Cond.static mX10_redOf.1 ∈ tb := ⟨⟨tl3 (List.mem_of_getElem? (i := 131) (by decide +kernel)), tw121, tw565, rfl, by decide +kernel⟩, tw564⟩
theorem csX6_102 : cnOK RX6 102 "RasterMint" mX10_greenOf 1 ∧ Cond.static mX10_greenOf.1 ∈ tb := ⟨⟨tl3 (List.mem_of_getElem? (i := 132) (by decide +kernel)), tw121, tw568, rfl, by decide +kernel⟩, tw567⟩
theorem csX6_105 : cnOK RX6 105 "RasterMint" mX10_blueOf 1 ∧ Cond.static mX10_blueOf.1 ∈ tb := ⟨⟨tl3 (List.mem_of_getElem? (i := 133) (by decide +kernel)), tw121, tw571, rfl, by decide +kernel⟩, tw570⟩
theorem csX6_91 : cnOK RX6 91 "RasterMint" mX10_alphaOf 1 ∧ Cond.static mX10_alphaOf.1 ∈ tb := ⟨⟨tl3 (List.mem_of_getElem? (i := 134) (by decide +kernel)), tw121, tw558, rfl, by decide +kernel⟩, tw557⟩
theorem tw735 : Cond.methodLink RX6 162 yX6_writeMove ∈ tb := tc3 (i := 135) (by decide +kernel) rfl
set_option maxRecDepth 20000 in
theorem tw738 : Cond.code yX6_writeMove cX6_writeMove 8 (some .boolean) ∈ tb := tc3 (i := 138) rfl rfl
theorem tw737 : Cond.instanceMethod yX6_writeMove ∈ tb := tc3 (i := 137) (by decide +kernel) rfl
theorem tw14 : Cond.selects RX6 yX6_writeMove yX6_writeMove ∈ tb := tb_of 14 (by decide +kernel) rfl
theorem cvX6_162 : cOK RX6 162 mX6_writeMove 2 ∧ Cond.instanceMethod mX6_writeMove.1 ∈ tb ∧ ∃ (Cn : String) (T : u_T) (N : Nat), vwCl[5]? = some (Cn, T, N) ∧ Cond.selects Cn mX6_writeMove.1 mX6_writeMove.1 ∈ tb := ⟨⟨tw735, tw127, tw738, rfl, by decide +kernel⟩, tw737, RX6, TX6, 5, rfl, tw14⟩
theorem tw739 : Cond.methodLink RX6 166 yX6_isWithin ∈ tb := tc3 (i := 139) (by decide +kernel) rfl
set_option maxRecDepth 20000 in
theorem tw741 : Cond.code yX6_isWithin cX6_isWithin 2 (some .boolean) ∈ tb := tc3 (i := 141) rfl rfl
theorem tw740 : Cond.static yX6_isWithin ∈ tb := tc3 (i := 140) (by decide +kernel) rfl
theorem csX6_166 : cOK RX6 166 mX6_isWithin 2 ∧ Cond.static mX6_isWithin.1 ∈ tb := ⟨⟨tw739, tw127, tw741, rfl, by decide +kernel⟩, tw740⟩
theorem tw742 : Cond.methodLink RX6 84 yX6_keep ∈ tb := tc3 (i := 142) (by decide +kernel) rfl
set_option maxRecDepth 20000 in
theorem tw745 : Cond.code yX6_keep cX6_keep 1 none ∈ tb := tc3 (i := 145) rfl rfl
theorem tw744 : Cond.instanceMethod yX6_keep ∈ tb := tc3 (i := 144) (by decide +kernel) rfl
theorem tw15 : Cond.selects RX6 yX6_keep yX6_keep ∈ tb := tb_of 15 (by decide +kernel) rfl
theorem cvX6_84 : cOK RX6 84 mX6_keep 0 ∧ Cond.instanceMethod mX6_keep.1 ∈ tb ∧ ∃ (Cn : String) (T : u_T) (N : Nat), vwCl[5]? = some (Cn, T, N) ∧ Cond.selects Cn mX6_keep.1 mX6_keep.1 ∈ tb := ⟨⟨tw742, tw127, tw745, rfl, by decide +kernel⟩, tw744, RX6, TX6, 5, rfl, tw15⟩
theorem tw746 : Cond.methodLink RX6 153 yJ9_max_7cf53 ∈ tb := tc3 (i := 146) (by decide +kernel) rfl
theorem csX6_153 : cOK RX6 153 mJ9_max_7cf53 2 ∧ Cond.static mJ9_max_7cf53.1 ∈ tb := ⟨⟨tw746, tw141, tw634, rfl, by decide +kernel⟩, tw633⟩
theorem tw747 : Cond.methodLink RX6 139 yX1_addZeros ∈ tb := tc3 (i := 147) (by decide +kernel) rfl
theorem cvX6_139 : cOK RX6 139 mX1_addZeros 1 ∧ Cond.instanceMethod mX1_addZeros.1 ∈ tb ∧ ∃ (Cn : String) (T : u_T) (N : Nat), vwCl[1]? = some (Cn, T, N) ∧ Cond.selects Cn mX1_addZeros.1 mX1_addZeros.1 ∈ tb := ⟨⟨tw747, tw123, tw603, rfl, by decide +kernel⟩, tw601, RX1, TX1, 2, rfl, tw602⟩
theorem tw751 : Cond.methodLink RX9 173 yX9_kindOf ∈ tb := tc3 (i := 151) (by decide +kernel) rfl
set_option maxRecDepth 20000 in
theorem tw753 : Cond.code yX9_kindOf cX9_kindOf 1 (some .int) ∈ tb := tc3 (i := 153) rfl rfl
theorem tw752 : Cond.static yX9_kindOf ∈ tb := tc3 (i := 152) (by decide +kernel) rfl
theorem csX9_173 : cOK RX9 173 mX9_kindOf 1 ∧ Cond.static mX9_kindOf.1 ∈ tb := ⟨⟨tw751, tw130, tw753, rfl, by decide +kernel⟩, tw752⟩
theorem tw754 : Cond.methodLink RX9 176 yX7_isOpaque ∈ tb := tc3 (i := 154) (by decide +kernel) rfl
theorem cvX9_176 : cOK RX9 176 mX7_isOpaque 0 ∧ Cond.instanceMethod mX7_isOpaque.1 ∈ tb ∧ ∃ (Cn : String) (T : u_T) (N : Nat), vwCl[6]? = some (Cn, T, N) ∧ Cond.selects Cn mX7_isOpaque.1 mX7_isOpaque.1 ∈ tb := ⟨⟨tw754, tw122, tw555, rfl, by decide +kernel⟩, tw553, RX7, TX7, 3, rfl, tw554⟩
theorem tw755 : Cond.methodLink RX9 180 yX3_gather ∈ tb := tc3 (i := 155) (by decide +kernel) rfl
theorem cvX9_180 : cOK RX9 180 mX3_gather 1 ∧ Cond.instanceMethod mX3_gather.1 ∈ tb ∧ ∃ (Cn : String) (T : u_T) (N : Nat), vwCl[2]? = some (Cn, T, N) ∧ Cond.selects Cn mX3_gather.1 mX3_gather.1 ∈ tb := ⟨⟨tw755, tw125, tw579, rfl, by decide +kernel⟩, tw577, RX3, TX3, 3, rfl, tw578⟩
theorem tw756 : Cond.methodLink RX9 189 yX1_add ∈ tb := tc3 (i := 156) (by decide +kernel) rfl
theorem cvX9_189 : cOK RX9 189 mX1_add 1 ∧ Cond.instanceMethod mX1_add.1 ∈ tb ∧ ∃ (Cn : String) (T : u_T) (N : Nat), vwCl[1]? = some (Cn, T, N) ∧ Cond.selects Cn mX1_add.1 mX1_add.1 ∈ tb := ⟨⟨tw756, tw123, tw490, rfl, by decide +kernel⟩, tw488, RX1, TX1, 2, rfl, tw489⟩
theorem tw757 : Cond.methodLink RX9 194 yX1_addLow2 ∈ tb := tc3 (i := 157) (by decide +kernel) rfl
theorem cvX9_194 : cOK RX9 194 mX1_addLow2 1 ∧ Cond.instanceMethod mX1_addLow2.1 ∈ tb ∧ ∃ (Cn : String) (T : u_T) (N : Nat), vwCl[1]? = some (Cn, T, N) ∧ Cond.selects Cn mX1_addLow2.1 mX1_addLow2.1 ∈ tb := ⟨⟨tw757, tw123, tw611, rfl, by decide +kernel⟩, tw609, RX1, TX1, 2, rfl, tw610⟩
theorem tw758 : Cond.methodLink RX9 197 yX1_addLow4 ∈ tb := tc3 (i := 158) (by decide +kernel) rfl
theorem cvX9_197 : cOK RX9 197 mX1_addLow4 1 ∧ Cond.instanceMethod mX1_addLow4.1 ∈ tb ∧ ∃ (Cn : String) (T : u_T) (N : Nat), vwCl[1]? = some (Cn, T, N) ∧ Cond.selects Cn mX1_addLow4.1 mX1_addLow4.1 ∈ tb := ⟨⟨tw758, tw123, tw607, rfl, by decide +kernel⟩, tw605, RX1, TX1, 2, rfl, tw606⟩
theorem tw759 : Cond.methodLink RX9 200 yX3_get ∈ tb := tc3 (i := 159) (by decide +kernel) rfl
theorem cvX9_200 : cOK RX9 200 mX3_get 1 ∧ Cond.instanceMethod mX3_get.1 ∈ tb ∧ ∃ (Cn : String) (T : u_T) (N : Nat), vwCl[2]? = some (Cn, T, N) ∧ Cond.selects Cn mX3_get.1 mX3_get.1 ∈ tb := ⟨⟨tw759, tw125, tw616, rfl, by decide +kernel⟩, tw614, RX3, TX3, 3, rfl, tw615⟩
theorem tw760 : Cond.methodLink RX9 203 yX9_writeColour ∈ tb := tc3 (i := 160) (by decide +kernel) rfl
set_option maxRecDepth 20000 in
theorem tw762 : Cond.code yX9_writeColour cX9_writeColour 3 none ∈ tb := tc3 (i := 162) rfl rfl
theorem tw761 : Cond.static yX9_writeColour ∈ tb := tc3 (i := 161) (by decide +kernel) rfl
theorem csX9_203 : cOK RX9 203 mX9_writeColour 3 ∧ Cond.static mX9_writeColour.1 ∈ tb := ⟨⟨tw760, tw130, tw762, rfl, by decide +kernel⟩, tw761⟩
theorem csX9_215 : cnOK RX9 215 "RasterMint" mX10_blueOf 1 ∧ Cond.static mX10_blueOf.1 ∈ tb := ⟨⟨tl3 (List.mem_of_getElem? (i := 163) (by decide +kernel)), tw121, tw571, rfl, by decide +kernel⟩, tw570⟩
theorem csX9_218 : cnOK RX9 218 "RasterMint" mX10_greenOf 1 ∧ Cond.static mX10_greenOf.1 ∈ tb := ⟨⟨tl3 (List.mem_of_getElem? (i := 164) (by decide +kernel)), tw121, tw568, rfl, by decide +kernel⟩, tw567⟩
theorem csX9_221 : cnOK RX9 221 "RasterMint" mX10_redOf 1 ∧ Cond.static mX10_redOf.1 ∈ tb := ⟨⟨tl3 (List.mem_of_getElem? (i := 165) (by decide +kernel)), tw121, tw565, rfl, by decide +kernel⟩, tw564⟩
theorem csX9_224 : cnOK RX9 224 "RasterMint" mX10_alphaOf 1 ∧ Cond.static mX10_alphaOf.1 ∈ tb := ⟨⟨tl3 (List.mem_of_getElem? (i := 166) (by decide +kernel)), tw121, tw558, rfl, by decide +kernel⟩, tw557⟩
theorem tw767 : Cond.methodLink RX9 207 yX9_writePackets ∈ tb := tc3 (i := 167) (by decide +kernel) rfl
set_option maxRecDepth 20000 in
theorem tw770 : Cond.code yX9_writePackets cX9_writePackets 9 none ∈ tb := tc3 (i := 170) rfl rfl
theorem tw769 : Cond.instanceMethod yX9_writePackets ∈ tb := tc3 (i := 169) (by decide +kernel) rfl
theorem tw16 : Cond.selects RX9 yX9_writePackets yX9_writePackets ∈ tb := tb_of 16 (by decide +kernel) rfl
theorem cvX9_207 : cOK RX9 207 mX9_writePackets 5 ∧ Cond.instanceMethod mX9_writePackets.1 ∈ tb ∧ ∃ (Cn : String) (T : u_T) (N : Nat), vwCl[8]? = some (Cn, T, N) ∧ Cond.selects Cn mX9_writePackets.1 mX9_writePackets.1 ∈ tb := ⟨⟨tw767, tw130, tw770, rfl, by decide +kernel⟩, tw769, RX9, TX9, 17, rfl, tw16⟩
theorem tw771 : Cond.methodLink RX9 231 yX9_isLikeNext ∈ tb := tc3 (i := 171) (by decide +kernel) rfl
set_option maxRecDepth 20000 in
theorem tw773 : Cond.code yX9_isLikeNext cX9_isLikeNext 4 (some .boolean) ∈ tb := tc3 (i := 173) rfl rfl
theorem tw772 : Cond.static yX9_isLikeNext ∈ tb := tc3 (i := 172) (by decide +kernel) rfl
theorem csX9_231 : cOK RX9 231 mX9_isLikeNext 3 ∧ Cond.static mX9_isLikeNext.1 ∈ tb := ⟨⟨tw771, tw130, tw773, rfl, by decide +kernel⟩, tw772⟩
theorem tw774 : Cond.methodLink RX9 227 yX7_get ∈ tb := tc3 (i := 174) (by decide +kernel) rfl
theorem cvX9_227 : cOK RX9 227 mX7_get 1 ∧ Cond.instanceMethod mX7_get.1 ∈ tb ∧ ∃ (Cn : String) (T : u_T) (N : Nat), vwCl[6]? = some (Cn, T, N) ∧ Cond.selects Cn mX7_get.1 mX7_get.1 ∈ tb := ⟨⟨tw774, tw122, tw551, rfl, by decide +kernel⟩, tw549, RX7, TX7, 3, rfl, tw550⟩
theorem tw775 : Cond.methodLink RX9 235 yX9_packetSize ∈ tb := tc3 (i := 175) (by decide +kernel) rfl
set_option maxRecDepth 20000 in
theorem tw777 : Cond.code yX9_packetSize cX9_packetSize 6 (some .int) ∈ tb := tc3 (i := 177) rfl rfl
theorem tw776 : Cond.static yX9_packetSize ∈ tb := tc3 (i := 176) (by decide +kernel) rfl
theorem csX9_235 : cOK RX9 235 mX9_packetSize 4 ∧ Cond.static mX9_packetSize.1 ∈ tb := ⟨⟨tw775, tw130, tw777, rfl, by decide +kernel⟩, tw776⟩
theorem tw778 : Cond.methodLink RX9 239 yJ9_min_7cf53 ∈ tb := tc3 (i := 178) (by decide +kernel) rfl
theorem csX9_239 : cOK RX9 239 mJ9_min_7cf53 2 ∧ Cond.static mJ9_min_7cf53.1 ∈ tb := ⟨⟨tw778, tw141, tw722, rfl, by decide +kernel⟩, tw721⟩
theorem tw779 : Cond.methodLink RX9 211 yX9_writePixels ∈ tb := tc3 (i := 179) (by decide +kernel) rfl
set_option maxRecDepth 20000 in
theorem tw782 : Cond.code yX9_writePixels cX9_writePixels 9 none ∈ tb := tc3 (i := 182) rfl rfl
theorem tw781 : Cond.instanceMethod yX9_writePixels ∈ tb := tc3 (i := 181) (by decide +kernel) rfl
theorem tw17 : Cond.selects RX9 yX9_writePixels yX9_writePixels ∈ tb := tb_of 17 (by decide +kernel) rfl
theorem cvX9_211 : cOK RX9 211 mX9_writePixels 6 ∧ Cond.instanceMethod mX9_writePixels.1 ∈ tb ∧ ∃ (Cn : String) (T : u_T) (N : Nat), vwCl[8]? = some (Cn, T, N) ∧ Cond.selects Cn mX9_writePixels.1 mX9_writePixels.1 ∈ tb := ⟨⟨tw779, tw130, tw782, rfl, by decide +kernel⟩, tw781, RX9, TX9, 17, rfl, tw17⟩
theorem tw783 : Cond.methodLink RX9 228 yX3_numberOf ∈ tb := tc3 (i := 183) (by decide +kernel) rfl
theorem cvX9_228 : cOK RX9 228 mX3_numberOf 1 ∧ Cond.instanceMethod mX3_numberOf.1 ∈ tb ∧ ∃ (Cn : String) (T : u_T) (N : Nat), vwCl[2]? = some (Cn, T, N) ∧ Cond.selects Cn mX3_numberOf.1 mX3_numberOf.1 ∈ tb := ⟨⟨tw783, tw125, tw631, rfl, by decide +kernel⟩, tw629, RX3, TX3, 3, rfl, tw630⟩
theorem tw784 : Cond.methodLink RL 76 yX10_byteAt ∈ tb := tc3 (i := 184) (by decide +kernel) rfl
set_option maxRecDepth 20000 in
theorem tw787 : Cond.code yX10_byteAt cX10_byteAt 2 (some .int) ∈ tb := tc3 (i := 187) rfl rfl
theorem tw785 : Cond.instanceMethod yX10_byteAt ∈ tb := tc3 (i := 185) (by decide +kernel) rfl
theorem tw786 : Cond.selects RX10 yX10_byteAt yX10_byteAt ∈ tb := tc3 (i := 186) (by decide +kernel) rfl
theorem cvL_76 : cOK RL 76 mX10_byteAt 1 ∧ Cond.instanceMethod mX10_byteAt.1 ∈ tb ∧ ∃ (Cn : String) (T : u_T) (N : Nat), vwCl[9]? = some (Cn, T, N) ∧ Cond.selects Cn mX10_byteAt.1 mX10_byteAt.1 ∈ tb := ⟨⟨tw784, tw121, tw787, rfl, by decide +kernel⟩, tw785, RX10, TX10, 9, rfl, tw786⟩
theorem tw788 : Cond.methodLink RX10 126 yX1_at ∈ tb := tc3 (i := 188) (by decide +kernel) rfl
set_option maxRecDepth 20000 in
theorem tw791 : Cond.code yX1_at cX1_at 2 (some .int) ∈ tb := tc3 (i := 191) rfl rfl
theorem tw789 : Cond.instanceMethod yX1_at ∈ tb := tc3 (i := 189) (by decide +kernel) rfl
theorem tw790 : Cond.selects RX1 yX1_at yX1_at ∈ tb := tc3 (i := 190) (by decide +kernel) rfl
theorem cvX10_126 : cOK RX10 126 mX1_at 1 ∧ Cond.instanceMethod mX1_at.1 ∈ tb ∧ ∃ (Cn : String) (T : u_T) (N : Nat), vwCl[1]? = some (Cn, T, N) ∧ Cond.selects Cn mX1_at.1 mX1_at.1 ∈ tb := ⟨⟨tw788, tw123, tw791, rfl, by decide +kernel⟩, tw789, RX1, TX1, 2, rfl, tw790⟩
theorem tw792 : Cond.methodLink RL 84 yX10_make ∈ tb := tc3 (i := 192) (by decide +kernel) rfl
set_option maxRecDepth 20000 in
theorem tw795 : Cond.code yX10_make cX10_make 6 (some .boolean) ∈ tb := tc3 (i := 195) rfl rfl
theorem tw793 : Cond.instanceMethod yX10_make ∈ tb := tc3 (i := 193) (by decide +kernel) rfl
theorem tw794 : Cond.selects RX10 yX10_make yX10_make ∈ tb := tc3 (i := 194) (by decide +kernel) rfl
theorem cvL_84 : cOK RL 84 mX10_make 4 ∧ Cond.instanceMethod mX10_make.1 ∈ tb ∧ ∃ (Cn : String) (T : u_T) (N : Nat), vwCl[9]? = some (Cn, T, N) ∧ Cond.selects Cn mX10_make.1 mX10_make.1 ∈ tb := ⟨⟨tw792, tw121, tw795, rfl, by decide +kernel⟩, tw793, RX10, TX10, 9, rfl, tw794⟩
theorem tw796 : Cond.methodLink RX10 131 yX10_isTooLarge ∈ tb := tc3 (i := 196) (by decide +kernel) rfl
set_option maxRecDepth 20000 in
theorem tw798 : Cond.code yX10_isTooLarge cX10_isTooLarge 4 (some .boolean) ∈ tb := tc3 (i := 198) rfl rfl
theorem tw797 : Cond.static yX10_isTooLarge ∈ tb := tc3 (i := 197) (by decide +kernel) rfl
theorem csX10_131 : cOK RX10 131 mX10_isTooLarge 2 ∧ Cond.static mX10_isTooLarge.1 ∈ tb := ⟨⟨tw796, tw121, tw798, rfl, by decide +kernel⟩, tw797⟩
theorem tw800 : Cond.methodLink RX10 141 yX7_fill ∈ tb := tc3 (i := 200) (by decide +kernel) rfl
set_option maxRecDepth 20000 in
theorem tw803 : Cond.code yX7_fill cX7_fill 4 none ∈ tb := tc3 (i := 203) rfl rfl
theorem tw801 : Cond.instanceMethod yX7_fill ∈ tb := tc3 (i := 201) (by decide +kernel) rfl
theorem tw802 : Cond.selects RX7 yX7_fill yX7_fill ∈ tb := tc3 (i := 202) (by decide +kernel) rfl
theorem cvX10_141 : cOK RX10 141 mX7_fill 1 ∧ Cond.instanceMethod mX7_fill.1 ∈ tb ∧ ∃ (Cn : String) (T : u_T) (N : Nat), vwCl[6]? = some (Cn, T, N) ∧ Cond.selects Cn mX7_fill.1 mX7_fill.1 ∈ tb := ⟨⟨tw800, tw122, tw803, rfl, by decide +kernel⟩, tw801, RX7, TX7, 3, rfl, tw802⟩
theorem tw804 : Cond.methodLink RX7 26 yX7_set ∈ tb := tc3 (i := 204) (by decide +kernel) rfl
set_option maxRecDepth 20000 in
theorem tw807 : Cond.code yX7_set cX7_set 3 none ∈ tb := tc3 (i := 207) rfl rfl
theorem tw805 : Cond.instanceMethod yX7_set ∈ tb := tc3 (i := 205) (by decide +kernel) rfl
theorem tw806 : Cond.selects RX7 yX7_set yX7_set ∈ tb := tc3 (i := 206) (by decide +kernel) rfl
theorem cvX7_26 : cOK RX7 26 mX7_set 2 ∧ Cond.instanceMethod mX7_set.1 ∈ tb ∧ ∃ (Cn : String) (T : u_T) (N : Nat), vwCl[6]? = some (Cn, T, N) ∧ Cond.selects Cn mX7_set.1 mX7_set.1 ∈ tb := ⟨⟨tw804, tw122, tw807, rfl, by decide +kernel⟩, tw805, RX7, TX7, 3, rfl, tw806⟩
theorem tw808 : Cond.methodLink RL 101 yX10_raster ∈ tb := tc3 (i := 208) (by decide +kernel) rfl
set_option maxRecDepth 20000 in
theorem tw811 : Cond.code yX10_raster cX10_raster 4 (some .int) ∈ tb := tc3 (i := 211) rfl rfl
theorem tw809 : Cond.instanceMethod yX10_raster ∈ tb := tc3 (i := 209) (by decide +kernel) rfl
theorem tw810 : Cond.selects RX10 yX10_raster yX10_raster ∈ tb := tc3 (i := 210) (by decide +kernel) rfl
theorem cvL_101 : cOK RL 101 mX10_raster 2 ∧ Cond.instanceMethod mX10_raster.1 ∈ tb ∧ ∃ (Cn : String) (T : u_T) (N : Nat), vwCl[9]? = some (Cn, T, N) ∧ Cond.selects Cn mX10_raster.1 mX10_raster.1 ∈ tb := ⟨⟨tw808, tw121, tw811, rfl, by decide +kernel⟩, tw809, RX10, TX10, 9, rfl, tw810⟩
theorem tw812 : Cond.methodLink RL 105 yX10_holds ∈ tb := tc3 (i := 212) (by decide +kernel) rfl
set_option maxRecDepth 20000 in
theorem tw815 : Cond.code yX10_holds cX10_holds 3 (some .boolean) ∈ tb := tc3 (i := 215) rfl rfl
theorem tw813 : Cond.instanceMethod yX10_holds ∈ tb := tc3 (i := 213) (by decide +kernel) rfl
theorem tw814 : Cond.selects RX10 yX10_holds yX10_holds ∈ tb := tc3 (i := 214) (by decide +kernel) rfl
theorem cvL_105 : cOK RL 105 mX10_holds 2 ∧ Cond.instanceMethod mX10_holds.1 ∈ tb ∧ ∃ (Cn : String) (T : u_T) (N : Nat), vwCl[9]? = some (Cn, T, N) ∧ Cond.selects Cn mX10_holds.1 mX10_holds.1 ∈ tb := ⟨⟨tw812, tw121, tw815, rfl, by decide +kernel⟩, tw813, RX10, TX10, 9, rfl, tw814⟩
theorem tw816 : Cond.methodLink RL 110 yX10_copy ∈ tb := tc3 (i := 216) (by decide +kernel) rfl
set_option maxRecDepth 20000 in
theorem tw819 : Cond.code yX10_copy cX10_copy 3 (some .boolean) ∈ tb := tc3 (i := 219) rfl rfl
theorem tw817 : Cond.instanceMethod yX10_copy ∈ tb := tc3 (i := 217) (by decide +kernel) rfl
theorem tw818 : Cond.selects RX10 yX10_copy yX10_copy ∈ tb := tc3 (i := 218) (by decide +kernel) rfl
theorem cvL_110 : cOK RL 110 mX10_copy 2 ∧ Cond.instanceMethod mX10_copy.1 ∈ tb ∧ ∃ (Cn : String) (T : u_T) (N : Nat), vwCl[9]? = some (Cn, T, N) ∧ Cond.selects Cn mX10_copy.1 mX10_copy.1 ∈ tb := ⟨⟨tw816, tw121, tw819, rfl, by decide +kernel⟩, tw817, RX10, TX10, 9, rfl, tw818⟩
theorem tw820 : Cond.methodLink RX10 184 yX7_takeFrom ∈ tb := tc3 (i := 220) (by decide +kernel) rfl
set_option maxRecDepth 20000 in
theorem tw823 : Cond.code yX7_takeFrom cX7_takeFrom 4 none ∈ tb := tc3 (i := 223) rfl rfl
theorem tw821 : Cond.instanceMethod yX7_takeFrom ∈ tb := tc3 (i := 221) (by decide +kernel) rfl
theorem tw822 : Cond.selects RX7 yX7_takeFrom yX7_takeFrom ∈ tb := tc3 (i := 222) (by decide +kernel) rfl
theorem cvX10_184 : cOK RX10 184 mX7_takeFrom 1 ∧ Cond.instanceMethod mX7_takeFrom.1 ∈ tb ∧ ∃ (Cn : String) (T : u_T) (N : Nat), vwCl[6]? = some (Cn, T, N) ∧ Cond.selects Cn mX7_takeFrom.1 mX7_takeFrom.1 ∈ tb := ⟨⟨tw820, tw122, tw823, rfl, by decide +kernel⟩, tw821, RX7, TX7, 3, rfl, tw822⟩
theorem tw824 : Cond.methodLink RL 114 yX10_same ∈ tb := tc3 (i := 224) (by decide +kernel) rfl
set_option maxRecDepth 20000 in
theorem tw827 : Cond.code yX10_same cX10_same 3 (some .boolean) ∈ tb := tc3 (i := 227) rfl rfl
theorem tw825 : Cond.instanceMethod yX10_same ∈ tb := tc3 (i := 225) (by decide +kernel) rfl
theorem tw826 : Cond.selects RX10 yX10_same yX10_same ∈ tb := tc3 (i := 226) (by decide +kernel) rfl
theorem cvL_114 : cOK RL 114 mX10_same 2 ∧ Cond.instanceMethod mX10_same.1 ∈ tb ∧ ∃ (Cn : String) (T : u_T) (N : Nat), vwCl[9]? = some (Cn, T, N) ∧ Cond.selects Cn mX10_same.1 mX10_same.1 ∈ tb := ⟨⟨tw824, tw121, tw827, rfl, by decide +kernel⟩, tw825, RX10, TX10, 9, rfl, tw826⟩
theorem tw828 : Cond.methodLink RX10 186 yX7_isLike ∈ tb := tc3 (i := 228) (by decide +kernel) rfl
set_option maxRecDepth 20000 in
theorem tw831 : Cond.code yX7_isLike cX7_isLike 4 (some .boolean) ∈ tb := tc3 (i := 231) rfl rfl
theorem tw829 : Cond.instanceMethod yX7_isLike ∈ tb := tc3 (i := 229) (by decide +kernel) rfl
theorem tw830 : Cond.selects RX7 yX7_isLike yX7_isLike ∈ tb := tc3 (i := 230) (by decide +kernel) rfl
theorem cvX10_186 : cOK RX10 186 mX7_isLike 1 ∧ Cond.instanceMethod mX7_isLike.1 ∈ tb ∧ ∃ (Cn : String) (T : u_T) (N : Nat), vwCl[6]? = some (Cn, T, N) ∧ Cond.selects Cn mX7_isLike.1 mX7_isLike.1 ∈ tb := ⟨⟨tw828, tw122, tw831, rfl, by decide +kernel⟩, tw829, RX7, TX7, 3, rfl, tw830⟩
theorem tw832 : Cond.methodLink RL 118 yX10_chain ∈ tb := tc3 (i := 232) (by decide +kernel) rfl
set_option maxRecDepth 20000 in
theorem tw835 : Cond.code yX10_chain cX10_chain 6 (some .int) ∈ tb := tc3 (i := 235) rfl rfl
theorem tw833 : Cond.instanceMethod yX10_chain ∈ tb := tc3 (i := 233) (by decide +kernel) rfl
theorem tw834 : Cond.selects RX10 yX10_chain yX10_chain ∈ tb := tc3 (i := 234) (by decide +kernel) rfl
theorem cvL_118 : cOK RL 118 mX10_chain 3 ∧ Cond.instanceMethod mX10_chain.1 ∈ tb ∧ ∃ (Cn : String) (T : u_T) (N : Nat), vwCl[9]? = some (Cn, T, N) ∧ Cond.selects Cn mX10_chain.1 mX10_chain.1 ∈ tb := ⟨⟨tw832, tw121, tw835, rfl, by decide +kernel⟩, tw833, RX10, TX10, 9, rfl, tw834⟩
theorem tw841 : Cond.methodLink RX10 200 yX8_open ∈ tb := tc4 (i := 1) (by decide +kernel) rfl
set_option maxRecDepth 20000 in
theorem tw844 : Cond.code yX8_open cX8_open 2 none ∈ tb := tc4 (i := 4) rfl rfl
theorem tw842 : Cond.instanceMethod yX8_open ∈ tb := tc4 (i := 2) (by decide +kernel) rfl
theorem tw843 : Cond.selects RX8 yX8_open yX8_open ∈ tb := tc4 (i := 3) (by decide +kernel) rfl
theorem cvX10_200 : cOK RX10 200 mX8_open 1 ∧ Cond.instanceMethod mX8_open.1 ∈ tb ∧ ∃ (Cn : String) (T : u_T) (N : Nat), vwCl[7]? = some (Cn, T, N) ∧ Cond.selects Cn mX8_open.1 mX8_open.1 ∈ tb := ⟨⟨tw841, tw124, tw844, rfl, by decide +kernel⟩, tw842, RX8, TX8, 5, rfl, tw843⟩
theorem tw851 : Cond.methodLink RX0 19 yX8_want ∈ tb := tc4 (i := 11) (by decide +kernel) rfl
set_option maxRecDepth 20000 in
theorem tw854 : Cond.code yX8_want cX8_want 3 none ∈ tb := tc4 (i := 14) rfl rfl
theorem tw852 : Cond.instanceMethod yX8_want ∈ tb := tc4 (i := 12) (by decide +kernel) rfl
theorem tw853 : Cond.selects RX8 yX8_want yX8_want ∈ tb := tc4 (i := 13) (by decide +kernel) rfl
theorem cvX0_19 : cOK RX0 19 mX8_want 1 ∧ Cond.instanceMethod mX8_want.1 ∈ tb ∧ ∃ (Cn : String) (T : u_T) (N : Nat), vwCl[7]? = some (Cn, T, N) ∧ Cond.selects Cn mX8_want.1 mX8_want.1 ∈ tb := ⟨⟨tw851, tw124, tw854, rfl, by decide +kernel⟩, tw852, RX8, TX8, 5, rfl, tw853⟩
theorem tw855 : Cond.methodLink RX8 43 yX8_next ∈ tb := tc4 (i := 15) (by decide +kernel) rfl
set_option maxRecDepth 20000 in
theorem tw858 : Cond.code yX8_next cX8_next 2 (some .int) ∈ tb := tc4 (i := 18) rfl rfl
theorem tw856 : Cond.instanceMethod yX8_next ∈ tb := tc4 (i := 16) (by decide +kernel) rfl
theorem tw857 : Cond.selects RX8 yX8_next yX8_next ∈ tb := tc4 (i := 17) (by decide +kernel) rfl
theorem cvX8_43 : cOK RX8 43 mX8_next 0 ∧ Cond.instanceMethod mX8_next.1 ∈ tb ∧ ∃ (Cn : String) (T : u_T) (N : Nat), vwCl[7]? = some (Cn, T, N) ∧ Cond.selects Cn mX8_next.1 mX8_next.1 ∈ tb := ⟨⟨tw855, tw124, tw858, rfl, by decide +kernel⟩, tw856, RX8, TX8, 5, rfl, tw857⟩
theorem tw927 : Cond.methodLink RX8 50 yX8_refuse ∈ tb := tc4 (i := 87) (by decide +kernel) rfl
set_option maxRecDepth 20000 in
theorem tw930 : Cond.code yX8_refuse cX8_refuse 3 none ∈ tb := tc4 (i := 90) rfl rfl
theorem tw928 : Cond.instanceMethod yX8_refuse ∈ tb := tc4 (i := 88) (by decide +kernel) rfl
theorem tw929 : Cond.selects RX8 yX8_refuse yX8_refuse ∈ tb := tc4 (i := 89) (by decide +kernel) rfl
theorem cvX8_50 : cOK RX8 50 mX8_refuse 2 ∧ Cond.instanceMethod mX8_refuse.1 ∈ tb ∧ ∃ (Cn : String) (T : u_T) (N : Nat), vwCl[7]? = some (Cn, T, N) ∧ Cond.selects Cn mX8_refuse.1 mX8_refuse.1 ∈ tb := ⟨⟨tw927, tw124, tw930, rfl, by decide +kernel⟩, tw928, RX8, TX8, 5, rfl, tw929⟩
theorem tw932 : Cond.methodLink RX0 29 yX8_wantLow4 ∈ tb := tc4 (i := 92) (by decide +kernel) rfl
set_option maxRecDepth 20000 in
theorem tw935 : Cond.code yX8_wantLow4 cX8_wantLow4 3 none ∈ tb := tc4 (i := 95) rfl rfl
theorem tw933 : Cond.instanceMethod yX8_wantLow4 ∈ tb := tc4 (i := 93) (by decide +kernel) rfl
theorem tw934 : Cond.selects RX8 yX8_wantLow4 yX8_wantLow4 ∈ tb := tc4 (i := 94) (by decide +kernel) rfl
theorem cvX0_29 : cOK RX0 29 mX8_wantLow4 1 ∧ Cond.instanceMethod mX8_wantLow4.1 ∈ tb ∧ ∃ (Cn : String) (T : u_T) (N : Nat), vwCl[7]? = some (Cn, T, N) ∧ Cond.selects Cn mX8_wantLow4.1 mX8_wantLow4.1 ∈ tb := ⟨⟨tw932, tw124, tw935, rfl, by decide +kernel⟩, tw933, RX8, TX8, 5, rfl, tw934⟩
theorem tw936 : Cond.methodLink RX8 54 yX8_low4 ∈ tb := tc4 (i := 96) (by decide +kernel) rfl
set_option maxRecDepth 20000 in
theorem tw939 : Cond.code yX8_low4 cX8_low4 2 (some .int) ∈ tb := tc4 (i := 99) rfl rfl
theorem tw937 : Cond.instanceMethod yX8_low4 ∈ tb := tc4 (i := 97) (by decide +kernel) rfl
theorem tw938 : Cond.selects RX8 yX8_low4 yX8_low4 ∈ tb := tc4 (i := 98) (by decide +kernel) rfl
theorem cvX8_54 : cOK RX8 54 mX8_low4 0 ∧ Cond.instanceMethod mX8_low4.1 ∈ tb ∧ ∃ (Cn : String) (T : u_T) (N : Nat), vwCl[7]? = some (Cn, T, N) ∧ Cond.selects Cn mX8_low4.1 mX8_low4.1 ∈ tb := ⟨⟨tw936, tw124, tw939, rfl, by decide +kernel⟩, tw937, RX8, TX8, 5, rfl, tw938⟩
theorem tw940 : Cond.methodLink RX8 47 yX8_low2 ∈ tb := tc4 (i := 100) (by decide +kernel) rfl
set_option maxRecDepth 20000 in
theorem tw943 : Cond.code yX8_low2 cX8_low2 2 (some .int) ∈ tb := tc4 (i := 103) rfl rfl
theorem tw941 : Cond.instanceMethod yX8_low2 ∈ tb := tc4 (i := 101) (by decide +kernel) rfl
theorem tw942 : Cond.selects RX8 yX8_low2 yX8_low2 ∈ tb := tc4 (i := 102) (by decide +kernel) rfl
theorem cvX8_47 : cOK RX8 47 mX8_low2 0 ∧ Cond.instanceMethod mX8_low2.1 ∈ tb ∧ ∃ (Cn : String) (T : u_T) (N : Nat), vwCl[7]? = some (Cn, T, N) ∧ Cond.selects Cn mX8_low2.1 mX8_low2.1 ∈ tb := ⟨⟨tw940, tw124, tw943, rfl, by decide +kernel⟩, tw941, RX8, TX8, 5, rfl, tw942⟩
theorem tw944 : Cond.methodLink RX0 32 yX8_low4 ∈ tb := tc4 (i := 104) (by decide +kernel) rfl
theorem cvX0_32 : cOK RX0 32 mX8_low4 0 ∧ Cond.instanceMethod mX8_low4.1 ∈ tb ∧ ∃ (Cn : String) (T : u_T) (N : Nat), vwCl[7]? = some (Cn, T, N) ∧ Cond.selects Cn mX8_low4.1 mX8_low4.1 ∈ tb := ⟨⟨tw944, tw124, tw939, rfl, by decide +kernel⟩, tw937, RX8, TX8, 5, rfl, tw938⟩
theorem tw945 : Cond.methodLink RX0 36 yX0_readSize ∈ tb := tc4 (i := 105) (by decide +kernel) rfl
set_option maxRecDepth 20000 in
theorem tw948 : Cond.code yX0_readSize cX0_readSize 7 none ∈ tb := tc4 (i := 108) rfl rfl
theorem tw947 : Cond.instanceMethod yX0_readSize ∈ tb := tc4 (i := 107) (by decide +kernel) rfl
theorem tw20 : Cond.selects RX0 yX0_readSize yX0_readSize ∈ tb := tb_of 20 (by decide +kernel) rfl
theorem cvX0_36 : cOK RX0 36 mX0_readSize 2 ∧ Cond.instanceMethod mX0_readSize.1 ∈ tb ∧ ∃ (Cn : String) (T : u_T) (N : Nat), vwCl[0]? = some (Cn, T, N) ∧ Cond.selects Cn mX0_readSize.1 mX0_readSize.1 ∈ tb := ⟨⟨tw945, tw129, tw948, rfl, by decide +kernel⟩, tw947, RX0, TX0, 12, rfl, tw20⟩
theorem tw949 : Cond.methodLink RX0 87 yX8_refuse ∈ tb := tc4 (i := 109) (by decide +kernel) rfl
theorem cvX0_87 : cOK RX0 87 mX8_refuse 2 ∧ Cond.instanceMethod mX8_refuse.1 ∈ tb ∧ ∃ (Cn : String) (T : u_T) (N : Nat), vwCl[7]? = some (Cn, T, N) ∧ Cond.selects Cn mX8_refuse.1 mX8_refuse.1 ∈ tb := ⟨⟨tw949, tw124, tw930, rfl, by decide +kernel⟩, tw928, RX8, TX8, 5, rfl, tw929⟩
theorem tw950 : Cond.methodLink RX0 95 yX8_lay ∈ tb := tc4 (i := 110) (by decide +kernel) rfl
set_option maxRecDepth 20000 in
theorem tw953 : Cond.code yX8_lay cX8_lay 7 none ∈ tb := tc4 (i := 113) rfl rfl
theorem tw951 : Cond.instanceMethod yX8_lay ∈ tb := tc4 (i := 111) (by decide +kernel) rfl
theorem tw952 : Cond.selects RX8 yX8_lay yX8_lay ∈ tb := tc4 (i := 112) (by decide +kernel) rfl
theorem cvX0_95 : cOK RX0 95 mX8_lay 4 ∧ Cond.instanceMethod mX8_lay.1 ∈ tb ∧ ∃ (Cn : String) (T : u_T) (N : Nat), vwCl[7]? = some (Cn, T, N) ∧ Cond.selects Cn mX8_lay.1 mX8_lay.1 ∈ tb := ⟨⟨tw950, tw124, tw953, rfl, by decide +kernel⟩, tw951, RX8, TX8, 5, rfl, tw952⟩
theorem csX8_57 : cnOK RX8 57 "RasterMint" mX10_isTooLarge 2 ∧ Cond.static mX10_isTooLarge.1 ∈ tb := ⟨⟨tl4 (List.mem_of_getElem? (i := 114) (by decide +kernel)), tw121, tw798, rfl, by decide +kernel⟩, tw797⟩
theorem tw955 : Cond.methodLink RX0 40 yX0_readDepth ∈ tb := tc4 (i := 115) (by decide +kernel) rfl
set_option maxRecDepth 20000 in
theorem tw958 : Cond.code yX0_readDepth cX0_readDepth 4 none ∈ tb := tc4 (i := 118) rfl rfl
theorem tw957 : Cond.instanceMethod yX0_readDepth ∈ tb := tc4 (i := 117) (by decide +kernel) rfl
theorem tw21 : Cond.selects RX0 yX0_readDepth yX0_readDepth ∈ tb := tb_of 21 (by decide +kernel) rfl
theorem cvX0_40 : cOK RX0 40 mX0_readDepth 1 ∧ Cond.instanceMethod mX0_readDepth.1 ∈ tb ∧ ∃ (Cn : String) (T : u_T) (N : Nat), vwCl[0]? = some (Cn, T, N) ∧ Cond.selects Cn mX0_readDepth.1 mX0_readDepth.1 ∈ tb := ⟨⟨tw955, tw129, tw958, rfl, by decide +kernel⟩, tw957, RX0, TX0, 12, rfl, tw21⟩
theorem tw959 : Cond.methodLink RX0 99 yX8_low2 ∈ tb := tc4 (i := 119) (by decide +kernel) rfl
theorem cvX0_99 : cOK RX0 99 mX8_low2 0 ∧ Cond.instanceMethod mX8_low2.1 ∈ tb ∧ ∃ (Cn : String) (T : u_T) (N : Nat), vwCl[7]? = some (Cn, T, N) ∧ Cond.selects Cn mX8_low2.1 mX8_low2.1 ∈ tb := ⟨⟨tw959, tw124, tw943, rfl, by decide +kernel⟩, tw941, RX8, TX8, 5, rfl, tw942⟩
theorem tw960 : Cond.methodLink RX0 44 yX8_pass ∈ tb := tc4 (i := 120) (by decide +kernel) rfl
set_option maxRecDepth 20000 in
theorem tw963 : Cond.code yX8_pass cX8_pass 3 none ∈ tb := tc4 (i := 123) rfl rfl
theorem tw961 : Cond.instanceMethod yX8_pass ∈ tb := tc4 (i := 121) (by decide +kernel) rfl
theorem tw962 : Cond.selects RX8 yX8_pass yX8_pass ∈ tb := tc4 (i := 122) (by decide +kernel) rfl
theorem cvX0_44 : cOK RX0 44 mX8_pass 1 ∧ Cond.instanceMethod mX8_pass.1 ∈ tb ∧ ∃ (Cn : String) (T : u_T) (N : Nat), vwCl[7]? = some (Cn, T, N) ∧ Cond.selects Cn mX8_pass.1 mX8_pass.1 ∈ tb := ⟨⟨tw960, tw124, tw963, rfl, by decide +kernel⟩, tw961, RX8, TX8, 5, rfl, tw962⟩
theorem tw964 : Cond.methodLink RX0 47 yX0_readUsed ∈ tb := tc4 (i := 124) (by decide +kernel) rfl
set_option maxRecDepth 20000 in
theorem tw967 : Cond.code yX0_readUsed cX0_readUsed 4 none ∈ tb := tc4 (i := 127) rfl rfl
theorem tw966 : Cond.instanceMethod yX0_readUsed ∈ tb := tc4 (i := 126) (by decide +kernel) rfl
theorem tw22 : Cond.selects RX0 yX0_readUsed yX0_readUsed ∈ tb := tb_of 22 (by decide +kernel) rfl
theorem cvX0_47 : cOK RX0 47 mX0_readUsed 1 ∧ Cond.instanceMethod mX0_readUsed.1 ∈ tb ∧ ∃ (Cn : String) (T : u_T) (N : Nat), vwCl[0]? = some (Cn, T, N) ∧ Cond.selects Cn mX0_readUsed.1 mX0_readUsed.1 ∈ tb := ⟨⟨tw964, tw129, tw967, rfl, by decide +kernel⟩, tw966, RX0, TX0, 12, rfl, tw22⟩
theorem tw968 : Cond.methodLink RX0 50 yX0_askLayout ∈ tb := tc4 (i := 128) (by decide +kernel) rfl
set_option maxRecDepth 20000 in
theorem tw971 : Cond.code yX0_askLayout cX0_askLayout 5 none ∈ tb := tc4 (i := 131) rfl rfl
theorem tw970 : Cond.instanceMethod yX0_askLayout ∈ tb := tc4 (i := 130) (by decide +kernel) rfl
theorem tw23 : Cond.selects RX0 yX0_askLayout yX0_askLayout ∈ tb := tb_of 23 (by decide +kernel) rfl
theorem cvX0_50 : cOK RX0 50 mX0_askLayout 3 ∧ Cond.instanceMethod mX0_askLayout.1 ∈ tb ∧ ∃ (Cn : String) (T : u_T) (N : Nat), vwCl[0]? = some (Cn, T, N) ∧ Cond.selects Cn mX0_askLayout.1 mX0_askLayout.1 ∈ tb := ⟨⟨tw968, tw129, tw971, rfl, by decide +kernel⟩, tw970, RX0, TX0, 12, rfl, tw23⟩
theorem tw972 : Cond.methodLink RX0 54 yX0_readColours ∈ tb := tc4 (i := 132) (by decide +kernel) rfl
set_option maxRecDepth 20000 in
theorem tw975 : Cond.code yX0_readColours cX0_readColours 4 none ∈ tb := tc4 (i := 135) rfl rfl
theorem tw974 : Cond.instanceMethod yX0_readColours ∈ tb := tc4 (i := 134) (by decide +kernel) rfl
theorem tw24 : Cond.selects RX0 yX0_readColours yX0_readColours ∈ tb := tb_of 24 (by decide +kernel) rfl
theorem cvX0_54 : cOK RX0 54 mX0_readColours 1 ∧ Cond.instanceMethod mX0_readColours.1 ∈ tb ∧ ∃ (Cn : String) (T : u_T) (N : Nat), vwCl[0]? = some (Cn, T, N) ∧ Cond.selects Cn mX0_readColours.1 mX0_readColours.1 ∈ tb := ⟨⟨tw972, tw129, tw975, rfl, by decide +kernel⟩, tw974, RX0, TX0, 12, rfl, tw24⟩
theorem tw976 : Cond.methodLink RX0 102 yJ9_min_7cf53 ∈ tb := tc4 (i := 136) (by decide +kernel) rfl
theorem csX0_102 : cOK RX0 102 mJ9_min_7cf53 2 ∧ Cond.static mJ9_min_7cf53.1 ∈ tb := ⟨⟨tw976, tw141, tw722, rfl, by decide +kernel⟩, tw721⟩
theorem tw977 : Cond.methodLink RX0 108 yX0_readBlueFirst ∈ tb := tc4 (i := 137) (by decide +kernel) rfl
set_option maxRecDepth 20000 in
theorem tw979 : Cond.code yX0_readBlueFirst cX0_readBlueFirst 4 (some .int) ∈ tb := tc4 (i := 139) rfl rfl
theorem tw978 : Cond.static yX0_readBlueFirst ∈ tb := tc4 (i := 138) (by decide +kernel) rfl
theorem csX0_108 : cOK RX0 108 mX0_readBlueFirst 1 ∧ Cond.static mX0_readBlueFirst.1 ∈ tb := ⟨⟨tw977, tw129, tw979, rfl, by decide +kernel⟩, tw978⟩
theorem tw980 : Cond.methodLink RX0 112 yX8_next ∈ tb := tc4 (i := 140) (by decide +kernel) rfl
theorem cvX0_112 : cOK RX0 112 mX8_next 0 ∧ Cond.instanceMethod mX8_next.1 ∈ tb ∧ ∃ (Cn : String) (T : u_T) (N : Nat), vwCl[7]? = some (Cn, T, N) ∧ Cond.selects Cn mX8_next.1 mX8_next.1 ∈ tb := ⟨⟨tw980, tw124, tw858, rfl, by decide +kernel⟩, tw856, RX8, TX8, 5, rfl, tw857⟩
set_option maxRecDepth 20000 in
theorem tw983 : Cond.code yX10_pixelOf cX10_pixelOf 4 (some .int) ∈ tb := tc4 (i := 143) rfl rfl
theorem tw982 : Cond.static yX10_pixelOf ∈ tb := tc4 (i := 142) (by decide +kernel) rfl
theorem csX0_115 : cnOK RX0 115 "RasterMint" mX10_pixelOf 4 ∧ Cond.static mX10_pixelOf.1 ∈ tb := ⟨⟨tl4 (List.mem_of_getElem? (i := 141) (by decide +kernel)), tw121, tw983, rfl, by decide +kernel⟩, tw982⟩
theorem tw984 : Cond.methodLink RX0 63 yX0_readRows ∈ tb := tc4 (i := 144) (by decide +kernel) rfl
set_option maxRecDepth 20000 in
theorem tw987 : Cond.code yX0_readRows cX0_readRows 7 none ∈ tb := tc4 (i := 147) rfl rfl
theorem tw986 : Cond.instanceMethod yX0_readRows ∈ tb := tc4 (i := 146) (by decide +kernel) rfl
theorem tw25 : Cond.selects RX0 yX0_readRows yX0_readRows ∈ tb := tb_of 25 (by decide +kernel) rfl
theorem cvX0_63 : cOK RX0 63 mX0_readRows 2 ∧ Cond.instanceMethod mX0_readRows.1 ∈ tb ∧ ∃ (Cn : String) (T : u_T) (N : Nat), vwCl[0]? = some (Cn, T, N) ∧ Cond.selects Cn mX0_readRows.1 mX0_readRows.1 ∈ tb := ⟨⟨tw984, tw129, tw987, rfl, by decide +kernel⟩, tw986, RX0, TX0, 12, rfl, tw25⟩
theorem tw988 : Cond.methodLink RX0 127 yX0_readIndexed ∈ tb := tc4 (i := 148) (by decide +kernel) rfl
set_option maxRecDepth 20000 in
theorem tw991 : Cond.code yX0_readIndexed cX0_readIndexed 5 (some .int) ∈ tb := tc4 (i := 151) rfl rfl
theorem tw990 : Cond.instanceMethod yX0_readIndexed ∈ tb := tc4 (i := 150) (by decide +kernel) rfl
theorem tw26 : Cond.selects RX0 yX0_readIndexed yX0_readIndexed ∈ tb := tb_of 26 (by decide +kernel) rfl
theorem cvX0_127 : cOK RX0 127 mX0_readIndexed 2 ∧ Cond.instanceMethod mX0_readIndexed.1 ∈ tb ∧ ∃ (Cn : String) (T : u_T) (N : Nat), vwCl[0]? = some (Cn, T, N) ∧ Cond.selects Cn mX0_readIndexed.1 mX0_readIndexed.1 ∈ tb := ⟨⟨tw988, tw129, tw991, rfl, by decide +kernel⟩, tw990, RX0, TX0, 12, rfl, tw26⟩
theorem tw992 : Cond.methodLink RX0 140 yX0_colourOf ∈ tb := tc4 (i := 152) (by decide +kernel) rfl
set_option maxRecDepth 20000 in
theorem tw995 : Cond.code yX0_colourOf cX0_colourOf 4 (some .int) ∈ tb := tc4 (i := 155) rfl rfl
theorem tw994 : Cond.instanceMethod yX0_colourOf ∈ tb := tc4 (i := 154) (by decide +kernel) rfl
theorem tw27 : Cond.selects RX0 yX0_colourOf yX0_colourOf ∈ tb := tb_of 27 (by decide +kernel) rfl
theorem cvX0_140 : cOK RX0 140 mX0_colourOf 3 ∧ Cond.instanceMethod mX0_colourOf.1 ∈ tb ∧ ∃ (Cn : String) (T : u_T) (N : Nat), vwCl[0]? = some (Cn, T, N) ∧ Cond.selects Cn mX0_colourOf.1 mX0_colourOf.1 ∈ tb := ⟨⟨tw992, tw129, tw995, rfl, by decide +kernel⟩, tw994, RX0, TX0, 12, rfl, tw27⟩
theorem tw996 : Cond.methodLink RX0 131 yX0_readDirect ∈ tb := tc4 (i := 156) (by decide +kernel) rfl
set_option maxRecDepth 20000 in
theorem tw999 : Cond.code yX0_readDirect cX0_readDirect 3 (some .int) ∈ tb := tc4 (i := 159) rfl rfl
theorem tw998 : Cond.instanceMethod yX0_readDirect ∈ tb := tc4 (i := 158) (by decide +kernel) rfl
theorem tw28 : Cond.selects RX0 yX0_readDirect yX0_readDirect ∈ tb := tb_of 28 (by decide +kernel) rfl
theorem cvX0_131 : cOK RX0 131 mX0_readDirect 1 ∧ Cond.instanceMethod mX0_readDirect.1 ∈ tb ∧ ∃ (Cn : String) (T : u_T) (N : Nat), vwCl[0]? = some (Cn, T, N) ∧ Cond.selects Cn mX0_readDirect.1 mX0_readDirect.1 ∈ tb := ⟨⟨tw996, tw129, tw999, rfl, by decide +kernel⟩, tw998, RX0, TX0, 12, rfl, tw28⟩
set_option maxRecDepth 20000 in
theorem tw1002 : Cond.code yX10_ofSixteenBits cX10_ofSixteenBits 2 (some .int) ∈ tb := tc4 (i := 162) rfl rfl
theorem tw1001 : Cond.static yX10_ofSixteenBits ∈ tb := tc4 (i := 161) (by decide +kernel) rfl
theorem csX0_144 : cnOK RX0 144 "RasterMint" mX10_ofSixteenBits 2 ∧ Cond.static mX10_ofSixteenBits.1 ∈ tb := ⟨⟨tl4 (List.mem_of_getElem? (i := 160) (by decide +kernel)), tw121, tw1002, rfl, by decide +kernel⟩, tw1001⟩
theorem tw1003 : Cond.methodLink RX10 234 yX10_ofFiveBits ∈ tb := tc4 (i := 163) (by decide +kernel) rfl
set_option maxRecDepth 20000 in
theorem tw1005 : Cond.code yX10_ofFiveBits cX10_ofFiveBits 1 (some .int) ∈ tb := tc4 (i := 165) rfl rfl
theorem tw1004 : Cond.static yX10_ofFiveBits ∈ tb := tc4 (i := 164) (by decide +kernel) rfl
theorem csX10_234 : cOK RX10 234 mX10_ofFiveBits 1 ∧ Cond.static mX10_ofFiveBits.1 ∈ tb := ⟨⟨tw1003, tw121, tw1005, rfl, by decide +kernel⟩, tw1004⟩
theorem tw1006 : Cond.methodLink RX10 230 yX10_pixelOf ∈ tb := tc4 (i := 166) (by decide +kernel) rfl
theorem csX10_230 : cOK RX10 230 mX10_pixelOf 4 ∧ Cond.static mX10_pixelOf.1 ∈ tb := ⟨⟨tw1006, tw121, tw983, rfl, by decide +kernel⟩, tw982⟩
theorem tw1007 : Cond.methodLink RX0 134 yX7_set ∈ tb := tc4 (i := 167) (by decide +kernel) rfl
theorem cvX0_134 : cOK RX0 134 mX7_set 2 ∧ Cond.instanceMethod mX7_set.1 ∈ tb ∧ ∃ (Cn : String) (T : u_T) (N : Nat), vwCl[6]? = some (Cn, T, N) ∧ Cond.selects Cn mX7_set.1 mX7_set.1 ∈ tb := ⟨⟨tw1007, tw122, tw807, rfl, by decide +kernel⟩, tw805, RX7, TX7, 3, rfl, tw806⟩
theorem tw1008 : Cond.methodLink RX0 66 yX0_readPairs ∈ tb := tc4 (i := 168) (by decide +kernel) rfl
set_option maxRecDepth 20000 in
theorem tw1011 : Cond.code yX0_readPairs cX0_readPairs 8 none ∈ tb := tc4 (i := 171) rfl rfl
theorem tw1010 : Cond.instanceMethod yX0_readPairs ∈ tb := tc4 (i := 170) (by decide +kernel) rfl
theorem tw29 : Cond.selects RX0 yX0_readPairs yX0_readPairs ∈ tb := tb_of 29 (by decide +kernel) rfl
theorem cvX0_66 : cOK RX0 66 mX0_readPairs 2 ∧ Cond.instanceMethod mX0_readPairs.1 ∈ tb ∧ ∃ (Cn : String) (T : u_T) (N : Nat), vwCl[0]? = some (Cn, T, N) ∧ Cond.selects Cn mX0_readPairs.1 mX0_readPairs.1 ∈ tb := ⟨⟨tw1008, tw129, tw1011, rfl, by decide +kernel⟩, tw1010, RX0, TX0, 12, rfl, tw29⟩
theorem tw1012 : Cond.methodLink RX0 147 yX7_fill ∈ tb := tc4 (i := 172) (by decide +kernel) rfl
theorem cvX0_147 : cOK RX0 147 mX7_fill 1 ∧ Cond.instanceMethod mX7_fill.1 ∈ tb ∧ ∃ (Cn : String) (T : u_T) (N : Nat), vwCl[6]? = some (Cn, T, N) ∧ Cond.selects Cn mX7_fill.1 mX7_fill.1 ∈ tb := ⟨⟨tw1012, tw122, tw803, rfl, by decide +kernel⟩, tw801, RX7, TX7, 3, rfl, tw802⟩
theorem tw1013 : Cond.methodLink RX0 156 yX0_askRoom ∈ tb := tc4 (i := 173) (by decide +kernel) rfl
set_option maxRecDepth 20000 in
theorem tw1016 : Cond.code yX0_askRoom cX0_askRoom 5 none ∈ tb := tc4 (i := 176) rfl rfl
theorem tw1015 : Cond.instanceMethod yX0_askRoom ∈ tb := tc4 (i := 175) (by decide +kernel) rfl
theorem tw30 : Cond.selects RX0 yX0_askRoom yX0_askRoom ∈ tb := tb_of 30 (by decide +kernel) rfl
theorem cvX0_156 : cOK RX0 156 mX0_askRoom 4 ∧ Cond.instanceMethod mX0_askRoom.1 ∈ tb ∧ ∃ (Cn : String) (T : u_T) (N : Nat), vwCl[0]? = some (Cn, T, N) ∧ Cond.selects Cn mX0_askRoom.1 mX0_askRoom.1 ∈ tb := ⟨⟨tw1013, tw129, tw1016, rfl, by decide +kernel⟩, tw1015, RX0, TX0, 12, rfl, tw30⟩
theorem tw1017 : Cond.methodLink RX0 160 yX0_readLike ∈ tb := tc4 (i := 177) (by decide +kernel) rfl
set_option maxRecDepth 20000 in
theorem tw1020 : Cond.code yX0_readLike cX0_readLike 6 none ∈ tb := tc4 (i := 180) rfl rfl
theorem tw1019 : Cond.instanceMethod yX0_readLike ∈ tb := tc4 (i := 179) (by decide +kernel) rfl
theorem tw31 : Cond.selects RX0 yX0_readLike yX0_readLike ∈ tb := tb_of 31 (by decide +kernel) rfl
theorem cvX0_160 : cOK RX0 160 mX0_readLike 4 ∧ Cond.instanceMethod mX0_readLike.1 ∈ tb ∧ ∃ (Cn : String) (T : u_T) (N : Nat), vwCl[0]? = some (Cn, T, N) ∧ Cond.selects Cn mX0_readLike.1 mX0_readLike.1 ∈ tb := ⟨⟨tw1017, tw129, tw1020, rfl, by decide +kernel⟩, tw1019, RX0, TX0, 12, rfl, tw31⟩
theorem tw1021 : Cond.methodLink RX0 170 yX0_part ∈ tb := tc4 (i := 181) (by decide +kernel) rfl
set_option maxRecDepth 20000 in
theorem tw1024 : Cond.code yX0_part cX0_part 3 (some .int) ∈ tb := tc4 (i := 184) rfl rfl
theorem tw1023 : Cond.instanceMethod yX0_part ∈ tb := tc4 (i := 183) (by decide +kernel) rfl
theorem tw32 : Cond.selects RX0 yX0_part yX0_part ∈ tb := tb_of 32 (by decide +kernel) rfl
theorem cvX0_170 : cOK RX0 170 mX0_part 2 ∧ Cond.instanceMethod mX0_part.1 ∈ tb ∧ ∃ (Cn : String) (T : u_T) (N : Nat), vwCl[0]? = some (Cn, T, N) ∧ Cond.selects Cn mX0_part.1 mX0_part.1 ∈ tb := ⟨⟨tw1021, tw129, tw1024, rfl, by decide +kernel⟩, tw1023, RX0, TX0, 12, rfl, tw32⟩
theorem tw1025 : Cond.methodLink RX0 173 yX0_paint ∈ tb := tc4 (i := 185) (by decide +kernel) rfl
set_option maxRecDepth 20000 in
theorem tw1028 : Cond.code yX0_paint cX0_paint 3 none ∈ tb := tc4 (i := 188) rfl rfl
theorem tw1027 : Cond.instanceMethod yX0_paint ∈ tb := tc4 (i := 187) (by decide +kernel) rfl
theorem tw33 : Cond.selects RX0 yX0_paint yX0_paint ∈ tb := tb_of 33 (by decide +kernel) rfl
theorem cvX0_173 : cOK RX0 173 mX0_paint 2 ∧ Cond.instanceMethod mX0_paint.1 ∈ tb ∧ ∃ (Cn : String) (T : u_T) (N : Nat), vwCl[0]? = some (Cn, T, N) ∧ Cond.selects Cn mX0_paint.1 mX0_paint.1 ∈ tb := ⟨⟨tw1025, tw129, tw1028, rfl, by decide +kernel⟩, tw1027, RX0, TX0, 12, rfl, tw33⟩
theorem tw1029 : Cond.methodLink RX0 163 yX0_readUnlike ∈ tb := tc4 (i := 189) (by decide +kernel) rfl
set_option maxRecDepth 20000 in
theorem tw1032 : Cond.code yX0_readUnlike cX0_readUnlike 7 none ∈ tb := tc4 (i := 192) rfl rfl
theorem tw1031 : Cond.instanceMethod yX0_readUnlike ∈ tb := tc4 (i := 191) (by decide +kernel) rfl
theorem tw34 : Cond.selects RX0 yX0_readUnlike yX0_readUnlike ∈ tb := tb_of 34 (by decide +kernel) rfl
theorem cvX0_163 : cOK RX0 163 mX0_readUnlike 3 ∧ Cond.instanceMethod mX0_readUnlike.1 ∈ tb ∧ ∃ (Cn : String) (T : u_T) (N : Nat), vwCl[0]? = some (Cn, T, N) ∧ Cond.selects Cn mX0_readUnlike.1 mX0_readUnlike.1 ∈ tb := ⟨⟨tw1029, tw129, tw1032, rfl, by decide +kernel⟩, tw1031, RX0, TX0, 12, rfl, tw34⟩
theorem tw1033 : Cond.methodLink RX0 167 yX0_move ∈ tb := tc4 (i := 193) (by decide +kernel) rfl
set_option maxRecDepth 20000 in
theorem tw1036 : Cond.code yX0_move cX0_move 5 none ∈ tb := tc4 (i := 196) rfl rfl
theorem tw1035 : Cond.instanceMethod yX0_move ∈ tb := tc4 (i := 195) (by decide +kernel) rfl
theorem tw35 : Cond.selects RX0 yX0_move yX0_move ∈ tb := tb_of 35 (by decide +kernel) rfl
theorem cvX0_167 : cOK RX0 167 mX0_move 4 ∧ Cond.instanceMethod mX0_move.1 ∈ tb ∧ ∃ (Cn : String) (T : u_T) (N : Nat), vwCl[0]? = some (Cn, T, N) ∧ Cond.selects Cn mX0_move.1 mX0_move.1 ∈ tb := ⟨⟨tw1033, tw129, tw1036, rfl, by decide +kernel⟩, tw1035, RX0, TX0, 12, rfl, tw35⟩
theorem tw1037 : Cond.methodLink RX0 69 yX8_wantEnd ∈ tb := tc4 (i := 197) (by decide +kernel) rfl
set_option maxRecDepth 20000 in
theorem tw1040 : Cond.code yX8_wantEnd cX8_wantEnd 1 none ∈ tb := tc4 (i := 200) rfl rfl
theorem tw1038 : Cond.instanceMethod yX8_wantEnd ∈ tb := tc4 (i := 198) (by decide +kernel) rfl
theorem tw1039 : Cond.selects RX8 yX8_wantEnd yX8_wantEnd ∈ tb := tc4 (i := 199) (by decide +kernel) rfl
theorem cvX0_69 : cOK RX0 69 mX8_wantEnd 0 ∧ Cond.instanceMethod mX8_wantEnd.1 ∈ tb ∧ ∃ (Cn : String) (T : u_T) (N : Nat), vwCl[7]? = some (Cn, T, N) ∧ Cond.selects Cn mX8_wantEnd.1 mX8_wantEnd.1 ∈ tb := ⟨⟨tw1037, tw124, tw1040, rfl, by decide +kernel⟩, tw1038, RX8, TX8, 5, rfl, tw1039⟩
theorem tw1044 : Cond.methodLink RX4 19 yX8_want ∈ tb := tc4 (i := 204) (by decide +kernel) rfl
theorem cvX4_19 : cOK RX4 19 mX8_want 1 ∧ Cond.instanceMethod mX8_want.1 ∈ tb ∧ ∃ (Cn : String) (T : u_T) (N : Nat), vwCl[7]? = some (Cn, T, N) ∧ Cond.selects Cn mX8_want.1 mX8_want.1 ∈ tb := ⟨⟨tw1044, tw124, tw854, rfl, by decide +kernel⟩, tw852, RX8, TX8, 5, rfl, tw853⟩
theorem tw1045 : Cond.methodLink RX4 25 yX4_readVersion ∈ tb := tc4 (i := 205) (by decide +kernel) rfl
set_option maxRecDepth 20000 in
theorem tw1048 : Cond.code yX4_readVersion cX4_readVersion 3 none ∈ tb := tc4 (i := 208) rfl rfl
theorem tw1047 : Cond.instanceMethod yX4_readVersion ∈ tb := tc4 (i := 207) (by decide +kernel) rfl
theorem tw36 : Cond.selects RX4 yX4_readVersion yX4_readVersion ∈ tb := tb_of 36 (by decide +kernel) rfl
theorem cvX4_25 : cOK RX4 25 mX4_readVersion 1 ∧ Cond.instanceMethod mX4_readVersion.1 ∈ tb ∧ ∃ (Cn : String) (T : u_T) (N : Nat), vwCl[3]? = some (Cn, T, N) ∧ Cond.selects Cn mX4_readVersion.1 mX4_readVersion.1 ∈ tb := ⟨⟨tw1045, tw131, tw1048, rfl, by decide +kernel⟩, tw1047, RX4, TX4, 10, rfl, tw36⟩
theorem tw1049 : Cond.methodLink RX4 93 yX8_next ∈ tb := tc4 (i := 209) (by decide +kernel) rfl
theorem cvX4_93 : cOK RX4 93 mX8_next 0 ∧ Cond.instanceMethod mX8_next.1 ∈ tb ∧ ∃ (Cn : String) (T : u_T) (N : Nat), vwCl[7]? = some (Cn, T, N) ∧ Cond.selects Cn mX8_next.1 mX8_next.1 ∈ tb := ⟨⟨tw1049, tw124, tw858, rfl, by decide +kernel⟩, tw856, RX8, TX8, 5, rfl, tw857⟩
theorem tw1050 : Cond.methodLink RX4 100 yX8_refuse ∈ tb := tc4 (i := 210) (by decide +kernel) rfl
theorem cvX4_100 : cOK RX4 100 mX8_refuse 2 ∧ Cond.instanceMethod mX8_refuse.1 ∈ tb ∧ ∃ (Cn : String) (T : u_T) (N : Nat), vwCl[7]? = some (Cn, T, N) ∧ Cond.selects Cn mX8_refuse.1 mX8_refuse.1 ∈ tb := ⟨⟨tw1050, tw124, tw930, rfl, by decide +kernel⟩, tw928, RX8, TX8, 5, rfl, tw929⟩
theorem tw1051 : Cond.methodLink RX4 29 yX4_readBits ∈ tb := tc4 (i := 211) (by decide +kernel) rfl
set_option maxRecDepth 20000 in
theorem tw1054 : Cond.code yX4_readBits cX4_readBits 3 none ∈ tb := tc4 (i := 214) rfl rfl
theorem tw1053 : Cond.instanceMethod yX4_readBits ∈ tb := tc4 (i := 213) (by decide +kernel) rfl
theorem tw37 : Cond.selects RX4 yX4_readBits yX4_readBits ∈ tb := tb_of 37 (by decide +kernel) rfl
theorem cvX4_29 : cOK RX4 29 mX4_readBits 1 ∧ Cond.instanceMethod mX4_readBits.1 ∈ tb ∧ ∃ (Cn : String) (T : u_T) (N : Nat), vwCl[3]? = some (Cn, T, N) ∧ Cond.selects Cn mX4_readBits.1 mX4_readBits.1 ∈ tb := ⟨⟨tw1051, tw131, tw1054, rfl, by decide +kernel⟩, tw1053, RX4, TX4, 10, rfl, tw37⟩
theorem tw1055 : Cond.methodLink RX4 32 yX4_readSize ∈ tb := tc4 (i := 215) (by decide +kernel) rfl
set_option maxRecDepth 20000 in
theorem tw1057 : Cond.code yX4_readSize cX4_readSize 7 none ∈ tb := tc4 (i := 217) rfl rfl
theorem tw1056 : Cond.static yX4_readSize ∈ tb := tc4 (i := 216) (by decide +kernel) rfl
theorem csX4_32 : cOK RX4 32 mX4_readSize 2 ∧ Cond.static mX4_readSize.1 ∈ tb := ⟨⟨tw1055, tw131, tw1057, rfl, by decide +kernel⟩, tw1056⟩
theorem tw1058 : Cond.methodLink RX4 107 yX8_low2 ∈ tb := tc4 (i := 218) (by decide +kernel) rfl
theorem cvX4_107 : cOK RX4 107 mX8_low2 0 ∧ Cond.instanceMethod mX8_low2.1 ∈ tb ∧ ∃ (Cn : String) (T : u_T) (N : Nat), vwCl[7]? = some (Cn, T, N) ∧ Cond.selects Cn mX8_low2.1 mX8_low2.1 ∈ tb := ⟨⟨tw1058, tw124, tw943, rfl, by decide +kernel⟩, tw941, RX8, TX8, 5, rfl, tw942⟩
theorem tw1059 : Cond.methodLink RX4 110 yX8_lay ∈ tb := tc4 (i := 219) (by decide +kernel) rfl
theorem cvX4_110 : cOK RX4 110 mX8_lay 4 ∧ Cond.instanceMethod mX8_lay.1 ∈ tb ∧ ∃ (Cn : String) (T : u_T) (N : Nat), vwCl[7]? = some (Cn, T, N) ∧ Cond.selects Cn mX8_lay.1 mX8_lay.1 ∈ tb := ⟨⟨tw1059, tw124, tw953, rfl, by decide +kernel⟩, tw951, RX8, TX8, 5, rfl, tw952⟩
theorem tw1060 : Cond.methodLink RX4 36 yX8_pass ∈ tb := tc4 (i := 220) (by decide +kernel) rfl
theorem cvX4_36 : cOK RX4 36 mX8_pass 1 ∧ Cond.instanceMethod mX8_pass.1 ∈ tb ∧ ∃ (Cn : String) (T : u_T) (N : Nat), vwCl[7]? = some (Cn, T, N) ∧ Cond.selects Cn mX8_pass.1 mX8_pass.1 ∈ tb := ⟨⟨tw1060, tw124, tw963, rfl, by decide +kernel⟩, tw961, RX8, TX8, 5, rfl, tw962⟩
theorem tw1061 : Cond.methodLink RX4 39 yX4_readColours ∈ tb := tc4 (i := 221) (by decide +kernel) rfl
set_option maxRecDepth 20000 in
theorem tw1064 : Cond.code yX4_readColours cX4_readColours 6 none ∈ tb := tc4 (i := 224) rfl rfl
theorem tw1063 : Cond.instanceMethod yX4_readColours ∈ tb := tc4 (i := 223) (by decide +kernel) rfl
theorem tw38 : Cond.selects RX4 yX4_readColours yX4_readColours ∈ tb := tb_of 38 (by decide +kernel) rfl
theorem cvX4_39 : cOK RX4 39 mX4_readColours 2 ∧ Cond.instanceMethod mX4_readColours.1 ∈ tb ∧ ∃ (Cn : String) (T : u_T) (N : Nat), vwCl[3]? = some (Cn, T, N) ∧ Cond.selects Cn mX4_readColours.1 mX4_readColours.1 ∈ tb := ⟨⟨tw1061, tw131, tw1064, rfl, by decide +kernel⟩, tw1063, RX4, TX4, 10, rfl, tw38⟩
theorem csX4_114 : cnOK RX4 114 "RasterMint" mX10_pixelOf 4 ∧ Cond.static mX10_pixelOf.1 ∈ tb := ⟨⟨tl4 (List.mem_of_getElem? (i := 225) (by decide +kernel)), tw121, tw983, rfl, by decide +kernel⟩, tw982⟩
theorem tw1066 : Cond.methodLink RX4 43 yX4_readPlanes ∈ tb := tc4 (i := 226) (by decide +kernel) rfl
set_option maxRecDepth 20000 in
theorem tw1069 : Cond.code yX4_readPlanes cX4_readPlanes 4 none ∈ tb := tc4 (i := 229) rfl rfl
theorem tw1068 : Cond.instanceMethod yX4_readPlanes ∈ tb := tc4 (i := 228) (by decide +kernel) rfl
theorem tw39 : Cond.selects RX4 yX4_readPlanes yX4_readPlanes ∈ tb := tb_of 39 (by decide +kernel) rfl
theorem cvX4_43 : cOK RX4 43 mX4_readPlanes 1 ∧ Cond.instanceMethod mX4_readPlanes.1 ∈ tb ∧ ∃ (Cn : String) (T : u_T) (N : Nat), vwCl[3]? = some (Cn, T, N) ∧ Cond.selects Cn mX4_readPlanes.1 mX4_readPlanes.1 ∈ tb := ⟨⟨tw1066, tw131, tw1069, rfl, by decide +kernel⟩, tw1068, RX4, TX4, 10, rfl, tw39⟩
theorem tw1070 : Cond.methodLink RX4 52 yX4_readStep ∈ tb := tc4 (i := 230) (by decide +kernel) rfl
set_option maxRecDepth 20000 in
theorem tw1073 : Cond.code yX4_readStep cX4_readStep 4 none ∈ tb := tc4 (i := 233) rfl rfl
theorem tw1072 : Cond.instanceMethod yX4_readStep ∈ tb := tc4 (i := 232) (by decide +kernel) rfl
theorem tw40 : Cond.selects RX4 yX4_readStep yX4_readStep ∈ tb := tb_of 40 (by decide +kernel) rfl
theorem cvX4_52 : cOK RX4 52 mX4_readStep 2 ∧ Cond.instanceMethod mX4_readStep.1 ∈ tb ∧ ∃ (Cn : String) (T : u_T) (N : Nat), vwCl[3]? = some (Cn, T, N) ∧ Cond.selects Cn mX4_readStep.1 mX4_readStep.1 ∈ tb := ⟨⟨tw1070, tw131, tw1073, rfl, by decide +kernel⟩, tw1072, RX4, TX4, 10, rfl, tw40⟩
theorem tw1074 : Cond.methodLink RX4 55 yX7_fill ∈ tb := tc4 (i := 234) (by decide +kernel) rfl
theorem cvX4_55 : cOK RX4 55 mX7_fill 1 ∧ Cond.instanceMethod mX7_fill.1 ∈ tb ∧ ∃ (Cn : String) (T : u_T) (N : Nat), vwCl[6]? = some (Cn, T, N) ∧ Cond.selects Cn mX7_fill.1 mX7_fill.1 ∈ tb := ⟨⟨tw1074, tw122, tw803, rfl, by decide +kernel⟩, tw801, RX7, TX7, 3, rfl, tw802⟩
theorem tw1075 : Cond.methodLink RX4 61 yX4_readLine ∈ tb := tc4 (i := 235) (by decide +kernel) rfl
set_option maxRecDepth 20000 in
theorem tw1078 : Cond.code yX4_readLine cX4_readLine 12 none ∈ tb := tc4 (i := 238) rfl rfl
theorem tw1077 : Cond.instanceMethod yX4_readLine ∈ tb := tc4 (i := 237) (by decide +kernel) rfl
theorem tw41 : Cond.selects RX4 yX4_readLine yX4_readLine ∈ tb := tb_of 41 (by decide +kernel) rfl
theorem cvX4_61 : cOK RX4 61 mX4_readLine 3 ∧ Cond.instanceMethod mX4_readLine.1 ∈ tb ∧ ∃ (Cn : String) (T : u_T) (N : Nat), vwCl[3]? = some (Cn, T, N) ∧ Cond.selects Cn mX4_readLine.1 mX4_readLine.1 ∈ tb := ⟨⟨tw1075, tw131, tw1078, rfl, by decide +kernel⟩, tw1077, RX4, TX4, 10, rfl, tw41⟩
theorem tw1079 : Cond.methodLink RX4 118 yJ9_max_7cf53 ∈ tb := tc4 (i := 239) (by decide +kernel) rfl
theorem csX4_118 : cOK RX4 118 mJ9_max_7cf53 2 ∧ Cond.static mJ9_max_7cf53.1 ∈ tb := ⟨⟨tw1079, tw141, tw634, rfl, by decide +kernel⟩, tw633⟩
theorem tw1080 : Cond.methodLink RX4 124 yX4_addBits ∈ tb := tc5 (i := 0) (by decide +kernel) rfl
set_option maxRecDepth 20000 in
theorem tw1083 : Cond.code yX4_addBits cX4_addBits 10 none ∈ tb := tc5 (i := 3) rfl rfl
theorem tw1082 : Cond.instanceMethod yX4_addBits ∈ tb := tc5 (i := 2) (by decide +kernel) rfl
theorem tw42 : Cond.selects RX4 yX4_addBits yX4_addBits ∈ tb := tb_of 42 (by decide +kernel) rfl
theorem cvX4_124 : cOK RX4 124 mX4_addBits 5 ∧ Cond.instanceMethod mX4_addBits.1 ∈ tb ∧ ∃ (Cn : String) (T : u_T) (N : Nat), vwCl[3]? = some (Cn, T, N) ∧ Cond.selects Cn mX4_addBits.1 mX4_addBits.1 ∈ tb := ⟨⟨tw1080, tw131, tw1083, rfl, by decide +kernel⟩, tw1082, RX4, TX4, 10, rfl, tw42⟩
theorem tw1084 : Cond.methodLink RX4 132 yX7_set ∈ tb := tc5 (i := 4) (by decide +kernel) rfl
theorem cvX4_132 : cOK RX4 132 mX7_set 2 ∧ Cond.instanceMethod mX7_set.1 ∈ tb ∧ ∃ (Cn : String) (T : u_T) (N : Nat), vwCl[6]? = some (Cn, T, N) ∧ Cond.selects Cn mX7_set.1 mX7_set.1 ∈ tb := ⟨⟨tw1084, tw122, tw807, rfl, by decide +kernel⟩, tw805, RX7, TX7, 3, rfl, tw806⟩
theorem tw1085 : Cond.methodLink RX4 71 yX8_wantEnd ∈ tb := tc5 (i := 5) (by decide +kernel) rfl
theorem cvX4_71 : cOK RX4 71 mX8_wantEnd 0 ∧ Cond.instanceMethod mX8_wantEnd.1 ∈ tb ∧ ∃ (Cn : String) (T : u_T) (N : Nat), vwCl[7]? = some (Cn, T, N) ∧ Cond.selects Cn mX8_wantEnd.1 mX8_wantEnd.1 ∈ tb := ⟨⟨tw1085, tw124, tw1040, rfl, by decide +kernel⟩, tw1038, RX8, TX8, 5, rfl, tw1039⟩
theorem tw1086 : Cond.methodLink RX4 74 yX4_colour ∈ tb := tc5 (i := 6) (by decide +kernel) rfl
set_option maxRecDepth 20000 in
theorem tw1089 : Cond.code yX4_colour cX4_colour 5 none ∈ tb := tc5 (i := 9) rfl rfl
theorem tw1088 : Cond.instanceMethod yX4_colour ∈ tb := tc5 (i := 8) (by decide +kernel) rfl
theorem tw43 : Cond.selects RX4 yX4_colour yX4_colour ∈ tb := tb_of 43 (by decide +kernel) rfl
theorem cvX4_74 : cOK RX4 74 mX4_colour 1 ∧ Cond.instanceMethod mX4_colour.1 ∈ tb ∧ ∃ (Cn : String) (T : u_T) (N : Nat), vwCl[3]? = some (Cn, T, N) ∧ Cond.selects Cn mX4_colour.1 mX4_colour.1 ∈ tb := ⟨⟨tw1086, tw131, tw1089, rfl, by decide +kernel⟩, tw1088, RX4, TX4, 10, rfl, tw43⟩
theorem tw1090 : Cond.methodLink RX4 135 yX7_count ∈ tb := tc5 (i := 10) (by decide +kernel) rfl
theorem cvX4_135 : cOK RX4 135 mX7_count 0 ∧ Cond.instanceMethod mX7_count.1 ∈ tb ∧ ∃ (Cn : String) (T : u_T) (N : Nat), vwCl[6]? = some (Cn, T, N) ∧ Cond.selects Cn mX7_count.1 mX7_count.1 ∈ tb := ⟨⟨tw1090, tw122, tw547, rfl, by decide +kernel⟩, tw545, RX7, TX7, 3, rfl, tw546⟩
theorem tw1094 : Cond.methodLink RX5 9 yX8_want ∈ tb := tc5 (i := 14) (by decide +kernel) rfl
theorem cvX5_9 : cOK RX5 9 mX8_want 1 ∧ Cond.instanceMethod mX8_want.1 ∈ tb ∧ ∃ (Cn : String) (T : u_T) (N : Nat), vwCl[7]? = some (Cn, T, N) ∧ Cond.selects Cn mX8_want.1 mX8_want.1 ∈ tb := ⟨⟨tw1094, tw124, tw854, rfl, by decide +kernel⟩, tw852, RX8, TX8, 5, rfl, tw853⟩
theorem tw1095 : Cond.methodLink RX5 15 yX5_readKind ∈ tb := tc5 (i := 15) (by decide +kernel) rfl
set_option maxRecDepth 20000 in
theorem tw1098 : Cond.code yX5_readKind cX5_readKind 3 none ∈ tb := tc5 (i := 18) rfl rfl
theorem tw1097 : Cond.instanceMethod yX5_readKind ∈ tb := tc5 (i := 17) (by decide +kernel) rfl
theorem tw44 : Cond.selects RX5 yX5_readKind yX5_readKind ∈ tb := tb_of 44 (by decide +kernel) rfl
theorem cvX5_15 : cOK RX5 15 mX5_readKind 1 ∧ Cond.instanceMethod mX5_readKind.1 ∈ tb ∧ ∃ (Cn : String) (T : u_T) (N : Nat), vwCl[4]? = some (Cn, T, N) ∧ Cond.selects Cn mX5_readKind.1 mX5_readKind.1 ∈ tb := ⟨⟨tw1095, tw128, tw1098, rfl, by decide +kernel⟩, tw1097, RX5, TX5, 4, rfl, tw44⟩
theorem tw1099 : Cond.methodLink RX5 68 yX8_next ∈ tb := tc5 (i := 19) (by decide +kernel) rfl
theorem cvX5_68 : cOK RX5 68 mX8_next 0 ∧ Cond.instanceMethod mX8_next.1 ∈ tb ∧ ∃ (Cn : String) (T : u_T) (N : Nat), vwCl[7]? = some (Cn, T, N) ∧ Cond.selects Cn mX8_next.1 mX8_next.1 ∈ tb := ⟨⟨tw1099, tw124, tw858, rfl, by decide +kernel⟩, tw856, RX8, TX8, 5, rfl, tw857⟩
theorem tw1100 : Cond.methodLink RX5 72 yX8_refuse ∈ tb := tc5 (i := 20) (by decide +kernel) rfl
theorem cvX5_72 : cOK RX5 72 mX8_refuse 2 ∧ Cond.instanceMethod mX8_refuse.1 ∈ tb ∧ ∃ (Cn : String) (T : u_T) (N : Nat), vwCl[7]? = some (Cn, T, N) ∧ Cond.selects Cn mX8_refuse.1 mX8_refuse.1 ∈ tb := ⟨⟨tw1100, tw124, tw930, rfl, by decide +kernel⟩, tw928, RX8, TX8, 5, rfl, tw929⟩
theorem tw1101 : Cond.methodLink RX5 21 yX5_readSize ∈ tb := tc5 (i := 21) (by decide +kernel) rfl
set_option maxRecDepth 20000 in
theorem tw1104 : Cond.code yX5_readSize cX5_readSize 5 none ∈ tb := tc5 (i := 24) rfl rfl
theorem tw1103 : Cond.instanceMethod yX5_readSize ∈ tb := tc5 (i := 23) (by decide +kernel) rfl
theorem tw45 : Cond.selects RX5 yX5_readSize yX5_readSize ∈ tb := tb_of 45 (by decide +kernel) rfl
theorem cvX5_21 : cOK RX5 21 mX5_readSize 2 ∧ Cond.instanceMethod mX5_readSize.1 ∈ tb ∧ ∃ (Cn : String) (T : u_T) (N : Nat), vwCl[4]? = some (Cn, T, N) ∧ Cond.selects Cn mX5_readSize.1 mX5_readSize.1 ∈ tb := ⟨⟨tw1101, tw128, tw1104, rfl, by decide +kernel⟩, tw1103, RX5, TX5, 4, rfl, tw45⟩
theorem tw1105 : Cond.methodLink RX5 32 yX5_passGap ∈ tb := tc5 (i := 25) (by decide +kernel) rfl
set_option maxRecDepth 20000 in
theorem tw1107 : Cond.code yX5_passGap cX5_passGap 2 none ∈ tb := tc5 (i := 27) rfl rfl
theorem tw1106 : Cond.static yX5_passGap ∈ tb := tc5 (i := 26) (by decide +kernel) rfl
theorem csX5_32 : cOK RX5 32 mX5_passGap 1 ∧ Cond.static mX5_passGap.1 ∈ tb := ⟨⟨tw1105, tw128, tw1107, rfl, by decide +kernel⟩, tw1106⟩
theorem tw1108 : Cond.methodLink RX5 88 yX8_peek ∈ tb := tc5 (i := 28) (by decide +kernel) rfl
set_option maxRecDepth 20000 in
theorem tw1111 : Cond.code yX8_peek cX8_peek 1 (some .int) ∈ tb := tc5 (i := 31) rfl rfl
theorem tw1109 : Cond.instanceMethod yX8_peek ∈ tb := tc5 (i := 29) (by decide +kernel) rfl
theorem tw1110 : Cond.selects RX8 yX8_peek yX8_peek ∈ tb := tc5 (i := 30) (by decide +kernel) rfl
theorem cvX5_88 : cOK RX5 88 mX8_peek 0 ∧ Cond.instanceMethod mX8_peek.1 ∈ tb ∧ ∃ (Cn : String) (T : u_T) (N : Nat), vwCl[7]? = some (Cn, T, N) ∧ Cond.selects Cn mX8_peek.1 mX8_peek.1 ∈ tb := ⟨⟨tw1108, tw124, tw1111, rfl, by decide +kernel⟩, tw1109, RX8, TX8, 5, rfl, tw1110⟩
theorem tw1112 : Cond.methodLink RX5 84 yX5_isBlank ∈ tb := tc5 (i := 32) (by decide +kernel) rfl
set_option maxRecDepth 20000 in
theorem tw1114 : Cond.code yX5_isBlank cX5_isBlank 1 (some .boolean) ∈ tb := tc5 (i := 34) rfl rfl
theorem tw1113 : Cond.static yX5_isBlank ∈ tb := tc5 (i := 33) (by decide +kernel) rfl
theorem csX5_84 : cOK RX5 84 mX5_isBlank 1 ∧ Cond.static mX5_isBlank.1 ∈ tb := ⟨⟨tw1112, tw128, tw1114, rfl, by decide +kernel⟩, tw1113⟩
theorem tw1115 : Cond.methodLink RX5 62 yX5_passBlanks ∈ tb := tc5 (i := 35) (by decide +kernel) rfl
set_option maxRecDepth 20000 in
theorem tw1117 : Cond.code yX5_passBlanks cX5_passBlanks 3 none ∈ tb := tc5 (i := 37) rfl rfl
theorem tw1116 : Cond.static yX5_passBlanks ∈ tb := tc5 (i := 36) (by decide +kernel) rfl
theorem csX5_62 : cOK RX5 62 mX5_passBlanks 1 ∧ Cond.static mX5_passBlanks.1 ∈ tb := ⟨⟨tw1115, tw128, tw1117, rfl, by decide +kernel⟩, tw1116⟩
theorem tw1118 : Cond.methodLink RX5 35 yX5_readNumber ∈ tb := tc5 (i := 38) (by decide +kernel) rfl
set_option maxRecDepth 20000 in
theorem tw1121 : Cond.code yX5_readNumber cX5_readNumber 4 (some .int) ∈ tb := tc5 (i := 41) rfl rfl
theorem tw1120 : Cond.instanceMethod yX5_readNumber ∈ tb := tc5 (i := 40) (by decide +kernel) rfl
theorem tw46 : Cond.selects RX5 yX5_readNumber yX5_readNumber ∈ tb := tb_of 46 (by decide +kernel) rfl
theorem cvX5_35 : cOK RX5 35 mX5_readNumber 1 ∧ Cond.instanceMethod mX5_readNumber.1 ∈ tb ∧ ∃ (Cn : String) (T : u_T) (N : Nat), vwCl[4]? = some (Cn, T, N) ∧ Cond.selects Cn mX5_readNumber.1 mX5_readNumber.1 ∈ tb := ⟨⟨tw1118, tw128, tw1121, rfl, by decide +kernel⟩, tw1120, RX5, TX5, 4, rfl, tw46⟩
theorem tw1122 : Cond.methodLink RX5 94 yX5_isDigit ∈ tb := tc5 (i := 42) (by decide +kernel) rfl
set_option maxRecDepth 20000 in
theorem tw1124 : Cond.code yX5_isDigit cX5_isDigit 1 (some .boolean) ∈ tb := tc5 (i := 44) rfl rfl
theorem tw1123 : Cond.static yX5_isDigit ∈ tb := tc5 (i := 43) (by decide +kernel) rfl
theorem csX5_94 : cOK RX5 94 mX5_isDigit 1 ∧ Cond.static mX5_isDigit.1 ∈ tb := ⟨⟨tw1122, tw128, tw1124, rfl, by decide +kernel⟩, tw1123⟩
theorem tw1126 : Cond.methodLink RX5 97 yJ9_min_7cf53 ∈ tb := tc5 (i := 46) (by decide +kernel) rfl
theorem csX5_97 : cOK RX5 97 mJ9_min_7cf53 2 ∧ Cond.static mJ9_min_7cf53.1 ∈ tb := ⟨⟨tw1126, tw141, tw722, rfl, by decide +kernel⟩, tw721⟩
theorem tw1127 : Cond.methodLink RX5 40 yX5_askNumber ∈ tb := tc5 (i := 47) (by decide +kernel) rfl
set_option maxRecDepth 20000 in
theorem tw1130 : Cond.code yX5_askNumber cX5_askNumber 4 none ∈ tb := tc5 (i := 50) rfl rfl
theorem tw1129 : Cond.instanceMethod yX5_askNumber ∈ tb := tc5 (i := 49) (by decide +kernel) rfl
theorem tw47 : Cond.selects RX5 yX5_askNumber yX5_askNumber ∈ tb := tb_of 47 (by decide +kernel) rfl
theorem cvX5_40 : cOK RX5 40 mX5_askNumber 3 ∧ Cond.instanceMethod mX5_askNumber.1 ∈ tb ∧ ∃ (Cn : String) (T : u_T) (N : Nat), vwCl[4]? = some (Cn, T, N) ∧ Cond.selects Cn mX5_askNumber.1 mX5_askNumber.1 ∈ tb := ⟨⟨tw1127, tw128, tw1130, rfl, by decide +kernel⟩, tw1129, RX5, TX5, 4, rfl, tw47⟩
theorem tw1131 : Cond.methodLink RX5 80 yX8_lay ∈ tb := tc5 (i := 51) (by decide +kernel) rfl
theorem cvX5_80 : cOK RX5 80 mX8_lay 4 ∧ Cond.instanceMethod mX8_lay.1 ∈ tb ∧ ∃ (Cn : String) (T : u_T) (N : Nat), vwCl[7]? = some (Cn, T, N) ∧ Cond.selects Cn mX8_lay.1 mX8_lay.1 ∈ tb := ⟨⟨tw1131, tw124, tw953, rfl, by decide +kernel⟩, tw951, RX8, TX8, 5, rfl, tw952⟩
theorem tw1133 : Cond.methodLink RX5 44 yX5_readOneBlank ∈ tb := tc5 (i := 53) (by decide +kernel) rfl
set_option maxRecDepth 20000 in
theorem tw1135 : Cond.code yX5_readOneBlank cX5_readOneBlank 2 none ∈ tb := tc5 (i := 55) rfl rfl
theorem tw1134 : Cond.static yX5_readOneBlank ∈ tb := tc5 (i := 54) (by decide +kernel) rfl
theorem csX5_44 : cOK RX5 44 mX5_readOneBlank 1 ∧ Cond.static mX5_readOneBlank.1 ∈ tb := ⟨⟨tw1133, tw128, tw1135, rfl, by decide +kernel⟩, tw1134⟩
theorem tw1136 : Cond.methodLink RX5 53 yX5_readSigns ∈ tb := tc5 (i := 56) (by decide +kernel) rfl
set_option maxRecDepth 20000 in
theorem tw1138 : Cond.code yX5_readSigns cX5_readSigns 6 none ∈ tb := tc5 (i := 58) rfl rfl
theorem tw1137 : Cond.static yX5_readSigns ∈ tb := tc5 (i := 57) (by decide +kernel) rfl
theorem csX5_53 : cOK RX5 53 mX5_readSigns 2 ∧ Cond.static mX5_readSigns.1 ∈ tb := ⟨⟨tw1136, tw128, tw1138, rfl, by decide +kernel⟩, tw1137⟩
theorem tw1139 : Cond.methodLink RX5 108 yX7_set ∈ tb := tc5 (i := 59) (by decide +kernel) rfl
theorem cvX5_108 : cOK RX5 108 mX7_set 2 ∧ Cond.instanceMethod mX7_set.1 ∈ tb ∧ ∃ (Cn : String) (T : u_T) (N : Nat), vwCl[6]? = some (Cn, T, N) ∧ Cond.selects Cn mX7_set.1 mX7_set.1 ∈ tb := ⟨⟨tw1139, tw122, tw807, rfl, by decide +kernel⟩, tw805, RX7, TX7, 3, rfl, tw806⟩
theorem tw1140 : Cond.methodLink RX5 56 yX5_readBits ∈ tb := tc5 (i := 60) (by decide +kernel) rfl
set_option maxRecDepth 20000 in
theorem tw1142 : Cond.code yX5_readBits cX5_readBits 6 none ∈ tb := tc5 (i := 62) rfl rfl
theorem tw1141 : Cond.static yX5_readBits ∈ tb := tc5 (i := 61) (by decide +kernel) rfl
theorem csX5_56 : cOK RX5 56 mX5_readBits 2 ∧ Cond.static mX5_readBits.1 ∈ tb := ⟨⟨tw1140, tw128, tw1142, rfl, by decide +kernel⟩, tw1141⟩
theorem tw1143 : Cond.methodLink RX5 59 yX5_readSamples ∈ tb := tc5 (i := 63) (by decide +kernel) rfl
set_option maxRecDepth 20000 in
theorem tw1146 : Cond.code yX5_readSamples cX5_readSamples 9 none ∈ tb := tc5 (i := 66) rfl rfl
theorem tw1145 : Cond.instanceMethod yX5_readSamples ∈ tb := tc5 (i := 65) (by decide +kernel) rfl
theorem tw48 : Cond.selects RX5 yX5_readSamples yX5_readSamples ∈ tb := tb_of 48 (by decide +kernel) rfl
theorem cvX5_59 : cOK RX5 59 mX5_readSamples 2 ∧ Cond.instanceMethod mX5_readSamples.1 ∈ tb ∧ ∃ (Cn : String) (T : u_T) (N : Nat), vwCl[4]? = some (Cn, T, N) ∧ Cond.selects Cn mX5_readSamples.1 mX5_readSamples.1 ∈ tb := ⟨⟨tw1143, tw128, tw1146, rfl, by decide +kernel⟩, tw1145, RX5, TX5, 4, rfl, tw48⟩
theorem tw1147 : Cond.methodLink RX5 117 yX5_readSample ∈ tb := tc5 (i := 67) (by decide +kernel) rfl
set_option maxRecDepth 20000 in
theorem tw1150 : Cond.code yX5_readSample cX5_readSample 4 (some .int) ∈ tb := tc5 (i := 70) rfl rfl
theorem tw1149 : Cond.instanceMethod yX5_readSample ∈ tb := tc5 (i := 69) (by decide +kernel) rfl
theorem tw49 : Cond.selects RX5 yX5_readSample yX5_readSample ∈ tb := tb_of 49 (by decide +kernel) rfl
theorem cvX5_117 : cOK RX5 117 mX5_readSample 1 ∧ Cond.instanceMethod mX5_readSample.1 ∈ tb ∧ ∃ (Cn : String) (T : u_T) (N : Nat), vwCl[4]? = some (Cn, T, N) ∧ Cond.selects Cn mX5_readSample.1 mX5_readSample.1 ∈ tb := ⟨⟨tw1147, tw128, tw1150, rfl, by decide +kernel⟩, tw1149, RX5, TX5, 4, rfl, tw49⟩
theorem csX5_120 : cnOK RX5 120 "RasterMint" mX10_pixelOf 4 ∧ Cond.static mX10_pixelOf.1 ∈ tb := ⟨⟨tl5 (List.mem_of_getElem? (i := 71) (by decide +kernel)), tw121, tw983, rfl, by decide +kernel⟩, tw982⟩
theorem tw1152 : Cond.methodLink RX5 65 yX8_wantEnd ∈ tb := tc5 (i := 72) (by decide +kernel) rfl
theorem cvX5_65 : cOK RX5 65 mX8_wantEnd 0 ∧ Cond.instanceMethod mX8_wantEnd.1 ∈ tb ∧ ∃ (Cn : String) (T : u_T) (N : Nat), vwCl[7]? = some (Cn, T, N) ∧ Cond.selects Cn mX8_wantEnd.1 mX8_wantEnd.1 ∈ tb := ⟨⟨tw1152, tw124, tw1040, rfl, by decide +kernel⟩, tw1038, RX8, TX8, 5, rfl, tw1039⟩
theorem tw1156 : Cond.methodLink RX6 15 yX8_want ∈ tb := tc5 (i := 76) (by decide +kernel) rfl
theorem cvX6_15 : cOK RX6 15 mX8_want 1 ∧ Cond.instanceMethod mX8_want.1 ∈ tb ∧ ∃ (Cn : String) (T : u_T) (N : Nat), vwCl[7]? = some (Cn, T, N) ∧ Cond.selects Cn mX8_want.1 mX8_want.1 ∈ tb := ⟨⟨tw1156, tw124, tw854, rfl, by decide +kernel⟩, tw852, RX8, TX8, 5, rfl, tw853⟩
theorem tw1157 : Cond.methodLink RX6 21 yX6_readSide ∈ tb := tc5 (i := 77) (by decide +kernel) rfl
set_option maxRecDepth 20000 in
theorem tw1159 : Cond.code yX6_readSide cX6_readSide 4 (some .long) ∈ tb := tc5 (i := 79) rfl rfl
theorem tw1158 : Cond.static yX6_readSide ∈ tb := tc5 (i := 78) (by decide +kernel) rfl
theorem csX6_21 : cOK RX6 21 mX6_readSide 1 ∧ Cond.static mX6_readSide.1 ∈ tb := ⟨⟨tw1157, tw127, tw1159, rfl, by decide +kernel⟩, tw1158⟩
theorem tw1160 : Cond.methodLink RX6 53 yX8_high4 ∈ tb := tc5 (i := 80) (by decide +kernel) rfl
set_option maxRecDepth 20000 in
theorem tw1163 : Cond.code yX8_high4 cX8_high4 3 (some .int) ∈ tb := tc5 (i := 83) rfl rfl
theorem tw1161 : Cond.instanceMethod yX8_high4 ∈ tb := tc5 (i := 81) (by decide +kernel) rfl
theorem tw1162 : Cond.selects RX8 yX8_high4 yX8_high4 ∈ tb := tc5 (i := 82) (by decide +kernel) rfl
theorem cvX6_53 : cOK RX6 53 mX8_high4 0 ∧ Cond.instanceMethod mX8_high4.1 ∈ tb ∧ ∃ (Cn : String) (T : u_T) (N : Nat), vwCl[7]? = some (Cn, T, N) ∧ Cond.selects Cn mX8_high4.1 mX8_high4.1 ∈ tb := ⟨⟨tw1160, tw124, tw1163, rfl, by decide +kernel⟩, tw1161, RX8, TX8, 5, rfl, tw1162⟩
theorem tw1165 : Cond.methodLink RX6 59 yX8_refuse ∈ tb := tc5 (i := 85) (by decide +kernel) rfl
theorem cvX6_59 : cOK RX6 59 mX8_refuse 2 ∧ Cond.instanceMethod mX8_refuse.1 ∈ tb ∧ ∃ (Cn : String) (T : u_T) (N : Nat), vwCl[7]? = some (Cn, T, N) ∧ Cond.selects Cn mX8_refuse.1 mX8_refuse.1 ∈ tb := ⟨⟨tw1165, tw124, tw930, rfl, by decide +kernel⟩, tw928, RX8, TX8, 5, rfl, tw929⟩
theorem tw1166 : Cond.methodLink RX6 29 yX8_lay ∈ tb := tc5 (i := 86) (by decide +kernel) rfl
theorem cvX6_29 : cOK RX6 29 mX8_lay 4 ∧ Cond.instanceMethod mX8_lay.1 ∈ tb ∧ ∃ (Cn : String) (T : u_T) (N : Nat), vwCl[7]? = some (Cn, T, N) ∧ Cond.selects Cn mX8_lay.1 mX8_lay.1 ∈ tb := ⟨⟨tw1166, tw124, tw953, rfl, by decide +kernel⟩, tw951, RX8, TX8, 5, rfl, tw952⟩
theorem tw1167 : Cond.methodLink RX6 33 yX6_readChoice ∈ tb := tc5 (i := 87) (by decide +kernel) rfl
set_option maxRecDepth 20000 in
theorem tw1169 : Cond.code yX6_readChoice cX6_readChoice 5 (some .int) ∈ tb := tc5 (i := 89) rfl rfl
theorem tw1168 : Cond.static yX6_readChoice ∈ tb := tc5 (i := 88) (by decide +kernel) rfl
theorem csX6_33 : cOK RX6 33 mX6_readChoice 3 ∧ Cond.static mX6_readChoice.1 ∈ tb := ⟨⟨tw1167, tw127, tw1169, rfl, by decide +kernel⟩, tw1168⟩
theorem tw1170 : Cond.methodLink RX6 63 yX8_next ∈ tb := tc5 (i := 90) (by decide +kernel) rfl
theorem cvX6_63 : cOK RX6 63 mX8_next 0 ∧ Cond.instanceMethod mX8_next.1 ∈ tb ∧ ∃ (Cn : String) (T : u_T) (N : Nat), vwCl[7]? = some (Cn, T, N) ∧ Cond.selects Cn mX8_next.1 mX8_next.1 ∈ tb := ⟨⟨tw1170, tw124, tw858, rfl, by decide +kernel⟩, tw856, RX8, TX8, 5, rfl, tw857⟩
theorem tw1171 : Cond.methodLink RX6 43 yX6_readChunks ∈ tb := tc5 (i := 91) (by decide +kernel) rfl
set_option maxRecDepth 20000 in
theorem tw1174 : Cond.code yX6_readChunks cX6_readChunks 11 (some .int) ∈ tb := tc5 (i := 94) rfl rfl
theorem tw1173 : Cond.instanceMethod yX6_readChunks ∈ tb := tc5 (i := 93) (by decide +kernel) rfl
theorem tw50 : Cond.selects RX6 yX6_readChunks yX6_readChunks ∈ tb := tb_of 50 (by decide +kernel) rfl
theorem cvX6_43 : cOK RX6 43 mX6_readChunks 2 ∧ Cond.instanceMethod mX6_readChunks.1 ∈ tb ∧ ∃ (Cn : String) (T : u_T) (N : Nat), vwCl[5]? = some (Cn, T, N) ∧ Cond.selects Cn mX6_readChunks.1 mX6_readChunks.1 ∈ tb := ⟨⟨tw1171, tw127, tw1174, rfl, by decide +kernel⟩, tw1173, RX6, TX6, 5, rfl, tw50⟩
theorem tw1175 : Cond.methodLink RX6 74 yX6_readPixel ∈ tb := tc5 (i := 95) (by decide +kernel) rfl
set_option maxRecDepth 20000 in
theorem tw1178 : Cond.code yX6_readPixel cX6_readPixel 6 (some .int) ∈ tb := tc5 (i := 98) rfl rfl
theorem tw1177 : Cond.instanceMethod yX6_readPixel ∈ tb := tc5 (i := 97) (by decide +kernel) rfl
theorem tw51 : Cond.selects RX6 yX6_readPixel yX6_readPixel ∈ tb := tb_of 51 (by decide +kernel) rfl
theorem cvX6_74 : cOK RX6 74 mX6_readPixel 2 ∧ Cond.instanceMethod mX6_readPixel.1 ∈ tb ∧ ∃ (Cn : String) (T : u_T) (N : Nat), vwCl[5]? = some (Cn, T, N) ∧ Cond.selects Cn mX6_readPixel.1 mX6_readPixel.1 ∈ tb := ⟨⟨tw1175, tw127, tw1178, rfl, by decide +kernel⟩, tw1177, RX6, TX6, 5, rfl, tw51⟩
theorem tw1179 : Cond.methodLink RX6 87 yX6_moved ∈ tb := tc5 (i := 99) (by decide +kernel) rfl
set_option maxRecDepth 20000 in
theorem tw1182 : Cond.code yX6_moved cX6_moved 4 (some .int) ∈ tb := tc5 (i := 102) rfl rfl
theorem tw1181 : Cond.instanceMethod yX6_moved ∈ tb := tc5 (i := 101) (by decide +kernel) rfl
theorem tw52 : Cond.selects RX6 yX6_moved yX6_moved ∈ tb := tb_of 52 (by decide +kernel) rfl
theorem cvX6_87 : cOK RX6 87 mX6_moved 3 ∧ Cond.instanceMethod mX6_moved.1 ∈ tb ∧ ∃ (Cn : String) (T : u_T) (N : Nat), vwCl[5]? = some (Cn, T, N) ∧ Cond.selects Cn mX6_moved.1 mX6_moved.1 ∈ tb := ⟨⟨tw1179, tw127, tw1182, rfl, by decide +kernel⟩, tw1181, RX6, TX6, 5, rfl, tw52⟩
theorem csX6_95 : cnOK RX6 95 "RasterMint" mX10_pixelOf 4 ∧ Cond.static mX10_pixelOf.1 ∈ tb := ⟨⟨tl5 (List.mem_of_getElem? (i := 103) (by decide +kernel)), tw121, tw983, rfl, by decide +kernel⟩, tw982⟩
theorem tw1184 : Cond.methodLink RX6 81 yX7_set ∈ tb := tc5 (i := 104) (by decide +kernel) rfl
theorem cvX6_81 : cOK RX6 81 mX7_set 2 ∧ Cond.instanceMethod mX7_set.1 ∈ tb ∧ ∃ (Cn : String) (T : u_T) (N : Nat), vwCl[6]? = some (Cn, T, N) ∧ Cond.selects Cn mX7_set.1 mX7_set.1 ∈ tb := ⟨⟨tw1184, tw122, tw807, rfl, by decide +kernel⟩, tw805, RX7, TX7, 3, rfl, tw806⟩
theorem tw1185 : Cond.methodLink RX6 50 yX8_wantEnd ∈ tb := tc5 (i := 105) (by decide +kernel) rfl
theorem cvX6_50 : cOK RX6 50 mX8_wantEnd 0 ∧ Cond.instanceMethod mX8_wantEnd.1 ∈ tb ∧ ∃ (Cn : String) (T : u_T) (N : Nat), vwCl[7]? = some (Cn, T, N) ∧ Cond.selects Cn mX8_wantEnd.1 mX8_wantEnd.1 ∈ tb := ⟨⟨tw1185, tw124, tw1040, rfl, by decide +kernel⟩, tw1038, RX8, TX8, 5, rfl, tw1039⟩
theorem tw1189 : Cond.methodLink RX9 19 yX8_next ∈ tb := tc5 (i := 109) (by decide +kernel) rfl
theorem cvX9_19 : cOK RX9 19 mX8_next 0 ∧ Cond.instanceMethod mX8_next.1 ∈ tb ∧ ∃ (Cn : String) (T : u_T) (N : Nat), vwCl[7]? = some (Cn, T, N) ∧ Cond.selects Cn mX8_next.1 mX8_next.1 ∈ tb := ⟨⟨tw1189, tw124, tw858, rfl, by decide +kernel⟩, tw856, RX8, TX8, 5, rfl, tw857⟩
theorem tw1190 : Cond.methodLink RX9 25 yX9_readTypes ∈ tb := tc5 (i := 110) (by decide +kernel) rfl
set_option maxRecDepth 20000 in
theorem tw1193 : Cond.code yX9_readTypes cX9_readTypes 4 none ∈ tb := tc5 (i := 113) rfl rfl
theorem tw1192 : Cond.instanceMethod yX9_readTypes ∈ tb := tc5 (i := 112) (by decide +kernel) rfl
theorem tw53 : Cond.selects RX9 yX9_readTypes yX9_readTypes ∈ tb := tb_of 53 (by decide +kernel) rfl
theorem cvX9_25 : cOK RX9 25 mX9_readTypes 1 ∧ Cond.instanceMethod mX9_readTypes.1 ∈ tb ∧ ∃ (Cn : String) (T : u_T) (N : Nat), vwCl[8]? = some (Cn, T, N) ∧ Cond.selects Cn mX9_readTypes.1 mX9_readTypes.1 ∈ tb := ⟨⟨tw1190, tw130, tw1193, rfl, by decide +kernel⟩, tw1192, RX9, TX9, 17, rfl, tw53⟩
theorem tw1194 : Cond.methodLink RX9 80 yX8_refuse ∈ tb := tc5 (i := 114) (by decide +kernel) rfl
theorem cvX9_80 : cOK RX9 80 mX8_refuse 2 ∧ Cond.instanceMethod mX8_refuse.1 ∈ tb ∧ ∃ (Cn : String) (T : u_T) (N : Nat), vwCl[7]? = some (Cn, T, N) ∧ Cond.selects Cn mX8_refuse.1 mX8_refuse.1 ∈ tb := ⟨⟨tw1194, tw124, tw930, rfl, by decide +kernel⟩, tw928, RX8, TX8, 5, rfl, tw929⟩
theorem tw1195 : Cond.methodLink RX9 29 yX9_readMapHeader ∈ tb := tc5 (i := 115) (by decide +kernel) rfl
set_option maxRecDepth 20000 in
theorem tw1198 : Cond.code yX9_readMapHeader cX9_readMapHeader 4 none ∈ tb := tc5 (i := 118) rfl rfl
theorem tw1197 : Cond.instanceMethod yX9_readMapHeader ∈ tb := tc5 (i := 117) (by decide +kernel) rfl
theorem tw54 : Cond.selects RX9 yX9_readMapHeader yX9_readMapHeader ∈ tb := tb_of 54 (by decide +kernel) rfl
theorem cvX9_29 : cOK RX9 29 mX9_readMapHeader 1 ∧ Cond.instanceMethod mX9_readMapHeader.1 ∈ tb ∧ ∃ (Cn : String) (T : u_T) (N : Nat), vwCl[8]? = some (Cn, T, N) ∧ Cond.selects Cn mX9_readMapHeader.1 mX9_readMapHeader.1 ∈ tb := ⟨⟨tw1195, tw130, tw1198, rfl, by decide +kernel⟩, tw1197, RX9, TX9, 17, rfl, tw54⟩
theorem tw1199 : Cond.methodLink RX9 88 yX8_low2 ∈ tb := tc5 (i := 119) (by decide +kernel) rfl
theorem cvX9_88 : cOK RX9 88 mX8_low2 0 ∧ Cond.instanceMethod mX8_low2.1 ∈ tb ∧ ∃ (Cn : String) (T : u_T) (N : Nat), vwCl[7]? = some (Cn, T, N) ∧ Cond.selects Cn mX8_low2.1 mX8_low2.1 ∈ tb := ⟨⟨tw1199, tw124, tw943, rfl, by decide +kernel⟩, tw941, RX8, TX8, 5, rfl, tw942⟩
theorem tw1200 : Cond.methodLink RX9 32 yX8_pass ∈ tb := tc5 (i := 120) (by decide +kernel) rfl
theorem cvX9_32 : cOK RX9 32 mX8_pass 1 ∧ Cond.instanceMethod mX8_pass.1 ∈ tb ∧ ∃ (Cn : String) (T : u_T) (N : Nat), vwCl[7]? = some (Cn, T, N) ∧ Cond.selects Cn mX8_pass.1 mX8_pass.1 ∈ tb := ⟨⟨tw1200, tw124, tw963, rfl, by decide +kernel⟩, tw961, RX8, TX8, 5, rfl, tw962⟩
theorem tw1201 : Cond.methodLink RX9 36 yX9_readSize ∈ tb := tc5 (i := 121) (by decide +kernel) rfl
set_option maxRecDepth 20000 in
theorem tw1203 : Cond.code yX9_readSize cX9_readSize 5 none ∈ tb := tc5 (i := 123) rfl rfl
theorem tw1202 : Cond.static yX9_readSize ∈ tb := tc5 (i := 122) (by decide +kernel) rfl
theorem csX9_36 : cOK RX9 36 mX9_readSize 2 ∧ Cond.static mX9_readSize.1 ∈ tb := ⟨⟨tw1201, tw130, tw1203, rfl, by decide +kernel⟩, tw1202⟩
theorem tw1204 : Cond.methodLink RX9 100 yX9_readSide ∈ tb := tc5 (i := 124) (by decide +kernel) rfl
set_option maxRecDepth 20000 in
theorem tw1206 : Cond.code yX9_readSide cX9_readSide 3 (some .int) ∈ tb := tc5 (i := 126) rfl rfl
theorem tw1205 : Cond.static yX9_readSide ∈ tb := tc5 (i := 125) (by decide +kernel) rfl
theorem csX9_100 : cOK RX9 100 mX9_readSide 1 ∧ Cond.static mX9_readSide.1 ∈ tb := ⟨⟨tw1204, tw130, tw1206, rfl, by decide +kernel⟩, tw1205⟩
theorem tw1207 : Cond.methodLink RX9 104 yX8_lay ∈ tb := tc5 (i := 127) (by decide +kernel) rfl
theorem cvX9_104 : cOK RX9 104 mX8_lay 4 ∧ Cond.instanceMethod mX8_lay.1 ∈ tb ∧ ∃ (Cn : String) (T : u_T) (N : Nat), vwCl[7]? = some (Cn, T, N) ∧ Cond.selects Cn mX8_lay.1 mX8_lay.1 ∈ tb := ⟨⟨tw1207, tw124, tw953, rfl, by decide +kernel⟩, tw951, RX8, TX8, 5, rfl, tw952⟩
theorem tw1208 : Cond.methodLink RX9 40 yX9_readBits ∈ tb := tc5 (i := 128) (by decide +kernel) rfl
set_option maxRecDepth 20000 in
theorem tw1211 : Cond.code yX9_readBits cX9_readBits 5 none ∈ tb := tc5 (i := 131) rfl rfl
theorem tw1210 : Cond.instanceMethod yX9_readBits ∈ tb := tc5 (i := 130) (by decide +kernel) rfl
theorem tw55 : Cond.selects RX9 yX9_readBits yX9_readBits ∈ tb := tb_of 55 (by decide +kernel) rfl
theorem cvX9_40 : cOK RX9 40 mX9_readBits 1 ∧ Cond.instanceMethod mX9_readBits.1 ∈ tb ∧ ∃ (Cn : String) (T : u_T) (N : Nat), vwCl[8]? = some (Cn, T, N) ∧ Cond.selects Cn mX9_readBits.1 mX9_readBits.1 ∈ tb := ⟨⟨tw1208, tw130, tw1211, rfl, by decide +kernel⟩, tw1210, RX9, TX9, 17, rfl, tw55⟩
theorem tw1212 : Cond.methodLink RX9 43 yX9_readFlags ∈ tb := tc5 (i := 132) (by decide +kernel) rfl
set_option maxRecDepth 20000 in
theorem tw1215 : Cond.code yX9_readFlags cX9_readFlags 5 none ∈ tb := tc5 (i := 135) rfl rfl
theorem tw1214 : Cond.instanceMethod yX9_readFlags ∈ tb := tc5 (i := 134) (by decide +kernel) rfl
theorem tw56 : Cond.selects RX9 yX9_readFlags yX9_readFlags ∈ tb := tb_of 56 (by decide +kernel) rfl
theorem cvX9_43 : cOK RX9 43 mX9_readFlags 1 ∧ Cond.instanceMethod mX9_readFlags.1 ∈ tb ∧ ∃ (Cn : String) (T : u_T) (N : Nat), vwCl[8]? = some (Cn, T, N) ∧ Cond.selects Cn mX9_readFlags.1 mX9_readFlags.1 ∈ tb := ⟨⟨tw1212, tw130, tw1215, rfl, by decide +kernel⟩, tw1214, RX9, TX9, 17, rfl, tw56⟩
theorem tw1216 : Cond.methodLink RX9 46 yX9_readEntries ∈ tb := tc5 (i := 136) (by decide +kernel) rfl
set_option maxRecDepth 20000 in
theorem tw1219 : Cond.code yX9_readEntries cX9_readEntries 4 none ∈ tb := tc5 (i := 139) rfl rfl
theorem tw1218 : Cond.instanceMethod yX9_readEntries ∈ tb := tc5 (i := 138) (by decide +kernel) rfl
theorem tw57 : Cond.selects RX9 yX9_readEntries yX9_readEntries ∈ tb := tb_of 57 (by decide +kernel) rfl
theorem cvX9_46 : cOK RX9 46 mX9_readEntries 1 ∧ Cond.instanceMethod mX9_readEntries.1 ∈ tb ∧ ∃ (Cn : String) (T : u_T) (N : Nat), vwCl[8]? = some (Cn, T, N) ∧ Cond.selects Cn mX9_readEntries.1 mX9_readEntries.1 ∈ tb := ⟨⟨tw1216, tw130, tw1219, rfl, by decide +kernel⟩, tw1218, RX9, TX9, 17, rfl, tw57⟩
theorem tw1220 : Cond.methodLink RX9 114 yX9_readColour ∈ tb := tc5 (i := 140) (by decide +kernel) rfl
set_option maxRecDepth 20000 in
theorem tw1223 : Cond.code yX9_readColour cX9_readColour 7 (some .int) ∈ tb := tc5 (i := 143) rfl rfl
theorem tw1222 : Cond.instanceMethod yX9_readColour ∈ tb := tc5 (i := 142) (by decide +kernel) rfl
theorem tw58 : Cond.selects RX9 yX9_readColour yX9_readColour ∈ tb := tb_of 58 (by decide +kernel) rfl
theorem cvX9_114 : cOK RX9 114 mX9_readColour 2 ∧ Cond.instanceMethod mX9_readColour.1 ∈ tb ∧ ∃ (Cn : String) (T : u_T) (N : Nat), vwCl[8]? = some (Cn, T, N) ∧ Cond.selects Cn mX9_readColour.1 mX9_readColour.1 ∈ tb := ⟨⟨tw1220, tw130, tw1223, rfl, by decide +kernel⟩, tw1222, RX9, TX9, 17, rfl, tw58⟩
set_option maxRecDepth 20000 in
theorem tw1226 : Cond.code yX10_grayOf cX10_grayOf 1 (some .int) ∈ tb := tc5 (i := 146) rfl rfl
theorem tw1225 : Cond.static yX10_grayOf ∈ tb := tc5 (i := 145) (by decide +kernel) rfl
theorem csX9_148 : cnOK RX9 148 "RasterMint" mX10_grayOf 1 ∧ Cond.static mX10_grayOf.1 ∈ tb := ⟨⟨tl5 (List.mem_of_getElem? (i := 144) (by decide +kernel)), tw121, tw1226, rfl, by decide +kernel⟩, tw1225⟩
theorem csX9_152 : cnOK RX9 152 "RasterMint" mX10_ofSixteenBits 2 ∧ Cond.static mX10_ofSixteenBits.1 ∈ tb := ⟨⟨tl5 (List.mem_of_getElem? (i := 147) (by decide +kernel)), tw121, tw1002, rfl, by decide +kernel⟩, tw1001⟩
theorem csX9_155 : cnOK RX9 155 "RasterMint" mX10_pixelOf 4 ∧ Cond.static mX10_pixelOf.1 ∈ tb := ⟨⟨tl5 (List.mem_of_getElem? (i := 148) (by decide +kernel)), tw121, tw983, rfl, by decide +kernel⟩, tw982⟩
theorem tw1229 : Cond.methodLink RX9 49 yX9_readPixels ∈ tb := tc5 (i := 149) (by decide +kernel) rfl
set_option maxRecDepth 20000 in
theorem tw1232 : Cond.code yX9_readPixels cX9_readPixels 8 none ∈ tb := tc5 (i := 152) rfl rfl
theorem tw1231 : Cond.instanceMethod yX9_readPixels ∈ tb := tc5 (i := 151) (by decide +kernel) rfl
theorem tw59 : Cond.selects RX9 yX9_readPixels yX9_readPixels ∈ tb := tb_of 59 (by decide +kernel) rfl
theorem cvX9_49 : cOK RX9 49 mX9_readPixels 2 ∧ Cond.instanceMethod mX9_readPixels.1 ∈ tb ∧ ∃ (Cn : String) (T : u_T) (N : Nat), vwCl[8]? = some (Cn, T, N) ∧ Cond.selects Cn mX9_readPixels.1 mX9_readPixels.1 ∈ tb := ⟨⟨tw1229, tw130, tw1232, rfl, by decide +kernel⟩, tw1231, RX9, TX9, 17, rfl, tw59⟩
theorem tw1233 : Cond.methodLink RX9 129 yX9_readPacketHead ∈ tb := tc5 (i := 153) (by decide +kernel) rfl
set_option maxRecDepth 20000 in
theorem tw1236 : Cond.code yX9_readPacketHead cX9_readPacketHead 5 none ∈ tb := tc5 (i := 156) rfl rfl
theorem tw1235 : Cond.instanceMethod yX9_readPacketHead ∈ tb := tc5 (i := 155) (by decide +kernel) rfl
theorem tw60 : Cond.selects RX9 yX9_readPacketHead yX9_readPacketHead ∈ tb := tb_of 60 (by decide +kernel) rfl
theorem cvX9_129 : cOK RX9 129 mX9_readPacketHead 2 ∧ Cond.instanceMethod mX9_readPacketHead.1 ∈ tb ∧ ∃ (Cn : String) (T : u_T) (N : Nat), vwCl[8]? = some (Cn, T, N) ∧ Cond.selects Cn mX9_readPacketHead.1 mX9_readPacketHead.1 ∈ tb := ⟨⟨tw1233, tw130, tw1236, rfl, by decide +kernel⟩, tw1235, RX9, TX9, 17, rfl, tw60⟩
theorem tw1237 : Cond.methodLink RX9 136 yX9_readPixel ∈ tb := tc5 (i := 157) (by decide +kernel) rfl
set_option maxRecDepth 20000 in
theorem tw1240 : Cond.code yX9_readPixel cX9_readPixel 4 (some .int) ∈ tb := tc5 (i := 160) rfl rfl
theorem tw1239 : Cond.instanceMethod yX9_readPixel ∈ tb := tc5 (i := 159) (by decide +kernel) rfl
theorem tw61 : Cond.selects RX9 yX9_readPixel yX9_readPixel ∈ tb := tb_of 61 (by decide +kernel) rfl
theorem cvX9_136 : cOK RX9 136 mX9_readPixel 1 ∧ Cond.instanceMethod mX9_readPixel.1 ∈ tb ∧ ∃ (Cn : String) (T : u_T) (N : Nat), vwCl[8]? = some (Cn, T, N) ∧ Cond.selects Cn mX9_readPixel.1 mX9_readPixel.1 ∈ tb := ⟨⟨tw1237, tw130, tw1240, rfl, by decide +kernel⟩, tw1239, RX9, TX9, 17, rfl, tw61⟩
theorem tw1241 : Cond.methodLink RX9 139 yJ9_max_7cf53 ∈ tb := tc5 (i := 161) (by decide +kernel) rfl
theorem csX9_139 : cOK RX9 139 mJ9_max_7cf53 2 ∧ Cond.static mJ9_max_7cf53.1 ∈ tb := ⟨⟨tw1241, tw141, tw634, rfl, by decide +kernel⟩, tw633⟩
theorem tw1242 : Cond.methodLink RX9 145 yX7_set ∈ tb := tc5 (i := 162) (by decide +kernel) rfl
theorem cvX9_145 : cOK RX9 145 mX7_set 2 ∧ Cond.instanceMethod mX7_set.1 ∈ tb ∧ ∃ (Cn : String) (T : u_T) (N : Nat), vwCl[6]? = some (Cn, T, N) ∧ Cond.selects Cn mX7_set.1 mX7_set.1 ∈ tb := ⟨⟨tw1242, tw122, tw807, rfl, by decide +kernel⟩, tw805, RX7, TX7, 3, rfl, tw806⟩
theorem tw1243 : Cond.methodLink RX9 52 yX9_readFooter ∈ tb := tc5 (i := 163) (by decide +kernel) rfl
set_option maxRecDepth 20000 in
theorem tw1245 : Cond.code yX9_readFooter cX9_readFooter 6 none ∈ tb := tc5 (i := 165) rfl rfl
theorem tw1244 : Cond.static yX9_readFooter ∈ tb := tc5 (i := 164) (by decide +kernel) rfl
theorem csX9_52 : cOK RX9 52 mX9_readFooter 1 ∧ Cond.static mX9_readFooter.1 ∈ tb := ⟨⟨tw1243, tw130, tw1245, rfl, by decide +kernel⟩, tw1244⟩
theorem tw1247 : Cond.methodLink RX9 164 yJ0_length_8abf5 ∈ tb := tc5 (i := 167) (by decide +kernel) rfl
theorem tw142 : Cond.initialized RJ0 ∈ tb := tc1 (i := 22) (by decide +kernel) rfl
set_option maxRecDepth 20000 in
theorem tw1250 : Cond.code yJ0_length_8abf5 cJ0_length_8abf5 1 (some .int) ∈ tb := tc5 (i := 170) rfl rfl
theorem tw1251 : Cond.methodLink RJ0 335 yJ0_coder_7d493 ∈ tb := tc5 (i := 171) (by decide +kernel) rfl
set_option maxRecDepth 20000 in
theorem tw1254 : Cond.code yJ0_coder_7d493 cJ0_coder_7d493 1 (some .byte) ∈ tb := tc5 (i := 174) rfl rfl
theorem tw1257 : Cond.methodLink RX9 169 yJ0_charAt_5068e ∈ tb := tc5 (i := 177) (by decide +kernel) rfl
set_option maxRecDepth 20000 in
theorem tw1260 : Cond.code yJ0_charAt_5068e cJ0_charAt_5068e 2 (some .char) ∈ tb := tc5 (i := 180) rfl rfl
theorem tw1261 : Cond.methodLink RJ0 492 yJ0_isLatin1_aae02 ∈ tb := tc5 (i := 181) (by decide +kernel) rfl
set_option maxRecDepth 20000 in
theorem tw1264 : Cond.code yJ0_isLatin1_aae02 cJ0_isLatin1_aae02 1 (some .boolean) ∈ tb := tc5 (i := 184) rfl rfl
theorem tw1265 : Cond.methodLink RJ0 495 yJ1_charAt_3b067 ∈ tb := tc5 (i := 185) (by decide +kernel) rfl
theorem tw143 : Cond.initialized RJ1 ∈ tb := tc1 (i := 23) (by decide +kernel) rfl
set_option maxRecDepth 20000 in
theorem tw1267 : Cond.code yJ1_charAt_3b067 cJ1_charAt_3b067 2 (some .char) ∈ tb := tc5 (i := 187) rfl rfl
theorem tw1266 : Cond.static yJ1_charAt_3b067 ∈ tb := tc5 (i := 186) (by decide +kernel) rfl
theorem csJ0_495 : cOK RJ0 495 mJ1_charAt_3b067 2 ∧ Cond.static mJ1_charAt_3b067.1 ∈ tb := ⟨⟨tw1265, tw143, tw1267, rfl, by decide +kernel⟩, tw1266⟩
theorem tw1268 : Cond.methodLink RJ1 9 yJ0_checkIndex_df160 ∈ tb := tc5 (i := 188) (by decide +kernel) rfl
set_option maxRecDepth 20000 in
theorem tw1270 : Cond.code yJ0_checkIndex_df160 cJ0_checkIndex_df160 2 none ∈ tb := tc5 (i := 190) rfl rfl
theorem tw1269 : Cond.static yJ0_checkIndex_df160 ∈ tb := tc5 (i := 189) (by decide +kernel) rfl
theorem csJ1_9 : cOK RJ1 9 mJ0_checkIndex_df160 2 ∧ Cond.static mJ0_checkIndex_df160.1 ∈ tb := ⟨⟨tw1268, tw142, tw1270, rfl, by decide +kernel⟩, tw1269⟩
theorem tw1273 : Cond.methodLink RJ0 1059 yJ3_checkIndex_8e157 ∈ tb := tc5 (i := 193) (by decide +kernel) rfl
theorem tw144 : Cond.initialized RJ3 ∈ tb := tc1 (i := 24) (by decide +kernel) rfl
set_option maxRecDepth 20000 in
theorem tw1275 : Cond.code yJ3_checkIndex_8e157 cJ3_checkIndex_8e157 3 (some .int) ∈ tb := tc5 (i := 195) rfl rfl
theorem tw1274 : Cond.static yJ3_checkIndex_8e157 ∈ tb := tc5 (i := 194) (by decide +kernel) rfl
theorem csJ0_1059 : cOK RJ0 1059 mJ3_checkIndex_8e157 3 ∧ Cond.static mJ3_checkIndex_8e157.1 ∈ tb := ⟨⟨tw1273, tw144, tw1275, rfl, by decide +kernel⟩, tw1274⟩
theorem tw1276 : Cond.methodLink RJ0 498 yJ2_charAt_3b067 ∈ tb := tc5 (i := 196) (by decide +kernel) rfl
theorem tw145 : Cond.initialized RJ2 ∈ tb := tc1 (i := 25) (by decide +kernel) rfl
set_option maxRecDepth 20000 in
theorem tw1278 : Cond.code yJ2_charAt_3b067 cJ2_charAt_3b067 2 (some .char) ∈ tb := tc5 (i := 198) rfl rfl
theorem tw1277 : Cond.static yJ2_charAt_3b067 ∈ tb := tc5 (i := 197) (by decide +kernel) rfl
theorem csJ0_498 : cOK RJ0 498 mJ2_charAt_3b067 2 ∧ Cond.static mJ2_charAt_3b067.1 ∈ tb := ⟨⟨tw1276, tw145, tw1278, rfl, by decide +kernel⟩, tw1277⟩
theorem tw1279 : Cond.methodLink RJ2 67 yJ2_checkIndex_2214a ∈ tb := tc5 (i := 199) (by decide +kernel) rfl
set_option maxRecDepth 20000 in
theorem tw1281 : Cond.code yJ2_checkIndex_2214a cJ2_checkIndex_2214a 2 none ∈ tb := tc5 (i := 201) rfl rfl
theorem tw1280 : Cond.static yJ2_checkIndex_2214a ∈ tb := tc5 (i := 200) (by decide +kernel) rfl
theorem csJ2_67 : cOK RJ2 67 mJ2_checkIndex_2214a 2 ∧ Cond.static mJ2_checkIndex_2214a.1 ∈ tb := ⟨⟨tw1279, tw145, tw1281, rfl, by decide +kernel⟩, tw1280⟩
theorem tw1282 : Cond.methodLink RJ2 48 yJ2_length_9d52b ∈ tb := tc5 (i := 202) (by decide +kernel) rfl
set_option maxRecDepth 20000 in
theorem tw1284 : Cond.code yJ2_length_9d52b cJ2_length_9d52b 1 (some .int) ∈ tb := tc5 (i := 204) rfl rfl
theorem tw1283 : Cond.static yJ2_length_9d52b ∈ tb := tc5 (i := 203) (by decide +kernel) rfl
theorem csJ2_48 : cOK RJ2 48 mJ2_length_9d52b 1 ∧ Cond.static mJ2_length_9d52b.1 ∈ tb := ⟨⟨tw1282, tw145, tw1284, rfl, by decide +kernel⟩, tw1283⟩
theorem tw1285 : Cond.methodLink RJ2 414 yJ0_checkIndex_df160 ∈ tb := tc5 (i := 205) (by decide +kernel) rfl
theorem csJ2_414 : cOK RJ2 414 mJ0_checkIndex_df160 2 ∧ Cond.static mJ0_checkIndex_df160.1 ∈ tb := ⟨⟨tw1285, tw142, tw1270, rfl, by decide +kernel⟩, tw1269⟩
theorem tw1286 : Cond.methodLink RJ2 71 yJ2_getChar_3b067 ∈ tb := tc5 (i := 206) (by decide +kernel) rfl
set_option maxRecDepth 20000 in
theorem tw1288 : Cond.code yJ2_getChar_3b067 cJ2_getChar_3b067 2 (some .char) ∈ tb := tc5 (i := 208) rfl rfl
theorem tw1287 : Cond.static yJ2_getChar_3b067 ∈ tb := tc5 (i := 207) (by decide +kernel) rfl
theorem csJ2_71 : cOK RJ2 71 mJ2_getChar_3b067 2 ∧ Cond.static mJ2_getChar_3b067.1 ∈ tb := ⟨⟨tw1286, tw145, tw1288, rfl, by decide +kernel⟩, tw1287⟩
theorem tw1300 : Cond.methodLink RL 7 yX10_read ∈ tb := tc5 (i := 220) (by decide +kernel) rfl
set_option maxRecDepth 20000 in
theorem tw1303 : Cond.code yX10_read cX10_read 4 (some .int) ∈ tb := tc5 (i := 223) rfl rfl
theorem tw1301 : Cond.instanceMethod yX10_read ∈ tb := tc5 (i := 221) (by decide +kernel) rfl
theorem tw1302 : Cond.selects RX10 yX10_read yX10_read ∈ tb := tc5 (i := 222) (by decide +kernel) rfl
theorem cvL_7 : cOK RL 7 mX10_read 2 ∧ Cond.instanceMethod mX10_read.1 ∈ tb ∧ ∃ (Cn : String) (T : u_T) (N : Nat), vwCl[9]? = some (Cn, T, N) ∧ Cond.selects Cn mX10_read.1 mX10_read.1 ∈ tb := ⟨⟨tw1300, tw121, tw1303, rfl, by decide +kernel⟩, tw1301, RX10, TX10, 9, rfl, tw1302⟩
theorem tw1339 : Cond.methodLink RL 17 yX10_bytes ∈ tb := tc6 (i := 19) (by decide +kernel) rfl
set_option maxRecDepth 20000 in
theorem tw1342 : Cond.code yX10_bytes cX10_bytes 6 (some .long) ∈ tb := tc6 (i := 22) rfl rfl
theorem tw1340 : Cond.instanceMethod yX10_bytes ∈ tb := tc6 (i := 20) (by decide +kernel) rfl
theorem tw1341 : Cond.selects RX10 yX10_bytes yX10_bytes ∈ tb := tc6 (i := 21) (by decide +kernel) rfl
theorem cvL_17 : cOK RL 17 mX10_bytes 1 ∧ Cond.instanceMethod mX10_bytes.1 ∈ tb ∧ ∃ (Cn : String) (T : u_T) (N : Nat), vwCl[9]? = some (Cn, T, N) ∧ Cond.selects Cn mX10_bytes.1 mX10_bytes.1 ∈ tb := ⟨⟨tw1339, tw121, tw1342, rfl, by decide +kernel⟩, tw1340, RX10, TX10, 9, rfl, tw1341⟩
theorem tw1348 : Cond.methodLink RL 21 yX10_dot ∈ tb := tc6 (i := 28) (by decide +kernel) rfl
set_option maxRecDepth 20000 in
theorem tw1351 : Cond.code yX10_dot cX10_dot 8 (some .int) ∈ tb := tc6 (i := 31) rfl rfl
theorem tw1349 : Cond.instanceMethod yX10_dot ∈ tb := tc6 (i := 29) (by decide +kernel) rfl
theorem tw1350 : Cond.selects RX10 yX10_dot yX10_dot ∈ tb := tc6 (i := 30) (by decide +kernel) rfl
theorem cvL_21 : cOK RL 21 mX10_dot 4 ∧ Cond.instanceMethod mX10_dot.1 ∈ tb ∧ ∃ (Cn : String) (T : u_T) (N : Nat), vwCl[9]? = some (Cn, T, N) ∧ Cond.selects Cn mX10_dot.1 mX10_dot.1 ∈ tb := ⟨⟨tw1348, tw121, tw1351, rfl, by decide +kernel⟩, tw1349, RX10, TX10, 9, rfl, tw1350⟩
theorem tw1352 : Cond.methodLink RX10 143 yX10_spot ∈ tb := tc6 (i := 32) (by decide +kernel) rfl
set_option maxRecDepth 20000 in
theorem tw1355 : Cond.code yX10_spot cX10_spot 5 (some .int) ∈ tb := tc6 (i := 35) rfl rfl
theorem tw1354 : Cond.instanceMethod yX10_spot ∈ tb := tc6 (i := 34) (by decide +kernel) rfl
theorem tw62 : Cond.selects RX10 yX10_spot yX10_spot ∈ tb := tb_of 62 (by decide +kernel) rfl
theorem cvX10_143 : cOK RX10 143 mX10_spot 3 ∧ Cond.instanceMethod mX10_spot.1 ∈ tb ∧ ∃ (Cn : String) (T : u_T) (N : Nat), vwCl[9]? = some (Cn, T, N) ∧ Cond.selects Cn mX10_spot.1 mX10_spot.1 ∈ tb := ⟨⟨tw1352, tw121, tw1355, rfl, by decide +kernel⟩, tw1354, RX10, TX10, 9, rfl, tw62⟩
theorem tw1373 : Cond.methodLink RX10 147 yX7_get ∈ tb := tc6 (i := 53) (by decide +kernel) rfl
theorem cvX10_147 : cOK RX10 147 mX7_get 1 ∧ Cond.instanceMethod mX7_get.1 ∈ tb ∧ ∃ (Cn : String) (T : u_T) (N : Nat), vwCl[6]? = some (Cn, T, N) ∧ Cond.selects Cn mX7_get.1 mX7_get.1 ∈ tb := ⟨⟨tw1373, tw122, tw551, rfl, by decide +kernel⟩, tw549, RX7, TX7, 3, rfl, tw550⟩
theorem tw1374 : Cond.methodLink RX10 150 yX7_set ∈ tb := tc6 (i := 54) (by decide +kernel) rfl
theorem cvX10_150 : cOK RX10 150 mX7_set 2 ∧ Cond.instanceMethod mX7_set.1 ∈ tb ∧ ∃ (Cn : String) (T : u_T) (N : Nat), vwCl[6]? = some (Cn, T, N) ∧ Cond.selects Cn mX7_set.1 mX7_set.1 ∈ tb := ⟨⟨tw1374, tw122, tw807, rfl, by decide +kernel⟩, tw805, RX7, TX7, 3, rfl, tw806⟩
theorem tw1378 : Cond.methodLink RL 27 yX10_sweep ∈ tb := tc6 (i := 58) (by decide +kernel) rfl
set_option maxRecDepth 20000 in
theorem tw1381 : Cond.code yX10_sweep cX10_sweep 11 (some .int) ∈ tb := tc6 (i := 61) rfl rfl
theorem tw1379 : Cond.instanceMethod yX10_sweep ∈ tb := tc6 (i := 59) (by decide +kernel) rfl
theorem tw1380 : Cond.selects RX10 yX10_sweep yX10_sweep ∈ tb := tc6 (i := 60) (by decide +kernel) rfl
theorem cvL_27 : cOK RL 27 mX10_sweep 6 ∧ Cond.instanceMethod mX10_sweep.1 ∈ tb ∧ ∃ (Cn : String) (T : u_T) (N : Nat), vwCl[9]? = some (Cn, T, N) ∧ Cond.selects Cn mX10_sweep.1 mX10_sweep.1 ∈ tb := ⟨⟨tw1378, tw121, tw1381, rfl, by decide +kernel⟩, tw1379, RX10, TX10, 9, rfl, tw1380⟩
theorem tw1382 : Cond.methodLink RX10 154 yJ9_max_7cf53 ∈ tb := tc6 (i := 62) (by decide +kernel) rfl
theorem csX10_154 : cOK RX10 154 mJ9_max_7cf53 2 ∧ Cond.static mJ9_max_7cf53.1 ∈ tb := ⟨⟨tw1382, tw141, tw634, rfl, by decide +kernel⟩, tw633⟩
theorem tw1383 : Cond.methodLink RX10 160 yX7_count ∈ tb := tc6 (i := 63) (by decide +kernel) rfl
theorem cvX10_160 : cOK RX10 160 mX7_count 0 ∧ Cond.instanceMethod mX7_count.1 ∈ tb ∧ ∃ (Cn : String) (T : u_T) (N : Nat), vwCl[6]? = some (Cn, T, N) ∧ Cond.selects Cn mX7_count.1 mX7_count.1 ∈ tb := ⟨⟨tw1383, tw122, tw547, rfl, by decide +kernel⟩, tw545, RX7, TX7, 3, rfl, tw546⟩
theorem tw1384 : Cond.methodLink RX10 163 yJ9_min_7cf53 ∈ tb := tc6 (i := 64) (by decide +kernel) rfl
theorem csX10_163 : cOK RX10 163 mJ9_min_7cf53 2 ∧ Cond.static mJ9_min_7cf53.1 ∈ tb := ⟨⟨tw1384, tw141, tw722, rfl, by decide +kernel⟩, tw721⟩
theorem tw1388 : Cond.methodLink RL 31 yX10_pixel ∈ tb := tc6 (i := 68) (by decide +kernel) rfl
set_option maxRecDepth 20000 in
theorem tw1391 : Cond.code yX10_pixel cX10_pixel 5 (some .int) ∈ tb := tc6 (i := 71) rfl rfl
theorem tw1389 : Cond.instanceMethod yX10_pixel ∈ tb := tc6 (i := 69) (by decide +kernel) rfl
theorem tw1390 : Cond.selects RX10 yX10_pixel yX10_pixel ∈ tb := tc6 (i := 70) (by decide +kernel) rfl
theorem cvL_31 : cOK RL 31 mX10_pixel 3 ∧ Cond.instanceMethod mX10_pixel.1 ∈ tb ∧ ∃ (Cn : String) (T : u_T) (N : Nat), vwCl[9]? = some (Cn, T, N) ∧ Cond.selects Cn mX10_pixel.1 mX10_pixel.1 ∈ tb := ⟨⟨tw1388, tw121, tw1391, rfl, by decide +kernel⟩, tw1389, RX10, TX10, 9, rfl, tw1390⟩
theorem tw1394 : Cond.methodLink RL 38 yX11_init ∈ tb := tc6 (i := 74) (by decide +kernel) rfl
theorem tw133 : Cond.initialized RX11 ∈ tb := tc1 (i := 13) (by decide +kernel) rfl
set_option maxRecDepth 20000 in
theorem tw1396 : Cond.code yX11_init cX11_init 1 none ∈ tb := tc6 (i := 76) rfl rfl
theorem tw1395 : Cond.instanceMethod yX11_init ∈ tb := tc6 (i := 75) (by decide +kernel) rfl
theorem ckL_38 : cOK RL 38 mX11_init 0 ∧ Cond.instanceMethod mX11_init.1 ∈ tb ∧ mX11_init.1.name = "<init>" ∧ mX11_init.2.2.2.1 = none := ⟨⟨tw1394, tw133, tw1396, rfl, by decide +kernel⟩, tw1395, rfl, rfl⟩
theorem tw1493 : Cond.methodLink RL 60 yX11_thrown ∈ tb := tc6 (i := 173) (by decide +kernel) rfl
set_option maxRecDepth 20000 in
theorem tw1496 : Cond.code yX11_thrown cX11_thrown 1 (some .int) ∈ tb := tc6 (i := 176) rfl rfl
theorem tw1494 : Cond.instanceMethod yX11_thrown ∈ tb := tc6 (i := 174) (by decide +kernel) rfl
theorem tw1495 : Cond.selects RX11 yX11_thrown yX11_thrown ∈ tb := tc6 (i := 175) (by decide +kernel) rfl
theorem cvL_60 : cOK RL 60 mX11_thrown 0 ∧ Cond.instanceMethod mX11_thrown.1 ∈ tb ∧ ∃ (Cn : String) (T : u_T) (N : Nat), vwCl[10]? = some (Cn, T, N) ∧ Cond.selects Cn mX11_thrown.1 mX11_thrown.1 ∈ tb := ⟨⟨tw1493, tw133, tw1496, rfl, by decide +kernel⟩, tw1494, RX11, TX11, 31, rfl, tw1495⟩
theorem tw1497 : Cond.methodLink RL 43 yX11_feed ∈ tb := tc6 (i := 177) (by decide +kernel) rfl
set_option maxRecDepth 20000 in
theorem tw1500 : Cond.code yX11_feed cX11_feed 6 (some .int) ∈ tb := tc6 (i := 180) rfl rfl
theorem tw1498 : Cond.instanceMethod yX11_feed ∈ tb := tc6 (i := 178) (by decide +kernel) rfl
theorem tw1499 : Cond.selects RX11 yX11_feed yX11_feed ∈ tb := tc6 (i := 179) (by decide +kernel) rfl
theorem cvL_43 : cOK RL 43 mX11_feed 5 ∧ Cond.instanceMethod mX11_feed.1 ∈ tb ∧ ∃ (Cn : String) (T : u_T) (N : Nat), vwCl[10]? = some (Cn, T, N) ∧ Cond.selects Cn mX11_feed.1 mX11_feed.1 ∈ tb := ⟨⟨tw1497, tw133, tw1500, rfl, by decide +kernel⟩, tw1498, RX11, TX11, 31, rfl, tw1499⟩
theorem tw1501 : Cond.methodLink RX11 67 yX11_four ∈ tb := tc6 (i := 181) (by decide +kernel) rfl
set_option maxRecDepth 20000 in
theorem tw1504 : Cond.code yX11_four cX11_four 3 none ∈ tb := tc6 (i := 184) rfl rfl
theorem tw1503 : Cond.instanceMethod yX11_four ∈ tb := tc6 (i := 183) (by decide +kernel) rfl
theorem tw63 : Cond.selects RX11 yX11_four yX11_four ∈ tb := tb_of 63 (by decide +kernel) rfl
theorem cvX11_67 : cOK RX11 67 mX11_four 1 ∧ Cond.instanceMethod mX11_four.1 ∈ tb ∧ ∃ (Cn : String) (T : u_T) (N : Nat), vwCl[10]? = some (Cn, T, N) ∧ Cond.selects Cn mX11_four.1 mX11_four.1 ∈ tb := ⟨⟨tw1501, tw133, tw1504, rfl, by decide +kernel⟩, tw1503, RX11, TX11, 31, rfl, tw63⟩
theorem tw1505 : Cond.methodLink RL 48 yX11_end ∈ tb := tc6 (i := 185) (by decide +kernel) rfl
set_option maxRecDepth 20000 in
theorem tw1508 : Cond.code yX11_end cX11_end 2 (some .boolean) ∈ tb := tc6 (i := 188) rfl rfl
theorem tw1506 : Cond.instanceMethod yX11_end ∈ tb := tc6 (i := 186) (by decide +kernel) rfl
theorem tw1507 : Cond.selects RX11 yX11_end yX11_end ∈ tb := tc6 (i := 187) (by decide +kernel) rfl
theorem cvL_48 : cOK RL 48 mX11_end 1 ∧ Cond.instanceMethod mX11_end.1 ∈ tb ∧ ∃ (Cn : String) (T : u_T) (N : Nat), vwCl[10]? = some (Cn, T, N) ∧ Cond.selects Cn mX11_end.1 mX11_end.1 ∈ tb := ⟨⟨tw1505, tw133, tw1508, rfl, by decide +kernel⟩, tw1506, RX11, TX11, 31, rfl, tw1507⟩
theorem tw1509 : Cond.methodLink RL 53 yX11_again ∈ tb := tc6 (i := 189) (by decide +kernel) rfl
set_option maxRecDepth 20000 in
theorem tw1512 : Cond.code yX11_again cX11_again 2 (some .int) ∈ tb := tc6 (i := 192) rfl rfl
theorem tw1510 : Cond.instanceMethod yX11_again ∈ tb := tc6 (i := 190) (by decide +kernel) rfl
theorem tw1511 : Cond.selects RX11 yX11_again yX11_again ∈ tb := tc6 (i := 191) (by decide +kernel) rfl
theorem cvL_53 : cOK RL 53 mX11_again 0 ∧ Cond.instanceMethod mX11_again.1 ∈ tb ∧ ∃ (Cn : String) (T : u_T) (N : Nat), vwCl[10]? = some (Cn, T, N) ∧ Cond.selects Cn mX11_again.1 mX11_again.1 ∈ tb := ⟨⟨tw1509, tw133, tw1512, rfl, by decide +kernel⟩, tw1510, RX11, TX11, 31, rfl, tw1511⟩
theorem tw1513 : Cond.methodLink RL 59 yX11_read ∈ tb := tc6 (i := 193) (by decide +kernel) rfl
set_option maxRecDepth 20000 in
theorem tw1516 : Cond.code yX11_read cX11_read 4 (some .int) ∈ tb := tc6 (i := 196) rfl rfl
theorem tw1514 : Cond.instanceMethod yX11_read ∈ tb := tc6 (i := 194) (by decide +kernel) rfl
theorem tw1515 : Cond.selects RX11 yX11_read yX11_read ∈ tb := tc6 (i := 195) (by decide +kernel) rfl
theorem cvL_59 : cOK RL 59 mX11_read 2 ∧ Cond.instanceMethod mX11_read.1 ∈ tb ∧ ∃ (Cn : String) (T : u_T) (N : Nat), vwCl[10]? = some (Cn, T, N) ∧ Cond.selects Cn mX11_read.1 mX11_read.1 ∈ tb := ⟨⟨tw1513, tw133, tw1516, rfl, by decide +kernel⟩, tw1514, RX11, TX11, 31, rfl, tw1515⟩
theorem tw1517 : Cond.methodLink RX11 245 yX11_isShelf ∈ tb := tc6 (i := 197) (by decide +kernel) rfl
set_option maxRecDepth 20000 in
theorem tw1519 : Cond.code yX11_isShelf cX11_isShelf 1 (some .boolean) ∈ tb := tc6 (i := 199) rfl rfl
theorem tw1518 : Cond.static yX11_isShelf ∈ tb := tc6 (i := 198) (by decide +kernel) rfl
theorem csX11_245 : cOK RX11 245 mX11_isShelf 1 ∧ Cond.static mX11_isShelf.1 ∈ tb := ⟨⟨tw1517, tw133, tw1519, rfl, by decide +kernel⟩, tw1518⟩
theorem tw1520 : Cond.methodLink RX11 248 yX11_readFile ∈ tb := tc6 (i := 200) (by decide +kernel) rfl
set_option maxRecDepth 20000 in
theorem tw1523 : Cond.code yX11_readFile cX11_readFile 4 (some .boolean) ∈ tb := tc6 (i := 203) rfl rfl
theorem tw1522 : Cond.instanceMethod yX11_readFile ∈ tb := tc6 (i := 202) (by decide +kernel) rfl
theorem tw64 : Cond.selects RX11 yX11_readFile yX11_readFile ∈ tb := tb_of 64 (by decide +kernel) rfl
theorem cvX11_248 : cOK RX11 248 mX11_readFile 3 ∧ Cond.instanceMethod mX11_readFile.1 ∈ tb ∧ ∃ (Cn : String) (T : u_T) (N : Nat), vwCl[10]? = some (Cn, T, N) ∧ Cond.selects Cn mX11_readFile.1 mX11_readFile.1 ∈ tb := ⟨⟨tw1520, tw133, tw1523, rfl, by decide +kernel⟩, tw1522, RX11, TX11, 31, rfl, tw64⟩
theorem tw1524 : Cond.methodLink RX11 230 yX11_readChunks ∈ tb := tc6 (i := 204) (by decide +kernel) rfl
set_option maxRecDepth 20000 in
theorem tw1527 : Cond.code yX11_readChunks cX11_readChunks 14 (some .boolean) ∈ tb := tc6 (i := 207) rfl rfl
theorem tw1526 : Cond.instanceMethod yX11_readChunks ∈ tb := tc6 (i := 206) (by decide +kernel) rfl
theorem tw65 : Cond.selects RX11 yX11_readChunks yX11_readChunks ∈ tb := tb_of 65 (by decide +kernel) rfl
theorem cvX11_230 : cOK RX11 230 mX11_readChunks 0 ∧ Cond.instanceMethod mX11_readChunks.1 ∈ tb ∧ ∃ (Cn : String) (T : u_T) (N : Nat), vwCl[10]? = some (Cn, T, N) ∧ Cond.selects Cn mX11_readChunks.1 mX11_readChunks.1 ∈ tb := ⟨⟨tw1524, tw133, tw1527, rfl, by decide +kernel⟩, tw1526, RX11, TX11, 31, rfl, tw65⟩
theorem tw1528 : Cond.methodLink RX11 119 yX11_sign ∈ tb := tc6 (i := 208) (by decide +kernel) rfl
set_option maxRecDepth 20000 in
theorem tw1531 : Cond.code yX11_sign cX11_sign 2 (some .boolean) ∈ tb := tc6 (i := 211) rfl rfl
theorem tw1530 : Cond.instanceMethod yX11_sign ∈ tb := tc6 (i := 210) (by decide +kernel) rfl
theorem tw66 : Cond.selects RX11 yX11_sign yX11_sign ∈ tb := tb_of 66 (by decide +kernel) rfl
theorem cvX11_119 : cOK RX11 119 mX11_sign 1 ∧ Cond.instanceMethod mX11_sign.1 ∈ tb ∧ ∃ (Cn : String) (T : u_T) (N : Nat), vwCl[10]? = some (Cn, T, N) ∧ Cond.selects Cn mX11_sign.1 mX11_sign.1 ∈ tb := ⟨⟨tw1528, tw133, tw1531, rfl, by decide +kernel⟩, tw1530, RX11, TX11, 31, rfl, tw66⟩
theorem tw1532 : Cond.methodLink RX11 103 yX11_want ∈ tb := tc6 (i := 212) (by decide +kernel) rfl
set_option maxRecDepth 20000 in
theorem tw1535 : Cond.code yX11_want cX11_want 2 (some .boolean) ∈ tb := tc6 (i := 215) rfl rfl
theorem tw1534 : Cond.instanceMethod yX11_want ∈ tb := tc6 (i := 214) (by decide +kernel) rfl
theorem tw67 : Cond.selects RX11 yX11_want yX11_want ∈ tb := tb_of 67 (by decide +kernel) rfl
theorem cvX11_103 : cOK RX11 103 mX11_want 1 ∧ Cond.instanceMethod mX11_want.1 ∈ tb ∧ ∃ (Cn : String) (T : u_T) (N : Nat), vwCl[10]? = some (Cn, T, N) ∧ Cond.selects Cn mX11_want.1 mX11_want.1 ∈ tb := ⟨⟨tw1532, tw133, tw1535, rfl, by decide +kernel⟩, tw1534, RX11, TX11, 31, rfl, tw67⟩
theorem tw1536 : Cond.methodLink RX11 90 yX11_wrong ∈ tb := tc6 (i := 216) (by decide +kernel) rfl
set_option maxRecDepth 20000 in
theorem tw1539 : Cond.code yX11_wrong cX11_wrong 3 (some .boolean) ∈ tb := tc6 (i := 219) rfl rfl
theorem tw1538 : Cond.instanceMethod yX11_wrong ∈ tb := tc6 (i := 218) (by decide +kernel) rfl
theorem tw68 : Cond.selects RX11 yX11_wrong yX11_wrong ∈ tb := tb_of 68 (by decide +kernel) rfl
theorem cvX11_90 : cOK RX11 90 mX11_wrong 2 ∧ Cond.instanceMethod mX11_wrong.1 ∈ tb ∧ ∃ (Cn : String) (T : u_T) (N : Nat), vwCl[10]? = some (Cn, T, N) ∧ Cond.selects Cn mX11_wrong.1 mX11_wrong.1 ∈ tb := ⟨⟨tw1536, tw133, tw1539, rfl, by decide +kernel⟩, tw1538, RX11, TX11, 31, rfl, tw68⟩
theorem tw1540 : Cond.methodLink RX11 99 yX11_b ∈ tb := tc6 (i := 220) (by decide +kernel) rfl
set_option maxRecDepth 20000 in
theorem tw1543 : Cond.code yX11_b cX11_b 2 (some .int) ∈ tb := tc6 (i := 223) rfl rfl
theorem tw1542 : Cond.instanceMethod yX11_b ∈ tb := tc6 (i := 222) (by decide +kernel) rfl
theorem tw69 : Cond.selects RX11 yX11_b yX11_b ∈ tb := tb_of 69 (by decide +kernel) rfl
theorem cvX11_99 : cOK RX11 99 mX11_b 1 ∧ Cond.instanceMethod mX11_b.1 ∈ tb ∧ ∃ (Cn : String) (T : u_T) (N : Nat), vwCl[10]? = some (Cn, T, N) ∧ Cond.selects Cn mX11_b.1 mX11_b.1 ∈ tb := ⟨⟨tw1540, tw133, tw1543, rfl, by decide +kernel⟩, tw1542, RX11, TX11, 31, rfl, tw69⟩
theorem tw1544 : Cond.methodLink RX11 122 yX11_top ∈ tb := tc6 (i := 224) (by decide +kernel) rfl
set_option maxRecDepth 20000 in
theorem tw1547 : Cond.code yX11_top cX11_top 6 (some .long) ∈ tb := tc6 (i := 227) rfl rfl
theorem tw1546 : Cond.instanceMethod yX11_top ∈ tb := tc6 (i := 226) (by decide +kernel) rfl
theorem tw70 : Cond.selects RX11 yX11_top yX11_top ∈ tb := tb_of 70 (by decide +kernel) rfl
theorem cvX11_122 : cOK RX11 122 mX11_top 2 ∧ Cond.instanceMethod mX11_top.1 ∈ tb ∧ ∃ (Cn : String) (T : u_T) (N : Nat), vwCl[10]? = some (Cn, T, N) ∧ Cond.selects Cn mX11_top.1 mX11_top.1 ∈ tb := ⟨⟨tw1544, tw133, tw1547, rfl, by decide +kernel⟩, tw1546, RX11, TX11, 31, rfl, tw70⟩
theorem tw1549 : Cond.methodLink RX11 126 yX11_fits ∈ tb := tc6 (i := 229) (by decide +kernel) rfl
set_option maxRecDepth 20000 in
theorem tw1552 : Cond.code yX11_fits cX11_fits 6 (some .boolean) ∈ tb := tc6 (i := 232) rfl rfl
theorem tw1551 : Cond.instanceMethod yX11_fits ∈ tb := tc6 (i := 231) (by decide +kernel) rfl
theorem tw71 : Cond.selects RX11 yX11_fits yX11_fits ∈ tb := tb_of 71 (by decide +kernel) rfl
theorem cvX11_126 : cOK RX11 126 mX11_fits 3 ∧ Cond.instanceMethod mX11_fits.1 ∈ tb ∧ ∃ (Cn : String) (T : u_T) (N : Nat), vwCl[10]? = some (Cn, T, N) ∧ Cond.selects Cn mX11_fits.1 mX11_fits.1 ∈ tb := ⟨⟨tw1549, tw133, tw1552, rfl, by decide +kernel⟩, tw1551, RX11, TX11, 31, rfl, tw71⟩
theorem tw1554 : Cond.methodLink RX11 115 yX11_mix ∈ tb := tc6 (i := 234) (by decide +kernel) rfl
set_option maxRecDepth 20000 in
theorem tw1556 : Cond.code yX11_mix cX11_mix 4 (some .int) ∈ tb := tc6 (i := 236) rfl rfl
theorem tw1555 : Cond.static yX11_mix ∈ tb := tc6 (i := 235) (by decide +kernel) rfl
theorem csX11_115 : cOK RX11 115 mX11_mix 4 ∧ Cond.static mX11_mix.1 ∈ tb := ⟨⟨tw1554, tw133, tw1556, rfl, by decide +kernel⟩, tw1555⟩
theorem tw1557 : Cond.methodLink RX11 139 yX11_more ∈ tb := tc6 (i := 237) (by decide +kernel) rfl
set_option maxRecDepth 20000 in
theorem tw1559 : Cond.code yX11_more cX11_more 4 (some .int) ∈ tb := tc6 (i := 239) rfl rfl
theorem tw1558 : Cond.static yX11_more ∈ tb := tc6 (i := 238) (by decide +kernel) rfl
theorem csX11_139 : cOK RX11 139 mX11_more 4 ∧ Cond.static mX11_more.1 ∈ tb := ⟨⟨tw1557, tw133, tw1559, rfl, by decide +kernel⟩, tw1558⟩
theorem tw1560 : Cond.methodLink RX11 142 yX11_spot ∈ tb := tc7 (i := 0) (by decide +kernel) rfl
set_option maxRecDepth 20000 in
theorem tw1562 : Cond.code yX11_spot cX11_spot 1 (some .int) ∈ tb := tc7 (i := 2) rfl rfl
theorem tw1561 : Cond.static yX11_spot ∈ tb := tc7 (i := 1) (by decide +kernel) rfl
theorem csX11_142 : cOK RX11 142 mX11_spot 1 ∧ Cond.static mX11_spot.1 ∈ tb := ⟨⟨tw1560, tw133, tw1562, rfl, by decide +kernel⟩, tw1561⟩
theorem tw1563 : Cond.methodLink RX11 145 yX11_closes ∈ tb := tc7 (i := 3) (by decide +kernel) rfl
set_option maxRecDepth 20000 in
theorem tw1566 : Cond.code yX11_closes cX11_closes 1 (some .boolean) ∈ tb := tc7 (i := 6) rfl rfl
theorem tw1565 : Cond.instanceMethod yX11_closes ∈ tb := tc7 (i := 5) (by decide +kernel) rfl
theorem tw72 : Cond.selects RX11 yX11_closes yX11_closes ∈ tb := tb_of 72 (by decide +kernel) rfl
theorem cvX11_145 : cOK RX11 145 mX11_closes 0 ∧ Cond.instanceMethod mX11_closes.1 ∈ tb ∧ ∃ (Cn : String) (T : u_T) (N : Nat), vwCl[10]? = some (Cn, T, N) ∧ Cond.selects Cn mX11_closes.1 mX11_closes.1 ∈ tb := ⟨⟨tw1563, tw133, tw1566, rfl, by decide +kernel⟩, tw1565, RX11, TX11, 31, rfl, tw72⟩
theorem tw1567 : Cond.methodLink RX11 233 yX11_readMaps ∈ tb := tc7 (i := 7) (by decide +kernel) rfl
set_option maxRecDepth 20000 in
theorem tw1570 : Cond.code yX11_readMaps cX11_readMaps 4 (some .boolean) ∈ tb := tc7 (i := 10) rfl rfl
theorem tw1569 : Cond.instanceMethod yX11_readMaps ∈ tb := tc7 (i := 9) (by decide +kernel) rfl
theorem tw73 : Cond.selects RX11 yX11_readMaps yX11_readMaps ∈ tb := tb_of 73 (by decide +kernel) rfl
theorem cvX11_233 : cOK RX11 233 mX11_readMaps 0 ∧ Cond.instanceMethod mX11_readMaps.1 ∈ tb ∧ ∃ (Cn : String) (T : u_T) (N : Nat), vwCl[10]? = some (Cn, T, N) ∧ Cond.selects Cn mX11_readMaps.1 mX11_readMaps.1 ∈ tb := ⟨⟨tw1567, tw133, tw1570, rfl, by decide +kernel⟩, tw1569, RX11, TX11, 31, rfl, tw73⟩
theorem tw1571 : Cond.methodLink RX11 156 yX11_gap ∈ tb := tc7 (i := 11) (by decide +kernel) rfl
set_option maxRecDepth 20000 in
theorem tw1574 : Cond.code yX11_gap cX11_gap 2 (some .boolean) ∈ tb := tc7 (i := 14) rfl rfl
theorem tw1573 : Cond.instanceMethod yX11_gap ∈ tb := tc7 (i := 13) (by decide +kernel) rfl
theorem tw74 : Cond.selects RX11 yX11_gap yX11_gap ∈ tb := tb_of 74 (by decide +kernel) rfl
theorem cvX11_156 : cOK RX11 156 mX11_gap 0 ∧ Cond.instanceMethod mX11_gap.1 ∈ tb ∧ ∃ (Cn : String) (T : u_T) (N : Nat), vwCl[10]? = some (Cn, T, N) ∧ Cond.selects Cn mX11_gap.1 mX11_gap.1 ∈ tb := ⟨⟨tw1571, tw133, tw1574, rfl, by decide +kernel⟩, tw1573, RX11, TX11, 31, rfl, tw74⟩
theorem tw1575 : Cond.methodLink RX11 152 yX11_skip ∈ tb := tc7 (i := 15) (by decide +kernel) rfl
set_option maxRecDepth 20000 in
theorem tw1578 : Cond.code yX11_skip cX11_skip 2 none ∈ tb := tc7 (i := 18) rfl rfl
theorem tw1577 : Cond.instanceMethod yX11_skip ∈ tb := tc7 (i := 17) (by decide +kernel) rfl
theorem tw75 : Cond.selects RX11 yX11_skip yX11_skip ∈ tb := tb_of 75 (by decide +kernel) rfl
theorem cvX11_152 : cOK RX11 152 mX11_skip 0 ∧ Cond.instanceMethod mX11_skip.1 ∈ tb ∧ ∃ (Cn : String) (T : u_T) (N : Nat), vwCl[10]? = some (Cn, T, N) ∧ Cond.selects Cn mX11_skip.1 mX11_skip.1 ∈ tb := ⟨⟨tw1575, tw133, tw1578, rfl, by decide +kernel⟩, tw1577, RX11, TX11, 31, rfl, tw75⟩
theorem tw1579 : Cond.methodLink RX11 149 yX11_isBlank ∈ tb := tc7 (i := 19) (by decide +kernel) rfl
set_option maxRecDepth 20000 in
theorem tw1582 : Cond.code yX11_isBlank cX11_isBlank 2 (some .boolean) ∈ tb := tc7 (i := 22) rfl rfl
theorem tw1581 : Cond.instanceMethod yX11_isBlank ∈ tb := tc7 (i := 21) (by decide +kernel) rfl
theorem tw76 : Cond.selects RX11 yX11_isBlank yX11_isBlank ∈ tb := tb_of 76 (by decide +kernel) rfl
theorem cvX11_149 : cOK RX11 149 mX11_isBlank 1 ∧ Cond.instanceMethod mX11_isBlank.1 ∈ tb ∧ ∃ (Cn : String) (T : u_T) (N : Nat), vwCl[10]? = some (Cn, T, N) ∧ Cond.selects Cn mX11_isBlank.1 mX11_isBlank.1 ∈ tb := ⟨⟨tw1579, tw133, tw1582, rfl, by decide +kernel⟩, tw1581, RX11, TX11, 31, rfl, tw76⟩
theorem tw1583 : Cond.methodLink RX11 159 yX11_number ∈ tb := tc7 (i := 23) (by decide +kernel) rfl
set_option maxRecDepth 20000 in
theorem tw1586 : Cond.code yX11_number cX11_number 2 (some .int) ∈ tb := tc7 (i := 26) rfl rfl
theorem tw1585 : Cond.instanceMethod yX11_number ∈ tb := tc7 (i := 25) (by decide +kernel) rfl
theorem tw77 : Cond.selects RX11 yX11_number yX11_number ∈ tb := tb_of 77 (by decide +kernel) rfl
theorem cvX11_159 : cOK RX11 159 mX11_number 0 ∧ Cond.instanceMethod mX11_number.1 ∈ tb ∧ ∃ (Cn : String) (T : u_T) (N : Nat), vwCl[10]? = some (Cn, T, N) ∧ Cond.selects Cn mX11_number.1 mX11_number.1 ∈ tb := ⟨⟨tw1583, tw133, tw1586, rfl, by decide +kernel⟩, tw1585, RX11, TX11, 31, rfl, tw77⟩
theorem tw1589 : Cond.methodLink RX11 164 yX11_readSigns ∈ tb := tc7 (i := 29) (by decide +kernel) rfl
set_option maxRecDepth 20000 in
theorem tw1592 : Cond.code yX11_readSigns cX11_readSigns 2 (some .boolean) ∈ tb := tc7 (i := 32) rfl rfl
theorem tw1591 : Cond.instanceMethod yX11_readSigns ∈ tb := tc7 (i := 31) (by decide +kernel) rfl
theorem tw78 : Cond.selects RX11 yX11_readSigns yX11_readSigns ∈ tb := tb_of 78 (by decide +kernel) rfl
theorem cvX11_164 : cOK RX11 164 mX11_readSigns 0 ∧ Cond.instanceMethod mX11_readSigns.1 ∈ tb ∧ ∃ (Cn : String) (T : u_T) (N : Nat), vwCl[10]? = some (Cn, T, N) ∧ Cond.selects Cn mX11_readSigns.1 mX11_readSigns.1 ∈ tb := ⟨⟨tw1589, tw133, tw1592, rfl, by decide +kernel⟩, tw1591, RX11, TX11, 31, rfl, tw78⟩
theorem tw1593 : Cond.methodLink RX11 176 yX11_gray ∈ tb := tc7 (i := 33) (by decide +kernel) rfl
set_option maxRecDepth 20000 in
theorem tw1595 : Cond.code yX11_gray cX11_gray 1 (some .int) ∈ tb := tc7 (i := 35) rfl rfl
theorem tw1594 : Cond.static yX11_gray ∈ tb := tc7 (i := 34) (by decide +kernel) rfl
theorem csX11_176 : cOK RX11 176 mX11_gray 1 ∧ Cond.static mX11_gray.1 ∈ tb := ⟨⟨tw1593, tw133, tw1595, rfl, by decide +kernel⟩, tw1594⟩
theorem tw1596 : Cond.methodLink RX11 167 yX11_readNumbers ∈ tb := tc7 (i := 36) (by decide +kernel) rfl
set_option maxRecDepth 20000 in
theorem tw1599 : Cond.code yX11_readNumbers cX11_readNumbers 7 (some .boolean) ∈ tb := tc7 (i := 39) rfl rfl
theorem tw1598 : Cond.instanceMethod yX11_readNumbers ∈ tb := tc7 (i := 38) (by decide +kernel) rfl
theorem tw79 : Cond.selects RX11 yX11_readNumbers yX11_readNumbers ∈ tb := tb_of 79 (by decide +kernel) rfl
theorem cvX11_167 : cOK RX11 167 mX11_readNumbers 0 ∧ Cond.instanceMethod mX11_readNumbers.1 ∈ tb ∧ ∃ (Cn : String) (T : u_T) (N : Nat), vwCl[10]? = some (Cn, T, N) ∧ Cond.selects Cn mX11_readNumbers.1 mX11_readNumbers.1 ∈ tb := ⟨⟨tw1596, tw133, tw1599, rfl, by decide +kernel⟩, tw1598, RX11, TX11, 31, rfl, tw79⟩
theorem tw1600 : Cond.methodLink RX11 179 yX11_scaled ∈ tb := tc7 (i := 40) (by decide +kernel) rfl
set_option maxRecDepth 20000 in
theorem tw1602 : Cond.code yX11_scaled cX11_scaled 2 (some .int) ∈ tb := tc7 (i := 42) rfl rfl
theorem tw1601 : Cond.static yX11_scaled ∈ tb := tc7 (i := 41) (by decide +kernel) rfl
theorem csX11_179 : cOK RX11 179 mX11_scaled 2 ∧ Cond.static mX11_scaled.1 ∈ tb := ⟨⟨tw1600, tw133, tw1602, rfl, by decide +kernel⟩, tw1601⟩
theorem tw1603 : Cond.methodLink RX11 170 yX11_readBits ∈ tb := tc7 (i := 43) (by decide +kernel) rfl
set_option maxRecDepth 20000 in
theorem tw1606 : Cond.code yX11_readBits cX11_readBits 3 (some .boolean) ∈ tb := tc7 (i := 46) rfl rfl
theorem tw1605 : Cond.instanceMethod yX11_readBits ∈ tb := tc7 (i := 45) (by decide +kernel) rfl
theorem tw80 : Cond.selects RX11 yX11_readBits yX11_readBits ∈ tb := tb_of 80 (by decide +kernel) rfl
theorem cvX11_170 : cOK RX11 170 mX11_readBits 0 ∧ Cond.instanceMethod mX11_readBits.1 ∈ tb ∧ ∃ (Cn : String) (T : u_T) (N : Nat), vwCl[10]? = some (Cn, T, N) ∧ Cond.selects Cn mX11_readBits.1 mX11_readBits.1 ∈ tb := ⟨⟨tw1603, tw133, tw1606, rfl, by decide +kernel⟩, tw1605, RX11, TX11, 31, rfl, tw80⟩
theorem tw1607 : Cond.methodLink RX11 173 yX11_readSamples ∈ tb := tc7 (i := 47) (by decide +kernel) rfl
set_option maxRecDepth 20000 in
theorem tw1610 : Cond.code yX11_readSamples cX11_readSamples 7 (some .boolean) ∈ tb := tc7 (i := 50) rfl rfl
theorem tw1609 : Cond.instanceMethod yX11_readSamples ∈ tb := tc7 (i := 49) (by decide +kernel) rfl
theorem tw81 : Cond.selects RX11 yX11_readSamples yX11_readSamples ∈ tb := tb_of 81 (by decide +kernel) rfl
theorem cvX11_173 : cOK RX11 173 mX11_readSamples 0 ∧ Cond.instanceMethod mX11_readSamples.1 ∈ tb ∧ ∃ (Cn : String) (T : u_T) (N : Nat), vwCl[10]? = some (Cn, T, N) ∧ Cond.selects Cn mX11_readSamples.1 mX11_readSamples.1 ∈ tb := ⟨⟨tw1607, tw133, tw1610, rfl, by decide +kernel⟩, tw1609, RX11, TX11, 31, rfl, tw81⟩
theorem tw1611 : Cond.methodLink RX11 236 yX11_readRows ∈ tb := tc7 (i := 51) (by decide +kernel) rfl
set_option maxRecDepth 20000 in
theorem tw1614 : Cond.code yX11_readRows cX11_readRows 16 (some .boolean) ∈ tb := tc7 (i := 54) rfl rfl
theorem tw1613 : Cond.instanceMethod yX11_readRows ∈ tb := tc7 (i := 53) (by decide +kernel) rfl
theorem tw82 : Cond.selects RX11 yX11_readRows yX11_readRows ∈ tb := tb_of 82 (by decide +kernel) rfl
theorem cvX11_236 : cOK RX11 236 mX11_readRows 0 ∧ Cond.instanceMethod mX11_readRows.1 ∈ tb ∧ ∃ (Cn : String) (T : u_T) (N : Nat), vwCl[10]? = some (Cn, T, N) ∧ Cond.selects Cn mX11_readRows.1 mX11_readRows.1 ∈ tb := ⟨⟨tw1611, tw133, tw1614, rfl, by decide +kernel⟩, tw1613, RX11, TX11, 31, rfl, tw82⟩
theorem tw1615 : Cond.methodLink RX11 183 yX11_low ∈ tb := tc7 (i := 55) (by decide +kernel) rfl
set_option maxRecDepth 20000 in
theorem tw1618 : Cond.code yX11_low cX11_low 6 (some .long) ∈ tb := tc7 (i := 58) rfl rfl
theorem tw1617 : Cond.instanceMethod yX11_low ∈ tb := tc7 (i := 57) (by decide +kernel) rfl
theorem tw83 : Cond.selects RX11 yX11_low yX11_low ∈ tb := tb_of 83 (by decide +kernel) rfl
theorem cvX11_183 : cOK RX11 183 mX11_low 2 ∧ Cond.instanceMethod mX11_low.1 ∈ tb ∧ ∃ (Cn : String) (T : u_T) (N : Nat), vwCl[10]? = some (Cn, T, N) ∧ Cond.selects Cn mX11_low.1 mX11_low.1 ∈ tb := ⟨⟨tw1615, tw133, tw1618, rfl, by decide +kernel⟩, tw1617, RX11, TX11, 31, rfl, tw83⟩
theorem tw1623 : Cond.methodLink RX11 194 yX11_readPlainRows ∈ tb := tc7 (i := 63) (by decide +kernel) rfl
set_option maxRecDepth 20000 in
theorem tw1626 : Cond.code yX11_readPlainRows cX11_readPlainRows 10 (some .boolean) ∈ tb := tc7 (i := 66) rfl rfl
theorem tw1625 : Cond.instanceMethod yX11_readPlainRows ∈ tb := tc7 (i := 65) (by decide +kernel) rfl
theorem tw84 : Cond.selects RX11 yX11_readPlainRows yX11_readPlainRows ∈ tb := tb_of 84 (by decide +kernel) rfl
theorem cvX11_194 : cOK RX11 194 mX11_readPlainRows 1 ∧ Cond.instanceMethod mX11_readPlainRows.1 ∈ tb ∧ ∃ (Cn : String) (T : u_T) (N : Nat), vwCl[10]? = some (Cn, T, N) ∧ Cond.selects Cn mX11_readPlainRows.1 mX11_readPlainRows.1 ∈ tb := ⟨⟨tw1623, tw133, tw1626, rfl, by decide +kernel⟩, tw1625, RX11, TX11, 31, rfl, tw84⟩
theorem tw1627 : Cond.methodLink RX11 201 yX11_fifth ∈ tb := tc7 (i := 67) (by decide +kernel) rfl
set_option maxRecDepth 20000 in
theorem tw1629 : Cond.code yX11_fifth cX11_fifth 1 (some .int) ∈ tb := tc7 (i := 69) rfl rfl
theorem tw1628 : Cond.static yX11_fifth ∈ tb := tc7 (i := 68) (by decide +kernel) rfl
theorem csX11_201 : cOK RX11 201 mX11_fifth 1 ∧ Cond.static mX11_fifth.1 ∈ tb := ⟨⟨tw1627, tw133, tw1629, rfl, by decide +kernel⟩, tw1628⟩
theorem tw1630 : Cond.methodLink RX11 198 yX11_readPairs ∈ tb := tc7 (i := 70) (by decide +kernel) rfl
set_option maxRecDepth 20000 in
theorem tw1633 : Cond.code yX11_readPairs cX11_readPairs 11 (some .boolean) ∈ tb := tc7 (i := 73) rfl rfl
theorem tw1632 : Cond.instanceMethod yX11_readPairs ∈ tb := tc7 (i := 72) (by decide +kernel) rfl
theorem tw85 : Cond.selects RX11 yX11_readPairs yX11_readPairs ∈ tb := tb_of 85 (by decide +kernel) rfl
theorem cvX11_198 : cOK RX11 198 mX11_readPairs 0 ∧ Cond.instanceMethod mX11_readPairs.1 ∈ tb ∧ ∃ (Cn : String) (T : u_T) (N : Nat), vwCl[10]? = some (Cn, T, N) ∧ Cond.selects Cn mX11_readPairs.1 mX11_readPairs.1 ∈ tb := ⟨⟨tw1630, tw133, tw1633, rfl, by decide +kernel⟩, tw1632, RX11, TX11, 31, rfl, tw85⟩
theorem tw1634 : Cond.methodLink RX11 204 yX11_put ∈ tb := tc7 (i := 74) (by decide +kernel) rfl
set_option maxRecDepth 20000 in
theorem tw1637 : Cond.code yX11_put cX11_put 4 none ∈ tb := tc7 (i := 77) rfl rfl
theorem tw1636 : Cond.instanceMethod yX11_put ∈ tb := tc7 (i := 76) (by decide +kernel) rfl
theorem tw86 : Cond.selects RX11 yX11_put yX11_put ∈ tb := tb_of 86 (by decide +kernel) rfl
theorem cvX11_204 : cOK RX11 204 mX11_put 3 ∧ Cond.instanceMethod mX11_put.1 ∈ tb ∧ ∃ (Cn : String) (T : u_T) (N : Nat), vwCl[10]? = some (Cn, T, N) ∧ Cond.selects Cn mX11_put.1 mX11_put.1 ∈ tb := ⟨⟨tw1634, tw133, tw1637, rfl, by decide +kernel⟩, tw1636, RX11, TX11, 31, rfl, tw86⟩
theorem tw1638 : Cond.methodLink RX11 239 yX11_readTarga ∈ tb := tc7 (i := 78) (by decide +kernel) rfl
set_option maxRecDepth 20000 in
theorem tw1641 : Cond.code yX11_readTarga cX11_readTarga 25 (some .boolean) ∈ tb := tc7 (i := 81) rfl rfl
theorem tw1640 : Cond.instanceMethod yX11_readTarga ∈ tb := tc7 (i := 80) (by decide +kernel) rfl
theorem tw87 : Cond.selects RX11 yX11_readTarga yX11_readTarga ∈ tb := tb_of 87 (by decide +kernel) rfl
theorem cvX11_239 : cOK RX11 239 mX11_readTarga 0 ∧ Cond.instanceMethod mX11_readTarga.1 ∈ tb ∧ ∃ (Cn : String) (T : u_T) (N : Nat), vwCl[10]? = some (Cn, T, N) ∧ Cond.selects Cn mX11_readTarga.1 mX11_readTarga.1 ∈ tb := ⟨⟨tw1638, tw133, tw1641, rfl, by decide +kernel⟩, tw1640, RX11, TX11, 31, rfl, tw87⟩
theorem tw1642 : Cond.methodLink RX11 208 yX11_readShort ∈ tb := tc7 (i := 82) (by decide +kernel) rfl
set_option maxRecDepth 20000 in
theorem tw1645 : Cond.code yX11_readShort cX11_readShort 1 (some .boolean) ∈ tb := tc7 (i := 85) rfl rfl
theorem tw1644 : Cond.instanceMethod yX11_readShort ∈ tb := tc7 (i := 84) (by decide +kernel) rfl
theorem tw88 : Cond.selects RX11 yX11_readShort yX11_readShort ∈ tb := tb_of 88 (by decide +kernel) rfl
theorem cvX11_208 : cOK RX11 208 mX11_readShort 0 ∧ Cond.instanceMethod mX11_readShort.1 ∈ tb ∧ ∃ (Cn : String) (T : u_T) (N : Nat), vwCl[10]? = some (Cn, T, N) ∧ Cond.selects Cn mX11_readShort.1 mX11_readShort.1 ∈ tb := ⟨⟨tw1642, tw133, tw1645, rfl, by decide +kernel⟩, tw1644, RX11, TX11, 31, rfl, tw88⟩
theorem tw1646 : Cond.methodLink RX11 211 yX11_colour ∈ tb := tc7 (i := 86) (by decide +kernel) rfl
set_option maxRecDepth 20000 in
theorem tw1649 : Cond.code yX11_colour cX11_colour 5 (some .int) ∈ tb := tc7 (i := 89) rfl rfl
theorem tw1648 : Cond.instanceMethod yX11_colour ∈ tb := tc7 (i := 88) (by decide +kernel) rfl
theorem tw89 : Cond.selects RX11 yX11_colour yX11_colour ∈ tb := tb_of 89 (by decide +kernel) rfl
theorem cvX11_211 : cOK RX11 211 mX11_colour 3 ∧ Cond.instanceMethod mX11_colour.1 ∈ tb ∧ ∃ (Cn : String) (T : u_T) (N : Nat), vwCl[10]? = some (Cn, T, N) ∧ Cond.selects Cn mX11_colour.1 mX11_colour.1 ∈ tb := ⟨⟨tw1646, tw133, tw1649, rfl, by decide +kernel⟩, tw1648, RX11, TX11, 31, rfl, tw89⟩
theorem tw1650 : Cond.methodLink RX11 215 yX11_isTail ∈ tb := tc7 (i := 90) (by decide +kernel) rfl
set_option maxRecDepth 20000 in
theorem tw1653 : Cond.code yX11_isTail cX11_isTail 4 (some .boolean) ∈ tb := tc7 (i := 93) rfl rfl
theorem tw1652 : Cond.instanceMethod yX11_isTail ∈ tb := tc7 (i := 92) (by decide +kernel) rfl
theorem tw90 : Cond.selects RX11 yX11_isTail yX11_isTail ∈ tb := tb_of 90 (by decide +kernel) rfl
theorem cvX11_215 : cOK RX11 215 mX11_isTail 0 ∧ Cond.instanceMethod mX11_isTail.1 ∈ tb ∧ ∃ (Cn : String) (T : u_T) (N : Nat), vwCl[10]? = some (Cn, T, N) ∧ Cond.selects Cn mX11_isTail.1 mX11_isTail.1 ∈ tb := ⟨⟨tw1650, tw133, tw1653, rfl, by decide +kernel⟩, tw1652, RX11, TX11, 31, rfl, tw90⟩
theorem tw1655 : Cond.methodLink RX11 220 yJ0_charAt_5068e ∈ tb := tc7 (i := 95) (by decide +kernel) rfl
theorem tw1656 : Cond.methodLink RX11 242 yX11_readPlanes ∈ tb := tc7 (i := 96) (by decide +kernel) rfl
set_option maxRecDepth 20000 in
theorem tw1659 : Cond.code yX11_readPlanes cX11_readPlanes 12 (some .boolean) ∈ tb := tc7 (i := 99) rfl rfl
theorem tw1658 : Cond.instanceMethod yX11_readPlanes ∈ tb := tc7 (i := 98) (by decide +kernel) rfl
theorem tw91 : Cond.selects RX11 yX11_readPlanes yX11_readPlanes ∈ tb := tb_of 91 (by decide +kernel) rfl
theorem cvX11_242 : cOK RX11 242 mX11_readPlanes 0 ∧ Cond.instanceMethod mX11_readPlanes.1 ∈ tb ∧ ∃ (Cn : String) (T : u_T) (N : Nat), vwCl[10]? = some (Cn, T, N) ∧ Cond.selects Cn mX11_readPlanes.1 mX11_readPlanes.1 ∈ tb := ⟨⟨tw1656, tw133, tw1659, rfl, by decide +kernel⟩, tw1658, RX11, TX11, 31, rfl, tw91⟩
theorem tw1660 : Cond.methodLink RX11 226 yX11_readLine ∈ tb := tc7 (i := 100) (by decide +kernel) rfl
set_option maxRecDepth 20000 in
theorem tw1663 : Cond.code yX11_readLine cX11_readLine 13 (some .boolean) ∈ tb := tc7 (i := 103) rfl rfl
theorem tw1662 : Cond.instanceMethod yX11_readLine ∈ tb := tc7 (i := 102) (by decide +kernel) rfl
theorem tw92 : Cond.selects RX11 yX11_readLine yX11_readLine ∈ tb := tb_of 92 (by decide +kernel) rfl
theorem cvX11_226 : cOK RX11 226 mX11_readLine 5 ∧ Cond.instanceMethod mX11_readLine.1 ∈ tb ∧ ∃ (Cn : String) (T : u_T) (N : Nat), vwCl[10]? = some (Cn, T, N) ∧ Cond.selects Cn mX11_readLine.1 mX11_readLine.1 ∈ tb := ⟨⟨tw1660, tw133, tw1663, rfl, by decide +kernel⟩, tw1662, RX11, TX11, 31, rfl, tw92⟩
theorem tw1664 : Cond.methodLink RX11 252 yX11_keep ∈ tb := tc7 (i := 104) (by decide +kernel) rfl
set_option maxRecDepth 20000 in
theorem tw1667 : Cond.code yX11_keep cX11_keep 4 none ∈ tb := tc7 (i := 107) rfl rfl
theorem tw1666 : Cond.instanceMethod yX11_keep ∈ tb := tc7 (i := 106) (by decide +kernel) rfl
theorem tw93 : Cond.selects RX11 yX11_keep yX11_keep ∈ tb := tb_of 93 (by decide +kernel) rfl
theorem cvX11_252 : cOK RX11 252 mX11_keep 2 ∧ Cond.instanceMethod mX11_keep.1 ∈ tb ∧ ∃ (Cn : String) (T : u_T) (N : Nat), vwCl[10]? = some (Cn, T, N) ∧ Cond.selects Cn mX11_keep.1 mX11_keep.1 ∈ tb := ⟨⟨tw1664, tw133, tw1667, rfl, by decide +kernel⟩, tw1666, RX11, TX11, 31, rfl, tw93⟩
theorem tw1668 : Cond.methodLink RL 66 yX11_place ∈ tb := tc7 (i := 108) (by decide +kernel) rfl
set_option maxRecDepth 20000 in
theorem tw1671 : Cond.code yX11_place cX11_place 1 (some .int) ∈ tb := tc7 (i := 111) rfl rfl
theorem tw1669 : Cond.instanceMethod yX11_place ∈ tb := tc7 (i := 109) (by decide +kernel) rfl
theorem tw1670 : Cond.selects RX11 yX11_place yX11_place ∈ tb := tc7 (i := 110) (by decide +kernel) rfl
theorem cvL_66 : cOK RL 66 mX11_place 0 ∧ Cond.instanceMethod mX11_place.1 ∈ tb ∧ ∃ (Cn : String) (T : u_T) (N : Nat), vwCl[10]? = some (Cn, T, N) ∧ Cond.selects Cn mX11_place.1 mX11_place.1 ∈ tb := ⟨⟨tw1668, tw133, tw1671, rfl, by decide +kernel⟩, tw1669, RX11, TX11, 31, rfl, tw1670⟩
theorem tw1672 : Cond.methodLink RL 71 yX11_told ∈ tb := tc7 (i := 112) (by decide +kernel) rfl
set_option maxRecDepth 20000 in
theorem tw1675 : Cond.code yX11_told cX11_told 2 (some .int) ∈ tb := tc7 (i := 115) rfl rfl
theorem tw1673 : Cond.instanceMethod yX11_told ∈ tb := tc7 (i := 113) (by decide +kernel) rfl
theorem tw1674 : Cond.selects RX11 yX11_told yX11_told ∈ tb := tc7 (i := 114) (by decide +kernel) rfl
theorem cvL_71 : cOK RL 71 mX11_told 1 ∧ Cond.instanceMethod mX11_told.1 ∈ tb ∧ ∃ (Cn : String) (T : u_T) (N : Nat), vwCl[10]? = some (Cn, T, N) ∧ Cond.selects Cn mX11_told.1 mX11_told.1 ∈ tb := ⟨⟨tw1672, tw133, tw1675, rfl, by decide +kernel⟩, tw1673, RX11, TX11, 31, rfl, tw1674⟩
theorem tw1676 : Cond.methodLink RL 75 yX11_write ∈ tb := tc7 (i := 116) (by decide +kernel) rfl
set_option maxRecDepth 20000 in
theorem tw1679 : Cond.code yX11_write cX11_write 3 (some .int) ∈ tb := tc7 (i := 119) rfl rfl
theorem tw1677 : Cond.instanceMethod yX11_write ∈ tb := tc7 (i := 117) (by decide +kernel) rfl
theorem tw1678 : Cond.selects RX11 yX11_write yX11_write ∈ tb := tc7 (i := 118) (by decide +kernel) rfl
theorem cvL_75 : cOK RL 75 mX11_write 2 ∧ Cond.instanceMethod mX11_write.1 ∈ tb ∧ ∃ (Cn : String) (T : u_T) (N : Nat), vwCl[10]? = some (Cn, T, N) ∧ Cond.selects Cn mX11_write.1 mX11_write.1 ∈ tb := ⟨⟨tw1676, tw133, tw1679, rfl, by decide +kernel⟩, tw1677, RX11, TX11, 31, rfl, tw1678⟩
theorem tw1680 : Cond.methodLink RX11 328 yX11_canHold ∈ tb := tc7 (i := 120) (by decide +kernel) rfl
set_option maxRecDepth 20000 in
theorem tw1683 : Cond.code yX11_canHold cX11_canHold 3 (some .boolean) ∈ tb := tc7 (i := 123) rfl rfl
theorem tw1682 : Cond.instanceMethod yX11_canHold ∈ tb := tc7 (i := 122) (by decide +kernel) rfl
theorem tw94 : Cond.selects RX11 yX11_canHold yX11_canHold ∈ tb := tb_of 94 (by decide +kernel) rfl
theorem cvX11_328 : cOK RX11 328 mX11_canHold 2 ∧ Cond.instanceMethod mX11_canHold.1 ∈ tb ∧ ∃ (Cn : String) (T : u_T) (N : Nat), vwCl[10]? = some (Cn, T, N) ∧ Cond.selects Cn mX11_canHold.1 mX11_canHold.1 ∈ tb := ⟨⟨tw1680, tw133, tw1683, rfl, by decide +kernel⟩, tw1682, RX11, TX11, 31, rfl, tw94⟩
theorem tw1684 : Cond.methodLink RX11 268 yX11_isPlain ∈ tb := tc7 (i := 124) (by decide +kernel) rfl
set_option maxRecDepth 20000 in
theorem tw1687 : Cond.code yX11_isPlain cX11_isPlain 3 (some .boolean) ∈ tb := tc7 (i := 127) rfl rfl
theorem tw1686 : Cond.instanceMethod yX11_isPlain ∈ tb := tc7 (i := 126) (by decide +kernel) rfl
theorem tw95 : Cond.selects RX11 yX11_isPlain yX11_isPlain ∈ tb := tb_of 95 (by decide +kernel) rfl
theorem cvX11_268 : cOK RX11 268 mX11_isPlain 1 ∧ Cond.instanceMethod mX11_isPlain.1 ∈ tb ∧ ∃ (Cn : String) (T : u_T) (N : Nat), vwCl[10]? = some (Cn, T, N) ∧ Cond.selects Cn mX11_isPlain.1 mX11_isPlain.1 ∈ tb := ⟨⟨tw1684, tw133, tw1687, rfl, by decide +kernel⟩, tw1686, RX11, TX11, 31, rfl, tw95⟩
theorem tw1688 : Cond.methodLink RX11 256 yX11_many ∈ tb := tc7 (i := 128) (by decide +kernel) rfl
set_option maxRecDepth 20000 in
theorem tw1691 : Cond.code yX11_many cX11_many 2 (some .int) ∈ tb := tc7 (i := 131) rfl rfl
theorem tw1690 : Cond.instanceMethod yX11_many ∈ tb := tc7 (i := 130) (by decide +kernel) rfl
theorem tw96 : Cond.selects RX11 yX11_many yX11_many ∈ tb := tb_of 96 (by decide +kernel) rfl
theorem cvX11_256 : cOK RX11 256 mX11_many 1 ∧ Cond.instanceMethod mX11_many.1 ∈ tb ∧ ∃ (Cn : String) (T : u_T) (N : Nat), vwCl[10]? = some (Cn, T, N) ∧ Cond.selects Cn mX11_many.1 mX11_many.1 ∈ tb := ⟨⟨tw1688, tw133, tw1691, rfl, by decide +kernel⟩, tw1690, RX11, TX11, 31, rfl, tw96⟩
theorem tw1692 : Cond.methodLink RX11 271 yX11_isOpaque ∈ tb := tc7 (i := 132) (by decide +kernel) rfl
set_option maxRecDepth 20000 in
theorem tw1695 : Cond.code yX11_isOpaque cX11_isOpaque 3 (some .boolean) ∈ tb := tc7 (i := 135) rfl rfl
theorem tw1694 : Cond.instanceMethod yX11_isOpaque ∈ tb := tc7 (i := 134) (by decide +kernel) rfl
theorem tw97 : Cond.selects RX11 yX11_isOpaque yX11_isOpaque ∈ tb := tb_of 97 (by decide +kernel) rfl
theorem cvX11_271 : cOK RX11 271 mX11_isOpaque 1 ∧ Cond.instanceMethod mX11_isOpaque.1 ∈ tb ∧ ∃ (Cn : String) (T : u_T) (N : Nat), vwCl[10]? = some (Cn, T, N) ∧ Cond.selects Cn mX11_isOpaque.1 mX11_isOpaque.1 ∈ tb := ⟨⟨tw1692, tw133, tw1695, rfl, by decide +kernel⟩, tw1694, RX11, TX11, 31, rfl, tw97⟩
theorem tw1696 : Cond.methodLink RX11 274 yX11_isGrayRaster ∈ tb := tc7 (i := 136) (by decide +kernel) rfl
set_option maxRecDepth 20000 in
theorem tw1699 : Cond.code yX11_isGrayRaster cX11_isGrayRaster 4 (some .boolean) ∈ tb := tc7 (i := 139) rfl rfl
theorem tw1698 : Cond.instanceMethod yX11_isGrayRaster ∈ tb := tc7 (i := 138) (by decide +kernel) rfl
theorem tw98 : Cond.selects RX11 yX11_isGrayRaster yX11_isGrayRaster ∈ tb := tb_of 98 (by decide +kernel) rfl
theorem cvX11_274 : cOK RX11 274 mX11_isGrayRaster 1 ∧ Cond.instanceMethod mX11_isGrayRaster.1 ∈ tb ∧ ∃ (Cn : String) (T : u_T) (N : Nat), vwCl[10]? = some (Cn, T, N) ∧ Cond.selects Cn mX11_isGrayRaster.1 mX11_isGrayRaster.1 ∈ tb := ⟨⟨tw1696, tw133, tw1699, rfl, by decide +kernel⟩, tw1698, RX11, TX11, 31, rfl, tw98⟩
theorem tw1700 : Cond.methodLink RX11 277 yX11_colourCount ∈ tb := tc7 (i := 140) (by decide +kernel) rfl
set_option maxRecDepth 20000 in
theorem tw1703 : Cond.code yX11_colourCount cX11_colourCount 5 (some .int) ∈ tb := tc7 (i := 143) rfl rfl
theorem tw1702 : Cond.instanceMethod yX11_colourCount ∈ tb := tc7 (i := 142) (by decide +kernel) rfl
theorem tw99 : Cond.selects RX11 yX11_colourCount yX11_colourCount ∈ tb := tb_of 99 (by decide +kernel) rfl
theorem cvX11_277 : cOK RX11 277 mX11_colourCount 1 ∧ Cond.instanceMethod mX11_colourCount.1 ∈ tb ∧ ∃ (Cn : String) (T : u_T) (N : Nat), vwCl[10]? = some (Cn, T, N) ∧ Cond.selects Cn mX11_colourCount.1 mX11_colourCount.1 ∈ tb := ⟨⟨tw1700, tw133, tw1703, rfl, by decide +kernel⟩, tw1702, RX11, TX11, 31, rfl, tw99⟩
theorem tw1704 : Cond.methodLink RX11 259 yX11_sift ∈ tb := tc7 (i := 144) (by decide +kernel) rfl
set_option maxRecDepth 20000 in
theorem tw1707 : Cond.code yX11_sift cX11_sift 7 none ∈ tb := tc7 (i := 147) rfl rfl
theorem tw1706 : Cond.instanceMethod yX11_sift ∈ tb := tc7 (i := 146) (by decide +kernel) rfl
theorem tw100 : Cond.selects RX11 yX11_sift yX11_sift ∈ tb := tb_of 100 (by decide +kernel) rfl
theorem cvX11_259 : cOK RX11 259 mX11_sift 2 ∧ Cond.instanceMethod mX11_sift.1 ∈ tb ∧ ∃ (Cn : String) (T : u_T) (N : Nat), vwCl[10]? = some (Cn, T, N) ∧ Cond.selects Cn mX11_sift.1 mX11_sift.1 ∈ tb := ⟨⟨tw1704, tw133, tw1707, rfl, by decide +kernel⟩, tw1706, RX11, TX11, 31, rfl, tw100⟩
theorem tw1708 : Cond.methodLink RX11 331 yX11_writeFile ∈ tb := tc7 (i := 148) (by decide +kernel) rfl
set_option maxRecDepth 20000 in
theorem tw1711 : Cond.code yX11_writeFile cX11_writeFile 3 none ∈ tb := tc7 (i := 151) rfl rfl
theorem tw1710 : Cond.instanceMethod yX11_writeFile ∈ tb := tc7 (i := 150) (by decide +kernel) rfl
theorem tw101 : Cond.selects RX11 yX11_writeFile yX11_writeFile ∈ tb := tb_of 101 (by decide +kernel) rfl
theorem cvX11_331 : cOK RX11 331 mX11_writeFile 2 ∧ Cond.instanceMethod mX11_writeFile.1 ∈ tb ∧ ∃ (Cn : String) (T : u_T) (N : Nat), vwCl[10]? = some (Cn, T, N) ∧ Cond.selects Cn mX11_writeFile.1 mX11_writeFile.1 ∈ tb := ⟨⟨tw1708, tw133, tw1711, rfl, by decide +kernel⟩, tw1710, RX11, TX11, 31, rfl, tw101⟩
theorem tw1712 : Cond.methodLink RX11 313 yX11_writeChunks ∈ tb := tc7 (i := 152) (by decide +kernel) rfl
set_option maxRecDepth 20000 in
theorem tw1715 : Cond.code yX11_writeChunks cX11_writeChunks 7 none ∈ tb := tc7 (i := 155) rfl rfl
theorem tw1714 : Cond.instanceMethod yX11_writeChunks ∈ tb := tc7 (i := 154) (by decide +kernel) rfl
theorem tw102 : Cond.selects RX11 yX11_writeChunks yX11_writeChunks ∈ tb := tb_of 102 (by decide +kernel) rfl
theorem cvX11_313 : cOK RX11 313 mX11_writeChunks 1 ∧ Cond.instanceMethod mX11_writeChunks.1 ∈ tb ∧ ∃ (Cn : String) (T : u_T) (N : Nat), vwCl[10]? = some (Cn, T, N) ∧ Cond.selects Cn mX11_writeChunks.1 mX11_writeChunks.1 ∈ tb := ⟨⟨tw1712, tw133, tw1715, rfl, by decide +kernel⟩, tw1714, RX11, TX11, 31, rfl, tw102⟩
theorem tw1716 : Cond.methodLink RX11 280 yX11_put_ ∈ tb := tc7 (i := 156) (by decide +kernel) rfl
set_option maxRecDepth 20000 in
theorem tw1719 : Cond.code yX11_put_ cX11_put_ 2 none ∈ tb := tc7 (i := 159) rfl rfl
theorem tw1718 : Cond.instanceMethod yX11_put_ ∈ tb := tc7 (i := 158) (by decide +kernel) rfl
theorem tw103 : Cond.selects RX11 yX11_put_ yX11_put_ ∈ tb := tb_of 103 (by decide +kernel) rfl
theorem cvX11_280 : cOK RX11 280 mX11_put_ 1 ∧ Cond.instanceMethod mX11_put_.1 ∈ tb ∧ ∃ (Cn : String) (T : u_T) (N : Nat), vwCl[10]? = some (Cn, T, N) ∧ Cond.selects Cn mX11_put_.1 mX11_put_.1 ∈ tb := ⟨⟨tw1716, tw133, tw1719, rfl, by decide +kernel⟩, tw1718, RX11, TX11, 31, rfl, tw103⟩
theorem tw1720 : Cond.methodLink RX11 285 yX11_putTop ∈ tb := tc7 (i := 160) (by decide +kernel) rfl
set_option maxRecDepth 20000 in
theorem tw1723 : Cond.code yX11_putTop cX11_putTop 3 none ∈ tb := tc7 (i := 163) rfl rfl
theorem tw1722 : Cond.instanceMethod yX11_putTop ∈ tb := tc7 (i := 162) (by decide +kernel) rfl
theorem tw104 : Cond.selects RX11 yX11_putTop yX11_putTop ∈ tb := tb_of 104 (by decide +kernel) rfl
theorem cvX11_285 : cOK RX11 285 mX11_putTop 1 ∧ Cond.instanceMethod mX11_putTop.1 ∈ tb ∧ ∃ (Cn : String) (T : u_T) (N : Nat), vwCl[10]? = some (Cn, T, N) ∧ Cond.selects Cn mX11_putTop.1 mX11_putTop.1 ∈ tb := ⟨⟨tw1720, tw133, tw1723, rfl, by decide +kernel⟩, tw1722, RX11, TX11, 31, rfl, tw104⟩
theorem tw1724 : Cond.methodLink RX11 288 yX11_chunk ∈ tb := tc7 (i := 164) (by decide +kernel) rfl
set_option maxRecDepth 20000 in
theorem tw1727 : Cond.code yX11_chunk cX11_chunk 9 none ∈ tb := tc7 (i := 167) rfl rfl
theorem tw1726 : Cond.instanceMethod yX11_chunk ∈ tb := tc7 (i := 166) (by decide +kernel) rfl
theorem tw105 : Cond.selects RX11 yX11_chunk yX11_chunk ∈ tb := tb_of 105 (by decide +kernel) rfl
theorem cvX11_288 : cOK RX11 288 mX11_chunk 2 ∧ Cond.instanceMethod mX11_chunk.1 ∈ tb ∧ ∃ (Cn : String) (T : u_T) (N : Nat), vwCl[10]? = some (Cn, T, N) ∧ Cond.selects Cn mX11_chunk.1 mX11_chunk.1 ∈ tb := ⟨⟨tw1724, tw133, tw1727, rfl, by decide +kernel⟩, tw1726, RX11, TX11, 31, rfl, tw105⟩
theorem tw1728 : Cond.methodLink RX11 316 yX11_writeMaps ∈ tb := tc7 (i := 168) (by decide +kernel) rfl
set_option maxRecDepth 20000 in
theorem tw1731 : Cond.code yX11_writeMaps cX11_writeMaps 8 none ∈ tb := tc7 (i := 171) rfl rfl
theorem tw1730 : Cond.instanceMethod yX11_writeMaps ∈ tb := tc7 (i := 170) (by decide +kernel) rfl
theorem tw106 : Cond.selects RX11 yX11_writeMaps yX11_writeMaps ∈ tb := tb_of 106 (by decide +kernel) rfl
theorem cvX11_316 : cOK RX11 316 mX11_writeMaps 2 ∧ Cond.instanceMethod mX11_writeMaps.1 ∈ tb ∧ ∃ (Cn : String) (T : u_T) (N : Nat), vwCl[10]? = some (Cn, T, N) ∧ Cond.selects Cn mX11_writeMaps.1 mX11_writeMaps.1 ∈ tb := ⟨⟨tw1728, tw133, tw1731, rfl, by decide +kernel⟩, tw1730, RX11, TX11, 31, rfl, tw106⟩
theorem tw1732 : Cond.methodLink RX11 282 yX11_putNumber ∈ tb := tc7 (i := 172) (by decide +kernel) rfl
set_option maxRecDepth 20000 in
theorem tw1735 : Cond.code yX11_putNumber cX11_putNumber 2 none ∈ tb := tc7 (i := 175) rfl rfl
theorem tw1734 : Cond.instanceMethod yX11_putNumber ∈ tb := tc7 (i := 174) (by decide +kernel) rfl
theorem tw107 : Cond.selects RX11 yX11_putNumber yX11_putNumber ∈ tb := tb_of 107 (by decide +kernel) rfl
theorem cvX11_282 : cOK RX11 282 mX11_putNumber 1 ∧ Cond.instanceMethod mX11_putNumber.1 ∈ tb ∧ ∃ (Cn : String) (T : u_T) (N : Nat), vwCl[10]? = some (Cn, T, N) ∧ Cond.selects Cn mX11_putNumber.1 mX11_putNumber.1 ∈ tb := ⟨⟨tw1732, tw133, tw1735, rfl, by decide +kernel⟩, tw1734, RX11, TX11, 31, rfl, tw107⟩
theorem tw1736 : Cond.methodLink RX11 291 yX11_at ∈ tb := tc7 (i := 176) (by decide +kernel) rfl
set_option maxRecDepth 20000 in
theorem tw1739 : Cond.code yX11_at cX11_at 4 (some .int) ∈ tb := tc7 (i := 179) rfl rfl
theorem tw1738 : Cond.instanceMethod yX11_at ∈ tb := tc7 (i := 178) (by decide +kernel) rfl
theorem tw108 : Cond.selects RX11 yX11_at yX11_at ∈ tb := tb_of 108 (by decide +kernel) rfl
theorem cvX11_291 : cOK RX11 291 mX11_at 3 ∧ Cond.instanceMethod mX11_at.1 ∈ tb ∧ ∃ (Cn : String) (T : u_T) (N : Nat), vwCl[10]? = some (Cn, T, N) ∧ Cond.selects Cn mX11_at.1 mX11_at.1 ∈ tb := ⟨⟨tw1736, tw133, tw1739, rfl, by decide +kernel⟩, tw1738, RX11, TX11, 31, rfl, tw108⟩
theorem tw1740 : Cond.methodLink RX11 319 yX11_writeRows ∈ tb := tc7 (i := 180) (by decide +kernel) rfl
set_option maxRecDepth 20000 in
theorem tw1743 : Cond.code yX11_writeRows cX11_writeRows 9 none ∈ tb := tc7 (i := 183) rfl rfl
theorem tw1742 : Cond.instanceMethod yX11_writeRows ∈ tb := tc7 (i := 182) (by decide +kernel) rfl
theorem tw109 : Cond.selects RX11 yX11_writeRows yX11_writeRows ∈ tb := tb_of 109 (by decide +kernel) rfl
theorem cvX11_319 : cOK RX11 319 mX11_writeRows 2 ∧ Cond.instanceMethod mX11_writeRows.1 ∈ tb ∧ ∃ (Cn : String) (T : u_T) (N : Nat), vwCl[10]? = some (Cn, T, N) ∧ Cond.selects Cn mX11_writeRows.1 mX11_writeRows.1 ∈ tb := ⟨⟨tw1740, tw133, tw1743, rfl, by decide +kernel⟩, tw1742, RX11, TX11, 31, rfl, tw109⟩
theorem tw1744 : Cond.methodLink RX11 293 yX11_listColours ∈ tb := tc7 (i := 184) (by decide +kernel) rfl
set_option maxRecDepth 20000 in
theorem tw1747 : Cond.code yX11_listColours cX11_listColours 4 none ∈ tb := tc7 (i := 187) rfl rfl
theorem tw1746 : Cond.instanceMethod yX11_listColours ∈ tb := tc7 (i := 186) (by decide +kernel) rfl
theorem tw110 : Cond.selects RX11 yX11_listColours yX11_listColours ∈ tb := tb_of 110 (by decide +kernel) rfl
theorem cvX11_293 : cOK RX11 293 mX11_listColours 1 ∧ Cond.instanceMethod mX11_listColours.1 ∈ tb ∧ ∃ (Cn : String) (T : u_T) (N : Nat), vwCl[10]? = some (Cn, T, N) ∧ Cond.selects Cn mX11_listColours.1 mX11_listColours.1 ∈ tb := ⟨⟨tw1744, tw133, tw1747, rfl, by decide +kernel⟩, tw1746, RX11, TX11, 31, rfl, tw110⟩
theorem tw1748 : Cond.methodLink RX11 265 yX11_colourOf ∈ tb := tc7 (i := 188) (by decide +kernel) rfl
set_option maxRecDepth 20000 in
theorem tw1751 : Cond.code yX11_colourOf cX11_colourOf 3 (some .int) ∈ tb := tc7 (i := 191) rfl rfl
theorem tw1750 : Cond.instanceMethod yX11_colourOf ∈ tb := tc7 (i := 190) (by decide +kernel) rfl
theorem tw111 : Cond.selects RX11 yX11_colourOf yX11_colourOf ∈ tb := tb_of 111 (by decide +kernel) rfl
theorem cvX11_265 : cOK RX11 265 mX11_colourOf 1 ∧ Cond.instanceMethod mX11_colourOf.1 ∈ tb ∧ ∃ (Cn : String) (T : u_T) (N : Nat), vwCl[10]? = some (Cn, T, N) ∧ Cond.selects Cn mX11_colourOf.1 mX11_colourOf.1 ∈ tb := ⟨⟨tw1748, tw133, tw1751, rfl, by decide +kernel⟩, tw1750, RX11, TX11, 31, rfl, tw111⟩
theorem tw1752 : Cond.methodLink RX11 296 yX11_putLow ∈ tb := tc7 (i := 192) (by decide +kernel) rfl
set_option maxRecDepth 20000 in
theorem tw1755 : Cond.code yX11_putLow cX11_putLow 4 none ∈ tb := tc7 (i := 195) rfl rfl
theorem tw1754 : Cond.instanceMethod yX11_putLow ∈ tb := tc7 (i := 194) (by decide +kernel) rfl
theorem tw112 : Cond.selects RX11 yX11_putLow yX11_putLow ∈ tb := tb_of 112 (by decide +kernel) rfl
theorem cvX11_296 : cOK RX11 296 mX11_putLow 2 ∧ Cond.instanceMethod mX11_putLow.1 ∈ tb ∧ ∃ (Cn : String) (T : u_T) (N : Nat), vwCl[10]? = some (Cn, T, N) ∧ Cond.selects Cn mX11_putLow.1 mX11_putLow.1 ∈ tb := ⟨⟨tw1752, tw133, tw1755, rfl, by decide +kernel⟩, tw1754, RX11, TX11, 31, rfl, tw112⟩
theorem tw1756 : Cond.methodLink RX11 299 yX11_putBack ∈ tb := tc7 (i := 196) (by decide +kernel) rfl
set_option maxRecDepth 20000 in
theorem tw1759 : Cond.code yX11_putBack cX11_putBack 3 none ∈ tb := tc7 (i := 199) rfl rfl
theorem tw1758 : Cond.instanceMethod yX11_putBack ∈ tb := tc7 (i := 198) (by decide +kernel) rfl
theorem tw113 : Cond.selects RX11 yX11_putBack yX11_putBack ∈ tb := tb_of 113 (by decide +kernel) rfl
theorem cvX11_299 : cOK RX11 299 mX11_putBack 2 ∧ Cond.instanceMethod mX11_putBack.1 ∈ tb ∧ ∃ (Cn : String) (T : u_T) (N : Nat), vwCl[10]? = some (Cn, T, N) ∧ Cond.selects Cn mX11_putBack.1 mX11_putBack.1 ∈ tb := ⟨⟨tw1756, tw133, tw1759, rfl, by decide +kernel⟩, tw1758, RX11, TX11, 31, rfl, tw113⟩
theorem tw1760 : Cond.methodLink RX11 302 yX11_mend ∈ tb := tc7 (i := 200) (by decide +kernel) rfl
set_option maxRecDepth 20000 in
theorem tw1763 : Cond.code yX11_mend cX11_mend 4 none ∈ tb := tc7 (i := 203) rfl rfl
theorem tw1762 : Cond.instanceMethod yX11_mend ∈ tb := tc7 (i := 202) (by decide +kernel) rfl
theorem tw114 : Cond.selects RX11 yX11_mend yX11_mend ∈ tb := tb_of 114 (by decide +kernel) rfl
theorem cvX11_302 : cOK RX11 302 mX11_mend 2 ∧ Cond.instanceMethod mX11_mend.1 ∈ tb ∧ ∃ (Cn : String) (T : u_T) (N : Nat), vwCl[10]? = some (Cn, T, N) ∧ Cond.selects Cn mX11_mend.1 mX11_mend.1 ∈ tb := ⟨⟨tw1760, tw133, tw1763, rfl, by decide +kernel⟩, tw1762, RX11, TX11, 31, rfl, tw114⟩
theorem tw1764 : Cond.methodLink RX11 322 yX11_writeTarga ∈ tb := tc7 (i := 204) (by decide +kernel) rfl
set_option maxRecDepth 20000 in
theorem tw1767 : Cond.code yX11_writeTarga cX11_writeTarga 12 none ∈ tb := tc7 (i := 207) rfl rfl
theorem tw1766 : Cond.instanceMethod yX11_writeTarga ∈ tb := tc7 (i := 206) (by decide +kernel) rfl
theorem tw115 : Cond.selects RX11 yX11_writeTarga yX11_writeTarga ∈ tb := tb_of 115 (by decide +kernel) rfl
theorem cvX11_322 : cOK RX11 322 mX11_writeTarga 2 ∧ Cond.instanceMethod mX11_writeTarga.1 ∈ tb ∧ ∃ (Cn : String) (T : u_T) (N : Nat), vwCl[10]? = some (Cn, T, N) ∧ Cond.selects Cn mX11_writeTarga.1 mX11_writeTarga.1 ∈ tb := ⟨⟨tw1764, tw133, tw1767, rfl, by decide +kernel⟩, tw1766, RX11, TX11, 31, rfl, tw115⟩
theorem tw1768 : Cond.methodLink RX11 305 yX11_isLike ∈ tb := tc7 (i := 208) (by decide +kernel) rfl
set_option maxRecDepth 20000 in
theorem tw1771 : Cond.code yX11_isLike cX11_isLike 4 (some .boolean) ∈ tb := tc7 (i := 211) rfl rfl
theorem tw1770 : Cond.instanceMethod yX11_isLike ∈ tb := tc7 (i := 210) (by decide +kernel) rfl
theorem tw116 : Cond.selects RX11 yX11_isLike yX11_isLike ∈ tb := tb_of 116 (by decide +kernel) rfl
theorem cvX11_305 : cOK RX11 305 mX11_isLike 3 ∧ Cond.instanceMethod mX11_isLike.1 ∈ tb ∧ ∃ (Cn : String) (T : u_T) (N : Nat), vwCl[10]? = some (Cn, T, N) ∧ Cond.selects Cn mX11_isLike.1 mX11_isLike.1 ∈ tb := ⟨⟨tw1768, tw133, tw1771, rfl, by decide +kernel⟩, tw1770, RX11, TX11, 31, rfl, tw116⟩
theorem tw1772 : Cond.methodLink RX11 325 yX11_writePlanes ∈ tb := tc7 (i := 212) (by decide +kernel) rfl
set_option maxRecDepth 20000 in
theorem tw1775 : Cond.code yX11_writePlanes cX11_writePlanes 10 none ∈ tb := tc7 (i := 215) rfl rfl
theorem tw1774 : Cond.instanceMethod yX11_writePlanes ∈ tb := tc7 (i := 214) (by decide +kernel) rfl
theorem tw117 : Cond.selects RX11 yX11_writePlanes yX11_writePlanes ∈ tb := tb_of 117 (by decide +kernel) rfl
theorem cvX11_325 : cOK RX11 325 mX11_writePlanes 2 ∧ Cond.instanceMethod mX11_writePlanes.1 ∈ tb ∧ ∃ (Cn : String) (T : u_T) (N : Nat), vwCl[10]? = some (Cn, T, N) ∧ Cond.selects Cn mX11_writePlanes.1 mX11_writePlanes.1 ∈ tb := ⟨⟨tw1772, tw133, tw1775, rfl, by decide +kernel⟩, tw1774, RX11, TX11, 31, rfl, tw117⟩
theorem tw1776 : Cond.methodLink RX11 309 yX11_sample ∈ tb := tc7 (i := 216) (by decide +kernel) rfl
set_option maxRecDepth 20000 in
theorem tw1779 : Cond.code yX11_sample cX11_sample 7 (some .int) ∈ tb := tc7 (i := 219) rfl rfl
theorem tw1778 : Cond.instanceMethod yX11_sample ∈ tb := tc7 (i := 218) (by decide +kernel) rfl
theorem tw118 : Cond.selects RX11 yX11_sample yX11_sample ∈ tb := tb_of 118 (by decide +kernel) rfl
theorem cvX11_309 : cOK RX11 309 mX11_sample 5 ∧ Cond.instanceMethod mX11_sample.1 ∈ tb ∧ ∃ (Cn : String) (T : u_T) (N : Nat), vwCl[10]? = some (Cn, T, N) ∧ Cond.selects Cn mX11_sample.1 mX11_sample.1 ∈ tb := ⟨⟨tw1776, tw133, tw1779, rfl, by decide +kernel⟩, tw1778, RX11, TX11, 31, rfl, tw118⟩
theorem tw1780 : Cond.methodLink RL 79 yX11_byteAt ∈ tb := tc7 (i := 220) (by decide +kernel) rfl
set_option maxRecDepth 20000 in
theorem tw1783 : Cond.code yX11_byteAt cX11_byteAt 2 (some .int) ∈ tb := tc7 (i := 223) rfl rfl
theorem tw1781 : Cond.instanceMethod yX11_byteAt ∈ tb := tc7 (i := 221) (by decide +kernel) rfl
theorem tw1782 : Cond.selects RX11 yX11_byteAt yX11_byteAt ∈ tb := tc7 (i := 222) (by decide +kernel) rfl
theorem cvL_79 : cOK RL 79 mX11_byteAt 1 ∧ Cond.instanceMethod mX11_byteAt.1 ∈ tb ∧ ∃ (Cn : String) (T : u_T) (N : Nat), vwCl[10]? = some (Cn, T, N) ∧ Cond.selects Cn mX11_byteAt.1 mX11_byteAt.1 ∈ tb := ⟨⟨tw1780, tw133, tw1783, rfl, by decide +kernel⟩, tw1781, RX11, TX11, 31, rfl, tw1782⟩
theorem tw1784 : Cond.methodLink RL 83 yX11_bytes ∈ tb := tc7 (i := 224) (by decide +kernel) rfl
set_option maxRecDepth 20000 in
theorem tw1787 : Cond.code yX11_bytes cX11_bytes 5 (some .long) ∈ tb := tc7 (i := 227) rfl rfl
theorem tw1785 : Cond.instanceMethod yX11_bytes ∈ tb := tc7 (i := 225) (by decide +kernel) rfl
theorem tw1786 : Cond.selects RX11 yX11_bytes yX11_bytes ∈ tb := tc7 (i := 226) (by decide +kernel) rfl
theorem cvL_83 : cOK RL 83 mX11_bytes 1 ∧ Cond.instanceMethod mX11_bytes.1 ∈ tb ∧ ∃ (Cn : String) (T : u_T) (N : Nat), vwCl[10]? = some (Cn, T, N) ∧ Cond.selects Cn mX11_bytes.1 mX11_bytes.1 ∈ tb := ⟨⟨tw1784, tw133, tw1787, rfl, by decide +kernel⟩, tw1785, RX11, TX11, 31, rfl, tw1786⟩
theorem tw1788 : Cond.methodLink RL 88 yX11_make ∈ tb := tc7 (i := 228) (by decide +kernel) rfl
set_option maxRecDepth 20000 in
theorem tw1791 : Cond.code yX11_make cX11_make 6 (some .boolean) ∈ tb := tc7 (i := 231) rfl rfl
theorem tw1789 : Cond.instanceMethod yX11_make ∈ tb := tc7 (i := 229) (by decide +kernel) rfl
theorem tw1790 : Cond.selects RX11 yX11_make yX11_make ∈ tb := tc7 (i := 230) (by decide +kernel) rfl
theorem cvL_88 : cOK RL 88 mX11_make 4 ∧ Cond.instanceMethod mX11_make.1 ∈ tb ∧ ∃ (Cn : String) (T : u_T) (N : Nat), vwCl[10]? = some (Cn, T, N) ∧ Cond.selects Cn mX11_make.1 mX11_make.1 ∈ tb := ⟨⟨tw1788, tw133, tw1791, rfl, by decide +kernel⟩, tw1789, RX11, TX11, 31, rfl, tw1790⟩
theorem tw1792 : Cond.methodLink RL 92 yX11_dot ∈ tb := tc7 (i := 232) (by decide +kernel) rfl
set_option maxRecDepth 20000 in
theorem tw1795 : Cond.code yX11_dot cX11_dot 7 (some .int) ∈ tb := tc7 (i := 235) rfl rfl
theorem tw1793 : Cond.instanceMethod yX11_dot ∈ tb := tc7 (i := 233) (by decide +kernel) rfl
theorem tw1794 : Cond.selects RX11 yX11_dot yX11_dot ∈ tb := tc7 (i := 234) (by decide +kernel) rfl
theorem cvL_92 : cOK RL 92 mX11_dot 4 ∧ Cond.instanceMethod mX11_dot.1 ∈ tb ∧ ∃ (Cn : String) (T : u_T) (N : Nat), vwCl[10]? = some (Cn, T, N) ∧ Cond.selects Cn mX11_dot.1 mX11_dot.1 ∈ tb := ⟨⟨tw1792, tw133, tw1795, rfl, by decide +kernel⟩, tw1793, RX11, TX11, 31, rfl, tw1794⟩
theorem tw1796 : Cond.methodLink RX11 334 yX11_pixelAt ∈ tb := tc7 (i := 236) (by decide +kernel) rfl
set_option maxRecDepth 20000 in
theorem tw1799 : Cond.code yX11_pixelAt cX11_pixelAt 4 (some .int) ∈ tb := tc7 (i := 239) rfl rfl
theorem tw1798 : Cond.instanceMethod yX11_pixelAt ∈ tb := tc7 (i := 238) (by decide +kernel) rfl
theorem tw119 : Cond.selects RX11 yX11_pixelAt yX11_pixelAt ∈ tb := tb_of 119 (by decide +kernel) rfl
theorem cvX11_334 : cOK RX11 334 mX11_pixelAt 3 ∧ Cond.instanceMethod mX11_pixelAt.1 ∈ tb ∧ ∃ (Cn : String) (T : u_T) (N : Nat), vwCl[10]? = some (Cn, T, N) ∧ Cond.selects Cn mX11_pixelAt.1 mX11_pixelAt.1 ∈ tb := ⟨⟨tw1796, tw133, tw1799, rfl, by decide +kernel⟩, tw1798, RX11, TX11, 31, rfl, tw119⟩
theorem tw1800 : Cond.methodLink RL 96 yX11_sweep ∈ tb := tc8 (i := 0) (by decide +kernel) rfl
set_option maxRecDepth 20000 in
theorem tw1803 : Cond.code yX11_sweep cX11_sweep 10 (some .int) ∈ tb := tc8 (i := 3) rfl rfl
theorem tw1801 : Cond.instanceMethod yX11_sweep ∈ tb := tc8 (i := 1) (by decide +kernel) rfl
theorem tw1802 : Cond.selects RX11 yX11_sweep yX11_sweep ∈ tb := tc8 (i := 2) (by decide +kernel) rfl
theorem cvL_96 : cOK RL 96 mX11_sweep 6 ∧ Cond.instanceMethod mX11_sweep.1 ∈ tb ∧ ∃ (Cn : String) (T : u_T) (N : Nat), vwCl[10]? = some (Cn, T, N) ∧ Cond.selects Cn mX11_sweep.1 mX11_sweep.1 ∈ tb := ⟨⟨tw1800, tw133, tw1803, rfl, by decide +kernel⟩, tw1801, RX11, TX11, 31, rfl, tw1802⟩
theorem tw1804 : Cond.methodLink RL 100 yX11_pixel ∈ tb := tc8 (i := 4) (by decide +kernel) rfl
set_option maxRecDepth 20000 in
theorem tw1807 : Cond.code yX11_pixel cX11_pixel 5 (some .int) ∈ tb := tc8 (i := 7) rfl rfl
theorem tw1805 : Cond.instanceMethod yX11_pixel ∈ tb := tc8 (i := 5) (by decide +kernel) rfl
theorem tw1806 : Cond.selects RX11 yX11_pixel yX11_pixel ∈ tb := tc8 (i := 6) (by decide +kernel) rfl
theorem cvL_100 : cOK RL 100 mX11_pixel 3 ∧ Cond.instanceMethod mX11_pixel.1 ∈ tb ∧ ∃ (Cn : String) (T : u_T) (N : Nat), vwCl[10]? = some (Cn, T, N) ∧ Cond.selects Cn mX11_pixel.1 mX11_pixel.1 ∈ tb := ⟨⟨tw1804, tw133, tw1807, rfl, by decide +kernel⟩, tw1805, RX11, TX11, 31, rfl, tw1806⟩
theorem tw1808 : Cond.methodLink RL 104 yX11_raster ∈ tb := tc8 (i := 8) (by decide +kernel) rfl
set_option maxRecDepth 20000 in
theorem tw1811 : Cond.code yX11_raster cX11_raster 3 (some .int) ∈ tb := tc8 (i := 11) rfl rfl
theorem tw1809 : Cond.instanceMethod yX11_raster ∈ tb := tc8 (i := 9) (by decide +kernel) rfl
theorem tw1810 : Cond.selects RX11 yX11_raster yX11_raster ∈ tb := tc8 (i := 10) (by decide +kernel) rfl
theorem cvL_104 : cOK RL 104 mX11_raster 2 ∧ Cond.instanceMethod mX11_raster.1 ∈ tb ∧ ∃ (Cn : String) (T : u_T) (N : Nat), vwCl[10]? = some (Cn, T, N) ∧ Cond.selects Cn mX11_raster.1 mX11_raster.1 ∈ tb := ⟨⟨tw1808, tw133, tw1811, rfl, by decide +kernel⟩, tw1809, RX11, TX11, 31, rfl, tw1810⟩
theorem tw1812 : Cond.methodLink RL 109 yX11_holds ∈ tb := tc8 (i := 12) (by decide +kernel) rfl
set_option maxRecDepth 20000 in
theorem tw1815 : Cond.code yX11_holds cX11_holds 3 (some .boolean) ∈ tb := tc8 (i := 15) rfl rfl
theorem tw1813 : Cond.instanceMethod yX11_holds ∈ tb := tc8 (i := 13) (by decide +kernel) rfl
theorem tw1814 : Cond.selects RX11 yX11_holds yX11_holds ∈ tb := tc8 (i := 14) (by decide +kernel) rfl
theorem cvL_109 : cOK RL 109 mX11_holds 2 ∧ Cond.instanceMethod mX11_holds.1 ∈ tb ∧ ∃ (Cn : String) (T : u_T) (N : Nat), vwCl[10]? = some (Cn, T, N) ∧ Cond.selects Cn mX11_holds.1 mX11_holds.1 ∈ tb := ⟨⟨tw1812, tw133, tw1815, rfl, by decide +kernel⟩, tw1813, RX11, TX11, 31, rfl, tw1814⟩
theorem tw1816 : Cond.methodLink RL 113 yX11_copy ∈ tb := tc8 (i := 16) (by decide +kernel) rfl
set_option maxRecDepth 20000 in
theorem tw1819 : Cond.code yX11_copy cX11_copy 4 (some .boolean) ∈ tb := tc8 (i := 19) rfl rfl
theorem tw1817 : Cond.instanceMethod yX11_copy ∈ tb := tc8 (i := 17) (by decide +kernel) rfl
theorem tw1818 : Cond.selects RX11 yX11_copy yX11_copy ∈ tb := tc8 (i := 18) (by decide +kernel) rfl
theorem cvL_113 : cOK RL 113 mX11_copy 2 ∧ Cond.instanceMethod mX11_copy.1 ∈ tb ∧ ∃ (Cn : String) (T : u_T) (N : Nat), vwCl[10]? = some (Cn, T, N) ∧ Cond.selects Cn mX11_copy.1 mX11_copy.1 ∈ tb := ⟨⟨tw1816, tw133, tw1819, rfl, by decide +kernel⟩, tw1817, RX11, TX11, 31, rfl, tw1818⟩
theorem tw1820 : Cond.methodLink RL 117 yX11_same ∈ tb := tc8 (i := 20) (by decide +kernel) rfl
set_option maxRecDepth 20000 in
theorem tw1823 : Cond.code yX11_same cX11_same 4 (some .boolean) ∈ tb := tc8 (i := 23) rfl rfl
theorem tw1821 : Cond.instanceMethod yX11_same ∈ tb := tc8 (i := 21) (by decide +kernel) rfl
theorem tw1822 : Cond.selects RX11 yX11_same yX11_same ∈ tb := tc8 (i := 22) (by decide +kernel) rfl
theorem cvL_117 : cOK RL 117 mX11_same 2 ∧ Cond.instanceMethod mX11_same.1 ∈ tb ∧ ∃ (Cn : String) (T : u_T) (N : Nat), vwCl[10]? = some (Cn, T, N) ∧ Cond.selects Cn mX11_same.1 mX11_same.1 ∈ tb := ⟨⟨tw1820, tw133, tw1823, rfl, by decide +kernel⟩, tw1821, RX11, TX11, 31, rfl, tw1822⟩
theorem tw1824 : Cond.methodLink RL 121 yX11_chain ∈ tb := tc8 (i := 24) (by decide +kernel) rfl
set_option maxRecDepth 20000 in
theorem tw1827 : Cond.code yX11_chain cX11_chain 8 (some .int) ∈ tb := tc8 (i := 27) rfl rfl
theorem tw1825 : Cond.instanceMethod yX11_chain ∈ tb := tc8 (i := 25) (by decide +kernel) rfl
theorem tw1826 : Cond.selects RX11 yX11_chain yX11_chain ∈ tb := tc8 (i := 26) (by decide +kernel) rfl
theorem cvL_121 : cOK RL 121 mX11_chain 3 ∧ Cond.instanceMethod mX11_chain.1 ∈ tb ∧ ∃ (Cn : String) (T : u_T) (N : Nat), vwCl[10]? = some (Cn, T, N) ∧ Cond.selects Cn mX11_chain.1 mX11_chain.1 ∈ tb := ⟨⟨tw1824, tw133, tw1827, rfl, by decide +kernel⟩, tw1825, RX11, TX11, 31, rfl, tw1826⟩
theorem tw147 : Cond.classLink RL 8 RX10 ∈ tb := tc1 (i := 27) (by decide +kernel) rfl
theorem tw148 : Cond.instantiable RX10 9 ∈ tb := tc1 (i := 28) (by decide +kernel) rfl
theorem knL_8 : newOK RL 8 9 9 [.null, .null, .null, .null, .null, .null, .null, .null, .int 0] := ⟨RX10, TX10, tyX10, rfl, inT9, tyX10_ok, tw147, tw148, tw121, by decide +kernel, by simp⟩
theorem tw155 : Cond.classLink RX10 9 RX7 ∈ tb := tc1 (i := 35) (by decide +kernel) rfl
theorem tw157 : Cond.instantiable RX7 3 ∈ tb := tc1 (i := 37) (by decide +kernel) rfl
theorem knX10_9 : newOK RX10 9 6 3 [.null, .int 0, .int 0] := ⟨RX7, TX7, tyX7, rfl, inT6, tyX7_ok, tw155, tw157, tw122, by decide +kernel, by simp⟩
theorem ka_int : Cond.arrayClass .int ∈ tb := tc1 (i := 66) (by decide +kernel) rfl
theorem tw187 : Cond.classLink RX10 20 RX1 ∈ tb := tc1 (i := 67) (by decide +kernel) rfl
theorem tw188 : Cond.instantiable RX1 2 ∈ tb := tc1 (i := 68) (by decide +kernel) rfl
theorem knX10_20 : newOK RX10 20 1 2 [.null, .int 0] := ⟨RX1, TX1, tyX1, rfl, inT1, tyX1_ok, tw187, tw188, tw123, by decide +kernel, by simp⟩
theorem kcX1_9 : Cond.constant RX1 9 (65536) ∈ tb := tc1 (i := 73) (by decide +kernel) rfl
theorem ka_byte : Cond.arrayClass .byte ∈ tb := tc1 (i := 85) (by decide +kernel) rfl
theorem tw206 : Cond.classLink RX10 30 RX8 ∈ tb := tc1 (i := 86) (by decide +kernel) rfl
theorem tw207 : Cond.instantiable RX8 5 ∈ tb := tc1 (i := 87) (by decide +kernel) rfl
theorem knX10_30 : newOK RX10 30 7 5 [.null, .int 0, .int 0, .int 0, .int 0] := ⟨RX8, TX8, tyX8, rfl, inT7, tyX8_ok, tw206, tw207, tw124, by decide +kernel, by simp⟩
theorem tw238 : Cond.classLink RX10 39 RX3 ∈ tb := tc1 (i := 118) (by decide +kernel) rfl
theorem tw239 : Cond.instantiable RX3 3 ∈ tb := tc1 (i := 119) (by decide +kernel) rfl
theorem knX10_39 : newOK RX10 39 2 3 [.null, .null, .int 0] := ⟨RX3, TX3, tyX3, rfl, inT2, tyX3_ok, tw238, tw239, tw125, by decide +kernel, by simp⟩
theorem tw259 : Cond.classLink RX10 52 RX6 ∈ tb := tc1 (i := 139) (by decide +kernel) rfl
theorem tw260 : Cond.instantiable RX6 5 ∈ tb := tc1 (i := 140) (by decide +kernel) rfl
theorem knX10_52 : newOK RX10 52 5 5 [.int 0, .int 0, .int 0, .null, .int 0] := ⟨RX6, TX6, tyX6, rfl, inT5, tyX6_ok, tw259, tw260, tw127, by decide +kernel, by simp⟩
theorem tw314 : Cond.classLink RX10 55 RX5 ∈ tb := tc1 (i := 194) (by decide +kernel) rfl
theorem tw315 : Cond.instantiable RX5 4 ∈ tb := tc1 (i := 195) (by decide +kernel) rfl
theorem knX10_55 : newOK RX10 55 4 4 [.int 0, .int 0, .int 0, .int 0] := ⟨RX5, TX5, tyX5, rfl, inT4, tyX5_ok, tw314, tw315, tw128, by decide +kernel, by simp⟩
theorem tw327 : Cond.classLink RX10 58 RX0 ∈ tb := tc1 (i := 207) (by decide +kernel) rfl
theorem tw328 : Cond.instantiable RX0 12 ∈ tb := tc1 (i := 208) (by decide +kernel) rfl
theorem knX10_58 : newOK RX10 58 0 12 [.int 0, .int 0, .int 0, .null, .null, .int 0, .int 0, .int 0, .int 0, .int 0, .int 0, .int 0] := ⟨RX0, TX0, tyX0, rfl, inT0, tyX0_ok, tw327, tw328, tw129, by decide +kernel, by simp⟩
theorem tw364 : Cond.classLink RX10 63 RX9 ∈ tb := tc2 (i := 4) (by decide +kernel) rfl
theorem tw365 : Cond.instantiable RX9 17 ∈ tb := tc2 (i := 5) (by decide +kernel) rfl
theorem knX10_63 : newOK RX10 63 8 17 [.int 0, .int 0, .int 0, .null, .null, .int 0, .int 0, .int 0, .int 0, .int 0, .int 0, .int 0, .int 0, .int 0, .int 0, .int 0, .int 0] := ⟨RX9, TX9, tyX9, rfl, inT8, tyX9_ok, tw364, tw365, tw130, by decide +kernel, by simp⟩
theorem tw416 : Cond.classLink RX10 66 RX4 ∈ tb := tc2 (i := 56) (by decide +kernel) rfl
theorem tw417 : Cond.instantiable RX4 10 ∈ tb := tc2 (i := 57) (by decide +kernel) rfl
theorem knX10_66 : newOK RX10 66 3 10 [.int 0, .int 0, .int 0, .null, .null, .int 0, .int 0, .int 0, .int 0, .int 0] := ⟨RX4, TX4, tyX4, rfl, inT3, tyX4_ok, tw416, tw417, tw131, by decide +kernel, by simp⟩
theorem kcX10_86 : Cond.constant RX10 86 (65516) ∈ tb := tc2 (i := 122) (by decide +kernel) rfl
theorem kcX3_46 : Cond.constant RX3 46 (739982445) ∈ tb := tc2 (i := 227) (by decide +kernel) rfl
theorem kcX3_47 : Cond.constant RX3 47 (695872825) ∈ tb := tc2 (i := 228) (by decide +kernel) rfl
theorem kcX10_228 : Cond.constantLong RX10 228 (4096) ∈ tb := tc3 (i := 199) (by decide +kernel) rfl
theorem kcX5_76 : Cond.constant RX5 76 (1000000) ∈ tb := tc5 (i := 45) (by decide +kernel) rfl
theorem kcX5_39 : Cond.constant RX5 39 (65535) ∈ tb := tc5 (i := 52) (by decide +kernel) rfl
theorem kcX6_57 : Cond.constantLong RX6 57 (4294967295) ∈ tb := tc5 (i := 84) (by decide +kernel) rfl
theorem tw1392 : Cond.classLink RL 36 RX11 ∈ tb := tc6 (i := 72) (by decide +kernel) rfl
theorem tw1393 : Cond.instantiable RX11 31 ∈ tb := tc6 (i := 73) (by decide +kernel) rfl
theorem knL_36 : newOK RL 36 10 31 [.null, .int 0, .null, .int 0, .int 0, .null, .null, .null, .int 0, .null, .int 0, .int 0, .int 0, .int 0, .null, .int 0, .int 0, .int 0, .int 0, .int 0, .int 0, .int 0, .int 0, .int 0, .int 0, .null, .null, .null, .null, .null, .int 0] := ⟨RX11, TX11, tyX11, rfl, inT10, tyX11_ok, tw1392, tw1393, tw133, by decide +kernel, by simp⟩
theorem kcX11_9 : Cond.constant RX11 9 (65536) ∈ tb := tc6 (i := 78) (by decide +kernel) rfl
theorem kcX11_97 : Cond.constantLong RX11 97 (256) ∈ tb := tc6 (i := 228) (by decide +kernel) rfl
theorem kcX11_107 : Cond.constantLong RX11 107 (4096) ∈ tb := tc6 (i := 233) (by decide +kernel) rfl
theorem kcX11_155 : Cond.constant RX11 155 (1000000) ∈ tb := tc7 (i := 27) (by decide +kernel) rfl
theorem kcX11_163 : Cond.constant RX11 163 (65535) ∈ tb := tc7 (i := 28) (by decide +kernel) rfl
theorem kcX11_186 : Cond.constantLong RX11 186 (40) ∈ tb := tc7 (i := 59) (by decide +kernel) rfl
theorem kcX11_188 : Cond.constantLong RX11 188 (2) ∈ tb := tc7 (i := 60) (by decide +kernel) rfl
theorem kcX11_190 : Cond.constantLong RX11 190 (54) ∈ tb := tc7 (i := 61) (by decide +kernel) rfl
theorem kcX11_192 : Cond.constantLong RX11 192 (4) ∈ tb := tc7 (i := 62) (by decide +kernel) rfl
theorem ka_long : Cond.arrayClass .long ∈ tb := tc8 (i := 28) (by decide +kernel) rfl
