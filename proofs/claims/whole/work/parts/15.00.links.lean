/-! 15.00: what the calls ask (by gen15.py) -/
theorem iss_gX0_init : bkIsS gX0_init = false := by decide +kernel
theorem ict_gX0_init : bkCt gX0_init = true := by decide +kernel
theorem iss_gX0_isDigitAt : bkIsS gX0_isDigitAt = false := by decide +kernel
theorem ict_gX0_isDigitAt : bkCt gX0_isDigitAt = false := by decide +kernel
theorem iss_gX0_put : bkIsS gX0_put = false := by decide +kernel
theorem ict_gX0_put : bkCt gX0_put = false := by decide +kernel
theorem iss_gX0_readAndEmpty : bkIsS gX0_readAndEmpty = false := by decide +kernel
theorem ict_gX0_readAndEmpty : bkCt gX0_readAndEmpty = false := by decide +kernel
theorem iss_gX0_readBlock : bkIsS gX0_readBlock = false := by decide +kernel
theorem ict_gX0_readBlock : bkCt gX0_readBlock = false := by decide +kernel
theorem iss_gX0_readCopies : bkIsS gX0_readCopies = false := by decide +kernel
theorem ict_gX0_readCopies : bkCt gX0_readCopies = false := by decide +kernel
theorem iss_gX0_readNumber : bkIsS gX0_readNumber = false := by decide +kernel
theorem ict_gX0_readNumber : bkCt gX0_readNumber = false := by decide +kernel
theorem iss_gX0_readSign : bkIsS gX0_readSign = false := by decide +kernel
theorem ict_gX0_readSign : bkCt gX0_readSign = false := by decide +kernel
theorem iss_gX1_init : bkIsS gX1_init = false := by decide +kernel
theorem ict_gX1_init : bkCt gX1_init = true := by decide +kernel
theorem iss_gX1_clothArea : bkIsS gX1_clothArea = false := by decide +kernel
theorem ict_gX1_clothArea : bkCt gX1_clothArea = false := by decide +kernel
theorem iss_gX1_firstStripWith : bkIsS gX1_firstStripWith = false := by decide +kernel
theorem ict_gX1_firstStripWith : bkCt gX1_firstStripWith = false := by decide +kernel
theorem iss_gX1_fit : bkIsS gX1_fit = false := by decide +kernel
theorem ict_gX1_fit : bkCt gX1_fit = false := by decide +kernel
theorem iss_gX1_lay : bkIsS gX1_lay = false := by decide +kernel
theorem ict_gX1_lay : bkCt gX1_lay = false := by decide +kernel
theorem iss_gX1_layCloth : bkIsS gX1_layCloth = false := by decide +kernel
theorem ict_gX1_layCloth : bkCt gX1_layCloth = false := by decide +kernel
theorem iss_gX1_leastLength : bkIsS gX1_leastLength = false := by decide +kernel
theorem ict_gX1_leastLength : bkCt gX1_leastLength = false := by decide +kernel
theorem iss_gX1_leastLengthOf : bkIsS gX1_leastLengthOf = false := by decide +kernel
theorem ict_gX1_leastLengthOf : bkCt gX1_leastLengthOf = false := by decide +kernel
theorem iss_gX1_longestOf : bkIsS gX1_longestOf = true := by decide +kernel
theorem ict_gX1_longestOf : bkCt gX1_longestOf = false := by decide +kernel
theorem iss_gX1_stripOfBook : bkIsS gX1_stripOfBook = false := by decide +kernel
theorem ict_gX1_stripOfBook : bkCt gX1_stripOfBook = false := by decide +kernel
theorem iss_gX2_init : bkIsS gX2_init = false := by decide +kernel
theorem ict_gX2_init : bkCt gX2_init = true := by decide +kernel
theorem iss_gX2_bringBack : bkIsS gX2_bringBack = false := by decide +kernel
theorem ict_gX2_bringBack : bkCt gX2_bringBack = false := by decide +kernel
theorem iss_gX2_forget : bkIsS gX2_forget = false := by decide +kernel
theorem ict_gX2_forget : bkCt gX2_forget = false := by decide +kernel
theorem iss_gX2_keep : bkIsS gX2_keep = false := by decide +kernel
theorem ict_gX2_keep : bkCt gX2_keep = false := by decide +kernel
theorem iss_gX3_init : bkIsS gX3_init = false := by decide +kernel
theorem ict_gX3_init : bkCt gX3_init = true := by decide +kernel
theorem iss_gX3_copyFrom : bkIsS gX3_copyFrom = false := by decide +kernel
theorem ict_gX3_copyFrom : bkCt gX3_copyFrom = false := by decide +kernel
theorem iss_gX3_countOf : bkIsS gX3_countOf = false := by decide +kernel
theorem ict_gX3_countOf : bkCt gX3_countOf = false := by decide +kernel
theorem iss_gX3_dropEmptyLots : bkIsS gX3_dropEmptyLots = false := by decide +kernel
theorem ict_gX3_dropEmptyLots : bkCt gX3_dropEmptyLots = false := by decide +kernel
theorem iss_gX3_put : bkIsS gX3_put = false := by decide +kernel
theorem ict_gX3_put : bkCt gX3_put = false := by decide +kernel
theorem iss_gX3_slotOf : bkIsS gX3_slotOf = false := by decide +kernel
theorem ict_gX3_slotOf : bkCt gX3_slotOf = false := by decide +kernel
theorem iss_gX3_take : bkIsS gX3_take = false := by decide +kernel
theorem ict_gX3_take : bkCt gX3_take = false := by decide +kernel
theorem iss_gX3_unitsOf : bkIsS gX3_unitsOf = false := by decide +kernel
theorem ict_gX3_unitsOf : bkCt gX3_unitsOf = false := by decide +kernel
theorem iss_gX3_worth : bkIsS gX3_worth = false := by decide +kernel
theorem ict_gX3_worth : bkCt gX3_worth = false := by decide +kernel
theorem iss_gX4_init : bkIsS gX4_init = false := by decide +kernel
theorem ict_gX4_init : bkCt gX4_init = true := by decide +kernel
theorem iss_gX4_changedPieces : bkIsS gX4_changedPieces = false := by decide +kernel
theorem ict_gX4_changedPieces : bkCt gX4_changedPieces = false := by decide +kernel
theorem iss_gX4_note : bkIsS gX4_note = false := by decide +kernel
theorem ict_gX4_note : bkCt gX4_note = false := by decide +kernel
theorem iss_gX5_init : bkIsS gX5_init = false := by decide +kernel
theorem ict_gX5_init : bkCt gX5_init = true := by decide +kernel
theorem iss_gX5_blockNumber : bkIsS gX5_blockNumber = false := by decide +kernel
theorem ict_gX5_blockNumber : bkCt gX5_blockNumber = false := by decide +kernel
theorem iss_gX5_boardUnitsFor : bkIsS gX5_boardUnitsFor = false := by decide +kernel
theorem ict_gX5_boardUnitsFor : bkCt gX5_boardUnitsFor = false := by decide +kernel
theorem iss_gX5_clothUnitsFor : bkIsS gX5_clothUnitsFor = false := by decide +kernel
theorem ict_gX5_clothUnitsFor : bkCt gX5_clothUnitsFor = false := by decide +kernel
theorem iss_gX5_copyFrom : bkIsS gX5_copyFrom = false := by decide +kernel
theorem ict_gX5_copyFrom : bkCt gX5_copyFrom = false := by decide +kernel
theorem iss_gX5_isClothTooBroad : bkIsS gX5_isClothTooBroad = false := by decide +kernel
theorem ict_gX5_isClothTooBroad : bkCt gX5_isClothTooBroad = false := by decide +kernel
theorem iss_gX5_pieceBreadth : bkIsS gX5_pieceBreadth = false := by decide +kernel
theorem ict_gX5_pieceBreadth : bkCt gX5_pieceBreadth = false := by decide +kernel
theorem iss_gX5_pieceLength : bkIsS gX5_pieceLength = false := by decide +kernel
theorem ict_gX5_pieceLength : bkCt gX5_pieceLength = false := by decide +kernel
theorem iss_gX5_putBlockNumber : bkIsS gX5_putBlockNumber = false := by decide +kernel
theorem ict_gX5_putBlockNumber : bkCt gX5_putBlockNumber = false := by decide +kernel
theorem iss_gX5_putBook : bkIsS gX5_putBook = false := by decide +kernel
theorem ict_gX5_putBook : bkCt gX5_putBook = false := by decide +kernel
theorem iss_gX5_putSheet : bkIsS gX5_putSheet = false := by decide +kernel
theorem ict_gX5_putSheet : bkCt gX5_putSheet = false := by decide +kernel
theorem iss_gX5_reasonAgainst : bkIsS gX5_reasonAgainst = false := by decide +kernel
theorem ict_gX5_reasonAgainst : bkCt gX5_reasonAgainst = false := by decide +kernel
theorem iss_gX5_sheetNumber : bkIsS gX5_sheetNumber = false := by decide +kernel
theorem ict_gX5_sheetNumber : bkCt gX5_sheetNumber = false := by decide +kernel
theorem iss_gX5_sheetsFor : bkIsS gX5_sheetsFor = false := by decide +kernel
theorem ict_gX5_sheetsFor : bkCt gX5_sheetsFor = false := by decide +kernel
theorem iss_gX5_unitsFor : bkIsS gX5_unitsFor = false := by decide +kernel
theorem ict_gX5_unitsFor : bkCt gX5_unitsFor = false := by decide +kernel
theorem iss_gX5_useUnitsFor : bkIsS gX5_useUnitsFor = false := by decide +kernel
theorem ict_gX5_useUnitsFor : bkCt gX5_useUnitsFor = false := by decide +kernel
theorem iss_gX5_yieldFor : bkIsS gX5_yieldFor = false := by decide +kernel
theorem ict_gX5_yieldFor : bkCt gX5_yieldFor = false := by decide +kernel
theorem iss_gX6_init : bkIsS gX6_init = false := by decide +kernel
theorem ict_gX6_init : bkCt gX6_init = true := by decide +kernel
theorem iss_gX6_copyFrom : bkIsS gX6_copyFrom = false := by decide +kernel
theorem ict_gX6_copyFrom : bkCt gX6_copyFrom = false := by decide +kernel
theorem iss_gX6_listPrice : bkIsS gX6_listPrice = false := by decide +kernel
theorem ict_gX6_listPrice : bkCt gX6_listPrice = false := by decide +kernel
theorem iss_gX6_put : bkIsS gX6_put = false := by decide +kernel
theorem ict_gX6_put : bkCt gX6_put = false := by decide +kernel
theorem iss_gX6_remove : bkIsS gX6_remove = false := by decide +kernel
theorem ict_gX6_remove : bkCt gX6_remove = false := by decide +kernel
theorem iss_gX6_slotFrom : bkIsS gX6_slotFrom = false := by decide +kernel
theorem ict_gX6_slotFrom : bkCt gX6_slotFrom = false := by decide +kernel
theorem iss_gX7_greatestDistance : bkIsS gX7_greatestDistance = true := by decide +kernel
theorem ict_gX7_greatestDistance : bkCt gX7_greatestDistance = false := by decide +kernel
theorem iss_gX7_lastStation : bkIsS gX7_lastStation = true := by decide +kernel
theorem ict_gX7_lastStation : bkCt gX7_lastStation = false := by decide +kernel
theorem iss_gX7_place : bkIsS gX7_place = true := by decide +kernel
theorem ict_gX7_place : bkCt gX7_place = false := by decide +kernel
theorem iss_gX7_tapeCount : bkIsS gX7_tapeCount = true := by decide +kernel
theorem ict_gX7_tapeCount : bkCt gX7_tapeCount = false := by decide +kernel
theorem iss_gX8_init : bkIsS gX8_init = false := by decide +kernel
theorem ict_gX8_init : bkCt gX8_init = true := by decide +kernel
theorem iss_gX8_account : bkIsS gX8_account = false := by decide +kernel
theorem ict_gX8_account : bkCt gX8_account = false := by decide +kernel
theorem iss_gX8_addBook : bkIsS gX8_addBook = false := by decide +kernel
theorem ict_gX8_addBook : bkCt gX8_addBook = false := by decide +kernel
theorem iss_gX8_addChecked : bkIsS gX8_addChecked = false := by decide +kernel
theorem ict_gX8_addChecked : bkCt gX8_addChecked = false := by decide +kernel
theorem iss_gX8_append : bkIsS gX8_append = false := by decide +kernel
theorem ict_gX8_append : bkCt gX8_append = false := by decide +kernel
theorem iss_gX8_block : bkIsS gX8_block = false := by decide +kernel
theorem ict_gX8_block : bkCt gX8_block = false := by decide +kernel
theorem iss_gX8_boardShare : bkIsS gX8_boardShare = false := by decide +kernel
theorem ict_gX8_boardShare : bkCt gX8_boardShare = false := by decide +kernel
theorem iss_gX8_buy : bkIsS gX8_buy = false := by decide +kernel
theorem ict_gX8_buy : bkCt gX8_buy = false := by decide +kernel
theorem iss_gX8_clothWaste : bkIsS gX8_clothWaste = false := by decide +kernel
theorem ict_gX8_clothWaste : bkCt gX8_clothWaste = false := by decide +kernel
theorem iss_gX8_cost : bkIsS gX8_cost = false := by decide +kernel
theorem ict_gX8_cost : bkCt gX8_cost = false := by decide +kernel
theorem iss_gX8_dropPrice : bkIsS gX8_dropPrice = false := by decide +kernel
theorem ict_gX8_dropPrice : bkCt gX8_dropPrice = false := by decide +kernel
theorem iss_gX8_faultPosition : bkIsS gX8_faultPosition = false := by decide +kernel
theorem ict_gX8_faultPosition : bkCt gX8_faultPosition = false := by decide +kernel
theorem iss_gX8_fittedCloth : bkIsS gX8_fittedCloth = false := by decide +kernel
theorem ict_gX8_fittedCloth : bkCt gX8_fittedCloth = false := by decide +kernel
theorem iss_gX8_isBlockNumber : bkIsS gX8_isBlockNumber = true := by decide +kernel
theorem ict_gX8_isBlockNumber : bkCt gX8_isBlockNumber = false := by decide +kernel
theorem iss_gX8_isPrice : bkIsS gX8_isPrice = true := by decide +kernel
theorem ict_gX8_isPrice : bkCt gX8_isPrice = false := by decide +kernel
theorem iss_gX8_isSheetSide : bkIsS gX8_isSheetSide = true := by decide +kernel
theorem ict_gX8_isSheetSide : bkCt gX8_isSheetSide = false := by decide +kernel
theorem iss_gX8_layCloths : bkIsS gX8_layCloths = false := by decide +kernel
theorem ict_gX8_layCloths : bkCt gX8_layCloths = false := by decide +kernel
theorem iss_gX8_leastCloth : bkIsS gX8_leastCloth = false := by decide +kernel
theorem ict_gX8_leastCloth : bkCt gX8_leastCloth = false := by decide +kernel
theorem iss_gX8_lot : bkIsS gX8_lot = false := by decide +kernel
theorem ict_gX8_lot : bkCt gX8_lot = false := by decide +kernel
theorem iss_gX8_make : bkIsS gX8_make = false := by decide +kernel
theorem ict_gX8_make : bkCt gX8_make = false := by decide +kernel
theorem iss_gX8_needed : bkIsS gX8_needed = false := by decide +kernel
theorem ict_gX8_needed : bkCt gX8_needed = false := by decide +kernel
theorem iss_gX8_pass : bkIsS gX8_pass = false := by decide +kernel
theorem ict_gX8_pass : bkCt gX8_pass = false := by decide +kernel
theorem iss_gX8_perSheet : bkIsS gX8_perSheet = false := by decide +kernel
theorem ict_gX8_perSheet : bkCt gX8_perSheet = false := by decide +kernel
theorem iss_gX8_piece : bkIsS gX8_piece = false := by decide +kernel
theorem ict_gX8_piece : bkCt gX8_piece = false := by decide +kernel
theorem iss_gX8_price : bkIsS gX8_price = false := by decide +kernel
theorem ict_gX8_price : bkCt gX8_price = false := by decide +kernel
theorem iss_gX8_readBook : bkIsS gX8_readBook = false := by decide +kernel
theorem ict_gX8_readBook : bkCt gX8_readBook = false := by decide +kernel
theorem iss_gX8_refusal : bkIsS gX8_refusal = false := by decide +kernel
theorem ict_gX8_refusal : bkCt gX8_refusal = false := by decide +kernel
theorem iss_gX8_requireBook : bkIsS gX8_requireBook = false := by decide +kernel
theorem ict_gX8_requireBook : bkCt gX8_requireBook = false := by decide +kernel
theorem iss_gX8_requireMaterial : bkIsS gX8_requireMaterial = true := by decide +kernel
theorem ict_gX8_requireMaterial : bkCt gX8_requireMaterial = false := by decide +kernel
theorem iss_gX8_requirePiece : bkIsS gX8_requirePiece = true := by decide +kernel
theorem ict_gX8_requirePiece : bkCt gX8_requirePiece = false := by decide +kernel
theorem iss_gX8_requireSetting : bkIsS gX8_requireSetting = true := by decide +kernel
theorem ict_gX8_requireSetting : bkCt gX8_requireSetting = false := by decide +kernel
theorem iss_gX8_requireSheetMaterial : bkIsS gX8_requireSheetMaterial = true := by decide +kernel
theorem ict_gX8_requireSheetMaterial : bkCt gX8_requireSheetMaterial = false := by decide +kernel
theorem iss_gX8_restore : bkIsS gX8_restore = false := by decide +kernel
theorem ict_gX8_restore : bkCt gX8_restore = false := by decide +kernel
theorem iss_gX8_save : bkIsS gX8_save = false := by decide +kernel
theorem ict_gX8_save : bkCt gX8_save = false := by decide +kernel
theorem iss_gX8_set : bkIsS gX8_set = false := by decide +kernel
theorem ict_gX8_set : bkCt gX8_set = false := by decide +kernel
theorem iss_gX8_setBlock : bkIsS gX8_setBlock = false := by decide +kernel
theorem ict_gX8_setBlock : bkCt gX8_setBlock = false := by decide +kernel
theorem iss_gX8_setPrice : bkIsS gX8_setPrice = false := by decide +kernel
theorem ict_gX8_setPrice : bkCt gX8_setPrice = false := by decide +kernel
theorem iss_gX8_setSheet : bkIsS gX8_setSheet = false := by decide +kernel
theorem ict_gX8_setSheet : bkCt gX8_setSheet = false := by decide +kernel
theorem iss_gX8_setting : bkIsS gX8_setting = false := by decide +kernel
theorem ict_gX8_setting : bkCt gX8_setting = false := by decide +kernel
theorem iss_gX8_sheet : bkIsS gX8_sheet = false := by decide +kernel
theorem ict_gX8_sheet : bkCt gX8_sheet = false := by decide +kernel
theorem iss_gX8_station : bkIsS gX8_station = false := by decide +kernel
theorem ict_gX8_station : bkCt gX8_station = false := by decide +kernel
theorem iss_gX8_stock : bkIsS gX8_stock = false := by decide +kernel
theorem ict_gX8_stock : bkCt gX8_stock = false := by decide +kernel
theorem iss_gX8_strip : bkIsS gX8_strip = false := by decide +kernel
theorem ict_gX8_strip : bkCt gX8_strip = false := by decide +kernel
theorem iss_gX8_strips : bkIsS gX8_strips = false := by decide +kernel
theorem ict_gX8_strips : bkCt gX8_strips = false := by decide +kernel
theorem iss_gX8_tapes : bkIsS gX8_tapes = false := by decide +kernel
theorem ict_gX8_tapes : bkCt gX8_tapes = false := by decide +kernel
theorem iss_gX8_undo : bkIsS gX8_undo = false := by decide +kernel
theorem ict_gX8_undo : bkCt gX8_undo = false := by decide +kernel
theorem iss_gX8_widestGap : bkIsS gX8_widestGap = false := by decide +kernel
theorem ict_gX8_widestGap : bkCt gX8_widestGap = false := by decide +kernel
theorem iss_gX8_wouldRefuse : bkIsS gX8_wouldRefuse = false := by decide +kernel
theorem ict_gX8_wouldRefuse : bkCt gX8_wouldRefuse = false := by decide +kernel
theorem iss_gX9_init : bkIsS gX9_init = false := by decide +kernel
theorem ict_gX9_init : bkCt gX9_init = true := by decide +kernel
theorem iss_gX9_account : bkIsS gX9_account = false := by decide +kernel
theorem ict_gX9_account : bkCt gX9_account = false := by decide +kernel
theorem iss_gX9_add : bkIsS gX9_add = false := by decide +kernel
theorem ict_gX9_add : bkCt gX9_add = false := by decide +kernel
theorem iss_gX9_addBook : bkIsS gX9_addBook = false := by decide +kernel
theorem ict_gX9_addBook : bkCt gX9_addBook = false := by decide +kernel
theorem iss_gX9_append : bkIsS gX9_append = false := by decide +kernel
theorem ict_gX9_append : bkCt gX9_append = false := by decide +kernel
theorem iss_gX9_block : bkIsS gX9_block = false := by decide +kernel
theorem ict_gX9_block : bkCt gX9_block = false := by decide +kernel
theorem iss_gX9_boardBreadth : bkIsS gX9_boardBreadth = false := by decide +kernel
theorem ict_gX9_boardBreadth : bkCt gX9_boardBreadth = false := by decide +kernel
theorem iss_gX9_boardLength : bkIsS gX9_boardLength = false := by decide +kernel
theorem ict_gX9_boardLength : bkCt gX9_boardLength = false := by decide +kernel
theorem iss_gX9_boardShare : bkIsS gX9_boardShare = false := by decide +kernel
theorem ict_gX9_boardShare : bkCt gX9_boardShare = false := by decide +kernel
theorem iss_gX9_breadthOf : bkIsS gX9_breadthOf = false := by decide +kernel
theorem ict_gX9_breadthOf : bkCt gX9_breadthOf = false := by decide +kernel
theorem iss_gX9_buy : bkIsS gX9_buy = false := by decide +kernel
theorem ict_gX9_buy : bkCt gX9_buy = false := by decide +kernel
theorem iss_gX9_change : bkIsS gX9_change = false := by decide +kernel
theorem ict_gX9_change : bkCt gX9_change = false := by decide +kernel
theorem iss_gX9_clothWaste : bkIsS gX9_clothWaste = false := by decide +kernel
theorem ict_gX9_clothWaste : bkCt gX9_clothWaste = false := by decide +kernel
theorem iss_gX9_cost : bkIsS gX9_cost = false := by decide +kernel
theorem ict_gX9_cost : bkCt gX9_cost = false := by decide +kernel
theorem iss_gX9_dropPrice : bkIsS gX9_dropPrice = false := by decide +kernel
theorem ict_gX9_dropPrice : bkCt gX9_dropPrice = false := by decide +kernel
theorem iss_gX9_exchange : bkIsS gX9_exchange = false := by decide +kernel
theorem ict_gX9_exchange : bkCt gX9_exchange = false := by decide +kernel
theorem iss_gX9_faultPosition : bkIsS gX9_faultPosition = false := by decide +kernel
theorem ict_gX9_faultPosition : bkCt gX9_faultPosition = false := by decide +kernel
theorem iss_gX9_fit : bkIsS gX9_fit = false := by decide +kernel
theorem ict_gX9_fit : bkCt gX9_fit = false := by decide +kernel
theorem iss_gX9_fittedCloth : bkIsS gX9_fittedCloth = false := by decide +kernel
theorem ict_gX9_fittedCloth : bkCt gX9_fittedCloth = false := by decide +kernel
theorem iss_gX9_get : bkIsS gX9_get = false := by decide +kernel
theorem ict_gX9_get : bkCt gX9_get = false := by decide +kernel
theorem iss_gX9_has : bkIsS gX9_has = true := by decide +kernel
theorem ict_gX9_has : bkCt gX9_has = false := by decide +kernel
theorem iss_gX9_in : bkIsS gX9_in = true := by decide +kernel
theorem ict_gX9_in : bkCt gX9_in = false := by decide +kernel
theorem iss_gX9_isBlock : bkIsS gX9_isBlock = true := by decide +kernel
theorem ict_gX9_isBlock : bkCt gX9_isBlock = false := by decide +kernel
theorem iss_gX9_isBook : bkIsS gX9_isBook = false := by decide +kernel
theorem ict_gX9_isBook : bkCt gX9_isBook = false := by decide +kernel
theorem iss_gX9_isHere : bkIsS gX9_isHere = false := by decide +kernel
theorem ict_gX9_isHere : bkCt gX9_isHere = false := by decide +kernel
theorem iss_gX9_isMaterial : bkIsS gX9_isMaterial = true := by decide +kernel
theorem ict_gX9_isMaterial : bkCt gX9_isMaterial = false := by decide +kernel
theorem iss_gX9_isNumber : bkIsS gX9_isNumber = true := by decide +kernel
theorem ict_gX9_isNumber : bkCt gX9_isNumber = false := by decide +kernel
theorem iss_gX9_isOther : bkIsS gX9_isOther = false := by decide +kernel
theorem ict_gX9_isOther : bkCt gX9_isOther = false := by decide +kernel
theorem iss_gX9_isSettingValue : bkIsS gX9_isSettingValue = true := by decide +kernel
theorem ict_gX9_isSettingValue : bkCt gX9_isSettingValue = false := by decide +kernel
theorem iss_gX9_isTooBroad : bkIsS gX9_isTooBroad = false := by decide +kernel
theorem ict_gX9_isTooBroad : bkCt gX9_isTooBroad = false := by decide +kernel
theorem iss_gX9_leastCloth : bkIsS gX9_leastCloth = false := by decide +kernel
theorem ict_gX9_leastCloth : bkCt gX9_leastCloth = false := by decide +kernel
theorem iss_gX9_leastOf : bkIsS gX9_leastOf = false := by decide +kernel
theorem ict_gX9_leastOf : bkCt gX9_leastOf = false := by decide +kernel
theorem iss_gX9_lengthOf : bkIsS gX9_lengthOf = false := by decide +kernel
theorem ict_gX9_lengthOf : bkCt gX9_lengthOf = false := by decide +kernel
theorem iss_gX9_listPrice : bkIsS gX9_listPrice = false := by decide +kernel
theorem ict_gX9_listPrice : bkCt gX9_listPrice = false := by decide +kernel
theorem iss_gX9_lot : bkIsS gX9_lot = false := by decide +kernel
theorem ict_gX9_lot : bkCt gX9_lot = false := by decide +kernel
theorem iss_gX9_lotsOf : bkIsS gX9_lotsOf = false := by decide +kernel
theorem ict_gX9_lotsOf : bkCt gX9_lotsOf = false := by decide +kernel
theorem iss_gX9_make : bkIsS gX9_make = false := by decide +kernel
theorem ict_gX9_make : bkCt gX9_make = false := by decide +kernel
theorem iss_gX9_measure : bkIsS gX9_measure = false := by decide +kernel
theorem ict_gX9_measure : bkCt gX9_measure = false := by decide +kernel
theorem iss_gX9_needed : bkIsS gX9_needed = false := by decide +kernel
theorem ict_gX9_needed : bkCt gX9_needed = false := by decide +kernel
theorem iss_gX9_number : bkIsS gX9_number = false := by decide +kernel
theorem ict_gX9_number : bkCt gX9_number = false := by decide +kernel
theorem iss_gX9_of : bkIsS gX9_of = false := by decide +kernel
theorem ict_gX9_of : bkCt gX9_of = false := by decide +kernel
theorem iss_gX9_oneStrip : bkIsS gX9_oneStrip = false := by decide +kernel
theorem ict_gX9_oneStrip : bkCt gX9_oneStrip = false := by decide +kernel
theorem iss_gX9_pass : bkIsS gX9_pass = false := by decide +kernel
theorem ict_gX9_pass : bkCt gX9_pass = false := by decide +kernel
theorem iss_gX9_perSheet : bkIsS gX9_perSheet = false := by decide +kernel
theorem ict_gX9_perSheet : bkCt gX9_perSheet = false := by decide +kernel
theorem iss_gX9_piece : bkIsS gX9_piece = false := by decide +kernel
theorem ict_gX9_piece : bkCt gX9_piece = false := by decide +kernel
theorem iss_gX9_placeOf : bkIsS gX9_placeOf = false := by decide +kernel
theorem ict_gX9_placeOf : bkCt gX9_placeOf = false := by decide +kernel
theorem iss_gX9_price : bkIsS gX9_price = false := by decide +kernel
theorem ict_gX9_price : bkCt gX9_price = false := by decide +kernel
theorem iss_gX9_priceAt : bkIsS gX9_priceAt = false := by decide +kernel
theorem ict_gX9_priceAt : bkCt gX9_priceAt = false := by decide +kernel
theorem iss_gX9_readBook : bkIsS gX9_readBook = false := by decide +kernel
theorem ict_gX9_readBook : bkCt gX9_readBook = false := by decide +kernel
theorem iss_gX9_refusal : bkIsS gX9_refusal = false := by decide +kernel
theorem ict_gX9_refusal : bkCt gX9_refusal = false := by decide +kernel
theorem iss_gX9_refusalOf : bkIsS gX9_refusalOf = false := by decide +kernel
theorem ict_gX9_refusalOf : bkCt gX9_refusalOf = false := by decide +kernel
theorem iss_gX9_refusalOfBook : bkIsS gX9_refusalOfBook = false := by decide +kernel
theorem ict_gX9_refusalOfBook : bkCt gX9_refusalOfBook = false := by decide +kernel
theorem iss_gX9_restore : bkIsS gX9_restore = false := by decide +kernel
theorem ict_gX9_restore : bkCt gX9_restore = false := by decide +kernel
theorem iss_gX9_save : bkIsS gX9_save = false := by decide +kernel
theorem ict_gX9_save : bkCt gX9_save = false := by decide +kernel
theorem iss_gX9_set : bkIsS gX9_set = false := by decide +kernel
theorem ict_gX9_set : bkCt gX9_set = false := by decide +kernel
theorem iss_gX9_setBlock : bkIsS gX9_setBlock = false := by decide +kernel
theorem ict_gX9_setBlock : bkCt gX9_setBlock = false := by decide +kernel
theorem iss_gX9_setPrice : bkIsS gX9_setPrice = false := by decide +kernel
theorem ict_gX9_setPrice : bkCt gX9_setPrice = false := by decide +kernel
theorem iss_gX9_setSheet : bkIsS gX9_setSheet = false := by decide +kernel
theorem ict_gX9_setSheet : bkCt gX9_setSheet = false := by decide +kernel
theorem iss_gX9_setting : bkIsS gX9_setting = false := by decide +kernel
theorem ict_gX9_setting : bkCt gX9_setting = false := by decide +kernel
theorem iss_gX9_sheet : bkIsS gX9_sheet = false := by decide +kernel
theorem ict_gX9_sheet : bkCt gX9_sheet = false := by decide +kernel
theorem iss_gX9_sign : bkIsS gX9_sign = false := by decide +kernel
theorem ict_gX9_sign : bkCt gX9_sign = false := by decide +kernel
theorem iss_gX9_spineBreadth : bkIsS gX9_spineBreadth = false := by decide +kernel
theorem ict_gX9_spineBreadth : bkCt gX9_spineBreadth = false := by decide +kernel
theorem iss_gX9_station : bkIsS gX9_station = false := by decide +kernel
theorem ict_gX9_station : bkCt gX9_station = false := by decide +kernel
theorem iss_gX9_stock : bkIsS gX9_stock = false := by decide +kernel
theorem ict_gX9_stock : bkCt gX9_stock = false := by decide +kernel
theorem iss_gX9_stockOf : bkIsS gX9_stockOf = false := by decide +kernel
theorem ict_gX9_stockOf : bkCt gX9_stockOf = false := by decide +kernel
theorem iss_gX9_strip : bkIsS gX9_strip = false := by decide +kernel
theorem ict_gX9_strip : bkCt gX9_strip = false := by decide +kernel
theorem iss_gX9_strips : bkIsS gX9_strips = false := by decide +kernel
theorem ict_gX9_strips : bkCt gX9_strips = false := by decide +kernel
theorem iss_gX9_tapes : bkIsS gX9_tapes = false := by decide +kernel
theorem ict_gX9_tapes : bkCt gX9_tapes = false := by decide +kernel
theorem iss_gX9_tapesOf : bkIsS gX9_tapesOf = false := by decide +kernel
theorem ict_gX9_tapesOf : bkCt gX9_tapesOf = false := by decide +kernel
theorem iss_gX9_thrown : bkIsS gX9_thrown = false := by decide +kernel
theorem ict_gX9_thrown : bkCt gX9_thrown = false := by decide +kernel
theorem iss_gX9_undo : bkIsS gX9_undo = false := by decide +kernel
theorem ict_gX9_undo : bkCt gX9_undo = false := by decide +kernel
theorem iss_gX9_unitsOf : bkIsS gX9_unitsOf = false := by decide +kernel
theorem ict_gX9_unitsOf : bkCt gX9_unitsOf = false := by decide +kernel
theorem iss_gX9_up : bkIsS gX9_up = true := by decide +kernel
theorem ict_gX9_up : bkCt gX9_up = false := by decide +kernel
theorem iss_gX9_use : bkIsS gX9_use = false := by decide +kernel
theorem ict_gX9_use : bkCt gX9_use = false := by decide +kernel
theorem iss_gX9_widestGap : bkIsS gX9_widestGap = false := by decide +kernel
theorem ict_gX9_widestGap : bkCt gX9_widestGap = false := by decide +kernel
theorem iss_gX9_worth : bkIsS gX9_worth = false := by decide +kernel
theorem ict_gX9_worth : bkCt gX9_worth = false := by decide +kernel
theorem iss_gX9_wouldRefuse : bkIsS gX9_wouldRefuse = false := by decide +kernel
theorem ict_gX9_wouldRefuse : bkCt gX9_wouldRefuse = false := by decide +kernel
theorem iss_gX9_yieldOf : bkIsS gX9_yieldOf = false := by decide +kernel
theorem ict_gX9_yieldOf : bkCt gX9_yieldOf = false := by decide +kernel
theorem iss_gL_account : bkIsS gL_account = true := by decide +kernel
theorem ict_gL_account : bkCt gL_account = false := by decide +kernel
theorem iss_gL_addBook : bkIsS gL_addBook = true := by decide +kernel
theorem ict_gL_addBook : bkCt gL_addBook = false := by decide +kernel
theorem iss_gL_append : bkIsS gL_append = true := by decide +kernel
theorem ict_gL_append : bkCt gL_append = false := by decide +kernel
theorem iss_gL_block : bkIsS gL_block = true := by decide +kernel
theorem ict_gL_block : bkCt gL_block = false := by decide +kernel
theorem iss_gL_boardShare : bkIsS gL_boardShare = true := by decide +kernel
theorem ict_gL_boardShare : bkCt gL_boardShare = false := by decide +kernel
theorem iss_gL_buy : bkIsS gL_buy = true := by decide +kernel
theorem ict_gL_buy : bkCt gL_buy = false := by decide +kernel
theorem iss_gL_clothWaste : bkIsS gL_clothWaste = true := by decide +kernel
theorem ict_gL_clothWaste : bkCt gL_clothWaste = false := by decide +kernel
theorem iss_gL_cost : bkIsS gL_cost = true := by decide +kernel
theorem ict_gL_cost : bkCt gL_cost = false := by decide +kernel
theorem iss_gL_dropPrice : bkIsS gL_dropPrice = true := by decide +kernel
theorem ict_gL_dropPrice : bkCt gL_dropPrice = false := by decide +kernel
theorem iss_gL_fittedCloth : bkIsS gL_fittedCloth = true := by decide +kernel
theorem ict_gL_fittedCloth : bkCt gL_fittedCloth = false := by decide +kernel
theorem iss_gL_leastCloth : bkIsS gL_leastCloth = true := by decide +kernel
theorem ict_gL_leastCloth : bkCt gL_leastCloth = false := by decide +kernel
theorem iss_gL_lot : bkIsS gL_lot = true := by decide +kernel
theorem ict_gL_lot : bkCt gL_lot = false := by decide +kernel
theorem iss_gL_make : bkIsS gL_make = true := by decide +kernel
theorem ict_gL_make : bkCt gL_make = false := by decide +kernel
theorem iss_gL_needed : bkIsS gL_needed = true := by decide +kernel
theorem ict_gL_needed : bkCt gL_needed = false := by decide +kernel
theorem iss_gL_pass : bkIsS gL_pass = true := by decide +kernel
theorem ict_gL_pass : bkCt gL_pass = false := by decide +kernel
theorem iss_gL_perSheet : bkIsS gL_perSheet = true := by decide +kernel
theorem ict_gL_perSheet : bkCt gL_perSheet = false := by decide +kernel
theorem iss_gL_piece : bkIsS gL_piece = true := by decide +kernel
theorem ict_gL_piece : bkCt gL_piece = false := by decide +kernel
theorem iss_gL_price : bkIsS gL_price = true := by decide +kernel
theorem ict_gL_price : bkCt gL_price = false := by decide +kernel
theorem iss_gL_readBook : bkIsS gL_readBook = true := by decide +kernel
theorem ict_gL_readBook : bkCt gL_readBook = false := by decide +kernel
theorem iss_gL_refusal : bkIsS gL_refusal = true := by decide +kernel
theorem ict_gL_refusal : bkCt gL_refusal = false := by decide +kernel
theorem iss_gL_restore : bkIsS gL_restore = true := by decide +kernel
theorem ict_gL_restore : bkCt gL_restore = false := by decide +kernel
theorem iss_gL_set : bkIsS gL_set = true := by decide +kernel
theorem ict_gL_set : bkCt gL_set = false := by decide +kernel
theorem iss_gL_setBlock : bkIsS gL_setBlock = true := by decide +kernel
theorem ict_gL_setBlock : bkCt gL_setBlock = false := by decide +kernel
theorem iss_gL_setPrice : bkIsS gL_setPrice = true := by decide +kernel
theorem ict_gL_setPrice : bkCt gL_setPrice = false := by decide +kernel
theorem iss_gL_setSheet : bkIsS gL_setSheet = true := by decide +kernel
theorem ict_gL_setSheet : bkCt gL_setSheet = false := by decide +kernel
theorem iss_gL_setting : bkIsS gL_setting = true := by decide +kernel
theorem ict_gL_setting : bkCt gL_setting = false := by decide +kernel
theorem iss_gL_sheet : bkIsS gL_sheet = true := by decide +kernel
theorem ict_gL_sheet : bkCt gL_sheet = false := by decide +kernel
theorem iss_gL_station : bkIsS gL_station = true := by decide +kernel
theorem ict_gL_station : bkCt gL_station = false := by decide +kernel
theorem iss_gL_stock : bkIsS gL_stock = true := by decide +kernel
theorem ict_gL_stock : bkCt gL_stock = false := by decide +kernel
theorem iss_gL_strip : bkIsS gL_strip = true := by decide +kernel
theorem ict_gL_strip : bkCt gL_strip = false := by decide +kernel
theorem iss_gL_strips : bkIsS gL_strips = true := by decide +kernel
theorem ict_gL_strips : bkCt gL_strips = false := by decide +kernel
theorem iss_gL_tapes : bkIsS gL_tapes = true := by decide +kernel
theorem ict_gL_tapes : bkCt gL_tapes = false := by decide +kernel
theorem iss_gL_undo : bkIsS gL_undo = true := by decide +kernel
theorem ict_gL_undo : bkCt gL_undo = false := by decide +kernel
theorem iss_gL_widestGap : bkIsS gL_widestGap = true := by decide +kernel
theorem ict_gL_widestGap : bkCt gL_widestGap = false := by decide +kernel
theorem iss_gL_wouldRefuse : bkIsS gL_wouldRefuse = true := by decide +kernel
theorem ict_gL_wouldRefuse : bkCt gL_wouldRefuse = false := by decide +kernel
theorem iss_gJ6_bitCount_0f7a4 : bkIsS gJ6_bitCount_0f7a4 = true := by decide +kernel
theorem ict_gJ6_bitCount_0f7a4 : bkCt gJ6_bitCount_0f7a4 = false := by decide +kernel
theorem hcu_0 : ∀ (c : Nat) (C : String) (T : u_T) (N : Nat), bkCl[c]? = some (C, T, N) → C = RX0 → c = 0 := by
  intro c C T N h e
  match c, h with
  | 0, h => rfl
  | 1, h => cases h; exact absurd e (by decide +kernel)
  | 2, h => cases h; exact absurd e (by decide +kernel)
  | 3, h => cases h; exact absurd e (by decide +kernel)
  | 4, h => cases h; exact absurd e (by decide +kernel)
  | 5, h => cases h; exact absurd e (by decide +kernel)
  | 6, h => cases h; exact absurd e (by decide +kernel)
  | 7, h => cases h; exact absurd e (by decide +kernel)
  | 8, h => cases h; exact absurd e (by decide +kernel)
  | c + 9, h => simp [bkCl] at h
theorem hcu_1 : ∀ (c : Nat) (C : String) (T : u_T) (N : Nat), bkCl[c]? = some (C, T, N) → C = RX1 → c = 1 := by
  intro c C T N h e
  match c, h with
  | 0, h => cases h; exact absurd e (by decide +kernel)
  | 1, h => rfl
  | 2, h => cases h; exact absurd e (by decide +kernel)
  | 3, h => cases h; exact absurd e (by decide +kernel)
  | 4, h => cases h; exact absurd e (by decide +kernel)
  | 5, h => cases h; exact absurd e (by decide +kernel)
  | 6, h => cases h; exact absurd e (by decide +kernel)
  | 7, h => cases h; exact absurd e (by decide +kernel)
  | 8, h => cases h; exact absurd e (by decide +kernel)
  | c + 9, h => simp [bkCl] at h
theorem hcu_2 : ∀ (c : Nat) (C : String) (T : u_T) (N : Nat), bkCl[c]? = some (C, T, N) → C = RX2 → c = 2 := by
  intro c C T N h e
  match c, h with
  | 0, h => cases h; exact absurd e (by decide +kernel)
  | 1, h => cases h; exact absurd e (by decide +kernel)
  | 2, h => rfl
  | 3, h => cases h; exact absurd e (by decide +kernel)
  | 4, h => cases h; exact absurd e (by decide +kernel)
  | 5, h => cases h; exact absurd e (by decide +kernel)
  | 6, h => cases h; exact absurd e (by decide +kernel)
  | 7, h => cases h; exact absurd e (by decide +kernel)
  | 8, h => cases h; exact absurd e (by decide +kernel)
  | c + 9, h => simp [bkCl] at h
theorem hcu_3 : ∀ (c : Nat) (C : String) (T : u_T) (N : Nat), bkCl[c]? = some (C, T, N) → C = RX3 → c = 3 := by
  intro c C T N h e
  match c, h with
  | 0, h => cases h; exact absurd e (by decide +kernel)
  | 1, h => cases h; exact absurd e (by decide +kernel)
  | 2, h => cases h; exact absurd e (by decide +kernel)
  | 3, h => rfl
  | 4, h => cases h; exact absurd e (by decide +kernel)
  | 5, h => cases h; exact absurd e (by decide +kernel)
  | 6, h => cases h; exact absurd e (by decide +kernel)
  | 7, h => cases h; exact absurd e (by decide +kernel)
  | 8, h => cases h; exact absurd e (by decide +kernel)
  | c + 9, h => simp [bkCl] at h
theorem hcu_4 : ∀ (c : Nat) (C : String) (T : u_T) (N : Nat), bkCl[c]? = some (C, T, N) → C = RX4 → c = 4 := by
  intro c C T N h e
  match c, h with
  | 0, h => cases h; exact absurd e (by decide +kernel)
  | 1, h => cases h; exact absurd e (by decide +kernel)
  | 2, h => cases h; exact absurd e (by decide +kernel)
  | 3, h => cases h; exact absurd e (by decide +kernel)
  | 4, h => rfl
  | 5, h => cases h; exact absurd e (by decide +kernel)
  | 6, h => cases h; exact absurd e (by decide +kernel)
  | 7, h => cases h; exact absurd e (by decide +kernel)
  | 8, h => cases h; exact absurd e (by decide +kernel)
  | c + 9, h => simp [bkCl] at h
theorem hcu_5 : ∀ (c : Nat) (C : String) (T : u_T) (N : Nat), bkCl[c]? = some (C, T, N) → C = RX5 → c = 5 := by
  intro c C T N h e
  match c, h with
  | 0, h => cases h; exact absurd e (by decide +kernel)
  | 1, h => cases h; exact absurd e (by decide +kernel)
  | 2, h => cases h; exact absurd e (by decide +kernel)
  | 3, h => cases h; exact absurd e (by decide +kernel)
  | 4, h => cases h; exact absurd e (by decide +kernel)
  | 5, h => rfl
  | 6, h => cases h; exact absurd e (by decide +kernel)
  | 7, h => cases h; exact absurd e (by decide +kernel)
  | 8, h => cases h; exact absurd e (by decide +kernel)
  | c + 9, h => simp [bkCl] at h
theorem hcu_6 : ∀ (c : Nat) (C : String) (T : u_T) (N : Nat), bkCl[c]? = some (C, T, N) → C = RX6 → c = 6 := by
  intro c C T N h e
  match c, h with
  | 0, h => cases h; exact absurd e (by decide +kernel)
  | 1, h => cases h; exact absurd e (by decide +kernel)
  | 2, h => cases h; exact absurd e (by decide +kernel)
  | 3, h => cases h; exact absurd e (by decide +kernel)
  | 4, h => cases h; exact absurd e (by decide +kernel)
  | 5, h => cases h; exact absurd e (by decide +kernel)
  | 6, h => rfl
  | 7, h => cases h; exact absurd e (by decide +kernel)
  | 8, h => cases h; exact absurd e (by decide +kernel)
  | c + 9, h => simp [bkCl] at h
theorem hcu_7 : ∀ (c : Nat) (C : String) (T : u_T) (N : Nat), bkCl[c]? = some (C, T, N) → C = RX8 → c = 7 := by
  intro c C T N h e
  match c, h with
  | 0, h => cases h; exact absurd e (by decide +kernel)
  | 1, h => cases h; exact absurd e (by decide +kernel)
  | 2, h => cases h; exact absurd e (by decide +kernel)
  | 3, h => cases h; exact absurd e (by decide +kernel)
  | 4, h => cases h; exact absurd e (by decide +kernel)
  | 5, h => cases h; exact absurd e (by decide +kernel)
  | 6, h => cases h; exact absurd e (by decide +kernel)
  | 7, h => rfl
  | 8, h => cases h; exact absurd e (by decide +kernel)
  | c + 9, h => simp [bkCl] at h
theorem hcu_8 : ∀ (c : Nat) (C : String) (T : u_T) (N : Nat), bkCl[c]? = some (C, T, N) → C = RX9 → c = 8 := by
  intro c C T N h e
  match c, h with
  | 0, h => cases h; exact absurd e (by decide +kernel)
  | 1, h => cases h; exact absurd e (by decide +kernel)
  | 2, h => cases h; exact absurd e (by decide +kernel)
  | 3, h => cases h; exact absurd e (by decide +kernel)
  | 4, h => cases h; exact absurd e (by decide +kernel)
  | 5, h => cases h; exact absurd e (by decide +kernel)
  | 6, h => cases h; exact absurd e (by decide +kernel)
  | 7, h => cases h; exact absurd e (by decide +kernel)
  | 8, h => rfl
  | c + 9, h => simp [bkCl] at h
theorem lkE_0_3 : bkLk 0 3 = some (kB 3) := rfl
theorem lkE_0_9 : bkLk 0 9 = some (kF 0 0) := rfl
theorem lkE_0_15 : bkLk 0 15 = some (kF 0 1) := rfl
theorem lkE_0_19 : bkLk 0 19 = some (kF 0 2) := rfl
theorem lkE_0_23 : bkLk 0 23 = some (kF 0 3) := rfl
theorem lkE_0_26 : bkLk 0 26 = some (kF 0 4) := rfl
theorem lkE_0_29 : bkLk 0 29 = some (kM gX0_readBlock) := rfl
theorem lkE_0_33 : bkLk 0 33 = some (kM gX0_readCopies) := rfl
theorem lkE_0_36 : bkLk 0 36 = some (kM gX0_readNumber) := rfl
theorem lkE_0_40 : bkLk 0 40 = some (kM gX0_readSign) := rfl
theorem lkE_0_44 : bkLk 0 44 = some (kM gX0_isDigitAt) := rfl
theorem lkE_1_3 : bkLk 1 3 = some (kB 3) := rfl
theorem lkE_1_9 : bkLk 1 9 = some (kF 1 0) := rfl
theorem lkE_1_15 : bkLk 1 15 = some (kF 1 1) := rfl
theorem lkE_1_18 : bkLk 1 18 = some (kF 1 2) := rfl
theorem lkE_1_21 : bkLk 1 21 = some (kF 1 3) := rfl
theorem lkE_1_24 : bkLk 1 24 = some (kF 1 4) := rfl
theorem lkE_1_27 : bkLk 1 27 = some (kF 1 5) := rfl
theorem lkE_1_30 : bkLk 1 30 = some (kF 1 6) := rfl
theorem lkE_1_33 : bkLk 1 33 = some (kF 1 7) := rfl
theorem lkE_1_37 : bkLk 1 37 = some (kF 1 8) := rfl
theorem lkE_1_40 : bkLk 1 40 = some (kF 1 9) := rfl
theorem lkE_1_43 : bkLk 1 43 = some (kF 1 10) := rfl
theorem lkE_1_46 : bkLk 1 46 = some (kF 5 1) := rfl
theorem lkE_1_51 : bkLk 1 51 = some (kF 5 6) := rfl
theorem lkE_1_54 : bkLk 1 54 = some (kM gX5_pieceLength) := rfl
theorem lkE_1_58 : bkLk 1 58 = some (kM gX5_pieceBreadth) := rfl
theorem lkE_1_61 : bkLk 1 61 = some (kM gX1_layCloth) := rfl
theorem lkE_1_65 : bkLk 1 65 = some (kM gX1_firstStripWith) := rfl
theorem lkE_1_69 : bkLk 1 69 = some (kM gX1_longestOf) := rfl
theorem lkE_1_72 : bkLk 1 72 = some (kM gX1_leastLengthOf) := rfl
theorem lkE_1_75 : bkLk 1 75 = some (kM gJ6_bitCount_0f7a4) := rfl
theorem lkE_1_80 : bkLk 1 80 = some (kB 1) := rfl
theorem lkE_2_3 : bkLk 2 3 = some (kB 3) := rfl
theorem lkE_2_9 : bkLk 2 9 = some (kC 5) := rfl
theorem lkE_2_11 : bkLk 2 11 = some (kF 2 0) := rfl
theorem lkE_2_17 : bkLk 2 17 = some (kF 2 1) := rfl
theorem lkE_2_21 : bkLk 2 21 = some (kF 2 2) := rfl
theorem lkE_2_24 : bkLk 2 24 = some (kM gX5_init) := rfl
theorem lkE_2_25 : bkLk 2 25 = some (kM gX5_copyFrom) := rfl
theorem lkE_2_29 : bkLk 2 29 = some (kB 1) := rfl
theorem lkE_3_3 : bkLk 3 3 = some (kB 3) := rfl
theorem lkE_3_9 : bkLk 3 9 = some (kF 3 0) := rfl
theorem lkE_3_15 : bkLk 3 15 = some (kF 3 1) := rfl
theorem lkE_3_18 : bkLk 3 18 = some (kF 3 2) := rfl
theorem lkE_3_21 : bkLk 3 21 = some (kF 3 3) := rfl
theorem lkE_3_25 : bkLk 3 25 = some (kB 2) := rfl
theorem lkE_3_31 : bkLk 3 31 = some (kB 1) := rfl
theorem lkE_3_37 : bkLk 3 37 = some (kM gX3_dropEmptyLots) := rfl
theorem lkE_4_3 : bkLk 4 3 = some (kB 3) := rfl
theorem lkE_4_9 : bkLk 4 9 = some (kF 4 0) := rfl
theorem lkE_4_15 : bkLk 4 15 = some (kF 4 1) := rfl
theorem lkE_4_18 : bkLk 4 18 = some (kF 5 6) := rfl
theorem lkE_4_24 : bkLk 4 24 = some (kM gX5_pieceLength) := rfl
theorem lkE_4_28 : bkLk 4 28 = some (kM gX5_pieceBreadth) := rfl
theorem lkE_5_3 : bkLk 5 3 = some (kB 3) := rfl
theorem lkE_5_9 : bkLk 5 9 = some (kF 5 0) := rfl
theorem lkE_5_15 : bkLk 5 15 = some (kF 5 1) := rfl
theorem lkE_5_18 : bkLk 5 18 = some (kF 5 2) := rfl
theorem lkE_5_21 : bkLk 5 21 = some (kC 3) := rfl
theorem lkE_5_23 : bkLk 5 23 = some (kM gX3_init) := rfl
theorem lkE_5_24 : bkLk 5 24 = some (kF 5 3) := rfl
theorem lkE_5_28 : bkLk 5 28 = some (kC 6) := rfl
theorem lkE_5_30 : bkLk 5 30 = some (kM gX6_init) := rfl
theorem lkE_5_31 : bkLk 5 31 = some (kF 5 4) := rfl
theorem lkE_5_35 : bkLk 5 35 = some (kF 5 5) := rfl
theorem lkE_5_39 : bkLk 5 39 = some (kF 5 6) := rfl
theorem lkE_5_43 : bkLk 5 43 = some (kF 5 7) := rfl
theorem lkE_5_46 : bkLk 5 46 = some (kF 5 8) := rfl
theorem lkE_5_50 : bkLk 5 50 = some (kF 5 9) := rfl
theorem lkE_5_53 : bkLk 5 53 = some (kF 5 10) := rfl
theorem lkE_5_56 : bkLk 5 56 = some (kS 4) := rfl
theorem lkE_5_59 : bkLk 5 59 = some (kB 2) := rfl
theorem lkE_5_65 : bkLk 5 65 = some (kM gX3_copyFrom) := rfl
theorem lkE_5_69 : bkLk 5 69 = some (kM gX6_copyFrom) := rfl
theorem lkE_5_72 : bkLk 5 72 = some (kM gX5_putBlockNumber) := rfl
theorem lkE_5_76 : bkLk 5 76 = some (kM gX5_blockNumber) := rfl
theorem lkE_5_80 : bkLk 5 80 = some (kM gX5_pieceBreadth) := rfl
theorem lkE_5_83 : bkLk 5 83 = some (kM gX5_sheetNumber) := rfl
theorem lkE_5_86 : bkLk 5 86 = some (kM gX5_pieceLength) := rfl
theorem lkE_5_89 : bkLk 5 89 = some (kB 0) := rfl
theorem lkE_5_94 : bkLk 5 94 = some (kM gX5_boardUnitsFor) := rfl
theorem lkE_5_98 : bkLk 5 98 = some (kM gX5_yieldFor) := rfl
theorem lkE_5_101 : bkLk 5 101 = some (kM gX5_sheetsFor) := rfl
theorem lkE_5_104 : bkLk 5 104 = some (kM gX5_clothUnitsFor) := rfl
theorem lkE_5_107 : bkLk 5 107 = some (kM gX5_isClothTooBroad) := rfl
theorem lkE_5_111 : bkLk 5 111 = some (kM gX5_unitsFor) := rfl
theorem lkE_5_114 : bkLk 5 114 = some (kM gX3_unitsOf) := rfl
theorem lkE_5_117 : bkLk 5 117 = some (kM gX3_take) := rfl
theorem lkE_6_3 : bkLk 6 3 = some (kB 3) := rfl
theorem lkE_6_9 : bkLk 6 9 = some (kF 6 0) := rfl
theorem lkE_6_15 : bkLk 6 15 = some (kF 6 1) := rfl
theorem lkE_6_18 : bkLk 6 18 = some (kF 6 2) := rfl
theorem lkE_6_21 : bkLk 6 21 = some (kF 6 3) := rfl
theorem lkE_6_25 : bkLk 6 25 = some (kB 2) := rfl
theorem lkE_6_31 : bkLk 6 31 = some (kM gX6_slotFrom) := rfl
theorem lkE_7_7 : bkLk 7 7 = some (kM gX7_tapeCount) := rfl
theorem lkE_7_13 : bkLk 7 13 = some (kM gX7_lastStation) := rfl
theorem lkE_7_16 : bkLk 7 16 = some (kM gX7_place) := rfl
theorem lkE_7_20 : bkLk 7 20 = some (kB 0) := rfl
theorem lkE_8_1 : bkLk 8 1 = some (kB 3) := rfl
theorem lkE_8_7 : bkLk 8 7 = some (kC 5) := rfl
theorem lkE_8_9 : bkLk 8 9 = some (kM gX5_init) := rfl
theorem lkE_8_10 : bkLk 8 10 = some (kF 7 0) := rfl
theorem lkE_8_16 : bkLk 8 16 = some (kF 7 1) := rfl
theorem lkE_8_19 : bkLk 8 19 = some (kC 2) := rfl
theorem lkE_8_21 : bkLk 8 21 = some (kM gX2_init) := rfl
theorem lkE_8_22 : bkLk 8 22 = some (kF 7 2) := rfl
theorem lkE_8_26 : bkLk 8 26 = some (kC 4) := rfl
theorem lkE_8_28 : bkLk 8 28 = some (kM gX4_init) := rfl
theorem lkE_8_29 : bkLk 8 29 = some (kF 7 3) := rfl
theorem lkE_8_33 : bkLk 8 33 = some (kC 1) := rfl
theorem lkE_8_35 : bkLk 8 35 = some (kM gX1_init) := rfl
theorem lkE_8_36 : bkLk 8 36 = some (kF 7 4) := rfl
theorem lkE_8_40 : bkLk 8 40 = some (kC 0) := rfl
theorem lkE_8_42 : bkLk 8 42 = some (kM gX0_init) := rfl
theorem lkE_8_43 : bkLk 8 43 = some (kF 7 5) := rfl
theorem lkE_8_47 : bkLk 8 47 = some (kF 7 6) := rfl
theorem lkE_8_51 : bkLk 8 51 = some (kF 7 7) := rfl
theorem lkE_8_55 : bkLk 8 55 = some (kM gX8_addChecked) := rfl
theorem lkE_8_59 : bkLk 8 59 = some (kM gX8_requireBook) := rfl
theorem lkE_8_63 : bkLk 8 63 = some (kM gX8_isBlockNumber) := rfl
theorem lkE_8_67 : bkLk 8 67 = some (kX 1 71) := rfl
theorem lkE_8_74 : bkLk 8 74 = some (kM gX2_keep) := rfl
theorem lkE_8_78 : bkLk 8 78 = some (kM gX4_note) := rfl
theorem lkE_8_81 : bkLk 8 81 = some (kM gX5_putBlockNumber) := rfl
theorem lkE_8_85 : bkLk 8 85 = some (kM gX4_changedPieces) := rfl
theorem lkE_8_91 : bkLk 8 91 = some (kM gX5_blockNumber) := rfl
theorem lkE_8_95 : bkLk 8 95 = some (kM gX8_requireSetting) := rfl
theorem lkE_8_98 : bkLk 8 98 = some (kS 2) := rfl
theorem lkE_8_102 : bkLk 8 102 = some (kS 3) := rfl
theorem lkE_8_107 : bkLk 8 107 = some (kF 5 1) := rfl
theorem lkE_8_110 : bkLk 8 110 = some (kF 5 6) := rfl
theorem lkE_8_113 : bkLk 8 113 = some (kM gJ6_bitCount_0f7a4) := rfl
theorem lkE_8_119 : bkLk 8 119 = some (kM gX8_requirePiece) := rfl
theorem lkE_8_122 : bkLk 8 122 = some (kM gX5_pieceBreadth) := rfl
theorem lkE_8_125 : bkLk 8 125 = some (kM gX5_pieceLength) := rfl
theorem lkE_8_128 : bkLk 8 128 = some (kM gX5_reasonAgainst) := rfl
theorem lkE_8_131 : bkLk 8 131 = some (kM gX8_requireSheetMaterial) := rfl
theorem lkE_8_134 : bkLk 8 134 = some (kM gX8_isSheetSide) := rfl
theorem lkE_8_140 : bkLk 8 140 = some (kM gX5_sheetNumber) := rfl
theorem lkE_8_143 : bkLk 8 143 = some (kM gX5_putSheet) := rfl
theorem lkE_8_149 : bkLk 8 149 = some (kX 3 153) := rfl
theorem lkE_8_154 : bkLk 8 154 = some (kM gX5_yieldFor) := rfl
theorem lkE_8_157 : bkLk 8 157 = some (kM gX8_requireMaterial) := rfl
theorem lkE_8_160 : bkLk 8 160 = some (kM gX5_unitsFor) := rfl
theorem lkE_8_163 : bkLk 8 163 = some (kX 4 167) := rfl
theorem lkE_8_168 : bkLk 8 168 = some (kM gX5_sheetsFor) := rfl
theorem lkE_8_171 : bkLk 8 171 = some (kX 5 175) := rfl
theorem lkE_8_176 : bkLk 8 176 = some (kM gX7_tapeCount) := rfl
theorem lkE_8_181 : bkLk 8 181 = some (kM gX7_lastStation) := rfl
theorem lkE_8_186 : bkLk 8 186 = some (kM gX7_place) := rfl
theorem lkE_8_189 : bkLk 8 189 = some (kM gX7_greatestDistance) := rfl
theorem lkE_8_192 : bkLk 8 192 = some (kM gX8_layCloths) := rfl
theorem lkE_8_195 : bkLk 8 195 = some (kM gX1_leastLength) := rfl
theorem lkE_8_199 : bkLk 8 199 = some (kM gX1_fit) := rfl
theorem lkE_8_202 : bkLk 8 202 = some (kF 1 10) := rfl
theorem lkE_8_205 : bkLk 8 205 = some (kM gX1_stripOfBook) := rfl
theorem lkE_8_210 : bkLk 8 210 = some (kF 1 9) := rfl
theorem lkE_8_215 : bkLk 8 215 = some (kM gX1_clothArea) := rfl
theorem lkE_8_219 : bkLk 8 219 = some (kM gX8_isPrice) := rfl
theorem lkE_8_224 : bkLk 8 224 = some (kF 5 3) := rfl
theorem lkE_8_228 : bkLk 8 228 = some (kF 3 3) := rfl
theorem lkE_8_233 : bkLk 8 233 = some (kX 2 237) := rfl
theorem lkE_8_238 : bkLk 8 238 = some (kF 5 10) := rfl
theorem lkE_8_242 : bkLk 8 242 = some (kM gX3_put) := rfl
theorem lkE_8_245 : bkLk 8 245 = some (kM gX3_countOf) := rfl
theorem lkE_8_248 : bkLk 8 248 = some (kM gX3_unitsOf) := rfl
theorem lkE_8_251 : bkLk 8 251 = some (kM gX3_slotOf) := rfl
theorem lkE_8_256 : bkLk 8 256 = some (kF 3 2) := rfl
theorem lkE_8_259 : bkLk 8 259 = some (kF 3 1) := rfl
theorem lkE_8_264 : bkLk 8 264 = some (kF 5 4) := rfl
theorem lkE_8_267 : bkLk 8 267 = some (kF 6 3) := rfl
theorem lkE_8_270 : bkLk 8 270 = some (kM gX6_slotFrom) := rfl
theorem lkE_8_275 : bkLk 8 275 = some (kM gX6_put) := rfl
theorem lkE_8_278 : bkLk 8 278 = some (kF 6 2) := rfl
theorem lkE_8_279 : bkLk 8 279 = some (kM gX6_remove) := rfl
theorem lkE_8_282 : bkLk 8 282 = some (kM gX6_listPrice) := rfl
theorem lkE_8_293 : bkLk 8 293 = some (kM gX5_useUnitsFor) := rfl
theorem lkE_8_300 : bkLk 8 300 = some (kF 5 7) := rfl
theorem lkE_8_307 : bkLk 8 307 = some (kF 5 8) := rfl
theorem lkE_8_310 : bkLk 8 310 = some (kF 5 9) := rfl
theorem lkE_8_313 : bkLk 8 313 = some (kM gX3_worth) := rfl
theorem lkE_8_316 : bkLk 8 316 = some (kF 5 5) := rfl
theorem lkE_8_320 : bkLk 8 320 = some (kF 0 3) := rfl
theorem lkE_8_325 : bkLk 8 325 = some (kM gX0_put) := rfl
theorem lkE_8_328 : bkLk 8 328 = some (kM gX0_readAndEmpty) := rfl
theorem lkE_8_334 : bkLk 8 334 = some (kF 0 1) := rfl
theorem lkE_8_337 : bkLk 8 337 = some (kF 0 4) := rfl
theorem lkE_8_340 : bkLk 8 340 = some (kF 2 2) := rfl
theorem lkE_8_343 : bkLk 8 343 = some (kM gX2_bringBack) := rfl
theorem lkE_8_346 : bkLk 8 346 = some (kM gX5_copyFrom) := rfl
theorem lkE_8_351 : bkLk 8 351 = some (kM gX2_forget) := rfl
theorem lkE_8_358 : bkLk 8 358 = some (kM gX5_putBook) := rfl
theorem lkE_8_363 : bkLk 8 363 = some (kM gX5_isClothTooBroad) := rfl
theorem lkE_8_368 : bkLk 8 368 = some (kM gX1_lay) := rfl
theorem lkE_8_372 : bkLk 8 372 = some (kX 0 376) := rfl
theorem lkE_8_385 : bkLk 8 385 = some (kS 0) := rfl
theorem lkE_8_388 : bkLk 8 388 = some (kS 1) := rfl
theorem lkE_9_3 : bkLk 9 3 = some (kB 3) := rfl
theorem lkE_9_9 : bkLk 9 9 = some (kF 8 0) := rfl
theorem lkE_9_13 : bkLk 9 13 = some (kF 8 1) := rfl
theorem lkE_9_16 : bkLk 9 16 = some (kF 8 3) := rfl
theorem lkE_9_19 : bkLk 9 19 = some (kF 8 7) := rfl
theorem lkE_9_23 : bkLk 9 23 = some (kF 8 8) := rfl
theorem lkE_9_26 : bkLk 9 26 = some (kF 8 9) := rfl
theorem lkE_9_29 : bkLk 9 29 = some (kF 8 10) := rfl
theorem lkE_9_32 : bkLk 9 32 = some (kF 8 11) := rfl
theorem lkE_9_35 : bkLk 9 35 = some (kF 8 12) := rfl
theorem lkE_9_38 : bkLk 9 38 = some (kF 8 14) := rfl
theorem lkE_9_42 : bkLk 9 42 = some (kF 8 18) := rfl
theorem lkE_9_46 : bkLk 9 46 = some (kV (.long 3)) := rfl
theorem lkE_9_48 : bkLk 9 48 = some (kV (.long 8)) := rfl
theorem lkE_9_50 : bkLk 9 50 = some (kV (.long 15)) := rfl
theorem lkE_9_52 : bkLk 9 52 = some (kV (.long 2)) := rfl
theorem lkE_9_54 : bkLk 9 54 = some (kV (.long 1000)) := rfl
theorem lkE_9_56 : bkLk 9 56 = some (kV (.long 700)) := rfl
theorem lkE_9_58 : bkLk 9 58 = some (kF 8 6) := rfl
theorem lkE_9_61 : bkLk 9 61 = some (kM gX9_get) := rfl
theorem lkE_9_65 : bkLk 9 65 = some (kF 8 4) := rfl
theorem lkE_9_68 : bkLk 9 68 = some (kB 2) := rfl
theorem lkE_9_74 : bkLk 9 74 = some (kM gX9_in) := rfl
theorem lkE_9_78 : bkLk 9 78 = some (kM gX9_isNumber) := rfl
theorem lkE_9_82 : bkLk 9 82 = some (kM gX9_change) := rfl
theorem lkE_9_85 : bkLk 9 85 = some (kM gX9_isBlock) := rfl
theorem lkE_9_88 : bkLk 9 88 = some (kM gX9_add) := rfl
theorem lkE_9_92 : bkLk 9 92 = some (kM gX9_lengthOf) := rfl
theorem lkE_9_96 : bkLk 9 96 = some (kM gX9_breadthOf) := rfl
theorem lkE_9_99 : bkLk 9 99 = some (kM gX9_isBook) := rfl
theorem lkE_9_103 : bkLk 9 103 = some (kM gX9_measure) := rfl
theorem lkE_9_106 : bkLk 9 106 = some (kM gX9_isOther) := rfl
theorem lkE_9_109 : bkLk 9 109 = some (kM gX9_of) := rfl
theorem lkE_9_112 : bkLk 9 112 = some (kM gX9_isSettingValue) := rfl
theorem lkE_9_115 : bkLk 9 115 = some (kM gX9_boardLength) := rfl
theorem lkE_9_118 : bkLk 9 118 = some (kM gX9_spineBreadth) := rfl
theorem lkE_9_121 : bkLk 9 121 = some (kM gX9_boardBreadth) := rfl
theorem lkE_9_124 : bkLk 9 124 = some (kM gX9_exchange) := rfl
theorem lkE_9_127 : bkLk 9 127 = some (kB 0) := rfl
theorem lkE_9_132 : bkLk 9 132 = some (kM gX9_yieldOf) := rfl
theorem lkE_9_135 : bkLk 9 135 = some (kM gX9_isTooBroad) := rfl
theorem lkE_9_138 : bkLk 9 138 = some (kM gX9_up) := rfl
theorem lkE_9_141 : bkLk 9 141 = some (kM gX9_isMaterial) := rfl
theorem lkE_9_144 : bkLk 9 144 = some (kM gX9_unitsOf) := rfl
theorem lkE_9_147 : bkLk 9 147 = some (kM gX9_tapesOf) := rfl
theorem lkE_9_150 : bkLk 9 150 = some (kM gX9_placeOf) := rfl
theorem lkE_9_153 : bkLk 9 153 = some (kM gX9_has) := rfl
theorem lkE_9_156 : bkLk 9 156 = some (kM gX9_oneStrip) := rfl
theorem lkE_9_159 : bkLk 9 159 = some (kM gX9_refusalOf) := rfl
theorem lkE_9_162 : bkLk 9 162 = some (kM gX9_leastOf) := rfl
theorem lkE_9_165 : bkLk 9 165 = some (kF 8 13) := rfl
theorem lkE_9_168 : bkLk 9 168 = some (kM gX9_fit) := rfl
theorem lkE_9_172 : bkLk 9 172 = some (kM gX9_lotsOf) := rfl
theorem lkE_9_175 : bkLk 9 175 = some (kM gX9_stockOf) := rfl
theorem lkE_9_178 : bkLk 9 178 = some (kB 1) := rfl
theorem lkE_9_181 : bkLk 9 181 = some (kM gX9_priceAt) := rfl
theorem lkE_9_184 : bkLk 9 184 = some (kM gX9_listPrice) := rfl
theorem lkE_9_187 : bkLk 9 187 = some (kM gX9_refusalOfBook) := rfl
theorem lkE_9_190 : bkLk 9 190 = some (kF 8 5) := rfl
theorem lkE_9_193 : bkLk 9 193 = some (kM gX9_use) := rfl
theorem lkE_9_196 : bkLk 9 196 = some (kM gX9_worth) := rfl
theorem lkE_9_200 : bkLk 9 200 = some (kF 8 15) := rfl
theorem lkE_9_203 : bkLk 9 203 = some (kF 8 16) := rfl
theorem lkE_9_206 : bkLk 9 206 = some (kF 8 17) := rfl
theorem lkE_9_210 : bkLk 9 210 = some (kM gX9_isHere) := rfl
theorem lkE_9_213 : bkLk 9 213 = some (kM gX9_number) := rfl
theorem lkE_9_216 : bkLk 9 216 = some (kM gX9_sign) := rfl
theorem lkE_9_220 : bkLk 9 220 = some (kF 8 2) := rfl
theorem lkE_10_7 : bkLk 10 7 = some (kM gX8_addBook) := rfl
theorem lkE_10_8 : bkLk 10 8 = some (kC 7) := rfl
theorem lkE_10_13 : bkLk 10 13 = some (kX 1 0) := rfl
theorem lkE_10_15 : bkLk 10 15 = some (kX 2 0) := rfl
theorem lkE_10_17 : bkLk 10 17 = some (kM gX8_setBlock) := rfl
theorem lkE_10_20 : bkLk 10 20 = some (kX 0 0) := rfl
theorem lkE_10_22 : bkLk 10 22 = some (kM gX8_block) := rfl
theorem lkE_10_26 : bkLk 10 26 = some (kM gX8_set) := rfl
theorem lkE_10_29 : bkLk 10 29 = some (kM gX8_setting) := rfl
theorem lkE_10_33 : bkLk 10 33 = some (kM gX8_piece) := rfl
theorem lkE_10_37 : bkLk 10 37 = some (kM gX8_wouldRefuse) := rfl
theorem lkE_10_40 : bkLk 10 40 = some (kM gX8_setSheet) := rfl
theorem lkE_10_44 : bkLk 10 44 = some (kM gX8_sheet) := rfl
theorem lkE_10_47 : bkLk 10 47 = some (kM gX8_perSheet) := rfl
theorem lkE_10_50 : bkLk 10 50 = some (kX 3 0) := rfl
theorem lkE_10_52 : bkLk 10 52 = some (kM gX8_needed) := rfl
theorem lkE_10_55 : bkLk 10 55 = some (kX 4 0) := rfl
theorem lkE_10_57 : bkLk 10 57 = some (kM gX8_boardShare) := rfl
theorem lkE_10_61 : bkLk 10 61 = some (kX 5 0) := rfl
theorem lkE_10_63 : bkLk 10 63 = some (kM gX8_tapes) := rfl
theorem lkE_10_66 : bkLk 10 66 = some (kM gX8_station) := rfl
theorem lkE_10_69 : bkLk 10 69 = some (kM gX8_widestGap) := rfl
theorem lkE_10_72 : bkLk 10 72 = some (kM gX8_leastCloth) := rfl
theorem lkE_10_75 : bkLk 10 75 = some (kM gX8_fittedCloth) := rfl
theorem lkE_10_78 : bkLk 10 78 = some (kM gX8_strip) := rfl
theorem lkE_10_81 : bkLk 10 81 = some (kM gX8_strips) := rfl
theorem lkE_10_84 : bkLk 10 84 = some (kM gX8_clothWaste) := rfl
theorem lkE_10_87 : bkLk 10 87 = some (kM gX8_buy) := rfl
theorem lkE_10_90 : bkLk 10 90 = some (kM gX8_stock) := rfl
theorem lkE_10_93 : bkLk 10 93 = some (kM gX8_lot) := rfl
theorem lkE_10_96 : bkLk 10 96 = some (kM gX8_setPrice) := rfl
theorem lkE_10_99 : bkLk 10 99 = some (kM gX8_dropPrice) := rfl
theorem lkE_10_102 : bkLk 10 102 = some (kM gX8_price) := rfl
theorem lkE_10_105 : bkLk 10 105 = some (kM gX8_cost) := rfl
theorem lkE_10_108 : bkLk 10 108 = some (kM gX8_make) := rfl
theorem lkE_10_111 : bkLk 10 111 = some (kM gX8_refusal) := rfl
theorem lkE_10_115 : bkLk 10 115 = some (kM gX8_pass) := rfl
theorem lkE_10_118 : bkLk 10 118 = some (kM gX8_account) := rfl
theorem lkE_10_122 : bkLk 10 122 = some (kM gX8_append) := rfl
theorem lkE_10_126 : bkLk 10 126 = some (kM gX8_readBook) := rfl
theorem lkE_10_129 : bkLk 10 129 = some (kM gX8_undo) := rfl
theorem lkE_10_132 : bkLk 10 132 = some (kM gX8_restore) := rfl
theorem lkE_10_135 : bkLk 10 135 = some (kM gX8_init) := rfl
theorem lkE_10_136 : bkLk 10 136 = some (kC 8) := rfl
theorem lkE_10_138 : bkLk 10 138 = some (kM gX9_init) := rfl
theorem lkE_10_139 : bkLk 10 139 = some (kM gL_addBook) := rfl
theorem lkE_10_144 : bkLk 10 144 = some (kM gX9_addBook) := rfl
theorem lkE_10_145 : bkLk 10 145 = some (kM gX9_thrown) := rfl
theorem lkE_10_148 : bkLk 10 148 = some (kM gL_setBlock) := rfl
theorem lkE_10_150 : bkLk 10 150 = some (kM gX9_setBlock) := rfl
theorem lkE_10_151 : bkLk 10 151 = some (kM gL_block) := rfl
theorem lkE_10_154 : bkLk 10 154 = some (kM gX9_block) := rfl
theorem lkE_10_155 : bkLk 10 155 = some (kM gL_set) := rfl
theorem lkE_10_157 : bkLk 10 157 = some (kM gX9_set) := rfl
theorem lkE_10_158 : bkLk 10 158 = some (kM gL_setting) := rfl
theorem lkE_10_161 : bkLk 10 161 = some (kM gX9_setting) := rfl
theorem lkE_10_162 : bkLk 10 162 = some (kM gL_piece) := rfl
theorem lkE_10_165 : bkLk 10 165 = some (kM gX9_piece) := rfl
theorem lkE_10_166 : bkLk 10 166 = some (kM gL_wouldRefuse) := rfl
theorem lkE_10_168 : bkLk 10 168 = some (kM gX9_wouldRefuse) := rfl
theorem lkE_10_169 : bkLk 10 169 = some (kM gL_setSheet) := rfl
theorem lkE_10_172 : bkLk 10 172 = some (kM gX9_setSheet) := rfl
theorem lkE_10_173 : bkLk 10 173 = some (kM gL_sheet) := rfl
theorem lkE_10_175 : bkLk 10 175 = some (kM gX9_sheet) := rfl
theorem lkE_10_176 : bkLk 10 176 = some (kM gL_perSheet) := rfl
theorem lkE_10_178 : bkLk 10 178 = some (kM gX9_perSheet) := rfl
theorem lkE_10_179 : bkLk 10 179 = some (kM gL_needed) := rfl
theorem lkE_10_181 : bkLk 10 181 = some (kM gX9_needed) := rfl
theorem lkE_10_182 : bkLk 10 182 = some (kM gL_boardShare) := rfl
theorem lkE_10_185 : bkLk 10 185 = some (kM gX9_boardShare) := rfl
theorem lkE_10_186 : bkLk 10 186 = some (kM gL_tapes) := rfl
theorem lkE_10_188 : bkLk 10 188 = some (kM gX9_tapes) := rfl
theorem lkE_10_189 : bkLk 10 189 = some (kM gL_station) := rfl
theorem lkE_10_191 : bkLk 10 191 = some (kM gX9_station) := rfl
theorem lkE_10_192 : bkLk 10 192 = some (kM gL_widestGap) := rfl
theorem lkE_10_194 : bkLk 10 194 = some (kM gX9_widestGap) := rfl
theorem lkE_10_195 : bkLk 10 195 = some (kM gL_leastCloth) := rfl
theorem lkE_10_197 : bkLk 10 197 = some (kM gX9_leastCloth) := rfl
theorem lkE_10_198 : bkLk 10 198 = some (kM gL_fittedCloth) := rfl
theorem lkE_10_200 : bkLk 10 200 = some (kM gX9_fittedCloth) := rfl
theorem lkE_10_201 : bkLk 10 201 = some (kM gL_strip) := rfl
theorem lkE_10_203 : bkLk 10 203 = some (kM gX9_strip) := rfl
theorem lkE_10_204 : bkLk 10 204 = some (kM gL_strips) := rfl
theorem lkE_10_206 : bkLk 10 206 = some (kM gX9_strips) := rfl
theorem lkE_10_207 : bkLk 10 207 = some (kM gL_clothWaste) := rfl
theorem lkE_10_209 : bkLk 10 209 = some (kM gX9_clothWaste) := rfl
theorem lkE_10_210 : bkLk 10 210 = some (kM gL_buy) := rfl
theorem lkE_10_212 : bkLk 10 212 = some (kM gX9_buy) := rfl
theorem lkE_10_213 : bkLk 10 213 = some (kM gL_stock) := rfl
theorem lkE_10_215 : bkLk 10 215 = some (kM gX9_stock) := rfl
theorem lkE_10_216 : bkLk 10 216 = some (kM gL_lot) := rfl
theorem lkE_10_218 : bkLk 10 218 = some (kM gX9_lot) := rfl
theorem lkE_10_219 : bkLk 10 219 = some (kM gL_setPrice) := rfl
theorem lkE_10_221 : bkLk 10 221 = some (kM gX9_setPrice) := rfl
theorem lkE_10_222 : bkLk 10 222 = some (kM gL_dropPrice) := rfl
theorem lkE_10_224 : bkLk 10 224 = some (kM gX9_dropPrice) := rfl
theorem lkE_10_225 : bkLk 10 225 = some (kM gL_price) := rfl
theorem lkE_10_227 : bkLk 10 227 = some (kM gX9_price) := rfl
theorem lkE_10_228 : bkLk 10 228 = some (kM gL_cost) := rfl
theorem lkE_10_230 : bkLk 10 230 = some (kM gX9_cost) := rfl
theorem lkE_10_231 : bkLk 10 231 = some (kM gL_make) := rfl
theorem lkE_10_233 : bkLk 10 233 = some (kM gX9_make) := rfl
theorem lkE_10_234 : bkLk 10 234 = some (kM gL_refusal) := rfl
theorem lkE_10_237 : bkLk 10 237 = some (kM gX9_refusal) := rfl
theorem lkE_10_238 : bkLk 10 238 = some (kM gL_pass) := rfl
theorem lkE_10_240 : bkLk 10 240 = some (kM gX9_pass) := rfl
theorem lkE_10_241 : bkLk 10 241 = some (kM gL_account) := rfl
theorem lkE_10_243 : bkLk 10 243 = some (kM gX9_account) := rfl
theorem lkE_10_244 : bkLk 10 244 = some (kM gL_append) := rfl
theorem lkE_10_247 : bkLk 10 247 = some (kM gX9_append) := rfl
theorem lkE_10_248 : bkLk 10 248 = some (kM gL_readBook) := rfl
theorem lkE_10_250 : bkLk 10 250 = some (kM gX9_readBook) := rfl
theorem lkE_10_251 : bkLk 10 251 = some (kM gX8_faultPosition) := rfl
theorem lkE_10_254 : bkLk 10 254 = some (kM gX9_faultPosition) := rfl
theorem lkE_10_255 : bkLk 10 255 = some (kM gL_undo) := rfl
theorem lkE_10_257 : bkLk 10 257 = some (kM gX9_undo) := rfl
theorem lkE_10_258 : bkLk 10 258 = some (kM gX8_save) := rfl
theorem lkE_10_261 : bkLk 10 261 = some (kM gX9_save) := rfl
theorem lkE_10_262 : bkLk 10 262 = some (kM gL_restore) := rfl
theorem lkE_10_265 : bkLk 10 265 = some (kM gX9_restore) := rfl
theorem lkE_11_265 : bkLk 11 265 = some (kV (.int 1431655765)) := rfl
theorem lkE_11_266 : bkLk 11 266 = some (kV (.int 858993459)) := rfl
theorem lkE_11_267 : bkLk 11 267 = some (kV (.int 252645135)) := rfl
