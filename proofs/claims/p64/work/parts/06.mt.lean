/-! ===== the methods as data: rooms by the graph of calls ===== -/
abbrev mX3_init : MT := (yX3_init, none, cX3_init, 2, { frames := 2, cells := 0, slots := 0, locals := 60 }, [], 0, none)
abbrev mX1_init : MT := (yX1_init, none, cX1_init, 1, { frames := 1, cells := 0, slots := 0, locals := 40 }, [], 0, none)
abbrev mX2_init : MT := (yX2_init, none, cX2_init, 1, { frames := 1, cells := 0, slots := 0, locals := 40 }, [], 0, none)
abbrev mX0_init : MT := (yX0_init, none, cX0_init, 1, { frames := 1, cells := 0, slots := 0, locals := 40 }, [], 0, none)
abbrev mL_cell : MT := (yL_cell, (some .int), cL_cell, 2, { frames := 0, cells := 0, slots := 0, locals := 0 }, [], 0, none)
theorem kL_cell : MKS mL_cell 2 := ⟨⟨(by rw [hdW, if_pos rfl]; exact g212), g3, ⟨by decide, by decide⟩, by decide +kernel, rfl, rfl, by decide +kernel, rfl⟩, g211, rfl⟩
abbrev mL_low : MT := (yL_low, (some .int), cL_low, 2, { frames := 0, cells := 0, slots := 0, locals := 0 }, [], 0, none)
theorem kL_low : MKS mL_low 2 := ⟨⟨(by rw [hdW, if_pos rfl]; exact g215), g3, ⟨by decide, by decide⟩, by decide +kernel, rfl, rfl, by decide +kernel, rfl⟩, g214, rfl⟩
abbrev mL_does : MT := (yL_does, (some .boolean), cL_does, 16, { frames := 9, cells := 200, slots := 1200, locals := 165 }, [], 200, none)
theorem kL_does : MKS mL_does 3 := ⟨⟨(by rw [hdW, if_pos rfl]; exact g219), g3, ⟨by decide, by decide⟩, by decide +kernel, rfl, rfl, by decide +kernel, rfl⟩, g218, rfl⟩
abbrev mX3_calls : MT := (yX3_calls, (some .int), cX3_calls, 1, { frames := 0, cells := 0, slots := 0, locals := 0 }, [], 0, none)
theorem kX3_calls : MKV mX3_calls 0 := ⟨⟨(by rw [hdW, if_pos rfl]; exact g223), g4, ⟨by decide, by decide⟩, by decide +kernel, rfl, rfl, by decide +kernel, rfl⟩, ⟨g221, g222⟩, rfl⟩
abbrev mX3_setPrice : MT := (yX3_setPrice, (some .int), cX3_setPrice, 3, { frames := 7, cells := 2, slots := 12, locals := 113 }, [], 2, none)
theorem kX3_setPrice : MKV mX3_setPrice 2 := ⟨⟨(by rw [hdW, if_pos rfl]; exact g227), g4, ⟨by decide, by decide⟩, by decide +kernel, rfl, rfl, by decide +kernel, rfl⟩, ⟨g225, g226⟩, rfl⟩
abbrev mX3_needKind : MT := (yX3_needKind, none, cX3_needKind, 1, { frames := 6, cells := 1, slots := 6, locals := 90 }, [], 1, none)
theorem kX3_needKind : MKS mX3_needKind 1 := ⟨⟨(by rw [hdW, if_pos rfl]; exact g230), g4, ⟨by decide, by decide⟩, by decide +kernel, rfl, rfl, by decide +kernel, rfl⟩, g229, rfl⟩
abbrev mX3_needRange : MT := (yX3_needRange, none, cX3_needRange, 3, { frames := 6, cells := 1, slots := 6, locals := 90 }, [], 1, none)
theorem kX3_needRange : MKS mX3_needRange 3 := ⟨⟨(by rw [hdW, if_pos rfl]; exact g296), g4, ⟨by decide, by decide⟩, by decide +kernel, rfl, rfl, by decide +kernel, rfl⟩, g295, rfl⟩
abbrev mX3_save : MT := (yX3_save, none, cX3_save, 1, { frames := 2, cells := 0, slots := 0, locals := 81 }, [], 0, none)
theorem kX3_save : MKV mX3_save 0 := ⟨⟨(by rw [hdW, if_pos rfl]; exact g315), g4, ⟨by decide, by decide⟩, by decide +kernel, rfl, rfl, by decide +kernel, rfl⟩, ⟨g314, g1⟩, rfl⟩
abbrev mX0_copyFrom : MT := (yX0_copyFrom, none, cX0_copyFrom, 2, { frames := 1, cells := 0, slots := 0, locals := 60 }, [], 0, none)
theorem kX0_copyFrom : MKV mX0_copyFrom 1 := ⟨⟨(by rw [hdW, if_pos rfl]; exact g319), g7, ⟨by decide, by decide⟩, by decide +kernel, rfl, rfl, by decide +kernel, rfl⟩, ⟨g317, g318⟩, rfl⟩
abbrev mX3_saveBefore : MT := (yX3_saveBefore, none, cX3_saveBefore, 3, { frames := 0, cells := 0, slots := 0, locals := 0 }, [], 0, none)
theorem kX3_saveBefore : MKV mX3_saveBefore 0 := ⟨⟨(by rw [hdW, if_pos rfl]; exact g326), g4, ⟨by decide, by decide⟩, by decide +kernel, rfl, rfl, by decide +kernel, rfl⟩, ⟨g325, g2⟩, rfl⟩
abbrev mX0_putPrice : MT := (yX0_putPrice, (some .int), cX0_putPrice, 3, { frames := 4, cells := 0, slots := 0, locals := 91 }, [], 0, none)
theorem kX0_putPrice : MKV mX0_putPrice 2 := ⟨⟨(by rw [hdW, if_pos rfl]; exact g330), g7, ⟨by decide, by decide⟩, by decide +kernel, rfl, rfl, by decide +kernel, rfl⟩, ⟨g328, g329⟩, rfl⟩
abbrev mX0_lookAtClients : MT := (yX0_lookAtClients, (some .int), cX0_lookAtClients, 3, { frames := 3, cells := 0, slots := 0, locals := 69 }, [], 0, none)
theorem kX0_lookAtClients : MKV mX0_lookAtClients 0 := ⟨⟨(by rw [hdW, if_pos rfl]; exact g334), g7, ⟨by decide, by decide⟩, by decide +kernel, rfl, rfl, by decide +kernel, rfl⟩, ⟨g332, g333⟩, rfl⟩
abbrev mX0_cover : MT := (yX0_cover, (some .int), cX0_cover, 2, { frames := 2, cells := 0, slots := 0, locals := 48 }, [], 0, none)
theorem kX0_cover : MKV mX0_cover 1 := ⟨⟨(by rw [hdW, if_pos rfl]; exact g338), g7, ⟨by decide, by decide⟩, by decide +kernel, rfl, rfl, by decide +kernel, rfl⟩, ⟨g336, g337⟩, rfl⟩
abbrev mX0_coverAfterFall : MT := (yX0_coverAfterFall, (some .int), cX0_coverAfterFall, 6, { frames := 1, cells := 0, slots := 0, locals := 23 }, [], 0, none)
theorem kX0_coverAfterFall : MKV mX0_coverAfterFall 3 := ⟨⟨(by rw [hdW, if_pos rfl]; exact g342), g7, ⟨by decide, by decide⟩, by decide +kernel, rfl, rfl, by decide +kernel, rfl⟩, ⟨g340, g341⟩, rfl⟩
abbrev mX3_at : MT := (yX3_at, (some .int), cX3_at, 2, { frames := 0, cells := 0, slots := 0, locals := 0 }, [], 0, none)
theorem kX3_at : MKS mX3_at 2 := ⟨⟨(by rw [hdW, if_pos rfl]; exact g345), g4, ⟨by decide, by decide⟩, by decide +kernel, rfl, rfl, by decide +kernel, rfl⟩, g344, rfl⟩
abbrev mX3_fallen : MT := (yX3_fallen, (some .int), cX3_fallen, 4, { frames := 0, cells := 0, slots := 0, locals := 0 }, [], 0, none)
theorem kX3_fallen : MKS mX3_fallen 3 := ⟨⟨(by rw [hdW, if_pos rfl]; exact g348), g4, ⟨by decide, by decide⟩, by decide +kernel, rfl, rfl, by decide +kernel, rfl⟩, g347, rfl⟩
abbrev mX3_priceOf : MT := (yX3_priceOf, (some .int), cX3_priceOf, 2, { frames := 7, cells := 1, slots := 6, locals := 110 }, [], 1, none)
theorem kX3_priceOf : MKV mX3_priceOf 1 := ⟨⟨(by rw [hdW, if_pos rfl]; exact g352), g4, ⟨by decide, by decide⟩, by decide +kernel, rfl, rfl, by decide +kernel, rfl⟩, ⟨g350, g351⟩, rfl⟩
abbrev mX3_setCut : MT := (yX3_setCut, (some .int), cX3_setCut, 3, { frames := 7, cells := 2, slots := 12, locals := 113 }, [], 2, none)
theorem kX3_setCut : MKV mX3_setCut 2 := ⟨⟨(by rw [hdW, if_pos rfl]; exact g356), g4, ⟨by decide, by decide⟩, by decide +kernel, rfl, rfl, by decide +kernel, rfl⟩, ⟨g354, g355⟩, rfl⟩
abbrev mX0_putCut : MT := (yX0_putCut, (some .int), cX0_putCut, 3, { frames := 4, cells := 0, slots := 0, locals := 91 }, [], 0, none)
theorem kX0_putCut : MKV mX0_putCut 2 := ⟨⟨(by rw [hdW, if_pos rfl]; exact g360), g7, ⟨by decide, by decide⟩, by decide +kernel, rfl, rfl, by decide +kernel, rfl⟩, ⟨g358, g359⟩, rfl⟩
abbrev mX3_cutOf : MT := (yX3_cutOf, (some .int), cX3_cutOf, 2, { frames := 7, cells := 1, slots := 6, locals := 110 }, [], 1, none)
theorem kX3_cutOf : MKV mX3_cutOf 1 := ⟨⟨(by rw [hdW, if_pos rfl]; exact g364), g4, ⟨by decide, by decide⟩, by decide +kernel, rfl, rfl, by decide +kernel, rfl⟩, ⟨g362, g363⟩, rfl⟩
abbrev mX3_calledIfFallen : MT := (yX3_calledIfFallen, (some .int), cX3_calledIfFallen, 2, { frames := 7, cells := 1, slots := 6, locals := 112 }, [], 1, none)
theorem kX3_calledIfFallen : MKV mX3_calledIfFallen 1 := ⟨⟨(by rw [hdW, if_pos rfl]; exact g368), g4, ⟨by decide, by decide⟩, by decide +kernel, rfl, rfl, by decide +kernel, rfl⟩, ⟨g366, g367⟩, rfl⟩
abbrev mX0_countUncoveredAfterFall : MT := (yX0_countUncoveredAfterFall, (some .int), cX0_countUncoveredAfterFall, 4, { frames := 3, cells := 0, slots := 0, locals := 71 }, [], 0, none)
theorem kX0_countUncoveredAfterFall : MKV mX0_countUncoveredAfterFall 1 := ⟨⟨(by rw [hdW, if_pos rfl]; exact g372), g7, ⟨by decide, by decide⟩, by decide +kernel, rfl, rfl, by decide +kernel, rfl⟩, ⟨g370, g371⟩, rfl⟩
abbrev mX0_staysCovered : MT := (yX0_staysCovered, (some .boolean), cX0_staysCovered, 4, { frames := 2, cells := 0, slots := 0, locals := 48 }, [], 0, none)
theorem kX0_staysCovered : MKV mX0_staysCovered 3 := ⟨⟨(by rw [hdW, if_pos rfl]; exact g376), g7, ⟨by decide, by decide⟩, by decide +kernel, rfl, rfl, by decide +kernel, rfl⟩, ⟨g374, g375⟩, rfl⟩
abbrev mX3_fall : MT := (yX3_fall, (some .int), cX3_fall, 2, { frames := 7, cells := 1, slots := 6, locals := 113 }, [], 1, none)
theorem kX3_fall : MKV mX3_fall 1 := ⟨⟨(by rw [hdW, if_pos rfl]; exact g380), g4, ⟨by decide, by decide⟩, by decide +kernel, rfl, rfl, by decide +kernel, rfl⟩, ⟨g378, g379⟩, rfl⟩
abbrev mX0_dropPrices : MT := (yX0_dropPrices, (some .int), cX0_dropPrices, 3, { frames := 4, cells := 0, slots := 0, locals := 91 }, [], 0, none)
theorem kX0_dropPrices : MKV mX0_dropPrices 1 := ⟨⟨(by rw [hdW, if_pos rfl]; exact g384), g7, ⟨by decide, by decide⟩, by decide +kernel, rfl, rfl, by decide +kernel, rfl⟩, ⟨g382, g383⟩, rfl⟩
abbrev mX3_calledNow : MT := (yX3_calledNow, (some .int), cX3_calledNow, 1, { frames := 1, cells := 0, slots := 0, locals := 22 }, [], 0, none)
theorem kX3_calledNow : MKV mX3_calledNow 0 := ⟨⟨(by rw [hdW, if_pos rfl]; exact g388), g4, ⟨by decide, by decide⟩, by decide +kernel, rfl, rfl, by decide +kernel, rfl⟩, ⟨g386, g387⟩, rfl⟩
abbrev mX0_countCalled : MT := (yX0_countCalled, (some .int), cX0_countCalled, 3, { frames := 0, cells := 0, slots := 0, locals := 0 }, [], 0, none)
theorem kX0_countCalled : MKV mX0_countCalled 0 := ⟨⟨(by rw [hdW, if_pos rfl]; exact g392), g7, ⟨by decide, by decide⟩, by decide +kernel, rfl, rfl, by decide +kernel, rfl⟩, ⟨g390, g391⟩, rfl⟩
abbrev mX3_piecesOf : MT := (yX3_piecesOf, (some .int), cX3_piecesOf, 3, { frames := 7, cells := 2, slots := 12, locals := 110 }, [], 2, none)
theorem kX3_piecesOf : MKV mX3_piecesOf 2 := ⟨⟨(by rw [hdW, if_pos rfl]; exact g396), g4, ⟨by decide, by decide⟩, by decide +kernel, rfl, rfl, by decide +kernel, rfl⟩, ⟨g394, g395⟩, rfl⟩
abbrev mX3_needClient : MT := (yX3_needClient, none, cX3_needClient, 1, { frames := 6, cells := 1, slots := 6, locals := 90 }, [], 1, none)
theorem kX3_needClient : MKS mX3_needClient 1 := ⟨⟨(by rw [hdW, if_pos rfl]; exact g399), g4, ⟨by decide, by decide⟩, by decide +kernel, rfl, rfl, by decide +kernel, rfl⟩, g398, rfl⟩
abbrev mX3_coverOf : MT := (yX3_coverOf, (some .int), cX3_coverOf, 2, { frames := 7, cells := 1, slots := 6, locals := 110 }, [], 1, none)
theorem kX3_coverOf : MKV mX3_coverOf 1 := ⟨⟨(by rw [hdW, if_pos rfl]; exact g404), g4, ⟨by decide, by decide⟩, by decide +kernel, rfl, rfl, by decide +kernel, rfl⟩, ⟨g402, g403⟩, rfl⟩
abbrev mX3_pledge : MT := (yX3_pledge, (some .int), cX3_pledge, 4, { frames := 7, cells := 4, slots := 24, locals := 115 }, [], 4, none)
theorem kX3_pledge : MKV mX3_pledge 3 := ⟨⟨(by rw [hdW, if_pos rfl]; exact g409), g4, ⟨by decide, by decide⟩, by decide +kernel, rfl, rfl, by decide +kernel, rfl⟩, ⟨g407, g408⟩, rfl⟩
abbrev mX0_addPieces : MT := (yX0_addPieces, (some .boolean), cX0_addPieces, 5, { frames := 4, cells := 0, slots := 0, locals := 91 }, [], 0, none)
theorem kX0_addPieces : MKV mX0_addPieces 3 := ⟨⟨(by rw [hdW, if_pos rfl]; exact g413), g7, ⟨by decide, by decide⟩, by decide +kernel, rfl, rfl, by decide +kernel, rfl⟩, ⟨g411, g412⟩, rfl⟩
abbrev mX3_need : MT := (yX3_need, none, cX3_need, 1, { frames := 6, cells := 1, slots := 6, locals := 90 }, [], 1, none)
theorem kX3_need : MKS mX3_need 1 := ⟨⟨(by rw [hdW, if_pos rfl]; exact g416), g4, ⟨by decide, by decide⟩, by decide +kernel, rfl, rfl, by decide +kernel, rfl⟩, g415, rfl⟩
abbrev mX3_coinsOf : MT := (yX3_coinsOf, (some .int), cX3_coinsOf, 2, { frames := 7, cells := 1, slots := 6, locals := 110 }, [], 1, none)
theorem kX3_coinsOf : MKV mX3_coinsOf 1 := ⟨⟨(by rw [hdW, if_pos rfl]; exact g435), g4, ⟨by decide, by decide⟩, by decide +kernel, rfl, rfl, by decide +kernel, rfl⟩, ⟨g433, g434⟩, rfl⟩
abbrev mL_much : MT := (yL_much, (some .int), cL_much, 1, { frames := 1, cells := 0, slots := 0, locals := 21 }, [], 0, none)
theorem kL_much : MKS mL_much 1 := ⟨⟨(by rw [hdW, if_pos rfl]; exact g438), g3, ⟨by decide, by decide⟩, by decide +kernel, rfl, rfl, by decide +kernel, rfl⟩, g437, rfl⟩
abbrev mX3_deposit : MT := (yX3_deposit, (some .int), cX3_deposit, 3, { frames := 7, cells := 3, slots := 18, locals := 113 }, [], 3, none)
theorem kX3_deposit : MKV mX3_deposit 2 := ⟨⟨(by rw [hdW, if_pos rfl]; exact g443), g4, ⟨by decide, by decide⟩, by decide +kernel, rfl, rfl, by decide +kernel, rfl⟩, ⟨g441, g442⟩, rfl⟩
abbrev mX0_addCoins : MT := (yX0_addCoins, (some .boolean), cX0_addCoins, 3, { frames := 4, cells := 0, slots := 0, locals := 91 }, [], 0, none)
theorem kX0_addCoins : MKV mX0_addCoins 2 := ⟨⟨(by rw [hdW, if_pos rfl]; exact g447), g7, ⟨by decide, by decide⟩, by decide +kernel, rfl, rfl, by decide +kernel, rfl⟩, ⟨g445, g446⟩, rfl⟩
abbrev mX3_debtOf : MT := (yX3_debtOf, (some .int), cX3_debtOf, 2, { frames := 7, cells := 1, slots := 6, locals := 110 }, [], 1, none)
theorem kX3_debtOf : MKV mX3_debtOf 1 := ⟨⟨(by rw [hdW, if_pos rfl]; exact g452), g4, ⟨by decide, by decide⟩, by decide +kernel, rfl, rfl, by decide +kernel, rfl⟩, ⟨g450, g451⟩, rfl⟩
abbrev mX3_release : MT := (yX3_release, (some .int), cX3_release, 4, { frames := 7, cells := 4, slots := 24, locals := 115 }, [], 4, none)
theorem kX3_release : MKV mX3_release 3 := ⟨⟨(by rw [hdW, if_pos rfl]; exact g456), g4, ⟨by decide, by decide⟩, by decide +kernel, rfl, rfl, by decide +kernel, rfl⟩, ⟨g454, g455⟩, rfl⟩
abbrev mX0_takePieces : MT := (yX0_takePieces, (some .boolean), cX0_takePieces, 5, { frames := 4, cells := 0, slots := 0, locals := 91 }, [], 0, none)
theorem kX0_takePieces : MKV mX0_takePieces 3 := ⟨⟨(by rw [hdW, if_pos rfl]; exact g460), g7, ⟨by decide, by decide⟩, by decide +kernel, rfl, rfl, by decide +kernel, rfl⟩, ⟨g458, g459⟩, rfl⟩
abbrev mX3_isCalled : MT := (yX3_isCalled, (some .boolean), cX3_isCalled, 2, { frames := 7, cells := 1, slots := 6, locals := 110 }, [], 1, none)
theorem kX3_isCalled : MKV mX3_isCalled 1 := ⟨⟨(by rw [hdW, if_pos rfl]; exact g464), g4, ⟨by decide, by decide⟩, by decide +kernel, rfl, rfl, by decide +kernel, rfl⟩, ⟨g462, g463⟩, rfl⟩
abbrev mL_isLent : MT := (yL_isLent, (some .boolean), cL_isLent, 7, { frames := 8, cells := 50, slots := 300, locals := 135 }, [], 50, none)
theorem kL_isLent : MKS mL_isLent 3 := ⟨⟨(by rw [hdW, if_pos rfl]; exact g467), g3, ⟨by decide, by decide⟩, by decide +kernel, rfl, rfl, by decide +kernel, rfl⟩, g466, rfl⟩
abbrev mX3_roomOf : MT := (yX3_roomOf, (some .int), cX3_roomOf, 2, { frames := 7, cells := 1, slots := 6, locals := 110 }, [], 1, none)
theorem kX3_roomOf : MKV mX3_roomOf 1 := ⟨⟨(by rw [hdW, if_pos rfl]; exact g471), g4, ⟨by decide, by decide⟩, by decide +kernel, rfl, rfl, by decide +kernel, rfl⟩, ⟨g469, g470⟩, rfl⟩
abbrev mX0_openRoom : MT := (yX0_openRoom, (some .int), cX0_openRoom, 3, { frames := 3, cells := 0, slots := 0, locals := 69 }, [], 0, none)
theorem kX0_openRoom : MKV mX0_openRoom 1 := ⟨⟨(by rw [hdW, if_pos rfl]; exact g475), g7, ⟨by decide, by decide⟩, by decide +kernel, rfl, rfl, by decide +kernel, rfl⟩, ⟨g473, g474⟩, rfl⟩
abbrev mX3_lent : MT := (yX3_lent, (some .int), cX3_lent, 1, { frames := 0, cells := 0, slots := 0, locals := 0 }, [], 0, none)
theorem kX3_lent : MKV mX3_lent 0 := ⟨⟨(by rw [hdW, if_pos rfl]; exact g479), g4, ⟨by decide, by decide⟩, by decide +kernel, rfl, rfl, by decide +kernel, rfl⟩, ⟨g477, g478⟩, rfl⟩
abbrev mX3_lend : MT := (yX3_lend, (some .int), cX3_lend, 3, { frames := 7, cells := 3, slots := 18, locals := 113 }, [], 3, none)
theorem kX3_lend : MKV mX3_lend 2 := ⟨⟨(by rw [hdW, if_pos rfl]; exact g483), g4, ⟨by decide, by decide⟩, by decide +kernel, rfl, rfl, by decide +kernel, rfl⟩, ⟨g481, g482⟩, rfl⟩
abbrev mX0_addDebt : MT := (yX0_addDebt, (some .boolean), cX0_addDebt, 3, { frames := 4, cells := 0, slots := 0, locals := 91 }, [], 0, none)
theorem kX0_addDebt : MKV mX0_addDebt 2 := ⟨⟨(by rw [hdW, if_pos rfl]; exact g487), g7, ⟨by decide, by decide⟩, by decide +kernel, rfl, rfl, by decide +kernel, rfl⟩, ⟨g485, g486⟩, rfl⟩
abbrev mX3_payBack : MT := (yX3_payBack, (some .int), cX3_payBack, 4, { frames := 7, cells := 3, slots := 18, locals := 114 }, [], 3, none)
theorem kX3_payBack : MKV mX3_payBack 2 := ⟨⟨(by rw [hdW, if_pos rfl]; exact g491), g4, ⟨by decide, by decide⟩, by decide +kernel, rfl, rfl, by decide +kernel, rfl⟩, ⟨g489, g490⟩, rfl⟩
abbrev mX0_takeDebt : MT := (yX0_takeDebt, (some .int), cX0_takeDebt, 4, { frames := 4, cells := 0, slots := 0, locals := 91 }, [], 0, none)
theorem kX0_takeDebt : MKV mX0_takeDebt 2 := ⟨⟨(by rw [hdW, if_pos rfl]; exact g495), g7, ⟨by decide, by decide⟩, by decide +kernel, rfl, rfl, by decide +kernel, rfl⟩, ⟨g493, g494⟩, rfl⟩
abbrev mX3_changeRate : MT := (yX3_changeRate, (some .int), cX3_changeRate, 3, { frames := 7, cells := 1, slots := 6, locals := 112 }, [], 1, none)
theorem kX3_changeRate : MKV mX3_changeRate 1 := ⟨⟨(by rw [hdW, if_pos rfl]; exact g499), g4, ⟨by decide, by decide⟩, by decide +kernel, rfl, rfl, by decide +kernel, rfl⟩, ⟨g497, g498⟩, rfl⟩
abbrev mX3_changeGrace : MT := (yX3_changeGrace, (some .int), cX3_changeGrace, 3, { frames := 7, cells := 1, slots := 6, locals := 112 }, [], 1, none)
theorem kX3_changeGrace : MKV mX3_changeGrace 1 := ⟨⟨(by rw [hdW, if_pos rfl]; exact g503), g4, ⟨by decide, by decide⟩, by decide +kernel, rfl, rfl, by decide +kernel, rfl⟩, ⟨g501, g502⟩, rfl⟩
abbrev mX3_changeSlip : MT := (yX3_changeSlip, (some .int), cX3_changeSlip, 3, { frames := 7, cells := 1, slots := 6, locals := 112 }, [], 1, none)
theorem kX3_changeSlip : MKV mX3_changeSlip 1 := ⟨⟨(by rw [hdW, if_pos rfl]; exact g507), g4, ⟨by decide, by decide⟩, by decide +kernel, rfl, rfl, by decide +kernel, rfl⟩, ⟨g505, g506⟩, rfl⟩
abbrev mX3_turnOrder : MT := (yX3_turnOrder, (some .int), cX3_turnOrder, 1, { frames := 3, cells := 0, slots := 0, locals := 101 }, [], 0, none)
theorem kX3_turnOrder : MKV mX3_turnOrder 0 := ⟨⟨(by rw [hdW, if_pos rfl]; exact g511), g4, ⟨by decide, by decide⟩, by decide +kernel, rfl, rfl, by decide +kernel, rfl⟩, ⟨g509, g510⟩, rfl⟩
abbrev mX3_order : MT := (yX3_order, (some .int), cX3_order, 1, { frames := 0, cells := 0, slots := 0, locals := 0 }, [], 0, none)
theorem kX3_order : MKV mX3_order 0 := ⟨⟨(by rw [hdW, if_pos rfl]; exact g515), g4, ⟨by decide, by decide⟩, by decide +kernel, rfl, rfl, by decide +kernel, rfl⟩, ⟨g513, g514⟩, rfl⟩
abbrev mL_isPassed : MT := (yL_isPassed, (some .boolean), cL_isPassed, 6, { frames := 8, cells := 50, slots := 300, locals := 140 }, [], 50, none)
theorem kL_isPassed : MKS mL_isPassed 2 := ⟨⟨(by rw [hdW, if_pos rfl]; exact g518), g3, ⟨by decide, by decide⟩, by decide +kernel, rfl, rfl, by decide +kernel, rfl⟩, g517, rfl⟩
abbrev mX3_soldOut : MT := (yX3_soldOut, (some .int), cX3_soldOut, 1, { frames := 0, cells := 0, slots := 0, locals := 0 }, [], 0, none)
theorem kX3_soldOut : MKV mX3_soldOut 0 := ⟨⟨(by rw [hdW, if_pos rfl]; exact g522), g4, ⟨by decide, by decide⟩, by decide +kernel, rfl, rfl, by decide +kernel, rfl⟩, ⟨g520, g521⟩, rfl⟩
abbrev mX3_hours : MT := (yX3_hours, (some .int), cX3_hours, 1, { frames := 0, cells := 0, slots := 0, locals := 0 }, [], 0, none)
theorem kX3_hours : MKV mX3_hours 0 := ⟨⟨(by rw [hdW, if_pos rfl]; exact g526), g4, ⟨by decide, by decide⟩, by decide +kernel, rfl, rfl, by decide +kernel, rfl⟩, ⟨g524, g525⟩, rfl⟩
abbrev mX3_debtsByClients : MT := (yX3_debtsByClients, (some .int), cX3_debtsByClients, 1, { frames := 1, cells := 0, slots := 0, locals := 22 }, [], 0, none)
theorem kX3_debtsByClients : MKV mX3_debtsByClients 0 := ⟨⟨(by rw [hdW, if_pos rfl]; exact g530), g4, ⟨by decide, by decide⟩, by decide +kernel, rfl, rfl, by decide +kernel, rfl⟩, ⟨g528, g529⟩, rfl⟩
abbrev mX0_debtsOfAll : MT := (yX0_debtsOfAll, (some .int), cX0_debtsOfAll, 3, { frames := 0, cells := 0, slots := 0, locals := 0 }, [], 0, none)
theorem kX0_debtsOfAll : MKV mX0_debtsOfAll 0 := ⟨⟨(by rw [hdW, if_pos rfl]; exact g534), g7, ⟨by decide, by decide⟩, by decide +kernel, rfl, rfl, by decide +kernel, rfl⟩, ⟨g532, g533⟩, rfl⟩
abbrev mX3_pass : MT := (yX3_pass, (some .int), cX3_pass, 2, { frames := 7, cells := 1, slots := 6, locals := 119 }, [], 1, none)
theorem kX3_pass : MKV mX3_pass 1 := ⟨⟨(by rw [hdW, if_pos rfl]; exact g538), g4, ⟨by decide, by decide⟩, by decide +kernel, rfl, rfl, by decide +kernel, rfl⟩, ⟨g536, g537⟩, rfl⟩
abbrev mX0_passHours : MT := (yX0_passHours, (some .int), cX0_passHours, 6, { frames := 4, cells := 0, slots := 0, locals := 94 }, [], 0, none)
theorem kX0_passHours : MKV mX0_passHours 2 := ⟨⟨(by rw [hdW, if_pos rfl]; exact g542), g7, ⟨by decide, by decide⟩, by decide +kernel, rfl, rfl, by decide +kernel, rfl⟩, ⟨g540, g541⟩, rfl⟩
abbrev mX0_calledAsBits : MT := (yX0_calledAsBits, (some .int), cX0_calledAsBits, 3, { frames := 0, cells := 0, slots := 0, locals := 0 }, [], 0, none)
theorem kX0_calledAsBits : MKV mX0_calledAsBits 0 := ⟨⟨(by rw [hdW, if_pos rfl]; exact g546), g7, ⟨by decide, by decide⟩, by decide +kernel, rfl, rfl, by decide +kernel, rfl⟩, ⟨g544, g545⟩, rfl⟩
abbrev mX0_addInterest : MT := (yX0_addInterest, none, cX0_addInterest, 3, { frames := 1, cells := 0, slots := 0, locals := 21 }, [], 0, none)
theorem kX0_addInterest : MKV mX0_addInterest 0 := ⟨⟨(by rw [hdW, if_pos rfl]; exact g550), g7, ⟨by decide, by decide⟩, by decide +kernel, rfl, rfl, by decide +kernel, rfl⟩, ⟨g548, g549⟩, rfl⟩
abbrev mX0_interestOn : MT := (yX0_interestOn, (some .int), cX0_interestOn, 2, { frames := 0, cells := 0, slots := 0, locals := 0 }, [], 0, none)
theorem kX0_interestOn : MKV mX0_interestOn 1 := ⟨⟨(by rw [hdW, if_pos rfl]; exact g554), g7, ⟨by decide, by decide⟩, by decide +kernel, rfl, rfl, by decide +kernel, rfl⟩, ⟨g552, g553⟩, rfl⟩
abbrev mX0_countDown : MT := (yX0_countDown, none, cX0_countDown, 5, { frames := 3, cells := 0, slots := 0, locals := 70 }, [], 0, none)
theorem kX0_countDown : MKV mX0_countDown 2 := ⟨⟨(by rw [hdW, if_pos rfl]; exact g560), g7, ⟨by decide, by decide⟩, by decide +kernel, rfl, rfl, by decide +kernel, rfl⟩, ⟨g558, g559⟩, rfl⟩
abbrev mX2_reckon : MT := (yX2_reckon, none, cX2_reckon, 5, { frames := 2, cells := 0, slots := 0, locals := 46 }, [], 0, none)
theorem kX2_reckon : MKV mX2_reckon 2 := ⟨⟨(by rw [hdW, if_pos rfl]; exact g564), g6, ⟨by decide, by decide⟩, by decide +kernel, rfl, rfl, by decide +kernel, rfl⟩, ⟨g562, g563⟩, rfl⟩
abbrev mX2_layOutPieces : MT := (yX2_layOutPieces, (some .int), cX2_layOutPieces, 5, { frames := 1, cells := 0, slots := 0, locals := 22 }, [], 0, none)
theorem kX2_layOutPieces : MKV mX2_layOutPieces 2 := ⟨⟨(by rw [hdW, if_pos rfl]; exact g568), g6, ⟨by decide, by decide⟩, by decide +kernel, rfl, rfl, by decide +kernel, rfl⟩, ⟨g566, g567⟩, rfl⟩
abbrev mX2_keyOf : MT := (yX2_keyOf, (some .int), cX2_keyOf, 3, { frames := 0, cells := 0, slots := 0, locals := 0 }, [], 0, none)
theorem kX2_keyOf : MKV mX2_keyOf 2 := ⟨⟨(by rw [hdW, if_pos rfl]; exact g573), g6, ⟨by decide, by decide⟩, by decide +kernel, rfl, rfl, by decide +kernel, rfl⟩, ⟨g571, g572⟩, rfl⟩
abbrev mX2_coverOfOne : MT := (yX2_coverOfOne, (some .int), cX2_coverOfOne, 3, { frames := 0, cells := 0, slots := 0, locals := 0 }, [], 0, none)
theorem kX2_coverOfOne : MKV mX2_coverOfOne 2 := ⟨⟨(by rw [hdW, if_pos rfl]; exact g577), g6, ⟨by decide, by decide⟩, by decide +kernel, rfl, rfl, by decide +kernel, rfl⟩, ⟨g575, g576⟩, rfl⟩
abbrev mX2_payFromCoins : MT := (yX2_payFromCoins, none, cX2_payFromCoins, 2, { frames := 1, cells := 0, slots := 0, locals := 22 }, [], 0, none)
theorem kX2_payFromCoins : MKV mX2_payFromCoins 0 := ⟨⟨(by rw [hdW, if_pos rfl]; exact g581), g6, ⟨by decide, by decide⟩, by decide +kernel, rfl, rfl, by decide +kernel, rfl⟩, ⟨g579, g580⟩, rfl⟩
abbrev mX2_payWith : MT := (yX2_payWith, none, cX2_payWith, 3, { frames := 0, cells := 0, slots := 0, locals := 0 }, [], 0, none)
theorem kX2_payWith : MKV mX2_payWith 1 := ⟨⟨(by rw [hdW, if_pos rfl]; exact g585), g6, ⟨by decide, by decide⟩, by decide +kernel, rfl, rfl, by decide +kernel, rfl⟩, ⟨g583, g584⟩, rfl⟩
abbrev mX2_isCovered : MT := (yX2_isCovered, (some .boolean), cX2_isCovered, 1, { frames := 0, cells := 0, slots := 0, locals := 0 }, [], 0, none)
theorem kX2_isCovered : MKV mX2_isCovered 0 := ⟨⟨(by rw [hdW, if_pos rfl]; exact g589), g6, ⟨by decide, by decide⟩, by decide +kernel, rfl, rfl, by decide +kernel, rfl⟩, ⟨g587, g588⟩, rfl⟩
abbrev mX2_sellOne : MT := (yX2_sellOne, none, cX2_sellOne, 3, { frames := 1, cells := 0, slots := 0, locals := 22 }, [], 0, none)
theorem kX2_sellOne : MKV mX2_sellOne 1 := ⟨⟨(by rw [hdW, if_pos rfl]; exact g593), g6, ⟨by decide, by decide⟩, by decide +kernel, rfl, rfl, by decide +kernel, rfl⟩, ⟨g591, g592⟩, rfl⟩
abbrev mX2_firstKind : MT := (yX2_firstKind, (some .int), cX2_firstKind, 3, { frames := 0, cells := 0, slots := 0, locals := 0 }, [], 0, none)
theorem kX2_firstKind : MKV mX2_firstKind 0 := ⟨⟨(by rw [hdW, if_pos rfl]; exact g597), g6, ⟨by decide, by decide⟩, by decide +kernel, rfl, rfl, by decide +kernel, rfl⟩, ⟨g595, g596⟩, rfl⟩
abbrev mX0_enterSale : MT := (yX0_enterSale, none, cX0_enterSale, 5, { frames := 1, cells := 0, slots := 0, locals := 21 }, [], 0, none)
theorem kX0_enterSale : MKV mX0_enterSale 2 := ⟨⟨(by rw [hdW, if_pos rfl]; exact g601), g7, ⟨by decide, by decide⟩, by decide +kernel, rfl, rfl, by decide +kernel, rfl⟩, ⟨g599, g600⟩, rfl⟩
abbrev mX3_debtsByAccount : MT := (yX3_debtsByAccount, (some .int), cX3_debtsByAccount, 1, { frames := 0, cells := 0, slots := 0, locals := 0 }, [], 0, none)
theorem kX3_debtsByAccount : MKV mX3_debtsByAccount 0 := ⟨⟨(by rw [hdW, if_pos rfl]; exact g605), g4, ⟨by decide, by decide⟩, by decide +kernel, rfl, rfl, by decide +kernel, rfl⟩, ⟨g603, g604⟩, rfl⟩
abbrev mL_isClientSo : MT := (yL_isClientSo, (some .boolean), cL_isClientSo, 12, { frames := 9, cells := 600, slots := 3600, locals := 156 }, [], 600, none)
theorem kL_isClientSo : MKS mL_isClientSo 2 := ⟨⟨(by rw [hdW, if_pos rfl]; exact g608), g3, ⟨by decide, by decide⟩, by decide +kernel, rfl, rfl, by decide +kernel, rfl⟩, g607, rfl⟩
abbrev mX3_worthOf : MT := (yX3_worthOf, (some .int), cX3_worthOf, 2, { frames := 7, cells := 1, slots := 6, locals := 110 }, [], 1, none)
theorem kX3_worthOf : MKV mX3_worthOf 1 := ⟨⟨(by rw [hdW, if_pos rfl]; exact g612), g4, ⟨by decide, by decide⟩, by decide +kernel, rfl, rfl, by decide +kernel, rfl⟩, ⟨g610, g611⟩, rfl⟩
abbrev mX0_worth : MT := (yX0_worth, (some .int), cX0_worth, 4, { frames := 1, cells := 0, slots := 0, locals := 21 }, [], 0, none)
theorem kX0_worth : MKV mX0_worth 1 := ⟨⟨(by rw [hdW, if_pos rfl]; exact g616), g7, ⟨by decide, by decide⟩, by decide +kernel, rfl, rfl, by decide +kernel, rfl⟩, ⟨g614, g615⟩, rfl⟩
abbrev mX3_isBarred : MT := (yX3_isBarred, (some .boolean), cX3_isBarred, 2, { frames := 7, cells := 1, slots := 6, locals := 110 }, [], 1, none)
theorem kX3_isBarred : MKV mX3_isBarred 1 := ⟨⟨(by rw [hdW, if_pos rfl]; exact g620), g4, ⟨by decide, by decide⟩, by decide +kernel, rfl, rfl, by decide +kernel, rfl⟩, ⟨g618, g619⟩, rfl⟩
abbrev mX3_hoursLeft : MT := (yX3_hoursLeft, (some .int), cX3_hoursLeft, 2, { frames := 7, cells := 2, slots := 12, locals := 110 }, [], 2, none)
theorem kX3_hoursLeft : MKV mX3_hoursLeft 1 := ⟨⟨(by rw [hdW, if_pos rfl]; exact g624), g4, ⟨by decide, by decide⟩, by decide +kernel, rfl, rfl, by decide +kernel, rfl⟩, ⟨g622, g623⟩, rfl⟩
abbrev mX3_fallToCallByTrying : MT := (yX3_fallToCallByTrying, (some .int), cX3_fallToCallByTrying, 3, { frames := 7, cells := 2, slots := 12, locals := 110 }, [], 2, none)
theorem kX3_fallToCallByTrying : MKV mX3_fallToCallByTrying 1 := ⟨⟨(by rw [hdW, if_pos rfl]; exact g628), g4, ⟨by decide, by decide⟩, by decide +kernel, rfl, rfl, by decide +kernel, rfl⟩, ⟨g626, g627⟩, rfl⟩
abbrev mX0_callingFallByTrying : MT := (yX0_callingFallByTrying, (some .int), cX0_callingFallByTrying, 3, { frames := 3, cells := 0, slots := 0, locals := 71 }, [], 0, none)
theorem kX0_callingFallByTrying : MKV mX0_callingFallByTrying 1 := ⟨⟨(by rw [hdW, if_pos rfl]; exact g632), g7, ⟨by decide, by decide⟩, by decide +kernel, rfl, rfl, by decide +kernel, rfl⟩, ⟨g630, g631⟩, rfl⟩
abbrev mX3_hoursToCall : MT := (yX3_hoursToCall, (some .int), cX3_hoursToCall, 3, { frames := 7, cells := 2, slots := 12, locals := 110 }, [], 2, none)
theorem kX3_hoursToCall : MKV mX3_hoursToCall 1 := ⟨⟨(by rw [hdW, if_pos rfl]; exact g636), g4, ⟨by decide, by decide⟩, by decide +kernel, rfl, rfl, by decide +kernel, rfl⟩, ⟨g634, g635⟩, rfl⟩
abbrev mX0_hoursUntilCall : MT := (yX0_hoursUntilCall, (some .int), cX0_hoursUntilCall, 5, { frames := 3, cells := 0, slots := 0, locals := 69 }, [], 0, none)
theorem kX0_hoursUntilCall : MKV mX0_hoursUntilCall 1 := ⟨⟨(by rw [hdW, if_pos rfl]; exact g640), g7, ⟨by decide, by decide⟩, by decide +kernel, rfl, rfl, by decide +kernel, rfl⟩, ⟨g638, g639⟩, rfl⟩
abbrev mX3_wouldSell : MT := (yX3_wouldSell, (some .int), cX3_wouldSell, 2, { frames := 7, cells := 1, slots := 6, locals := 110 }, [], 1, none)
theorem kX3_wouldSell : MKV mX3_wouldSell 1 := ⟨⟨(by rw [hdW, if_pos rfl]; exact g644), g4, ⟨by decide, by decide⟩, by decide +kernel, rfl, rfl, by decide +kernel, rfl⟩, ⟨g642, g643⟩, rfl⟩
abbrev mX3_wouldLose : MT := (yX3_wouldLose, (some .int), cX3_wouldLose, 2, { frames := 7, cells := 1, slots := 6, locals := 110 }, [], 1, none)
theorem kX3_wouldLose : MKV mX3_wouldLose 1 := ⟨⟨(by rw [hdW, if_pos rfl]; exact g649), g4, ⟨by decide, by decide⟩, by decide +kernel, rfl, rfl, by decide +kernel, rfl⟩, ⟨g647, g648⟩, rfl⟩
abbrev mX3_fallToCallByHalving : MT := (yX3_fallToCallByHalving, (some .int), cX3_fallToCallByHalving, 3, { frames := 7, cells := 2, slots := 12, locals := 110 }, [], 2, none)
theorem kX3_fallToCallByHalving : MKV mX3_fallToCallByHalving 1 := ⟨⟨(by rw [hdW, if_pos rfl]; exact g653), g4, ⟨by decide, by decide⟩, by decide +kernel, rfl, rfl, by decide +kernel, rfl⟩, ⟨g651, g652⟩, rfl⟩
abbrev mX0_callingFallByHalving : MT := (yX0_callingFallByHalving, (some .int), cX0_callingFallByHalving, 6, { frames := 3, cells := 0, slots := 0, locals := 71 }, [], 0, none)
theorem kX0_callingFallByHalving : MKV mX0_callingFallByHalving 1 := ⟨⟨(by rw [hdW, if_pos rfl]; exact g657), g7, ⟨by decide, by decide⟩, by decide +kernel, rfl, rfl, by decide +kernel, rfl⟩, ⟨g655, g656⟩, rfl⟩
abbrev mL_ifFallen : MT := (yL_ifFallen, (some .int), cL_ifFallen, 5, { frames := 8, cells := 100, slots := 600, locals := 132 }, [], 100, none)
theorem kL_ifFallen : MKS mL_ifFallen 3 := ⟨⟨(by rw [hdW, if_pos rfl]; exact g660), g3, ⟨by decide, by decide⟩, by decide +kernel, rfl, rfl, by decide +kernel, rfl⟩, g659, rfl⟩
abbrev mL_isRiskSo : MT := (yL_isRiskSo, (some .boolean), cL_isRiskSo, 8, { frames := 8, cells := 600, slots := 3600, locals := 166 }, [], 600, none)
theorem kL_isRiskSo : MKS mL_isRiskSo 1 := ⟨⟨(by rw [hdW, if_pos rfl]; exact g663), g3, ⟨by decide, by decide⟩, by decide +kernel, rfl, rfl, by decide +kernel, rfl⟩, g662, rfl⟩
abbrev mX3_riskyBySorting : MT := (yX3_riskyBySorting, (some .int), cX3_riskyBySorting, 2, { frames := 7, cells := 1, slots := 6, locals := 120 }, [], 1, none)
theorem kX3_riskyBySorting : MKV mX3_riskyBySorting 1 := ⟨⟨(by rw [hdW, if_pos rfl]; exact g667), g4, ⟨by decide, by decide⟩, by decide +kernel, rfl, rfl, by decide +kernel, rfl⟩, ⟨g665, g666⟩, rfl⟩
abbrev mX3_needPlace : MT := (yX3_needPlace, none, cX3_needPlace, 1, { frames := 6, cells := 1, slots := 6, locals := 90 }, [], 1, none)
theorem kX3_needPlace : MKS mX3_needPlace 1 := ⟨⟨(by rw [hdW, if_pos rfl]; exact g670), g4, ⟨by decide, by decide⟩, by decide +kernel, rfl, rfl, by decide +kernel, rfl⟩, g669, rfl⟩
abbrev mX0_sortByRisk : MT := (yX0_sortByRisk, none, cX0_sortByRisk, 4, { frames := 4, cells := 0, slots := 0, locals := 97 }, [], 0, none)
theorem kX0_sortByRisk : MKV mX0_sortByRisk 1 := ⟨⟨(by rw [hdW, if_pos rfl]; exact g674), g7, ⟨by decide, by decide⟩, by decide +kernel, rfl, rfl, by decide +kernel, rfl⟩, ⟨g672, g673⟩, rfl⟩
abbrev mX0_isRiskier : MT := (yX0_isRiskier, (some .boolean), cX0_isRiskier, 9, { frames := 3, cells := 0, slots := 0, locals := 69 }, [], 0, none)
theorem kX0_isRiskier : MKV mX0_isRiskier 2 := ⟨⟨(by rw [hdW, if_pos rfl]; exact g678), g7, ⟨by decide, by decide⟩, by decide +kernel, rfl, rfl, by decide +kernel, rfl⟩, ⟨g676, g677⟩, rfl⟩
abbrev mX3_riskyByTaking : MT := (yX3_riskyByTaking, (some .int), cX3_riskyByTaking, 2, { frames := 7, cells := 1, slots := 6, locals := 145 }, [], 1, none)
theorem kX3_riskyByTaking : MKV mX3_riskyByTaking 1 := ⟨⟨(by rw [hdW, if_pos rfl]; exact g682), g4, ⟨by decide, by decide⟩, by decide +kernel, rfl, rfl, by decide +kernel, rfl⟩, ⟨g680, g681⟩, rfl⟩
abbrev mX0_takeRiskiest : MT := (yX0_takeRiskiest, (some .int), cX0_takeRiskiest, 5, { frames := 5, cells := 0, slots := 0, locals := 121 }, [], 0, none)
theorem kX0_takeRiskiest : MKV mX0_takeRiskiest 1 := ⟨⟨(by rw [hdW, if_pos rfl]; exact g686), g7, ⟨by decide, by decide⟩, by decide +kernel, rfl, rfl, by decide +kernel, rfl⟩, ⟨g684, g685⟩, rfl⟩
abbrev mX0_riskiestBut : MT := (yX0_riskiestBut, (some .int), cX0_riskiestBut, 5, { frames := 4, cells := 0, slots := 0, locals := 97 }, [], 0, none)
theorem kX0_riskiestBut : MKV mX0_riskiestBut 1 := ⟨⟨(by rw [hdW, if_pos rfl]; exact g690), g7, ⟨by decide, by decide⟩, by decide +kernel, rfl, rfl, by decide +kernel, rfl⟩, ⟨g688, g689⟩, rfl⟩
abbrev mX3_rankOf : MT := (yX3_rankOf, (some .int), cX3_rankOf, 2, { frames := 7, cells := 1, slots := 6, locals := 120 }, [], 1, none)
theorem kX3_rankOf : MKV mX3_rankOf 1 := ⟨⟨(by rw [hdW, if_pos rfl]; exact g694), g4, ⟨by decide, by decide⟩, by decide +kernel, rfl, rfl, by decide +kernel, rfl⟩, ⟨g692, g693⟩, rfl⟩
abbrev mX0_riskPlace : MT := (yX0_riskPlace, (some .int), cX0_riskPlace, 4, { frames := 4, cells := 0, slots := 0, locals := 97 }, [], 0, none)
theorem kX0_riskPlace : MKV mX0_riskPlace 1 := ⟨⟨(by rw [hdW, if_pos rfl]; exact g698), g7, ⟨by decide, by decide⟩, by decide +kernel, rfl, rfl, by decide +kernel, rfl⟩, ⟨g696, g697⟩, rfl⟩
abbrev mL_areAccountsSo : MT := (yL_areAccountsSo, (some .boolean), cL_areAccountsSo, 8, { frames := 8, cells := 600, slots := 3600, locals := 132 }, [], 600, none)
theorem kL_areAccountsSo : MKS mL_areAccountsSo 1 := ⟨⟨(by rw [hdW, if_pos rfl]; exact g701), g3, ⟨by decide, by decide⟩, by decide +kernel, rfl, rfl, by decide +kernel, rfl⟩, g700, rfl⟩
abbrev mX3_pledgedOf : MT := (yX3_pledgedOf, (some .int), cX3_pledgedOf, 2, { frames := 7, cells := 1, slots := 6, locals := 110 }, [], 1, none)
theorem kX3_pledgedOf : MKV mX3_pledgedOf 1 := ⟨⟨(by rw [hdW, if_pos rfl]; exact g705), g4, ⟨by decide, by decide⟩, by decide +kernel, rfl, rfl, by decide +kernel, rfl⟩, ⟨g703, g704⟩, rfl⟩
abbrev mX0_piecesOfAll : MT := (yX0_piecesOfAll, (some .int), cX0_piecesOfAll, 4, { frames := 1, cells := 0, slots := 0, locals := 21 }, [], 0, none)
theorem kX0_piecesOfAll : MKV mX0_piecesOfAll 1 := ⟨⟨(by rw [hdW, if_pos rfl]; exact g709), g7, ⟨by decide, by decide⟩, by decide +kernel, rfl, rfl, by decide +kernel, rfl⟩, ⟨g707, g708⟩, rfl⟩
abbrev mX3_soldOf : MT := (yX3_soldOf, (some .int), cX3_soldOf, 2, { frames := 7, cells := 1, slots := 6, locals := 110 }, [], 1, none)
theorem kX3_soldOf : MKV mX3_soldOf 1 := ⟨⟨(by rw [hdW, if_pos rfl]; exact g713), g4, ⟨by decide, by decide⟩, by decide +kernel, rfl, rfl, by decide +kernel, rfl⟩, ⟨g711, g712⟩, rfl⟩
abbrev mX3_interest : MT := (yX3_interest, (some .int), cX3_interest, 1, { frames := 0, cells := 0, slots := 0, locals := 0 }, [], 0, none)
theorem kX3_interest : MKV mX3_interest 0 := ⟨⟨(by rw [hdW, if_pos rfl]; exact g717), g4, ⟨by decide, by decide⟩, by decide +kernel, rfl, rfl, by decide +kernel, rfl⟩, ⟨g715, g716⟩, rfl⟩
abbrev mX3_repaid : MT := (yX3_repaid, (some .int), cX3_repaid, 1, { frames := 0, cells := 0, slots := 0, locals := 0 }, [], 0, none)
theorem kX3_repaid : MKV mX3_repaid 0 := ⟨⟨(by rw [hdW, if_pos rfl]; exact g721), g4, ⟨by decide, by decide⟩, by decide +kernel, rfl, rfl, by decide +kernel, rfl⟩, ⟨g719, g720⟩, rfl⟩
abbrev mX3_lost : MT := (yX3_lost, (some .int), cX3_lost, 1, { frames := 0, cells := 0, slots := 0, locals := 0 }, [], 0, none)
theorem kX3_lost : MKV mX3_lost 0 := ⟨⟨(by rw [hdW, if_pos rfl]; exact g725), g4, ⟨by decide, by decide⟩, by decide +kernel, rfl, rfl, by decide +kernel, rfl⟩, ⟨g723, g724⟩, rfl⟩
abbrev mX3_usedShare : MT := (yX3_usedShare, (some .double), cX3_usedShare, 2, { frames := 4, cells := 0, slots := 0, locals := 91 }, [], 0, none)
theorem kX3_usedShare : MKV mX3_usedShare 0 := ⟨⟨(by rw [hdW, if_pos rfl]; exact g729), g4, ⟨by decide, by decide⟩, by decide +kernel, rfl, rfl, by decide +kernel, rfl⟩, ⟨g727, g728⟩, rfl⟩
abbrev mX0_coverOfAll : MT := (yX0_coverOfAll, (some .int), cX0_coverOfAll, 3, { frames := 3, cells := 0, slots := 0, locals := 69 }, [], 0, none)
theorem kX0_coverOfAll : MKV mX0_coverOfAll 0 := ⟨⟨(by rw [hdW, if_pos rfl]; exact g733), g7, ⟨by decide, by decide⟩, by decide +kernel, rfl, rfl, by decide +kernel, rfl⟩, ⟨g731, g732⟩, rfl⟩
theorem foX3_10 : FO RX3 10 3 0 := ⟨_, _, _, _, cf3, by decide, g182⟩
theorem foX3_19 : FO RX3 19 3 1 := ⟨_, _, _, _, cf3, by decide, g183⟩
theorem foX3_23 : FO RX3 23 3 2 := ⟨_, _, _, _, cf3, by decide, g184⟩
theorem foX3_29 : FO RX3 29 3 3 := ⟨_, _, _, _, cf3, by decide, g185⟩
theorem foX3_33 : FO RX3 33 3 4 := ⟨_, _, _, _, cf3, by decide, g186⟩
theorem foX3_37 : FO RX3 37 3 5 := ⟨_, _, _, _, cf3, by decide, g187⟩
theorem foX3_41 : FO RX3 41 3 7 := ⟨_, _, _, _, cf3, by decide, g189⟩
theorem fpX3_41 : FP9 RX3 41 3 7 (.object "PledgeHouse$Ledger") := ⟨_, _, _, _, cf3, by decide, g189, rfl, by decide +kernel⟩
theorem foX3_45 : FO RX3 45 3 8 := ⟨_, _, _, _, cf3, by decide, g190⟩
theorem fpX3_45 : FP9 RX3 45 3 8 (.object "PledgeHouse$Ledger") := ⟨_, _, _, _, cf3, by decide, g190, rfl, by decide +kernel⟩
theorem foX3_88 : FO RX3 88 0 3 := ⟨_, _, _, _, cf0, by decide, g107⟩
theorem foX3_101 : FO RX3 101 0 4 := ⟨_, _, _, _, cf0, by decide, g110⟩
theorem foX3_110 : FO RX3 110 0 5 := ⟨_, _, _, _, cf0, by decide, g113⟩
theorem foX3_124 : FO RX3 124 0 8 := ⟨_, _, _, _, cf0, by decide, g119⟩
theorem fpX3_124 : FP9 RX3 124 0 8 (.int) := ⟨_, _, _, _, cf0, by decide, g119, rfl, by decide +kernel⟩
theorem foX3_128 : FO RX3 128 0 9 := ⟨_, _, _, _, cf0, by decide, g121⟩
theorem fpX3_128 : FP9 RX3 128 0 9 (.int) := ⟨_, _, _, _, cf0, by decide, g121, rfl, by decide +kernel⟩
theorem foX3_131 : FO RX3 131 0 10 := ⟨_, _, _, _, cf0, by decide, g124⟩
theorem fpX3_131 : FP9 RX3 131 0 10 (.int) := ⟨_, _, _, _, cf0, by decide, g124, rfl, by decide +kernel⟩
theorem foX3_134 : FO RX3 134 0 11 := ⟨_, _, _, _, cf0, by decide, g127⟩
theorem fpX3_134 : FP9 RX3 134 0 11 (.int) := ⟨_, _, _, _, cf0, by decide, g127, rfl, by decide +kernel⟩
theorem foX3_172 : FO RX3 172 3 6 := ⟨_, _, _, _, cf3, by decide, g188⟩
theorem fpX3_172 : FP9 RX3 172 3 6 (.int) := ⟨_, _, _, _, cf3, by decide, g188, rfl, by decide +kernel⟩
theorem foX3_175 : FO RX3 175 0 0 := ⟨_, _, _, _, cf0, by decide, g99⟩
theorem foX3_178 : FO RX3 178 0 1 := ⟨_, _, _, _, cf0, by decide, g102⟩
theorem foX3_184 : FO RX3 184 0 2 := ⟨_, _, _, _, cf0, by decide, g104⟩
theorem foX3_196 : FO RX3 196 0 6 := ⟨_, _, _, _, cf0, by decide, g115⟩
theorem foX3_199 : FO RX3 199 0 7 := ⟨_, _, _, _, cf0, by decide, g117⟩
theorem foX3_228 : FO RX3 228 2 5 := ⟨_, _, _, _, cf2, by decide, g64⟩
theorem fpX3_228 : FP9 RX3 228 2 5 (.int) := ⟨_, _, _, _, cf2, by decide, g64, rfl, by decide +kernel⟩
theorem foX3_231 : FO RX3 231 2 7 := ⟨_, _, _, _, cf2, by decide, g69⟩
theorem fpX3_231 : FP9 RX3 231 2 7 (.int) := ⟨_, _, _, _, cf2, by decide, g69, rfl, by decide +kernel⟩
theorem foX3_237 : FO RX3 237 0 12 := ⟨_, _, _, _, cf0, by decide, g129⟩
theorem fpX3_237 : FP9 RX3 237 0 12 (.int) := ⟨_, _, _, _, cf0, by decide, g129, rfl, by decide +kernel⟩
theorem foX3_243 : FO RX3 243 0 13 := ⟨_, _, _, _, cf0, by decide, g131⟩
theorem fpX3_243 : FP9 RX3 243 0 13 (.int) := ⟨_, _, _, _, cf0, by decide, g131, rfl, by decide +kernel⟩
theorem foX3_246 : FO RX3 246 0 14 := ⟨_, _, _, _, cf0, by decide, g133⟩
theorem fpX3_246 : FP9 RX3 246 0 14 (.int) := ⟨_, _, _, _, cf0, by decide, g133, rfl, by decide +kernel⟩
theorem foX3_249 : FO RX3 249 0 15 := ⟨_, _, _, _, cf0, by decide, g135⟩
theorem fpX3_249 : FP9 RX3 249 0 15 (.int) := ⟨_, _, _, _, cf0, by decide, g135, rfl, by decide +kernel⟩
theorem foX3_252 : FO RX3 252 0 16 := ⟨_, _, _, _, cf0, by decide, g137⟩
theorem fpX3_252 : FP9 RX3 252 0 16 (.int) := ⟨_, _, _, _, cf0, by decide, g137, rfl, by decide +kernel⟩
theorem foX3_255 : FO RX3 255 0 17 := ⟨_, _, _, _, cf0, by decide, g139⟩
theorem fpX3_255 : FP9 RX3 255 0 17 (.int) := ⟨_, _, _, _, cf0, by decide, g139, rfl, by decide +kernel⟩
theorem foX3_258 : FO RX3 258 0 18 := ⟨_, _, _, _, cf0, by decide, g141⟩
theorem fpX3_258 : FP9 RX3 258 0 18 (.int) := ⟨_, _, _, _, cf0, by decide, g141, rfl, by decide +kernel⟩
theorem foX0_9 : FO RX0 9 0 0 := ⟨_, _, _, _, cf0, by decide, g97⟩
theorem foX0_15 : FO RX0 15 0 1 := ⟨_, _, _, _, cf0, by decide, g100⟩
theorem foX0_18 : FO RX0 18 0 2 := ⟨_, _, _, _, cf0, by decide, g103⟩
theorem foX0_21 : FO RX0 21 0 3 := ⟨_, _, _, _, cf0, by decide, g105⟩
theorem foX0_24 : FO RX0 24 0 4 := ⟨_, _, _, _, cf0, by decide, g108⟩
theorem foX0_27 : FO RX0 27 0 5 := ⟨_, _, _, _, cf0, by decide, g111⟩
theorem foX0_30 : FO RX0 30 0 6 := ⟨_, _, _, _, cf0, by decide, g114⟩
theorem foX0_33 : FO RX0 33 0 7 := ⟨_, _, _, _, cf0, by decide, g116⟩
theorem foX0_37 : FO RX0 37 0 8 := ⟨_, _, _, _, cf0, by decide, g118⟩
theorem fpX0_37 : FP9 RX0 37 0 8 (.int) := ⟨_, _, _, _, cf0, by decide, g118, rfl, by decide +kernel⟩
theorem foX0_41 : FO RX0 41 0 9 := ⟨_, _, _, _, cf0, by decide, g120⟩
theorem fpX0_41 : FP9 RX0 41 0 9 (.int) := ⟨_, _, _, _, cf0, by decide, g120, rfl, by decide +kernel⟩
theorem foX0_44 : FO RX0 44 0 10 := ⟨_, _, _, _, cf0, by decide, g122⟩
theorem fpX0_44 : FP9 RX0 44 0 10 (.int) := ⟨_, _, _, _, cf0, by decide, g122, rfl, by decide +kernel⟩
theorem foX0_47 : FO RX0 47 0 11 := ⟨_, _, _, _, cf0, by decide, g125⟩
theorem fpX0_47 : FP9 RX0 47 0 11 (.int) := ⟨_, _, _, _, cf0, by decide, g125, rfl, by decide +kernel⟩
theorem foX0_62 : FO RX0 62 0 12 := ⟨_, _, _, _, cf0, by decide, g128⟩
theorem fpX0_62 : FP9 RX0 62 0 12 (.int) := ⟨_, _, _, _, cf0, by decide, g128, rfl, by decide +kernel⟩
theorem foX0_65 : FO RX0 65 0 13 := ⟨_, _, _, _, cf0, by decide, g130⟩
theorem fpX0_65 : FP9 RX0 65 0 13 (.int) := ⟨_, _, _, _, cf0, by decide, g130, rfl, by decide +kernel⟩
theorem foX0_68 : FO RX0 68 0 14 := ⟨_, _, _, _, cf0, by decide, g132⟩
theorem fpX0_68 : FP9 RX0 68 0 14 (.int) := ⟨_, _, _, _, cf0, by decide, g132, rfl, by decide +kernel⟩
theorem foX0_71 : FO RX0 71 0 15 := ⟨_, _, _, _, cf0, by decide, g134⟩
theorem fpX0_71 : FP9 RX0 71 0 15 (.int) := ⟨_, _, _, _, cf0, by decide, g134, rfl, by decide +kernel⟩
theorem foX0_74 : FO RX0 74 0 16 := ⟨_, _, _, _, cf0, by decide, g136⟩
theorem fpX0_74 : FP9 RX0 74 0 16 (.int) := ⟨_, _, _, _, cf0, by decide, g136, rfl, by decide +kernel⟩
theorem foX0_77 : FO RX0 77 0 17 := ⟨_, _, _, _, cf0, by decide, g138⟩
theorem fpX0_77 : FP9 RX0 77 0 17 (.int) := ⟨_, _, _, _, cf0, by decide, g138, rfl, by decide +kernel⟩
theorem foX0_80 : FO RX0 80 0 18 := ⟨_, _, _, _, cf0, by decide, g140⟩
theorem fpX0_80 : FP9 RX0 80 0 18 (.int) := ⟨_, _, _, _, cf0, by decide, g140, rfl, by decide +kernel⟩
theorem foX0_141 : FO RX0 141 2 0 := ⟨_, _, _, _, cf2, by decide, g56⟩
theorem foX0_144 : FO RX0 144 2 2 := ⟨_, _, _, _, cf2, by decide, g59⟩
theorem fpX0_144 : FP9 RX0 144 2 2 (.int) := ⟨_, _, _, _, cf2, by decide, g59, rfl, by decide +kernel⟩
theorem foX0_147 : FO RX0 147 2 3 := ⟨_, _, _, _, cf2, by decide, g61⟩
theorem fpX0_147 : FP9 RX0 147 2 3 (.int) := ⟨_, _, _, _, cf2, by decide, g61, rfl, by decide +kernel⟩
theorem foX0_150 : FO RX0 150 2 6 := ⟨_, _, _, _, cf2, by decide, g66⟩
theorem fpX0_150 : FP9 RX0 150 2 6 (.int) := ⟨_, _, _, _, cf2, by decide, g66, rfl, by decide +kernel⟩
theorem foX0_153 : FO RX0 153 2 7 := ⟨_, _, _, _, cf2, by decide, g68⟩
theorem fpX0_153 : FP9 RX0 153 2 7 (.int) := ⟨_, _, _, _, cf2, by decide, g68, rfl, by decide +kernel⟩
theorem foX1_9 : FO RX1 9 1 0 := ⟨_, _, _, _, cf1, by decide, g30⟩
theorem foX2_9 : FO RX2 9 2 0 := ⟨_, _, _, _, cf2, by decide, g55⟩
theorem foX2_15 : FO RX2 15 2 1 := ⟨_, _, _, _, cf2, by decide, g57⟩
theorem foX2_18 : FO RX2 18 0 4 := ⟨_, _, _, _, cf0, by decide, g109⟩
theorem foX2_23 : FO RX2 23 2 2 := ⟨_, _, _, _, cf2, by decide, g58⟩
theorem fpX2_23 : FP9 RX2 23 2 2 (.int) := ⟨_, _, _, _, cf2, by decide, g58, rfl, by decide +kernel⟩
theorem foX2_27 : FO RX2 27 0 5 := ⟨_, _, _, _, cf0, by decide, g112⟩
theorem foX2_30 : FO RX2 30 2 3 := ⟨_, _, _, _, cf2, by decide, g60⟩
theorem fpX2_30 : FP9 RX2 30 2 3 (.int) := ⟨_, _, _, _, cf2, by decide, g60, rfl, by decide +kernel⟩
theorem foX2_33 : FO RX2 33 2 5 := ⟨_, _, _, _, cf2, by decide, g63⟩
theorem fpX2_33 : FP9 RX2 33 2 5 (.int) := ⟨_, _, _, _, cf2, by decide, g63, rfl, by decide +kernel⟩
theorem foX2_36 : FO RX2 36 2 6 := ⟨_, _, _, _, cf2, by decide, g65⟩
theorem fpX2_36 : FP9 RX2 36 2 6 (.int) := ⟨_, _, _, _, cf2, by decide, g65, rfl, by decide +kernel⟩
theorem foX2_39 : FO RX2 39 2 7 := ⟨_, _, _, _, cf2, by decide, g67⟩
theorem fpX2_39 : FP9 RX2 39 2 7 (.int) := ⟨_, _, _, _, cf2, by decide, g67, rfl, by decide +kernel⟩
theorem foX2_57 : FO RX2 57 2 4 := ⟨_, _, _, _, cf2, by decide, g62⟩
theorem fpX2_57 : FP9 RX2 57 2 4 (.int) := ⟨_, _, _, _, cf2, by decide, g62, rfl, by decide +kernel⟩
theorem foX2_60 : FO RX2 60 0 3 := ⟨_, _, _, _, cf0, by decide, g106⟩
theorem foX2_73 : FO RX2 73 0 11 := ⟨_, _, _, _, cf0, by decide, g126⟩
theorem fpX2_73 : FP9 RX2 73 0 11 (.int) := ⟨_, _, _, _, cf0, by decide, g126, rfl, by decide +kernel⟩
theorem foX2_76 : FO RX2 76 0 1 := ⟨_, _, _, _, cf0, by decide, g101⟩
theorem foX2_79 : FO RX2 79 0 0 := ⟨_, _, _, _, cf0, by decide, g98⟩
theorem foX2_90 : FO RX2 90 0 10 := ⟨_, _, _, _, cf0, by decide, g123⟩
theorem fpX2_90 : FP9 RX2 90 0 10 (.int) := ⟨_, _, _, _, cf0, by decide, g123, rfl, by decide +kernel⟩
