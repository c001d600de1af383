/-! ===== the methods as data: rooms by the graph of calls ===== -/
abbrev mX3_init : MT := (yX3_init, none, cX3_init, 2, { frames := 2, cells := 0, slots := 0, locals := 60 }, [], 0, none)
abbrev mX1_init : MT := (yX1_init, none, cX1_init, 1, { frames := 1, cells := 0, slots := 0, locals := 40 }, [], 0, none)
abbrev mX2_init : MT := (yX2_init, none, cX2_init, 1, { frames := 1, cells := 0, slots := 0, locals := 40 }, [], 0, none)
abbrev mX0_init : MT := (yX0_init, none, cX0_init, 1, { frames := 1, cells := 0, slots := 0, locals := 40 }, [], 0, none)
abbrev mX3_turnOrder : MT := (yX3_turnOrder, (some .int), cX3_turnOrder, 1, { frames := 3, cells := 0, slots := 0, locals := 101 }, [], 0, none)
theorem kX3_turnOrder : MKV mX3_turnOrder 0 := ⟨⟨(by rw [hdW, if_pos rfl]; exact g287), g60, ⟨by decide, by decide⟩, by decide +kernel, rfl, rfl, by decide +kernel, rfl⟩, ⟨g285, g286⟩, rfl⟩
abbrev mX3_save : MT := (yX3_save, none, cX3_save, 1, { frames := 2, cells := 0, slots := 0, locals := 81 }, [], 0, none)
theorem kX3_save : MKV mX3_save 0 := ⟨⟨(by rw [hdW, if_pos rfl]; exact g291), g60, ⟨by decide, by decide⟩, by decide +kernel, rfl, rfl, by decide +kernel, rfl⟩, ⟨g290, g0⟩, rfl⟩
abbrev mX0_copyFrom : MT := (yX0_copyFrom, none, cX0_copyFrom, 2, { frames := 1, cells := 0, slots := 0, locals := 60 }, [], 0, none)
theorem kX0_copyFrom : MKV mX0_copyFrom 1 := ⟨⟨(by rw [hdW, if_pos rfl]; exact g295), g63, ⟨by decide, by decide⟩, by decide +kernel, rfl, rfl, by decide +kernel, rfl⟩, ⟨g293, g294⟩, rfl⟩
abbrev mX3_saveBefore : MT := (yX3_saveBefore, none, cX3_saveBefore, 3, { frames := 0, cells := 0, slots := 0, locals := 0 }, [], 0, none)
theorem kX3_saveBefore : MKV mX3_saveBefore 0 := ⟨⟨(by rw [hdW, if_pos rfl]; exact g302), g60, ⟨by decide, by decide⟩, by decide +kernel, rfl, rfl, by decide +kernel, rfl⟩, ⟨g301, g1⟩, rfl⟩
abbrev mX3_clearBuffer : MT := (yX3_clearBuffer, (some .int), cX3_clearBuffer, 2, { frames := 0, cells := 0, slots := 0, locals := 0 }, [], 0, none)
theorem kX3_clearBuffer : MKV mX3_clearBuffer 0 := ⟨⟨(by rw [hdW, if_pos rfl]; exact g306), g60, ⟨by decide, by decide⟩, by decide +kernel, rfl, rfl, by decide +kernel, rfl⟩, ⟨g304, g305⟩, rfl⟩
abbrev mX3_firstError : MT := (yX3_firstError, (some .int), cX3_firstError, 1, { frames := 9, cells := 0, slots := 0, locals := 215 }, [], 0, none)
theorem kX3_firstError : MKV mX3_firstError 0 := ⟨⟨(by rw [hdW, if_pos rfl]; exact g310), g60, ⟨by decide, by decide⟩, by decide +kernel, rfl, rfl, by decide +kernel, rfl⟩, ⟨g308, g309⟩, rfl⟩
abbrev mX1_findError : MT := (yX1_findError, (some .int), cX1_findError, 2, { frames := 8, cells := 0, slots := 0, locals := 194 }, [], 0, none)
theorem kX1_findError : MKV mX1_findError 0 := ⟨⟨(by rw [hdW, if_pos rfl]; exact g314), g61, ⟨by decide, by decide⟩, by decide +kernel, rfl, rfl, by decide +kernel, rfl⟩, ⟨g312, g313⟩, rfl⟩
abbrev mX1_startPart : MT := (yX1_startPart, none, cX1_startPart, 1, { frames := 0, cells := 0, slots := 0, locals := 0 }, [], 0, none)
theorem kX1_startPart : MKV mX1_startPart 0 := ⟨⟨(by rw [hdW, if_pos rfl]; exact g318), g61, ⟨by decide, by decide⟩, by decide +kernel, rfl, rfl, by decide +kernel, rfl⟩, ⟨g316, g317⟩, rfl⟩
abbrev mX1_take : MT := (yX1_take, (some .boolean), cX1_take, 2, { frames := 7, cells := 0, slots := 0, locals := 173 }, [], 0, none)
theorem kX1_take : MKV mX1_take 1 := ⟨⟨(by rw [hdW, if_pos rfl]; exact g322), g61, ⟨by decide, by decide⟩, by decide +kernel, rfl, rfl, by decide +kernel, rfl⟩, ⟨g320, g321⟩, rfl⟩
abbrev mX1_shapeOf : MT := (yX1_shapeOf, (some (.object "java/lang/String")), cX1_shapeOf, 1, { frames := 0, cells := 0, slots := 0, locals := 0 }, [], 0, none)
theorem kX1_shapeOf : MKS mX1_shapeOf 1 := ⟨⟨(by rw [hdW, if_pos rfl]; exact g325), g61, ⟨by decide, by decide⟩, by decide +kernel, rfl, rfl, by decide +kernel, rfl⟩, g324, rfl⟩
abbrev mX1_isWholePart : MT := (yX1_isWholePart, (some .boolean), cX1_isWholePart, 1, { frames := 0, cells := 0, slots := 0, locals := 0 }, [], 0, none)
theorem kX1_isWholePart : MKV mX1_isWholePart 0 := ⟨⟨(by rw [hdW, if_pos rfl]; exact g338), g61, ⟨by decide, by decide⟩, by decide +kernel, rfl, rfl, by decide +kernel, rfl⟩, ⟨g336, g337⟩, rfl⟩
abbrev mX1_takeInside : MT := (yX1_takeInside, (some .boolean), cX1_takeInside, 4, { frames := 6, cells := 0, slots := 0, locals := 150 }, [], 0, none)
theorem kX1_takeInside : MKV mX1_takeInside 1 := ⟨⟨(by rw [hdW, if_pos rfl]; exact g342), g61, ⟨by decide, by decide⟩, by decide +kernel, rfl, rfl, by decide +kernel, rfl⟩, ⟨g340, g341⟩, rfl⟩
abbrev mX1_takeDigit : MT := (yX1_takeDigit, (some .boolean), cX1_takeDigit, 3, { frames := 1, cells := 0, slots := 0, locals := 20 }, [], 0, none)
theorem kX1_takeDigit : MKV mX1_takeDigit 1 := ⟨⟨(by rw [hdW, if_pos rfl]; exact g394), g61, ⟨by decide, by decide⟩, by decide +kernel, rfl, rfl, by decide +kernel, rfl⟩, ⟨g392, g393⟩, rfl⟩
abbrev mX1_leastNumber : MT := (yX1_leastNumber, (some .int), cX1_leastNumber, 1, { frames := 0, cells := 0, slots := 0, locals := 0 }, [], 0, none)
theorem kX1_leastNumber : MKV mX1_leastNumber 0 := ⟨⟨(by rw [hdW, if_pos rfl]; exact g398), g61, ⟨by decide, by decide⟩, by decide +kernel, rfl, rfl, by decide +kernel, rfl⟩, ⟨g396, g397⟩, rfl⟩
abbrev mX1_mostNumber : MT := (yX1_mostNumber, (some .int), cX1_mostNumber, 1, { frames := 0, cells := 0, slots := 0, locals := 0 }, [], 0, none)
theorem kX1_mostNumber : MKV mX1_mostNumber 0 := ⟨⟨(by rw [hdW, if_pos rfl]; exact g402), g61, ⟨by decide, by decide⟩, by decide +kernel, rfl, rfl, by decide +kernel, rfl⟩, ⟨g400, g401⟩, rfl⟩
abbrev mX3_savedStates : MT := (yX3_savedStates, (some .int), cX3_savedStates, 1, { frames := 0, cells := 0, slots := 0, locals := 0 }, [], 0, none)
theorem kX3_savedStates : MKV mX3_savedStates 0 := ⟨⟨(by rw [hdW, if_pos rfl]; exact g407), g60, ⟨by decide, by decide⟩, by decide +kernel, rfl, rfl, by decide +kernel, rfl⟩, ⟨g405, g406⟩, rfl⟩
abbrev mX3_calledNow : MT := (yX3_calledNow, (some .int), cX3_calledNow, 1, { frames := 1, cells := 0, slots := 0, locals := 22 }, [], 0, none)
theorem kX3_calledNow : MKV mX3_calledNow 0 := ⟨⟨(by rw [hdW, if_pos rfl]; exact g411), g60, ⟨by decide, by decide⟩, by decide +kernel, rfl, rfl, by decide +kernel, rfl⟩, ⟨g409, g410⟩, rfl⟩
abbrev mX0_countCalled : MT := (yX0_countCalled, (some .int), cX0_countCalled, 3, { frames := 0, cells := 0, slots := 0, locals := 0 }, [], 0, none)
theorem kX0_countCalled : MKV mX0_countCalled 0 := ⟨⟨(by rw [hdW, if_pos rfl]; exact g415), g63, ⟨by decide, by decide⟩, by decide +kernel, rfl, rfl, by decide +kernel, rfl⟩, ⟨g413, g414⟩, rfl⟩
abbrev mX3_rate : MT := (yX3_rate, (some .int), cX3_rate, 1, { frames := 0, cells := 0, slots := 0, locals := 0 }, [], 0, none)
theorem kX3_rate : MKV mX3_rate 0 := ⟨⟨(by rw [hdW, if_pos rfl]; exact g419), g60, ⟨by decide, by decide⟩, by decide +kernel, rfl, rfl, by decide +kernel, rfl⟩, ⟨g417, g418⟩, rfl⟩
abbrev mX3_grace : MT := (yX3_grace, (some .int), cX3_grace, 1, { frames := 0, cells := 0, slots := 0, locals := 0 }, [], 0, none)
theorem kX3_grace : MKV mX3_grace 0 := ⟨⟨(by rw [hdW, if_pos rfl]; exact g423), g60, ⟨by decide, by decide⟩, by decide +kernel, rfl, rfl, by decide +kernel, rfl⟩, ⟨g421, g422⟩, rfl⟩
abbrev mX3_slip : MT := (yX3_slip, (some .int), cX3_slip, 1, { frames := 0, cells := 0, slots := 0, locals := 0 }, [], 0, none)
theorem kX3_slip : MKV mX3_slip 0 := ⟨⟨(by rw [hdW, if_pos rfl]; exact g427), g60, ⟨by decide, by decide⟩, by decide +kernel, rfl, rfl, by decide +kernel, rfl⟩, ⟨g425, g426⟩, rfl⟩
abbrev mX3_order : MT := (yX3_order, (some .int), cX3_order, 1, { frames := 0, cells := 0, slots := 0, locals := 0 }, [], 0, none)
theorem kX3_order : MKV mX3_order 0 := ⟨⟨(by rw [hdW, if_pos rfl]; exact g431), g60, ⟨by decide, by decide⟩, by decide +kernel, rfl, rfl, by decide +kernel, rfl⟩, ⟨g429, g430⟩, rfl⟩
abbrev mX3_hours : MT := (yX3_hours, (some .int), cX3_hours, 1, { frames := 0, cells := 0, slots := 0, locals := 0 }, [], 0, none)
theorem kX3_hours : MKV mX3_hours 0 := ⟨⟨(by rw [hdW, if_pos rfl]; exact g435), g60, ⟨by decide, by decide⟩, by decide +kernel, rfl, rfl, by decide +kernel, rfl⟩, ⟨g433, g434⟩, rfl⟩
abbrev mX3_debtsByClients : MT := (yX3_debtsByClients, (some .int), cX3_debtsByClients, 1, { frames := 1, cells := 0, slots := 0, locals := 22 }, [], 0, none)
theorem kX3_debtsByClients : MKV mX3_debtsByClients 0 := ⟨⟨(by rw [hdW, if_pos rfl]; exact g439), g60, ⟨by decide, by decide⟩, by decide +kernel, rfl, rfl, by decide +kernel, rfl⟩, ⟨g437, g438⟩, rfl⟩
abbrev mX0_debtsOfAll : MT := (yX0_debtsOfAll, (some .int), cX0_debtsOfAll, 3, { frames := 0, cells := 0, slots := 0, locals := 0 }, [], 0, none)
theorem kX0_debtsOfAll : MKV mX0_debtsOfAll 0 := ⟨⟨(by rw [hdW, if_pos rfl]; exact g443), g63, ⟨by decide, by decide⟩, by decide +kernel, rfl, rfl, by decide +kernel, rfl⟩, ⟨g441, g442⟩, rfl⟩
abbrev mX3_debtsByAccount : MT := (yX3_debtsByAccount, (some .int), cX3_debtsByAccount, 1, { frames := 0, cells := 0, slots := 0, locals := 0 }, [], 0, none)
theorem kX3_debtsByAccount : MKV mX3_debtsByAccount 0 := ⟨⟨(by rw [hdW, if_pos rfl]; exact g447), g60, ⟨by decide, by decide⟩, by decide +kernel, rfl, rfl, by decide +kernel, rfl⟩, ⟨g445, g446⟩, rfl⟩
abbrev mX3_lent : MT := (yX3_lent, (some .int), cX3_lent, 1, { frames := 0, cells := 0, slots := 0, locals := 0 }, [], 0, none)
theorem kX3_lent : MKV mX3_lent 0 := ⟨⟨(by rw [hdW, if_pos rfl]; exact g451), g60, ⟨by decide, by decide⟩, by decide +kernel, rfl, rfl, by decide +kernel, rfl⟩, ⟨g449, g450⟩, rfl⟩
abbrev mX3_interest : MT := (yX3_interest, (some .int), cX3_interest, 1, { frames := 0, cells := 0, slots := 0, locals := 0 }, [], 0, none)
theorem kX3_interest : MKV mX3_interest 0 := ⟨⟨(by rw [hdW, if_pos rfl]; exact g455), g60, ⟨by decide, by decide⟩, by decide +kernel, rfl, rfl, by decide +kernel, rfl⟩, ⟨g453, g454⟩, rfl⟩
abbrev mX3_repaid : MT := (yX3_repaid, (some .int), cX3_repaid, 1, { frames := 0, cells := 0, slots := 0, locals := 0 }, [], 0, none)
theorem kX3_repaid : MKV mX3_repaid 0 := ⟨⟨(by rw [hdW, if_pos rfl]; exact g459), g60, ⟨by decide, by decide⟩, by decide +kernel, rfl, rfl, by decide +kernel, rfl⟩, ⟨g457, g458⟩, rfl⟩
abbrev mX3_lost : MT := (yX3_lost, (some .int), cX3_lost, 1, { frames := 0, cells := 0, slots := 0, locals := 0 }, [], 0, none)
theorem kX3_lost : MKV mX3_lost 0 := ⟨⟨(by rw [hdW, if_pos rfl]; exact g463), g60, ⟨by decide, by decide⟩, by decide +kernel, rfl, rfl, by decide +kernel, rfl⟩, ⟨g461, g462⟩, rfl⟩
abbrev mX3_calls : MT := (yX3_calls, (some .int), cX3_calls, 1, { frames := 0, cells := 0, slots := 0, locals := 0 }, [], 0, none)
theorem kX3_calls : MKV mX3_calls 0 := ⟨⟨(by rw [hdW, if_pos rfl]; exact g467), g60, ⟨by decide, by decide⟩, by decide +kernel, rfl, rfl, by decide +kernel, rfl⟩, ⟨g465, g466⟩, rfl⟩
abbrev mX3_soldOut : MT := (yX3_soldOut, (some .int), cX3_soldOut, 1, { frames := 0, cells := 0, slots := 0, locals := 0 }, [], 0, none)
theorem kX3_soldOut : MKV mX3_soldOut 0 := ⟨⟨(by rw [hdW, if_pos rfl]; exact g471), g60, ⟨by decide, by decide⟩, by decide +kernel, rfl, rfl, by decide +kernel, rfl⟩, ⟨g469, g470⟩, rfl⟩
abbrev mX3_usedShare : MT := (yX3_usedShare, (some .double), cX3_usedShare, 2, { frames := 4, cells := 0, slots := 0, locals := 91 }, [], 0, none)
theorem kX3_usedShare : MKV mX3_usedShare 0 := ⟨⟨(by rw [hdW, if_pos rfl]; exact g475), g60, ⟨by decide, by decide⟩, by decide +kernel, rfl, rfl, by decide +kernel, rfl⟩, ⟨g473, g474⟩, rfl⟩
abbrev mX0_coverOfAll : MT := (yX0_coverOfAll, (some .int), cX0_coverOfAll, 3, { frames := 3, cells := 0, slots := 0, locals := 69 }, [], 0, none)
theorem kX0_coverOfAll : MKV mX0_coverOfAll 0 := ⟨⟨(by rw [hdW, if_pos rfl]; exact g479), g63, ⟨by decide, by decide⟩, by decide +kernel, rfl, rfl, by decide +kernel, rfl⟩, ⟨g477, g478⟩, rfl⟩
abbrev mX0_cover : MT := (yX0_cover, (some .int), cX0_cover, 2, { frames := 2, cells := 0, slots := 0, locals := 48 }, [], 0, none)
theorem kX0_cover : MKV mX0_cover 1 := ⟨⟨(by rw [hdW, if_pos rfl]; exact g483), g63, ⟨by decide, by decide⟩, by decide +kernel, rfl, rfl, by decide +kernel, rfl⟩, ⟨g481, g482⟩, rfl⟩
abbrev mX0_coverAfterFall : MT := (yX0_coverAfterFall, (some .int), cX0_coverAfterFall, 6, { frames := 1, cells := 0, slots := 0, locals := 23 }, [], 0, none)
theorem kX0_coverAfterFall : MKV mX0_coverAfterFall 3 := ⟨⟨(by rw [hdW, if_pos rfl]; exact g487), g63, ⟨by decide, by decide⟩, by decide +kernel, rfl, rfl, by decide +kernel, rfl⟩, ⟨g485, g486⟩, rfl⟩
abbrev mX3_at : MT := (yX3_at, (some .int), cX3_at, 2, { frames := 0, cells := 0, slots := 0, locals := 0 }, [], 0, none)
theorem kX3_at : MKS mX3_at 2 := ⟨⟨(by rw [hdW, if_pos rfl]; exact g490), g60, ⟨by decide, by decide⟩, by decide +kernel, rfl, rfl, by decide +kernel, rfl⟩, g489, rfl⟩
abbrev mX3_fallen : MT := (yX3_fallen, (some .int), cX3_fallen, 4, { frames := 0, cells := 0, slots := 0, locals := 0 }, [], 0, none)
theorem kX3_fallen : MKS mX3_fallen 3 := ⟨⟨(by rw [hdW, if_pos rfl]; exact g493), g60, ⟨by decide, by decide⟩, by decide +kernel, rfl, rfl, by decide +kernel, rfl⟩, g492, rfl⟩
abbrev mX3_digest : MT := (yX3_digest, (some .long), cX3_digest, 4, { frames := 6, cells := 0, slots := 0, locals := 145 }, [], 0, none)
theorem kX3_digest : MKV mX3_digest 0 := ⟨⟨(by rw [hdW, if_pos rfl]; exact g497), g60, ⟨by decide, by decide⟩, by decide +kernel, rfl, rfl, by decide +kernel, rfl⟩, ⟨g495, g496⟩, rfl⟩
abbrev mX3_hashKind : MT := (yX3_hashKind, (some .long), cX3_hashKind, 6, { frames := 2, cells := 0, slots := 0, locals := 44 }, [], 0, none)
theorem kX3_hashKind : MKV mX3_hashKind 2 := ⟨⟨(by rw [hdW, if_pos rfl]; exact g502), g60, ⟨by decide, by decide⟩, by decide +kernel, rfl, rfl, by decide +kernel, rfl⟩, ⟨g501, g2⟩, rfl⟩
abbrev mX3_mixed : MT := (yX3_mixed, (some .long), cX3_mixed, 4, { frames := 0, cells := 0, slots := 0, locals := 0 }, [], 0, none)
theorem kX3_mixed : MKS mX3_mixed 2 := ⟨⟨(by rw [hdW, if_pos rfl]; exact g505), g60, ⟨by decide, by decide⟩, by decide +kernel, rfl, rfl, by decide +kernel, rfl⟩, g504, rfl⟩
abbrev mX0_piecesOfAll : MT := (yX0_piecesOfAll, (some .int), cX0_piecesOfAll, 4, { frames := 1, cells := 0, slots := 0, locals := 21 }, [], 0, none)
theorem kX0_piecesOfAll : MKV mX0_piecesOfAll 1 := ⟨⟨(by rw [hdW, if_pos rfl]; exact g510), g63, ⟨by decide, by decide⟩, by decide +kernel, rfl, rfl, by decide +kernel, rfl⟩, ⟨g508, g509⟩, rfl⟩
abbrev mX3_hashPledges : MT := (yX3_hashPledges, (some .long), cX3_hashPledges, 7, { frames := 4, cells := 0, slots := 0, locals := 91 }, [], 0, none)
theorem kX3_hashPledges : MKV mX3_hashPledges 2 := ⟨⟨(by rw [hdW, if_pos rfl]; exact g514), g60, ⟨by decide, by decide⟩, by decide +kernel, rfl, rfl, by decide +kernel, rfl⟩, ⟨g513, g3⟩, rfl⟩
abbrev mX0_worth : MT := (yX0_worth, (some .int), cX0_worth, 4, { frames := 1, cells := 0, slots := 0, locals := 21 }, [], 0, none)
theorem kX0_worth : MKV mX0_worth 1 := ⟨⟨(by rw [hdW, if_pos rfl]; exact g519), g63, ⟨by decide, by decide⟩, by decide +kernel, rfl, rfl, by decide +kernel, rfl⟩, ⟨g517, g518⟩, rfl⟩
abbrev mX0_openRoom : MT := (yX0_openRoom, (some .int), cX0_openRoom, 3, { frames := 3, cells := 0, slots := 0, locals := 69 }, [], 0, none)
theorem kX0_openRoom : MKV mX0_openRoom 1 := ⟨⟨(by rw [hdW, if_pos rfl]; exact g524), g63, ⟨by decide, by decide⟩, by decide +kernel, rfl, rfl, by decide +kernel, rfl⟩, ⟨g522, g523⟩, rfl⟩
abbrev mX3_hashOutlook : MT := (yX3_hashOutlook, (some .long), cX3_hashOutlook, 6, { frames := 5, cells := 0, slots := 0, locals := 120 }, [], 0, none)
theorem kX3_hashOutlook : MKV mX3_hashOutlook 2 := ⟨⟨(by rw [hdW, if_pos rfl]; exact g528), g60, ⟨by decide, by decide⟩, by decide +kernel, rfl, rfl, by decide +kernel, rfl⟩, ⟨g527, g4⟩, rfl⟩
abbrev mX0_riskPlace : MT := (yX0_riskPlace, (some .int), cX0_riskPlace, 4, { frames := 4, cells := 0, slots := 0, locals := 97 }, [], 0, none)
theorem kX0_riskPlace : MKV mX0_riskPlace 1 := ⟨⟨(by rw [hdW, if_pos rfl]; exact g532), g63, ⟨by decide, by decide⟩, by decide +kernel, rfl, rfl, by decide +kernel, rfl⟩, ⟨g530, g531⟩, rfl⟩
abbrev mX0_isRiskier : MT := (yX0_isRiskier, (some .boolean), cX0_isRiskier, 9, { frames := 3, cells := 0, slots := 0, locals := 69 }, [], 0, none)
theorem kX0_isRiskier : MKV mX0_isRiskier 2 := ⟨⟨(by rw [hdW, if_pos rfl]; exact g536), g63, ⟨by decide, by decide⟩, by decide +kernel, rfl, rfl, by decide +kernel, rfl⟩, ⟨g534, g535⟩, rfl⟩
abbrev mX0_callingFallByTrying : MT := (yX0_callingFallByTrying, (some .int), cX0_callingFallByTrying, 3, { frames := 3, cells := 0, slots := 0, locals := 71 }, [], 0, none)
theorem kX0_callingFallByTrying : MKV mX0_callingFallByTrying 1 := ⟨⟨(by rw [hdW, if_pos rfl]; exact g540), g63, ⟨by decide, by decide⟩, by decide +kernel, rfl, rfl, by decide +kernel, rfl⟩, ⟨g538, g539⟩, rfl⟩
abbrev mX0_staysCovered : MT := (yX0_staysCovered, (some .boolean), cX0_staysCovered, 4, { frames := 2, cells := 0, slots := 0, locals := 48 }, [], 0, none)
theorem kX0_staysCovered : MKV mX0_staysCovered 3 := ⟨⟨(by rw [hdW, if_pos rfl]; exact g544), g63, ⟨by decide, by decide⟩, by decide +kernel, rfl, rfl, by decide +kernel, rfl⟩, ⟨g542, g543⟩, rfl⟩
abbrev mX0_callingFallByHalving : MT := (yX0_callingFallByHalving, (some .int), cX0_callingFallByHalving, 6, { frames := 3, cells := 0, slots := 0, locals := 71 }, [], 0, none)
theorem kX0_callingFallByHalving : MKV mX0_callingFallByHalving 1 := ⟨⟨(by rw [hdW, if_pos rfl]; exact g548), g63, ⟨by decide, by decide⟩, by decide +kernel, rfl, rfl, by decide +kernel, rfl⟩, ⟨g546, g547⟩, rfl⟩
abbrev mX2_reckon : MT := (yX2_reckon, none, cX2_reckon, 5, { frames := 2, cells := 0, slots := 0, locals := 46 }, [], 0, none)
theorem kX2_reckon : MKV mX2_reckon 2 := ⟨⟨(by rw [hdW, if_pos rfl]; exact g552), g62, ⟨by decide, by decide⟩, by decide +kernel, rfl, rfl, by decide +kernel, rfl⟩, ⟨g550, g551⟩, rfl⟩
abbrev mX2_layOutPieces : MT := (yX2_layOutPieces, (some .int), cX2_layOutPieces, 5, { frames := 1, cells := 0, slots := 0, locals := 22 }, [], 0, none)
theorem kX2_layOutPieces : MKV mX2_layOutPieces 2 := ⟨⟨(by rw [hdW, if_pos rfl]; exact g556), g62, ⟨by decide, by decide⟩, by decide +kernel, rfl, rfl, by decide +kernel, rfl⟩, ⟨g554, g555⟩, rfl⟩
abbrev mX2_keyOf : MT := (yX2_keyOf, (some .int), cX2_keyOf, 3, { frames := 0, cells := 0, slots := 0, locals := 0 }, [], 0, none)
theorem kX2_keyOf : MKV mX2_keyOf 2 := ⟨⟨(by rw [hdW, if_pos rfl]; exact g561), g62, ⟨by decide, by decide⟩, by decide +kernel, rfl, rfl, by decide +kernel, rfl⟩, ⟨g559, g560⟩, rfl⟩
abbrev mX2_coverOfOne : MT := (yX2_coverOfOne, (some .int), cX2_coverOfOne, 3, { frames := 0, cells := 0, slots := 0, locals := 0 }, [], 0, none)
theorem kX2_coverOfOne : MKV mX2_coverOfOne 2 := ⟨⟨(by rw [hdW, if_pos rfl]; exact g565), g62, ⟨by decide, by decide⟩, by decide +kernel, rfl, rfl, by decide +kernel, rfl⟩, ⟨g563, g564⟩, rfl⟩
abbrev mX2_payFromCoins : MT := (yX2_payFromCoins, none, cX2_payFromCoins, 2, { frames := 1, cells := 0, slots := 0, locals := 22 }, [], 0, none)
theorem kX2_payFromCoins : MKV mX2_payFromCoins 0 := ⟨⟨(by rw [hdW, if_pos rfl]; exact g569), g62, ⟨by decide, by decide⟩, by decide +kernel, rfl, rfl, by decide +kernel, rfl⟩, ⟨g567, g568⟩, rfl⟩
abbrev mX2_payWith : MT := (yX2_payWith, none, cX2_payWith, 3, { frames := 0, cells := 0, slots := 0, locals := 0 }, [], 0, none)
theorem kX2_payWith : MKV mX2_payWith 1 := ⟨⟨(by rw [hdW, if_pos rfl]; exact g573), g62, ⟨by decide, by decide⟩, by decide +kernel, rfl, rfl, by decide +kernel, rfl⟩, ⟨g571, g572⟩, rfl⟩
abbrev mX2_isCovered : MT := (yX2_isCovered, (some .boolean), cX2_isCovered, 1, { frames := 0, cells := 0, slots := 0, locals := 0 }, [], 0, none)
theorem kX2_isCovered : MKV mX2_isCovered 0 := ⟨⟨(by rw [hdW, if_pos rfl]; exact g577), g62, ⟨by decide, by decide⟩, by decide +kernel, rfl, rfl, by decide +kernel, rfl⟩, ⟨g575, g576⟩, rfl⟩
abbrev mX2_sellOne : MT := (yX2_sellOne, none, cX2_sellOne, 3, { frames := 1, cells := 0, slots := 0, locals := 22 }, [], 0, none)
theorem kX2_sellOne : MKV mX2_sellOne 1 := ⟨⟨(by rw [hdW, if_pos rfl]; exact g581), g62, ⟨by decide, by decide⟩, by decide +kernel, rfl, rfl, by decide +kernel, rfl⟩, ⟨g579, g580⟩, rfl⟩
abbrev mX2_firstKind : MT := (yX2_firstKind, (some .int), cX2_firstKind, 3, { frames := 0, cells := 0, slots := 0, locals := 0 }, [], 0, none)
theorem kX2_firstKind : MKV mX2_firstKind 0 := ⟨⟨(by rw [hdW, if_pos rfl]; exact g585), g62, ⟨by decide, by decide⟩, by decide +kernel, rfl, rfl, by decide +kernel, rfl⟩, ⟨g583, g584⟩, rfl⟩
abbrev mX0_sortByRisk : MT := (yX0_sortByRisk, none, cX0_sortByRisk, 4, { frames := 4, cells := 0, slots := 0, locals := 97 }, [], 0, none)
theorem kX0_sortByRisk : MKV mX0_sortByRisk 1 := ⟨⟨(by rw [hdW, if_pos rfl]; exact g589), g63, ⟨by decide, by decide⟩, by decide +kernel, rfl, rfl, by decide +kernel, rfl⟩, ⟨g587, g588⟩, rfl⟩
abbrev mX0_takeRiskiest : MT := (yX0_takeRiskiest, (some .int), cX0_takeRiskiest, 5, { frames := 5, cells := 0, slots := 0, locals := 121 }, [], 0, none)
theorem kX0_takeRiskiest : MKV mX0_takeRiskiest 1 := ⟨⟨(by rw [hdW, if_pos rfl]; exact g593), g63, ⟨by decide, by decide⟩, by decide +kernel, rfl, rfl, by decide +kernel, rfl⟩, ⟨g591, g592⟩, rfl⟩
abbrev mX0_riskiestBut : MT := (yX0_riskiestBut, (some .int), cX0_riskiestBut, 5, { frames := 4, cells := 0, slots := 0, locals := 97 }, [], 0, none)
theorem kX0_riskiestBut : MKV mX0_riskiestBut 1 := ⟨⟨(by rw [hdW, if_pos rfl]; exact g597), g63, ⟨by decide, by decide⟩, by decide +kernel, rfl, rfl, by decide +kernel, rfl⟩, ⟨g595, g596⟩, rfl⟩
abbrev mX3_hashRules : MT := (yX3_hashRules, (some .long), cX3_hashRules, 5, { frames := 4, cells := 0, slots := 0, locals := 94 }, [], 0, none)
theorem kX3_hashRules : MKV mX3_hashRules 1 := ⟨⟨(by rw [hdW, if_pos rfl]; exact g601), g60, ⟨by decide, by decide⟩, by decide +kernel, rfl, rfl, by decide +kernel, rfl⟩, ⟨g600, g5⟩, rfl⟩
abbrev mX0_countUncoveredAfterFall : MT := (yX0_countUncoveredAfterFall, (some .int), cX0_countUncoveredAfterFall, 4, { frames := 3, cells := 0, slots := 0, locals := 71 }, [], 0, none)
theorem kX0_countUncoveredAfterFall : MKV mX0_countUncoveredAfterFall 1 := ⟨⟨(by rw [hdW, if_pos rfl]; exact g605), g63, ⟨by decide, by decide⟩, by decide +kernel, rfl, rfl, by decide +kernel, rfl⟩, ⟨g603, g604⟩, rfl⟩
abbrev mX3_hashAccounts : MT := (yX3_hashAccounts, (some .long), cX3_hashAccounts, 5, { frames := 5, cells := 0, slots := 0, locals := 112 }, [], 0, none)
theorem kX3_hashAccounts : MKV mX3_hashAccounts 1 := ⟨⟨(by rw [hdW, if_pos rfl]; exact g609), g60, ⟨by decide, by decide⟩, by decide +kernel, rfl, rfl, by decide +kernel, rfl⟩, ⟨g608, g6⟩, rfl⟩
abbrev mX3_bitsOf : MT := (yX3_bitsOf, (some .long), cX3_bitsOf, 7, { frames := 0, cells := 0, slots := 0, locals := 0 }, [], 0, none)
theorem kX3_bitsOf : MKS mX3_bitsOf 1 := ⟨⟨(by rw [hdW, if_pos rfl]; exact g615), g60, ⟨by decide, by decide⟩, by decide +kernel, rfl, rfl, by decide +kernel, rfl⟩, g614, rfl⟩
abbrev mX3_hashSlotsAndText : MT := (yX3_hashSlotsAndText, (some .long), cX3_hashSlotsAndText, 6, { frames := 1, cells := 0, slots := 0, locals := 23 }, [], 0, none)
theorem kX3_hashSlotsAndText : MKV mX3_hashSlotsAndText 1 := ⟨⟨(by rw [hdW, if_pos rfl]; exact g621), g60, ⟨by decide, by decide⟩, by decide +kernel, rfl, rfl, by decide +kernel, rfl⟩, ⟨g620, g7⟩, rfl⟩
abbrev mL_setPrice : MT := (yL_setPrice, (some .int), cL_setPrice, 5, { frames := 8, cells := 2, slots := 12, locals := 135 }, [(0, 10, 13, 13), (0, 10, 17, 15)], 2, none)
theorem kL_setPrice : MKW mL_setPrice 4 := ⟨⟨(by rw [hdW, if_neg (by simp)]; exact g624), g59, ⟨by decide, by decide⟩, by decide +kernel, rfl, rfl, by decide +kernel, rfl⟩, g623, by simp⟩
abbrev mX3_setPrice : MT := (yX3_setPrice, (some .int), cX3_setPrice, 3, { frames := 7, cells := 2, slots := 12, locals := 113 }, [], 2, none)
theorem kX3_setPrice : MKV mX3_setPrice 2 := ⟨⟨(by rw [hdW, if_pos rfl]; exact g630), g60, ⟨by decide, by decide⟩, by decide +kernel, rfl, rfl, by decide +kernel, rfl⟩, ⟨g628, g629⟩, rfl⟩
abbrev mX3_needKind : MT := (yX3_needKind, none, cX3_needKind, 1, { frames := 6, cells := 1, slots := 6, locals := 90 }, [], 1, none)
theorem kX3_needKind : MKS mX3_needKind 1 := ⟨⟨(by rw [hdW, if_pos rfl]; exact g633), g60, ⟨by decide, by decide⟩, by decide +kernel, rfl, rfl, by decide +kernel, rfl⟩, g632, rfl⟩
abbrev mX3_needRange : MT := (yX3_needRange, none, cX3_needRange, 3, { frames := 6, cells := 1, slots := 6, locals := 90 }, [], 1, none)
theorem kX3_needRange : MKS mX3_needRange 3 := ⟨⟨(by rw [hdW, if_pos rfl]; exact g699), g60, ⟨by decide, by decide⟩, by decide +kernel, rfl, rfl, by decide +kernel, rfl⟩, g698, rfl⟩
abbrev mX0_putPrice : MT := (yX0_putPrice, (some .int), cX0_putPrice, 3, { frames := 4, cells := 0, slots := 0, locals := 91 }, [], 0, none)
theorem kX0_putPrice : MKV mX0_putPrice 2 := ⟨⟨(by rw [hdW, if_pos rfl]; exact g718), g63, ⟨by decide, by decide⟩, by decide +kernel, rfl, rfl, by decide +kernel, rfl⟩, ⟨g716, g717⟩, rfl⟩
abbrev mX0_lookAtClients : MT := (yX0_lookAtClients, (some .int), cX0_lookAtClients, 3, { frames := 3, cells := 0, slots := 0, locals := 69 }, [], 0, none)
theorem kX0_lookAtClients : MKV mX0_lookAtClients 0 := ⟨⟨(by rw [hdW, if_pos rfl]; exact g722), g63, ⟨by decide, by decide⟩, by decide +kernel, rfl, rfl, by decide +kernel, rfl⟩, ⟨g720, g721⟩, rfl⟩
abbrev mL_setCut : MT := (yL_setCut, (some .int), cL_setCut, 5, { frames := 8, cells := 2, slots := 12, locals := 135 }, [(0, 10, 13, 13), (0, 10, 17, 15)], 2, none)
theorem kL_setCut : MKW mL_setCut 4 := ⟨⟨(by rw [hdW, if_neg (by simp)]; exact g725), g59, ⟨by decide, by decide⟩, by decide +kernel, rfl, rfl, by decide +kernel, rfl⟩, g724, by simp⟩
abbrev mX3_setCut : MT := (yX3_setCut, (some .int), cX3_setCut, 3, { frames := 7, cells := 2, slots := 12, locals := 113 }, [], 2, none)
theorem kX3_setCut : MKV mX3_setCut 2 := ⟨⟨(by rw [hdW, if_pos rfl]; exact g729), g60, ⟨by decide, by decide⟩, by decide +kernel, rfl, rfl, by decide +kernel, rfl⟩, ⟨g727, g728⟩, rfl⟩
abbrev mX0_putCut : MT := (yX0_putCut, (some .int), cX0_putCut, 3, { frames := 4, cells := 0, slots := 0, locals := 91 }, [], 0, none)
theorem kX0_putCut : MKV mX0_putCut 2 := ⟨⟨(by rw [hdW, if_pos rfl]; exact g733), g63, ⟨by decide, by decide⟩, by decide +kernel, rfl, rfl, by decide +kernel, rfl⟩, ⟨g731, g732⟩, rfl⟩
abbrev mL_fall : MT := (yL_fall, (some .int), cL_fall, 4, { frames := 8, cells := 1, slots := 6, locals := 134 }, [(0, 9, 12, 15)], 1, none)
theorem kL_fall : MKW mL_fall 3 := ⟨⟨(by rw [hdW, if_neg (by simp)]; exact g736), g59, ⟨by decide, by decide⟩, by decide +kernel, rfl, rfl, by decide +kernel, rfl⟩, g735, by simp⟩
abbrev mX3_fall : MT := (yX3_fall, (some .int), cX3_fall, 2, { frames := 7, cells := 1, slots := 6, locals := 113 }, [], 1, none)
theorem kX3_fall : MKV mX3_fall 1 := ⟨⟨(by rw [hdW, if_pos rfl]; exact g740), g60, ⟨by decide, by decide⟩, by decide +kernel, rfl, rfl, by decide +kernel, rfl⟩, ⟨g738, g739⟩, rfl⟩
abbrev mX0_dropPrices : MT := (yX0_dropPrices, (some .int), cX0_dropPrices, 3, { frames := 4, cells := 0, slots := 0, locals := 91 }, [], 0, none)
theorem kX0_dropPrices : MKV mX0_dropPrices 1 := ⟨⟨(by rw [hdW, if_pos rfl]; exact g744), g63, ⟨by decide, by decide⟩, by decide +kernel, rfl, rfl, by decide +kernel, rfl⟩, ⟨g742, g743⟩, rfl⟩
abbrev mL_pledge : MT := (yL_pledge, (some .int), cL_pledge, 6, { frames := 8, cells := 4, slots := 24, locals := 138 }, [(0, 12, 15, 13), (0, 12, 19, 15), (0, 12, 23, 28)], 4, none)
theorem kL_pledge : MKW mL_pledge 5 := ⟨⟨(by rw [hdW, if_neg (by simp)]; exact g747), g59, ⟨by decide, by decide⟩, by decide +kernel, rfl, rfl, by decide +kernel, rfl⟩, g746, by simp⟩
abbrev mX3_pledge : MT := (yX3_pledge, (some .int), cX3_pledge, 4, { frames := 7, cells := 4, slots := 24, locals := 115 }, [], 4, none)
theorem kX3_pledge : MKV mX3_pledge 3 := ⟨⟨(by rw [hdW, if_pos rfl]; exact g752), g60, ⟨by decide, by decide⟩, by decide +kernel, rfl, rfl, by decide +kernel, rfl⟩, ⟨g750, g751⟩, rfl⟩
abbrev mX3_needClient : MT := (yX3_needClient, none, cX3_needClient, 1, { frames := 6, cells := 1, slots := 6, locals := 90 }, [], 1, none)
theorem kX3_needClient : MKS mX3_needClient 1 := ⟨⟨(by rw [hdW, if_pos rfl]; exact g755), g60, ⟨by decide, by decide⟩, by decide +kernel, rfl, rfl, by decide +kernel, rfl⟩, g754, rfl⟩
abbrev mX0_addPieces : MT := (yX0_addPieces, (some .boolean), cX0_addPieces, 5, { frames := 4, cells := 0, slots := 0, locals := 91 }, [], 0, none)
theorem kX0_addPieces : MKV mX0_addPieces 3 := ⟨⟨(by rw [hdW, if_pos rfl]; exact g759), g63, ⟨by decide, by decide⟩, by decide +kernel, rfl, rfl, by decide +kernel, rfl⟩, ⟨g757, g758⟩, rfl⟩
abbrev mX3_need : MT := (yX3_need, none, cX3_need, 1, { frames := 6, cells := 1, slots := 6, locals := 90 }, [], 1, none)
theorem kX3_need : MKS mX3_need 1 := ⟨⟨(by rw [hdW, if_pos rfl]; exact g762), g60, ⟨by decide, by decide⟩, by decide +kernel, rfl, rfl, by decide +kernel, rfl⟩, g761, rfl⟩
abbrev mL_release : MT := (yL_release, (some .int), cL_release, 6, { frames := 8, cells := 4, slots := 24, locals := 138 }, [(0, 12, 15, 13), (0, 12, 19, 15), (0, 12, 23, 28)], 4, none)
theorem kL_release : MKW mL_release 5 := ⟨⟨(by rw [hdW, if_neg (by simp)]; exact g780), g59, ⟨by decide, by decide⟩, by decide +kernel, rfl, rfl, by decide +kernel, rfl⟩, g779, by simp⟩
abbrev mX3_release : MT := (yX3_release, (some .int), cX3_release, 4, { frames := 7, cells := 4, slots := 24, locals := 115 }, [], 4, none)
theorem kX3_release : MKV mX3_release 3 := ⟨⟨(by rw [hdW, if_pos rfl]; exact g784), g60, ⟨by decide, by decide⟩, by decide +kernel, rfl, rfl, by decide +kernel, rfl⟩, ⟨g782, g783⟩, rfl⟩
abbrev mX0_takePieces : MT := (yX0_takePieces, (some .boolean), cX0_takePieces, 5, { frames := 4, cells := 0, slots := 0, locals := 91 }, [], 0, none)
theorem kX0_takePieces : MKV mX0_takePieces 3 := ⟨⟨(by rw [hdW, if_pos rfl]; exact g788), g63, ⟨by decide, by decide⟩, by decide +kernel, rfl, rfl, by decide +kernel, rfl⟩, ⟨g786, g787⟩, rfl⟩
abbrev mL_deposit : MT := (yL_deposit, (some .int), cL_deposit, 5, { frames := 8, cells := 3, slots := 18, locals := 135 }, [(0, 10, 13, 13), (0, 10, 17, 15), (0, 10, 21, 28)], 3, none)
theorem kL_deposit : MKW mL_deposit 4 := ⟨⟨(by rw [hdW, if_neg (by simp)]; exact g791), g59, ⟨by decide, by decide⟩, by decide +kernel, rfl, rfl, by decide +kernel, rfl⟩, g790, by simp⟩
abbrev mX3_deposit : MT := (yX3_deposit, (some .int), cX3_deposit, 3, { frames := 7, cells := 3, slots := 18, locals := 113 }, [], 3, none)
theorem kX3_deposit : MKV mX3_deposit 2 := ⟨⟨(by rw [hdW, if_pos rfl]; exact g795), g60, ⟨by decide, by decide⟩, by decide +kernel, rfl, rfl, by decide +kernel, rfl⟩, ⟨g793, g794⟩, rfl⟩
abbrev mX0_addCoins : MT := (yX0_addCoins, (some .boolean), cX0_addCoins, 3, { frames := 4, cells := 0, slots := 0, locals := 91 }, [], 0, none)
theorem kX0_addCoins : MKV mX0_addCoins 2 := ⟨⟨(by rw [hdW, if_pos rfl]; exact g799), g63, ⟨by decide, by decide⟩, by decide +kernel, rfl, rfl, by decide +kernel, rfl⟩, ⟨g797, g798⟩, rfl⟩
abbrev mL_withdraw : MT := (yL_withdraw, (some .int), cL_withdraw, 5, { frames := 8, cells := 3, slots := 18, locals := 135 }, [(0, 10, 13, 13), (0, 10, 17, 15), (0, 10, 21, 28)], 3, none)
theorem kL_withdraw : MKW mL_withdraw 4 := ⟨⟨(by rw [hdW, if_neg (by simp)]; exact g803), g59, ⟨by decide, by decide⟩, by decide +kernel, rfl, rfl, by decide +kernel, rfl⟩, g802, by simp⟩
abbrev mX3_withdraw : MT := (yX3_withdraw, (some .int), cX3_withdraw, 3, { frames := 7, cells := 3, slots := 18, locals := 113 }, [], 3, none)
theorem kX3_withdraw : MKV mX3_withdraw 2 := ⟨⟨(by rw [hdW, if_pos rfl]; exact g807), g60, ⟨by decide, by decide⟩, by decide +kernel, rfl, rfl, by decide +kernel, rfl⟩, ⟨g805, g806⟩, rfl⟩
abbrev mX0_takeCoins : MT := (yX0_takeCoins, (some .boolean), cX0_takeCoins, 3, { frames := 4, cells := 0, slots := 0, locals := 91 }, [], 0, none)
theorem kX0_takeCoins : MKV mX0_takeCoins 2 := ⟨⟨(by rw [hdW, if_pos rfl]; exact g811), g63, ⟨by decide, by decide⟩, by decide +kernel, rfl, rfl, by decide +kernel, rfl⟩, ⟨g809, g810⟩, rfl⟩
abbrev mL_lend : MT := (yL_lend, (some .int), cL_lend, 5, { frames := 8, cells := 3, slots := 18, locals := 135 }, [(0, 10, 13, 13), (0, 10, 17, 15), (0, 10, 21, 28)], 3, none)
theorem kL_lend : MKW mL_lend 4 := ⟨⟨(by rw [hdW, if_neg (by simp)]; exact g814), g59, ⟨by decide, by decide⟩, by decide +kernel, rfl, rfl, by decide +kernel, rfl⟩, g813, by simp⟩
abbrev mX3_lend : MT := (yX3_lend, (some .int), cX3_lend, 3, { frames := 7, cells := 3, slots := 18, locals := 113 }, [], 3, none)
theorem kX3_lend : MKV mX3_lend 2 := ⟨⟨(by rw [hdW, if_pos rfl]; exact g818), g60, ⟨by decide, by decide⟩, by decide +kernel, rfl, rfl, by decide +kernel, rfl⟩, ⟨g816, g817⟩, rfl⟩
abbrev mX0_addDebt : MT := (yX0_addDebt, (some .boolean), cX0_addDebt, 3, { frames := 4, cells := 0, slots := 0, locals := 91 }, [], 0, none)
theorem kX0_addDebt : MKV mX0_addDebt 2 := ⟨⟨(by rw [hdW, if_pos rfl]; exact g822), g63, ⟨by decide, by decide⟩, by decide +kernel, rfl, rfl, by decide +kernel, rfl⟩, ⟨g820, g821⟩, rfl⟩
abbrev mL_payBack : MT := (yL_payBack, (some .int), cL_payBack, 5, { frames := 8, cells := 3, slots := 18, locals := 137 }, [(0, 10, 13, 13), (0, 10, 17, 15), (0, 10, 21, 28)], 3, none)
theorem kL_payBack : MKW mL_payBack 4 := ⟨⟨(by rw [hdW, if_neg (by simp)]; exact g825), g59, ⟨by decide, by decide⟩, by decide +kernel, rfl, rfl, by decide +kernel, rfl⟩, g824, by simp⟩
abbrev mX3_payBack : MT := (yX3_payBack, (some .int), cX3_payBack, 4, { frames := 7, cells := 3, slots := 18, locals := 114 }, [], 3, none)
theorem kX3_payBack : MKV mX3_payBack 2 := ⟨⟨(by rw [hdW, if_pos rfl]; exact g829), g60, ⟨by decide, by decide⟩, by decide +kernel, rfl, rfl, by decide +kernel, rfl⟩, ⟨g827, g828⟩, rfl⟩
abbrev mX0_takeDebt : MT := (yX0_takeDebt, (some .int), cX0_takeDebt, 4, { frames := 4, cells := 0, slots := 0, locals := 91 }, [], 0, none)
theorem kX0_takeDebt : MKV mX0_takeDebt 2 := ⟨⟨(by rw [hdW, if_pos rfl]; exact g833), g63, ⟨by decide, by decide⟩, by decide +kernel, rfl, rfl, by decide +kernel, rfl⟩, ⟨g831, g832⟩, rfl⟩
abbrev mL_readmit : MT := (yL_readmit, (some .int), cL_readmit, 3, { frames := 8, cells := 2, slots := 12, locals := 133 }, [(0, 5, 8, 13), (0, 5, 11, 28)], 2, none)
theorem kL_readmit : MKW mL_readmit 2 := ⟨⟨(by rw [hdW, if_neg (by simp)]; exact g836), g59, ⟨by decide, by decide⟩, by decide +kernel, rfl, rfl, by decide +kernel, rfl⟩, g835, by simp⟩
abbrev mX3_readmit : MT := (yX3_readmit, none, cX3_readmit, 2, { frames := 7, cells := 2, slots := 12, locals := 112 }, [], 2, none)
theorem kX3_readmit : MKV mX3_readmit 1 := ⟨⟨(by rw [hdW, if_pos rfl]; exact g840), g60, ⟨by decide, by decide⟩, by decide +kernel, rfl, rfl, by decide +kernel, rfl⟩, ⟨g838, g839⟩, rfl⟩
abbrev mX0_liftBar : MT := (yX0_liftBar, (some .boolean), cX0_liftBar, 2, { frames := 4, cells := 0, slots := 0, locals := 91 }, [], 0, none)
theorem kX0_liftBar : MKV mX0_liftBar 1 := ⟨⟨(by rw [hdW, if_pos rfl]; exact g844), g63, ⟨by decide, by decide⟩, by decide +kernel, rfl, rfl, by decide +kernel, rfl⟩, ⟨g842, g843⟩, rfl⟩
abbrev mL_pass : MT := (yL_pass, (some .int), cL_pass, 4, { frames := 8, cells := 1, slots := 6, locals := 140 }, [(0, 9, 12, 15)], 1, none)
theorem kL_pass : MKW mL_pass 3 := ⟨⟨(by rw [hdW, if_neg (by simp)]; exact g847), g59, ⟨by decide, by decide⟩, by decide +kernel, rfl, rfl, by decide +kernel, rfl⟩, g846, by simp⟩
abbrev mX3_pass : MT := (yX3_pass, (some .int), cX3_pass, 2, { frames := 7, cells := 1, slots := 6, locals := 119 }, [], 1, none)
theorem kX3_pass : MKV mX3_pass 1 := ⟨⟨(by rw [hdW, if_pos rfl]; exact g851), g60, ⟨by decide, by decide⟩, by decide +kernel, rfl, rfl, by decide +kernel, rfl⟩, ⟨g849, g850⟩, rfl⟩
abbrev mX0_passHours : MT := (yX0_passHours, (some .int), cX0_passHours, 6, { frames := 4, cells := 0, slots := 0, locals := 94 }, [], 0, none)
theorem kX0_passHours : MKV mX0_passHours 2 := ⟨⟨(by rw [hdW, if_pos rfl]; exact g855), g63, ⟨by decide, by decide⟩, by decide +kernel, rfl, rfl, by decide +kernel, rfl⟩, ⟨g853, g854⟩, rfl⟩
abbrev mX0_calledAsBits : MT := (yX0_calledAsBits, (some .int), cX0_calledAsBits, 3, { frames := 0, cells := 0, slots := 0, locals := 0 }, [], 0, none)
theorem kX0_calledAsBits : MKV mX0_calledAsBits 0 := ⟨⟨(by rw [hdW, if_pos rfl]; exact g859), g63, ⟨by decide, by decide⟩, by decide +kernel, rfl, rfl, by decide +kernel, rfl⟩, ⟨g857, g858⟩, rfl⟩
abbrev mX0_addInterest : MT := (yX0_addInterest, none, cX0_addInterest, 3, { frames := 1, cells := 0, slots := 0, locals := 21 }, [], 0, none)
theorem kX0_addInterest : MKV mX0_addInterest 0 := ⟨⟨(by rw [hdW, if_pos rfl]; exact g863), g63, ⟨by decide, by decide⟩, by decide +kernel, rfl, rfl, by decide +kernel, rfl⟩, ⟨g861, g862⟩, rfl⟩
abbrev mX0_interestOn : MT := (yX0_interestOn, (some .int), cX0_interestOn, 2, { frames := 0, cells := 0, slots := 0, locals := 0 }, [], 0, none)
theorem kX0_interestOn : MKV mX0_interestOn 1 := ⟨⟨(by rw [hdW, if_pos rfl]; exact g867), g63, ⟨by decide, by decide⟩, by decide +kernel, rfl, rfl, by decide +kernel, rfl⟩, ⟨g865, g866⟩, rfl⟩
abbrev mX0_countDown : MT := (yX0_countDown, none, cX0_countDown, 5, { frames := 3, cells := 0, slots := 0, locals := 70 }, [], 0, none)
theorem kX0_countDown : MKV mX0_countDown 2 := ⟨⟨(by rw [hdW, if_pos rfl]; exact g873), g63, ⟨by decide, by decide⟩, by decide +kernel, rfl, rfl, by decide +kernel, rfl⟩, ⟨g871, g872⟩, rfl⟩
abbrev mX0_enterSale : MT := (yX0_enterSale, none, cX0_enterSale, 5, { frames := 1, cells := 0, slots := 0, locals := 21 }, [], 0, none)
theorem kX0_enterSale : MKV mX0_enterSale 2 := ⟨⟨(by rw [hdW, if_pos rfl]; exact g878), g63, ⟨by decide, by decide⟩, by decide +kernel, rfl, rfl, by decide +kernel, rfl⟩, ⟨g876, g877⟩, rfl⟩
abbrev mL_changeRate : MT := (yL_changeRate, (some .int), cL_changeRate, 4, { frames := 8, cells := 1, slots := 6, locals := 134 }, [(0, 9, 12, 15)], 1, none)
theorem kL_changeRate : MKW mL_changeRate 3 := ⟨⟨(by rw [hdW, if_neg (by simp)]; exact g881), g59, ⟨by decide, by decide⟩, by decide +kernel, rfl, rfl, by decide +kernel, rfl⟩, g880, by simp⟩
abbrev mX3_changeRate : MT := (yX3_changeRate, (some .int), cX3_changeRate, 3, { frames := 7, cells := 1, slots := 6, locals := 112 }, [], 1, none)
theorem kX3_changeRate : MKV mX3_changeRate 1 := ⟨⟨(by rw [hdW, if_pos rfl]; exact g885), g60, ⟨by decide, by decide⟩, by decide +kernel, rfl, rfl, by decide +kernel, rfl⟩, ⟨g883, g884⟩, rfl⟩
abbrev mL_changeGrace : MT := (yL_changeGrace, (some .int), cL_changeGrace, 4, { frames := 8, cells := 1, slots := 6, locals := 134 }, [(0, 9, 12, 15)], 1, none)
theorem kL_changeGrace : MKW mL_changeGrace 3 := ⟨⟨(by rw [hdW, if_neg (by simp)]; exact g888), g59, ⟨by decide, by decide⟩, by decide +kernel, rfl, rfl, by decide +kernel, rfl⟩, g887, by simp⟩
abbrev mX3_changeGrace : MT := (yX3_changeGrace, (some .int), cX3_changeGrace, 3, { frames := 7, cells := 1, slots := 6, locals := 112 }, [], 1, none)
theorem kX3_changeGrace : MKV mX3_changeGrace 1 := ⟨⟨(by rw [hdW, if_pos rfl]; exact g892), g60, ⟨by decide, by decide⟩, by decide +kernel, rfl, rfl, by decide +kernel, rfl⟩, ⟨g890, g891⟩, rfl⟩
abbrev mL_changeSlip : MT := (yL_changeSlip, (some .int), cL_changeSlip, 4, { frames := 8, cells := 1, slots := 6, locals := 134 }, [(0, 9, 12, 15)], 1, none)
theorem kL_changeSlip : MKW mL_changeSlip 3 := ⟨⟨(by rw [hdW, if_neg (by simp)]; exact g895), g59, ⟨by decide, by decide⟩, by decide +kernel, rfl, rfl, by decide +kernel, rfl⟩, g894, by simp⟩
abbrev mX3_changeSlip : MT := (yX3_changeSlip, (some .int), cX3_changeSlip, 3, { frames := 7, cells := 1, slots := 6, locals := 112 }, [], 1, none)
theorem kX3_changeSlip : MKV mX3_changeSlip 1 := ⟨⟨(by rw [hdW, if_pos rfl]; exact g899), g60, ⟨by decide, by decide⟩, by decide +kernel, rfl, rfl, by decide +kernel, rfl⟩, ⟨g897, g898⟩, rfl⟩
abbrev mL_append : MT := (yL_append, (some .int), cL_append, 4, { frames := 8, cells := 2, slots := 12, locals := 133 }, [(0, 9, 12, 15), (0, 9, 15, 28)], 2, none)
theorem kL_append : MKW mL_append 3 := ⟨⟨(by rw [hdW, if_neg (by simp)]; exact g902), g59, ⟨by decide, by decide⟩, by decide +kernel, rfl, rfl, by decide +kernel, rfl⟩, g901, by simp⟩
abbrev mX3_append : MT := (yX3_append, (some .int), cX3_append, 2, { frames := 7, cells := 2, slots := 12, locals := 112 }, [], 2, none)
theorem kX3_append : MKV mX3_append 1 := ⟨⟨(by rw [hdW, if_pos rfl]; exact g906), g60, ⟨by decide, by decide⟩, by decide +kernel, rfl, rfl, by decide +kernel, rfl⟩, ⟨g904, g905⟩, rfl⟩
abbrev mL_follow : MT := (yL_follow, (some .int), cL_follow, 3, { frames := 11, cells := 1, slots := 6, locals := 257 }, [(0, 8, 11, 15), (0, 8, 14, 28)], 1, none)
theorem kL_follow : MKW mL_follow 2 := ⟨⟨(by rw [hdW, if_neg (by simp)]; exact g909), g59, ⟨by decide, by decide⟩, by decide +kernel, rfl, rfl, by decide +kernel, rfl⟩, g908, by simp⟩
abbrev mX3_follow : MT := (yX3_follow, (some .int), cX3_follow, 3, { frames := 10, cells := 1, slots := 6, locals := 235 }, [], 1, none)
theorem kX3_follow : MKV mX3_follow 0 := ⟨⟨(by rw [hdW, if_pos rfl]; exact g913), g60, ⟨by decide, by decide⟩, by decide +kernel, rfl, rfl, by decide +kernel, rfl⟩, ⟨g911, g912⟩, rfl⟩
abbrev mX1_tellsOrders : MT := (yX1_tellsOrders, (some .boolean), cX1_tellsOrders, 1, { frames := 9, cells := 0, slots := 0, locals := 215 }, [], 0, none)
theorem kX1_tellsOrders : MKV mX1_tellsOrders 0 := ⟨⟨(by rw [hdW, if_pos rfl]; exact g917), g61, ⟨by decide, by decide⟩, by decide +kernel, rfl, rfl, by decide +kernel, rfl⟩, ⟨g915, g916⟩, rfl⟩
abbrev mX1_endsPart : MT := (yX1_endsPart, (some .boolean), cX1_endsPart, 2, { frames := 0, cells := 0, slots := 0, locals := 0 }, [], 0, none)
theorem kX1_endsPart : MKV mX1_endsPart 1 := ⟨⟨(by rw [hdW, if_pos rfl]; exact g924), g61, ⟨by decide, by decide⟩, by decide +kernel, rfl, rfl, by decide +kernel, rfl⟩, ⟨g922, g923⟩, rfl⟩
abbrev mX3_carryOutPart : MT := (yX3_carryOutPart, (some .boolean), cX3_carryOutPart, 1, { frames := 5, cells := 0, slots := 0, locals := 119 }, [], 0, none)
theorem kX3_carryOutPart : MKV mX3_carryOutPart 0 := ⟨⟨(by rw [hdW, if_pos rfl]; exact g928), g60, ⟨by decide, by decide⟩, by decide +kernel, rfl, rfl, by decide +kernel, rfl⟩, ⟨g927, g9⟩, rfl⟩
abbrev mL_keep : MT := (yL_keep, (some .int), cL_keep, 3, { frames := 8, cells := 1, slots := 6, locals := 133 }, [(0, 5, 8, 15)], 1, none)
theorem kL_keep : MKW mL_keep 2 := ⟨⟨(by rw [hdW, if_neg (by simp)]; exact g931), g59, ⟨by decide, by decide⟩, by decide +kernel, rfl, rfl, by decide +kernel, rfl⟩, g930, by simp⟩
abbrev mX3_keep : MT := (yX3_keep, none, cX3_keep, 2, { frames := 7, cells := 1, slots := 6, locals := 112 }, [], 1, none)
theorem kX3_keep : MKV mX3_keep 1 := ⟨⟨(by rw [hdW, if_pos rfl]; exact g935), g60, ⟨by decide, by decide⟩, by decide +kernel, rfl, rfl, by decide +kernel, rfl⟩, ⟨g933, g934⟩, rfl⟩
abbrev mL_goBack : MT := (yL_goBack, (some .int), cL_goBack, 3, { frames := 8, cells := 2, slots := 12, locals := 133 }, [(0, 5, 8, 15), (0, 5, 11, 28)], 2, none)
theorem kL_goBack : MKW mL_goBack 2 := ⟨⟨(by rw [hdW, if_neg (by simp)]; exact g938), g59, ⟨by decide, by decide⟩, by decide +kernel, rfl, rfl, by decide +kernel, rfl⟩, g937, by simp⟩
abbrev mX3_goBack : MT := (yX3_goBack, none, cX3_goBack, 2, { frames := 7, cells := 2, slots := 12, locals := 112 }, [], 2, none)
theorem kX3_goBack : MKV mX3_goBack 1 := ⟨⟨(by rw [hdW, if_pos rfl]; exact g942), g60, ⟨by decide, by decide⟩, by decide +kernel, rfl, rfl, by decide +kernel, rfl⟩, ⟨g940, g941⟩, rfl⟩
abbrev mL_undo : MT := (yL_undo, (some .int), cL_undo, 2, { frames := 8, cells := 1, slots := 6, locals := 130 }, [(0, 4, 7, 28)], 1, none)
theorem kL_undo : MKW mL_undo 1 := ⟨⟨(by rw [hdW, if_neg (by simp)]; exact g945), g59, ⟨by decide, by decide⟩, by decide +kernel, rfl, rfl, by decide +kernel, rfl⟩, g944, by simp⟩
abbrev mX3_undo : MT := (yX3_undo, none, cX3_undo, 1, { frames := 7, cells := 1, slots := 6, locals := 110 }, [], 1, none)
theorem kX3_undo : MKV mX3_undo 0 := ⟨⟨(by rw [hdW, if_pos rfl]; exact g949), g60, ⟨by decide, by decide⟩, by decide +kernel, rfl, rfl, by decide +kernel, rfl⟩, ⟨g947, g948⟩, rfl⟩
abbrev mL_priceOf : MT := (yL_priceOf, (some .int), cL_priceOf, 4, { frames := 8, cells := 1, slots := 6, locals := 131 }, [(0, 9, 12, 13)], 1, none)
theorem kL_priceOf : MKW mL_priceOf 3 := ⟨⟨(by rw [hdW, if_neg (by simp)]; exact g952), g59, ⟨by decide, by decide⟩, by decide +kernel, rfl, rfl, by decide +kernel, rfl⟩, g951, by simp⟩
abbrev mX3_priceOf : MT := (yX3_priceOf, (some .int), cX3_priceOf, 2, { frames := 7, cells := 1, slots := 6, locals := 110 }, [], 1, none)
theorem kX3_priceOf : MKV mX3_priceOf 1 := ⟨⟨(by rw [hdW, if_pos rfl]; exact g956), g60, ⟨by decide, by decide⟩, by decide +kernel, rfl, rfl, by decide +kernel, rfl⟩, ⟨g954, g955⟩, rfl⟩
abbrev mL_cutOf : MT := (yL_cutOf, (some .int), cL_cutOf, 4, { frames := 8, cells := 1, slots := 6, locals := 131 }, [(0, 9, 12, 13)], 1, none)
theorem kL_cutOf : MKW mL_cutOf 3 := ⟨⟨(by rw [hdW, if_neg (by simp)]; exact g959), g59, ⟨by decide, by decide⟩, by decide +kernel, rfl, rfl, by decide +kernel, rfl⟩, g958, by simp⟩
abbrev mX3_cutOf : MT := (yX3_cutOf, (some .int), cX3_cutOf, 2, { frames := 7, cells := 1, slots := 6, locals := 110 }, [], 1, none)
theorem kX3_cutOf : MKV mX3_cutOf 1 := ⟨⟨(by rw [hdW, if_pos rfl]; exact g963), g60, ⟨by decide, by decide⟩, by decide +kernel, rfl, rfl, by decide +kernel, rfl⟩, ⟨g961, g962⟩, rfl⟩
abbrev mL_pledgedOf : MT := (yL_pledgedOf, (some .int), cL_pledgedOf, 4, { frames := 8, cells := 1, slots := 6, locals := 131 }, [(0, 9, 12, 13)], 1, none)
theorem kL_pledgedOf : MKW mL_pledgedOf 3 := ⟨⟨(by rw [hdW, if_neg (by simp)]; exact g966), g59, ⟨by decide, by decide⟩, by decide +kernel, rfl, rfl, by decide +kernel, rfl⟩, g965, by simp⟩
abbrev mX3_pledgedOf : MT := (yX3_pledgedOf, (some .int), cX3_pledgedOf, 2, { frames := 7, cells := 1, slots := 6, locals := 110 }, [], 1, none)
theorem kX3_pledgedOf : MKV mX3_pledgedOf 1 := ⟨⟨(by rw [hdW, if_pos rfl]; exact g970), g60, ⟨by decide, by decide⟩, by decide +kernel, rfl, rfl, by decide +kernel, rfl⟩, ⟨g968, g969⟩, rfl⟩
abbrev mL_soldOf : MT := (yL_soldOf, (some .int), cL_soldOf, 4, { frames := 8, cells := 1, slots := 6, locals := 131 }, [(0, 9, 12, 13)], 1, none)
theorem kL_soldOf : MKW mL_soldOf 3 := ⟨⟨(by rw [hdW, if_neg (by simp)]; exact g973), g59, ⟨by decide, by decide⟩, by decide +kernel, rfl, rfl, by decide +kernel, rfl⟩, g972, by simp⟩
abbrev mX3_soldOf : MT := (yX3_soldOf, (some .int), cX3_soldOf, 2, { frames := 7, cells := 1, slots := 6, locals := 110 }, [], 1, none)
theorem kX3_soldOf : MKV mX3_soldOf 1 := ⟨⟨(by rw [hdW, if_pos rfl]; exact g977), g60, ⟨by decide, by decide⟩, by decide +kernel, rfl, rfl, by decide +kernel, rfl⟩, ⟨g975, g976⟩, rfl⟩
abbrev mL_piecesOf : MT := (yL_piecesOf, (some .int), cL_piecesOf, 5, { frames := 8, cells := 2, slots := 12, locals := 132 }, [(0, 10, 13, 13)], 2, none)
theorem kL_piecesOf : MKW mL_piecesOf 4 := ⟨⟨(by rw [hdW, if_neg (by simp)]; exact g980), g59, ⟨by decide, by decide⟩, by decide +kernel, rfl, rfl, by decide +kernel, rfl⟩, g979, by simp⟩
abbrev mX3_piecesOf : MT := (yX3_piecesOf, (some .int), cX3_piecesOf, 3, { frames := 7, cells := 2, slots := 12, locals := 110 }, [], 2, none)
theorem kX3_piecesOf : MKV mX3_piecesOf 2 := ⟨⟨(by rw [hdW, if_pos rfl]; exact g984), g60, ⟨by decide, by decide⟩, by decide +kernel, rfl, rfl, by decide +kernel, rfl⟩, ⟨g982, g983⟩, rfl⟩
abbrev mL_coinsOf : MT := (yL_coinsOf, (some .int), cL_coinsOf, 4, { frames := 8, cells := 1, slots := 6, locals := 131 }, [(0, 9, 12, 13)], 1, none)
theorem kL_coinsOf : MKW mL_coinsOf 3 := ⟨⟨(by rw [hdW, if_neg (by simp)]; exact g987), g59, ⟨by decide, by decide⟩, by decide +kernel, rfl, rfl, by decide +kernel, rfl⟩, g986, by simp⟩
abbrev mX3_coinsOf : MT := (yX3_coinsOf, (some .int), cX3_coinsOf, 2, { frames := 7, cells := 1, slots := 6, locals := 110 }, [], 1, none)
theorem kX3_coinsOf : MKV mX3_coinsOf 1 := ⟨⟨(by rw [hdW, if_pos rfl]; exact g991), g60, ⟨by decide, by decide⟩, by decide +kernel, rfl, rfl, by decide +kernel, rfl⟩, ⟨g989, g990⟩, rfl⟩
abbrev mL_debtOf : MT := (yL_debtOf, (some .int), cL_debtOf, 4, { frames := 8, cells := 1, slots := 6, locals := 131 }, [(0, 9, 12, 13)], 1, none)
theorem kL_debtOf : MKW mL_debtOf 3 := ⟨⟨(by rw [hdW, if_neg (by simp)]; exact g994), g59, ⟨by decide, by decide⟩, by decide +kernel, rfl, rfl, by decide +kernel, rfl⟩, g993, by simp⟩
abbrev mX3_debtOf : MT := (yX3_debtOf, (some .int), cX3_debtOf, 2, { frames := 7, cells := 1, slots := 6, locals := 110 }, [], 1, none)
theorem kX3_debtOf : MKV mX3_debtOf 1 := ⟨⟨(by rw [hdW, if_pos rfl]; exact g998), g60, ⟨by decide, by decide⟩, by decide +kernel, rfl, rfl, by decide +kernel, rfl⟩, ⟨g996, g997⟩, rfl⟩
abbrev mL_worthOf : MT := (yL_worthOf, (some .int), cL_worthOf, 4, { frames := 8, cells := 1, slots := 6, locals := 131 }, [(0, 9, 12, 13)], 1, none)
theorem kL_worthOf : MKW mL_worthOf 3 := ⟨⟨(by rw [hdW, if_neg (by simp)]; exact g1001), g59, ⟨by decide, by decide⟩, by decide +kernel, rfl, rfl, by decide +kernel, rfl⟩, g1000, by simp⟩
abbrev mX3_worthOf : MT := (yX3_worthOf, (some .int), cX3_worthOf, 2, { frames := 7, cells := 1, slots := 6, locals := 110 }, [], 1, none)
theorem kX3_worthOf : MKV mX3_worthOf 1 := ⟨⟨(by rw [hdW, if_pos rfl]; exact g1005), g60, ⟨by decide, by decide⟩, by decide +kernel, rfl, rfl, by decide +kernel, rfl⟩, ⟨g1003, g1004⟩, rfl⟩
abbrev mL_coverOf : MT := (yL_coverOf, (some .int), cL_coverOf, 4, { frames := 8, cells := 1, slots := 6, locals := 131 }, [(0, 9, 12, 13)], 1, none)
theorem kL_coverOf : MKW mL_coverOf 3 := ⟨⟨(by rw [hdW, if_neg (by simp)]; exact g1008), g59, ⟨by decide, by decide⟩, by decide +kernel, rfl, rfl, by decide +kernel, rfl⟩, g1007, by simp⟩
abbrev mX3_coverOf : MT := (yX3_coverOf, (some .int), cX3_coverOf, 2, { frames := 7, cells := 1, slots := 6, locals := 110 }, [], 1, none)
theorem kX3_coverOf : MKV mX3_coverOf 1 := ⟨⟨(by rw [hdW, if_pos rfl]; exact g1012), g60, ⟨by decide, by decide⟩, by decide +kernel, rfl, rfl, by decide +kernel, rfl⟩, ⟨g1010, g1011⟩, rfl⟩
abbrev mL_roomOf : MT := (yL_roomOf, (some .int), cL_roomOf, 4, { frames := 8, cells := 1, slots := 6, locals := 131 }, [(0, 9, 12, 13)], 1, none)
theorem kL_roomOf : MKW mL_roomOf 3 := ⟨⟨(by rw [hdW, if_neg (by simp)]; exact g1015), g59, ⟨by decide, by decide⟩, by decide +kernel, rfl, rfl, by decide +kernel, rfl⟩, g1014, by simp⟩
abbrev mX3_roomOf : MT := (yX3_roomOf, (some .int), cX3_roomOf, 2, { frames := 7, cells := 1, slots := 6, locals := 110 }, [], 1, none)
theorem kX3_roomOf : MKV mX3_roomOf 1 := ⟨⟨(by rw [hdW, if_pos rfl]; exact g1019), g60, ⟨by decide, by decide⟩, by decide +kernel, rfl, rfl, by decide +kernel, rfl⟩, ⟨g1017, g1018⟩, rfl⟩
abbrev mL_isCalled : MT := (yL_isCalled, (some .int), cL_isCalled, 4, { frames := 8, cells := 1, slots := 6, locals := 131 }, [(0, 16, 19, 13)], 1, none)
theorem kL_isCalled : MKW mL_isCalled 3 := ⟨⟨(by rw [hdW, if_neg (by simp)]; exact g1022), g59, ⟨by decide, by decide⟩, by decide +kernel, rfl, rfl, by decide +kernel, rfl⟩, g1021, by simp⟩
abbrev mX3_isCalled : MT := (yX3_isCalled, (some .boolean), cX3_isCalled, 2, { frames := 7, cells := 1, slots := 6, locals := 110 }, [], 1, none)
theorem kX3_isCalled : MKV mX3_isCalled 1 := ⟨⟨(by rw [hdW, if_pos rfl]; exact g1026), g60, ⟨by decide, by decide⟩, by decide +kernel, rfl, rfl, by decide +kernel, rfl⟩, ⟨g1024, g1025⟩, rfl⟩
abbrev mL_hoursLeft : MT := (yL_hoursLeft, (some .int), cL_hoursLeft, 4, { frames := 8, cells := 2, slots := 12, locals := 131 }, [(0, 9, 12, 13), (0, 9, 15, 28)], 2, none)
theorem kL_hoursLeft : MKW mL_hoursLeft 3 := ⟨⟨(by rw [hdW, if_neg (by simp)]; exact g1029), g59, ⟨by decide, by decide⟩, by decide +kernel, rfl, rfl, by decide +kernel, rfl⟩, g1028, by simp⟩
abbrev mX3_hoursLeft : MT := (yX3_hoursLeft, (some .int), cX3_hoursLeft, 2, { frames := 7, cells := 2, slots := 12, locals := 110 }, [], 2, none)
theorem kX3_hoursLeft : MKV mX3_hoursLeft 1 := ⟨⟨(by rw [hdW, if_pos rfl]; exact g1033), g60, ⟨by decide, by decide⟩, by decide +kernel, rfl, rfl, by decide +kernel, rfl⟩, ⟨g1031, g1032⟩, rfl⟩
abbrev mL_isBarred : MT := (yL_isBarred, (some .int), cL_isBarred, 4, { frames := 8, cells := 1, slots := 6, locals := 131 }, [(0, 16, 19, 13)], 1, none)
theorem kL_isBarred : MKW mL_isBarred 3 := ⟨⟨(by rw [hdW, if_neg (by simp)]; exact g1036), g59, ⟨by decide, by decide⟩, by decide +kernel, rfl, rfl, by decide +kernel, rfl⟩, g1035, by simp⟩
abbrev mX3_isBarred : MT := (yX3_isBarred, (some .boolean), cX3_isBarred, 2, { frames := 7, cells := 1, slots := 6, locals := 110 }, [], 1, none)
theorem kX3_isBarred : MKV mX3_isBarred 1 := ⟨⟨(by rw [hdW, if_pos rfl]; exact g1040), g60, ⟨by decide, by decide⟩, by decide +kernel, rfl, rfl, by decide +kernel, rfl⟩, ⟨g1038, g1039⟩, rfl⟩
abbrev mL_rankOf : MT := (yL_rankOf, (some .int), cL_rankOf, 4, { frames := 8, cells := 1, slots := 6, locals := 141 }, [(0, 9, 12, 13)], 1, none)
theorem kL_rankOf : MKW mL_rankOf 3 := ⟨⟨(by rw [hdW, if_neg (by simp)]; exact g1043), g59, ⟨by decide, by decide⟩, by decide +kernel, rfl, rfl, by decide +kernel, rfl⟩, g1042, by simp⟩
abbrev mX3_rankOf : MT := (yX3_rankOf, (some .int), cX3_rankOf, 2, { frames := 7, cells := 1, slots := 6, locals := 120 }, [], 1, none)
theorem kX3_rankOf : MKV mX3_rankOf 1 := ⟨⟨(by rw [hdW, if_pos rfl]; exact g1047), g60, ⟨by decide, by decide⟩, by decide +kernel, rfl, rfl, by decide +kernel, rfl⟩, ⟨g1045, g1046⟩, rfl⟩
abbrev mL_riskyBySorting : MT := (yL_riskyBySorting, (some .int), cL_riskyBySorting, 4, { frames := 8, cells := 1, slots := 6, locals := 141 }, [(0, 9, 12, 13)], 1, none)
theorem kL_riskyBySorting : MKW mL_riskyBySorting 3 := ⟨⟨(by rw [hdW, if_neg (by simp)]; exact g1050), g59, ⟨by decide, by decide⟩, by decide +kernel, rfl, rfl, by decide +kernel, rfl⟩, g1049, by simp⟩
abbrev mX3_riskyBySorting : MT := (yX3_riskyBySorting, (some .int), cX3_riskyBySorting, 2, { frames := 7, cells := 1, slots := 6, locals := 120 }, [], 1, none)
theorem kX3_riskyBySorting : MKV mX3_riskyBySorting 1 := ⟨⟨(by rw [hdW, if_pos rfl]; exact g1054), g60, ⟨by decide, by decide⟩, by decide +kernel, rfl, rfl, by decide +kernel, rfl⟩, ⟨g1052, g1053⟩, rfl⟩
abbrev mX3_needPlace : MT := (yX3_needPlace, none, cX3_needPlace, 1, { frames := 6, cells := 1, slots := 6, locals := 90 }, [], 1, none)
theorem kX3_needPlace : MKS mX3_needPlace 1 := ⟨⟨(by rw [hdW, if_pos rfl]; exact g1057), g60, ⟨by decide, by decide⟩, by decide +kernel, rfl, rfl, by decide +kernel, rfl⟩, g1056, rfl⟩
abbrev mL_riskyByTaking : MT := (yL_riskyByTaking, (some .int), cL_riskyByTaking, 4, { frames := 8, cells := 1, slots := 6, locals := 166 }, [(0, 9, 12, 13)], 1, none)
theorem kL_riskyByTaking : MKW mL_riskyByTaking 3 := ⟨⟨(by rw [hdW, if_neg (by simp)]; exact g1060), g59, ⟨by decide, by decide⟩, by decide +kernel, rfl, rfl, by decide +kernel, rfl⟩, g1059, by simp⟩
abbrev mX3_riskyByTaking : MT := (yX3_riskyByTaking, (some .int), cX3_riskyByTaking, 2, { frames := 7, cells := 1, slots := 6, locals := 145 }, [], 1, none)
theorem kX3_riskyByTaking : MKV mX3_riskyByTaking 1 := ⟨⟨(by rw [hdW, if_pos rfl]; exact g1064), g60, ⟨by decide, by decide⟩, by decide +kernel, rfl, rfl, by decide +kernel, rfl⟩, ⟨g1062, g1063⟩, rfl⟩
abbrev mL_fallToCallByTrying : MT := (yL_fallToCallByTrying, (some .int), cL_fallToCallByTrying, 4, { frames := 8, cells := 2, slots := 12, locals := 132 }, [(0, 9, 12, 13), (0, 9, 15, 28)], 2, none)
theorem kL_fallToCallByTrying : MKW mL_fallToCallByTrying 3 := ⟨⟨(by rw [hdW, if_neg (by simp)]; exact g1067), g59, ⟨by decide, by decide⟩, by decide +kernel, rfl, rfl, by decide +kernel, rfl⟩, g1066, by simp⟩
abbrev mX3_fallToCallByTrying : MT := (yX3_fallToCallByTrying, (some .int), cX3_fallToCallByTrying, 3, { frames := 7, cells := 2, slots := 12, locals := 110 }, [], 2, none)
theorem kX3_fallToCallByTrying : MKV mX3_fallToCallByTrying 1 := ⟨⟨(by rw [hdW, if_pos rfl]; exact g1071), g60, ⟨by decide, by decide⟩, by decide +kernel, rfl, rfl, by decide +kernel, rfl⟩, ⟨g1069, g1070⟩, rfl⟩
abbrev mL_fallToCallByHalving : MT := (yL_fallToCallByHalving, (some .int), cL_fallToCallByHalving, 4, { frames := 8, cells := 2, slots := 12, locals := 132 }, [(0, 9, 12, 13), (0, 9, 15, 28)], 2, none)
theorem kL_fallToCallByHalving : MKW mL_fallToCallByHalving 3 := ⟨⟨(by rw [hdW, if_neg (by simp)]; exact g1074), g59, ⟨by decide, by decide⟩, by decide +kernel, rfl, rfl, by decide +kernel, rfl⟩, g1073, by simp⟩
abbrev mX3_fallToCallByHalving : MT := (yX3_fallToCallByHalving, (some .int), cX3_fallToCallByHalving, 3, { frames := 7, cells := 2, slots := 12, locals := 110 }, [], 2, none)
theorem kX3_fallToCallByHalving : MKV mX3_fallToCallByHalving 1 := ⟨⟨(by rw [hdW, if_pos rfl]; exact g1078), g60, ⟨by decide, by decide⟩, by decide +kernel, rfl, rfl, by decide +kernel, rfl⟩, ⟨g1076, g1077⟩, rfl⟩
abbrev mL_hoursToCall : MT := (yL_hoursToCall, (some .int), cL_hoursToCall, 4, { frames := 8, cells := 2, slots := 12, locals := 132 }, [(0, 9, 12, 13), (0, 9, 15, 28)], 2, none)
theorem kL_hoursToCall : MKW mL_hoursToCall 3 := ⟨⟨(by rw [hdW, if_neg (by simp)]; exact g1081), g59, ⟨by decide, by decide⟩, by decide +kernel, rfl, rfl, by decide +kernel, rfl⟩, g1080, by simp⟩
abbrev mX3_hoursToCall : MT := (yX3_hoursToCall, (some .int), cX3_hoursToCall, 3, { frames := 7, cells := 2, slots := 12, locals := 110 }, [], 2, none)
theorem kX3_hoursToCall : MKV mX3_hoursToCall 1 := ⟨⟨(by rw [hdW, if_pos rfl]; exact g1085), g60, ⟨by decide, by decide⟩, by decide +kernel, rfl, rfl, by decide +kernel, rfl⟩, ⟨g1083, g1084⟩, rfl⟩
abbrev mX0_hoursUntilCall : MT := (yX0_hoursUntilCall, (some .int), cX0_hoursUntilCall, 5, { frames := 3, cells := 0, slots := 0, locals := 69 }, [], 0, none)
theorem kX0_hoursUntilCall : MKV mX0_hoursUntilCall 1 := ⟨⟨(by rw [hdW, if_pos rfl]; exact g1089), g63, ⟨by decide, by decide⟩, by decide +kernel, rfl, rfl, by decide +kernel, rfl⟩, ⟨g1087, g1088⟩, rfl⟩
abbrev mL_wouldSell : MT := (yL_wouldSell, (some .int), cL_wouldSell, 4, { frames := 8, cells := 1, slots := 6, locals := 131 }, [(0, 9, 12, 13)], 1, none)
theorem kL_wouldSell : MKW mL_wouldSell 3 := ⟨⟨(by rw [hdW, if_neg (by simp)]; exact g1092), g59, ⟨by decide, by decide⟩, by decide +kernel, rfl, rfl, by decide +kernel, rfl⟩, g1091, by simp⟩
abbrev mX3_wouldSell : MT := (yX3_wouldSell, (some .int), cX3_wouldSell, 2, { frames := 7, cells := 1, slots := 6, locals := 110 }, [], 1, none)
theorem kX3_wouldSell : MKV mX3_wouldSell 1 := ⟨⟨(by rw [hdW, if_pos rfl]; exact g1096), g60, ⟨by decide, by decide⟩, by decide +kernel, rfl, rfl, by decide +kernel, rfl⟩, ⟨g1094, g1095⟩, rfl⟩
abbrev mL_wouldLose : MT := (yL_wouldLose, (some .int), cL_wouldLose, 4, { frames := 8, cells := 1, slots := 6, locals := 131 }, [(0, 9, 12, 13)], 1, none)
theorem kL_wouldLose : MKW mL_wouldLose 3 := ⟨⟨(by rw [hdW, if_neg (by simp)]; exact g1099), g59, ⟨by decide, by decide⟩, by decide +kernel, rfl, rfl, by decide +kernel, rfl⟩, g1098, by simp⟩
abbrev mX3_wouldLose : MT := (yX3_wouldLose, (some .int), cX3_wouldLose, 2, { frames := 7, cells := 1, slots := 6, locals := 110 }, [], 1, none)
theorem kX3_wouldLose : MKV mX3_wouldLose 1 := ⟨⟨(by rw [hdW, if_pos rfl]; exact g1103), g60, ⟨by decide, by decide⟩, by decide +kernel, rfl, rfl, by decide +kernel, rfl⟩, ⟨g1101, g1102⟩, rfl⟩
abbrev mL_calledIfFallen : MT := (yL_calledIfFallen, (some .int), cL_calledIfFallen, 4, { frames := 8, cells := 1, slots := 6, locals := 133 }, [(0, 9, 12, 15)], 1, none)
theorem kL_calledIfFallen : MKW mL_calledIfFallen 3 := ⟨⟨(by rw [hdW, if_neg (by simp)]; exact g1106), g59, ⟨by decide, by decide⟩, by decide +kernel, rfl, rfl, by decide +kernel, rfl⟩, g1105, by simp⟩
abbrev mX3_calledIfFallen : MT := (yX3_calledIfFallen, (some .int), cX3_calledIfFallen, 2, { frames := 7, cells := 1, slots := 6, locals := 112 }, [], 1, none)
theorem kX3_calledIfFallen : MKV mX3_calledIfFallen 1 := ⟨⟨(by rw [hdW, if_pos rfl]; exact g1110), g60, ⟨by decide, by decide⟩, by decide +kernel, rfl, rfl, by decide +kernel, rfl⟩, ⟨g1108, g1109⟩, rfl⟩
abbrev mX4_init : MT := (yX4_init, none, cX4_init, 2, { frames := 1, cells := 0, slots := 0, locals := 40 }, [], 0, none)
abbrev mX4_thrown : MT := (yX4_thrown, (some .int), cX4_thrown, 1, { frames := 0, cells := 0, slots := 0, locals := 0 }, [], 0, none)
theorem kX4_thrown : MKV mX4_thrown 0 := ⟨⟨(by rw [hdW, if_pos rfl]; exact g1157), g65, ⟨by decide, by decide⟩, by decide +kernel, rfl, rfl, by decide +kernel, rfl⟩, ⟨g1155, g1156⟩, rfl⟩
abbrev mX4_setPrice : MT := (yX4_setPrice, (some .int), cX4_setPrice, 3, { frames := 6, cells := 0, slots := 0, locals := 137 }, [], 0, none)
theorem kX4_setPrice : MKV mX4_setPrice 2 := ⟨⟨(by rw [hdW, if_pos rfl]; exact g1161), g65, ⟨by decide, by decide⟩, by decide +kernel, rfl, rfl, by decide +kernel, rfl⟩, ⟨g1159, g1160⟩, rfl⟩
abbrev mX4_isKind : MT := (yX4_isKind, (some .boolean), cX4_isKind, 1, { frames := 1, cells := 0, slots := 0, locals := 22 }, [], 0, none)
theorem kX4_isKind : MKS mX4_isKind 1 := ⟨⟨(by rw [hdW, if_pos rfl]; exact g1164), g65, ⟨by decide, by decide⟩, by decide +kernel, rfl, rfl, by decide +kernel, rfl⟩, g1163, rfl⟩
abbrev mX4_in : MT := (yX4_in, (some .boolean), cX4_in, 3, { frames := 0, cells := 0, slots := 0, locals := 0 }, [], 0, none)
theorem kX4_in : MKS mX4_in 3 := ⟨⟨(by rw [hdW, if_pos rfl]; exact g1167), g65, ⟨by decide, by decide⟩, by decide +kernel, rfl, rfl, by decide +kernel, rfl⟩, g1166, rfl⟩
abbrev mX4_sets : MT := (yX4_sets, (some .int), cX4_sets, 6, { frames := 5, cells := 0, slots := 0, locals := 112 }, [], 0, none)
theorem kX4_sets : MKV mX4_sets 4 := ⟨⟨(by rw [hdW, if_pos rfl]; exact g1171), g65, ⟨by decide, by decide⟩, by decide +kernel, rfl, rfl, by decide +kernel, rfl⟩, ⟨g1170, g10⟩, rfl⟩
abbrev mX4_throwing : MT := (yX4_throwing, (some .int), cX4_throwing, 2, { frames := 0, cells := 0, slots := 0, locals := 0 }, [], 0, none)
theorem kX4_throwing : MKV mX4_throwing 1 := ⟨⟨(by rw [hdW, if_pos rfl]; exact g1175), g65, ⟨by decide, by decide⟩, by decide +kernel, rfl, rfl, by decide +kernel, rfl⟩, ⟨g1174, g11⟩, rfl⟩
abbrev mX4_save : MT := (yX4_save, none, cX4_save, 2, { frames := 0, cells := 0, slots := 0, locals := 0 }, [], 0, none)
theorem kX4_save : MKV mX4_save 0 := ⟨⟨(by rw [hdW, if_pos rfl]; exact g1179), g65, ⟨by decide, by decide⟩, by decide +kernel, rfl, rfl, by decide +kernel, rfl⟩, ⟨g1178, g12⟩, rfl⟩
abbrev mX4_looks : MT := (yX4_looks, none, cX4_looks, 3, { frames := 4, cells := 0, slots := 0, locals := 90 }, [], 0, none)
theorem kX4_looks : MKV mX4_looks 0 := ⟨⟨(by rw [hdW, if_pos rfl]; exact g1183), g65, ⟨by decide, by decide⟩, by decide +kernel, rfl, rfl, by decide +kernel, rfl⟩, ⟨g1182, g13⟩, rfl⟩
abbrev mX4_isCovered : MT := (yX4_isCovered, (some .boolean), cX4_isCovered, 2, { frames := 3, cells := 0, slots := 0, locals := 69 }, [], 0, none)
theorem kX4_isCovered : MKV mX4_isCovered 1 := ⟨⟨(by rw [hdW, if_pos rfl]; exact g1187), g65, ⟨by decide, by decide⟩, by decide +kernel, rfl, rfl, by decide +kernel, rfl⟩, ⟨g1186, g14⟩, rfl⟩
abbrev mX4_of : MT := (yX4_of, (some .int), cX4_of, 3, { frames := 0, cells := 0, slots := 0, locals := 0 }, [], 0, none)
theorem kX4_of : MKV mX4_of 2 := ⟨⟨(by rw [hdW, if_pos rfl]; exact g1191), g65, ⟨by decide, by decide⟩, by decide +kernel, rfl, rfl, by decide +kernel, rfl⟩, ⟨g1190, g15⟩, rfl⟩
abbrev mX4_cover : MT := (yX4_cover, (some .int), cX4_cover, 2, { frames := 2, cells := 0, slots := 0, locals := 48 }, [], 0, none)
theorem kX4_cover : MKV mX4_cover 1 := ⟨⟨(by rw [hdW, if_pos rfl]; exact g1195), g65, ⟨by decide, by decide⟩, by decide +kernel, rfl, rfl, by decide +kernel, rfl⟩, ⟨g1194, g16⟩, rfl⟩
abbrev mX4_coverIf : MT := (yX4_coverIf, (some .int), cX4_coverIf, 7, { frames := 1, cells := 0, slots := 0, locals := 22 }, [], 0, none)
theorem kX4_coverIf : MKV mX4_coverIf 3 := ⟨⟨(by rw [hdW, if_pos rfl]; exact g1199), g65, ⟨by decide, by decide⟩, by decide +kernel, rfl, rfl, by decide +kernel, rfl⟩, ⟨g1198, g17⟩, rfl⟩
abbrev mX4_fallen : MT := (yX4_fallen, (some .int), cX4_fallen, 3, { frames := 0, cells := 0, slots := 0, locals := 0 }, [], 0, none)
theorem kX4_fallen : MKV mX4_fallen 2 := ⟨⟨(by rw [hdW, if_pos rfl]; exact g1203), g65, ⟨by decide, by decide⟩, by decide +kernel, rfl, rfl, by decide +kernel, rfl⟩, ⟨g1202, g18⟩, rfl⟩
abbrev mX4_called : MT := (yX4_called, (some .boolean), cX4_called, 2, { frames := 1, cells := 0, slots := 0, locals := 22 }, [], 0, none)
theorem kX4_called : MKV mX4_called 1 := ⟨⟨(by rw [hdW, if_pos rfl]; exact g1207), g65, ⟨by decide, by decide⟩, by decide +kernel, rfl, rfl, by decide +kernel, rfl⟩, ⟨g1206, g19⟩, rfl⟩
abbrev mX4_lay : MT := (yX4_lay, none, cX4_lay, 4, { frames := 0, cells := 0, slots := 0, locals := 0 }, [], 0, none)
theorem kX4_lay : MKV mX4_lay 3 := ⟨⟨(by rw [hdW, if_pos rfl]; exact g1211), g65, ⟨by decide, by decide⟩, by decide +kernel, rfl, rfl, by decide +kernel, rfl⟩, ⟨g1210, g20⟩, rfl⟩
abbrev mX4_setCut : MT := (yX4_setCut, (some .int), cX4_setCut, 3, { frames := 6, cells := 0, slots := 0, locals := 137 }, [], 0, none)
theorem kX4_setCut : MKV mX4_setCut 2 := ⟨⟨(by rw [hdW, if_pos rfl]; exact g1215), g65, ⟨by decide, by decide⟩, by decide +kernel, rfl, rfl, by decide +kernel, rfl⟩, ⟨g1213, g1214⟩, rfl⟩
abbrev mX4_fall : MT := (yX4_fall, (some .int), cX4_fall, 5, { frames := 5, cells := 0, slots := 0, locals := 112 }, [], 0, none)
theorem kX4_fall : MKV mX4_fall 1 := ⟨⟨(by rw [hdW, if_pos rfl]; exact g1219), g65, ⟨by decide, by decide⟩, by decide +kernel, rfl, rfl, by decide +kernel, rfl⟩, ⟨g1217, g1218⟩, rfl⟩
abbrev mX4_pledge : MT := (yX4_pledge, (some .int), cX4_pledge, 4, { frames := 5, cells := 0, slots := 0, locals := 112 }, [], 0, none)
theorem kX4_pledge : MKV mX4_pledge 3 := ⟨⟨(by rw [hdW, if_pos rfl]; exact g1223), g65, ⟨by decide, by decide⟩, by decide +kernel, rfl, rfl, by decide +kernel, rfl⟩, ⟨g1221, g1222⟩, rfl⟩
abbrev mX4_areThere : MT := (yX4_areThere, (some .boolean), cX4_areThere, 3, { frames := 2, cells := 0, slots := 0, locals := 42 }, [], 0, none)
theorem kX4_areThere : MKV mX4_areThere 2 := ⟨⟨(by rw [hdW, if_pos rfl]; exact g1227), g65, ⟨by decide, by decide⟩, by decide +kernel, rfl, rfl, by decide +kernel, rfl⟩, ⟨g1226, g21⟩, rfl⟩
abbrev mX4_isClient : MT := (yX4_isClient, (some .boolean), cX4_isClient, 1, { frames := 1, cells := 0, slots := 0, locals := 22 }, [], 0, none)
theorem kX4_isClient : MKS mX4_isClient 1 := ⟨⟨(by rw [hdW, if_pos rfl]; exact g1230), g65, ⟨by decide, by decide⟩, by decide +kernel, rfl, rfl, by decide +kernel, rfl⟩, g1229, rfl⟩
abbrev mX4_canPledge : MT := (yX4_canPledge, (some .boolean), cX4_canPledge, 4, { frames := 1, cells := 0, slots := 0, locals := 22 }, [], 0, none)
theorem kX4_canPledge : MKV mX4_canPledge 3 := ⟨⟨(by rw [hdW, if_pos rfl]; exact g1234), g65, ⟨by decide, by decide⟩, by decide +kernel, rfl, rfl, by decide +kernel, rfl⟩, ⟨g1233, g22⟩, rfl⟩
abbrev mX4_grow : MT := (yX4_grow, none, cX4_grow, 4, { frames := 0, cells := 0, slots := 0, locals := 0 }, [], 0, none)
theorem kX4_grow : MKV mX4_grow 3 := ⟨⟨(by rw [hdW, if_pos rfl]; exact g1238), g65, ⟨by decide, by decide⟩, by decide +kernel, rfl, rfl, by decide +kernel, rfl⟩, ⟨g1237, g23⟩, rfl⟩
abbrev mX4_release : MT := (yX4_release, (some .int), cX4_release, 4, { frames := 5, cells := 0, slots := 0, locals := 114 }, [], 0, none)
theorem kX4_release : MKV mX4_release 3 := ⟨⟨(by rw [hdW, if_pos rfl]; exact g1242), g65, ⟨by decide, by decide⟩, by decide +kernel, rfl, rfl, by decide +kernel, rfl⟩, ⟨g1240, g1241⟩, rfl⟩
abbrev mX4_canLack : MT := (yX4_canLack, (some .boolean), cX4_canLack, 5, { frames := 4, cells := 0, slots := 0, locals := 90 }, [], 0, none)
theorem kX4_canLack : MKV mX4_canLack 3 := ⟨⟨(by rw [hdW, if_pos rfl]; exact g1246), g65, ⟨by decide, by decide⟩, by decide +kernel, rfl, rfl, by decide +kernel, rfl⟩, ⟨g1245, g24⟩, rfl⟩
abbrev mX4_deposit : MT := (yX4_deposit, (some .int), cX4_deposit, 3, { frames := 5, cells := 0, slots := 0, locals := 112 }, [], 0, none)
theorem kX4_deposit : MKV mX4_deposit 2 := ⟨⟨(by rw [hdW, if_pos rfl]; exact g1250), g65, ⟨by decide, by decide⟩, by decide +kernel, rfl, rfl, by decide +kernel, rfl⟩, ⟨g1248, g1249⟩, rfl⟩
abbrev mX4_isThere : MT := (yX4_isThere, (some .boolean), cX4_isThere, 2, { frames := 3, cells := 0, slots := 0, locals := 64 }, [], 0, none)
theorem kX4_isThere : MKV mX4_isThere 1 := ⟨⟨(by rw [hdW, if_pos rfl]; exact g1254), g65, ⟨by decide, by decide⟩, by decide +kernel, rfl, rfl, by decide +kernel, rfl⟩, ⟨g1253, g25⟩, rfl⟩
abbrev mX4_withdraw : MT := (yX4_withdraw, (some .int), cX4_withdraw, 3, { frames := 5, cells := 0, slots := 0, locals := 114 }, [], 0, none)
theorem kX4_withdraw : MKV mX4_withdraw 2 := ⟨⟨(by rw [hdW, if_pos rfl]; exact g1259), g65, ⟨by decide, by decide⟩, by decide +kernel, rfl, rfl, by decide +kernel, rfl⟩, ⟨g1257, g1258⟩, rfl⟩
abbrev mX4_lend : MT := (yX4_lend, (some .int), cX4_lend, 3, { frames := 5, cells := 0, slots := 0, locals := 112 }, [], 0, none)
theorem kX4_lend : MKV mX4_lend 2 := ⟨⟨(by rw [hdW, if_pos rfl]; exact g1263), g65, ⟨by decide, by decide⟩, by decide +kernel, rfl, rfl, by decide +kernel, rfl⟩, ⟨g1261, g1262⟩, rfl⟩
abbrev mX4_canLend : MT := (yX4_canLend, (some .boolean), cX4_canLend, 3, { frames := 3, cells := 0, slots := 0, locals := 69 }, [], 0, none)
theorem kX4_canLend : MKV mX4_canLend 2 := ⟨⟨(by rw [hdW, if_pos rfl]; exact g1267), g65, ⟨by decide, by decide⟩, by decide +kernel, rfl, rfl, by decide +kernel, rfl⟩, ⟨g1266, g26⟩, rfl⟩
abbrev mX4_lends : MT := (yX4_lends, none, cX4_lends, 3, { frames := 1, cells := 0, slots := 0, locals := 23 }, [], 0, none)
theorem kX4_lends : MKV mX4_lends 2 := ⟨⟨(by rw [hdW, if_pos rfl]; exact g1271), g65, ⟨by decide, by decide⟩, by decide +kernel, rfl, rfl, by decide +kernel, rfl⟩, ⟨g1270, g27⟩, rfl⟩
abbrev mX4_payBack : MT := (yX4_payBack, (some .int), cX4_payBack, 4, { frames := 5, cells := 0, slots := 0, locals := 112 }, [], 0, none)
theorem kX4_payBack : MKV mX4_payBack 2 := ⟨⟨(by rw [hdW, if_pos rfl]; exact g1275), g65, ⟨by decide, by decide⟩, by decide +kernel, rfl, rfl, by decide +kernel, rfl⟩, ⟨g1273, g1274⟩, rfl⟩
abbrev mX4_paysBack : MT := (yX4_paysBack, (some .int), cX4_paysBack, 4, { frames := 1, cells := 0, slots := 0, locals := 23 }, [], 0, none)
theorem kX4_paysBack : MKV mX4_paysBack 2 := ⟨⟨(by rw [hdW, if_pos rfl]; exact g1279), g65, ⟨by decide, by decide⟩, by decide +kernel, rfl, rfl, by decide +kernel, rfl⟩, ⟨g1278, g28⟩, rfl⟩
abbrev mX4_readmit : MT := (yX4_readmit, none, cX4_readmit, 2, { frames := 5, cells := 0, slots := 0, locals := 112 }, [], 0, none)
theorem kX4_readmit : MKV mX4_readmit 1 := ⟨⟨(by rw [hdW, if_pos rfl]; exact g1283), g65, ⟨by decide, by decide⟩, by decide +kernel, rfl, rfl, by decide +kernel, rfl⟩, ⟨g1281, g1282⟩, rfl⟩
abbrev mX4_pass : MT := (yX4_pass, (some .int), cX4_pass, 3, { frames := 7, cells := 0, slots := 0, locals := 161 }, [], 0, none)
theorem kX4_pass : MKV mX4_pass 1 := ⟨⟨(by rw [hdW, if_pos rfl]; exact g1287), g65, ⟨by decide, by decide⟩, by decide +kernel, rfl, rfl, by decide +kernel, rfl⟩, ⟨g1285, g1286⟩, rfl⟩
abbrev mX4_passes : MT := (yX4_passes, (some .int), cX4_passes, 4, { frames := 6, cells := 0, slots := 0, locals := 138 }, [], 0, none)
theorem kX4_passes : MKV mX4_passes 1 := ⟨⟨(by rw [hdW, if_pos rfl]; exact g1291), g65, ⟨by decide, by decide⟩, by decide +kernel, rfl, rfl, by decide +kernel, rfl⟩, ⟨g1290, g29⟩, rfl⟩
abbrev mX4_hour : MT := (yX4_hour, (some .int), cX4_hour, 5, { frames := 5, cells := 0, slots := 0, locals := 114 }, [], 0, none)
theorem kX4_hour : MKV mX4_hour 0 := ⟨⟨(by rw [hdW, if_pos rfl]; exact g1295), g65, ⟨by decide, by decide⟩, by decide +kernel, rfl, rfl, by decide +kernel, rfl⟩, ⟨g1294, g30⟩, rfl⟩
abbrev mX4_interestOf : MT := (yX4_interestOf, (some .int), cX4_interestOf, 2, { frames := 0, cells := 0, slots := 0, locals := 0 }, [], 0, none)
theorem kX4_interestOf : MKS mX4_interestOf 2 := ⟨⟨(by rw [hdW, if_pos rfl]; exact g1298), g65, ⟨by decide, by decide⟩, by decide +kernel, rfl, rfl, by decide +kernel, rfl⟩, g1297, rfl⟩
abbrev mX4_sellsOut : MT := (yX4_sellsOut, (some .int), cX4_sellsOut, 5, { frames := 4, cells := 0, slots := 0, locals := 90 }, [], 0, none)
theorem kX4_sellsOut : MKV mX4_sellsOut 1 := ⟨⟨(by rw [hdW, if_pos rfl]; exact g1302), g65, ⟨by decide, by decide⟩, by decide +kernel, rfl, rfl, by decide +kernel, rfl⟩, ⟨g1301, g31⟩, rfl⟩
abbrev mX4_pays : MT := (yX4_pays, none, cX4_pays, 4, { frames := 1, cells := 0, slots := 0, locals := 23 }, [], 0, none)
theorem kX4_pays : MKV mX4_pays 2 := ⟨⟨(by rw [hdW, if_pos rfl]; exact g1306), g65, ⟨by decide, by decide⟩, by decide +kernel, rfl, rfl, by decide +kernel, rfl⟩, ⟨g1305, g32⟩, rfl⟩
abbrev mX4_selling : MT := (yX4_selling, (some .int), cX4_selling, 4, { frames := 1, cells := 0, slots := 0, locals := 23 }, [], 0, none)
theorem kX4_selling : MKV mX4_selling 1 := ⟨⟨(by rw [hdW, if_pos rfl]; exact g1310), g65, ⟨by decide, by decide⟩, by decide +kernel, rfl, rfl, by decide +kernel, rfl⟩, ⟨g1309, g33⟩, rfl⟩
abbrev mX4_isAhead : MT := (yX4_isAhead, (some .boolean), cX4_isAhead, 4, { frames := 0, cells := 0, slots := 0, locals := 0 }, [], 0, none)
theorem kX4_isAhead : MKV mX4_isAhead 2 := ⟨⟨(by rw [hdW, if_pos rfl]; exact g1314), g65, ⟨by decide, by decide⟩, by decide +kernel, rfl, rfl, by decide +kernel, rfl⟩, ⟨g1313, g34⟩, rfl⟩
abbrev mX4_changeRate : MT := (yX4_changeRate, (some .int), cX4_changeRate, 2, { frames := 6, cells := 0, slots := 0, locals := 137 }, [], 0, none)
theorem kX4_changeRate : MKV mX4_changeRate 1 := ⟨⟨(by rw [hdW, if_pos rfl]; exact g1318), g65, ⟨by decide, by decide⟩, by decide +kernel, rfl, rfl, by decide +kernel, rfl⟩, ⟨g1316, g1317⟩, rfl⟩
abbrev mX4_rules : MT := (yX4_rules, (some .int), cX4_rules, 6, { frames := 5, cells := 0, slots := 0, locals := 112 }, [], 0, none)
theorem kX4_rules : MKV mX4_rules 4 := ⟨⟨(by rw [hdW, if_pos rfl]; exact g1322), g65, ⟨by decide, by decide⟩, by decide +kernel, rfl, rfl, by decide +kernel, rfl⟩, ⟨g1321, g35⟩, rfl⟩
abbrev mX4_changeGrace : MT := (yX4_changeGrace, (some .int), cX4_changeGrace, 2, { frames := 6, cells := 0, slots := 0, locals := 137 }, [], 0, none)
theorem kX4_changeGrace : MKV mX4_changeGrace 1 := ⟨⟨(by rw [hdW, if_pos rfl]; exact g1326), g65, ⟨by decide, by decide⟩, by decide +kernel, rfl, rfl, by decide +kernel, rfl⟩, ⟨g1324, g1325⟩, rfl⟩
abbrev mX4_changeSlip : MT := (yX4_changeSlip, (some .int), cX4_changeSlip, 2, { frames := 6, cells := 0, slots := 0, locals := 137 }, [], 0, none)
theorem kX4_changeSlip : MKV mX4_changeSlip 1 := ⟨⟨(by rw [hdW, if_pos rfl]; exact g1330), g65, ⟨by decide, by decide⟩, by decide +kernel, rfl, rfl, by decide +kernel, rfl⟩, ⟨g1328, g1329⟩, rfl⟩
abbrev mX4_turnOrder : MT := (yX4_turnOrder, (some .int), cX4_turnOrder, 1, { frames := 1, cells := 0, slots := 0, locals := 21 }, [], 0, none)
theorem kX4_turnOrder : MKV mX4_turnOrder 0 := ⟨⟨(by rw [hdW, if_pos rfl]; exact g1334), g65, ⟨by decide, by decide⟩, by decide +kernel, rfl, rfl, by decide +kernel, rfl⟩, ⟨g1332, g1333⟩, rfl⟩
abbrev mX4_append : MT := (yX4_append, (some .int), cX4_append, 2, { frames := 1, cells := 0, slots := 0, locals := 22 }, [], 0, none)
theorem kX4_append : MKV mX4_append 1 := ⟨⟨(by rw [hdW, if_pos rfl]; exact g1338), g65, ⟨by decide, by decide⟩, by decide +kernel, rfl, rfl, by decide +kernel, rfl⟩, ⟨g1336, g1337⟩, rfl⟩
abbrev mX4_clearBuffer : MT := (yX4_clearBuffer, (some .int), cX4_clearBuffer, 2, { frames := 0, cells := 0, slots := 0, locals := 0 }, [], 0, none)
theorem kX4_clearBuffer : MKV mX4_clearBuffer 0 := ⟨⟨(by rw [hdW, if_pos rfl]; exact g1342), g65, ⟨by decide, by decide⟩, by decide +kernel, rfl, rfl, by decide +kernel, rfl⟩, ⟨g1340, g1341⟩, rfl⟩
abbrev mX4_firstError : MT := (yX4_firstError, (some .int), cX4_firstError, 2, { frames := 10, cells := 0, slots := 0, locals := 238 }, [], 0, none)
theorem kX4_firstError : MKV mX4_firstError 0 := ⟨⟨(by rw [hdW, if_pos rfl]; exact g1346), g65, ⟨by decide, by decide⟩, by decide +kernel, rfl, rfl, by decide +kernel, rfl⟩, ⟨g1344, g1345⟩, rfl⟩
abbrev mX4_go : MT := (yX4_go, (some .boolean), cX4_go, 4, { frames := 9, cells := 0, slots := 0, locals := 215 }, [], 0, none)
theorem kX4_go : MKV mX4_go 1 := ⟨⟨(by rw [hdW, if_pos rfl]; exact g1350), g65, ⟨by decide, by decide⟩, by decide +kernel, rfl, rfl, by decide +kernel, rfl⟩, ⟨g1349, g36⟩, rfl⟩
abbrev mX4_isOrdered : MT := (yX4_isOrdered, (some .boolean), cX4_isOrdered, 9, { frames := 8, cells := 0, slots := 0, locals := 187 }, [], 0, none)
theorem kX4_isOrdered : MKV mX4_isOrdered 1 := ⟨⟨(by rw [hdW, if_pos rfl]; exact g1354), g65, ⟨by decide, by decide⟩, by decide +kernel, rfl, rfl, by decide +kernel, rfl⟩, ⟨g1353, g37⟩, rfl⟩
abbrev mX4_sign : MT := (yX4_sign, (some .int), cX4_sign, 4, { frames := 1, cells := 0, slots := 0, locals := 22 }, [], 0, none)
theorem kX4_sign : MKV mX4_sign 2 := ⟨⟨(by rw [hdW, if_pos rfl]; exact g1358), g65, ⟨by decide, by decide⟩, by decide +kernel, rfl, rfl, by decide +kernel, rfl⟩, ⟨g1357, g38⟩, rfl⟩
abbrev mX4_number : MT := (yX4_number, (some .int), cX4_number, 4, { frames := 2, cells := 0, slots := 0, locals := 45 }, [], 0, none)
theorem kX4_number : MKV mX4_number 2 := ⟨⟨(by rw [hdW, if_pos rfl]; exact g1362), g65, ⟨by decide, by decide⟩, by decide +kernel, rfl, rfl, by decide +kernel, rfl⟩, ⟨g1361, g39⟩, rfl⟩
abbrev mX4_isFollowed : MT := (yX4_isFollowed, (some .boolean), cX4_isFollowed, 7, { frames := 7, cells := 0, slots := 0, locals := 161 }, [], 0, none)
theorem kX4_isFollowed : MKV mX4_isFollowed 4 := ⟨⟨(by rw [hdW, if_pos rfl]; exact g1366), g65, ⟨by decide, by decide⟩, by decide +kernel, rfl, rfl, by decide +kernel, rfl⟩, ⟨g1365, g40⟩, rfl⟩
abbrev mX4_follow : MT := (yX4_follow, (some .int), cX4_follow, 2, { frames := 10, cells := 0, slots := 0, locals := 238 }, [], 0, none)
theorem kX4_follow : MKV mX4_follow 0 := ⟨⟨(by rw [hdW, if_pos rfl]; exact g1370), g65, ⟨by decide, by decide⟩, by decide +kernel, rfl, rfl, by decide +kernel, rfl⟩, ⟨g1368, g1369⟩, rfl⟩
abbrev mX4_keepsAside : MT := (yX4_keepsAside, none, cX4_keepsAside, 2, { frames := 0, cells := 0, slots := 0, locals := 0 }, [], 0, none)
theorem kX4_keepsAside : MKV mX4_keepsAside 0 := ⟨⟨(by rw [hdW, if_pos rfl]; exact g1374), g65, ⟨by decide, by decide⟩, by decide +kernel, rfl, rfl, by decide +kernel, rfl⟩, ⟨g1373, g41⟩, rfl⟩
abbrev mX4_putsBack : MT := (yX4_putsBack, none, cX4_putsBack, 2, { frames := 0, cells := 0, slots := 0, locals := 0 }, [], 0, none)
theorem kX4_putsBack : MKV mX4_putsBack 0 := ⟨⟨(by rw [hdW, if_pos rfl]; exact g1378), g65, ⟨by decide, by decide⟩, by decide +kernel, rfl, rfl, by decide +kernel, rfl⟩, ⟨g1377, g42⟩, rfl⟩
abbrev mX4_allCalled : MT := (yX4_allCalled, (some .int), cX4_allCalled, 3, { frames := 2, cells := 0, slots := 0, locals := 43 }, [], 0, none)
theorem kX4_allCalled : MKV mX4_allCalled 0 := ⟨⟨(by rw [hdW, if_pos rfl]; exact g1382), g65, ⟨by decide, by decide⟩, by decide +kernel, rfl, rfl, by decide +kernel, rfl⟩, ⟨g1381, g43⟩, rfl⟩
abbrev mX4_keep : MT := (yX4_keep, none, cX4_keep, 3, { frames := 1, cells := 0, slots := 0, locals := 22 }, [], 0, none)
theorem kX4_keep : MKV mX4_keep 1 := ⟨⟨(by rw [hdW, if_pos rfl]; exact g1386), g65, ⟨by decide, by decide⟩, by decide +kernel, rfl, rfl, by decide +kernel, rfl⟩, ⟨g1384, g1385⟩, rfl⟩
abbrev mX4_goBack : MT := (yX4_goBack, none, cX4_goBack, 3, { frames := 1, cells := 0, slots := 0, locals := 22 }, [], 0, none)
theorem kX4_goBack : MKV mX4_goBack 1 := ⟨⟨(by rw [hdW, if_pos rfl]; exact g1390), g65, ⟨by decide, by decide⟩, by decide +kernel, rfl, rfl, by decide +kernel, rfl⟩, ⟨g1388, g1389⟩, rfl⟩
abbrev mX4_undo : MT := (yX4_undo, none, cX4_undo, 2, { frames := 0, cells := 0, slots := 0, locals := 0 }, [], 0, none)
theorem kX4_undo : MKV mX4_undo 0 := ⟨⟨(by rw [hdW, if_pos rfl]; exact g1394), g65, ⟨by decide, by decide⟩, by decide +kernel, rfl, rfl, by decide +kernel, rfl⟩, ⟨g1392, g1393⟩, rfl⟩
abbrev mX4_savedStates : MT := (yX4_savedStates, (some .int), cX4_savedStates, 1, { frames := 0, cells := 0, slots := 0, locals := 0 }, [], 0, none)
theorem kX4_savedStates : MKV mX4_savedStates 0 := ⟨⟨(by rw [hdW, if_pos rfl]; exact g1398), g65, ⟨by decide, by decide⟩, by decide +kernel, rfl, rfl, by decide +kernel, rfl⟩, ⟨g1396, g1397⟩, rfl⟩
abbrev mX4_priceOf : MT := (yX4_priceOf, (some .int), cX4_priceOf, 2, { frames := 3, cells := 0, slots := 0, locals := 64 }, [], 0, none)
theorem kX4_priceOf : MKV mX4_priceOf 1 := ⟨⟨(by rw [hdW, if_pos rfl]; exact g1402), g65, ⟨by decide, by decide⟩, by decide +kernel, rfl, rfl, by decide +kernel, rfl⟩, ⟨g1400, g1401⟩, rfl⟩
abbrev mX4_told : MT := (yX4_told, (some .int), cX4_told, 3, { frames := 2, cells := 0, slots := 0, locals := 42 }, [], 0, none)
theorem kX4_told : MKV mX4_told 2 := ⟨⟨(by rw [hdW, if_pos rfl]; exact g1406), g65, ⟨by decide, by decide⟩, by decide +kernel, rfl, rfl, by decide +kernel, rfl⟩, ⟨g1405, g44⟩, rfl⟩
abbrev mX4_cutOf : MT := (yX4_cutOf, (some .int), cX4_cutOf, 2, { frames := 3, cells := 0, slots := 0, locals := 64 }, [], 0, none)
theorem kX4_cutOf : MKV mX4_cutOf 1 := ⟨⟨(by rw [hdW, if_pos rfl]; exact g1410), g65, ⟨by decide, by decide⟩, by decide +kernel, rfl, rfl, by decide +kernel, rfl⟩, ⟨g1408, g1409⟩, rfl⟩
abbrev mX4_pledgedOf : MT := (yX4_pledgedOf, (some .int), cX4_pledgedOf, 2, { frames := 2, cells := 0, slots := 0, locals := 45 }, [], 0, none)
theorem kX4_pledgedOf : MKV mX4_pledgedOf 1 := ⟨⟨(by rw [hdW, if_pos rfl]; exact g1414), g65, ⟨by decide, by decide⟩, by decide +kernel, rfl, rfl, by decide +kernel, rfl⟩, ⟨g1412, g1413⟩, rfl⟩
abbrev mX4_pledged : MT := (yX4_pledged, (some .int), cX4_pledged, 4, { frames := 1, cells := 0, slots := 0, locals := 22 }, [], 0, none)
theorem kX4_pledged : MKV mX4_pledged 1 := ⟨⟨(by rw [hdW, if_pos rfl]; exact g1418), g65, ⟨by decide, by decide⟩, by decide +kernel, rfl, rfl, by decide +kernel, rfl⟩, ⟨g1417, g45⟩, rfl⟩
abbrev mX4_soldOf : MT := (yX4_soldOf, (some .int), cX4_soldOf, 2, { frames := 3, cells := 0, slots := 0, locals := 64 }, [], 0, none)
theorem kX4_soldOf : MKV mX4_soldOf 1 := ⟨⟨(by rw [hdW, if_pos rfl]; exact g1422), g65, ⟨by decide, by decide⟩, by decide +kernel, rfl, rfl, by decide +kernel, rfl⟩, ⟨g1420, g1421⟩, rfl⟩
abbrev mX4_piecesOf : MT := (yX4_piecesOf, (some .int), cX4_piecesOf, 3, { frames := 3, cells := 0, slots := 0, locals := 64 }, [], 0, none)
theorem kX4_piecesOf : MKV mX4_piecesOf 2 := ⟨⟨(by rw [hdW, if_pos rfl]; exact g1426), g65, ⟨by decide, by decide⟩, by decide +kernel, rfl, rfl, by decide +kernel, rfl⟩, ⟨g1424, g1425⟩, rfl⟩
abbrev mX4_coinsOf : MT := (yX4_coinsOf, (some .int), cX4_coinsOf, 2, { frames := 4, cells := 0, slots := 0, locals := 85 }, [], 0, none)
theorem kX4_coinsOf : MKV mX4_coinsOf 1 := ⟨⟨(by rw [hdW, if_pos rfl]; exact g1430), g65, ⟨by decide, by decide⟩, by decide +kernel, rfl, rfl, by decide +kernel, rfl⟩, ⟨g1428, g1429⟩, rfl⟩
abbrev mX4_debtOf : MT := (yX4_debtOf, (some .int), cX4_debtOf, 2, { frames := 4, cells := 0, slots := 0, locals := 85 }, [], 0, none)
theorem kX4_debtOf : MKV mX4_debtOf 1 := ⟨⟨(by rw [hdW, if_pos rfl]; exact g1434), g65, ⟨by decide, by decide⟩, by decide +kernel, rfl, rfl, by decide +kernel, rfl⟩, ⟨g1432, g1433⟩, rfl⟩
abbrev mX4_worthOf : MT := (yX4_worthOf, (some .int), cX4_worthOf, 2, { frames := 4, cells := 0, slots := 0, locals := 85 }, [], 0, none)
theorem kX4_worthOf : MKV mX4_worthOf 1 := ⟨⟨(by rw [hdW, if_pos rfl]; exact g1438), g65, ⟨by decide, by decide⟩, by decide +kernel, rfl, rfl, by decide +kernel, rfl⟩, ⟨g1436, g1437⟩, rfl⟩
abbrev mX4_worth : MT := (yX4_worth, (some .int), cX4_worth, 4, { frames := 1, cells := 0, slots := 0, locals := 22 }, [], 0, none)
theorem kX4_worth : MKV mX4_worth 1 := ⟨⟨(by rw [hdW, if_pos rfl]; exact g1442), g65, ⟨by decide, by decide⟩, by decide +kernel, rfl, rfl, by decide +kernel, rfl⟩, ⟨g1441, g46⟩, rfl⟩
abbrev mX4_coverOf : MT := (yX4_coverOf, (some .int), cX4_coverOf, 2, { frames := 4, cells := 0, slots := 0, locals := 85 }, [], 0, none)
theorem kX4_coverOf : MKV mX4_coverOf 1 := ⟨⟨(by rw [hdW, if_pos rfl]; exact g1446), g65, ⟨by decide, by decide⟩, by decide +kernel, rfl, rfl, by decide +kernel, rfl⟩, ⟨g1444, g1445⟩, rfl⟩
abbrev mX4_roomOf : MT := (yX4_roomOf, (some .int), cX4_roomOf, 2, { frames := 4, cells := 0, slots := 0, locals := 91 }, [], 0, none)
theorem kX4_roomOf : MKV mX4_roomOf 1 := ⟨⟨(by rw [hdW, if_pos rfl]; exact g1450), g65, ⟨by decide, by decide⟩, by decide +kernel, rfl, rfl, by decide +kernel, rfl⟩, ⟨g1448, g1449⟩, rfl⟩
abbrev mX4_room : MT := (yX4_room, (some .int), cX4_room, 3, { frames := 3, cells := 0, slots := 0, locals := 69 }, [], 0, none)
theorem kX4_room : MKV mX4_room 1 := ⟨⟨(by rw [hdW, if_pos rfl]; exact g1454), g65, ⟨by decide, by decide⟩, by decide +kernel, rfl, rfl, by decide +kernel, rfl⟩, ⟨g1453, g47⟩, rfl⟩
abbrev mX4_isCalled : MT := (yX4_isCalled, (some .boolean), cX4_isCalled, 2, { frames := 4, cells := 0, slots := 0, locals := 85 }, [], 0, none)
theorem kX4_isCalled : MKV mX4_isCalled 1 := ⟨⟨(by rw [hdW, if_pos rfl]; exact g1458), g65, ⟨by decide, by decide⟩, by decide +kernel, rfl, rfl, by decide +kernel, rfl⟩, ⟨g1456, g1457⟩, rfl⟩
abbrev mX4_hoursLeft : MT := (yX4_hoursLeft, (some .int), cX4_hoursLeft, 2, { frames := 4, cells := 0, slots := 0, locals := 85 }, [], 0, none)
theorem kX4_hoursLeft : MKV mX4_hoursLeft 1 := ⟨⟨(by rw [hdW, if_pos rfl]; exact g1462), g65, ⟨by decide, by decide⟩, by decide +kernel, rfl, rfl, by decide +kernel, rfl⟩, ⟨g1460, g1461⟩, rfl⟩
abbrev mX4_isBarred : MT := (yX4_isBarred, (some .boolean), cX4_isBarred, 2, { frames := 4, cells := 0, slots := 0, locals := 85 }, [], 0, none)
theorem kX4_isBarred : MKV mX4_isBarred 1 := ⟨⟨(by rw [hdW, if_pos rfl]; exact g1466), g65, ⟨by decide, by decide⟩, by decide +kernel, rfl, rfl, by decide +kernel, rfl⟩, ⟨g1464, g1465⟩, rfl⟩
abbrev mX4_rankOf : MT := (yX4_rankOf, (some .int), cX4_rankOf, 2, { frames := 5, cells := 0, slots := 0, locals := 118 }, [], 0, none)
theorem kX4_rankOf : MKV mX4_rankOf 1 := ⟨⟨(by rw [hdW, if_pos rfl]; exact g1470), g65, ⟨by decide, by decide⟩, by decide +kernel, rfl, rfl, by decide +kernel, rfl⟩, ⟨g1468, g1469⟩, rfl⟩
abbrev mX4_rank : MT := (yX4_rank, (some .int), cX4_rank, 4, { frames := 4, cells := 0, slots := 0, locals := 95 }, [], 0, none)
theorem kX4_rank : MKV mX4_rank 1 := ⟨⟨(by rw [hdW, if_pos rfl]; exact g1474), g65, ⟨by decide, by decide⟩, by decide +kernel, rfl, rfl, by decide +kernel, rfl⟩, ⟨g1473, g48⟩, rfl⟩
abbrev mX4_isRiskier : MT := (yX4_isRiskier, (some .boolean), cX4_isRiskier, 7, { frames := 3, cells := 0, slots := 0, locals := 69 }, [], 0, none)
theorem kX4_isRiskier : MKV mX4_isRiskier 2 := ⟨⟨(by rw [hdW, if_pos rfl]; exact g1478), g65, ⟨by decide, by decide⟩, by decide +kernel, rfl, rfl, by decide +kernel, rfl⟩, ⟨g1477, g49⟩, rfl⟩
abbrev mX4_riskyBySorting : MT := (yX4_riskyBySorting, (some .int), cX4_riskyBySorting, 2, { frames := 6, cells := 0, slots := 0, locals := 141 }, [], 0, none)
theorem kX4_riskyBySorting : MKV mX4_riskyBySorting 1 := ⟨⟨(by rw [hdW, if_pos rfl]; exact g1482), g65, ⟨by decide, by decide⟩, by decide +kernel, rfl, rfl, by decide +kernel, rfl⟩, ⟨g1480, g1481⟩, rfl⟩
abbrev mX4_risky : MT := (yX4_risky, (some .int), cX4_risky, 4, { frames := 5, cells := 0, slots := 0, locals := 118 }, [], 0, none)
theorem kX4_risky : MKV mX4_risky 1 := ⟨⟨(by rw [hdW, if_pos rfl]; exact g1486), g65, ⟨by decide, by decide⟩, by decide +kernel, rfl, rfl, by decide +kernel, rfl⟩, ⟨g1485, g50⟩, rfl⟩
abbrev mX4_riskyByTaking : MT := (yX4_riskyByTaking, (some .int), cX4_riskyByTaking, 2, { frames := 6, cells := 0, slots := 0, locals := 141 }, [], 0, none)
theorem kX4_riskyByTaking : MKV mX4_riskyByTaking 1 := ⟨⟨(by rw [hdW, if_pos rfl]; exact g1490), g65, ⟨by decide, by decide⟩, by decide +kernel, rfl, rfl, by decide +kernel, rfl⟩, ⟨g1488, g1489⟩, rfl⟩
abbrev mX4_calledNow : MT := (yX4_calledNow, (some .int), cX4_calledNow, 1, { frames := 3, cells := 0, slots := 0, locals := 65 }, [], 0, none)
theorem kX4_calledNow : MKV mX4_calledNow 0 := ⟨⟨(by rw [hdW, if_pos rfl]; exact g1494), g65, ⟨by decide, by decide⟩, by decide +kernel, rfl, rfl, by decide +kernel, rfl⟩, ⟨g1492, g1493⟩, rfl⟩
abbrev mX4_rate : MT := (yX4_rate, (some .int), cX4_rate, 1, { frames := 1, cells := 0, slots := 0, locals := 21 }, [], 0, none)
theorem kX4_rate : MKV mX4_rate 0 := ⟨⟨(by rw [hdW, if_pos rfl]; exact g1498), g65, ⟨by decide, by decide⟩, by decide +kernel, rfl, rfl, by decide +kernel, rfl⟩, ⟨g1496, g1497⟩, rfl⟩
abbrev mX4_rule : MT := (yX4_rule, (some .int), cX4_rule, 2, { frames := 0, cells := 0, slots := 0, locals := 0 }, [], 0, none)
theorem kX4_rule : MKV mX4_rule 1 := ⟨⟨(by rw [hdW, if_pos rfl]; exact g1502), g65, ⟨by decide, by decide⟩, by decide +kernel, rfl, rfl, by decide +kernel, rfl⟩, ⟨g1501, g51⟩, rfl⟩
abbrev mX4_grace : MT := (yX4_grace, (some .int), cX4_grace, 1, { frames := 1, cells := 0, slots := 0, locals := 21 }, [], 0, none)
theorem kX4_grace : MKV mX4_grace 0 := ⟨⟨(by rw [hdW, if_pos rfl]; exact g1506), g65, ⟨by decide, by decide⟩, by decide +kernel, rfl, rfl, by decide +kernel, rfl⟩, ⟨g1504, g1505⟩, rfl⟩
abbrev mX4_slip : MT := (yX4_slip, (some .int), cX4_slip, 1, { frames := 1, cells := 0, slots := 0, locals := 21 }, [], 0, none)
theorem kX4_slip : MKV mX4_slip 0 := ⟨⟨(by rw [hdW, if_pos rfl]; exact g1510), g65, ⟨by decide, by decide⟩, by decide +kernel, rfl, rfl, by decide +kernel, rfl⟩, ⟨g1508, g1509⟩, rfl⟩
abbrev mX4_order : MT := (yX4_order, (some .int), cX4_order, 1, { frames := 1, cells := 0, slots := 0, locals := 21 }, [], 0, none)
theorem kX4_order : MKV mX4_order 0 := ⟨⟨(by rw [hdW, if_pos rfl]; exact g1514), g65, ⟨by decide, by decide⟩, by decide +kernel, rfl, rfl, by decide +kernel, rfl⟩, ⟨g1512, g1513⟩, rfl⟩
abbrev mX4_fallToCallByTrying : MT := (yX4_fallToCallByTrying, (some .int), cX4_fallToCallByTrying, 2, { frames := 5, cells := 0, slots := 0, locals := 107 }, [], 0, none)
theorem kX4_fallToCallByTrying : MKV mX4_fallToCallByTrying 1 := ⟨⟨(by rw [hdW, if_pos rfl]; exact g1518), g65, ⟨by decide, by decide⟩, by decide +kernel, rfl, rfl, by decide +kernel, rfl⟩, ⟨g1516, g1517⟩, rfl⟩
abbrev mX4_toldFall : MT := (yX4_toldFall, (some .int), cX4_toldFall, 3, { frames := 4, cells := 0, slots := 0, locals := 85 }, [], 0, none)
theorem kX4_toldFall : MKV mX4_toldFall 1 := ⟨⟨(by rw [hdW, if_pos rfl]; exact g1522), g65, ⟨by decide, by decide⟩, by decide +kernel, rfl, rfl, by decide +kernel, rfl⟩, ⟨g1521, g52⟩, rfl⟩
abbrev mX4_falling : MT := (yX4_falling, (some .int), cX4_falling, 3, { frames := 2, cells := 0, slots := 0, locals := 48 }, [], 0, none)
theorem kX4_falling : MKV mX4_falling 1 := ⟨⟨(by rw [hdW, if_pos rfl]; exact g1526), g65, ⟨by decide, by decide⟩, by decide +kernel, rfl, rfl, by decide +kernel, rfl⟩, ⟨g1525, g53⟩, rfl⟩
abbrev mX4_fallToCallByHalving : MT := (yX4_fallToCallByHalving, (some .int), cX4_fallToCallByHalving, 2, { frames := 5, cells := 0, slots := 0, locals := 107 }, [], 0, none)
theorem kX4_fallToCallByHalving : MKV mX4_fallToCallByHalving 1 := ⟨⟨(by rw [hdW, if_pos rfl]; exact g1530), g65, ⟨by decide, by decide⟩, by decide +kernel, rfl, rfl, by decide +kernel, rfl⟩, ⟨g1528, g1529⟩, rfl⟩
abbrev mX4_hoursToCall : MT := (yX4_hoursToCall, (some .int), cX4_hoursToCall, 5, { frames := 4, cells := 0, slots := 0, locals := 85 }, [], 0, none)
theorem kX4_hoursToCall : MKV mX4_hoursToCall 1 := ⟨⟨(by rw [hdW, if_pos rfl]; exact g1534), g65, ⟨by decide, by decide⟩, by decide +kernel, rfl, rfl, by decide +kernel, rfl⟩, ⟨g1532, g1533⟩, rfl⟩
abbrev mX4_wouldSell : MT := (yX4_wouldSell, (some .int), cX4_wouldSell, 2, { frames := 6, cells := 0, slots := 0, locals := 139 }, [], 0, none)
theorem kX4_wouldSell : MKV mX4_wouldSell 1 := ⟨⟨(by rw [hdW, if_pos rfl]; exact g1538), g65, ⟨by decide, by decide⟩, by decide +kernel, rfl, rfl, by decide +kernel, rfl⟩, ⟨g1536, g1537⟩, rfl⟩
abbrev mX4_would : MT := (yX4_would, (some .int), cX4_would, 6, { frames := 5, cells := 0, slots := 0, locals := 114 }, [], 0, none)
theorem kX4_would : MKV mX4_would 2 := ⟨⟨(by rw [hdW, if_pos rfl]; exact g1542), g65, ⟨by decide, by decide⟩, by decide +kernel, rfl, rfl, by decide +kernel, rfl⟩, ⟨g1541, g54⟩, rfl⟩
abbrev mX4_wouldLose : MT := (yX4_wouldLose, (some .int), cX4_wouldLose, 2, { frames := 6, cells := 0, slots := 0, locals := 139 }, [], 0, none)
theorem kX4_wouldLose : MKV mX4_wouldLose 1 := ⟨⟨(by rw [hdW, if_pos rfl]; exact g1546), g65, ⟨by decide, by decide⟩, by decide +kernel, rfl, rfl, by decide +kernel, rfl⟩, ⟨g1544, g1545⟩, rfl⟩
abbrev mX4_calledIfFallen : MT := (yX4_calledIfFallen, (some .int), cX4_calledIfFallen, 2, { frames := 3, cells := 0, slots := 0, locals := 71 }, [], 0, none)
theorem kX4_calledIfFallen : MKV mX4_calledIfFallen 1 := ⟨⟨(by rw [hdW, if_pos rfl]; exact g1550), g65, ⟨by decide, by decide⟩, by decide +kernel, rfl, rfl, by decide +kernel, rfl⟩, ⟨g1548, g1549⟩, rfl⟩
abbrev mX4_ifFallen : MT := (yX4_ifFallen, (some .int), cX4_ifFallen, 4, { frames := 2, cells := 0, slots := 0, locals := 48 }, [], 0, none)
theorem kX4_ifFallen : MKV mX4_ifFallen 1 := ⟨⟨(by rw [hdW, if_pos rfl]; exact g1554), g65, ⟨by decide, by decide⟩, by decide +kernel, rfl, rfl, by decide +kernel, rfl⟩, ⟨g1553, g55⟩, rfl⟩
abbrev mX4_hours : MT := (yX4_hours, (some .int), cX4_hours, 1, { frames := 1, cells := 0, slots := 0, locals := 21 }, [], 0, none)
theorem kX4_hours : MKV mX4_hours 0 := ⟨⟨(by rw [hdW, if_pos rfl]; exact g1558), g65, ⟨by decide, by decide⟩, by decide +kernel, rfl, rfl, by decide +kernel, rfl⟩, ⟨g1556, g1557⟩, rfl⟩
abbrev mX4_debtsByClients : MT := (yX4_debtsByClients, (some .int), cX4_debtsByClients, 1, { frames := 2, cells := 0, slots := 0, locals := 44 }, [], 0, none)
theorem kX4_debtsByClients : MKV mX4_debtsByClients 0 := ⟨⟨(by rw [hdW, if_pos rfl]; exact g1562), g65, ⟨by decide, by decide⟩, by decide +kernel, rfl, rfl, by decide +kernel, rfl⟩, ⟨g1560, g1561⟩, rfl⟩
abbrev mX4_debts : MT := (yX4_debts, (some .int), cX4_debts, 3, { frames := 1, cells := 0, slots := 0, locals := 22 }, [], 0, none)
theorem kX4_debts : MKV mX4_debts 0 := ⟨⟨(by rw [hdW, if_pos rfl]; exact g1566), g65, ⟨by decide, by decide⟩, by decide +kernel, rfl, rfl, by decide +kernel, rfl⟩, ⟨g1565, g56⟩, rfl⟩
abbrev mX4_debtsByAccount : MT := (yX4_debtsByAccount, (some .int), cX4_debtsByAccount, 1, { frames := 0, cells := 0, slots := 0, locals := 0 }, [], 0, none)
theorem kX4_debtsByAccount : MKV mX4_debtsByAccount 0 := ⟨⟨(by rw [hdW, if_pos rfl]; exact g1570), g65, ⟨by decide, by decide⟩, by decide +kernel, rfl, rfl, by decide +kernel, rfl⟩, ⟨g1568, g1569⟩, rfl⟩
abbrev mX4_lent : MT := (yX4_lent, (some .int), cX4_lent, 1, { frames := 1, cells := 0, slots := 0, locals := 21 }, [], 0, none)
theorem kX4_lent : MKV mX4_lent 0 := ⟨⟨(by rw [hdW, if_pos rfl]; exact g1574), g65, ⟨by decide, by decide⟩, by decide +kernel, rfl, rfl, by decide +kernel, rfl⟩, ⟨g1572, g1573⟩, rfl⟩
abbrev mX4_interest : MT := (yX4_interest, (some .int), cX4_interest, 1, { frames := 1, cells := 0, slots := 0, locals := 21 }, [], 0, none)
theorem kX4_interest : MKV mX4_interest 0 := ⟨⟨(by rw [hdW, if_pos rfl]; exact g1578), g65, ⟨by decide, by decide⟩, by decide +kernel, rfl, rfl, by decide +kernel, rfl⟩, ⟨g1576, g1577⟩, rfl⟩
abbrev mX4_repaid : MT := (yX4_repaid, (some .int), cX4_repaid, 1, { frames := 1, cells := 0, slots := 0, locals := 21 }, [], 0, none)
theorem kX4_repaid : MKV mX4_repaid 0 := ⟨⟨(by rw [hdW, if_pos rfl]; exact g1582), g65, ⟨by decide, by decide⟩, by decide +kernel, rfl, rfl, by decide +kernel, rfl⟩, ⟨g1580, g1581⟩, rfl⟩
abbrev mX4_lost : MT := (yX4_lost, (some .int), cX4_lost, 1, { frames := 1, cells := 0, slots := 0, locals := 21 }, [], 0, none)
theorem kX4_lost : MKV mX4_lost 0 := ⟨⟨(by rw [hdW, if_pos rfl]; exact g1586), g65, ⟨by decide, by decide⟩, by decide +kernel, rfl, rfl, by decide +kernel, rfl⟩, ⟨g1584, g1585⟩, rfl⟩
abbrev mX4_calls : MT := (yX4_calls, (some .int), cX4_calls, 1, { frames := 1, cells := 0, slots := 0, locals := 21 }, [], 0, none)
theorem kX4_calls : MKV mX4_calls 0 := ⟨⟨(by rw [hdW, if_pos rfl]; exact g1590), g65, ⟨by decide, by decide⟩, by decide +kernel, rfl, rfl, by decide +kernel, rfl⟩, ⟨g1588, g1589⟩, rfl⟩
abbrev mX4_soldOut : MT := (yX4_soldOut, (some .int), cX4_soldOut, 1, { frames := 1, cells := 0, slots := 0, locals := 21 }, [], 0, none)
theorem kX4_soldOut : MKV mX4_soldOut 0 := ⟨⟨(by rw [hdW, if_pos rfl]; exact g1594), g65, ⟨by decide, by decide⟩, by decide +kernel, rfl, rfl, by decide +kernel, rfl⟩, ⟨g1592, g1593⟩, rfl⟩
abbrev mX4_usedShare : MT := (yX4_usedShare, (some .double), cX4_usedShare, 1, { frames := 4, cells := 0, slots := 0, locals := 91 }, [], 0, none)
theorem kX4_usedShare : MKV mX4_usedShare 0 := ⟨⟨(by rw [hdW, if_pos rfl]; exact g1598), g65, ⟨by decide, by decide⟩, by decide +kernel, rfl, rfl, by decide +kernel, rfl⟩, ⟨g1596, g1597⟩, rfl⟩
abbrev mX4_used : MT := (yX4_used, (some .double), cX4_used, 3, { frames := 3, cells := 0, slots := 0, locals := 69 }, [], 0, none)
theorem kX4_used : MKV mX4_used 0 := ⟨⟨(by rw [hdW, if_pos rfl]; exact g1602), g65, ⟨by decide, by decide⟩, by decide +kernel, rfl, rfl, by decide +kernel, rfl⟩, ⟨g1601, g57⟩, rfl⟩
abbrev mX4_digest : MT := (yX4_digest, (some .long), cX4_digest, 3, { frames := 6, cells := 0, slots := 0, locals := 141 }, [], 0, none)
theorem kX4_digest : MKV mX4_digest 0 := ⟨⟨(by rw [hdW, if_pos rfl]; exact g1606), g65, ⟨by decide, by decide⟩, by decide +kernel, rfl, rfl, by decide +kernel, rfl⟩, ⟨g1604, g1605⟩, rfl⟩
abbrev mX4_mix : MT := (yX4_mix, none, cX4_mix, 3, { frames := 0, cells := 0, slots := 0, locals := 0 }, [], 0, none)
theorem kX4_mix : MKV mX4_mix 1 := ⟨⟨(by rw [hdW, if_pos rfl]; exact g1611), g65, ⟨by decide, by decide⟩, by decide +kernel, rfl, rfl, by decide +kernel, rfl⟩, ⟨g1610, g58⟩, rfl⟩
abbrev mX4_bitsOf : MT := (yX4_bitsOf, (some .long), cX4_bitsOf, 14, { frames := 0, cells := 0, slots := 0, locals := 0 }, [], 0, none)
theorem kX4_bitsOf : MKS mX4_bitsOf 3 := ⟨⟨(by rw [hdW, if_pos rfl]; exact g1615), g65, ⟨by decide, by decide⟩, by decide +kernel, rfl, rfl, by decide +kernel, rfl⟩, g1614, rfl⟩
theorem foX3_10 : FO RX3 10 3 0 := ⟨_, _, _, _, cf3, by decide, g256⟩
theorem foX3_19 : FO RX3 19 3 1 := ⟨_, _, _, _, cf3, by decide, g257⟩
theorem foX3_23 : FO RX3 23 3 2 := ⟨_, _, _, _, cf3, by decide, g258⟩
theorem foX3_29 : FO RX3 29 3 3 := ⟨_, _, _, _, cf3, by decide, g259⟩
theorem foX3_33 : FO RX3 33 3 4 := ⟨_, _, _, _, cf3, by decide, g260⟩
theorem foX3_37 : FO RX3 37 3 5 := ⟨_, _, _, _, cf3, by decide, g261⟩
theorem foX3_41 : FO RX3 41 3 7 := ⟨_, _, _, _, cf3, by decide, g263⟩
theorem fpX3_41 : FP9 RX3 41 3 7 (.object "PledgeHouse$Ledger") := ⟨_, _, _, _, cf3, by decide, g263, rfl, by decide +kernel⟩
theorem foX3_45 : FO RX3 45 3 8 := ⟨_, _, _, _, cf3, by decide, g264⟩
theorem fpX3_45 : FP9 RX3 45 3 8 (.object "PledgeHouse$Ledger") := ⟨_, _, _, _, cf3, by decide, g264, rfl, by decide +kernel⟩
theorem foX3_88 : FO RX3 88 0 3 := ⟨_, _, _, _, cf0, by decide, g181⟩
theorem foX3_101 : FO RX3 101 0 4 := ⟨_, _, _, _, cf0, by decide, g184⟩
theorem foX3_110 : FO RX3 110 0 5 := ⟨_, _, _, _, cf0, by decide, g187⟩
theorem foX3_124 : FO RX3 124 0 8 := ⟨_, _, _, _, cf0, by decide, g193⟩
theorem fpX3_124 : FP9 RX3 124 0 8 (.int) := ⟨_, _, _, _, cf0, by decide, g193, rfl, by decide +kernel⟩
theorem foX3_128 : FO RX3 128 0 9 := ⟨_, _, _, _, cf0, by decide, g195⟩
theorem fpX3_128 : FP9 RX3 128 0 9 (.int) := ⟨_, _, _, _, cf0, by decide, g195, rfl, by decide +kernel⟩
theorem foX3_131 : FO RX3 131 0 10 := ⟨_, _, _, _, cf0, by decide, g198⟩
theorem fpX3_131 : FP9 RX3 131 0 10 (.int) := ⟨_, _, _, _, cf0, by decide, g198, rfl, by decide +kernel⟩
theorem foX3_134 : FO RX3 134 0 11 := ⟨_, _, _, _, cf0, by decide, g201⟩
theorem fpX3_134 : FP9 RX3 134 0 11 (.int) := ⟨_, _, _, _, cf0, by decide, g201, rfl, by decide +kernel⟩
theorem foX3_137 : FO RX3 137 1 1 := ⟨_, _, _, _, cf1, by decide, g94⟩
theorem fpX3_137 : FP9 RX3 137 1 1 (.int) := ⟨_, _, _, _, cf1, by decide, g94, rfl, by decide +kernel⟩
theorem foX3_143 : FO RX3 143 1 0 := ⟨_, _, _, _, cf1, by decide, g92⟩
theorem foX3_172 : FO RX3 172 3 6 := ⟨_, _, _, _, cf3, by decide, g262⟩
theorem fpX3_172 : FP9 RX3 172 3 6 (.int) := ⟨_, _, _, _, cf3, by decide, g262, rfl, by decide +kernel⟩
theorem foX3_175 : FO RX3 175 0 0 := ⟨_, _, _, _, cf0, by decide, g173⟩
theorem foX3_178 : FO RX3 178 0 1 := ⟨_, _, _, _, cf0, by decide, g176⟩
theorem foX3_184 : FO RX3 184 0 2 := ⟨_, _, _, _, cf0, by decide, g178⟩
theorem foX3_196 : FO RX3 196 0 6 := ⟨_, _, _, _, cf0, by decide, g189⟩
theorem foX3_199 : FO RX3 199 0 7 := ⟨_, _, _, _, cf0, by decide, g191⟩
theorem foX3_228 : FO RX3 228 2 5 := ⟨_, _, _, _, cf2, by decide, g138⟩
theorem fpX3_228 : FP9 RX3 228 2 5 (.int) := ⟨_, _, _, _, cf2, by decide, g138, rfl, by decide +kernel⟩
theorem foX3_231 : FO RX3 231 2 7 := ⟨_, _, _, _, cf2, by decide, g143⟩
theorem fpX3_231 : FP9 RX3 231 2 7 (.int) := ⟨_, _, _, _, cf2, by decide, g143, rfl, by decide +kernel⟩
theorem foX3_237 : FO RX3 237 0 12 := ⟨_, _, _, _, cf0, by decide, g203⟩
theorem fpX3_237 : FP9 RX3 237 0 12 (.int) := ⟨_, _, _, _, cf0, by decide, g203, rfl, by decide +kernel⟩
theorem foX3_243 : FO RX3 243 0 13 := ⟨_, _, _, _, cf0, by decide, g205⟩
theorem fpX3_243 : FP9 RX3 243 0 13 (.int) := ⟨_, _, _, _, cf0, by decide, g205, rfl, by decide +kernel⟩
theorem foX3_246 : FO RX3 246 0 14 := ⟨_, _, _, _, cf0, by decide, g207⟩
theorem fpX3_246 : FP9 RX3 246 0 14 (.int) := ⟨_, _, _, _, cf0, by decide, g207, rfl, by decide +kernel⟩
theorem foX3_249 : FO RX3 249 0 15 := ⟨_, _, _, _, cf0, by decide, g209⟩
theorem fpX3_249 : FP9 RX3 249 0 15 (.int) := ⟨_, _, _, _, cf0, by decide, g209, rfl, by decide +kernel⟩
theorem foX3_252 : FO RX3 252 0 16 := ⟨_, _, _, _, cf0, by decide, g211⟩
theorem fpX3_252 : FP9 RX3 252 0 16 (.int) := ⟨_, _, _, _, cf0, by decide, g211, rfl, by decide +kernel⟩
theorem foX3_255 : FO RX3 255 0 17 := ⟨_, _, _, _, cf0, by decide, g213⟩
theorem fpX3_255 : FP9 RX3 255 0 17 (.int) := ⟨_, _, _, _, cf0, by decide, g213, rfl, by decide +kernel⟩
theorem foX3_258 : FO RX3 258 0 18 := ⟨_, _, _, _, cf0, by decide, g215⟩
theorem fpX3_258 : FP9 RX3 258 0 18 (.int) := ⟨_, _, _, _, cf0, by decide, g215, rfl, by decide +kernel⟩
theorem foX3_310 : FO RX3 310 1 2 := ⟨_, _, _, _, cf1, by decide, g96⟩
theorem fpX3_310 : FP9 RX3 310 1 2 (.int) := ⟨_, _, _, _, cf1, by decide, g96, rfl, by decide +kernel⟩
theorem foX3_313 : FO RX3 313 1 5 := ⟨_, _, _, _, cf1, by decide, g101⟩
theorem fpX3_313 : FP9 RX3 313 1 5 (.int) := ⟨_, _, _, _, cf1, by decide, g101, rfl, by decide +kernel⟩
theorem foX3_316 : FO RX3 316 1 6 := ⟨_, _, _, _, cf1, by decide, g103⟩
theorem fpX3_316 : FP9 RX3 316 1 6 (.int) := ⟨_, _, _, _, cf1, by decide, g103, rfl, by decide +kernel⟩
theorem foX3_319 : FO RX3 319 1 4 := ⟨_, _, _, _, cf1, by decide, g99⟩
theorem fpX3_319 : FP9 RX3 319 1 4 (.int) := ⟨_, _, _, _, cf1, by decide, g99, rfl, by decide +kernel⟩
theorem foX0_9 : FO RX0 9 0 0 := ⟨_, _, _, _, cf0, by decide, g171⟩
theorem foX0_15 : FO RX0 15 0 1 := ⟨_, _, _, _, cf0, by decide, g174⟩
theorem foX0_18 : FO RX0 18 0 2 := ⟨_, _, _, _, cf0, by decide, g177⟩
theorem foX0_21 : FO RX0 21 0 3 := ⟨_, _, _, _, cf0, by decide, g179⟩
theorem foX0_24 : FO RX0 24 0 4 := ⟨_, _, _, _, cf0, by decide, g182⟩
theorem foX0_27 : FO RX0 27 0 5 := ⟨_, _, _, _, cf0, by decide, g185⟩
theorem foX0_30 : FO RX0 30 0 6 := ⟨_, _, _, _, cf0, by decide, g188⟩
theorem foX0_33 : FO RX0 33 0 7 := ⟨_, _, _, _, cf0, by decide, g190⟩
theorem foX0_37 : FO RX0 37 0 8 := ⟨_, _, _, _, cf0, by decide, g192⟩
theorem fpX0_37 : FP9 RX0 37 0 8 (.int) := ⟨_, _, _, _, cf0, by decide, g192, rfl, by decide +kernel⟩
theorem foX0_41 : FO RX0 41 0 9 := ⟨_, _, _, _, cf0, by decide, g194⟩
theorem fpX0_41 : FP9 RX0 41 0 9 (.int) := ⟨_, _, _, _, cf0, by decide, g194, rfl, by decide +kernel⟩
theorem foX0_44 : FO RX0 44 0 10 := ⟨_, _, _, _, cf0, by decide, g196⟩
theorem fpX0_44 : FP9 RX0 44 0 10 (.int) := ⟨_, _, _, _, cf0, by decide, g196, rfl, by decide +kernel⟩
theorem foX0_47 : FO RX0 47 0 11 := ⟨_, _, _, _, cf0, by decide, g199⟩
theorem fpX0_47 : FP9 RX0 47 0 11 (.int) := ⟨_, _, _, _, cf0, by decide, g199, rfl, by decide +kernel⟩
theorem foX0_62 : FO RX0 62 0 12 := ⟨_, _, _, _, cf0, by decide, g202⟩
theorem fpX0_62 : FP9 RX0 62 0 12 (.int) := ⟨_, _, _, _, cf0, by decide, g202, rfl, by decide +kernel⟩
theorem foX0_65 : FO RX0 65 0 13 := ⟨_, _, _, _, cf0, by decide, g204⟩
theorem fpX0_65 : FP9 RX0 65 0 13 (.int) := ⟨_, _, _, _, cf0, by decide, g204, rfl, by decide +kernel⟩
theorem foX0_68 : FO RX0 68 0 14 := ⟨_, _, _, _, cf0, by decide, g206⟩
theorem fpX0_68 : FP9 RX0 68 0 14 (.int) := ⟨_, _, _, _, cf0, by decide, g206, rfl, by decide +kernel⟩
theorem foX0_71 : FO RX0 71 0 15 := ⟨_, _, _, _, cf0, by decide, g208⟩
theorem fpX0_71 : FP9 RX0 71 0 15 (.int) := ⟨_, _, _, _, cf0, by decide, g208, rfl, by decide +kernel⟩
theorem foX0_74 : FO RX0 74 0 16 := ⟨_, _, _, _, cf0, by decide, g210⟩
theorem fpX0_74 : FP9 RX0 74 0 16 (.int) := ⟨_, _, _, _, cf0, by decide, g210, rfl, by decide +kernel⟩
theorem foX0_77 : FO RX0 77 0 17 := ⟨_, _, _, _, cf0, by decide, g212⟩
theorem fpX0_77 : FP9 RX0 77 0 17 (.int) := ⟨_, _, _, _, cf0, by decide, g212, rfl, by decide +kernel⟩
theorem foX0_80 : FO RX0 80 0 18 := ⟨_, _, _, _, cf0, by decide, g214⟩
theorem fpX0_80 : FP9 RX0 80 0 18 (.int) := ⟨_, _, _, _, cf0, by decide, g214, rfl, by decide +kernel⟩
theorem foX0_141 : FO RX0 141 2 0 := ⟨_, _, _, _, cf2, by decide, g130⟩
theorem foX0_144 : FO RX0 144 2 2 := ⟨_, _, _, _, cf2, by decide, g133⟩
theorem fpX0_144 : FP9 RX0 144 2 2 (.int) := ⟨_, _, _, _, cf2, by decide, g133, rfl, by decide +kernel⟩
theorem foX0_147 : FO RX0 147 2 3 := ⟨_, _, _, _, cf2, by decide, g135⟩
theorem fpX0_147 : FP9 RX0 147 2 3 (.int) := ⟨_, _, _, _, cf2, by decide, g135, rfl, by decide +kernel⟩
theorem foX0_150 : FO RX0 150 2 6 := ⟨_, _, _, _, cf2, by decide, g140⟩
theorem fpX0_150 : FP9 RX0 150 2 6 (.int) := ⟨_, _, _, _, cf2, by decide, g140, rfl, by decide +kernel⟩
theorem foX0_153 : FO RX0 153 2 7 := ⟨_, _, _, _, cf2, by decide, g142⟩
theorem fpX0_153 : FP9 RX0 153 2 7 (.int) := ⟨_, _, _, _, cf2, by decide, g142, rfl, by decide +kernel⟩
theorem foX1_9 : FO RX1 9 1 0 := ⟨_, _, _, _, cf1, by decide, g91⟩
theorem foX1_15 : FO RX1 15 1 2 := ⟨_, _, _, _, cf1, by decide, g95⟩
theorem fpX1_15 : FP9 RX1 15 1 2 (.int) := ⟨_, _, _, _, cf1, by decide, g95, rfl, by decide +kernel⟩
theorem foX1_19 : FO RX1 19 1 3 := ⟨_, _, _, _, cf1, by decide, g97⟩
theorem fpX1_19 : FP9 RX1 19 1 3 (.int) := ⟨_, _, _, _, cf1, by decide, g97, rfl, by decide +kernel⟩
theorem foX1_22 : FO RX1 22 1 4 := ⟨_, _, _, _, cf1, by decide, g98⟩
theorem fpX1_22 : FP9 RX1 22 1 4 (.int) := ⟨_, _, _, _, cf1, by decide, g98, rfl, by decide +kernel⟩
theorem foX1_25 : FO RX1 25 1 5 := ⟨_, _, _, _, cf1, by decide, g100⟩
theorem fpX1_25 : FP9 RX1 25 1 5 (.int) := ⟨_, _, _, _, cf1, by decide, g100, rfl, by decide +kernel⟩
theorem foX1_28 : FO RX1 28 1 6 := ⟨_, _, _, _, cf1, by decide, g102⟩
theorem fpX1_28 : FP9 RX1 28 1 6 (.int) := ⟨_, _, _, _, cf1, by decide, g102, rfl, by decide +kernel⟩
theorem foX1_31 : FO RX1 31 1 7 := ⟨_, _, _, _, cf1, by decide, g104⟩
theorem fpX1_31 : FP9 RX1 31 1 7 (.int) := ⟨_, _, _, _, cf1, by decide, g104, rfl, by decide +kernel⟩
theorem foX1_37 : FO RX1 37 1 1 := ⟨_, _, _, _, cf1, by decide, g93⟩
theorem fpX1_37 : FP9 RX1 37 1 1 (.int) := ⟨_, _, _, _, cf1, by decide, g93, rfl, by decide +kernel⟩
theorem foX2_9 : FO RX2 9 2 0 := ⟨_, _, _, _, cf2, by decide, g129⟩
theorem foX2_15 : FO RX2 15 2 1 := ⟨_, _, _, _, cf2, by decide, g131⟩
theorem foX2_18 : FO RX2 18 0 4 := ⟨_, _, _, _, cf0, by decide, g183⟩
theorem foX2_23 : FO RX2 23 2 2 := ⟨_, _, _, _, cf2, by decide, g132⟩
theorem fpX2_23 : FP9 RX2 23 2 2 (.int) := ⟨_, _, _, _, cf2, by decide, g132, rfl, by decide +kernel⟩
theorem foX2_27 : FO RX2 27 0 5 := ⟨_, _, _, _, cf0, by decide, g186⟩
theorem foX2_30 : FO RX2 30 2 3 := ⟨_, _, _, _, cf2, by decide, g134⟩
theorem fpX2_30 : FP9 RX2 30 2 3 (.int) := ⟨_, _, _, _, cf2, by decide, g134, rfl, by decide +kernel⟩
theorem foX2_33 : FO RX2 33 2 5 := ⟨_, _, _, _, cf2, by decide, g137⟩
theorem fpX2_33 : FP9 RX2 33 2 5 (.int) := ⟨_, _, _, _, cf2, by decide, g137, rfl, by decide +kernel⟩
theorem foX2_36 : FO RX2 36 2 6 := ⟨_, _, _, _, cf2, by decide, g139⟩
theorem fpX2_36 : FP9 RX2 36 2 6 (.int) := ⟨_, _, _, _, cf2, by decide, g139, rfl, by decide +kernel⟩
theorem foX2_39 : FO RX2 39 2 7 := ⟨_, _, _, _, cf2, by decide, g141⟩
theorem fpX2_39 : FP9 RX2 39 2 7 (.int) := ⟨_, _, _, _, cf2, by decide, g141, rfl, by decide +kernel⟩
theorem foX2_57 : FO RX2 57 2 4 := ⟨_, _, _, _, cf2, by decide, g136⟩
theorem fpX2_57 : FP9 RX2 57 2 4 (.int) := ⟨_, _, _, _, cf2, by decide, g136, rfl, by decide +kernel⟩
theorem foX2_60 : FO RX2 60 0 3 := ⟨_, _, _, _, cf0, by decide, g180⟩
theorem foX2_73 : FO RX2 73 0 11 := ⟨_, _, _, _, cf0, by decide, g200⟩
theorem fpX2_73 : FP9 RX2 73 0 11 (.int) := ⟨_, _, _, _, cf0, by decide, g200, rfl, by decide +kernel⟩
theorem foX2_76 : FO RX2 76 0 1 := ⟨_, _, _, _, cf0, by decide, g175⟩
theorem foX2_79 : FO RX2 79 0 0 := ⟨_, _, _, _, cf0, by decide, g172⟩
theorem foX2_90 : FO RX2 90 0 10 := ⟨_, _, _, _, cf0, by decide, g197⟩
theorem fpX2_90 : FP9 RX2 90 0 10 (.int) := ⟨_, _, _, _, cf0, by decide, g197, rfl, by decide +kernel⟩
theorem foX4_7 : FO RX4 7 4 0 := ⟨_, _, _, _, cf4, by decide, g1117⟩
theorem foX4_13 : FO RX4 13 4 1 := ⟨_, _, _, _, cf4, by decide, g1118⟩
theorem foX4_16 : FO RX4 16 4 3 := ⟨_, _, _, _, cf4, by decide, g1120⟩
theorem foX4_19 : FO RX4 19 4 4 := ⟨_, _, _, _, cf4, by decide, g1121⟩
theorem foX4_23 : FO RX4 23 4 5 := ⟨_, _, _, _, cf4, by decide, g1122⟩
theorem foX4_26 : FO RX4 26 4 6 := ⟨_, _, _, _, cf4, by decide, g1123⟩
theorem foX4_29 : FO RX4 29 4 8 := ⟨_, _, _, _, cf4, by decide, g1125⟩
theorem fpX4_29 : FP9 RX4 29 4 8 (.int) := ⟨_, _, _, _, cf4, by decide, g1125, rfl, by decide +kernel⟩
theorem foX4_37 : FO RX4 37 4 2 := ⟨_, _, _, _, cf4, by decide, g1119⟩
theorem fpX4_37 : FP9 RX4 37 4 2 (.int) := ⟨_, _, _, _, cf4, by decide, g1119, rfl, by decide +kernel⟩
theorem foX4_137 : FO RX4 137 4 7 := ⟨_, _, _, _, cf4, by decide, g1124⟩
theorem fpX4_137 : FP9 RX4 137 4 7 (.int) := ⟨_, _, _, _, cf4, by decide, g1124, rfl, by decide +kernel⟩
theorem foX4_140 : FO RX4 140 4 9 := ⟨_, _, _, _, cf4, by decide, g1126⟩
theorem fpX4_140 : FP9 RX4 140 4 9 (.int) := ⟨_, _, _, _, cf4, by decide, g1126, rfl, by decide +kernel⟩
theorem foX4_143 : FO RX4 143 4 10 := ⟨_, _, _, _, cf4, by decide, g1127⟩
theorem fpX4_143 : FP9 RX4 143 4 10 (.boolean) := ⟨_, _, _, _, cf4, by decide, g1127, rfl, by decide +kernel⟩
theorem foX4_223 : FO RX4 223 4 11 := ⟨_, _, _, _, cf4, by decide, g1128⟩
theorem fpX4_223 : FP9 RX4 223 4 11 (.long) := ⟨_, _, _, _, cf4, by decide, g1128, rfl, by decide +kernel⟩
