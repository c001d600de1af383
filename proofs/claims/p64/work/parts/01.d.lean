theorem g261 : Cond.methodLink "java/lang/Throwable" 27 ⟨"java/lang/Throwable", "fillInStackTrace", "()Ljava/lang/Throwable;"⟩ ∈ Gw := Gw_of 261 (by decide +kernel) (by decide +kernel)
theorem g262 : Cond.instanceMethod ⟨"java/lang/Throwable", "fillInStackTrace", "()Ljava/lang/Throwable;"⟩ ∈ Gw := Gw_of 262 (by decide +kernel) (by decide +kernel)
theorem g264 : Cond.selects "java/lang/IllegalArgumentException" ⟨"java/lang/Throwable", "fillInStackTrace", "()Ljava/lang/Throwable;"⟩ ⟨"java/lang/Throwable", "fillInStackTrace", "()Ljava/lang/Throwable;"⟩ ∈ Gw := Gw_of 264 (by decide +kernel) (by decide +kernel)
theorem g265 : Cond.selects "java/lang/IllegalStateException" ⟨"java/lang/Throwable", "fillInStackTrace", "()Ljava/lang/Throwable;"⟩ ⟨"java/lang/Throwable", "fillInStackTrace", "()Ljava/lang/Throwable;"⟩ ∈ Gw := Gw_of 265 (by decide +kernel) (by decide +kernel)
theorem g267 : Cond.methodLink "java/lang/Throwable" 202 ⟨"java/lang/Throwable", "fillInStackTrace", "(I)Ljava/lang/Throwable;"⟩ ∈ Gw := Gw_of 267 (by decide +kernel) (by decide +kernel)
theorem g269 : Cond.instanceMethod ⟨"java/lang/Throwable", "fillInStackTrace", "(I)Ljava/lang/Throwable;"⟩ ∈ Gw := Gw_of 269 (by decide +kernel) (by decide +kernel)
theorem g270 : Cond.instantiable "java/lang/Throwable" 6 ∈ Gw := Gw_of 270 (by decide +kernel) (by decide +kernel)
theorem g271 : Cond.native ⟨"java/lang/Throwable", "fillInStackTrace", "(I)Ljava/lang/Throwable;"⟩ ∈ Gw := Gw_of 271 (by decide +kernel) (by decide +kernel)
theorem g272 : Cond.methodLink "PledgeHouse" 324 ⟨"java/lang/IndexOutOfBoundsException", "<init>", "()V"⟩ ∈ Gw := Gw_of 272 (by decide +kernel) (by decide +kernel)
theorem g273 : Cond.instanceMethod ⟨"java/lang/IndexOutOfBoundsException", "<init>", "()V"⟩ ∈ Gw := Gw_of 273 (by decide +kernel) (by decide +kernel)
theorem g274 : Cond.code ⟨"java/lang/IndexOutOfBoundsException", "<init>", "()V"⟩ prog_10_method_1_code 1 (Option.none : Option Jvm.ClassFile.FieldType) ∈ Gw := Gw_of 274 rfl rfl
theorem g275 : Cond.methodLink "java/lang/IndexOutOfBoundsException" 1 ⟨"java/lang/RuntimeException", "<init>", "()V"⟩ ∈ Gw := Gw_of 275 (by decide +kernel) (by decide +kernel)
theorem g276 : Cond.instanceMethod ⟨"java/lang/RuntimeException", "<init>", "()V"⟩ ∈ Gw := Gw_of 276 (by decide +kernel) (by decide +kernel)
theorem g277 : Cond.code ⟨"java/lang/RuntimeException", "<init>", "()V"⟩ prog_11_method_1_code 1 (Option.none : Option Jvm.ClassFile.FieldType) ∈ Gw := Gw_of 277 rfl rfl
theorem g278 : Cond.methodLink "java/lang/RuntimeException" 1 ⟨"java/lang/Exception", "<init>", "()V"⟩ ∈ Gw := Gw_of 278 (by decide +kernel) (by decide +kernel)
theorem g279 : Cond.instanceMethod ⟨"java/lang/Exception", "<init>", "()V"⟩ ∈ Gw := Gw_of 279 (by decide +kernel) (by decide +kernel)
theorem g280 : Cond.code ⟨"java/lang/Exception", "<init>", "()V"⟩ prog_7_method_1_code 1 (Option.none : Option Jvm.ClassFile.FieldType) ∈ Gw := Gw_of 280 rfl rfl
theorem g281 : Cond.methodLink "java/lang/Exception" 1 ⟨"java/lang/Throwable", "<init>", "()V"⟩ ∈ Gw := Gw_of 281 (by decide +kernel) (by decide +kernel)
theorem g282 : Cond.fieldLink "java/lang/Throwable" 198 "java/lang/Throwable" "backtrace" "Ljava/lang/Object;" ∈ Gw := Gw_of 282 (by decide +kernel) (by decide +kernel)
theorem g283 : Cond.fieldLink "java/lang/Throwable" 7 "java/lang/Throwable" "cause" "Ljava/lang/Throwable;" ∈ Gw := Gw_of 283 (by decide +kernel) (by decide +kernel)
theorem g284 : Cond.fieldLink "java/lang/Throwable" 17 "java/lang/Throwable" "stackTrace" "[Ljava/lang/StackTraceElement;" ∈ Gw := Gw_of 284 (by decide +kernel) (by decide +kernel)
theorem g285 : Cond.fieldLink "java/lang/Throwable" 24 "java/lang/Throwable" "suppressedExceptions" "Ljava/util/List;" ∈ Gw := Gw_of 285 (by decide +kernel) (by decide +kernel)
theorem g294 : Cond.methodLink "PledgeHouse" 52 yX3_needRange ∈ Gw := Gw_of 294 (by decide +kernel) (by decide +kernel)
theorem g295 : Cond.static yX3_needRange ∈ Gw := Gw_of 295 (by decide +kernel) (by decide +kernel)
theorem g296 : Cond.code yX3_needRange prog_1_method_79_code 3 (Option.none : Option Jvm.ClassFile.FieldType) ∈ Gw := Gw_of 296 rfl rfl
theorem g297 : Cond.classLink "PledgeHouse" 154 "java/lang/IllegalArgumentException" ∈ Gw := Gw_of 297 (by decide +kernel) (by decide +kernel)
theorem g298 : Cond.instantiable "java/lang/IllegalArgumentException" 6 ∈ Gw := Gw_of 298 (by decide +kernel) (by decide +kernel)
theorem g300 : Cond.selects "java/lang/IllegalArgumentException" ⟨"java/lang/Throwable", "fillInStackTrace", "(I)Ljava/lang/Throwable;"⟩ ⟨"java/lang/Throwable", "fillInStackTrace", "(I)Ljava/lang/Throwable;"⟩ ∈ Gw := Gw_of 300 (by decide +kernel) (by decide +kernel)
theorem g306 : Cond.methodLink "PledgeHouse" 156 ⟨"java/lang/IllegalArgumentException", "<init>", "()V"⟩ ∈ Gw := Gw_of 306 (by decide +kernel) (by decide +kernel)
theorem g307 : Cond.instanceMethod ⟨"java/lang/IllegalArgumentException", "<init>", "()V"⟩ ∈ Gw := Gw_of 307 (by decide +kernel) (by decide +kernel)
set_option maxRecDepth 100000 in
theorem g308 : Cond.code ⟨"java/lang/IllegalArgumentException", "<init>", "()V"⟩ prog_8_method_1_code 1 (Option.none : Option Jvm.ClassFile.FieldType) ∈ Gw := Gw_of 308 rfl rfl
theorem g309 : Cond.methodLink "java/lang/IllegalArgumentException" 1 ⟨"java/lang/RuntimeException", "<init>", "()V"⟩ ∈ Gw := Gw_of 309 (by decide +kernel) (by decide +kernel)
theorem g312 : Cond.methodLink "PledgeHouse" 56 yX3_save ∈ Gw := Gw_of 312 (by decide +kernel) (by decide +kernel)
theorem g314 : Cond.instanceMethod yX3_save ∈ Gw := Gw_of 314 (by decide +kernel) (by decide +kernel)
set_option maxRecDepth 100000 in
theorem g315 : Cond.code yX3_save prog_1_method_72_code 1 (Option.none : Option Jvm.ClassFile.FieldType) ∈ Gw := Gw_of 315 rfl rfl
theorem g316 : Cond.methodLink "PledgeHouse" 73 yX0_copyFrom ∈ Gw := Gw_of 316 (by decide +kernel) (by decide +kernel)
theorem g317 : Cond.instanceMethod yX0_copyFrom ∈ Gw := Gw_of 317 (by decide +kernel) (by decide +kernel)
theorem g318 : Cond.selects "PledgeHouse$Ledger" yX0_copyFrom yX0_copyFrom ∈ Gw := Gw_of 318 (by decide +kernel) (by decide +kernel)
set_option maxRecDepth 100000 in
theorem g319 : Cond.code yX0_copyFrom prog_2_method_2_code 2 (Option.none : Option Jvm.ClassFile.FieldType) ∈ Gw := Gw_of 319 rfl rfl
theorem g320 : Cond.methodLink "PledgeHouse$Ledger" 56 ⟨"java/lang/System", "arraycopy", "(Ljava/lang/Object;ILjava/lang/Object;II)V"⟩ ∈ Gw := Gw_of 320 (by decide +kernel) (by decide +kernel)
theorem g321 : Cond.static ⟨"java/lang/System", "arraycopy", "(Ljava/lang/Object;ILjava/lang/Object;II)V"⟩ ∈ Gw := Gw_of 321 (by decide +kernel) (by decide +kernel)
theorem g322 : Cond.native ⟨"java/lang/System", "arraycopy", "(Ljava/lang/Object;ILjava/lang/Object;II)V"⟩ ∈ Gw := Gw_of 322 (by decide +kernel) (by decide +kernel)
theorem g323 : Cond.methodLink "PledgeHouse" 85 yX3_saveBefore ∈ Gw := Gw_of 323 (by decide +kernel) (by decide +kernel)
theorem g325 : Cond.instanceMethod yX3_saveBefore ∈ Gw := Gw_of 325 (by decide +kernel) (by decide +kernel)
set_option maxRecDepth 100000 in
theorem g326 : Cond.code yX3_saveBefore prog_1_method_73_code 3 (Option.none : Option Jvm.ClassFile.FieldType) ∈ Gw := Gw_of 326 rfl rfl
theorem g327 : Cond.methodLink "PledgeHouse" 59 yX0_putPrice ∈ Gw := Gw_of 327 (by decide +kernel) (by decide +kernel)
theorem g328 : Cond.instanceMethod yX0_putPrice ∈ Gw := Gw_of 328 (by decide +kernel) (by decide +kernel)
theorem g329 : Cond.selects "PledgeHouse$Ledger" yX0_putPrice yX0_putPrice ∈ Gw := Gw_of 329 (by decide +kernel) (by decide +kernel)
set_option maxRecDepth 100000 in
theorem g330 : Cond.code yX0_putPrice prog_2_method_23_code 3 (Option.some Jvm.ClassFile.FieldType.int) ∈ Gw := Gw_of 330 rfl rfl
theorem g331 : Cond.methodLink "PledgeHouse$Ledger" 116 yX0_lookAtClients ∈ Gw := Gw_of 331 (by decide +kernel) (by decide +kernel)
theorem g332 : Cond.instanceMethod yX0_lookAtClients ∈ Gw := Gw_of 332 (by decide +kernel) (by decide +kernel)
theorem g333 : Cond.selects "PledgeHouse$Ledger" yX0_lookAtClients yX0_lookAtClients ∈ Gw := Gw_of 333 (by decide +kernel) (by decide +kernel)
set_option maxRecDepth 100000 in
theorem g334 : Cond.code yX0_lookAtClients prog_2_method_22_code 3 (Option.some Jvm.ClassFile.FieldType.int) ∈ Gw := Gw_of 334 rfl rfl
theorem g335 : Cond.methodLink "PledgeHouse$Ledger" 94 yX0_cover ∈ Gw := Gw_of 335 (by decide +kernel) (by decide +kernel)
theorem g336 : Cond.instanceMethod yX0_cover ∈ Gw := Gw_of 336 (by decide +kernel) (by decide +kernel)
theorem g337 : Cond.selects "PledgeHouse$Ledger" yX0_cover yX0_cover ∈ Gw := Gw_of 337 (by decide +kernel) (by decide +kernel)
set_option maxRecDepth 100000 in
theorem g338 : Cond.code yX0_cover prog_2_method_4_code 2 (Option.some Jvm.ClassFile.FieldType.int) ∈ Gw := Gw_of 338 rfl rfl
theorem g339 : Cond.methodLink "PledgeHouse$Ledger" 87 yX0_coverAfterFall ∈ Gw := Gw_of 339 (by decide +kernel) (by decide +kernel)
theorem g340 : Cond.instanceMethod yX0_coverAfterFall ∈ Gw := Gw_of 340 (by decide +kernel) (by decide +kernel)
theorem g341 : Cond.selects "PledgeHouse$Ledger" yX0_coverAfterFall yX0_coverAfterFall ∈ Gw := Gw_of 341 (by decide +kernel) (by decide +kernel)
set_option maxRecDepth 100000 in
theorem g342 : Cond.code yX0_coverAfterFall prog_2_method_5_code 6 (Option.some Jvm.ClassFile.FieldType.int) ∈ Gw := Gw_of 342 rfl rfl
theorem g344 : Cond.static yX3_at ∈ Gw := Gw_of 344 (by decide +kernel) (by decide +kernel)
set_option maxRecDepth 100000 in
theorem g345 : Cond.code yX3_at prog_1_method_74_code 2 (Option.some Jvm.ClassFile.FieldType.int) ∈ Gw := Gw_of 345 rfl rfl
theorem g347 : Cond.static yX3_fallen ∈ Gw := Gw_of 347 (by decide +kernel) (by decide +kernel)
set_option maxRecDepth 100000 in
theorem g348 : Cond.code yX3_fallen prog_1_method_75_code 4 (Option.some Jvm.ClassFile.FieldType.int) ∈ Gw := Gw_of 348 rfl rfl
theorem g349 : Cond.methodLink "PledgeHouseLaw" 23 yX3_priceOf ∈ Gw := Gw_of 349 (by decide +kernel) (by decide +kernel)
theorem g350 : Cond.instanceMethod yX3_priceOf ∈ Gw := Gw_of 350 (by decide +kernel) (by decide +kernel)
theorem g351 : Cond.selects "PledgeHouse" yX3_priceOf yX3_priceOf ∈ Gw := Gw_of 351 (by decide +kernel) (by decide +kernel)
set_option maxRecDepth 100000 in
theorem g352 : Cond.code yX3_priceOf prog_1_method_25_code 2 (Option.some Jvm.ClassFile.FieldType.int) ∈ Gw := Gw_of 352 rfl rfl
theorem g353 : Cond.methodLink "PledgeHouseLaw" 27 yX3_setCut ∈ Gw := Gw_of 353 (by decide +kernel) (by decide +kernel)
theorem g354 : Cond.instanceMethod yX3_setCut ∈ Gw := Gw_of 354 (by decide +kernel) (by decide +kernel)
theorem g355 : Cond.selects "PledgeHouse" yX3_setCut yX3_setCut ∈ Gw := Gw_of 355 (by decide +kernel) (by decide +kernel)
set_option maxRecDepth 100000 in
theorem g356 : Cond.code yX3_setCut prog_1_method_3_code 3 (Option.some Jvm.ClassFile.FieldType.int) ∈ Gw := Gw_of 356 rfl rfl
theorem g357 : Cond.methodLink "PledgeHouse" 63 yX0_putCut ∈ Gw := Gw_of 357 (by decide +kernel) (by decide +kernel)
theorem g358 : Cond.instanceMethod yX0_putCut ∈ Gw := Gw_of 358 (by decide +kernel) (by decide +kernel)
theorem g359 : Cond.selects "PledgeHouse$Ledger" yX0_putCut yX0_putCut ∈ Gw := Gw_of 359 (by decide +kernel) (by decide +kernel)
set_option maxRecDepth 100000 in
theorem g360 : Cond.code yX0_putCut prog_2_method_24_code 3 (Option.some Jvm.ClassFile.FieldType.int) ∈ Gw := Gw_of 360 rfl rfl
theorem g361 : Cond.methodLink "PledgeHouseLaw" 30 yX3_cutOf ∈ Gw := Gw_of 361 (by decide +kernel) (by decide +kernel)
theorem g362 : Cond.instanceMethod yX3_cutOf ∈ Gw := Gw_of 362 (by decide +kernel) (by decide +kernel)
theorem g363 : Cond.selects "PledgeHouse" yX3_cutOf yX3_cutOf ∈ Gw := Gw_of 363 (by decide +kernel) (by decide +kernel)
set_option maxRecDepth 100000 in
theorem g364 : Cond.code yX3_cutOf prog_1_method_26_code 2 (Option.some Jvm.ClassFile.FieldType.int) ∈ Gw := Gw_of 364 rfl rfl
theorem g365 : Cond.methodLink "PledgeHouseLaw" 33 yX3_calledIfFallen ∈ Gw := Gw_of 365 (by decide +kernel) (by decide +kernel)
theorem g366 : Cond.instanceMethod yX3_calledIfFallen ∈ Gw := Gw_of 366 (by decide +kernel) (by decide +kernel)
theorem g367 : Cond.selects "PledgeHouse" yX3_calledIfFallen yX3_calledIfFallen ∈ Gw := Gw_of 367 (by decide +kernel) (by decide +kernel)
set_option maxRecDepth 100000 in
theorem g368 : Cond.code yX3_calledIfFallen prog_1_method_51_code 2 (Option.some Jvm.ClassFile.FieldType.int) ∈ Gw := Gw_of 368 rfl rfl
theorem g369 : Cond.methodLink "PledgeHouse" 234 yX0_countUncoveredAfterFall ∈ Gw := Gw_of 369 (by decide +kernel) (by decide +kernel)
theorem g370 : Cond.instanceMethod yX0_countUncoveredAfterFall ∈ Gw := Gw_of 370 (by decide +kernel) (by decide +kernel)
theorem g371 : Cond.selects "PledgeHouse$Ledger" yX0_countUncoveredAfterFall yX0_countUncoveredAfterFall ∈ Gw := Gw_of 371 (by decide +kernel) (by decide +kernel)
set_option maxRecDepth 100000 in
theorem g372 : Cond.code yX0_countUncoveredAfterFall prog_2_method_13_code 4 (Option.some Jvm.ClassFile.FieldType.int) ∈ Gw := Gw_of 372 rfl rfl
theorem g373 : Cond.methodLink "PledgeHouse$Ledger" 102 yX0_staysCovered ∈ Gw := Gw_of 373 (by decide +kernel) (by decide +kernel)
theorem g374 : Cond.instanceMethod yX0_staysCovered ∈ Gw := Gw_of 374 (by decide +kernel) (by decide +kernel)
theorem g375 : Cond.selects "PledgeHouse$Ledger" yX0_staysCovered yX0_staysCovered ∈ Gw := Gw_of 375 (by decide +kernel) (by decide +kernel)
set_option maxRecDepth 100000 in
theorem g376 : Cond.code yX0_staysCovered prog_2_method_6_code 4 (Option.some Jvm.ClassFile.FieldType.boolean) ∈ Gw := Gw_of 376 rfl rfl
theorem g377 : Cond.methodLink "PledgeHouseLaw" 36 yX3_fall ∈ Gw := Gw_of 377 (by decide +kernel) (by decide +kernel)
theorem g378 : Cond.instanceMethod yX3_fall ∈ Gw := Gw_of 378 (by decide +kernel) (by decide +kernel)
theorem g379 : Cond.selects "PledgeHouse" yX3_fall yX3_fall ∈ Gw := Gw_of 379 (by decide +kernel) (by decide +kernel)
set_option maxRecDepth 100000 in
theorem g380 : Cond.code yX3_fall prog_1_method_4_code 2 (Option.some Jvm.ClassFile.FieldType.int) ∈ Gw := Gw_of 380 rfl rfl
theorem g381 : Cond.methodLink "PledgeHouse" 66 yX0_dropPrices ∈ Gw := Gw_of 381 (by decide +kernel) (by decide +kernel)
theorem g382 : Cond.instanceMethod yX0_dropPrices ∈ Gw := Gw_of 382 (by decide +kernel) (by decide +kernel)
theorem g383 : Cond.selects "PledgeHouse$Ledger" yX0_dropPrices yX0_dropPrices ∈ Gw := Gw_of 383 (by decide +kernel) (by decide +kernel)
set_option maxRecDepth 100000 in
theorem g384 : Cond.code yX0_dropPrices prog_2_method_25_code 3 (Option.some Jvm.ClassFile.FieldType.int) ∈ Gw := Gw_of 384 rfl rfl
theorem g385 : Cond.methodLink "PledgeHouseLaw" 39 yX3_calledNow ∈ Gw := Gw_of 385 (by decide +kernel) (by decide +kernel)
theorem g386 : Cond.instanceMethod yX3_calledNow ∈ Gw := Gw_of 386 (by decide +kernel) (by decide +kernel)
theorem g387 : Cond.selects "PledgeHouse" yX3_calledNow yX3_calledNow ∈ Gw := Gw_of 387 (by decide +kernel) (by decide +kernel)
set_option maxRecDepth 100000 in
theorem g388 : Cond.code yX3_calledNow prog_1_method_41_code 1 (Option.some Jvm.ClassFile.FieldType.int) ∈ Gw := Gw_of 388 rfl rfl
theorem g389 : Cond.methodLink "PledgeHouse" 169 yX0_countCalled ∈ Gw := Gw_of 389 (by decide +kernel) (by decide +kernel)
theorem g390 : Cond.instanceMethod yX0_countCalled ∈ Gw := Gw_of 390 (by decide +kernel) (by decide +kernel)
theorem g391 : Cond.selects "PledgeHouse$Ledger" yX0_countCalled yX0_countCalled ∈ Gw := Gw_of 391 (by decide +kernel) (by decide +kernel)
set_option maxRecDepth 100000 in
theorem g392 : Cond.code yX0_countCalled prog_2_method_12_code 3 (Option.some Jvm.ClassFile.FieldType.int) ∈ Gw := Gw_of 392 rfl rfl
theorem g393 : Cond.methodLink "PledgeHouseLaw" 42 yX3_piecesOf ∈ Gw := Gw_of 393 (by decide +kernel) (by decide +kernel)
theorem g394 : Cond.instanceMethod yX3_piecesOf ∈ Gw := Gw_of 394 (by decide +kernel) (by decide +kernel)
theorem g395 : Cond.selects "PledgeHouse" yX3_piecesOf yX3_piecesOf ∈ Gw := Gw_of 395 (by decide +kernel) (by decide +kernel)
set_option maxRecDepth 100000 in
theorem g396 : Cond.code yX3_piecesOf prog_1_method_29_code 3 (Option.some Jvm.ClassFile.FieldType.int) ∈ Gw := Gw_of 396 rfl rfl
theorem g397 : Cond.methodLink "PledgeHouse" 70 yX3_needClient ∈ Gw := Gw_of 397 (by decide +kernel) (by decide +kernel)
theorem g398 : Cond.static yX3_needClient ∈ Gw := Gw_of 398 (by decide +kernel) (by decide +kernel)
set_option maxRecDepth 100000 in
theorem g399 : Cond.code yX3_needClient prog_1_method_77_code 1 (Option.none : Option Jvm.ClassFile.FieldType) ∈ Gw := Gw_of 399 rfl rfl
theorem g400 : Cond.methodLink "PledgeHouse" 91 yX3_at ∈ Gw := Gw_of 400 (by decide +kernel) (by decide +kernel)
theorem g401 : Cond.methodLink "PledgeHouseLaw" 45 yX3_coverOf ∈ Gw := Gw_of 401 (by decide +kernel) (by decide +kernel)
theorem g402 : Cond.instanceMethod yX3_coverOf ∈ Gw := Gw_of 402 (by decide +kernel) (by decide +kernel)
theorem g403 : Cond.selects "PledgeHouse" yX3_coverOf yX3_coverOf ∈ Gw := Gw_of 403 (by decide +kernel) (by decide +kernel)
set_option maxRecDepth 100000 in
theorem g404 : Cond.code yX3_coverOf prog_1_method_33_code 2 (Option.some Jvm.ClassFile.FieldType.int) ∈ Gw := Gw_of 404 rfl rfl
theorem g405 : Cond.methodLink "PledgeHouse" 190 yX0_cover ∈ Gw := Gw_of 405 (by decide +kernel) (by decide +kernel)
theorem g406 : Cond.methodLink "PledgeHouseLaw" 48 yX3_pledge ∈ Gw := Gw_of 406 (by decide +kernel) (by decide +kernel)
theorem g407 : Cond.instanceMethod yX3_pledge ∈ Gw := Gw_of 407 (by decide +kernel) (by decide +kernel)
theorem g408 : Cond.selects "PledgeHouse" yX3_pledge yX3_pledge ∈ Gw := Gw_of 408 (by decide +kernel) (by decide +kernel)
set_option maxRecDepth 100000 in
theorem g409 : Cond.code yX3_pledge prog_1_method_5_code 4 (Option.some Jvm.ClassFile.FieldType.int) ∈ Gw := Gw_of 409 rfl rfl
theorem g410 : Cond.methodLink "PledgeHouse" 77 yX0_addPieces ∈ Gw := Gw_of 410 (by decide +kernel) (by decide +kernel)
theorem g411 : Cond.instanceMethod yX0_addPieces ∈ Gw := Gw_of 411 (by decide +kernel) (by decide +kernel)
theorem g412 : Cond.selects "PledgeHouse$Ledger" yX0_addPieces yX0_addPieces ∈ Gw := Gw_of 412 (by decide +kernel) (by decide +kernel)
set_option maxRecDepth 100000 in
theorem g413 : Cond.code yX0_addPieces prog_2_method_26_code 5 (Option.some Jvm.ClassFile.FieldType.boolean) ∈ Gw := Gw_of 413 rfl rfl
theorem g414 : Cond.methodLink "PledgeHouse" 81 yX3_need ∈ Gw := Gw_of 414 (by decide +kernel) (by decide +kernel)
theorem g415 : Cond.static yX3_need ∈ Gw := Gw_of 415 (by decide +kernel) (by decide +kernel)
set_option maxRecDepth 100000 in
theorem g416 : Cond.code yX3_need prog_1_method_80_code 1 (Option.none : Option Jvm.ClassFile.FieldType) ∈ Gw := Gw_of 416 rfl rfl
theorem g417 : Cond.classLink "PledgeHouse" 140 "java/lang/IllegalStateException" ∈ Gw := Gw_of 417 (by decide +kernel) (by decide +kernel)
theorem g418 : Cond.instantiable "java/lang/IllegalStateException" 6 ∈ Gw := Gw_of 418 (by decide +kernel) (by decide +kernel)
theorem g420 : Cond.selects "java/lang/IllegalStateException" ⟨"java/lang/Throwable", "fillInStackTrace", "(I)Ljava/lang/Throwable;"⟩ ⟨"java/lang/Throwable", "fillInStackTrace", "(I)Ljava/lang/Throwable;"⟩ ∈ Gw := Gw_of 420 (by decide +kernel) (by decide +kernel)
theorem g426 : Cond.methodLink "PledgeHouse" 142 ⟨"java/lang/IllegalStateException", "<init>", "()V"⟩ ∈ Gw := Gw_of 426 (by decide +kernel) (by decide +kernel)
theorem g427 : Cond.instanceMethod ⟨"java/lang/IllegalStateException", "<init>", "()V"⟩ ∈ Gw := Gw_of 427 (by decide +kernel) (by decide +kernel)
set_option maxRecDepth 100000 in
theorem g428 : Cond.code ⟨"java/lang/IllegalStateException", "<init>", "()V"⟩ prog_9_method_1_code 1 (Option.none : Option Jvm.ClassFile.FieldType) ∈ Gw := Gw_of 428 rfl rfl
theorem g429 : Cond.methodLink "java/lang/IllegalStateException" 1 ⟨"java/lang/RuntimeException", "<init>", "()V"⟩ ∈ Gw := Gw_of 429 (by decide +kernel) (by decide +kernel)
theorem g432 : Cond.methodLink "PledgeHouseLaw" 52 yX3_coinsOf ∈ Gw := Gw_of 432 (by decide +kernel) (by decide +kernel)
theorem g433 : Cond.instanceMethod yX3_coinsOf ∈ Gw := Gw_of 433 (by decide +kernel) (by decide +kernel)
theorem g434 : Cond.selects "PledgeHouse" yX3_coinsOf yX3_coinsOf ∈ Gw := Gw_of 434 (by decide +kernel) (by decide +kernel)
set_option maxRecDepth 100000 in
theorem g435 : Cond.code yX3_coinsOf prog_1_method_30_code 2 (Option.some Jvm.ClassFile.FieldType.int) ∈ Gw := Gw_of 435 rfl rfl
theorem g436 : Cond.methodLink "PledgeHouseLaw" 55 yL_much ∈ Gw := Gw_of 436 (by decide +kernel) (by decide +kernel)
theorem g437 : Cond.static yL_much ∈ Gw := Gw_of 437 (by decide +kernel) (by decide +kernel)
set_option maxRecDepth 100000 in
theorem g438 : Cond.code yL_much method_4_code 1 (Option.some Jvm.ClassFile.FieldType.int) ∈ Gw := Gw_of 438 rfl rfl
theorem g439 : Cond.constant "PledgeHouseLaw" 58 (99999 : Int32) ∈ Gw := Gw_of 439 (by decide +kernel) (by decide +kernel)
theorem g440 : Cond.methodLink "PledgeHouseLaw" 59 yX3_deposit ∈ Gw := Gw_of 440 (by decide +kernel) (by decide +kernel)
theorem g441 : Cond.instanceMethod yX3_deposit ∈ Gw := Gw_of 441 (by decide +kernel) (by decide +kernel)
