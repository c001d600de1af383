theorem g442 : Cond.selects "PledgeHouse" yX3_deposit yX3_deposit ∈ Gw := Gw_of 442 (by decide +kernel) (by decide +kernel)
set_option maxRecDepth 100000 in
theorem g443 : Cond.code yX3_deposit prog_1_method_7_code 3 (Option.some Jvm.ClassFile.FieldType.int) ∈ Gw := Gw_of 443 rfl rfl
theorem g444 : Cond.methodLink "PledgeHouse" 97 yX0_addCoins ∈ Gw := Gw_of 444 (by decide +kernel) (by decide +kernel)
theorem g445 : Cond.instanceMethod yX0_addCoins ∈ Gw := Gw_of 445 (by decide +kernel) (by decide +kernel)
theorem g446 : Cond.selects "PledgeHouse$Ledger" yX0_addCoins yX0_addCoins ∈ Gw := Gw_of 446 (by decide +kernel) (by decide +kernel)
set_option maxRecDepth 100000 in
theorem g447 : Cond.code yX0_addCoins prog_2_method_28_code 3 (Option.some Jvm.ClassFile.FieldType.boolean) ∈ Gw := Gw_of 447 rfl rfl
theorem g448 : Cond.constant "PledgeHouse$Ledger" 120 (99999 : Int32) ∈ Gw := Gw_of 448 (by decide +kernel) (by decide +kernel)
theorem g449 : Cond.methodLink "PledgeHouseLaw" 62 yX3_debtOf ∈ Gw := Gw_of 449 (by decide +kernel) (by decide +kernel)
theorem g450 : Cond.instanceMethod yX3_debtOf ∈ Gw := Gw_of 450 (by decide +kernel) (by decide +kernel)
theorem g451 : Cond.selects "PledgeHouse" yX3_debtOf yX3_debtOf ∈ Gw := Gw_of 451 (by decide +kernel) (by decide +kernel)
set_option maxRecDepth 100000 in
theorem g452 : Cond.code yX3_debtOf prog_1_method_31_code 2 (Option.some Jvm.ClassFile.FieldType.int) ∈ Gw := Gw_of 452 rfl rfl
theorem g453 : Cond.methodLink "PledgeHouseLaw" 65 yX3_release ∈ Gw := Gw_of 453 (by decide +kernel) (by decide +kernel)
theorem g454 : Cond.instanceMethod yX3_release ∈ Gw := Gw_of 454 (by decide +kernel) (by decide +kernel)
theorem g455 : Cond.selects "PledgeHouse" yX3_release yX3_release ∈ Gw := Gw_of 455 (by decide +kernel) (by decide +kernel)
set_option maxRecDepth 100000 in
theorem g456 : Cond.code yX3_release prog_1_method_6_code 4 (Option.some Jvm.ClassFile.FieldType.int) ∈ Gw := Gw_of 456 rfl rfl
theorem g457 : Cond.methodLink "PledgeHouse" 94 yX0_takePieces ∈ Gw := Gw_of 457 (by decide +kernel) (by decide +kernel)
theorem g458 : Cond.instanceMethod yX0_takePieces ∈ Gw := Gw_of 458 (by decide +kernel) (by decide +kernel)
theorem g459 : Cond.selects "PledgeHouse$Ledger" yX0_takePieces yX0_takePieces ∈ Gw := Gw_of 459 (by decide +kernel) (by decide +kernel)
set_option maxRecDepth 100000 in
theorem g460 : Cond.code yX0_takePieces prog_2_method_27_code 5 (Option.some Jvm.ClassFile.FieldType.boolean) ∈ Gw := Gw_of 460 rfl rfl
theorem g461 : Cond.methodLink "PledgeHouseLaw" 68 yX3_isCalled ∈ Gw := Gw_of 461 (by decide +kernel) (by decide +kernel)
theorem g462 : Cond.instanceMethod yX3_isCalled ∈ Gw := Gw_of 462 (by decide +kernel) (by decide +kernel)
theorem g463 : Cond.selects "PledgeHouse" yX3_isCalled yX3_isCalled ∈ Gw := Gw_of 463 (by decide +kernel) (by decide +kernel)
set_option maxRecDepth 100000 in
theorem g464 : Cond.code yX3_isCalled prog_1_method_35_code 2 (Option.some Jvm.ClassFile.FieldType.boolean) ∈ Gw := Gw_of 464 rfl rfl
theorem g465 : Cond.methodLink "PledgeHouseLaw" 72 yL_isLent ∈ Gw := Gw_of 465 (by decide +kernel) (by decide +kernel)
theorem g466 : Cond.static yL_isLent ∈ Gw := Gw_of 466 (by decide +kernel) (by decide +kernel)
set_option maxRecDepth 100000 in
theorem g467 : Cond.code yL_isLent method_6_code 7 (Option.some Jvm.ClassFile.FieldType.boolean) ∈ Gw := Gw_of 467 rfl rfl
theorem g468 : Cond.methodLink "PledgeHouseLaw" 98 yX3_roomOf ∈ Gw := Gw_of 468 (by decide +kernel) (by decide +kernel)
theorem g469 : Cond.instanceMethod yX3_roomOf ∈ Gw := Gw_of 469 (by decide +kernel) (by decide +kernel)
theorem g470 : Cond.selects "PledgeHouse" yX3_roomOf yX3_roomOf ∈ Gw := Gw_of 470 (by decide +kernel) (by decide +kernel)
set_option maxRecDepth 100000 in
theorem g471 : Cond.code yX3_roomOf prog_1_method_34_code 2 (Option.some Jvm.ClassFile.FieldType.int) ∈ Gw := Gw_of 471 rfl rfl
theorem g472 : Cond.methodLink "PledgeHouse" 193 yX0_openRoom ∈ Gw := Gw_of 472 (by decide +kernel) (by decide +kernel)
theorem g473 : Cond.instanceMethod yX0_openRoom ∈ Gw := Gw_of 473 (by decide +kernel) (by decide +kernel)
theorem g474 : Cond.selects "PledgeHouse$Ledger" yX0_openRoom yX0_openRoom ∈ Gw := Gw_of 474 (by decide +kernel) (by decide +kernel)
set_option maxRecDepth 100000 in
theorem g475 : Cond.code yX0_openRoom prog_2_method_7_code 3 (Option.some Jvm.ClassFile.FieldType.int) ∈ Gw := Gw_of 475 rfl rfl
theorem g476 : Cond.methodLink "PledgeHouseLaw" 101 yX3_lent ∈ Gw := Gw_of 476 (by decide +kernel) (by decide +kernel)
theorem g477 : Cond.instanceMethod yX3_lent ∈ Gw := Gw_of 477 (by decide +kernel) (by decide +kernel)
theorem g478 : Cond.selects "PledgeHouse" yX3_lent yX3_lent ∈ Gw := Gw_of 478 (by decide +kernel) (by decide +kernel)
set_option maxRecDepth 100000 in
theorem g479 : Cond.code yX3_lent prog_1_method_55_code 1 (Option.some Jvm.ClassFile.FieldType.int) ∈ Gw := Gw_of 479 rfl rfl
theorem g480 : Cond.methodLink "PledgeHouseLaw" 104 yX3_lend ∈ Gw := Gw_of 480 (by decide +kernel) (by decide +kernel)
theorem g481 : Cond.instanceMethod yX3_lend ∈ Gw := Gw_of 481 (by decide +kernel) (by decide +kernel)
theorem g482 : Cond.selects "PledgeHouse" yX3_lend yX3_lend ∈ Gw := Gw_of 482 (by decide +kernel) (by decide +kernel)
set_option maxRecDepth 100000 in
theorem g483 : Cond.code yX3_lend prog_1_method_9_code 3 (Option.some Jvm.ClassFile.FieldType.int) ∈ Gw := Gw_of 483 rfl rfl
theorem g484 : Cond.methodLink "PledgeHouse" 107 yX0_addDebt ∈ Gw := Gw_of 484 (by decide +kernel) (by decide +kernel)
theorem g485 : Cond.instanceMethod yX0_addDebt ∈ Gw := Gw_of 485 (by decide +kernel) (by decide +kernel)
theorem g486 : Cond.selects "PledgeHouse$Ledger" yX0_addDebt yX0_addDebt ∈ Gw := Gw_of 486 (by decide +kernel) (by decide +kernel)
set_option maxRecDepth 100000 in
theorem g487 : Cond.code yX0_addDebt prog_2_method_30_code 3 (Option.some Jvm.ClassFile.FieldType.boolean) ∈ Gw := Gw_of 487 rfl rfl
theorem g488 : Cond.methodLink "PledgeHouseLaw" 76 yX3_payBack ∈ Gw := Gw_of 488 (by decide +kernel) (by decide +kernel)
theorem g489 : Cond.instanceMethod yX3_payBack ∈ Gw := Gw_of 489 (by decide +kernel) (by decide +kernel)
theorem g490 : Cond.selects "PledgeHouse" yX3_payBack yX3_payBack ∈ Gw := Gw_of 490 (by decide +kernel) (by decide +kernel)
set_option maxRecDepth 100000 in
theorem g491 : Cond.code yX3_payBack prog_1_method_10_code 4 (Option.some Jvm.ClassFile.FieldType.int) ∈ Gw := Gw_of 491 rfl rfl
theorem g492 : Cond.methodLink "PledgeHouse" 113 yX0_takeDebt ∈ Gw := Gw_of 492 (by decide +kernel) (by decide +kernel)
theorem g493 : Cond.instanceMethod yX0_takeDebt ∈ Gw := Gw_of 493 (by decide +kernel) (by decide +kernel)
theorem g494 : Cond.selects "PledgeHouse$Ledger" yX0_takeDebt yX0_takeDebt ∈ Gw := Gw_of 494 (by decide +kernel) (by decide +kernel)
set_option maxRecDepth 100000 in
theorem g495 : Cond.code yX0_takeDebt prog_2_method_31_code 4 (Option.some Jvm.ClassFile.FieldType.int) ∈ Gw := Gw_of 495 rfl rfl
theorem g496 : Cond.methodLink "PledgeHouseLaw" 79 yX3_changeRate ∈ Gw := Gw_of 496 (by decide +kernel) (by decide +kernel)
theorem g497 : Cond.instanceMethod yX3_changeRate ∈ Gw := Gw_of 497 (by decide +kernel) (by decide +kernel)
theorem g498 : Cond.selects "PledgeHouse" yX3_changeRate yX3_changeRate ∈ Gw := Gw_of 498 (by decide +kernel) (by decide +kernel)
set_option maxRecDepth 100000 in
theorem g499 : Cond.code yX3_changeRate prog_1_method_13_code 3 (Option.some Jvm.ClassFile.FieldType.int) ∈ Gw := Gw_of 499 rfl rfl
theorem g500 : Cond.methodLink "PledgeHouseLaw" 82 yX3_changeGrace ∈ Gw := Gw_of 500 (by decide +kernel) (by decide +kernel)
theorem g501 : Cond.instanceMethod yX3_changeGrace ∈ Gw := Gw_of 501 (by decide +kernel) (by decide +kernel)
theorem g502 : Cond.selects "PledgeHouse" yX3_changeGrace yX3_changeGrace ∈ Gw := Gw_of 502 (by decide +kernel) (by decide +kernel)
set_option maxRecDepth 100000 in
theorem g503 : Cond.code yX3_changeGrace prog_1_method_14_code 3 (Option.some Jvm.ClassFile.FieldType.int) ∈ Gw := Gw_of 503 rfl rfl
theorem g504 : Cond.methodLink "PledgeHouseLaw" 85 yX3_changeSlip ∈ Gw := Gw_of 504 (by decide +kernel) (by decide +kernel)
theorem g505 : Cond.instanceMethod yX3_changeSlip ∈ Gw := Gw_of 505 (by decide +kernel) (by decide +kernel)
theorem g506 : Cond.selects "PledgeHouse" yX3_changeSlip yX3_changeSlip ∈ Gw := Gw_of 506 (by decide +kernel) (by decide +kernel)
set_option maxRecDepth 100000 in
theorem g507 : Cond.code yX3_changeSlip prog_1_method_15_code 3 (Option.some Jvm.ClassFile.FieldType.int) ∈ Gw := Gw_of 507 rfl rfl
theorem g508 : Cond.methodLink "PledgeHouseLaw" 88 yX3_turnOrder ∈ Gw := Gw_of 508 (by decide +kernel) (by decide +kernel)
theorem g509 : Cond.instanceMethod yX3_turnOrder ∈ Gw := Gw_of 509 (by decide +kernel) (by decide +kernel)
theorem g510 : Cond.selects "PledgeHouse" yX3_turnOrder yX3_turnOrder ∈ Gw := Gw_of 510 (by decide +kernel) (by decide +kernel)
set_option maxRecDepth 100000 in
theorem g511 : Cond.code yX3_turnOrder prog_1_method_16_code 1 (Option.some Jvm.ClassFile.FieldType.int) ∈ Gw := Gw_of 511 rfl rfl
theorem g512 : Cond.methodLink "PledgeHouseLaw" 91 yX3_order ∈ Gw := Gw_of 512 (by decide +kernel) (by decide +kernel)
theorem g513 : Cond.instanceMethod yX3_order ∈ Gw := Gw_of 513 (by decide +kernel) (by decide +kernel)
theorem g514 : Cond.selects "PledgeHouse" yX3_order yX3_order ∈ Gw := Gw_of 514 (by decide +kernel) (by decide +kernel)
set_option maxRecDepth 100000 in
theorem g515 : Cond.code yX3_order prog_1_method_45_code 1 (Option.some Jvm.ClassFile.FieldType.int) ∈ Gw := Gw_of 515 rfl rfl
theorem g516 : Cond.methodLink "PledgeHouseLaw" 94 yL_isPassed ∈ Gw := Gw_of 516 (by decide +kernel) (by decide +kernel)
theorem g517 : Cond.static yL_isPassed ∈ Gw := Gw_of 517 (by decide +kernel) (by decide +kernel)
set_option maxRecDepth 100000 in
theorem g518 : Cond.code yL_isPassed method_7_code 6 (Option.some Jvm.ClassFile.FieldType.boolean) ∈ Gw := Gw_of 518 rfl rfl
theorem g519 : Cond.methodLink "PledgeHouseLaw" 107 yX3_soldOut ∈ Gw := Gw_of 519 (by decide +kernel) (by decide +kernel)
theorem g520 : Cond.instanceMethod yX3_soldOut ∈ Gw := Gw_of 520 (by decide +kernel) (by decide +kernel)
theorem g521 : Cond.selects "PledgeHouse" yX3_soldOut yX3_soldOut ∈ Gw := Gw_of 521 (by decide +kernel) (by decide +kernel)
set_option maxRecDepth 100000 in
theorem g522 : Cond.code yX3_soldOut prog_1_method_60_code 1 (Option.some Jvm.ClassFile.FieldType.int) ∈ Gw := Gw_of 522 rfl rfl
theorem g523 : Cond.methodLink "PledgeHouseLaw" 110 yX3_hours ∈ Gw := Gw_of 523 (by decide +kernel) (by decide +kernel)
theorem g524 : Cond.instanceMethod yX3_hours ∈ Gw := Gw_of 524 (by decide +kernel) (by decide +kernel)
theorem g525 : Cond.selects "PledgeHouse" yX3_hours yX3_hours ∈ Gw := Gw_of 525 (by decide +kernel) (by decide +kernel)
set_option maxRecDepth 100000 in
theorem g526 : Cond.code yX3_hours prog_1_method_52_code 1 (Option.some Jvm.ClassFile.FieldType.int) ∈ Gw := Gw_of 526 rfl rfl
theorem g527 : Cond.methodLink "PledgeHouseLaw" 113 yX3_debtsByClients ∈ Gw := Gw_of 527 (by decide +kernel) (by decide +kernel)
theorem g528 : Cond.instanceMethod yX3_debtsByClients ∈ Gw := Gw_of 528 (by decide +kernel) (by decide +kernel)
theorem g529 : Cond.selects "PledgeHouse" yX3_debtsByClients yX3_debtsByClients ∈ Gw := Gw_of 529 (by decide +kernel) (by decide +kernel)
set_option maxRecDepth 100000 in
theorem g530 : Cond.code yX3_debtsByClients prog_1_method_53_code 1 (Option.some Jvm.ClassFile.FieldType.int) ∈ Gw := Gw_of 530 rfl rfl
theorem g531 : Cond.methodLink "PledgeHouse" 240 yX0_debtsOfAll ∈ Gw := Gw_of 531 (by decide +kernel) (by decide +kernel)
theorem g532 : Cond.instanceMethod yX0_debtsOfAll ∈ Gw := Gw_of 532 (by decide +kernel) (by decide +kernel)
theorem g533 : Cond.selects "PledgeHouse$Ledger" yX0_debtsOfAll yX0_debtsOfAll ∈ Gw := Gw_of 533 (by decide +kernel) (by decide +kernel)
set_option maxRecDepth 100000 in
theorem g534 : Cond.code yX0_debtsOfAll prog_2_method_10_code 3 (Option.some Jvm.ClassFile.FieldType.int) ∈ Gw := Gw_of 534 rfl rfl
theorem g535 : Cond.methodLink "PledgeHouseLaw" 116 yX3_pass ∈ Gw := Gw_of 535 (by decide +kernel) (by decide +kernel)
theorem g536 : Cond.instanceMethod yX3_pass ∈ Gw := Gw_of 536 (by decide +kernel) (by decide +kernel)
theorem g537 : Cond.selects "PledgeHouse" yX3_pass yX3_pass ∈ Gw := Gw_of 537 (by decide +kernel) (by decide +kernel)
set_option maxRecDepth 100000 in
theorem g538 : Cond.code yX3_pass prog_1_method_12_code 2 (Option.some Jvm.ClassFile.FieldType.int) ∈ Gw := Gw_of 538 rfl rfl
theorem g539 : Cond.methodLink "PledgeHouse" 120 yX0_passHours ∈ Gw := Gw_of 539 (by decide +kernel) (by decide +kernel)
theorem g540 : Cond.instanceMethod yX0_passHours ∈ Gw := Gw_of 540 (by decide +kernel) (by decide +kernel)
theorem g541 : Cond.selects "PledgeHouse$Ledger" yX0_passHours yX0_passHours ∈ Gw := Gw_of 541 (by decide +kernel) (by decide +kernel)
set_option maxRecDepth 100000 in
theorem g542 : Cond.code yX0_passHours prog_2_method_33_code 6 (Option.some Jvm.ClassFile.FieldType.int) ∈ Gw := Gw_of 542 rfl rfl
theorem g543 : Cond.methodLink "PledgeHouse$Ledger" 121 yX0_calledAsBits ∈ Gw := Gw_of 543 (by decide +kernel) (by decide +kernel)
theorem g544 : Cond.instanceMethod yX0_calledAsBits ∈ Gw := Gw_of 544 (by decide +kernel) (by decide +kernel)
theorem g545 : Cond.selects "PledgeHouse$Ledger" yX0_calledAsBits yX0_calledAsBits ∈ Gw := Gw_of 545 (by decide +kernel) (by decide +kernel)
set_option maxRecDepth 100000 in
theorem g546 : Cond.code yX0_calledAsBits prog_2_method_34_code 3 (Option.some Jvm.ClassFile.FieldType.int) ∈ Gw := Gw_of 546 rfl rfl
theorem g547 : Cond.methodLink "PledgeHouse$Ledger" 124 yX0_addInterest ∈ Gw := Gw_of 547 (by decide +kernel) (by decide +kernel)
theorem g548 : Cond.instanceMethod yX0_addInterest ∈ Gw := Gw_of 548 (by decide +kernel) (by decide +kernel)
theorem g549 : Cond.selects "PledgeHouse$Ledger" yX0_addInterest yX0_addInterest ∈ Gw := Gw_of 549 (by decide +kernel) (by decide +kernel)
set_option maxRecDepth 100000 in
theorem g550 : Cond.code yX0_addInterest prog_2_method_35_code 3 (Option.none : Option Jvm.ClassFile.FieldType) ∈ Gw := Gw_of 550 rfl rfl
theorem g551 : Cond.methodLink "PledgeHouse$Ledger" 106 yX0_interestOn ∈ Gw := Gw_of 551 (by decide +kernel) (by decide +kernel)
theorem g552 : Cond.instanceMethod yX0_interestOn ∈ Gw := Gw_of 552 (by decide +kernel) (by decide +kernel)
theorem g553 : Cond.selects "PledgeHouse$Ledger" yX0_interestOn yX0_interestOn ∈ Gw := Gw_of 553 (by decide +kernel) (by decide +kernel)
set_option maxRecDepth 100000 in
theorem g554 : Cond.code yX0_interestOn prog_2_method_8_code 2 (Option.some Jvm.ClassFile.FieldType.int) ∈ Gw := Gw_of 554 rfl rfl
theorem g555 : Cond.constantLong "PledgeHouse$Ledger" 98 (9999 : Int64) ∈ Gw := Gw_of 555 (by decide +kernel) (by decide +kernel)
theorem g556 : Cond.constantLong "PledgeHouse$Ledger" 100 (10000 : Int64) ∈ Gw := Gw_of 556 (by decide +kernel) (by decide +kernel)
theorem g557 : Cond.methodLink "PledgeHouse$Ledger" 127 yX0_countDown ∈ Gw := Gw_of 557 (by decide +kernel) (by decide +kernel)
theorem g558 : Cond.instanceMethod yX0_countDown ∈ Gw := Gw_of 558 (by decide +kernel) (by decide +kernel)
theorem g559 : Cond.selects "PledgeHouse$Ledger" yX0_countDown yX0_countDown ∈ Gw := Gw_of 559 (by decide +kernel) (by decide +kernel)
set_option maxRecDepth 100000 in
theorem g560 : Cond.code yX0_countDown prog_2_method_36_code 5 (Option.none : Option Jvm.ClassFile.FieldType) ∈ Gw := Gw_of 560 rfl rfl
theorem g561 : Cond.methodLink "PledgeHouse$Ledger" 131 yX2_reckon ∈ Gw := Gw_of 561 (by decide +kernel) (by decide +kernel)
theorem g562 : Cond.instanceMethod yX2_reckon ∈ Gw := Gw_of 562 (by decide +kernel) (by decide +kernel)
theorem g563 : Cond.selects "PledgeHouse$Sale" yX2_reckon yX2_reckon ∈ Gw := Gw_of 563 (by decide +kernel) (by decide +kernel)
set_option maxRecDepth 100000 in
theorem g564 : Cond.code yX2_reckon prog_4_method_2_code 5 (Option.none : Option Jvm.ClassFile.FieldType) ∈ Gw := Gw_of 564 rfl rfl
theorem g565 : Cond.methodLink "PledgeHouse$Sale" 42 yX2_layOutPieces ∈ Gw := Gw_of 565 (by decide +kernel) (by decide +kernel)
theorem g566 : Cond.instanceMethod yX2_layOutPieces ∈ Gw := Gw_of 566 (by decide +kernel) (by decide +kernel)
theorem g567 : Cond.selects "PledgeHouse$Sale" yX2_layOutPieces yX2_layOutPieces ∈ Gw := Gw_of 567 (by decide +kernel) (by decide +kernel)
set_option maxRecDepth 100000 in
theorem g568 : Cond.code yX2_layOutPieces prog_4_method_3_code 5 (Option.some Jvm.ClassFile.FieldType.int) ∈ Gw := Gw_of 568 rfl rfl
theorem g570 : Cond.methodLink "PledgeHouse$Sale" 67 yX2_keyOf ∈ Gw := Gw_of 570 (by decide +kernel) (by decide +kernel)
theorem g571 : Cond.instanceMethod yX2_keyOf ∈ Gw := Gw_of 571 (by decide +kernel) (by decide +kernel)
theorem g572 : Cond.selects "PledgeHouse$Sale" yX2_keyOf yX2_keyOf ∈ Gw := Gw_of 572 (by decide +kernel) (by decide +kernel)
set_option maxRecDepth 100000 in
theorem g573 : Cond.code yX2_keyOf prog_4_method_4_code 3 (Option.some Jvm.ClassFile.FieldType.int) ∈ Gw := Gw_of 573 rfl rfl
theorem g574 : Cond.methodLink "PledgeHouse$Sale" 70 yX2_coverOfOne ∈ Gw := Gw_of 574 (by decide +kernel) (by decide +kernel)
theorem g575 : Cond.instanceMethod yX2_coverOfOne ∈ Gw := Gw_of 575 (by decide +kernel) (by decide +kernel)
theorem g576 : Cond.selects "PledgeHouse$Sale" yX2_coverOfOne yX2_coverOfOne ∈ Gw := Gw_of 576 (by decide +kernel) (by decide +kernel)
set_option maxRecDepth 100000 in
theorem g577 : Cond.code yX2_coverOfOne prog_4_method_5_code 3 (Option.some Jvm.ClassFile.FieldType.int) ∈ Gw := Gw_of 577 rfl rfl
theorem g578 : Cond.methodLink "PledgeHouse$Sale" 46 yX2_payFromCoins ∈ Gw := Gw_of 578 (by decide +kernel) (by decide +kernel)
theorem g579 : Cond.instanceMethod yX2_payFromCoins ∈ Gw := Gw_of 579 (by decide +kernel) (by decide +kernel)
theorem g580 : Cond.selects "PledgeHouse$Sale" yX2_payFromCoins yX2_payFromCoins ∈ Gw := Gw_of 580 (by decide +kernel) (by decide +kernel)
set_option maxRecDepth 100000 in
theorem g581 : Cond.code yX2_payFromCoins prog_4_method_7_code 2 (Option.none : Option Jvm.ClassFile.FieldType) ∈ Gw := Gw_of 581 rfl rfl
theorem g582 : Cond.methodLink "PledgeHouse$Sale" 82 yX2_payWith ∈ Gw := Gw_of 582 (by decide +kernel) (by decide +kernel)
theorem g583 : Cond.instanceMethod yX2_payWith ∈ Gw := Gw_of 583 (by decide +kernel) (by decide +kernel)
theorem g584 : Cond.selects "PledgeHouse$Sale" yX2_payWith yX2_payWith ∈ Gw := Gw_of 584 (by decide +kernel) (by decide +kernel)
set_option maxRecDepth 100000 in
theorem g585 : Cond.code yX2_payWith prog_4_method_10_code 3 (Option.none : Option Jvm.ClassFile.FieldType) ∈ Gw := Gw_of 585 rfl rfl
theorem g586 : Cond.methodLink "PledgeHouse$Sale" 49 yX2_isCovered ∈ Gw := Gw_of 586 (by decide +kernel) (by decide +kernel)
theorem g587 : Cond.instanceMethod yX2_isCovered ∈ Gw := Gw_of 587 (by decide +kernel) (by decide +kernel)
theorem g588 : Cond.selects "PledgeHouse$Sale" yX2_isCovered yX2_isCovered ∈ Gw := Gw_of 588 (by decide +kernel) (by decide +kernel)
set_option maxRecDepth 100000 in
theorem g589 : Cond.code yX2_isCovered prog_4_method_6_code 1 (Option.some Jvm.ClassFile.FieldType.boolean) ∈ Gw := Gw_of 589 rfl rfl
theorem g590 : Cond.methodLink "PledgeHouse$Sale" 53 yX2_sellOne ∈ Gw := Gw_of 590 (by decide +kernel) (by decide +kernel)
theorem g591 : Cond.instanceMethod yX2_sellOne ∈ Gw := Gw_of 591 (by decide +kernel) (by decide +kernel)
theorem g592 : Cond.selects "PledgeHouse$Sale" yX2_sellOne yX2_sellOne ∈ Gw := Gw_of 592 (by decide +kernel) (by decide +kernel)
