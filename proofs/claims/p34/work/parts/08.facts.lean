theorem mX9_init : ZM yX9_init cX9_init 2 none 0 := ⟨z_tab1 (i := 17) (by decide +kernel), ⟨by decide +kernel, z_tab1 (i := 1) (by decide +kernel)⟩, by decide, by decide +kernel, by decide +kernel, by decide +kernel⟩
theorem mX8_init : ZM yX8_init cX8_init 1 none 0 := ⟨z_tab1 (i := 25) (by decide +kernel), ⟨by decide +kernel, z_tab1 (i := 2) (by decide +kernel)⟩, by decide, by decide +kernel, by decide +kernel, by decide +kernel⟩
theorem mX5_init : ZM yX5_init cX5_init 1 none 0 := ⟨z_tab1 (i := 31) (by decide +kernel), ⟨by decide +kernel, z_tab1 (i := 3) (by decide +kernel)⟩, by decide, by decide +kernel, by decide +kernel, by decide +kernel⟩
theorem mX6_init : ZM yX6_init cX6_init 2 none 1 := ⟨z_tab1 (i := 37) (by decide +kernel), ⟨by decide +kernel, z_tab1 (i := 4) (by decide +kernel)⟩, by decide, by decide +kernel, by decide +kernel, by decide +kernel⟩
theorem mX7_init : ZM yX7_init cX7_init 1 none 0 := ⟨z_tab1 (i := 59) (by decide +kernel), ⟨by decide +kernel, z_tab1 (i := 5) (by decide +kernel)⟩, by decide, by decide +kernel, by decide +kernel, by decide +kernel⟩
theorem mX0_init : ZM yX0_init cX0_init 2 none 0 := ⟨z_tab1 (i := 108) (by decide +kernel), ⟨by decide +kernel, z_tab1 (i := 6) (by decide +kernel)⟩, by decide, by decide +kernel, by decide +kernel, by decide +kernel⟩
theorem mX3_init : ZM yX3_init cX3_init 1 none 0 := ⟨z_tab1 (i := 128) (by decide +kernel), ⟨by decide +kernel, z_tab1 (i := 7) (by decide +kernel)⟩, by decide, by decide +kernel, by decide +kernel, by decide +kernel⟩
theorem mX2_init : ZM yX2_init cX2_init 1 none 0 := ⟨z_tab1 (i := 134) (by decide +kernel), ⟨by decide +kernel, z_tab1 (i := 8) (by decide +kernel)⟩, by decide, by decide +kernel, by decide +kernel, by decide +kernel⟩
theorem mX4_init : ZM yX4_init cX4_init 1 none 0 := ⟨z_tab1 (i := 160) (by decide +kernel), ⟨by decide +kernel, z_tab1 (i := 9) (by decide +kernel)⟩, by decide, by decide +kernel, by decide +kernel, by decide +kernel⟩
theorem mX1_init : ZM yX1_init cX1_init 1 none 0 := ⟨z_tab1 (i := 168) (by decide +kernel), ⟨by decide +kernel, z_tab1 (i := 10) (by decide +kernel)⟩, by decide, by decide +kernel, by decide +kernel, by decide +kernel⟩
theorem mX9_add : ZM yX9_add cX9_add 6 (some FieldType.int) 5 := ⟨z_tab1 (i := 269) (by decide +kernel), ⟨by decide +kernel, z_tab1 (i := 1) (by decide +kernel)⟩, by decide, by decide +kernel, by decide +kernel, by decide +kernel⟩
theorem mX5_allows : ZM yX5_allows cX5_allows 3 (some FieldType.boolean) 3 := ⟨z_tab1 (i := 272) (by decide +kernel), ⟨by decide +kernel, z_tab1 (i := 3) (by decide +kernel)⟩, by decide, by decide +kernel, by decide +kernel, by decide +kernel⟩
theorem mX9_beginChange : ZM yX9_beginChange cX9_beginChange 1 none 0 := ⟨z_tab1 (i := 276) (by decide +kernel), ⟨by decide +kernel, z_tab1 (i := 1) (by decide +kernel)⟩, by decide, by decide +kernel, by decide +kernel, by decide +kernel⟩
theorem mX0_keep : ZM yX0_keep cX0_keep 3 none 1 := ⟨z_tab1 (i := 280) (by decide +kernel), ⟨by decide +kernel, z_tab1 (i := 6) (by decide +kernel)⟩, by decide, by decide +kernel, by decide +kernel, by decide +kernel⟩
theorem mX0_stateAt : ZM yX0_stateAt cX0_stateAt 3 (some (FieldType.object "TestVersions$State")) 1 := ⟨z_tab1 (i := 284) (by decide +kernel), ⟨by decide +kernel, z_tab1 (i := 6) (by decide +kernel)⟩, by decide, by decide +kernel, by decide +kernel, by decide +kernel⟩
theorem mX8_copy : ZM yX8_copy cX8_copy 2 none 1 := ⟨z_tab1 (i := 288) (by decide +kernel), ⟨by decide +kernel, z_tab1 (i := 2) (by decide +kernel)⟩, by decide, by decide +kernel, by decide +kernel, by decide +kernel⟩
theorem mX5_copy : ZM yX5_copy cX5_copy 2 none 1 := ⟨z_tab1 (i := 292) (by decide +kernel), ⟨by decide +kernel, z_tab1 (i := 3) (by decide +kernel)⟩, by decide, by decide +kernel, by decide +kernel, by decide +kernel⟩
theorem mX6_copy : ZM yX6_copy cX6_copy 2 none 1 := ⟨z_tab1 (i := 296) (by decide +kernel), ⟨by decide +kernel, z_tab1 (i := 4) (by decide +kernel)⟩, by decide, by decide +kernel, by decide +kernel, by decide +kernel⟩
theorem mX7_copy : ZM yX7_copy cX7_copy 2 none 1 := ⟨z_tab1 (i := 307) (by decide +kernel), ⟨by decide +kernel, z_tab1 (i := 5) (by decide +kernel)⟩, by decide, by decide +kernel, by decide +kernel, by decide +kernel⟩
theorem mX9_outdatePapers : ZM yX9_outdatePapers cX9_outdatePapers 3 none 0 := ⟨z_tab1 (i := 312) (by decide +kernel), ⟨by decide +kernel, z_tab1 (i := 1) (by decide +kernel)⟩, by decide, by decide +kernel, by decide +kernel, by decide +kernel⟩
theorem mX5_append : ZM yX5_append cX5_append 7 (some FieldType.int) 5 := ⟨z_tab1 (i := 316) (by decide +kernel), ⟨by decide +kernel, z_tab1 (i := 3) (by decide +kernel)⟩, by decide, by decide +kernel, by decide +kernel, by decide +kernel⟩
theorem mX5_put : ZM yX5_put cX5_put 4 none 3 := ⟨z_tab1 (i := 320) (by decide +kernel), ⟨by decide +kernel, z_tab1 (i := 3) (by decide +kernel)⟩, by decide, by decide +kernel, by decide +kernel, by decide +kernel⟩
theorem mX6_set : ZM yX6_set cX6_set 3 none 2 := ⟨z_tab1 (i := 324) (by decide +kernel), ⟨by decide +kernel, z_tab1 (i := 4) (by decide +kernel)⟩, by decide, by decide +kernel, by decide +kernel, by decide +kernel⟩
theorem mX9_remove : ZM yX9_remove cX9_remove 2 (some FieldType.int) 1 := ⟨z_tab1 (i := 328) (by decide +kernel), ⟨by decide +kernel, z_tab1 (i := 1) (by decide +kernel)⟩, by decide, by decide +kernel, by decide +kernel, by decide +kernel⟩
theorem mX5_has : ZM yX5_has cX5_has 2 (some FieldType.boolean) 1 := ⟨z_tab1 (i := 332) (by decide +kernel), ⟨by decide +kernel, z_tab1 (i := 3) (by decide +kernel)⟩, by decide, by decide +kernel, by decide +kernel, by decide +kernel⟩
theorem mX5_delete : ZM yX5_delete cX5_delete 4 none 1 := ⟨z_tab1 (i := 336) (by decide +kernel), ⟨by decide +kernel, z_tab1 (i := 3) (by decide +kernel)⟩, by decide, by decide +kernel, by decide +kernel, by decide +kernel⟩
theorem mX5_number : ZM yX5_number cX5_number 3 (some FieldType.int) 2 := ⟨z_tab1 (i := 340) (by decide +kernel), ⟨by decide +kernel, z_tab1 (i := 3) (by decide +kernel)⟩, by decide, by decide +kernel, by decide +kernel, by decide +kernel⟩
theorem mX6_get : ZM yX6_get cX6_get 2 (some FieldType.int) 1 := ⟨z_tab1 (i := 344) (by decide +kernel), ⟨by decide +kernel, z_tab1 (i := 4) (by decide +kernel)⟩, by decide, by decide +kernel, by decide +kernel, by decide +kernel⟩
theorem mX9_change : ZM yX9_change cX9_change 5 (some FieldType.int) 3 := ⟨z_tab1 (i := 348) (by decide +kernel), ⟨by decide +kernel, z_tab1 (i := 1) (by decide +kernel)⟩, by decide, by decide +kernel, by decide +kernel, by decide +kernel⟩
theorem mX9_questions : ZM yX9_questions cX9_questions 1 (some FieldType.int) 0 := ⟨z_tab1 (i := 354) (by decide +kernel), ⟨by decide +kernel, z_tab1 (i := 1) (by decide +kernel)⟩, by decide, by decide +kernel, by decide +kernel, by decide +kernel⟩
theorem mX9_version : ZM yX9_version cX9_version 3 (some FieldType.int) 1 := ⟨z_tab1 (i := 358) (by decide +kernel), ⟨by decide +kernel, z_tab1 (i := 1) (by decide +kernel)⟩, by decide, by decide +kernel, by decide +kernel, by decide +kernel⟩
theorem mX9_drop : ZM yX9_drop cX9_drop 1 (some FieldType.long) 0 := ⟨z_tab1 (i := 363) (by decide +kernel), ⟨by decide +kernel, z_tab1 (i := 1) (by decide +kernel)⟩, by decide, by decide +kernel, by decide +kernel, by decide +kernel⟩
theorem mX9_versions : ZM yX9_versions cX9_versions 1 (some FieldType.int) 0 := ⟨z_tab1 (i := 369) (by decide +kernel), ⟨by decide +kernel, z_tab1 (i := 1) (by decide +kernel)⟩, by decide, by decide +kernel, by decide +kernel, by decide +kernel⟩
theorem mX9_alike : ZM yX9_alike cX9_alike 6 (some FieldType.int) 3 := ⟨z_tab1 (i := 373) (by decide +kernel), ⟨by decide +kernel, z_tab1 (i := 1) (by decide +kernel)⟩, by decide, by decide +kernel, by decide +kernel, by decide +kernel⟩
theorem mX9_paperOf : ZM yX9_paperOf cX9_paperOf 3 (some (FieldType.object "TestVersions$Paper")) 1 := ⟨z_tab1 (i := 377) (by decide +kernel), ⟨by decide +kernel, z_tab1 (i := 1) (by decide +kernel)⟩, by decide, by decide +kernel, by decide +kernel, by decide +kernel⟩
theorem mX3_mix : ZM yX3_mix cX3_mix 6 none 3 := ⟨z_tab1 (i := 381) (by decide +kernel), ⟨by decide +kernel, z_tab1 (i := 7) (by decide +kernel)⟩, by decide, by decide +kernel, by decide +kernel, by decide +kernel⟩
theorem mX2_begin : ZM yX2_begin cX2_begin 2 none 1 := ⟨z_tab1 (i := 385) (by decide +kernel), ⟨by decide +kernel, z_tab1 (i := 8) (by decide +kernel)⟩, by decide, by decide +kernel, by decide +kernel, by decide +kernel⟩
theorem mX3_listUnits : ZM yX3_listUnits cX3_listUnits 4 (some FieldType.int) 1 := ⟨z_tab1 (i := 389) (by decide +kernel), ⟨by decide +kernel, z_tab1 (i := 7) (by decide +kernel)⟩, by decide, by decide +kernel, by decide +kernel, by decide +kernel⟩
theorem mX5_isFirstOfUnit : ZM yX5_isFirstOfUnit cX5_isFirstOfUnit 4 (some FieldType.boolean) 1 := ⟨z_tab1 (i := 393) (by decide +kernel), ⟨by decide +kernel, z_tab1 (i := 3) (by decide +kernel)⟩, by decide, by decide +kernel, by decide +kernel, by decide +kernel⟩
theorem mX2_mix : ZM yX2_mix cX2_mix 4 none 2 := ⟨z_tab1 (i := 398) (by decide +kernel), ⟨by decide +kernel, z_tab1 (i := 8) (by decide +kernel)⟩, by decide, by decide +kernel, by decide +kernel, by decide +kernel⟩
theorem mX2_next : ZM yX2_next cX2_next 2 (some FieldType.int) 1 := ⟨z_tab1 (i := 402) (by decide +kernel), ⟨by decide +kernel, z_tab1 (i := 8) (by decide +kernel)⟩, by decide, by decide +kernel, by decide +kernel, by decide +kernel⟩
theorem mX6_exchange : ZM yX6_exchange cX6_exchange 4 none 2 := ⟨z_tab1 (i := 407) (by decide +kernel), ⟨by decide +kernel, z_tab1 (i := 4) (by decide +kernel)⟩, by decide, by decide +kernel, by decide +kernel, by decide +kernel⟩
theorem mX3_mixUnit : ZM yX3_mixUnit cX3_mixUnit 6 none 3 := ⟨z_tab1 (i := 412) (by decide +kernel), ⟨by decide +kernel, z_tab1 (i := 7) (by decide +kernel)⟩, by decide, by decide +kernel, by decide +kernel, by decide +kernel⟩
theorem mX5_together : ZM yX5_together cX5_together 3 (some FieldType.boolean) 2 := ⟨z_tab1 (i := 416) (by decide +kernel), ⟨by decide +kernel, z_tab1 (i := 3) (by decide +kernel)⟩, by decide, by decide +kernel, by decide +kernel, by decide +kernel⟩
theorem mX4_append : ZM yX4_append cX4_append 2 none 1 := ⟨z_tab1 (i := 420) (by decide +kernel), ⟨by decide +kernel, z_tab1 (i := 9) (by decide +kernel)⟩, by decide, by decide +kernel, by decide +kernel, by decide +kernel⟩
theorem mX3_mixChoices : ZM yX3_mixChoices cX3_mixChoices 10 none 3 := ⟨z_tab1 (i := 425) (by decide +kernel), ⟨by decide +kernel, z_tab1 (i := 7) (by decide +kernel)⟩, by decide, by decide +kernel, by decide +kernel, by decide +kernel⟩
theorem mX3_listLoose : ZM yX3_listLoose cX3_listLoose 5 (some FieldType.int) 2 := ⟨z_tab1 (i := 430) (by decide +kernel), ⟨by decide +kernel, z_tab1 (i := 7) (by decide +kernel)⟩, by decide, by decide +kernel, by decide +kernel, by decide +kernel⟩
theorem mX4_putChoice : ZM yX4_putChoice cX4_putChoice 4 none 3 := ⟨z_tab1 (i := 434) (by decide +kernel), ⟨by decide +kernel, z_tab1 (i := 9) (by decide +kernel)⟩, by decide, by decide +kernel, by decide +kernel, by decide +kernel⟩
theorem mX1_lay : ZM yX1_lay cX1_lay 8 none 3 := ⟨z_tab1 (i := 438) (by decide +kernel), ⟨by decide +kernel, z_tab1 (i := 10) (by decide +kernel)⟩, by decide, by decide +kernel, by decide +kernel, by decide +kernel⟩
theorem mX1_pagesFrom : ZM yX1_pagesFrom cX1_pagesFrom 7 (some FieldType.int) 2 := ⟨z_tab1 (i := 445) (by decide +kernel), ⟨by decide +kernel, z_tab1 (i := 10) (by decide +kernel)⟩, by decide, by decide +kernel, by decide +kernel, by decide +kernel⟩
theorem mX1_lowestLimit : ZM yX1_lowestLimit cX1_lowestLimit 4 (some FieldType.int) 1 := ⟨z_tab1 (i := 449) (by decide +kernel), ⟨by decide +kernel, z_tab1 (i := 10) (by decide +kernel)⟩, by decide, by decide +kernel, by decide +kernel, by decide +kernel⟩
theorem mX1_earliestEnd : ZM yX1_earliestEnd cX1_earliestEnd 5 (some FieldType.int) 3 := ⟨z_tab1 (i := 456) (by decide +kernel), ⟨by decide +kernel, z_tab1 (i := 10) (by decide +kernel)⟩, by decide, by decide +kernel, by decide +kernel, by decide +kernel⟩
theorem mX1_fill : ZM yX1_fill cX1_fill 6 none 3 := ⟨z_tab1 (i := 460) (by decide +kernel), ⟨by decide +kernel, z_tab1 (i := 10) (by decide +kernel)⟩, by decide, by decide +kernel, by decide +kernel, by decide +kernel⟩
theorem mX6_countSame : ZM yX6_countSame cX6_countSame 5 (some FieldType.int) 2 := ⟨z_tab1 (i := 464) (by decide +kernel), ⟨by decide +kernel, z_tab1 (i := 4) (by decide +kernel)⟩, by decide, by decide +kernel, by decide +kernel, by decide +kernel⟩
theorem mX4_neighborsIn : ZM yX4_neighborsIn cX4_neighborsIn 5 (some FieldType.int) 1 := ⟨z_tab1 (i := 469) (by decide +kernel), ⟨by decide +kernel, z_tab1 (i := 9) (by decide +kernel)⟩, by decide, by decide +kernel, by decide +kernel, by decide +kernel⟩
theorem mX9_unlike : ZM yX9_unlike cX9_unlike 7 (some FieldType.long) 2 := ⟨z_tab1 (i := 474) (by decide +kernel), ⟨by decide +kernel, z_tab1 (i := 1) (by decide +kernel)⟩, by decide, by decide +kernel, by decide +kernel, by decide +kernel⟩
theorem mX9_mostSameKeys : ZM yX9_mostSameKeys cX9_mostSameKeys 5 (some FieldType.int) 1 := ⟨z_tab1 (i := 479) (by decide +kernel), ⟨by decide +kernel, z_tab1 (i := 1) (by decide +kernel)⟩, by decide, by decide +kernel, by decide +kernel, by decide +kernel⟩
theorem mX9_setLines : ZM yX9_setLines cX9_setLines 3 (some FieldType.int) 1 := ⟨z_tab1 (i := 484) (by decide +kernel), ⟨by decide +kernel, z_tab1 (i := 1) (by decide +kernel)⟩, by decide, by decide +kernel, by decide +kernel, by decide +kernel⟩
theorem mX9_type : ZM yX9_type cX9_type 2 (some FieldType.int) 1 := ⟨z_tab1 (i := 488) (by decide +kernel), ⟨by decide +kernel, z_tab1 (i := 1) (by decide +kernel)⟩, by decide, by decide +kernel, by decide +kernel, by decide +kernel⟩
theorem mX9_clear : ZM yX9_clear cX9_clear 2 (some FieldType.int) 0 := ⟨z_tab1 (i := 492) (by decide +kernel), ⟨by decide +kernel, z_tab1 (i := 1) (by decide +kernel)⟩, by decide, by decide +kernel, by decide +kernel, by decide +kernel⟩
theorem mX9_sheet : ZM yX9_sheet cX9_sheet 4 (some FieldType.int) 1 := ⟨z_tab1 (i := 496) (by decide +kernel), ⟨by decide +kernel, z_tab1 (i := 1) (by decide +kernel)⟩, by decide, by decide +kernel, by decide +kernel, by decide +kernel⟩
theorem mX9_readTyped : ZM yX9_readTyped cX9_readTyped 4 (some FieldType.int) 1 := ⟨z_tab1 (i := 500) (by decide +kernel), ⟨by decide +kernel, z_tab1 (i := 1) (by decide +kernel)⟩, by decide, by decide +kernel, by decide +kernel, by decide +kernel⟩
theorem mX9_choicesAt : ZM yX9_choicesAt cX9_choicesAt 3 (some FieldType.int) 2 := ⟨z_tab1 (i := 504) (by decide +kernel), ⟨by decide +kernel, z_tab1 (i := 1) (by decide +kernel)⟩, by decide, by decide +kernel, by decide +kernel, by decide +kernel⟩
theorem mX9_markOf : ZM yX9_markOf cX9_markOf 2 (some FieldType.int) 2 := ⟨z_tab1 (i := 507) (by decide +kernel), ⟨by decide +kernel, z_tab1 (i := 1) (by decide +kernel)⟩, by decide, by decide +kernel, by decide +kernel, by decide +kernel⟩
theorem mX9_handIn : ZM yX9_handIn cX9_handIn 3 (some FieldType.int) 2 := ⟨z_tab1 (i := 511) (by decide +kernel), ⟨by decide +kernel, z_tab1 (i := 1) (by decide +kernel)⟩, by decide, by decide +kernel, by decide +kernel, by decide +kernel⟩
theorem mX7_append : ZM yX7_append cX7_append 10 (some FieldType.int) 3 := ⟨z_tab1 (i := 515) (by decide +kernel), ⟨by decide +kernel, z_tab1 (i := 5) (by decide +kernel)⟩, by decide, by decide +kernel, by decide +kernel, by decide +kernel⟩
theorem mX4_choiceAt : ZM yX4_choiceAt cX4_choiceAt 3 (some FieldType.int) 2 := ⟨z_tab1 (i := 520) (by decide +kernel), ⟨by decide +kernel, z_tab1 (i := 9) (by decide +kernel)⟩, by decide, by decide +kernel, by decide +kernel, by decide +kernel⟩
theorem mX9_guess : ZM yX9_guess cX9_guess 7 (some FieldType.int) 3 := ⟨z_tab1 (i := 525) (by decide +kernel), ⟨by decide +kernel, z_tab1 (i := 1) (by decide +kernel)⟩, by decide, by decide +kernel, by decide +kernel, by decide +kernel⟩
theorem mX9_forget : ZM yX9_forget cX9_forget 2 (some FieldType.int) 0 := ⟨z_tab1 (i := 531) (by decide +kernel), ⟨by decide +kernel, z_tab1 (i := 1) (by decide +kernel)⟩, by decide, by decide +kernel, by decide +kernel, by decide +kernel⟩
theorem mX9_mean : ZM yX9_mean cX9_mean 3 (some FieldType.float) 0 := ⟨z_tab1 (i := 535) (by decide +kernel), ⟨by decide +kernel, z_tab1 (i := 1) (by decide +kernel)⟩, by decide, by decide +kernel, by decide +kernel, by decide +kernel⟩
theorem mX7_points : ZM yX7_points cX7_points 2 (some FieldType.int) 1 := ⟨z_tab1 (i := 539) (by decide +kernel), ⟨by decide +kernel, z_tab1 (i := 5) (by decide +kernel)⟩, by decide, by decide +kernel, by decide +kernel, by decide +kernel⟩
theorem mX9_suspects : ZM yX9_suspects cX9_suspects 6 (some FieldType.int) 0 := ⟨z_tab1 (i := 543) (by decide +kernel), ⟨by decide +kernel, z_tab1 (i := 1) (by decide +kernel)⟩, by decide, by decide +kernel, by decide +kernel, by decide +kernel⟩
theorem mX9_countSameWrong : ZM yX9_countSameWrong cX9_countSameWrong 6 (some FieldType.int) 2 := ⟨z_tab1 (i := 547) (by decide +kernel), ⟨by decide +kernel, z_tab1 (i := 1) (by decide +kernel)⟩, by decide, by decide +kernel, by decide +kernel, by decide +kernel⟩
theorem mX7_pick : ZM yX7_pick cX7_pick 3 (some FieldType.int) 2 := ⟨z_tab1 (i := 551) (by decide +kernel), ⟨by decide +kernel, z_tab1 (i := 5) (by decide +kernel)⟩, by decide, by decide +kernel, by decide +kernel, by decide +kernel⟩
theorem mX9_undo : ZM yX9_undo cX9_undo 1 (some FieldType.int) 0 := ⟨z_tab1 (i := 555) (by decide +kernel), ⟨by decide +kernel, z_tab1 (i := 1) (by decide +kernel)⟩, by decide, by decide +kernel, by decide +kernel, by decide +kernel⟩
theorem mX0_restore : ZM yX0_restore cX0_restore 3 none 1 := ⟨z_tab1 (i := 559) (by decide +kernel), ⟨by decide +kernel, z_tab1 (i := 6) (by decide +kernel)⟩, by decide, by decide +kernel, by decide +kernel, by decide +kernel⟩
theorem mX9_fingerprint : ZM yX9_fingerprint cX9_fingerprint 3 (some FieldType.long) 0 := ⟨z_tab1 (i := 563) (by decide +kernel), ⟨by decide +kernel, z_tab1 (i := 1) (by decide +kernel)⟩, by decide, by decide +kernel, by decide +kernel, by decide +kernel⟩
theorem mX9_printQuestions : ZM yX9_printQuestions cX9_printQuestions 7 (some FieldType.long) 1 := ⟨z_tab1 (i := 568) (by decide +kernel), ⟨by decide +kernel, z_tab1 (i := 1) (by decide +kernel)⟩, by decide, by decide +kernel, by decide +kernel, by decide +kernel⟩
theorem mX9_printVersions : ZM yX9_printVersions cX9_printVersions 9 (some FieldType.long) 1 := ⟨z_tab1 (i := 573) (by decide +kernel), ⟨by decide +kernel, z_tab1 (i := 1) (by decide +kernel)⟩, by decide, by decide +kernel, by decide +kernel, by decide +kernel⟩
theorem mX4_number : ZM yX4_number cX4_number 3 (some FieldType.int) 2 := ⟨z_tab1 (i := 577) (by decide +kernel), ⟨by decide +kernel, z_tab1 (i := 9) (by decide +kernel)⟩, by decide, by decide +kernel, by decide +kernel, by decide +kernel⟩
theorem mX9_printSheets : ZM yX9_printSheets cX9_printSheets 8 (some FieldType.long) 1 := ⟨z_tab1 (i := 581) (by decide +kernel), ⟨by decide +kernel, z_tab1 (i := 1) (by decide +kernel)⟩, by decide, by decide +kernel, by decide +kernel, by decide +kernel⟩
theorem mX7_number : ZM yX7_number cX7_number 3 (some FieldType.int) 2 := ⟨z_tab1 (i := 585) (by decide +kernel), ⟨by decide +kernel, z_tab1 (i := 5) (by decide +kernel)⟩, by decide, by decide +kernel, by decide +kernel, by decide +kernel⟩
theorem mX7_betterThan : ZM yX7_betterThan cX7_betterThan 5 (some FieldType.int) 1 := ⟨z_tab1 (i := 590) (by decide +kernel), ⟨by decide +kernel, z_tab1 (i := 5) (by decide +kernel)⟩, by decide, by decide +kernel, by decide +kernel, by decide +kernel⟩
set_option maxRecDepth 100000 in
theorem mL_cell : ZM yL_cell cL_cell 2 (some FieldType.int) 2 := ⟨z_tab1 (i := 593) (by rfl), ⟨by decide +kernel, z_tab1 (i := 0) (by decide +kernel)⟩, by decide, by decide +kernel, by decide +kernel, by decide +kernel⟩
set_option maxRecDepth 100000 in
theorem mL_up : ZM yL_up cL_up 2 (some FieldType.int) 2 := ⟨z_tab1 (i := 597) (by rfl), ⟨by decide +kernel, z_tab1 (i := 0) (by decide +kernel)⟩, by decide, by decide +kernel, by decide +kernel, by decide +kernel⟩
set_option maxRecDepth 100000 in
theorem mL_fails : ZM yL_fails cL_fails 7 (some FieldType.boolean) 4 := ⟨z_tab1 (i := 601) (by rfl), ⟨by decide +kernel, z_tab1 (i := 0) (by decide +kernel)⟩, by decide, by decide +kernel, by decide +kernel, by decide +kernel⟩
theorem mX9_question : ZM yX9_question cX9_question 3 (some FieldType.int) 2 := ⟨z_tab1 (i := 605) (by decide +kernel), ⟨by decide +kernel, z_tab1 (i := 1) (by decide +kernel)⟩, by decide, by decide +kernel, by decide +kernel, by decide +kernel⟩
theorem mX9_at : ZM yX9_at cX9_at 5 (some FieldType.int) 3 := ⟨z_tab1 (i := 609) (by decide +kernel), ⟨by decide +kernel, z_tab1 (i := 1) (by decide +kernel)⟩, by decide, by decide +kernel, by decide +kernel, by decide +kernel⟩
theorem mX4_hasPlace : ZM yX4_hasPlace cX4_hasPlace 2 (some FieldType.boolean) 1 := ⟨z_tab1 (i := 613) (by decide +kernel), ⟨by decide +kernel, z_tab1 (i := 9) (by decide +kernel)⟩, by decide, by decide +kernel, by decide +kernel, by decide +kernel⟩
theorem mX9_where : ZM yX9_where cX9_where 4 (some FieldType.int) 2 := ⟨z_tab1 (i := 617) (by decide +kernel), ⟨by decide +kernel, z_tab1 (i := 1) (by decide +kernel)⟩, by decide, by decide +kernel, by decide +kernel, by decide +kernel⟩
theorem mX9_choice : ZM yX9_choice cX9_choice 5 (some FieldType.int) 3 := ⟨z_tab1 (i := 621) (by decide +kernel), ⟨by decide +kernel, z_tab1 (i := 1) (by decide +kernel)⟩, by decide, by decide +kernel, by decide +kernel, by decide +kernel⟩
theorem mX9_pages : ZM yX9_pages cX9_pages 3 (some FieldType.int) 1 := ⟨z_tab1 (i := 627) (by decide +kernel), ⟨by decide +kernel, z_tab1 (i := 1) (by decide +kernel)⟩, by decide, by decide +kernel, by decide +kernel, by decide +kernel⟩
theorem mX9_page : ZM yX9_page cX9_page 5 (some FieldType.int) 3 := ⟨z_tab1 (i := 631) (by decide +kernel), ⟨by decide +kernel, z_tab1 (i := 1) (by decide +kernel)⟩, by decide, by decide +kernel, by decide +kernel, by decide +kernel⟩
theorem mX9_result : ZM yX9_result cX9_result 3 (some FieldType.int) 2 := ⟨z_tab1 (i := 635) (by decide +kernel), ⟨by decide +kernel, z_tab1 (i := 1) (by decide +kernel)⟩, by decide, by decide +kernel, by decide +kernel, by decide +kernel⟩
theorem mX7_has : ZM yX7_has cX7_has 2 (some FieldType.boolean) 1 := ⟨z_tab1 (i := 639) (by decide +kernel), ⟨by decide +kernel, z_tab1 (i := 5) (by decide +kernel)⟩, by decide, by decide +kernel, by decide +kernel, by decide +kernel⟩
theorem mX9_answer : ZM yX9_answer cX9_answer 4 (some FieldType.int) 2 := ⟨z_tab1 (i := 643) (by decide +kernel), ⟨by decide +kernel, z_tab1 (i := 1) (by decide +kernel)⟩, by decide, by decide +kernel, by decide +kernel, by decide +kernel⟩
theorem mX9_about : ZM yX9_about cX9_about 6 (some FieldType.int) 2 := ⟨z_tab1 (i := 647) (by decide +kernel), ⟨by decide +kernel, z_tab1 (i := 1) (by decide +kernel)⟩, by decide, by decide +kernel, by decide +kernel, by decide +kernel⟩
theorem mX7_pickers : ZM yX7_pickers cX7_pickers 5 (some FieldType.int) 2 := ⟨z_tab1 (i := 651) (by decide +kernel), ⟨by decide +kernel, z_tab1 (i := 5) (by decide +kernel)⟩, by decide, by decide +kernel, by decide +kernel, by decide +kernel⟩
theorem mX9_favoriteWrong : ZM yX9_favoriteWrong cX9_favoriteWrong 7 (some FieldType.int) 2 := ⟨z_tab1 (i := 656) (by decide +kernel), ⟨by decide +kernel, z_tab1 (i := 1) (by decide +kernel)⟩, by decide, by decide +kernel, by decide +kernel, by decide +kernel⟩
theorem mX9_parting : ZM yX9_parting cX9_parting 7 (some FieldType.float) 1 := ⟨z_tab1 (i := 660) (by decide +kernel), ⟨by decide +kernel, z_tab1 (i := 1) (by decide +kernel)⟩, by decide, by decide +kernel, by decide +kernel, by decide +kernel⟩
theorem mX7_standing : ZM yX7_standing cX7_standing 5 (some FieldType.int) 1 := ⟨z_tab1 (i := 665) (by decide +kernel), ⟨by decide +kernel, z_tab1 (i := 5) (by decide +kernel)⟩, by decide, by decide +kernel, by decide +kernel, by decide +kernel⟩
theorem mX9_sameWrong : ZM yX9_sameWrong cX9_sameWrong 3 (some FieldType.int) 2 := ⟨z_tab1 (i := 670) (by decide +kernel), ⟨by decide +kernel, z_tab1 (i := 1) (by decide +kernel)⟩, by decide, by decide +kernel, by decide +kernel, by decide +kernel⟩
theorem mX9_mistaken : ZM yX9_mistaken cX9_mistaken 7 (some FieldType.int) 2 := ⟨z_tab1 (i := 674) (by decide +kernel), ⟨by decide +kernel, z_tab1 (i := 1) (by decide +kernel)⟩, by decide, by decide +kernel, by decide +kernel, by decide +kernel⟩
theorem mX7_mark : ZM yX7_mark cX7_mark 3 (some FieldType.int) 2 := ⟨z_tab1 (i := 678) (by decide +kernel), ⟨by decide +kernel, z_tab1 (i := 5) (by decide +kernel)⟩, by decide, by decide +kernel, by decide +kernel, by decide +kernel⟩
set_option maxRecDepth 100000 in
theorem mL_version : ZM yL_version cL_version 13 (some FieldType.boolean) 3 := ⟨z_tab1 (i := 682) (by rfl), ⟨by decide +kernel, z_tab1 (i := 0) (by decide +kernel)⟩, by decide, by decide +kernel, by decide +kernel, by decide +kernel⟩
set_option maxRecDepth 100000 in
theorem mL_pages : ZM yL_pages cL_pages 10 (some FieldType.boolean) 3 := ⟨z_tab1 (i := 685) (by rfl), ⟨by decide +kernel, z_tab1 (i := 0) (by decide +kernel)⟩, by decide, by decide +kernel, by decide +kernel, by decide +kernel⟩
set_option maxRecDepth 100000 in
theorem mL_sheets : ZM yL_sheets cL_sheets 10 (some FieldType.boolean) 3 := ⟨z_tab1 (i := 688) (by rfl), ⟨by decide +kernel, z_tab1 (i := 0) (by decide +kernel)⟩, by decide, by decide +kernel, by decide +kernel, by decide +kernel⟩
theorem nRL_10 : Cond.classLink RL 10 RX9 ∈ lw_tbl := z_tab1 (i := 13) (by decide +kernel)
theorem gRL_109 : ZN RL 109 yX9_init := ⟨Or.inl (z_tab1 (i := 15) (by decide +kernel)), z_tab1 (i := 16) (by decide +kernel), rfl⟩
theorem gRX9_1 : Cond.methodLink RX9 1 Lib.objectInit ∈ lw_tbl := z_tab1 (i := 18) (by decide +kernel)
theorem j_obj_instanceMethod : Cond.instanceMethod Lib.objectInit ∈ lw_tbl := z_tab1 (i := 19) (by decide +kernel)
theorem j_obj_code : Cond.code Lib.objectInit ⟨#[0xb1]⟩ 1 none ∈ lw_tbl := z_tab1 (i := 20) (by decide +kernel)
theorem nRX9_7 : Cond.classLink RX9 7 RX8 ∈ lw_tbl := z_tab1 (i := 21) (by decide +kernel)
theorem gRX9_9 : ZN RX9 9 yX8_init := ⟨Or.inr ⟨"TestVersions", z_tab1 (i := 23) (by decide +kernel)⟩, z_tab1 (i := 24) (by decide +kernel), rfl⟩
theorem gRX8_3 : Cond.methodLink RX8 3 Lib.objectInit ∈ lw_tbl := z_tab1 (i := 26) (by decide +kernel)
theorem nRX8_9 : Cond.classLink RX8 9 RX5 ∈ lw_tbl := z_tab1 (i := 27) (by decide +kernel)
theorem gRX8_11 : ZN RX8 11 yX5_init := ⟨Or.inr ⟨"TestVersions", z_tab1 (i := 29) (by decide +kernel)⟩, z_tab1 (i := 30) (by decide +kernel), rfl⟩
theorem gRX5_3 : Cond.methodLink RX5 3 Lib.objectInit ∈ lw_tbl := z_tab1 (i := 32) (by decide +kernel)
theorem nRX5_9 : Cond.classLink RX5 9 RX6 ∈ lw_tbl := z_tab1 (i := 33) (by decide +kernel)
theorem gRX5_11 : ZN RX5 11 yX6_init := ⟨Or.inl (z_tab1 (i := 35) (by decide +kernel)), z_tab1 (i := 36) (by decide +kernel), rfl⟩
theorem gRX6_1 : Cond.methodLink RX6 1 Lib.objectInit ∈ lw_tbl := z_tab1 (i := 38) (by decide +kernel)
theorem fRX6_7 : ZF RX6 7 6 0 (.array .int) true := ⟨_, _, _, rfl, by decide, Or.inl (z_tab1 (i := 39) (by decide +kernel)), rfl, by decide +kernel, rfl⟩
theorem eRX6_7 : ZFF RX6 7 6 0 (.array .int) := ⟨_, _, _, rfl, by decide, z_tab1 (i := 39) (by decide +kernel), rfl, by decide +kernel, rfl⟩
theorem zac : Cond.arrayClass .int ∈ lw_tbl := z_tab1 (i := 43) (by decide +kernel)
theorem fRX5_14 : ZF RX5 14 5 0 (.object "TestVersions$Row") true := ⟨_, _, _, rfl, by decide, Or.inl (z_tab1 (i := 44) (by decide +kernel)), rfl, by decide +kernel, rfl⟩
theorem eRX5_14 : ZFF RX5 14 5 0 (.object "TestVersions$Row") := ⟨_, _, _, rfl, by decide, z_tab1 (i := 44) (by decide +kernel), rfl, by decide +kernel, rfl⟩
theorem fRX9_80 : ZF RX9 80 5 1 .int false := ⟨_, _, _, rfl, by decide, Or.inr ⟨"TestVersions", z_tab1 (i := 45) (by decide +kernel)⟩, rfl, by decide +kernel, rfl⟩
theorem fRX3_61 : ZF RX3 61 5 1 .int false := ⟨_, _, _, rfl, by decide, Or.inr ⟨"TestVersions", z_tab1 (i := 46) (by decide +kernel)⟩, rfl, by decide +kernel, rfl⟩
theorem fRX5_20 : ZF RX5 20 5 1 .int false := ⟨_, _, _, rfl, by decide, Or.inl (z_tab1 (i := 47) (by decide +kernel)), rfl, by decide +kernel, rfl⟩
theorem nRX8_18 : Cond.classLink RX8 18 RX6 ∈ lw_tbl := z_tab1 (i := 53) (by decide +kernel)
theorem gRX8_20 : ZN RX8 20 yX6_init := ⟨Or.inl (z_tab1 (i := 54) (by decide +kernel)), z_tab1 (i := 36) (by decide +kernel), rfl⟩
theorem nRX8_27 : Cond.classLink RX8 27 RX7 ∈ lw_tbl := z_tab1 (i := 55) (by decide +kernel)
theorem gRX8_29 : ZN RX8 29 yX7_init := ⟨Or.inr ⟨"TestVersions", z_tab1 (i := 57) (by decide +kernel)⟩, z_tab1 (i := 58) (by decide +kernel), rfl⟩
theorem gRX7_3 : Cond.methodLink RX7 3 Lib.objectInit ∈ lw_tbl := z_tab1 (i := 60) (by decide +kernel)
theorem nRX7_9 : Cond.classLink RX7 9 RX6 ∈ lw_tbl := z_tab1 (i := 61) (by decide +kernel)
theorem gRX7_11 : ZN RX7 11 yX6_init := ⟨Or.inl (z_tab1 (i := 62) (by decide +kernel)), z_tab1 (i := 36) (by decide +kernel), rfl⟩
theorem fRX7_14 : ZF RX7 14 7 0 (.object "TestVersions$Row") true := ⟨_, _, _, rfl, by decide, Or.inl (z_tab1 (i := 63) (by decide +kernel)), rfl, by decide +kernel, rfl⟩
theorem eRX7_14 : ZFF RX7 14 7 0 (.object "TestVersions$Row") := ⟨_, _, _, rfl, by decide, z_tab1 (i := 63) (by decide +kernel), rfl, by decide +kernel, rfl⟩
theorem fRX7_20 : ZF RX7 20 7 1 (.object "TestVersions$Row") true := ⟨_, _, _, rfl, by decide, Or.inl (z_tab1 (i := 64) (by decide +kernel)), rfl, by decide +kernel, rfl⟩
theorem eRX7_20 : ZFF RX7 20 7 1 (.object "TestVersions$Row") := ⟨_, _, _, rfl, by decide, z_tab1 (i := 64) (by decide +kernel), rfl, by decide +kernel, rfl⟩
theorem fRX7_23 : ZF RX7 23 7 2 (.object "TestVersions$Row") true := ⟨_, _, _, rfl, by decide, Or.inl (z_tab1 (i := 65) (by decide +kernel)), rfl, by decide +kernel, rfl⟩
theorem eRX7_23 : ZFF RX7 23 7 2 (.object "TestVersions$Row") := ⟨_, _, _, rfl, by decide, z_tab1 (i := 65) (by decide +kernel), rfl, by decide +kernel, rfl⟩
theorem fRX7_26 : ZF RX7 26 7 3 (.object "TestVersions$Row") true := ⟨_, _, _, rfl, by decide, Or.inl (z_tab1 (i := 66) (by decide +kernel)), rfl, by decide +kernel, rfl⟩
theorem eRX7_26 : ZFF RX7 26 7 3 (.object "TestVersions$Row") := ⟨_, _, _, rfl, by decide, z_tab1 (i := 66) (by decide +kernel), rfl, by decide +kernel, rfl⟩
theorem fRX7_29 : ZF RX7 29 7 4 (.object "TestVersions$Row") true := ⟨_, _, _, rfl, by decide, Or.inl (z_tab1 (i := 67) (by decide +kernel)), rfl, by decide +kernel, rfl⟩
theorem eRX7_29 : ZFF RX7 29 7 4 (.object "TestVersions$Row") := ⟨_, _, _, rfl, by decide, z_tab1 (i := 67) (by decide +kernel), rfl, by decide +kernel, rfl⟩
theorem fRX7_32 : ZF RX7 32 7 5 .int false := ⟨_, _, _, rfl, by decide, Or.inl (z_tab1 (i := 68) (by decide +kernel)), rfl, by decide +kernel, rfl⟩
theorem fRX9_70 : ZF RX9 70 7 5 .int false := ⟨_, _, _, rfl, by decide, Or.inr ⟨"TestVersions", z_tab1 (i := 69) (by decide +kernel)⟩, rfl, by decide +kernel, rfl⟩
theorem fRX8_12 : ZF RX8 12 8 0 (.object "TestVersions$Questions") true := ⟨_, _, _, rfl, by decide, Or.inl (z_tab1 (i := 83) (by decide +kernel)), rfl, by decide +kernel, rfl⟩
theorem eRX8_12 : ZFF RX8 12 8 0 (.object "TestVersions$Questions") := ⟨_, _, _, rfl, by decide, z_tab1 (i := 83) (by decide +kernel), rfl, by decide +kernel, rfl⟩
theorem fRX9_76 : ZF RX9 76 8 0 (.object "TestVersions$Questions") true := ⟨_, _, _, rfl, by decide, Or.inr ⟨"TestVersions", z_tab1 (i := 84) (by decide +kernel)⟩, rfl, by decide +kernel, rfl⟩
theorem fRX8_23 : ZF RX8 23 8 1 (.object "TestVersions$Row") true := ⟨_, _, _, rfl, by decide, Or.inl (z_tab1 (i := 85) (by decide +kernel)), rfl, by decide +kernel, rfl⟩
theorem eRX8_23 : ZFF RX8 23 8 1 (.object "TestVersions$Row") := ⟨_, _, _, rfl, by decide, z_tab1 (i := 85) (by decide +kernel), rfl, by decide +kernel, rfl⟩
theorem fRX9_106 : ZF RX9 106 8 1 (.object "TestVersions$Row") true := ⟨_, _, _, rfl, by decide, Or.inr ⟨"TestVersions", z_tab1 (i := 86) (by decide +kernel)⟩, rfl, by decide +kernel, rfl⟩
theorem fRX8_30 : ZF RX8 30 8 2 (.object "TestVersions$Sheets") true := ⟨_, _, _, rfl, by decide, Or.inl (z_tab1 (i := 87) (by decide +kernel)), rfl, by decide +kernel, rfl⟩
theorem eRX8_30 : ZFF RX8 30 8 2 (.object "TestVersions$Sheets") := ⟨_, _, _, rfl, by decide, z_tab1 (i := 87) (by decide +kernel), rfl, by decide +kernel, rfl⟩
theorem fRX9_66 : ZF RX9 66 8 2 (.object "TestVersions$Sheets") true := ⟨_, _, _, rfl, by decide, Or.inr ⟨"TestVersions", z_tab1 (i := 88) (by decide +kernel)⟩, rfl, by decide +kernel, rfl⟩
theorem fRX8_48 : ZF RX8 48 8 3 .int false := ⟨_, _, _, rfl, by decide, Or.inl (z_tab1 (i := 89) (by decide +kernel)), rfl, by decide +kernel, rfl⟩
theorem fRX9_103 : ZF RX9 103 8 3 .int false := ⟨_, _, _, rfl, by decide, Or.inr ⟨"TestVersions", z_tab1 (i := 90) (by decide +kernel)⟩, rfl, by decide +kernel, rfl⟩
theorem fRX8_34 : ZF RX8 34 8 4 .int false := ⟨_, _, _, rfl, by decide, Or.inl (z_tab1 (i := 91) (by decide +kernel)), rfl, by decide +kernel, rfl⟩
theorem fRX9_157 : ZF RX9 157 8 4 .int false := ⟨_, _, _, rfl, by decide, Or.inr ⟨"TestVersions", z_tab1 (i := 92) (by decide +kernel)⟩, rfl, by decide +kernel, rfl⟩
theorem nRX9_16 : Cond.classLink RX9 16 RX0 ∈ lw_tbl := z_tab1 (i := 104) (by decide +kernel)
theorem gRX9_18 : ZN RX9 18 yX0_init := ⟨Or.inl (z_tab1 (i := 106) (by decide +kernel)), z_tab1 (i := 107) (by decide +kernel), rfl⟩
theorem gRX0_3 : Cond.methodLink RX0 3 Lib.objectInit ∈ lw_tbl := z_tab1 (i := 109) (by decide +kernel)
theorem nRX0_9 : Cond.classLink RX0 9 RX8 ∈ lw_tbl := z_tab1 (i := 110) (by decide +kernel)
theorem gRX0_17 : ZN RX0 17 yX8_init := ⟨Or.inr ⟨"TestVersions", z_tab1 (i := 112) (by decide +kernel)⟩, z_tab1 (i := 24) (by decide +kernel), rfl⟩
theorem fRX0_11 : ZF RX0 11 0 0 (.array (.object "TestVersions$State")) true := ⟨_, _, _, rfl, by decide, Or.inl (z_tab1 (i := 113) (by decide +kernel)), rfl, by decide +kernel, rfl⟩
theorem eRX0_11 : ZFF RX0 11 0 0 (.array (.object "TestVersions$State")) := ⟨_, _, _, rfl, by decide, z_tab1 (i := 113) (by decide +kernel), rfl, by decide +kernel, rfl⟩
theorem fRX0_22 : ZF RX0 22 0 1 .int false := ⟨_, _, _, rfl, by decide, Or.inl (z_tab1 (i := 114) (by decide +kernel)), rfl, by decide +kernel, rfl⟩
theorem fRX0_18 : ZF RX0 18 0 2 .int false := ⟨_, _, _, rfl, by decide, Or.inl (z_tab1 (i := 115) (by decide +kernel)), rfl, by decide +kernel, rfl⟩
theorem fRX9_219 : ZF RX9 219 0 2 .int false := ⟨_, _, _, rfl, by decide, Or.inr ⟨"TestVersions", z_tab1 (i := 116) (by decide +kernel)⟩, rfl, by decide +kernel, rfl⟩
theorem nRX9_23 : Cond.classLink RX9 23 RX3 ∈ lw_tbl := z_tab1 (i := 124) (by decide +kernel)
theorem gRX9_25 : ZN RX9 25 yX3_init := ⟨Or.inr ⟨"TestVersions", z_tab1 (i := 126) (by decide +kernel)⟩, z_tab1 (i := 127) (by decide +kernel), rfl⟩
theorem gRX3_3 : Cond.methodLink RX3 3 Lib.objectInit ∈ lw_tbl := z_tab1 (i := 129) (by decide +kernel)
theorem nRX3_9 : Cond.classLink RX3 9 RX2 ∈ lw_tbl := z_tab1 (i := 130) (by decide +kernel)
theorem gRX3_11 : ZN RX3 11 yX2_init := ⟨Or.inr ⟨"TestVersions", z_tab1 (i := 132) (by decide +kernel)⟩, z_tab1 (i := 133) (by decide +kernel), rfl⟩
theorem gRX2_1 : Cond.methodLink RX2 1 Lib.objectInit ∈ lw_tbl := z_tab1 (i := 135) (by decide +kernel)
theorem fRX2_7 : ZF RX2 7 2 0 .int false := ⟨_, _, _, rfl, by decide, Or.inl (z_tab1 (i := 136) (by decide +kernel)), rfl, by decide +kernel, rfl⟩
theorem nRX3_18 : Cond.classLink RX3 18 RX6 ∈ lw_tbl := z_tab1 (i := 140) (by decide +kernel)
theorem gRX3_20 : ZN RX3 20 yX6_init := ⟨Or.inl (z_tab1 (i := 141) (by decide +kernel)), z_tab1 (i := 36) (by decide +kernel), rfl⟩
theorem fRX3_12 : ZF RX3 12 3 0 (.object "TestVersions$Lots") true := ⟨_, _, _, rfl, by decide, Or.inl (z_tab1 (i := 142) (by decide +kernel)), rfl, by decide +kernel, rfl⟩
theorem eRX3_12 : ZFF RX3 12 3 0 (.object "TestVersions$Lots") := ⟨_, _, _, rfl, by decide, z_tab1 (i := 142) (by decide +kernel), rfl, by decide +kernel, rfl⟩
theorem fRX3_23 : ZF RX3 23 3 1 (.object "TestVersions$Row") true := ⟨_, _, _, rfl, by decide, Or.inl (z_tab1 (i := 143) (by decide +kernel)), rfl, by decide +kernel, rfl⟩
theorem eRX3_23 : ZFF RX3 23 3 1 (.object "TestVersions$Row") := ⟨_, _, _, rfl, by decide, z_tab1 (i := 143) (by decide +kernel), rfl, by decide +kernel, rfl⟩
theorem fRX3_27 : ZF RX3 27 3 2 (.object "TestVersions$Row") true := ⟨_, _, _, rfl, by decide, Or.inl (z_tab1 (i := 144) (by decide +kernel)), rfl, by decide +kernel, rfl⟩
theorem eRX3_27 : ZFF RX3 27 3 2 (.object "TestVersions$Row") := ⟨_, _, _, rfl, by decide, z_tab1 (i := 144) (by decide +kernel), rfl, by decide +kernel, rfl⟩
theorem fRX3_30 : ZF RX3 30 3 3 (.object "TestVersions$Row") true := ⟨_, _, _, rfl, by decide, Or.inl (z_tab1 (i := 145) (by decide +kernel)), rfl, by decide +kernel, rfl⟩
theorem eRX3_30 : ZFF RX3 30 3 3 (.object "TestVersions$Row") := ⟨_, _, _, rfl, by decide, z_tab1 (i := 145) (by decide +kernel), rfl, by decide +kernel, rfl⟩
theorem nRX9_30 : Cond.classLink RX9 30 RX4 ∈ lw_tbl := z_tab1 (i := 155) (by decide +kernel)
theorem gRX9_36 : ZN RX9 36 yX4_init := ⟨Or.inr ⟨"TestVersions", z_tab1 (i := 158) (by decide +kernel)⟩, z_tab1 (i := 159) (by decide +kernel), rfl⟩
theorem gRX4_3 : Cond.methodLink RX4 3 Lib.objectInit ∈ lw_tbl := z_tab1 (i := 161) (by decide +kernel)
theorem nRX4_9 : Cond.classLink RX4 9 RX6 ∈ lw_tbl := z_tab1 (i := 162) (by decide +kernel)
theorem gRX4_11 : ZN RX4 11 yX6_init := ⟨Or.inl (z_tab1 (i := 163) (by decide +kernel)), z_tab1 (i := 36) (by decide +kernel), rfl⟩
theorem nRX4_29 : Cond.classLink RX4 29 RX1 ∈ lw_tbl := z_tab1 (i := 164) (by decide +kernel)
theorem gRX4_31 : ZN RX4 31 yX1_init := ⟨Or.inr ⟨"TestVersions", z_tab1 (i := 166) (by decide +kernel)⟩, z_tab1 (i := 167) (by decide +kernel), rfl⟩
theorem gRX1_3 : Cond.methodLink RX1 3 Lib.objectInit ∈ lw_tbl := z_tab1 (i := 169) (by decide +kernel)
theorem nRX1_9 : Cond.classLink RX1 9 RX6 ∈ lw_tbl := z_tab1 (i := 170) (by decide +kernel)
theorem gRX1_11 : ZN RX1 11 yX6_init := ⟨Or.inl (z_tab1 (i := 171) (by decide +kernel)), z_tab1 (i := 36) (by decide +kernel), rfl⟩
theorem fRX1_14 : ZF RX1 14 1 0 (.object "TestVersions$Row") true := ⟨_, _, _, rfl, by decide, Or.inl (z_tab1 (i := 172) (by decide +kernel)), rfl, by decide +kernel, rfl⟩
theorem eRX1_14 : ZFF RX1 14 1 0 (.object "TestVersions$Row") := ⟨_, _, _, rfl, by decide, z_tab1 (i := 172) (by decide +kernel), rfl, by decide +kernel, rfl⟩
theorem fRX1_20 : ZF RX1 20 1 1 (.object "TestVersions$Row") true := ⟨_, _, _, rfl, by decide, Or.inl (z_tab1 (i := 173) (by decide +kernel)), rfl, by decide +kernel, rfl⟩
theorem eRX1_20 : ZFF RX1 20 1 1 (.object "TestVersions$Row") := ⟨_, _, _, rfl, by decide, z_tab1 (i := 173) (by decide +kernel), rfl, by decide +kernel, rfl⟩
theorem fRX4_48 : ZF RX4 48 1 1 (.object "TestVersions$Row") true := ⟨_, _, _, rfl, by decide, Or.inr ⟨"TestVersions", z_tab1 (i := 174) (by decide +kernel)⟩, rfl, by decide +kernel, rfl⟩
theorem fRX1_23 : ZF RX1 23 1 2 (.object "TestVersions$Row") true := ⟨_, _, _, rfl, by decide, Or.inl (z_tab1 (i := 175) (by decide +kernel)), rfl, by decide +kernel, rfl⟩
theorem eRX1_23 : ZFF RX1 23 1 2 (.object "TestVersions$Row") := ⟨_, _, _, rfl, by decide, z_tab1 (i := 175) (by decide +kernel), rfl, by decide +kernel, rfl⟩
theorem fRX4_51 : ZF RX4 51 1 2 (.object "TestVersions$Row") true := ⟨_, _, _, rfl, by decide, Or.inr ⟨"TestVersions", z_tab1 (i := 176) (by decide +kernel)⟩, rfl, by decide +kernel, rfl⟩
theorem fRX1_26 : ZF RX1 26 1 3 (.object "TestVersions$Row") true := ⟨_, _, _, rfl, by decide, Or.inl (z_tab1 (i := 177) (by decide +kernel)), rfl, by decide +kernel, rfl⟩
theorem eRX1_26 : ZFF RX1 26 1 3 (.object "TestVersions$Row") := ⟨_, _, _, rfl, by decide, z_tab1 (i := 177) (by decide +kernel), rfl, by decide +kernel, rfl⟩
theorem fRX9_169 : ZF RX9 169 1 3 (.object "TestVersions$Row") true := ⟨_, _, _, rfl, by decide, Or.inr ⟨"TestVersions", z_tab1 (i := 178) (by decide +kernel)⟩, rfl, by decide +kernel, rfl⟩
theorem fRX1_29 : ZF RX1 29 1 4 (.object "TestVersions$Row") true := ⟨_, _, _, rfl, by decide, Or.inl (z_tab1 (i := 179) (by decide +kernel)), rfl, by decide +kernel, rfl⟩
theorem eRX1_29 : ZFF RX1 29 1 4 (.object "TestVersions$Row") := ⟨_, _, _, rfl, by decide, z_tab1 (i := 179) (by decide +kernel), rfl, by decide +kernel, rfl⟩
theorem fRX9_172 : ZF RX9 172 1 4 (.object "TestVersions$Row") true := ⟨_, _, _, rfl, by decide, Or.inr ⟨"TestVersions", z_tab1 (i := 180) (by decide +kernel)⟩, rfl, by decide +kernel, rfl⟩
theorem fRX1_38 : ZF RX1 38 1 5 .int false := ⟨_, _, _, rfl, by decide, Or.inl (z_tab1 (i := 181) (by decide +kernel)), rfl, by decide +kernel, rfl⟩
theorem fRX1_61 : ZF RX1 61 1 6 .int false := ⟨_, _, _, rfl, by decide, Or.inl (z_tab1 (i := 182) (by decide +kernel)), rfl, by decide +kernel, rfl⟩
theorem fRX9_164 : ZF RX9 164 1 6 .int false := ⟨_, _, _, rfl, by decide, Or.inr ⟨"TestVersions", z_tab1 (i := 183) (by decide +kernel)⟩, rfl, by decide +kernel, rfl⟩
theorem fRX4_14 : ZF RX4 14 4 0 (.object "TestVersions$Row") true := ⟨_, _, _, rfl, by decide, Or.inl (z_tab1 (i := 199) (by decide +kernel)), rfl, by decide +kernel, rfl⟩
theorem eRX4_14 : ZFF RX4 14 4 0 (.object "TestVersions$Row") := ⟨_, _, _, rfl, by decide, z_tab1 (i := 199) (by decide +kernel), rfl, by decide +kernel, rfl⟩
theorem fRX1_41 : ZF RX1 41 4 0 (.object "TestVersions$Row") true := ⟨_, _, _, rfl, by decide, Or.inr ⟨"TestVersions", z_tab1 (i := 200) (by decide +kernel)⟩, rfl, by decide +kernel, rfl⟩
theorem fRX3_79 : ZF RX3 79 4 0 (.object "TestVersions$Row") true := ⟨_, _, _, rfl, by decide, Or.inr ⟨"TestVersions", z_tab1 (i := 201) (by decide +kernel)⟩, rfl, by decide +kernel, rfl⟩
theorem fRX7_51 : ZF RX7 51 4 0 (.object "TestVersions$Row") true := ⟨_, _, _, rfl, by decide, Or.inr ⟨"TestVersions", z_tab1 (i := 202) (by decide +kernel)⟩, rfl, by decide +kernel, rfl⟩
theorem fRX9_137 : ZF RX9 137 4 0 (.object "TestVersions$Row") true := ⟨_, _, _, rfl, by decide, Or.inr ⟨"TestVersions", z_tab1 (i := 203) (by decide +kernel)⟩, rfl, by decide +kernel, rfl⟩
theorem fRX4_20 : ZF RX4 20 4 1 (.object "TestVersions$Row") true := ⟨_, _, _, rfl, by decide, Or.inl (z_tab1 (i := 204) (by decide +kernel)), rfl, by decide +kernel, rfl⟩
theorem eRX4_20 : ZFF RX4 20 4 1 (.object "TestVersions$Row") := ⟨_, _, _, rfl, by decide, z_tab1 (i := 204) (by decide +kernel), rfl, by decide +kernel, rfl⟩
theorem fRX9_127 : ZF RX9 127 4 1 (.object "TestVersions$Row") true := ⟨_, _, _, rfl, by decide, Or.inr ⟨"TestVersions", z_tab1 (i := 205) (by decide +kernel)⟩, rfl, by decide +kernel, rfl⟩
theorem fRX4_23 : ZF RX4 23 4 2 (.object "TestVersions$Row") true := ⟨_, _, _, rfl, by decide, Or.inl (z_tab1 (i := 206) (by decide +kernel)), rfl, by decide +kernel, rfl⟩
theorem eRX4_23 : ZFF RX4 23 4 2 (.object "TestVersions$Row") := ⟨_, _, _, rfl, by decide, z_tab1 (i := 206) (by decide +kernel), rfl, by decide +kernel, rfl⟩
theorem fRX7_54 : ZF RX7 54 4 2 (.object "TestVersions$Row") true := ⟨_, _, _, rfl, by decide, Or.inr ⟨"TestVersions", z_tab1 (i := 207) (by decide +kernel)⟩, rfl, by decide +kernel, rfl⟩
theorem fRX3_93 : ZF RX3 93 4 2 (.object "TestVersions$Row") true := ⟨_, _, _, rfl, by decide, Or.inr ⟨"TestVersions", z_tab1 (i := 208) (by decide +kernel)⟩, rfl, by decide +kernel, rfl⟩
theorem fRX9_145 : ZF RX9 145 4 2 (.object "TestVersions$Row") true := ⟨_, _, _, rfl, by decide, Or.inr ⟨"TestVersions", z_tab1 (i := 209) (by decide +kernel)⟩, rfl, by decide +kernel, rfl⟩
theorem fRX4_26 : ZF RX4 26 4 3 (.object "TestVersions$Row") true := ⟨_, _, _, rfl, by decide, Or.inl (z_tab1 (i := 210) (by decide +kernel)), rfl, by decide +kernel, rfl⟩
theorem eRX4_26 : ZFF RX4 26 4 3 (.object "TestVersions$Row") := ⟨_, _, _, rfl, by decide, z_tab1 (i := 210) (by decide +kernel), rfl, by decide +kernel, rfl⟩
theorem fRX4_32 : ZF RX4 32 4 4 (.object "TestVersions$Layout") true := ⟨_, _, _, rfl, by decide, Or.inl (z_tab1 (i := 211) (by decide +kernel)), rfl, by decide +kernel, rfl⟩
theorem eRX4_32 : ZFF RX4 32 4 4 (.object "TestVersions$Layout") := ⟨_, _, _, rfl, by decide, z_tab1 (i := 211) (by decide +kernel), rfl, by decide +kernel, rfl⟩
theorem fRX9_160 : ZF RX9 160 4 4 (.object "TestVersions$Layout") true := ⟨_, _, _, rfl, by decide, Or.inr ⟨"TestVersions", z_tab1 (i := 212) (by decide +kernel)⟩, rfl, by decide +kernel, rfl⟩
theorem fRX1_32 : ZF RX1 32 4 5 .int false := ⟨_, _, _, rfl, by decide, Or.inr ⟨"TestVersions", z_tab1 (i := 213) (by decide +kernel)⟩, rfl, by decide +kernel, rfl⟩
theorem fRX4_36 : ZF RX4 36 4 5 .int false := ⟨_, _, _, rfl, by decide, Or.inl (z_tab1 (i := 214) (by decide +kernel)), rfl, by decide +kernel, rfl⟩
theorem fRX3_44 : ZF RX3 44 4 5 .int false := ⟨_, _, _, rfl, by decide, Or.inr ⟨"TestVersions", z_tab1 (i := 215) (by decide +kernel)⟩, rfl, by decide +kernel, rfl⟩
theorem fRX7_40 : ZF RX7 40 4 5 .int false := ⟨_, _, _, rfl, by decide, Or.inr ⟨"TestVersions", z_tab1 (i := 216) (by decide +kernel)⟩, rfl, by decide +kernel, rfl⟩
theorem fRX9_140 : ZF RX9 140 4 5 .int false := ⟨_, _, _, rfl, by decide, Or.inr ⟨"TestVersions", z_tab1 (i := 217) (by decide +kernel)⟩, rfl, by decide +kernel, rfl⟩
theorem fRX9_238 : ZF RX9 238 4 6 .boolean false := ⟨_, _, _, rfl, by decide, Or.inr ⟨"TestVersions", z_tab1 (i := 218) (by decide +kernel)⟩, rfl, by decide +kernel, rfl⟩
theorem nRX9_41 : Cond.classLink RX9 41 RX2 ∈ lw_tbl := z_tab1 (i := 234) (by decide +kernel)
theorem gRX9_43 : ZN RX9 43 yX2_init := ⟨Or.inr ⟨"TestVersions", z_tab1 (i := 235) (by decide +kernel)⟩, z_tab1 (i := 133) (by decide +kernel), rfl⟩
theorem nRX9_48 : Cond.classLink RX9 48 RX6 ∈ lw_tbl := z_tab1 (i := 236) (by decide +kernel)
theorem gRX9_50 : ZN RX9 50 yX6_init := ⟨Or.inl (z_tab1 (i := 237) (by decide +kernel)), z_tab1 (i := 36) (by decide +kernel), rfl⟩
theorem fRX9_10 : ZF RX9 10 9 0 (.object "TestVersions$State") true := ⟨_, _, _, rfl, by decide, Or.inl (z_tab1 (i := 238) (by decide +kernel)), rfl, by decide +kernel, rfl⟩
theorem eRX9_10 : ZFF RX9 10 9 0 (.object "TestVersions$State") := ⟨_, _, _, rfl, by decide, z_tab1 (i := 238) (by decide +kernel), rfl, by decide +kernel, rfl⟩
theorem fRX9_19 : ZF RX9 19 9 1 (.object "TestVersions$History") true := ⟨_, _, _, rfl, by decide, Or.inl (z_tab1 (i := 239) (by decide +kernel)), rfl, by decide +kernel, rfl⟩
theorem eRX9_19 : ZFF RX9 19 9 1 (.object "TestVersions$History") := ⟨_, _, _, rfl, by decide, z_tab1 (i := 239) (by decide +kernel), rfl, by decide +kernel, rfl⟩
theorem fRX9_26 : ZF RX9 26 9 2 (.object "TestVersions$Mixer") true := ⟨_, _, _, rfl, by decide, Or.inl (z_tab1 (i := 240) (by decide +kernel)), rfl, by decide +kernel, rfl⟩
theorem eRX9_26 : ZFF RX9 26 9 2 (.object "TestVersions$Mixer") := ⟨_, _, _, rfl, by decide, z_tab1 (i := 240) (by decide +kernel), rfl, by decide +kernel, rfl⟩
theorem fRX9_32 : ZF RX9 32 9 3 (.array (.object "TestVersions$Paper")) true := ⟨_, _, _, rfl, by decide, Or.inl (z_tab1 (i := 241) (by decide +kernel)), rfl, by decide +kernel, rfl⟩
theorem eRX9_32 : ZFF RX9 32 9 3 (.array (.object "TestVersions$Paper")) := ⟨_, _, _, rfl, by decide, z_tab1 (i := 241) (by decide +kernel), rfl, by decide +kernel, rfl⟩
theorem fRX9_37 : ZF RX9 37 9 4 (.object "TestVersions$Paper") true := ⟨_, _, _, rfl, by decide, Or.inl (z_tab1 (i := 242) (by decide +kernel)), rfl, by decide +kernel, rfl⟩
theorem eRX9_37 : ZFF RX9 37 9 4 (.object "TestVersions$Paper") := ⟨_, _, _, rfl, by decide, z_tab1 (i := 242) (by decide +kernel), rfl, by decide +kernel, rfl⟩
theorem fRX9_44 : ZF RX9 44 9 5 (.object "TestVersions$Lots") true := ⟨_, _, _, rfl, by decide, Or.inl (z_tab1 (i := 243) (by decide +kernel)), rfl, by decide +kernel, rfl⟩
theorem eRX9_44 : ZFF RX9 44 9 5 (.object "TestVersions$Lots") := ⟨_, _, _, rfl, by decide, z_tab1 (i := 243) (by decide +kernel), rfl, by decide +kernel, rfl⟩
theorem fRX9_53 : ZF RX9 53 9 6 (.object "TestVersions$Row") true := ⟨_, _, _, rfl, by decide, Or.inl (z_tab1 (i := 244) (by decide +kernel)), rfl, by decide +kernel, rfl⟩
theorem eRX9_53 : ZFF RX9 53 9 6 (.object "TestVersions$Row") := ⟨_, _, _, rfl, by decide, z_tab1 (i := 244) (by decide +kernel), rfl, by decide +kernel, rfl⟩
theorem fRX9_57 : ZF RX9 57 9 7 (.object "TestVersions$Row") true := ⟨_, _, _, rfl, by decide, Or.inl (z_tab1 (i := 245) (by decide +kernel)), rfl, by decide +kernel, rfl⟩
theorem eRX9_57 : ZFF RX9 57 9 7 (.object "TestVersions$Row") := ⟨_, _, _, rfl, by decide, z_tab1 (i := 245) (by decide +kernel), rfl, by decide +kernel, rfl⟩
theorem fRX9_175 : ZF RX9 175 9 8 .int false := ⟨_, _, _, rfl, by decide, Or.inl (z_tab1 (i := 246) (by decide +kernel)), rfl, by decide +kernel, rfl⟩
theorem gRL_15 : ZV RL 15 yX9_add := ⟨z_tab1 (i := 266) (by decide +kernel), z_tab1 (i := 267) (by decide +kernel), z_tab1 (i := 268) (by decide +kernel)⟩
theorem gRX9_60 : ZS RX9 60 yX5_allows := ⟨z_tab1 (i := 270) (by decide +kernel), z_tab1 (i := 271) (by decide +kernel)⟩
theorem gRX9_81 : ZV RX9 81 yX9_beginChange := ⟨z_tab1 (i := 273) (by decide +kernel), z_tab1 (i := 275) (by decide +kernel), z_tab0 (i := 0) (by decide +kernel)⟩
theorem gRX9_191 : ZV RX9 191 yX0_keep := ⟨z_tab1 (i := 277) (by decide +kernel), z_tab1 (i := 278) (by decide +kernel), z_tab1 (i := 279) (by decide +kernel)⟩
theorem gRX0_25 : ZV RX0 25 yX0_stateAt := ⟨z_tab1 (i := 281) (by decide +kernel), z_tab1 (i := 283) (by decide +kernel), z_tab0 (i := 1) (by decide +kernel)⟩
theorem gRX0_29 : ZV RX0 29 yX8_copy := ⟨z_tab1 (i := 285) (by decide +kernel), z_tab1 (i := 286) (by decide +kernel), z_tab1 (i := 287) (by decide +kernel)⟩
theorem gRX8_38 : ZV RX8 38 yX5_copy := ⟨z_tab1 (i := 289) (by decide +kernel), z_tab1 (i := 290) (by decide +kernel), z_tab1 (i := 291) (by decide +kernel)⟩
theorem gRX5_40 : ZV RX5 40 yX6_copy := ⟨z_tab1 (i := 293) (by decide +kernel), z_tab1 (i := 294) (by decide +kernel), z_tab1 (i := 295) (by decide +kernel)⟩
theorem gRX6_13 : Cond.methodLink RX6 13 Lib.Math.min.name ∈ lw_tbl := z_tab1 (i := 297) (by decide +kernel)
theorem j_min_static : Cond.static Lib.Math.min.name ∈ lw_tbl := z_tab1 (i := 298) (by decide +kernel)
theorem j_min_code : Cond.code Lib.Math.min.name Lib.Math.min.code 2 (some .int) ∈ lw_tbl := z_tab1 (i := 299) (by decide +kernel)
theorem gRX6_19 : Cond.methodLink RX6 19 arraycopyName ∈ lw_tbl := z_tab1 (i := 300) (by decide +kernel)
theorem j_acp_static : Cond.static arraycopyName ∈ lw_tbl := z_tab1 (i := 301) (by decide +kernel)
theorem j_acp_native : Cond.native arraycopyName ∈ lw_tbl := z_tab1 (i := 302) (by decide +kernel)
theorem gRX8_42 : ZV RX8 42 yX6_copy := ⟨z_tab1 (i := 303) (by decide +kernel), z_tab1 (i := 294) (by decide +kernel), z_tab1 (i := 295) (by decide +kernel)⟩
theorem gRX8_45 : ZV RX8 45 yX7_copy := ⟨z_tab1 (i := 304) (by decide +kernel), z_tab1 (i := 305) (by decide +kernel), z_tab1 (i := 306) (by decide +kernel)⟩
theorem gRX7_66 : ZV RX7 66 yX6_copy := ⟨z_tab1 (i := 308) (by decide +kernel), z_tab1 (i := 294) (by decide +kernel), z_tab1 (i := 295) (by decide +kernel)⟩
theorem gRX9_223 : ZV RX9 223 yX9_outdatePapers := ⟨z_tab1 (i := 309) (by decide +kernel), z_tab1 (i := 311) (by decide +kernel), z_tab0 (i := 2) (by decide +kernel)⟩
theorem gRX9_84 : ZV RX9 84 yX5_append := ⟨z_tab1 (i := 313) (by decide +kernel), z_tab1 (i := 314) (by decide +kernel), z_tab1 (i := 315) (by decide +kernel)⟩
theorem gRX5_32 : ZV RX5 32 yX5_put := ⟨z_tab1 (i := 317) (by decide +kernel), z_tab1 (i := 318) (by decide +kernel), z_tab1 (i := 319) (by decide +kernel)⟩
theorem gRX5_28 : ZV RX5 28 yX6_set := ⟨z_tab1 (i := 321) (by decide +kernel), z_tab1 (i := 322) (by decide +kernel), z_tab1 (i := 323) (by decide +kernel)⟩
theorem gRL_21 : ZV RL 21 yX9_remove := ⟨z_tab1 (i := 325) (by decide +kernel), z_tab1 (i := 326) (by decide +kernel), z_tab1 (i := 327) (by decide +kernel)⟩
theorem gRX9_88 : ZV RX9 88 yX5_has := ⟨z_tab1 (i := 329) (by decide +kernel), z_tab1 (i := 330) (by decide +kernel), z_tab1 (i := 331) (by decide +kernel)⟩
theorem gRX9_92 : ZV RX9 92 yX5_delete := ⟨z_tab1 (i := 333) (by decide +kernel), z_tab1 (i := 334) (by decide +kernel), z_tab1 (i := 335) (by decide +kernel)⟩
theorem gRX5_36 : ZV RX5 36 yX5_number := ⟨z_tab1 (i := 337) (by decide +kernel), z_tab1 (i := 338) (by decide +kernel), z_tab1 (i := 339) (by decide +kernel)⟩
theorem gRX5_24 : ZV RX5 24 yX6_get := ⟨z_tab1 (i := 341) (by decide +kernel), z_tab1 (i := 342) (by decide +kernel), z_tab1 (i := 343) (by decide +kernel)⟩
theorem gRL_25 : ZV RL 25 yX9_change := ⟨z_tab1 (i := 345) (by decide +kernel), z_tab1 (i := 346) (by decide +kernel), z_tab1 (i := 347) (by decide +kernel)⟩
theorem gRX9_95 : ZV RX9 95 yX5_number := ⟨z_tab1 (i := 349) (by decide +kernel), z_tab1 (i := 338) (by decide +kernel), z_tab1 (i := 339) (by decide +kernel)⟩
theorem gRX9_99 : ZV RX9 99 yX5_put := ⟨z_tab1 (i := 350) (by decide +kernel), z_tab1 (i := 318) (by decide +kernel), z_tab1 (i := 319) (by decide +kernel)⟩
theorem gRL_113 : ZV RL 113 yX9_questions := ⟨z_tab1 (i := 351) (by decide +kernel), z_tab1 (i := 352) (by decide +kernel), z_tab1 (i := 353) (by decide +kernel)⟩
theorem gRL_89 : ZV RL 89 yX9_version := ⟨z_tab1 (i := 355) (by decide +kernel), z_tab1 (i := 356) (by decide +kernel), z_tab1 (i := 357) (by decide +kernel)⟩
theorem gRX9_109 : ZV RX9 109 yX6_set := ⟨z_tab1 (i := 359) (by decide +kernel), z_tab1 (i := 322) (by decide +kernel), z_tab1 (i := 323) (by decide +kernel)⟩
theorem gRL_92 : ZV RL 92 yX9_drop := ⟨z_tab1 (i := 360) (by decide +kernel), z_tab1 (i := 361) (by decide +kernel), z_tab1 (i := 362) (by decide +kernel)⟩
theorem kRX9_113 : Cond.constantLong RX9 113 (-1002 : Int64) ∈ lw_tbl := z_tab1 (i := 364) (by decide +kernel)
theorem gRX9_115 : ZV RX9 115 yX6_get := ⟨z_tab1 (i := 365) (by decide +kernel), z_tab1 (i := 342) (by decide +kernel), z_tab1 (i := 343) (by decide +kernel)⟩
theorem gRL_116 : ZV RL 116 yX9_versions := ⟨z_tab1 (i := 366) (by decide +kernel), z_tab1 (i := 367) (by decide +kernel), z_tab1 (i := 368) (by decide +kernel)⟩
theorem gRL_42 : ZV RL 42 yX9_alike := ⟨z_tab1 (i := 370) (by decide +kernel), z_tab1 (i := 371) (by decide +kernel), z_tab1 (i := 372) (by decide +kernel)⟩
theorem gRX9_119 : ZV RX9 119 yX9_paperOf := ⟨z_tab1 (i := 374) (by decide +kernel), z_tab1 (i := 376) (by decide +kernel), z_tab0 (i := 3) (by decide +kernel)⟩
theorem gRX9_242 : ZV RX9 242 yX3_mix := ⟨z_tab1 (i := 378) (by decide +kernel), z_tab1 (i := 379) (by decide +kernel), z_tab1 (i := 380) (by decide +kernel)⟩
theorem gRX3_33 : ZV RX3 33 yX2_begin := ⟨z_tab1 (i := 382) (by decide +kernel), z_tab1 (i := 383) (by decide +kernel), z_tab1 (i := 384) (by decide +kernel)⟩
theorem gRX3_36 : ZV RX3 36 yX3_listUnits := ⟨z_tab1 (i := 386) (by decide +kernel), z_tab1 (i := 388) (by decide +kernel), z_tab0 (i := 4) (by decide +kernel)⟩
theorem gRX3_64 : ZV RX3 64 yX5_isFirstOfUnit := ⟨z_tab1 (i := 390) (by decide +kernel), z_tab1 (i := 391) (by decide +kernel), z_tab1 (i := 392) (by decide +kernel)⟩
theorem gRX3_68 : ZV RX3 68 yX6_set := ⟨z_tab1 (i := 394) (by decide +kernel), z_tab1 (i := 322) (by decide +kernel), z_tab1 (i := 323) (by decide +kernel)⟩
theorem gRX3_40 : ZV RX3 40 yX2_mix := ⟨z_tab1 (i := 395) (by decide +kernel), z_tab1 (i := 396) (by decide +kernel), z_tab1 (i := 397) (by decide +kernel)⟩
theorem gRX2_14 : ZV RX2 14 yX2_next := ⟨z_tab1 (i := 399) (by decide +kernel), z_tab1 (i := 400) (by decide +kernel), z_tab1 (i := 401) (by decide +kernel)⟩
theorem kRX2_13 : Cond.constant RX2 13 (1103515245 : Int32) ∈ lw_tbl := z_tab1 (i := 403) (by decide +kernel)
theorem gRX2_18 : ZV RX2 18 yX6_exchange := ⟨z_tab1 (i := 404) (by decide +kernel), z_tab1 (i := 405) (by decide +kernel), z_tab1 (i := 406) (by decide +kernel)⟩
theorem gRX3_50 : ZV RX3 50 yX6_get := ⟨z_tab1 (i := 408) (by decide +kernel), z_tab1 (i := 342) (by decide +kernel), z_tab1 (i := 343) (by decide +kernel)⟩
theorem gRX3_54 : ZV RX3 54 yX3_mixUnit := ⟨z_tab1 (i := 409) (by decide +kernel), z_tab1 (i := 411) (by decide +kernel), z_tab0 (i := 5) (by decide +kernel)⟩
theorem gRX3_72 : ZV RX3 72 yX5_together := ⟨z_tab1 (i := 413) (by decide +kernel), z_tab1 (i := 414) (by decide +kernel), z_tab1 (i := 415) (by decide +kernel)⟩
theorem gRX3_76 : ZV RX3 76 yX4_append := ⟨z_tab1 (i := 417) (by decide +kernel), z_tab1 (i := 418) (by decide +kernel), z_tab1 (i := 419) (by decide +kernel)⟩
theorem gRX4_40 : ZV RX4 40 yX6_set := ⟨z_tab1 (i := 421) (by decide +kernel), z_tab1 (i := 322) (by decide +kernel), z_tab1 (i := 323) (by decide +kernel)⟩
theorem gRX3_58 : ZV RX3 58 yX3_mixChoices := ⟨z_tab1 (i := 422) (by decide +kernel), z_tab1 (i := 424) (by decide +kernel), z_tab0 (i := 6) (by decide +kernel)⟩
theorem gRX3_82 : ZV RX3 82 yX5_number := ⟨z_tab1 (i := 426) (by decide +kernel), z_tab1 (i := 338) (by decide +kernel), z_tab1 (i := 339) (by decide +kernel)⟩
theorem gRX3_86 : ZV RX3 86 yX3_listLoose := ⟨z_tab1 (i := 427) (by decide +kernel), z_tab1 (i := 429) (by decide +kernel), z_tab0 (i := 7) (by decide +kernel)⟩
theorem gRX3_89 : ZV RX3 89 yX4_putChoice := ⟨z_tab1 (i := 431) (by decide +kernel), z_tab1 (i := 432) (by decide +kernel), z_tab1 (i := 433) (by decide +kernel)⟩
theorem gRX9_246 : ZV RX9 246 yX1_lay := ⟨z_tab1 (i := 435) (by decide +kernel), z_tab1 (i := 436) (by decide +kernel), z_tab1 (i := 437) (by decide +kernel)⟩
theorem gRX1_44 : ZV RX1 44 yX6_get := ⟨z_tab1 (i := 439) (by decide +kernel), z_tab1 (i := 342) (by decide +kernel), z_tab1 (i := 343) (by decide +kernel)⟩
theorem gRX1_48 : ZV RX1 48 yX5_number := ⟨z_tab1 (i := 440) (by decide +kernel), z_tab1 (i := 338) (by decide +kernel), z_tab1 (i := 339) (by decide +kernel)⟩
theorem gRX1_54 : ZV RX1 54 yX6_set := ⟨z_tab1 (i := 441) (by decide +kernel), z_tab1 (i := 322) (by decide +kernel), z_tab1 (i := 323) (by decide +kernel)⟩
theorem gRX1_58 : ZV RX1 58 yX1_pagesFrom := ⟨z_tab1 (i := 442) (by decide +kernel), z_tab1 (i := 444) (by decide +kernel), z_tab0 (i := 8) (by decide +kernel)⟩
theorem gRX1_64 : ZV RX1 64 yX1_lowestLimit := ⟨z_tab1 (i := 446) (by decide +kernel), z_tab1 (i := 448) (by decide +kernel), z_tab0 (i := 9) (by decide +kernel)⟩
theorem gRX1_75 : Cond.methodLink RX1 75 Lib.Math.max.name ∈ lw_tbl := z_tab1 (i := 450) (by decide +kernel)
theorem j_max_static : Cond.static Lib.Math.max.name ∈ lw_tbl := z_tab1 (i := 451) (by decide +kernel)
theorem j_max_code : Cond.code Lib.Math.max.name Lib.Math.max.code 2 (some .int) ∈ lw_tbl := z_tab1 (i := 452) (by decide +kernel)
theorem gRX1_67 : ZV RX1 67 yX1_earliestEnd := ⟨z_tab1 (i := 453) (by decide +kernel), z_tab1 (i := 455) (by decide +kernel), z_tab0 (i := 10) (by decide +kernel)⟩
theorem gRX1_71 : ZV RX1 71 yX1_fill := ⟨z_tab1 (i := 457) (by decide +kernel), z_tab1 (i := 459) (by decide +kernel), z_tab0 (i := 11) (by decide +kernel)⟩
theorem gRX9_141 : ZV RX9 141 yX6_countSame := ⟨z_tab1 (i := 461) (by decide +kernel), z_tab1 (i := 462) (by decide +kernel), z_tab1 (i := 463) (by decide +kernel)⟩
theorem gRX6_25 : ZV RX6 25 yX6_get := ⟨z_tab1 (i := 465) (by decide +kernel), z_tab1 (i := 342) (by decide +kernel), z_tab1 (i := 343) (by decide +kernel)⟩
theorem gRX9_148 : ZV RX9 148 yX4_neighborsIn := ⟨z_tab1 (i := 466) (by decide +kernel), z_tab1 (i := 467) (by decide +kernel), z_tab1 (i := 468) (by decide +kernel)⟩
theorem gRX4_44 : ZV RX4 44 yX6_get := ⟨z_tab1 (i := 470) (by decide +kernel), z_tab1 (i := 342) (by decide +kernel), z_tab1 (i := 343) (by decide +kernel)⟩
theorem gRL_45 : ZV RL 45 yX9_unlike := ⟨z_tab1 (i := 471) (by decide +kernel), z_tab1 (i := 472) (by decide +kernel), z_tab1 (i := 473) (by decide +kernel)⟩
theorem kRX9_152 : Cond.constantLong RX9 152 (-4611686018427387905 : Int64) ∈ lw_tbl := z_tab1 (i := 475) (by decide +kernel)
theorem gRX9_154 : ZV RX9 154 yX9_mostSameKeys := ⟨z_tab1 (i := 476) (by decide +kernel), z_tab1 (i := 478) (by decide +kernel), z_tab0 (i := 12) (by decide +kernel)⟩
theorem gRX9_250 : Cond.methodLink RX9 250 Lib.Math.max.name ∈ lw_tbl := z_tab1 (i := 480) (by decide +kernel)
theorem gRL_51 : ZV RL 51 yX9_setLines := ⟨z_tab1 (i := 481) (by decide +kernel), z_tab1 (i := 482) (by decide +kernel), z_tab1 (i := 483) (by decide +kernel)⟩
theorem gRL_60 : ZV RL 60 yX9_type := ⟨z_tab1 (i := 485) (by decide +kernel), z_tab1 (i := 486) (by decide +kernel), z_tab1 (i := 487) (by decide +kernel)⟩
theorem gRL_143 : ZV RL 143 yX9_clear := ⟨z_tab1 (i := 489) (by decide +kernel), z_tab1 (i := 490) (by decide +kernel), z_tab1 (i := 491) (by decide +kernel)⟩
theorem gRL_63 : ZV RL 63 yX9_sheet := ⟨z_tab1 (i := 493) (by decide +kernel), z_tab1 (i := 494) (by decide +kernel), z_tab1 (i := 495) (by decide +kernel)⟩
theorem gRX9_178 : ZV RX9 178 yX9_readTyped := ⟨z_tab1 (i := 497) (by decide +kernel), z_tab1 (i := 499) (by decide +kernel), z_tab0 (i := 13) (by decide +kernel)⟩
theorem gRX9_130 : ZV RX9 130 yX9_choicesAt := ⟨z_tab1 (i := 501) (by decide +kernel), z_tab1 (i := 503) (by decide +kernel), z_tab0 (i := 14) (by decide +kernel)⟩
theorem gRX9_255 : ZS RX9 255 yX9_markOf := ⟨z_tab1 (i := 505) (by decide +kernel), z_tab1 (i := 506) (by decide +kernel)⟩
theorem gRX9_181 : ZV RX9 181 yX9_handIn := ⟨z_tab1 (i := 508) (by decide +kernel), z_tab1 (i := 510) (by decide +kernel), z_tab0 (i := 15) (by decide +kernel)⟩
theorem gRX9_258 : ZV RX9 258 yX7_append := ⟨z_tab1 (i := 512) (by decide +kernel), z_tab1 (i := 513) (by decide +kernel), z_tab1 (i := 514) (by decide +kernel)⟩
theorem gRX7_36 : ZV RX7 36 yX6_get := ⟨z_tab1 (i := 516) (by decide +kernel), z_tab1 (i := 342) (by decide +kernel), z_tab1 (i := 343) (by decide +kernel)⟩
theorem gRX7_43 : ZV RX7 43 yX4_choiceAt := ⟨z_tab1 (i := 517) (by decide +kernel), z_tab1 (i := 518) (by decide +kernel), z_tab1 (i := 519) (by decide +kernel)⟩
theorem gRX7_47 : ZV RX7 47 yX6_set := ⟨z_tab1 (i := 521) (by decide +kernel), z_tab1 (i := 322) (by decide +kernel), z_tab1 (i := 323) (by decide +kernel)⟩
theorem gRL_66 : ZV RL 66 yX9_guess := ⟨z_tab1 (i := 522) (by decide +kernel), z_tab1 (i := 523) (by decide +kernel), z_tab1 (i := 524) (by decide +kernel)⟩
theorem gRX9_185 : ZV RX9 185 yX2_begin := ⟨z_tab1 (i := 526) (by decide +kernel), z_tab1 (i := 383) (by decide +kernel), z_tab1 (i := 384) (by decide +kernel)⟩
theorem gRX9_188 : ZV RX9 188 yX2_next := ⟨z_tab1 (i := 527) (by decide +kernel), z_tab1 (i := 400) (by decide +kernel), z_tab1 (i := 401) (by decide +kernel)⟩
theorem gRL_119 : ZV RL 119 yX9_forget := ⟨z_tab1 (i := 528) (by decide +kernel), z_tab1 (i := 529) (by decide +kernel), z_tab1 (i := 530) (by decide +kernel)⟩
theorem gRL_105 : ZV RL 105 yX9_mean := ⟨z_tab1 (i := 532) (by decide +kernel), z_tab1 (i := 533) (by decide +kernel), z_tab1 (i := 534) (by decide +kernel)⟩
theorem gRX9_210 : ZV RX9 210 yX7_points := ⟨z_tab1 (i := 536) (by decide +kernel), z_tab1 (i := 537) (by decide +kernel), z_tab1 (i := 538) (by decide +kernel)⟩
theorem gRL_101 : ZV RL 101 yX9_suspects := ⟨z_tab1 (i := 540) (by decide +kernel), z_tab1 (i := 541) (by decide +kernel), z_tab1 (i := 542) (by decide +kernel)⟩
theorem gRX9_213 : ZV RX9 213 yX9_countSameWrong := ⟨z_tab1 (i := 544) (by decide +kernel), z_tab1 (i := 546) (by decide +kernel), z_tab0 (i := 16) (by decide +kernel)⟩
theorem gRX9_197 : ZV RX9 197 yX7_pick := ⟨z_tab1 (i := 548) (by decide +kernel), z_tab1 (i := 549) (by decide +kernel), z_tab1 (i := 550) (by decide +kernel)⟩
theorem gRL_110 : ZV RL 110 yX9_undo := ⟨z_tab1 (i := 552) (by decide +kernel), z_tab1 (i := 553) (by decide +kernel), z_tab1 (i := 554) (by decide +kernel)⟩
theorem gRX9_220 : ZV RX9 220 yX0_restore := ⟨z_tab1 (i := 556) (by decide +kernel), z_tab1 (i := 557) (by decide +kernel), z_tab1 (i := 558) (by decide +kernel)⟩
theorem gRL_9 : ZV RL 9 yX9_fingerprint := ⟨z_tab1 (i := 560) (by decide +kernel), z_tab1 (i := 561) (by decide +kernel), z_tab1 (i := 562) (by decide +kernel)⟩
theorem kRX9_226 : Cond.constantLong RX9 226 (181 : Int64) ∈ lw_tbl := z_tab1 (i := 564) (by decide +kernel)
theorem gRX9_228 : ZV RX9 228 yX9_printQuestions := ⟨z_tab1 (i := 565) (by decide +kernel), z_tab1 (i := 567) (by decide +kernel), z_tab0 (i := 17) (by decide +kernel)⟩
theorem kRX9_261 : Cond.constantLong RX9 261 (31 : Int64) ∈ lw_tbl := z_tab1 (i := 569) (by decide +kernel)
theorem gRX9_232 : ZV RX9 232 yX9_printVersions := ⟨z_tab1 (i := 570) (by decide +kernel), z_tab1 (i := 572) (by decide +kernel), z_tab0 (i := 18) (by decide +kernel)⟩
theorem gRX9_126 : ZV RX9 126 yX4_number := ⟨z_tab1 (i := 574) (by decide +kernel), z_tab1 (i := 575) (by decide +kernel), z_tab1 (i := 576) (by decide +kernel)⟩
theorem gRX9_235 : ZV RX9 235 yX9_printSheets := ⟨z_tab1 (i := 578) (by decide +kernel), z_tab1 (i := 580) (by decide +kernel), z_tab0 (i := 19) (by decide +kernel)⟩
theorem gRX9_196 : ZV RX9 196 yX7_number := ⟨z_tab1 (i := 582) (by decide +kernel), z_tab1 (i := 583) (by decide +kernel), z_tab1 (i := 584) (by decide +kernel)⟩
theorem gRX7_57 : ZV RX7 57 yX7_points := ⟨z_tab1 (i := 586) (by decide +kernel), z_tab1 (i := 537) (by decide +kernel), z_tab1 (i := 538) (by decide +kernel)⟩
theorem gRX7_60 : ZV RX7 60 yX7_betterThan := ⟨z_tab1 (i := 587) (by decide +kernel), z_tab1 (i := 589) (by decide +kernel), z_tab0 (i := 20) (by decide +kernel)⟩
theorem gRL_128 : ZS RL 128 yL_cell := ⟨z_tab1 (i := 591) (by decide +kernel), z_tab1 (i := 592) (by decide +kernel)⟩
theorem kRL_7 : Cond.constant RL 7 (763049417 : Int32) ∈ lw_tbl := z_tab1 (i := 594) (by decide +kernel)
theorem gRL_132 : ZS RL 132 yL_up := ⟨z_tab1 (i := 595) (by decide +kernel), z_tab1 (i := 596) (by decide +kernel)⟩
theorem kRL_8 : Cond.constant RL 8 (2147483647 : Int32) ∈ lw_tbl := z_tab1 (i := 598) (by decide +kernel)
theorem gRL_124 : ZS RL 124 yL_fails := ⟨z_tab1 (i := 599) (by decide +kernel), z_tab1 (i := 600) (by decide +kernel)⟩
theorem gRL_29 : ZV RL 29 yX9_question := ⟨z_tab1 (i := 602) (by decide +kernel), z_tab1 (i := 603) (by decide +kernel), z_tab1 (i := 604) (by decide +kernel)⟩
theorem gRL_33 : ZV RL 33 yX9_at := ⟨z_tab1 (i := 606) (by decide +kernel), z_tab1 (i := 607) (by decide +kernel), z_tab1 (i := 608) (by decide +kernel)⟩
theorem gRX9_123 : ZV RX9 123 yX4_hasPlace := ⟨z_tab1 (i := 610) (by decide +kernel), z_tab1 (i := 611) (by decide +kernel), z_tab1 (i := 612) (by decide +kernel)⟩
theorem gRL_36 : ZV RL 36 yX9_where := ⟨z_tab1 (i := 614) (by decide +kernel), z_tab1 (i := 615) (by decide +kernel), z_tab1 (i := 616) (by decide +kernel)⟩
theorem gRL_39 : ZV RL 39 yX9_choice := ⟨z_tab1 (i := 618) (by decide +kernel), z_tab1 (i := 619) (by decide +kernel), z_tab1 (i := 620) (by decide +kernel)⟩
theorem gRX9_134 : ZV RX9 134 yX4_choiceAt := ⟨z_tab1 (i := 622) (by decide +kernel), z_tab1 (i := 518) (by decide +kernel), z_tab1 (i := 519) (by decide +kernel)⟩
theorem kRL_49 : Cond.constantLong RL 49 (-4611686018427387905 : Int64) ∈ lw_tbl := z_tab1 (i := 623) (by decide +kernel)
theorem gRL_54 : ZV RL 54 yX9_pages := ⟨z_tab1 (i := 624) (by decide +kernel), z_tab1 (i := 625) (by decide +kernel), z_tab1 (i := 626) (by decide +kernel)⟩
theorem gRL_57 : ZV RL 57 yX9_page := ⟨z_tab1 (i := 628) (by decide +kernel), z_tab1 (i := 629) (by decide +kernel), z_tab1 (i := 630) (by decide +kernel)⟩
theorem gRL_69 : ZV RL 69 yX9_result := ⟨z_tab1 (i := 632) (by decide +kernel), z_tab1 (i := 633) (by decide +kernel), z_tab1 (i := 634) (by decide +kernel)⟩
theorem gRX9_195 : ZV RX9 195 yX7_has := ⟨z_tab1 (i := 636) (by decide +kernel), z_tab1 (i := 637) (by decide +kernel), z_tab1 (i := 638) (by decide +kernel)⟩
theorem gRL_72 : ZV RL 72 yX9_answer := ⟨z_tab1 (i := 640) (by decide +kernel), z_tab1 (i := 641) (by decide +kernel), z_tab1 (i := 642) (by decide +kernel)⟩
theorem gRL_75 : ZV RL 75 yX9_about := ⟨z_tab1 (i := 644) (by decide +kernel), z_tab1 (i := 645) (by decide +kernel), z_tab1 (i := 646) (by decide +kernel)⟩
theorem gRX9_200 : ZV RX9 200 yX7_pickers := ⟨z_tab1 (i := 648) (by decide +kernel), z_tab1 (i := 649) (by decide +kernel), z_tab1 (i := 650) (by decide +kernel)⟩
theorem gRX7_63 : ZV RX7 63 yX7_pick := ⟨z_tab1 (i := 652) (by decide +kernel), z_tab1 (i := 549) (by decide +kernel), z_tab1 (i := 550) (by decide +kernel)⟩
theorem gRX9_203 : ZV RX9 203 yX9_favoriteWrong := ⟨z_tab1 (i := 653) (by decide +kernel), z_tab1 (i := 655) (by decide +kernel), z_tab0 (i := 21) (by decide +kernel)⟩
theorem gRL_78 : ZV RL 78 yX9_parting := ⟨z_tab1 (i := 657) (by decide +kernel), z_tab1 (i := 658) (by decide +kernel), z_tab1 (i := 659) (by decide +kernel)⟩
theorem kRX9_206 : Cond.constantFloat RX9 206 (3221225472 : UInt32) ∈ lw_tbl := z_tab1 (i := 661) (by decide +kernel)
theorem gRX9_207 : ZV RX9 207 yX7_standing := ⟨z_tab1 (i := 662) (by decide +kernel), z_tab1 (i := 663) (by decide +kernel), z_tab1 (i := 664) (by decide +kernel)⟩
theorem kRL_82 : Cond.constantFloat RL 82 (3221225472 : UInt32) ∈ lw_tbl := z_tab1 (i := 666) (by decide +kernel)
theorem gRL_83 : ZV RL 83 yX9_sameWrong := ⟨z_tab1 (i := 667) (by decide +kernel), z_tab1 (i := 668) (by decide +kernel), z_tab1 (i := 669) (by decide +kernel)⟩
theorem gRL_86 : ZV RL 86 yX9_mistaken := ⟨z_tab1 (i := 671) (by decide +kernel), z_tab1 (i := 672) (by decide +kernel), z_tab1 (i := 673) (by decide +kernel)⟩
theorem gRX9_216 : ZV RX9 216 yX7_mark := ⟨z_tab1 (i := 675) (by decide +kernel), z_tab1 (i := 676) (by decide +kernel), z_tab1 (i := 677) (by decide +kernel)⟩
theorem kRL_95 : Cond.constantLong RL 95 (-1002 : Int64) ∈ lw_tbl := z_tab1 (i := 679) (by decide +kernel)
theorem gRL_135 : ZS RL 135 yL_version := ⟨z_tab1 (i := 680) (by decide +kernel), z_tab1 (i := 681) (by decide +kernel)⟩
theorem gRL_97 : ZS RL 97 yL_pages := ⟨z_tab1 (i := 683) (by decide +kernel), z_tab1 (i := 684) (by decide +kernel)⟩
theorem gRL_140 : ZS RL 140 yL_sheets := ⟨z_tab1 (i := 686) (by decide +kernel), z_tab1 (i := 687) (by decide +kernel)⟩
theorem kRL_100 : Cond.constantFloat RL 100 (3212836864 : UInt32) ∈ lw_tbl := z_tab1 (i := 689) (by decide +kernel)
theorem kRL_122 : Cond.constantLong RL 122 (7 : Int64) ∈ lw_tbl := z_tab1 (i := 690) (by decide +kernel)
theorem kRL_137 : Cond.constantLong RL 137 (5 : Int64) ∈ lw_tbl := z_tab1 (i := 691) (by decide +kernel)
theorem kRL_139 : Cond.constant RL 139 (2147483640 : Int32) ∈ lw_tbl := z_tab1 (i := 692) (by decide +kernel)
theorem j_math_ini : Cond.initialized "java/lang/Math" ∈ lw_tbl := z_tab1 (i := 11) (by decide +kernel)
theorem j_sys_ini : Cond.initialized "java/lang/System" ∈ lw_tbl := z_tab1 (i := 12) (by decide +kernel)
