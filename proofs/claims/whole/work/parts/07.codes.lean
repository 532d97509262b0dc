/-! generated: the code words among the tables -/
theorem tbk_1 {w : Cond} (h : w ∈ tables_1_1) : w ∈ lw_tbl := List.mem_append_right _ (List.mem_append_left _ h)
theorem tbk_2 {w : Cond} (h : w ∈ tables_1_2) : w ∈ lw_tbl := List.mem_append_right _ (List.mem_append_right _ (List.mem_append_left _ h))
theorem tbk_3 {w : Cond} (h : w ∈ tables_1_3) : w ∈ lw_tbl := List.mem_append_right _ (List.mem_append_right _ (List.mem_append_right _ (List.mem_append_left _ h)))
theorem tbk_4 {w : Cond} (h : w ∈ tables_1_4) : w ∈ lw_tbl := List.mem_append_right _ (List.mem_append_right _ (List.mem_append_right _ (List.mem_append_right _ (List.mem_append_left _ h))))
theorem tbk_5 {w : Cond} (h : w ∈ tables_1_5) : w ∈ lw_tbl := List.mem_append_right _ (List.mem_append_right _ (List.mem_append_right _ (List.mem_append_right _ (List.mem_append_right _ (List.mem_append_left _ h)))))
theorem tbk_6 {w : Cond} (h : w ∈ tables_1_6) : w ∈ lw_tbl := List.mem_append_right _ (List.mem_append_right _ (List.mem_append_right _ (List.mem_append_right _ (List.mem_append_right _ (List.mem_append_right _ (h))))))
set_option maxRecDepth 100000 in
theorem cdX6_row : Cond.code yX6_row cX6_row 4 (some .int) ∈ TB := TB_in (tbk_2 (List.mem_of_getElem? (i := 50) rfl)) rfl
set_option maxRecDepth 100000 in
theorem cdX6_finding : Cond.code yX6_finding cX6_finding 2 (some .int) ∈ TB := TB_in (tbk_2 (List.mem_of_getElem? (i := 58) rfl)) rfl
set_option maxRecDepth 100000 in
theorem cdX3_lay : Cond.code yX3_lay cX3_lay 5 none ∈ TB := TB_in (tbk_2 (List.mem_of_getElem? (i := 63) rfl)) rfl
set_option maxRecDepth 100000 in
theorem cdX6_clean : Cond.code yX6_clean cX6_clean 2 (some .int) ∈ TB := TB_in (tbk_2 (List.mem_of_getElem? (i := 67) rfl)) rfl
set_option maxRecDepth 100000 in
theorem cdX6_set : Cond.code yX6_set cX6_set 4 (some .int) ∈ TB := TB_in (tbk_2 (List.mem_of_getElem? (i := 71) rfl)) rfl
set_option maxRecDepth 100000 in
theorem cdX3_holds : Cond.code yX3_holds cX3_holds 4 (some .boolean) ∈ TB := TB_in (tbk_2 (List.mem_of_getElem? (i := 75) rfl)) rfl
set_option maxRecDepth 100000 in
theorem cdX3_put : Cond.code yX3_put cX3_put 5 (some .int) ∈ TB := TB_in (tbk_2 (List.mem_of_getElem? (i := 79) rfl)) rfl
set_option maxRecDepth 100000 in
theorem cdX6_copy : Cond.code yX6_copy cX6_copy 6 (some .int) ∈ TB := TB_in (tbk_2 (List.mem_of_getElem? (i := 83) rfl)) rfl
set_option maxRecDepth 100000 in
theorem cdX3_carry : Cond.code yX3_carry cX3_carry 6 none ∈ TB := TB_in (tbk_2 (List.mem_of_getElem? (i := 87) rfl)) rfl
set_option maxRecDepth 100000 in
theorem cdX6_drop : Cond.code yX6_drop cX6_drop 2 (some .int) ∈ TB := TB_in (tbk_2 (List.mem_of_getElem? (i := 94) rfl)) rfl
set_option maxRecDepth 100000 in
theorem cdX6_feed : Cond.code yX6_feed cX6_feed 2 (some .int) ∈ TB := TB_in (tbk_2 (List.mem_of_getElem? (i := 98) rfl)) rfl
set_option maxRecDepth 100000 in
theorem cdX4_append : Cond.code yX4_append cX4_append 2 (some .int) ∈ TB := TB_in (tbk_2 (List.mem_of_getElem? (i := 103) rfl)) rfl
set_option maxRecDepth 100000 in
theorem cdX6_trial : Cond.code yX6_trial cX6_trial 2 (some .int) ∈ TB := TB_in (tbk_2 (List.mem_of_getElem? (i := 107) rfl)) rfl
set_option maxRecDepth 100000 in
theorem cdX4_readInto : Cond.code yX4_readInto cX4_readInto 3 (some .boolean) ∈ TB := TB_in (tbk_2 (List.mem_of_getElem? (i := 111) rfl)) rfl
set_option maxRecDepth 100000 in
theorem cdX5_clear : Cond.code yX5_clear cX5_clear 1 none ∈ TB := TB_in (tbk_2 (List.mem_of_getElem? (i := 115) rfl)) rfl
set_option maxRecDepth 100000 in
theorem cdX4_readLaw : Cond.code yX4_readLaw cX4_readLaw 2 (some .boolean) ∈ TB := TB_in (tbk_2 (List.mem_of_getElem? (i := 119) rfl)) rfl
set_option maxRecDepth 100000 in
theorem cdX4_readLetter : Cond.code yX4_readLetter cX4_readLetter 2 (some .boolean) ∈ TB := TB_in (tbk_2 (List.mem_of_getElem? (i := 123) rfl)) rfl
set_option maxRecDepth 100000 in
theorem cdX4_letterAt : Cond.code yX4_letterAt cX4_letterAt 2 (some .int) ∈ TB := TB_in (tbk_2 (List.mem_of_getElem? (i := 127) rfl)) rfl
set_option maxRecDepth 100000 in
theorem cdX4_fail : Cond.code yX4_fail cX4_fail 2 (some .boolean) ∈ TB := TB_in (tbk_2 (List.mem_of_getElem? (i := 131) rfl)) rfl
set_option maxRecDepth 100000 in
theorem cdX4_readThree : Cond.code yX4_readThree cX4_readThree 6 (some .boolean) ∈ TB := TB_in (tbk_2 (List.mem_of_getElem? (i := 135) rfl)) rfl
set_option maxRecDepth 100000 in
theorem cdX4_readNumber : Cond.code yX4_readNumber cX4_readNumber 5 (some .boolean) ∈ TB := TB_in (tbk_2 (List.mem_of_getElem? (i := 139) rfl)) rfl
set_option maxRecDepth 100000 in
theorem cdX4_figuresAt : Cond.code yX4_figuresAt cX4_figuresAt 3 (some .int) ∈ TB := TB_in (tbk_2 (List.mem_of_getElem? (i := 143) rfl)) rfl
set_option maxRecDepth 100000 in
theorem cdX4_isFigure : Cond.code yX4_isFigure cX4_isFigure 2 (some .boolean) ∈ TB := TB_in (tbk_2 (List.mem_of_getElem? (i := 147) rfl)) rfl
set_option maxRecDepth 100000 in
theorem cdX4_valueAt : Cond.code yX4_valueAt cX4_valueAt 5 (some .int) ∈ TB := TB_in (tbk_2 (List.mem_of_getElem? (i := 151) rfl)) rfl
set_option maxRecDepth 100000 in
theorem cdX4_readOne : Cond.code yX4_readOne cX4_readOne 4 (some .boolean) ∈ TB := TB_in (tbk_2 (List.mem_of_getElem? (i := 155) rfl)) rfl
set_option maxRecDepth 100000 in
theorem cdX4_readPart : Cond.code yX4_readPart cX4_readPart 3 (some .boolean) ∈ TB := TB_in (tbk_2 (List.mem_of_getElem? (i := 162) rfl)) rfl
set_option maxRecDepth 100000 in
theorem cdX5_addPart : Cond.code yX5_addPart cX5_addPart 5 none ∈ TB := TB_in (tbk_2 (List.mem_of_getElem? (i := 166) rfl)) rfl
set_option maxRecDepth 100000 in
theorem cdX4_readElder : Cond.code yX4_readElder cX4_readElder 2 (some .boolean) ∈ TB := TB_in (tbk_2 (List.mem_of_getElem? (i := 170) rfl)) rfl
set_option maxRecDepth 100000 in
theorem cdX5_addElder : Cond.code yX5_addElder cX5_addElder 5 none ∈ TB := TB_in (tbk_2 (List.mem_of_getElem? (i := 174) rfl)) rfl
set_option maxRecDepth 100000 in
theorem cdX5_copyFrom : Cond.code yX5_copyFrom cX5_copyFrom 3 none ∈ TB := TB_in (tbk_2 (List.mem_of_getElem? (i := 182) rfl)) rfl
set_option maxRecDepth 100000 in
theorem cdX0_forget : Cond.code yX0_forget cX0_forget 1 none ∈ TB := TB_in (tbk_2 (List.mem_of_getElem? (i := 186) rfl)) rfl
set_option maxRecDepth 100000 in
theorem cdX6_fault : Cond.code yX6_fault cX6_fault 1 (some .int) ∈ TB := TB_in (tbk_2 (List.mem_of_getElem? (i := 190) rfl)) rfl
set_option maxRecDepth 100000 in
theorem cdX6_undo : Cond.code yX6_undo cX6_undo 1 (some .int) ∈ TB := TB_in (tbk_2 (List.mem_of_getElem? (i := 194) rfl)) rfl
set_option maxRecDepth 100000 in
theorem cdX0_takeBack : Cond.code yX0_takeBack cX0_takeBack 3 (some .int) ∈ TB := TB_in (tbk_2 (List.mem_of_getElem? (i := 199) rfl)) rfl
set_option maxRecDepth 100000 in
theorem cdX6_make : Cond.code yX6_make cX6_make 2 (some .int) ∈ TB := TB_in (tbk_2 (List.mem_of_getElem? (i := 203) rfl)) rfl
set_option maxRecDepth 100000 in
theorem cdX6_isPart : Cond.code yX6_isPart cX6_isPart 2 (some .boolean) ∈ TB := TB_in (tbk_2 (List.mem_of_getElem? (i := 207) rfl)) rfl
set_option maxRecDepth 100000 in
theorem cdX5_mayBuild : Cond.code yX5_mayBuild cX5_mayBuild 2 (some .boolean) ∈ TB := TB_in (tbk_2 (List.mem_of_getElem? (i := 211) rfl)) rfl
set_option maxRecDepth 100000 in
theorem cdX5_isReady : Cond.code yX5_isReady cX5_isReady 3 (some .boolean) ∈ TB := TB_in (tbk_2 (List.mem_of_getElem? (i := 218) rfl)) rfl
set_option maxRecDepth 100000 in
theorem cdX0_keep : Cond.code yX0_keep cX0_keep 3 none ∈ TB := TB_in (tbk_2 (List.mem_of_getElem? (i := 225) rfl)) rfl
set_option maxRecDepth 100000 in
theorem cdX5_build : Cond.code yX5_build cX5_build 4 (some .int) ∈ TB := TB_in (tbk_2 (List.mem_of_getElem? (i := 232) rfl)) rfl
set_option maxRecDepth 100000 in
theorem cdX6_mend : Cond.code yX6_mend cX6_mend 2 (some .int) ∈ TB := TB_in (tbk_3 (List.mem_of_getElem? (i := 3) rfl)) rfl
set_option maxRecDepth 100000 in
theorem cdX5_mendingDays : Cond.code yX5_mendingDays cX5_mendingDays 2 (some .int) ∈ TB := TB_in (tbk_3 (List.mem_of_getElem? (i := 8) rfl)) rfl
set_option maxRecDepth 100000 in
theorem cdX6_feast : Cond.code yX6_feast cX6_feast 2 (some .int) ∈ TB := TB_in (tbk_3 (List.mem_of_getElem? (i := 12) rfl)) rfl
set_option maxRecDepth 100000 in
theorem cdX6_isElder : Cond.code yX6_isElder cX6_isElder 2 (some .boolean) ∈ TB := TB_in (tbk_3 (List.mem_of_getElem? (i := 16) rfl)) rfl
set_option maxRecDepth 100000 in
theorem cdX6_idle : Cond.code yX6_idle cX6_idle 3 (some .int) ∈ TB := TB_in (tbk_3 (List.mem_of_getElem? (i := 20) rfl)) rfl
set_option maxRecDepth 100000 in
theorem cdX6_lesson : Cond.code yX6_lesson cX6_lesson 1 (some .int) ∈ TB := TB_in (tbk_3 (List.mem_of_getElem? (i := 24) rfl)) rfl
set_option maxRecDepth 100000 in
theorem cdX6_part : Cond.code yX6_part cX6_part 3 (some .int) ∈ TB := TB_in (tbk_3 (List.mem_of_getElem? (i := 28) rfl)) rfl
set_option maxRecDepth 100000 in
theorem cdX6_elder : Cond.code yX6_elder cX6_elder 3 (some .int) ∈ TB := TB_in (tbk_3 (List.mem_of_getElem? (i := 35) rfl)) rfl
set_option maxRecDepth 100000 in
theorem cdX5_finds : Cond.code yX5_finds cX5_finds 3 (some .int) ∈ TB := TB_in (tbk_3 (List.mem_of_getElem? (i := 39) rfl)) rfl
set_option maxRecDepth 100000 in
theorem cdX5_votes : Cond.code yX5_votes cX5_votes 5 (some .int) ∈ TB := TB_in (tbk_3 (List.mem_of_getElem? (i := 49) rfl)) rfl
set_option maxRecDepth 100000 in
theorem cdX6_stand : Cond.code yX6_stand cX6_stand 2 (some .int) ∈ TB := TB_in (tbk_3 (List.mem_of_getElem? (i := 54) rfl)) rfl
set_option maxRecDepth 100000 in
theorem cdX5_passes : Cond.code yX5_passes cX5_passes 1 (some .boolean) ∈ TB := TB_in (tbk_3 (List.mem_of_getElem? (i := 58) rfl)) rfl
set_option maxRecDepth 100000 in
theorem cdX5_wins : Cond.code yX5_wins cX5_wins 2 (some .boolean) ∈ TB := TB_in (tbk_3 (List.mem_of_getElem? (i := 63) rfl)) rfl
set_option maxRecDepth 100000 in
theorem cdX6_fewest : Cond.code yX6_fewest cX6_fewest 2 (some .int) ∈ TB := TB_in (tbk_3 (List.mem_of_getElem? (i := 67) rfl)) rfl
set_option maxRecDepth 100000 in
theorem cdX2_reckon : Cond.code yX2_reckon cX2_reckon 6 none ∈ TB := TB_in (tbk_3 (List.mem_of_getElem? (i := 71) rfl)) rfl
set_option maxRecDepth 100000 in
theorem cdX2_isReached : Cond.code yX2_isReached cX2_isReached 3 (some .boolean) ∈ TB := TB_in (tbk_3 (List.mem_of_getElem? (i := 76) rfl)) rfl
set_option maxRecDepth 100000 in
theorem cdX2_goOnFrom : Cond.code yX2_goOnFrom cX2_goOnFrom 9 none ∈ TB := TB_in (tbk_3 (List.mem_of_getElem? (i := 80) rfl)) rfl
set_option maxRecDepth 100000 in
theorem cdX2_addPart : Cond.code yX2_addPart cX2_addPart 12 none ∈ TB := TB_in (tbk_3 (List.mem_of_getElem? (i := 89) rfl)) rfl
set_option maxRecDepth 100000 in
theorem cdX2_conclude : Cond.code yX2_conclude cX2_conclude 4 none ∈ TB := TB_in (tbk_3 (List.mem_of_getElem? (i := 96) rfl)) rfl
set_option maxRecDepth 100000 in
theorem cdX6_can : Cond.code yX6_can cX6_can 1 (some .int) ∈ TB := TB_in (tbk_3 (List.mem_of_getElem? (i := 100) rfl)) rfl
set_option maxRecDepth 100000 in
theorem cdX6_feasts : Cond.code yX6_feasts cX6_feasts 3 (some .int) ∈ TB := TB_in (tbk_3 (List.mem_of_getElem? (i := 104) rfl)) rfl
set_option maxRecDepth 100000 in
theorem cdX6_cheapestFeasts : Cond.code yX6_cheapestFeasts cX6_cheapestFeasts 8 (some .int) ∈ TB := TB_in (tbk_3 (List.mem_of_getElem? (i := 111) rfl)) rfl
set_option maxRecDepth 100000 in
theorem cdX5_feastingMoney : Cond.code yX5_feastingMoney cX5_feastingMoney 4 (some .int) ∈ TB := TB_in (tbk_3 (List.mem_of_getElem? (i := 116) rfl)) rfl
set_option maxRecDepth 100000 in
theorem cdX6_mends : Cond.code yX6_mends cX6_mends 3 (some .int) ∈ TB := TB_in (tbk_3 (List.mem_of_getElem? (i := 121) rfl)) rfl
set_option maxRecDepth 100000 in
theorem cdX6_leastMends : Cond.code yX6_leastMends cX6_leastMends 6 (some .int) ∈ TB := TB_in (tbk_3 (List.mem_of_getElem? (i := 125) rfl)) rfl
set_option maxRecDepth 100000 in
theorem cdX5_mendingDaysOf : Cond.code yX5_mendingDaysOf cX5_mendingDaysOf 4 (some .int) ∈ TB := TB_in (tbk_3 (List.mem_of_getElem? (i := 129) rfl)) rfl
set_option maxRecDepth 100000 in
theorem cdX6_decides : Cond.code yX6_decides cX6_decides 5 (some .int) ∈ TB := TB_in (tbk_3 (List.mem_of_getElem? (i := 134) rfl)) rfl
set_option maxRecDepth 100000 in
theorem cdX6_whereIs : Cond.code yX6_whereIs cX6_whereIs 7 (some .int) ∈ TB := TB_in (tbk_3 (List.mem_of_getElem? (i := 138) rfl)) rfl
set_option maxRecDepth 100000 in
theorem cdX6_isFoundAsTold : Cond.code yX6_isFoundAsTold cX6_isFoundAsTold 5 (some .boolean) ∈ TB := TB_in (tbk_3 (List.mem_of_getElem? (i := 142) rfl)) rfl
set_option maxRecDepth 100000 in
theorem cdX3_item : Cond.code yX3_item cX3_item 3 (some .int) ∈ TB := TB_in (tbk_3 (List.mem_of_getElem? (i := 146) rfl)) rfl
set_option maxRecDepth 100000 in
theorem cdX6_skills : Cond.code yX6_skills cX6_skills 6 (some .int) ∈ TB := TB_in (tbk_3 (List.mem_of_getElem? (i := 151) rfl)) rfl
set_option maxRecDepth 100000 in
theorem cdX6_isMadeAsTold : Cond.code yX6_isMadeAsTold cX6_isMadeAsTold 11 (some .boolean) ∈ TB := TB_in (tbk_3 (List.mem_of_getElem? (i := 155) rfl)) rfl
set_option maxRecDepth 100000 in
theorem cdX6_who : Cond.code yX6_who cX6_who 7 (some .int) ∈ TB := TB_in (tbk_3 (List.mem_of_getElem? (i := 161) rfl)) rfl
set_option maxRecDepth 100000 in
theorem cdX6_isTakenAsTold : Cond.code yX6_isTakenAsTold cX6_isTakenAsTold 10 (some .boolean) ∈ TB := TB_in (tbk_3 (List.mem_of_getElem? (i := 165) rfl)) rfl
set_option maxRecDepth 100000 in
theorem cdX6_err : Cond.code yX6_err cX6_err 10 (some .long) ∈ TB := TB_in (tbk_3 (List.mem_of_getElem? (i := 169) rfl)) rfl
set_option maxRecDepth 100000 in
theorem cdX6_casesOf : Cond.code yX6_casesOf cX6_casesOf 6 (some .long) ∈ TB := TB_in (tbk_3 (List.mem_of_getElem? (i := 176) rfl)) rfl
set_option maxRecDepth 100000 in
theorem cdX6_worth : Cond.code yX6_worth cX6_worth 2 (some .int) ∈ TB := TB_in (tbk_3 (List.mem_of_getElem? (i := 183) rfl)) rfl
set_option maxRecDepth 100000 in
theorem cdX6_drawn : Cond.code yX6_drawn cX6_drawn 7 (some .int) ∈ TB := TB_in (tbk_3 (List.mem_of_getElem? (i := 187) rfl)) rfl
set_option maxRecDepth 100000 in
theorem cdX5_buildDrawn : Cond.code yX5_buildDrawn cX5_buildDrawn 4 none ∈ TB := TB_in (tbk_3 (List.mem_of_getElem? (i := 194) rfl)) rfl
set_option maxRecDepth 100000 in
theorem cdX6_image : Cond.code yX6_image cX6_image 2 (some .int) ∈ TB := TB_in (tbk_3 (List.mem_of_getElem? (i := 201) rfl)) rfl
set_option maxRecDepth 100000 in
theorem cdX6_imageOf : Cond.code yX6_imageOf cX6_imageOf 2 (some (.object "GuildPiece$Trial")) ∈ TB := TB_in (tbk_3 (List.mem_of_getElem? (i := 205) rfl)) rfl
set_option maxRecDepth 100000 in
theorem cdX6_restore : Cond.code yX6_restore cX6_restore 2 (some .int) ∈ TB := TB_in (tbk_3 (List.mem_of_getElem? (i := 209) rfl)) rfl
set_option maxRecDepth 100000 in
theorem cdX6_kind : Cond.code yX6_kind cX6_kind 2 (some .int) ∈ TB := TB_in (tbk_3 (List.mem_of_getElem? (i := 213) rfl)) rfl
set_option maxRecDepth 100000 in
theorem cdX6_as : Cond.code yX6_as cX6_as 3 (some .int) ∈ TB := TB_in (tbk_3 (List.mem_of_getElem? (i := 217) rfl)) rfl
set_option maxRecDepth 100000 in
theorem cdX6_ask : Cond.code yX6_ask cX6_ask 3 (some .int) ∈ TB := TB_in (tbk_3 (List.mem_of_getElem? (i := 224) rfl)) rfl
set_option maxRecDepth 100000 in
theorem cdX1_takeUp : Cond.code yX1_takeUp cX1_takeUp 3 none ∈ TB := TB_in (tbk_3 (List.mem_of_getElem? (i := 228) rfl)) rfl
set_option maxRecDepth 100000 in
theorem cdX1_askSize : Cond.code yX1_askSize cX1_askSize 2 (some .int) ∈ TB := TB_in (tbk_3 (List.mem_of_getElem? (i := 232) rfl)) rfl
set_option maxRecDepth 100000 in
theorem cdX1_sizeOfJoint : Cond.code yX1_sizeOfJoint cX1_sizeOfJoint 3 (some .int) ∈ TB := TB_in (tbk_3 (List.mem_of_getElem? (i := 237) rfl)) rfl
set_option maxRecDepth 100000 in
theorem cdX1_begin : Cond.code yX1_begin cX1_begin 2 none ∈ TB := TB_in (tbk_4 (List.mem_of_getElem? (i := 1) rfl)) rfl
set_option maxRecDepth 100000 in
theorem cdX1_sizeLent : Cond.code yX1_sizeLent cX1_sizeLent 1 (some .int) ∈ TB := TB_in (tbk_4 (List.mem_of_getElem? (i := 5) rfl)) rfl
set_option maxRecDepth 100000 in
theorem cdX1_askMark : Cond.code yX1_askMark cX1_askMark 2 (some .int) ∈ TB := TB_in (tbk_4 (List.mem_of_getElem? (i := 9) rfl)) rfl
set_option maxRecDepth 100000 in
theorem cdX1_markOfJoint : Cond.code yX1_markOfJoint cX1_markOfJoint 1 (some .int) ∈ TB := TB_in (tbk_4 (List.mem_of_getElem? (i := 13) rfl)) rfl
set_option maxRecDepth 100000 in
theorem cdX1_markLent : Cond.code yX1_markLent cX1_markLent 1 (some .int) ∈ TB := TB_in (tbk_4 (List.mem_of_getElem? (i := 17) rfl)) rfl
set_option maxRecDepth 100000 in
theorem cdX1_markOfCarved : Cond.code yX1_markOfCarved cX1_markOfCarved 1 (some .int) ∈ TB := TB_in (tbk_4 (List.mem_of_getElem? (i := 21) rfl)) rfl
set_option maxRecDepth 100000 in
theorem cdX1_markOfHidden : Cond.code yX1_markOfHidden cX1_markOfHidden 1 (some .int) ∈ TB := TB_in (tbk_4 (List.mem_of_getElem? (i := 25) rfl)) rfl
set_option maxRecDepth 100000 in
theorem cdX1_markOfWax : Cond.code yX1_markOfWax cX1_markOfWax 3 (some .int) ∈ TB := TB_in (tbk_4 (List.mem_of_getElem? (i := 29) rfl)) rfl
set_option maxRecDepth 100000 in
theorem cdX1_sizeOfCarved : Cond.code yX1_sizeOfCarved cX1_sizeOfCarved 2 (some .int) ∈ TB := TB_in (tbk_4 (List.mem_of_getElem? (i := 34) rfl)) rfl
set_option maxRecDepth 100000 in
theorem cdX1_sizeOfWax : Cond.code yX1_sizeOfWax cX1_sizeOfWax 1 (some .int) ∈ TB := TB_in (tbk_4 (List.mem_of_getElem? (i := 38) rfl)) rfl
set_option maxRecDepth 100000 in
theorem cdX1_sizeOfBought : Cond.code yX1_sizeOfBought cX1_sizeOfBought 1 (some .int) ∈ TB := TB_in (tbk_4 (List.mem_of_getElem? (i := 42) rfl)) rfl
set_option maxRecDepth 100000 in
theorem cdX6_trace : Cond.code yX6_trace cX6_trace 2 (some .int) ∈ TB := TB_in (tbk_4 (List.mem_of_getElem? (i := 47) rfl)) rfl
set_option maxRecDepth 100000 in
theorem cdX6_count : Cond.code yX6_count cX6_count 2 (some .int) ∈ TB := TB_in (tbk_4 (List.mem_of_getElem? (i := 51) rfl)) rfl
set_option maxRecDepth 100000 in
theorem cdX3_howMany : Cond.code yX3_howMany cX3_howMany 3 (some .int) ∈ TB := TB_in (tbk_4 (List.mem_of_getElem? (i := 55) rfl)) rfl
set_option maxRecDepth 100000 in
theorem cdX6_status : Cond.code yX6_status cX6_status 1 (some .int) ∈ TB := TB_in (tbk_4 (List.mem_of_getElem? (i := 59) rfl)) rfl
set_option maxRecDepth 100000 in
theorem cdX7_row : Cond.code yX7_row cX7_row 5 (some .int) ∈ TB := TB_in (tbk_4 (List.mem_of_getElem? (i := 148) rfl)) rfl
set_option maxRecDepth 100000 in
theorem cdX7_found : Cond.code yX7_found cX7_found 2 (some .int) ∈ TB := TB_in (tbk_4 (List.mem_of_getElem? (i := 161) rfl)) rfl
set_option maxRecDepth 100000 in
theorem cdX7_good : Cond.code yX7_good cX7_good 2 (some .int) ∈ TB := TB_in (tbk_4 (List.mem_of_getElem? (i := 166) rfl)) rfl
set_option maxRecDepth 100000 in
theorem cdX7_set : Cond.code yX7_set cX7_set 4 (some .int) ∈ TB := TB_in (tbk_4 (List.mem_of_getElem? (i := 170) rfl)) rfl
set_option maxRecDepth 100000 in
theorem cdX7_copy : Cond.code yX7_copy cX7_copy 7 (some .int) ∈ TB := TB_in (tbk_4 (List.mem_of_getElem? (i := 174) rfl)) rfl
set_option maxRecDepth 100000 in
theorem cdX7_drop : Cond.code yX7_drop cX7_drop 3 (some .int) ∈ TB := TB_in (tbk_4 (List.mem_of_getElem? (i := 181) rfl)) rfl
set_option maxRecDepth 100000 in
theorem cdX7_feed : Cond.code yX7_feed cX7_feed 2 (some .int) ∈ TB := TB_in (tbk_4 (List.mem_of_getElem? (i := 185) rfl)) rfl
set_option maxRecDepth 100000 in
theorem cdX7_trial : Cond.code yX7_trial cX7_trial 2 (some .int) ∈ TB := TB_in (tbk_4 (List.mem_of_getElem? (i := 191) rfl)) rfl
set_option maxRecDepth 100000 in
theorem cdX7_takesLaw : Cond.code yX7_takesLaw cX7_takesLaw 2 (some .boolean) ∈ TB := TB_in (tbk_4 (List.mem_of_getElem? (i := 195) rfl)) rfl
set_option maxRecDepth 100000 in
theorem cdX7_takes : Cond.code yX7_takes cX7_takes 2 (some .boolean) ∈ TB := TB_in (tbk_4 (List.mem_of_getElem? (i := 199) rfl)) rfl
set_option maxRecDepth 100000 in
theorem cdX7_byteAt : Cond.code yX7_byteAt cX7_byteAt 2 (some .int) ∈ TB := TB_in (tbk_4 (List.mem_of_getElem? (i := 203) rfl)) rfl
set_option maxRecDepth 100000 in
theorem cdX7_fails : Cond.code yX7_fails cX7_fails 3 (some .boolean) ∈ TB := TB_in (tbk_4 (List.mem_of_getElem? (i := 207) rfl)) rfl
set_option maxRecDepth 100000 in
theorem cdX7_takesNumber : Cond.code yX7_takesNumber cX7_takesNumber 5 (some .boolean) ∈ TB := TB_in (tbk_4 (List.mem_of_getElem? (i := 211) rfl)) rfl
set_option maxRecDepth 100000 in
theorem cdX7_takesMore : Cond.code yX7_takesMore cX7_takesMore 3 (some .boolean) ∈ TB := TB_in (tbk_4 (List.mem_of_getElem? (i := 217) rfl)) rfl
set_option maxRecDepth 100000 in
theorem cdX7_takesPart : Cond.code yX7_takesPart cX7_takesPart 7 (some .boolean) ∈ TB := TB_in (tbk_4 (List.mem_of_getElem? (i := 224) rfl)) rfl
set_option maxRecDepth 100000 in
theorem cdX7_takesElder : Cond.code yX7_takesElder cX7_takesElder 2 (some .boolean) ∈ TB := TB_in (tbk_4 (List.mem_of_getElem? (i := 228) rfl)) rfl
set_option maxRecDepth 100000 in
theorem cdX7_copyAll : Cond.code yX7_copyAll cX7_copyAll 4 none ∈ TB := TB_in (tbk_4 (List.mem_of_getElem? (i := 233) rfl)) rfl
set_option maxRecDepth 100000 in
theorem cdX7_fault : Cond.code yX7_fault cX7_fault 1 (some .int) ∈ TB := TB_in (tbk_4 (List.mem_of_getElem? (i := 237) rfl)) rfl
set_option maxRecDepth 100000 in
theorem cdX7_undo : Cond.code yX7_undo cX7_undo 2 (some .int) ∈ TB := TB_in (tbk_5 (List.mem_of_getElem? (i := 1) rfl)) rfl
set_option maxRecDepth 100000 in
theorem cdX7_make : Cond.code yX7_make cX7_make 2 (some .int) ∈ TB := TB_in (tbk_5 (List.mem_of_getElem? (i := 6) rfl)) rfl
set_option maxRecDepth 100000 in
theorem cdX7_isPart : Cond.code yX7_isPart cX7_isPart 2 (some .boolean) ∈ TB := TB_in (tbk_5 (List.mem_of_getElem? (i := 10) rfl)) rfl
set_option maxRecDepth 100000 in
theorem cdX7_mayNow : Cond.code yX7_mayNow cX7_mayNow 2 (some .boolean) ∈ TB := TB_in (tbk_5 (List.mem_of_getElem? (i := 14) rfl)) rfl
set_option maxRecDepth 100000 in
theorem cdX7_mayBe : Cond.code yX7_mayBe cX7_mayBe 7 (some .boolean) ∈ TB := TB_in (tbk_5 (List.mem_of_getElem? (i := 18) rfl)) rfl
set_option maxRecDepth 100000 in
theorem cdX7_takesNow : Cond.code yX7_takesNow cX7_takesNow 3 (some .int) ∈ TB := TB_in (tbk_5 (List.mem_of_getElem? (i := 22) rfl)) rfl
set_option maxRecDepth 100000 in
theorem cdX7_isAheadMade : Cond.code yX7_isAheadMade cX7_isAheadMade 3 (some .boolean) ∈ TB := TB_in (tbk_5 (List.mem_of_getElem? (i := 32) rfl)) rfl
set_option maxRecDepth 100000 in
theorem cdX7_minds : Cond.code yX7_minds cX7_minds 2 none ∈ TB := TB_in (tbk_5 (List.mem_of_getElem? (i := 36) rfl)) rfl
set_option maxRecDepth 100000 in
theorem cdX7_makes : Cond.code yX7_makes cX7_makes 4 none ∈ TB := TB_in (tbk_5 (List.mem_of_getElem? (i := 40) rfl)) rfl
set_option maxRecDepth 100000 in
theorem cdX7_isFaultyNow : Cond.code yX7_isFaultyNow cX7_isFaultyNow 3 (some .boolean) ∈ TB := TB_in (tbk_5 (List.mem_of_getElem? (i := 44) rfl)) rfl
set_option maxRecDepth 100000 in
theorem cdX7_mend : Cond.code yX7_mend cX7_mend 2 (some .int) ∈ TB := TB_in (tbk_5 (List.mem_of_getElem? (i := 54) rfl)) rfl
set_option maxRecDepth 100000 in
theorem cdX7_feast : Cond.code yX7_feast cX7_feast 2 (some .int) ∈ TB := TB_in (tbk_5 (List.mem_of_getElem? (i := 58) rfl)) rfl
set_option maxRecDepth 100000 in
theorem cdX7_isElder : Cond.code yX7_isElder cX7_isElder 2 (some .boolean) ∈ TB := TB_in (tbk_5 (List.mem_of_getElem? (i := 62) rfl)) rfl
set_option maxRecDepth 100000 in
theorem cdX7_idle : Cond.code yX7_idle cX7_idle 3 (some .int) ∈ TB := TB_in (tbk_5 (List.mem_of_getElem? (i := 66) rfl)) rfl
set_option maxRecDepth 100000 in
theorem cdX7_isTrial : Cond.code yX7_isTrial cX7_isTrial 1 (some .boolean) ∈ TB := TB_in (tbk_5 (List.mem_of_getElem? (i := 70) rfl)) rfl
set_option maxRecDepth 100000 in
theorem cdX7_lesson : Cond.code yX7_lesson cX7_lesson 1 (some .int) ∈ TB := TB_in (tbk_5 (List.mem_of_getElem? (i := 75) rfl)) rfl
set_option maxRecDepth 100000 in
theorem cdX7_part : Cond.code yX7_part cX7_part 3 (some .int) ∈ TB := TB_in (tbk_5 (List.mem_of_getElem? (i := 79) rfl)) rfl
set_option maxRecDepth 100000 in
theorem cdX7_elder : Cond.code yX7_elder cX7_elder 3 (some .int) ∈ TB := TB_in (tbk_5 (List.mem_of_getElem? (i := 84) rfl)) rfl
set_option maxRecDepth 100000 in
theorem cdX7_findsOf : Cond.code yX7_findsOf cX7_findsOf 5 (some .int) ∈ TB := TB_in (tbk_5 (List.mem_of_getElem? (i := 88) rfl)) rfl
set_option maxRecDepth 100000 in
theorem cdX7_isFound : Cond.code yX7_isFound cX7_isFound 4 (some .boolean) ∈ TB := TB_in (tbk_5 (List.mem_of_getElem? (i := 92) rfl)) rfl
set_option maxRecDepth 100000 in
theorem cdX7_votesNow : Cond.code yX7_votesNow cX7_votesNow 1 (some .int) ∈ TB := TB_in (tbk_5 (List.mem_of_getElem? (i := 96) rfl)) rfl
set_option maxRecDepth 100000 in
theorem cdX7_votesBy : Cond.code yX7_votesBy cX7_votesBy 5 (some .int) ∈ TB := TB_in (tbk_5 (List.mem_of_getElem? (i := 100) rfl)) rfl
set_option maxRecDepth 100000 in
theorem cdX7_stand : Cond.code yX7_stand cX7_stand 2 (some .int) ∈ TB := TB_in (tbk_5 (List.mem_of_getElem? (i := 104) rfl)) rfl
set_option maxRecDepth 100000 in
theorem cdX7_isWhole : Cond.code yX7_isWhole cX7_isWhole 1 (some .boolean) ∈ TB := TB_in (tbk_5 (List.mem_of_getElem? (i := 109) rfl)) rfl
set_option maxRecDepth 100000 in
theorem cdX7_isMost : Cond.code yX7_isMost cX7_isMost 2 (some .boolean) ∈ TB := TB_in (tbk_5 (List.mem_of_getElem? (i := 113) rfl)) rfl
set_option maxRecDepth 100000 in
theorem cdX7_fewest : Cond.code yX7_fewest cX7_fewest 2 (some .int) ∈ TB := TB_in (tbk_5 (List.mem_of_getElem? (i := 120) rfl)) rfl
set_option maxRecDepth 100000 in
theorem cdX7_findFewest : Cond.code yX7_findFewest cX7_findFewest 5 none ∈ TB := TB_in (tbk_5 (List.mem_of_getElem? (i := 124) rfl)) rfl
set_option maxRecDepth 100000 in
theorem cdX7_nextPart : Cond.code yX7_nextPart cX7_nextPart 5 (some .int) ∈ TB := TB_in (tbk_5 (List.mem_of_getElem? (i := 129) rfl)) rfl
set_option maxRecDepth 100000 in
theorem cdX7_goesDeeper : Cond.code yX7_goesDeeper cX7_goesDeeper 5 none ∈ TB := TB_in (tbk_5 (List.mem_of_getElem? (i := 133) rfl)) rfl
set_option maxRecDepth 100000 in
theorem cdX7_can : Cond.code yX7_can cX7_can 9 (some .int) ∈ TB := TB_in (tbk_5 (List.mem_of_getElem? (i := 137) rfl)) rfl
set_option maxRecDepth 100000 in
theorem cdX7_feasts : Cond.code yX7_feasts cX7_feasts 6 (some .int) ∈ TB := TB_in (tbk_5 (List.mem_of_getElem? (i := 141) rfl)) rfl
set_option maxRecDepth 100000 in
theorem cdX7_pricesOf : Cond.code yX7_pricesOf cX7_pricesOf 4 (some .int) ∈ TB := TB_in (tbk_5 (List.mem_of_getElem? (i := 145) rfl)) rfl
set_option maxRecDepth 100000 in
theorem cdX7_mends : Cond.code yX7_mends cX7_mends 6 (some .int) ∈ TB := TB_in (tbk_5 (List.mem_of_getElem? (i := 149) rfl)) rfl
set_option maxRecDepth 100000 in
theorem cdX7_decides : Cond.code yX7_decides cX7_decides 3 (some .int) ∈ TB := TB_in (tbk_5 (List.mem_of_getElem? (i := 153) rfl)) rfl
set_option maxRecDepth 100000 in
theorem cdX7_whereIs : Cond.code yX7_whereIs cX7_whereIs 10 (some .int) ∈ TB := TB_in (tbk_5 (List.mem_of_getElem? (i := 157) rfl)) rfl
set_option maxRecDepth 100000 in
theorem cdX7_against : Cond.code yX7_against cX7_against 4 (some .int) ∈ TB := TB_in (tbk_5 (List.mem_of_getElem? (i := 161) rfl)) rfl
set_option maxRecDepth 100000 in
theorem cdX7_skills : Cond.code yX7_skills cX7_skills 13 (some .int) ∈ TB := TB_in (tbk_5 (List.mem_of_getElem? (i := 165) rfl)) rfl
set_option maxRecDepth 100000 in
theorem cdX7_who : Cond.code yX7_who cX7_who 12 (some .int) ∈ TB := TB_in (tbk_5 (List.mem_of_getElem? (i := 169) rfl)) rfl
set_option maxRecDepth 100000 in
theorem cdX7_err : Cond.code yX7_err cX7_err 13 (some .long) ∈ TB := TB_in (tbk_5 (List.mem_of_getElem? (i := 174) rfl)) rfl
set_option maxRecDepth 100000 in
theorem cdX7_worth : Cond.code yX7_worth cX7_worth 2 (some .int) ∈ TB := TB_in (tbk_5 (List.mem_of_getElem? (i := 181) rfl)) rfl
set_option maxRecDepth 100000 in
theorem cdX7_drawn : Cond.code yX7_drawn cX7_drawn 8 (some .int) ∈ TB := TB_in (tbk_5 (List.mem_of_getElem? (i := 185) rfl)) rfl
set_option maxRecDepth 100000 in
theorem cdX7_image : Cond.code yX7_image cX7_image 2 (some .int) ∈ TB := TB_in (tbk_5 (List.mem_of_getElem? (i := 194) rfl)) rfl
set_option maxRecDepth 100000 in
theorem cdX7_restore : Cond.code yX7_restore cX7_restore 2 (some .int) ∈ TB := TB_in (tbk_5 (List.mem_of_getElem? (i := 198) rfl)) rfl
set_option maxRecDepth 100000 in
theorem cdX7_kind : Cond.code yX7_kind cX7_kind 2 (some .int) ∈ TB := TB_in (tbk_5 (List.mem_of_getElem? (i := 202) rfl)) rfl
set_option maxRecDepth 100000 in
theorem cdX7_as : Cond.code yX7_as cX7_as 5 (some .int) ∈ TB := TB_in (tbk_5 (List.mem_of_getElem? (i := 206) rfl)) rfl
set_option maxRecDepth 100000 in
theorem cdX7_ask : Cond.code yX7_ask cX7_ask 3 (some .int) ∈ TB := TB_in (tbk_5 (List.mem_of_getElem? (i := 210) rfl)) rfl
set_option maxRecDepth 100000 in
theorem cdX7_size : Cond.code yX7_size cX7_size 3 (some .int) ∈ TB := TB_in (tbk_5 (List.mem_of_getElem? (i := 214) rfl)) rfl
set_option maxRecDepth 100000 in
theorem cdX7_leaves : Cond.code yX7_leaves cX7_leaves 2 none ∈ TB := TB_in (tbk_5 (List.mem_of_getElem? (i := 218) rfl)) rfl
set_option maxRecDepth 100000 in
theorem cdX7_sizeJoint : Cond.code yX7_sizeJoint cX7_sizeJoint 2 (some .int) ∈ TB := TB_in (tbk_5 (List.mem_of_getElem? (i := 222) rfl)) rfl
set_option maxRecDepth 100000 in
theorem cdX7_mark : Cond.code yX7_mark cX7_mark 3 (some .int) ∈ TB := TB_in (tbk_5 (List.mem_of_getElem? (i := 226) rfl)) rfl
set_option maxRecDepth 100000 in
theorem cdX7_markJoint : Cond.code yX7_markJoint cX7_markJoint 2 (some .int) ∈ TB := TB_in (tbk_5 (List.mem_of_getElem? (i := 230) rfl)) rfl
set_option maxRecDepth 100000 in
theorem cdX7_markLent : Cond.code yX7_markLent cX7_markLent 2 (some .int) ∈ TB := TB_in (tbk_5 (List.mem_of_getElem? (i := 234) rfl)) rfl
set_option maxRecDepth 100000 in
theorem cdX7_sizeWax : Cond.code yX7_sizeWax cX7_sizeWax 4 (some .int) ∈ TB := TB_in (tbk_5 (List.mem_of_getElem? (i := 238) rfl)) rfl
set_option maxRecDepth 100000 in
theorem cdX7_trace : Cond.code yX7_trace cX7_trace 2 (some .int) ∈ TB := TB_in (tbk_6 (List.mem_of_getElem? (i := 2) rfl)) rfl
set_option maxRecDepth 100000 in
theorem cdX7_count : Cond.code yX7_count cX7_count 4 (some .int) ∈ TB := TB_in (tbk_6 (List.mem_of_getElem? (i := 6) rfl)) rfl
set_option maxRecDepth 100000 in
theorem cdX7_status : Cond.code yX7_status cX7_status 1 (some .int) ∈ TB := TB_in (tbk_6 (List.mem_of_getElem? (i := 10) rfl)) rfl
set_option maxRecDepth 100000 in
theorem cdX6_isRow : Cond.code yX6_isRow cX6_isRow 1 (some .boolean) ∈ TB := TB_in (tbk_2 (List.mem_of_getElem? (i := 53) rfl)) rfl
set_option maxRecDepth 100000 in
theorem cdX4_kindOf : Cond.code yX4_kindOf cX4_kindOf 1 (some .int) ∈ TB := TB_in (tbk_2 (List.mem_of_getElem? (i := 158) rfl)) rfl
set_option maxRecDepth 100000 in
theorem cdX6_seen : Cond.code yX6_seen cX6_seen 3 (some .boolean) ∈ TB := TB_in (tbk_2 (List.mem_of_getElem? (i := 177) rfl)) rfl
set_option maxRecDepth 100000 in
theorem cdX6_bit : Cond.code yX6_bit cX6_bit 2 (some .int) ∈ TB := TB_in (tbk_2 (List.mem_of_getElem? (i := 214) rfl)) rfl
set_option maxRecDepth 100000 in
theorem cdX6_taken : Cond.code yX6_taken cX6_taken 4 (some .int) ∈ TB := TB_in (tbk_2 (List.mem_of_getElem? (i := 221) rfl)) rfl
set_option maxRecDepth 100000 in
theorem cdX6_flawed : Cond.code yX6_flawed cX6_flawed 3 (some .boolean) ∈ TB := TB_in (tbk_2 (List.mem_of_getElem? (i := 235) rfl)) rfl
set_option maxRecDepth 100000 in
theorem cdX6_skillBehind : Cond.code yX6_skillBehind cX6_skillBehind 2 (some .int) ∈ TB := TB_in (tbk_2 (List.mem_of_getElem? (i := 238) rfl)) rfl
set_option maxRecDepth 100000 in
theorem cdJ6_bitCount_0f7a4 : Cond.code yJ6_bitCount_0f7a4 cJ6_bitCount_0f7a4 1 (some .int) ∈ TB := TB_in (tbk_3 (List.mem_of_getElem? (i := 42) rfl)) rfl
set_option maxRecDepth 100000 in
theorem cdX6_isOneOfTwo : Cond.code yX6_isOneOfTwo cX6_isOneOfTwo 1 (some .boolean) ∈ TB := TB_in (tbk_3 (List.mem_of_getElem? (i := 107) rfl)) rfl
set_option maxRecDepth 100000 in
theorem cdX6_commonDivisor : Cond.code yX6_commonDivisor cX6_commonDivisor 11 (some .long) ∈ TB := TB_in (tbk_3 (List.mem_of_getElem? (i := 179) rfl)) rfl
set_option maxRecDepth 100000 in
theorem cdX6_kindsThatAre : Cond.code yX6_kindsThatAre cX6_kindsThatAre 2 (some .int) ∈ TB := TB_in (tbk_3 (List.mem_of_getElem? (i := 220) rfl)) rfl
set_option maxRecDepth 100000 in
theorem cdX7_isRow : Cond.code yX7_isRow cX7_isRow 1 (some .boolean) ∈ TB := TB_in (tbk_4 (List.mem_of_getElem? (i := 151) rfl)) rfl
set_option maxRecDepth 100000 in
theorem cdX7_in : Cond.code yX7_in cX7_in 6 (some .boolean) ∈ TB := TB_in (tbk_4 (List.mem_of_getElem? (i := 155) rfl)) rfl
set_option maxRecDepth 100000 in
theorem cdX7_fits : Cond.code yX7_fits cX7_fits 3 (some .boolean) ∈ TB := TB_in (tbk_4 (List.mem_of_getElem? (i := 177) rfl)) rfl
set_option maxRecDepth 100000 in
theorem cdX7_kindOf : Cond.code yX7_kindOf cX7_kindOf 1 (some .int) ∈ TB := TB_in (tbk_4 (List.mem_of_getElem? (i := 220) rfl)) rfl
set_option maxRecDepth 100000 in
theorem cdX7_takesOf : Cond.code yX7_takesOf cX7_takesOf 4 (some .int) ∈ TB := TB_in (tbk_5 (List.mem_of_getElem? (i := 25) rfl)) rfl
set_option maxRecDepth 100000 in
theorem cdX7_has : Cond.code yX7_has cX7_has 2 (some .boolean) ∈ TB := TB_in (tbk_5 (List.mem_of_getElem? (i := 28) rfl)) rfl
set_option maxRecDepth 100000 in
theorem cdX7_isFaulty : Cond.code yX7_isFaulty cX7_isFaulty 3 (some .boolean) ∈ TB := TB_in (tbk_5 (List.mem_of_getElem? (i := 47) rfl)) rfl
set_option maxRecDepth 100000 in
theorem cdX7_more : Cond.code yX7_more cX7_more 1 (some .int) ∈ TB := TB_in (tbk_5 (List.mem_of_getElem? (i := 50) rfl)) rfl
set_option maxRecDepth 100000 in
theorem cdX7_ones : Cond.code yX7_ones cX7_ones 3 (some .int) ∈ TB := TB_in (tbk_5 (List.mem_of_getElem? (i := 116) rfl)) rfl
def CodeIn (md : MD) : Prop := Cond.code md.1 md.2.1 md.2.2.1 md.2.2.2.1 ∈ TB
def tVl_0 : List (Nat × Nat × (MD × List Nat)) := [(8, 13, (mX6_row, [394, 395, 396, 397, 108])), (6, 65, (mX6_finding, [402, 404, 0, 405, 108])), (6, 69, (mX3_lay, [407, 409, 1, 410, 109])), (6, 73, (mX6_clean, [411, 413, 2, 414, 108])), (8, 18, (mX6_set, [415, 416, 417, 418, 108])), (6, 80, (mX3_holds, [419, 421, 3, 422, 109])), (6, 84, (mX3_put, [423, 425, 4, 426, 109])), (8, 22, (mX6_copy, [427, 428, 429, 430, 108])), (6, 92, (mX3_carry, [431, 433, 5, 434, 109])), (8, 27, (mX6_drop, [438, 439, 440, 441, 108])), (8, 32, (mX6_feed, [442, 443, 444, 445, 108])), (6, 104, (mX4_append, [447, 449, 6, 450, 110])), (8, 36, (mX6_trial, [451, 452, 453, 454, 108])), (6, 107, (mX4_readInto, [455, 457, 7, 458, 110])), (4, 19, (mX5_clear, [459, 461, 8, 462, 111])), (4, 27, (mX4_readLaw, [463, 465, 9, 466, 110]))]
theorem tVl_0_ok : ∀ e ∈ tVl_0, CodeIn e.2.2.1 := List.forall_mem_cons.mpr ⟨cdX6_row, List.forall_mem_cons.mpr ⟨cdX6_finding, List.forall_mem_cons.mpr ⟨cdX3_lay, List.forall_mem_cons.mpr ⟨cdX6_clean, List.forall_mem_cons.mpr ⟨cdX6_set, List.forall_mem_cons.mpr ⟨cdX3_holds, List.forall_mem_cons.mpr ⟨cdX3_put, List.forall_mem_cons.mpr ⟨cdX6_copy, List.forall_mem_cons.mpr ⟨cdX3_carry, List.forall_mem_cons.mpr ⟨cdX6_drop, List.forall_mem_cons.mpr ⟨cdX6_feed, List.forall_mem_cons.mpr ⟨cdX4_append, List.forall_mem_cons.mpr ⟨cdX6_trial, List.forall_mem_cons.mpr ⟨cdX4_readInto, List.forall_mem_cons.mpr ⟨cdX5_clear, List.forall_mem_cons.mpr ⟨cdX4_readLaw, fun _ h => absurd h List.not_mem_nil⟩⟩⟩⟩⟩⟩⟩⟩⟩⟩⟩⟩⟩⟩⟩⟩
def tVl_1 : List (Nat × Nat × (MD × List Nat)) := [(4, 45, (mX4_readLetter, [467, 469, 10, 470, 110])), (4, 70, (mX4_letterAt, [471, 473, 11, 474, 110])), (4, 37, (mX4_fail, [475, 477, 12, 478, 110])), (4, 48, (mX4_readThree, [479, 481, 13, 482, 110])), (4, 95, (mX4_readNumber, [483, 485, 14, 486, 110])), (4, 102, (mX4_figuresAt, [487, 489, 15, 490, 110])), (4, 115, (mX4_isFigure, [491, 493, 16, 494, 110])), (4, 105, (mX4_valueAt, [495, 497, 17, 498, 110])), (4, 31, (mX4_readOne, [499, 501, 18, 502, 110])), (4, 80, (mX4_readPart, [506, 508, 19, 509, 110])), (4, 87, (mX5_addPart, [510, 512, 20, 513, 111])), (4, 84, (mX4_readElder, [514, 516, 21, 517, 110])), (4, 91, (mX5_addElder, [518, 520, 22, 521, 111])), (6, 121, (mX5_copyFrom, [526, 528, 23, 529, 111])), (6, 125, (mX0_forget, [530, 532, 24, 533, 112])), (8, 41, (mX6_fault, [534, 535, 536, 537, 108]))]
theorem tVl_1_ok : ∀ e ∈ tVl_1, CodeIn e.2.2.1 := List.forall_mem_cons.mpr ⟨cdX4_readLetter, List.forall_mem_cons.mpr ⟨cdX4_letterAt, List.forall_mem_cons.mpr ⟨cdX4_fail, List.forall_mem_cons.mpr ⟨cdX4_readThree, List.forall_mem_cons.mpr ⟨cdX4_readNumber, List.forall_mem_cons.mpr ⟨cdX4_figuresAt, List.forall_mem_cons.mpr ⟨cdX4_isFigure, List.forall_mem_cons.mpr ⟨cdX4_valueAt, List.forall_mem_cons.mpr ⟨cdX4_readOne, List.forall_mem_cons.mpr ⟨cdX4_readPart, List.forall_mem_cons.mpr ⟨cdX5_addPart, List.forall_mem_cons.mpr ⟨cdX4_readElder, List.forall_mem_cons.mpr ⟨cdX5_addElder, List.forall_mem_cons.mpr ⟨cdX5_copyFrom, List.forall_mem_cons.mpr ⟨cdX0_forget, List.forall_mem_cons.mpr ⟨cdX6_fault, fun _ h => absurd h List.not_mem_nil⟩⟩⟩⟩⟩⟩⟩⟩⟩⟩⟩⟩⟩⟩⟩⟩
def tVl_2 : List (Nat × Nat × (MD × List Nat)) := [(8, 45, (mX6_undo, [538, 539, 540, 541, 108])), (6, 135, (mX0_takeBack, [543, 545, 25, 546, 112])), (8, 49, (mX6_make, [547, 548, 549, 550, 108])), (6, 139, (mX6_isPart, [551, 553, 26, 554, 108])), (6, 142, (mX5_mayBuild, [555, 557, 27, 558, 111])), (5, 73, (mX5_isReady, [562, 564, 28, 565, 111])), (6, 145, (mX0_keep, [569, 571, 29, 572, 112])), (6, 148, (mX5_build, [576, 578, 30, 579, 111])), (8, 53, (mX6_mend, [587, 588, 589, 590, 108])), (6, 161, (mX5_mendingDays, [592, 594, 31, 595, 111])), (8, 57, (mX6_feast, [596, 597, 598, 599, 108])), (6, 164, (mX6_isElder, [600, 602, 32, 603, 108])), (8, 61, (mX6_idle, [604, 605, 606, 607, 108])), (8, 65, (mX6_lesson, [608, 609, 610, 611, 108])), (8, 69, (mX6_part, [612, 613, 614, 615, 108])), (8, 74, (mX6_elder, [619, 620, 621, 622, 108]))]
theorem tVl_2_ok : ∀ e ∈ tVl_2, CodeIn e.2.2.1 := List.forall_mem_cons.mpr ⟨cdX6_undo, List.forall_mem_cons.mpr ⟨cdX0_takeBack, List.forall_mem_cons.mpr ⟨cdX6_make, List.forall_mem_cons.mpr ⟨cdX6_isPart, List.forall_mem_cons.mpr ⟨cdX5_mayBuild, List.forall_mem_cons.mpr ⟨cdX5_isReady, List.forall_mem_cons.mpr ⟨cdX0_keep, List.forall_mem_cons.mpr ⟨cdX5_build, List.forall_mem_cons.mpr ⟨cdX6_mend, List.forall_mem_cons.mpr ⟨cdX5_mendingDays, List.forall_mem_cons.mpr ⟨cdX6_feast, List.forall_mem_cons.mpr ⟨cdX6_isElder, List.forall_mem_cons.mpr ⟨cdX6_idle, List.forall_mem_cons.mpr ⟨cdX6_lesson, List.forall_mem_cons.mpr ⟨cdX6_part, List.forall_mem_cons.mpr ⟨cdX6_elder, fun _ h => absurd h List.not_mem_nil⟩⟩⟩⟩⟩⟩⟩⟩⟩⟩⟩⟩⟩⟩⟩⟩
def tVl_3 : List (Nat × Nat × (MD × List Nat)) := [(6, 212, (mX5_finds, [623, 625, 33, 626, 111])), (6, 215, (mX5_votes, [633, 635, 34, 636, 111])), (5, 105, (mX5_finds, [637, 625, 33, 626, 111])), (8, 78, (mX6_stand, [638, 639, 640, 641, 108])), (6, 218, (mX5_passes, [642, 644, 35, 645, 111])), (5, 108, (mX5_votes, [646, 635, 34, 636, 111])), (5, 111, (mX5_wins, [647, 649, 36, 650, 111])), (8, 82, (mX6_fewest, [651, 652, 653, 654, 108])), (6, 222, (mX2_reckon, [655, 657, 37, 658, 113])), (2, 39, (mX2_isReached, [660, 662, 38, 663, 113])), (2, 43, (mX2_goOnFrom, [664, 666, 39, 667, 113])), (2, 77, (mX5_isReady, [671, 564, 28, 565, 111])), (2, 85, (mX2_addPart, [673, 675, 40, 676, 113])), (2, 47, (mX2_conclude, [680, 682, 41, 683, 113])), (8, 86, (mX6_can, [684, 685, 686, 687, 108])), (8, 90, (mX6_feasts, [688, 689, 690, 691, 108]))]
theorem tVl_3_ok : ∀ e ∈ tVl_3, CodeIn e.2.2.1 := List.forall_mem_cons.mpr ⟨cdX5_finds, List.forall_mem_cons.mpr ⟨cdX5_votes, List.forall_mem_cons.mpr ⟨cdX5_finds, List.forall_mem_cons.mpr ⟨cdX6_stand, List.forall_mem_cons.mpr ⟨cdX5_passes, List.forall_mem_cons.mpr ⟨cdX5_votes, List.forall_mem_cons.mpr ⟨cdX5_wins, List.forall_mem_cons.mpr ⟨cdX6_fewest, List.forall_mem_cons.mpr ⟨cdX2_reckon, List.forall_mem_cons.mpr ⟨cdX2_isReached, List.forall_mem_cons.mpr ⟨cdX2_goOnFrom, List.forall_mem_cons.mpr ⟨cdX5_isReady, List.forall_mem_cons.mpr ⟨cdX2_addPart, List.forall_mem_cons.mpr ⟨cdX2_conclude, List.forall_mem_cons.mpr ⟨cdX6_can, List.forall_mem_cons.mpr ⟨cdX6_feasts, fun _ h => absurd h List.not_mem_nil⟩⟩⟩⟩⟩⟩⟩⟩⟩⟩⟩⟩⟩⟩⟩⟩
def tVl_4 : List (Nat × Nat × (MD × List Nat)) := [(6, 242, (mX6_cheapestFeasts, [695, 697, 42, 698, 108])), (6, 329, (mX5_feastingMoney, [700, 702, 43, 703, 111])), (6, 254, (mX5_wins, [704, 649, 36, 650, 111])), (8, 94, (mX6_mends, [705, 706, 707, 708, 108])), (6, 251, (mX6_leastMends, [709, 711, 44, 712, 108])), (6, 332, (mX5_mendingDaysOf, [713, 715, 45, 716, 111])), (5, 97, (mX5_mendingDays, [717, 594, 31, 595, 111])), (8, 98, (mX6_decides, [718, 719, 720, 721, 108])), (8, 102, (mX6_whereIs, [722, 723, 724, 725, 108])), (6, 260, (mX6_isFoundAsTold, [726, 728, 46, 729, 108])), (6, 263, (mX3_item, [730, 732, 47, 733, 109])), (3, 23, (mX3_holds, [734, 421, 3, 422, 109])), (8, 106, (mX6_skills, [735, 736, 737, 738, 108])), (6, 266, (mX6_isMadeAsTold, [739, 741, 48, 742, 108])), (6, 335, (mX5_isReady, [743, 564, 28, 565, 111])), (8, 110, (mX6_who, [745, 746, 747, 748, 108]))]
theorem tVl_4_ok : ∀ e ∈ tVl_4, CodeIn e.2.2.1 := List.forall_mem_cons.mpr ⟨cdX6_cheapestFeasts, List.forall_mem_cons.mpr ⟨cdX5_feastingMoney, List.forall_mem_cons.mpr ⟨cdX5_wins, List.forall_mem_cons.mpr ⟨cdX6_mends, List.forall_mem_cons.mpr ⟨cdX6_leastMends, List.forall_mem_cons.mpr ⟨cdX5_mendingDaysOf, List.forall_mem_cons.mpr ⟨cdX5_mendingDays, List.forall_mem_cons.mpr ⟨cdX6_decides, List.forall_mem_cons.mpr ⟨cdX6_whereIs, List.forall_mem_cons.mpr ⟨cdX6_isFoundAsTold, List.forall_mem_cons.mpr ⟨cdX3_item, List.forall_mem_cons.mpr ⟨cdX3_holds, List.forall_mem_cons.mpr ⟨cdX6_skills, List.forall_mem_cons.mpr ⟨cdX6_isMadeAsTold, List.forall_mem_cons.mpr ⟨cdX5_isReady, List.forall_mem_cons.mpr ⟨cdX6_who, fun _ h => absurd h List.not_mem_nil⟩⟩⟩⟩⟩⟩⟩⟩⟩⟩⟩⟩⟩⟩⟩⟩
def tVl_5 : List (Nat × Nat × (MD × List Nat)) := [(6, 270, (mX6_isTakenAsTold, [749, 751, 49, 752, 108])), (8, 115, (mX6_err, [753, 754, 755, 756, 108])), (6, 280, (mX6_casesOf, [760, 762, 50, 763, 108])), (8, 120, (mX6_worth, [767, 768, 769, 770, 108])), (8, 124, (mX6_drawn, [771, 772, 773, 774, 108])), (6, 293, (mX5_buildDrawn, [778, 780, 51, 781, 111])), (5, 87, (mX5_mayBuild, [782, 557, 27, 558, 111])), (5, 91, (mX5_build, [783, 578, 30, 579, 111])), (8, 128, (mX6_image, [785, 786, 787, 788, 108])), (6, 297, (mX6_imageOf, [789, 791, 52, 792, 108])), (8, 132, (mX6_restore, [793, 794, 795, 796, 108])), (8, 136, (mX6_kind, [797, 798, 799, 800, 108])), (8, 140, (mX6_as, [801, 802, 803, 804, 108])), (8, 144, (mX6_ask, [808, 809, 810, 811, 108])), (6, 304, (mX1_takeUp, [812, 814, 53, 815, 114])), (6, 307, (mX1_askSize, [816, 818, 54, 819, 114]))]
theorem tVl_5_ok : ∀ e ∈ tVl_5, CodeIn e.2.2.1 := List.forall_mem_cons.mpr ⟨cdX6_isTakenAsTold, List.forall_mem_cons.mpr ⟨cdX6_err, List.forall_mem_cons.mpr ⟨cdX6_casesOf, List.forall_mem_cons.mpr ⟨cdX6_worth, List.forall_mem_cons.mpr ⟨cdX6_drawn, List.forall_mem_cons.mpr ⟨cdX5_buildDrawn, List.forall_mem_cons.mpr ⟨cdX5_mayBuild, List.forall_mem_cons.mpr ⟨cdX5_build, List.forall_mem_cons.mpr ⟨cdX6_image, List.forall_mem_cons.mpr ⟨cdX6_imageOf, List.forall_mem_cons.mpr ⟨cdX6_restore, List.forall_mem_cons.mpr ⟨cdX6_kind, List.forall_mem_cons.mpr ⟨cdX6_as, List.forall_mem_cons.mpr ⟨cdX6_ask, List.forall_mem_cons.mpr ⟨cdX1_takeUp, List.forall_mem_cons.mpr ⟨cdX1_askSize, fun _ h => absurd h List.not_mem_nil⟩⟩⟩⟩⟩⟩⟩⟩⟩⟩⟩⟩⟩⟩⟩⟩
def tVl_6 : List (Nat × Nat × (MD × List Nat)) := [(1, 43, (mX1_sizeOfJoint, [821, 823, 55, 824, 114])), (1, 75, (mX1_begin, [825, 827, 56, 828, 114])), (1, 57, (mX1_sizeLent, [829, 831, 57, 832, 114])), (1, 79, (mX1_askMark, [833, 835, 58, 836, 114])), (1, 60, (mX1_markOfJoint, [837, 839, 59, 840, 114])), (1, 72, (mX1_markLent, [841, 843, 60, 844, 114])), (1, 63, (mX1_markOfCarved, [845, 847, 61, 848, 114])), (1, 66, (mX1_markOfHidden, [849, 851, 62, 852, 114])), (1, 69, (mX1_markOfWax, [853, 855, 63, 856, 114])), (1, 82, (mX1_askSize, [857, 818, 54, 819, 114])), (1, 47, (mX1_sizeOfCarved, [858, 860, 64, 861, 114])), (1, 50, (mX1_sizeOfWax, [862, 864, 65, 865, 114])), (1, 54, (mX1_sizeOfBought, [866, 868, 66, 869, 114])), (6, 310, (mX1_askMark, [870, 835, 58, 836, 114])), (8, 148, (mX6_trace, [871, 872, 873, 874, 108])), (8, 152, (mX6_count, [875, 876, 877, 878, 108]))]
theorem tVl_6_ok : ∀ e ∈ tVl_6, CodeIn e.2.2.1 := List.forall_mem_cons.mpr ⟨cdX1_sizeOfJoint, List.forall_mem_cons.mpr ⟨cdX1_begin, List.forall_mem_cons.mpr ⟨cdX1_sizeLent, List.forall_mem_cons.mpr ⟨cdX1_askMark, List.forall_mem_cons.mpr ⟨cdX1_markOfJoint, List.forall_mem_cons.mpr ⟨cdX1_markLent, List.forall_mem_cons.mpr ⟨cdX1_markOfCarved, List.forall_mem_cons.mpr ⟨cdX1_markOfHidden, List.forall_mem_cons.mpr ⟨cdX1_markOfWax, List.forall_mem_cons.mpr ⟨cdX1_askSize, List.forall_mem_cons.mpr ⟨cdX1_sizeOfCarved, List.forall_mem_cons.mpr ⟨cdX1_sizeOfWax, List.forall_mem_cons.mpr ⟨cdX1_sizeOfBought, List.forall_mem_cons.mpr ⟨cdX1_askMark, List.forall_mem_cons.mpr ⟨cdX6_trace, List.forall_mem_cons.mpr ⟨cdX6_count, fun _ h => absurd h List.not_mem_nil⟩⟩⟩⟩⟩⟩⟩⟩⟩⟩⟩⟩⟩⟩⟩⟩
def tVl_7 : List (Nat × Nat × (MD × List Nat)) := [(6, 317, (mX3_howMany, [879, 881, 67, 882, 109])), (8, 156, (mX6_status, [883, 884, 885, 886, 108])), (8, 17, (mX7_row, [972, 973, 974, 975, 115])), (7, 74, (mX7_found, [985, 987, 68, 988, 115])), (7, 78, (mX7_good, [990, 992, 69, 993, 115])), (8, 21, (mX7_set, [994, 995, 996, 997, 115])), (8, 26, (mX7_copy, [998, 999, 1000, 1001, 115])), (8, 31, (mX7_drop, [1005, 1006, 1007, 1008, 115])), (8, 35, (mX7_feed, [1009, 1010, 1011, 1012, 115])), (8, 40, (mX7_trial, [1015, 1016, 1017, 1018, 115])), (7, 130, (mX7_takesLaw, [1019, 1021, 70, 1022, 115])), (7, 114, (mX7_takes, [1023, 1025, 71, 1026, 115])), (7, 100, (mX7_byteAt, [1027, 1029, 72, 1030, 115])), (7, 103, (mX7_fails, [1031, 1033, 73, 1034, 115])), (7, 117, (mX7_takesNumber, [1035, 1037, 74, 1038, 115])), (7, 133, (mX7_takesMore, [1041, 1043, 75, 1044, 115]))]
theorem tVl_7_ok : ∀ e ∈ tVl_7, CodeIn e.2.2.1 := List.forall_mem_cons.mpr ⟨cdX3_howMany, List.forall_mem_cons.mpr ⟨cdX6_status, List.forall_mem_cons.mpr ⟨cdX7_row, List.forall_mem_cons.mpr ⟨cdX7_found, List.forall_mem_cons.mpr ⟨cdX7_good, List.forall_mem_cons.mpr ⟨cdX7_set, List.forall_mem_cons.mpr ⟨cdX7_copy, List.forall_mem_cons.mpr ⟨cdX7_drop, List.forall_mem_cons.mpr ⟨cdX7_feed, List.forall_mem_cons.mpr ⟨cdX7_trial, List.forall_mem_cons.mpr ⟨cdX7_takesLaw, List.forall_mem_cons.mpr ⟨cdX7_takes, List.forall_mem_cons.mpr ⟨cdX7_byteAt, List.forall_mem_cons.mpr ⟨cdX7_fails, List.forall_mem_cons.mpr ⟨cdX7_takesNumber, List.forall_mem_cons.mpr ⟨cdX7_takesMore, fun _ h => absurd h List.not_mem_nil⟩⟩⟩⟩⟩⟩⟩⟩⟩⟩⟩⟩⟩⟩⟩⟩
def tVl_8 : List (Nat × Nat × (MD × List Nat)) := [(7, 123, (mX7_takesPart, [1048, 1050, 76, 1051, 115])), (7, 126, (mX7_takesElder, [1052, 1054, 77, 1055, 115])), (7, 137, (mX7_copyAll, [1057, 1059, 78, 1060, 115])), (8, 44, (mX7_fault, [1061, 1062, 1063, 1064, 115])), (8, 48, (mX7_undo, [1065, 1066, 1067, 1068, 115])), (8, 52, (mX7_make, [1070, 1071, 1072, 1073, 115])), (7, 172, (mX7_isPart, [1074, 1076, 79, 1077, 115])), (7, 175, (mX7_mayNow, [1078, 1080, 80, 1081, 115])), (7, 161, (mX7_mayBe, [1082, 1084, 81, 1085, 115])), (7, 154, (mX7_takesNow, [1086, 1088, 82, 1089, 115])), (7, 158, (mX7_isAheadMade, [1096, 1098, 83, 1099, 115])), (7, 178, (mX7_minds, [1100, 1102, 84, 1103, 115])), (7, 181, (mX7_makes, [1104, 1106, 85, 1107, 115])), (7, 165, (mX7_isFaultyNow, [1108, 1110, 86, 1111, 115])), (8, 56, (mX7_mend, [1118, 1119, 1120, 1121, 115])), (8, 60, (mX7_feast, [1122, 1123, 1124, 1125, 115]))]
theorem tVl_8_ok : ∀ e ∈ tVl_8, CodeIn e.2.2.1 := List.forall_mem_cons.mpr ⟨cdX7_takesPart, List.forall_mem_cons.mpr ⟨cdX7_takesElder, List.forall_mem_cons.mpr ⟨cdX7_copyAll, List.forall_mem_cons.mpr ⟨cdX7_fault, List.forall_mem_cons.mpr ⟨cdX7_undo, List.forall_mem_cons.mpr ⟨cdX7_make, List.forall_mem_cons.mpr ⟨cdX7_isPart, List.forall_mem_cons.mpr ⟨cdX7_mayNow, List.forall_mem_cons.mpr ⟨cdX7_mayBe, List.forall_mem_cons.mpr ⟨cdX7_takesNow, List.forall_mem_cons.mpr ⟨cdX7_isAheadMade, List.forall_mem_cons.mpr ⟨cdX7_minds, List.forall_mem_cons.mpr ⟨cdX7_makes, List.forall_mem_cons.mpr ⟨cdX7_isFaultyNow, List.forall_mem_cons.mpr ⟨cdX7_mend, List.forall_mem_cons.mpr ⟨cdX7_feast, fun _ h => absurd h List.not_mem_nil⟩⟩⟩⟩⟩⟩⟩⟩⟩⟩⟩⟩⟩⟩⟩⟩
def tVl_9 : List (Nat × Nat × (MD × List Nat)) := [(7, 185, (mX7_isElder, [1126, 1128, 87, 1129, 115])), (8, 64, (mX7_idle, [1130, 1131, 1132, 1133, 115])), (7, 188, (mX7_isTrial, [1134, 1136, 88, 1137, 115])), (8, 68, (mX7_lesson, [1139, 1140, 1141, 1142, 115])), (8, 73, (mX7_part, [1143, 1144, 1145, 1146, 115])), (8, 77, (mX7_elder, [1148, 1149, 1150, 1151, 115])), (7, 196, (mX7_findsOf, [1152, 1154, 89, 1155, 115])), (7, 193, (mX7_isFound, [1156, 1158, 90, 1159, 115])), (7, 206, (mX7_votesNow, [1160, 1162, 91, 1163, 115])), (7, 202, (mX7_votesBy, [1164, 1166, 92, 1167, 115])), (8, 81, (mX7_stand, [1168, 1169, 1170, 1171, 115])), (7, 212, (mX7_isWhole, [1173, 1175, 93, 1176, 115])), (7, 215, (mX7_isMost, [1177, 1179, 94, 1180, 115])), (8, 85, (mX7_fewest, [1184, 1185, 1186, 1187, 115])), (7, 235, (mX7_findFewest, [1188, 1190, 95, 1191, 115])), (7, 228, (mX7_nextPart, [1193, 1195, 96, 1196, 115]))]
theorem tVl_9_ok : ∀ e ∈ tVl_9, CodeIn e.2.2.1 := List.forall_mem_cons.mpr ⟨cdX7_isElder, List.forall_mem_cons.mpr ⟨cdX7_idle, List.forall_mem_cons.mpr ⟨cdX7_isTrial, List.forall_mem_cons.mpr ⟨cdX7_lesson, List.forall_mem_cons.mpr ⟨cdX7_part, List.forall_mem_cons.mpr ⟨cdX7_elder, List.forall_mem_cons.mpr ⟨cdX7_findsOf, List.forall_mem_cons.mpr ⟨cdX7_isFound, List.forall_mem_cons.mpr ⟨cdX7_votesNow, List.forall_mem_cons.mpr ⟨cdX7_votesBy, List.forall_mem_cons.mpr ⟨cdX7_stand, List.forall_mem_cons.mpr ⟨cdX7_isWhole, List.forall_mem_cons.mpr ⟨cdX7_isMost, List.forall_mem_cons.mpr ⟨cdX7_fewest, List.forall_mem_cons.mpr ⟨cdX7_findFewest, List.forall_mem_cons.mpr ⟨cdX7_nextPart, fun _ h => absurd h List.not_mem_nil⟩⟩⟩⟩⟩⟩⟩⟩⟩⟩⟩⟩⟩⟩⟩⟩
def tVl_10 : List (Nat × Nat × (MD × List Nat)) := [(7, 232, (mX7_goesDeeper, [1197, 1199, 97, 1200, 115])), (8, 89, (mX7_can, [1201, 1202, 1203, 1204, 115])), (8, 93, (mX7_feasts, [1205, 1206, 1207, 1208, 115])), (7, 238, (mX7_pricesOf, [1209, 1211, 98, 1212, 115])), (8, 97, (mX7_mends, [1213, 1214, 1215, 1216, 115])), (8, 101, (mX7_decides, [1217, 1218, 1219, 1220, 115])), (8, 105, (mX7_whereIs, [1221, 1222, 1223, 1224, 115])), (7, 241, (mX7_against, [1225, 1227, 99, 1228, 115])), (8, 109, (mX7_skills, [1229, 1230, 1231, 1232, 115])), (8, 114, (mX7_who, [1233, 1234, 1235, 1236, 115])), (8, 119, (mX7_err, [1238, 1239, 1240, 1241, 115])), (8, 123, (mX7_worth, [1245, 1246, 1247, 1248, 115])), (8, 127, (mX7_drawn, [1249, 1250, 1251, 1252, 115])), (8, 131, (mX7_image, [1258, 1259, 1260, 1261, 115])), (8, 135, (mX7_restore, [1262, 1263, 1264, 1265, 115])), (8, 139, (mX7_kind, [1266, 1267, 1268, 1269, 115]))]
theorem tVl_10_ok : ∀ e ∈ tVl_10, CodeIn e.2.2.1 := List.forall_mem_cons.mpr ⟨cdX7_goesDeeper, List.forall_mem_cons.mpr ⟨cdX7_can, List.forall_mem_cons.mpr ⟨cdX7_feasts, List.forall_mem_cons.mpr ⟨cdX7_pricesOf, List.forall_mem_cons.mpr ⟨cdX7_mends, List.forall_mem_cons.mpr ⟨cdX7_decides, List.forall_mem_cons.mpr ⟨cdX7_whereIs, List.forall_mem_cons.mpr ⟨cdX7_against, List.forall_mem_cons.mpr ⟨cdX7_skills, List.forall_mem_cons.mpr ⟨cdX7_who, List.forall_mem_cons.mpr ⟨cdX7_err, List.forall_mem_cons.mpr ⟨cdX7_worth, List.forall_mem_cons.mpr ⟨cdX7_drawn, List.forall_mem_cons.mpr ⟨cdX7_image, List.forall_mem_cons.mpr ⟨cdX7_restore, List.forall_mem_cons.mpr ⟨cdX7_kind, fun _ h => absurd h List.not_mem_nil⟩⟩⟩⟩⟩⟩⟩⟩⟩⟩⟩⟩⟩⟩⟩⟩
def tVl_11 : List (Nat × Nat × (MD × List Nat)) := [(8, 143, (mX7_as, [1270, 1271, 1272, 1273, 115])), (8, 147, (mX7_ask, [1274, 1275, 1276, 1277, 115])), (7, 284, (mX7_size, [1278, 1280, 100, 1281, 115])), (7, 265, (mX7_leaves, [1282, 1284, 101, 1285, 115])), (7, 281, (mX7_sizeJoint, [1286, 1288, 102, 1289, 115])), (7, 278, (mX7_mark, [1290, 1292, 103, 1293, 115])), (7, 271, (mX7_markJoint, [1294, 1296, 104, 1297, 115])), (7, 268, (mX7_markLent, [1298, 1300, 105, 1301, 115])), (7, 274, (mX7_sizeWax, [1302, 1304, 106, 1305, 115])), (8, 151, (mX7_trace, [1306, 1307, 1308, 1309, 115])), (8, 155, (mX7_count, [1310, 1311, 1312, 1313, 115])), (8, 159, (mX7_status, [1314, 1315, 1316, 1317, 115]))]
theorem tVl_11_ok : ∀ e ∈ tVl_11, CodeIn e.2.2.1 := List.forall_mem_cons.mpr ⟨cdX7_as, List.forall_mem_cons.mpr ⟨cdX7_ask, List.forall_mem_cons.mpr ⟨cdX7_size, List.forall_mem_cons.mpr ⟨cdX7_leaves, List.forall_mem_cons.mpr ⟨cdX7_sizeJoint, List.forall_mem_cons.mpr ⟨cdX7_mark, List.forall_mem_cons.mpr ⟨cdX7_markJoint, List.forall_mem_cons.mpr ⟨cdX7_markLent, List.forall_mem_cons.mpr ⟨cdX7_sizeWax, List.forall_mem_cons.mpr ⟨cdX7_trace, List.forall_mem_cons.mpr ⟨cdX7_count, List.forall_mem_cons.mpr ⟨cdX7_status, fun _ h => absurd h List.not_mem_nil⟩⟩⟩⟩⟩⟩⟩⟩⟩⟩⟩⟩
set_option maxRecDepth 100000 in
theorem tV_cut : tV = tVl_0 ++ (tVl_1 ++ (tVl_2 ++ (tVl_3 ++ (tVl_4 ++ (tVl_5 ++ (tVl_6 ++ (tVl_7 ++ (tVl_8 ++ (tVl_9 ++ (tVl_10 ++ (tVl_11))))))))))) := rfl
theorem tV_ok : ∀ e ∈ tV, CodeIn e.2.2.1 := by
  rw [tV_cut]
  exact List.forall_mem_append.mpr ⟨tVl_0_ok, List.forall_mem_append.mpr ⟨tVl_1_ok, List.forall_mem_append.mpr ⟨tVl_2_ok, List.forall_mem_append.mpr ⟨tVl_3_ok, List.forall_mem_append.mpr ⟨tVl_4_ok, List.forall_mem_append.mpr ⟨tVl_5_ok, List.forall_mem_append.mpr ⟨tVl_6_ok, List.forall_mem_append.mpr ⟨tVl_7_ok, List.forall_mem_append.mpr ⟨tVl_8_ok, List.forall_mem_append.mpr ⟨tVl_9_ok, List.forall_mem_append.mpr ⟨tVl_10_ok, tVl_11_ok⟩⟩⟩⟩⟩⟩⟩⟩⟩⟩⟩
def tSl_0 : List (Nat × Nat × (MD × List Nat)) := [(6, 60, (mX6_isRow, [398, 399, 400, 108])), (4, 74, (mX4_kindOf, [503, 504, 505, 110])), (5, 65, (mX6_seen, [522, 523, 524, 108])), (5, 69, (mX6_bit, [559, 560, 561, 108])), (5, 77, (mX6_taken, [566, 567, 568, 108])), (5, 81, (mX6_flawed, [580, 581, 582, 108])), (5, 84, (mX6_skillBehind, [583, 584, 585, 108])), (6, 154, (mX6_bit, [591, 560, 561, 108])), (6, 199, (mX6_taken, [617, 567, 568, 108])), (6, 203, (mX6_flawed, [618, 581, 582, 108])), (5, 100, (mJ6_bitCount_0f7a4, [627, 628, 629, 118])), (2, 27, (mJ6_bitCount_0f7a4, [659, 628, 629, 118])), (2, 57, (mX6_bit, [668, 560, 561, 108])), (2, 64, (mX6_skillBehind, [669, 584, 585, 108])), (2, 73, (mX6_taken, [670, 567, 568, 108])), (2, 81, (mX6_flawed, [672, 581, 582, 108]))]
theorem tSl_0_ok : ∀ e ∈ tSl_0, CodeIn e.2.2.1 := List.forall_mem_cons.mpr ⟨cdX6_isRow, List.forall_mem_cons.mpr ⟨cdX4_kindOf, List.forall_mem_cons.mpr ⟨cdX6_seen, List.forall_mem_cons.mpr ⟨cdX6_bit, List.forall_mem_cons.mpr ⟨cdX6_taken, List.forall_mem_cons.mpr ⟨cdX6_flawed, List.forall_mem_cons.mpr ⟨cdX6_skillBehind, List.forall_mem_cons.mpr ⟨cdX6_bit, List.forall_mem_cons.mpr ⟨cdX6_taken, List.forall_mem_cons.mpr ⟨cdX6_flawed, List.forall_mem_cons.mpr ⟨cdJ6_bitCount_0f7a4, List.forall_mem_cons.mpr ⟨cdJ6_bitCount_0f7a4, List.forall_mem_cons.mpr ⟨cdX6_bit, List.forall_mem_cons.mpr ⟨cdX6_skillBehind, List.forall_mem_cons.mpr ⟨cdX6_taken, List.forall_mem_cons.mpr ⟨cdX6_flawed, fun _ h => absurd h List.not_mem_nil⟩⟩⟩⟩⟩⟩⟩⟩⟩⟩⟩⟩⟩⟩⟩⟩
def tSl_1 : List (Nat × Nat × (MD × List Nat)) := [(6, 239, (mX6_isOneOfTwo, [692, 693, 694, 108])), (6, 246, (mJ6_bitCount_0f7a4, [699, 628, 629, 118])), (6, 339, (mX6_skillBehind, [744, 584, 585, 108])), (6, 284, (mX6_commonDivisor, [764, 765, 766, 108])), (6, 301, (mX6_kindsThatAre, [805, 806, 807, 108])), (7, 67, (mX7_isRow, [976, 977, 978, 115])), (7, 63, (mX7_in, [980, 981, 982, 115])), (7, 81, (mX7_fits, [1002, 1003, 1004, 115])), (7, 120, (mX7_kindOf, [1045, 1046, 1047, 115])), (7, 144, (mX7_takesOf, [1090, 1091, 1092, 115])), (7, 151, (mX7_has, [1093, 1094, 1095, 115])), (7, 148, (mX7_isFaulty, [1112, 1113, 1114, 115])), (7, 168, (mX7_more, [1115, 1116, 1117, 115])), (7, 199, (mX7_ones, [1181, 1182, 1183, 115]))]
theorem tSl_1_ok : ∀ e ∈ tSl_1, CodeIn e.2.2.1 := List.forall_mem_cons.mpr ⟨cdX6_isOneOfTwo, List.forall_mem_cons.mpr ⟨cdJ6_bitCount_0f7a4, List.forall_mem_cons.mpr ⟨cdX6_skillBehind, List.forall_mem_cons.mpr ⟨cdX6_commonDivisor, List.forall_mem_cons.mpr ⟨cdX6_kindsThatAre, List.forall_mem_cons.mpr ⟨cdX7_isRow, List.forall_mem_cons.mpr ⟨cdX7_in, List.forall_mem_cons.mpr ⟨cdX7_fits, List.forall_mem_cons.mpr ⟨cdX7_kindOf, List.forall_mem_cons.mpr ⟨cdX7_takesOf, List.forall_mem_cons.mpr ⟨cdX7_has, List.forall_mem_cons.mpr ⟨cdX7_isFaulty, List.forall_mem_cons.mpr ⟨cdX7_more, List.forall_mem_cons.mpr ⟨cdX7_ones, fun _ h => absurd h List.not_mem_nil⟩⟩⟩⟩⟩⟩⟩⟩⟩⟩⟩⟩⟩⟩
set_option maxRecDepth 100000 in
theorem tS_cut : tS = tSl_0 ++ (tSl_1) := rfl
theorem tS_ok : ∀ e ∈ tS, CodeIn e.2.2.1 := by
  rw [tS_cut]
  exact List.forall_mem_append.mpr ⟨tSl_0_ok, tSl_1_ok⟩
