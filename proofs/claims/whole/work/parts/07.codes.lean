/-! generated: the code words among the tables -/
theorem tbk_1 {w : Cond} (h : w ∈ tables_1_1) : w ∈ lw_tbl := List.mem_append_right _ (List.mem_append_left _ h)
theorem tbk_2 {w : Cond} (h : w ∈ tables_1_2) : w ∈ lw_tbl := List.mem_append_right _ (List.mem_append_right _ (List.mem_append_left _ h))
theorem tbk_3 {w : Cond} (h : w ∈ tables_1_3) : w ∈ lw_tbl := List.mem_append_right _ (List.mem_append_right _ (List.mem_append_right _ (List.mem_append_left _ h)))
theorem tbk_4 {w : Cond} (h : w ∈ tables_1_4) : w ∈ lw_tbl := List.mem_append_right _ (List.mem_append_right _ (List.mem_append_right _ (List.mem_append_right _ (List.mem_append_left _ h))))
theorem tbk_5 {w : Cond} (h : w ∈ tables_1_5) : w ∈ lw_tbl := List.mem_append_right _ (List.mem_append_right _ (List.mem_append_right _ (List.mem_append_right _ (List.mem_append_right _ (h)))))
set_option maxRecDepth 100000 in
theorem cdX6_row : Cond.code yX6_row cX6_row 4 (some .int) ∈ TB := TB_in (tbk_2 (List.mem_of_getElem? (i := 50) rfl)) rfl
set_option maxRecDepth 100000 in
theorem cdX6_finding : Cond.code yX6_finding cX6_finding 2 (some .int) ∈ TB := TB_in (tbk_2 (List.mem_of_getElem? (i := 58) rfl)) rfl
set_option maxRecDepth 100000 in
theorem cdX3_lay : Cond.code yX3_lay cX3_lay 5 none ∈ TB := TB_in (tbk_2 (List.mem_of_getElem? (i := 63) rfl)) rfl
set_option maxRecDepth 100000 in
theorem cdX6_clean : Cond.code yX6_clean cX6_clean 2 (some .int) ∈ TB := TB_in (tbk_2 (List.mem_of_getElem? (i := 67) rfl)) rfl
set_option maxRecDepth 100000 in
theorem cdX6_set : Cond.code yX6_set cX6_set 4 (some .int) ∈ TB := TB_in (tbk_2 (List.mem_of_getElem? (i := 71) rfl)) rfl
set_option maxRecDepth 100000 in
theorem cdX3_holds : Cond.code yX3_holds cX3_holds 4 (some .boolean) ∈ TB := TB_in (tbk_2 (List.mem_of_getElem? (i := 75) rfl)) rfl
set_option maxRecDepth 100000 in
theorem cdX3_put : Cond.code yX3_put cX3_put 5 (some .int) ∈ TB := TB_in (tbk_2 (List.mem_of_getElem? (i := 79) rfl)) rfl
set_option maxRecDepth 100000 in
theorem cdX6_copy : Cond.code yX6_copy cX6_copy 6 (some .int) ∈ TB := TB_in (tbk_2 (List.mem_of_getElem? (i := 83) rfl)) rfl
set_option maxRecDepth 100000 in
theorem cdX3_carry : Cond.code yX3_carry cX3_carry 6 none ∈ TB := TB_in (tbk_2 (List.mem_of_getElem? (i := 87) rfl)) rfl
set_option maxRecDepth 100000 in
theorem cdX6_drop : Cond.code yX6_drop cX6_drop 2 (some .int) ∈ TB := TB_in (tbk_2 (List.mem_of_getElem? (i := 94) rfl)) rfl
set_option maxRecDepth 100000 in
theorem cdX6_feed : Cond.code yX6_feed cX6_feed 2 (some .int) ∈ TB := TB_in (tbk_2 (List.mem_of_getElem? (i := 98) rfl)) rfl
set_option maxRecDepth 100000 in
theorem cdX4_append : Cond.code yX4_append cX4_append 2 (some .int) ∈ TB := TB_in (tbk_2 (List.mem_of_getElem? (i := 103) rfl)) rfl
set_option maxRecDepth 100000 in
theorem cdX6_trial : Cond.code yX6_trial cX6_trial 2 (some .int) ∈ TB := TB_in (tbk_2 (List.mem_of_getElem? (i := 107) rfl)) rfl
set_option maxRecDepth 100000 in
theorem cdX4_readInto : Cond.code yX4_readInto cX4_readInto 3 (some .boolean) ∈ TB := TB_in (tbk_2 (List.mem_of_getElem? (i := 111) rfl)) rfl
set_option maxRecDepth 100000 in
theorem cdX5_clear : Cond.code yX5_clear cX5_clear 1 none ∈ TB := TB_in (tbk_2 (List.mem_of_getElem? (i := 115) rfl)) rfl
set_option maxRecDepth 100000 in
theorem cdX4_readLaw : Cond.code yX4_readLaw cX4_readLaw 2 (some .boolean) ∈ TB := TB_in (tbk_2 (List.mem_of_getElem? (i := 119) rfl)) rfl
set_option maxRecDepth 100000 in
theorem cdX4_readLetter : Cond.code yX4_readLetter cX4_readLetter 2 (some .boolean) ∈ TB := TB_in (tbk_2 (List.mem_of_getElem? (i := 123) rfl)) rfl
set_option maxRecDepth 100000 in
theorem cdX4_letterAt : Cond.code yX4_letterAt cX4_letterAt 2 (some .int) ∈ TB := TB_in (tbk_2 (List.mem_of_getElem? (i := 127) rfl)) rfl
set_option maxRecDepth 100000 in
theorem cdX4_fail : Cond.code yX4_fail cX4_fail 2 (some .boolean) ∈ TB := TB_in (tbk_2 (List.mem_of_getElem? (i := 131) rfl)) rfl
set_option maxRecDepth 100000 in
theorem cdX4_readThree : Cond.code yX4_readThree cX4_readThree 6 (some .boolean) ∈ TB := TB_in (tbk_2 (List.mem_of_getElem? (i := 135) rfl)) rfl
set_option maxRecDepth 100000 in
theorem cdX4_readNumber : Cond.code yX4_readNumber cX4_readNumber 5 (some .boolean) ∈ TB := TB_in (tbk_2 (List.mem_of_getElem? (i := 139) rfl)) rfl
set_option maxRecDepth 100000 in
theorem cdX4_readOne : Cond.code yX4_readOne cX4_readOne 4 (some .boolean) ∈ TB := TB_in (tbk_2 (List.mem_of_getElem? (i := 146) rfl)) rfl
set_option maxRecDepth 100000 in
theorem cdX4_readPart : Cond.code yX4_readPart cX4_readPart 3 (some .boolean) ∈ TB := TB_in (tbk_2 (List.mem_of_getElem? (i := 153) rfl)) rfl
set_option maxRecDepth 100000 in
theorem cdX5_addPart : Cond.code yX5_addPart cX5_addPart 5 none ∈ TB := TB_in (tbk_2 (List.mem_of_getElem? (i := 157) rfl)) rfl
set_option maxRecDepth 100000 in
theorem cdX4_readElder : Cond.code yX4_readElder cX4_readElder 2 (some .boolean) ∈ TB := TB_in (tbk_2 (List.mem_of_getElem? (i := 161) rfl)) rfl
set_option maxRecDepth 100000 in
theorem cdX5_addElder : Cond.code yX5_addElder cX5_addElder 5 none ∈ TB := TB_in (tbk_2 (List.mem_of_getElem? (i := 165) rfl)) rfl
set_option maxRecDepth 100000 in
theorem cdX5_copyFrom : Cond.code yX5_copyFrom cX5_copyFrom 3 none ∈ TB := TB_in (tbk_2 (List.mem_of_getElem? (i := 173) rfl)) rfl
set_option maxRecDepth 100000 in
theorem cdX0_forget : Cond.code yX0_forget cX0_forget 1 none ∈ TB := TB_in (tbk_2 (List.mem_of_getElem? (i := 177) rfl)) rfl
set_option maxRecDepth 100000 in
theorem cdX6_fault : Cond.code yX6_fault cX6_fault 1 (some .int) ∈ TB := TB_in (tbk_2 (List.mem_of_getElem? (i := 181) rfl)) rfl
set_option maxRecDepth 100000 in
theorem cdX6_undo : Cond.code yX6_undo cX6_undo 1 (some .int) ∈ TB := TB_in (tbk_2 (List.mem_of_getElem? (i := 185) rfl)) rfl
set_option maxRecDepth 100000 in
theorem cdX0_takeBack : Cond.code yX0_takeBack cX0_takeBack 3 (some .int) ∈ TB := TB_in (tbk_2 (List.mem_of_getElem? (i := 190) rfl)) rfl
set_option maxRecDepth 100000 in
theorem cdX6_make : Cond.code yX6_make cX6_make 2 (some .int) ∈ TB := TB_in (tbk_2 (List.mem_of_getElem? (i := 194) rfl)) rfl
set_option maxRecDepth 100000 in
theorem cdX6_isPart : Cond.code yX6_isPart cX6_isPart 2 (some .boolean) ∈ TB := TB_in (tbk_2 (List.mem_of_getElem? (i := 198) rfl)) rfl
set_option maxRecDepth 100000 in
theorem cdX5_mayBuild : Cond.code yX5_mayBuild cX5_mayBuild 2 (some .boolean) ∈ TB := TB_in (tbk_2 (List.mem_of_getElem? (i := 202) rfl)) rfl
set_option maxRecDepth 100000 in
theorem cdX5_isReady : Cond.code yX5_isReady cX5_isReady 3 (some .boolean) ∈ TB := TB_in (tbk_2 (List.mem_of_getElem? (i := 209) rfl)) rfl
set_option maxRecDepth 100000 in
theorem cdX0_keep : Cond.code yX0_keep cX0_keep 3 none ∈ TB := TB_in (tbk_2 (List.mem_of_getElem? (i := 216) rfl)) rfl
set_option maxRecDepth 100000 in
theorem cdX5_build : Cond.code yX5_build cX5_build 4 (some .int) ∈ TB := TB_in (tbk_2 (List.mem_of_getElem? (i := 223) rfl)) rfl
set_option maxRecDepth 100000 in
theorem cdX6_mend : Cond.code yX6_mend cX6_mend 2 (some .int) ∈ TB := TB_in (tbk_2 (List.mem_of_getElem? (i := 234) rfl)) rfl
set_option maxRecDepth 100000 in
theorem cdX5_mendingDays : Cond.code yX5_mendingDays cX5_mendingDays 2 (some .int) ∈ TB := TB_in (tbk_2 (List.mem_of_getElem? (i := 239) rfl)) rfl
set_option maxRecDepth 100000 in
theorem cdX6_feast : Cond.code yX6_feast cX6_feast 2 (some .int) ∈ TB := TB_in (tbk_3 (List.mem_of_getElem? (i := 3) rfl)) rfl
set_option maxRecDepth 100000 in
theorem cdX6_isElder : Cond.code yX6_isElder cX6_isElder 2 (some .boolean) ∈ TB := TB_in (tbk_3 (List.mem_of_getElem? (i := 7) rfl)) rfl
set_option maxRecDepth 100000 in
theorem cdX6_idle : Cond.code yX6_idle cX6_idle 3 (some .int) ∈ TB := TB_in (tbk_3 (List.mem_of_getElem? (i := 11) rfl)) rfl
set_option maxRecDepth 100000 in
theorem cdX6_lesson : Cond.code yX6_lesson cX6_lesson 1 (some .int) ∈ TB := TB_in (tbk_3 (List.mem_of_getElem? (i := 15) rfl)) rfl
set_option maxRecDepth 100000 in
theorem cdX6_part : Cond.code yX6_part cX6_part 3 (some .int) ∈ TB := TB_in (tbk_3 (List.mem_of_getElem? (i := 19) rfl)) rfl
set_option maxRecDepth 100000 in
theorem cdX6_elder : Cond.code yX6_elder cX6_elder 3 (some .int) ∈ TB := TB_in (tbk_3 (List.mem_of_getElem? (i := 26) rfl)) rfl
set_option maxRecDepth 100000 in
theorem cdX5_finds : Cond.code yX5_finds cX5_finds 3 (some .int) ∈ TB := TB_in (tbk_3 (List.mem_of_getElem? (i := 30) rfl)) rfl
set_option maxRecDepth 100000 in
theorem cdX5_votes : Cond.code yX5_votes cX5_votes 5 (some .int) ∈ TB := TB_in (tbk_3 (List.mem_of_getElem? (i := 40) rfl)) rfl
set_option maxRecDepth 100000 in
theorem cdX6_stand : Cond.code yX6_stand cX6_stand 2 (some .int) ∈ TB := TB_in (tbk_3 (List.mem_of_getElem? (i := 45) rfl)) rfl
set_option maxRecDepth 100000 in
theorem cdX5_passes : Cond.code yX5_passes cX5_passes 1 (some .boolean) ∈ TB := TB_in (tbk_3 (List.mem_of_getElem? (i := 49) rfl)) rfl
set_option maxRecDepth 100000 in
theorem cdX5_wins : Cond.code yX5_wins cX5_wins 2 (some .boolean) ∈ TB := TB_in (tbk_3 (List.mem_of_getElem? (i := 54) rfl)) rfl
set_option maxRecDepth 100000 in
theorem cdX6_fewest : Cond.code yX6_fewest cX6_fewest 2 (some .int) ∈ TB := TB_in (tbk_3 (List.mem_of_getElem? (i := 58) rfl)) rfl
set_option maxRecDepth 100000 in
theorem cdX2_reckon : Cond.code yX2_reckon cX2_reckon 5 none ∈ TB := TB_in (tbk_3 (List.mem_of_getElem? (i := 62) rfl)) rfl
set_option maxRecDepth 100000 in
theorem cdX2_isReached : Cond.code yX2_isReached cX2_isReached 3 (some .boolean) ∈ TB := TB_in (tbk_3 (List.mem_of_getElem? (i := 67) rfl)) rfl
set_option maxRecDepth 100000 in
theorem cdX2_goOnFrom : Cond.code yX2_goOnFrom cX2_goOnFrom 9 none ∈ TB := TB_in (tbk_3 (List.mem_of_getElem? (i := 71) rfl)) rfl
set_option maxRecDepth 100000 in
theorem cdX2_addPart : Cond.code yX2_addPart cX2_addPart 12 none ∈ TB := TB_in (tbk_3 (List.mem_of_getElem? (i := 80) rfl)) rfl
set_option maxRecDepth 100000 in
theorem cdX2_conclude : Cond.code yX2_conclude cX2_conclude 4 none ∈ TB := TB_in (tbk_3 (List.mem_of_getElem? (i := 87) rfl)) rfl
set_option maxRecDepth 100000 in
theorem cdX6_can : Cond.code yX6_can cX6_can 1 (some .int) ∈ TB := TB_in (tbk_3 (List.mem_of_getElem? (i := 91) rfl)) rfl
set_option maxRecDepth 100000 in
theorem cdX6_feasts : Cond.code yX6_feasts cX6_feasts 3 (some .int) ∈ TB := TB_in (tbk_3 (List.mem_of_getElem? (i := 95) rfl)) rfl
set_option maxRecDepth 100000 in
theorem cdX6_cheapestFeasts : Cond.code yX6_cheapestFeasts cX6_cheapestFeasts 8 (some .int) ∈ TB := TB_in (tbk_3 (List.mem_of_getElem? (i := 102) rfl)) rfl
set_option maxRecDepth 100000 in
theorem cdX5_feastingMoney : Cond.code yX5_feastingMoney cX5_feastingMoney 4 (some .int) ∈ TB := TB_in (tbk_3 (List.mem_of_getElem? (i := 107) rfl)) rfl
set_option maxRecDepth 100000 in
theorem cdX6_mends : Cond.code yX6_mends cX6_mends 3 (some .int) ∈ TB := TB_in (tbk_3 (List.mem_of_getElem? (i := 112) rfl)) rfl
set_option maxRecDepth 100000 in
theorem cdX6_leastMends : Cond.code yX6_leastMends cX6_leastMends 6 (some .int) ∈ TB := TB_in (tbk_3 (List.mem_of_getElem? (i := 116) rfl)) rfl
set_option maxRecDepth 100000 in
theorem cdX5_mendingDaysOf : Cond.code yX5_mendingDaysOf cX5_mendingDaysOf 4 (some .int) ∈ TB := TB_in (tbk_3 (List.mem_of_getElem? (i := 120) rfl)) rfl
set_option maxRecDepth 100000 in
theorem cdX6_decides : Cond.code yX6_decides cX6_decides 5 (some .int) ∈ TB := TB_in (tbk_3 (List.mem_of_getElem? (i := 125) rfl)) rfl
set_option maxRecDepth 100000 in
theorem cdX6_whereIs : Cond.code yX6_whereIs cX6_whereIs 7 (some .int) ∈ TB := TB_in (tbk_3 (List.mem_of_getElem? (i := 129) rfl)) rfl
set_option maxRecDepth 100000 in
theorem cdX6_isFoundAsTold : Cond.code yX6_isFoundAsTold cX6_isFoundAsTold 5 (some .boolean) ∈ TB := TB_in (tbk_3 (List.mem_of_getElem? (i := 133) rfl)) rfl
set_option maxRecDepth 100000 in
theorem cdX3_item : Cond.code yX3_item cX3_item 3 (some .int) ∈ TB := TB_in (tbk_3 (List.mem_of_getElem? (i := 137) rfl)) rfl
set_option maxRecDepth 100000 in
theorem cdX6_skills : Cond.code yX6_skills cX6_skills 6 (some .int) ∈ TB := TB_in (tbk_3 (List.mem_of_getElem? (i := 142) rfl)) rfl
set_option maxRecDepth 100000 in
theorem cdX6_isMadeAsTold : Cond.code yX6_isMadeAsTold cX6_isMadeAsTold 11 (some .boolean) ∈ TB := TB_in (tbk_3 (List.mem_of_getElem? (i := 146) rfl)) rfl
set_option maxRecDepth 100000 in
theorem cdX6_who : Cond.code yX6_who cX6_who 7 (some .int) ∈ TB := TB_in (tbk_3 (List.mem_of_getElem? (i := 152) rfl)) rfl
set_option maxRecDepth 100000 in
theorem cdX6_isTakenAsTold : Cond.code yX6_isTakenAsTold cX6_isTakenAsTold 10 (some .boolean) ∈ TB := TB_in (tbk_3 (List.mem_of_getElem? (i := 156) rfl)) rfl
set_option maxRecDepth 100000 in
theorem cdX6_err : Cond.code yX6_err cX6_err 10 (some .long) ∈ TB := TB_in (tbk_3 (List.mem_of_getElem? (i := 160) rfl)) rfl
set_option maxRecDepth 100000 in
theorem cdX6_casesOf : Cond.code yX6_casesOf cX6_casesOf 6 (some .long) ∈ TB := TB_in (tbk_3 (List.mem_of_getElem? (i := 167) rfl)) rfl
set_option maxRecDepth 100000 in
theorem cdX6_worth : Cond.code yX6_worth cX6_worth 2 (some .int) ∈ TB := TB_in (tbk_3 (List.mem_of_getElem? (i := 174) rfl)) rfl
set_option maxRecDepth 100000 in
theorem cdX6_drawn : Cond.code yX6_drawn cX6_drawn 7 (some .int) ∈ TB := TB_in (tbk_3 (List.mem_of_getElem? (i := 178) rfl)) rfl
set_option maxRecDepth 100000 in
theorem cdX5_buildDrawn : Cond.code yX5_buildDrawn cX5_buildDrawn 4 none ∈ TB := TB_in (tbk_3 (List.mem_of_getElem? (i := 185) rfl)) rfl
set_option maxRecDepth 100000 in
theorem cdX6_image : Cond.code yX6_image cX6_image 2 (some .int) ∈ TB := TB_in (tbk_3 (List.mem_of_getElem? (i := 192) rfl)) rfl
set_option maxRecDepth 100000 in
theorem cdX6_imageOf : Cond.code yX6_imageOf cX6_imageOf 2 (some (.object "GuildPiece$Trial")) ∈ TB := TB_in (tbk_3 (List.mem_of_getElem? (i := 196) rfl)) rfl
set_option maxRecDepth 100000 in
theorem cdX6_restore : Cond.code yX6_restore cX6_restore 2 (some .int) ∈ TB := TB_in (tbk_3 (List.mem_of_getElem? (i := 200) rfl)) rfl
set_option maxRecDepth 100000 in
theorem cdX6_kind : Cond.code yX6_kind cX6_kind 2 (some .int) ∈ TB := TB_in (tbk_3 (List.mem_of_getElem? (i := 204) rfl)) rfl
set_option maxRecDepth 100000 in
theorem cdX6_as : Cond.code yX6_as cX6_as 3 (some .int) ∈ TB := TB_in (tbk_3 (List.mem_of_getElem? (i := 208) rfl)) rfl
set_option maxRecDepth 100000 in
theorem cdX6_ask : Cond.code yX6_ask cX6_ask 4 (some .int) ∈ TB := TB_in (tbk_3 (List.mem_of_getElem? (i := 215) rfl)) rfl
set_option maxRecDepth 100000 in
theorem cdX1_takeUp : Cond.code yX1_takeUp cX1_takeUp 3 none ∈ TB := TB_in (tbk_3 (List.mem_of_getElem? (i := 219) rfl)) rfl
set_option maxRecDepth 100000 in
theorem cdX1_give : Cond.code yX1_give cX1_give 3 (some .int) ∈ TB := TB_in (tbk_3 (List.mem_of_getElem? (i := 229) rfl)) rfl
set_option maxRecDepth 100000 in
theorem cdX1_begin : Cond.code yX1_begin cX1_begin 2 none ∈ TB := TB_in (tbk_3 (List.mem_of_getElem? (i := 234) rfl)) rfl
set_option maxRecDepth 100000 in
theorem cdX6_trace : Cond.code yX6_trace cX6_trace 2 (some .int) ∈ TB := TB_in (tbk_4 (List.mem_of_getElem? (i := 1) rfl)) rfl
set_option maxRecDepth 100000 in
theorem cdX6_count : Cond.code yX6_count cX6_count 2 (some .int) ∈ TB := TB_in (tbk_4 (List.mem_of_getElem? (i := 5) rfl)) rfl
set_option maxRecDepth 100000 in
theorem cdX3_howMany : Cond.code yX3_howMany cX3_howMany 3 (some .int) ∈ TB := TB_in (tbk_4 (List.mem_of_getElem? (i := 9) rfl)) rfl
set_option maxRecDepth 100000 in
theorem cdX6_status : Cond.code yX6_status cX6_status 1 (some .int) ∈ TB := TB_in (tbk_4 (List.mem_of_getElem? (i := 13) rfl)) rfl
set_option maxRecDepth 100000 in
theorem cdX7_row : Cond.code yX7_row cX7_row 5 (some .int) ∈ TB := TB_in (tbk_4 (List.mem_of_getElem? (i := 102) rfl)) rfl
set_option maxRecDepth 100000 in
theorem cdX7_found : Cond.code yX7_found cX7_found 2 (some .int) ∈ TB := TB_in (tbk_4 (List.mem_of_getElem? (i := 115) rfl)) rfl
set_option maxRecDepth 100000 in
theorem cdX7_good : Cond.code yX7_good cX7_good 2 (some .int) ∈ TB := TB_in (tbk_4 (List.mem_of_getElem? (i := 120) rfl)) rfl
set_option maxRecDepth 100000 in
theorem cdX7_set : Cond.code yX7_set cX7_set 4 (some .int) ∈ TB := TB_in (tbk_4 (List.mem_of_getElem? (i := 124) rfl)) rfl
set_option maxRecDepth 100000 in
theorem cdX7_copy : Cond.code yX7_copy cX7_copy 7 (some .int) ∈ TB := TB_in (tbk_4 (List.mem_of_getElem? (i := 128) rfl)) rfl
set_option maxRecDepth 100000 in
theorem cdX7_drop : Cond.code yX7_drop cX7_drop 3 (some .int) ∈ TB := TB_in (tbk_4 (List.mem_of_getElem? (i := 135) rfl)) rfl
set_option maxRecDepth 100000 in
theorem cdX7_feed : Cond.code yX7_feed cX7_feed 2 (some .int) ∈ TB := TB_in (tbk_4 (List.mem_of_getElem? (i := 139) rfl)) rfl
set_option maxRecDepth 100000 in
theorem cdX7_trial : Cond.code yX7_trial cX7_trial 2 (some .int) ∈ TB := TB_in (tbk_4 (List.mem_of_getElem? (i := 145) rfl)) rfl
set_option maxRecDepth 100000 in
theorem cdX7_takesLaw : Cond.code yX7_takesLaw cX7_takesLaw 2 (some .boolean) ∈ TB := TB_in (tbk_4 (List.mem_of_getElem? (i := 149) rfl)) rfl
set_option maxRecDepth 100000 in
theorem cdX7_takes : Cond.code yX7_takes cX7_takes 2 (some .boolean) ∈ TB := TB_in (tbk_4 (List.mem_of_getElem? (i := 153) rfl)) rfl
set_option maxRecDepth 100000 in
theorem cdX7_byteAt : Cond.code yX7_byteAt cX7_byteAt 2 (some .int) ∈ TB := TB_in (tbk_4 (List.mem_of_getElem? (i := 157) rfl)) rfl
set_option maxRecDepth 100000 in
theorem cdX7_fails : Cond.code yX7_fails cX7_fails 3 (some .boolean) ∈ TB := TB_in (tbk_4 (List.mem_of_getElem? (i := 161) rfl)) rfl
set_option maxRecDepth 100000 in
theorem cdX7_takesNumber : Cond.code yX7_takesNumber cX7_takesNumber 5 (some .boolean) ∈ TB := TB_in (tbk_4 (List.mem_of_getElem? (i := 165) rfl)) rfl
set_option maxRecDepth 100000 in
theorem cdX7_takesMore : Cond.code yX7_takesMore cX7_takesMore 3 (some .boolean) ∈ TB := TB_in (tbk_4 (List.mem_of_getElem? (i := 171) rfl)) rfl
set_option maxRecDepth 100000 in
theorem cdX7_takesPart : Cond.code yX7_takesPart cX7_takesPart 7 (some .boolean) ∈ TB := TB_in (tbk_4 (List.mem_of_getElem? (i := 178) rfl)) rfl
set_option maxRecDepth 100000 in
theorem cdX7_takesElder : Cond.code yX7_takesElder cX7_takesElder 2 (some .boolean) ∈ TB := TB_in (tbk_4 (List.mem_of_getElem? (i := 182) rfl)) rfl
set_option maxRecDepth 100000 in
theorem cdX7_copyAll : Cond.code yX7_copyAll cX7_copyAll 4 none ∈ TB := TB_in (tbk_4 (List.mem_of_getElem? (i := 187) rfl)) rfl
set_option maxRecDepth 100000 in
theorem cdX7_fault : Cond.code yX7_fault cX7_fault 1 (some .int) ∈ TB := TB_in (tbk_4 (List.mem_of_getElem? (i := 191) rfl)) rfl
set_option maxRecDepth 100000 in
theorem cdX7_undo : Cond.code yX7_undo cX7_undo 2 (some .int) ∈ TB := TB_in (tbk_4 (List.mem_of_getElem? (i := 195) rfl)) rfl
set_option maxRecDepth 100000 in
theorem cdX7_make : Cond.code yX7_make cX7_make 2 (some .int) ∈ TB := TB_in (tbk_4 (List.mem_of_getElem? (i := 200) rfl)) rfl
set_option maxRecDepth 100000 in
theorem cdX7_isPart : Cond.code yX7_isPart cX7_isPart 2 (some .boolean) ∈ TB := TB_in (tbk_4 (List.mem_of_getElem? (i := 204) rfl)) rfl
set_option maxRecDepth 100000 in
theorem cdX7_mayNow : Cond.code yX7_mayNow cX7_mayNow 2 (some .boolean) ∈ TB := TB_in (tbk_4 (List.mem_of_getElem? (i := 208) rfl)) rfl
set_option maxRecDepth 100000 in
theorem cdX7_mayBe : Cond.code yX7_mayBe cX7_mayBe 7 (some .boolean) ∈ TB := TB_in (tbk_4 (List.mem_of_getElem? (i := 212) rfl)) rfl
set_option maxRecDepth 100000 in
theorem cdX7_takesNow : Cond.code yX7_takesNow cX7_takesNow 3 (some .int) ∈ TB := TB_in (tbk_4 (List.mem_of_getElem? (i := 216) rfl)) rfl
set_option maxRecDepth 100000 in
theorem cdX7_isAheadMade : Cond.code yX7_isAheadMade cX7_isAheadMade 3 (some .boolean) ∈ TB := TB_in (tbk_4 (List.mem_of_getElem? (i := 226) rfl)) rfl
set_option maxRecDepth 100000 in
theorem cdX7_minds : Cond.code yX7_minds cX7_minds 2 none ∈ TB := TB_in (tbk_4 (List.mem_of_getElem? (i := 230) rfl)) rfl
set_option maxRecDepth 100000 in
theorem cdX7_makes : Cond.code yX7_makes cX7_makes 4 none ∈ TB := TB_in (tbk_4 (List.mem_of_getElem? (i := 234) rfl)) rfl
set_option maxRecDepth 100000 in
theorem cdX7_isFaultyNow : Cond.code yX7_isFaultyNow cX7_isFaultyNow 3 (some .boolean) ∈ TB := TB_in (tbk_4 (List.mem_of_getElem? (i := 238) rfl)) rfl
set_option maxRecDepth 100000 in
theorem cdX7_mend : Cond.code yX7_mend cX7_mend 2 (some .int) ∈ TB := TB_in (tbk_5 (List.mem_of_getElem? (i := 8) rfl)) rfl
set_option maxRecDepth 100000 in
theorem cdX7_feast : Cond.code yX7_feast cX7_feast 2 (some .int) ∈ TB := TB_in (tbk_5 (List.mem_of_getElem? (i := 12) rfl)) rfl
set_option maxRecDepth 100000 in
theorem cdX7_isElder : Cond.code yX7_isElder cX7_isElder 2 (some .boolean) ∈ TB := TB_in (tbk_5 (List.mem_of_getElem? (i := 16) rfl)) rfl
set_option maxRecDepth 100000 in
theorem cdX7_idle : Cond.code yX7_idle cX7_idle 3 (some .int) ∈ TB := TB_in (tbk_5 (List.mem_of_getElem? (i := 20) rfl)) rfl
set_option maxRecDepth 100000 in
theorem cdX7_isTrial : Cond.code yX7_isTrial cX7_isTrial 1 (some .boolean) ∈ TB := TB_in (tbk_5 (List.mem_of_getElem? (i := 24) rfl)) rfl
set_option maxRecDepth 100000 in
theorem cdX7_lesson : Cond.code yX7_lesson cX7_lesson 1 (some .int) ∈ TB := TB_in (tbk_5 (List.mem_of_getElem? (i := 29) rfl)) rfl
set_option maxRecDepth 100000 in
theorem cdX7_part : Cond.code yX7_part cX7_part 3 (some .int) ∈ TB := TB_in (tbk_5 (List.mem_of_getElem? (i := 33) rfl)) rfl
set_option maxRecDepth 100000 in
theorem cdX7_elder : Cond.code yX7_elder cX7_elder 3 (some .int) ∈ TB := TB_in (tbk_5 (List.mem_of_getElem? (i := 38) rfl)) rfl
set_option maxRecDepth 100000 in
theorem cdX7_findsOf : Cond.code yX7_findsOf cX7_findsOf 5 (some .int) ∈ TB := TB_in (tbk_5 (List.mem_of_getElem? (i := 42) rfl)) rfl
set_option maxRecDepth 100000 in
theorem cdX7_isFound : Cond.code yX7_isFound cX7_isFound 4 (some .boolean) ∈ TB := TB_in (tbk_5 (List.mem_of_getElem? (i := 46) rfl)) rfl
set_option maxRecDepth 100000 in
theorem cdX7_votesNow : Cond.code yX7_votesNow cX7_votesNow 1 (some .int) ∈ TB := TB_in (tbk_5 (List.mem_of_getElem? (i := 50) rfl)) rfl
set_option maxRecDepth 100000 in
theorem cdX7_votesBy : Cond.code yX7_votesBy cX7_votesBy 5 (some .int) ∈ TB := TB_in (tbk_5 (List.mem_of_getElem? (i := 54) rfl)) rfl
set_option maxRecDepth 100000 in
theorem cdX7_stand : Cond.code yX7_stand cX7_stand 2 (some .int) ∈ TB := TB_in (tbk_5 (List.mem_of_getElem? (i := 58) rfl)) rfl
set_option maxRecDepth 100000 in
theorem cdX7_isWhole : Cond.code yX7_isWhole cX7_isWhole 1 (some .boolean) ∈ TB := TB_in (tbk_5 (List.mem_of_getElem? (i := 63) rfl)) rfl
set_option maxRecDepth 100000 in
theorem cdX7_isMost : Cond.code yX7_isMost cX7_isMost 2 (some .boolean) ∈ TB := TB_in (tbk_5 (List.mem_of_getElem? (i := 67) rfl)) rfl
set_option maxRecDepth 100000 in
theorem cdX7_fewest : Cond.code yX7_fewest cX7_fewest 2 (some .int) ∈ TB := TB_in (tbk_5 (List.mem_of_getElem? (i := 74) rfl)) rfl
set_option maxRecDepth 100000 in
theorem cdX7_findFewest : Cond.code yX7_findFewest cX7_findFewest 5 none ∈ TB := TB_in (tbk_5 (List.mem_of_getElem? (i := 78) rfl)) rfl
set_option maxRecDepth 100000 in
theorem cdX7_nextPart : Cond.code yX7_nextPart cX7_nextPart 5 (some .int) ∈ TB := TB_in (tbk_5 (List.mem_of_getElem? (i := 83) rfl)) rfl
set_option maxRecDepth 100000 in
theorem cdX7_goesDeeper : Cond.code yX7_goesDeeper cX7_goesDeeper 5 none ∈ TB := TB_in (tbk_5 (List.mem_of_getElem? (i := 87) rfl)) rfl
set_option maxRecDepth 100000 in
theorem cdX7_can : Cond.code yX7_can cX7_can 9 (some .int) ∈ TB := TB_in (tbk_5 (List.mem_of_getElem? (i := 91) rfl)) rfl
set_option maxRecDepth 100000 in
theorem cdX7_feasts : Cond.code yX7_feasts cX7_feasts 6 (some .int) ∈ TB := TB_in (tbk_5 (List.mem_of_getElem? (i := 95) rfl)) rfl
set_option maxRecDepth 100000 in
theorem cdX7_pricesOf : Cond.code yX7_pricesOf cX7_pricesOf 4 (some .int) ∈ TB := TB_in (tbk_5 (List.mem_of_getElem? (i := 99) rfl)) rfl
set_option maxRecDepth 100000 in
theorem cdX7_mends : Cond.code yX7_mends cX7_mends 6 (some .int) ∈ TB := TB_in (tbk_5 (List.mem_of_getElem? (i := 103) rfl)) rfl
set_option maxRecDepth 100000 in
theorem cdX7_decides : Cond.code yX7_decides cX7_decides 3 (some .int) ∈ TB := TB_in (tbk_5 (List.mem_of_getElem? (i := 107) rfl)) rfl
set_option maxRecDepth 100000 in
theorem cdX7_whereIs : Cond.code yX7_whereIs cX7_whereIs 10 (some .int) ∈ TB := TB_in (tbk_5 (List.mem_of_getElem? (i := 111) rfl)) rfl
set_option maxRecDepth 100000 in
theorem cdX7_against : Cond.code yX7_against cX7_against 4 (some .int) ∈ TB := TB_in (tbk_5 (List.mem_of_getElem? (i := 115) rfl)) rfl
set_option maxRecDepth 100000 in
theorem cdX7_skills : Cond.code yX7_skills cX7_skills 13 (some .int) ∈ TB := TB_in (tbk_5 (List.mem_of_getElem? (i := 119) rfl)) rfl
set_option maxRecDepth 100000 in
theorem cdX7_who : Cond.code yX7_who cX7_who 12 (some .int) ∈ TB := TB_in (tbk_5 (List.mem_of_getElem? (i := 123) rfl)) rfl
set_option maxRecDepth 100000 in
theorem cdX7_err : Cond.code yX7_err cX7_err 13 (some .long) ∈ TB := TB_in (tbk_5 (List.mem_of_getElem? (i := 128) rfl)) rfl
set_option maxRecDepth 100000 in
theorem cdX7_worth : Cond.code yX7_worth cX7_worth 2 (some .int) ∈ TB := TB_in (tbk_5 (List.mem_of_getElem? (i := 135) rfl)) rfl
set_option maxRecDepth 100000 in
theorem cdX7_drawn : Cond.code yX7_drawn cX7_drawn 8 (some .int) ∈ TB := TB_in (tbk_5 (List.mem_of_getElem? (i := 139) rfl)) rfl
set_option maxRecDepth 100000 in
theorem cdX7_image : Cond.code yX7_image cX7_image 2 (some .int) ∈ TB := TB_in (tbk_5 (List.mem_of_getElem? (i := 148) rfl)) rfl
set_option maxRecDepth 100000 in
theorem cdX7_restore : Cond.code yX7_restore cX7_restore 2 (some .int) ∈ TB := TB_in (tbk_5 (List.mem_of_getElem? (i := 152) rfl)) rfl
set_option maxRecDepth 100000 in
theorem cdX7_kind : Cond.code yX7_kind cX7_kind 2 (some .int) ∈ TB := TB_in (tbk_5 (List.mem_of_getElem? (i := 156) rfl)) rfl
set_option maxRecDepth 100000 in
theorem cdX7_as : Cond.code yX7_as cX7_as 5 (some .int) ∈ TB := TB_in (tbk_5 (List.mem_of_getElem? (i := 160) rfl)) rfl
set_option maxRecDepth 100000 in
theorem cdX7_ask : Cond.code yX7_ask cX7_ask 3 (some .int) ∈ TB := TB_in (tbk_5 (List.mem_of_getElem? (i := 164) rfl)) rfl
set_option maxRecDepth 100000 in
theorem cdX7_size : Cond.code yX7_size cX7_size 3 (some .int) ∈ TB := TB_in (tbk_5 (List.mem_of_getElem? (i := 168) rfl)) rfl
set_option maxRecDepth 100000 in
theorem cdX7_leaves : Cond.code yX7_leaves cX7_leaves 2 none ∈ TB := TB_in (tbk_5 (List.mem_of_getElem? (i := 172) rfl)) rfl
set_option maxRecDepth 100000 in
theorem cdX7_sizeJoint : Cond.code yX7_sizeJoint cX7_sizeJoint 2 (some .int) ∈ TB := TB_in (tbk_5 (List.mem_of_getElem? (i := 176) rfl)) rfl
set_option maxRecDepth 100000 in
theorem cdX7_mark : Cond.code yX7_mark cX7_mark 3 (some .int) ∈ TB := TB_in (tbk_5 (List.mem_of_getElem? (i := 180) rfl)) rfl
set_option maxRecDepth 100000 in
theorem cdX7_markJoint : Cond.code yX7_markJoint cX7_markJoint 2 (some .int) ∈ TB := TB_in (tbk_5 (List.mem_of_getElem? (i := 184) rfl)) rfl
set_option maxRecDepth 100000 in
theorem cdX7_markLent : Cond.code yX7_markLent cX7_markLent 2 (some .int) ∈ TB := TB_in (tbk_5 (List.mem_of_getElem? (i := 188) rfl)) rfl
set_option maxRecDepth 100000 in
theorem cdX7_sizeWax : Cond.code yX7_sizeWax cX7_sizeWax 4 (some .int) ∈ TB := TB_in (tbk_5 (List.mem_of_getElem? (i := 192) rfl)) rfl
set_option maxRecDepth 100000 in
theorem cdX7_trace : Cond.code yX7_trace cX7_trace 2 (some .int) ∈ TB := TB_in (tbk_5 (List.mem_of_getElem? (i := 196) rfl)) rfl
set_option maxRecDepth 100000 in
theorem cdX7_count : Cond.code yX7_count cX7_count 4 (some .int) ∈ TB := TB_in (tbk_5 (List.mem_of_getElem? (i := 200) rfl)) rfl
set_option maxRecDepth 100000 in
theorem cdX7_status : Cond.code yX7_status cX7_status 1 (some .int) ∈ TB := TB_in (tbk_5 (List.mem_of_getElem? (i := 204) rfl)) rfl
set_option maxRecDepth 100000 in
theorem cdX6_isRow : Cond.code yX6_isRow cX6_isRow 1 (some .boolean) ∈ TB := TB_in (tbk_2 (List.mem_of_getElem? (i := 53) rfl)) rfl
set_option maxRecDepth 100000 in
theorem cdX4_isFigure : Cond.code yX4_isFigure cX4_isFigure 1 (some .boolean) ∈ TB := TB_in (tbk_2 (List.mem_of_getElem? (i := 142) rfl)) rfl
set_option maxRecDepth 100000 in
theorem cdX4_kindOf : Cond.code yX4_kindOf cX4_kindOf 1 (some .int) ∈ TB := TB_in (tbk_2 (List.mem_of_getElem? (i := 149) rfl)) rfl
set_option maxRecDepth 100000 in
theorem cdX6_seen : Cond.code yX6_seen cX6_seen 3 (some .boolean) ∈ TB := TB_in (tbk_2 (List.mem_of_getElem? (i := 168) rfl)) rfl
set_option maxRecDepth 100000 in
theorem cdX6_bit : Cond.code yX6_bit cX6_bit 2 (some .int) ∈ TB := TB_in (tbk_2 (List.mem_of_getElem? (i := 205) rfl)) rfl
set_option maxRecDepth 100000 in
theorem cdX6_taken : Cond.code yX6_taken cX6_taken 4 (some .int) ∈ TB := TB_in (tbk_2 (List.mem_of_getElem? (i := 212) rfl)) rfl
set_option maxRecDepth 100000 in
theorem cdX6_flawed : Cond.code yX6_flawed cX6_flawed 3 (some .boolean) ∈ TB := TB_in (tbk_2 (List.mem_of_getElem? (i := 226) rfl)) rfl
set_option maxRecDepth 100000 in
theorem cdX6_skillBehind : Cond.code yX6_skillBehind cX6_skillBehind 2 (some .int) ∈ TB := TB_in (tbk_2 (List.mem_of_getElem? (i := 229) rfl)) rfl
set_option maxRecDepth 100000 in
theorem cdJ6_bitCount_0f7a4 : Cond.code yJ6_bitCount_0f7a4 cJ6_bitCount_0f7a4 1 (some .int) ∈ TB := TB_in (tbk_3 (List.mem_of_getElem? (i := 33) rfl)) rfl
set_option maxRecDepth 100000 in
theorem cdX6_isOneOfTwo : Cond.code yX6_isOneOfTwo cX6_isOneOfTwo 1 (some .boolean) ∈ TB := TB_in (tbk_3 (List.mem_of_getElem? (i := 98) rfl)) rfl
set_option maxRecDepth 100000 in
theorem cdX6_commonDivisor : Cond.code yX6_commonDivisor cX6_commonDivisor 11 (some .long) ∈ TB := TB_in (tbk_3 (List.mem_of_getElem? (i := 170) rfl)) rfl
set_option maxRecDepth 100000 in
theorem cdX6_kindsThatAre : Cond.code yX6_kindsThatAre cX6_kindsThatAre 2 (some .int) ∈ TB := TB_in (tbk_3 (List.mem_of_getElem? (i := 211) rfl)) rfl
set_option maxRecDepth 100000 in
theorem cdX1_ofSize : Cond.code yX1_ofSize cX1_ofSize 1 (some .int) ∈ TB := TB_in (tbk_3 (List.mem_of_getElem? (i := 222) rfl)) rfl
set_option maxRecDepth 100000 in
theorem cdX1_ofMark : Cond.code yX1_ofMark cX1_ofMark 1 (some .int) ∈ TB := TB_in (tbk_3 (List.mem_of_getElem? (i := 225) rfl)) rfl
set_option maxRecDepth 100000 in
theorem cdX7_isRow : Cond.code yX7_isRow cX7_isRow 1 (some .boolean) ∈ TB := TB_in (tbk_4 (List.mem_of_getElem? (i := 105) rfl)) rfl
set_option maxRecDepth 100000 in
theorem cdX7_in : Cond.code yX7_in cX7_in 6 (some .boolean) ∈ TB := TB_in (tbk_4 (List.mem_of_getElem? (i := 109) rfl)) rfl
set_option maxRecDepth 100000 in
theorem cdX7_fits : Cond.code yX7_fits cX7_fits 3 (some .boolean) ∈ TB := TB_in (tbk_4 (List.mem_of_getElem? (i := 131) rfl)) rfl
set_option maxRecDepth 100000 in
theorem cdX7_kindOf : Cond.code yX7_kindOf cX7_kindOf 1 (some .int) ∈ TB := TB_in (tbk_4 (List.mem_of_getElem? (i := 174) rfl)) rfl
set_option maxRecDepth 100000 in
theorem cdX7_takesOf : Cond.code yX7_takesOf cX7_takesOf 4 (some .int) ∈ TB := TB_in (tbk_4 (List.mem_of_getElem? (i := 219) rfl)) rfl
set_option maxRecDepth 100000 in
theorem cdX7_has : Cond.code yX7_has cX7_has 2 (some .boolean) ∈ TB := TB_in (tbk_4 (List.mem_of_getElem? (i := 222) rfl)) rfl
set_option maxRecDepth 100000 in
theorem cdX7_isFaulty : Cond.code yX7_isFaulty cX7_isFaulty 3 (some .boolean) ∈ TB := TB_in (tbk_5 (List.mem_of_getElem? (i := 1) rfl)) rfl
set_option maxRecDepth 100000 in
theorem cdX7_more : Cond.code yX7_more cX7_more 1 (some .int) ∈ TB := TB_in (tbk_5 (List.mem_of_getElem? (i := 4) rfl)) rfl
set_option maxRecDepth 100000 in
theorem cdX7_ones : Cond.code yX7_ones cX7_ones 3 (some .int) ∈ TB := TB_in (tbk_5 (List.mem_of_getElem? (i := 70) rfl)) rfl
def CodeIn (md : MD) : Prop := Cond.code md.1 md.2.1 md.2.2.1 md.2.2.2.1 ∈ TB
def tVl_0 : List (Nat × Nat × (MD × List Nat)) := [(8, 13, (mX6_row, [380, 381, 382, 383, 94])), (6, 65, (mX6_finding, [388, 390, 0, 391, 94])), (6, 69, (mX3_lay, [393, 395, 1, 396, 95])), (6, 73, (mX6_clean, [397, 399, 2, 400, 94])), (8, 18, (mX6_set, [401, 402, 403, 404, 94])), (6, 80, (mX3_holds, [405, 407, 3, 408, 95])), (6, 84, (mX3_put, [409, 411, 4, 412, 95])), (8, 22, (mX6_copy, [413, 414, 415, 416, 94])), (6, 92, (mX3_carry, [417, 419, 5, 420, 95])), (8, 27, (mX6_drop, [424, 425, 426, 427, 94])), (8, 32, (mX6_feed, [428, 429, 430, 431, 94])), (6, 104, (mX4_append, [433, 435, 6, 436, 96])), (8, 36, (mX6_trial, [437, 438, 439, 440, 94])), (6, 107, (mX4_readInto, [441, 443, 7, 444, 96])), (4, 19, (mX5_clear, [445, 447, 8, 448, 97])), (4, 27, (mX4_readLaw, [449, 451, 9, 452, 96]))]
theorem tVl_0_ok : ∀ e ∈ tVl_0, CodeIn e.2.2.1 := List.forall_mem_cons.mpr ⟨cdX6_row, List.forall_mem_cons.mpr ⟨cdX6_finding, List.forall_mem_cons.mpr ⟨cdX3_lay, List.forall_mem_cons.mpr ⟨cdX6_clean, List.forall_mem_cons.mpr ⟨cdX6_set, List.forall_mem_cons.mpr ⟨cdX3_holds, List.forall_mem_cons.mpr ⟨cdX3_put, List.forall_mem_cons.mpr ⟨cdX6_copy, List.forall_mem_cons.mpr ⟨cdX3_carry, List.forall_mem_cons.mpr ⟨cdX6_drop, List.forall_mem_cons.mpr ⟨cdX6_feed, List.forall_mem_cons.mpr ⟨cdX4_append, List.forall_mem_cons.mpr ⟨cdX6_trial, List.forall_mem_cons.mpr ⟨cdX4_readInto, List.forall_mem_cons.mpr ⟨cdX5_clear, List.forall_mem_cons.mpr ⟨cdX4_readLaw, fun _ h => absurd h List.not_mem_nil⟩⟩⟩⟩⟩⟩⟩⟩⟩⟩⟩⟩⟩⟩⟩⟩
def tVl_1 : List (Nat × Nat × (MD × List Nat)) := [(4, 45, (mX4_readLetter, [453, 455, 10, 456, 96])), (4, 70, (mX4_letterAt, [457, 459, 11, 460, 96])), (4, 37, (mX4_fail, [461, 463, 12, 464, 96])), (4, 48, (mX4_readThree, [465, 467, 13, 468, 96])), (4, 95, (mX4_readNumber, [469, 471, 14, 472, 96])), (4, 31, (mX4_readOne, [476, 478, 15, 479, 96])), (4, 80, (mX4_readPart, [483, 485, 16, 486, 96])), (4, 87, (mX5_addPart, [487, 489, 17, 490, 97])), (4, 84, (mX4_readElder, [491, 493, 18, 494, 96])), (4, 91, (mX5_addElder, [495, 497, 19, 498, 97])), (6, 121, (mX5_copyFrom, [503, 505, 20, 506, 97])), (6, 125, (mX0_forget, [507, 509, 21, 510, 98])), (8, 41, (mX6_fault, [511, 512, 513, 514, 94])), (8, 45, (mX6_undo, [515, 516, 517, 518, 94])), (6, 135, (mX0_takeBack, [520, 522, 22, 523, 98])), (8, 49, (mX6_make, [524, 525, 526, 527, 94]))]
theorem tVl_1_ok : ∀ e ∈ tVl_1, CodeIn e.2.2.1 := List.forall_mem_cons.mpr ⟨cdX4_readLetter, List.forall_mem_cons.mpr ⟨cdX4_letterAt, List.forall_mem_cons.mpr ⟨cdX4_fail, List.forall_mem_cons.mpr ⟨cdX4_readThree, List.forall_mem_cons.mpr ⟨cdX4_readNumber, List.forall_mem_cons.mpr ⟨cdX4_readOne, List.forall_mem_cons.mpr ⟨cdX4_readPart, List.forall_mem_cons.mpr ⟨cdX5_addPart, List.forall_mem_cons.mpr ⟨cdX4_readElder, List.forall_mem_cons.mpr ⟨cdX5_addElder, List.forall_mem_cons.mpr ⟨cdX5_copyFrom, List.forall_mem_cons.mpr ⟨cdX0_forget, List.forall_mem_cons.mpr ⟨cdX6_fault, List.forall_mem_cons.mpr ⟨cdX6_undo, List.forall_mem_cons.mpr ⟨cdX0_takeBack, List.forall_mem_cons.mpr ⟨cdX6_make, fun _ h => absurd h List.not_mem_nil⟩⟩⟩⟩⟩⟩⟩⟩⟩⟩⟩⟩⟩⟩⟩⟩
def tVl_2 : List (Nat × Nat × (MD × List Nat)) := [(6, 139, (mX6_isPart, [528, 530, 23, 531, 94])), (6, 142, (mX5_mayBuild, [532, 534, 24, 535, 97])), (5, 73, (mX5_isReady, [539, 541, 25, 542, 97])), (6, 145, (mX0_keep, [546, 548, 26, 549, 98])), (6, 148, (mX5_build, [553, 555, 27, 556, 97])), (8, 53, (mX6_mend, [564, 565, 566, 567, 94])), (6, 161, (mX5_mendingDays, [569, 571, 28, 572, 97])), (8, 57, (mX6_feast, [573, 574, 575, 576, 94])), (6, 164, (mX6_isElder, [577, 579, 29, 580, 94])), (8, 61, (mX6_idle, [581, 582, 583, 584, 94])), (8, 65, (mX6_lesson, [585, 586, 587, 588, 94])), (8, 69, (mX6_part, [589, 590, 591, 592, 94])), (8, 74, (mX6_elder, [596, 597, 598, 599, 94])), (6, 212, (mX5_finds, [600, 602, 30, 603, 97])), (6, 215, (mX5_votes, [610, 612, 31, 613, 97])), (5, 105, (mX5_finds, [614, 602, 30, 603, 97]))]
theorem tVl_2_ok : ∀ e ∈ tVl_2, CodeIn e.2.2.1 := List.forall_mem_cons.mpr ⟨cdX6_isPart, List.forall_mem_cons.mpr ⟨cdX5_mayBuild, List.forall_mem_cons.mpr ⟨cdX5_isReady, List.forall_mem_cons.mpr ⟨cdX0_keep, List.forall_mem_cons.mpr ⟨cdX5_build, List.forall_mem_cons.mpr ⟨cdX6_mend, List.forall_mem_cons.mpr ⟨cdX5_mendingDays, List.forall_mem_cons.mpr ⟨cdX6_feast, List.forall_mem_cons.mpr ⟨cdX6_isElder, List.forall_mem_cons.mpr ⟨cdX6_idle, List.forall_mem_cons.mpr ⟨cdX6_lesson, List.forall_mem_cons.mpr ⟨cdX6_part, List.forall_mem_cons.mpr ⟨cdX6_elder, List.forall_mem_cons.mpr ⟨cdX5_finds, List.forall_mem_cons.mpr ⟨cdX5_votes, List.forall_mem_cons.mpr ⟨cdX5_finds, fun _ h => absurd h List.not_mem_nil⟩⟩⟩⟩⟩⟩⟩⟩⟩⟩⟩⟩⟩⟩⟩⟩
def tVl_3 : List (Nat × Nat × (MD × List Nat)) := [(8, 78, (mX6_stand, [615, 616, 617, 618, 94])), (6, 218, (mX5_passes, [619, 621, 32, 622, 97])), (5, 108, (mX5_votes, [623, 612, 31, 613, 97])), (5, 111, (mX5_wins, [624, 626, 33, 627, 97])), (8, 82, (mX6_fewest, [628, 629, 630, 631, 94])), (6, 222, (mX2_reckon, [632, 634, 34, 635, 99])), (2, 39, (mX2_isReached, [637, 639, 35, 640, 99])), (2, 43, (mX2_goOnFrom, [641, 643, 36, 644, 99])), (2, 77, (mX5_isReady, [648, 541, 25, 542, 97])), (2, 85, (mX2_addPart, [650, 652, 37, 653, 99])), (2, 47, (mX2_conclude, [657, 659, 38, 660, 99])), (8, 86, (mX6_can, [661, 662, 663, 664, 94])), (8, 90, (mX6_feasts, [665, 666, 667, 668, 94])), (6, 242, (mX6_cheapestFeasts, [672, 674, 39, 675, 94])), (6, 332, (mX5_feastingMoney, [677, 679, 40, 680, 97])), (6, 254, (mX5_wins, [681, 626, 33, 627, 97]))]
theorem tVl_3_ok : ∀ e ∈ tVl_3, CodeIn e.2.2.1 := List.forall_mem_cons.mpr ⟨cdX6_stand, List.forall_mem_cons.mpr ⟨cdX5_passes, List.forall_mem_cons.mpr ⟨cdX5_votes, List.forall_mem_cons.mpr ⟨cdX5_wins, List.forall_mem_cons.mpr ⟨cdX6_fewest, List.forall_mem_cons.mpr ⟨cdX2_reckon, List.forall_mem_cons.mpr ⟨cdX2_isReached, List.forall_mem_cons.mpr ⟨cdX2_goOnFrom, List.forall_mem_cons.mpr ⟨cdX5_isReady, List.forall_mem_cons.mpr ⟨cdX2_addPart, List.forall_mem_cons.mpr ⟨cdX2_conclude, List.forall_mem_cons.mpr ⟨cdX6_can, List.forall_mem_cons.mpr ⟨cdX6_feasts, List.forall_mem_cons.mpr ⟨cdX6_cheapestFeasts, List.forall_mem_cons.mpr ⟨cdX5_feastingMoney, List.forall_mem_cons.mpr ⟨cdX5_wins, fun _ h => absurd h List.not_mem_nil⟩⟩⟩⟩⟩⟩⟩⟩⟩⟩⟩⟩⟩⟩⟩⟩
def tVl_4 : List (Nat × Nat × (MD × List Nat)) := [(8, 94, (mX6_mends, [682, 683, 684, 685, 94])), (6, 251, (mX6_leastMends, [686, 688, 41, 689, 94])), (6, 335, (mX5_mendingDaysOf, [690, 692, 42, 693, 97])), (5, 97, (mX5_mendingDays, [694, 571, 28, 572, 97])), (8, 98, (mX6_decides, [695, 696, 697, 698, 94])), (8, 102, (mX6_whereIs, [699, 700, 701, 702, 94])), (6, 260, (mX6_isFoundAsTold, [703, 705, 43, 706, 94])), (6, 263, (mX3_item, [707, 709, 44, 710, 95])), (3, 23, (mX3_holds, [711, 407, 3, 408, 95])), (8, 106, (mX6_skills, [712, 713, 714, 715, 94])), (6, 266, (mX6_isMadeAsTold, [716, 718, 45, 719, 94])), (6, 338, (mX5_isReady, [720, 541, 25, 542, 97])), (8, 110, (mX6_who, [722, 723, 724, 725, 94])), (6, 270, (mX6_isTakenAsTold, [726, 728, 46, 729, 94])), (8, 115, (mX6_err, [730, 731, 732, 733, 94])), (6, 280, (mX6_casesOf, [737, 739, 47, 740, 94]))]
theorem tVl_4_ok : ∀ e ∈ tVl_4, CodeIn e.2.2.1 := List.forall_mem_cons.mpr ⟨cdX6_mends, List.forall_mem_cons.mpr ⟨cdX6_leastMends, List.forall_mem_cons.mpr ⟨cdX5_mendingDaysOf, List.forall_mem_cons.mpr ⟨cdX5_mendingDays, List.forall_mem_cons.mpr ⟨cdX6_decides, List.forall_mem_cons.mpr ⟨cdX6_whereIs, List.forall_mem_cons.mpr ⟨cdX6_isFoundAsTold, List.forall_mem_cons.mpr ⟨cdX3_item, List.forall_mem_cons.mpr ⟨cdX3_holds, List.forall_mem_cons.mpr ⟨cdX6_skills, List.forall_mem_cons.mpr ⟨cdX6_isMadeAsTold, List.forall_mem_cons.mpr ⟨cdX5_isReady, List.forall_mem_cons.mpr ⟨cdX6_who, List.forall_mem_cons.mpr ⟨cdX6_isTakenAsTold, List.forall_mem_cons.mpr ⟨cdX6_err, List.forall_mem_cons.mpr ⟨cdX6_casesOf, fun _ h => absurd h List.not_mem_nil⟩⟩⟩⟩⟩⟩⟩⟩⟩⟩⟩⟩⟩⟩⟩⟩
def tVl_5 : List (Nat × Nat × (MD × List Nat)) := [(8, 120, (mX6_worth, [744, 745, 746, 747, 94])), (8, 124, (mX6_drawn, [748, 749, 750, 751, 94])), (6, 293, (mX5_buildDrawn, [755, 757, 48, 758, 97])), (5, 87, (mX5_mayBuild, [759, 534, 24, 535, 97])), (5, 91, (mX5_build, [760, 555, 27, 556, 97])), (8, 128, (mX6_image, [762, 763, 764, 765, 94])), (6, 297, (mX6_imageOf, [766, 768, 49, 769, 94])), (8, 132, (mX6_restore, [770, 771, 772, 773, 94])), (8, 136, (mX6_kind, [774, 775, 776, 777, 94])), (8, 140, (mX6_as, [778, 779, 780, 781, 94])), (8, 144, (mX6_ask, [785, 786, 787, 788, 94])), (6, 304, (mX1_takeUp, [789, 791, 50, 792, 100])), (6, 313, (mX1_give, [799, 801, 51, 802, 100])), (1, 43, (mX1_begin, [804, 806, 52, 807, 100])), (1, 47, (mX1_give, [808, 801, 51, 802, 100])), (8, 148, (mX6_trace, [811, 812, 813, 814, 94]))]
theorem tVl_5_ok : ∀ e ∈ tVl_5, CodeIn e.2.2.1 := List.forall_mem_cons.mpr ⟨cdX6_worth, List.forall_mem_cons.mpr ⟨cdX6_drawn, List.forall_mem_cons.mpr ⟨cdX5_buildDrawn, List.forall_mem_cons.mpr ⟨cdX5_mayBuild, List.forall_mem_cons.mpr ⟨cdX5_build, List.forall_mem_cons.mpr ⟨cdX6_image, List.forall_mem_cons.mpr ⟨cdX6_imageOf, List.forall_mem_cons.mpr ⟨cdX6_restore, List.forall_mem_cons.mpr ⟨cdX6_kind, List.forall_mem_cons.mpr ⟨cdX6_as, List.forall_mem_cons.mpr ⟨cdX6_ask, List.forall_mem_cons.mpr ⟨cdX1_takeUp, List.forall_mem_cons.mpr ⟨cdX1_give, List.forall_mem_cons.mpr ⟨cdX1_begin, List.forall_mem_cons.mpr ⟨cdX1_give, List.forall_mem_cons.mpr ⟨cdX6_trace, fun _ h => absurd h List.not_mem_nil⟩⟩⟩⟩⟩⟩⟩⟩⟩⟩⟩⟩⟩⟩⟩⟩
def tVl_6 : List (Nat × Nat × (MD × List Nat)) := [(8, 152, (mX6_count, [815, 816, 817, 818, 94])), (6, 320, (mX3_howMany, [819, 821, 53, 822, 95])), (8, 156, (mX6_status, [823, 824, 825, 826, 94])), (8, 17, (mX7_row, [912, 913, 914, 915, 101])), (7, 74, (mX7_found, [925, 927, 54, 928, 101])), (7, 78, (mX7_good, [930, 932, 55, 933, 101])), (8, 21, (mX7_set, [934, 935, 936, 937, 101])), (8, 26, (mX7_copy, [938, 939, 940, 941, 101])), (8, 31, (mX7_drop, [945, 946, 947, 948, 101])), (8, 35, (mX7_feed, [949, 950, 951, 952, 101])), (8, 40, (mX7_trial, [955, 956, 957, 958, 101])), (7, 130, (mX7_takesLaw, [959, 961, 56, 962, 101])), (7, 114, (mX7_takes, [963, 965, 57, 966, 101])), (7, 100, (mX7_byteAt, [967, 969, 58, 970, 101])), (7, 103, (mX7_fails, [971, 973, 59, 974, 101])), (7, 117, (mX7_takesNumber, [975, 977, 60, 978, 101]))]
theorem tVl_6_ok : ∀ e ∈ tVl_6, CodeIn e.2.2.1 := List.forall_mem_cons.mpr ⟨cdX6_count, List.forall_mem_cons.mpr ⟨cdX3_howMany, List.forall_mem_cons.mpr ⟨cdX6_status, List.forall_mem_cons.mpr ⟨cdX7_row, List.forall_mem_cons.mpr ⟨cdX7_found, List.forall_mem_cons.mpr ⟨cdX7_good, List.forall_mem_cons.mpr ⟨cdX7_set, List.forall_mem_cons.mpr ⟨cdX7_copy, List.forall_mem_cons.mpr ⟨cdX7_drop, List.forall_mem_cons.mpr ⟨cdX7_feed, List.forall_mem_cons.mpr ⟨cdX7_trial, List.forall_mem_cons.mpr ⟨cdX7_takesLaw, List.forall_mem_cons.mpr ⟨cdX7_takes, List.forall_mem_cons.mpr ⟨cdX7_byteAt, List.forall_mem_cons.mpr ⟨cdX7_fails, List.forall_mem_cons.mpr ⟨cdX7_takesNumber, fun _ h => absurd h List.not_mem_nil⟩⟩⟩⟩⟩⟩⟩⟩⟩⟩⟩⟩⟩⟩⟩⟩
def tVl_7 : List (Nat × Nat × (MD × List Nat)) := [(7, 133, (mX7_takesMore, [981, 983, 61, 984, 101])), (7, 123, (mX7_takesPart, [988, 990, 62, 991, 101])), (7, 126, (mX7_takesElder, [992, 994, 63, 995, 101])), (7, 137, (mX7_copyAll, [997, 999, 64, 1000, 101])), (8, 44, (mX7_fault, [1001, 1002, 1003, 1004, 101])), (8, 48, (mX7_undo, [1005, 1006, 1007, 1008, 101])), (8, 52, (mX7_make, [1010, 1011, 1012, 1013, 101])), (7, 172, (mX7_isPart, [1014, 1016, 65, 1017, 101])), (7, 175, (mX7_mayNow, [1018, 1020, 66, 1021, 101])), (7, 161, (mX7_mayBe, [1022, 1024, 67, 1025, 101])), (7, 154, (mX7_takesNow, [1026, 1028, 68, 1029, 101])), (7, 158, (mX7_isAheadMade, [1036, 1038, 69, 1039, 101])), (7, 178, (mX7_minds, [1040, 1042, 70, 1043, 101])), (7, 181, (mX7_makes, [1044, 1046, 71, 1047, 101])), (7, 165, (mX7_isFaultyNow, [1048, 1050, 72, 1051, 101])), (8, 56, (mX7_mend, [1058, 1059, 1060, 1061, 101]))]
theorem tVl_7_ok : ∀ e ∈ tVl_7, CodeIn e.2.2.1 := List.forall_mem_cons.mpr ⟨cdX7_takesMore, List.forall_mem_cons.mpr ⟨cdX7_takesPart, List.forall_mem_cons.mpr ⟨cdX7_takesElder, List.forall_mem_cons.mpr ⟨cdX7_copyAll, List.forall_mem_cons.mpr ⟨cdX7_fault, List.forall_mem_cons.mpr ⟨cdX7_undo, List.forall_mem_cons.mpr ⟨cdX7_make, List.forall_mem_cons.mpr ⟨cdX7_isPart, List.forall_mem_cons.mpr ⟨cdX7_mayNow, List.forall_mem_cons.mpr ⟨cdX7_mayBe, List.forall_mem_cons.mpr ⟨cdX7_takesNow, List.forall_mem_cons.mpr ⟨cdX7_isAheadMade, List.forall_mem_cons.mpr ⟨cdX7_minds, List.forall_mem_cons.mpr ⟨cdX7_makes, List.forall_mem_cons.mpr ⟨cdX7_isFaultyNow, List.forall_mem_cons.mpr ⟨cdX7_mend, fun _ h => absurd h List.not_mem_nil⟩⟩⟩⟩⟩⟩⟩⟩⟩⟩⟩⟩⟩⟩⟩⟩
def tVl_8 : List (Nat × Nat × (MD × List Nat)) := [(8, 60, (mX7_feast, [1062, 1063, 1064, 1065, 101])), (7, 185, (mX7_isElder, [1066, 1068, 73, 1069, 101])), (8, 64, (mX7_idle, [1070, 1071, 1072, 1073, 101])), (7, 188, (mX7_isTrial, [1074, 1076, 74, 1077, 101])), (8, 68, (mX7_lesson, [1079, 1080, 1081, 1082, 101])), (8, 73, (mX7_part, [1083, 1084, 1085, 1086, 101])), (8, 77, (mX7_elder, [1088, 1089, 1090, 1091, 101])), (7, 196, (mX7_findsOf, [1092, 1094, 75, 1095, 101])), (7, 193, (mX7_isFound, [1096, 1098, 76, 1099, 101])), (7, 206, (mX7_votesNow, [1100, 1102, 77, 1103, 101])), (7, 202, (mX7_votesBy, [1104, 1106, 78, 1107, 101])), (8, 81, (mX7_stand, [1108, 1109, 1110, 1111, 101])), (7, 212, (mX7_isWhole, [1113, 1115, 79, 1116, 101])), (7, 215, (mX7_isMost, [1117, 1119, 80, 1120, 101])), (8, 85, (mX7_fewest, [1124, 1125, 1126, 1127, 101])), (7, 235, (mX7_findFewest, [1128, 1130, 81, 1131, 101]))]
theorem tVl_8_ok : ∀ e ∈ tVl_8, CodeIn e.2.2.1 := List.forall_mem_cons.mpr ⟨cdX7_feast, List.forall_mem_cons.mpr ⟨cdX7_isElder, List.forall_mem_cons.mpr ⟨cdX7_idle, List.forall_mem_cons.mpr ⟨cdX7_isTrial, List.forall_mem_cons.mpr ⟨cdX7_lesson, List.forall_mem_cons.mpr ⟨cdX7_part, List.forall_mem_cons.mpr ⟨cdX7_elder, List.forall_mem_cons.mpr ⟨cdX7_findsOf, List.forall_mem_cons.mpr ⟨cdX7_isFound, List.forall_mem_cons.mpr ⟨cdX7_votesNow, List.forall_mem_cons.mpr ⟨cdX7_votesBy, List.forall_mem_cons.mpr ⟨cdX7_stand, List.forall_mem_cons.mpr ⟨cdX7_isWhole, List.forall_mem_cons.mpr ⟨cdX7_isMost, List.forall_mem_cons.mpr ⟨cdX7_fewest, List.forall_mem_cons.mpr ⟨cdX7_findFewest, fun _ h => absurd h List.not_mem_nil⟩⟩⟩⟩⟩⟩⟩⟩⟩⟩⟩⟩⟩⟩⟩⟩
def tVl_9 : List (Nat × Nat × (MD × List Nat)) := [(7, 228, (mX7_nextPart, [1133, 1135, 82, 1136, 101])), (7, 232, (mX7_goesDeeper, [1137, 1139, 83, 1140, 101])), (8, 89, (mX7_can, [1141, 1142, 1143, 1144, 101])), (8, 93, (mX7_feasts, [1145, 1146, 1147, 1148, 101])), (7, 238, (mX7_pricesOf, [1149, 1151, 84, 1152, 101])), (8, 97, (mX7_mends, [1153, 1154, 1155, 1156, 101])), (8, 101, (mX7_decides, [1157, 1158, 1159, 1160, 101])), (8, 105, (mX7_whereIs, [1161, 1162, 1163, 1164, 101])), (7, 241, (mX7_against, [1165, 1167, 85, 1168, 101])), (8, 109, (mX7_skills, [1169, 1170, 1171, 1172, 101])), (8, 114, (mX7_who, [1173, 1174, 1175, 1176, 101])), (8, 119, (mX7_err, [1178, 1179, 1180, 1181, 101])), (8, 123, (mX7_worth, [1185, 1186, 1187, 1188, 101])), (8, 127, (mX7_drawn, [1189, 1190, 1191, 1192, 101])), (8, 131, (mX7_image, [1198, 1199, 1200, 1201, 101])), (8, 135, (mX7_restore, [1202, 1203, 1204, 1205, 101]))]
theorem tVl_9_ok : ∀ e ∈ tVl_9, CodeIn e.2.2.1 := List.forall_mem_cons.mpr ⟨cdX7_nextPart, List.forall_mem_cons.mpr ⟨cdX7_goesDeeper, List.forall_mem_cons.mpr ⟨cdX7_can, List.forall_mem_cons.mpr ⟨cdX7_feasts, List.forall_mem_cons.mpr ⟨cdX7_pricesOf, List.forall_mem_cons.mpr ⟨cdX7_mends, List.forall_mem_cons.mpr ⟨cdX7_decides, List.forall_mem_cons.mpr ⟨cdX7_whereIs, List.forall_mem_cons.mpr ⟨cdX7_against, List.forall_mem_cons.mpr ⟨cdX7_skills, List.forall_mem_cons.mpr ⟨cdX7_who, List.forall_mem_cons.mpr ⟨cdX7_err, List.forall_mem_cons.mpr ⟨cdX7_worth, List.forall_mem_cons.mpr ⟨cdX7_drawn, List.forall_mem_cons.mpr ⟨cdX7_image, List.forall_mem_cons.mpr ⟨cdX7_restore, fun _ h => absurd h List.not_mem_nil⟩⟩⟩⟩⟩⟩⟩⟩⟩⟩⟩⟩⟩⟩⟩⟩
def tVl_10 : List (Nat × Nat × (MD × List Nat)) := [(8, 139, (mX7_kind, [1206, 1207, 1208, 1209, 101])), (8, 143, (mX7_as, [1210, 1211, 1212, 1213, 101])), (8, 147, (mX7_ask, [1214, 1215, 1216, 1217, 101])), (7, 284, (mX7_size, [1218, 1220, 86, 1221, 101])), (7, 265, (mX7_leaves, [1222, 1224, 87, 1225, 101])), (7, 281, (mX7_sizeJoint, [1226, 1228, 88, 1229, 101])), (7, 278, (mX7_mark, [1230, 1232, 89, 1233, 101])), (7, 271, (mX7_markJoint, [1234, 1236, 90, 1237, 101])), (7, 268, (mX7_markLent, [1238, 1240, 91, 1241, 101])), (7, 274, (mX7_sizeWax, [1242, 1244, 92, 1245, 101])), (8, 151, (mX7_trace, [1246, 1247, 1248, 1249, 101])), (8, 155, (mX7_count, [1250, 1251, 1252, 1253, 101])), (8, 159, (mX7_status, [1254, 1255, 1256, 1257, 101]))]
theorem tVl_10_ok : ∀ e ∈ tVl_10, CodeIn e.2.2.1 := List.forall_mem_cons.mpr ⟨cdX7_kind, List.forall_mem_cons.mpr ⟨cdX7_as, List.forall_mem_cons.mpr ⟨cdX7_ask, List.forall_mem_cons.mpr ⟨cdX7_size, List.forall_mem_cons.mpr ⟨cdX7_leaves, List.forall_mem_cons.mpr ⟨cdX7_sizeJoint, List.forall_mem_cons.mpr ⟨cdX7_mark, List.forall_mem_cons.mpr ⟨cdX7_markJoint, List.forall_mem_cons.mpr ⟨cdX7_markLent, List.forall_mem_cons.mpr ⟨cdX7_sizeWax, List.forall_mem_cons.mpr ⟨cdX7_trace, List.forall_mem_cons.mpr ⟨cdX7_count, List.forall_mem_cons.mpr ⟨cdX7_status, fun _ h => absurd h List.not_mem_nil⟩⟩⟩⟩⟩⟩⟩⟩⟩⟩⟩⟩⟩
set_option maxRecDepth 100000 in
theorem tV_cut : tV = tVl_0 ++ (tVl_1 ++ (tVl_2 ++ (tVl_3 ++ (tVl_4 ++ (tVl_5 ++ (tVl_6 ++ (tVl_7 ++ (tVl_8 ++ (tVl_9 ++ (tVl_10)))))))))) := rfl
theorem tV_ok : ∀ e ∈ tV, CodeIn e.2.2.1 := by
  rw [tV_cut]
  exact List.forall_mem_append.mpr ⟨tVl_0_ok, List.forall_mem_append.mpr ⟨tVl_1_ok, List.forall_mem_append.mpr ⟨tVl_2_ok, List.forall_mem_append.mpr ⟨tVl_3_ok, List.forall_mem_append.mpr ⟨tVl_4_ok, List.forall_mem_append.mpr ⟨tVl_5_ok, List.forall_mem_append.mpr ⟨tVl_6_ok, List.forall_mem_append.mpr ⟨tVl_7_ok, List.forall_mem_append.mpr ⟨tVl_8_ok, List.forall_mem_append.mpr ⟨tVl_9_ok, tVl_10_ok⟩⟩⟩⟩⟩⟩⟩⟩⟩⟩
def tSl_0 : List (Nat × Nat × (MD × List Nat)) := [(6, 60, (mX6_isRow, [384, 385, 386, 94])), (4, 102, (mX4_isFigure, [473, 474, 475, 96])), (4, 74, (mX4_kindOf, [480, 481, 482, 96])), (5, 65, (mX6_seen, [499, 500, 501, 94])), (5, 69, (mX6_bit, [536, 537, 538, 94])), (5, 77, (mX6_taken, [543, 544, 545, 94])), (5, 81, (mX6_flawed, [557, 558, 559, 94])), (5, 84, (mX6_skillBehind, [560, 561, 562, 94])), (6, 154, (mX6_bit, [568, 537, 538, 94])), (6, 199, (mX6_taken, [594, 544, 545, 94])), (6, 203, (mX6_flawed, [595, 558, 559, 94])), (5, 100, (mJ6_bitCount_0f7a4, [604, 605, 606, 104])), (2, 27, (mJ6_bitCount_0f7a4, [636, 605, 606, 104])), (2, 57, (mX6_bit, [645, 537, 538, 94])), (2, 64, (mX6_skillBehind, [646, 561, 562, 94])), (2, 73, (mX6_taken, [647, 544, 545, 94]))]
theorem tSl_0_ok : ∀ e ∈ tSl_0, CodeIn e.2.2.1 := List.forall_mem_cons.mpr ⟨cdX6_isRow, List.forall_mem_cons.mpr ⟨cdX4_isFigure, List.forall_mem_cons.mpr ⟨cdX4_kindOf, List.forall_mem_cons.mpr ⟨cdX6_seen, List.forall_mem_cons.mpr ⟨cdX6_bit, List.forall_mem_cons.mpr ⟨cdX6_taken, List.forall_mem_cons.mpr ⟨cdX6_flawed, List.forall_mem_cons.mpr ⟨cdX6_skillBehind, List.forall_mem_cons.mpr ⟨cdX6_bit, List.forall_mem_cons.mpr ⟨cdX6_taken, List.forall_mem_cons.mpr ⟨cdX6_flawed, List.forall_mem_cons.mpr ⟨cdJ6_bitCount_0f7a4, List.forall_mem_cons.mpr ⟨cdJ6_bitCount_0f7a4, List.forall_mem_cons.mpr ⟨cdX6_bit, List.forall_mem_cons.mpr ⟨cdX6_skillBehind, List.forall_mem_cons.mpr ⟨cdX6_taken, fun _ h => absurd h List.not_mem_nil⟩⟩⟩⟩⟩⟩⟩⟩⟩⟩⟩⟩⟩⟩⟩⟩
def tSl_1 : List (Nat × Nat × (MD × List Nat)) := [(2, 81, (mX6_flawed, [649, 558, 559, 94])), (6, 239, (mX6_isOneOfTwo, [669, 670, 671, 94])), (6, 246, (mJ6_bitCount_0f7a4, [676, 605, 606, 104])), (6, 342, (mX6_skillBehind, [721, 561, 562, 94])), (6, 284, (mX6_commonDivisor, [741, 742, 743, 94])), (6, 301, (mX6_kindsThatAre, [782, 783, 784, 94])), (6, 307, (mX1_ofSize, [793, 794, 795, 100])), (6, 310, (mX1_ofMark, [796, 797, 798, 100])), (1, 51, (mX1_ofMark, [809, 797, 798, 100])), (1, 55, (mX1_ofSize, [810, 794, 795, 100])), (7, 67, (mX7_isRow, [916, 917, 918, 101])), (7, 63, (mX7_in, [920, 921, 922, 101])), (7, 81, (mX7_fits, [942, 943, 944, 101])), (7, 120, (mX7_kindOf, [985, 986, 987, 101])), (7, 144, (mX7_takesOf, [1030, 1031, 1032, 101])), (7, 151, (mX7_has, [1033, 1034, 1035, 101]))]
theorem tSl_1_ok : ∀ e ∈ tSl_1, CodeIn e.2.2.1 := List.forall_mem_cons.mpr ⟨cdX6_flawed, List.forall_mem_cons.mpr ⟨cdX6_isOneOfTwo, List.forall_mem_cons.mpr ⟨cdJ6_bitCount_0f7a4, List.forall_mem_cons.mpr ⟨cdX6_skillBehind, List.forall_mem_cons.mpr ⟨cdX6_commonDivisor, List.forall_mem_cons.mpr ⟨cdX6_kindsThatAre, List.forall_mem_cons.mpr ⟨cdX1_ofSize, List.forall_mem_cons.mpr ⟨cdX1_ofMark, List.forall_mem_cons.mpr ⟨cdX1_ofMark, List.forall_mem_cons.mpr ⟨cdX1_ofSize, List.forall_mem_cons.mpr ⟨cdX7_isRow, List.forall_mem_cons.mpr ⟨cdX7_in, List.forall_mem_cons.mpr ⟨cdX7_fits, List.forall_mem_cons.mpr ⟨cdX7_kindOf, List.forall_mem_cons.mpr ⟨cdX7_takesOf, List.forall_mem_cons.mpr ⟨cdX7_has, fun _ h => absurd h List.not_mem_nil⟩⟩⟩⟩⟩⟩⟩⟩⟩⟩⟩⟩⟩⟩⟩⟩
def tSl_2 : List (Nat × Nat × (MD × List Nat)) := [(7, 148, (mX7_isFaulty, [1052, 1053, 1054, 101])), (7, 168, (mX7_more, [1055, 1056, 1057, 101])), (7, 199, (mX7_ones, [1121, 1122, 1123, 101]))]
theorem tSl_2_ok : ∀ e ∈ tSl_2, CodeIn e.2.2.1 := List.forall_mem_cons.mpr ⟨cdX7_isFaulty, List.forall_mem_cons.mpr ⟨cdX7_more, List.forall_mem_cons.mpr ⟨cdX7_ones, fun _ h => absurd h List.not_mem_nil⟩⟩⟩
set_option maxRecDepth 100000 in
theorem tS_cut : tS = tSl_0 ++ (tSl_1 ++ (tSl_2)) := rfl
theorem tS_ok : ∀ e ∈ tS, CodeIn e.2.2.1 := by
  rw [tS_cut]
  exact List.forall_mem_append.mpr ⟨tSl_0_ok, List.forall_mem_append.mpr ⟨tSl_1_ok, tSl_2_ok⟩⟩
