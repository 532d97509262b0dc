/-! generated (ctorgen.py): words of the constructors, their codes, the constructors of the nested classes -/
theorem oiInst : Cond.instanceMethod Lib.objectInit ∈ TB := atG_in (h := 111) (by decide +kernel)
theorem oiCode : Cond.code Lib.objectInit ⟨#[0xb1]⟩ 1 none ∈ TB := TB_in (tbk_1 (List.mem_of_getElem? (i := 19) rfl)) rfl
set_option maxRecDepth 100000 in
theorem cdX0_init : Cond.code yX0_init cX0_init 1 none ∈ TB := TB_in (tbk_1 (List.mem_of_getElem? (i := 183) rfl)) rfl
theorem wImX0 : Cond.instanceMethod yX0_init ∈ TB := atG_in (h := 275) (by decide +kernel)
theorem wInX0 : Cond.instantiable RX0 3 ∈ TB := atG_in (h := 273) (by decide +kernel)
theorem wIiX0 : Cond.initialized RX0 ∈ TB := atG_in (h := 98) (by decide +kernel)
theorem dX0i_0 : decode cX0_init 0 = .ok (.aload_n 0, 1) := by decide +kernel
theorem dX0i_1 : decode cX0_init 1 = .ok (.invokespecial 1, 3) := by decide +kernel
theorem lkX0i_1 : Cond.methodLink RX0 1 Lib.objectInit ∈ TB := atG_in (h := 277) (by decide +kernel)
theorem dX0i_4 : decode cX0_init 4 = .ok (.aload_n 0, 1) := by decide +kernel
theorem dX0i_5 : decode cX0_init 5 = .ok (.sipush 144, 3) := by decide +kernel
theorem dX0i_8 : decode cX0_init 8 = .ok (.newarray .int, 2) := by decide +kernel
theorem dX0i_10 : decode cX0_init 10 = .ok (.putfield 9, 3) := by decide +kernel
theorem lkX0i_10 : Cond.fieldLink RX0 9 RX0 (TX0 0).2.1 (TX0 0).2.2.1 ∈ TB := atG_in (h := 278) (by decide +kernel)
theorem dX0i_13 : decode cX0_init 13 = .ok (.return_, 1) := by decide +kernel
set_option maxRecDepth 100000 in
theorem cdX1_init : Cond.code yX1_init cX1_init 1 none ∈ TB := TB_in (tbk_1 (List.mem_of_getElem? (i := 230) rfl)) rfl
theorem wImX1 : Cond.instanceMethod yX1_init ∈ TB := atG_in (h := 322) (by decide +kernel)
theorem wInX1 : Cond.instantiable RX1 6 ∈ TB := atG_in (h := 320) (by decide +kernel)
theorem wIiX1 : Cond.initialized RX1 ∈ TB := atG_in (h := 100) (by decide +kernel)
theorem dX1i_0 : decode cX1_init 0 = .ok (.aload_n 0, 1) := by decide +kernel
theorem dX1i_1 : decode cX1_init 1 = .ok (.invokespecial 3, 3) := by decide +kernel
theorem lkX1i_1 : Cond.methodLink RX1 3 Lib.objectInit ∈ TB := atG_in (h := 324) (by decide +kernel)
theorem dX1i_4 : decode cX1_init 4 = .ok (.aload_n 0, 1) := by decide +kernel
theorem dX1i_5 : decode cX1_init 5 = .ok (.bipush 16, 2) := by decide +kernel
theorem dX1i_7 : decode cX1_init 7 = .ok (.newarray .int, 2) := by decide +kernel
theorem dX1i_9 : decode cX1_init 9 = .ok (.putfield 11, 3) := by decide +kernel
theorem lkX1i_9 : Cond.fieldLink RX1 11 RX1 (TX1 0).2.1 (TX1 0).2.2.1 ∈ TB := atG_in (h := 325) (by decide +kernel)
theorem dX1i_12 : decode cX1_init 12 = .ok (.return_, 1) := by decide +kernel
set_option maxRecDepth 100000 in
theorem cdX2_init : Cond.code yX2_init cX2_init 1 none ∈ TB := TB_in (tbk_1 (List.mem_of_getElem? (i := 200) rfl)) rfl
theorem wImX2 : Cond.instanceMethod yX2_init ∈ TB := atG_in (h := 292) (by decide +kernel)
theorem wInX2 : Cond.instantiable RX2 6 ∈ TB := atG_in (h := 290) (by decide +kernel)
theorem wIiX2 : Cond.initialized RX2 ∈ TB := atG_in (h := 99) (by decide +kernel)
theorem dX2i_0 : decode cX2_init 0 = .ok (.aload_n 0, 1) := by decide +kernel
theorem dX2i_1 : decode cX2_init 1 = .ok (.invokespecial 3, 3) := by decide +kernel
theorem lkX2i_1 : Cond.methodLink RX2 3 Lib.objectInit ∈ TB := atG_in (h := 294) (by decide +kernel)
theorem dX2i_4 : decode cX2_init 4 = .ok (.aload_n 0, 1) := by decide +kernel
theorem dX2i_5 : decode cX2_init 5 = .ok (.sipush 1024, 3) := by decide +kernel
theorem dX2i_8 : decode cX2_init 8 = .ok (.newarray .int, 2) := by decide +kernel
theorem dX2i_10 : decode cX2_init 10 = .ok (.putfield 11, 3) := by decide +kernel
theorem lkX2i_10 : Cond.fieldLink RX2 11 RX2 (TX2 0).2.1 (TX2 0).2.2.1 ∈ TB := atG_in (h := 295) (by decide +kernel)
theorem dX2i_13 : decode cX2_init 13 = .ok (.return_, 1) := by decide +kernel
set_option maxRecDepth 100000 in
theorem cdX3_init : Cond.code yX3_init cX3_init 1 none ∈ TB := TB_in (tbk_1 (List.mem_of_getElem? (i := 24) rfl)) rfl
theorem wImX3 : Cond.instanceMethod yX3_init ∈ TB := atG_in (h := 116) (by decide +kernel)
theorem wInX3 : Cond.instantiable RX3 4 ∈ TB := atG_in (h := 114) (by decide +kernel)
theorem wIiX3 : Cond.initialized RX3 ∈ TB := atG_in (h := 95) (by decide +kernel)
theorem dX3i_0 : decode cX3_init 0 = .ok (.aload_n 0, 1) := by decide +kernel
theorem dX3i_1 : decode cX3_init 1 = .ok (.invokespecial 1, 3) := by decide +kernel
theorem lkX3i_1 : Cond.methodLink RX3 1 Lib.objectInit ∈ TB := atG_in (h := 118) (by decide +kernel)
theorem dX3i_4 : decode cX3_init 4 = .ok (.aload_n 0, 1) := by decide +kernel
theorem dX3i_5 : decode cX3_init 5 = .ok (.bipush 8, 2) := by decide +kernel
theorem dX3i_7 : decode cX3_init 7 = .ok (.newarray .boolean, 2) := by decide +kernel
theorem dX3i_9 : decode cX3_init 9 = .ok (.putfield 9, 3) := by decide +kernel
theorem lkX3i_9 : Cond.fieldLink RX3 9 RX3 (TX3 0).2.1 (TX3 0).2.2.1 ∈ TB := atG_in (h := 119) (by decide +kernel)
theorem dX3i_12 : decode cX3_init 12 = .ok (.aload_n 0, 1) := by decide +kernel
theorem dX3i_13 : decode cX3_init 13 = .ok (.bipush 8, 2) := by decide +kernel
theorem dX3i_15 : decode cX3_init 15 = .ok (.newarray .int, 2) := by decide +kernel
theorem dX3i_17 : decode cX3_init 17 = .ok (.putfield 13, 3) := by decide +kernel
theorem lkX3i_17 : Cond.fieldLink RX3 13 RX3 (TX3 1).2.1 (TX3 1).2.2.1 ∈ TB := atG_in (h := 121) (by decide +kernel)
theorem dX3i_20 : decode cX3_init 20 = .ok (.aload_n 0, 1) := by decide +kernel
theorem dX3i_21 : decode cX3_init 21 = .ok (.bipush 8, 2) := by decide +kernel
theorem dX3i_23 : decode cX3_init 23 = .ok (.newarray .int, 2) := by decide +kernel
theorem dX3i_25 : decode cX3_init 25 = .ok (.putfield 17, 3) := by decide +kernel
theorem lkX3i_25 : Cond.fieldLink RX3 17 RX3 (TX3 2).2.1 (TX3 2).2.2.1 ∈ TB := atG_in (h := 123) (by decide +kernel)
theorem dX3i_28 : decode cX3_init 28 = .ok (.aload_n 0, 1) := by decide +kernel
theorem dX3i_29 : decode cX3_init 29 = .ok (.sipush 320, 3) := by decide +kernel
theorem dX3i_32 : decode cX3_init 32 = .ok (.newarray .int, 2) := by decide +kernel
theorem dX3i_34 : decode cX3_init 34 = .ok (.putfield 20, 3) := by decide +kernel
theorem lkX3i_34 : Cond.fieldLink RX3 20 RX3 (TX3 3).2.1 (TX3 3).2.2.1 ∈ TB := atG_in (h := 125) (by decide +kernel)
theorem dX3i_37 : decode cX3_init 37 = .ok (.return_, 1) := by decide +kernel
set_option maxRecDepth 100000 in
theorem cdX4_init : Cond.code yX4_init cX4_init 1 none ∈ TB := TB_in (tbk_1 (List.mem_of_getElem? (i := 48) rfl)) rfl
theorem wImX4 : Cond.instanceMethod yX4_init ∈ TB := atG_in (h := 140) (by decide +kernel)
theorem wInX4 : Cond.instantiable RX4 9 ∈ TB := atG_in (h := 138) (by decide +kernel)
theorem wIiX4 : Cond.initialized RX4 ∈ TB := atG_in (h := 96) (by decide +kernel)
theorem dX4i_0 : decode cX4_init 0 = .ok (.aload_n 0, 1) := by decide +kernel
theorem dX4i_1 : decode cX4_init 1 = .ok (.invokespecial 3, 3) := by decide +kernel
theorem lkX4i_1 : Cond.methodLink RX4 3 Lib.objectInit ∈ TB := atG_in (h := 142) (by decide +kernel)
theorem dX4i_4 : decode cX4_init 4 = .ok (.aload_n 0, 1) := by decide +kernel
theorem dX4i_5 : decode cX4_init 5 = .ok (.bipush 120, 2) := by decide +kernel
theorem dX4i_7 : decode cX4_init 7 = .ok (.newarray .int, 2) := by decide +kernel
theorem dX4i_9 : decode cX4_init 9 = .ok (.putfield 11, 3) := by decide +kernel
theorem lkX4i_9 : Cond.fieldLink RX4 11 RX4 (TX4 0).2.1 (TX4 0).2.2.1 ∈ TB := atG_in (h := 143) (by decide +kernel)
theorem dX4i_12 : decode cX4_init 12 = .ok (.return_, 1) := by decide +kernel
set_option maxRecDepth 100000 in
theorem cdX5_init : Cond.code yX5_init cX5_init 1 none ∈ TB := TB_in (tbk_1 (List.mem_of_getElem? (i := 85) rfl)) rfl
theorem wImX5 : Cond.instanceMethod yX5_init ∈ TB := atG_in (h := 177) (by decide +kernel)
theorem wInX5 : Cond.instantiable RX5 17 ∈ TB := atG_in (h := 175) (by decide +kernel)
theorem wIiX5 : Cond.initialized RX5 ∈ TB := atG_in (h := 97) (by decide +kernel)
theorem dX5i_0 : decode cX5_init 0 = .ok (.aload_n 0, 1) := by decide +kernel
theorem dX5i_1 : decode cX5_init 1 = .ok (.invokespecial 3, 3) := by decide +kernel
theorem lkX5i_1 : Cond.methodLink RX5 3 Lib.objectInit ∈ TB := atG_in (h := 179) (by decide +kernel)
theorem dX5i_4 : decode cX5_init 4 = .ok (.aload_n 0, 1) := by decide +kernel
theorem dX5i_5 : decode cX5_init 5 = .ok (.bipush 7, 2) := by decide +kernel
theorem dX5i_7 : decode cX5_init 7 = .ok (.newarray .int, 2) := by decide +kernel
theorem dX5i_9 : decode cX5_init 9 = .ok (.putfield 9, 3) := by decide +kernel
theorem lkX5i_9 : Cond.fieldLink RX5 9 RX5 (TX5 9).2.1 (TX5 9).2.2.1 ∈ TB := atG_in (h := 216) (by decide +kernel)
theorem dX5i_12 : decode cX5_init 12 = .ok (.aload_n 0, 1) := by decide +kernel
theorem dX5i_13 : decode cX5_init 13 = .ok (.bipush 7, 2) := by decide +kernel
theorem dX5i_15 : decode cX5_init 15 = .ok (.newarray .int, 2) := by decide +kernel
theorem dX5i_17 : decode cX5_init 17 = .ok (.putfield 15, 3) := by decide +kernel
theorem lkX5i_17 : Cond.fieldLink RX5 15 RX5 (TX5 10).2.1 (TX5 10).2.2.1 ∈ TB := atG_in (h := 220) (by decide +kernel)
theorem dX5i_20 : decode cX5_init 20 = .ok (.aload_n 0, 1) := by decide +kernel
theorem dX5i_21 : decode cX5_init 21 = .ok (.bipush 7, 2) := by decide +kernel
theorem dX5i_23 : decode cX5_init 23 = .ok (.newarray .int, 2) := by decide +kernel
theorem dX5i_25 : decode cX5_init 25 = .ok (.putfield 18, 3) := by decide +kernel
theorem lkX5i_25 : Cond.fieldLink RX5 18 RX5 (TX5 11).2.1 (TX5 11).2.2.1 ∈ TB := atG_in (h := 224) (by decide +kernel)
theorem dX5i_28 : decode cX5_init 28 = .ok (.aload_n 0, 1) := by decide +kernel
theorem dX5i_29 : decode cX5_init 29 = .ok (.bipush 7, 2) := by decide +kernel
theorem dX5i_31 : decode cX5_init 31 = .ok (.newarray .int, 2) := by decide +kernel
theorem dX5i_33 : decode cX5_init 33 = .ok (.putfield 21, 3) := by decide +kernel
theorem lkX5i_33 : Cond.fieldLink RX5 21 RX5 (TX5 12).2.1 (TX5 12).2.2.1 ∈ TB := atG_in (h := 228) (by decide +kernel)
theorem dX5i_36 : decode cX5_init 36 = .ok (.aload_n 0, 1) := by decide +kernel
theorem dX5i_37 : decode cX5_init 37 = .ok (.iconst 5, 1) := by decide +kernel
theorem dX5i_38 : decode cX5_init 38 = .ok (.newarray .int, 2) := by decide +kernel
theorem dX5i_40 : decode cX5_init 40 = .ok (.putfield 24, 3) := by decide +kernel
theorem lkX5i_40 : Cond.fieldLink RX5 24 RX5 (TX5 13).2.1 (TX5 13).2.2.1 ∈ TB := atG_in (h := 230) (by decide +kernel)
theorem dX5i_43 : decode cX5_init 43 = .ok (.aload_n 0, 1) := by decide +kernel
theorem dX5i_44 : decode cX5_init 44 = .ok (.iconst 5, 1) := by decide +kernel
theorem dX5i_45 : decode cX5_init 45 = .ok (.newarray .int, 2) := by decide +kernel
theorem dX5i_47 : decode cX5_init 47 = .ok (.putfield 27, 3) := by decide +kernel
theorem lkX5i_47 : Cond.fieldLink RX5 27 RX5 (TX5 14).2.1 (TX5 14).2.2.1 ∈ TB := atG_in (h := 232) (by decide +kernel)
theorem dX5i_50 : decode cX5_init 50 = .ok (.aload_n 0, 1) := by decide +kernel
theorem dX5i_51 : decode cX5_init 51 = .ok (.iconst 5, 1) := by decide +kernel
theorem dX5i_52 : decode cX5_init 52 = .ok (.newarray .int, 2) := by decide +kernel
theorem dX5i_54 : decode cX5_init 54 = .ok (.putfield 30, 3) := by decide +kernel
theorem lkX5i_54 : Cond.fieldLink RX5 30 RX5 (TX5 15).2.1 (TX5 15).2.2.1 ∈ TB := atG_in (h := 234) (by decide +kernel)
theorem dX5i_57 : decode cX5_init 57 = .ok (.aload_n 0, 1) := by decide +kernel
theorem dX5i_58 : decode cX5_init 58 = .ok (.iconst 5, 1) := by decide +kernel
theorem dX5i_59 : decode cX5_init 59 = .ok (.newarray .int, 2) := by decide +kernel
theorem dX5i_61 : decode cX5_init 61 = .ok (.putfield 33, 3) := by decide +kernel
theorem lkX5i_61 : Cond.fieldLink RX5 33 RX5 (TX5 16).2.1 (TX5 16).2.2.1 ∈ TB := atG_in (h := 236) (by decide +kernel)
theorem dX5i_64 : decode cX5_init 64 = .ok (.return_, 1) := by decide +kernel
set_option maxRecDepth 100000 in
theorem cdX6_init : Cond.code yX6_init cX6_init 1 none ∈ TB := TB_in (tbk_1 (List.mem_of_getElem? (i := 16) rfl)) rfl
theorem wImX6 : Cond.instanceMethod yX6_init ∈ TB := atG_in (h := 108) (by decide +kernel)
theorem wInX6 : Cond.instantiable RX6 11 ∈ TB := atG_in (h := 106) (by decide +kernel)
theorem wIiX6 : Cond.initialized RX6 ∈ TB := atG_in (h := 94) (by decide +kernel)
theorem dX6i_0 : decode cX6_init 0 = .ok (.aload_n 0, 1) := by decide +kernel
theorem dX6i_1 : decode cX6_init 1 = .ok (.invokespecial 1, 3) := by decide +kernel
theorem lkX6i_1 : Cond.methodLink RX6 1 Lib.objectInit ∈ TB := atG_in (h := 110) (by decide +kernel)
theorem dX6i_4 : decode cX6_init 4 = .ok (.aload_n 0, 1) := by decide +kernel
theorem dX6i_5 : decode cX6_init 5 = .ok (.new 7, 3) := by decide +kernel
theorem lkX6i_5 : Cond.classLink RX6 7 RX3 ∈ TB := atG_in (h := 113) (by decide +kernel)
theorem dX6i_8 : decode cX6_init 8 = .ok (.dup, 1) := by decide +kernel
theorem dX6i_9 : decode cX6_init 9 = .ok (.invokespecial 9, 3) := by decide +kernel
theorem lkX6i_9 : Cond.methodLinkNest RX6 9 yX3_init "GuildPiece" ∈ lw_tbl ∧ nst (Cond.methodLinkNest RX6 9 yX3_init "GuildPiece") = true := atN_in (h := 115) (by decide +kernel)
theorem dX6i_12 : decode cX6_init 12 = .ok (.putfield 10, 3) := by decide +kernel
theorem lkX6i_12 : Cond.fieldLink RX6 10 RX6 (TX6 0).2.1 (TX6 0).2.2.1 ∈ TB := atG_in (h := 346) (by decide +kernel)
theorem dX6i_15 : decode cX6_init 15 = .ok (.aload_n 0, 1) := by decide +kernel
theorem dX6i_16 : decode cX6_init 16 = .ok (.new 16, 3) := by decide +kernel
theorem lkX6i_16 : Cond.classLink RX6 16 RX4 ∈ TB := atG_in (h := 137) (by decide +kernel)
theorem dX6i_19 : decode cX6_init 19 = .ok (.dup, 1) := by decide +kernel
theorem dX6i_20 : decode cX6_init 20 = .ok (.invokespecial 18, 3) := by decide +kernel
theorem lkX6i_20 : Cond.methodLinkNest RX6 18 yX4_init "GuildPiece" ∈ lw_tbl ∧ nst (Cond.methodLinkNest RX6 18 yX4_init "GuildPiece") = true := atN_in (h := 139) (by decide +kernel)
theorem dX6i_23 : decode cX6_init 23 = .ok (.putfield 19, 3) := by decide +kernel
theorem lkX6i_23 : Cond.fieldLink RX6 19 RX6 (TX6 1).2.1 (TX6 1).2.2.1 ∈ TB := atG_in (h := 347) (by decide +kernel)
theorem dX6i_26 : decode cX6_init 26 = .ok (.aload_n 0, 1) := by decide +kernel
theorem dX6i_27 : decode cX6_init 27 = .ok (.new 23, 3) := by decide +kernel
theorem lkX6i_27 : Cond.classLink RX6 23 RX5 ∈ TB := atG_in (h := 174) (by decide +kernel)
theorem dX6i_30 : decode cX6_init 30 = .ok (.dup, 1) := by decide +kernel
theorem dX6i_31 : decode cX6_init 31 = .ok (.invokespecial 25, 3) := by decide +kernel
theorem lkX6i_31 : Cond.methodLinkNest RX6 25 yX5_init "GuildPiece" ∈ lw_tbl ∧ nst (Cond.methodLinkNest RX6 25 yX5_init "GuildPiece") = true := atN_in (h := 176) (by decide +kernel)
theorem dX6i_34 : decode cX6_init 34 = .ok (.putfield 26, 3) := by decide +kernel
theorem lkX6i_34 : Cond.fieldLink RX6 26 RX6 (TX6 2).2.1 (TX6 2).2.2.1 ∈ TB := atG_in (h := 348) (by decide +kernel)
theorem dX6i_37 : decode cX6_init 37 = .ok (.aload_n 0, 1) := by decide +kernel
theorem dX6i_38 : decode cX6_init 38 = .ok (.new 23, 3) := by decide +kernel
theorem lkX6i_38 : Cond.classLink RX6 23 RX5 ∈ TB := atG_in (h := 174) (by decide +kernel)
theorem dX6i_41 : decode cX6_init 41 = .ok (.dup, 1) := by decide +kernel
theorem dX6i_42 : decode cX6_init 42 = .ok (.invokespecial 25, 3) := by decide +kernel
theorem lkX6i_42 : Cond.methodLinkNest RX6 25 yX5_init "GuildPiece" ∈ lw_tbl ∧ nst (Cond.methodLinkNest RX6 25 yX5_init "GuildPiece") = true := atN_in (h := 176) (by decide +kernel)
theorem dX6i_45 : decode cX6_init 45 = .ok (.putfield 30, 3) := by decide +kernel
theorem lkX6i_45 : Cond.fieldLink RX6 30 RX6 (TX6 3).2.1 (TX6 3).2.2.1 ∈ TB := atG_in (h := 349) (by decide +kernel)
theorem dX6i_48 : decode cX6_init 48 = .ok (.aload_n 0, 1) := by decide +kernel
theorem dX6i_49 : decode cX6_init 49 = .ok (.new 23, 3) := by decide +kernel
theorem lkX6i_49 : Cond.classLink RX6 23 RX5 ∈ TB := atG_in (h := 174) (by decide +kernel)
theorem dX6i_52 : decode cX6_init 52 = .ok (.dup, 1) := by decide +kernel
theorem dX6i_53 : decode cX6_init 53 = .ok (.invokespecial 25, 3) := by decide +kernel
theorem lkX6i_53 : Cond.methodLinkNest RX6 25 yX5_init "GuildPiece" ∈ lw_tbl ∧ nst (Cond.methodLinkNest RX6 25 yX5_init "GuildPiece") = true := atN_in (h := 176) (by decide +kernel)
theorem dX6i_56 : decode cX6_init 56 = .ok (.putfield 33, 3) := by decide +kernel
theorem lkX6i_56 : Cond.fieldLink RX6 33 RX6 (TX6 4).2.1 (TX6 4).2.2.1 ∈ TB := atG_in (h := 350) (by decide +kernel)
theorem dX6i_59 : decode cX6_init 59 = .ok (.aload_n 0, 1) := by decide +kernel
theorem dX6i_60 : decode cX6_init 60 = .ok (.new 23, 3) := by decide +kernel
theorem lkX6i_60 : Cond.classLink RX6 23 RX5 ∈ TB := atG_in (h := 174) (by decide +kernel)
theorem dX6i_63 : decode cX6_init 63 = .ok (.dup, 1) := by decide +kernel
theorem dX6i_64 : decode cX6_init 64 = .ok (.invokespecial 25, 3) := by decide +kernel
theorem lkX6i_64 : Cond.methodLinkNest RX6 25 yX5_init "GuildPiece" ∈ lw_tbl ∧ nst (Cond.methodLinkNest RX6 25 yX5_init "GuildPiece") = true := atN_in (h := 176) (by decide +kernel)
theorem dX6i_67 : decode cX6_init 67 = .ok (.putfield 36, 3) := by decide +kernel
theorem lkX6i_67 : Cond.fieldLink RX6 36 RX6 (TX6 5).2.1 (TX6 5).2.2.1 ∈ TB := atG_in (h := 351) (by decide +kernel)
theorem dX6i_70 : decode cX6_init 70 = .ok (.aload_n 0, 1) := by decide +kernel
theorem dX6i_71 : decode cX6_init 71 = .ok (.new 39, 3) := by decide +kernel
theorem lkX6i_71 : Cond.classLink RX6 39 RX0 ∈ TB := atG_in (h := 272) (by decide +kernel)
theorem dX6i_74 : decode cX6_init 74 = .ok (.dup, 1) := by decide +kernel
theorem dX6i_75 : decode cX6_init 75 = .ok (.invokespecial 41, 3) := by decide +kernel
theorem lkX6i_75 : Cond.methodLinkNest RX6 41 yX0_init "GuildPiece" ∈ lw_tbl ∧ nst (Cond.methodLinkNest RX6 41 yX0_init "GuildPiece") = true := atN_in (h := 274) (by decide +kernel)
theorem dX6i_78 : decode cX6_init 78 = .ok (.putfield 42, 3) := by decide +kernel
theorem lkX6i_78 : Cond.fieldLink RX6 42 RX6 (TX6 6).2.1 (TX6 6).2.2.1 ∈ TB := atG_in (h := 352) (by decide +kernel)
theorem dX6i_81 : decode cX6_init 81 = .ok (.aload_n 0, 1) := by decide +kernel
theorem dX6i_82 : decode cX6_init 82 = .ok (.new 46, 3) := by decide +kernel
theorem lkX6i_82 : Cond.classLink RX6 46 RX2 ∈ TB := atG_in (h := 289) (by decide +kernel)
theorem dX6i_85 : decode cX6_init 85 = .ok (.dup, 1) := by decide +kernel
theorem dX6i_86 : decode cX6_init 86 = .ok (.invokespecial 48, 3) := by decide +kernel
theorem lkX6i_86 : Cond.methodLinkNest RX6 48 yX2_init "GuildPiece" ∈ lw_tbl ∧ nst (Cond.methodLinkNest RX6 48 yX2_init "GuildPiece") = true := atN_in (h := 291) (by decide +kernel)
theorem dX6i_89 : decode cX6_init 89 = .ok (.putfield 49, 3) := by decide +kernel
theorem lkX6i_89 : Cond.fieldLink RX6 49 RX6 (TX6 7).2.1 (TX6 7).2.2.1 ∈ TB := atG_in (h := 353) (by decide +kernel)
theorem dX6i_92 : decode cX6_init 92 = .ok (.aload_n 0, 1) := by decide +kernel
theorem dX6i_93 : decode cX6_init 93 = .ok (.new 53, 3) := by decide +kernel
theorem lkX6i_93 : Cond.classLink RX6 53 RX1 ∈ TB := atG_in (h := 319) (by decide +kernel)
theorem dX6i_96 : decode cX6_init 96 = .ok (.dup, 1) := by decide +kernel
theorem dX6i_97 : decode cX6_init 97 = .ok (.invokespecial 55, 3) := by decide +kernel
theorem lkX6i_97 : Cond.methodLinkNest RX6 55 yX1_init "GuildPiece" ∈ lw_tbl ∧ nst (Cond.methodLinkNest RX6 55 yX1_init "GuildPiece") = true := atN_in (h := 321) (by decide +kernel)
theorem dX6i_100 : decode cX6_init 100 = .ok (.putfield 56, 3) := by decide +kernel
theorem lkX6i_100 : Cond.fieldLink RX6 56 RX6 (TX6 8).2.1 (TX6 8).2.2.1 ∈ TB := atG_in (h := 354) (by decide +kernel)
theorem dX6i_103 : decode cX6_init 103 = .ok (.return_, 1) := by decide +kernel
set_option maxRecDepth 100000 in
theorem cdX7_init : Cond.code yX7_init cX7_init 2 none ∈ TB := TB_in (tbk_4 (List.mem_of_getElem? (i := 18) rfl)) rfl
theorem wImX7 : Cond.instanceMethod yX7_init ∈ TB := atG_in (h := 830) (by decide +kernel)
theorem wInX7 : Cond.instantiable RX7 26 ∈ TB := atG_in (h := 828) (by decide +kernel)
theorem wIiX7 : Cond.initialized RX7 ∈ TB := atG_in (h := 101) (by decide +kernel)
theorem dX7i_0 : decode cX7_init 0 = .ok (.aload_n 0, 1) := by decide +kernel
theorem dX7i_1 : decode cX7_init 1 = .ok (.invokespecial 1, 3) := by decide +kernel
theorem lkX7i_1 : Cond.methodLink RX7 1 Lib.objectInit ∈ TB := atG_in (h := 832) (by decide +kernel)
theorem dX7i_4 : decode cX7_init 4 = .ok (.aload_n 0, 1) := by decide +kernel
theorem dX7i_5 : decode cX7_init 5 = .ok (.sipush 208, 3) := by decide +kernel
theorem dX7i_8 : decode cX7_init 8 = .ok (.newarray .int, 2) := by decide +kernel
theorem dX7i_10 : decode cX7_init 10 = .ok (.putfield 7, 3) := by decide +kernel
theorem lkX7i_10 : Cond.fieldLink RX7 7 RX7 (TX7 0).2.1 (TX7 0).2.2.1 ∈ TB := atG_in (h := 833) (by decide +kernel)
theorem dX7i_13 : decode cX7_init 13 = .ok (.aload_n 0, 1) := by decide +kernel
theorem dX7i_14 : decode cX7_init 14 = .ok (.iconst 2, 1) := by decide +kernel
theorem dX7i_15 : decode cX7_init 15 = .ok (.newarray .boolean, 2) := by decide +kernel
theorem dX7i_17 : decode cX7_init 17 = .ok (.putfield 13, 3) := by decide +kernel
theorem lkX7i_17 : Cond.fieldLink RX7 13 RX7 (TX7 1).2.1 (TX7 1).2.2.1 ∈ TB := atG_in (h := 834) (by decide +kernel)
theorem dX7i_20 : decode cX7_init 20 = .ok (.aload_n 0, 1) := by decide +kernel
theorem dX7i_21 : decode cX7_init 21 = .ok (.sipush 144, 3) := by decide +kernel
theorem dX7i_24 : decode cX7_init 24 = .ok (.newarray .int, 2) := by decide +kernel
theorem dX7i_26 : decode cX7_init 26 = .ok (.putfield 17, 3) := by decide +kernel
theorem lkX7i_26 : Cond.fieldLink RX7 17 RX7 (TX7 2).2.1 (TX7 2).2.2.1 ∈ TB := atG_in (h := 835) (by decide +kernel)
theorem dX7i_29 : decode cX7_init 29 = .ok (.aload_n 0, 1) := by decide +kernel
theorem dX7i_30 : decode cX7_init 30 = .ok (.sipush 320, 3) := by decide +kernel
theorem dX7i_33 : decode cX7_init 33 = .ok (.newarray .int, 2) := by decide +kernel
theorem dX7i_35 : decode cX7_init 35 = .ok (.putfield 20, 3) := by decide +kernel
theorem lkX7i_35 : Cond.fieldLink RX7 20 RX7 (TX7 4).2.1 (TX7 4).2.2.1 ∈ TB := atG_in (h := 837) (by decide +kernel)
theorem dX7i_38 : decode cX7_init 38 = .ok (.aload_n 0, 1) := by decide +kernel
theorem dX7i_39 : decode cX7_init 39 = .ok (.bipush 8, 2) := by decide +kernel
theorem dX7i_41 : decode cX7_init 41 = .ok (.newarray .int, 2) := by decide +kernel
theorem dX7i_43 : decode cX7_init 43 = .ok (.putfield 23, 3) := by decide +kernel
theorem lkX7i_43 : Cond.fieldLink RX7 23 RX7 (TX7 5).2.1 (TX7 5).2.2.1 ∈ TB := atG_in (h := 838) (by decide +kernel)
theorem dX7i_46 : decode cX7_init 46 = .ok (.aload_n 0, 1) := by decide +kernel
theorem dX7i_47 : decode cX7_init 47 = .ok (.bipush 8, 2) := by decide +kernel
theorem dX7i_49 : decode cX7_init 49 = .ok (.newarray .int, 2) := by decide +kernel
theorem dX7i_51 : decode cX7_init 51 = .ok (.putfield 26, 3) := by decide +kernel
theorem lkX7i_51 : Cond.fieldLink RX7 26 RX7 (TX7 6).2.1 (TX7 6).2.2.1 ∈ TB := atG_in (h := 839) (by decide +kernel)
theorem dX7i_54 : decode cX7_init 54 = .ok (.aload_n 0, 1) := by decide +kernel
theorem dX7i_55 : decode cX7_init 55 = .ok (.bipush 120, 2) := by decide +kernel
theorem dX7i_57 : decode cX7_init 57 = .ok (.newarray .int, 2) := by decide +kernel
theorem dX7i_59 : decode cX7_init 59 = .ok (.putfield 29, 3) := by decide +kernel
theorem lkX7i_59 : Cond.fieldLink RX7 29 RX7 (TX7 8).2.1 (TX7 8).2.2.1 ∈ TB := atG_in (h := 841) (by decide +kernel)
theorem dX7i_62 : decode cX7_init 62 = .ok (.aload_n 0, 1) := by decide +kernel
theorem dX7i_63 : decode cX7_init 63 = .ok (.bipush 16, 2) := by decide +kernel
theorem dX7i_65 : decode cX7_init 65 = .ok (.newarray .int, 2) := by decide +kernel
theorem dX7i_67 : decode cX7_init 67 = .ok (.putfield 32, 3) := by decide +kernel
theorem lkX7i_67 : Cond.fieldLink RX7 32 RX7 (TX7 11).2.1 (TX7 11).2.2.1 ∈ TB := atG_in (h := 844) (by decide +kernel)
theorem dX7i_70 : decode cX7_init 70 = .ok (.aload_n 0, 1) := by decide +kernel
theorem dX7i_71 : decode cX7_init 71 = .ok (.bipush 40, 2) := by decide +kernel
theorem dX7i_73 : decode cX7_init 73 = .ok (.newarray .int, 2) := by decide +kernel
theorem dX7i_75 : decode cX7_init 75 = .ok (.putfield 35, 3) := by decide +kernel
theorem lkX7i_75 : Cond.fieldLink RX7 35 RX7 (TX7 13).2.1 (TX7 13).2.2.1 ∈ TB := atG_in (h := 846) (by decide +kernel)
theorem dX7i_78 : decode cX7_init 78 = .ok (.aload_n 0, 1) := by decide +kernel
theorem dX7i_79 : decode cX7_init 79 = .ok (.bipush 8, 2) := by decide +kernel
theorem dX7i_81 : decode cX7_init 81 = .ok (.newarray .int, 2) := by decide +kernel
theorem dX7i_83 : decode cX7_init 83 = .ok (.putfield 38, 3) := by decide +kernel
theorem lkX7i_83 : Cond.fieldLink RX7 38 RX7 (TX7 17).2.1 (TX7 17).2.2.1 ∈ TB := atG_in (h := 850) (by decide +kernel)
theorem dX7i_86 : decode cX7_init 86 = .ok (.aload_n 0, 1) := by decide +kernel
theorem dX7i_87 : decode cX7_init 87 = .ok (.bipush 8, 2) := by decide +kernel
theorem dX7i_89 : decode cX7_init 89 = .ok (.newarray .int, 2) := by decide +kernel
theorem dX7i_91 : decode cX7_init 91 = .ok (.putfield 41, 3) := by decide +kernel
theorem lkX7i_91 : Cond.fieldLink RX7 41 RX7 (TX7 18).2.1 (TX7 18).2.2.1 ∈ TB := atG_in (h := 851) (by decide +kernel)
theorem dX7i_94 : decode cX7_init 94 = .ok (.aload_n 0, 1) := by decide +kernel
theorem dX7i_95 : decode cX7_init 95 = .ok (.bipush 8, 2) := by decide +kernel
theorem dX7i_97 : decode cX7_init 97 = .ok (.newarray .int, 2) := by decide +kernel
theorem dX7i_99 : decode cX7_init 99 = .ok (.putfield 44, 3) := by decide +kernel
theorem lkX7i_99 : Cond.fieldLink RX7 44 RX7 (TX7 19).2.1 (TX7 19).2.2.1 ∈ TB := atG_in (h := 852) (by decide +kernel)
theorem dX7i_102 : decode cX7_init 102 = .ok (.aload_n 0, 1) := by decide +kernel
theorem dX7i_103 : decode cX7_init 103 = .ok (.bipush 8, 2) := by decide +kernel
theorem dX7i_105 : decode cX7_init 105 = .ok (.newarray .int, 2) := by decide +kernel
theorem dX7i_107 : decode cX7_init 107 = .ok (.putfield 47, 3) := by decide +kernel
theorem lkX7i_107 : Cond.fieldLink RX7 47 RX7 (TX7 20).2.1 (TX7 20).2.2.1 ∈ TB := atG_in (h := 853) (by decide +kernel)
theorem dX7i_110 : decode cX7_init 110 = .ok (.aload_n 0, 1) := by decide +kernel
theorem dX7i_111 : decode cX7_init 111 = .ok (.bipush 8, 2) := by decide +kernel
theorem dX7i_113 : decode cX7_init 113 = .ok (.newarray .int, 2) := by decide +kernel
theorem dX7i_115 : decode cX7_init 115 = .ok (.putfield 50, 3) := by decide +kernel
theorem lkX7i_115 : Cond.fieldLink RX7 50 RX7 (TX7 21).2.1 (TX7 21).2.2.1 ∈ TB := atG_in (h := 854) (by decide +kernel)
theorem dX7i_118 : decode cX7_init 118 = .ok (.aload_n 0, 1) := by decide +kernel
theorem dX7i_119 : decode cX7_init 119 = .ok (.sipush 128, 3) := by decide +kernel
theorem dX7i_122 : decode cX7_init 122 = .ok (.newarray .int, 2) := by decide +kernel
theorem dX7i_124 : decode cX7_init 124 = .ok (.putfield 53, 3) := by decide +kernel
theorem lkX7i_124 : Cond.fieldLink RX7 53 RX7 (TX7 25).2.1 (TX7 25).2.2.1 ∈ TB := atG_in (h := 858) (by decide +kernel)
theorem dX7i_127 : decode cX7_init 127 = .ok (.iconst 0, 1) := by decide +kernel
theorem dX7i_128 : decode cX7_init 128 = .ok (.istore_n 1, 1) := by decide +kernel
theorem dX7i_129 : decode cX7_init 129 = .ok (.iload_n 1, 1) := by decide +kernel
theorem dX7i_130 : decode cX7_init 130 = .ok (.bipush 8, 2) := by decide +kernel
theorem dX7i_132 : decode cX7_init 132 = .ok (.if_icmp .ge 16, 3) := by decide +kernel
theorem dX7i_135 : decode cX7_init 135 = .ok (.aload_n 0, 1) := by decide +kernel
theorem dX7i_136 : decode cX7_init 136 = .ok (.getfield 23, 3) := by decide +kernel
theorem lkX7i_136 : Cond.fieldLink RX7 23 RX7 (TX7 5).2.1 (TX7 5).2.2.1 ∈ TB := atG_in (h := 838) (by decide +kernel)
theorem dX7i_139 : decode cX7_init 139 = .ok (.iload_n 1, 1) := by decide +kernel
theorem dX7i_140 : decode cX7_init 140 = .ok (.iconst (-1), 1) := by decide +kernel
theorem dX7i_141 : decode cX7_init 141 = .ok (.iastore, 1) := by decide +kernel
theorem dX7i_142 : decode cX7_init 142 = .ok (.iinc 1 1, 3) := by decide +kernel
theorem dX7i_145 : decode cX7_init 145 = .ok (.goto (-16), 3) := by decide +kernel
theorem dX7i_148 : decode cX7_init 148 = .ok (.return_, 1) := by decide +kernel
abbrev SU : Type := (Nat → Nat) × (Nat → ClassId)
abbrev f0X0 : List Value := [.null, .int (nI 0), .int (nI 0)]
def bkX0 (h0 : Nat) (u : SU) : va_W := [(h0, .inr (0, [.ref (u.1 1), .int (nI 0), .int (nI 0)])), (u.1 1, .inl (u.2 1, 144, .inl fun _ => nI 0))]
def tkX0 (u : SU) : List (ClassId × FieldType) := [(u.2 1, .int)]
theorem dfX0 : ∀ j, j < 3 → defaultValue (tyX0 j) = vp_V f0X0 j := by
  intro j hj
  rcases (show j = 0 ∨ j = 1 ∨ j = 2 by omega) with rfl | rfl | rfl <;> rfl
set_option maxHeartbeats 4000000 in
set_option maxRecDepth 100000 in
theorem ctX0 (l : Launch) (D : va_G) (h0 sz : Nat) : Met l yX0_init (Cond.code yX0_init cX0_init 1 none :: TB) { frames := 1, cells := 1, slots := 144, locals := 12 } (PcI D 0 f0X0 h0 sz) (QcI D h0 (va_A [(h0, .inr (0, f0X0))] sz) bkX0 tkX0) 1 144 (va_A [(h0, .inr (0, f0X0))] sz) := by
  refine Met.ofW (cc := cX0_init) (maxL := 1) (ret := none) (by decide) rfl ?_
  intro p e s m args below meth c s₁ B hml hv
  obtain ⟨rfl, hsz, hP, hK, hN⟩ := hv
  have hx := B.exec
  have hb := B.bytes
  have hr := B.returns
  have hts0 := atoms_spec (ws := Cond.code yX0_init cX0_init 1 none :: TB) B.pre
  have hts : ∀ w ∈ TB, w.before ([.ref h0] : List Value).toArray s = true := fun w hw => hts0 w (List.mem_cons_of_mem _ hw)
  have hown : s.vm.findClass RX0 = some m.cls := findClass_of_methodNamed B.named
  have hlocks := B.notSynchronized
  have hin : meth.name = "<init>" := (name_of_methodNamed B.named B.method).1
  subst hsz
  have hD : va_D (va_A [(h0, .inr (0, f0X0))] s.heap.size) [(h0, .inr (0, f0X0))] := ctOne
  generalize hAe : va_A [(h0, .inr (0, f0X0))] s.heap.size = A at hD ⊢
  have hA : ∀ q : Nat, s.heap.size ≤ q → A q := fun q h => by rw [← hAe]; exact Or.inr h
  have hS : va_S A s.heap s.heap [] := va_S.rf
  have hl := lv_entry ([.ref h0]) (n := 1) (Nat.le_of_ble_eq_true rfl)
  rw [lg_entry_eq]
  generalize (lg_sl ([.ref h0]) ++ List.replicate (1 - (lg_sl ([.ref h0])).length) Slot.unset).toArray = ls at hl ⊢
  have hl : lv_has ls 1 [(0, .ref h0)] := hl
  have hl0 := lv_at hl 0 rfl
  refine lv_aload_n hx hb dX0i_0 rfl hl0 ?_
  refine W.objInit hx hb hown (hts _ lkX0i_1) (hts _ oiInst) (hts _ oiCode) rfl (by rw [hml]; exact hl.1) rfl dX0i_1 (Nat.le_of_ble_eq_true rfl) (Nat.le_of_ble_eq_true rfl) ?_
  refine W.eq (g2 := F0 m 4 ls []) rfl ?_
  refine ctArr (ci := 0) (k := 0) (n := 144) (v := 144) false hx hb hts hown hin rfl hK hP hD hS hA hl0 (by decide) ⟨rfl, rfl, by decide +kernel⟩ rfl lkX0i_10 dX0i_4 (Or.inr (Or.inr ⟨_, dX0i_5, by decide, rfl⟩)) dX0i_8 dX0i_10 ⟨by decide, by decide, by decide⟩ (Nat.le_of_ble_eq_true rfl) (Nat.le_of_ble_eq_true rfl) (fun q1 c1 H locs hK hP hD hS => ?_)
  refine W.widen (k := 1) (n := 144) (by decide) (by decide) ?_
  exact W.vret hx hb hr (fun t ht hW => ⟨⟨(fun k => [0, q1].getD k 0, fun k => [c1, c1].getD k c1), rfl, trivial, by rw [ht]; exact hP, va_K.moved hW.alike hK, hD⟩, hS.F ht⟩) hS.2.2 dX0i_13
abbrev f0X1 : List Value := [.null, .int (nI 0), .int (nI 0), .int (nI 0), .int (nI 0), .int (nI 0)]
def bkX1 (h0 : Nat) (u : SU) : va_W := [(h0, .inr (1, [.ref (u.1 1), .int (nI 0), .int (nI 0), .int (nI 0), .int (nI 0), .int (nI 0)])), (u.1 1, .inl (u.2 1, 16, .inl fun _ => nI 0))]
def tkX1 (u : SU) : List (ClassId × FieldType) := [(u.2 1, .int)]
theorem dfX1 : ∀ j, j < 6 → defaultValue (tyX1 j) = vp_V f0X1 j := by
  intro j hj
  rcases (show j = 0 ∨ j = 1 ∨ j = 2 ∨ j = 3 ∨ j = 4 ∨ j = 5 by omega) with rfl | rfl | rfl | rfl | rfl | rfl <;> rfl
set_option maxHeartbeats 4000000 in
set_option maxRecDepth 100000 in
theorem ctX1 (l : Launch) (D : va_G) (h0 sz : Nat) : Met l yX1_init (Cond.code yX1_init cX1_init 1 none :: TB) { frames := 1, cells := 1, slots := 16, locals := 12 } (PcI D 1 f0X1 h0 sz) (QcI D h0 (va_A [(h0, .inr (1, f0X1))] sz) bkX1 tkX1) 1 16 (va_A [(h0, .inr (1, f0X1))] sz) := by
  refine Met.ofW (cc := cX1_init) (maxL := 1) (ret := none) (by decide) rfl ?_
  intro p e s m args below meth c s₁ B hml hv
  obtain ⟨rfl, hsz, hP, hK, hN⟩ := hv
  have hx := B.exec
  have hb := B.bytes
  have hr := B.returns
  have hts0 := atoms_spec (ws := Cond.code yX1_init cX1_init 1 none :: TB) B.pre
  have hts : ∀ w ∈ TB, w.before ([.ref h0] : List Value).toArray s = true := fun w hw => hts0 w (List.mem_cons_of_mem _ hw)
  have hown : s.vm.findClass RX1 = some m.cls := findClass_of_methodNamed B.named
  have hlocks := B.notSynchronized
  have hin : meth.name = "<init>" := (name_of_methodNamed B.named B.method).1
  subst hsz
  have hD : va_D (va_A [(h0, .inr (1, f0X1))] s.heap.size) [(h0, .inr (1, f0X1))] := ctOne
  generalize hAe : va_A [(h0, .inr (1, f0X1))] s.heap.size = A at hD ⊢
  have hA : ∀ q : Nat, s.heap.size ≤ q → A q := fun q h => by rw [← hAe]; exact Or.inr h
  have hS : va_S A s.heap s.heap [] := va_S.rf
  have hl := lv_entry ([.ref h0]) (n := 1) (Nat.le_of_ble_eq_true rfl)
  rw [lg_entry_eq]
  generalize (lg_sl ([.ref h0]) ++ List.replicate (1 - (lg_sl ([.ref h0])).length) Slot.unset).toArray = ls at hl ⊢
  have hl : lv_has ls 1 [(0, .ref h0)] := hl
  have hl0 := lv_at hl 0 rfl
  refine lv_aload_n hx hb dX1i_0 rfl hl0 ?_
  refine W.objInit hx hb hown (hts _ lkX1i_1) (hts _ oiInst) (hts _ oiCode) rfl (by rw [hml]; exact hl.1) rfl dX1i_1 (Nat.le_of_ble_eq_true rfl) (Nat.le_of_ble_eq_true rfl) ?_
  refine W.eq (g2 := F0 m 4 ls []) rfl ?_
  refine ctArr (ci := 1) (k := 0) (n := 16) (v := 16) false hx hb hts hown hin rfl hK hP hD hS hA hl0 (by decide) ⟨rfl, rfl, by decide +kernel⟩ rfl lkX1i_9 dX1i_4 (Or.inr (Or.inl ⟨_, dX1i_5, by decide, rfl⟩)) dX1i_7 dX1i_9 ⟨by decide, by decide, by decide⟩ (Nat.le_of_ble_eq_true rfl) (Nat.le_of_ble_eq_true rfl) (fun q1 c1 H locs hK hP hD hS => ?_)
  refine W.widen (k := 1) (n := 16) (by decide) (by decide) ?_
  exact W.vret hx hb hr (fun t ht hW => ⟨⟨(fun k => [0, q1].getD k 0, fun k => [c1, c1].getD k c1), rfl, trivial, by rw [ht]; exact hP, va_K.moved hW.alike hK, hD⟩, hS.F ht⟩) hS.2.2 dX1i_12
abbrev f0X2 : List Value := [.null, .int (nI 0), .int (nI 0), .int (nI 0), .int (nI 0), .int (nI 0)]
def bkX2 (h0 : Nat) (u : SU) : va_W := [(h0, .inr (2, [.ref (u.1 1), .int (nI 0), .int (nI 0), .int (nI 0), .int (nI 0), .int (nI 0)])), (u.1 1, .inl (u.2 1, 1024, .inl fun _ => nI 0))]
def tkX2 (u : SU) : List (ClassId × FieldType) := [(u.2 1, .int)]
theorem dfX2 : ∀ j, j < 6 → defaultValue (tyX2 j) = vp_V f0X2 j := by
  intro j hj
  rcases (show j = 0 ∨ j = 1 ∨ j = 2 ∨ j = 3 ∨ j = 4 ∨ j = 5 by omega) with rfl | rfl | rfl | rfl | rfl | rfl <;> rfl
set_option maxHeartbeats 4000000 in
set_option maxRecDepth 100000 in
theorem ctX2 (l : Launch) (D : va_G) (h0 sz : Nat) : Met l yX2_init (Cond.code yX2_init cX2_init 1 none :: TB) { frames := 1, cells := 1, slots := 1024, locals := 12 } (PcI D 2 f0X2 h0 sz) (QcI D h0 (va_A [(h0, .inr (2, f0X2))] sz) bkX2 tkX2) 1 1024 (va_A [(h0, .inr (2, f0X2))] sz) := by
  refine Met.ofW (cc := cX2_init) (maxL := 1) (ret := none) (by decide) rfl ?_
  intro p e s m args below meth c s₁ B hml hv
  obtain ⟨rfl, hsz, hP, hK, hN⟩ := hv
  have hx := B.exec
  have hb := B.bytes
  have hr := B.returns
  have hts0 := atoms_spec (ws := Cond.code yX2_init cX2_init 1 none :: TB) B.pre
  have hts : ∀ w ∈ TB, w.before ([.ref h0] : List Value).toArray s = true := fun w hw => hts0 w (List.mem_cons_of_mem _ hw)
  have hown : s.vm.findClass RX2 = some m.cls := findClass_of_methodNamed B.named
  have hlocks := B.notSynchronized
  have hin : meth.name = "<init>" := (name_of_methodNamed B.named B.method).1
  subst hsz
  have hD : va_D (va_A [(h0, .inr (2, f0X2))] s.heap.size) [(h0, .inr (2, f0X2))] := ctOne
  generalize hAe : va_A [(h0, .inr (2, f0X2))] s.heap.size = A at hD ⊢
  have hA : ∀ q : Nat, s.heap.size ≤ q → A q := fun q h => by rw [← hAe]; exact Or.inr h
  have hS : va_S A s.heap s.heap [] := va_S.rf
  have hl := lv_entry ([.ref h0]) (n := 1) (Nat.le_of_ble_eq_true rfl)
  rw [lg_entry_eq]
  generalize (lg_sl ([.ref h0]) ++ List.replicate (1 - (lg_sl ([.ref h0])).length) Slot.unset).toArray = ls at hl ⊢
  have hl : lv_has ls 1 [(0, .ref h0)] := hl
  have hl0 := lv_at hl 0 rfl
  refine lv_aload_n hx hb dX2i_0 rfl hl0 ?_
  refine W.objInit hx hb hown (hts _ lkX2i_1) (hts _ oiInst) (hts _ oiCode) rfl (by rw [hml]; exact hl.1) rfl dX2i_1 (Nat.le_of_ble_eq_true rfl) (Nat.le_of_ble_eq_true rfl) ?_
  refine W.eq (g2 := F0 m 4 ls []) rfl ?_
  refine ctArr (ci := 2) (k := 0) (n := 1024) (v := 1024) false hx hb hts hown hin rfl hK hP hD hS hA hl0 (by decide) ⟨rfl, rfl, by decide +kernel⟩ rfl lkX2i_10 dX2i_4 (Or.inr (Or.inr ⟨_, dX2i_5, by decide, rfl⟩)) dX2i_8 dX2i_10 ⟨by decide, by decide, by decide⟩ (Nat.le_of_ble_eq_true rfl) (Nat.le_of_ble_eq_true rfl) (fun q1 c1 H locs hK hP hD hS => ?_)
  refine W.widen (k := 1) (n := 1024) (by decide) (by decide) ?_
  exact W.vret hx hb hr (fun t ht hW => ⟨⟨(fun k => [0, q1].getD k 0, fun k => [c1, c1].getD k c1), rfl, trivial, by rw [ht]; exact hP, va_K.moved hW.alike hK, hD⟩, hS.F ht⟩) hS.2.2 dX2i_13
abbrev f0X3 : List Value := [.null, .null, .null, .null]
def bkX3 (h0 : Nat) (u : SU) : va_W := [(h0, .inr (3, [.ref (u.1 1), .ref (u.1 2), .ref (u.1 3), .ref (u.1 4)])), (u.1 1, .inl (u.2 1, 8, .inl fun _ => nI 0)), (u.1 2, .inl (u.2 2, 8, .inl fun _ => nI 0)), (u.1 3, .inl (u.2 3, 8, .inl fun _ => nI 0)), (u.1 4, .inl (u.2 4, 320, .inl fun _ => nI 0))]
def tkX3 (u : SU) : List (ClassId × FieldType) := [(u.2 1, .boolean), (u.2 2, .int), (u.2 3, .int), (u.2 4, .int)]
theorem dfX3 : ∀ j, j < 4 → defaultValue (tyX3 j) = vp_V f0X3 j := by
  intro j hj
  rcases (show j = 0 ∨ j = 1 ∨ j = 2 ∨ j = 3 by omega) with rfl | rfl | rfl | rfl <;> rfl
set_option maxHeartbeats 4000000 in
set_option maxRecDepth 100000 in
theorem ctX3 (l : Launch) (D : va_G) (h0 sz : Nat) : Met l yX3_init (Cond.code yX3_init cX3_init 1 none :: TB) { frames := 1, cells := 4, slots := 344, locals := 12 } (PcI D 3 f0X3 h0 sz) (QcI D h0 (va_A [(h0, .inr (3, f0X3))] sz) bkX3 tkX3) 4 344 (va_A [(h0, .inr (3, f0X3))] sz) := by
  refine Met.ofW (cc := cX3_init) (maxL := 1) (ret := none) (by decide) rfl ?_
  intro p e s m args below meth c s₁ B hml hv
  obtain ⟨rfl, hsz, hP, hK, hN⟩ := hv
  have hx := B.exec
  have hb := B.bytes
  have hr := B.returns
  have hts0 := atoms_spec (ws := Cond.code yX3_init cX3_init 1 none :: TB) B.pre
  have hts : ∀ w ∈ TB, w.before ([.ref h0] : List Value).toArray s = true := fun w hw => hts0 w (List.mem_cons_of_mem _ hw)
  have hown : s.vm.findClass RX3 = some m.cls := findClass_of_methodNamed B.named
  have hlocks := B.notSynchronized
  have hin : meth.name = "<init>" := (name_of_methodNamed B.named B.method).1
  subst hsz
  have hD : va_D (va_A [(h0, .inr (3, f0X3))] s.heap.size) [(h0, .inr (3, f0X3))] := ctOne
  generalize hAe : va_A [(h0, .inr (3, f0X3))] s.heap.size = A at hD ⊢
  have hA : ∀ q : Nat, s.heap.size ≤ q → A q := fun q h => by rw [← hAe]; exact Or.inr h
  have hS : va_S A s.heap s.heap [] := va_S.rf
  have hl := lv_entry ([.ref h0]) (n := 1) (Nat.le_of_ble_eq_true rfl)
  rw [lg_entry_eq]
  generalize (lg_sl ([.ref h0]) ++ List.replicate (1 - (lg_sl ([.ref h0])).length) Slot.unset).toArray = ls at hl ⊢
  have hl : lv_has ls 1 [(0, .ref h0)] := hl
  have hl0 := lv_at hl 0 rfl
  refine lv_aload_n hx hb dX3i_0 rfl hl0 ?_
  refine W.objInit hx hb hown (hts _ lkX3i_1) (hts _ oiInst) (hts _ oiCode) rfl (by rw [hml]; exact hl.1) rfl dX3i_1 (Nat.le_of_ble_eq_true rfl) (Nat.le_of_ble_eq_true rfl) ?_
  refine W.eq (g2 := F0 m 4 ls []) rfl ?_
  refine ctArr (ci := 3) (k := 0) (n := 8) (v := 8) true hx hb hts hown hin rfl hK hP hD hS hA hl0 (by decide) ⟨rfl, rfl, by decide +kernel⟩ rfl lkX3i_9 dX3i_4 (Or.inr (Or.inl ⟨_, dX3i_5, by decide, rfl⟩)) dX3i_7 dX3i_9 ⟨by decide, by decide, by decide⟩ (Nat.le_of_ble_eq_true rfl) (Nat.le_of_ble_eq_true rfl) (fun q1 c1 H locs hK hP hD hS => ?_)
  refine ctArr (ci := 3) (k := 1) (n := 8) (v := 8) false hx hb hts hown hin rfl hK hP hD hS hA hl0 (by decide) ⟨rfl, rfl, by decide +kernel⟩ rfl lkX3i_17 dX3i_12 (Or.inr (Or.inl ⟨_, dX3i_13, by decide, rfl⟩)) dX3i_15 dX3i_17 ⟨by decide, by decide, by decide⟩ (Nat.le_of_ble_eq_true rfl) (Nat.le_of_ble_eq_true rfl) (fun q2 c2 H locs hK hP hD hS => ?_)
  refine ctArr (ci := 3) (k := 2) (n := 8) (v := 8) false hx hb hts hown hin rfl hK hP hD hS hA hl0 (by decide) ⟨rfl, rfl, by decide +kernel⟩ rfl lkX3i_25 dX3i_20 (Or.inr (Or.inl ⟨_, dX3i_21, by decide, rfl⟩)) dX3i_23 dX3i_25 ⟨by decide, by decide, by decide⟩ (Nat.le_of_ble_eq_true rfl) (Nat.le_of_ble_eq_true rfl) (fun q3 c3 H locs hK hP hD hS => ?_)
  refine ctArr (ci := 3) (k := 3) (n := 320) (v := 320) false hx hb hts hown hin rfl hK hP hD hS hA hl0 (by decide) ⟨rfl, rfl, by decide +kernel⟩ rfl lkX3i_34 dX3i_28 (Or.inr (Or.inr ⟨_, dX3i_29, by decide, rfl⟩)) dX3i_32 dX3i_34 ⟨by decide, by decide, by decide⟩ (Nat.le_of_ble_eq_true rfl) (Nat.le_of_ble_eq_true rfl) (fun q4 c4 H locs hK hP hD hS => ?_)
  refine W.widen (k := 4) (n := 344) (by decide) (by decide) ?_
  exact W.vret hx hb hr (fun t ht hW => ⟨⟨(fun k => [0, q1, q2, q3, q4].getD k 0, fun k => [c1, c1, c2, c3, c4].getD k c1), rfl, trivial, by rw [ht]; exact hP, va_K.moved hW.alike hK, hD⟩, hS.F ht⟩) hS.2.2 dX3i_37
abbrev f0X4 : List Value := [.null, .int (nI 0), .int (nI 0), .int (nI 0), .int (nI 0), .int (nI 0), .int (nI 0), .int (nI 0), .int (nI 0)]
def bkX4 (h0 : Nat) (u : SU) : va_W := [(h0, .inr (4, [.ref (u.1 1), .int (nI 0), .int (nI 0), .int (nI 0), .int (nI 0), .int (nI 0), .int (nI 0), .int (nI 0), .int (nI 0)])), (u.1 1, .inl (u.2 1, 120, .inl fun _ => nI 0))]
def tkX4 (u : SU) : List (ClassId × FieldType) := [(u.2 1, .int)]
theorem dfX4 : ∀ j, j < 9 → defaultValue (tyX4 j) = vp_V f0X4 j := by
  intro j hj
  rcases (show j = 0 ∨ j = 1 ∨ j = 2 ∨ j = 3 ∨ j = 4 ∨ j = 5 ∨ j = 6 ∨ j = 7 ∨ j = 8 by omega) with rfl | rfl | rfl | rfl | rfl | rfl | rfl | rfl | rfl <;> rfl
set_option maxHeartbeats 4000000 in
set_option maxRecDepth 100000 in
theorem ctX4 (l : Launch) (D : va_G) (h0 sz : Nat) : Met l yX4_init (Cond.code yX4_init cX4_init 1 none :: TB) { frames := 1, cells := 1, slots := 120, locals := 12 } (PcI D 4 f0X4 h0 sz) (QcI D h0 (va_A [(h0, .inr (4, f0X4))] sz) bkX4 tkX4) 1 120 (va_A [(h0, .inr (4, f0X4))] sz) := by
  refine Met.ofW (cc := cX4_init) (maxL := 1) (ret := none) (by decide) rfl ?_
  intro p e s m args below meth c s₁ B hml hv
  obtain ⟨rfl, hsz, hP, hK, hN⟩ := hv
  have hx := B.exec
  have hb := B.bytes
  have hr := B.returns
  have hts0 := atoms_spec (ws := Cond.code yX4_init cX4_init 1 none :: TB) B.pre
  have hts : ∀ w ∈ TB, w.before ([.ref h0] : List Value).toArray s = true := fun w hw => hts0 w (List.mem_cons_of_mem _ hw)
  have hown : s.vm.findClass RX4 = some m.cls := findClass_of_methodNamed B.named
  have hlocks := B.notSynchronized
  have hin : meth.name = "<init>" := (name_of_methodNamed B.named B.method).1
  subst hsz
  have hD : va_D (va_A [(h0, .inr (4, f0X4))] s.heap.size) [(h0, .inr (4, f0X4))] := ctOne
  generalize hAe : va_A [(h0, .inr (4, f0X4))] s.heap.size = A at hD ⊢
  have hA : ∀ q : Nat, s.heap.size ≤ q → A q := fun q h => by rw [← hAe]; exact Or.inr h
  have hS : va_S A s.heap s.heap [] := va_S.rf
  have hl := lv_entry ([.ref h0]) (n := 1) (Nat.le_of_ble_eq_true rfl)
  rw [lg_entry_eq]
  generalize (lg_sl ([.ref h0]) ++ List.replicate (1 - (lg_sl ([.ref h0])).length) Slot.unset).toArray = ls at hl ⊢
  have hl : lv_has ls 1 [(0, .ref h0)] := hl
  have hl0 := lv_at hl 0 rfl
  refine lv_aload_n hx hb dX4i_0 rfl hl0 ?_
  refine W.objInit hx hb hown (hts _ lkX4i_1) (hts _ oiInst) (hts _ oiCode) rfl (by rw [hml]; exact hl.1) rfl dX4i_1 (Nat.le_of_ble_eq_true rfl) (Nat.le_of_ble_eq_true rfl) ?_
  refine W.eq (g2 := F0 m 4 ls []) rfl ?_
  refine ctArr (ci := 4) (k := 0) (n := 120) (v := 120) false hx hb hts hown hin rfl hK hP hD hS hA hl0 (by decide) ⟨rfl, rfl, by decide +kernel⟩ rfl lkX4i_9 dX4i_4 (Or.inr (Or.inl ⟨_, dX4i_5, by decide, rfl⟩)) dX4i_7 dX4i_9 ⟨by decide, by decide, by decide⟩ (Nat.le_of_ble_eq_true rfl) (Nat.le_of_ble_eq_true rfl) (fun q1 c1 H locs hK hP hD hS => ?_)
  refine W.widen (k := 1) (n := 120) (by decide) (by decide) ?_
  exact W.vret hx hb hr (fun t ht hW => ⟨⟨(fun k => [0, q1].getD k 0, fun k => [c1, c1].getD k c1), rfl, trivial, by rw [ht]; exact hP, va_K.moved hW.alike hK, hD⟩, hS.F ht⟩) hS.2.2 dX4i_12
abbrev f0X5 : List Value := [.int (nI 0), .int (nI 0), .int (nI 0), .int (nI 0), .int (nI 0), .int (nI 0), .int (nI 0), .int (nI 0), .int (nI 0), .null, .null, .null, .null, .null, .null, .null, .null]
def bkX5 (h0 : Nat) (u : SU) : va_W := [(h0, .inr (5, [.int (nI 0), .int (nI 0), .int (nI 0), .int (nI 0), .int (nI 0), .int (nI 0), .int (nI 0), .int (nI 0), .int (nI 0), .ref (u.1 1), .ref (u.1 2), .ref (u.1 3), .ref (u.1 4), .ref (u.1 5), .ref (u.1 6), .ref (u.1 7), .ref (u.1 8)])), (u.1 1, .inl (u.2 1, 7, .inl fun _ => nI 0)), (u.1 2, .inl (u.2 2, 7, .inl fun _ => nI 0)), (u.1 3, .inl (u.2 3, 7, .inl fun _ => nI 0)), (u.1 4, .inl (u.2 4, 7, .inl fun _ => nI 0)), (u.1 5, .inl (u.2 5, 5, .inl fun _ => nI 0)), (u.1 6, .inl (u.2 6, 5, .inl fun _ => nI 0)), (u.1 7, .inl (u.2 7, 5, .inl fun _ => nI 0)), (u.1 8, .inl (u.2 8, 5, .inl fun _ => nI 0))]
def tkX5 (u : SU) : List (ClassId × FieldType) := [(u.2 1, .int), (u.2 2, .int), (u.2 3, .int), (u.2 4, .int), (u.2 5, .int), (u.2 6, .int), (u.2 7, .int), (u.2 8, .int)]
theorem dfX5 : ∀ j, j < 17 → defaultValue (tyX5 j) = vp_V f0X5 j := by
  intro j hj
  rcases (show j = 0 ∨ j = 1 ∨ j = 2 ∨ j = 3 ∨ j = 4 ∨ j = 5 ∨ j = 6 ∨ j = 7 ∨ j = 8 ∨ j = 9 ∨ j = 10 ∨ j = 11 ∨ j = 12 ∨ j = 13 ∨ j = 14 ∨ j = 15 ∨ j = 16 by omega) with rfl | rfl | rfl | rfl | rfl | rfl | rfl | rfl | rfl | rfl | rfl | rfl | rfl | rfl | rfl | rfl | rfl <;> rfl
set_option maxHeartbeats 4000000 in
set_option maxRecDepth 100000 in
theorem ctX5 (l : Launch) (D : va_G) (h0 sz : Nat) : Met l yX5_init (Cond.code yX5_init cX5_init 1 none :: TB) { frames := 1, cells := 8, slots := 48, locals := 12 } (PcI D 5 f0X5 h0 sz) (QcI D h0 (va_A [(h0, .inr (5, f0X5))] sz) bkX5 tkX5) 8 48 (va_A [(h0, .inr (5, f0X5))] sz) := by
  refine Met.ofW (cc := cX5_init) (maxL := 1) (ret := none) (by decide) rfl ?_
  intro p e s m args below meth c s₁ B hml hv
  obtain ⟨rfl, hsz, hP, hK, hN⟩ := hv
  have hx := B.exec
  have hb := B.bytes
  have hr := B.returns
  have hts0 := atoms_spec (ws := Cond.code yX5_init cX5_init 1 none :: TB) B.pre
  have hts : ∀ w ∈ TB, w.before ([.ref h0] : List Value).toArray s = true := fun w hw => hts0 w (List.mem_cons_of_mem _ hw)
  have hown : s.vm.findClass RX5 = some m.cls := findClass_of_methodNamed B.named
  have hlocks := B.notSynchronized
  have hin : meth.name = "<init>" := (name_of_methodNamed B.named B.method).1
  subst hsz
  have hD : va_D (va_A [(h0, .inr (5, f0X5))] s.heap.size) [(h0, .inr (5, f0X5))] := ctOne
  generalize hAe : va_A [(h0, .inr (5, f0X5))] s.heap.size = A at hD ⊢
  have hA : ∀ q : Nat, s.heap.size ≤ q → A q := fun q h => by rw [← hAe]; exact Or.inr h
  have hS : va_S A s.heap s.heap [] := va_S.rf
  have hl := lv_entry ([.ref h0]) (n := 1) (Nat.le_of_ble_eq_true rfl)
  rw [lg_entry_eq]
  generalize (lg_sl ([.ref h0]) ++ List.replicate (1 - (lg_sl ([.ref h0])).length) Slot.unset).toArray = ls at hl ⊢
  have hl : lv_has ls 1 [(0, .ref h0)] := hl
  have hl0 := lv_at hl 0 rfl
  refine lv_aload_n hx hb dX5i_0 rfl hl0 ?_
  refine W.objInit hx hb hown (hts _ lkX5i_1) (hts _ oiInst) (hts _ oiCode) rfl (by rw [hml]; exact hl.1) rfl dX5i_1 (Nat.le_of_ble_eq_true rfl) (Nat.le_of_ble_eq_true rfl) ?_
  refine W.eq (g2 := F0 m 4 ls []) rfl ?_
  refine ctArr (ci := 5) (k := 9) (n := 7) (v := 7) false hx hb hts hown hin rfl hK hP hD hS hA hl0 (by decide) ⟨rfl, rfl, by decide +kernel⟩ rfl lkX5i_9 dX5i_4 (Or.inr (Or.inl ⟨_, dX5i_5, by decide, rfl⟩)) dX5i_7 dX5i_9 ⟨by decide, by decide, by decide⟩ (Nat.le_of_ble_eq_true rfl) (Nat.le_of_ble_eq_true rfl) (fun q1 c1 H locs hK hP hD hS => ?_)
  refine ctArr (ci := 5) (k := 10) (n := 7) (v := 7) false hx hb hts hown hin rfl hK hP hD hS hA hl0 (by decide) ⟨rfl, rfl, by decide +kernel⟩ rfl lkX5i_17 dX5i_12 (Or.inr (Or.inl ⟨_, dX5i_13, by decide, rfl⟩)) dX5i_15 dX5i_17 ⟨by decide, by decide, by decide⟩ (Nat.le_of_ble_eq_true rfl) (Nat.le_of_ble_eq_true rfl) (fun q2 c2 H locs hK hP hD hS => ?_)
  refine ctArr (ci := 5) (k := 11) (n := 7) (v := 7) false hx hb hts hown hin rfl hK hP hD hS hA hl0 (by decide) ⟨rfl, rfl, by decide +kernel⟩ rfl lkX5i_25 dX5i_20 (Or.inr (Or.inl ⟨_, dX5i_21, by decide, rfl⟩)) dX5i_23 dX5i_25 ⟨by decide, by decide, by decide⟩ (Nat.le_of_ble_eq_true rfl) (Nat.le_of_ble_eq_true rfl) (fun q3 c3 H locs hK hP hD hS => ?_)
  refine ctArr (ci := 5) (k := 12) (n := 7) (v := 7) false hx hb hts hown hin rfl hK hP hD hS hA hl0 (by decide) ⟨rfl, rfl, by decide +kernel⟩ rfl lkX5i_33 dX5i_28 (Or.inr (Or.inl ⟨_, dX5i_29, by decide, rfl⟩)) dX5i_31 dX5i_33 ⟨by decide, by decide, by decide⟩ (Nat.le_of_ble_eq_true rfl) (Nat.le_of_ble_eq_true rfl) (fun q4 c4 H locs hK hP hD hS => ?_)
  refine ctArr (ci := 5) (k := 13) (n := 5) (v := 5) false hx hb hts hown hin rfl hK hP hD hS hA hl0 (by decide) ⟨rfl, rfl, by decide +kernel⟩ rfl lkX5i_40 dX5i_36 (Or.inl ⟨_, dX5i_37, by decide, rfl⟩) dX5i_38 dX5i_40 ⟨by decide, by decide, by decide⟩ (Nat.le_of_ble_eq_true rfl) (Nat.le_of_ble_eq_true rfl) (fun q5 c5 H locs hK hP hD hS => ?_)
  refine ctArr (ci := 5) (k := 14) (n := 5) (v := 5) false hx hb hts hown hin rfl hK hP hD hS hA hl0 (by decide) ⟨rfl, rfl, by decide +kernel⟩ rfl lkX5i_47 dX5i_43 (Or.inl ⟨_, dX5i_44, by decide, rfl⟩) dX5i_45 dX5i_47 ⟨by decide, by decide, by decide⟩ (Nat.le_of_ble_eq_true rfl) (Nat.le_of_ble_eq_true rfl) (fun q6 c6 H locs hK hP hD hS => ?_)
  refine ctArr (ci := 5) (k := 15) (n := 5) (v := 5) false hx hb hts hown hin rfl hK hP hD hS hA hl0 (by decide) ⟨rfl, rfl, by decide +kernel⟩ rfl lkX5i_54 dX5i_50 (Or.inl ⟨_, dX5i_51, by decide, rfl⟩) dX5i_52 dX5i_54 ⟨by decide, by decide, by decide⟩ (Nat.le_of_ble_eq_true rfl) (Nat.le_of_ble_eq_true rfl) (fun q7 c7 H locs hK hP hD hS => ?_)
  refine ctArr (ci := 5) (k := 16) (n := 5) (v := 5) false hx hb hts hown hin rfl hK hP hD hS hA hl0 (by decide) ⟨rfl, rfl, by decide +kernel⟩ rfl lkX5i_61 dX5i_57 (Or.inl ⟨_, dX5i_58, by decide, rfl⟩) dX5i_59 dX5i_61 ⟨by decide, by decide, by decide⟩ (Nat.le_of_ble_eq_true rfl) (Nat.le_of_ble_eq_true rfl) (fun q8 c8 H locs hK hP hD hS => ?_)
  refine W.widen (k := 8) (n := 48) (by decide) (by decide) ?_
  exact W.vret hx hb hr (fun t ht hW => ⟨⟨(fun k => [0, q1, q2, q3, q4, q5, q6, q7, q8].getD k 0, fun k => [c1, c1, c2, c3, c4, c5, c6, c7, c8].getD k c1), rfl, trivial, by rw [ht]; exact hP, va_K.moved hW.alike hK, hD⟩, hS.F ht⟩) hS.2.2 dX5i_64
