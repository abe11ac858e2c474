theorem kin0 : ∀ w ∈ u_ws RX0 TX0 17, w ∈ kTb := by decide +kernel
theorem kin1 : ∀ w ∈ u_ws RX1 TX1 12, w ∈ kTb := by decide +kernel
theorem ini_KeyWalksLaw : Cond.initialized "KeyWalksLaw" ∈ kTb := kTb_in (List.mem_append_right _ (List.mem_of_getElem? (i := 0) (by decide +kernel))) rfl
theorem ini_KeyWalks : Cond.initialized "KeyWalks" ∈ kTb := kTb_in (List.mem_append_right _ (List.mem_of_getElem? (i := 1) (by decide +kernel))) rfl
theorem ini_java_lang_System : Cond.initialized "java/lang/System" ∈ kTb := kTb_in (List.mem_append_right _ (List.mem_of_getElem? (i := 2) (by decide +kernel))) rfl
theorem ini_KeyWalksModel : Cond.initialized "KeyWalksModel" ∈ kTb := kTb_in (List.mem_append_right _ (List.mem_of_getElem? (i := 3) (by decide +kernel))) rfl
theorem ini_java_lang_Throwable : Cond.initialized "java/lang/Throwable" ∈ kTb := kTb_in (List.mem_append_right _ (List.mem_of_getElem? (i := 4) (by decide +kernel))) rfl
theorem ini_java_lang_Exception : Cond.initialized "java/lang/Exception" ∈ kTb := kTb_in (List.mem_append_right _ (List.mem_of_getElem? (i := 5) (by decide +kernel))) rfl
theorem ini_java_lang_RuntimeException : Cond.initialized "java/lang/RuntimeException" ∈ kTb := kTb_in (List.mem_append_right _ (List.mem_of_getElem? (i := 6) (by decide +kernel))) rfl
theorem ini_java_lang_IllegalArgumentException : Cond.initialized "java/lang/IllegalArgumentException" ∈ kTb := kTb_in (List.mem_append_right _ (List.mem_of_getElem? (i := 7) (by decide +kernel))) rfl
theorem ini_java_lang_IllegalStateException : Cond.initialized "java/lang/IllegalStateException" ∈ kTb := kTb_in (List.mem_append_right _ (List.mem_of_getElem? (i := 8) (by decide +kernel))) rfl
theorem ini_java_lang_Math : Cond.initialized "java/lang/Math" ∈ kTb := kTb_in (List.mem_append_right _ (List.mem_of_getElem? (i := 9) (by decide +kernel))) rfl
theorem ini_java_lang_ArithmeticException : Cond.initialized "java/lang/ArithmeticException" ∈ kTb := kTb_in (List.mem_append_right _ (List.mem_of_getElem? (i := 10) (by decide +kernel))) rfl
theorem im_X0_init : Cond.instanceMethod yX0_init ∈ kTb := kTb_in (List.mem_append_right _ (List.mem_of_getElem? (i := 14) (by decide +kernel))) rfl
set_option maxRecDepth 100000 in
theorem cd_X0_init : Cond.code yX0_init cX0_init 1 none ∈ kTb := kTb_in (List.mem_append_right _ (List.mem_of_getElem? (i := 15) rfl)) rfl
theorem im_X0_setFirst : Cond.instanceMethod yX0_setFirst ∈ kTb := kTb_in (List.mem_append_right _ (List.mem_of_getElem? (i := 21) (by decide +kernel))) rfl
set_option maxRecDepth 100000 in
theorem cd_X0_setFirst : Cond.code yX0_setFirst cX0_setFirst 1 none ∈ kTb := kTb_in (List.mem_append_right _ (List.mem_of_getElem? (i := 22) rfl)) rfl
theorem fl0_147 : Cond.fieldLink RX0 147 "KeyWalks" "FIRST_PROFILES" "[I" ∈ kTb := kTb_in (List.mem_append_right _ (List.mem_of_getElem? (i := 23) (by decide +kernel))) rfl
theorem im_X0_forget : Cond.instanceMethod yX0_forget ∈ kTb := kTb_in (List.mem_append_right _ (List.mem_of_getElem? (i := 30) (by decide +kernel))) rfl
set_option maxRecDepth 100000 in
theorem cd_X0_forget : Cond.code yX0_forget cX0_forget 1 none ∈ kTb := kTb_in (List.mem_append_right _ (List.mem_of_getElem? (i := 31) rfl)) rfl
theorem fl0_9 : Cond.fieldLink RX0 9 "KeyWalks" "profiles" "[I" ∈ kTb := kTb_in (List.mem_append_right _ (List.mem_of_getElem? (i := 32) (by decide +kernel))) rfl
theorem fl0_13 : Cond.fieldLink RX0 13 "KeyWalks" "weights" "[I" ∈ kTb := kTb_in (List.mem_append_right _ (List.mem_of_getElem? (i := 33) (by decide +kernel))) rfl
theorem fl0_52 : Cond.fieldLink RX0 52 "KeyWalks" "base" "I" ∈ kTb := kTb_in (List.mem_append_right _ (List.mem_of_getElem? (i := 34) (by decide +kernel))) rfl
theorem fl0_55 : Cond.fieldLink RX0 55 "KeyWalks" "by" "I" ∈ kTb := kTb_in (List.mem_append_right _ (List.mem_of_getElem? (i := 35) (by decide +kernel))) rfl
theorem fl0_58 : Cond.fieldLink RX0 58 "KeyWalks" "over" "I" ∈ kTb := kTb_in (List.mem_append_right _ (List.mem_of_getElem? (i := 36) (by decide +kernel))) rfl
theorem fl0_41 : Cond.fieldLink RX0 41 "KeyWalks" "slices" "I" ∈ kTb := kTb_in (List.mem_append_right _ (List.mem_of_getElem? (i := 37) (by decide +kernel))) rfl
theorem fl0_16 : Cond.fieldLink RX0 16 "KeyWalks" "turns" "[I" ∈ kTb := kTb_in (List.mem_append_right _ (List.mem_of_getElem? (i := 38) (by decide +kernel))) rfl
theorem fl0_19 : Cond.fieldLink RX0 19 "KeyWalks" "sliceCosts" "[I" ∈ kTb := kTb_in (List.mem_append_right _ (List.mem_of_getElem? (i := 39) (by decide +kernel))) rfl
theorem fl0_22 : Cond.fieldLink RX0 22 "KeyWalks" "tails" "[I" ∈ kTb := kTb_in (List.mem_append_right _ (List.mem_of_getElem? (i := 40) (by decide +kernel))) rfl
theorem fl0_25 : Cond.fieldLink RX0 25 "KeyWalks" "ways" "[J" ∈ kTb := kTb_in (List.mem_append_right _ (List.mem_of_getElem? (i := 41) (by decide +kernel))) rfl
theorem fl0_29 : Cond.fieldLink RX0 29 "KeyWalks" "heads" "[I" ∈ kTb := kTb_in (List.mem_append_right _ (List.mem_of_getElem? (i := 42) (by decide +kernel))) rfl
theorem fl0_32 : Cond.fieldLink RX0 32 "KeyWalks" "firstKeys" "[I" ∈ kTb := kTb_in (List.mem_append_right _ (List.mem_of_getElem? (i := 43) (by decide +kernel))) rfl
theorem fl0_35 : Cond.fieldLink RX0 35 "KeyWalks" "pickedKeys" "[I" ∈ kTb := kTb_in (List.mem_append_right _ (List.mem_of_getElem? (i := 44) (by decide +kernel))) rfl
theorem fl0_93 : Cond.fieldLink RX0 93 "KeyWalks" "leastCost" "I" ∈ kTb := kTb_in (List.mem_append_right _ (List.mem_of_getElem? (i := 45) (by decide +kernel))) rfl
theorem fl0_96 : Cond.fieldLink RX0 96 "KeyWalks" "bestCount" "J" ∈ kTb := kTb_in (List.mem_append_right _ (List.mem_of_getElem? (i := 46) (by decide +kernel))) rfl
theorem fl0_156 : Cond.fieldLink RX0 156 "KeyWalks" "tailsKnown" "Z" ∈ kTb := kTb_in (List.mem_append_right _ (List.mem_of_getElem? (i := 47) (by decide +kernel))) rfl
theorem fl0_160 : Cond.fieldLink RX0 160 "KeyWalks" "headsKnown" "Z" ∈ kTb := kTb_in (List.mem_append_right _ (List.mem_of_getElem? (i := 48) (by decide +kernel))) rfl
theorem im_X0_clear : Cond.instanceMethod yX0_clear ∈ kTb := kTb_in (List.mem_append_right _ (List.mem_of_getElem? (i := 87) (by decide +kernel))) rfl
set_option maxRecDepth 100000 in
theorem cd_X0_clear : Cond.code yX0_clear cX0_clear 2 (some .int) ∈ kTb := kTb_in (List.mem_append_right _ (List.mem_of_getElem? (i := 89) rfl)) rfl
theorem im_X0_least : Cond.instanceMethod yX0_least ∈ kTb := kTb_in (List.mem_append_right _ (List.mem_of_getElem? (i := 91) (by decide +kernel))) rfl
set_option maxRecDepth 100000 in
theorem cd_X0_least : Cond.code yX0_least cX0_least 1 (some .int) ∈ kTb := kTb_in (List.mem_append_right _ (List.mem_of_getElem? (i := 93) rfl)) rfl
theorem im_X0_knowTails : Cond.instanceMethod yX0_knowTails ∈ kTb := kTb_in (List.mem_append_right _ (List.mem_of_getElem? (i := 96) (by decide +kernel))) rfl
set_option maxRecDepth 100000 in
theorem cd_X0_knowTails : Cond.code yX0_knowTails cX0_knowTails 3 none ∈ kTb := kTb_in (List.mem_append_right _ (List.mem_of_getElem? (i := 97) rfl)) rfl
theorem im_X0_fillTurns : Cond.instanceMethod yX0_fillTurns ∈ kTb := kTb_in (List.mem_append_right _ (List.mem_of_getElem? (i := 100) (by decide +kernel))) rfl
set_option maxRecDepth 100000 in
theorem cd_X0_fillTurns : Cond.code yX0_fillTurns cX0_fillTurns 3 none ∈ kTb := kTb_in (List.mem_append_right _ (List.mem_of_getElem? (i := 101) rfl)) rfl
theorem im_X0_turnBetween : Cond.instanceMethod yX0_turnBetween ∈ kTb := kTb_in (List.mem_append_right _ (List.mem_of_getElem? (i := 104) (by decide +kernel))) rfl
set_option maxRecDepth 100000 in
theorem cd_X0_turnBetween : Cond.code yX0_turnBetween cX0_turnBetween 5 (some .int) ∈ kTb := kTb_in (List.mem_append_right _ (List.mem_of_getElem? (i := 105) rfl)) rfl
theorem sm_X0_placeOf : Cond.static yX0_placeOf ∈ kTb := kTb_in (List.mem_append_right _ (List.mem_of_getElem? (i := 107) (by decide +kernel))) rfl
set_option maxRecDepth 100000 in
theorem cd_X0_placeOf : Cond.code yX0_placeOf cX0_placeOf 2 (some .int) ∈ kTb := kTb_in (List.mem_append_right _ (List.mem_of_getElem? (i := 108) rfl)) rfl
theorem sm_X0_modeOf : Cond.static yX0_modeOf ∈ kTb := kTb_in (List.mem_append_right _ (List.mem_of_getElem? (i := 110) (by decide +kernel))) rfl
set_option maxRecDepth 100000 in
theorem cd_X0_modeOf : Cond.code yX0_modeOf cX0_modeOf 1 (some .int) ∈ kTb := kTb_in (List.mem_append_right _ (List.mem_of_getElem? (i := 111) rfl)) rfl
theorem sm_X0_tonicOf : Cond.static yX0_tonicOf ∈ kTb := kTb_in (List.mem_append_right _ (List.mem_of_getElem? (i := 113) (by decide +kernel))) rfl
set_option maxRecDepth 100000 in
theorem cd_X0_tonicOf : Cond.code yX0_tonicOf cX0_tonicOf 1 (some .int) ∈ kTb := kTb_in (List.mem_append_right _ (List.mem_of_getElem? (i := 114) rfl)) rfl
theorem im_X0_fillSliceCosts : Cond.instanceMethod yX0_fillSliceCosts ∈ kTb := kTb_in (List.mem_append_right _ (List.mem_of_getElem? (i := 123) (by decide +kernel))) rfl
set_option maxRecDepth 100000 in
theorem cd_X0_fillSliceCosts : Cond.code yX0_fillSliceCosts cX0_fillSliceCosts 5 none ∈ kTb := kTb_in (List.mem_append_right _ (List.mem_of_getElem? (i := 124) rfl)) rfl
theorem im_X0_fitIn : Cond.instanceMethod yX0_fitIn ∈ kTb := kTb_in (List.mem_append_right _ (List.mem_of_getElem? (i := 127) (by decide +kernel))) rfl
set_option maxRecDepth 100000 in
theorem cd_X0_fitIn : Cond.code yX0_fitIn cX0_fitIn 5 (some .int) ∈ kTb := kTb_in (List.mem_append_right _ (List.mem_of_getElem? (i := 128) rfl)) rfl
theorem im_X0_numberOf : Cond.instanceMethod yX0_numberOf ∈ kTb := kTb_in (List.mem_append_right _ (List.mem_of_getElem? (i := 131) (by decide +kernel))) rfl
set_option maxRecDepth 100000 in
theorem cd_X0_numberOf : Cond.code yX0_numberOf cX0_numberOf 4 (some .int) ∈ kTb := kTb_in (List.mem_append_right _ (List.mem_of_getElem? (i := 132) rfl)) rfl
theorem im_X0_fillTail : Cond.instanceMethod yX0_fillTail ∈ kTb := kTb_in (List.mem_append_right _ (List.mem_of_getElem? (i := 138) (by decide +kernel))) rfl
set_option maxRecDepth 100000 in
theorem cd_X0_fillTail : Cond.code yX0_fillTail cX0_fillTail 10 none ∈ kTb := kTb_in (List.mem_append_right _ (List.mem_of_getElem? (i := 139) rfl)) rfl
theorem kc0_198 : Cond.constant RX0 198 (nI 1000000000) ∈ kTb := kTb_in (List.mem_append_right _ (List.mem_of_getElem? (i := 140) (by decide +kernel))) rfl
theorem sm_X0_cappedSum : Cond.static yX0_cappedSum ∈ kTb := kTb_in (List.mem_append_right _ (List.mem_of_getElem? (i := 142) (by decide +kernel))) rfl
set_option maxRecDepth 100000 in
theorem cd_X0_cappedSum : Cond.code yX0_cappedSum cX0_cappedSum 4 (some .long) ∈ kTb := kTb_in (List.mem_append_right _ (List.mem_of_getElem? (i := 143) rfl)) rfl
theorem kc0_100 : Cond.constantLong RX0 100 (lN 1000000000000000000) ∈ kTb := kTb_in (List.mem_append_right _ (List.mem_of_getElem? (i := 144) (by decide +kernel))) rfl
theorem im_X0_fillLeast : Cond.instanceMethod yX0_fillLeast ∈ kTb := kTb_in (List.mem_append_right _ (List.mem_of_getElem? (i := 150) (by decide +kernel))) rfl
set_option maxRecDepth 100000 in
theorem cd_X0_fillLeast : Cond.code yX0_fillLeast cX0_fillLeast 2 none ∈ kTb := kTb_in (List.mem_append_right _ (List.mem_of_getElem? (i := 151) rfl)) rfl
theorem im_X0_followBest : Cond.instanceMethod yX0_followBest ∈ kTb := kTb_in (List.mem_append_right _ (List.mem_of_getElem? (i := 154) (by decide +kernel))) rfl
set_option maxRecDepth 100000 in
theorem cd_X0_followBest : Cond.code yX0_followBest cX0_followBest 13 (some .int) ∈ kTb := kTb_in (List.mem_append_right _ (List.mem_of_getElem? (i := 155) rfl)) rfl
theorem im_X0_restAfter : Cond.instanceMethod yX0_restAfter ∈ kTb := kTb_in (List.mem_append_right _ (List.mem_of_getElem? (i := 158) (by decide +kernel))) rfl
set_option maxRecDepth 100000 in
theorem cd_X0_restAfter : Cond.code yX0_restAfter cX0_restAfter 3 (some .int) ∈ kTb := kTb_in (List.mem_append_right _ (List.mem_of_getElem? (i := 159) rfl)) rfl
theorem im_X0_turnInto : Cond.instanceMethod yX0_turnInto ∈ kTb := kTb_in (List.mem_append_right _ (List.mem_of_getElem? (i := 162) (by decide +kernel))) rfl
set_option maxRecDepth 100000 in
theorem cd_X0_turnInto : Cond.code yX0_turnInto cX0_turnInto 3 (some .int) ∈ kTb := kTb_in (List.mem_append_right _ (List.mem_of_getElem? (i := 163) rfl)) rfl
theorem im_X0_count : Cond.instanceMethod yX0_count ∈ kTb := kTb_in (List.mem_append_right _ (List.mem_of_getElem? (i := 165) (by decide +kernel))) rfl
set_option maxRecDepth 100000 in
theorem cd_X0_count : Cond.code yX0_count cX0_count 1 (some .long) ∈ kTb := kTb_in (List.mem_append_right _ (List.mem_of_getElem? (i := 167) rfl)) rfl
theorem sm_L_profile : Cond.static yL_profile ∈ kTb := kTb_in (List.mem_append_right _ (List.mem_of_getElem? (i := 169) (by decide +kernel))) rfl
theorem im_X0_profile : Cond.instanceMethod yX0_profile ∈ kTb := kTb_in (List.mem_append_right _ (List.mem_of_getElem? (i := 173) (by decide +kernel))) rfl
set_option maxRecDepth 100000 in
theorem cd_X0_profile : Cond.code yX0_profile cX0_profile 6 (some .int) ∈ kTb := kTb_in (List.mem_append_right _ (List.mem_of_getElem? (i := 175) rfl)) rfl
theorem sm_X0_requireWithin : Cond.static yX0_requireWithin ∈ kTb := kTb_in (List.mem_append_right _ (List.mem_of_getElem? (i := 177) (by decide +kernel))) rfl
set_option maxRecDepth 100000 in
theorem cd_X0_requireWithin : Cond.code yX0_requireWithin cX0_requireWithin 3 none ∈ kTb := kTb_in (List.mem_append_right _ (List.mem_of_getElem? (i := 178) rfl)) rfl
theorem sm_L_costs : Cond.static yL_costs ∈ kTb := kTb_in (List.mem_append_right _ (List.mem_of_getElem? (i := 248) (by decide +kernel))) rfl
theorem im_X0_costs : Cond.instanceMethod yX0_costs ∈ kTb := kTb_in (List.mem_append_right _ (List.mem_of_getElem? (i := 251) (by decide +kernel))) rfl
set_option maxRecDepth 100000 in
theorem cd_X0_costs : Cond.code yX0_costs cX0_costs 5 (some .int) ∈ kTb := kTb_in (List.mem_append_right _ (List.mem_of_getElem? (i := 253) rfl)) rfl
theorem sm_L_slice : Cond.static yL_slice ∈ kTb := kTb_in (List.mem_append_right _ (List.mem_of_getElem? (i := 255) (by decide +kernel))) rfl
theorem im_X0_slice : Cond.instanceMethod yX0_slice ∈ kTb := kTb_in (List.mem_append_right _ (List.mem_of_getElem? (i := 259) (by decide +kernel))) rfl
set_option maxRecDepth 100000 in
theorem cd_X0_slice : Cond.code yX0_slice cX0_slice 3 (some .int) ∈ kTb := kTb_in (List.mem_append_right _ (List.mem_of_getElem? (i := 261) rfl)) rfl
theorem sm_L_note : Cond.static yL_note ∈ kTb := kTb_in (List.mem_append_right _ (List.mem_of_getElem? (i := 279) (by decide +kernel))) rfl
theorem im_X0_note : Cond.instanceMethod yX0_note ∈ kTb := kTb_in (List.mem_append_right _ (List.mem_of_getElem? (i := 282) (by decide +kernel))) rfl
set_option maxRecDepth 100000 in
theorem cd_X0_note : Cond.code yX0_note cX0_note 6 (some .int) ∈ kTb := kTb_in (List.mem_append_right _ (List.mem_of_getElem? (i := 284) rfl)) rfl
theorem im_X0_requireSlice : Cond.instanceMethod yX0_requireSlice ∈ kTb := kTb_in (List.mem_append_right _ (List.mem_of_getElem? (i := 287) (by decide +kernel))) rfl
set_option maxRecDepth 100000 in
theorem cd_X0_requireSlice : Cond.code yX0_requireSlice cX0_requireSlice 2 none ∈ kTb := kTb_in (List.mem_append_right _ (List.mem_of_getElem? (i := 288) rfl)) rfl
theorem sm_L_drop : Cond.static yL_drop ∈ kTb := kTb_in (List.mem_append_right _ (List.mem_of_getElem? (i := 291) (by decide +kernel))) rfl
theorem im_X0_drop : Cond.instanceMethod yX0_drop ∈ kTb := kTb_in (List.mem_append_right _ (List.mem_of_getElem? (i := 294) (by decide +kernel))) rfl
set_option maxRecDepth 100000 in
theorem cd_X0_drop : Cond.code yX0_drop cX0_drop 1 (some .int) ∈ kTb := kTb_in (List.mem_append_right _ (List.mem_of_getElem? (i := 296) rfl)) rfl
theorem sm_L_fit : Cond.static yL_fit ∈ kTb := kTb_in (List.mem_append_right _ (List.mem_of_getElem? (i := 299) (by decide +kernel))) rfl
theorem im_X0_fit : Cond.instanceMethod yX0_fit ∈ kTb := kTb_in (List.mem_append_right _ (List.mem_of_getElem? (i := 302) (by decide +kernel))) rfl
set_option maxRecDepth 100000 in
theorem cd_X0_fit : Cond.code yX0_fit cX0_fit 3 (some .int) ∈ kTb := kTb_in (List.mem_append_right _ (List.mem_of_getElem? (i := 304) rfl)) rfl
theorem sm_X0_requireKey : Cond.static yX0_requireKey ∈ kTb := kTb_in (List.mem_append_right _ (List.mem_of_getElem? (i := 306) (by decide +kernel))) rfl
set_option maxRecDepth 100000 in
theorem cd_X0_requireKey : Cond.code yX0_requireKey cX0_requireKey 1 none ∈ kTb := kTb_in (List.mem_append_right _ (List.mem_of_getElem? (i := 307) rfl)) rfl
theorem sm_L_cost : Cond.static yL_cost ∈ kTb := kTb_in (List.mem_append_right _ (List.mem_of_getElem? (i := 309) (by decide +kernel))) rfl
theorem im_X0_cost : Cond.instanceMethod yX0_cost ∈ kTb := kTb_in (List.mem_append_right _ (List.mem_of_getElem? (i := 312) (by decide +kernel))) rfl
set_option maxRecDepth 100000 in
theorem cd_X0_cost : Cond.code yX0_cost cX0_cost 3 (some .int) ∈ kTb := kTb_in (List.mem_append_right _ (List.mem_of_getElem? (i := 314) rfl)) rfl
theorem im_X0_greatestFit : Cond.instanceMethod yX0_greatestFit ∈ kTb := kTb_in (List.mem_append_right _ (List.mem_of_getElem? (i := 317) (by decide +kernel))) rfl
set_option maxRecDepth 100000 in
theorem cd_X0_greatestFit : Cond.code yX0_greatestFit cX0_greatestFit 4 (some .int) ∈ kTb := kTb_in (List.mem_append_right _ (List.mem_of_getElem? (i := 318) rfl)) rfl
theorem sm_L_turn : Cond.static yL_turn ∈ kTb := kTb_in (List.mem_append_right _ (List.mem_of_getElem? (i := 320) (by decide +kernel))) rfl
theorem im_X0_turn : Cond.instanceMethod yX0_turn ∈ kTb := kTb_in (List.mem_append_right _ (List.mem_of_getElem? (i := 323) (by decide +kernel))) rfl
set_option maxRecDepth 100000 in
theorem cd_X0_turn : Cond.code yX0_turn cX0_turn 3 (some .int) ∈ kTb := kTb_in (List.mem_append_right _ (List.mem_of_getElem? (i := 325) rfl)) rfl
theorem sm_L_key : Cond.static yL_key ∈ kTb := kTb_in (List.mem_append_right _ (List.mem_of_getElem? (i := 327) (by decide +kernel))) rfl
theorem im_X0_key : Cond.instanceMethod yX0_key ∈ kTb := kTb_in (List.mem_append_right _ (List.mem_of_getElem? (i := 330) (by decide +kernel))) rfl
set_option maxRecDepth 100000 in
theorem cd_X0_key : Cond.code yX0_key cX0_key 2 (some .int) ∈ kTb := kTb_in (List.mem_append_right _ (List.mem_of_getElem? (i := 332) rfl)) rfl
theorem sm_L_pick : Cond.static yL_pick ∈ kTb := kTb_in (List.mem_append_right _ (List.mem_of_getElem? (i := 334) (by decide +kernel))) rfl
theorem im_X0_pick : Cond.instanceMethod yX0_pick ∈ kTb := kTb_in (List.mem_append_right _ (List.mem_of_getElem? (i := 337) (by decide +kernel))) rfl
set_option maxRecDepth 100000 in
theorem cd_X0_pick : Cond.code yX0_pick cX0_pick 4 (some .int) ∈ kTb := kTb_in (List.mem_append_right _ (List.mem_of_getElem? (i := 339) rfl)) rfl
theorem sm_L_through : Cond.static yL_through ∈ kTb := kTb_in (List.mem_append_right _ (List.mem_of_getElem? (i := 342) (by decide +kernel))) rfl
theorem im_X0_through : Cond.instanceMethod yX0_through ∈ kTb := kTb_in (List.mem_append_right _ (List.mem_of_getElem? (i := 345) (by decide +kernel))) rfl
set_option maxRecDepth 100000 in
theorem cd_X0_through : Cond.code yX0_through cX0_through 3 (some .int) ∈ kTb := kTb_in (List.mem_append_right _ (List.mem_of_getElem? (i := 347) rfl)) rfl
theorem im_X0_knowHeads : Cond.instanceMethod yX0_knowHeads ∈ kTb := kTb_in (List.mem_append_right _ (List.mem_of_getElem? (i := 350) (by decide +kernel))) rfl
set_option maxRecDepth 100000 in
theorem cd_X0_knowHeads : Cond.code yX0_knowHeads cX0_knowHeads 4 none ∈ kTb := kTb_in (List.mem_append_right _ (List.mem_of_getElem? (i := 351) rfl)) rfl
theorem im_X0_leastInto : Cond.instanceMethod yX0_leastInto ∈ kTb := kTb_in (List.mem_append_right _ (List.mem_of_getElem? (i := 354) (by decide +kernel))) rfl
set_option maxRecDepth 100000 in
theorem cd_X0_leastInto : Cond.code yX0_leastInto cX0_leastInto 5 (some .int) ∈ kTb := kTb_in (List.mem_append_right _ (List.mem_of_getElem? (i := 355) rfl)) rfl
theorem im_X0_leastThrough : Cond.instanceMethod yX0_leastThrough ∈ kTb := kTb_in (List.mem_append_right _ (List.mem_of_getElem? (i := 358) (by decide +kernel))) rfl
set_option maxRecDepth 100000 in
theorem cd_X0_leastThrough : Cond.code yX0_leastThrough cX0_leastThrough 4 (some .int) ∈ kTb := kTb_in (List.mem_append_right _ (List.mem_of_getElem? (i := 359) rfl)) rfl
theorem sm_L_near : Cond.static yL_near ∈ kTb := kTb_in (List.mem_append_right _ (List.mem_of_getElem? (i := 361) (by decide +kernel))) rfl
theorem im_X0_near : Cond.instanceMethod yX0_near ∈ kTb := kTb_in (List.mem_append_right _ (List.mem_of_getElem? (i := 364) (by decide +kernel))) rfl
set_option maxRecDepth 100000 in
theorem cd_X0_near : Cond.code yX0_near cX0_near 5 (some .int) ∈ kTb := kTb_in (List.mem_append_right _ (List.mem_of_getElem? (i := 366) rfl)) rfl
theorem kc0_117 : Cond.constant RX0 117 (nI 100000) ∈ kTb := kTb_in (List.mem_append_right _ (List.mem_of_getElem? (i := 367) (by decide +kernel))) rfl
theorem sm_L_sure : Cond.static yL_sure ∈ kTb := kTb_in (List.mem_append_right _ (List.mem_of_getElem? (i := 369) (by decide +kernel))) rfl
theorem im_X0_sure : Cond.instanceMethod yX0_sure ∈ kTb := kTb_in (List.mem_append_right _ (List.mem_of_getElem? (i := 373) (by decide +kernel))) rfl
set_option maxRecDepth 100000 in
theorem cd_X0_sure : Cond.code yX0_sure cX0_sure 3 (some .int) ∈ kTb := kTb_in (List.mem_append_right _ (List.mem_of_getElem? (i := 375) rfl)) rfl
theorem im_X0_nextCost : Cond.instanceMethod yX0_nextCost ∈ kTb := kTb_in (List.mem_append_right _ (List.mem_of_getElem? (i := 378) (by decide +kernel))) rfl
set_option maxRecDepth 100000 in
theorem cd_X0_nextCost : Cond.code yX0_nextCost cX0_nextCost 4 (some .int) ∈ kTb := kTb_in (List.mem_append_right _ (List.mem_of_getElem? (i := 379) rfl)) rfl
theorem sm_L_change : Cond.static yL_change ∈ kTb := kTb_in (List.mem_append_right _ (List.mem_of_getElem? (i := 397) (by decide +kernel))) rfl
theorem im_X0_change : Cond.instanceMethod yX0_change ∈ kTb := kTb_in (List.mem_append_right _ (List.mem_of_getElem? (i := 400) (by decide +kernel))) rfl
set_option maxRecDepth 100000 in
theorem cd_X0_change : Cond.code yX0_change cX0_change 4 (some .int) ∈ kTb := kTb_in (List.mem_append_right _ (List.mem_of_getElem? (i := 402) rfl)) rfl
theorem im_X0_changesAt : Cond.instanceMethod yX0_changesAt ∈ kTb := kTb_in (List.mem_append_right _ (List.mem_of_getElem? (i := 406) (by decide +kernel))) rfl
set_option maxRecDepth 100000 in
theorem cd_X0_changesAt : Cond.code yX0_changesAt cX0_changesAt 2 (some .boolean) ∈ kTb := kTb_in (List.mem_append_right _ (List.mem_of_getElem? (i := 407) rfl)) rfl
theorem sm_L_pivot : Cond.static yL_pivot ∈ kTb := kTb_in (List.mem_append_right _ (List.mem_of_getElem? (i := 409) (by decide +kernel))) rfl
theorem im_X0_pivot : Cond.instanceMethod yX0_pivot ∈ kTb := kTb_in (List.mem_append_right _ (List.mem_of_getElem? (i := 412) (by decide +kernel))) rfl
set_option maxRecDepth 100000 in
theorem cd_X0_pivot : Cond.code yX0_pivot cX0_pivot 6 (some .boolean) ∈ kTb := kTb_in (List.mem_append_right _ (List.mem_of_getElem? (i := 414) rfl)) rfl
theorem sm_L_whole : Cond.static yL_whole ∈ kTb := kTb_in (List.mem_append_right _ (List.mem_of_getElem? (i := 416) (by decide +kernel))) rfl
theorem im_X0_whole : Cond.instanceMethod yX0_whole ∈ kTb := kTb_in (List.mem_append_right _ (List.mem_of_getElem? (i := 419) (by decide +kernel))) rfl
set_option maxRecDepth 100000 in
theorem cd_X0_whole : Cond.code yX0_whole cX0_whole 7 (some .int) ∈ kTb := kTb_in (List.mem_append_right _ (List.mem_of_getElem? (i := 421) rfl)) rfl
theorem im_X0_fitTogether : Cond.instanceMethod yX0_fitTogether ∈ kTb := kTb_in (List.mem_append_right _ (List.mem_of_getElem? (i := 425) (by decide +kernel))) rfl
set_option maxRecDepth 100000 in
theorem cd_X0_fitTogether : Cond.code yX0_fitTogether cX0_fitTogether 6 (some .int) ∈ kTb := kTb_in (List.mem_append_right _ (List.mem_of_getElem? (i := 426) rfl)) rfl
theorem sm_L_of : Cond.static yL_of ∈ kTb := kTb_in (List.mem_append_right _ (List.mem_of_getElem? (i := 428) (by decide +kernel))) rfl
theorem im_X0_of : Cond.instanceMethod yX0_of ∈ kTb := kTb_in (List.mem_append_right _ (List.mem_of_getElem? (i := 431) (by decide +kernel))) rfl
set_option maxRecDepth 100000 in
theorem cd_X0_of : Cond.code yX0_of cX0_of 2 (some .int) ∈ kTb := kTb_in (List.mem_append_right _ (List.mem_of_getElem? (i := 433) rfl)) rfl
theorem im_X0_changesOfFirst : Cond.instanceMethod yX0_changesOfFirst ∈ kTb := kTb_in (List.mem_append_right _ (List.mem_of_getElem? (i := 436) (by decide +kernel))) rfl
set_option maxRecDepth 100000 in
theorem cd_X0_changesOfFirst : Cond.code yX0_changesOfFirst cX0_changesOfFirst 3 (some .int) ∈ kTb := kTb_in (List.mem_append_right _ (List.mem_of_getElem? (i := 437) rfl)) rfl
theorem im_X1_init : Cond.instanceMethod yX1_init ∈ kTb := kTb_in (List.mem_append_right _ (List.mem_of_getElem? (i := 442) (by decide +kernel))) rfl
set_option maxRecDepth 100000 in
theorem cd_X1_init : Cond.code yX1_init cX1_init 1 none ∈ kTb := kTb_in (List.mem_append_right _ (List.mem_of_getElem? (i := 443) rfl)) rfl
theorem im_X1_begin : Cond.instanceMethod yX1_begin ∈ kTb := kTb_in (List.mem_append_right _ (List.mem_of_getElem? (i := 447) (by decide +kernel))) rfl
set_option maxRecDepth 100000 in
theorem cd_X1_begin : Cond.code yX1_begin cX1_begin 2 none ∈ kTb := kTb_in (List.mem_append_right _ (List.mem_of_getElem? (i := 448) rfl)) rfl
theorem fl1_35 : Cond.fieldLink RX1 35 "KeyWalksModel" "code" "I" ∈ kTb := kTb_in (List.mem_append_right _ (List.mem_of_getElem? (i := 449) (by decide +kernel))) rfl
theorem fl1_39 : Cond.fieldLink RX1 39 "KeyWalksModel" "slices" "I" ∈ kTb := kTb_in (List.mem_append_right _ (List.mem_of_getElem? (i := 450) (by decide +kernel))) rfl
theorem fl1_7 : Cond.fieldLink RX1 7 "KeyWalksModel" "weight" "[I" ∈ kTb := kTb_in (List.mem_append_right _ (List.mem_of_getElem? (i := 451) (by decide +kernel))) rfl
theorem fl1_13 : Cond.fieldLink RX1 13 "KeyWalksModel" "profile" "[I" ∈ kTb := kTb_in (List.mem_append_right _ (List.mem_of_getElem? (i := 452) (by decide +kernel))) rfl
theorem fl1_42 : Cond.fieldLink RX1 42 "KeyWalksModel" "base" "I" ∈ kTb := kTb_in (List.mem_append_right _ (List.mem_of_getElem? (i := 453) (by decide +kernel))) rfl
theorem fl1_45 : Cond.fieldLink RX1 45 "KeyWalksModel" "by" "I" ∈ kTb := kTb_in (List.mem_append_right _ (List.mem_of_getElem? (i := 454) (by decide +kernel))) rfl
theorem fl1_48 : Cond.fieldLink RX1 48 "KeyWalksModel" "over" "I" ∈ kTb := kTb_in (List.mem_append_right _ (List.mem_of_getElem? (i := 455) (by decide +kernel))) rfl
theorem fl1_16 : Cond.fieldLink RX1 16 "KeyWalksModel" "rest" "[I" ∈ kTb := kTb_in (List.mem_append_right _ (List.mem_of_getElem? (i := 456) (by decide +kernel))) rfl
theorem fl1_19 : Cond.fieldLink RX1 19 "KeyWalksModel" "ways" "[J" ∈ kTb := kTb_in (List.mem_append_right _ (List.mem_of_getElem? (i := 457) (by decide +kernel))) rfl
theorem fl1_23 : Cond.fieldLink RX1 23 "KeyWalksModel" "turns" "[I" ∈ kTb := kTb_in (List.mem_append_right _ (List.mem_of_getElem? (i := 458) (by decide +kernel))) rfl
theorem fl1_26 : Cond.fieldLink RX1 26 "KeyWalksModel" "costs" "[I" ∈ kTb := kTb_in (List.mem_append_right _ (List.mem_of_getElem? (i := 459) (by decide +kernel))) rfl
theorem fl1_29 : Cond.fieldLink RX1 29 "KeyWalksModel" "walk" "[I" ∈ kTb := kTb_in (List.mem_append_right _ (List.mem_of_getElem? (i := 460) (by decide +kernel))) rfl
theorem im_X1_thrown : Cond.instanceMethod yX1_thrown ∈ kTb := kTb_in (List.mem_append_right _ (List.mem_of_getElem? (i := 487) (by decide +kernel))) rfl
set_option maxRecDepth 100000 in
theorem cd_X1_thrown : Cond.code yX1_thrown cX1_thrown 1 (some .int) ∈ kTb := kTb_in (List.mem_append_right _ (List.mem_of_getElem? (i := 489) rfl)) rfl
theorem im_X1_clear : Cond.instanceMethod yX1_clear ∈ kTb := kTb_in (List.mem_append_right _ (List.mem_of_getElem? (i := 491) (by decide +kernel))) rfl
set_option maxRecDepth 100000 in
theorem cd_X1_clear : Cond.code yX1_clear cX1_clear 2 (some .int) ∈ kTb := kTb_in (List.mem_append_right _ (List.mem_of_getElem? (i := 493) rfl)) rfl
theorem im_X1_profile : Cond.instanceMethod yX1_profile ∈ kTb := kTb_in (List.mem_append_right _ (List.mem_of_getElem? (i := 495) (by decide +kernel))) rfl
set_option maxRecDepth 100000 in
theorem cd_X1_profile : Cond.code yX1_profile cX1_profile 5 (some .int) ∈ kTb := kTb_in (List.mem_append_right _ (List.mem_of_getElem? (i := 497) rfl)) rfl
theorem sm_X1_isIn : Cond.static yX1_isIn ∈ kTb := kTb_in (List.mem_append_right _ (List.mem_of_getElem? (i := 499) (by decide +kernel))) rfl
set_option maxRecDepth 100000 in
theorem cd_X1_isIn : Cond.code yX1_isIn cX1_isIn 6 (some .boolean) ∈ kTb := kTb_in (List.mem_append_right _ (List.mem_of_getElem? (i := 500) rfl)) rfl
theorem kc1_57 : Cond.constantLong RX1 57 (lN 11) ∈ kTb := kTb_in (List.mem_append_right _ (List.mem_of_getElem? (i := 501) (by decide +kernel))) rfl
theorem kc1_59 : Cond.constantLong RX1 59 (lN 99) ∈ kTb := kTb_in (List.mem_append_right _ (List.mem_of_getElem? (i := 502) (by decide +kernel))) rfl
theorem im_X1_isGood : Cond.instanceMethod yX1_isGood ∈ kTb := kTb_in (List.mem_append_right _ (List.mem_of_getElem? (i := 505) (by decide +kernel))) rfl
set_option maxRecDepth 100000 in
theorem cd_X1_isGood : Cond.code yX1_isGood cX1_isGood 2 (some .boolean) ∈ kTb := kTb_in (List.mem_append_right _ (List.mem_of_getElem? (i := 506) rfl)) rfl
theorem im_X1_costs : Cond.instanceMethod yX1_costs ∈ kTb := kTb_in (List.mem_append_right _ (List.mem_of_getElem? (i := 508) (by decide +kernel))) rfl
set_option maxRecDepth 100000 in
theorem cd_X1_costs : Cond.code yX1_costs cX1_costs 5 (some .int) ∈ kTb := kTb_in (List.mem_append_right _ (List.mem_of_getElem? (i := 510) rfl)) rfl
theorem kc1_65 : Cond.constantLong RX1 65 (lN 1000) ∈ kTb := kTb_in (List.mem_append_right _ (List.mem_of_getElem? (i := 511) (by decide +kernel))) rfl
theorem im_X1_slice : Cond.instanceMethod yX1_slice ∈ kTb := kTb_in (List.mem_append_right _ (List.mem_of_getElem? (i := 513) (by decide +kernel))) rfl
set_option maxRecDepth 100000 in
theorem cd_X1_slice : Cond.code yX1_slice cX1_slice 2 (some .int) ∈ kTb := kTb_in (List.mem_append_right _ (List.mem_of_getElem? (i := 515) rfl)) rfl
theorem im_X1_note : Cond.instanceMethod yX1_note ∈ kTb := kTb_in (List.mem_append_right _ (List.mem_of_getElem? (i := 517) (by decide +kernel))) rfl
set_option maxRecDepth 100000 in
theorem cd_X1_note : Cond.code yX1_note cX1_note 5 (some .int) ∈ kTb := kTb_in (List.mem_append_right _ (List.mem_of_getElem? (i := 519) rfl)) rfl
theorem im_X1_isSlice : Cond.instanceMethod yX1_isSlice ∈ kTb := kTb_in (List.mem_append_right _ (List.mem_of_getElem? (i := 522) (by decide +kernel))) rfl
set_option maxRecDepth 100000 in
theorem cd_X1_isSlice : Cond.code yX1_isSlice cX1_isSlice 2 (some .boolean) ∈ kTb := kTb_in (List.mem_append_right _ (List.mem_of_getElem? (i := 523) rfl)) rfl
theorem kc1_70 : Cond.constantLong RX1 70 (lN 200) ∈ kTb := kTb_in (List.mem_append_right _ (List.mem_of_getElem? (i := 524) (by decide +kernel))) rfl
theorem im_X1_drop : Cond.instanceMethod yX1_drop ∈ kTb := kTb_in (List.mem_append_right _ (List.mem_of_getElem? (i := 526) (by decide +kernel))) rfl
set_option maxRecDepth 100000 in
theorem cd_X1_drop : Cond.code yX1_drop cX1_drop 1 (some .int) ∈ kTb := kTb_in (List.mem_append_right _ (List.mem_of_getElem? (i := 528) rfl)) rfl
theorem im_X1_fit : Cond.instanceMethod yX1_fit ∈ kTb := kTb_in (List.mem_append_right _ (List.mem_of_getElem? (i := 530) (by decide +kernel))) rfl
set_option maxRecDepth 100000 in
theorem cd_X1_fit : Cond.code yX1_fit cX1_fit 3 (some .int) ∈ kTb := kTb_in (List.mem_append_right _ (List.mem_of_getElem? (i := 532) rfl)) rfl
theorem sm_X1_isKey : Cond.static yX1_isKey ∈ kTb := kTb_in (List.mem_append_right _ (List.mem_of_getElem? (i := 534) (by decide +kernel))) rfl
set_option maxRecDepth 100000 in
theorem cd_X1_isKey : Cond.code yX1_isKey cX1_isKey 1 (some .boolean) ∈ kTb := kTb_in (List.mem_append_right _ (List.mem_of_getElem? (i := 535) rfl)) rfl
theorem kc1_55 : Cond.constantLong RX1 55 (lN 23) ∈ kTb := kTb_in (List.mem_append_right _ (List.mem_of_getElem? (i := 536) (by decide +kernel))) rfl
theorem im_X1_fitOf : Cond.instanceMethod yX1_fitOf ∈ kTb := kTb_in (List.mem_append_right _ (List.mem_of_getElem? (i := 539) (by decide +kernel))) rfl
set_option maxRecDepth 100000 in
theorem cd_X1_fitOf : Cond.code yX1_fitOf cX1_fitOf 5 (some .int) ∈ kTb := kTb_in (List.mem_append_right _ (List.mem_of_getElem? (i := 540) rfl)) rfl
theorem im_X1_numberOf : Cond.instanceMethod yX1_numberOf ∈ kTb := kTb_in (List.mem_append_right _ (List.mem_of_getElem? (i := 543) (by decide +kernel))) rfl
set_option maxRecDepth 100000 in
theorem cd_X1_numberOf : Cond.code yX1_numberOf cX1_numberOf 3 (some .int) ∈ kTb := kTb_in (List.mem_append_right _ (List.mem_of_getElem? (i := 544) rfl)) rfl
theorem im_X1_cost : Cond.instanceMethod yX1_cost ∈ kTb := kTb_in (List.mem_append_right _ (List.mem_of_getElem? (i := 546) (by decide +kernel))) rfl
set_option maxRecDepth 100000 in
theorem cd_X1_cost : Cond.code yX1_cost cX1_cost 3 (some .int) ∈ kTb := kTb_in (List.mem_append_right _ (List.mem_of_getElem? (i := 548) rfl)) rfl
theorem im_X1_costOf : Cond.instanceMethod yX1_costOf ∈ kTb := kTb_in (List.mem_append_right _ (List.mem_of_getElem? (i := 551) (by decide +kernel))) rfl
set_option maxRecDepth 100000 in
theorem cd_X1_costOf : Cond.code yX1_costOf cX1_costOf 5 (some .int) ∈ kTb := kTb_in (List.mem_append_right _ (List.mem_of_getElem? (i := 552) rfl)) rfl
theorem im_X1_turn : Cond.instanceMethod yX1_turn ∈ kTb := kTb_in (List.mem_append_right _ (List.mem_of_getElem? (i := 554) (by decide +kernel))) rfl
set_option maxRecDepth 100000 in
theorem cd_X1_turn : Cond.code yX1_turn cX1_turn 3 (some .int) ∈ kTb := kTb_in (List.mem_append_right _ (List.mem_of_getElem? (i := 556) rfl)) rfl
theorem im_X1_turnOf : Cond.instanceMethod yX1_turnOf ∈ kTb := kTb_in (List.mem_append_right _ (List.mem_of_getElem? (i := 559) (by decide +kernel))) rfl
set_option maxRecDepth 100000 in
theorem cd_X1_turnOf : Cond.code yX1_turnOf cX1_turnOf 4 (some .int) ∈ kTb := kTb_in (List.mem_append_right _ (List.mem_of_getElem? (i := 560) rfl)) rfl
theorem sm_X1_placeOf : Cond.static yX1_placeOf ∈ kTb := kTb_in (List.mem_append_right _ (List.mem_of_getElem? (i := 562) (by decide +kernel))) rfl
set_option maxRecDepth 100000 in
theorem cd_X1_placeOf : Cond.code yX1_placeOf cX1_placeOf 1 (some .int) ∈ kTb := kTb_in (List.mem_append_right _ (List.mem_of_getElem? (i := 563) rfl)) rfl
theorem im_X1_least : Cond.instanceMethod yX1_least ∈ kTb := kTb_in (List.mem_append_right _ (List.mem_of_getElem? (i := 565) (by decide +kernel))) rfl
set_option maxRecDepth 100000 in
theorem cd_X1_least : Cond.code yX1_least cX1_least 1 (some .int) ∈ kTb := kTb_in (List.mem_append_right _ (List.mem_of_getElem? (i := 567) rfl)) rfl
theorem im_X1_lay : Cond.instanceMethod yX1_lay ∈ kTb := kTb_in (List.mem_append_right _ (List.mem_of_getElem? (i := 570) (by decide +kernel))) rfl
set_option maxRecDepth 100000 in
theorem cd_X1_lay : Cond.code yX1_lay cX1_lay 4 none ∈ kTb := kTb_in (List.mem_append_right _ (List.mem_of_getElem? (i := 571) rfl)) rfl
theorem im_X1_weigh : Cond.instanceMethod yX1_weigh ∈ kTb := kTb_in (List.mem_append_right _ (List.mem_of_getElem? (i := 574) (by decide +kernel))) rfl
set_option maxRecDepth 100000 in
theorem cd_X1_weigh : Cond.code yX1_weigh cX1_weigh 10 (some .int) ∈ kTb := kTb_in (List.mem_append_right _ (List.mem_of_getElem? (i := 575) rfl)) rfl
theorem kc1_92 : Cond.constant RX1 92 (nI 1000000000) ∈ kTb := kTb_in (List.mem_append_right _ (List.mem_of_getElem? (i := 576) (by decide +kernel))) rfl
theorem kc1_93 : Cond.constantLong RX1 93 (lN 1000000000000000000) ∈ kTb := kTb_in (List.mem_append_right _ (List.mem_of_getElem? (i := 577) (by decide +kernel))) rfl
theorem im_X1_count : Cond.instanceMethod yX1_count ∈ kTb := kTb_in (List.mem_append_right _ (List.mem_of_getElem? (i := 579) (by decide +kernel))) rfl
set_option maxRecDepth 100000 in
theorem cd_X1_count : Cond.code yX1_count cX1_count 5 (some .long) ∈ kTb := kTb_in (List.mem_append_right _ (List.mem_of_getElem? (i := 581) rfl)) rfl
theorem im_X1_key : Cond.instanceMethod yX1_key ∈ kTb := kTb_in (List.mem_append_right _ (List.mem_of_getElem? (i := 583) (by decide +kernel))) rfl
set_option maxRecDepth 100000 in
theorem cd_X1_key : Cond.code yX1_key cX1_key 2 (some .int) ∈ kTb := kTb_in (List.mem_append_right _ (List.mem_of_getElem? (i := 585) rfl)) rfl
theorem im_X1_walkBehind : Cond.instanceMethod yX1_walkBehind ∈ kTb := kTb_in (List.mem_append_right _ (List.mem_of_getElem? (i := 588) (by decide +kernel))) rfl
set_option maxRecDepth 100000 in
theorem cd_X1_walkBehind : Cond.code yX1_walkBehind cX1_walkBehind 11 (some .boolean) ∈ kTb := kTb_in (List.mem_append_right _ (List.mem_of_getElem? (i := 589) rfl)) rfl
theorem im_X1_pick : Cond.instanceMethod yX1_pick ∈ kTb := kTb_in (List.mem_append_right _ (List.mem_of_getElem? (i := 591) (by decide +kernel))) rfl
set_option maxRecDepth 100000 in
theorem cd_X1_pick : Cond.code yX1_pick cX1_pick 4 (some .int) ∈ kTb := kTb_in (List.mem_append_right _ (List.mem_of_getElem? (i := 593) rfl)) rfl
theorem kc1_105 : Cond.constantLong RX1 105 (lN 999999999999999999) ∈ kTb := kTb_in (List.mem_append_right _ (List.mem_of_getElem? (i := 594) (by decide +kernel))) rfl
theorem im_X1_through : Cond.instanceMethod yX1_through ∈ kTb := kTb_in (List.mem_append_right _ (List.mem_of_getElem? (i := 596) (by decide +kernel))) rfl
set_option maxRecDepth 100000 in
theorem cd_X1_through : Cond.code yX1_through cX1_through 3 (some .int) ∈ kTb := kTb_in (List.mem_append_right _ (List.mem_of_getElem? (i := 598) rfl)) rfl
theorem im_X1_near : Cond.instanceMethod yX1_near ∈ kTb := kTb_in (List.mem_append_right _ (List.mem_of_getElem? (i := 600) (by decide +kernel))) rfl
set_option maxRecDepth 100000 in
theorem cd_X1_near : Cond.code yX1_near cX1_near 6 (some .int) ∈ kTb := kTb_in (List.mem_append_right _ (List.mem_of_getElem? (i := 602) rfl)) rfl
theorem kc1_107 : Cond.constantLong RX1 107 (lN 100000) ∈ kTb := kTb_in (List.mem_append_right _ (List.mem_of_getElem? (i := 603) (by decide +kernel))) rfl
theorem im_X1_sure : Cond.instanceMethod yX1_sure ∈ kTb := kTb_in (List.mem_append_right _ (List.mem_of_getElem? (i := 605) (by decide +kernel))) rfl
set_option maxRecDepth 100000 in
theorem cd_X1_sure : Cond.code yX1_sure cX1_sure 4 (some .int) ∈ kTb := kTb_in (List.mem_append_right _ (List.mem_of_getElem? (i := 607) rfl)) rfl
theorem kc1_109 : Cond.constantLong RX1 109 (lN 100) ∈ kTb := kTb_in (List.mem_append_right _ (List.mem_of_getElem? (i := 608) (by decide +kernel))) rfl
theorem im_X1_change : Cond.instanceMethod yX1_change ∈ kTb := kTb_in (List.mem_append_right _ (List.mem_of_getElem? (i := 610) (by decide +kernel))) rfl
set_option maxRecDepth 100000 in
theorem cd_X1_change : Cond.code yX1_change cX1_change 2 (some .int) ∈ kTb := kTb_in (List.mem_append_right _ (List.mem_of_getElem? (i := 612) rfl)) rfl
theorem im_X1_changeAt : Cond.instanceMethod yX1_changeAt ∈ kTb := kTb_in (List.mem_append_right _ (List.mem_of_getElem? (i := 615) (by decide +kernel))) rfl
set_option maxRecDepth 100000 in
theorem cd_X1_changeAt : Cond.code yX1_changeAt cX1_changeAt 4 (some .int) ∈ kTb := kTb_in (List.mem_append_right _ (List.mem_of_getElem? (i := 616) rfl)) rfl
theorem im_X1_pivot : Cond.instanceMethod yX1_pivot ∈ kTb := kTb_in (List.mem_append_right _ (List.mem_of_getElem? (i := 618) (by decide +kernel))) rfl
set_option maxRecDepth 100000 in
theorem cd_X1_pivot : Cond.code yX1_pivot cX1_pivot 6 (some .boolean) ∈ kTb := kTb_in (List.mem_append_right _ (List.mem_of_getElem? (i := 620) rfl)) rfl
theorem im_X1_whole : Cond.instanceMethod yX1_whole ∈ kTb := kTb_in (List.mem_append_right _ (List.mem_of_getElem? (i := 622) (by decide +kernel))) rfl
set_option maxRecDepth 100000 in
theorem cd_X1_whole : Cond.code yX1_whole cX1_whole 8 (some .int) ∈ kTb := kTb_in (List.mem_append_right _ (List.mem_of_getElem? (i := 624) rfl)) rfl
theorem im_X1_of : Cond.instanceMethod yX1_of ∈ kTb := kTb_in (List.mem_append_right _ (List.mem_of_getElem? (i := 626) (by decide +kernel))) rfl
set_option maxRecDepth 100000 in
theorem cd_X1_of : Cond.code yX1_of cX1_of 4 (some .int) ∈ kTb := kTb_in (List.mem_append_right _ (List.mem_of_getElem? (i := 628) rfl)) rfl
theorem kc1_114 : Cond.constantLong RX1 114 (lN 4) ∈ kTb := kTb_in (List.mem_append_right _ (List.mem_of_getElem? (i := 629) (by decide +kernel))) rfl
theorem kcL_125 : Cond.constantLong RL 125 (lN 4294967295) ∈ kTb := kTb_in (List.mem_append_right _ (List.mem_of_getElem? (i := 630) (by decide +kernel))) rfl
theorem mL_72 : Cond.methodLink RL 72 yX0_init ∈ kTb := kTb_in (List.mem_append_right _ (List.mem_of_getElem? (i := 13) (by decide +kernel))) rfl
theorem m0_1 : Cond.methodLink RX0 1 ⟨"java/lang/Object", "<init>", "()V"⟩ ∈ kTb := kTb_in (List.mem_append_right _ (List.mem_of_getElem? (i := 16) (by decide +kernel))) rfl
theorem m0_38 : Cond.methodLink RX0 38 yX0_setFirst ∈ kTb := kTb_in (List.mem_append_right _ (List.mem_of_getElem? (i := 19) (by decide +kernel))) rfl
theorem g0_38 : GoodIn kTb (wsV RX0 38 RX0 yX0_setFirst (Cond.code yX0_setFirst cX0_setFirst 1 none :: kTb)) := kgV m0_38 im_X0_setFirst (kTb_in (by decide +kernel) rfl) ini_KeyWalks cd_X0_setFirst
theorem m0_150 : Cond.methodLink RX0 150 arraycopyName ∈ kTb := kTb_in (List.mem_append_right _ (List.mem_of_getElem? (i := 25) (by decide +kernel))) rfl
theorem m0_49 : Cond.methodLink RX0 49 yX0_forget ∈ kTb := kTb_in (List.mem_append_right _ (List.mem_of_getElem? (i := 28) (by decide +kernel))) rfl
theorem g0_49 : GoodIn kTb (wsV RX0 49 RX0 yX0_forget (Cond.code yX0_forget cX0_forget 1 none :: kTb)) := kgV m0_49 im_X0_forget (kTb_in (by decide +kernel) rfl) ini_KeyWalks cd_X0_forget
theorem mL_76 : Cond.methodLink RL 76 yX0_clear ∈ kTb := kTb_in (List.mem_append_right _ (List.mem_of_getElem? (i := 86) (by decide +kernel))) rfl
theorem gL_76 : GoodIn kTb (wsV RL 76 RX0 yX0_clear (Cond.code yX0_clear cX0_clear 2 (some .int) :: kTb)) := kgV mL_76 im_X0_clear (kTb_in (by decide +kernel) rfl) ini_KeyWalks cd_X0_clear
theorem mL_112 : Cond.methodLink RL 112 yX0_least ∈ kTb := kTb_in (List.mem_append_right _ (List.mem_of_getElem? (i := 90) (by decide +kernel))) rfl
theorem gL_112 : GoodIn kTb (wsV RL 112 RX0 yX0_least (Cond.code yX0_least cX0_least 1 (some .int) :: kTb)) := kgV mL_112 im_X0_least (kTb_in (by decide +kernel) rfl) ini_KeyWalks cd_X0_least
theorem m0_90 : Cond.methodLink RX0 90 yX0_knowTails ∈ kTb := kTb_in (List.mem_append_right _ (List.mem_of_getElem? (i := 94) (by decide +kernel))) rfl
theorem g0_90 : GoodIn kTb (wsV RX0 90 RX0 yX0_knowTails (Cond.code yX0_knowTails cX0_knowTails 3 none :: kTb)) := kgV m0_90 im_X0_knowTails (kTb_in (by decide +kernel) rfl) ini_KeyWalks cd_X0_knowTails
theorem m0_185 : Cond.methodLink RX0 185 yX0_fillTurns ∈ kTb := kTb_in (List.mem_append_right _ (List.mem_of_getElem? (i := 98) (by decide +kernel))) rfl
theorem g0_185 : GoodIn kTb (wsV RX0 185 RX0 yX0_fillTurns (Cond.code yX0_fillTurns cX0_fillTurns 3 none :: kTb)) := kgV m0_185 im_X0_fillTurns (kTb_in (by decide +kernel) rfl) ini_KeyWalks cd_X0_fillTurns
theorem m0_87 : Cond.methodLink RX0 87 yX0_turnBetween ∈ kTb := kTb_in (List.mem_append_right _ (List.mem_of_getElem? (i := 102) (by decide +kernel))) rfl
theorem g0_87 : GoodIn kTb (wsV RX0 87 RX0 yX0_turnBetween (Cond.code yX0_turnBetween cX0_turnBetween 5 (some .int) :: kTb)) := kgV m0_87 im_X0_turnBetween (kTb_in (by decide +kernel) rfl) ini_KeyWalks cd_X0_turnBetween
theorem m0_176 : Cond.methodLink RX0 176 yX0_placeOf ∈ kTb := kTb_in (List.mem_append_right _ (List.mem_of_getElem? (i := 106) (by decide +kernel))) rfl
theorem g0_176 : GoodIn kTb (va_wsS RX0 176 yX0_placeOf (Cond.code yX0_placeOf cX0_placeOf 2 (some .int) :: kTb)) := kgS m0_176 sm_X0_placeOf ini_KeyWalks cd_X0_placeOf
theorem m0_165 : Cond.methodLink RX0 165 yX0_modeOf ∈ kTb := kTb_in (List.mem_append_right _ (List.mem_of_getElem? (i := 109) (by decide +kernel))) rfl
theorem g0_165 : GoodIn kTb (va_wsS RX0 165 yX0_modeOf (Cond.code yX0_modeOf cX0_modeOf 1 (some .int) :: kTb)) := kgS m0_165 sm_X0_modeOf ini_KeyWalks cd_X0_modeOf
theorem m0_168 : Cond.methodLink RX0 168 yX0_tonicOf ∈ kTb := kTb_in (List.mem_append_right _ (List.mem_of_getElem? (i := 112) (by decide +kernel))) rfl
theorem g0_168 : GoodIn kTb (va_wsS RX0 168 yX0_tonicOf (Cond.code yX0_tonicOf cX0_tonicOf 1 (some .int) :: kTb)) := kgS m0_168 sm_X0_tonicOf ini_KeyWalks cd_X0_tonicOf
theorem m0_179 : Cond.methodLink RX0 179 Lib.Math.abs.name ∈ kTb := kTb_in (List.mem_append_right _ (List.mem_of_getElem? (i := 115) (by decide +kernel))) rfl
theorem m0_182 : Cond.methodLink RX0 182 Lib.Math.min.name ∈ kTb := kTb_in (List.mem_append_right _ (List.mem_of_getElem? (i := 118) (by decide +kernel))) rfl
theorem m0_188 : Cond.methodLink RX0 188 yX0_fillSliceCosts ∈ kTb := kTb_in (List.mem_append_right _ (List.mem_of_getElem? (i := 121) (by decide +kernel))) rfl
theorem g0_188 : GoodIn kTb (wsV RX0 188 RX0 yX0_fillSliceCosts (Cond.code yX0_fillSliceCosts cX0_fillSliceCosts 5 none :: kTb)) := kgV m0_188 im_X0_fillSliceCosts (kTb_in (by decide +kernel) rfl) ini_KeyWalks cd_X0_fillSliceCosts
theorem m0_79 : Cond.methodLink RX0 79 yX0_fitIn ∈ kTb := kTb_in (List.mem_append_right _ (List.mem_of_getElem? (i := 125) (by decide +kernel))) rfl
theorem g0_79 : GoodIn kTb (wsV RX0 79 RX0 yX0_fitIn (Cond.code yX0_fitIn cX0_fitIn 5 (some .int) :: kTb)) := kgV m0_79 im_X0_fitIn (kTb_in (by decide +kernel) rfl) ini_KeyWalks cd_X0_fitIn
theorem m0_132 : Cond.methodLink RX0 132 yX0_numberOf ∈ kTb := kTb_in (List.mem_append_right _ (List.mem_of_getElem? (i := 129) (by decide +kernel))) rfl
theorem g0_132 : GoodIn kTb (wsV RX0 132 RX0 yX0_numberOf (Cond.code yX0_numberOf cX0_numberOf 4 (some .int) :: kTb)) := kgV m0_132 im_X0_numberOf (kTb_in (by decide +kernel) rfl) ini_KeyWalks cd_X0_numberOf
theorem m0_171 : Cond.methodLink RX0 171 Lib.Math.max.name ∈ kTb := kTb_in (List.mem_append_right _ (List.mem_of_getElem? (i := 133) (by decide +kernel))) rfl
theorem m0_191 : Cond.methodLink RX0 191 yX0_fillTail ∈ kTb := kTb_in (List.mem_append_right _ (List.mem_of_getElem? (i := 136) (by decide +kernel))) rfl
theorem g0_191 : GoodIn kTb (wsV RX0 191 RX0 yX0_fillTail (Cond.code yX0_fillTail cX0_fillTail 10 none :: kTb)) := kgV m0_191 im_X0_fillTail (kTb_in (by decide +kernel) rfl) ini_KeyWalks cd_X0_fillTail
theorem m0_199 : Cond.methodLink RX0 199 yX0_cappedSum ∈ kTb := kTb_in (List.mem_append_right _ (List.mem_of_getElem? (i := 141) (by decide +kernel))) rfl
theorem g0_199 : GoodIn kTb (va_wsS RX0 199 yX0_cappedSum (Cond.code yX0_cappedSum cX0_cappedSum 4 (some .long) :: kTb)) := kgS m0_199 sm_X0_cappedSum ini_KeyWalks cd_X0_cappedSum
theorem m0_203 : Cond.methodLink RX0 203 Lib.MathLoose.min_long.x ∈ kTb := kTb_in (List.mem_append_right _ (List.mem_of_getElem? (i := 145) (by decide +kernel))) rfl
theorem m0_195 : Cond.methodLink RX0 195 yX0_fillLeast ∈ kTb := kTb_in (List.mem_append_right _ (List.mem_of_getElem? (i := 148) (by decide +kernel))) rfl
theorem g0_195 : GoodIn kTb (wsV RX0 195 RX0 yX0_fillLeast (Cond.code yX0_fillLeast cX0_fillLeast 2 none :: kTb)) := kgV m0_195 im_X0_fillLeast (kTb_in (by decide +kernel) rfl) ini_KeyWalks cd_X0_fillLeast
theorem m0_107 : Cond.methodLink RX0 107 yX0_followBest ∈ kTb := kTb_in (List.mem_append_right _ (List.mem_of_getElem? (i := 152) (by decide +kernel))) rfl
theorem g0_107 : GoodIn kTb (wsV RX0 107 RX0 yX0_followBest (Cond.code yX0_followBest cX0_followBest 13 (some .int) :: kTb)) := kgV m0_107 im_X0_followBest (kTb_in (by decide +kernel) rfl) ini_KeyWalks cd_X0_followBest
theorem m0_205 : Cond.methodLink RX0 205 yX0_restAfter ∈ kTb := kTb_in (List.mem_append_right _ (List.mem_of_getElem? (i := 156) (by decide +kernel))) rfl
theorem g0_205 : GoodIn kTb (wsV RX0 205 RX0 yX0_restAfter (Cond.code yX0_restAfter cX0_restAfter 3 (some .int) :: kTb)) := kgV m0_205 im_X0_restAfter (kTb_in (by decide +kernel) rfl) ini_KeyWalks cd_X0_restAfter
theorem m0_208 : Cond.methodLink RX0 208 yX0_turnInto ∈ kTb := kTb_in (List.mem_append_right _ (List.mem_of_getElem? (i := 160) (by decide +kernel))) rfl
theorem g0_208 : GoodIn kTb (wsV RX0 208 RX0 yX0_turnInto (Cond.code yX0_turnInto cX0_turnInto 3 (some .int) :: kTb)) := kgV m0_208 im_X0_turnInto (kTb_in (by decide +kernel) rfl) ini_KeyWalks cd_X0_turnInto
theorem mL_120 : Cond.methodLink RL 120 yX0_count ∈ kTb := kTb_in (List.mem_append_right _ (List.mem_of_getElem? (i := 164) (by decide +kernel))) rfl
theorem gL_120 : GoodIn kTb (wsV RL 120 RX0 yX0_count (Cond.code yX0_count cX0_count 1 (some .long) :: kTb)) := kgV mL_120 im_X0_count (kTb_in (by decide +kernel) rfl) ini_KeyWalks cd_X0_count
theorem mL_80 : Cond.methodLink RL 80 yL_profile ∈ kTb := kTb_in (List.mem_append_right _ (List.mem_of_getElem? (i := 168) (by decide +kernel))) rfl
theorem mL_7 : Cond.methodLink RL 7 yX0_profile ∈ kTb := kTb_in (List.mem_append_right _ (List.mem_of_getElem? (i := 172) (by decide +kernel))) rfl
theorem gL_7 : GoodIn kTb (wsV RL 7 RX0 yX0_profile (Cond.code yX0_profile cX0_profile 6 (some .int) :: kTb)) := kgV mL_7 im_X0_profile (kTb_in (by decide +kernel) rfl) ini_KeyWalks cd_X0_profile
theorem m0_45 : Cond.methodLink RX0 45 yX0_requireWithin ∈ kTb := kTb_in (List.mem_append_right _ (List.mem_of_getElem? (i := 176) (by decide +kernel))) rfl
theorem g0_45 : GoodIn kTb (va_wsS RX0 45 yX0_requireWithin (Cond.code yX0_requireWithin cX0_requireWithin 3 none :: kTb)) := kgS m0_45 sm_X0_requireWithin ini_KeyWalks cd_X0_requireWithin
theorem m0_106 : Cond.methodLink RX0 106 ⟨"java/lang/IllegalArgumentException", "<init>", "(Ljava/lang/String;)V"⟩ ∈ kTb := kTb_in (List.mem_append_right _ (List.mem_of_getElem? (i := 221) (by decide +kernel))) rfl
theorem mL_89 : Cond.methodLink RL 89 yL_costs ∈ kTb := kTb_in (List.mem_append_right _ (List.mem_of_getElem? (i := 247) (by decide +kernel))) rfl
theorem mL_15 : Cond.methodLink RL 15 yX0_costs ∈ kTb := kTb_in (List.mem_append_right _ (List.mem_of_getElem? (i := 250) (by decide +kernel))) rfl
theorem gL_15 : GoodIn kTb (wsV RL 15 RX0 yX0_costs (Cond.code yX0_costs cX0_costs 5 (some .int) :: kTb)) := kgV mL_15 im_X0_costs (kTb_in (by decide +kernel) rfl) ini_KeyWalks cd_X0_costs
theorem mL_92 : Cond.methodLink RL 92 yL_slice ∈ kTb := kTb_in (List.mem_append_right _ (List.mem_of_getElem? (i := 254) (by decide +kernel))) rfl
theorem mL_18 : Cond.methodLink RL 18 yX0_slice ∈ kTb := kTb_in (List.mem_append_right _ (List.mem_of_getElem? (i := 258) (by decide +kernel))) rfl
theorem gL_18 : GoodIn kTb (wsV RL 18 RX0 yX0_slice (Cond.code yX0_slice cX0_slice 3 (some .int) :: kTb)) := kgV mL_18 im_X0_slice (kTb_in (by decide +kernel) rfl) ini_KeyWalks cd_X0_slice
theorem m0_65 : Cond.methodLink RX0 65 ⟨"java/lang/IllegalStateException", "<init>", "(Ljava/lang/String;)V"⟩ ∈ kTb := kTb_in (List.mem_append_right _ (List.mem_of_getElem? (i := 272) (by decide +kernel))) rfl
theorem mL_96 : Cond.methodLink RL 96 yL_note ∈ kTb := kTb_in (List.mem_append_right _ (List.mem_of_getElem? (i := 278) (by decide +kernel))) rfl
theorem mL_24 : Cond.methodLink RL 24 yX0_note ∈ kTb := kTb_in (List.mem_append_right _ (List.mem_of_getElem? (i := 281) (by decide +kernel))) rfl
theorem gL_24 : GoodIn kTb (wsV RL 24 RX0 yX0_note (Cond.code yX0_note cX0_note 6 (some .int) :: kTb)) := kgV mL_24 im_X0_note (kTb_in (by decide +kernel) rfl) ini_KeyWalks cd_X0_note
theorem m0_68 : Cond.methodLink RX0 68 yX0_requireSlice ∈ kTb := kTb_in (List.mem_append_right _ (List.mem_of_getElem? (i := 285) (by decide +kernel))) rfl
theorem g0_68 : GoodIn kTb (wsV RX0 68 RX0 yX0_requireSlice (Cond.code yX0_requireSlice cX0_requireSlice 2 none :: kTb)) := kgV m0_68 im_X0_requireSlice (kTb_in (by decide +kernel) rfl) ini_KeyWalks cd_X0_requireSlice
theorem mL_99 : Cond.methodLink RL 99 yL_drop ∈ kTb := kTb_in (List.mem_append_right _ (List.mem_of_getElem? (i := 290) (by decide +kernel))) rfl
theorem mL_27 : Cond.methodLink RL 27 yX0_drop ∈ kTb := kTb_in (List.mem_append_right _ (List.mem_of_getElem? (i := 293) (by decide +kernel))) rfl
theorem gL_27 : GoodIn kTb (wsV RL 27 RX0 yX0_drop (Cond.code yX0_drop cX0_drop 1 (some .int) :: kTb)) := kgV mL_27 im_X0_drop (kTb_in (by decide +kernel) rfl) ini_KeyWalks cd_X0_drop
theorem mL_102 : Cond.methodLink RL 102 yL_fit ∈ kTb := kTb_in (List.mem_append_right _ (List.mem_of_getElem? (i := 298) (by decide +kernel))) rfl
theorem mL_30 : Cond.methodLink RL 30 yX0_fit ∈ kTb := kTb_in (List.mem_append_right _ (List.mem_of_getElem? (i := 301) (by decide +kernel))) rfl
theorem gL_30 : GoodIn kTb (wsV RL 30 RX0 yX0_fit (Cond.code yX0_fit cX0_fit 3 (some .int) :: kTb)) := kgV mL_30 im_X0_fit (kTb_in (by decide +kernel) rfl) ini_KeyWalks cd_X0_fit
theorem m0_76 : Cond.methodLink RX0 76 yX0_requireKey ∈ kTb := kTb_in (List.mem_append_right _ (List.mem_of_getElem? (i := 305) (by decide +kernel))) rfl
theorem g0_76 : GoodIn kTb (va_wsS RX0 76 yX0_requireKey (Cond.code yX0_requireKey cX0_requireKey 1 none :: kTb)) := kgS m0_76 sm_X0_requireKey ini_KeyWalks cd_X0_requireKey
theorem mL_106 : Cond.methodLink RL 106 yL_cost ∈ kTb := kTb_in (List.mem_append_right _ (List.mem_of_getElem? (i := 308) (by decide +kernel))) rfl
theorem mL_34 : Cond.methodLink RL 34 yX0_cost ∈ kTb := kTb_in (List.mem_append_right _ (List.mem_of_getElem? (i := 311) (by decide +kernel))) rfl
theorem gL_34 : GoodIn kTb (wsV RL 34 RX0 yX0_cost (Cond.code yX0_cost cX0_cost 3 (some .int) :: kTb)) := kgV mL_34 im_X0_cost (kTb_in (by decide +kernel) rfl) ini_KeyWalks cd_X0_cost
theorem m0_83 : Cond.methodLink RX0 83 yX0_greatestFit ∈ kTb := kTb_in (List.mem_append_right _ (List.mem_of_getElem? (i := 315) (by decide +kernel))) rfl
theorem g0_83 : GoodIn kTb (wsV RX0 83 RX0 yX0_greatestFit (Cond.code yX0_greatestFit cX0_greatestFit 4 (some .int) :: kTb)) := kgV m0_83 im_X0_greatestFit (kTb_in (by decide +kernel) rfl) ini_KeyWalks cd_X0_greatestFit
theorem mL_109 : Cond.methodLink RL 109 yL_turn ∈ kTb := kTb_in (List.mem_append_right _ (List.mem_of_getElem? (i := 319) (by decide +kernel))) rfl
theorem mL_37 : Cond.methodLink RL 37 yX0_turn ∈ kTb := kTb_in (List.mem_append_right _ (List.mem_of_getElem? (i := 322) (by decide +kernel))) rfl
theorem gL_37 : GoodIn kTb (wsV RL 37 RX0 yX0_turn (Cond.code yX0_turn cX0_turn 3 (some .int) :: kTb)) := kgV mL_37 im_X0_turn (kTb_in (by decide +kernel) rfl) ini_KeyWalks cd_X0_turn
theorem mL_116 : Cond.methodLink RL 116 yL_key ∈ kTb := kTb_in (List.mem_append_right _ (List.mem_of_getElem? (i := 326) (by decide +kernel))) rfl
theorem mL_40 : Cond.methodLink RL 40 yX0_key ∈ kTb := kTb_in (List.mem_append_right _ (List.mem_of_getElem? (i := 329) (by decide +kernel))) rfl
theorem gL_40 : GoodIn kTb (wsV RL 40 RX0 yX0_key (Cond.code yX0_key cX0_key 2 (some .int) :: kTb)) := kgV mL_40 im_X0_key (kTb_in (by decide +kernel) rfl) ini_KeyWalks cd_X0_key
theorem mL_127 : Cond.methodLink RL 127 yL_pick ∈ kTb := kTb_in (List.mem_append_right _ (List.mem_of_getElem? (i := 333) (by decide +kernel))) rfl
theorem mL_44 : Cond.methodLink RL 44 yX0_pick ∈ kTb := kTb_in (List.mem_append_right _ (List.mem_of_getElem? (i := 336) (by decide +kernel))) rfl
theorem gL_44 : GoodIn kTb (wsV RL 44 RX0 yX0_pick (Cond.code yX0_pick cX0_pick 4 (some .int) :: kTb)) := kgV mL_44 im_X0_pick (kTb_in (by decide +kernel) rfl) ini_KeyWalks cd_X0_pick
theorem mL_131 : Cond.methodLink RL 131 yL_through ∈ kTb := kTb_in (List.mem_append_right _ (List.mem_of_getElem? (i := 341) (by decide +kernel))) rfl
theorem mL_48 : Cond.methodLink RL 48 yX0_through ∈ kTb := kTb_in (List.mem_append_right _ (List.mem_of_getElem? (i := 344) (by decide +kernel))) rfl
theorem gL_48 : GoodIn kTb (wsV RL 48 RX0 yX0_through (Cond.code yX0_through cX0_through 3 (some .int) :: kTb)) := kgV mL_48 im_X0_through (kTb_in (by decide +kernel) rfl) ini_KeyWalks cd_X0_through
theorem m0_111 : Cond.methodLink RX0 111 yX0_knowHeads ∈ kTb := kTb_in (List.mem_append_right _ (List.mem_of_getElem? (i := 348) (by decide +kernel))) rfl
theorem g0_111 : GoodIn kTb (wsV RX0 111 RX0 yX0_knowHeads (Cond.code yX0_knowHeads cX0_knowHeads 4 none :: kTb)) := kgV m0_111 im_X0_knowHeads (kTb_in (by decide +kernel) rfl) ini_KeyWalks cd_X0_knowHeads
theorem m0_211 : Cond.methodLink RX0 211 yX0_leastInto ∈ kTb := kTb_in (List.mem_append_right _ (List.mem_of_getElem? (i := 352) (by decide +kernel))) rfl
theorem g0_211 : GoodIn kTb (wsV RX0 211 RX0 yX0_leastInto (Cond.code yX0_leastInto cX0_leastInto 5 (some .int) :: kTb)) := kgV m0_211 im_X0_leastInto (kTb_in (by decide +kernel) rfl) ini_KeyWalks cd_X0_leastInto
theorem m0_114 : Cond.methodLink RX0 114 yX0_leastThrough ∈ kTb := kTb_in (List.mem_append_right _ (List.mem_of_getElem? (i := 356) (by decide +kernel))) rfl
theorem g0_114 : GoodIn kTb (wsV RX0 114 RX0 yX0_leastThrough (Cond.code yX0_leastThrough cX0_leastThrough 4 (some .int) :: kTb)) := kgV m0_114 im_X0_leastThrough (kTb_in (by decide +kernel) rfl) ini_KeyWalks cd_X0_leastThrough
theorem mL_134 : Cond.methodLink RL 134 yL_near ∈ kTb := kTb_in (List.mem_append_right _ (List.mem_of_getElem? (i := 360) (by decide +kernel))) rfl
theorem mL_51 : Cond.methodLink RL 51 yX0_near ∈ kTb := kTb_in (List.mem_append_right _ (List.mem_of_getElem? (i := 363) (by decide +kernel))) rfl
theorem gL_51 : GoodIn kTb (wsV RL 51 RX0 yX0_near (Cond.code yX0_near cX0_near 5 (some .int) :: kTb)) := kgV mL_51 im_X0_near (kTb_in (by decide +kernel) rfl) ini_KeyWalks cd_X0_near
theorem mL_137 : Cond.methodLink RL 137 yL_sure ∈ kTb := kTb_in (List.mem_append_right _ (List.mem_of_getElem? (i := 368) (by decide +kernel))) rfl
theorem mL_54 : Cond.methodLink RL 54 yX0_sure ∈ kTb := kTb_in (List.mem_append_right _ (List.mem_of_getElem? (i := 372) (by decide +kernel))) rfl
theorem gL_54 : GoodIn kTb (wsV RL 54 RX0 yX0_sure (Cond.code yX0_sure cX0_sure 3 (some .int) :: kTb)) := kgV mL_54 im_X0_sure (kTb_in (by decide +kernel) rfl) ini_KeyWalks cd_X0_sure
theorem m0_118 : Cond.methodLink RX0 118 yX0_nextCost ∈ kTb := kTb_in (List.mem_append_right _ (List.mem_of_getElem? (i := 376) (by decide +kernel))) rfl
theorem g0_118 : GoodIn kTb (wsV RX0 118 RX0 yX0_nextCost (Cond.code yX0_nextCost cX0_nextCost 4 (some .int) :: kTb)) := kgV m0_118 im_X0_nextCost (kTb_in (by decide +kernel) rfl) ini_KeyWalks cd_X0_nextCost
theorem m0_125 : Cond.methodLink RX0 125 ⟨"java/lang/ArithmeticException", "<init>", "(Ljava/lang/String;)V"⟩ ∈ kTb := kTb_in (List.mem_append_right _ (List.mem_of_getElem? (i := 390) (by decide +kernel))) rfl
theorem mL_140 : Cond.methodLink RL 140 yL_change ∈ kTb := kTb_in (List.mem_append_right _ (List.mem_of_getElem? (i := 396) (by decide +kernel))) rfl
theorem mL_59 : Cond.methodLink RL 59 yX0_change ∈ kTb := kTb_in (List.mem_append_right _ (List.mem_of_getElem? (i := 399) (by decide +kernel))) rfl
theorem gL_59 : GoodIn kTb (wsV RL 59 RX0 yX0_change (Cond.code yX0_change cX0_change 4 (some .int) :: kTb)) := kgV mL_59 im_X0_change (kTb_in (by decide +kernel) rfl) ini_KeyWalks cd_X0_change
theorem m0_128 : Cond.methodLink RX0 128 yX0_changesAt ∈ kTb := kTb_in (List.mem_append_right _ (List.mem_of_getElem? (i := 404) (by decide +kernel))) rfl
theorem g0_128 : GoodIn kTb (wsV RX0 128 RX0 yX0_changesAt (Cond.code yX0_changesAt cX0_changesAt 2 (some .boolean) :: kTb)) := kgV m0_128 im_X0_changesAt (kTb_in (by decide +kernel) rfl) ini_KeyWalks cd_X0_changesAt
theorem mL_143 : Cond.methodLink RL 143 yL_pivot ∈ kTb := kTb_in (List.mem_append_right _ (List.mem_of_getElem? (i := 408) (by decide +kernel))) rfl
theorem mL_62 : Cond.methodLink RL 62 yX0_pivot ∈ kTb := kTb_in (List.mem_append_right _ (List.mem_of_getElem? (i := 411) (by decide +kernel))) rfl
theorem gL_62 : GoodIn kTb (wsV RL 62 RX0 yX0_pivot (Cond.code yX0_pivot cX0_pivot 6 (some .boolean) :: kTb)) := kgV mL_62 im_X0_pivot (kTb_in (by decide +kernel) rfl) ini_KeyWalks cd_X0_pivot
theorem mL_146 : Cond.methodLink RL 146 yL_whole ∈ kTb := kTb_in (List.mem_append_right _ (List.mem_of_getElem? (i := 415) (by decide +kernel))) rfl
theorem mL_66 : Cond.methodLink RL 66 yX0_whole ∈ kTb := kTb_in (List.mem_append_right _ (List.mem_of_getElem? (i := 418) (by decide +kernel))) rfl
theorem gL_66 : GoodIn kTb (wsV RL 66 RX0 yX0_whole (Cond.code yX0_whole cX0_whole 7 (some .int) :: kTb)) := kgV mL_66 im_X0_whole (kTb_in (by decide +kernel) rfl) ini_KeyWalks cd_X0_whole
theorem m0_137 : Cond.methodLink RX0 137 yX0_fitTogether ∈ kTb := kTb_in (List.mem_append_right _ (List.mem_of_getElem? (i := 423) (by decide +kernel))) rfl
theorem g0_137 : GoodIn kTb (wsV RX0 137 RX0 yX0_fitTogether (Cond.code yX0_fitTogether cX0_fitTogether 6 (some .int) :: kTb)) := kgV m0_137 im_X0_fitTogether (kTb_in (by decide +kernel) rfl) ini_KeyWalks cd_X0_fitTogether
theorem mL_149 : Cond.methodLink RL 149 yL_of ∈ kTb := kTb_in (List.mem_append_right _ (List.mem_of_getElem? (i := 427) (by decide +kernel))) rfl
theorem mL_69 : Cond.methodLink RL 69 yX0_of ∈ kTb := kTb_in (List.mem_append_right _ (List.mem_of_getElem? (i := 430) (by decide +kernel))) rfl
theorem gL_69 : GoodIn kTb (wsV RL 69 RX0 yX0_of (Cond.code yX0_of cX0_of 2 (some .int) :: kTb)) := kgV mL_69 im_X0_of (kTb_in (by decide +kernel) rfl) ini_KeyWalks cd_X0_of
theorem m0_141 : Cond.methodLink RX0 141 yX0_changesOfFirst ∈ kTb := kTb_in (List.mem_append_right _ (List.mem_of_getElem? (i := 434) (by decide +kernel))) rfl
theorem g0_141 : GoodIn kTb (wsV RX0 141 RX0 yX0_changesOfFirst (Cond.code yX0_changesOfFirst cX0_changesOfFirst 3 (some .int) :: kTb)) := kgV m0_141 im_X0_changesOfFirst (kTb_in (by decide +kernel) rfl) ini_KeyWalks cd_X0_changesOfFirst
theorem mL_75 : Cond.methodLink RL 75 yX1_init ∈ kTb := kTb_in (List.mem_append_right _ (List.mem_of_getElem? (i := 441) (by decide +kernel))) rfl
theorem m1_1 : Cond.methodLink RX1 1 ⟨"java/lang/Object", "<init>", "()V"⟩ ∈ kTb := kTb_in (List.mem_append_right _ (List.mem_of_getElem? (i := 444) (by decide +kernel))) rfl
theorem m1_32 : Cond.methodLink RX1 32 yX1_begin ∈ kTb := kTb_in (List.mem_append_right _ (List.mem_of_getElem? (i := 445) (by decide +kernel))) rfl
theorem g1_32 : GoodIn kTb (wsV RX1 32 RX1 yX1_begin (Cond.code yX1_begin cX1_begin 2 none :: kTb)) := kgV m1_32 im_X1_begin (kTb_in (by decide +kernel) rfl) ini_KeyWalksModel cd_X1_begin
theorem mL_86 : Cond.methodLink RL 86 yX1_thrown ∈ kTb := kTb_in (List.mem_append_right _ (List.mem_of_getElem? (i := 486) (by decide +kernel))) rfl
theorem gL_86 : GoodIn kTb (wsV RL 86 RX1 yX1_thrown (Cond.code yX1_thrown cX1_thrown 1 (some .int) :: kTb)) := kgV mL_86 im_X1_thrown (kTb_in (by decide +kernel) rfl) ini_KeyWalksModel cd_X1_thrown
theorem mL_79 : Cond.methodLink RL 79 yX1_clear ∈ kTb := kTb_in (List.mem_append_right _ (List.mem_of_getElem? (i := 490) (by decide +kernel))) rfl
theorem gL_79 : GoodIn kTb (wsV RL 79 RX1 yX1_clear (Cond.code yX1_clear cX1_clear 2 (some .int) :: kTb)) := kgV mL_79 im_X1_clear (kTb_in (by decide +kernel) rfl) ini_KeyWalksModel cd_X1_clear
theorem mL_85 : Cond.methodLink RL 85 yX1_profile ∈ kTb := kTb_in (List.mem_append_right _ (List.mem_of_getElem? (i := 494) (by decide +kernel))) rfl
theorem gL_85 : GoodIn kTb (wsV RL 85 RX1 yX1_profile (Cond.code yX1_profile cX1_profile 5 (some .int) :: kTb)) := kgV mL_85 im_X1_profile (kTb_in (by decide +kernel) rfl) ini_KeyWalksModel cd_X1_profile
theorem m1_51 : Cond.methodLink RX1 51 yX1_isIn ∈ kTb := kTb_in (List.mem_append_right _ (List.mem_of_getElem? (i := 498) (by decide +kernel))) rfl
theorem g1_51 : GoodIn kTb (va_wsS RX1 51 yX1_isIn (Cond.code yX1_isIn cX1_isIn 6 (some .boolean) :: kTb)) := kgS m1_51 sm_X1_isIn ini_KeyWalksModel cd_X1_isIn
theorem m1_61 : Cond.methodLink RX1 61 yX1_isGood ∈ kTb := kTb_in (List.mem_append_right _ (List.mem_of_getElem? (i := 503) (by decide +kernel))) rfl
theorem g1_61 : GoodIn kTb (wsV RX1 61 RX1 yX1_isGood (Cond.code yX1_isGood cX1_isGood 2 (some .boolean) :: kTb)) := kgV m1_61 im_X1_isGood (kTb_in (by decide +kernel) rfl) ini_KeyWalksModel cd_X1_isGood
theorem mL_91 : Cond.methodLink RL 91 yX1_costs ∈ kTb := kTb_in (List.mem_append_right _ (List.mem_of_getElem? (i := 507) (by decide +kernel))) rfl
theorem gL_91 : GoodIn kTb (wsV RL 91 RX1 yX1_costs (Cond.code yX1_costs cX1_costs 5 (some .int) :: kTb)) := kgV mL_91 im_X1_costs (kTb_in (by decide +kernel) rfl) ini_KeyWalksModel cd_X1_costs
theorem mL_95 : Cond.methodLink RL 95 yX1_slice ∈ kTb := kTb_in (List.mem_append_right _ (List.mem_of_getElem? (i := 512) (by decide +kernel))) rfl
theorem gL_95 : GoodIn kTb (wsV RL 95 RX1 yX1_slice (Cond.code yX1_slice cX1_slice 2 (some .int) :: kTb)) := kgV mL_95 im_X1_slice (kTb_in (by decide +kernel) rfl) ini_KeyWalksModel cd_X1_slice
theorem mL_98 : Cond.methodLink RL 98 yX1_note ∈ kTb := kTb_in (List.mem_append_right _ (List.mem_of_getElem? (i := 516) (by decide +kernel))) rfl
theorem gL_98 : GoodIn kTb (wsV RL 98 RX1 yX1_note (Cond.code yX1_note cX1_note 5 (some .int) :: kTb)) := kgV mL_98 im_X1_note (kTb_in (by decide +kernel) rfl) ini_KeyWalksModel cd_X1_note
theorem m1_67 : Cond.methodLink RX1 67 yX1_isSlice ∈ kTb := kTb_in (List.mem_append_right _ (List.mem_of_getElem? (i := 520) (by decide +kernel))) rfl
theorem g1_67 : GoodIn kTb (wsV RX1 67 RX1 yX1_isSlice (Cond.code yX1_isSlice cX1_isSlice 2 (some .boolean) :: kTb)) := kgV m1_67 im_X1_isSlice (kTb_in (by decide +kernel) rfl) ini_KeyWalksModel cd_X1_isSlice
theorem mL_101 : Cond.methodLink RL 101 yX1_drop ∈ kTb := kTb_in (List.mem_append_right _ (List.mem_of_getElem? (i := 525) (by decide +kernel))) rfl
theorem gL_101 : GoodIn kTb (wsV RL 101 RX1 yX1_drop (Cond.code yX1_drop cX1_drop 1 (some .int) :: kTb)) := kgV mL_101 im_X1_drop (kTb_in (by decide +kernel) rfl) ini_KeyWalksModel cd_X1_drop
theorem mL_105 : Cond.methodLink RL 105 yX1_fit ∈ kTb := kTb_in (List.mem_append_right _ (List.mem_of_getElem? (i := 529) (by decide +kernel))) rfl
theorem gL_105 : GoodIn kTb (wsV RL 105 RX1 yX1_fit (Cond.code yX1_fit cX1_fit 3 (some .int) :: kTb)) := kgV mL_105 im_X1_fit (kTb_in (by decide +kernel) rfl) ini_KeyWalksModel cd_X1_fit
theorem m1_83 : Cond.methodLink RX1 83 yX1_isKey ∈ kTb := kTb_in (List.mem_append_right _ (List.mem_of_getElem? (i := 533) (by decide +kernel))) rfl
theorem g1_83 : GoodIn kTb (va_wsS RX1 83 yX1_isKey (Cond.code yX1_isKey cX1_isKey 1 (some .boolean) :: kTb)) := kgS m1_83 sm_X1_isKey ini_KeyWalksModel cd_X1_isKey
theorem m1_76 : Cond.methodLink RX1 76 yX1_fitOf ∈ kTb := kTb_in (List.mem_append_right _ (List.mem_of_getElem? (i := 537) (by decide +kernel))) rfl
theorem g1_76 : GoodIn kTb (wsV RX1 76 RX1 yX1_fitOf (Cond.code yX1_fitOf cX1_fitOf 5 (some .int) :: kTb)) := kgV m1_76 im_X1_fitOf (kTb_in (by decide +kernel) rfl) ini_KeyWalksModel cd_X1_fitOf
theorem m1_72 : Cond.methodLink RX1 72 yX1_numberOf ∈ kTb := kTb_in (List.mem_append_right _ (List.mem_of_getElem? (i := 541) (by decide +kernel))) rfl
theorem g1_72 : GoodIn kTb (wsV RX1 72 RX1 yX1_numberOf (Cond.code yX1_numberOf cX1_numberOf 3 (some .int) :: kTb)) := kgV m1_72 im_X1_numberOf (kTb_in (by decide +kernel) rfl) ini_KeyWalksModel cd_X1_numberOf
theorem mL_108 : Cond.methodLink RL 108 yX1_cost ∈ kTb := kTb_in (List.mem_append_right _ (List.mem_of_getElem? (i := 545) (by decide +kernel))) rfl
theorem gL_108 : GoodIn kTb (wsV RL 108 RX1 yX1_cost (Cond.code yX1_cost cX1_cost 3 (some .int) :: kTb)) := kgV mL_108 im_X1_cost (kTb_in (by decide +kernel) rfl) ini_KeyWalksModel cd_X1_cost
theorem m1_86 : Cond.methodLink RX1 86 yX1_costOf ∈ kTb := kTb_in (List.mem_append_right _ (List.mem_of_getElem? (i := 549) (by decide +kernel))) rfl
theorem g1_86 : GoodIn kTb (wsV RX1 86 RX1 yX1_costOf (Cond.code yX1_costOf cX1_costOf 5 (some .int) :: kTb)) := kgV m1_86 im_X1_costOf (kTb_in (by decide +kernel) rfl) ini_KeyWalksModel cd_X1_costOf
theorem mL_111 : Cond.methodLink RL 111 yX1_turn ∈ kTb := kTb_in (List.mem_append_right _ (List.mem_of_getElem? (i := 553) (by decide +kernel))) rfl
theorem gL_111 : GoodIn kTb (wsV RL 111 RX1 yX1_turn (Cond.code yX1_turn cX1_turn 3 (some .int) :: kTb)) := kgV mL_111 im_X1_turn (kTb_in (by decide +kernel) rfl) ini_KeyWalksModel cd_X1_turn
theorem m1_89 : Cond.methodLink RX1 89 yX1_turnOf ∈ kTb := kTb_in (List.mem_append_right _ (List.mem_of_getElem? (i := 557) (by decide +kernel))) rfl
theorem g1_89 : GoodIn kTb (wsV RX1 89 RX1 yX1_turnOf (Cond.code yX1_turnOf cX1_turnOf 4 (some .int) :: kTb)) := kgV m1_89 im_X1_turnOf (kTb_in (by decide +kernel) rfl) ini_KeyWalksModel cd_X1_turnOf
theorem m1_79 : Cond.methodLink RX1 79 yX1_placeOf ∈ kTb := kTb_in (List.mem_append_right _ (List.mem_of_getElem? (i := 561) (by decide +kernel))) rfl
theorem g1_79 : GoodIn kTb (va_wsS RX1 79 yX1_placeOf (Cond.code yX1_placeOf cX1_placeOf 1 (some .int) :: kTb)) := kgS m1_79 sm_X1_placeOf ini_KeyWalksModel cd_X1_placeOf
theorem mL_115 : Cond.methodLink RL 115 yX1_least ∈ kTb := kTb_in (List.mem_append_right _ (List.mem_of_getElem? (i := 564) (by decide +kernel))) rfl
theorem gL_115 : GoodIn kTb (wsV RL 115 RX1 yX1_least (Cond.code yX1_least cX1_least 1 (some .int) :: kTb)) := kgV mL_115 im_X1_least (kTb_in (by decide +kernel) rfl) ini_KeyWalksModel cd_X1_least
theorem m1_95 : Cond.methodLink RX1 95 yX1_lay ∈ kTb := kTb_in (List.mem_append_right _ (List.mem_of_getElem? (i := 568) (by decide +kernel))) rfl
theorem g1_95 : GoodIn kTb (wsV RX1 95 RX1 yX1_lay (Cond.code yX1_lay cX1_lay 4 none :: kTb)) := kgV m1_95 im_X1_lay (kTb_in (by decide +kernel) rfl) ini_KeyWalksModel cd_X1_lay
theorem m1_98 : Cond.methodLink RX1 98 yX1_weigh ∈ kTb := kTb_in (List.mem_append_right _ (List.mem_of_getElem? (i := 572) (by decide +kernel))) rfl
theorem g1_98 : GoodIn kTb (wsV RX1 98 RX1 yX1_weigh (Cond.code yX1_weigh cX1_weigh 10 (some .int) :: kTb)) := kgV m1_98 im_X1_weigh (kTb_in (by decide +kernel) rfl) ini_KeyWalksModel cd_X1_weigh
theorem mL_124 : Cond.methodLink RL 124 yX1_count ∈ kTb := kTb_in (List.mem_append_right _ (List.mem_of_getElem? (i := 578) (by decide +kernel))) rfl
theorem gL_124 : GoodIn kTb (wsV RL 124 RX1 yX1_count (Cond.code yX1_count cX1_count 5 (some .long) :: kTb)) := kgV mL_124 im_X1_count (kTb_in (by decide +kernel) rfl) ini_KeyWalksModel cd_X1_count
theorem mL_119 : Cond.methodLink RL 119 yX1_key ∈ kTb := kTb_in (List.mem_append_right _ (List.mem_of_getElem? (i := 582) (by decide +kernel))) rfl
theorem gL_119 : GoodIn kTb (wsV RL 119 RX1 yX1_key (Cond.code yX1_key cX1_key 2 (some .int) :: kTb)) := kgV mL_119 im_X1_key (kTb_in (by decide +kernel) rfl) ini_KeyWalksModel cd_X1_key
theorem m1_101 : Cond.methodLink RX1 101 yX1_walkBehind ∈ kTb := kTb_in (List.mem_append_right _ (List.mem_of_getElem? (i := 586) (by decide +kernel))) rfl
theorem g1_101 : GoodIn kTb (wsV RX1 101 RX1 yX1_walkBehind (Cond.code yX1_walkBehind cX1_walkBehind 11 (some .boolean) :: kTb)) := kgV m1_101 im_X1_walkBehind (kTb_in (by decide +kernel) rfl) ini_KeyWalksModel cd_X1_walkBehind
theorem mL_130 : Cond.methodLink RL 130 yX1_pick ∈ kTb := kTb_in (List.mem_append_right _ (List.mem_of_getElem? (i := 590) (by decide +kernel))) rfl
theorem gL_130 : GoodIn kTb (wsV RL 130 RX1 yX1_pick (Cond.code yX1_pick cX1_pick 4 (some .int) :: kTb)) := kgV mL_130 im_X1_pick (kTb_in (by decide +kernel) rfl) ini_KeyWalksModel cd_X1_pick
theorem mL_133 : Cond.methodLink RL 133 yX1_through ∈ kTb := kTb_in (List.mem_append_right _ (List.mem_of_getElem? (i := 595) (by decide +kernel))) rfl
theorem gL_133 : GoodIn kTb (wsV RL 133 RX1 yX1_through (Cond.code yX1_through cX1_through 3 (some .int) :: kTb)) := kgV mL_133 im_X1_through (kTb_in (by decide +kernel) rfl) ini_KeyWalksModel cd_X1_through
theorem mL_136 : Cond.methodLink RL 136 yX1_near ∈ kTb := kTb_in (List.mem_append_right _ (List.mem_of_getElem? (i := 599) (by decide +kernel))) rfl
theorem gL_136 : GoodIn kTb (wsV RL 136 RX1 yX1_near (Cond.code yX1_near cX1_near 6 (some .int) :: kTb)) := kgV mL_136 im_X1_near (kTb_in (by decide +kernel) rfl) ini_KeyWalksModel cd_X1_near
theorem mL_139 : Cond.methodLink RL 139 yX1_sure ∈ kTb := kTb_in (List.mem_append_right _ (List.mem_of_getElem? (i := 604) (by decide +kernel))) rfl
theorem gL_139 : GoodIn kTb (wsV RL 139 RX1 yX1_sure (Cond.code yX1_sure cX1_sure 4 (some .int) :: kTb)) := kgV mL_139 im_X1_sure (kTb_in (by decide +kernel) rfl) ini_KeyWalksModel cd_X1_sure
theorem mL_142 : Cond.methodLink RL 142 yX1_change ∈ kTb := kTb_in (List.mem_append_right _ (List.mem_of_getElem? (i := 609) (by decide +kernel))) rfl
theorem gL_142 : GoodIn kTb (wsV RL 142 RX1 yX1_change (Cond.code yX1_change cX1_change 2 (some .int) :: kTb)) := kgV mL_142 im_X1_change (kTb_in (by decide +kernel) rfl) ini_KeyWalksModel cd_X1_change
theorem m1_111 : Cond.methodLink RX1 111 yX1_changeAt ∈ kTb := kTb_in (List.mem_append_right _ (List.mem_of_getElem? (i := 613) (by decide +kernel))) rfl
theorem g1_111 : GoodIn kTb (wsV RX1 111 RX1 yX1_changeAt (Cond.code yX1_changeAt cX1_changeAt 4 (some .int) :: kTb)) := kgV m1_111 im_X1_changeAt (kTb_in (by decide +kernel) rfl) ini_KeyWalksModel cd_X1_changeAt
theorem mL_145 : Cond.methodLink RL 145 yX1_pivot ∈ kTb := kTb_in (List.mem_append_right _ (List.mem_of_getElem? (i := 617) (by decide +kernel))) rfl
theorem gL_145 : GoodIn kTb (wsV RL 145 RX1 yX1_pivot (Cond.code yX1_pivot cX1_pivot 6 (some .boolean) :: kTb)) := kgV mL_145 im_X1_pivot (kTb_in (by decide +kernel) rfl) ini_KeyWalksModel cd_X1_pivot
theorem mL_148 : Cond.methodLink RL 148 yX1_whole ∈ kTb := kTb_in (List.mem_append_right _ (List.mem_of_getElem? (i := 621) (by decide +kernel))) rfl
theorem gL_148 : GoodIn kTb (wsV RL 148 RX1 yX1_whole (Cond.code yX1_whole cX1_whole 8 (some .int) :: kTb)) := kgV mL_148 im_X1_whole (kTb_in (by decide +kernel) rfl) ini_KeyWalksModel cd_X1_whole
theorem mL_151 : Cond.methodLink RL 151 yX1_of ∈ kTb := kTb_in (List.mem_append_right _ (List.mem_of_getElem? (i := 625) (by decide +kernel))) rfl
theorem gL_151 : GoodIn kTb (wsV RL 151 RX1 yX1_of (Cond.code yX1_of cX1_of 4 (some .int) :: kTb)) := kgV mL_151 im_X1_of (kTb_in (by decide +kernel) rfl) ini_KeyWalksModel cd_X1_of
theorem m_mmaxs : Cond.static Lib.Math.max.name ∈ kTb := kTb_in (by decide +kernel) rfl
theorem m_mmaxc : Cond.code Lib.Math.max.name Lib.Math.max.code 2 (some .int) ∈ kTb := kTb_in (by decide +kernel) rfl
theorem m_mmins : Cond.static Lib.Math.min.name ∈ kTb := kTb_in (by decide +kernel) rfl
theorem m_mminc : Cond.code Lib.Math.min.name Lib.Math.min.code 2 (some .int) ∈ kTb := kTb_in (by decide +kernel) rfl
theorem m_mabss : Cond.static Lib.Math.abs.name ∈ kTb := kTb_in (by decide +kernel) rfl
theorem m_mabsc : Cond.code Lib.Math.abs.name Lib.Math.abs.code 1 (some .int) ∈ kTb := kTb_in (by decide +kernel) rfl
theorem m_mminLs : Cond.static Lib.MathLoose.min_long.x ∈ kTb := kTb_in (by decide +kernel) rfl
theorem m_mminLc : Cond.code Lib.MathLoose.min_long.x Lib.MathLoose.min_long.code 4 (some .long) ∈ kTb := kTb_in (by decide +kernel) rfl
theorem m_math : Cond.initialized "java/lang/Math" ∈ kTb := ini_java_lang_Math
abbrev kTx_163 : String := "a number is outside what is told"
abbrev kTx_63 : String := "there are 40 slices"
abbrev kTx_72 : String := "the weight would be above 200"
abbrev kTx_74 : String := "there is no slice"
abbrev kTx_104 : String := "there is no such place among the best walks"
abbrev kTx_123 : String := "the next cost is 0"
abbrev kTx_126 : String := "there is no change below 0"
abbrev kTx_135 : String := "the first slice is behind the last one"
abbrev kTx_145 : String := "there is no such number to tell"
abbrev kEx_102 : String := "java/lang/IllegalArgumentException"
abbrev kNm_102 : List String := ["java/lang/RuntimeException", "java/lang/Exception"]
theorem kcl0_102 : Cond.classLink RX0 102 kEx_102 ∈ kTb := kTb_in (List.mem_append_right _ (List.mem_of_getElem? (i := 179) (by decide +kernel))) rfl
theorem kini_102 : Cond.initialized kEx_102 ∈ kTb := ini_java_lang_IllegalArgumentException
abbrev kEx_61 : String := "java/lang/IllegalStateException"
abbrev kNm_61 : List String := ["java/lang/RuntimeException", "java/lang/Exception"]
theorem kcl0_61 : Cond.classLink RX0 61 kEx_61 ∈ kTb := kTb_in (List.mem_append_right _ (List.mem_of_getElem? (i := 262) (by decide +kernel))) rfl
theorem kini_61 : Cond.initialized kEx_61 ∈ kTb := ini_java_lang_IllegalStateException
abbrev kEx_121 : String := "java/lang/ArithmeticException"
abbrev kNm_121 : List String := ["java/lang/RuntimeException", "java/lang/Exception"]
theorem kcl0_121 : Cond.classLink RX0 121 kEx_121 ∈ kTb := kTb_in (List.mem_append_right _ (List.mem_of_getElem? (i := 380) (by decide +kernel))) rfl
theorem kini_121 : Cond.initialized kEx_121 ∈ kTb := ini_java_lang_ArithmeticException
theorem kat_102_106 : ∀ w ∈ vx_atS RX0 106 kEx_102 kNm_102, w ∈ kTb ∨ w ∈ kFa := by decide +kernel
theorem kot_102_106 : ∀ w ∈ Cond.classLink RX0 102 kEx_102 :: Cond.initialized kEx_102 :: vx_atS RX0 106 kEx_102 kNm_102, vx_ot w = true := by decide +kernel
theorem kat_61_65 : ∀ w ∈ vx_atS RX0 65 kEx_61 kNm_61, w ∈ kTb ∨ w ∈ kFa := by decide +kernel
theorem kot_61_65 : ∀ w ∈ Cond.classLink RX0 61 kEx_61 :: Cond.initialized kEx_61 :: vx_atS RX0 65 kEx_61 kNm_61, vx_ot w = true := by decide +kernel
theorem kat_121_125 : ∀ w ∈ vx_atS RX0 125 kEx_121 kNm_121, w ∈ kTb ∨ w ∈ kFa := by decide +kernel
theorem kot_121_125 : ∀ w ∈ Cond.classLink RX0 121 kEx_121 :: Cond.initialized kEx_121 :: vx_atS RX0 125 kEx_121 kNm_121, vx_ot w = true := by decide +kernel
