set_option maxRecDepth 100000 in
theorem cw_X8_hurt : ad_Cw mX8_hurt 1 := ⟨ad_inC5 213 rfl, ad_in 71 (by decide +kernel) rfl, ⟨by decide, by decide, by decide +kernel⟩, by decide⟩
set_option maxRecDepth 100000 in
theorem cw_X8_common_ : ad_Cw mX8_common_ 2 := ⟨ad_inC5 232 rfl, ad_in 71 (by decide +kernel) rfl, ⟨by decide, by decide, by decide +kernel⟩, by decide⟩
set_option maxRecDepth 100000 in
theorem cw_X8_part : ad_Cw mX8_part 3 := ⟨ad_inC5 229 rfl, ad_in 71 (by decide +kernel) rfl, ⟨by decide, by decide, by decide +kernel⟩, by decide⟩
set_option maxRecDepth 100000 in
theorem cw_X8_lost : ad_Cw mX8_lost 3 := ⟨ad_inC5 221 rfl, ad_in 71 (by decide +kernel) rfl, ⟨by decide, by decide, by decide +kernel⟩, by decide⟩
set_option maxRecDepth 100000 in
theorem cw_X8_mean : ad_Cw mX8_mean 1 := ⟨ad_inC5 236 rfl, ad_in 71 (by decide +kernel) rfl, ⟨by decide, by decide, by decide +kernel⟩, by decide⟩
set_option maxRecDepth 100000 in
theorem cw_X8_fitsRow : ad_Cw mX8_fitsRow 0 := ⟨ad_inC6 4 rfl, ad_in 71 (by decide +kernel) rfl, ⟨by decide, by decide, by decide +kernel⟩, by decide⟩
set_option maxRecDepth 100000 in
theorem cw_X8_whatIs : ad_Cw mX8_whatIs 1 := ⟨ad_inC6 0 rfl, ad_in 71 (by decide +kernel) rfl, ⟨by decide, by decide, by decide +kernel⟩, by decide⟩
set_option maxRecDepth 100000 in
theorem cw_X8_row : ad_Cw mX8_row 1 := ⟨ad_inC6 8 rfl, ad_in 71 (by decide +kernel) rfl, ⟨by decide, by decide, by decide +kernel⟩, by decide⟩
set_option maxRecDepth 100000 in
theorem cw_X8_judge : ad_Cw mX8_judge 1 := ⟨ad_inC6 12 rfl, ad_in 71 (by decide +kernel) rfl, ⟨by decide, by decide, by decide +kernel⟩, by decide⟩
set_option maxRecDepth 100000 in
theorem cw_X8_clear : ad_Cw mX8_clear 0 := ⟨ad_inC6 16 rfl, ad_in 71 (by decide +kernel) rfl, ⟨by decide, by decide, by decide +kernel⟩, by decide⟩
set_option maxRecDepth 100000 in
theorem cw_X8_draw : ad_Cw mX8_draw 1 := ⟨ad_inC6 24 rfl, ad_in 71 (by decide +kernel) rfl, ⟨by decide, by decide, by decide +kernel⟩, by decide⟩
set_option maxRecDepth 100000 in
theorem cw_X8_nth : ad_Cw mX8_nth 1 := ⟨ad_inC6 30 rfl, ad_in 71 (by decide +kernel) rfl, ⟨by decide, by decide, by decide +kernel⟩, by decide⟩
set_option maxRecDepth 100000 in
theorem cw_X8_lots : ad_Cw mX8_lots 3 := ⟨ad_inC6 20 rfl, ad_in 71 (by decide +kernel) rfl, ⟨by decide, by decide, by decide +kernel⟩, by decide⟩
set_option maxRecDepth 100000 in
theorem cw_X8_image : ad_Cw mX8_image 0 := ⟨ad_inC6 34 rfl, ad_in 71 (by decide +kernel) rfl, ⟨by decide, by decide, by decide +kernel⟩, by decide⟩
set_option maxRecDepth 100000 in
theorem cw_X8_on : ad_Cw mX8_on 0 := ⟨ad_inC6 38 rfl, ad_in 71 (by decide +kernel) rfl, ⟨by decide, by decide, by decide +kernel⟩, by decide⟩
set_option maxRecDepth 100000 in
theorem cw_X8_count : ad_Cw mX8_count 1 := ⟨ad_inC6 42 rfl, ad_in 71 (by decide +kernel) rfl, ⟨by decide, by decide, by decide +kernel⟩, by decide⟩
set_option maxRecDepth 100000 in
theorem cw_X0_make : ad_Cw mX0_make 2 := ⟨ad_inC3 23 rfl, ad_in 67 (by decide +kernel) rfl, ⟨by decide, by decide, by decide +kernel⟩, by decide⟩
set_option maxRecDepth 100000 in
theorem cw_X0_addStep : ad_Cw mX0_addStep 3 := ⟨ad_inC3 27 rfl, ad_in 67 (by decide +kernel) rfl, ⟨by decide, by decide, by decide +kernel⟩, by decide⟩
set_option maxRecDepth 100000 in
theorem cw_X0_put : ad_Cw mX0_put 2 := ⟨ad_inC3 35 rfl, ad_in 67 (by decide +kernel) rfl, ⟨by decide, by decide, by decide +kernel⟩, by decide⟩
set_option maxRecDepth 100000 in
theorem cw_X0_cost : ad_Cw mX0_cost 0 := ⟨ad_inC3 41 rfl, ad_in 67 (by decide +kernel) rfl, ⟨by decide, by decide, by decide +kernel⟩, by decide⟩
set_option maxRecDepth 100000 in
theorem cw_X0_spell : ad_Cw mX0_spell 2 := ⟨ad_inC3 114 rfl, ad_in 67 (by decide +kernel) rfl, ⟨by decide, by decide, by decide +kernel⟩, by decide⟩
set_option maxRecDepth 100000 in
theorem cw_X0_copyFrom : ad_Cw mX0_copyFrom 1 := ⟨ad_inC2 169 rfl, ad_in 67 (by decide +kernel) rfl, ⟨by decide, by decide, by decide +kernel⟩, by decide⟩
set_option maxRecDepth 100000 in
theorem cw_X1_below : ad_Cw mX1_below 1 := ⟨ad_inC4 106 rfl, ad_in 70 (by decide +kernel) rfl, ⟨by decide, by decide, by decide +kernel⟩, by decide⟩
set_option maxRecDepth 100000 in
theorem cw_X2_isFull : ad_Cw mX2_isFull 0 := ⟨ad_inC2 47 rfl, ad_in 65 (by decide +kernel) rfl, ⟨by decide, by decide, by decide +kernel⟩, by decide⟩
set_option maxRecDepth 100000 in
theorem cw_X2_add : ad_Cw mX2_add 1 := ⟨ad_inC2 51 rfl, ad_in 65 (by decide +kernel) rfl, ⟨by decide, by decide, by decide +kernel⟩, by decide⟩
set_option maxRecDepth 100000 in
theorem cw_X2_at : ad_Cw mX2_at 1 := ⟨ad_inC2 67 rfl, ad_in 65 (by decide +kernel) rfl, ⟨by decide, by decide, by decide +kernel⟩, by decide⟩
set_option maxRecDepth 100000 in
theorem cw_X2_put : ad_Cw mX2_put 2 := ⟨ad_inC3 98 rfl, ad_in 65 (by decide +kernel) rfl, ⟨by decide, by decide, by decide +kernel⟩, by decide⟩
set_option maxRecDepth 100000 in
theorem cw_X2_empty : ad_Cw mX2_empty 0 := ⟨ad_inC2 195 rfl, ad_in 65 (by decide +kernel) rfl, ⟨by decide, by decide, by decide +kernel⟩, by decide⟩
set_option maxRecDepth 100000 in
theorem cw_X2_copyFrom : ad_Cw mX2_copyFrom 1 := ⟨ad_inC2 159 rfl, ad_in 65 (by decide +kernel) rfl, ⟨by decide, by decide, by decide +kernel⟩, by decide⟩
set_option maxRecDepth 100000 in
theorem cw_X2_alikeFrom : ad_Cw mX2_alikeFrom 3 := ⟨ad_inC3 31 rfl, ad_in 65 (by decide +kernel) rfl, ⟨by decide, by decide, by decide +kernel⟩, by decide⟩
set_option maxRecDepth 100000 in
theorem cw_X2_isSameAs : ad_Cw mX2_isSameAs 1 := ⟨ad_inC3 238 rfl, ad_in 65 (by decide +kernel) rfl, ⟨by decide, by decide, by decide +kernel⟩, by decide⟩
set_option maxRecDepth 100000 in
theorem cw_X2_hashed : ad_Cw mX2_hashed 0 := ⟨ad_inC2 205 rfl, ad_in 65 (by decide +kernel) rfl, ⟨by decide, by decide, by decide +kernel⟩, by decide⟩
set_option maxRecDepth 100000 in
theorem cw_X3_learn : ad_Cw mX3_learn 1 := ⟨ad_inC2 228 rfl, ad_in 68 (by decide +kernel) rfl, ⟨by decide, by decide, by decide +kernel⟩, by decide⟩
set_option maxRecDepth 100000 in
theorem cw_X3_make : ad_Cw mX3_make 3 := ⟨ad_inC2 232 rfl, ad_in 68 (by decide +kernel) rfl, ⟨by decide, by decide, by decide +kernel⟩, by decide⟩
set_option maxRecDepth 100000 in
theorem cw_X3_lineUp : ad_Cw mX3_lineUp 0 := ⟨ad_inC2 236 rfl, ad_in 68 (by decide +kernel) rfl, ⟨by decide, by decide, by decide +kernel⟩, by decide⟩
set_option maxRecDepth 100000 in
theorem cw_X3_isAhead : ad_Cw mX3_isAhead 2 := ⟨ad_inC3 1 rfl, ad_in 68 (by decide +kernel) rfl, ⟨by decide, by decide, by decide +kernel⟩, by decide⟩
set_option maxRecDepth 100000 in
theorem cw_X3_choose : ad_Cw mX3_choose 2 := ⟨ad_inC3 10 rfl, ad_in 68 (by decide +kernel) rfl, ⟨by decide, by decide, by decide +kernel⟩, by decide⟩
set_option maxRecDepth 100000 in
theorem cw_X3_mayBeBase : ad_Cw mX3_mayBeBase 3 := ⟨ad_inC3 15 rfl, ad_in 68 (by decide +kernel) rfl, ⟨by decide, by decide, by decide +kernel⟩, by decide⟩
set_option maxRecDepth 100000 in
theorem cw_X3_savings : ad_Cw mX3_savings 0 := ⟨ad_inC3 49 rfl, ad_in 68 (by decide +kernel) rfl, ⟨by decide, by decide, by decide +kernel⟩, by decide⟩
set_option maxRecDepth 100000 in
theorem cw_X3_settle : ad_Cw mX3_settle 4 := ⟨ad_inC3 53 rfl, ad_in 68 (by decide +kernel) rfl, ⟨by decide, by decide, by decide +kernel⟩, by decide⟩
set_option maxRecDepth 100000 in
theorem cw_X3_baseOf : ad_Cw mX3_baseOf 1 := ⟨ad_inC3 62 rfl, ad_in 68 (by decide +kernel) rfl, ⟨by decide, by decide, by decide +kernel⟩, by decide⟩
set_option maxRecDepth 100000 in
theorem cw_X3_isTold : ad_Cw mX3_isTold 1 := ⟨ad_inC4 76 rfl, ad_in 68 (by decide +kernel) rfl, ⟨by decide, by decide, by decide +kernel⟩, by decide⟩
set_option maxRecDepth 100000 in
theorem cw_X4_copyFrom : ad_Cw mX4_copyFrom 1 := ⟨ad_inC2 151 rfl, ad_in 63 (by decide +kernel) rfl, ⟨by decide, by decide, by decide +kernel⟩, by decide⟩
set_option maxRecDepth 100000 in
theorem cw_X4_holds : ad_Cw mX4_holds 1 := ⟨ad_inC2 187 rfl, ad_in 63 (by decide +kernel) rfl, ⟨by decide, by decide, by decide +kernel⟩, by decide⟩
set_option maxRecDepth 100000 in
theorem cw_X4_hasRoom : ad_Cw mX4_hasRoom 0 := ⟨ad_inC2 191 rfl, ad_in 63 (by decide +kernel) rfl, ⟨by decide, by decide, by decide +kernel⟩, by decide⟩
set_option maxRecDepth 100000 in
theorem cw_X4_lettersOf : ad_Cw mX4_lettersOf 1 := ⟨ad_inC3 5 rfl, ad_in 63 (by decide +kernel) rfl, ⟨by decide, by decide, by decide +kernel⟩, by decide⟩
set_option maxRecDepth 100000 in
theorem cw_X4_hasParent : ad_Cw mX4_hasParent 2 := ⟨ad_inC3 19 rfl, ad_in 63 (by decide +kernel) rfl, ⟨by decide, by decide, by decide +kernel⟩, by decide⟩
set_option maxRecDepth 100000 in
theorem cw_X4_heldAt : ad_Cw mX4_heldAt 1 := ⟨ad_inC4 113 rfl, ad_in 63 (by decide +kernel) rfl, ⟨by decide, by decide, by decide +kernel⟩, by decide⟩
set_option maxRecDepth 100000 in
theorem cw_X4_comes : ad_Cw mX4_comes 3 := ⟨ad_inC2 200 rfl, ad_in 63 (by decide +kernel) rfl, ⟨by decide, by decide, by decide +kernel⟩, by decide⟩
set_option maxRecDepth 100000 in
theorem cw_X4_comesAlone : ad_Cw mX4_comesAlone 0 := ⟨ad_inC4 102 rfl, ad_in 63 (by decide +kernel) rfl, ⟨by decide, by decide, by decide +kernel⟩, by decide⟩
set_option maxRecDepth 100000 in
theorem cw_X4_comesEdited : ad_Cw mX4_comesEdited 3 := ⟨ad_inC3 130 rfl, ad_in 63 (by decide +kernel) rfl, ⟨by decide, by decide, by decide +kernel⟩, by decide⟩
set_option maxRecDepth 100000 in
theorem cw_X4_damageAt : ad_Cw mX4_damageAt 3 := ⟨ad_inC3 94 rfl, ad_in 63 (by decide +kernel) rfl, ⟨by decide, by decide, by decide +kernel⟩, by decide⟩
set_option maxRecDepth 100000 in
theorem cw_X4_restore : ad_Cw mX4_restore 1 := ⟨ad_inC3 110 rfl, ad_in 63 (by decide +kernel) rfl, ⟨by decide, by decide, by decide +kernel⟩, by decide⟩
set_option maxRecDepth 100000 in
theorem cw_X4_storeBy : ad_Cw mX4_storeBy 1 := ⟨ad_inC3 58 rfl, ad_in 63 (by decide +kernel) rfl, ⟨by decide, by decide, by decide +kernel⟩, by decide⟩
set_option maxRecDepth 100000 in
theorem cw_X4_dropGarbage : ad_Cw mX4_dropGarbage 0 := ⟨ad_inC3 67 rfl, ad_in 63 (by decide +kernel) rfl, ⟨by decide, by decide, by decide +kernel⟩, by decide⟩
set_option maxRecDepth 100000 in
theorem cw_X4_reachOf : ad_Cw mX4_reachOf 1 := ⟨ad_inC2 209 rfl, ad_in 63 (by decide +kernel) rfl, ⟨by decide, by decide, by decide +kernel⟩, by decide⟩
set_option maxRecDepth 100000 in
theorem cw_X4_reachedFrom : ad_Cw mX4_reachedFrom 1 := ⟨ad_inC4 32 rfl, ad_in 63 (by decide +kernel) rfl, ⟨by decide, by decide, by decide +kernel⟩, by decide⟩
set_option maxRecDepth 100000 in
theorem cw_X4_reachedFromHeads : ad_Cw mX4_reachedFromHeads 0 := ⟨ad_inC3 71 rfl, ad_in 63 (by decide +kernel) rfl, ⟨by decide, by decide, by decide +kernel⟩, by decide⟩
set_option maxRecDepth 100000 in
theorem cw_X4_parentsOf : ad_Cw mX4_parentsOf 1 := ⟨ad_inC4 16 rfl, ad_in 63 (by decide +kernel) rfl, ⟨by decide, by decide, by decide +kernel⟩, by decide⟩
set_option maxRecDepth 100000 in
theorem cw_X4_bitOf : ad_Cw mX4_bitOf 1 := ⟨ad_inC4 19 rfl, ad_in 63 (by decide +kernel) rfl, ⟨by decide, by decide, by decide +kernel⟩, by decide⟩
set_option maxRecDepth 100000 in
theorem cw_X4_neededBy : ad_Cw mX4_neededBy 1 := ⟨ad_inC3 106 rfl, ad_in 63 (by decide +kernel) rfl, ⟨by decide, by decide, by decide +kernel⟩, by decide⟩
set_option maxRecDepth 100000 in
theorem cw_X4_depthOf : ad_Cw mX4_depthOf 1 := ⟨ad_inC3 102 rfl, ad_in 63 (by decide +kernel) rfl, ⟨by decide, by decide, by decide +kernel⟩, by decide⟩
set_option maxRecDepth 100000 in
theorem cw_X4_greatestDepth : ad_Cw mX4_greatestDepth 0 := ⟨ad_inC4 130 rfl, ad_in 63 (by decide +kernel) rfl, ⟨by decide, by decide, by decide +kernel⟩, by decide⟩
set_option maxRecDepth 100000 in
theorem cw_X4_costOfAll : ad_Cw mX4_costOfAll 0 := ⟨ad_inC3 166 rfl, ad_in 63 (by decide +kernel) rfl, ⟨by decide, by decide, by decide +kernel⟩, by decide⟩
set_option maxRecDepth 100000 in
theorem cw_X4_wholes : ad_Cw mX4_wholes 0 := ⟨ad_inC4 135 rfl, ad_in 63 (by decide +kernel) rfl, ⟨by decide, by decide, by decide +kernel⟩, by decide⟩
set_option maxRecDepth 100000 in
theorem cw_X4_leastTwin : ad_Cw mX4_leastTwin 1 := ⟨ad_inC3 234 rfl, ad_in 63 (by decide +kernel) rfl, ⟨by decide, by decide, by decide +kernel⟩, by decide⟩
set_option maxRecDepth 100000 in
theorem cw_X4_contents : ad_Cw mX4_contents 0 := ⟨ad_inC3 230 rfl, ad_in 63 (by decide +kernel) rfl, ⟨by decide, by decide, by decide +kernel⟩, by decide⟩
set_option maxRecDepth 100000 in
theorem cw_X4_sentWhole : ad_Cw mX4_sentWhole 2 := ⟨ad_inC4 40 rfl, ad_in 63 (by decide +kernel) rfl, ⟨by decide, by decide, by decide +kernel⟩, by decide⟩
set_option maxRecDepth 100000 in
theorem cw_X4_costOfSending : ad_Cw mX4_costOfSending 2 := ⟨ad_inC4 36 rfl, ad_in 63 (by decide +kernel) rfl, ⟨by decide, by decide, by decide +kernel⟩, by decide⟩
set_option maxRecDepth 100000 in
theorem cw_X5_placeOfFault : ad_Cw mX5_placeOfFault 0 := ⟨ad_inC2 59 rfl, ad_in 69 (by decide +kernel) rfl, ⟨by decide, by decide, by decide +kernel⟩, by decide⟩
set_option maxRecDepth 100000 in
theorem cw_X5_placeBehind : ad_Cw mX5_placeBehind 1 := ⟨ad_inC2 147 rfl, ad_in 69 (by decide +kernel) rfl, ⟨by decide, by decide, by decide +kernel⟩, by decide⟩
set_option maxRecDepth 100000 in
theorem cw_X5_faultIn : ad_Cw mX5_faultIn 1 := ⟨ad_inC2 63 rfl, ad_in 69 (by decide +kernel) rfl, ⟨by decide, by decide, by decide +kernel⟩, by decide⟩
set_option maxRecDepth 100000 in
theorem cw_X5_formOf : ad_Cw mX5_formOf 1 := ⟨ad_inC2 70 rfl, ad_in 69 (by decide +kernel) rfl, ⟨by decide, by decide, by decide +kernel⟩, by decide⟩
set_option maxRecDepth 100000 in
theorem cw_X5_fitting : ad_Cw mX5_fitting 2 := ⟨ad_inC2 129 rfl, ad_in 69 (by decide +kernel) rfl, ⟨by decide, by decide, by decide +kernel⟩, by decide⟩
set_option maxRecDepth 100000 in
theorem cw_X5_lettersFrom : ad_Cw mX5_lettersFrom 1 := ⟨ad_inC2 139 rfl, ad_in 69 (by decide +kernel) rfl, ⟨by decide, by decide, by decide +kernel⟩, by decide⟩
set_option maxRecDepth 100000 in
theorem cw_X5_isDigit : ad_Cw mX5_isDigit 1 := ⟨ad_inC2 132 rfl, ad_in 69 (by decide +kernel) rfl, ⟨by decide, by decide, by decide +kernel⟩, by decide⟩
set_option maxRecDepth 100000 in
theorem cw_X5_isLetter : ad_Cw mX5_isLetter 1 := ⟨ad_inC2 135 rfl, ad_in 69 (by decide +kernel) rfl, ⟨by decide, by decide, by decide +kernel⟩, by decide⟩
set_option maxRecDepth 100000 in
theorem cw_X5_digitAt : ad_Cw mX5_digitAt 1 := ⟨ad_inC2 179 rfl, ad_in 69 (by decide +kernel) rfl, ⟨by decide, by decide, by decide +kernel⟩, by decide⟩
set_option maxRecDepth 100000 in
theorem cw_X5_runsAt : ad_Cw mX5_runsAt 3 := ⟨ad_inC2 175 rfl, ad_in 69 (by decide +kernel) rfl, ⟨by decide, by decide, by decide +kernel⟩, by decide⟩
set_option maxRecDepth 100000 in
theorem cw_X5_comes : ad_Cw mX5_comes 4 := ⟨ad_inC2 183 rfl, ad_in 69 (by decide +kernel) rfl, ⟨by decide, by decide, by decide +kernel⟩, by decide⟩
set_option maxRecDepth 100000 in
theorem cw_X5_points : ad_Cw mX5_points 3 := ⟨ad_inC2 213 rfl, ad_in 69 (by decide +kernel) rfl, ⟨by decide, by decide, by decide +kernel⟩, by decide⟩
set_option maxRecDepth 100000 in
theorem cw_X5_becomes : ad_Cw mX5_becomes 3 := ⟨ad_inC2 220 rfl, ad_in 69 (by decide +kernel) rfl, ⟨by decide, by decide, by decide +kernel⟩, by decide⟩
set_option maxRecDepth 100000 in
theorem cw_X5_binds : ad_Cw mX5_binds 2 := ⟨ad_inC2 224 rfl, ad_in 69 (by decide +kernel) rfl, ⟨by decide, by decide, by decide +kernel⟩, by decide⟩
set_option maxRecDepth 100000 in
theorem cw_X5_breaks : ad_Cw mX5_breaks 4 := ⟨ad_inC3 89 rfl, ad_in 69 (by decide +kernel) rfl, ⟨by decide, by decide, by decide +kernel⟩, by decide⟩
set_option maxRecDepth 100000 in
theorem cw_X6_isWhole : ad_Cw mX6_isWhole 0 := ⟨ad_inC3 79 rfl, ad_in 64 (by decide +kernel) rfl, ⟨by decide, by decide, by decide +kernel⟩, by decide⟩
set_option maxRecDepth 100000 in
theorem cw_X6_wholeCost : ad_Cw mX6_wholeCost 0 := ⟨ad_inC3 45 rfl, ad_in 64 (by decide +kernel) rfl, ⟨by decide, by decide, by decide +kernel⟩, by decide⟩
set_option maxRecDepth 100000 in
theorem cw_X6_cost : ad_Cw mX6_cost 0 := ⟨ad_inC3 170 rfl, ad_in 64 (by decide +kernel) rfl, ⟨by decide, by decide, by decide +kernel⟩, by decide⟩
set_option maxRecDepth 100000 in
theorem cw_X6_isSound : ad_Cw mX6_isSound 0 := ⟨ad_inC3 194 rfl, ad_in 64 (by decide +kernel) rfl, ⟨by decide, by decide, by decide +kernel⟩, by decide⟩
set_option maxRecDepth 100000 in
theorem cw_X6_leave : ad_Cw mX6_leave 1 := ⟨ad_inC3 75 rfl, ad_in 64 (by decide +kernel) rfl, ⟨by decide, by decide, by decide +kernel⟩, by decide⟩
set_option maxRecDepth 100000 in
theorem cw_X6_copyFrom : ad_Cw mX6_copyFrom 1 := ⟨ad_inC2 155 rfl, ad_in 64 (by decide +kernel) rfl, ⟨by decide, by decide, by decide +kernel⟩, by decide⟩
set_option maxRecDepth 100000 in
theorem cw_J6_bitCount_0f7a4 : ad_Cw mJ6_bitCount_0f7a4 1 := ⟨ad_inC3 82 rfl, ad_in 77 (by decide +kernel) rfl, ⟨by decide, by decide, by decide +kernel⟩, by decide⟩
set_option maxRecDepth 100000 in
theorem cw_J9_max_7cf53 : ad_Cw mJ9_max_7cf53 2 := ⟨ad_inC1 46 rfl, ad_in 66 (by decide +kernel) rfl, ⟨by decide, by decide, by decide +kernel⟩, by decide⟩
set_option maxRecDepth 100000 in
theorem cw_J9_min_7cf53 : ad_Cw mJ9_min_7cf53 2 := ⟨ad_inC2 162 rfl, ad_in 66 (by decide +kernel) rfl, ⟨by decide, by decide, by decide +kernel⟩, by decide⟩
set_option maxRecDepth 100000 in
theorem cw_J0_length_8abf5 : ad_Cw mJ0_length_8abf5 0 := ⟨ad_inC2 81 rfl, ad_in 72 (by decide +kernel) rfl, ⟨by decide, by decide, by decide +kernel⟩, by decide⟩
set_option maxRecDepth 100000 in
theorem cw_J0_isEmpty_aae02 : ad_Cw mJ0_isEmpty_aae02 0 := ⟨ad_inC2 143 rfl, ad_in 72 (by decide +kernel) rfl, ⟨by decide, by decide, by decide +kernel⟩, by decide⟩
set_option maxRecDepth 100000 in
theorem cw_J0_charAt_5068e : ad_Cw mJ0_charAt_5068e 1 := ⟨ad_inC2 91 rfl, ad_in 72 (by decide +kernel) rfl, ⟨by decide, by decide, by decide +kernel⟩, by decide⟩
set_option maxRecDepth 100000 in
theorem cw_J0_coder_7d493 : ad_Cw mJ0_coder_7d493 0 := ⟨ad_inC2 85 rfl, ad_in 72 (by decide +kernel) rfl, ⟨by decide, by decide, by decide +kernel⟩, by decide⟩
set_option maxRecDepth 100000 in
theorem cw_J0_isLatin1_aae02 : ad_Cw mJ0_isLatin1_aae02 0 := ⟨ad_inC2 95 rfl, ad_in 72 (by decide +kernel) rfl, ⟨by decide, by decide, by decide +kernel⟩, by decide⟩
set_option maxRecDepth 100000 in
theorem cw_J0_checkIndex_df160 : ad_Cw mJ0_checkIndex_df160 2 := ⟨ad_inC2 101 rfl, ad_in 72 (by decide +kernel) rfl, ⟨by decide, by decide, by decide +kernel⟩, by decide⟩
set_option maxRecDepth 100000 in
theorem cw_J1_charAt_3b067 : ad_Cw mJ1_charAt_3b067 2 := ⟨ad_inC2 98 rfl, ad_in 73 (by decide +kernel) rfl, ⟨by decide, by decide, by decide +kernel⟩, by decide⟩
set_option maxRecDepth 100000 in
theorem cw_J2_getChar_3b067 : ad_Cw mJ2_getChar_3b067 2 := ⟨ad_inC2 119 rfl, ad_in 75 (by decide +kernel) rfl, ⟨by decide, by decide, by decide +kernel⟩, by decide⟩
set_option maxRecDepth 100000 in
theorem cw_J2_length_9d52b : ad_Cw mJ2_length_9d52b 1 := ⟨ad_inC2 115 rfl, ad_in 75 (by decide +kernel) rfl, ⟨by decide, by decide, by decide +kernel⟩, by decide⟩
set_option maxRecDepth 100000 in
theorem cw_J2_charAt_3b067 : ad_Cw mJ2_charAt_3b067 2 := ⟨ad_inC2 109 rfl, ad_in 75 (by decide +kernel) rfl, ⟨by decide, by decide, by decide +kernel⟩, by decide⟩
set_option maxRecDepth 100000 in
theorem cw_J2_checkIndex_2214a : ad_Cw mJ2_checkIndex_2214a 2 := ⟨ad_inC2 112 rfl, ad_in 75 (by decide +kernel) rfl, ⟨by decide, by decide, by decide +kernel⟩, by decide⟩
set_option maxRecDepth 100000 in
theorem cw_J3_checkIndex_8e157 : ad_Cw mJ3_checkIndex_8e157 3 := ⟨ad_inC2 106 rfl, ad_in 74 (by decide +kernel) rfl, ⟨by decide, by decide, by decide +kernel⟩, by decide⟩
