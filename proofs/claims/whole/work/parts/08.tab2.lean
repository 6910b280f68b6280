def ad_isC : Cond → Bool
  | .code .. => true
  | _ => false
theorem ad_inT {w : Cond} (h : w ∈ tables_1) (hc : goodWord w = true) : w ∈ ad_TB := List.mem_filter.mpr ⟨List.mem_append_right _ h, hc⟩
theorem ad_inC1 {y : MethodName} {b : ByteArray} {n : Nat} {r : Option FieldType} (i : Nat) (h : tables_1_1[i]? = some (Cond.code y b n r)) : Cond.code y b n r ∈ ad_TB := ad_inT (List.mem_append_left _ (List.mem_of_getElem? h)) rfl
theorem ad_inC2 {y : MethodName} {b : ByteArray} {n : Nat} {r : Option FieldType} (i : Nat) (h : tables_1_2[i]? = some (Cond.code y b n r)) : Cond.code y b n r ∈ ad_TB := ad_inT (List.mem_append_right _ (List.mem_append_left _ (List.mem_of_getElem? h))) rfl
theorem ad_inC3 {y : MethodName} {b : ByteArray} {n : Nat} {r : Option FieldType} (i : Nat) (h : tables_1_3[i]? = some (Cond.code y b n r)) : Cond.code y b n r ∈ ad_TB := ad_inT (List.mem_append_right _ (List.mem_append_right _ (List.mem_append_left _ (List.mem_of_getElem? h)))) rfl
theorem ad_inC4 {y : MethodName} {b : ByteArray} {n : Nat} {r : Option FieldType} (i : Nat) (h : tables_1_4[i]? = some (Cond.code y b n r)) : Cond.code y b n r ∈ ad_TB := ad_inT (List.mem_append_right _ (List.mem_append_right _ (List.mem_append_right _ (List.mem_append_left _ (List.mem_of_getElem? h))))) rfl
theorem ad_inC5 {y : MethodName} {b : ByteArray} {n : Nat} {r : Option FieldType} (i : Nat) (h : tables_1_5[i]? = some (Cond.code y b n r)) : Cond.code y b n r ∈ ad_TB := ad_inT (List.mem_append_right _ (List.mem_append_right _ (List.mem_append_right _ (List.mem_append_right _ (List.mem_append_left _ (List.mem_of_getElem? h)))))) rfl
theorem ad_inC6 {y : MethodName} {b : ByteArray} {n : Nat} {r : Option FieldType} (i : Nat) (h : tables_1_6[i]? = some (Cond.code y b n r)) : Cond.code y b n r ∈ ad_TB := ad_inT (List.mem_append_right _ (List.mem_append_right _ (List.mem_append_right _ (List.mem_append_right _ (List.mem_append_right _ (List.mem_of_getElem? h)))))) rfl
set_option maxRecDepth 100000 in
theorem cw_X7_letter : ad_Cw mX7_letter 1 := ⟨ad_inC2 39 rfl, ad_in 62 (by decide +kernel) rfl, ⟨by decide, by decide, by decide +kernel⟩, by decide⟩
set_option maxRecDepth 100000 in
theorem cw_X7_archive : ad_Cw mX7_archive 0 := ⟨ad_inC2 55 rfl, ad_in 62 (by decide +kernel) rfl, ⟨by decide, by decide, by decide +kernel⟩, by decide⟩
set_option maxRecDepth 100000 in
theorem cw_X7_edits : ad_Cw mX7_edits 3 := ⟨ad_inC3 124 rfl, ad_in 62 (by decide +kernel) rfl, ⟨by decide, by decide, by decide +kernel⟩, by decide⟩
set_option maxRecDepth 100000 in
theorem cw_X7_merges : ad_Cw mX7_merges 2 := ⟨ad_inC3 138 rfl, ad_in 62 (by decide +kernel) rfl, ⟨by decide, by decide, by decide +kernel⟩, by decide⟩
set_option maxRecDepth 100000 in
theorem cw_X7_heads : ad_Cw mX7_heads 2 := ⟨ad_inC3 143 rfl, ad_in 62 (by decide +kernel) rfl, ⟨by decide, by decide, by decide +kernel⟩, by decide⟩
set_option maxRecDepth 100000 in
theorem cw_X7_kind : ad_Cw mX7_kind 2 := ⟨ad_inC3 151 rfl, ad_in 62 (by decide +kernel) rfl, ⟨by decide, by decide, by decide +kernel⟩, by decide⟩
set_option maxRecDepth 100000 in
theorem cw_X7_bound : ad_Cw mX7_bound 1 := ⟨ad_inC3 155 rfl, ad_in 62 (by decide +kernel) rfl, ⟨by decide, by decide, by decide +kernel⟩, by decide⟩
set_option maxRecDepth 100000 in
theorem cw_X7_repack : ad_Cw mX7_repack 0 := ⟨ad_inC3 159 rfl, ad_in 62 (by decide +kernel) rfl, ⟨by decide, by decide, by decide +kernel⟩, by decide⟩
set_option maxRecDepth 100000 in
theorem cw_X7_collect : ad_Cw mX7_collect 0 := ⟨ad_inC3 176 rfl, ad_in 62 (by decide +kernel) rfl, ⟨by decide, by decide, by decide +kernel⟩, by decide⟩
set_option maxRecDepth 100000 in
theorem cw_X7_damages : ad_Cw mX7_damages 3 := ⟨ad_inC3 181 rfl, ad_in 62 (by decide +kernel) rfl, ⟨by decide, by decide, by decide +kernel⟩, by decide⟩
set_option maxRecDepth 100000 in
theorem cw_X7_version : ad_Cw mX7_version 2 := ⟨ad_inC3 188 rfl, ad_in 62 (by decide +kernel) rfl, ⟨by decide, by decide, by decide +kernel⟩, by decide⟩
set_option maxRecDepth 100000 in
theorem cw_X7_spelt : ad_Cw mX7_spelt 2 := ⟨ad_inC3 199 rfl, ad_in 62 (by decide +kernel) rfl, ⟨by decide, by decide, by decide +kernel⟩, by decide⟩
set_option maxRecDepth 100000 in
theorem cw_X7_step : ad_Cw mX7_step 3 := ⟨ad_inC3 203 rfl, ad_in 62 (by decide +kernel) rfl, ⟨by decide, by decide, by decide +kernel⟩, by decide⟩
set_option maxRecDepth 100000 in
theorem cw_X7_delta : ad_Cw mX7_delta 3 := ⟨ad_inC3 207 rfl, ad_in 62 (by decide +kernel) rfl, ⟨by decide, by decide, by decide +kernel⟩, by decide⟩
set_option maxRecDepth 100000 in
theorem cw_X7_repacked : ad_Cw mX7_repacked 1 := ⟨ad_inC3 213 rfl, ad_in 62 (by decide +kernel) rfl, ⟨by decide, by decide, by decide +kernel⟩, by decide⟩
set_option maxRecDepth 100000 in
theorem cw_X7_best : ad_Cw mX7_best 1 := ⟨ad_inC3 217 rfl, ad_in 62 (by decide +kernel) rfl, ⟨by decide, by decide, by decide +kernel⟩, by decide⟩
set_option maxRecDepth 100000 in
theorem cw_X7_bestBase : ad_Cw mX7_bestBase 2 := ⟨ad_inC3 222 rfl, ad_in 62 (by decide +kernel) rfl, ⟨by decide, by decide, by decide +kernel⟩, by decide⟩
set_option maxRecDepth 100000 in
theorem cw_X7_reached : ad_Cw mX7_reached 1 := ⟨ad_inC3 226 rfl, ad_in 62 (by decide +kernel) rfl, ⟨by decide, by decide, by decide +kernel⟩, by decide⟩
set_option maxRecDepth 100000 in
theorem cw_X7_ancestors : ad_Cw mX7_ancestors 1 := ⟨ad_inC4 4 rfl, ad_in 62 (by decide +kernel) rfl, ⟨by decide, by decide, by decide +kernel⟩, by decide⟩
set_option maxRecDepth 100000 in
theorem cw_X7_common : ad_Cw mX7_common 2 := ⟨ad_inC4 8 rfl, ad_in 62 (by decide +kernel) rfl, ⟨by decide, by decide, by decide +kernel⟩, by decide⟩
set_option maxRecDepth 100000 in
theorem cw_X7_generations : ad_Cw mX7_generations 2 := ⟨ad_inC4 12 rfl, ad_in 62 (by decide +kernel) rfl, ⟨by decide, by decide, by decide +kernel⟩, by decide⟩
set_option maxRecDepth 100000 in
theorem cw_X7_twin : ad_Cw mX7_twin 1 := ⟨ad_inC4 23 rfl, ad_in 62 (by decide +kernel) rfl, ⟨by decide, by decide, by decide +kernel⟩, by decide⟩
set_option maxRecDepth 100000 in
theorem cw_X7_fetch : ad_Cw mX7_fetch 3 := ⟨ad_inC4 28 rfl, ad_in 62 (by decide +kernel) rfl, ⟨by decide, by decide, by decide +kernel⟩, by decide⟩
set_option maxRecDepth 100000 in
theorem cw_X7_wrong : ad_Cw mX7_wrong 0 := ⟨ad_inC4 47 rfl, ad_in 62 (by decide +kernel) rfl, ⟨by decide, by decide, by decide +kernel⟩, by decide⟩
set_option maxRecDepth 100000 in
theorem cw_X7_hurt : ad_Cw mX7_hurt 1 := ⟨ad_inC4 51 rfl, ad_in 62 (by decide +kernel) rfl, ⟨by decide, by decide, by decide +kernel⟩, by decide⟩
set_option maxRecDepth 100000 in
theorem cw_X7_lost : ad_Cw mX7_lost 3 := ⟨ad_inC4 56 rfl, ad_in 62 (by decide +kernel) rfl, ⟨by decide, by decide, by decide +kernel⟩, by decide⟩
set_option maxRecDepth 100000 in
theorem cw_X7_mean : ad_Cw mX7_mean 1 := ⟨ad_inC4 65 rfl, ad_in 62 (by decide +kernel) rfl, ⟨by decide, by decide, by decide +kernel⟩, by decide⟩
set_option maxRecDepth 100000 in
theorem cw_X7_whatIs : ad_Cw mX7_whatIs 1 := ⟨ad_inC4 72 rfl, ad_in 62 (by decide +kernel) rfl, ⟨by decide, by decide, by decide +kernel⟩, by decide⟩
set_option maxRecDepth 100000 in
theorem cw_X7_row : ad_Cw mX7_row 1 := ⟨ad_inC4 81 rfl, ad_in 62 (by decide +kernel) rfl, ⟨by decide, by decide, by decide +kernel⟩, by decide⟩
set_option maxRecDepth 100000 in
theorem cw_X7_judge : ad_Cw mX7_judge 1 := ⟨ad_inC4 85 rfl, ad_in 62 (by decide +kernel) rfl, ⟨by decide, by decide, by decide +kernel⟩, by decide⟩
set_option maxRecDepth 100000 in
theorem cw_X7_clear : ad_Cw mX7_clear 0 := ⟨ad_inC4 90 rfl, ad_in 62 (by decide +kernel) rfl, ⟨by decide, by decide, by decide +kernel⟩, by decide⟩
set_option maxRecDepth 100000 in
theorem cw_X7_lots : ad_Cw mX7_lots 3 := ⟨ad_inC4 94 rfl, ad_in 62 (by decide +kernel) rfl, ⟨by decide, by decide, by decide +kernel⟩, by decide⟩
set_option maxRecDepth 100000 in
theorem cw_X7_image : ad_Cw mX7_image 0 := ⟨ad_inC4 118 rfl, ad_in 62 (by decide +kernel) rfl, ⟨by decide, by decide, by decide +kernel⟩, by decide⟩
set_option maxRecDepth 100000 in
theorem cw_X7_on : ad_Cw mX7_on 0 := ⟨ad_inC4 122 rfl, ad_in 62 (by decide +kernel) rfl, ⟨by decide, by decide, by decide +kernel⟩, by decide⟩
set_option maxRecDepth 100000 in
theorem cw_X7_count : ad_Cw mX7_count 1 := ⟨ad_inC4 126 rfl, ad_in 62 (by decide +kernel) rfl, ⟨by decide, by decide, by decide +kernel⟩, by decide⟩
set_option maxRecDepth 100000 in
theorem cw_X7_refuse : ad_Cw mX7_refuse 1 := ⟨ad_inC2 43 rfl, ad_in 62 (by decide +kernel) rfl, ⟨by decide, by decide, by decide +kernel⟩, by decide⟩
set_option maxRecDepth 100000 in
theorem cw_X7_refuseLong : ad_Cw mX7_refuseLong 1 := ⟨ad_inC4 60 rfl, ad_in 62 (by decide +kernel) rfl, ⟨by decide, by decide, by decide +kernel⟩, by decide⟩
set_option maxRecDepth 100000 in
theorem cw_X7_orLacking : ad_Cw mX7_orLacking 1 := ⟨ad_inC3 147 rfl, ad_in 62 (by decide +kernel) rfl, ⟨by decide, by decide, by decide +kernel⟩, by decide⟩
set_option maxRecDepth 100000 in
theorem cw_X7_isHead : ad_Cw mX7_isHead 1 := ⟨ad_inC2 216 rfl, ad_in 62 (by decide +kernel) rfl, ⟨by decide, by decide, by decide +kernel⟩, by decide⟩
set_option maxRecDepth 100000 in
theorem cw_X7_greatestDivisor : ad_Cw mX7_greatestDivisor 2 := ⟨ad_inC4 68 rfl, ad_in 62 (by decide +kernel) rfl, ⟨by decide, by decide, by decide +kernel⟩, by decide⟩
set_option maxRecDepth 100000 in
theorem cw_X7_drawLot : ad_Cw mX7_drawLot 0 := ⟨ad_inC4 98 rfl, ad_in 62 (by decide +kernel) rfl, ⟨by decide, by decide, by decide +kernel⟩, by decide⟩
set_option maxRecDepth 100000 in
theorem cw_X8_no : ad_Cw mX8_no 1 := ⟨ad_inC4 221 rfl, ad_in 71 (by decide +kernel) rfl, ⟨by decide, by decide, by decide +kernel⟩, by decide⟩
set_option maxRecDepth 100000 in
theorem cw_X8_noLong : ad_Cw mX8_noLong 1 := ⟨ad_inC5 225 rfl, ad_in 71 (by decide +kernel) rfl, ⟨by decide, by decide, by decide +kernel⟩, by decide⟩
set_option maxRecDepth 100000 in
theorem cw_X8_isIn : ad_Cw mX8_isIn 3 := ⟨ad_inC4 217 rfl, ad_in 71 (by decide +kernel) rfl, ⟨by decide, by decide, by decide +kernel⟩, by decide⟩
set_option maxRecDepth 100000 in
theorem cw_X8_isThere : ad_Cw mX8_isThere 1 := ⟨ad_inC4 214 rfl, ad_in 71 (by decide +kernel) rfl, ⟨by decide, by decide, by decide +kernel⟩, by decide⟩
set_option maxRecDepth 100000 in
theorem cw_X8_copies : ad_Cw mX8_copies 2 := ⟨ad_inC5 128 rfl, ad_in 71 (by decide +kernel) rfl, ⟨by decide, by decide, by decide +kernel⟩, by decide⟩
set_option maxRecDepth 100000 in
theorem cw_X8_restores : ad_Cw mX8_restores 0 := ⟨ad_inC4 225 rfl, ad_in 71 (by decide +kernel) rfl, ⟨by decide, by decide, by decide +kernel⟩, by decide⟩
set_option maxRecDepth 100000 in
theorem cw_X8_restores_ : ad_Cw mX8_restores_ 1 := ⟨ad_inC4 229 rfl, ad_in 71 (by decide +kernel) rfl, ⟨by decide, by decide, by decide +kernel⟩, by decide⟩
set_option maxRecDepth 100000 in
theorem cw_X8_hash : ad_Cw mX8_hash 1 := ⟨ad_inC5 10 rfl, ad_in 71 (by decide +kernel) rfl, ⟨by decide, by decide, by decide +kernel⟩, by decide⟩
set_option maxRecDepth 100000 in
theorem cw_X8_alike : ad_Cw mX8_alike 4 := ⟨ad_inC5 58 rfl, ad_in 71 (by decide +kernel) rfl, ⟨by decide, by decide, by decide +kernel⟩, by decide⟩
set_option maxRecDepth 100000 in
theorem cw_X8_delta : ad_Cw mX8_delta 2 := ⟨ad_inC5 54 rfl, ad_in 71 (by decide +kernel) rfl, ⟨by decide, by decide, by decide +kernel⟩, by decide⟩
set_option maxRecDepth 100000 in
theorem cw_X8_costOf : ad_Cw mX8_costOf 1 := ⟨ad_inC5 70 rfl, ad_in 71 (by decide +kernel) rfl, ⟨by decide, by decide, by decide +kernel⟩, by decide⟩
set_option maxRecDepth 100000 in
theorem cw_X8_cost : ad_Cw mX8_cost 0 := ⟨ad_inC5 66 rfl, ad_in 71 (by decide +kernel) rfl, ⟨by decide, by decide, by decide +kernel⟩, by decide⟩
set_option maxRecDepth 100000 in
theorem cw_X8_depth : ad_Cw mX8_depth 1 := ⟨ad_inC5 136 rfl, ad_in 71 (by decide +kernel) rfl, ⟨by decide, by decide, by decide +kernel⟩, by decide⟩
set_option maxRecDepth 100000 in
theorem cw_X8_whole : ad_Cw mX8_whole 1 := ⟨ad_inC5 62 rfl, ad_in 71 (by decide +kernel) rfl, ⟨by decide, by decide, by decide +kernel⟩, by decide⟩
set_option maxRecDepth 100000 in
theorem cw_X8_isKind : ad_Cw mX8_isKind 2 := ⟨ad_inC5 42 rfl, ad_in 71 (by decide +kernel) rfl, ⟨by decide, by decide, by decide +kernel⟩, by decide⟩
set_option maxRecDepth 100000 in
theorem cw_X8_isAhead : ad_Cw mX8_isAhead 2 := ⟨ad_inC5 38 rfl, ad_in 71 (by decide +kernel) rfl, ⟨by decide, by decide, by decide +kernel⟩, by decide⟩
set_option maxRecDepth 100000 in
theorem cw_X8_isParent : ad_Cw mX8_isParent 2 := ⟨ad_inC5 50 rfl, ad_in 71 (by decide +kernel) rfl, ⟨by decide, by decide, by decide +kernel⟩, by decide⟩
set_option maxRecDepth 100000 in
theorem cw_X8_may : ad_Cw mX8_may 4 := ⟨ad_inC5 46 rfl, ad_in 71 (by decide +kernel) rfl, ⟨by decide, by decide, by decide +kernel⟩, by decide⟩
set_option maxRecDepth 100000 in
theorem cw_X8_repacks : ad_Cw mX8_repacks 0 := ⟨ad_inC5 34 rfl, ad_in 71 (by decide +kernel) rfl, ⟨by decide, by decide, by decide +kernel⟩, by decide⟩
set_option maxRecDepth 100000 in
theorem cw_X8_comes : ad_Cw mX8_comes 2 := ⟨ad_inC4 238 rfl, ad_in 71 (by decide +kernel) rfl, ⟨by decide, by decide, by decide +kernel⟩, by decide⟩
set_option maxRecDepth 100000 in
theorem cw_X8_adds : ad_Cw mX8_adds 2 := ⟨ad_inC5 2 rfl, ad_in 71 (by decide +kernel) rfl, ⟨by decide, by decide, by decide +kernel⟩, by decide⟩
set_option maxRecDepth 100000 in
theorem cw_X8_hashed : ad_Cw mX8_hashed 1 := ⟨ad_inC5 6 rfl, ad_in 71 (by decide +kernel) rfl, ⟨by decide, by decide, by decide +kernel⟩, by decide⟩
set_option maxRecDepth 100000 in
theorem cw_X8_edited : ad_Cw mX8_edited 3 := ⟨ad_inC4 234 rfl, ad_in 71 (by decide +kernel) rfl, ⟨by decide, by decide, by decide +kernel⟩, by decide⟩
set_option maxRecDepth 100000 in
theorem cw_X8_edits : ad_Cw mX8_edits 3 := ⟨ad_inC4 210 rfl, ad_in 71 (by decide +kernel) rfl, ⟨by decide, by decide, by decide +kernel⟩, by decide⟩
set_option maxRecDepth 100000 in
theorem cw_X8_merges : ad_Cw mX8_merges 2 := ⟨ad_inC5 14 rfl, ad_in 71 (by decide +kernel) rfl, ⟨by decide, by decide, by decide +kernel⟩, by decide⟩
set_option maxRecDepth 100000 in
theorem cw_X8_heads : ad_Cw mX8_heads 2 := ⟨ad_inC5 18 rfl, ad_in 71 (by decide +kernel) rfl, ⟨by decide, by decide, by decide +kernel⟩, by decide⟩
set_option maxRecDepth 100000 in
theorem cw_X8_kind : ad_Cw mX8_kind 2 := ⟨ad_inC5 22 rfl, ad_in 71 (by decide +kernel) rfl, ⟨by decide, by decide, by decide +kernel⟩, by decide⟩
set_option maxRecDepth 100000 in
theorem cw_X8_bound : ad_Cw mX8_bound 1 := ⟨ad_inC5 26 rfl, ad_in 71 (by decide +kernel) rfl, ⟨by decide, by decide, by decide +kernel⟩, by decide⟩
set_option maxRecDepth 100000 in
theorem cw_X8_repack : ad_Cw mX8_repack 0 := ⟨ad_inC5 30 rfl, ad_in 71 (by decide +kernel) rfl, ⟨by decide, by decide, by decide +kernel⟩, by decide⟩
set_option maxRecDepth 100000 in
theorem cw_X8_reachedFrom : ad_Cw mX8_reachedFrom 1 := ⟨ad_inC5 86 rfl, ad_in 71 (by decide +kernel) rfl, ⟨by decide, by decide, by decide +kernel⟩, by decide⟩
set_option maxRecDepth 100000 in
theorem cw_X8_widened : ad_Cw mX8_widened 1 := ⟨ad_inC5 90 rfl, ad_in 71 (by decide +kernel) rfl, ⟨by decide, by decide, by decide +kernel⟩, by decide⟩
set_option maxRecDepth 100000 in
theorem cw_X8_there : ad_Cw mX8_there 0 := ⟨ad_inC5 94 rfl, ad_in 71 (by decide +kernel) rfl, ⟨by decide, by decide, by decide +kernel⟩, by decide⟩
set_option maxRecDepth 100000 in
theorem cw_X8_reachedByHeads : ad_Cw mX8_reachedByHeads 0 := ⟨ad_inC5 82 rfl, ad_in 71 (by decide +kernel) rfl, ⟨by decide, by decide, by decide +kernel⟩, by decide⟩
set_option maxRecDepth 100000 in
theorem cw_X8_ones : ad_Cw mX8_ones 1 := ⟨ad_inC5 97 rfl, ad_in 71 (by decide +kernel) rfl, ⟨by decide, by decide, by decide +kernel⟩, by decide⟩
set_option maxRecDepth 100000 in
theorem cw_X8_collects : ad_Cw mX8_collects 0 := ⟨ad_inC5 78 rfl, ad_in 71 (by decide +kernel) rfl, ⟨by decide, by decide, by decide +kernel⟩, by decide⟩
set_option maxRecDepth 100000 in
theorem cw_X8_collect : ad_Cw mX8_collect 0 := ⟨ad_inC5 74 rfl, ad_in 71 (by decide +kernel) rfl, ⟨by decide, by decide, by decide +kernel⟩, by decide⟩
set_option maxRecDepth 100000 in
theorem cw_X8_damages : ad_Cw mX8_damages 3 := ⟨ad_inC5 101 rfl, ad_in 71 (by decide +kernel) rfl, ⟨by decide, by decide, by decide +kernel⟩, by decide⟩
set_option maxRecDepth 100000 in
theorem cw_X8_letter : ad_Cw mX8_letter 1 := ⟨ad_inC5 105 rfl, ad_in 71 (by decide +kernel) rfl, ⟨by decide, by decide, by decide +kernel⟩, by decide⟩
set_option maxRecDepth 100000 in
theorem cw_X8_isAt : ad_Cw mX8_isAt 2 := ⟨ad_inC5 121 rfl, ad_in 71 (by decide +kernel) rfl, ⟨by decide, by decide, by decide +kernel⟩, by decide⟩
set_option maxRecDepth 100000 in
theorem cw_X8_takes : ad_Cw mX8_takes 2 := ⟨ad_inC5 125 rfl, ad_in 71 (by decide +kernel) rfl, ⟨by decide, by decide, by decide +kernel⟩, by decide⟩
set_option maxRecDepth 100000 in
theorem cw_X8_orNone : ad_Cw mX8_orNone 0 := ⟨ad_inC5 117 rfl, ad_in 71 (by decide +kernel) rfl, ⟨by decide, by decide, by decide +kernel⟩, by decide⟩
set_option maxRecDepth 100000 in
theorem cw_X8_statement : ad_Cw mX8_statement 1 := ⟨ad_inC5 113 rfl, ad_in 71 (by decide +kernel) rfl, ⟨by decide, by decide, by decide +kernel⟩, by decide⟩
set_option maxRecDepth 100000 in
theorem cw_X8_archive : ad_Cw mX8_archive 0 := ⟨ad_inC5 109 rfl, ad_in 71 (by decide +kernel) rfl, ⟨by decide, by decide, by decide +kernel⟩, by decide⟩
set_option maxRecDepth 100000 in
theorem cw_X8_isSound : ad_Cw mX8_isSound 1 := ⟨ad_inC5 140 rfl, ad_in 71 (by decide +kernel) rfl, ⟨by decide, by decide, by decide +kernel⟩, by decide⟩
set_option maxRecDepth 100000 in
theorem cw_X8_version : ad_Cw mX8_version 2 := ⟨ad_inC5 132 rfl, ad_in 71 (by decide +kernel) rfl, ⟨by decide, by decide, by decide +kernel⟩, by decide⟩
set_option maxRecDepth 100000 in
theorem cw_X8_spelt : ad_Cw mX8_spelt 2 := ⟨ad_inC5 144 rfl, ad_in 71 (by decide +kernel) rfl, ⟨by decide, by decide, by decide +kernel⟩, by decide⟩
set_option maxRecDepth 100000 in
theorem cw_X8_step : ad_Cw mX8_step 3 := ⟨ad_inC5 148 rfl, ad_in 71 (by decide +kernel) rfl, ⟨by decide, by decide, by decide +kernel⟩, by decide⟩
set_option maxRecDepth 100000 in
theorem cw_X8_delta_ : ad_Cw mX8_delta_ 3 := ⟨ad_inC5 152 rfl, ad_in 71 (by decide +kernel) rfl, ⟨by decide, by decide, by decide +kernel⟩, by decide⟩
set_option maxRecDepth 100000 in
theorem cw_X8_deepest : ad_Cw mX8_deepest 0 := ⟨ad_inC5 160 rfl, ad_in 71 (by decide +kernel) rfl, ⟨by decide, by decide, by decide +kernel⟩, by decide⟩
set_option maxRecDepth 100000 in
theorem cw_X8_wholes : ad_Cw mX8_wholes 0 := ⟨ad_inC5 164 rfl, ad_in 71 (by decide +kernel) rfl, ⟨by decide, by decide, by decide +kernel⟩, by decide⟩
set_option maxRecDepth 100000 in
theorem cw_X8_repacked : ad_Cw mX8_repacked 1 := ⟨ad_inC5 156 rfl, ad_in 71 (by decide +kernel) rfl, ⟨by decide, by decide, by decide +kernel⟩, by decide⟩
set_option maxRecDepth 100000 in
theorem cw_X8_best : ad_Cw mX8_best 1 := ⟨ad_inC5 168 rfl, ad_in 71 (by decide +kernel) rfl, ⟨by decide, by decide, by decide +kernel⟩, by decide⟩
set_option maxRecDepth 100000 in
theorem cw_X8_bestBase : ad_Cw mX8_bestBase 2 := ⟨ad_inC5 173 rfl, ad_in 71 (by decide +kernel) rfl, ⟨by decide, by decide, by decide +kernel⟩, by decide⟩
set_option maxRecDepth 100000 in
theorem cw_X8_areTwins : ad_Cw mX8_areTwins 2 := ⟨ad_inC5 185 rfl, ad_in 71 (by decide +kernel) rfl, ⟨by decide, by decide, by decide +kernel⟩, by decide⟩
set_option maxRecDepth 100000 in
theorem cw_X8_twinOf : ad_Cw mX8_twinOf 1 := ⟨ad_inC5 181 rfl, ad_in 71 (by decide +kernel) rfl, ⟨by decide, by decide, by decide +kernel⟩, by decide⟩
set_option maxRecDepth 100000 in
theorem cw_X8_reached : ad_Cw mX8_reached 1 := ⟨ad_inC5 177 rfl, ad_in 71 (by decide +kernel) rfl, ⟨by decide, by decide, by decide +kernel⟩, by decide⟩
set_option maxRecDepth 100000 in
theorem cw_X8_ancestors : ad_Cw mX8_ancestors 1 := ⟨ad_inC5 189 rfl, ad_in 71 (by decide +kernel) rfl, ⟨by decide, by decide, by decide +kernel⟩, by decide⟩
set_option maxRecDepth 100000 in
theorem cw_X8_common : ad_Cw mX8_common 2 := ⟨ad_inC5 193 rfl, ad_in 71 (by decide +kernel) rfl, ⟨by decide, by decide, by decide +kernel⟩, by decide⟩
set_option maxRecDepth 100000 in
theorem cw_X8_generations : ad_Cw mX8_generations 2 := ⟨ad_inC5 197 rfl, ad_in 71 (by decide +kernel) rfl, ⟨by decide, by decide, by decide +kernel⟩, by decide⟩
set_option maxRecDepth 100000 in
theorem cw_X8_twin : ad_Cw mX8_twin 1 := ⟨ad_inC5 201 rfl, ad_in 71 (by decide +kernel) rfl, ⟨by decide, by decide, by decide +kernel⟩, by decide⟩
set_option maxRecDepth 100000 in
theorem cw_X8_fetch : ad_Cw mX8_fetch 3 := ⟨ad_inC5 205 rfl, ad_in 71 (by decide +kernel) rfl, ⟨by decide, by decide, by decide +kernel⟩, by decide⟩
set_option maxRecDepth 100000 in
theorem cw_X8_wrong : ad_Cw mX8_wrong 0 := ⟨ad_inC5 209 rfl, ad_in 71 (by decide +kernel) rfl, ⟨by decide, by decide, by decide +kernel⟩, by decide⟩
set_option maxRecDepth 100000 in
theorem cw_X8_needs : ad_Cw mX8_needs 2 := ⟨ad_inC5 217 rfl, ad_in 71 (by decide +kernel) rfl, ⟨by decide, by decide, by decide +kernel⟩, by decide⟩
