-- each method's code is a word of the tables (printed by wip/whole/gen/emit.py)
theorem rvCd_0 : Cond.code (rvM 0).1 (rvM 0).2.1 (rvM 0).2.2.1 (rvM 0).2.2.2.1 ∈ rvT := List.mem_filter.mpr ⟨List.mem_append_right _ (List.mem_append_right _ (List.mem_append_right _ (List.mem_append_left _ (List.mem_of_getElem? (i := 27) (rfl : tables_1_3[27]? = some (Cond.code yX0_begin cX0_begin 4 none)))))), rfl⟩
theorem rvCd_1 : Cond.code (rvM 1).1 (rvM 1).2.1 (rvM 1).2.2.1 (rvM 1).2.2.2.1 ∈ rvT := List.mem_filter.mpr ⟨List.mem_append_right _ (List.mem_append_right _ (List.mem_append_right _ (List.mem_append_left _ (List.mem_of_getElem? (i := 40) (rfl : tables_1_3[40]? = some (Cond.code yX0_restart cX0_restart 2 none)))))), rfl⟩
theorem rvCd_2 : Cond.code (rvM 2).1 (rvM 2).2.1 (rvM 2).2.2.1 (rvM 2).2.2.2.1 ∈ rvT := List.mem_filter.mpr ⟨List.mem_append_right _ (List.mem_append_right _ (List.mem_append_right _ (List.mem_append_left _ (List.mem_of_getElem? (i := 23) (rfl : tables_1_3[23]? = some (Cond.code yX0_workTo cX0_workTo 3 none)))))), rfl⟩
theorem rvCd_3 : Cond.code (rvM 3).1 (rvM 3).2.1 (rvM 3).2.2.1 (rvM 3).2.2.2.1 ∈ rvT := List.mem_filter.mpr ⟨List.mem_append_right _ (List.mem_append_right _ (List.mem_append_right _ (List.mem_append_right _ (List.mem_append_left _ (List.mem_of_getElem? (i := 188) (rfl : tables_1_4[188]? = some (Cond.code yX0_setReleases cX0_setReleases 5 none))))))), rfl⟩
theorem rvCd_4 : Cond.code (rvM 4).1 (rvM 4).2.1 (rvM 4).2.2.1 (rvM 4).2.2.2.1 ∈ rvT := List.mem_filter.mpr ⟨List.mem_append_right _ (List.mem_append_right _ (List.mem_append_right _ (List.mem_append_right _ (List.mem_append_left _ (List.mem_of_getElem? (i := 191) (rfl : tables_1_4[191]? = some (Cond.code yX0_releaseBy cX0_releaseBy 2 (some .int)))))))), rfl⟩
theorem rvCd_5 : Cond.code (rvM 5).1 (rvM 5).2.1 (rvM 5).2.2.1 (rvM 5).2.2.2.1 ∈ rvT := List.mem_filter.mpr ⟨List.mem_append_right _ (List.mem_append_right _ (List.mem_append_right _ (List.mem_append_right _ (List.mem_append_left _ (List.mem_of_getElem? (i := 215) (rfl : tables_1_4[215]? = some (Cond.code yX0_staysBelow cX0_staysBelow 4 (some .boolean)))))))), rfl⟩
theorem rvCd_6 : Cond.code (rvM 6).1 (rvM 6).2.1 (rvM 6).2.2.1 (rvM 6).2.2.2.1 ∈ rvT := List.mem_filter.mpr ⟨List.mem_append_right _ (List.mem_append_right _ (List.mem_append_right _ (List.mem_append_left _ (List.mem_of_getElem? (i := 31) (rfl : tables_1_3[31]? = some (Cond.code yX0_sortHolds cX0_sortHolds 3 none)))))), rfl⟩
theorem rvCd_7 : Cond.code (rvM 7).1 (rvM 7).2.1 (rvM 7).2.2.1 (rvM 7).2.2.2.1 ∈ rvT := List.mem_filter.mpr ⟨List.mem_append_right _ (List.mem_append_right _ (List.mem_append_right _ (List.mem_append_left _ (List.mem_of_getElem? (i := 95) (rfl : tables_1_3[95]? = some (Cond.code yX0_passWater cX0_passWater 4 none)))))), rfl⟩
theorem rvCd_8 : Cond.code (rvM 8).1 (rvM 8).2.1 (rvM 8).2.2.1 (rvM 8).2.2.2.1 ∈ rvT := List.mem_filter.mpr ⟨List.mem_append_right _ (List.mem_append_right _ (List.mem_append_right _ (List.mem_append_left _ (List.mem_of_getElem? (i := 44) (rfl : tables_1_3[44]? = some (Cond.code yX0_readyMonth cX0_readyMonth 5 none)))))), rfl⟩
theorem rvCd_9 : Cond.code (rvM 9).1 (rvM 9).2.1 (rvM 9).2.2.1 (rvM 9).2.2.2.1 ∈ rvT := List.mem_filter.mpr ⟨List.mem_append_right _ (List.mem_append_right _ (List.mem_append_right _ (List.mem_append_left _ (List.mem_of_getElem? (i := 60) (rfl : tables_1_3[60]? = some (Cond.code yX0_textFor cX0_textFor 2 (some (.object "RiverCompact$Text")))))))), rfl⟩
theorem rvCd_10 : Cond.code (rvM 10).1 (rvM 10).2.1 (rvM 10).2.2.1 (rvM 10).2.2.2.1 ∈ rvT := List.mem_filter.mpr ⟨List.mem_append_right _ (List.mem_append_right _ (List.mem_append_right _ (List.mem_append_left _ (List.mem_of_getElem? (i := 87) (rfl : tables_1_3[87]? = some (Cond.code yX0_settleWants cX0_settleWants 5 none)))))), rfl⟩
theorem rvCd_11 : Cond.code (rvM 11).1 (rvM 11).2.1 (rvM 11).2.2.1 (rvM 11).2.2.2.1 ∈ rvT := List.mem_filter.mpr ⟨List.mem_append_right _ (List.mem_append_right _ (List.mem_append_right _ (List.mem_append_left _ (List.mem_of_getElem? (i := 99) (rfl : tables_1_3[99]? = some (Cond.code yX0_gather cX0_gather 5 none)))))), rfl⟩
theorem rvCd_12 : Cond.code (rvM 12).1 (rvM 12).2.1 (rvM 12).2.2.1 (rvM 12).2.2.2.1 ∈ rvT := List.mem_filter.mpr ⟨List.mem_append_right _ (List.mem_append_right _ (List.mem_append_right _ (List.mem_append_left _ (List.mem_of_getElem? (i := 111) (rfl : tables_1_3[111]? = some (Cond.code yX0_passLake cX0_passLake 8 none)))))), rfl⟩
theorem rvCd_13 : Cond.code (rvM 13).1 (rvM 13).2.1 (rvM 13).2.2.1 (rvM 13).2.2.2.1 ∈ rvT := List.mem_filter.mpr ⟨List.mem_append_right _ (List.mem_append_right _ (List.mem_append_right _ (List.mem_append_left _ (List.mem_of_getElem? (i := 124) (rfl : tables_1_3[124]? = some (Cond.code yX0_serve cX0_serve 11 (some .int))))))), rfl⟩
theorem rvCd_14 : Cond.code (rvM 14).1 (rvM 14).2.1 (rvM 14).2.2.1 (rvM 14).2.2.2.1 ∈ rvT := List.mem_filter.mpr ⟨List.mem_append_right _ (List.mem_append_right _ (List.mem_append_right _ (List.mem_append_left _ (List.mem_of_getElem? (i := 120) (rfl : tables_1_3[120]? = some (Cond.code yX0_share cX0_share 3 (some .int))))))), rfl⟩
theorem rvCd_15 : Cond.code (rvM 15).1 (rvM 15).2.1 (rvM 15).2.2.1 (rvM 15).2.2.2.1 ∈ rvT := List.mem_filter.mpr ⟨List.mem_append_right _ (List.mem_append_right _ (List.mem_append_right _ (List.mem_append_left _ (List.mem_of_getElem? (i := 91) (rfl : tables_1_3[91]? = some (Cond.code yX0_levelsAt cX0_levelsAt 4 (some .int))))))), rfl⟩
theorem rvCd_16 : Cond.code (rvM 16).1 (rvM 16).2.1 (rvM 16).2.2.1 (rvM 16).2.2.2.1 ∈ rvT := List.mem_filter.mpr ⟨List.mem_append_right _ (List.mem_append_right _ (List.mem_append_right _ (List.mem_append_left _ (List.mem_of_getElem? (i := 107) (rfl : tables_1_3[107]? = some (Cond.code yX0_returnsOf cX0_returnsOf 3 (some .int))))))), rfl⟩
theorem rvCd_17 : Cond.code (rvM 17).1 (rvM 17).2.1 (rvM 17).2.2.1 (rvM 17).2.2.2.1 ∈ rvT := List.mem_filter.mpr ⟨List.mem_append_right _ (List.mem_append_right _ (List.mem_append_right _ (List.mem_append_left _ (List.mem_of_getElem? (i := 115) (rfl : tables_1_3[115]? = some (Cond.code yX0_steamOf cX0_steamOf 4 (some .int))))))), rfl⟩
theorem rvCd_18 : Cond.code (rvM 18).1 (rvM 18).2.1 (rvM 18).2.2.1 (rvM 18).2.2.2.1 ∈ rvT := List.mem_filter.mpr ⟨List.mem_append_right _ (List.mem_append_right _ (List.mem_append_right _ (List.mem_append_right _ (List.mem_append_left _ (List.mem_of_getElem? (i := 95) (rfl : tables_1_4[95]? = some (Cond.code yX0_headOf cX0_headOf 3 (some .int)))))))), rfl⟩
theorem rvCd_19 : Cond.code (rvM 19).1 (rvM 19).2.1 (rvM 19).2.2.1 (rvM 19).2.2.2.1 ∈ rvT := List.mem_filter.mpr ⟨List.mem_append_right _ (List.mem_append_right _ (List.mem_append_right _ (List.mem_append_right _ (List.mem_append_left _ (List.mem_of_getElem? (i := 99) (rfl : tables_1_4[99]? = some (Cond.code yX0_powerOf cX0_powerOf 3 (some .int)))))))), rfl⟩
theorem rvCd_20 : Cond.code (rvM 20).1 (rvM 20).2.1 (rvM 20).2.2.1 (rvM 20).2.2.2.1 ∈ rvT := List.mem_filter.mpr ⟨List.mem_append_right _ (List.mem_append_right _ (List.mem_append_right _ (List.mem_append_right _ (List.mem_append_left _ (List.mem_of_getElem? (i := 108) (rfl : tables_1_4[108]? = some (Cond.code yX0_sharpOf cX0_sharpOf 3 (some .int)))))))), rfl⟩
theorem rvCd_21 : Cond.code (rvM 21).1 (rvM 21).2.1 (rvM 21).2.2.1 (rvM 21).2.2.2.1 ∈ rvT := List.mem_filter.mpr ⟨List.mem_append_right _ (List.mem_append_right _ (List.mem_append_right _ (List.mem_append_left _ (List.mem_of_getElem? (i := 139) (rfl : tables_1_3[139]? = some (Cond.code yX0_getsOf cX0_getsOf 7 (some .long))))))), rfl⟩
theorem rvCd_22 : Cond.code (rvM 22).1 (rvM 22).2.1 (rvM 22).2.2.1 (rvM 22).2.2.2.1 ∈ rvT := List.mem_filter.mpr ⟨List.mem_append_right _ (List.mem_append_right _ (List.mem_append_right _ (List.mem_append_right _ (List.mem_append_left _ (List.mem_of_getElem? (i := 138) (rfl : tables_1_4[138]? = some (Cond.code yX0_owedOf cX0_owedOf 8 (some .long)))))))), rfl⟩
theorem rvCd_23 : Cond.code (rvM 23).1 (rvM 23).2.1 (rvM 23).2.2.1 (rvM 23).2.2.2.1 ∈ rvT := List.mem_filter.mpr ⟨List.mem_append_right _ (List.mem_append_right _ (List.mem_append_right _ (List.mem_append_right _ (List.mem_append_left _ (List.mem_of_getElem? (i := 121) (rfl : tables_1_4[121]? = some (Cond.code yX0_sumOf cX0_sumOf 6 (some .long)))))))), rfl⟩
theorem rvCd_24 : Cond.code (rvM 24).1 (rvM 24).2.1 (rvM 24).2.2.1 (rvM 24).2.2.2.1 ∈ rvT := List.mem_filter.mpr ⟨List.mem_append_right _ (List.mem_append_right _ (List.mem_append_right _ (List.mem_append_right _ (List.mem_append_left _ (List.mem_of_getElem? (i := 125) (rfl : tables_1_4[125]? = some (Cond.code yX0_partOf cX0_partOf 5 (some .int)))))))), rfl⟩
theorem rvCd_25 : Cond.code (rvM 25).1 (rvM 25).2.1 (rvM 25).2.2.1 (rvM 25).2.2.2.1 ∈ rvT := List.mem_filter.mpr ⟨List.mem_append_right _ (List.mem_append_right _ (List.mem_append_left _ (List.mem_of_getElem? (i := 227) (rfl : tables_1_2[227]? = some (Cond.code yX1_become cX1_become 6 none))))), rfl⟩
theorem rvCd_26 : Cond.code (rvM 26).1 (rvM 26).2.1 (rvM 26).2.2.1 (rvM 26).2.2.2.1 ∈ rvT := List.mem_filter.mpr ⟨List.mem_append_right _ (List.mem_append_right _ (List.mem_append_right _ (List.mem_append_left _ (List.mem_of_getElem? (i := 56) (rfl : tables_1_3[56]? = some (Cond.code yX1_isInForce cX1_isInForce 2 (some .boolean))))))), rfl⟩
theorem rvCd_27 : Cond.code (rvM 27).1 (rvM 27).2.1 (rvM 27).2.2.1 (rvM 27).2.2.2.1 ∈ rvT := List.mem_filter.mpr ⟨List.mem_append_right _ (List.mem_append_right _ (List.mem_append_right _ (List.mem_append_left _ (List.mem_of_getElem? (i := 18) (rfl : tables_1_3[18]? = some (Cond.code yX1_asks cX1_asks 5 (some .int))))))), rfl⟩
theorem rvCd_28 : Cond.code (rvM 28).1 (rvM 28).2.1 (rvM 28).2.2.1 (rvM 28).2.2.2.1 ∈ rvT := List.mem_filter.mpr ⟨List.mem_append_right _ (List.mem_append_right _ (List.mem_append_right _ (List.mem_append_left _ (List.mem_of_getElem? (i := 6) (rfl : tables_1_3[6]? = some (Cond.code yX1_rank cX1_rank 1 (some .int))))))), rfl⟩
theorem rvCd_29 : Cond.code (rvM 29).1 (rvM 29).2.1 (rvM 29).2.2.1 (rvM 29).2.2.2.1 ∈ rvT := List.mem_filter.mpr ⟨List.mem_append_right _ (List.mem_append_right _ (List.mem_append_right _ (List.mem_append_left _ (List.mem_of_getElem? (i := 10) (rfl : tables_1_3[10]? = some (Cond.code yX1_backHundredths cX1_backHundredths 1 (some .int))))))), rfl⟩
theorem rvCd_30 : Cond.code (rvM 30).1 (rvM 30).2.1 (rvM 30).2.2.1 (rvM 30).2.2.2.1 ∈ rvT := List.mem_filter.mpr ⟨List.mem_append_right _ (List.mem_append_right _ (List.mem_append_right _ (List.mem_append_left _ (List.mem_of_getElem? (i := 128) (rfl : tables_1_3[128]? = some (Cond.code yX1_backOf cX1_backOf 2 (some .int))))))), rfl⟩
theorem rvCd_31 : Cond.code (rvM 31).1 (rvM 31).2.1 (rvM 31).2.2.1 (rvM 31).2.2.2.1 ∈ rvT := List.mem_filter.mpr ⟨List.mem_append_right _ (List.mem_append_right _ (List.mem_append_right _ (List.mem_append_right _ (List.mem_append_right _ (List.mem_append_left _ (List.mem_of_getElem? (i := 27) (rfl : tables_1_5[27]? = some (Cond.code yX1_isOf cX1_isOf 4 (some .boolean))))))))), rfl⟩
theorem rvCd_32 : Cond.code (rvM 32).1 (rvM 32).2.1 (rvM 32).2.2.1 (rvM 32).2.2.2.1 ∈ rvT := List.mem_filter.mpr ⟨List.mem_append_right _ (List.mem_append_right _ (List.mem_append_right _ (List.mem_append_left _ (List.mem_of_getElem? (i := 160) (rfl : tables_1_3[160]? = some (Cond.code yX5_parse cX5_parse 1 none)))))), rfl⟩
theorem rvCd_33 : Cond.code (rvM 33).1 (rvM 33).2.1 (rvM 33).2.2.1 (rvM 33).2.2.2.1 ∈ rvT := List.mem_filter.mpr ⟨List.mem_append_right _ (List.mem_append_right _ (List.mem_append_right _ (List.mem_append_right _ (List.mem_append_left _ (List.mem_of_getElem? (i := 62) (rfl : tables_1_4[62]? = some (Cond.code yX5_handOver cX5_handOver 2 none))))))), rfl⟩
theorem rvCd_34 : Cond.code (rvM 34).1 (rvM 34).2.1 (rvM 34).2.2.1 (rvM 34).2.2.2.1 ∈ rvT := List.mem_filter.mpr ⟨List.mem_append_right _ (List.mem_append_right _ (List.mem_append_right _ (List.mem_append_left _ (List.mem_of_getElem? (i := 164) (rfl : tables_1_3[164]? = some (Cond.code yX5_findTokens cX5_findTokens 5 none)))))), rfl⟩
theorem rvCd_35 : Cond.code (rvM 35).1 (rvM 35).2.1 (rvM 35).2.2.1 (rvM 35).2.2.2.1 ∈ rvT := List.mem_filter.mpr ⟨List.mem_append_right _ (List.mem_append_right _ (List.mem_append_right _ (List.mem_append_left _ (List.mem_of_getElem? (i := 168) (rfl : tables_1_3[168]? = some (Cond.code yX5_lengthAt cX5_lengthAt 3 (some .int))))))), rfl⟩
theorem rvCd_36 : Cond.code (rvM 36).1 (rvM 36).2.1 (rvM 36).2.2.1 (rvM 36).2.2.2.1 ∈ rvT := List.mem_filter.mpr ⟨List.mem_append_right _ (List.mem_append_right _ (List.mem_append_right _ (List.mem_append_left _ (List.mem_of_getElem? (i := 179) (rfl : tables_1_3[179]? = some (Cond.code yX5_tokenAt cX5_tokenAt 3 (some .int))))))), rfl⟩
theorem rvCd_37 : Cond.code (rvM 37).1 (rvM 37).2.1 (rvM 37).2.2.1 (rvM 37).2.2.2.1 ∈ rvT := List.mem_filter.mpr ⟨List.mem_append_right _ (List.mem_append_right _ (List.mem_append_right _ (List.mem_append_left _ (List.mem_of_getElem? (i := 183) (rfl : tables_1_3[183]? = some (Cond.code yX5_wordAt cX5_wordAt 3 (some .int))))))), rfl⟩
theorem rvCd_38 : Cond.code (rvM 38).1 (rvM 38).2.1 (rvM 38).2.2.1 (rvM 38).2.2.2.1 ∈ rvT := List.mem_filter.mpr ⟨List.mem_append_right _ (List.mem_append_right _ (List.mem_append_right _ (List.mem_append_left _ (List.mem_of_getElem? (i := 188) (rfl : tables_1_3[188]? = some (Cond.code yX5_isWord cX5_isWord 5 (some .boolean))))))), rfl⟩
theorem rvCd_39 : Cond.code (rvM 39).1 (rvM 39).2.1 (rvM 39).2.2.1 (rvM 39).2.2.2.1 ∈ rvT := List.mem_filter.mpr ⟨List.mem_append_right _ (List.mem_append_right _ (List.mem_append_right _ (List.mem_append_right _ (List.mem_append_left _ (List.mem_of_getElem? (i := 10) (rfl : tables_1_4[10]? = some (Cond.code yX5_numberAt cX5_numberAt 5 (some .int)))))))), rfl⟩
theorem rvCd_40 : Cond.code (rvM 40).1 (rvM 40).2.1 (rvM 40).2.2.1 (rvM 40).2.2.2.1 ∈ rvT := List.mem_filter.mpr ⟨List.mem_append_right _ (List.mem_append_right _ (List.mem_append_right _ (List.mem_append_left _ (List.mem_of_getElem? (i := 171) (rfl : tables_1_3[171]? = some (Cond.code yX5_isLetter cX5_isLetter 1 (some .boolean))))))), rfl⟩
theorem rvCd_41 : Cond.code (rvM 41).1 (rvM 41).2.1 (rvM 41).2.2.1 (rvM 41).2.2.2.1 ∈ rvT := List.mem_filter.mpr ⟨List.mem_append_right _ (List.mem_append_right _ (List.mem_append_right _ (List.mem_append_left _ (List.mem_of_getElem? (i := 175) (rfl : tables_1_3[175]? = some (Cond.code yX5_isDigit cX5_isDigit 1 (some .boolean))))))), rfl⟩
theorem rvCd_42 : Cond.code (rvM 42).1 (rvM 42).2.1 (rvM 42).2.2.1 (rvM 42).2.2.2.1 ∈ rvT := List.mem_filter.mpr ⟨List.mem_append_right _ (List.mem_append_right _ (List.mem_append_right _ (List.mem_append_right _ (List.mem_append_left _ (List.mem_of_getElem? (i := 22) (rfl : tables_1_4[22]? = some (Cond.code yX5_peek cX5_peek 1 (some .int)))))))), rfl⟩
theorem rvCd_43 : Cond.code (rvM 43).1 (rvM 43).2.1 (rvM 43).2.2.1 (rvM 43).2.2.2.1 ∈ rvT := List.mem_filter.mpr ⟨List.mem_append_right _ (List.mem_append_right _ (List.mem_append_right _ (List.mem_append_right _ (List.mem_append_left _ (List.mem_of_getElem? (i := 18) (rfl : tables_1_4[18]? = some (Cond.code yX5_accept cX5_accept 2 (some .boolean)))))))), rfl⟩
theorem rvCd_44 : Cond.code (rvM 44).1 (rvM 44).2.1 (rvM 44).2.2.1 (rvM 44).2.2.2.1 ∈ rvT := List.mem_filter.mpr ⟨List.mem_append_right _ (List.mem_append_right _ (List.mem_append_right _ (List.mem_append_right _ (List.mem_append_left _ (List.mem_of_getElem? (i := 14) (rfl : tables_1_4[14]? = some (Cond.code yX5_expect cX5_expect 2 none))))))), rfl⟩
theorem rvCd_45 : Cond.code (rvM 45).1 (rvM 45).2.1 (rvM 45).2.2.1 (rvM 45).2.2.2.1 ∈ rvT := List.mem_filter.mpr ⟨List.mem_append_right _ (List.mem_append_right _ (List.mem_append_right _ (List.mem_append_right _ (List.mem_append_left _ (List.mem_of_getElem? (i := 26) (rfl : tables_1_4[26]? = some (Cond.code yX5_fail cX5_fail 1 none))))))), rfl⟩
theorem rvCd_46 : Cond.code (rvM 46).1 (rvM 46).2.1 (rvM 46).2.2.1 (rvM 46).2.2.2.1 ∈ rvT := List.mem_filter.mpr ⟨List.mem_append_right _ (List.mem_append_right _ (List.mem_append_right _ (List.mem_append_right _ (List.mem_append_left _ (List.mem_of_getElem? (i := 46) (rfl : tables_1_4[46]? = some (Cond.code yX5_write cX5_write 2 none))))))), rfl⟩
theorem rvCd_47 : Cond.code (rvM 47).1 (rvM 47).2.1 (rvM 47).2.2.1 (rvM 47).2.2.2.1 ∈ rvT := List.mem_filter.mpr ⟨List.mem_append_right _ (List.mem_append_right _ (List.mem_append_right _ (List.mem_append_right _ (List.mem_append_left _ (List.mem_of_getElem? (i := 42) (rfl : tables_1_4[42]? = some (Cond.code yX5_enter cX5_enter 2 (some .boolean)))))))), rfl⟩
theorem rvCd_48 : Cond.code (rvM 48).1 (rvM 48).2.1 (rvM 48).2.2.1 (rvM 48).2.2.2.1 ∈ rvT := List.mem_filter.mpr ⟨List.mem_append_right _ (List.mem_append_right _ (List.mem_append_right _ (List.mem_append_right _ (List.mem_append_left _ (List.mem_of_getElem? (i := 30) (rfl : tables_1_4[30]? = some (Cond.code yX5_parseOr cX5_parseOr 2 none))))))), rfl⟩
theorem rvCd_49 : Cond.code (rvM 49).1 (rvM 49).2.1 (rvM 49).2.2.1 (rvM 49).2.2.2.1 ∈ rvT := List.mem_filter.mpr ⟨List.mem_append_right _ (List.mem_append_right _ (List.mem_append_right _ (List.mem_append_right _ (List.mem_append_left _ (List.mem_of_getElem? (i := 34) (rfl : tables_1_4[34]? = some (Cond.code yX5_parseAnd cX5_parseAnd 2 none))))))), rfl⟩
theorem rvCd_50 : Cond.code (rvM 50).1 (rvM 50).2.1 (rvM 50).2.2.1 (rvM 50).2.2.2.1 ∈ rvT := List.mem_filter.mpr ⟨List.mem_append_right _ (List.mem_append_right _ (List.mem_append_right _ (List.mem_append_right _ (List.mem_append_left _ (List.mem_of_getElem? (i := 38) (rfl : tables_1_4[38]? = some (Cond.code yX5_parseNot cX5_parseNot 2 none))))))), rfl⟩
theorem rvCd_51 : Cond.code (rvM 51).1 (rvM 51).2.1 (rvM 51).2.2.1 (rvM 51).2.2.2.1 ∈ rvT := List.mem_filter.mpr ⟨List.mem_append_right _ (List.mem_append_right _ (List.mem_append_right _ (List.mem_append_right _ (List.mem_append_left _ (List.mem_of_getElem? (i := 50) (rfl : tables_1_4[50]? = some (Cond.code yX5_parseSum cX5_parseSum 3 none))))))), rfl⟩
theorem rvCd_52 : Cond.code (rvM 52).1 (rvM 52).2.1 (rvM 52).2.2.1 (rvM 52).2.2.2.1 ∈ rvT := List.mem_filter.mpr ⟨List.mem_append_right _ (List.mem_append_right _ (List.mem_append_right _ (List.mem_append_right _ (List.mem_append_left _ (List.mem_of_getElem? (i := 54) (rfl : tables_1_4[54]? = some (Cond.code yX5_parseTerm cX5_parseTerm 2 none))))))), rfl⟩
theorem rvCd_53 : Cond.code (rvM 53).1 (rvM 53).2.1 (rvM 53).2.2.1 (rvM 53).2.2.2.1 ∈ rvT := List.mem_filter.mpr ⟨List.mem_append_right _ (List.mem_append_right _ (List.mem_append_right _ (List.mem_append_right _ (List.mem_append_left _ (List.mem_of_getElem? (i := 58) (rfl : tables_1_4[58]? = some (Cond.code yX5_parseOne cX5_parseOne 2 none))))))), rfl⟩
theorem rvCd_54 : Cond.code (rvM 54).1 (rvM 54).2.1 (rvM 54).2.2.1 (rvM 54).2.2.2.1 ∈ rvT := List.mem_filter.mpr ⟨List.mem_append_right _ (List.mem_append_right _ (List.mem_append_right _ (List.mem_append_right _ (List.mem_append_left _ (List.mem_of_getElem? (i := 232) (rfl : tables_1_4[232]? = some (Cond.code yX6_become cX6_become 3 none))))))), rfl⟩
theorem rvCd_55 : Cond.code (rvM 55).1 (rvM 55).2.1 (rvM 55).2.2.1 (rvM 55).2.2.2.1 ∈ rvT := List.mem_filter.mpr ⟨List.mem_append_right _ (List.mem_append_right _ (List.mem_append_right _ (List.mem_append_right _ (List.mem_append_right _ (List.mem_append_left _ (List.mem_of_getElem? (i := 1) (rfl : tables_1_5[1]? = some (Cond.code yX6_has cX6_has 2 (some .boolean))))))))), rfl⟩
theorem rvCd_56 : Cond.code (rvM 56).1 (rvM 56).2.1 (rvM 56).2.2.1 (rvM 56).2.2.2.1 ∈ rvT := List.mem_filter.mpr ⟨List.mem_append_right _ (List.mem_append_right _ (List.mem_append_right _ (List.mem_append_right _ (List.mem_append_right _ (List.mem_append_left _ (List.mem_of_getElem? (i := 13) (rfl : tables_1_5[13]? = some (Cond.code yX6_hasRun cX6_hasRun 3 (some .boolean))))))))), rfl⟩
theorem rvCd_57 : Cond.code (rvM 57).1 (rvM 57).2.1 (rvM 57).2.2.1 (rvM 57).2.2.2.1 ∈ rvT := List.mem_filter.mpr ⟨List.mem_append_right _ (List.mem_append_right _ (List.mem_append_right _ (List.mem_append_right _ (List.mem_append_right _ (List.mem_append_left _ (List.mem_of_getElem? (i := 5) (rfl : tables_1_5[5]? = some (Cond.code yX6_put cX6_put 3 none)))))))), rfl⟩
theorem rvCd_58 : Cond.code (rvM 58).1 (rvM 58).2.1 (rvM 58).2.2.1 (rvM 58).2.2.2.1 ∈ rvT := List.mem_filter.mpr ⟨List.mem_append_right _ (List.mem_append_right _ (List.mem_append_right _ (List.mem_append_left _ (List.mem_of_getElem? (i := 73) (rfl : tables_1_3[73]? = some (Cond.code yX7_worth cX7_worth 8 (some .int))))))), rfl⟩
theorem rvCd_59 : Cond.code (rvM 59).1 (rvM 59).2.1 (rvM 59).2.2.1 (rvM 59).2.2.2.1 ∈ rvT := List.mem_filter.mpr ⟨List.mem_append_right _ (List.mem_append_right _ (List.mem_append_right _ (List.mem_append_left _ (List.mem_of_getElem? (i := 76) (rfl : tables_1_3[76]? = some (Cond.code yX7_joined cX7_joined 3 (some .int))))))), rfl⟩
theorem rvCd_60 : Cond.code (rvM 60).1 (rvM 60).2.1 (rvM 60).2.2.1 (rvM 60).2.2.2.1 ∈ rvT := List.mem_filter.mpr ⟨List.mem_append_right _ (List.mem_append_right _ (List.mem_append_right _ (List.mem_append_left _ (List.mem_of_getElem? (i := 103) (rfl : tables_1_3[103]? = some (Cond.code yX8_sideOf cX8_sideOf 3 (some .int))))))), rfl⟩
theorem rvCd_61 : Cond.code (rvM 61).1 (rvM 61).2.1 (rvM 61).2.2.1 (rvM 61).2.2.2.1 ∈ rvT := List.mem_filter.mpr ⟨List.mem_append_right _ (List.mem_append_right _ (List.mem_append_left _ (List.mem_of_getElem? (i := 205) (rfl : tables_1_2[205]? = some (Cond.code yX8_readOf cX8_readOf 5 (some .int)))))), rfl⟩
theorem rvCd_62 : Cond.code (rvM 62).1 (rvM 62).2.1 (rvM 62).2.2.1 (rvM 62).2.2.2.1 ∈ rvT := List.mem_filter.mpr ⟨List.mem_append_right _ (List.mem_append_right _ (List.mem_append_right _ (List.mem_append_right _ (List.mem_append_left _ (List.mem_of_getElem? (i := 183) (rfl : tables_1_4[183]? = some (Cond.code yX8_lakeCount cX8_lakeCount 3 (some .int)))))))), rfl⟩
theorem rvCd_63 : Cond.code (rvM 63).1 (rvM 63).2.1 (rvM 63).2.2.1 (rvM 63).2.2.2.1 ∈ rvT := List.mem_filter.mpr ⟨List.mem_append_right _ (List.mem_append_right _ (List.mem_append_right _ (List.mem_append_left _ (List.mem_of_getElem? (i := 48) (rfl : tables_1_3[48]? = some (Cond.code yX8_shutIn cX8_shutIn 5 (some .int))))))), rfl⟩
theorem rvCd_64 : Cond.code (rvM 64).1 (rvM 64).2.1 (rvM 64).2.2.1 (rvM 64).2.2.2.1 ∈ rvT := List.mem_filter.mpr ⟨List.mem_append_right _ (List.mem_append_right _ (List.mem_append_right _ (List.mem_append_left _ (List.mem_of_getElem? (i := 52) (rfl : tables_1_3[52]? = some (Cond.code yX8_shutBy cX8_shutBy 4 (some .int))))))), rfl⟩
theorem rvCd_65 : Cond.code (rvM 65).1 (rvM 65).2.1 (rvM 65).2.2.1 (rvM 65).2.2.2.1 ∈ rvT := List.mem_filter.mpr ⟨List.mem_append_right _ (List.mem_append_right _ (List.mem_append_right _ (List.mem_append_left _ (List.mem_of_getElem? (i := 35) (rfl : tables_1_3[35]? = some (Cond.code yX8_isAhead cX8_isAhead 5 (some .boolean))))))), rfl⟩
theorem rvCd_66 : Cond.code (rvM 66).1 (rvM 66).2.1 (rvM 66).2.2.1 (rvM 66).2.2.2.1 ∈ rvT := List.mem_filter.mpr ⟨List.mem_append_right _ (List.mem_append_right _ (List.mem_append_right _ (List.mem_append_left _ (List.mem_of_getElem? (i := 68) (rfl : tables_1_3[68]? = some (Cond.code yX8_setNames cX8_setNames 5 none)))))), rfl⟩
theorem rvCd_67 : Cond.code (rvM 67).1 (rvM 67).2.1 (rvM 67).2.2.1 (rvM 67).2.2.2.1 ∈ rvT := List.mem_filter.mpr ⟨List.mem_append_right _ (List.mem_append_right _ (List.mem_append_right _ (List.mem_append_left _ (List.mem_of_getElem? (i := 64) (rfl : tables_1_3[64]? = some (Cond.code yX8_wantsBy cX8_wantsBy 7 (some .int))))))), rfl⟩
theorem rvCd_68 : Cond.code (rvM 68).1 (rvM 68).2.1 (rvM 68).2.2.1 (rvM 68).2.2.2.1 ∈ rvT := List.mem_filter.mpr ⟨List.mem_append_right _ (List.mem_append_right _ (List.mem_append_left _ (List.mem_of_getElem? (i := 175) (rfl : tables_1_2[175]? = some (Cond.code yX9_side cX9_side 6 (some .int)))))), rfl⟩
theorem rvCd_69 : Cond.code (rvM 69).1 (rvM 69).2.1 (rvM 69).2.2.1 (rvM 69).2.2.2.1 ∈ rvT := List.mem_filter.mpr ⟨List.mem_append_right _ (List.mem_append_right _ (List.mem_append_left _ (List.mem_of_getElem? (i := 185) (rfl : tables_1_2[185]? = some (Cond.code yX9_salt cX9_salt 4 (some .int)))))), rfl⟩
theorem rvCd_70 : Cond.code (rvM 70).1 (rvM 70).2.1 (rvM 70).2.2.1 (rvM 70).2.2.2.1 ∈ rvT := List.mem_filter.mpr ⟨List.mem_append_right _ (List.mem_append_right _ (List.mem_append_left _ (List.mem_of_getElem? (i := 189) (rfl : tables_1_2[189]? = some (Cond.code yX9_flood cX9_flood 4 (some .int)))))), rfl⟩
theorem rvCd_71 : Cond.code (rvM 71).1 (rvM 71).2.1 (rvM 71).2.2.1 (rvM 71).2.2.2.1 ∈ rvT := List.mem_filter.mpr ⟨List.mem_append_right _ (List.mem_append_right _ (List.mem_append_left _ (List.mem_of_getElem? (i := 196) (rfl : tables_1_2[196]? = some (Cond.code yX9_gauge cX9_gauge 4 (some .int)))))), rfl⟩
theorem rvCd_72 : Cond.code (rvM 72).1 (rvM 72).2.1 (rvM 72).2.2.1 (rvM 72).2.2.2.1 ∈ rvT := List.mem_filter.mpr ⟨List.mem_append_right _ (List.mem_append_right _ (List.mem_append_left _ (List.mem_of_getElem? (i := 201) (rfl : tables_1_2[201]? = some (Cond.code yX9_read cX9_read 3 (some .int)))))), rfl⟩
theorem rvCd_73 : Cond.code (rvM 73).1 (rvM 73).2.1 (rvM 73).2.2.1 (rvM 73).2.2.2.1 ∈ rvT := List.mem_filter.mpr ⟨List.mem_append_right _ (List.mem_append_right _ (List.mem_append_left _ (List.mem_of_getElem? (i := 209) (rfl : tables_1_2[209]? = some (Cond.code yX9_lake cX9_lake 8 (some .int)))))), rfl⟩
theorem rvCd_74 : Cond.code (rvM 74).1 (rvM 74).2.1 (rvM 74).2.2.1 (rvM 74).2.2.2.1 ∈ rvT := List.mem_filter.mpr ⟨List.mem_append_right _ (List.mem_append_right _ (List.mem_append_left _ (List.mem_of_getElem? (i := 213) (rfl : tables_1_2[213]? = some (Cond.code yX9_release cX9_release 5 (some .int)))))), rfl⟩
theorem rvCd_75 : Cond.code (rvM 75).1 (rvM 75).2.1 (rvM 75).2.2.1 (rvM 75).2.2.2.1 ∈ rvT := List.mem_filter.mpr ⟨List.mem_append_right _ (List.mem_append_right _ (List.mem_append_left _ (List.mem_of_getElem? (i := 217) (rfl : tables_1_2[217]? = some (Cond.code yX9_hold cX9_hold 6 (some .int)))))), rfl⟩
theorem rvCd_76 : Cond.code (rvM 76).1 (rvM 76).2.1 (rvM 76).2.2.1 (rvM 76).2.2.2.1 ∈ rvT := List.mem_filter.mpr ⟨List.mem_append_right _ (List.mem_append_right _ (List.mem_append_left _ (List.mem_of_getElem? (i := 231) (rfl : tables_1_2[231]? = some (Cond.code yX9_force cX9_force 4 (some .int)))))), rfl⟩
theorem rvCd_77 : Cond.code (rvM 77).1 (rvM 77).2.1 (rvM 77).2.2.1 (rvM 77).2.2.2.1 ∈ rvT := List.mem_filter.mpr ⟨List.mem_append_right _ (List.mem_append_right _ (List.mem_append_right _ (List.mem_append_left _ (List.mem_of_getElem? (i := 2) (rfl : tables_1_3[2]? = some (Cond.code yX9_holdTold cX9_holdTold 4 (some .int))))))), rfl⟩
theorem rvCd_78 : Cond.code (rvM 78).1 (rvM 78).2.1 (rvM 78).2.2.1 (rvM 78).2.2.2.1 ∈ rvT := List.mem_filter.mpr ⟨List.mem_append_right _ (List.mem_append_right _ (List.mem_append_right _ (List.mem_append_left _ (List.mem_of_getElem? (i := 14) (rfl : tables_1_3[14]? = some (Cond.code yX9_takes cX9_takes 6 (some .int))))))), rfl⟩
theorem rvCd_79 : Cond.code (rvM 79).1 (rvM 79).2.1 (rvM 79).2.2.1 (rvM 79).2.2.2.1 ∈ rvT := List.mem_filter.mpr ⟨List.mem_append_right _ (List.mem_append_right _ (List.mem_append_right _ (List.mem_append_left _ (List.mem_of_getElem? (i := 134) (rfl : tables_1_3[134]? = some (Cond.code yX9_all cX9_all 4 (some .long))))))), rfl⟩
theorem rvCd_80 : Cond.code (rvM 80).1 (rvM 80).2.1 (rvM 80).2.2.1 (rvM 80).2.2.2.1 ∈ rvT := List.mem_filter.mpr ⟨List.mem_append_right _ (List.mem_append_right _ (List.mem_append_right _ (List.mem_append_left _ (List.mem_of_getElem? (i := 143) (rfl : tables_1_3[143]? = some (Cond.code yX9_call cX9_call 3 (some .int))))))), rfl⟩
theorem rvCd_81 : Cond.code (rvM 81).1 (rvM 81).2.1 (rvM 81).2.2.1 (rvM 81).2.2.2.1 ∈ rvT := List.mem_filter.mpr ⟨List.mem_append_right _ (List.mem_append_right _ (List.mem_append_right _ (List.mem_append_left _ (List.mem_of_getElem? (i := 147) (rfl : tables_1_3[147]? = some (Cond.code yX9_helps cX9_helps 4 (some .int))))))), rfl⟩
theorem rvCd_82 : Cond.code (rvM 82).1 (rvM 82).2.1 (rvM 82).2.2.1 (rvM 82).2.2.2.1 ∈ rvT := List.mem_filter.mpr ⟨List.mem_append_right _ (List.mem_append_right _ (List.mem_append_right _ (List.mem_append_left _ (List.mem_of_getElem? (i := 152) (rfl : tables_1_3[152]? = some (Cond.code yX9_feed cX9_feed 5 (some .int))))))), rfl⟩
theorem rvCd_83 : Cond.code (rvM 83).1 (rvM 83).2.1 (rvM 83).2.2.1 (rvM 83).2.2.2.1 ∈ rvT := List.mem_filter.mpr ⟨List.mem_append_right _ (List.mem_append_right _ (List.mem_append_right _ (List.mem_append_left _ (List.mem_of_getElem? (i := 156) (rfl : tables_1_3[156]? = some (Cond.code yX9_text cX9_text 1 (some .int))))))), rfl⟩
theorem rvCd_84 : Cond.code (rvM 84).1 (rvM 84).2.1 (rvM 84).2.2.1 (rvM 84).2.2.2.1 ∈ rvT := List.mem_filter.mpr ⟨List.mem_append_right _ (List.mem_append_right _ (List.mem_append_right _ (List.mem_append_right _ (List.mem_append_left _ (List.mem_of_getElem? (i := 69) (rfl : tables_1_4[69]? = some (Cond.code yX9_rule cX9_rule 4 (some .int)))))))), rfl⟩
theorem rvCd_85 : Cond.code (rvM 85).1 (rvM 85).2.1 (rvM 85).2.2.1 (rvM 85).2.2.2.1 ∈ rvT := List.mem_filter.mpr ⟨List.mem_append_right _ (List.mem_append_right _ (List.mem_append_right _ (List.mem_append_right _ (List.mem_append_left _ (List.mem_of_getElem? (i := 77) (rfl : tables_1_4[77]? = some (Cond.code yX9_says cX9_says 5 (some .long)))))))), rfl⟩
theorem rvCd_86 : Cond.code (rvM 86).1 (rvM 86).2.1 (rvM 86).2.2.1 (rvM 86).2.2.2.1 ∈ rvT := List.mem_filter.mpr ⟨List.mem_append_right _ (List.mem_append_right _ (List.mem_append_right _ (List.mem_append_right _ (List.mem_append_left _ (List.mem_of_getElem? (i := 84) (rfl : tables_1_4[84]? = some (Cond.code yX9_told cX9_told 5 (some .int)))))))), rfl⟩
theorem rvCd_87 : Cond.code (rvM 87).1 (rvM 87).2.1 (rvM 87).2.2.1 (rvM 87).2.2.2.1 ∈ rvT := List.mem_filter.mpr ⟨List.mem_append_right _ (List.mem_append_right _ (List.mem_append_right _ (List.mem_append_right _ (List.mem_append_left _ (List.mem_of_getElem? (i := 90) (rfl : tables_1_4[90]? = some (Cond.code yX9_lakeTold cX9_lakeTold 5 (some .int)))))))), rfl⟩
theorem rvCd_88 : Cond.code (rvM 88).1 (rvM 88).2.1 (rvM 88).2.2.1 (rvM 88).2.2.2.1 ∈ rvT := List.mem_filter.mpr ⟨List.mem_append_right _ (List.mem_append_right _ (List.mem_append_right _ (List.mem_append_right _ (List.mem_append_left _ (List.mem_of_getElem? (i := 104) (rfl : tables_1_4[104]? = some (Cond.code yX9_sharp cX9_sharp 2 (some .int)))))))), rfl⟩
theorem rvCd_89 : Cond.code (rvM 89).1 (rvM 89).2.1 (rvM 89).2.2.1 (rvM 89).2.2.2.1 ∈ rvT := List.mem_filter.mpr ⟨List.mem_append_right _ (List.mem_append_right _ (List.mem_append_right _ (List.mem_append_right _ (List.mem_append_left _ (List.mem_of_getElem? (i := 117) (rfl : tables_1_4[117]? = some (Cond.code yX9_sum cX9_sum 2 (some .long)))))))), rfl⟩
theorem rvCd_90 : Cond.code (rvM 90).1 (rvM 90).2.1 (rvM 90).2.2.1 (rvM 90).2.2.2.1 ∈ rvT := List.mem_filter.mpr ⟨List.mem_append_right _ (List.mem_append_right _ (List.mem_append_right _ (List.mem_append_right _ (List.mem_append_left _ (List.mem_of_getElem? (i := 130) (rfl : tables_1_4[130]? = some (Cond.code yX9_owed cX9_owed 5 (some .long)))))))), rfl⟩
theorem rvCd_91 : Cond.code (rvM 91).1 (rvM 91).2.1 (rvM 91).2.2.1 (rvM 91).2.2.2.1 ∈ rvT := List.mem_filter.mpr ⟨List.mem_append_right _ (List.mem_append_right _ (List.mem_append_right _ (List.mem_append_right _ (List.mem_append_left _ (List.mem_of_getElem? (i := 145) (rfl : tables_1_4[145]? = some (Cond.code yX9_breaks cX9_breaks 5 (some .int)))))))), rfl⟩
theorem rvCd_92 : Cond.code (rvM 92).1 (rvM 92).2.1 (rvM 92).2.2.1 (rvM 92).2.2.2.1 ∈ rvT := List.mem_filter.mpr ⟨List.mem_append_right _ (List.mem_append_right _ (List.mem_append_right _ (List.mem_append_right _ (List.mem_append_left _ (List.mem_of_getElem? (i := 149) (rfl : tables_1_4[149]? = some (Cond.code yX9_found cX9_found 6 (some .int)))))))), rfl⟩
theorem rvCd_93 : Cond.code (rvM 93).1 (rvM 93).2.1 (rvM 93).2.2.1 (rvM 93).2.2.2.1 ∈ rvT := List.mem_filter.mpr ⟨List.mem_append_right _ (List.mem_append_right _ (List.mem_append_right _ (List.mem_append_right _ (List.mem_append_left _ (List.mem_of_getElem? (i := 157) (rfl : tables_1_4[157]? = some (Cond.code yX9_sold cX9_sold 3 (some .int)))))))), rfl⟩
theorem rvCd_94 : Cond.code (rvM 94).1 (rvM 94).2.1 (rvM 94).2.2.1 (rvM 94).2.2.2.1 ∈ rvT := List.mem_filter.mpr ⟨List.mem_append_right _ (List.mem_append_right _ (List.mem_append_right _ (List.mem_append_right _ (List.mem_append_left _ (List.mem_of_getElem? (i := 165) (rfl : tables_1_4[165]? = some (Cond.code yX9_harm cX9_harm 6 (some .long)))))))), rfl⟩
theorem rvCd_95 : Cond.code (rvM 95).1 (rvM 95).2.1 (rvM 95).2.2.1 (rvM 95).2.2.2.1 ∈ rvT := List.mem_filter.mpr ⟨List.mem_append_right _ (List.mem_append_right _ (List.mem_append_right _ (List.mem_append_right _ (List.mem_append_left _ (List.mem_of_getElem? (i := 170) (rfl : tables_1_4[170]? = some (Cond.code yX9_unlike cX9_unlike 5 (some .long)))))))), rfl⟩
theorem rvCd_96 : Cond.code (rvM 96).1 (rvM 96).2.1 (rvM 96).2.2.1 (rvM 96).2.2.2.1 ∈ rvT := List.mem_filter.mpr ⟨List.mem_append_right _ (List.mem_append_right _ (List.mem_append_right _ (List.mem_append_right _ (List.mem_append_left _ (List.mem_of_getElem? (i := 178) (rfl : tables_1_4[178]? = some (Cond.code yX9_held cX9_held 10 (some .long)))))))), rfl⟩
theorem rvCd_97 : Cond.code (rvM 97).1 (rvM 97).2.1 (rvM 97).2.2.1 (rvM 97).2.2.2.1 ∈ rvT := List.mem_filter.mpr ⟨List.mem_append_right _ (List.mem_append_right _ (List.mem_append_right _ (List.mem_append_right _ (List.mem_append_left _ (List.mem_of_getElem? (i := 197) (rfl : tables_1_4[197]? = some (Cond.code yX9_dry cX9_dry 10 (some .int)))))))), rfl⟩
theorem rvCd_98 : Cond.code (rvM 98).1 (rvM 98).2.1 (rvM 98).2.2.1 (rvM 98).2.2.2.1 ∈ rvT := List.mem_filter.mpr ⟨List.mem_append_right _ (List.mem_append_right _ (List.mem_append_right _ (List.mem_append_right _ (List.mem_append_left _ (List.mem_of_getElem? (i := 221) (rfl : tables_1_4[221]? = some (Cond.code yX9_count cX9_count 2 (some .int)))))))), rfl⟩
theorem rvCd_99 : Cond.code (rvM 99).1 (rvM 99).2.1 (rvM 99).2.2.1 (rvM 99).2.2.2.1 ∈ rvT := List.mem_filter.mpr ⟨List.mem_append_right _ (List.mem_append_right _ (List.mem_append_right _ (List.mem_append_right _ (List.mem_append_left _ (List.mem_of_getElem? (i := 225) (rfl : tables_1_4[225]? = some (Cond.code yX9_sheet cX9_sheet 4 (some .int)))))))), rfl⟩
theorem rvCd_100 : Cond.code (rvM 100).1 (rvM 100).2.1 (rvM 100).2.2.1 (rvM 100).2.2.2.1 ∈ rvT := List.mem_filter.mpr ⟨List.mem_append_right _ (List.mem_append_right _ (List.mem_append_right _ (List.mem_append_right _ (List.mem_append_left _ (List.mem_of_getElem? (i := 237) (rfl : tables_1_4[237]? = some (Cond.code yX9_cell cX9_cell 5 (some .int)))))))), rfl⟩
theorem rvCd_101 : Cond.code (rvM 101).1 (rvM 101).2.1 (rvM 101).2.2.1 (rvM 101).2.2.2.1 ∈ rvT := List.mem_filter.mpr ⟨List.mem_append_right _ (List.mem_append_right _ (List.mem_append_right _ (List.mem_append_right _ (List.mem_append_right _ (List.mem_append_left _ (List.mem_of_getElem? (i := 9) (rfl : tables_1_5[9]? = some (Cond.code yX9_copy cX9_copy 8 (some .int))))))))), rfl⟩
theorem rvCd_102 : Cond.code (rvM 102).1 (rvM 102).2.1 (rvM 102).2.2.1 (rvM 102).2.2.2.1 ∈ rvT := List.mem_filter.mpr ⟨List.mem_append_right _ (List.mem_append_right _ (List.mem_append_right _ (List.mem_append_right _ (List.mem_append_right _ (List.mem_append_left _ (List.mem_of_getElem? (i := 18) (rfl : tables_1_5[18]? = some (Cond.code yX9_gauges cX9_gauges 10 (some .int))))))))), rfl⟩
theorem rvCd_103 : Cond.code (rvM 103).1 (rvM 103).2.1 (rvM 103).2.2.1 (rvM 103).2.2.2.1 ∈ rvT := List.mem_filter.mpr ⟨List.mem_append_right _ (List.mem_append_right _ (List.mem_append_right _ (List.mem_append_right _ (List.mem_append_right _ (List.mem_append_left _ (List.mem_of_getElem? (i := 23) (rfl : tables_1_5[23]? = some (Cond.code yX9_taken cX9_taken 3 (some .int))))))))), rfl⟩
theorem rvCd_104 : Cond.code (rvM 104).1 (rvM 104).2.1 (rvM 104).2.2.1 (rvM 104).2.2.2.1 ∈ rvT := List.mem_filter.mpr ⟨List.mem_append_right _ (List.mem_append_right _ (List.mem_append_left _ (List.mem_of_getElem? (i := 181) (rfl : tables_1_2[181]? = some (Cond.code yX9_within cX9_within 3 (some .boolean)))))), rfl⟩
theorem rvCd_105 : Cond.code (rvM 105).1 (rvM 105).2.1 (rvM 105).2.2.1 (rvM 105).2.2.2.1 ∈ rvT := List.mem_filter.mpr ⟨List.mem_append_right _ (List.mem_append_right _ (List.mem_append_left _ (List.mem_of_getElem? (i := 178) (rfl : tables_1_2[178]? = some (Cond.code yX9_isReach cX9_isReach 1 (some .boolean)))))), rfl⟩
theorem rvCd_106 : Cond.code (rvM 106).1 (rvM 106).2.1 (rvM 106).2.2.1 (rvM 106).2.2.2.1 ∈ rvT := List.mem_filter.mpr ⟨List.mem_append_right _ (List.mem_append_right _ (List.mem_append_left _ (List.mem_of_getElem? (i := 192) (rfl : tables_1_2[192]? = some (Cond.code yX9_isMonth cX9_isMonth 1 (some .boolean)))))), rfl⟩
theorem rvCd_107 : Cond.code (rvM 107).1 (rvM 107).2.1 (rvM 107).2.2.1 (rvM 107).2.2.2.1 ∈ rvT := List.mem_filter.mpr ⟨List.mem_append_right _ (List.mem_append_right _ (List.mem_append_left _ (List.mem_of_getElem? (i := 238) (rfl : tables_1_2[238]? = some (Cond.code yX9_isSpan cX9_isSpan 2 (some .boolean)))))), rfl⟩
theorem rvCd_108 : Cond.code (rvM 108).1 (rvM 108).2.1 (rvM 108).2.2.1 (rvM 108).2.2.2.1 ∈ rvT := List.mem_filter.mpr ⟨List.mem_append_right _ (List.mem_append_right _ (List.mem_append_left _ (List.mem_of_getElem? (i := 223) (rfl : tables_1_2[223]? = some (Cond.code yX9_isState cX9_isState 1 (some .boolean)))))), rfl⟩
theorem rvCd_109 : Cond.code (rvM 109).1 (rvM 109).2.1 (rvM 109).2.2.1 (rvM 109).2.2.2.1 ∈ rvT := List.mem_filter.mpr ⟨List.mem_append_right _ (List.mem_append_right _ (List.mem_append_right _ (List.mem_append_right _ (List.mem_append_left _ (List.mem_of_getElem? (i := 133) (rfl : tables_1_4[133]? = some (Cond.code yX9_isPromise cX9_isPromise 2 (some .boolean)))))))), rfl⟩
theorem rvCd_110 : Cond.code (rvM 110).1 (rvM 110).2.1 (rvM 110).2.2.1 (rvM 110).2.2.2.1 ∈ rvT := List.mem_filter.mpr ⟨List.mem_append_right _ (List.mem_append_right _ (List.mem_append_right _ (List.mem_append_right _ (List.mem_append_left _ (List.mem_of_getElem? (i := 228) (rfl : tables_1_4[228]? = some (Cond.code yX9_isSheet cX9_isSheet 1 (some .boolean)))))))), rfl⟩
theorem rvCd_111 : Cond.code (rvM 111).1 (rvM 111).2.1 (rvM 111).2.2.1 (rvM 111).2.2.2.1 ∈ rvT := List.mem_filter.mpr ⟨List.mem_append_right _ (List.mem_append_right _ (List.mem_append_left _ (List.mem_of_getElem? (i := 220) (rfl : tables_1_2[220]? = some (Cond.code yX9_isHoldAsTold cX9_isHoldAsTold 5 (some .boolean)))))), rfl⟩
theorem rvCd_112 : Cond.code (rvM 112).1 (rvM 112).2.1 (rvM 112).2.2.1 (rvM 112).2.2.2.1 ∈ rvT := List.mem_filter.mpr ⟨List.mem_append_right _ (List.mem_append_right _ (List.mem_append_left _ (List.mem_of_getElem? (i := 235) (rfl : tables_1_2[235]? = some (Cond.code yX9_isHold cX9_isHold 2 (some .boolean)))))), rfl⟩
theorem rvCd_113 : Cond.code (rvM 113).1 (rvM 113).2.1 (rvM 113).2.2.1 (rvM 113).2.2.2.1 ∈ rvT := List.mem_filter.mpr ⟨List.mem_append_right _ (List.mem_append_right _ (List.mem_append_right _ (List.mem_append_right _ (List.mem_append_left _ (List.mem_of_getElem? (i := 73) (rfl : tables_1_4[73]? = some (Cond.code yX9_isText cX9_isText 2 (some .boolean)))))))), rfl⟩
theorem rvCd_114 : Cond.code (rvM 114).1 (rvM 114).2.1 (rvM 114).2.2.1 (rvM 114).2.2.2.1 ∈ rvT := List.mem_filter.mpr ⟨List.mem_append_right _ (List.mem_append_right _ (List.mem_append_right _ (List.mem_append_right _ (List.mem_append_left _ (List.mem_of_getElem? (i := 201) (rfl : tables_1_4[201]? = some (Cond.code yX9_isSetToLeaveDry cX9_isSetToLeaveDry 2 (some .boolean)))))))), rfl⟩
theorem rvCd_115 : Cond.code (rvM 115).1 (rvM 115).2.1 (rvM 115).2.2.1 (rvM 115).2.2.2.1 ∈ rvT := List.mem_filter.mpr ⟨List.mem_append_right _ (List.mem_append_right _ (List.mem_append_right _ (List.mem_append_right _ (List.mem_append_left _ (List.mem_of_getElem? (i := 161) (rfl : tables_1_4[161]? = some (Cond.code yX9_trySale cX9_trySale 5 none))))))), rfl⟩
theorem rvCd_116 : Cond.code (rvM 116).1 (rvM 116).2.1 (rvM 116).2.2.1 (rvM 116).2.2.2.1 ∈ rvT := List.mem_filter.mpr ⟨List.mem_append_right _ (List.mem_append_right _ (List.mem_append_right _ (List.mem_append_right _ (List.mem_append_left _ (List.mem_of_getElem? (i := 153) (rfl : tables_1_4[153]? = some (Cond.code yX9_whoGetsLess cX9_whoGetsLess 3 (some .int)))))))), rfl⟩
theorem rvCd_117 : Cond.code (rvM 117).1 (rvM 117).2.1 (rvM 117).2.2.1 (rvM 117).2.2.2.1 ∈ rvT := List.mem_filter.mpr ⟨List.mem_append_right _ (List.mem_append_right _ (List.mem_append_right _ (List.mem_append_right _ (List.mem_append_left _ (List.mem_of_getElem? (i := 174) (rfl : tables_1_4[174]? = some (Cond.code yX9_stateGets cX9_stateGets 8 (some .long)))))))), rfl⟩
theorem rvCd_118 : Cond.code (rvM 118).1 (rvM 118).2.1 (rvM 118).2.2.1 (rvM 118).2.2.2.1 ∈ rvT := List.mem_filter.mpr ⟨List.mem_append_right _ (List.mem_append_right _ (List.mem_append_right _ (List.mem_append_right _ (List.mem_append_left _ (List.mem_of_getElem? (i := 211) (rfl : tables_1_4[211]? = some (Cond.code yX9_setGets cX9_setGets 5 (some .long)))))))), rfl⟩
theorem rvCd_119 : Cond.code (rvM 119).1 (rvM 119).2.1 (rvM 119).2.2.1 (rvM 119).2.2.2.1 ∈ rvT := List.mem_filter.mpr ⟨List.mem_append_right _ (List.mem_append_right _ (List.mem_append_right _ (List.mem_append_right _ (List.mem_append_right _ (List.mem_append_right _ (List.mem_append_left _ (List.mem_of_getElem? (i := 24) (rfl : tables_1_6[24]? = some (Cond.code yX10_isReach cX10_isReach 1 (some .boolean)))))))))), rfl⟩
theorem rvCd_120 : Cond.code (rvM 120).1 (rvM 120).2.1 (rvM 120).2.2.1 (rvM 120).2.2.2.1 ∈ rvT := List.mem_filter.mpr ⟨List.mem_append_right _ (List.mem_append_right _ (List.mem_append_right _ (List.mem_append_right _ (List.mem_append_right _ (List.mem_append_right _ (List.mem_append_left _ (List.mem_of_getElem? (i := 35) (rfl : tables_1_6[35]? = some (Cond.code yX10_isMonth cX10_isMonth 1 (some .boolean)))))))))), rfl⟩
theorem rvCd_121 : Cond.code (rvM 121).1 (rvM 121).2.1 (rvM 121).2.2.1 (rvM 121).2.2.2.1 ∈ rvT := List.mem_filter.mpr ⟨List.mem_append_right _ (List.mem_append_right _ (List.mem_append_right _ (List.mem_append_right _ (List.mem_append_right _ (List.mem_append_right _ (List.mem_append_left _ (List.mem_of_getElem? (i := 75) (rfl : tables_1_6[75]? = some (Cond.code yX10_isHold cX10_isHold 2 (some .boolean)))))))))), rfl⟩
theorem rvCd_122 : Cond.code (rvM 122).1 (rvM 122).2.1 (rvM 122).2.2.1 (rvM 122).2.2.2.1 ∈ rvT := List.mem_filter.mpr ⟨List.mem_append_right _ (List.mem_append_right _ (List.mem_append_right _ (List.mem_append_right _ (List.mem_append_right _ (List.mem_append_right _ (List.mem_append_left _ (List.mem_of_getElem? (i := 21) (rfl : tables_1_6[21]? = some (Cond.code yX10_side cX10_side 5 (some .int)))))))))), rfl⟩
theorem rvCd_123 : Cond.code (rvM 123).1 (rvM 123).2.1 (rvM 123).2.2.1 (rvM 123).2.2.2.1 ∈ rvT := List.mem_filter.mpr ⟨List.mem_append_right _ (List.mem_append_right _ (List.mem_append_right _ (List.mem_append_right _ (List.mem_append_right _ (List.mem_append_right _ (List.mem_append_left _ (List.mem_of_getElem? (i := 28) (rfl : tables_1_6[28]? = some (Cond.code yX10_salt cX10_salt 4 (some .int)))))))))), rfl⟩
theorem rvCd_124 : Cond.code (rvM 124).1 (rvM 124).2.1 (rvM 124).2.2.1 (rvM 124).2.2.2.1 ∈ rvT := List.mem_filter.mpr ⟨List.mem_append_right _ (List.mem_append_right _ (List.mem_append_right _ (List.mem_append_right _ (List.mem_append_right _ (List.mem_append_right _ (List.mem_append_left _ (List.mem_of_getElem? (i := 32) (rfl : tables_1_6[32]? = some (Cond.code yX10_flood cX10_flood 4 (some .int)))))))))), rfl⟩
theorem rvCd_125 : Cond.code (rvM 125).1 (rvM 125).2.1 (rvM 125).2.2.1 (rvM 125).2.2.2.1 ∈ rvT := List.mem_filter.mpr ⟨List.mem_append_right _ (List.mem_append_right _ (List.mem_append_right _ (List.mem_append_right _ (List.mem_append_right _ (List.mem_append_right _ (List.mem_append_left _ (List.mem_of_getElem? (i := 39) (rfl : tables_1_6[39]? = some (Cond.code yX10_gauge cX10_gauge 4 (some .int)))))))))), rfl⟩
theorem rvCd_126 : Cond.code (rvM 126).1 (rvM 126).2.1 (rvM 126).2.2.1 (rvM 126).2.2.2.1 ∈ rvT := List.mem_filter.mpr ⟨List.mem_append_right _ (List.mem_append_right _ (List.mem_append_right _ (List.mem_append_right _ (List.mem_append_right _ (List.mem_append_right _ (List.mem_append_left _ (List.mem_of_getElem? (i := 48) (rfl : tables_1_6[48]? = some (Cond.code yX10_readOf cX10_readOf 5 (some .int)))))))))), rfl⟩
theorem rvCd_127 : Cond.code (rvM 127).1 (rvM 127).2.1 (rvM 127).2.2.1 (rvM 127).2.2.2.1 ∈ rvT := List.mem_filter.mpr ⟨List.mem_append_right _ (List.mem_append_right _ (List.mem_append_right _ (List.mem_append_right _ (List.mem_append_right _ (List.mem_append_right _ (List.mem_append_left _ (List.mem_of_getElem? (i := 44) (rfl : tables_1_6[44]? = some (Cond.code yX10_read cX10_read 3 (some .int)))))))))), rfl⟩
theorem rvCd_128 : Cond.code (rvM 128).1 (rvM 128).2.1 (rvM 128).2.2.1 (rvM 128).2.2.2.1 ∈ rvT := List.mem_filter.mpr ⟨List.mem_append_right _ (List.mem_append_right _ (List.mem_append_right _ (List.mem_append_right _ (List.mem_append_right _ (List.mem_append_right _ (List.mem_append_left _ (List.mem_of_getElem? (i := 52) (rfl : tables_1_6[52]? = some (Cond.code yX10_lake cX10_lake 7 (some .int)))))))))), rfl⟩
theorem rvCd_129 : Cond.code (rvM 129).1 (rvM 129).2.1 (rvM 129).2.2.1 (rvM 129).2.2.2.1 ∈ rvT := List.mem_filter.mpr ⟨List.mem_append_right _ (List.mem_append_right _ (List.mem_append_right _ (List.mem_append_right _ (List.mem_append_right _ (List.mem_append_right _ (List.mem_append_left _ (List.mem_of_getElem? (i := 56) (rfl : tables_1_6[56]? = some (Cond.code yX10_release cX10_release 4 (some .int)))))))))), rfl⟩
theorem rvCd_130 : Cond.code (rvM 130).1 (rvM 130).2.1 (rvM 130).2.2.1 (rvM 130).2.2.2.1 ∈ rvT := List.mem_filter.mpr ⟨List.mem_append_right _ (List.mem_append_right _ (List.mem_append_right _ (List.mem_append_right _ (List.mem_append_right _ (List.mem_append_right _ (List.mem_append_left _ (List.mem_of_getElem? (i := 63) (rfl : tables_1_6[63]? = some (Cond.code yX10_isHold_ cX10_isHold_ 5 (some .boolean)))))))))), rfl⟩
theorem rvCd_131 : Cond.code (rvM 131).1 (rvM 131).2.1 (rvM 131).2.2.1 (rvM 131).2.2.2.1 ∈ rvT := List.mem_filter.mpr ⟨List.mem_append_right _ (List.mem_append_right _ (List.mem_append_right _ (List.mem_append_right _ (List.mem_append_right _ (List.mem_append_right _ (List.mem_append_left _ (List.mem_of_getElem? (i := 67) (rfl : tables_1_6[67]? = some (Cond.code yX10_puts cX10_puts 7 none))))))))), rfl⟩
theorem rvCd_132 : Cond.code (rvM 132).1 (rvM 132).2.1 (rvM 132).2.2.1 (rvM 132).2.2.2.1 ∈ rvT := List.mem_filter.mpr ⟨List.mem_append_right _ (List.mem_append_right _ (List.mem_append_right _ (List.mem_append_right _ (List.mem_append_right _ (List.mem_append_right _ (List.mem_append_left _ (List.mem_of_getElem? (i := 60) (rfl : tables_1_6[60]? = some (Cond.code yX10_hold cX10_hold 6 (some .int)))))))))), rfl⟩
theorem rvCd_133 : Cond.code (rvM 133).1 (rvM 133).2.1 (rvM 133).2.2.1 (rvM 133).2.2.2.1 ∈ rvT := List.mem_filter.mpr ⟨List.mem_append_right _ (List.mem_append_right _ (List.mem_append_right _ (List.mem_append_right _ (List.mem_append_right _ (List.mem_append_right _ (List.mem_append_left _ (List.mem_of_getElem? (i := 78) (rfl : tables_1_6[78]? = some (Cond.code yX10_isSpan cX10_isSpan 2 (some .boolean)))))))))), rfl⟩
theorem rvCd_134 : Cond.code (rvM 134).1 (rvM 134).2.1 (rvM 134).2.2.1 (rvM 134).2.2.2.1 ∈ rvT := List.mem_filter.mpr ⟨List.mem_append_right _ (List.mem_append_right _ (List.mem_append_right _ (List.mem_append_right _ (List.mem_append_right _ (List.mem_append_right _ (List.mem_append_left _ (List.mem_of_getElem? (i := 71) (rfl : tables_1_6[71]? = some (Cond.code yX10_force cX10_force 4 (some .int)))))))))), rfl⟩
theorem rvCd_135 : Cond.code (rvM 135).1 (rvM 135).2.1 (rvM 135).2.2.1 (rvM 135).2.2.2.1 ∈ rvT := List.mem_filter.mpr ⟨List.mem_append_right _ (List.mem_append_right _ (List.mem_append_right _ (List.mem_append_right _ (List.mem_append_right _ (List.mem_append_right _ (List.mem_append_left _ (List.mem_of_getElem? (i := 86) (rfl : tables_1_6[86]? = some (Cond.code yX10_rank cX10_rank 2 (some .int)))))))))), rfl⟩
theorem rvCd_136 : Cond.code (rvM 136).1 (rvM 136).2.1 (rvM 136).2.2.1 (rvM 136).2.2.2.1 ∈ rvT := List.mem_filter.mpr ⟨List.mem_append_right _ (List.mem_append_right _ (List.mem_append_right _ (List.mem_append_right _ (List.mem_append_right _ (List.mem_append_right _ (List.mem_append_left _ (List.mem_of_getElem? (i := 90) (rfl : tables_1_6[90]? = some (Cond.code yX10_hundredths cX10_hundredths 2 (some .int)))))))))), rfl⟩
theorem rvCd_137 : Cond.code (rvM 137).1 (rvM 137).2.1 (rvM 137).2.2.1 (rvM 137).2.2.2.1 ∈ rvT := List.mem_filter.mpr ⟨List.mem_append_right _ (List.mem_append_right _ (List.mem_append_right _ (List.mem_append_right _ (List.mem_append_right _ (List.mem_append_right _ (List.mem_append_left _ (List.mem_of_getElem? (i := 82) (rfl : tables_1_6[82]? = some (Cond.code yX10_holdTold cX10_holdTold 3 (some .int)))))))))), rfl⟩
theorem rvCd_138 : Cond.code (rvM 138).1 (rvM 138).2.1 (rvM 138).2.2.1 (rvM 138).2.2.2.1 ∈ rvT := List.mem_filter.mpr ⟨List.mem_append_right _ (List.mem_append_right _ (List.mem_append_right _ (List.mem_append_right _ (List.mem_append_right _ (List.mem_append_right _ (List.mem_append_left _ (List.mem_of_getElem? (i := 195) (rfl : tables_1_6[195]? = some (Cond.code yX10_asks cX10_asks 6 (some .int)))))))))), rfl⟩
theorem rvCd_139 : Cond.code (rvM 139).1 (rvM 139).2.1 (rvM 139).2.2.1 (rvM 139).2.2.2.1 ∈ rvT := List.mem_filter.mpr ⟨List.mem_append_right _ (List.mem_append_right _ (List.mem_append_right _ (List.mem_append_right _ (List.mem_append_right _ (List.mem_append_right _ (List.mem_append_left _ (List.mem_of_getElem? (i := 94) (rfl : tables_1_6[94]? = some (Cond.code yX10_call cX10_call 3 (some .int)))))))))), rfl⟩
theorem rvCd_140 : Cond.code (rvM 140).1 (rvM 140).2.1 (rvM 140).2.2.1 (rvM 140).2.2.2.1 ∈ rvT := List.mem_filter.mpr ⟨List.mem_append_right _ (List.mem_append_right _ (List.mem_append_right _ (List.mem_append_right _ (List.mem_append_right _ (List.mem_append_right _ (List.mem_append_left _ (List.mem_of_getElem? (i := 179) (rfl : tables_1_6[179]? = some (Cond.code yX10_isShut cX10_isShut 5 (some .boolean)))))))))), rfl⟩
theorem rvCd_141 : Cond.code (rvM 141).1 (rvM 141).2.1 (rvM 141).2.2.1 (rvM 141).2.2.2.1 ∈ rvT := List.mem_filter.mpr ⟨List.mem_append_right _ (List.mem_append_right _ (List.mem_append_right _ (List.mem_append_right _ (List.mem_append_right _ (List.mem_append_right _ (List.mem_append_left _ (List.mem_of_getElem? (i := 120) (rfl : tables_1_6[120]? = some (Cond.code yX10_isWord cX10_isWord 5 (some .boolean)))))))))), rfl⟩
theorem rvCd_142 : Cond.code (rvM 142).1 (rvM 142).2.1 (rvM 142).2.2.1 (rvM 142).2.2.2.1 ∈ rvT := List.mem_filter.mpr ⟨List.mem_append_right _ (List.mem_append_right _ (List.mem_append_right _ (List.mem_append_right _ (List.mem_append_right _ (List.mem_append_right _ (List.mem_append_left _ (List.mem_of_getElem? (i := 115) (rfl : tables_1_6[115]? = some (Cond.code yX10_wordAt cX10_wordAt 3 (some .int)))))))))), rfl⟩
theorem rvCd_143 : Cond.code (rvM 143).1 (rvM 143).2.1 (rvM 143).2.2.1 (rvM 143).2.2.2.1 ∈ rvT := List.mem_filter.mpr ⟨List.mem_append_right _ (List.mem_append_right _ (List.mem_append_right _ (List.mem_append_right _ (List.mem_append_right _ (List.mem_append_right _ (List.mem_append_left _ (List.mem_of_getElem? (i := 135) (rfl : tables_1_6[135]? = some (Cond.code yX10_signOf cX10_signOf 1 (some .int)))))))))), rfl⟩
theorem rvCd_144 : Cond.code (rvM 144).1 (rvM 144).2.1 (rvM 144).2.2.1 (rvM 144).2.2.2.1 ∈ rvT := List.mem_filter.mpr ⟨List.mem_append_right _ (List.mem_append_right _ (List.mem_append_right _ (List.mem_append_right _ (List.mem_append_right _ (List.mem_append_right _ (List.mem_append_left _ (List.mem_of_getElem? (i := 111) (rfl : tables_1_6[111]? = some (Cond.code yX10_next cX10_next 3 none))))))))), rfl⟩
theorem rvCd_145 : Cond.code (rvM 145).1 (rvM 145).2.1 (rvM 145).2.2.1 (rvM 145).2.2.2.1 ∈ rvT := List.mem_filter.mpr ⟨List.mem_append_right _ (List.mem_append_right _ (List.mem_append_right _ (List.mem_append_right _ (List.mem_append_right _ (List.mem_append_right _ (List.mem_append_left _ (List.mem_of_getElem? (i := 146) (rfl : tables_1_6[146]? = some (Cond.code yX10_strength cX10_strength 1 (some .int)))))))))), rfl⟩
theorem rvCd_146 : Cond.code (rvM 146).1 (rvM 146).2.1 (rvM 146).2.2.1 (rvM 146).2.2.2.1 ∈ rvT := List.mem_filter.mpr ⟨List.mem_append_right _ (List.mem_append_right _ (List.mem_append_right _ (List.mem_append_right _ (List.mem_append_right _ (List.mem_append_right _ (List.mem_append_left _ (List.mem_of_getElem? (i := 143) (rfl : tables_1_6[143]? = some (Cond.code yX10_pops cX10_pops 2 none))))))))), rfl⟩
theorem rvCd_147 : Cond.code (rvM 147).1 (rvM 147).2.1 (rvM 147).2.2.1 (rvM 147).2.2.2.1 ∈ rvT := List.mem_filter.mpr ⟨List.mem_append_right _ (List.mem_append_right _ (List.mem_append_right _ (List.mem_append_right _ (List.mem_append_right _ (List.mem_append_right _ (List.mem_append_left _ (List.mem_of_getElem? (i := 150) (rfl : tables_1_6[150]? = some (Cond.code yX10_opens cX10_opens 2 (some .boolean)))))))))), rfl⟩
theorem rvCd_148 : Cond.code (rvM 148).1 (rvM 148).2.1 (rvM 148).2.2.1 (rvM 148).2.2.2.1 ∈ rvT := List.mem_filter.mpr ⟨List.mem_append_right _ (List.mem_append_right _ (List.mem_append_right _ (List.mem_append_right _ (List.mem_append_right _ (List.mem_append_right _ (List.mem_append_left _ (List.mem_of_getElem? (i := 139) (rfl : tables_1_6[139]? = some (Cond.code yX10_isExpression cX10_isExpression 4 (some .boolean)))))))))), rfl⟩
theorem rvCd_149 : Cond.code (rvM 149).1 (rvM 149).2.1 (rvM 149).2.2.1 (rvM 149).2.2.2.1 ∈ rvT := List.mem_filter.mpr ⟨List.mem_append_right _ (List.mem_append_right _ (List.mem_append_right _ (List.mem_append_right _ (List.mem_append_right _ (List.mem_append_right _ (List.mem_append_left _ (List.mem_of_getElem? (i := 98) (rfl : tables_1_6[98]? = some (Cond.code yX10_feed cX10_feed 5 (some .int)))))))))), rfl⟩
theorem rvCd_150 : Cond.code (rvM 150).1 (rvM 150).2.1 (rvM 150).2.2.1 (rvM 150).2.2.2.1 ∈ rvT := List.mem_filter.mpr ⟨List.mem_append_right _ (List.mem_append_right _ (List.mem_append_right _ (List.mem_append_right _ (List.mem_append_right _ (List.mem_append_right _ (List.mem_append_left _ (List.mem_of_getElem? (i := 107) (rfl : tables_1_6[107]? = some (Cond.code yX10_isText cX10_isText 1 (some .boolean)))))))))), rfl⟩
theorem rvCd_151 : Cond.code (rvM 151).1 (rvM 151).2.1 (rvM 151).2.2.1 (rvM 151).2.2.2.1 ∈ rvT := List.mem_filter.mpr ⟨List.mem_append_right _ (List.mem_append_right _ (List.mem_append_right _ (List.mem_append_right _ (List.mem_append_right _ (List.mem_append_right _ (List.mem_append_left _ (List.mem_of_getElem? (i := 103) (rfl : tables_1_6[103]? = some (Cond.code yX10_text cX10_text 3 (some .int)))))))))), rfl⟩
theorem rvCd_152 : Cond.code (rvM 152).1 (rvM 152).2.1 (rvM 152).2.2.1 (rvM 152).2.2.2.1 ∈ rvT := List.mem_filter.mpr ⟨List.mem_append_right _ (List.mem_append_right _ (List.mem_append_right _ (List.mem_append_right _ (List.mem_append_right _ (List.mem_append_right _ (List.mem_append_left _ (List.mem_of_getElem? (i := 154) (rfl : tables_1_6[154]? = some (Cond.code yX10_rule cX10_rule 4 (some .int)))))))))), rfl⟩
theorem rvCd_153 : Cond.code (rvM 153).1 (rvM 153).2.1 (rvM 153).2.2.1 (rvM 153).2.2.2.1 ∈ rvT := List.mem_filter.mpr ⟨List.mem_append_right _ (List.mem_append_right _ (List.mem_append_right _ (List.mem_append_right _ (List.mem_append_right _ (List.mem_append_right _ (List.mem_append_left _ (List.mem_of_getElem? (i := 191) (rfl : tables_1_6[191]? = some (Cond.code yX10_levels cX10_levels 4 (some .int)))))))))), rfl⟩
theorem rvCd_154 : Cond.code (rvM 154).1 (rvM 154).2.1 (rvM 154).2.2.1 (rvM 154).2.2.2.1 ∈ rvT := List.mem_filter.mpr ⟨List.mem_append_right _ (List.mem_append_right _ (List.mem_append_right _ (List.mem_append_right _ (List.mem_append_right _ (List.mem_append_right _ (List.mem_append_left _ (List.mem_of_getElem? (i := 187) (rfl : tables_1_6[187]? = some (Cond.code yX10_valueOf cX10_valueOf 4 (some .int)))))))))), rfl⟩
theorem rvCd_155 : Cond.code (rvM 155).1 (rvM 155).2.1 (rvM 155).2.2.1 (rvM 155).2.2.2.1 ∈ rvT := List.mem_filter.mpr ⟨List.mem_append_right _ (List.mem_append_right _ (List.mem_append_right _ (List.mem_append_right _ (List.mem_append_right _ (List.mem_append_right _ (List.mem_append_left _ (List.mem_of_getElem? (i := 183) (rfl : tables_1_6[183]? = some (Cond.code yX10_says cX10_says 11 (some .int)))))))))), rfl⟩
theorem rvCd_156 : Cond.code (rvM 156).1 (rvM 156).2.1 (rvM 156).2.2.1 (rvM 156).2.2.2.1 ∈ rvT := List.mem_filter.mpr ⟨List.mem_append_right _ (List.mem_append_right _ (List.mem_append_right _ (List.mem_append_right _ (List.mem_append_right _ (List.mem_append_right _ (List.mem_append_left _ (List.mem_of_getElem? (i := 175) (rfl : tables_1_6[175]? = some (Cond.code yX10_wantsOf cX10_wantsOf 6 (some .int)))))))))), rfl⟩
theorem rvCd_157 : Cond.code (rvM 157).1 (rvM 157).2.1 (rvM 157).2.2.1 (rvM 157).2.2.2.1 ∈ rvT := List.mem_filter.mpr ⟨List.mem_append_right _ (List.mem_append_right _ (List.mem_append_right _ (List.mem_append_right _ (List.mem_append_right _ (List.mem_append_right _ (List.mem_append_left _ (List.mem_of_getElem? (i := 170) (rfl : tables_1_6[170]? = some (Cond.code yX10_sideOf cX10_sideOf 5 (some .int)))))))))), rfl⟩
theorem rvCd_158 : Cond.code (rvM 158).1 (rvM 158).2.1 (rvM 158).2.2.1 (rvM 158).2.2.2.1 ∈ rvT := List.mem_filter.mpr ⟨List.mem_append_right _ (List.mem_append_right _ (List.mem_append_right _ (List.mem_append_right _ (List.mem_append_right _ (List.mem_append_right _ (List.mem_append_left _ (List.mem_of_getElem? (i := 162) (rfl : tables_1_6[162]? = some (Cond.code yX10_run cX10_run 3 none))))))))), rfl⟩
theorem rvCd_159 : Cond.code (rvM 159).1 (rvM 159).2.1 (rvM 159).2.2.1 (rvM 159).2.2.2.1 ∈ rvT := List.mem_filter.mpr ⟨List.mem_append_right _ (List.mem_append_right _ (List.mem_append_right _ (List.mem_append_right _ (List.mem_append_right _ (List.mem_append_right _ (List.mem_append_left _ (List.mem_of_getElem? (i := 166) (rfl : tables_1_6[166]? = some (Cond.code yX10_flows cX10_flows 13 none))))))))), rfl⟩
theorem rvCd_160 : Cond.code (rvM 160).1 (rvM 160).2.1 (rvM 160).2.2.1 (rvM 160).2.2.2.1 ∈ rvT := List.mem_filter.mpr ⟨List.mem_append_right _ (List.mem_append_right _ (List.mem_append_right _ (List.mem_append_right _ (List.mem_append_right _ (List.mem_append_right _ (List.mem_append_left _ (List.mem_of_getElem? (i := 204) (rfl : tables_1_6[204]? = some (Cond.code yX10_allOf cX10_allOf 7 (some .long)))))))))), rfl⟩
theorem rvCd_161 : Cond.code (rvM 161).1 (rvM 161).2.1 (rvM 161).2.2.1 (rvM 161).2.2.2.1 ∈ rvT := List.mem_filter.mpr ⟨List.mem_append_right _ (List.mem_append_right _ (List.mem_append_right _ (List.mem_append_right _ (List.mem_append_right _ (List.mem_append_right _ (List.mem_append_left _ (List.mem_of_getElem? (i := 158) (rfl : tables_1_6[158]? = some (Cond.code yX10_takes cX10_takes 5 (some .int)))))))))), rfl⟩
theorem rvCd_162 : Cond.code (rvM 162).1 (rvM 162).2.1 (rvM 162).2.2.1 (rvM 162).2.2.2.1 ∈ rvT := List.mem_filter.mpr ⟨List.mem_append_right _ (List.mem_append_right _ (List.mem_append_right _ (List.mem_append_right _ (List.mem_append_right _ (List.mem_append_right _ (List.mem_append_left _ (List.mem_of_getElem? (i := 199) (rfl : tables_1_6[199]? = some (Cond.code yX10_all cX10_all 4 (some .long)))))))))), rfl⟩
theorem rvCd_163 : Cond.code (rvM 163).1 (rvM 163).2.1 (rvM 163).2.2.1 (rvM 163).2.2.2.1 ∈ rvT := List.mem_filter.mpr ⟨List.mem_append_right _ (List.mem_append_right _ (List.mem_append_right _ (List.mem_append_right _ (List.mem_append_right _ (List.mem_append_right _ (List.mem_append_left _ (List.mem_of_getElem? (i := 208) (rfl : tables_1_6[208]? = some (Cond.code yX10_helps cX10_helps 4 (some .int)))))))))), rfl⟩
theorem rvCd_164 : Cond.code (rvM 164).1 (rvM 164).2.1 (rvM 164).2.2.1 (rvM 164).2.2.2.1 ∈ rvT := List.mem_filter.mpr ⟨List.mem_append_right _ (List.mem_append_right _ (List.mem_append_right _ (List.mem_append_right _ (List.mem_append_right _ (List.mem_append_right _ (List.mem_append_left _ (List.mem_of_getElem? (i := 212) (rfl : tables_1_6[212]? = some (Cond.code yX10_says_ cX10_says_ 4 (some .long)))))))))), rfl⟩
theorem rvCd_165 : Cond.code (rvM 165).1 (rvM 165).2.1 (rvM 165).2.2.1 (rvM 165).2.2.2.1 ∈ rvT := List.mem_filter.mpr ⟨List.mem_append_right _ (List.mem_append_right _ (List.mem_append_right _ (List.mem_append_right _ (List.mem_append_right _ (List.mem_append_right _ (List.mem_append_left _ (List.mem_of_getElem? (i := 216) (rfl : tables_1_6[216]? = some (Cond.code yX10_told cX10_told 5 (some .int)))))))))), rfl⟩
theorem rvCd_166 : Cond.code (rvM 166).1 (rvM 166).2.1 (rvM 166).2.2.1 (rvM 166).2.2.2.1 ∈ rvT := List.mem_filter.mpr ⟨List.mem_append_right _ (List.mem_append_right _ (List.mem_append_right _ (List.mem_append_right _ (List.mem_append_right _ (List.mem_append_right _ (List.mem_append_left _ (List.mem_of_getElem? (i := 220) (rfl : tables_1_6[220]? = some (Cond.code yX10_lakeTold cX10_lakeTold 5 (some .int)))))))))), rfl⟩
theorem rvCd_167 : Cond.code (rvM 167).1 (rvM 167).2.1 (rvM 167).2.2.1 (rvM 167).2.2.2.1 ∈ rvT := List.mem_filter.mpr ⟨List.mem_append_right _ (List.mem_append_right _ (List.mem_append_right _ (List.mem_append_right _ (List.mem_append_right _ (List.mem_append_right _ (List.mem_append_left _ (List.mem_of_getElem? (i := 228) (rfl : tables_1_6[228]? = some (Cond.code yX10_sharpOf cX10_sharpOf 5 (some .int)))))))))), rfl⟩
theorem rvCd_168 : Cond.code (rvM 168).1 (rvM 168).2.1 (rvM 168).2.2.1 (rvM 168).2.2.2.1 ∈ rvT := List.mem_filter.mpr ⟨List.mem_append_right _ (List.mem_append_right _ (List.mem_append_right _ (List.mem_append_right _ (List.mem_append_right _ (List.mem_append_right _ (List.mem_append_left _ (List.mem_of_getElem? (i := 224) (rfl : tables_1_6[224]? = some (Cond.code yX10_sharp cX10_sharp 2 (some .int)))))))))), rfl⟩
theorem rvCd_169 : Cond.code (rvM 169).1 (rvM 169).2.1 (rvM 169).2.2.1 (rvM 169).2.2.2.1 ∈ rvT := List.mem_filter.mpr ⟨List.mem_append_right _ (List.mem_append_right _ (List.mem_append_right _ (List.mem_append_right _ (List.mem_append_right _ (List.mem_append_right _ (List.mem_append_left _ (List.mem_of_getElem? (i := 234) (rfl : tables_1_6[234]? = some (Cond.code yX10_sum cX10_sum 7 (some .long)))))))))), rfl⟩
theorem rvCd_170 : Cond.code (rvM 170).1 (rvM 170).2.1 (rvM 170).2.2.1 (rvM 170).2.2.2.1 ∈ rvT := List.mem_filter.mpr ⟨List.mem_append_right _ (List.mem_append_right _ (List.mem_append_right _ (List.mem_append_right _ (List.mem_append_right _ (List.mem_append_right _ (List.mem_append_right _ (List.mem_of_getElem? (i := 1) (rfl : tables_1_7[1]? = some (Cond.code yX10_isPromise cX10_isPromise 3 (some .boolean)))))))))), rfl⟩
theorem rvCd_171 : Cond.code (rvM 171).1 (rvM 171).2.1 (rvM 171).2.2.1 (rvM 171).2.2.2.1 ∈ rvT := List.mem_filter.mpr ⟨List.mem_append_right _ (List.mem_append_right _ (List.mem_append_right _ (List.mem_append_right _ (List.mem_append_right _ (List.mem_append_right _ (List.mem_append_right _ (List.mem_of_getElem? (i := 6) (rfl : tables_1_7[6]? = some (Cond.code yX10_owes cX10_owes 8 (some .long)))))))))), rfl⟩
theorem rvCd_172 : Cond.code (rvM 172).1 (rvM 172).2.1 (rvM 172).2.2.1 (rvM 172).2.2.2.1 ∈ rvT := List.mem_filter.mpr ⟨List.mem_append_right _ (List.mem_append_right _ (List.mem_append_right _ (List.mem_append_right _ (List.mem_append_right _ (List.mem_append_right _ (List.mem_append_left _ (List.mem_of_getElem? (i := 238) (rfl : tables_1_6[238]? = some (Cond.code yX10_owed cX10_owed 5 (some .long)))))))))), rfl⟩
theorem rvCd_173 : Cond.code (rvM 173).1 (rvM 173).2.1 (rvM 173).2.2.1 (rvM 173).2.2.2.1 ∈ rvT := List.mem_filter.mpr ⟨List.mem_append_right _ (List.mem_append_right _ (List.mem_append_right _ (List.mem_append_right _ (List.mem_append_right _ (List.mem_append_right _ (List.mem_append_right _ (List.mem_of_getElem? (i := 10) (rfl : tables_1_7[10]? = some (Cond.code yX10_breaks cX10_breaks 5 (some .int)))))))))), rfl⟩
theorem rvCd_174 : Cond.code (rvM 174).1 (rvM 174).2.1 (rvM 174).2.2.1 (rvM 174).2.2.2.1 ∈ rvT := List.mem_filter.mpr ⟨List.mem_append_right _ (List.mem_append_right _ (List.mem_append_right _ (List.mem_append_right _ (List.mem_append_right _ (List.mem_append_right _ (List.mem_append_right _ (List.mem_of_getElem? (i := 18) (rfl : tables_1_7[18]? = some (Cond.code yX10_keeps cX10_keeps 2 none))))))))), rfl⟩
theorem rvCd_175 : Cond.code (rvM 175).1 (rvM 175).2.1 (rvM 175).2.2.1 (rvM 175).2.2.2.1 ∈ rvT := List.mem_filter.mpr ⟨List.mem_append_right _ (List.mem_append_right _ (List.mem_append_right _ (List.mem_append_right _ (List.mem_append_right _ (List.mem_append_right _ (List.mem_append_right _ (List.mem_of_getElem? (i := 22) (rfl : tables_1_7[22]? = some (Cond.code yX10_less cX10_less 5 (some .int)))))))))), rfl⟩
theorem rvCd_176 : Cond.code (rvM 176).1 (rvM 176).2.1 (rvM 176).2.2.1 (rvM 176).2.2.2.1 ∈ rvT := List.mem_filter.mpr ⟨List.mem_append_right _ (List.mem_append_right _ (List.mem_append_right _ (List.mem_append_right _ (List.mem_append_right _ (List.mem_append_right _ (List.mem_append_right _ (List.mem_of_getElem? (i := 14) (rfl : tables_1_7[14]? = some (Cond.code yX10_found cX10_found 5 (some .int)))))))))), rfl⟩
theorem rvCd_177 : Cond.code (rvM 177).1 (rvM 177).2.1 (rvM 177).2.2.1 (rvM 177).2.2.2.1 ∈ rvT := List.mem_filter.mpr ⟨List.mem_append_right _ (List.mem_append_right _ (List.mem_append_right _ (List.mem_append_right _ (List.mem_append_right _ (List.mem_append_right _ (List.mem_append_right _ (List.mem_of_getElem? (i := 26) (rfl : tables_1_7[26]? = some (Cond.code yX10_sold cX10_sold 4 (some .int)))))))))), rfl⟩
theorem rvCd_178 : Cond.code (rvM 178).1 (rvM 178).2.1 (rvM 178).2.2.1 (rvM 178).2.2.2.1 ∈ rvT := List.mem_filter.mpr ⟨List.mem_append_right _ (List.mem_append_right _ (List.mem_append_right _ (List.mem_append_right _ (List.mem_append_right _ (List.mem_append_right _ (List.mem_append_right _ (List.mem_of_getElem? (i := 30) (rfl : tables_1_7[30]? = some (Cond.code yX10_harm cX10_harm 7 (some .long)))))))))), rfl⟩
theorem rvCd_179 : Cond.code (rvM 179).1 (rvM 179).2.1 (rvM 179).2.2.1 (rvM 179).2.2.2.1 ∈ rvT := List.mem_filter.mpr ⟨List.mem_append_right _ (List.mem_append_right _ (List.mem_append_right _ (List.mem_append_right _ (List.mem_append_right _ (List.mem_append_right _ (List.mem_append_right _ (List.mem_of_getElem? (i := 38) (rfl : tables_1_7[38]? = some (Cond.code yX10_gotBy cX10_gotBy 7 (some .long)))))))))), rfl⟩
theorem rvCd_180 : Cond.code (rvM 180).1 (rvM 180).2.1 (rvM 180).2.2.1 (rvM 180).2.2.2.1 ∈ rvT := List.mem_filter.mpr ⟨List.mem_append_right _ (List.mem_append_right _ (List.mem_append_right _ (List.mem_append_right _ (List.mem_append_right _ (List.mem_append_right _ (List.mem_append_right _ (List.mem_of_getElem? (i := 34) (rfl : tables_1_7[34]? = some (Cond.code yX10_unlike cX10_unlike 7 (some .long)))))))))), rfl⟩
theorem rvCd_181 : Cond.code (rvM 181).1 (rvM 181).2.1 (rvM 181).2.2.1 (rvM 181).2.2.2.1 ∈ rvT := List.mem_filter.mpr ⟨List.mem_append_right _ (List.mem_append_right _ (List.mem_append_right _ (List.mem_append_right _ (List.mem_append_right _ (List.mem_append_right _ (List.mem_append_right _ (List.mem_of_getElem? (i := 42) (rfl : tables_1_7[42]? = some (Cond.code yX10_held cX10_held 16 (some .long)))))))))), rfl⟩
theorem rvCd_182 : Cond.code (rvM 182).1 (rvM 182).2.1 (rvM 182).2.2.1 (rvM 182).2.2.2.1 ∈ rvT := List.mem_filter.mpr ⟨List.mem_append_right _ (List.mem_append_right _ (List.mem_append_right _ (List.mem_append_right _ (List.mem_append_right _ (List.mem_append_right _ (List.mem_append_right _ (List.mem_of_getElem? (i := 49) (rfl : tables_1_7[49]? = some (Cond.code yX10_dry cX10_dry 12 (some .int)))))))))), rfl⟩
theorem rvCd_183 : Cond.code (rvM 183).1 (rvM 183).2.1 (rvM 183).2.2.1 (rvM 183).2.2.2.1 ∈ rvT := List.mem_filter.mpr ⟨List.mem_append_right _ (List.mem_append_right _ (List.mem_append_right _ (List.mem_append_right _ (List.mem_append_right _ (List.mem_append_right _ (List.mem_append_right _ (List.mem_of_getElem? (i := 53) (rfl : tables_1_7[53]? = some (Cond.code yX10_count cX10_count 4 (some .int)))))))))), rfl⟩
theorem rvCd_184 : Cond.code (rvM 184).1 (rvM 184).2.1 (rvM 184).2.2.1 (rvM 184).2.2.2.1 ∈ rvT := List.mem_filter.mpr ⟨List.mem_append_right _ (List.mem_append_right _ (List.mem_append_right _ (List.mem_append_right _ (List.mem_append_right _ (List.mem_append_right _ (List.mem_append_right _ (List.mem_of_getElem? (i := 57) (rfl : tables_1_7[57]? = some (Cond.code yX10_sheet cX10_sheet 5 (some .int)))))))))), rfl⟩
theorem rvCd_185 : Cond.code (rvM 185).1 (rvM 185).2.1 (rvM 185).2.2.1 (rvM 185).2.2.2.1 ∈ rvT := List.mem_filter.mpr ⟨List.mem_append_right _ (List.mem_append_right _ (List.mem_append_right _ (List.mem_append_right _ (List.mem_append_right _ (List.mem_append_right _ (List.mem_append_right _ (List.mem_of_getElem? (i := 61) (rfl : tables_1_7[61]? = some (Cond.code yX10_cell cX10_cell 4 (some .int)))))))))), rfl⟩
theorem rvCd_186 : Cond.code (rvM 186).1 (rvM 186).2.1 (rvM 186).2.2.1 (rvM 186).2.2.2.1 ∈ rvT := List.mem_filter.mpr ⟨List.mem_append_right _ (List.mem_append_right _ (List.mem_append_right _ (List.mem_append_right _ (List.mem_append_right _ (List.mem_append_right _ (List.mem_append_right _ (List.mem_of_getElem? (i := 65) (rfl : tables_1_7[65]? = some (Cond.code yX10_copy cX10_copy 7 (some .int)))))))))), rfl⟩
theorem rvCd_187 : Cond.code (rvM 187).1 (rvM 187).2.1 (rvM 187).2.2.1 (rvM 187).2.2.2.1 ∈ rvT := List.mem_filter.mpr ⟨List.mem_append_right _ (List.mem_append_right _ (List.mem_append_right _ (List.mem_append_right _ (List.mem_append_right _ (List.mem_append_right _ (List.mem_append_right _ (List.mem_of_getElem? (i := 69) (rfl : tables_1_7[69]? = some (Cond.code yX10_gauges cX10_gauges 12 (some .int)))))))))), rfl⟩
theorem rvCd_188 : Cond.code (rvM 188).1 (rvM 188).2.1 (rvM 188).2.2.1 (rvM 188).2.2.2.1 ∈ rvT := List.mem_filter.mpr ⟨List.mem_append_right _ (List.mem_append_right _ (List.mem_append_right _ (List.mem_append_right _ (List.mem_append_right _ (List.mem_append_right _ (List.mem_append_right _ (List.mem_of_getElem? (i := 74) (rfl : tables_1_7[74]? = some (Cond.code yX10_taken cX10_taken 4 (some .int)))))))))), rfl⟩
theorem rvCd_189 : Cond.code (rvM 189).1 (rvM 189).2.1 (rvM 189).2.2.1 (rvM 189).2.2.2.1 ∈ rvT := List.mem_filter.mpr ⟨List.mem_append_right _ (List.mem_append_right _ (List.mem_append_right _ (List.mem_append_right _ (List.mem_append_left _ (List.mem_of_getElem? (i := 204) (rfl : tables_1_4[204]? = some (Cond.code yJ6_bitCount_0f7a4 cJ6_bitCount_0f7a4 1 (some .int)))))))), rfl⟩
theorem rvCd_190 : Cond.code (rvM 190).1 (rvM 190).2.1 (rvM 190).2.2.1 (rvM 190).2.2.2.1 ∈ rvT := List.mem_filter.mpr ⟨List.mem_append_right _ (List.mem_append_left _ (List.mem_of_getElem? (i := 42) (rfl : tables_1_1[42]? = some (Cond.code yJ7_fill_53178 cJ7_fill_53178 4 none)))), rfl⟩
theorem rvCd : ∀ i, i < 191 → Cond.code (rvM i).1 (rvM i).2.1 (rvM i).2.2.1 (rvM i).2.2.2.1 ∈ rvT
  | 0, _ => rvCd_0
  | 1, _ => rvCd_1
  | 2, _ => rvCd_2
  | 3, _ => rvCd_3
  | 4, _ => rvCd_4
  | 5, _ => rvCd_5
  | 6, _ => rvCd_6
  | 7, _ => rvCd_7
  | 8, _ => rvCd_8
  | 9, _ => rvCd_9
  | 10, _ => rvCd_10
  | 11, _ => rvCd_11
  | 12, _ => rvCd_12
  | 13, _ => rvCd_13
  | 14, _ => rvCd_14
  | 15, _ => rvCd_15
  | 16, _ => rvCd_16
  | 17, _ => rvCd_17
  | 18, _ => rvCd_18
  | 19, _ => rvCd_19
  | 20, _ => rvCd_20
  | 21, _ => rvCd_21
  | 22, _ => rvCd_22
  | 23, _ => rvCd_23
  | 24, _ => rvCd_24
  | 25, _ => rvCd_25
  | 26, _ => rvCd_26
  | 27, _ => rvCd_27
  | 28, _ => rvCd_28
  | 29, _ => rvCd_29
  | 30, _ => rvCd_30
  | 31, _ => rvCd_31
  | 32, _ => rvCd_32
  | 33, _ => rvCd_33
  | 34, _ => rvCd_34
  | 35, _ => rvCd_35
  | 36, _ => rvCd_36
  | 37, _ => rvCd_37
  | 38, _ => rvCd_38
  | 39, _ => rvCd_39
  | 40, _ => rvCd_40
  | 41, _ => rvCd_41
  | 42, _ => rvCd_42
  | 43, _ => rvCd_43
  | 44, _ => rvCd_44
  | 45, _ => rvCd_45
  | 46, _ => rvCd_46
  | 47, _ => rvCd_47
  | 48, _ => rvCd_48
  | 49, _ => rvCd_49
  | 50, _ => rvCd_50
  | 51, _ => rvCd_51
  | 52, _ => rvCd_52
  | 53, _ => rvCd_53
  | 54, _ => rvCd_54
  | 55, _ => rvCd_55
  | 56, _ => rvCd_56
  | 57, _ => rvCd_57
  | 58, _ => rvCd_58
  | 59, _ => rvCd_59
  | 60, _ => rvCd_60
  | 61, _ => rvCd_61
  | 62, _ => rvCd_62
  | 63, _ => rvCd_63
  | 64, _ => rvCd_64
  | 65, _ => rvCd_65
  | 66, _ => rvCd_66
  | 67, _ => rvCd_67
  | 68, _ => rvCd_68
  | 69, _ => rvCd_69
  | 70, _ => rvCd_70
  | 71, _ => rvCd_71
  | 72, _ => rvCd_72
  | 73, _ => rvCd_73
  | 74, _ => rvCd_74
  | 75, _ => rvCd_75
  | 76, _ => rvCd_76
  | 77, _ => rvCd_77
  | 78, _ => rvCd_78
  | 79, _ => rvCd_79
  | 80, _ => rvCd_80
  | 81, _ => rvCd_81
  | 82, _ => rvCd_82
  | 83, _ => rvCd_83
  | 84, _ => rvCd_84
  | 85, _ => rvCd_85
  | 86, _ => rvCd_86
  | 87, _ => rvCd_87
  | 88, _ => rvCd_88
  | 89, _ => rvCd_89
  | 90, _ => rvCd_90
  | 91, _ => rvCd_91
  | 92, _ => rvCd_92
  | 93, _ => rvCd_93
  | 94, _ => rvCd_94
  | 95, _ => rvCd_95
  | 96, _ => rvCd_96
  | 97, _ => rvCd_97
  | 98, _ => rvCd_98
  | 99, _ => rvCd_99
  | 100, _ => rvCd_100
  | 101, _ => rvCd_101
  | 102, _ => rvCd_102
  | 103, _ => rvCd_103
  | 104, _ => rvCd_104
  | 105, _ => rvCd_105
  | 106, _ => rvCd_106
  | 107, _ => rvCd_107
  | 108, _ => rvCd_108
  | 109, _ => rvCd_109
  | 110, _ => rvCd_110
  | 111, _ => rvCd_111
  | 112, _ => rvCd_112
  | 113, _ => rvCd_113
  | 114, _ => rvCd_114
  | 115, _ => rvCd_115
  | 116, _ => rvCd_116
  | 117, _ => rvCd_117
  | 118, _ => rvCd_118
  | 119, _ => rvCd_119
  | 120, _ => rvCd_120
  | 121, _ => rvCd_121
  | 122, _ => rvCd_122
  | 123, _ => rvCd_123
  | 124, _ => rvCd_124
  | 125, _ => rvCd_125
  | 126, _ => rvCd_126
  | 127, _ => rvCd_127
  | 128, _ => rvCd_128
  | 129, _ => rvCd_129
  | 130, _ => rvCd_130
  | 131, _ => rvCd_131
  | 132, _ => rvCd_132
  | 133, _ => rvCd_133
  | 134, _ => rvCd_134
  | 135, _ => rvCd_135
  | 136, _ => rvCd_136
  | 137, _ => rvCd_137
  | 138, _ => rvCd_138
  | 139, _ => rvCd_139
  | 140, _ => rvCd_140
  | 141, _ => rvCd_141
  | 142, _ => rvCd_142
  | 143, _ => rvCd_143
  | 144, _ => rvCd_144
  | 145, _ => rvCd_145
  | 146, _ => rvCd_146
  | 147, _ => rvCd_147
  | 148, _ => rvCd_148
  | 149, _ => rvCd_149
  | 150, _ => rvCd_150
  | 151, _ => rvCd_151
  | 152, _ => rvCd_152
  | 153, _ => rvCd_153
  | 154, _ => rvCd_154
  | 155, _ => rvCd_155
  | 156, _ => rvCd_156
  | 157, _ => rvCd_157
  | 158, _ => rvCd_158
  | 159, _ => rvCd_159
  | 160, _ => rvCd_160
  | 161, _ => rvCd_161
  | 162, _ => rvCd_162
  | 163, _ => rvCd_163
  | 164, _ => rvCd_164
  | 165, _ => rvCd_165
  | 166, _ => rvCd_166
  | 167, _ => rvCd_167
  | 168, _ => rvCd_168
  | 169, _ => rvCd_169
  | 170, _ => rvCd_170
  | 171, _ => rvCd_171
  | 172, _ => rvCd_172
  | 173, _ => rvCd_173
  | 174, _ => rvCd_174
  | 175, _ => rvCd_175
  | 176, _ => rvCd_176
  | 177, _ => rvCd_177
  | 178, _ => rvCd_178
  | 179, _ => rvCd_179
  | 180, _ => rvCd_180
  | 181, _ => rvCd_181
  | 182, _ => rvCd_182
  | 183, _ => rvCd_183
  | 184, _ => rvCd_184
  | 185, _ => rvCd_185
  | 186, _ => rvCd_186
  | 187, _ => rvCd_187
  | 188, _ => rvCd_188
  | 189, _ => rvCd_189
  | 190, _ => rvCd_190
  | n + 191, h => absurd h (by omega)
set_option maxRecDepth 100000 in
theorem rvCk_0 : rvCkM 0 = true := by decide +kernel
set_option maxRecDepth 100000 in
theorem rvCk_1 : rvCkM 1 = true := by decide +kernel
set_option maxRecDepth 100000 in
theorem rvCk_2 : rvCkM 2 = true := by decide +kernel
set_option maxRecDepth 100000 in
theorem rvCk_3 : rvCkM 3 = true := by decide +kernel
set_option maxRecDepth 100000 in
theorem rvCk_4 : rvCkM 4 = true := by decide +kernel
set_option maxRecDepth 100000 in
theorem rvCk_5 : rvCkM 5 = true := by decide +kernel
set_option maxRecDepth 100000 in
theorem rvCk_6 : rvCkM 6 = true := by decide +kernel
set_option maxRecDepth 100000 in
theorem rvCk_7 : rvCkM 7 = true := by decide +kernel
set_option maxRecDepth 100000 in
theorem rvCk_8 : rvCkM 8 = true := by decide +kernel
set_option maxRecDepth 100000 in
theorem rvCk_9 : rvCkM 9 = true := by decide +kernel
set_option maxRecDepth 100000 in
theorem rvCk_10 : rvCkM 10 = true := by decide +kernel
set_option maxRecDepth 100000 in
theorem rvCk_11 : rvCkM 11 = true := by decide +kernel
set_option maxRecDepth 100000 in
theorem rvCk_12 : rvCkM 12 = true := by decide +kernel
set_option maxRecDepth 100000 in
theorem rvCk_13 : rvCkM 13 = true := by decide +kernel
set_option maxRecDepth 100000 in
theorem rvCk_14 : rvCkM 14 = true := by decide +kernel
set_option maxRecDepth 100000 in
theorem rvCk_15 : rvCkM 15 = true := by decide +kernel
set_option maxRecDepth 100000 in
theorem rvCk_16 : rvCkM 16 = true := by decide +kernel
set_option maxRecDepth 100000 in
theorem rvCk_17 : rvCkM 17 = true := by decide +kernel
set_option maxRecDepth 100000 in
theorem rvCk_18 : rvCkM 18 = true := by decide +kernel
set_option maxRecDepth 100000 in
theorem rvCk_19 : rvCkM 19 = true := by decide +kernel
set_option maxRecDepth 100000 in
theorem rvCk_20 : rvCkM 20 = true := by decide +kernel
set_option maxRecDepth 100000 in
theorem rvCk_21 : rvCkM 21 = true := by decide +kernel
set_option maxRecDepth 100000 in
theorem rvCk_22 : rvCkM 22 = true := by decide +kernel
set_option maxRecDepth 100000 in
theorem rvCk_23 : rvCkM 23 = true := by decide +kernel
set_option maxRecDepth 100000 in
theorem rvCk_24 : rvCkM 24 = true := by decide +kernel
set_option maxRecDepth 100000 in
theorem rvCk_25 : rvCkM 25 = true := by decide +kernel
set_option maxRecDepth 100000 in
theorem rvCk_26 : rvCkM 26 = true := by decide +kernel
set_option maxRecDepth 100000 in
theorem rvCk_27 : rvCkM 27 = true := by decide +kernel
set_option maxRecDepth 100000 in
theorem rvCk_28 : rvCkM 28 = true := by decide +kernel
set_option maxRecDepth 100000 in
theorem rvCk_29 : rvCkM 29 = true := by decide +kernel
set_option maxRecDepth 100000 in
theorem rvCk_30 : rvCkM 30 = true := by decide +kernel
set_option maxRecDepth 100000 in
theorem rvCk_31 : rvCkM 31 = true := by decide +kernel
set_option maxRecDepth 100000 in
theorem rvCk_32 : rvCkM 32 = true := by decide +kernel
set_option maxRecDepth 100000 in
theorem rvCk_33 : rvCkM 33 = true := by decide +kernel
set_option maxRecDepth 100000 in
theorem rvCk_34 : rvCkM 34 = true := by decide +kernel
set_option maxRecDepth 100000 in
theorem rvCk_35 : rvCkM 35 = true := by decide +kernel
set_option maxRecDepth 100000 in
theorem rvCk_36 : rvCkM 36 = true := by decide +kernel
set_option maxRecDepth 100000 in
theorem rvCk_37 : rvCkM 37 = true := by decide +kernel
set_option maxRecDepth 100000 in
theorem rvCk_38 : rvCkM 38 = true := by decide +kernel
set_option maxRecDepth 100000 in
theorem rvCk_39 : rvCkM 39 = true := by decide +kernel
set_option maxRecDepth 100000 in
theorem rvCk_40 : rvCkM 40 = true := by decide +kernel
set_option maxRecDepth 100000 in
theorem rvCk_41 : rvCkM 41 = true := by decide +kernel
set_option maxRecDepth 100000 in
theorem rvCk_42 : rvCkM 42 = true := by decide +kernel
set_option maxRecDepth 100000 in
theorem rvCk_43 : rvCkM 43 = true := by decide +kernel
set_option maxRecDepth 100000 in
theorem rvCk_44 : rvCkM 44 = true := by decide +kernel
set_option maxRecDepth 100000 in
theorem rvCk_45 : rvCkM 45 = true := by decide +kernel
set_option maxRecDepth 100000 in
theorem rvCk_46 : rvCkM 46 = true := by decide +kernel
set_option maxRecDepth 100000 in
theorem rvCk_47 : rvCkM 47 = true := by decide +kernel
set_option maxRecDepth 100000 in
theorem rvCk_48 : rvCkM 48 = true := by decide +kernel
set_option maxRecDepth 100000 in
theorem rvCk_49 : rvCkM 49 = true := by decide +kernel
set_option maxRecDepth 100000 in
theorem rvCk_50 : rvCkM 50 = true := by decide +kernel
set_option maxRecDepth 100000 in
theorem rvCk_51 : rvCkM 51 = true := by decide +kernel
set_option maxRecDepth 100000 in
theorem rvCk_52 : rvCkM 52 = true := by decide +kernel
set_option maxRecDepth 100000 in
theorem rvCk_53 : rvCkM 53 = true := by decide +kernel
set_option maxRecDepth 100000 in
theorem rvCk_54 : rvCkM 54 = true := by decide +kernel
set_option maxRecDepth 100000 in
theorem rvCk_55 : rvCkM 55 = true := by decide +kernel
set_option maxRecDepth 100000 in
theorem rvCk_56 : rvCkM 56 = true := by decide +kernel
set_option maxRecDepth 100000 in
theorem rvCk_57 : rvCkM 57 = true := by decide +kernel
set_option maxRecDepth 100000 in
theorem rvCk_58 : rvCkM 58 = true := by decide +kernel
set_option maxRecDepth 100000 in
theorem rvCk_59 : rvCkM 59 = true := by decide +kernel
set_option maxRecDepth 100000 in
theorem rvCk_60 : rvCkM 60 = true := by decide +kernel
set_option maxRecDepth 100000 in
theorem rvCk_61 : rvCkM 61 = true := by decide +kernel
set_option maxRecDepth 100000 in
theorem rvCk_62 : rvCkM 62 = true := by decide +kernel
set_option maxRecDepth 100000 in
theorem rvCk_63 : rvCkM 63 = true := by decide +kernel
set_option maxRecDepth 100000 in
theorem rvCk_64 : rvCkM 64 = true := by decide +kernel
set_option maxRecDepth 100000 in
theorem rvCk_65 : rvCkM 65 = true := by decide +kernel
set_option maxRecDepth 100000 in
theorem rvCk_66 : rvCkM 66 = true := by decide +kernel
set_option maxRecDepth 100000 in
theorem rvCk_67 : rvCkM 67 = true := by decide +kernel
set_option maxRecDepth 100000 in
theorem rvCk_68 : rvCkM 68 = true := by decide +kernel
set_option maxRecDepth 100000 in
theorem rvCk_69 : rvCkM 69 = true := by decide +kernel
set_option maxRecDepth 100000 in
theorem rvCk_70 : rvCkM 70 = true := by decide +kernel
set_option maxRecDepth 100000 in
theorem rvCk_71 : rvCkM 71 = true := by decide +kernel
set_option maxRecDepth 100000 in
theorem rvCk_72 : rvCkM 72 = true := by decide +kernel
set_option maxRecDepth 100000 in
theorem rvCk_73 : rvCkM 73 = true := by decide +kernel
set_option maxRecDepth 100000 in
theorem rvCk_74 : rvCkM 74 = true := by decide +kernel
set_option maxRecDepth 100000 in
theorem rvCk_75 : rvCkM 75 = true := by decide +kernel
set_option maxRecDepth 100000 in
theorem rvCk_76 : rvCkM 76 = true := by decide +kernel
set_option maxRecDepth 100000 in
theorem rvCk_77 : rvCkM 77 = true := by decide +kernel
set_option maxRecDepth 100000 in
theorem rvCk_78 : rvCkM 78 = true := by decide +kernel
set_option maxRecDepth 100000 in
theorem rvCk_79 : rvCkM 79 = true := by decide +kernel
set_option maxRecDepth 100000 in
theorem rvCk_80 : rvCkM 80 = true := by decide +kernel
set_option maxRecDepth 100000 in
theorem rvCk_81 : rvCkM 81 = true := by decide +kernel
set_option maxRecDepth 100000 in
theorem rvCk_82 : rvCkM 82 = true := by decide +kernel
set_option maxRecDepth 100000 in
theorem rvCk_83 : rvCkM 83 = true := by decide +kernel
set_option maxRecDepth 100000 in
theorem rvCk_84 : rvCkM 84 = true := by decide +kernel
set_option maxRecDepth 100000 in
theorem rvCk_85 : rvCkM 85 = true := by decide +kernel
set_option maxRecDepth 100000 in
theorem rvCk_86 : rvCkM 86 = true := by decide +kernel
set_option maxRecDepth 100000 in
theorem rvCk_87 : rvCkM 87 = true := by decide +kernel
set_option maxRecDepth 100000 in
theorem rvCk_88 : rvCkM 88 = true := by decide +kernel
set_option maxRecDepth 100000 in
theorem rvCk_89 : rvCkM 89 = true := by decide +kernel
set_option maxRecDepth 100000 in
theorem rvCk_90 : rvCkM 90 = true := by decide +kernel
set_option maxRecDepth 100000 in
theorem rvCk_91 : rvCkM 91 = true := by decide +kernel
set_option maxRecDepth 100000 in
theorem rvCk_92 : rvCkM 92 = true := by decide +kernel
set_option maxRecDepth 100000 in
theorem rvCk_93 : rvCkM 93 = true := by decide +kernel
set_option maxRecDepth 100000 in
theorem rvCk_94 : rvCkM 94 = true := by decide +kernel
set_option maxRecDepth 100000 in
theorem rvCk_95 : rvCkM 95 = true := by decide +kernel
set_option maxRecDepth 100000 in
theorem rvCk_96 : rvCkM 96 = true := by decide +kernel
set_option maxRecDepth 100000 in
theorem rvCk_97 : rvCkM 97 = true := by decide +kernel
set_option maxRecDepth 100000 in
theorem rvCk_98 : rvCkM 98 = true := by decide +kernel
set_option maxRecDepth 100000 in
theorem rvCk_99 : rvCkM 99 = true := by decide +kernel
set_option maxRecDepth 100000 in
theorem rvCk_100 : rvCkM 100 = true := by decide +kernel
set_option maxRecDepth 100000 in
theorem rvCk_101 : rvCkM 101 = true := by decide +kernel
set_option maxRecDepth 100000 in
theorem rvCk_102 : rvCkM 102 = true := by decide +kernel
set_option maxRecDepth 100000 in
theorem rvCk_103 : rvCkM 103 = true := by decide +kernel
set_option maxRecDepth 100000 in
theorem rvCk_104 : rvCkM 104 = true := by decide +kernel
set_option maxRecDepth 100000 in
theorem rvCk_105 : rvCkM 105 = true := by decide +kernel
set_option maxRecDepth 100000 in
theorem rvCk_106 : rvCkM 106 = true := by decide +kernel
set_option maxRecDepth 100000 in
theorem rvCk_107 : rvCkM 107 = true := by decide +kernel
set_option maxRecDepth 100000 in
theorem rvCk_108 : rvCkM 108 = true := by decide +kernel
set_option maxRecDepth 100000 in
theorem rvCk_109 : rvCkM 109 = true := by decide +kernel
