theorem kf_X4_11 : Cond.fieldLink RX4 11 "HullRegister$Reckoner" "pile" "[I" ∈ lw_good := List.mem_filter.mpr ⟨List.mem_append_right _ (List.mem_of_getElem? (i := 33) (by decide +kernel)), rfl⟩
theorem kf_X4_28 : Cond.fieldLink RX4 28 "HullRegister$Reckoner" "height" "I" ∈ lw_good := List.mem_filter.mpr ⟨List.mem_append_right _ (List.mem_of_getElem? (i := 34) (by decide +kernel)), rfl⟩
theorem kf_X4_31 : Cond.fieldLink RX4 31 "HullRegister$Reckoner" "figures" "I" ∈ lw_good := List.mem_filter.mpr ⟨List.mem_append_right _ (List.mem_of_getElem? (i := 35) (by decide +kernel)), rfl⟩
theorem kf_X4_15 : Cond.fieldLink RX4 15 "HullRegister$Reckoner" "length" "I" ∈ lw_good := List.mem_filter.mpr ⟨List.mem_append_right _ (List.mem_of_getElem? (i := 36) (by decide +kernel)), rfl⟩
theorem kf_X4_19 : Cond.fieldLink RX4 19 "HullRegister$Reckoner" "breadth" "I" ∈ lw_good := List.mem_filter.mpr ⟨List.mem_append_right _ (List.mem_of_getElem? (i := 37) (by decide +kernel)), rfl⟩
theorem kf_X4_22 : Cond.fieldLink RX4 22 "HullRegister$Reckoner" "depth" "I" ∈ lw_good := List.mem_filter.mpr ⟨List.mem_append_right _ (List.mem_of_getElem? (i := 38) (by decide +kernel)), rfl⟩
theorem kf_X4_25 : Cond.fieldLink RX4 25 "HullRegister$Reckoner" "rooms" "I" ∈ lw_good := List.mem_filter.mpr ⟨List.mem_append_right _ (List.mem_of_getElem? (i := 39) (by decide +kernel)), rfl⟩
theorem kf_X0_13 : Cond.fieldLink RX0 13 "HullRegister$Acts" "fed" "[I" ∈ lw_good := List.mem_filter.mpr ⟨List.mem_append_right _ (List.mem_of_getElem? (i := 56) (by decide +kernel)), rfl⟩
theorem kf_X0_41 : Cond.fieldLink RX0 41 "HullRegister$Acts" "fedCount" "I" ∈ lw_good := List.mem_filter.mpr ⟨List.mem_append_right _ (List.mem_of_getElem? (i := 57) (by decide +kernel)), rfl⟩
theorem kf_X0_19 : Cond.fieldLink RX0 19 "HullRegister$Acts" "texts" "[[I" ∈ lw_good := List.mem_filter.mpr ⟨List.mem_append_right _ (List.mem_of_getElem? (i := 58) (by decide +kernel)), rfl⟩
theorem kf_X0_22 : Cond.fieldLink RX0 22 "HullRegister$Acts" "days" "[I" ∈ lw_good := List.mem_filter.mpr ⟨List.mem_append_right _ (List.mem_of_getElem? (i := 59) (by decide +kernel)), rfl⟩
theorem kf_X0_33 : Cond.fieldLink RX0 33 "HullRegister$Acts" "count" "I" ∈ lw_good := List.mem_filter.mpr ⟨List.mem_append_right _ (List.mem_of_getElem? (i := 60) (by decide +kernel)), rfl⟩
theorem kf_X0_25 : Cond.fieldLink RX0 25 "HullRegister$Acts" "shapeTons" "[[I" ∈ lw_good := List.mem_filter.mpr ⟨List.mem_append_right _ (List.mem_of_getElem? (i := 61) (by decide +kernel)), rfl⟩
theorem kf_X0_29 : Cond.fieldLink RX0 29 "HullRegister$Acts" "reckoner" "LHullRegister$Reckoner;" ∈ lw_good := List.mem_filter.mpr ⟨List.mem_append_right _ (List.mem_of_getElem? (i := 62) (by decide +kernel)), rfl⟩
theorem kf_X1_11 : Cond.fieldLink RX1 11 "HullRegister$Hulls" "table" "[I" ∈ lw_good := List.mem_filter.mpr ⟨List.mem_append_right _ (List.mem_of_getElem? (i := 84) (by decide +kernel)), rfl⟩
theorem kf_X1_15 : Cond.fieldLink RX1 15 "HullRegister$Hulls" "count" "I" ∈ lw_good := List.mem_filter.mpr ⟨List.mem_append_right _ (List.mem_of_getElem? (i := 85) (by decide +kernel)), rfl⟩
theorem kf_X2_13 : Cond.fieldLink RX2 13 "HullRegister$Ledger" "table" "[I" ∈ lw_good := List.mem_filter.mpr ⟨List.mem_append_right _ (List.mem_of_getElem? (i := 158) (by decide +kernel)), rfl⟩
theorem kf_X2_17 : Cond.fieldLink RX2 17 "HullRegister$Ledger" "stands" "[Z" ∈ lw_good := List.mem_filter.mpr ⟨List.mem_append_right _ (List.mem_of_getElem? (i := 159) (by decide +kernel)), rfl⟩
theorem kf_X2_42 : Cond.fieldLink RX2 42 "HullRegister$Ledger" "count" "I" ∈ lw_good := List.mem_filter.mpr ⟨List.mem_append_right _ (List.mem_of_getElem? (i := 160) (by decide +kernel)), rfl⟩
theorem kf_X2_21 : Cond.fieldLink RX2 21 "HullRegister$Ledger" "firstAccounts" "[I" ∈ lw_good := List.mem_filter.mpr ⟨List.mem_append_right _ (List.mem_of_getElem? (i := 161) (by decide +kernel)), rfl⟩
theorem kf_X2_24 : Cond.fieldLink RX2 24 "HullRegister$Ledger" "otherAccounts" "[I" ∈ lw_good := List.mem_filter.mpr ⟨List.mem_append_right _ (List.mem_of_getElem? (i := 162) (by decide +kernel)), rfl⟩
theorem kf_X2_27 : Cond.fieldLink RX2 27 "HullRegister$Ledger" "owned" "[I" ∈ lw_good := List.mem_filter.mpr ⟨List.mem_append_right _ (List.mem_of_getElem? (i := 163) (by decide +kernel)), rfl⟩
theorem kf_X2_30 : Cond.fieldLink RX2 30 "HullRegister$Ledger" "pledged" "[I" ∈ lw_good := List.mem_filter.mpr ⟨List.mem_append_right _ (List.mem_of_getElem? (i := 164) (by decide +kernel)), rfl⟩
theorem kf_X2_33 : Cond.fieldLink RX2 33 "HullRegister$Ledger" "heldInPledge" "[I" ∈ lw_good := List.mem_filter.mpr ⟨List.mem_append_right _ (List.mem_of_getElem? (i := 165) (by decide +kernel)), rfl⟩
theorem kf_X2_36 : Cond.fieldLink RX2 36 "HullRegister$Ledger" "pledges" "[I" ∈ lw_good := List.mem_filter.mpr ⟨List.mem_append_right _ (List.mem_of_getElem? (i := 166) (by decide +kernel)), rfl⟩
theorem kf_X3_11 : Cond.fieldLink RX3 11 "HullRegister$Papers" "firstDays" "[I" ∈ lw_good := List.mem_filter.mpr ⟨List.mem_append_right _ (List.mem_of_getElem? (i := 193) (by decide +kernel)), rfl⟩
theorem kf_X3_15 : Cond.fieldLink RX3 15 "HullRegister$Papers" "lastDays" "[I" ∈ lw_good := List.mem_filter.mpr ⟨List.mem_append_right _ (List.mem_of_getElem? (i := 194) (by decide +kernel)), rfl⟩
theorem kf_X3_18 : Cond.fieldLink RX3 18 "HullRegister$Papers" "leastLengths" "[I" ∈ lw_good := List.mem_filter.mpr ⟨List.mem_append_right _ (List.mem_of_getElem? (i := 195) (by decide +kernel)), rfl⟩
theorem kf_X3_21 : Cond.fieldLink RX3 21 "HullRegister$Papers" "mostLengths" "[I" ∈ lw_good := List.mem_filter.mpr ⟨List.mem_append_right _ (List.mem_of_getElem? (i := 196) (by decide +kernel)), rfl⟩
theorem kf_X3_24 : Cond.fieldLink RX3 24 "HullRegister$Papers" "marks" "[I" ∈ lw_good := List.mem_filter.mpr ⟨List.mem_append_right _ (List.mem_of_getElem? (i := 197) (by decide +kernel)), rfl⟩
theorem kf_X3_39 : Cond.fieldLink RX3 39 "HullRegister$Papers" "count" "I" ∈ lw_good := List.mem_filter.mpr ⟨List.mem_append_right _ (List.mem_of_getElem? (i := 198) (by decide +kernel)), rfl⟩
theorem kf_X3_27 : Cond.fieldLink RX3 27 "HullRegister$Papers" "likes" "[I" ∈ lw_good := List.mem_filter.mpr ⟨List.mem_append_right _ (List.mem_of_getElem? (i := 199) (by decide +kernel)), rfl⟩
theorem kf_X3_30 : Cond.fieldLink RX3 30 "HullRegister$Papers" "witnessed" "[I" ∈ lw_good := List.mem_filter.mpr ⟨List.mem_append_right _ (List.mem_of_getElem? (i := 200) (by decide +kernel)), rfl⟩
theorem kf_X3_43 : Cond.fieldLink RX3 43 "HullRegister$Papers" "witnessCount" "I" ∈ lw_good := List.mem_filter.mpr ⟨List.mem_append_right _ (List.mem_of_getElem? (i := 201) (by decide +kernel)), rfl⟩
theorem kf_X3_33 : Cond.fieldLink RX3 33 "HullRegister$Papers" "groupOf" "[I" ∈ lw_good := List.mem_filter.mpr ⟨List.mem_append_right _ (List.mem_of_getElem? (i := 202) (by decide +kernel)), rfl⟩
theorem kf_X3_36 : Cond.fieldLink RX3 36 "HullRegister$Papers" "members" "[I" ∈ lw_good := List.mem_filter.mpr ⟨List.mem_append_right _ (List.mem_of_getElem? (i := 203) (by decide +kernel)), rfl⟩
theorem kf_X3_58 : Cond.fieldLink RX3 58 "HullRegister$Papers" "groupCount" "I" ∈ lw_good := List.mem_filter.mpr ⟨List.mem_append_right _ (List.mem_of_getElem? (i := 204) (by decide +kernel)), rfl⟩
theorem kf_X5_10 : Cond.fieldLink RX5 10 "HullRegister" "acts" "LHullRegister$Acts;" ∈ lw_good := List.mem_filter.mpr ⟨List.mem_append_right _ (List.mem_of_getElem? (i := 230) (by decide +kernel)), rfl⟩
theorem kf_X5_19 : Cond.fieldLink RX5 19 "HullRegister" "hulls" "LHullRegister$Hulls;" ∈ lw_good := List.mem_filter.mpr ⟨List.mem_append_right _ (List.mem_of_getElem? (i := 231) (by decide +kernel)), rfl⟩
theorem kf_X5_26 : Cond.fieldLink RX5 26 "HullRegister" "ledger" "LHullRegister$Ledger;" ∈ lw_good := List.mem_filter.mpr ⟨List.mem_append_right _ (List.mem_of_getElem? (i := 232) (by decide +kernel)), rfl⟩
theorem kf_X5_33 : Cond.fieldLink RX5 33 "HullRegister" "papers" "LHullRegister$Papers;" ∈ lw_good := List.mem_filter.mpr ⟨List.mem_append_right _ (List.mem_of_getElem? (i := 233) (by decide +kernel)), rfl⟩
theorem kf_X6_89 : Cond.fieldLink RX6 89 "HullRegisterModel" "fed" "I" ∈ lw_good := List.mem_filter.mpr ⟨List.mem_append_right _ (List.mem_of_getElem? (i := 619) (by decide +kernel)), rfl⟩
theorem kf_X6_7 : Cond.fieldLink RX6 7 "HullRegisterModel" "letters" "[I" ∈ lw_good := List.mem_filter.mpr ⟨List.mem_append_right _ (List.mem_of_getElem? (i := 620) (by decide +kernel)), rfl⟩
theorem kf_X6_105 : Cond.fieldLink RX6 105 "HullRegisterModel" "acts" "I" ∈ lw_good := List.mem_filter.mpr ⟨List.mem_append_right _ (List.mem_of_getElem? (i := 621) (by decide +kernel)), rfl⟩
theorem kf_X6_13 : Cond.fieldLink RX6 13 "HullRegisterModel" "actDay" "[I" ∈ lw_good := List.mem_filter.mpr ⟨List.mem_append_right _ (List.mem_of_getElem? (i := 622) (by decide +kernel)), rfl⟩
theorem kf_X6_16 : Cond.fieldLink RX6 16 "HullRegisterModel" "actLength" "[I" ∈ lw_good := List.mem_filter.mpr ⟨List.mem_append_right _ (List.mem_of_getElem? (i := 623) (by decide +kernel)), rfl⟩
theorem kf_X6_19 : Cond.fieldLink RX6 19 "HullRegisterModel" "text" "[I" ∈ lw_good := List.mem_filter.mpr ⟨List.mem_append_right _ (List.mem_of_getElem? (i := 624) (by decide +kernel)), rfl⟩
theorem kf_X6_149 : Cond.fieldLink RX6 149 "HullRegisterModel" "hulls" "I" ∈ lw_good := List.mem_filter.mpr ⟨List.mem_append_right _ (List.mem_of_getElem? (i := 625) (by decide +kernel)), rfl⟩
theorem kf_X6_22 : Cond.fieldLink RX6 22 "HullRegisterModel" "sizes" "[I" ∈ lw_good := List.mem_filter.mpr ⟨List.mem_append_right _ (List.mem_of_getElem? (i := 626) (by decide +kernel)), rfl⟩
theorem kf_X6_25 : Cond.fieldLink RX6 25 "HullRegisterModel" "tonsOf" "[I" ∈ lw_good := List.mem_filter.mpr ⟨List.mem_append_right _ (List.mem_of_getElem? (i := 627) (by decide +kernel)), rfl⟩
theorem kf_X6_28 : Cond.fieldLink RX6 28 "HullRegisterModel" "measuredOn" "[I" ∈ lw_good := List.mem_filter.mpr ⟨List.mem_append_right _ (List.mem_of_getElem? (i := 628) (by decide +kernel)), rfl⟩
theorem kf_X6_31 : Cond.fieldLink RX6 31 "HullRegisterModel" "measuredBy" "[I" ∈ lw_good := List.mem_filter.mpr ⟨List.mem_append_right _ (List.mem_of_getElem? (i := 629) (by decide +kernel)), rfl⟩
theorem kf_X6_159 : Cond.fieldLink RX6 159 "HullRegisterModel" "entries" "I" ∈ lw_good := List.mem_filter.mpr ⟨List.mem_append_right _ (List.mem_of_getElem? (i := 630) (by decide +kernel)), rfl⟩
theorem kf_X6_34 : Cond.fieldLink RX6 34 "HullRegisterModel" "kindOf" "[I" ∈ lw_good := List.mem_filter.mpr ⟨List.mem_append_right _ (List.mem_of_getElem? (i := 631) (by decide +kernel)), rfl⟩
theorem kf_X6_37 : Cond.fieldLink RX6 37 "HullRegisterModel" "hullOf" "[I" ∈ lw_good := List.mem_filter.mpr ⟨List.mem_append_right _ (List.mem_of_getElem? (i := 632) (by decide +kernel)), rfl⟩
theorem kf_X6_40 : Cond.fieldLink RX6 40 "HullRegisterModel" "oneOf" "[I" ∈ lw_good := List.mem_filter.mpr ⟨List.mem_append_right _ (List.mem_of_getElem? (i := 633) (by decide +kernel)), rfl⟩
theorem kf_X6_43 : Cond.fieldLink RX6 43 "HullRegisterModel" "otherOf" "[I" ∈ lw_good := List.mem_filter.mpr ⟨List.mem_append_right _ (List.mem_of_getElem? (i := 634) (by decide +kernel)), rfl⟩
theorem kf_X6_46 : Cond.fieldLink RX6 46 "HullRegisterModel" "manyOf" "[I" ∈ lw_good := List.mem_filter.mpr ⟨List.mem_append_right _ (List.mem_of_getElem? (i := 635) (by decide +kernel)), rfl⟩
theorem kf_X6_49 : Cond.fieldLink RX6 49 "HullRegisterModel" "pledgeOf" "[I" ∈ lw_good := List.mem_filter.mpr ⟨List.mem_append_right _ (List.mem_of_getElem? (i := 636) (by decide +kernel)), rfl⟩
theorem kf_X6_52 : Cond.fieldLink RX6 52 "HullRegisterModel" "isForged" "[Z" ∈ lw_good := List.mem_filter.mpr ⟨List.mem_append_right _ (List.mem_of_getElem? (i := 637) (by decide +kernel)), rfl⟩
theorem kf_X6_184 : Cond.fieldLink RX6 184 "HullRegisterModel" "papers" "I" ∈ lw_good := List.mem_filter.mpr ⟨List.mem_append_right _ (List.mem_of_getElem? (i := 638) (by decide +kernel)), rfl⟩
theorem kf_X6_56 : Cond.fieldLink RX6 56 "HullRegisterModel" "paper" "[I" ∈ lw_good := List.mem_filter.mpr ⟨List.mem_append_right _ (List.mem_of_getElem? (i := 639) (by decide +kernel)), rfl⟩
theorem kf_X6_187 : Cond.fieldLink RX6 187 "HullRegisterModel" "witnesses" "I" ∈ lw_good := List.mem_filter.mpr ⟨List.mem_append_right _ (List.mem_of_getElem? (i := 640) (by decide +kernel)), rfl⟩
theorem kf_X6_59 : Cond.fieldLink RX6 59 "HullRegisterModel" "witnessA" "[I" ∈ lw_good := List.mem_filter.mpr ⟨List.mem_append_right _ (List.mem_of_getElem? (i := 641) (by decide +kernel)), rfl⟩
theorem kf_X6_62 : Cond.fieldLink RX6 62 "HullRegisterModel" "witnessB" "[I" ∈ lw_good := List.mem_filter.mpr ⟨List.mem_append_right _ (List.mem_of_getElem? (i := 642) (by decide +kernel)), rfl⟩
theorem kf_X6_65 : Cond.fieldLink RX6 65 "HullRegisterModel" "saysYes" "[Z" ∈ lw_good := List.mem_filter.mpr ⟨List.mem_append_right _ (List.mem_of_getElem? (i := 643) (by decide +kernel)), rfl⟩
theorem kf_X6_68 : Cond.fieldLink RX6 68 "HullRegisterModel" "pile" "[I" ∈ lw_good := List.mem_filter.mpr ⟨List.mem_append_right _ (List.mem_of_getElem? (i := 644) (by decide +kernel)), rfl⟩
theorem kf_X6_115 : Cond.fieldLink RX6 115 "HullRegisterModel" "deep" "I" ∈ lw_good := List.mem_filter.mpr ⟨List.mem_append_right _ (List.mem_of_getElem? (i := 645) (by decide +kernel)), rfl⟩
theorem kf_X6_71 : Cond.fieldLink RX6 71 "HullRegisterModel" "has" "[I" ∈ lw_good := List.mem_filter.mpr ⟨List.mem_append_right _ (List.mem_of_getElem? (i := 646) (by decide +kernel)), rfl⟩
theorem kf_X6_74 : Cond.fieldLink RX6 74 "HullRegisterModel" "bound" "[I" ∈ lw_good := List.mem_filter.mpr ⟨List.mem_append_right _ (List.mem_of_getElem? (i := 647) (by decide +kernel)), rfl⟩
theorem kf_X6_77 : Cond.fieldLink RX6 77 "HullRegisterModel" "stands" "[Z" ∈ lw_good := List.mem_filter.mpr ⟨List.mem_append_right _ (List.mem_of_getElem? (i := 648) (by decide +kernel)), rfl⟩
theorem kf_X6_80 : Cond.fieldLink RX6 80 "HullRegisterModel" "isVoid" "[Z" ∈ lw_good := List.mem_filter.mpr ⟨List.mem_append_right _ (List.mem_of_getElem? (i := 649) (by decide +kernel)), rfl⟩
theorem kf_X6_83 : Cond.fieldLink RX6 83 "HullRegisterModel" "groupOf" "[I" ∈ lw_good := List.mem_filter.mpr ⟨List.mem_append_right _ (List.mem_of_getElem? (i := 650) (by decide +kernel)), rfl⟩
theorem kf_X6_86 : Cond.fieldLink RX6 86 "HullRegisterModel" "used" "[I" ∈ lw_good := List.mem_filter.mpr ⟨List.mem_append_right _ (List.mem_of_getElem? (i := 651) (by decide +kernel)), rfl⟩
theorem kl_L_9 : Cond.methodLink RL 9 yX5_init ∈ lw_good := List.mem_filter.mpr ⟨List.mem_append_right _ (List.mem_of_getElem? (i := 13) (by decide +kernel)), rfl⟩
theorem kl_X5_25 : Cond.methodLink RX5 25 yX2_init ∈ lw_good := List.mem_filter.mpr ⟨List.mem_append_right _ (List.mem_of_getElem? (i := 93) (by decide +kernel)), rfl⟩
theorem kl_X2_39 : Cond.methodLink RX2 39 yX2_goThrough ∈ lw_good := List.mem_filter.mpr ⟨List.mem_append_right _ (List.mem_of_getElem? (i := 97) (by decide +kernel)), rfl⟩
theorem kl_X2_79 : Cond.methodLink RX2 79 yX2_beginAnew ∈ lw_good := List.mem_filter.mpr ⟨List.mem_append_right _ (List.mem_of_getElem? (i := 101) (by decide +kernel)), rfl⟩
theorem kl_X2_88 : Cond.methodLink RX2 88 yJ7_fill_53178 ∈ lw_good := List.mem_filter.mpr ⟨List.mem_append_right _ (List.mem_of_getElem? (i := 105) (by decide +kernel)), rfl⟩
theorem kl_X2_58 : Cond.methodLink RX2 58 yX2_account ∈ lw_good := List.mem_filter.mpr ⟨List.mem_append_right _ (List.mem_of_getElem? (i := 108) (by decide +kernel)), rfl⟩
theorem kl_X2_65 : Cond.methodLink RX2 65 yX2_isForged ∈ lw_good := List.mem_filter.mpr ⟨List.mem_append_right _ (List.mem_of_getElem? (i := 111) (by decide +kernel)), rfl⟩
theorem kl_X2_50 : Cond.methodLink RX2 50 yX2_told ∈ lw_good := List.mem_filter.mpr ⟨List.mem_append_right _ (List.mem_of_getElem? (i := 115) (by decide +kernel)), rfl⟩
theorem kl_X2_82 : Cond.methodLink RX2 82 yX2_takesEffect ∈ lw_good := List.mem_filter.mpr ⟨List.mem_append_right _ (List.mem_of_getElem? (i := 119) (by decide +kernel)), rfl⟩
theorem kl_X2_94 : Cond.methodLink RX2 94 yX2_bringParts ∈ lw_good := List.mem_filter.mpr ⟨List.mem_append_right _ (List.mem_of_getElem? (i := 123) (by decide +kernel)), rfl⟩
theorem kl_X2_69 : Cond.methodLink RX2 69 yX2_freeOf ∈ lw_good := List.mem_filter.mpr ⟨List.mem_append_right _ (List.mem_of_getElem? (i := 127) (by decide +kernel)), rfl⟩
theorem kl_X2_97 : Cond.methodLink RX2 97 yX2_beginPledge ∈ lw_good := List.mem_filter.mpr ⟨List.mem_append_right _ (List.mem_of_getElem? (i := 131) (by decide +kernel)), rfl⟩
theorem kl_X2_103 : Cond.methodLink RX2 103 yX2_setStanding ∈ lw_good := List.mem_filter.mpr ⟨List.mem_append_right _ (List.mem_of_getElem? (i := 135) (by decide +kernel)), rfl⟩
theorem kl_X2_100 : Cond.methodLink RX2 100 yX2_endPledge ∈ lw_good := List.mem_filter.mpr ⟨List.mem_append_right _ (List.mem_of_getElem? (i := 139) (by decide +kernel)), rfl⟩
theorem kl_X2_107 : Cond.methodLink RX2 107 yX2_has ∈ lw_good := List.mem_filter.mpr ⟨List.mem_append_right _ (List.mem_of_getElem? (i := 143) (by decide +kernel)), rfl⟩
theorem kl_X2_61 : Cond.methodLink RX2 61 yX2_put ∈ lw_good := List.mem_filter.mpr ⟨List.mem_append_right _ (List.mem_of_getElem? (i := 150) (by decide +kernel)), rfl⟩
theorem kl_X2_85 : Cond.methodLink RX2 85 yX2_rankPledges ∈ lw_good := List.mem_filter.mpr ⟨List.mem_append_right _ (List.mem_of_getElem? (i := 154) (by decide +kernel)), rfl⟩
theorem kl_L_13 : Cond.methodLink RL 13 yX5_feed ∈ lw_good := List.mem_filter.mpr ⟨List.mem_append_right _ (List.mem_of_getElem? (i := 243) (by decide +kernel)), rfl⟩
theorem kl_X5_37 : Cond.methodLink RX5 37 yX0_takeLetters ∈ lw_good := List.mem_filter.mpr ⟨List.mem_append_right _ (List.mem_of_getElem? (i := 247) (by decide +kernel)), rfl⟩
theorem kl_X0_44 : Cond.methodLink RX0 44 yX0_lettersIn ∈ lw_good := List.mem_filter.mpr ⟨List.mem_append_right _ (List.mem_of_getElem? (i := 251) (by decide +kernel)), rfl⟩
theorem kl_X0_48 : Cond.methodLink RX0 48 yX0_letterAt ∈ lw_good := List.mem_filter.mpr ⟨List.mem_append_right _ (List.mem_of_getElem? (i := 254) (by decide +kernel)), rfl⟩
theorem kl_L_18 : Cond.methodLink RL 18 yX5_scrap ∈ lw_good := List.mem_filter.mpr ⟨List.mem_append_right _ (List.mem_of_getElem? (i := 257) (by decide +kernel)), rfl⟩
theorem kl_X5_41 : Cond.methodLink RX5 41 yX0_dropLetters ∈ lw_good := List.mem_filter.mpr ⟨List.mem_append_right _ (List.mem_of_getElem? (i := 261) (by decide +kernel)), rfl⟩
theorem kl_X0_52 : Cond.methodLink RX0 52 yJ7_fill_53178 ∈ lw_good := List.mem_filter.mpr ⟨List.mem_append_right _ (List.mem_of_getElem? (i := 265) (by decide +kernel)), rfl⟩
theorem kl_L_23 : Cond.methodLink RL 23 yX5_act ∈ lw_good := List.mem_filter.mpr ⟨List.mem_append_right _ (List.mem_of_getElem? (i := 266) (by decide +kernel)), rfl⟩
theorem kl_X5_45 : Cond.methodLink RX5 45 yX0_enact ∈ lw_good := List.mem_filter.mpr ⟨List.mem_append_right _ (List.mem_of_getElem? (i := 270) (by decide +kernel)), rfl⟩
theorem kl_X5_67 : Cond.methodLink RX5 67 yX5_isWithin ∈ lw_good := List.mem_filter.mpr ⟨List.mem_append_right _ (List.mem_of_getElem? (i := 277) (by decide +kernel)), rfl⟩
theorem kl_X0_62 : Cond.methodLink RX0 62 yX4_reckon ∈ lw_good := List.mem_filter.mpr ⟨List.mem_append_right _ (List.mem_of_getElem? (i := 278) (by decide +kernel)), rfl⟩
theorem kl_X4_34 : Cond.methodLink RX4 34 yX4_read ∈ lw_good := List.mem_filter.mpr ⟨List.mem_append_right _ (List.mem_of_getElem? (i := 282) (by decide +kernel)), rfl⟩
theorem kl_X4_43 : Cond.methodLink RX4 43 yX4_readFigure ∈ lw_good := List.mem_filter.mpr ⟨List.mem_append_right _ (List.mem_of_getElem? (i := 287) (by decide +kernel)), rfl⟩
theorem kl_X4_46 : Cond.methodLink RX4 46 yX4_push ∈ lw_good := List.mem_filter.mpr ⟨List.mem_append_right _ (List.mem_of_getElem? (i := 291) (by decide +kernel)), rfl⟩
theorem kl_X4_49 : Cond.methodLink RX4 49 yX4_liftToZero ∈ lw_good := List.mem_filter.mpr ⟨List.mem_append_right _ (List.mem_of_getElem? (i := 295) (by decide +kernel)), rfl⟩
theorem kl_X4_56 : Cond.methodLink RX4 56 yJ9_max_7cf53 ∈ lw_good := List.mem_filter.mpr ⟨List.mem_append_right _ (List.mem_of_getElem? (i := 299) (by decide +kernel)), rfl⟩
theorem kl_X4_53 : Cond.methodLink RX4 53 yX4_joinTwo ∈ lw_good := List.mem_filter.mpr ⟨List.mem_append_right _ (List.mem_of_getElem? (i := 302) (by decide +kernel)), rfl⟩
theorem kl_X4_62 : Cond.methodLink RX4 62 yX4_joined ∈ lw_good := List.mem_filter.mpr ⟨List.mem_append_right _ (List.mem_of_getElem? (i := 306) (by decide +kernel)), rfl⟩
theorem kl_X4_66 : Cond.methodLink RX4 66 yX4_bounded ∈ lw_good := List.mem_filter.mpr ⟨List.mem_append_right _ (List.mem_of_getElem? (i := 309) (by decide +kernel)), rfl⟩
theorem kl_X0_67 : Cond.methodLink RX0 67 ⟨"java/lang/System", "arraycopy", "(Ljava/lang/Object;ILjava/lang/Object;II)V"⟩ ∈ lw_good := List.mem_filter.mpr ⟨List.mem_append_right _ (List.mem_of_getElem? (i := 318) (by decide +kernel)), rfl⟩
theorem kl_X0_73 : Cond.methodLink RX0 73 yX0_dropLetters ∈ lw_good := List.mem_filter.mpr ⟨List.mem_append_right _ (List.mem_of_getElem? (i := 321) (by decide +kernel)), rfl⟩
theorem kl_L_27 : Cond.methodLink RL 27 yX5_inForce ∈ lw_good := List.mem_filter.mpr ⟨List.mem_append_right _ (List.mem_of_getElem? (i := 322) (by decide +kernel)), rfl⟩
theorem kl_X5_48 : Cond.methodLink RX5 48 yX5_isDay ∈ lw_good := List.mem_filter.mpr ⟨List.mem_append_right _ (List.mem_of_getElem? (i := 326) (by decide +kernel)), rfl⟩
theorem kl_X5_52 : Cond.methodLink RX5 52 yX0_onDay ∈ lw_good := List.mem_filter.mpr ⟨List.mem_append_right _ (List.mem_of_getElem? (i := 327) (by decide +kernel)), rfl⟩
theorem kl_L_31 : Cond.methodLink RL 31 yX5_tons ∈ lw_good := List.mem_filter.mpr ⟨List.mem_append_right _ (List.mem_of_getElem? (i := 331) (by decide +kernel)), rfl⟩
theorem kl_X5_55 : Cond.methodLink RX5 55 yX0_has ∈ lw_good := List.mem_filter.mpr ⟨List.mem_append_right _ (List.mem_of_getElem? (i := 335) (by decide +kernel)), rfl⟩
theorem kl_X5_58 : Cond.methodLink RX5 58 yX5_areSizes ∈ lw_good := List.mem_filter.mpr ⟨List.mem_append_right _ (List.mem_of_getElem? (i := 340) (by decide +kernel)), rfl⟩
theorem kl_X5_118 : Cond.methodLink RX5 118 yX5_isMeasure ∈ lw_good := List.mem_filter.mpr ⟨List.mem_append_right _ (List.mem_of_getElem? (i := 343) (by decide +kernel)), rfl⟩
theorem kl_X5_63 : Cond.methodLink RX5 63 yX0_tonsBy ∈ lw_good := List.mem_filter.mpr ⟨List.mem_append_right _ (List.mem_of_getElem? (i := 347) (by decide +kernel)), rfl⟩
theorem kl_X0_77 : Cond.methodLink RX0 77 yX4_setSizes ∈ lw_good := List.mem_filter.mpr ⟨List.mem_append_right _ (List.mem_of_getElem? (i := 351) (by decide +kernel)), rfl⟩
theorem kl_L_36 : Cond.methodLink RL 36 yX5_shape ∈ lw_good := List.mem_filter.mpr ⟨List.mem_append_right _ (List.mem_of_getElem? (i := 355) (by decide +kernel)), rfl⟩
theorem kl_X5_71 : Cond.methodLink RX5 71 yX0_ofLeastShape ∈ lw_good := List.mem_filter.mpr ⟨List.mem_append_right _ (List.mem_of_getElem? (i := 359) (by decide +kernel)), rfl⟩
theorem kl_X0_81 : Cond.methodLink RX0 81 yX0_tonsOfShapes ∈ lw_good := List.mem_filter.mpr ⟨List.mem_append_right _ (List.mem_of_getElem? (i := 363) (by decide +kernel)), rfl⟩
theorem kl_X0_89 : Cond.methodLink RX0 89 yX0_lengthOf ∈ lw_good := List.mem_filter.mpr ⟨List.mem_append_right _ (List.mem_of_getElem? (i := 367) (by decide +kernel)), rfl⟩
theorem kl_X0_92 : Cond.methodLink RX0 92 yX0_breadthOf ∈ lw_good := List.mem_filter.mpr ⟨List.mem_append_right _ (List.mem_of_getElem? (i := 370) (by decide +kernel)), rfl⟩
theorem kl_X0_95 : Cond.methodLink RX0 95 yX0_depthOf ∈ lw_good := List.mem_filter.mpr ⟨List.mem_append_right _ (List.mem_of_getElem? (i := 373) (by decide +kernel)), rfl⟩
theorem kl_X0_98 : Cond.methodLink RX0 98 yX0_tonsBy ∈ lw_good := List.mem_filter.mpr ⟨List.mem_append_right _ (List.mem_of_getElem? (i := 376) (by decide +kernel)), rfl⟩
theorem kl_X0_85 : Cond.methodLink RX0 85 yX0_leastShape ∈ lw_good := List.mem_filter.mpr ⟨List.mem_append_right _ (List.mem_of_getElem? (i := 377) (by decide +kernel)), rfl⟩
theorem kl_L_41 : Cond.methodLink RL 41 yX5_hull ∈ lw_good := List.mem_filter.mpr ⟨List.mem_append_right _ (List.mem_of_getElem? (i := 380) (by decide +kernel)), rfl⟩
theorem kl_X5_75 : Cond.methodLink RX5 75 yX1_add ∈ lw_good := List.mem_filter.mpr ⟨List.mem_append_right _ (List.mem_of_getElem? (i := 384) (by decide +kernel)), rfl⟩
theorem kl_X1_23 : Cond.methodLink RX1 23 yX1_setSizes ∈ lw_good := List.mem_filter.mpr ⟨List.mem_append_right _ (List.mem_of_getElem? (i := 388) (by decide +kernel)), rfl⟩
theorem kl_X1_28 : Cond.methodLink RX1 28 yX1_setMeasuring ∈ lw_good := List.mem_filter.mpr ⟨List.mem_append_right _ (List.mem_of_getElem? (i := 393) (by decide +kernel)), rfl⟩
theorem kl_L_46 : Cond.methodLink RL 46 yX5_alter ∈ lw_good := List.mem_filter.mpr ⟨List.mem_append_right _ (List.mem_of_getElem? (i := 397) (by decide +kernel)), rfl⟩
theorem kl_X5_79 : Cond.methodLink RX5 79 yX1_has ∈ lw_good := List.mem_filter.mpr ⟨List.mem_append_right _ (List.mem_of_getElem? (i := 401) (by decide +kernel)), rfl⟩
theorem kl_X5_80 : Cond.methodLink RX5 80 yX1_setSizes ∈ lw_good := List.mem_filter.mpr ⟨List.mem_append_right _ (List.mem_of_getElem? (i := 406) (by decide +kernel)), rfl⟩
theorem kl_L_50 : Cond.methodLink RL 50 yX5_measure ∈ lw_good := List.mem_filter.mpr ⟨List.mem_append_right _ (List.mem_of_getElem? (i := 407) (by decide +kernel)), rfl⟩
theorem kl_X5_84 : Cond.methodLink RX5 84 yX1_told ∈ lw_good := List.mem_filter.mpr ⟨List.mem_append_right _ (List.mem_of_getElem? (i := 411) (by decide +kernel)), rfl⟩
theorem kl_X5_88 : Cond.methodLink RX5 88 yX1_setMeasuring ∈ lw_good := List.mem_filter.mpr ⟨List.mem_append_right _ (List.mem_of_getElem? (i := 415) (by decide +kernel)), rfl⟩
theorem kl_L_55 : Cond.methodLink RL 55 yX5_of ∈ lw_good := List.mem_filter.mpr ⟨List.mem_append_right _ (List.mem_of_getElem? (i := 416) (by decide +kernel)), rfl⟩
theorem kl_L_59 : Cond.methodLink RL 59 yX5_sell ∈ lw_good := List.mem_filter.mpr ⟨List.mem_append_right _ (List.mem_of_getElem? (i := 420) (by decide +kernel)), rfl⟩
theorem kl_X5_92 : Cond.methodLink RX5 92 yX5_enter ∈ lw_good := List.mem_filter.mpr ⟨List.mem_append_right _ (List.mem_of_getElem? (i := 424) (by decide +kernel)), rfl⟩
theorem kl_X5_103 : Cond.methodLink RX5 103 yX5_isPerson ∈ lw_good := List.mem_filter.mpr ⟨List.mem_append_right _ (List.mem_of_getElem? (i := 428) (by decide +kernel)), rfl⟩
theorem kl_X5_162 : Cond.methodLink RX5 162 yX2_add ∈ lw_good := List.mem_filter.mpr ⟨List.mem_append_right _ (List.mem_of_getElem? (i := 431) (by decide +kernel)), rfl⟩
theorem kl_L_63 : Cond.methodLink RL 63 yX5_pledge ∈ lw_good := List.mem_filter.mpr ⟨List.mem_append_right _ (List.mem_of_getElem? (i := 435) (by decide +kernel)), rfl⟩
theorem kl_L_67 : Cond.methodLink RL 67 yX5_redeem ∈ lw_good := List.mem_filter.mpr ⟨List.mem_append_right _ (List.mem_of_getElem? (i := 439) (by decide +kernel)), rfl⟩
theorem kl_X5_95 : Cond.methodLink RX5 95 yX2_has ∈ lw_good := List.mem_filter.mpr ⟨List.mem_append_right _ (List.mem_of_getElem? (i := 443) (by decide +kernel)), rfl⟩
theorem kl_X5_96 : Cond.methodLink RX5 96 yX2_addRedeem ∈ lw_good := List.mem_filter.mpr ⟨List.mem_append_right _ (List.mem_of_getElem? (i := 444) (by decide +kernel)), rfl⟩
theorem kl_X2_54 : Cond.methodLink RX2 54 yX2_add ∈ lw_good := List.mem_filter.mpr ⟨List.mem_append_right _ (List.mem_of_getElem? (i := 448) (by decide +kernel)), rfl⟩
theorem kl_L_71 : Cond.methodLink RL 71 yX5_forge ∈ lw_good := List.mem_filter.mpr ⟨List.mem_append_right _ (List.mem_of_getElem? (i := 449) (by decide +kernel)), rfl⟩
theorem kl_X5_99 : Cond.methodLink RX5 99 yX2_markForged ∈ lw_good := List.mem_filter.mpr ⟨List.mem_append_right _ (List.mem_of_getElem? (i := 453) (by decide +kernel)), rfl⟩
theorem kl_L_75 : Cond.methodLink RL 75 yX5_entry ∈ lw_good := List.mem_filter.mpr ⟨List.mem_append_right _ (List.mem_of_getElem? (i := 457) (by decide +kernel)), rfl⟩
theorem kl_X5_102 : Cond.methodLink RX5 102 yX2_told ∈ lw_good := List.mem_filter.mpr ⟨List.mem_append_right _ (List.mem_of_getElem? (i := 461) (by decide +kernel)), rfl⟩
theorem kl_L_79 : Cond.methodLink RL 79 yX5_parts ∈ lw_good := List.mem_filter.mpr ⟨List.mem_append_right _ (List.mem_of_getElem? (i := 462) (by decide +kernel)), rfl⟩
theorem kl_X5_106 : Cond.methodLink RX5 106 yX2_freeParts ∈ lw_good := List.mem_filter.mpr ⟨List.mem_append_right _ (List.mem_of_getElem? (i := 466) (by decide +kernel)), rfl⟩
theorem kl_X5_109 : Cond.methodLink RX5 109 yX2_allParts ∈ lw_good := List.mem_filter.mpr ⟨List.mem_append_right _ (List.mem_of_getElem? (i := 470) (by decide +kernel)), rfl⟩
theorem kl_L_84 : Cond.methodLink RL 84 yX5_manager ∈ lw_good := List.mem_filter.mpr ⟨List.mem_append_right _ (List.mem_of_getElem? (i := 474) (by decide +kernel)), rfl⟩
theorem kl_X5_112 : Cond.methodLink RX5 112 yX2_greatestOwner ∈ lw_good := List.mem_filter.mpr ⟨List.mem_append_right _ (List.mem_of_getElem? (i := 478) (by decide +kernel)), rfl⟩
theorem kl_X2_73 : Cond.methodLink RX2 73 yX2_allParts ∈ lw_good := List.mem_filter.mpr ⟨List.mem_append_right _ (List.mem_of_getElem? (i := 482) (by decide +kernel)), rfl⟩
theorem kl_L_88 : Cond.methodLink RL 88 yX5_held ∈ lw_good := List.mem_filter.mpr ⟨List.mem_append_right _ (List.mem_of_getElem? (i := 483) (by decide +kernel)), rfl⟩
theorem kl_X5_115 : Cond.methodLink RX5 115 yX2_partsHeld ∈ lw_good := List.mem_filter.mpr ⟨List.mem_append_right _ (List.mem_of_getElem? (i := 487) (by decide +kernel)), rfl⟩
theorem kl_L_92 : Cond.methodLink RL 92 yX5_paper ∈ lw_good := List.mem_filter.mpr ⟨List.mem_append_right _ (List.mem_of_getElem? (i := 491) (by decide +kernel)), rfl⟩
theorem kl_X5_121 : Cond.methodLink RX5 121 yX3_add ∈ lw_good := List.mem_filter.mpr ⟨List.mem_append_right _ (List.mem_of_getElem? (i := 495) (by decide +kernel)), rfl⟩
theorem kl_X3_61 : Cond.methodLink RX3 61 yX3_seemAlike ∈ lw_good := List.mem_filter.mpr ⟨List.mem_append_right _ (List.mem_of_getElem? (i := 499) (by decide +kernel)), rfl⟩
theorem kl_X3_64 : Cond.methodLink RX3 64 yX3_setLike ∈ lw_good := List.mem_filter.mpr ⟨List.mem_append_right _ (List.mem_of_getElem? (i := 503) (by decide +kernel)), rfl⟩
theorem kl_X3_68 : Cond.methodLink RX3 68 yX3_joinAnew ∈ lw_good := List.mem_filter.mpr ⟨List.mem_append_right _ (List.mem_of_getElem? (i := 507) (by decide +kernel)), rfl⟩
theorem kl_X3_71 : Cond.methodLink RX3 71 yJ7_fill_53178 ∈ lw_good := List.mem_filter.mpr ⟨List.mem_append_right _ (List.mem_of_getElem? (i := 511) (by decide +kernel)), rfl⟩
theorem kl_X3_77 : Cond.methodLink RX3 77 yX3_placeFrom ∈ lw_good := List.mem_filter.mpr ⟨List.mem_append_right _ (List.mem_of_getElem? (i := 512) (by decide +kernel)), rfl⟩
theorem kl_X3_80 : Cond.methodLink RX3 80 yJ9_min_7cf53 ∈ lw_good := List.mem_filter.mpr ⟨List.mem_append_right _ (List.mem_of_getElem? (i := 516) (by decide +kernel)), rfl⟩
theorem kl_X3_86 : Cond.methodLink RX3 86 yX3_placeInto ∈ lw_good := List.mem_filter.mpr ⟨List.mem_append_right _ (List.mem_of_getElem? (i := 519) (by decide +kernel)), rfl⟩
theorem kl_X3_90 : Cond.methodLink RX3 90 yJ9_max_7cf53 ∈ lw_good := List.mem_filter.mpr ⟨List.mem_append_right _ (List.mem_of_getElem? (i := 523) (by decide +kernel)), rfl⟩
theorem kl_L_96 : Cond.methodLink RL 96 yX5_witness ∈ lw_good := List.mem_filter.mpr ⟨List.mem_append_right _ (List.mem_of_getElem? (i := 524) (by decide +kernel)), rfl⟩
theorem kl_X5_123 : Cond.methodLink RX5 123 yX3_areTwo ∈ lw_good := List.mem_filter.mpr ⟨List.mem_append_right _ (List.mem_of_getElem? (i := 528) (by decide +kernel)), rfl⟩
theorem kl_X3_50 : Cond.methodLink RX3 50 yX3_has ∈ lw_good := List.mem_filter.mpr ⟨List.mem_append_right _ (List.mem_of_getElem? (i := 532) (by decide +kernel)), rfl⟩
theorem kl_X5_127 : Cond.methodLink RX5 127 yX3_hear ∈ lw_good := List.mem_filter.mpr ⟨List.mem_append_right _ (List.mem_of_getElem? (i := 537) (by decide +kernel)), rfl⟩
theorem kl_X3_54 : Cond.methodLink RX3 54 yX3_isIn ∈ lw_good := List.mem_filter.mpr ⟨List.mem_append_right _ (List.mem_of_getElem? (i := 541) (by decide +kernel)), rfl⟩
theorem kl_L_100 : Cond.methodLink RL 100 yX5_alike ∈ lw_good := List.mem_filter.mpr ⟨List.mem_append_right _ (List.mem_of_getElem? (i := 544) (by decide +kernel)), rfl⟩
theorem kl_X5_131 : Cond.methodLink RX5 131 yX3_mayBeOne ∈ lw_good := List.mem_filter.mpr ⟨List.mem_append_right _ (List.mem_of_getElem? (i := 548) (by decide +kernel)), rfl⟩
theorem kl_L_104 : Cond.methodLink RL 104 yX5_group ∈ lw_good := List.mem_filter.mpr ⟨List.mem_append_right _ (List.mem_of_getElem? (i := 552) (by decide +kernel)), rfl⟩
theorem kl_X5_134 : Cond.methodLink RX5 134 yX3_has ∈ lw_good := List.mem_filter.mpr ⟨List.mem_append_right _ (List.mem_of_getElem? (i := 556) (by decide +kernel)), rfl⟩
theorem kl_X5_135 : Cond.methodLink RX5 135 yX3_joinedGroup ∈ lw_good := List.mem_filter.mpr ⟨List.mem_append_right _ (List.mem_of_getElem? (i := 557) (by decide +kernel)), rfl⟩
theorem kl_L_108 : Cond.methodLink RL 108 yX5_groups ∈ lw_good := List.mem_filter.mpr ⟨List.mem_append_right _ (List.mem_of_getElem? (i := 561) (by decide +kernel)), rfl⟩
theorem kl_X5_138 : Cond.methodLink RX5 138 yX3_joinedGroups ∈ lw_good := List.mem_filter.mpr ⟨List.mem_append_right _ (List.mem_of_getElem? (i := 565) (by decide +kernel)), rfl⟩
theorem kl_L_112 : Cond.methodLink RL 112 yX5_many ∈ lw_good := List.mem_filter.mpr ⟨List.mem_append_right _ (List.mem_of_getElem? (i := 569) (by decide +kernel)), rfl⟩
theorem kl_X5_141 : Cond.methodLink RX5 141 yX0_size ∈ lw_good := List.mem_filter.mpr ⟨List.mem_append_right _ (List.mem_of_getElem? (i := 573) (by decide +kernel)), rfl⟩
theorem kl_X5_144 : Cond.methodLink RX5 144 yX1_size ∈ lw_good := List.mem_filter.mpr ⟨List.mem_append_right _ (List.mem_of_getElem? (i := 577) (by decide +kernel)), rfl⟩
theorem kl_X5_145 : Cond.methodLink RX5 145 yX2_size ∈ lw_good := List.mem_filter.mpr ⟨List.mem_append_right _ (List.mem_of_getElem? (i := 581) (by decide +kernel)), rfl⟩
theorem kl_X5_146 : Cond.methodLink RX5 146 yX2_forgedEntries ∈ lw_good := List.mem_filter.mpr ⟨List.mem_append_right _ (List.mem_of_getElem? (i := 585) (by decide +kernel)), rfl⟩
theorem kl_X2_76 : Cond.methodLink RX2 76 yX2_sumOf ∈ lw_good := List.mem_filter.mpr ⟨List.mem_append_right _ (List.mem_of_getElem? (i := 589) (by decide +kernel)), rfl⟩
theorem kl_X5_149 : Cond.methodLink RX5 149 yX2_voidEntries ∈ lw_good := List.mem_filter.mpr ⟨List.mem_append_right _ (List.mem_of_getElem? (i := 593) (by decide +kernel)), rfl⟩
theorem kl_X5_152 : Cond.methodLink RX5 152 yX2_standingPledges ∈ lw_good := List.mem_filter.mpr ⟨List.mem_append_right _ (List.mem_of_getElem? (i := 597) (by decide +kernel)), rfl⟩
theorem kl_X5_155 : Cond.methodLink RX5 155 yX3_size ∈ lw_good := List.mem_filter.mpr ⟨List.mem_append_right _ (List.mem_of_getElem? (i := 601) (by decide +kernel)), rfl⟩
theorem kl_X5_156 : Cond.methodLink RX5 156 yX3_witnesses ∈ lw_good := List.mem_filter.mpr ⟨List.mem_append_right _ (List.mem_of_getElem? (i := 605) (by decide +kernel)), rfl⟩
theorem kl_X5_159 : Cond.methodLink RX5 159 yX0_lettersFed ∈ lw_good := List.mem_filter.mpr ⟨List.mem_append_right _ (List.mem_of_getElem? (i := 609) (by decide +kernel)), rfl⟩
theorem kl_L_12 : Cond.methodLink RL 12 yX6_init ∈ lw_good := List.mem_filter.mpr ⟨List.mem_append_right _ (List.mem_of_getElem? (i := 615) (by decide +kernel)), rfl⟩
theorem kl_L_17 : Cond.methodLink RL 17 yX6_feed ∈ lw_good := List.mem_filter.mpr ⟨List.mem_append_right _ (List.mem_of_getElem? (i := 719) (by decide +kernel)), rfl⟩
theorem kl_L_22 : Cond.methodLink RL 22 yX6_scrap ∈ lw_good := List.mem_filter.mpr ⟨List.mem_append_right _ (List.mem_of_getElem? (i := 723) (by decide +kernel)), rfl⟩
theorem kl_L_26 : Cond.methodLink RL 26 yX6_act ∈ lw_good := List.mem_filter.mpr ⟨List.mem_append_right _ (List.mem_of_getElem? (i := 727) (by decide +kernel)), rfl⟩
theorem kl_X6_101 : Cond.methodLink RX6 101 yX6_in ∈ lw_good := List.mem_filter.mpr ⟨List.mem_append_right _ (List.mem_of_getElem? (i := 731) (by decide +kernel)), rfl⟩
theorem kl_X6_108 : Cond.methodLink RX6 108 yX6_isGood ∈ lw_good := List.mem_filter.mpr ⟨List.mem_append_right _ (List.mem_of_getElem? (i := 734) (by decide +kernel)), rfl⟩
theorem kl_X6_97 : Cond.methodLink RX6 97 yX6_takes ∈ lw_good := List.mem_filter.mpr ⟨List.mem_append_right _ (List.mem_of_getElem? (i := 738) (by decide +kernel)), rfl⟩
theorem kl_X6_93 : Cond.methodLink RX6 93 yX6_isFigure ∈ lw_good := List.mem_filter.mpr ⟨List.mem_append_right _ (List.mem_of_getElem? (i := 741) (by decide +kernel)), rfl⟩
theorem kl_L_30 : Cond.methodLink RL 30 yX6_inForce ∈ lw_good := List.mem_filter.mpr ⟨List.mem_append_right _ (List.mem_of_getElem? (i := 744) (by decide +kernel)), rfl⟩
theorem kl_X6_112 : Cond.methodLink RX6 112 yX6_forceOn ∈ lw_good := List.mem_filter.mpr ⟨List.mem_append_right _ (List.mem_of_getElem? (i := 748) (by decide +kernel)), rfl⟩
theorem kl_L_35 : Cond.methodLink RL 35 yX6_tons ∈ lw_good := List.mem_filter.mpr ⟨List.mem_append_right _ (List.mem_of_getElem? (i := 752) (by decide +kernel)), rfl⟩
theorem kl_X6_136 : Cond.methodLink RX6 136 yX6_isAct ∈ lw_good := List.mem_filter.mpr ⟨List.mem_append_right _ (List.mem_of_getElem? (i := 756) (by decide +kernel)), rfl⟩
theorem kl_X6_139 : Cond.methodLink RX6 139 yX6_areSizes ∈ lw_good := List.mem_filter.mpr ⟨List.mem_append_right _ (List.mem_of_getElem? (i := 760) (by decide +kernel)), rfl⟩
theorem kl_X6_143 : Cond.methodLink RX6 143 yX6_tonsBy ∈ lw_good := List.mem_filter.mpr ⟨List.mem_append_right _ (List.mem_of_getElem? (i := 763) (by decide +kernel)), rfl⟩
theorem kl_X6_124 : Cond.methodLink RX6 124 yX6_push ∈ lw_good := List.mem_filter.mpr ⟨List.mem_append_right _ (List.mem_of_getElem? (i := 769) (by decide +kernel)), rfl⟩
theorem kl_X6_132 : Cond.methodLink RX6 132 yX6_combine ∈ lw_good := List.mem_filter.mpr ⟨List.mem_append_right _ (List.mem_of_getElem? (i := 777) (by decide +kernel)), rfl⟩
theorem kl_L_40 : Cond.methodLink RL 40 yX6_shape ∈ lw_good := List.mem_filter.mpr ⟨List.mem_append_right _ (List.mem_of_getElem? (i := 782) (by decide +kernel)), rfl⟩
theorem kl_L_45 : Cond.methodLink RL 45 yX6_hull ∈ lw_good := List.mem_filter.mpr ⟨List.mem_append_right _ (List.mem_of_getElem? (i := 787) (by decide +kernel)), rfl⟩
theorem kl_X6_152 : Cond.methodLink RX6 152 yX6_put ∈ lw_good := List.mem_filter.mpr ⟨List.mem_append_right _ (List.mem_of_getElem? (i := 791) (by decide +kernel)), rfl⟩
theorem kl_L_49 : Cond.methodLink RL 49 yX6_alter ∈ lw_good := List.mem_filter.mpr ⟨List.mem_append_right _ (List.mem_of_getElem? (i := 795) (by decide +kernel)), rfl⟩
theorem kl_X6_156 : Cond.methodLink RX6 156 yX6_isHull ∈ lw_good := List.mem_filter.mpr ⟨List.mem_append_right _ (List.mem_of_getElem? (i := 799) (by decide +kernel)), rfl⟩
theorem kl_L_54 : Cond.methodLink RL 54 yX6_measure ∈ lw_good := List.mem_filter.mpr ⟨List.mem_append_right _ (List.mem_of_getElem? (i := 803) (by decide +kernel)), rfl⟩
theorem kl_L_58 : Cond.methodLink RL 58 yX6_of ∈ lw_good := List.mem_filter.mpr ⟨List.mem_append_right _ (List.mem_of_getElem? (i := 807) (by decide +kernel)), rfl⟩
theorem kl_L_62 : Cond.methodLink RL 62 yX6_sell ∈ lw_good := List.mem_filter.mpr ⟨List.mem_append_right _ (List.mem_of_getElem? (i := 811) (by decide +kernel)), rfl⟩
theorem kl_X6_169 : Cond.methodLink RX6 169 yX6_deal ∈ lw_good := List.mem_filter.mpr ⟨List.mem_append_right _ (List.mem_of_getElem? (i := 815) (by decide +kernel)), rfl⟩
theorem kl_X6_162 : Cond.methodLink RX6 162 yX6_isPerson ∈ lw_good := List.mem_filter.mpr ⟨List.mem_append_right _ (List.mem_of_getElem? (i := 819) (by decide +kernel)), rfl⟩
theorem kl_X6_165 : Cond.methodLink RX6 165 yX6_enter ∈ lw_good := List.mem_filter.mpr ⟨List.mem_append_right _ (List.mem_of_getElem? (i := 822) (by decide +kernel)), rfl⟩
theorem kl_L_66 : Cond.methodLink RL 66 yX6_pledge ∈ lw_good := List.mem_filter.mpr ⟨List.mem_append_right _ (List.mem_of_getElem? (i := 826) (by decide +kernel)), rfl⟩
theorem kl_L_70 : Cond.methodLink RL 70 yX6_redeem ∈ lw_good := List.mem_filter.mpr ⟨List.mem_append_right _ (List.mem_of_getElem? (i := 830) (by decide +kernel)), rfl⟩
theorem kl_X6_172 : Cond.methodLink RX6 172 yX6_isEntry ∈ lw_good := List.mem_filter.mpr ⟨List.mem_append_right _ (List.mem_of_getElem? (i := 834) (by decide +kernel)), rfl⟩
theorem kl_L_74 : Cond.methodLink RL 74 yX6_forge ∈ lw_good := List.mem_filter.mpr ⟨List.mem_append_right _ (List.mem_of_getElem? (i := 838) (by decide +kernel)), rfl⟩
theorem kl_L_78 : Cond.methodLink RL 78 yX6_entry ∈ lw_good := List.mem_filter.mpr ⟨List.mem_append_right _ (List.mem_of_getElem? (i := 842) (by decide +kernel)), rfl⟩
theorem kl_X6_178 : Cond.methodLink RX6 178 yX6_goThrough ∈ lw_good := List.mem_filter.mpr ⟨List.mem_append_right _ (List.mem_of_getElem? (i := 846) (by decide +kernel)), rfl⟩
theorem kl_X6_175 : Cond.methodLink RX6 175 yX6_does ∈ lw_good := List.mem_filter.mpr ⟨List.mem_append_right _ (List.mem_of_getElem? (i := 850) (by decide +kernel)), rfl⟩
theorem kl_X6_181 : Cond.methodLink RX6 181 yX6_rankOf ∈ lw_good := List.mem_filter.mpr ⟨List.mem_append_right _ (List.mem_of_getElem? (i := 854) (by decide +kernel)), rfl⟩
theorem kl_L_83 : Cond.methodLink RL 83 yX6_parts ∈ lw_good := List.mem_filter.mpr ⟨List.mem_append_right _ (List.mem_of_getElem? (i := 858) (by decide +kernel)), rfl⟩
theorem kl_L_87 : Cond.methodLink RL 87 yX6_manager ∈ lw_good := List.mem_filter.mpr ⟨List.mem_append_right _ (List.mem_of_getElem? (i := 862) (by decide +kernel)), rfl⟩
theorem kl_L_91 : Cond.methodLink RL 91 yX6_held ∈ lw_good := List.mem_filter.mpr ⟨List.mem_append_right _ (List.mem_of_getElem? (i := 866) (by decide +kernel)), rfl⟩
theorem kl_L_95 : Cond.methodLink RL 95 yX6_paper ∈ lw_good := List.mem_filter.mpr ⟨List.mem_append_right _ (List.mem_of_getElem? (i := 870) (by decide +kernel)), rfl⟩
theorem kl_L_99 : Cond.methodLink RL 99 yX6_witness ∈ lw_good := List.mem_filter.mpr ⟨List.mem_append_right _ (List.mem_of_getElem? (i := 874) (by decide +kernel)), rfl⟩
theorem kl_X6_190 : Cond.methodLink RX6 190 yX6_isPaper ∈ lw_good := List.mem_filter.mpr ⟨List.mem_append_right _ (List.mem_of_getElem? (i := 878) (by decide +kernel)), rfl⟩
theorem kl_X6_193 : Cond.methodLink RX6 193 yX6_witnessOf ∈ lw_good := List.mem_filter.mpr ⟨List.mem_append_right _ (List.mem_of_getElem? (i := 882) (by decide +kernel)), rfl⟩
theorem kl_L_103 : Cond.methodLink RL 103 yX6_alike ∈ lw_good := List.mem_filter.mpr ⟨List.mem_append_right _ (List.mem_of_getElem? (i := 886) (by decide +kernel)), rfl⟩
theorem kl_X6_197 : Cond.methodLink RX6 197 yX6_areAlike ∈ lw_good := List.mem_filter.mpr ⟨List.mem_append_right _ (List.mem_of_getElem? (i := 890) (by decide +kernel)), rfl⟩
theorem kl_L_107 : Cond.methodLink RL 107 yX6_group ∈ lw_good := List.mem_filter.mpr ⟨List.mem_append_right _ (List.mem_of_getElem? (i := 894) (by decide +kernel)), rfl⟩
theorem kl_X6_207 : Cond.methodLink RX6 207 yX6_join ∈ lw_good := List.mem_filter.mpr ⟨List.mem_append_right _ (List.mem_of_getElem? (i := 898) (by decide +kernel)), rfl⟩
theorem kl_X6_204 : Cond.methodLink RX6 204 yX6_findJoining ∈ lw_good := List.mem_filter.mpr ⟨List.mem_append_right _ (List.mem_of_getElem? (i := 902) (by decide +kernel)), rfl⟩
theorem kl_X6_201 : Cond.methodLink RX6 201 yX6_mayJoin ∈ lw_good := List.mem_filter.mpr ⟨List.mem_append_right _ (List.mem_of_getElem? (i := 906) (by decide +kernel)), rfl⟩
theorem kl_L_111 : Cond.methodLink RL 111 yX6_groups ∈ lw_good := List.mem_filter.mpr ⟨List.mem_append_right _ (List.mem_of_getElem? (i := 910) (by decide +kernel)), rfl⟩
theorem kl_L_115 : Cond.methodLink RL 115 yX6_many ∈ lw_good := List.mem_filter.mpr ⟨List.mem_append_right _ (List.mem_of_getElem? (i := 914) (by decide +kernel)), rfl⟩
theorem kl_X6_211 : Cond.methodLink RX6 211 yX6_entriesThat ∈ lw_good := List.mem_filter.mpr ⟨List.mem_append_right _ (List.mem_of_getElem? (i := 918) (by decide +kernel)), rfl⟩
theorem kl_X6_215 : Cond.methodLink RX6 215 yX6_standing ∈ lw_good := List.mem_filter.mpr ⟨List.mem_append_right _ (List.mem_of_getElem? (i := 922) (by decide +kernel)), rfl⟩
theorem ki_X5_init : Cond.instanceMethod yX5_init ∈ lw_good := List.mem_filter.mpr ⟨List.mem_append_right _ (List.mem_of_getElem? (i := 14) (by decide +kernel)), rfl⟩
theorem ki_X0_init : Cond.instanceMethod yX0_init ∈ lw_good := List.mem_filter.mpr ⟨List.mem_append_right _ (List.mem_of_getElem? (i := 22) (by decide +kernel)), rfl⟩
theorem ki_X4_init : Cond.instanceMethod yX4_init ∈ lw_good := List.mem_filter.mpr ⟨List.mem_append_right _ (List.mem_of_getElem? (i := 30) (by decide +kernel)), rfl⟩
theorem ki_X1_init : Cond.instanceMethod yX1_init ∈ lw_good := List.mem_filter.mpr ⟨List.mem_append_right _ (List.mem_of_getElem? (i := 81) (by decide +kernel)), rfl⟩
theorem ki_X2_init : Cond.instanceMethod yX2_init ∈ lw_good := List.mem_filter.mpr ⟨List.mem_append_right _ (List.mem_of_getElem? (i := 94) (by decide +kernel)), rfl⟩
theorem ki_X2_goThrough : Cond.instanceMethod yX2_goThrough ∈ lw_good := List.mem_filter.mpr ⟨List.mem_append_right _ (List.mem_of_getElem? (i := 99) (by decide +kernel)), rfl⟩
theorem ki_X2_beginAnew : Cond.instanceMethod yX2_beginAnew ∈ lw_good := List.mem_filter.mpr ⟨List.mem_append_right _ (List.mem_of_getElem? (i := 103) (by decide +kernel)), rfl⟩
theorem ki_X2_isForged : Cond.instanceMethod yX2_isForged ∈ lw_good := List.mem_filter.mpr ⟨List.mem_append_right _ (List.mem_of_getElem? (i := 113) (by decide +kernel)), rfl⟩
theorem ki_X2_told : Cond.instanceMethod yX2_told ∈ lw_good := List.mem_filter.mpr ⟨List.mem_append_right _ (List.mem_of_getElem? (i := 116) (by decide +kernel)), rfl⟩
theorem ki_X2_takesEffect : Cond.instanceMethod yX2_takesEffect ∈ lw_good := List.mem_filter.mpr ⟨List.mem_append_right _ (List.mem_of_getElem? (i := 121) (by decide +kernel)), rfl⟩
theorem ki_X2_bringParts : Cond.instanceMethod yX2_bringParts ∈ lw_good := List.mem_filter.mpr ⟨List.mem_append_right _ (List.mem_of_getElem? (i := 125) (by decide +kernel)), rfl⟩
theorem ki_X2_freeOf : Cond.instanceMethod yX2_freeOf ∈ lw_good := List.mem_filter.mpr ⟨List.mem_append_right _ (List.mem_of_getElem? (i := 129) (by decide +kernel)), rfl⟩
theorem ki_X2_beginPledge : Cond.instanceMethod yX2_beginPledge ∈ lw_good := List.mem_filter.mpr ⟨List.mem_append_right _ (List.mem_of_getElem? (i := 133) (by decide +kernel)), rfl⟩
theorem ki_X2_setStanding : Cond.instanceMethod yX2_setStanding ∈ lw_good := List.mem_filter.mpr ⟨List.mem_append_right _ (List.mem_of_getElem? (i := 137) (by decide +kernel)), rfl⟩
theorem ki_X2_endPledge : Cond.instanceMethod yX2_endPledge ∈ lw_good := List.mem_filter.mpr ⟨List.mem_append_right _ (List.mem_of_getElem? (i := 141) (by decide +kernel)), rfl⟩
theorem ki_X2_has : Cond.instanceMethod yX2_has ∈ lw_good := List.mem_filter.mpr ⟨List.mem_append_right _ (List.mem_of_getElem? (i := 144) (by decide +kernel)), rfl⟩
theorem ki_X2_put : Cond.instanceMethod yX2_put ∈ lw_good := List.mem_filter.mpr ⟨List.mem_append_right _ (List.mem_of_getElem? (i := 152) (by decide +kernel)), rfl⟩
theorem ki_X2_rankPledges : Cond.instanceMethod yX2_rankPledges ∈ lw_good := List.mem_filter.mpr ⟨List.mem_append_right _ (List.mem_of_getElem? (i := 156) (by decide +kernel)), rfl⟩
theorem ki_X3_init : Cond.instanceMethod yX3_init ∈ lw_good := List.mem_filter.mpr ⟨List.mem_append_right _ (List.mem_of_getElem? (i := 190) (by decide +kernel)), rfl⟩
theorem ki_X5_feed : Cond.instanceMethod yX5_feed ∈ lw_good := List.mem_filter.mpr ⟨List.mem_append_right _ (List.mem_of_getElem? (i := 244) (by decide +kernel)), rfl⟩
theorem ki_X0_takeLetters : Cond.instanceMethod yX0_takeLetters ∈ lw_good := List.mem_filter.mpr ⟨List.mem_append_right _ (List.mem_of_getElem? (i := 248) (by decide +kernel)), rfl⟩
theorem ki_X5_scrap : Cond.instanceMethod yX5_scrap ∈ lw_good := List.mem_filter.mpr ⟨List.mem_append_right _ (List.mem_of_getElem? (i := 258) (by decide +kernel)), rfl⟩
theorem ki_X0_dropLetters : Cond.instanceMethod yX0_dropLetters ∈ lw_good := List.mem_filter.mpr ⟨List.mem_append_right _ (List.mem_of_getElem? (i := 262) (by decide +kernel)), rfl⟩
theorem ki_X5_act : Cond.instanceMethod yX5_act ∈ lw_good := List.mem_filter.mpr ⟨List.mem_append_right _ (List.mem_of_getElem? (i := 267) (by decide +kernel)), rfl⟩
theorem ki_X0_enact : Cond.instanceMethod yX0_enact ∈ lw_good := List.mem_filter.mpr ⟨List.mem_append_right _ (List.mem_of_getElem? (i := 271) (by decide +kernel)), rfl⟩
theorem ki_X4_reckon : Cond.instanceMethod yX4_reckon ∈ lw_good := List.mem_filter.mpr ⟨List.mem_append_right _ (List.mem_of_getElem? (i := 279) (by decide +kernel)), rfl⟩
theorem ki_X4_read : Cond.instanceMethod yX4_read ∈ lw_good := List.mem_filter.mpr ⟨List.mem_append_right _ (List.mem_of_getElem? (i := 284) (by decide +kernel)), rfl⟩
theorem ki_X4_readFigure : Cond.instanceMethod yX4_readFigure ∈ lw_good := List.mem_filter.mpr ⟨List.mem_append_right _ (List.mem_of_getElem? (i := 289) (by decide +kernel)), rfl⟩
theorem ki_X4_push : Cond.instanceMethod yX4_push ∈ lw_good := List.mem_filter.mpr ⟨List.mem_append_right _ (List.mem_of_getElem? (i := 293) (by decide +kernel)), rfl⟩
theorem ki_X4_liftToZero : Cond.instanceMethod yX4_liftToZero ∈ lw_good := List.mem_filter.mpr ⟨List.mem_append_right _ (List.mem_of_getElem? (i := 297) (by decide +kernel)), rfl⟩
theorem ki_X4_joinTwo : Cond.instanceMethod yX4_joinTwo ∈ lw_good := List.mem_filter.mpr ⟨List.mem_append_right _ (List.mem_of_getElem? (i := 304) (by decide +kernel)), rfl⟩
theorem ki_X5_inForce : Cond.instanceMethod yX5_inForce ∈ lw_good := List.mem_filter.mpr ⟨List.mem_append_right _ (List.mem_of_getElem? (i := 323) (by decide +kernel)), rfl⟩
theorem ki_X0_onDay : Cond.instanceMethod yX0_onDay ∈ lw_good := List.mem_filter.mpr ⟨List.mem_append_right _ (List.mem_of_getElem? (i := 328) (by decide +kernel)), rfl⟩
theorem ki_X5_tons : Cond.instanceMethod yX5_tons ∈ lw_good := List.mem_filter.mpr ⟨List.mem_append_right _ (List.mem_of_getElem? (i := 332) (by decide +kernel)), rfl⟩
theorem ki_X0_has : Cond.instanceMethod yX0_has ∈ lw_good := List.mem_filter.mpr ⟨List.mem_append_right _ (List.mem_of_getElem? (i := 336) (by decide +kernel)), rfl⟩
theorem ki_X0_tonsBy : Cond.instanceMethod yX0_tonsBy ∈ lw_good := List.mem_filter.mpr ⟨List.mem_append_right _ (List.mem_of_getElem? (i := 348) (by decide +kernel)), rfl⟩
theorem ki_X4_setSizes : Cond.instanceMethod yX4_setSizes ∈ lw_good := List.mem_filter.mpr ⟨List.mem_append_right _ (List.mem_of_getElem? (i := 352) (by decide +kernel)), rfl⟩
theorem ki_X5_shape : Cond.instanceMethod yX5_shape ∈ lw_good := List.mem_filter.mpr ⟨List.mem_append_right _ (List.mem_of_getElem? (i := 356) (by decide +kernel)), rfl⟩
theorem ki_X0_ofLeastShape : Cond.instanceMethod yX0_ofLeastShape ∈ lw_good := List.mem_filter.mpr ⟨List.mem_append_right _ (List.mem_of_getElem? (i := 360) (by decide +kernel)), rfl⟩
theorem ki_X0_tonsOfShapes : Cond.instanceMethod yX0_tonsOfShapes ∈ lw_good := List.mem_filter.mpr ⟨List.mem_append_right _ (List.mem_of_getElem? (i := 365) (by decide +kernel)), rfl⟩
theorem ki_X5_hull : Cond.instanceMethod yX5_hull ∈ lw_good := List.mem_filter.mpr ⟨List.mem_append_right _ (List.mem_of_getElem? (i := 381) (by decide +kernel)), rfl⟩
theorem ki_X1_add : Cond.instanceMethod yX1_add ∈ lw_good := List.mem_filter.mpr ⟨List.mem_append_right _ (List.mem_of_getElem? (i := 385) (by decide +kernel)), rfl⟩
theorem ki_X1_setSizes : Cond.instanceMethod yX1_setSizes ∈ lw_good := List.mem_filter.mpr ⟨List.mem_append_right _ (List.mem_of_getElem? (i := 389) (by decide +kernel)), rfl⟩
theorem ki_X1_setMeasuring : Cond.instanceMethod yX1_setMeasuring ∈ lw_good := List.mem_filter.mpr ⟨List.mem_append_right _ (List.mem_of_getElem? (i := 394) (by decide +kernel)), rfl⟩
theorem ki_X5_alter : Cond.instanceMethod yX5_alter ∈ lw_good := List.mem_filter.mpr ⟨List.mem_append_right _ (List.mem_of_getElem? (i := 398) (by decide +kernel)), rfl⟩
theorem ki_X1_has : Cond.instanceMethod yX1_has ∈ lw_good := List.mem_filter.mpr ⟨List.mem_append_right _ (List.mem_of_getElem? (i := 402) (by decide +kernel)), rfl⟩
theorem ki_X5_measure : Cond.instanceMethod yX5_measure ∈ lw_good := List.mem_filter.mpr ⟨List.mem_append_right _ (List.mem_of_getElem? (i := 408) (by decide +kernel)), rfl⟩
theorem ki_X1_told : Cond.instanceMethod yX1_told ∈ lw_good := List.mem_filter.mpr ⟨List.mem_append_right _ (List.mem_of_getElem? (i := 412) (by decide +kernel)), rfl⟩
theorem ki_X5_of : Cond.instanceMethod yX5_of ∈ lw_good := List.mem_filter.mpr ⟨List.mem_append_right _ (List.mem_of_getElem? (i := 417) (by decide +kernel)), rfl⟩
theorem ki_X5_sell : Cond.instanceMethod yX5_sell ∈ lw_good := List.mem_filter.mpr ⟨List.mem_append_right _ (List.mem_of_getElem? (i := 421) (by decide +kernel)), rfl⟩
theorem ki_X5_enter : Cond.instanceMethod yX5_enter ∈ lw_good := List.mem_filter.mpr ⟨List.mem_append_right _ (List.mem_of_getElem? (i := 426) (by decide +kernel)), rfl⟩
theorem ki_X2_add : Cond.instanceMethod yX2_add ∈ lw_good := List.mem_filter.mpr ⟨List.mem_append_right _ (List.mem_of_getElem? (i := 432) (by decide +kernel)), rfl⟩
theorem ki_X5_pledge : Cond.instanceMethod yX5_pledge ∈ lw_good := List.mem_filter.mpr ⟨List.mem_append_right _ (List.mem_of_getElem? (i := 436) (by decide +kernel)), rfl⟩
theorem ki_X5_redeem : Cond.instanceMethod yX5_redeem ∈ lw_good := List.mem_filter.mpr ⟨List.mem_append_right _ (List.mem_of_getElem? (i := 440) (by decide +kernel)), rfl⟩
theorem ki_X2_addRedeem : Cond.instanceMethod yX2_addRedeem ∈ lw_good := List.mem_filter.mpr ⟨List.mem_append_right _ (List.mem_of_getElem? (i := 445) (by decide +kernel)), rfl⟩
theorem ki_X5_forge : Cond.instanceMethod yX5_forge ∈ lw_good := List.mem_filter.mpr ⟨List.mem_append_right _ (List.mem_of_getElem? (i := 450) (by decide +kernel)), rfl⟩
theorem ki_X2_markForged : Cond.instanceMethod yX2_markForged ∈ lw_good := List.mem_filter.mpr ⟨List.mem_append_right _ (List.mem_of_getElem? (i := 454) (by decide +kernel)), rfl⟩
theorem ki_X5_entry : Cond.instanceMethod yX5_entry ∈ lw_good := List.mem_filter.mpr ⟨List.mem_append_right _ (List.mem_of_getElem? (i := 458) (by decide +kernel)), rfl⟩
theorem ki_X5_parts : Cond.instanceMethod yX5_parts ∈ lw_good := List.mem_filter.mpr ⟨List.mem_append_right _ (List.mem_of_getElem? (i := 463) (by decide +kernel)), rfl⟩
theorem ki_X2_freeParts : Cond.instanceMethod yX2_freeParts ∈ lw_good := List.mem_filter.mpr ⟨List.mem_append_right _ (List.mem_of_getElem? (i := 467) (by decide +kernel)), rfl⟩
theorem ki_X2_allParts : Cond.instanceMethod yX2_allParts ∈ lw_good := List.mem_filter.mpr ⟨List.mem_append_right _ (List.mem_of_getElem? (i := 471) (by decide +kernel)), rfl⟩
theorem ki_X5_manager : Cond.instanceMethod yX5_manager ∈ lw_good := List.mem_filter.mpr ⟨List.mem_append_right _ (List.mem_of_getElem? (i := 475) (by decide +kernel)), rfl⟩
theorem ki_X2_greatestOwner : Cond.instanceMethod yX2_greatestOwner ∈ lw_good := List.mem_filter.mpr ⟨List.mem_append_right _ (List.mem_of_getElem? (i := 479) (by decide +kernel)), rfl⟩
theorem ki_X5_held : Cond.instanceMethod yX5_held ∈ lw_good := List.mem_filter.mpr ⟨List.mem_append_right _ (List.mem_of_getElem? (i := 484) (by decide +kernel)), rfl⟩
theorem ki_X2_partsHeld : Cond.instanceMethod yX2_partsHeld ∈ lw_good := List.mem_filter.mpr ⟨List.mem_append_right _ (List.mem_of_getElem? (i := 488) (by decide +kernel)), rfl⟩
theorem ki_X5_paper : Cond.instanceMethod yX5_paper ∈ lw_good := List.mem_filter.mpr ⟨List.mem_append_right _ (List.mem_of_getElem? (i := 492) (by decide +kernel)), rfl⟩
theorem ki_X3_add : Cond.instanceMethod yX3_add ∈ lw_good := List.mem_filter.mpr ⟨List.mem_append_right _ (List.mem_of_getElem? (i := 496) (by decide +kernel)), rfl⟩
theorem ki_X3_seemAlike : Cond.instanceMethod yX3_seemAlike ∈ lw_good := List.mem_filter.mpr ⟨List.mem_append_right _ (List.mem_of_getElem? (i := 501) (by decide +kernel)), rfl⟩
theorem ki_X3_setLike : Cond.instanceMethod yX3_setLike ∈ lw_good := List.mem_filter.mpr ⟨List.mem_append_right _ (List.mem_of_getElem? (i := 505) (by decide +kernel)), rfl⟩
theorem ki_X3_joinAnew : Cond.instanceMethod yX3_joinAnew ∈ lw_good := List.mem_filter.mpr ⟨List.mem_append_right _ (List.mem_of_getElem? (i := 509) (by decide +kernel)), rfl⟩
theorem ki_X3_placeFrom : Cond.instanceMethod yX3_placeFrom ∈ lw_good := List.mem_filter.mpr ⟨List.mem_append_right _ (List.mem_of_getElem? (i := 514) (by decide +kernel)), rfl⟩
theorem ki_X3_placeInto : Cond.instanceMethod yX3_placeInto ∈ lw_good := List.mem_filter.mpr ⟨List.mem_append_right _ (List.mem_of_getElem? (i := 521) (by decide +kernel)), rfl⟩
theorem ki_X5_witness : Cond.instanceMethod yX5_witness ∈ lw_good := List.mem_filter.mpr ⟨List.mem_append_right _ (List.mem_of_getElem? (i := 525) (by decide +kernel)), rfl⟩
theorem ki_X3_areTwo : Cond.instanceMethod yX3_areTwo ∈ lw_good := List.mem_filter.mpr ⟨List.mem_append_right _ (List.mem_of_getElem? (i := 529) (by decide +kernel)), rfl⟩
theorem ki_X3_has : Cond.instanceMethod yX3_has ∈ lw_good := List.mem_filter.mpr ⟨List.mem_append_right _ (List.mem_of_getElem? (i := 533) (by decide +kernel)), rfl⟩
theorem ki_X3_hear : Cond.instanceMethod yX3_hear ∈ lw_good := List.mem_filter.mpr ⟨List.mem_append_right _ (List.mem_of_getElem? (i := 538) (by decide +kernel)), rfl⟩
theorem ki_X5_alike : Cond.instanceMethod yX5_alike ∈ lw_good := List.mem_filter.mpr ⟨List.mem_append_right _ (List.mem_of_getElem? (i := 545) (by decide +kernel)), rfl⟩
theorem ki_X3_mayBeOne : Cond.instanceMethod yX3_mayBeOne ∈ lw_good := List.mem_filter.mpr ⟨List.mem_append_right _ (List.mem_of_getElem? (i := 549) (by decide +kernel)), rfl⟩
theorem ki_X5_group : Cond.instanceMethod yX5_group ∈ lw_good := List.mem_filter.mpr ⟨List.mem_append_right _ (List.mem_of_getElem? (i := 553) (by decide +kernel)), rfl⟩
theorem ki_X3_joinedGroup : Cond.instanceMethod yX3_joinedGroup ∈ lw_good := List.mem_filter.mpr ⟨List.mem_append_right _ (List.mem_of_getElem? (i := 558) (by decide +kernel)), rfl⟩
theorem ki_X5_groups : Cond.instanceMethod yX5_groups ∈ lw_good := List.mem_filter.mpr ⟨List.mem_append_right _ (List.mem_of_getElem? (i := 562) (by decide +kernel)), rfl⟩
theorem ki_X3_joinedGroups : Cond.instanceMethod yX3_joinedGroups ∈ lw_good := List.mem_filter.mpr ⟨List.mem_append_right _ (List.mem_of_getElem? (i := 566) (by decide +kernel)), rfl⟩
theorem ki_X5_many : Cond.instanceMethod yX5_many ∈ lw_good := List.mem_filter.mpr ⟨List.mem_append_right _ (List.mem_of_getElem? (i := 570) (by decide +kernel)), rfl⟩
theorem ki_X0_size : Cond.instanceMethod yX0_size ∈ lw_good := List.mem_filter.mpr ⟨List.mem_append_right _ (List.mem_of_getElem? (i := 574) (by decide +kernel)), rfl⟩
theorem ki_X1_size : Cond.instanceMethod yX1_size ∈ lw_good := List.mem_filter.mpr ⟨List.mem_append_right _ (List.mem_of_getElem? (i := 578) (by decide +kernel)), rfl⟩
theorem ki_X2_size : Cond.instanceMethod yX2_size ∈ lw_good := List.mem_filter.mpr ⟨List.mem_append_right _ (List.mem_of_getElem? (i := 582) (by decide +kernel)), rfl⟩
theorem ki_X2_forgedEntries : Cond.instanceMethod yX2_forgedEntries ∈ lw_good := List.mem_filter.mpr ⟨List.mem_append_right _ (List.mem_of_getElem? (i := 586) (by decide +kernel)), rfl⟩
theorem ki_X2_sumOf : Cond.instanceMethod yX2_sumOf ∈ lw_good := List.mem_filter.mpr ⟨List.mem_append_right _ (List.mem_of_getElem? (i := 591) (by decide +kernel)), rfl⟩
theorem ki_X2_voidEntries : Cond.instanceMethod yX2_voidEntries ∈ lw_good := List.mem_filter.mpr ⟨List.mem_append_right _ (List.mem_of_getElem? (i := 594) (by decide +kernel)), rfl⟩
theorem ki_X2_standingPledges : Cond.instanceMethod yX2_standingPledges ∈ lw_good := List.mem_filter.mpr ⟨List.mem_append_right _ (List.mem_of_getElem? (i := 598) (by decide +kernel)), rfl⟩
theorem ki_X3_size : Cond.instanceMethod yX3_size ∈ lw_good := List.mem_filter.mpr ⟨List.mem_append_right _ (List.mem_of_getElem? (i := 602) (by decide +kernel)), rfl⟩
theorem ki_X3_witnesses : Cond.instanceMethod yX3_witnesses ∈ lw_good := List.mem_filter.mpr ⟨List.mem_append_right _ (List.mem_of_getElem? (i := 606) (by decide +kernel)), rfl⟩
theorem ki_X0_lettersFed : Cond.instanceMethod yX0_lettersFed ∈ lw_good := List.mem_filter.mpr ⟨List.mem_append_right _ (List.mem_of_getElem? (i := 610) (by decide +kernel)), rfl⟩
theorem ki_X6_init : Cond.instanceMethod yX6_init ∈ lw_good := List.mem_filter.mpr ⟨List.mem_append_right _ (List.mem_of_getElem? (i := 616) (by decide +kernel)), rfl⟩
theorem ki_X6_feed : Cond.instanceMethod yX6_feed ∈ lw_good := List.mem_filter.mpr ⟨List.mem_append_right _ (List.mem_of_getElem? (i := 720) (by decide +kernel)), rfl⟩
theorem ki_X6_scrap : Cond.instanceMethod yX6_scrap ∈ lw_good := List.mem_filter.mpr ⟨List.mem_append_right _ (List.mem_of_getElem? (i := 724) (by decide +kernel)), rfl⟩
theorem ki_X6_act : Cond.instanceMethod yX6_act ∈ lw_good := List.mem_filter.mpr ⟨List.mem_append_right _ (List.mem_of_getElem? (i := 728) (by decide +kernel)), rfl⟩
theorem ki_X6_isGood : Cond.instanceMethod yX6_isGood ∈ lw_good := List.mem_filter.mpr ⟨List.mem_append_right _ (List.mem_of_getElem? (i := 736) (by decide +kernel)), rfl⟩
theorem ki_X6_inForce : Cond.instanceMethod yX6_inForce ∈ lw_good := List.mem_filter.mpr ⟨List.mem_append_right _ (List.mem_of_getElem? (i := 745) (by decide +kernel)), rfl⟩
theorem ki_X6_forceOn : Cond.instanceMethod yX6_forceOn ∈ lw_good := List.mem_filter.mpr ⟨List.mem_append_right _ (List.mem_of_getElem? (i := 750) (by decide +kernel)), rfl⟩
theorem ki_X6_tons : Cond.instanceMethod yX6_tons ∈ lw_good := List.mem_filter.mpr ⟨List.mem_append_right _ (List.mem_of_getElem? (i := 753) (by decide +kernel)), rfl⟩
theorem ki_X6_isAct : Cond.instanceMethod yX6_isAct ∈ lw_good := List.mem_filter.mpr ⟨List.mem_append_right _ (List.mem_of_getElem? (i := 758) (by decide +kernel)), rfl⟩
theorem ki_X6_tonsBy : Cond.instanceMethod yX6_tonsBy ∈ lw_good := List.mem_filter.mpr ⟨List.mem_append_right _ (List.mem_of_getElem? (i := 765) (by decide +kernel)), rfl⟩
theorem ki_X6_push : Cond.instanceMethod yX6_push ∈ lw_good := List.mem_filter.mpr ⟨List.mem_append_right _ (List.mem_of_getElem? (i := 771) (by decide +kernel)), rfl⟩
theorem ki_X6_combine : Cond.instanceMethod yX6_combine ∈ lw_good := List.mem_filter.mpr ⟨List.mem_append_right _ (List.mem_of_getElem? (i := 779) (by decide +kernel)), rfl⟩
theorem ki_X6_shape : Cond.instanceMethod yX6_shape ∈ lw_good := List.mem_filter.mpr ⟨List.mem_append_right _ (List.mem_of_getElem? (i := 783) (by decide +kernel)), rfl⟩
theorem ki_X6_hull : Cond.instanceMethod yX6_hull ∈ lw_good := List.mem_filter.mpr ⟨List.mem_append_right _ (List.mem_of_getElem? (i := 788) (by decide +kernel)), rfl⟩
theorem ki_X6_put : Cond.instanceMethod yX6_put ∈ lw_good := List.mem_filter.mpr ⟨List.mem_append_right _ (List.mem_of_getElem? (i := 793) (by decide +kernel)), rfl⟩
theorem ki_X6_alter : Cond.instanceMethod yX6_alter ∈ lw_good := List.mem_filter.mpr ⟨List.mem_append_right _ (List.mem_of_getElem? (i := 796) (by decide +kernel)), rfl⟩
theorem ki_X6_isHull : Cond.instanceMethod yX6_isHull ∈ lw_good := List.mem_filter.mpr ⟨List.mem_append_right _ (List.mem_of_getElem? (i := 801) (by decide +kernel)), rfl⟩
theorem ki_X6_measure : Cond.instanceMethod yX6_measure ∈ lw_good := List.mem_filter.mpr ⟨List.mem_append_right _ (List.mem_of_getElem? (i := 804) (by decide +kernel)), rfl⟩
theorem ki_X6_of : Cond.instanceMethod yX6_of ∈ lw_good := List.mem_filter.mpr ⟨List.mem_append_right _ (List.mem_of_getElem? (i := 808) (by decide +kernel)), rfl⟩
theorem ki_X6_sell : Cond.instanceMethod yX6_sell ∈ lw_good := List.mem_filter.mpr ⟨List.mem_append_right _ (List.mem_of_getElem? (i := 812) (by decide +kernel)), rfl⟩
theorem ki_X6_deal : Cond.instanceMethod yX6_deal ∈ lw_good := List.mem_filter.mpr ⟨List.mem_append_right _ (List.mem_of_getElem? (i := 817) (by decide +kernel)), rfl⟩
theorem ki_X6_enter : Cond.instanceMethod yX6_enter ∈ lw_good := List.mem_filter.mpr ⟨List.mem_append_right _ (List.mem_of_getElem? (i := 824) (by decide +kernel)), rfl⟩
theorem ki_X6_pledge : Cond.instanceMethod yX6_pledge ∈ lw_good := List.mem_filter.mpr ⟨List.mem_append_right _ (List.mem_of_getElem? (i := 827) (by decide +kernel)), rfl⟩
theorem ki_X6_redeem : Cond.instanceMethod yX6_redeem ∈ lw_good := List.mem_filter.mpr ⟨List.mem_append_right _ (List.mem_of_getElem? (i := 831) (by decide +kernel)), rfl⟩
theorem ki_X6_isEntry : Cond.instanceMethod yX6_isEntry ∈ lw_good := List.mem_filter.mpr ⟨List.mem_append_right _ (List.mem_of_getElem? (i := 836) (by decide +kernel)), rfl⟩
theorem ki_X6_forge : Cond.instanceMethod yX6_forge ∈ lw_good := List.mem_filter.mpr ⟨List.mem_append_right _ (List.mem_of_getElem? (i := 839) (by decide +kernel)), rfl⟩
theorem ki_X6_entry : Cond.instanceMethod yX6_entry ∈ lw_good := List.mem_filter.mpr ⟨List.mem_append_right _ (List.mem_of_getElem? (i := 843) (by decide +kernel)), rfl⟩
theorem ki_X6_goThrough : Cond.instanceMethod yX6_goThrough ∈ lw_good := List.mem_filter.mpr ⟨List.mem_append_right _ (List.mem_of_getElem? (i := 848) (by decide +kernel)), rfl⟩
theorem ki_X6_does : Cond.instanceMethod yX6_does ∈ lw_good := List.mem_filter.mpr ⟨List.mem_append_right _ (List.mem_of_getElem? (i := 852) (by decide +kernel)), rfl⟩
theorem ki_X6_rankOf : Cond.instanceMethod yX6_rankOf ∈ lw_good := List.mem_filter.mpr ⟨List.mem_append_right _ (List.mem_of_getElem? (i := 856) (by decide +kernel)), rfl⟩
theorem ki_X6_parts : Cond.instanceMethod yX6_parts ∈ lw_good := List.mem_filter.mpr ⟨List.mem_append_right _ (List.mem_of_getElem? (i := 859) (by decide +kernel)), rfl⟩
theorem ki_X6_manager : Cond.instanceMethod yX6_manager ∈ lw_good := List.mem_filter.mpr ⟨List.mem_append_right _ (List.mem_of_getElem? (i := 863) (by decide +kernel)), rfl⟩
theorem ki_X6_held : Cond.instanceMethod yX6_held ∈ lw_good := List.mem_filter.mpr ⟨List.mem_append_right _ (List.mem_of_getElem? (i := 867) (by decide +kernel)), rfl⟩
theorem ki_X6_paper : Cond.instanceMethod yX6_paper ∈ lw_good := List.mem_filter.mpr ⟨List.mem_append_right _ (List.mem_of_getElem? (i := 871) (by decide +kernel)), rfl⟩
theorem ki_X6_witness : Cond.instanceMethod yX6_witness ∈ lw_good := List.mem_filter.mpr ⟨List.mem_append_right _ (List.mem_of_getElem? (i := 875) (by decide +kernel)), rfl⟩
theorem ki_X6_isPaper : Cond.instanceMethod yX6_isPaper ∈ lw_good := List.mem_filter.mpr ⟨List.mem_append_right _ (List.mem_of_getElem? (i := 880) (by decide +kernel)), rfl⟩
theorem ki_X6_witnessOf : Cond.instanceMethod yX6_witnessOf ∈ lw_good := List.mem_filter.mpr ⟨List.mem_append_right _ (List.mem_of_getElem? (i := 884) (by decide +kernel)), rfl⟩
theorem ki_X6_alike : Cond.instanceMethod yX6_alike ∈ lw_good := List.mem_filter.mpr ⟨List.mem_append_right _ (List.mem_of_getElem? (i := 887) (by decide +kernel)), rfl⟩
theorem ki_X6_areAlike : Cond.instanceMethod yX6_areAlike ∈ lw_good := List.mem_filter.mpr ⟨List.mem_append_right _ (List.mem_of_getElem? (i := 892) (by decide +kernel)), rfl⟩
theorem ki_X6_group : Cond.instanceMethod yX6_group ∈ lw_good := List.mem_filter.mpr ⟨List.mem_append_right _ (List.mem_of_getElem? (i := 895) (by decide +kernel)), rfl⟩
theorem ki_X6_join : Cond.instanceMethod yX6_join ∈ lw_good := List.mem_filter.mpr ⟨List.mem_append_right _ (List.mem_of_getElem? (i := 900) (by decide +kernel)), rfl⟩
theorem ki_X6_findJoining : Cond.instanceMethod yX6_findJoining ∈ lw_good := List.mem_filter.mpr ⟨List.mem_append_right _ (List.mem_of_getElem? (i := 904) (by decide +kernel)), rfl⟩
theorem ki_X6_mayJoin : Cond.instanceMethod yX6_mayJoin ∈ lw_good := List.mem_filter.mpr ⟨List.mem_append_right _ (List.mem_of_getElem? (i := 908) (by decide +kernel)), rfl⟩
theorem ki_X6_groups : Cond.instanceMethod yX6_groups ∈ lw_good := List.mem_filter.mpr ⟨List.mem_append_right _ (List.mem_of_getElem? (i := 911) (by decide +kernel)), rfl⟩
theorem ki_X6_many : Cond.instanceMethod yX6_many ∈ lw_good := List.mem_filter.mpr ⟨List.mem_append_right _ (List.mem_of_getElem? (i := 915) (by decide +kernel)), rfl⟩
theorem ki_X6_entriesThat : Cond.instanceMethod yX6_entriesThat ∈ lw_good := List.mem_filter.mpr ⟨List.mem_append_right _ (List.mem_of_getElem? (i := 920) (by decide +kernel)), rfl⟩
theorem ki_X6_standing : Cond.instanceMethod yX6_standing ∈ lw_good := List.mem_filter.mpr ⟨List.mem_append_right _ (List.mem_of_getElem? (i := 924) (by decide +kernel)), rfl⟩
theorem kt_J7_fill_53178 : Cond.static yJ7_fill_53178 ∈ lw_good := List.mem_filter.mpr ⟨List.mem_append_right _ (List.mem_of_getElem? (i := 106) (by decide +kernel)), rfl⟩
theorem kt_X2_account : Cond.static yX2_account ∈ lw_good := List.mem_filter.mpr ⟨List.mem_append_right _ (List.mem_of_getElem? (i := 109) (by decide +kernel)), rfl⟩
theorem kt_X5_isWithin : Cond.static yX5_isWithin ∈ lw_good := List.mem_filter.mpr ⟨List.mem_append_right _ (List.mem_of_getElem? (i := 148) (by decide +kernel)), rfl⟩
theorem kt_X0_lettersIn : Cond.static yX0_lettersIn ∈ lw_good := List.mem_filter.mpr ⟨List.mem_append_right _ (List.mem_of_getElem? (i := 252) (by decide +kernel)), rfl⟩
theorem kt_X0_letterAt : Cond.static yX0_letterAt ∈ lw_good := List.mem_filter.mpr ⟨List.mem_append_right _ (List.mem_of_getElem? (i := 255) (by decide +kernel)), rfl⟩
theorem kt_X5_isDay : Cond.static yX5_isDay ∈ lw_good := List.mem_filter.mpr ⟨List.mem_append_right _ (List.mem_of_getElem? (i := 275) (by decide +kernel)), rfl⟩
theorem kt_J9_max_7cf53 : Cond.static yJ9_max_7cf53 ∈ lw_good := List.mem_filter.mpr ⟨List.mem_append_right _ (List.mem_of_getElem? (i := 300) (by decide +kernel)), rfl⟩
theorem kt_X4_joined : Cond.static yX4_joined ∈ lw_good := List.mem_filter.mpr ⟨List.mem_append_right _ (List.mem_of_getElem? (i := 307) (by decide +kernel)), rfl⟩
theorem kt_X4_bounded : Cond.static yX4_bounded ∈ lw_good := List.mem_filter.mpr ⟨List.mem_append_right _ (List.mem_of_getElem? (i := 310) (by decide +kernel)), rfl⟩
theorem kt_X5_areSizes : Cond.static yX5_areSizes ∈ lw_good := List.mem_filter.mpr ⟨List.mem_append_right _ (List.mem_of_getElem? (i := 341) (by decide +kernel)), rfl⟩
theorem kt_X5_isMeasure : Cond.static yX5_isMeasure ∈ lw_good := List.mem_filter.mpr ⟨List.mem_append_right _ (List.mem_of_getElem? (i := 344) (by decide +kernel)), rfl⟩
theorem kt_X0_lengthOf : Cond.static yX0_lengthOf ∈ lw_good := List.mem_filter.mpr ⟨List.mem_append_right _ (List.mem_of_getElem? (i := 368) (by decide +kernel)), rfl⟩
theorem kt_X0_breadthOf : Cond.static yX0_breadthOf ∈ lw_good := List.mem_filter.mpr ⟨List.mem_append_right _ (List.mem_of_getElem? (i := 371) (by decide +kernel)), rfl⟩
theorem kt_X0_depthOf : Cond.static yX0_depthOf ∈ lw_good := List.mem_filter.mpr ⟨List.mem_append_right _ (List.mem_of_getElem? (i := 374) (by decide +kernel)), rfl⟩
theorem kt_X0_leastShape : Cond.static yX0_leastShape ∈ lw_good := List.mem_filter.mpr ⟨List.mem_append_right _ (List.mem_of_getElem? (i := 378) (by decide +kernel)), rfl⟩
theorem kt_X5_isPerson : Cond.static yX5_isPerson ∈ lw_good := List.mem_filter.mpr ⟨List.mem_append_right _ (List.mem_of_getElem? (i := 429) (by decide +kernel)), rfl⟩
theorem kt_J9_min_7cf53 : Cond.static yJ9_min_7cf53 ∈ lw_good := List.mem_filter.mpr ⟨List.mem_append_right _ (List.mem_of_getElem? (i := 517) (by decide +kernel)), rfl⟩
theorem kt_X3_isIn : Cond.static yX3_isIn ∈ lw_good := List.mem_filter.mpr ⟨List.mem_append_right _ (List.mem_of_getElem? (i := 542) (by decide +kernel)), rfl⟩
theorem kt_X6_in : Cond.static yX6_in ∈ lw_good := List.mem_filter.mpr ⟨List.mem_append_right _ (List.mem_of_getElem? (i := 732) (by decide +kernel)), rfl⟩
theorem kt_X6_takes : Cond.static yX6_takes ∈ lw_good := List.mem_filter.mpr ⟨List.mem_append_right _ (List.mem_of_getElem? (i := 739) (by decide +kernel)), rfl⟩
theorem kt_X6_isFigure : Cond.static yX6_isFigure ∈ lw_good := List.mem_filter.mpr ⟨List.mem_append_right _ (List.mem_of_getElem? (i := 742) (by decide +kernel)), rfl⟩
theorem kt_X6_areSizes : Cond.static yX6_areSizes ∈ lw_good := List.mem_filter.mpr ⟨List.mem_append_right _ (List.mem_of_getElem? (i := 761) (by decide +kernel)), rfl⟩
theorem kt_X6_isPerson : Cond.static yX6_isPerson ∈ lw_good := List.mem_filter.mpr ⟨List.mem_append_right _ (List.mem_of_getElem? (i := 820) (by decide +kernel)), rfl⟩
theorem ks_X2_told : Cond.selects yX2_told.cls yX2_told yX2_told ∈ lw_good := List.mem_filter.mpr ⟨List.mem_append_right _ (List.mem_of_getElem? (i := 117) (by decide +kernel)), rfl⟩
theorem ks_X2_has : Cond.selects yX2_has.cls yX2_has yX2_has ∈ lw_good := List.mem_filter.mpr ⟨List.mem_append_right _ (List.mem_of_getElem? (i := 145) (by decide +kernel)), rfl⟩
theorem ks_X5_feed : Cond.selects yX5_feed.cls yX5_feed yX5_feed ∈ lw_good := List.mem_filter.mpr ⟨List.mem_append_right _ (List.mem_of_getElem? (i := 245) (by decide +kernel)), rfl⟩
theorem ks_X0_takeLetters : Cond.selects yX0_takeLetters.cls yX0_takeLetters yX0_takeLetters ∈ lw_good := List.mem_filter.mpr ⟨List.mem_append_right _ (List.mem_of_getElem? (i := 249) (by decide +kernel)), rfl⟩
theorem ks_X5_scrap : Cond.selects yX5_scrap.cls yX5_scrap yX5_scrap ∈ lw_good := List.mem_filter.mpr ⟨List.mem_append_right _ (List.mem_of_getElem? (i := 259) (by decide +kernel)), rfl⟩
theorem ks_X0_dropLetters : Cond.selects yX0_dropLetters.cls yX0_dropLetters yX0_dropLetters ∈ lw_good := List.mem_filter.mpr ⟨List.mem_append_right _ (List.mem_of_getElem? (i := 263) (by decide +kernel)), rfl⟩
theorem ks_X5_act : Cond.selects yX5_act.cls yX5_act yX5_act ∈ lw_good := List.mem_filter.mpr ⟨List.mem_append_right _ (List.mem_of_getElem? (i := 268) (by decide +kernel)), rfl⟩
theorem ks_X0_enact : Cond.selects yX0_enact.cls yX0_enact yX0_enact ∈ lw_good := List.mem_filter.mpr ⟨List.mem_append_right _ (List.mem_of_getElem? (i := 272) (by decide +kernel)), rfl⟩
theorem ks_X4_reckon : Cond.selects yX4_reckon.cls yX4_reckon yX4_reckon ∈ lw_good := List.mem_filter.mpr ⟨List.mem_append_right _ (List.mem_of_getElem? (i := 280) (by decide +kernel)), rfl⟩
theorem ks_X5_inForce : Cond.selects yX5_inForce.cls yX5_inForce yX5_inForce ∈ lw_good := List.mem_filter.mpr ⟨List.mem_append_right _ (List.mem_of_getElem? (i := 324) (by decide +kernel)), rfl⟩
theorem ks_X0_onDay : Cond.selects yX0_onDay.cls yX0_onDay yX0_onDay ∈ lw_good := List.mem_filter.mpr ⟨List.mem_append_right _ (List.mem_of_getElem? (i := 329) (by decide +kernel)), rfl⟩
theorem ks_X5_tons : Cond.selects yX5_tons.cls yX5_tons yX5_tons ∈ lw_good := List.mem_filter.mpr ⟨List.mem_append_right _ (List.mem_of_getElem? (i := 333) (by decide +kernel)), rfl⟩
theorem ks_X0_has : Cond.selects yX0_has.cls yX0_has yX0_has ∈ lw_good := List.mem_filter.mpr ⟨List.mem_append_right _ (List.mem_of_getElem? (i := 337) (by decide +kernel)), rfl⟩
theorem ks_X0_tonsBy : Cond.selects yX0_tonsBy.cls yX0_tonsBy yX0_tonsBy ∈ lw_good := List.mem_filter.mpr ⟨List.mem_append_right _ (List.mem_of_getElem? (i := 349) (by decide +kernel)), rfl⟩
theorem ks_X4_setSizes : Cond.selects yX4_setSizes.cls yX4_setSizes yX4_setSizes ∈ lw_good := List.mem_filter.mpr ⟨List.mem_append_right _ (List.mem_of_getElem? (i := 353) (by decide +kernel)), rfl⟩
theorem ks_X5_shape : Cond.selects yX5_shape.cls yX5_shape yX5_shape ∈ lw_good := List.mem_filter.mpr ⟨List.mem_append_right _ (List.mem_of_getElem? (i := 357) (by decide +kernel)), rfl⟩
theorem ks_X0_ofLeastShape : Cond.selects yX0_ofLeastShape.cls yX0_ofLeastShape yX0_ofLeastShape ∈ lw_good := List.mem_filter.mpr ⟨List.mem_append_right _ (List.mem_of_getElem? (i := 361) (by decide +kernel)), rfl⟩
theorem ks_X5_hull : Cond.selects yX5_hull.cls yX5_hull yX5_hull ∈ lw_good := List.mem_filter.mpr ⟨List.mem_append_right _ (List.mem_of_getElem? (i := 382) (by decide +kernel)), rfl⟩
theorem ks_X1_add : Cond.selects yX1_add.cls yX1_add yX1_add ∈ lw_good := List.mem_filter.mpr ⟨List.mem_append_right _ (List.mem_of_getElem? (i := 386) (by decide +kernel)), rfl⟩
theorem ks_X1_setSizes : Cond.selects yX1_setSizes.cls yX1_setSizes yX1_setSizes ∈ lw_good := List.mem_filter.mpr ⟨List.mem_append_right _ (List.mem_of_getElem? (i := 390) (by decide +kernel)), rfl⟩
theorem ks_X1_setMeasuring : Cond.selects yX1_setMeasuring.cls yX1_setMeasuring yX1_setMeasuring ∈ lw_good := List.mem_filter.mpr ⟨List.mem_append_right _ (List.mem_of_getElem? (i := 395) (by decide +kernel)), rfl⟩
theorem ks_X5_alter : Cond.selects yX5_alter.cls yX5_alter yX5_alter ∈ lw_good := List.mem_filter.mpr ⟨List.mem_append_right _ (List.mem_of_getElem? (i := 399) (by decide +kernel)), rfl⟩
theorem ks_X1_has : Cond.selects yX1_has.cls yX1_has yX1_has ∈ lw_good := List.mem_filter.mpr ⟨List.mem_append_right _ (List.mem_of_getElem? (i := 403) (by decide +kernel)), rfl⟩
theorem ks_X5_measure : Cond.selects yX5_measure.cls yX5_measure yX5_measure ∈ lw_good := List.mem_filter.mpr ⟨List.mem_append_right _ (List.mem_of_getElem? (i := 409) (by decide +kernel)), rfl⟩
theorem ks_X1_told : Cond.selects yX1_told.cls yX1_told yX1_told ∈ lw_good := List.mem_filter.mpr ⟨List.mem_append_right _ (List.mem_of_getElem? (i := 413) (by decide +kernel)), rfl⟩
theorem ks_X5_of : Cond.selects yX5_of.cls yX5_of yX5_of ∈ lw_good := List.mem_filter.mpr ⟨List.mem_append_right _ (List.mem_of_getElem? (i := 418) (by decide +kernel)), rfl⟩
theorem ks_X5_sell : Cond.selects yX5_sell.cls yX5_sell yX5_sell ∈ lw_good := List.mem_filter.mpr ⟨List.mem_append_right _ (List.mem_of_getElem? (i := 422) (by decide +kernel)), rfl⟩
theorem ks_X2_add : Cond.selects yX2_add.cls yX2_add yX2_add ∈ lw_good := List.mem_filter.mpr ⟨List.mem_append_right _ (List.mem_of_getElem? (i := 433) (by decide +kernel)), rfl⟩
theorem ks_X5_pledge : Cond.selects yX5_pledge.cls yX5_pledge yX5_pledge ∈ lw_good := List.mem_filter.mpr ⟨List.mem_append_right _ (List.mem_of_getElem? (i := 437) (by decide +kernel)), rfl⟩
theorem ks_X5_redeem : Cond.selects yX5_redeem.cls yX5_redeem yX5_redeem ∈ lw_good := List.mem_filter.mpr ⟨List.mem_append_right _ (List.mem_of_getElem? (i := 441) (by decide +kernel)), rfl⟩
theorem ks_X2_addRedeem : Cond.selects yX2_addRedeem.cls yX2_addRedeem yX2_addRedeem ∈ lw_good := List.mem_filter.mpr ⟨List.mem_append_right _ (List.mem_of_getElem? (i := 446) (by decide +kernel)), rfl⟩
theorem ks_X5_forge : Cond.selects yX5_forge.cls yX5_forge yX5_forge ∈ lw_good := List.mem_filter.mpr ⟨List.mem_append_right _ (List.mem_of_getElem? (i := 451) (by decide +kernel)), rfl⟩
theorem ks_X2_markForged : Cond.selects yX2_markForged.cls yX2_markForged yX2_markForged ∈ lw_good := List.mem_filter.mpr ⟨List.mem_append_right _ (List.mem_of_getElem? (i := 455) (by decide +kernel)), rfl⟩
theorem ks_X5_entry : Cond.selects yX5_entry.cls yX5_entry yX5_entry ∈ lw_good := List.mem_filter.mpr ⟨List.mem_append_right _ (List.mem_of_getElem? (i := 459) (by decide +kernel)), rfl⟩
theorem ks_X5_parts : Cond.selects yX5_parts.cls yX5_parts yX5_parts ∈ lw_good := List.mem_filter.mpr ⟨List.mem_append_right _ (List.mem_of_getElem? (i := 464) (by decide +kernel)), rfl⟩
theorem ks_X2_freeParts : Cond.selects yX2_freeParts.cls yX2_freeParts yX2_freeParts ∈ lw_good := List.mem_filter.mpr ⟨List.mem_append_right _ (List.mem_of_getElem? (i := 468) (by decide +kernel)), rfl⟩
theorem ks_X2_allParts : Cond.selects yX2_allParts.cls yX2_allParts yX2_allParts ∈ lw_good := List.mem_filter.mpr ⟨List.mem_append_right _ (List.mem_of_getElem? (i := 472) (by decide +kernel)), rfl⟩
theorem ks_X5_manager : Cond.selects yX5_manager.cls yX5_manager yX5_manager ∈ lw_good := List.mem_filter.mpr ⟨List.mem_append_right _ (List.mem_of_getElem? (i := 476) (by decide +kernel)), rfl⟩
theorem ks_X2_greatestOwner : Cond.selects yX2_greatestOwner.cls yX2_greatestOwner yX2_greatestOwner ∈ lw_good := List.mem_filter.mpr ⟨List.mem_append_right _ (List.mem_of_getElem? (i := 480) (by decide +kernel)), rfl⟩
theorem ks_X5_held : Cond.selects yX5_held.cls yX5_held yX5_held ∈ lw_good := List.mem_filter.mpr ⟨List.mem_append_right _ (List.mem_of_getElem? (i := 485) (by decide +kernel)), rfl⟩
theorem ks_X2_partsHeld : Cond.selects yX2_partsHeld.cls yX2_partsHeld yX2_partsHeld ∈ lw_good := List.mem_filter.mpr ⟨List.mem_append_right _ (List.mem_of_getElem? (i := 489) (by decide +kernel)), rfl⟩
theorem ks_X5_paper : Cond.selects yX5_paper.cls yX5_paper yX5_paper ∈ lw_good := List.mem_filter.mpr ⟨List.mem_append_right _ (List.mem_of_getElem? (i := 493) (by decide +kernel)), rfl⟩
theorem ks_X3_add : Cond.selects yX3_add.cls yX3_add yX3_add ∈ lw_good := List.mem_filter.mpr ⟨List.mem_append_right _ (List.mem_of_getElem? (i := 497) (by decide +kernel)), rfl⟩
theorem ks_X5_witness : Cond.selects yX5_witness.cls yX5_witness yX5_witness ∈ lw_good := List.mem_filter.mpr ⟨List.mem_append_right _ (List.mem_of_getElem? (i := 526) (by decide +kernel)), rfl⟩
theorem ks_X3_areTwo : Cond.selects yX3_areTwo.cls yX3_areTwo yX3_areTwo ∈ lw_good := List.mem_filter.mpr ⟨List.mem_append_right _ (List.mem_of_getElem? (i := 530) (by decide +kernel)), rfl⟩
theorem ks_X3_has : Cond.selects yX3_has.cls yX3_has yX3_has ∈ lw_good := List.mem_filter.mpr ⟨List.mem_append_right _ (List.mem_of_getElem? (i := 534) (by decide +kernel)), rfl⟩
theorem ks_X3_hear : Cond.selects yX3_hear.cls yX3_hear yX3_hear ∈ lw_good := List.mem_filter.mpr ⟨List.mem_append_right _ (List.mem_of_getElem? (i := 539) (by decide +kernel)), rfl⟩
theorem ks_X5_alike : Cond.selects yX5_alike.cls yX5_alike yX5_alike ∈ lw_good := List.mem_filter.mpr ⟨List.mem_append_right _ (List.mem_of_getElem? (i := 546) (by decide +kernel)), rfl⟩
theorem ks_X3_mayBeOne : Cond.selects yX3_mayBeOne.cls yX3_mayBeOne yX3_mayBeOne ∈ lw_good := List.mem_filter.mpr ⟨List.mem_append_right _ (List.mem_of_getElem? (i := 550) (by decide +kernel)), rfl⟩
theorem ks_X5_group : Cond.selects yX5_group.cls yX5_group yX5_group ∈ lw_good := List.mem_filter.mpr ⟨List.mem_append_right _ (List.mem_of_getElem? (i := 554) (by decide +kernel)), rfl⟩
theorem ks_X3_joinedGroup : Cond.selects yX3_joinedGroup.cls yX3_joinedGroup yX3_joinedGroup ∈ lw_good := List.mem_filter.mpr ⟨List.mem_append_right _ (List.mem_of_getElem? (i := 559) (by decide +kernel)), rfl⟩
theorem ks_X5_groups : Cond.selects yX5_groups.cls yX5_groups yX5_groups ∈ lw_good := List.mem_filter.mpr ⟨List.mem_append_right _ (List.mem_of_getElem? (i := 563) (by decide +kernel)), rfl⟩
theorem ks_X3_joinedGroups : Cond.selects yX3_joinedGroups.cls yX3_joinedGroups yX3_joinedGroups ∈ lw_good := List.mem_filter.mpr ⟨List.mem_append_right _ (List.mem_of_getElem? (i := 567) (by decide +kernel)), rfl⟩
theorem ks_X5_many : Cond.selects yX5_many.cls yX5_many yX5_many ∈ lw_good := List.mem_filter.mpr ⟨List.mem_append_right _ (List.mem_of_getElem? (i := 571) (by decide +kernel)), rfl⟩
theorem ks_X0_size : Cond.selects yX0_size.cls yX0_size yX0_size ∈ lw_good := List.mem_filter.mpr ⟨List.mem_append_right _ (List.mem_of_getElem? (i := 575) (by decide +kernel)), rfl⟩
theorem ks_X1_size : Cond.selects yX1_size.cls yX1_size yX1_size ∈ lw_good := List.mem_filter.mpr ⟨List.mem_append_right _ (List.mem_of_getElem? (i := 579) (by decide +kernel)), rfl⟩
theorem ks_X2_size : Cond.selects yX2_size.cls yX2_size yX2_size ∈ lw_good := List.mem_filter.mpr ⟨List.mem_append_right _ (List.mem_of_getElem? (i := 583) (by decide +kernel)), rfl⟩
theorem ks_X2_forgedEntries : Cond.selects yX2_forgedEntries.cls yX2_forgedEntries yX2_forgedEntries ∈ lw_good := List.mem_filter.mpr ⟨List.mem_append_right _ (List.mem_of_getElem? (i := 587) (by decide +kernel)), rfl⟩
theorem ks_X2_voidEntries : Cond.selects yX2_voidEntries.cls yX2_voidEntries yX2_voidEntries ∈ lw_good := List.mem_filter.mpr ⟨List.mem_append_right _ (List.mem_of_getElem? (i := 595) (by decide +kernel)), rfl⟩
theorem ks_X2_standingPledges : Cond.selects yX2_standingPledges.cls yX2_standingPledges yX2_standingPledges ∈ lw_good := List.mem_filter.mpr ⟨List.mem_append_right _ (List.mem_of_getElem? (i := 599) (by decide +kernel)), rfl⟩
theorem ks_X3_size : Cond.selects yX3_size.cls yX3_size yX3_size ∈ lw_good := List.mem_filter.mpr ⟨List.mem_append_right _ (List.mem_of_getElem? (i := 603) (by decide +kernel)), rfl⟩
theorem ks_X3_witnesses : Cond.selects yX3_witnesses.cls yX3_witnesses yX3_witnesses ∈ lw_good := List.mem_filter.mpr ⟨List.mem_append_right _ (List.mem_of_getElem? (i := 607) (by decide +kernel)), rfl⟩
theorem ks_X0_lettersFed : Cond.selects yX0_lettersFed.cls yX0_lettersFed yX0_lettersFed ∈ lw_good := List.mem_filter.mpr ⟨List.mem_append_right _ (List.mem_of_getElem? (i := 611) (by decide +kernel)), rfl⟩
theorem ks_X6_feed : Cond.selects yX6_feed.cls yX6_feed yX6_feed ∈ lw_good := List.mem_filter.mpr ⟨List.mem_append_right _ (List.mem_of_getElem? (i := 721) (by decide +kernel)), rfl⟩
theorem ks_X6_scrap : Cond.selects yX6_scrap.cls yX6_scrap yX6_scrap ∈ lw_good := List.mem_filter.mpr ⟨List.mem_append_right _ (List.mem_of_getElem? (i := 725) (by decide +kernel)), rfl⟩
theorem ks_X6_act : Cond.selects yX6_act.cls yX6_act yX6_act ∈ lw_good := List.mem_filter.mpr ⟨List.mem_append_right _ (List.mem_of_getElem? (i := 729) (by decide +kernel)), rfl⟩
theorem ks_X6_inForce : Cond.selects yX6_inForce.cls yX6_inForce yX6_inForce ∈ lw_good := List.mem_filter.mpr ⟨List.mem_append_right _ (List.mem_of_getElem? (i := 746) (by decide +kernel)), rfl⟩
theorem ks_X6_tons : Cond.selects yX6_tons.cls yX6_tons yX6_tons ∈ lw_good := List.mem_filter.mpr ⟨List.mem_append_right _ (List.mem_of_getElem? (i := 754) (by decide +kernel)), rfl⟩
theorem ks_X6_shape : Cond.selects yX6_shape.cls yX6_shape yX6_shape ∈ lw_good := List.mem_filter.mpr ⟨List.mem_append_right _ (List.mem_of_getElem? (i := 784) (by decide +kernel)), rfl⟩
theorem ks_X6_hull : Cond.selects yX6_hull.cls yX6_hull yX6_hull ∈ lw_good := List.mem_filter.mpr ⟨List.mem_append_right _ (List.mem_of_getElem? (i := 789) (by decide +kernel)), rfl⟩
theorem ks_X6_alter : Cond.selects yX6_alter.cls yX6_alter yX6_alter ∈ lw_good := List.mem_filter.mpr ⟨List.mem_append_right _ (List.mem_of_getElem? (i := 797) (by decide +kernel)), rfl⟩
theorem ks_X6_measure : Cond.selects yX6_measure.cls yX6_measure yX6_measure ∈ lw_good := List.mem_filter.mpr ⟨List.mem_append_right _ (List.mem_of_getElem? (i := 805) (by decide +kernel)), rfl⟩
theorem ks_X6_of : Cond.selects yX6_of.cls yX6_of yX6_of ∈ lw_good := List.mem_filter.mpr ⟨List.mem_append_right _ (List.mem_of_getElem? (i := 809) (by decide +kernel)), rfl⟩
theorem ks_X6_sell : Cond.selects yX6_sell.cls yX6_sell yX6_sell ∈ lw_good := List.mem_filter.mpr ⟨List.mem_append_right _ (List.mem_of_getElem? (i := 813) (by decide +kernel)), rfl⟩
theorem ks_X6_pledge : Cond.selects yX6_pledge.cls yX6_pledge yX6_pledge ∈ lw_good := List.mem_filter.mpr ⟨List.mem_append_right _ (List.mem_of_getElem? (i := 828) (by decide +kernel)), rfl⟩
theorem ks_X6_redeem : Cond.selects yX6_redeem.cls yX6_redeem yX6_redeem ∈ lw_good := List.mem_filter.mpr ⟨List.mem_append_right _ (List.mem_of_getElem? (i := 832) (by decide +kernel)), rfl⟩
theorem ks_X6_forge : Cond.selects yX6_forge.cls yX6_forge yX6_forge ∈ lw_good := List.mem_filter.mpr ⟨List.mem_append_right _ (List.mem_of_getElem? (i := 840) (by decide +kernel)), rfl⟩
theorem ks_X6_entry : Cond.selects yX6_entry.cls yX6_entry yX6_entry ∈ lw_good := List.mem_filter.mpr ⟨List.mem_append_right _ (List.mem_of_getElem? (i := 844) (by decide +kernel)), rfl⟩
theorem ks_X6_parts : Cond.selects yX6_parts.cls yX6_parts yX6_parts ∈ lw_good := List.mem_filter.mpr ⟨List.mem_append_right _ (List.mem_of_getElem? (i := 860) (by decide +kernel)), rfl⟩
theorem ks_X6_manager : Cond.selects yX6_manager.cls yX6_manager yX6_manager ∈ lw_good := List.mem_filter.mpr ⟨List.mem_append_right _ (List.mem_of_getElem? (i := 864) (by decide +kernel)), rfl⟩
theorem ks_X6_held : Cond.selects yX6_held.cls yX6_held yX6_held ∈ lw_good := List.mem_filter.mpr ⟨List.mem_append_right _ (List.mem_of_getElem? (i := 868) (by decide +kernel)), rfl⟩
theorem ks_X6_paper : Cond.selects yX6_paper.cls yX6_paper yX6_paper ∈ lw_good := List.mem_filter.mpr ⟨List.mem_append_right _ (List.mem_of_getElem? (i := 872) (by decide +kernel)), rfl⟩
theorem ks_X6_witness : Cond.selects yX6_witness.cls yX6_witness yX6_witness ∈ lw_good := List.mem_filter.mpr ⟨List.mem_append_right _ (List.mem_of_getElem? (i := 876) (by decide +kernel)), rfl⟩
theorem ks_X6_alike : Cond.selects yX6_alike.cls yX6_alike yX6_alike ∈ lw_good := List.mem_filter.mpr ⟨List.mem_append_right _ (List.mem_of_getElem? (i := 888) (by decide +kernel)), rfl⟩
theorem ks_X6_group : Cond.selects yX6_group.cls yX6_group yX6_group ∈ lw_good := List.mem_filter.mpr ⟨List.mem_append_right _ (List.mem_of_getElem? (i := 896) (by decide +kernel)), rfl⟩
theorem ks_X6_groups : Cond.selects yX6_groups.cls yX6_groups yX6_groups ∈ lw_good := List.mem_filter.mpr ⟨List.mem_append_right _ (List.mem_of_getElem? (i := 912) (by decide +kernel)), rfl⟩
theorem ks_X6_many : Cond.selects yX6_many.cls yX6_many yX6_many ∈ lw_good := List.mem_filter.mpr ⟨List.mem_append_right _ (List.mem_of_getElem? (i := 916) (by decide +kernel)), rfl⟩
theorem ks_X2_goThrough : Cond.selects yX2_goThrough.cls yX2_goThrough yX2_goThrough ∈ lw_good := List.mem_filter.mpr ⟨List.mem_append_left _ (List.mem_of_getElem? (i := 0) (by decide +kernel)), rfl⟩
theorem ks_X2_beginAnew : Cond.selects yX2_beginAnew.cls yX2_beginAnew yX2_beginAnew ∈ lw_good := List.mem_filter.mpr ⟨List.mem_append_left _ (List.mem_of_getElem? (i := 1) (by decide +kernel)), rfl⟩
theorem ks_X2_isForged : Cond.selects yX2_isForged.cls yX2_isForged yX2_isForged ∈ lw_good := List.mem_filter.mpr ⟨List.mem_append_left _ (List.mem_of_getElem? (i := 2) (by decide +kernel)), rfl⟩
theorem ks_X2_takesEffect : Cond.selects yX2_takesEffect.cls yX2_takesEffect yX2_takesEffect ∈ lw_good := List.mem_filter.mpr ⟨List.mem_append_left _ (List.mem_of_getElem? (i := 3) (by decide +kernel)), rfl⟩
theorem ks_X2_bringParts : Cond.selects yX2_bringParts.cls yX2_bringParts yX2_bringParts ∈ lw_good := List.mem_filter.mpr ⟨List.mem_append_left _ (List.mem_of_getElem? (i := 4) (by decide +kernel)), rfl⟩
theorem ks_X2_freeOf : Cond.selects yX2_freeOf.cls yX2_freeOf yX2_freeOf ∈ lw_good := List.mem_filter.mpr ⟨List.mem_append_left _ (List.mem_of_getElem? (i := 5) (by decide +kernel)), rfl⟩
theorem ks_X2_beginPledge : Cond.selects yX2_beginPledge.cls yX2_beginPledge yX2_beginPledge ∈ lw_good := List.mem_filter.mpr ⟨List.mem_append_left _ (List.mem_of_getElem? (i := 6) (by decide +kernel)), rfl⟩
theorem ks_X2_setStanding : Cond.selects yX2_setStanding.cls yX2_setStanding yX2_setStanding ∈ lw_good := List.mem_filter.mpr ⟨List.mem_append_left _ (List.mem_of_getElem? (i := 7) (by decide +kernel)), rfl⟩
theorem ks_X2_endPledge : Cond.selects yX2_endPledge.cls yX2_endPledge yX2_endPledge ∈ lw_good := List.mem_filter.mpr ⟨List.mem_append_left _ (List.mem_of_getElem? (i := 8) (by decide +kernel)), rfl⟩
theorem ks_X2_put : Cond.selects yX2_put.cls yX2_put yX2_put ∈ lw_good := List.mem_filter.mpr ⟨List.mem_append_left _ (List.mem_of_getElem? (i := 9) (by decide +kernel)), rfl⟩
theorem ks_X2_rankPledges : Cond.selects yX2_rankPledges.cls yX2_rankPledges yX2_rankPledges ∈ lw_good := List.mem_filter.mpr ⟨List.mem_append_left _ (List.mem_of_getElem? (i := 10) (by decide +kernel)), rfl⟩
theorem ks_X4_read : Cond.selects yX4_read.cls yX4_read yX4_read ∈ lw_good := List.mem_filter.mpr ⟨List.mem_append_left _ (List.mem_of_getElem? (i := 11) (by decide +kernel)), rfl⟩
theorem ks_X4_readFigure : Cond.selects yX4_readFigure.cls yX4_readFigure yX4_readFigure ∈ lw_good := List.mem_filter.mpr ⟨List.mem_append_left _ (List.mem_of_getElem? (i := 12) (by decide +kernel)), rfl⟩
theorem ks_X4_push : Cond.selects yX4_push.cls yX4_push yX4_push ∈ lw_good := List.mem_filter.mpr ⟨List.mem_append_left _ (List.mem_of_getElem? (i := 13) (by decide +kernel)), rfl⟩
theorem ks_X4_liftToZero : Cond.selects yX4_liftToZero.cls yX4_liftToZero yX4_liftToZero ∈ lw_good := List.mem_filter.mpr ⟨List.mem_append_left _ (List.mem_of_getElem? (i := 14) (by decide +kernel)), rfl⟩
theorem ks_X4_joinTwo : Cond.selects yX4_joinTwo.cls yX4_joinTwo yX4_joinTwo ∈ lw_good := List.mem_filter.mpr ⟨List.mem_append_left _ (List.mem_of_getElem? (i := 15) (by decide +kernel)), rfl⟩
theorem ks_X0_tonsOfShapes : Cond.selects yX0_tonsOfShapes.cls yX0_tonsOfShapes yX0_tonsOfShapes ∈ lw_good := List.mem_filter.mpr ⟨List.mem_append_left _ (List.mem_of_getElem? (i := 16) (by decide +kernel)), rfl⟩
theorem ks_X5_enter : Cond.selects yX5_enter.cls yX5_enter yX5_enter ∈ lw_good := List.mem_filter.mpr ⟨List.mem_append_left _ (List.mem_of_getElem? (i := 17) (by decide +kernel)), rfl⟩
theorem ks_X3_seemAlike : Cond.selects yX3_seemAlike.cls yX3_seemAlike yX3_seemAlike ∈ lw_good := List.mem_filter.mpr ⟨List.mem_append_left _ (List.mem_of_getElem? (i := 18) (by decide +kernel)), rfl⟩
theorem ks_X3_setLike : Cond.selects yX3_setLike.cls yX3_setLike yX3_setLike ∈ lw_good := List.mem_filter.mpr ⟨List.mem_append_left _ (List.mem_of_getElem? (i := 19) (by decide +kernel)), rfl⟩
theorem ks_X3_joinAnew : Cond.selects yX3_joinAnew.cls yX3_joinAnew yX3_joinAnew ∈ lw_good := List.mem_filter.mpr ⟨List.mem_append_left _ (List.mem_of_getElem? (i := 20) (by decide +kernel)), rfl⟩
theorem ks_X3_placeFrom : Cond.selects yX3_placeFrom.cls yX3_placeFrom yX3_placeFrom ∈ lw_good := List.mem_filter.mpr ⟨List.mem_append_left _ (List.mem_of_getElem? (i := 21) (by decide +kernel)), rfl⟩
theorem ks_X3_placeInto : Cond.selects yX3_placeInto.cls yX3_placeInto yX3_placeInto ∈ lw_good := List.mem_filter.mpr ⟨List.mem_append_left _ (List.mem_of_getElem? (i := 22) (by decide +kernel)), rfl⟩
theorem ks_X2_sumOf : Cond.selects yX2_sumOf.cls yX2_sumOf yX2_sumOf ∈ lw_good := List.mem_filter.mpr ⟨List.mem_append_left _ (List.mem_of_getElem? (i := 23) (by decide +kernel)), rfl⟩
theorem ks_X6_isGood : Cond.selects yX6_isGood.cls yX6_isGood yX6_isGood ∈ lw_good := List.mem_filter.mpr ⟨List.mem_append_left _ (List.mem_of_getElem? (i := 24) (by decide +kernel)), rfl⟩
theorem ks_X6_forceOn : Cond.selects yX6_forceOn.cls yX6_forceOn yX6_forceOn ∈ lw_good := List.mem_filter.mpr ⟨List.mem_append_left _ (List.mem_of_getElem? (i := 25) (by decide +kernel)), rfl⟩
theorem ks_X6_isAct : Cond.selects yX6_isAct.cls yX6_isAct yX6_isAct ∈ lw_good := List.mem_filter.mpr ⟨List.mem_append_left _ (List.mem_of_getElem? (i := 26) (by decide +kernel)), rfl⟩
theorem ks_X6_tonsBy : Cond.selects yX6_tonsBy.cls yX6_tonsBy yX6_tonsBy ∈ lw_good := List.mem_filter.mpr ⟨List.mem_append_left _ (List.mem_of_getElem? (i := 27) (by decide +kernel)), rfl⟩
theorem ks_X6_push : Cond.selects yX6_push.cls yX6_push yX6_push ∈ lw_good := List.mem_filter.mpr ⟨List.mem_append_left _ (List.mem_of_getElem? (i := 28) (by decide +kernel)), rfl⟩
theorem ks_X6_combine : Cond.selects yX6_combine.cls yX6_combine yX6_combine ∈ lw_good := List.mem_filter.mpr ⟨List.mem_append_left _ (List.mem_of_getElem? (i := 29) (by decide +kernel)), rfl⟩
theorem ks_X6_put : Cond.selects yX6_put.cls yX6_put yX6_put ∈ lw_good := List.mem_filter.mpr ⟨List.mem_append_left _ (List.mem_of_getElem? (i := 30) (by decide +kernel)), rfl⟩
theorem ks_X6_isHull : Cond.selects yX6_isHull.cls yX6_isHull yX6_isHull ∈ lw_good := List.mem_filter.mpr ⟨List.mem_append_left _ (List.mem_of_getElem? (i := 31) (by decide +kernel)), rfl⟩
theorem ks_X6_deal : Cond.selects yX6_deal.cls yX6_deal yX6_deal ∈ lw_good := List.mem_filter.mpr ⟨List.mem_append_left _ (List.mem_of_getElem? (i := 32) (by decide +kernel)), rfl⟩
theorem ks_X6_enter : Cond.selects yX6_enter.cls yX6_enter yX6_enter ∈ lw_good := List.mem_filter.mpr ⟨List.mem_append_left _ (List.mem_of_getElem? (i := 33) (by decide +kernel)), rfl⟩
theorem ks_X6_isEntry : Cond.selects yX6_isEntry.cls yX6_isEntry yX6_isEntry ∈ lw_good := List.mem_filter.mpr ⟨List.mem_append_left _ (List.mem_of_getElem? (i := 34) (by decide +kernel)), rfl⟩
theorem ks_X6_goThrough : Cond.selects yX6_goThrough.cls yX6_goThrough yX6_goThrough ∈ lw_good := List.mem_filter.mpr ⟨List.mem_append_left _ (List.mem_of_getElem? (i := 35) (by decide +kernel)), rfl⟩
theorem ks_X6_does : Cond.selects yX6_does.cls yX6_does yX6_does ∈ lw_good := List.mem_filter.mpr ⟨List.mem_append_left _ (List.mem_of_getElem? (i := 36) (by decide +kernel)), rfl⟩
theorem ks_X6_rankOf : Cond.selects yX6_rankOf.cls yX6_rankOf yX6_rankOf ∈ lw_good := List.mem_filter.mpr ⟨List.mem_append_left _ (List.mem_of_getElem? (i := 37) (by decide +kernel)), rfl⟩
theorem ks_X6_isPaper : Cond.selects yX6_isPaper.cls yX6_isPaper yX6_isPaper ∈ lw_good := List.mem_filter.mpr ⟨List.mem_append_left _ (List.mem_of_getElem? (i := 38) (by decide +kernel)), rfl⟩
theorem ks_X6_witnessOf : Cond.selects yX6_witnessOf.cls yX6_witnessOf yX6_witnessOf ∈ lw_good := List.mem_filter.mpr ⟨List.mem_append_left _ (List.mem_of_getElem? (i := 39) (by decide +kernel)), rfl⟩
theorem ks_X6_areAlike : Cond.selects yX6_areAlike.cls yX6_areAlike yX6_areAlike ∈ lw_good := List.mem_filter.mpr ⟨List.mem_append_left _ (List.mem_of_getElem? (i := 40) (by decide +kernel)), rfl⟩
theorem ks_X6_join : Cond.selects yX6_join.cls yX6_join yX6_join ∈ lw_good := List.mem_filter.mpr ⟨List.mem_append_left _ (List.mem_of_getElem? (i := 41) (by decide +kernel)), rfl⟩
theorem ks_X6_findJoining : Cond.selects yX6_findJoining.cls yX6_findJoining yX6_findJoining ∈ lw_good := List.mem_filter.mpr ⟨List.mem_append_left _ (List.mem_of_getElem? (i := 42) (by decide +kernel)), rfl⟩
theorem ks_X6_mayJoin : Cond.selects yX6_mayJoin.cls yX6_mayJoin yX6_mayJoin ∈ lw_good := List.mem_filter.mpr ⟨List.mem_append_left _ (List.mem_of_getElem? (i := 43) (by decide +kernel)), rfl⟩
theorem ks_X6_entriesThat : Cond.selects yX6_entriesThat.cls yX6_entriesThat yX6_entriesThat ∈ lw_good := List.mem_filter.mpr ⟨List.mem_append_left _ (List.mem_of_getElem? (i := 44) (by decide +kernel)), rfl⟩
theorem ks_X6_standing : Cond.selects yX6_standing.cls yX6_standing yX6_standing ∈ lw_good := List.mem_filter.mpr ⟨List.mem_append_left _ (List.mem_of_getElem? (i := 45) (by decide +kernel)), rfl⟩
theorem kn_L : Cond.initialized RL ∈ lw_good := List.mem_filter.mpr ⟨List.mem_append_right _ (List.mem_of_getElem? (i := 0) (by decide +kernel)), rfl⟩
theorem kn_X5 : Cond.initialized RX5 ∈ lw_good := List.mem_filter.mpr ⟨List.mem_append_right _ (List.mem_of_getElem? (i := 1) (by decide +kernel)), rfl⟩
theorem kn_X0 : Cond.initialized RX0 ∈ lw_good := List.mem_filter.mpr ⟨List.mem_append_right _ (List.mem_of_getElem? (i := 2) (by decide +kernel)), rfl⟩
theorem kn_X4 : Cond.initialized RX4 ∈ lw_good := List.mem_filter.mpr ⟨List.mem_append_right _ (List.mem_of_getElem? (i := 3) (by decide +kernel)), rfl⟩
theorem kn_X1 : Cond.initialized RX1 ∈ lw_good := List.mem_filter.mpr ⟨List.mem_append_right _ (List.mem_of_getElem? (i := 4) (by decide +kernel)), rfl⟩
theorem kn_X2 : Cond.initialized RX2 ∈ lw_good := List.mem_filter.mpr ⟨List.mem_append_right _ (List.mem_of_getElem? (i := 5) (by decide +kernel)), rfl⟩
theorem kn_J7 : Cond.initialized RJ7 ∈ lw_good := List.mem_filter.mpr ⟨List.mem_append_right _ (List.mem_of_getElem? (i := 6) (by decide +kernel)), rfl⟩
theorem kn_X3 : Cond.initialized RX3 ∈ lw_good := List.mem_filter.mpr ⟨List.mem_append_right _ (List.mem_of_getElem? (i := 7) (by decide +kernel)), rfl⟩
theorem kn_X6 : Cond.initialized RX6 ∈ lw_good := List.mem_filter.mpr ⟨List.mem_append_right _ (List.mem_of_getElem? (i := 8) (by decide +kernel)), rfl⟩
theorem kn_J9 : Cond.initialized RJ9 ∈ lw_good := List.mem_filter.mpr ⟨List.mem_append_right _ (List.mem_of_getElem? (i := 9) (by decide +kernel)), rfl⟩
theorem kn_J10 : Cond.initialized RJ10 ∈ lw_good := List.mem_filter.mpr ⟨List.mem_append_right _ (List.mem_of_getElem? (i := 10) (by decide +kernel)), rfl⟩
theorem kc_X4_72 : Cond.constant RX4 72 (999999) ∈ lw_good := List.mem_filter.mpr ⟨List.mem_append_right _ (List.mem_of_getElem? (i := 313) (by decide +kernel)), rfl⟩
theorem kc_X4_75 : Cond.constant RX4 75 (-999999) ∈ lw_good := List.mem_filter.mpr ⟨List.mem_append_right _ (List.mem_of_getElem? (i := 315) (by decide +kernel)), rfl⟩
theorem kc_X4_38 : Cond.constant RX4 38 (-10000000) ∈ lw_good := List.mem_filter.mpr ⟨List.mem_append_right _ (List.mem_of_getElem? (i := 316) (by decide +kernel)), rfl⟩
theorem kc_X0_66 : Cond.constant RX0 66 (-10000000) ∈ lw_good := List.mem_filter.mpr ⟨List.mem_append_right _ (List.mem_of_getElem? (i := 317) (by decide +kernel)), rfl⟩
theorem kc_X5_62 : Cond.constant RX5 62 (-10000000) ∈ lw_good := List.mem_filter.mpr ⟨List.mem_append_right _ (List.mem_of_getElem? (i := 346) (by decide +kernel)), rfl⟩
theorem kc_X1_27 : Cond.constant RX1 27 (-10000000) ∈ lw_good := List.mem_filter.mpr ⟨List.mem_append_right _ (List.mem_of_getElem? (i := 392) (by decide +kernel)), rfl⟩
theorem kc_X6_120 : Cond.constant RX6 120 (999999) ∈ lw_good := List.mem_filter.mpr ⟨List.mem_append_right _ (List.mem_of_getElem? (i := 774) (by decide +kernel)), rfl⟩
theorem kc_X6_123 : Cond.constant RX6 123 (-999999) ∈ lw_good := List.mem_filter.mpr ⟨List.mem_append_right _ (List.mem_of_getElem? (i := 776) (by decide +kernel)), rfl⟩
theorem kc_X6_147 : Cond.constant RX6 147 (-10000000) ∈ lw_good := List.mem_filter.mpr ⟨List.mem_append_right _ (List.mem_of_getElem? (i := 781) (by decide +kernel)), rfl⟩
theorem kc_X6_148 : Cond.constant RX6 148 (10000000) ∈ lw_good := List.mem_filter.mpr ⟨List.mem_append_right _ (List.mem_of_getElem? (i := 786) (by decide +kernel)), rfl⟩
theorem kc_X4_70 : Cond.constantLong RX4 70 (999999) ∈ lw_good := List.mem_filter.mpr ⟨List.mem_append_right _ (List.mem_of_getElem? (i := 312) (by decide +kernel)), rfl⟩
theorem kc_X4_73 : Cond.constantLong RX4 73 (-999999) ∈ lw_good := List.mem_filter.mpr ⟨List.mem_append_right _ (List.mem_of_getElem? (i := 314) (by decide +kernel)), rfl⟩
theorem kc_X6_128 : Cond.constantLong RX6 128 (10) ∈ lw_good := List.mem_filter.mpr ⟨List.mem_append_right _ (List.mem_of_getElem? (i := 767) (by decide +kernel)), rfl⟩
theorem kc_X6_130 : Cond.constantLong RX6 130 (48) ∈ lw_good := List.mem_filter.mpr ⟨List.mem_append_right _ (List.mem_of_getElem? (i := 768) (by decide +kernel)), rfl⟩
theorem kc_X6_118 : Cond.constantLong RX6 118 (999999) ∈ lw_good := List.mem_filter.mpr ⟨List.mem_append_right _ (List.mem_of_getElem? (i := 773) (by decide +kernel)), rfl⟩
theorem kc_X6_121 : Cond.constantLong RX6 121 (-999999) ∈ lw_good := List.mem_filter.mpr ⟨List.mem_append_right _ (List.mem_of_getElem? (i := 775) (by decide +kernel)), rfl⟩
abbrev mX4_init : vMx := (yX4_init, cX4_init, 1, none)
theorem gX4_init : vGood mX4_init 0 := ⟨List.mem_filter.mpr ⟨List.mem_append_right _ (List.mem_of_getElem? (i := 31) (by decide +kernel)), rfl⟩, kn_X4, by decide +kernel, by decide⟩
abbrev mX0_init : vMx := (yX0_init, cX0_init, 1, none)
theorem gX0_init : vGood mX0_init 0 := ⟨List.mem_filter.mpr ⟨List.mem_append_right _ (List.mem_of_getElem? (i := 23) (by decide +kernel)), rfl⟩, kn_X0, by decide +kernel, by decide⟩
abbrev mX0_size : vMx := (yX0_size, cX0_size, 1, (some .int))
theorem gX0_size : vGood mX0_size 0 := ⟨List.mem_filter.mpr ⟨List.mem_append_right _ (List.mem_of_getElem? (i := 576) (by decide +kernel)), rfl⟩, kn_X0, by decide +kernel, by decide⟩
abbrev mX5_isWithin : vMx := (yX5_isWithin, cX5_isWithin, 3, (some .boolean))
theorem gX5_isWithin : vGood mX5_isWithin 3 := ⟨List.mem_filter.mpr ⟨List.mem_append_right _ (List.mem_of_getElem? (i := 149) (by decide +kernel)), rfl⟩, kn_X5, by decide +kernel, by decide⟩
abbrev mX0_has : vMx := (yX0_has, cX0_has, 2, (some .boolean))
theorem gX0_has : vGood mX0_has 1 := ⟨List.mem_filter.mpr ⟨List.mem_append_right _ (List.mem_of_getElem? (i := 338) (by decide +kernel)), rfl⟩, kn_X0, by decide +kernel, by decide⟩
abbrev mX0_lettersFed : vMx := (yX0_lettersFed, cX0_lettersFed, 1, (some .int))
theorem gX0_lettersFed : vGood mX0_lettersFed 0 := ⟨List.mem_filter.mpr ⟨List.mem_append_right _ (List.mem_of_getElem? (i := 612) (by decide +kernel)), rfl⟩, kn_X0, by decide +kernel, by decide⟩
abbrev mX0_letterAt : vMx := (yX0_letterAt, cX0_letterAt, 2, (some .int))
theorem gX0_letterAt : vGood mX0_letterAt 2 := ⟨List.mem_filter.mpr ⟨List.mem_append_right _ (List.mem_of_getElem? (i := 256) (by decide +kernel)), rfl⟩, kn_X0, by decide +kernel, by decide⟩
abbrev mX0_lettersIn : vMx := (yX0_lettersIn, cX0_lettersIn, 2, (some .int))
theorem gX0_lettersIn : vGood mX0_lettersIn 1 := ⟨List.mem_filter.mpr ⟨List.mem_append_right _ (List.mem_of_getElem? (i := 253) (by decide +kernel)), rfl⟩, kn_X0, by decide +kernel, by decide⟩
abbrev mX0_takeLetters : vMx := (yX0_takeLetters, cX0_takeLetters, 4, (some .int))
theorem gX0_takeLetters : vGood mX0_takeLetters 1 := ⟨List.mem_filter.mpr ⟨List.mem_append_right _ (List.mem_of_getElem? (i := 250) (by decide +kernel)), rfl⟩, kn_X0, by decide +kernel, by decide⟩
abbrev mJ7_fill_53178 : vMx := (yJ7_fill_53178, cJ7_fill_53178, 4, none)
theorem gJ7_fill_53178 : vGood mJ7_fill_53178 2 := ⟨List.mem_filter.mpr ⟨List.mem_append_right _ (List.mem_of_getElem? (i := 107) (by decide +kernel)), rfl⟩, kn_J7, by decide +kernel, by decide⟩
abbrev mX0_dropLetters : vMx := (yX0_dropLetters, cX0_dropLetters, 2, (some .int))
theorem gX0_dropLetters : vGood mX0_dropLetters 0 := ⟨List.mem_filter.mpr ⟨List.mem_append_right _ (List.mem_of_getElem? (i := 264) (by decide +kernel)), rfl⟩, kn_X0, by decide +kernel, by decide⟩
abbrev mX5_isDay : vMx := (yX5_isDay, cX5_isDay, 1, (some .boolean))
theorem gX5_isDay : vGood mX5_isDay 1 := ⟨List.mem_filter.mpr ⟨List.mem_append_right _ (List.mem_of_getElem? (i := 276) (by decide +kernel)), rfl⟩, kn_X5, by decide +kernel, by decide⟩
abbrev mX4_push : vMx := (yX4_push, cX4_push, 2, (some .boolean))
theorem gX4_push : vGood mX4_push 1 := ⟨List.mem_filter.mpr ⟨List.mem_append_right _ (List.mem_of_getElem? (i := 294) (by decide +kernel)), rfl⟩, kn_X4, by decide +kernel, by decide⟩
abbrev mX4_readFigure : vMx := (yX4_readFigure, cX4_readFigure, 2, (some .boolean))
theorem gX4_readFigure : vGood mX4_readFigure 1 := ⟨List.mem_filter.mpr ⟨List.mem_append_right _ (List.mem_of_getElem? (i := 290) (by decide +kernel)), rfl⟩, kn_X4, by decide +kernel, by decide⟩
abbrev mX4_liftToZero : vMx := (yX4_liftToZero, cX4_liftToZero, 1, (some .boolean))
theorem gX4_liftToZero : vGood mX4_liftToZero 0 := ⟨List.mem_filter.mpr ⟨List.mem_append_right _ (List.mem_of_getElem? (i := 298) (by decide +kernel)), rfl⟩, kn_X4, by decide +kernel, by decide⟩
abbrev mX4_joined : vMx := (yX4_joined, cX4_joined, 5, (some .long))
theorem gX4_joined : vGood mX4_joined 3 := ⟨List.mem_filter.mpr ⟨List.mem_append_right _ (List.mem_of_getElem? (i := 308) (by decide +kernel)), rfl⟩, kn_X4, by decide +kernel, by decide⟩
abbrev mX4_bounded : vMx := (yX4_bounded, cX4_bounded, 2, (some .int))
theorem gX4_bounded : vGood mX4_bounded 1 := ⟨List.mem_filter.mpr ⟨List.mem_append_right _ (List.mem_of_getElem? (i := 311) (by decide +kernel)), rfl⟩, kn_X4, by decide +kernel, by decide⟩
abbrev mX4_joinTwo : vMx := (yX4_joinTwo, cX4_joinTwo, 2, (some .boolean))
theorem gX4_joinTwo : vGood mX4_joinTwo 1 := ⟨List.mem_filter.mpr ⟨List.mem_append_right _ (List.mem_of_getElem? (i := 305) (by decide +kernel)), rfl⟩, kn_X4, by decide +kernel, by decide⟩
abbrev mX4_read : vMx := (yX4_read, cX4_read, 2, (some .boolean))
theorem gX4_read : vGood mX4_read 1 := ⟨List.mem_filter.mpr ⟨List.mem_append_right _ (List.mem_of_getElem? (i := 285) (by decide +kernel)), rfl⟩, kn_X4, by decide +kernel, by decide⟩
abbrev mX4_reckon : vMx := (yX4_reckon, cX4_reckon, 6, (some .int))
theorem gX4_reckon : vGood mX4_reckon 1 := ⟨List.mem_filter.mpr ⟨List.mem_append_right _ (List.mem_of_getElem? (i := 281) (by decide +kernel)), rfl⟩, kn_X4, by decide +kernel, by decide⟩
abbrev mX0_enact : vMx := (yX0_enact, cX0_enact, 2, (some .int))
theorem gX0_enact : vGood mX0_enact 1 := ⟨List.mem_filter.mpr ⟨List.mem_append_right _ (List.mem_of_getElem? (i := 273) (by decide +kernel)), rfl⟩, kn_X0, by decide +kernel, by decide⟩
abbrev mX0_onDay : vMx := (yX0_onDay, cX0_onDay, 4, (some .int))
theorem gX0_onDay : vGood mX0_onDay 1 := ⟨List.mem_filter.mpr ⟨List.mem_append_right _ (List.mem_of_getElem? (i := 330) (by decide +kernel)), rfl⟩, kn_X0, by decide +kernel, by decide⟩
abbrev mX4_setSizes : vMx := (yX4_setSizes, cX4_setSizes, 5, none)
theorem gX4_setSizes : vGood mX4_setSizes 4 := ⟨List.mem_filter.mpr ⟨List.mem_append_right _ (List.mem_of_getElem? (i := 354) (by decide +kernel)), rfl⟩, kn_X4, by decide +kernel, by decide⟩
abbrev mX0_tonsBy : vMx := (yX0_tonsBy, cX0_tonsBy, 6, (some .int))
theorem gX0_tonsBy : vGood mX0_tonsBy 5 := ⟨List.mem_filter.mpr ⟨List.mem_append_right _ (List.mem_of_getElem? (i := 350) (by decide +kernel)), rfl⟩, kn_X0, by decide +kernel, by decide⟩
abbrev mX0_lengthOf : vMx := (yX0_lengthOf, cX0_lengthOf, 1, (some .int))
theorem gX0_lengthOf : vGood mX0_lengthOf 1 := ⟨List.mem_filter.mpr ⟨List.mem_append_right _ (List.mem_of_getElem? (i := 369) (by decide +kernel)), rfl⟩, kn_X0, by decide +kernel, by decide⟩
abbrev mX0_breadthOf : vMx := (yX0_breadthOf, cX0_breadthOf, 1, (some .int))
theorem gX0_breadthOf : vGood mX0_breadthOf 1 := ⟨List.mem_filter.mpr ⟨List.mem_append_right _ (List.mem_of_getElem? (i := 372) (by decide +kernel)), rfl⟩, kn_X0, by decide +kernel, by decide⟩
abbrev mX0_depthOf : vMx := (yX0_depthOf, cX0_depthOf, 1, (some .int))
theorem gX0_depthOf : vGood mX0_depthOf 1 := ⟨List.mem_filter.mpr ⟨List.mem_append_right _ (List.mem_of_getElem? (i := 375) (by decide +kernel)), rfl⟩, kn_X0, by decide +kernel, by decide⟩
abbrev mX0_tonsOfShapes : vMx := (yX0_tonsOfShapes, cX0_tonsOfShapes, 4, (some (.array .int)))
theorem gX0_tonsOfShapes : vGood mX0_tonsOfShapes 1 := ⟨List.mem_filter.mpr ⟨List.mem_append_right _ (List.mem_of_getElem? (i := 366) (by decide +kernel)), rfl⟩, kn_X0, by decide +kernel, by decide⟩
abbrev mX0_leastShape : vMx := (yX0_leastShape, cX0_leastShape, 4, (some .int))
theorem gX0_leastShape : vGood mX0_leastShape 2 := ⟨List.mem_filter.mpr ⟨List.mem_append_right _ (List.mem_of_getElem? (i := 379) (by decide +kernel)), rfl⟩, kn_X0, by decide +kernel, by decide⟩
abbrev mX0_ofLeastShape : vMx := (yX0_ofLeastShape, cX0_ofLeastShape, 6, (some .int))
theorem gX0_ofLeastShape : vGood mX0_ofLeastShape 3 := ⟨List.mem_filter.mpr ⟨List.mem_append_right _ (List.mem_of_getElem? (i := 362) (by decide +kernel)), rfl⟩, kn_X0, by decide +kernel, by decide⟩
abbrev mX1_init : vMx := (yX1_init, cX1_init, 1, none)
theorem gX1_init : vGood mX1_init 0 := ⟨List.mem_filter.mpr ⟨List.mem_append_right _ (List.mem_of_getElem? (i := 82) (by decide +kernel)), rfl⟩, kn_X1, by decide +kernel, by decide⟩
abbrev mX1_size : vMx := (yX1_size, cX1_size, 1, (some .int))
theorem gX1_size : vGood mX1_size 0 := ⟨List.mem_filter.mpr ⟨List.mem_append_right _ (List.mem_of_getElem? (i := 580) (by decide +kernel)), rfl⟩, kn_X1, by decide +kernel, by decide⟩
abbrev mX1_has : vMx := (yX1_has, cX1_has, 2, (some .boolean))
theorem gX1_has : vGood mX1_has 1 := ⟨List.mem_filter.mpr ⟨List.mem_append_right _ (List.mem_of_getElem? (i := 404) (by decide +kernel)), rfl⟩, kn_X1, by decide +kernel, by decide⟩
abbrev mX1_told : vMx := (yX1_told, cX1_told, 3, (some .int))
theorem gX1_told : vGood mX1_told 2 := ⟨List.mem_filter.mpr ⟨List.mem_append_right _ (List.mem_of_getElem? (i := 414) (by decide +kernel)), rfl⟩, kn_X1, by decide +kernel, by decide⟩
abbrev mX1_setSizes : vMx := (yX1_setSizes, cX1_setSizes, 7, none)
theorem gX1_setSizes : vGood mX1_setSizes 5 := ⟨List.mem_filter.mpr ⟨List.mem_append_right _ (List.mem_of_getElem? (i := 391) (by decide +kernel)), rfl⟩, kn_X1, by decide +kernel, by decide⟩
abbrev mX1_setMeasuring : vMx := (yX1_setMeasuring, cX1_setMeasuring, 6, none)
theorem gX1_setMeasuring : vGood mX1_setMeasuring 4 := ⟨List.mem_filter.mpr ⟨List.mem_append_right _ (List.mem_of_getElem? (i := 396) (by decide +kernel)), rfl⟩, kn_X1, by decide +kernel, by decide⟩
abbrev mX1_add : vMx := (yX1_add, cX1_add, 5, (some .int))
theorem gX1_add : vGood mX1_add 4 := ⟨List.mem_filter.mpr ⟨List.mem_append_right _ (List.mem_of_getElem? (i := 387) (by decide +kernel)), rfl⟩, kn_X1, by decide +kernel, by decide⟩
abbrev mX2_account : vMx := (yX2_account, cX2_account, 2, (some .int))
theorem gX2_account : vGood mX2_account 2 := ⟨List.mem_filter.mpr ⟨List.mem_append_right _ (List.mem_of_getElem? (i := 110) (by decide +kernel)), rfl⟩, kn_X2, by decide +kernel, by decide⟩
abbrev mX2_beginAnew : vMx := (yX2_beginAnew, cX2_beginAnew, 2, none)
theorem gX2_beginAnew : vGood mX2_beginAnew 0 := ⟨List.mem_filter.mpr ⟨List.mem_append_right _ (List.mem_of_getElem? (i := 104) (by decide +kernel)), rfl⟩, kn_X2, by decide +kernel, by decide⟩
abbrev mX2_told : vMx := (yX2_told, cX2_told, 3, (some .int))
theorem gX2_told : vGood mX2_told 2 := ⟨List.mem_filter.mpr ⟨List.mem_append_right _ (List.mem_of_getElem? (i := 118) (by decide +kernel)), rfl⟩, kn_X2, by decide +kernel, by decide⟩
abbrev mX2_isForged : vMx := (yX2_isForged, cX2_isForged, 2, (some .boolean))
theorem gX2_isForged : vGood mX2_isForged 1 := ⟨List.mem_filter.mpr ⟨List.mem_append_right _ (List.mem_of_getElem? (i := 114) (by decide +kernel)), rfl⟩, kn_X2, by decide +kernel, by decide⟩
abbrev mX2_freeOf : vMx := (yX2_freeOf, cX2_freeOf, 2, (some .int))
theorem gX2_freeOf : vGood mX2_freeOf 1 := ⟨List.mem_filter.mpr ⟨List.mem_append_right _ (List.mem_of_getElem? (i := 130) (by decide +kernel)), rfl⟩, kn_X2, by decide +kernel, by decide⟩
abbrev mX2_bringParts : vMx := (yX2_bringParts, cX2_bringParts, 4, (some .boolean))
theorem gX2_bringParts : vGood mX2_bringParts 1 := ⟨List.mem_filter.mpr ⟨List.mem_append_right _ (List.mem_of_getElem? (i := 126) (by decide +kernel)), rfl⟩, kn_X2, by decide +kernel, by decide⟩
abbrev mX2_setStanding : vMx := (yX2_setStanding, cX2_setStanding, 4, none)
theorem gX2_setStanding : vGood mX2_setStanding 2 := ⟨List.mem_filter.mpr ⟨List.mem_append_right _ (List.mem_of_getElem? (i := 138) (by decide +kernel)), rfl⟩, kn_X2, by decide +kernel, by decide⟩
abbrev mX2_beginPledge : vMx := (yX2_beginPledge, cX2_beginPledge, 2, (some .boolean))
theorem gX2_beginPledge : vGood mX2_beginPledge 1 := ⟨List.mem_filter.mpr ⟨List.mem_append_right _ (List.mem_of_getElem? (i := 134) (by decide +kernel)), rfl⟩, kn_X2, by decide +kernel, by decide⟩
abbrev mX2_has : vMx := (yX2_has, cX2_has, 2, (some .boolean))
theorem gX2_has : vGood mX2_has 1 := ⟨List.mem_filter.mpr ⟨List.mem_append_right _ (List.mem_of_getElem? (i := 146) (by decide +kernel)), rfl⟩, kn_X2, by decide +kernel, by decide⟩
abbrev mX2_endPledge : vMx := (yX2_endPledge, cX2_endPledge, 2, (some .boolean))
theorem gX2_endPledge : vGood mX2_endPledge 1 := ⟨List.mem_filter.mpr ⟨List.mem_append_right _ (List.mem_of_getElem? (i := 142) (by decide +kernel)), rfl⟩, kn_X2, by decide +kernel, by decide⟩
abbrev mX2_takesEffect : vMx := (yX2_takesEffect, cX2_takesEffect, 2, (some .boolean))
theorem gX2_takesEffect : vGood mX2_takesEffect 1 := ⟨List.mem_filter.mpr ⟨List.mem_append_right _ (List.mem_of_getElem? (i := 122) (by decide +kernel)), rfl⟩, kn_X2, by decide +kernel, by decide⟩
abbrev mX2_put : vMx := (yX2_put, cX2_put, 4, none)
theorem gX2_put : vGood mX2_put 3 := ⟨List.mem_filter.mpr ⟨List.mem_append_right _ (List.mem_of_getElem? (i := 153) (by decide +kernel)), rfl⟩, kn_X2, by decide +kernel, by decide⟩
abbrev mX2_rankPledges : vMx := (yX2_rankPledges, cX2_rankPledges, 3, none)
theorem gX2_rankPledges : vGood mX2_rankPledges 0 := ⟨List.mem_filter.mpr ⟨List.mem_append_right _ (List.mem_of_getElem? (i := 157) (by decide +kernel)), rfl⟩, kn_X2, by decide +kernel, by decide⟩
abbrev mX2_goThrough : vMx := (yX2_goThrough, cX2_goThrough, 2, none)
theorem gX2_goThrough : vGood mX2_goThrough 0 := ⟨List.mem_filter.mpr ⟨List.mem_append_right _ (List.mem_of_getElem? (i := 100) (by decide +kernel)), rfl⟩, kn_X2, by decide +kernel, by decide⟩
abbrev mX2_init : vMx := (yX2_init, cX2_init, 1, none)
theorem gX2_init : vGood mX2_init 0 := ⟨List.mem_filter.mpr ⟨List.mem_append_right _ (List.mem_of_getElem? (i := 95) (by decide +kernel)), rfl⟩, kn_X2, by decide +kernel, by decide⟩
abbrev mX2_size : vMx := (yX2_size, cX2_size, 1, (some .int))
theorem gX2_size : vGood mX2_size 0 := ⟨List.mem_filter.mpr ⟨List.mem_append_right _ (List.mem_of_getElem? (i := 584) (by decide +kernel)), rfl⟩, kn_X2, by decide +kernel, by decide⟩
abbrev mX2_add : vMx := (yX2_add, cX2_add, 7, (some .int))
theorem gX2_add : vGood mX2_add 6 := ⟨List.mem_filter.mpr ⟨List.mem_append_right _ (List.mem_of_getElem? (i := 434) (by decide +kernel)), rfl⟩, kn_X2, by decide +kernel, by decide⟩
abbrev mX2_addRedeem : vMx := (yX2_addRedeem, cX2_addRedeem, 2, (some .int))
theorem gX2_addRedeem : vGood mX2_addRedeem 1 := ⟨List.mem_filter.mpr ⟨List.mem_append_right _ (List.mem_of_getElem? (i := 447) (by decide +kernel)), rfl⟩, kn_X2, by decide +kernel, by decide⟩
abbrev mX2_markForged : vMx := (yX2_markForged, cX2_markForged, 2, (some .int))
theorem gX2_markForged : vGood mX2_markForged 1 := ⟨List.mem_filter.mpr ⟨List.mem_append_right _ (List.mem_of_getElem? (i := 456) (by decide +kernel)), rfl⟩, kn_X2, by decide +kernel, by decide⟩
abbrev mX2_allParts : vMx := (yX2_allParts, cX2_allParts, 3, (some .int))
theorem gX2_allParts : vGood mX2_allParts 2 := ⟨List.mem_filter.mpr ⟨List.mem_append_right _ (List.mem_of_getElem? (i := 473) (by decide +kernel)), rfl⟩, kn_X2, by decide +kernel, by decide⟩
abbrev mX2_freeParts : vMx := (yX2_freeParts, cX2_freeParts, 3, (some .int))
theorem gX2_freeParts : vGood mX2_freeParts 2 := ⟨List.mem_filter.mpr ⟨List.mem_append_right _ (List.mem_of_getElem? (i := 469) (by decide +kernel)), rfl⟩, kn_X2, by decide +kernel, by decide⟩
abbrev mX2_partsHeld : vMx := (yX2_partsHeld, cX2_partsHeld, 3, (some .int))
theorem gX2_partsHeld : vGood mX2_partsHeld 2 := ⟨List.mem_filter.mpr ⟨List.mem_append_right _ (List.mem_of_getElem? (i := 490) (by decide +kernel)), rfl⟩, kn_X2, by decide +kernel, by decide⟩
abbrev mX2_greatestOwner : vMx := (yX2_greatestOwner, cX2_greatestOwner, 4, (some .int))
theorem gX2_greatestOwner : vGood mX2_greatestOwner 1 := ⟨List.mem_filter.mpr ⟨List.mem_append_right _ (List.mem_of_getElem? (i := 481) (by decide +kernel)), rfl⟩, kn_X2, by decide +kernel, by decide⟩
abbrev mX2_sumOf : vMx := (yX2_sumOf, cX2_sumOf, 4, (some .int))
theorem gX2_sumOf : vGood mX2_sumOf 1 := ⟨List.mem_filter.mpr ⟨List.mem_append_right _ (List.mem_of_getElem? (i := 592) (by decide +kernel)), rfl⟩, kn_X2, by decide +kernel, by decide⟩
abbrev mX2_forgedEntries : vMx := (yX2_forgedEntries, cX2_forgedEntries, 1, (some .int))
theorem gX2_forgedEntries : vGood mX2_forgedEntries 0 := ⟨List.mem_filter.mpr ⟨List.mem_append_right _ (List.mem_of_getElem? (i := 588) (by decide +kernel)), rfl⟩, kn_X2, by decide +kernel, by decide⟩
abbrev mX2_voidEntries : vMx := (yX2_voidEntries, cX2_voidEntries, 1, (some .int))
theorem gX2_voidEntries : vGood mX2_voidEntries 0 := ⟨List.mem_filter.mpr ⟨List.mem_append_right _ (List.mem_of_getElem? (i := 596) (by decide +kernel)), rfl⟩, kn_X2, by decide +kernel, by decide⟩
abbrev mX2_standingPledges : vMx := (yX2_standingPledges, cX2_standingPledges, 3, (some .int))
theorem gX2_standingPledges : vGood mX2_standingPledges 0 := ⟨List.mem_filter.mpr ⟨List.mem_append_right _ (List.mem_of_getElem? (i := 600) (by decide +kernel)), rfl⟩, kn_X2, by decide +kernel, by decide⟩
abbrev mX3_init : vMx := (yX3_init, cX3_init, 1, none)
theorem gX3_init : vGood mX3_init 0 := ⟨List.mem_filter.mpr ⟨List.mem_append_right _ (List.mem_of_getElem? (i := 191) (by decide +kernel)), rfl⟩, kn_X3, by decide +kernel, by decide⟩
abbrev mX3_size : vMx := (yX3_size, cX3_size, 1, (some .int))
theorem gX3_size : vGood mX3_size 0 := ⟨List.mem_filter.mpr ⟨List.mem_append_right _ (List.mem_of_getElem? (i := 604) (by decide +kernel)), rfl⟩, kn_X3, by decide +kernel, by decide⟩
abbrev mX3_witnesses : vMx := (yX3_witnesses, cX3_witnesses, 1, (some .int))
theorem gX3_witnesses : vGood mX3_witnesses 0 := ⟨List.mem_filter.mpr ⟨List.mem_append_right _ (List.mem_of_getElem? (i := 608) (by decide +kernel)), rfl⟩, kn_X3, by decide +kernel, by decide⟩
abbrev mX3_has : vMx := (yX3_has, cX3_has, 2, (some .boolean))
theorem gX3_has : vGood mX3_has 1 := ⟨List.mem_filter.mpr ⟨List.mem_append_right _ (List.mem_of_getElem? (i := 535) (by decide +kernel)), rfl⟩, kn_X3, by decide +kernel, by decide⟩
abbrev mX3_areTwo : vMx := (yX3_areTwo, cX3_areTwo, 3, (some .boolean))
theorem gX3_areTwo : vGood mX3_areTwo 2 := ⟨List.mem_filter.mpr ⟨List.mem_append_right _ (List.mem_of_getElem? (i := 531) (by decide +kernel)), rfl⟩, kn_X3, by decide +kernel, by decide⟩
abbrev mX3_isIn : vMx := (yX3_isIn, cX3_isIn, 2, (some .boolean))
theorem gX3_isIn : vGood mX3_isIn 2 := ⟨List.mem_filter.mpr ⟨List.mem_append_right _ (List.mem_of_getElem? (i := 543) (by decide +kernel)), rfl⟩, kn_X3, by decide +kernel, by decide⟩
abbrev mX3_mayBeOne : vMx := (yX3_mayBeOne, cX3_mayBeOne, 3, (some .boolean))
theorem gX3_mayBeOne : vGood mX3_mayBeOne 2 := ⟨List.mem_filter.mpr ⟨List.mem_append_right _ (List.mem_of_getElem? (i := 551) (by decide +kernel)), rfl⟩, kn_X3, by decide +kernel, by decide⟩
abbrev mX3_joinedGroup : vMx := (yX3_joinedGroup, cX3_joinedGroup, 2, (some .int))
theorem gX3_joinedGroup : vGood mX3_joinedGroup 1 := ⟨List.mem_filter.mpr ⟨List.mem_append_right _ (List.mem_of_getElem? (i := 560) (by decide +kernel)), rfl⟩, kn_X3, by decide +kernel, by decide⟩
abbrev mX3_joinedGroups : vMx := (yX3_joinedGroups, cX3_joinedGroups, 1, (some .int))
theorem gX3_joinedGroups : vGood mX3_joinedGroups 0 := ⟨List.mem_filter.mpr ⟨List.mem_append_right _ (List.mem_of_getElem? (i := 568) (by decide +kernel)), rfl⟩, kn_X3, by decide +kernel, by decide⟩
abbrev mX3_seemAlike : vMx := (yX3_seemAlike, cX3_seemAlike, 6, (some .boolean))
theorem gX3_seemAlike : vGood mX3_seemAlike 2 := ⟨List.mem_filter.mpr ⟨List.mem_append_right _ (List.mem_of_getElem? (i := 502) (by decide +kernel)), rfl⟩, kn_X3, by decide +kernel, by decide⟩
abbrev mX3_setLike : vMx := (yX3_setLike, cX3_setLike, 4, none)
theorem gX3_setLike : vGood mX3_setLike 3 := ⟨List.mem_filter.mpr ⟨List.mem_append_right _ (List.mem_of_getElem? (i := 506) (by decide +kernel)), rfl⟩, kn_X3, by decide +kernel, by decide⟩
abbrev mX3_placeFrom : vMx := (yX3_placeFrom, cX3_placeFrom, 6, (some .boolean))
theorem gX3_placeFrom : vGood mX3_placeFrom 3 := ⟨List.mem_filter.mpr ⟨List.mem_append_right _ (List.mem_of_getElem? (i := 515) (by decide +kernel)), rfl⟩, kn_X3, by decide +kernel, by decide⟩
abbrev mX3_placeInto : vMx := (yX3_placeInto, cX3_placeInto, 5, (some .boolean))
theorem gX3_placeInto : vGood mX3_placeInto 4 := ⟨List.mem_filter.mpr ⟨List.mem_append_right _ (List.mem_of_getElem? (i := 522) (by decide +kernel)), rfl⟩, kn_X3, by decide +kernel, by decide⟩
abbrev mX3_joinAnew : vMx := (yX3_joinAnew, cX3_joinAnew, 2, none)
theorem gX3_joinAnew : vGood mX3_joinAnew 0 := ⟨List.mem_filter.mpr ⟨List.mem_append_right _ (List.mem_of_getElem? (i := 510) (by decide +kernel)), rfl⟩, kn_X3, by decide +kernel, by decide⟩
abbrev mX3_add : vMx := (yX3_add, cX3_add, 7, (some .int))
theorem gX3_add : vGood mX3_add 5 := ⟨List.mem_filter.mpr ⟨List.mem_append_right _ (List.mem_of_getElem? (i := 498) (by decide +kernel)), rfl⟩, kn_X3, by decide +kernel, by decide⟩
abbrev mX3_hear : vMx := (yX3_hear, cX3_hear, 4, (some .int))
theorem gX3_hear : vGood mX3_hear 3 := ⟨List.mem_filter.mpr ⟨List.mem_append_right _ (List.mem_of_getElem? (i := 540) (by decide +kernel)), rfl⟩, kn_X3, by decide +kernel, by decide⟩
abbrev mX5_init : vMx := (yX5_init, cX5_init, 1, none)
theorem gX5_init : vGood mX5_init 0 := ⟨List.mem_filter.mpr ⟨List.mem_append_right _ (List.mem_of_getElem? (i := 15) (by decide +kernel)), rfl⟩, kn_X5, by decide +kernel, by decide⟩
abbrev mX5_feed : vMx := (yX5_feed, cX5_feed, 2, (some .int))
theorem gX5_feed : vGood mX5_feed 1 := ⟨List.mem_filter.mpr ⟨List.mem_append_right _ (List.mem_of_getElem? (i := 246) (by decide +kernel)), rfl⟩, kn_X5, by decide +kernel, by decide⟩
abbrev mX5_scrap : vMx := (yX5_scrap, cX5_scrap, 1, (some .int))
theorem gX5_scrap : vGood mX5_scrap 0 := ⟨List.mem_filter.mpr ⟨List.mem_append_right _ (List.mem_of_getElem? (i := 260) (by decide +kernel)), rfl⟩, kn_X5, by decide +kernel, by decide⟩
abbrev mX5_act : vMx := (yX5_act, cX5_act, 2, (some .int))
theorem gX5_act : vGood mX5_act 1 := ⟨List.mem_filter.mpr ⟨List.mem_append_right _ (List.mem_of_getElem? (i := 269) (by decide +kernel)), rfl⟩, kn_X5, by decide +kernel, by decide⟩
abbrev mX5_inForce : vMx := (yX5_inForce, cX5_inForce, 2, (some .int))
theorem gX5_inForce : vGood mX5_inForce 1 := ⟨List.mem_filter.mpr ⟨List.mem_append_right _ (List.mem_of_getElem? (i := 325) (by decide +kernel)), rfl⟩, kn_X5, by decide +kernel, by decide⟩
abbrev mX5_isMeasure : vMx := (yX5_isMeasure, cX5_isMeasure, 1, (some .boolean))
theorem gX5_isMeasure : vGood mX5_isMeasure 1 := ⟨List.mem_filter.mpr ⟨List.mem_append_right _ (List.mem_of_getElem? (i := 345) (by decide +kernel)), rfl⟩, kn_X5, by decide +kernel, by decide⟩
abbrev mX5_areSizes : vMx := (yX5_areSizes, cX5_areSizes, 4, (some .boolean))
theorem gX5_areSizes : vGood mX5_areSizes 4 := ⟨List.mem_filter.mpr ⟨List.mem_append_right _ (List.mem_of_getElem? (i := 342) (by decide +kernel)), rfl⟩, kn_X5, by decide +kernel, by decide⟩
abbrev mX5_tons : vMx := (yX5_tons, cX5_tons, 6, (some .int))
theorem gX5_tons : vGood mX5_tons 5 := ⟨List.mem_filter.mpr ⟨List.mem_append_right _ (List.mem_of_getElem? (i := 334) (by decide +kernel)), rfl⟩, kn_X5, by decide +kernel, by decide⟩
abbrev mX5_shape : vMx := (yX5_shape, cX5_shape, 4, (some .int))
theorem gX5_shape : vGood mX5_shape 3 := ⟨List.mem_filter.mpr ⟨List.mem_append_right _ (List.mem_of_getElem? (i := 358) (by decide +kernel)), rfl⟩, kn_X5, by decide +kernel, by decide⟩
abbrev mX5_hull : vMx := (yX5_hull, cX5_hull, 5, (some .int))
theorem gX5_hull : vGood mX5_hull 4 := ⟨List.mem_filter.mpr ⟨List.mem_append_right _ (List.mem_of_getElem? (i := 383) (by decide +kernel)), rfl⟩, kn_X5, by decide +kernel, by decide⟩
abbrev mX5_alter : vMx := (yX5_alter, cX5_alter, 6, (some .int))
theorem gX5_alter : vGood mX5_alter 5 := ⟨List.mem_filter.mpr ⟨List.mem_append_right _ (List.mem_of_getElem? (i := 400) (by decide +kernel)), rfl⟩, kn_X5, by decide +kernel, by decide⟩
abbrev mX5_measure : vMx := (yX5_measure, cX5_measure, 5, (some .int))
theorem gX5_measure : vGood mX5_measure 2 := ⟨List.mem_filter.mpr ⟨List.mem_append_right _ (List.mem_of_getElem? (i := 410) (by decide +kernel)), rfl⟩, kn_X5, by decide +kernel, by decide⟩
abbrev mX5_of : vMx := (yX5_of, cX5_of, 3, (some .int))
theorem gX5_of : vGood mX5_of 2 := ⟨List.mem_filter.mpr ⟨List.mem_append_right _ (List.mem_of_getElem? (i := 419) (by decide +kernel)), rfl⟩, kn_X5, by decide +kernel, by decide⟩
abbrev mX5_isPerson : vMx := (yX5_isPerson, cX5_isPerson, 1, (some .boolean))
theorem gX5_isPerson : vGood mX5_isPerson 1 := ⟨List.mem_filter.mpr ⟨List.mem_append_right _ (List.mem_of_getElem? (i := 430) (by decide +kernel)), rfl⟩, kn_X5, by decide +kernel, by decide⟩
abbrev mX5_enter : vMx := (yX5_enter, cX5_enter, 6, (some .int))
theorem gX5_enter : vGood mX5_enter 5 := ⟨List.mem_filter.mpr ⟨List.mem_append_right _ (List.mem_of_getElem? (i := 427) (by decide +kernel)), rfl⟩, kn_X5, by decide +kernel, by decide⟩
abbrev mX5_sell : vMx := (yX5_sell, cX5_sell, 5, (some .int))
theorem gX5_sell : vGood mX5_sell 4 := ⟨List.mem_filter.mpr ⟨List.mem_append_right _ (List.mem_of_getElem? (i := 423) (by decide +kernel)), rfl⟩, kn_X5, by decide +kernel, by decide⟩
abbrev mX5_pledge : vMx := (yX5_pledge, cX5_pledge, 5, (some .int))
theorem gX5_pledge : vGood mX5_pledge 4 := ⟨List.mem_filter.mpr ⟨List.mem_append_right _ (List.mem_of_getElem? (i := 438) (by decide +kernel)), rfl⟩, kn_X5, by decide +kernel, by decide⟩
abbrev mX5_redeem : vMx := (yX5_redeem, cX5_redeem, 2, (some .int))
theorem gX5_redeem : vGood mX5_redeem 1 := ⟨List.mem_filter.mpr ⟨List.mem_append_right _ (List.mem_of_getElem? (i := 442) (by decide +kernel)), rfl⟩, kn_X5, by decide +kernel, by decide⟩
abbrev mX5_forge : vMx := (yX5_forge, cX5_forge, 2, (some .int))
theorem gX5_forge : vGood mX5_forge 1 := ⟨List.mem_filter.mpr ⟨List.mem_append_right _ (List.mem_of_getElem? (i := 452) (by decide +kernel)), rfl⟩, kn_X5, by decide +kernel, by decide⟩
abbrev mX5_entry : vMx := (yX5_entry, cX5_entry, 3, (some .int))
theorem gX5_entry : vGood mX5_entry 2 := ⟨List.mem_filter.mpr ⟨List.mem_append_right _ (List.mem_of_getElem? (i := 460) (by decide +kernel)), rfl⟩, kn_X5, by decide +kernel, by decide⟩
abbrev mX5_parts : vMx := (yX5_parts, cX5_parts, 4, (some .int))
theorem gX5_parts : vGood mX5_parts 3 := ⟨List.mem_filter.mpr ⟨List.mem_append_right _ (List.mem_of_getElem? (i := 465) (by decide +kernel)), rfl⟩, kn_X5, by decide +kernel, by decide⟩
abbrev mX5_manager : vMx := (yX5_manager, cX5_manager, 2, (some .int))
theorem gX5_manager : vGood mX5_manager 1 := ⟨List.mem_filter.mpr ⟨List.mem_append_right _ (List.mem_of_getElem? (i := 477) (by decide +kernel)), rfl⟩, kn_X5, by decide +kernel, by decide⟩
abbrev mX5_held : vMx := (yX5_held, cX5_held, 3, (some .int))
theorem gX5_held : vGood mX5_held 2 := ⟨List.mem_filter.mpr ⟨List.mem_append_right _ (List.mem_of_getElem? (i := 486) (by decide +kernel)), rfl⟩, kn_X5, by decide +kernel, by decide⟩
abbrev mX5_paper : vMx := (yX5_paper, cX5_paper, 6, (some .int))
theorem gX5_paper : vGood mX5_paper 5 := ⟨List.mem_filter.mpr ⟨List.mem_append_right _ (List.mem_of_getElem? (i := 494) (by decide +kernel)), rfl⟩, kn_X5, by decide +kernel, by decide⟩
abbrev mX5_witness : vMx := (yX5_witness, cX5_witness, 4, (some .int))
theorem gX5_witness : vGood mX5_witness 3 := ⟨List.mem_filter.mpr ⟨List.mem_append_right _ (List.mem_of_getElem? (i := 527) (by decide +kernel)), rfl⟩, kn_X5, by decide +kernel, by decide⟩
abbrev mX5_alike : vMx := (yX5_alike, cX5_alike, 3, (some .int))
theorem gX5_alike : vGood mX5_alike 2 := ⟨List.mem_filter.mpr ⟨List.mem_append_right _ (List.mem_of_getElem? (i := 547) (by decide +kernel)), rfl⟩, kn_X5, by decide +kernel, by decide⟩
abbrev mX5_group : vMx := (yX5_group, cX5_group, 2, (some .int))
theorem gX5_group : vGood mX5_group 1 := ⟨List.mem_filter.mpr ⟨List.mem_append_right _ (List.mem_of_getElem? (i := 555) (by decide +kernel)), rfl⟩, kn_X5, by decide +kernel, by decide⟩
abbrev mX5_groups : vMx := (yX5_groups, cX5_groups, 1, (some .int))
theorem gX5_groups : vGood mX5_groups 0 := ⟨List.mem_filter.mpr ⟨List.mem_append_right _ (List.mem_of_getElem? (i := 564) (by decide +kernel)), rfl⟩, kn_X5, by decide +kernel, by decide⟩
abbrev mX5_many : vMx := (yX5_many, cX5_many, 2, (some .int))
theorem gX5_many : vGood mX5_many 1 := ⟨List.mem_filter.mpr ⟨List.mem_append_right _ (List.mem_of_getElem? (i := 572) (by decide +kernel)), rfl⟩, kn_X5, by decide +kernel, by decide⟩
abbrev mX6_init : vMx := (yX6_init, cX6_init, 1, none)
theorem gX6_init : vGood mX6_init 0 := ⟨List.mem_filter.mpr ⟨List.mem_append_right _ (List.mem_of_getElem? (i := 617) (by decide +kernel)), rfl⟩, kn_X6, by decide +kernel, by decide⟩
abbrev mX6_in : vMx := (yX6_in, cX6_in, 3, (some .boolean))
theorem gX6_in : vGood mX6_in 3 := ⟨List.mem_filter.mpr ⟨List.mem_append_right _ (List.mem_of_getElem? (i := 733) (by decide +kernel)), rfl⟩, kn_X6, by decide +kernel, by decide⟩
abbrev mX6_feed : vMx := (yX6_feed, cX6_feed, 4, (some .int))
theorem gX6_feed : vGood mX6_feed 1 := ⟨List.mem_filter.mpr ⟨List.mem_append_right _ (List.mem_of_getElem? (i := 722) (by decide +kernel)), rfl⟩, kn_X6, by decide +kernel, by decide⟩
abbrev mX6_scrap : vMx := (yX6_scrap, cX6_scrap, 2, (some .int))
theorem gX6_scrap : vGood mX6_scrap 0 := ⟨List.mem_filter.mpr ⟨List.mem_append_right _ (List.mem_of_getElem? (i := 726) (by decide +kernel)), rfl⟩, kn_X6, by decide +kernel, by decide⟩
abbrev mX6_isFigure : vMx := (yX6_isFigure, cX6_isFigure, 1, (some .boolean))
theorem gX6_isFigure : vGood mX6_isFigure 1 := ⟨List.mem_filter.mpr ⟨List.mem_append_right _ (List.mem_of_getElem? (i := 743) (by decide +kernel)), rfl⟩, kn_X6, by decide +kernel, by decide⟩
abbrev mX6_takes : vMx := (yX6_takes, cX6_takes, 1, (some .int))
theorem gX6_takes : vGood mX6_takes 1 := ⟨List.mem_filter.mpr ⟨List.mem_append_right _ (List.mem_of_getElem? (i := 740) (by decide +kernel)), rfl⟩, kn_X6, by decide +kernel, by decide⟩
abbrev mX6_isGood : vMx := (yX6_isGood, cX6_isGood, 6, (some .boolean))
theorem gX6_isGood : vGood mX6_isGood 0 := ⟨List.mem_filter.mpr ⟨List.mem_append_right _ (List.mem_of_getElem? (i := 737) (by decide +kernel)), rfl⟩, kn_X6, by decide +kernel, by decide⟩
abbrev mX6_act : vMx := (yX6_act, cX6_act, 3, (some .int))
theorem gX6_act : vGood mX6_act 1 := ⟨List.mem_filter.mpr ⟨List.mem_append_right _ (List.mem_of_getElem? (i := 730) (by decide +kernel)), rfl⟩, kn_X6, by decide +kernel, by decide⟩
abbrev mX6_isAct : vMx := (yX6_isAct, cX6_isAct, 2, (some .boolean))
theorem gX6_isAct : vGood mX6_isAct 1 := ⟨List.mem_filter.mpr ⟨List.mem_append_right _ (List.mem_of_getElem? (i := 759) (by decide +kernel)), rfl⟩, kn_X6, by decide +kernel, by decide⟩
abbrev mX6_forceOn : vMx := (yX6_forceOn, cX6_forceOn, 4, (some .int))
theorem gX6_forceOn : vGood mX6_forceOn 1 := ⟨List.mem_filter.mpr ⟨List.mem_append_right _ (List.mem_of_getElem? (i := 751) (by decide +kernel)), rfl⟩, kn_X6, by decide +kernel, by decide⟩
abbrev mX6_inForce : vMx := (yX6_inForce, cX6_inForce, 2, (some .int))
theorem gX6_inForce : vGood mX6_inForce 1 := ⟨List.mem_filter.mpr ⟨List.mem_append_right _ (List.mem_of_getElem? (i := 747) (by decide +kernel)), rfl⟩, kn_X6, by decide +kernel, by decide⟩
abbrev mX6_push : vMx := (yX6_push, cX6_push, 3, none)
theorem gX6_push : vGood mX6_push 1 := ⟨List.mem_filter.mpr ⟨List.mem_append_right _ (List.mem_of_getElem? (i := 772) (by decide +kernel)), rfl⟩, kn_X6, by decide +kernel, by decide⟩
abbrev mX6_combine : vMx := (yX6_combine, cX6_combine, 6, none)
theorem gX6_combine : vGood mX6_combine 1 := ⟨List.mem_filter.mpr ⟨List.mem_append_right _ (List.mem_of_getElem? (i := 780) (by decide +kernel)), rfl⟩, kn_X6, by decide +kernel, by decide⟩
abbrev mX6_tonsBy : vMx := (yX6_tonsBy, cX6_tonsBy, 9, (some .int))
theorem gX6_tonsBy : vGood mX6_tonsBy 5 := ⟨List.mem_filter.mpr ⟨List.mem_append_right _ (List.mem_of_getElem? (i := 766) (by decide +kernel)), rfl⟩, kn_X6, by decide +kernel, by decide⟩
abbrev mX6_areSizes : vMx := (yX6_areSizes, cX6_areSizes, 4, (some .boolean))
theorem gX6_areSizes : vGood mX6_areSizes 4 := ⟨List.mem_filter.mpr ⟨List.mem_append_right _ (List.mem_of_getElem? (i := 762) (by decide +kernel)), rfl⟩, kn_X6, by decide +kernel, by decide⟩
abbrev mX6_tons : vMx := (yX6_tons, cX6_tons, 6, (some .int))
theorem gX6_tons : vGood mX6_tons 5 := ⟨List.mem_filter.mpr ⟨List.mem_append_right _ (List.mem_of_getElem? (i := 755) (by decide +kernel)), rfl⟩, kn_X6, by decide +kernel, by decide⟩
abbrev mX6_shape : vMx := (yX6_shape, cX6_shape, 10, (some .int))
theorem gX6_shape : vGood mX6_shape 3 := ⟨List.mem_filter.mpr ⟨List.mem_append_right _ (List.mem_of_getElem? (i := 785) (by decide +kernel)), rfl⟩, kn_X6, by decide +kernel, by decide⟩
abbrev mX6_isHull : vMx := (yX6_isHull, cX6_isHull, 2, (some .boolean))
theorem gX6_isHull : vGood mX6_isHull 1 := ⟨List.mem_filter.mpr ⟨List.mem_append_right _ (List.mem_of_getElem? (i := 802) (by decide +kernel)), rfl⟩, kn_X6, by decide +kernel, by decide⟩
abbrev mX6_put : vMx := (yX6_put, cX6_put, 6, none)
theorem gX6_put : vGood mX6_put 5 := ⟨List.mem_filter.mpr ⟨List.mem_append_right _ (List.mem_of_getElem? (i := 794) (by decide +kernel)), rfl⟩, kn_X6, by decide +kernel, by decide⟩
abbrev mX6_hull : vMx := (yX6_hull, cX6_hull, 5, (some .int))
theorem gX6_hull : vGood mX6_hull 4 := ⟨List.mem_filter.mpr ⟨List.mem_append_right _ (List.mem_of_getElem? (i := 790) (by decide +kernel)), rfl⟩, kn_X6, by decide +kernel, by decide⟩
abbrev mX6_alter : vMx := (yX6_alter, cX6_alter, 6, (some .int))
theorem gX6_alter : vGood mX6_alter 5 := ⟨List.mem_filter.mpr ⟨List.mem_append_right _ (List.mem_of_getElem? (i := 798) (by decide +kernel)), rfl⟩, kn_X6, by decide +kernel, by decide⟩
abbrev mX6_measure : vMx := (yX6_measure, cX6_measure, 4, (some .int))
theorem gX6_measure : vGood mX6_measure 2 := ⟨List.mem_filter.mpr ⟨List.mem_append_right _ (List.mem_of_getElem? (i := 806) (by decide +kernel)), rfl⟩, kn_X6, by decide +kernel, by decide⟩
abbrev mX6_of : vMx := (yX6_of, cX6_of, 3, (some .int))
theorem gX6_of : vGood mX6_of 2 := ⟨List.mem_filter.mpr ⟨List.mem_append_right _ (List.mem_of_getElem? (i := 810) (by decide +kernel)), rfl⟩, kn_X6, by decide +kernel, by decide⟩
abbrev mX6_isPerson : vMx := (yX6_isPerson, cX6_isPerson, 1, (some .boolean))
theorem gX6_isPerson : vGood mX6_isPerson 1 := ⟨List.mem_filter.mpr ⟨List.mem_append_right _ (List.mem_of_getElem? (i := 821) (by decide +kernel)), rfl⟩, kn_X6, by decide +kernel, by decide⟩
abbrev mX6_isEntry : vMx := (yX6_isEntry, cX6_isEntry, 2, (some .boolean))
theorem gX6_isEntry : vGood mX6_isEntry 1 := ⟨List.mem_filter.mpr ⟨List.mem_append_right _ (List.mem_of_getElem? (i := 837) (by decide +kernel)), rfl⟩, kn_X6, by decide +kernel, by decide⟩
abbrev mX6_enter : vMx := (yX6_enter, cX6_enter, 7, (some .int))
theorem gX6_enter : vGood mX6_enter 6 := ⟨List.mem_filter.mpr ⟨List.mem_append_right _ (List.mem_of_getElem? (i := 825) (by decide +kernel)), rfl⟩, kn_X6, by decide +kernel, by decide⟩
abbrev mX6_deal : vMx := (yX6_deal, cX6_deal, 6, (some .int))
theorem gX6_deal : vGood mX6_deal 5 := ⟨List.mem_filter.mpr ⟨List.mem_append_right _ (List.mem_of_getElem? (i := 818) (by decide +kernel)), rfl⟩, kn_X6, by decide +kernel, by decide⟩
abbrev mX6_sell : vMx := (yX6_sell, cX6_sell, 5, (some .int))
theorem gX6_sell : vGood mX6_sell 4 := ⟨List.mem_filter.mpr ⟨List.mem_append_right _ (List.mem_of_getElem? (i := 814) (by decide +kernel)), rfl⟩, kn_X6, by decide +kernel, by decide⟩
abbrev mX6_pledge : vMx := (yX6_pledge, cX6_pledge, 5, (some .int))
theorem gX6_pledge : vGood mX6_pledge 4 := ⟨List.mem_filter.mpr ⟨List.mem_append_right _ (List.mem_of_getElem? (i := 829) (by decide +kernel)), rfl⟩, kn_X6, by decide +kernel, by decide⟩
abbrev mX6_redeem : vMx := (yX6_redeem, cX6_redeem, 2, (some .int))
theorem gX6_redeem : vGood mX6_redeem 1 := ⟨List.mem_filter.mpr ⟨List.mem_append_right _ (List.mem_of_getElem? (i := 833) (by decide +kernel)), rfl⟩, kn_X6, by decide +kernel, by decide⟩
abbrev mX6_forge : vMx := (yX6_forge, cX6_forge, 2, (some .int))
theorem gX6_forge : vGood mX6_forge 1 := ⟨List.mem_filter.mpr ⟨List.mem_append_right _ (List.mem_of_getElem? (i := 841) (by decide +kernel)), rfl⟩, kn_X6, by decide +kernel, by decide⟩
abbrev mX6_does : vMx := (yX6_does, cX6_does, 5, none)
theorem gX6_does : vGood mX6_does 1 := ⟨List.mem_filter.mpr ⟨List.mem_append_right _ (List.mem_of_getElem? (i := 853) (by decide +kernel)), rfl⟩, kn_X6, by decide +kernel, by decide⟩
abbrev mX6_goThrough : vMx := (yX6_goThrough, cX6_goThrough, 2, none)
theorem gX6_goThrough : vGood mX6_goThrough 0 := ⟨List.mem_filter.mpr ⟨List.mem_append_right _ (List.mem_of_getElem? (i := 849) (by decide +kernel)), rfl⟩, kn_X6, by decide +kernel, by decide⟩
abbrev mX6_rankOf : vMx := (yX6_rankOf, cX6_rankOf, 4, (some .int))
theorem gX6_rankOf : vGood mX6_rankOf 1 := ⟨List.mem_filter.mpr ⟨List.mem_append_right _ (List.mem_of_getElem? (i := 857) (by decide +kernel)), rfl⟩, kn_X6, by decide +kernel, by decide⟩
abbrev mX6_entry : vMx := (yX6_entry, cX6_entry, 3, (some .int))
theorem gX6_entry : vGood mX6_entry 2 := ⟨List.mem_filter.mpr ⟨List.mem_append_right _ (List.mem_of_getElem? (i := 845) (by decide +kernel)), rfl⟩, kn_X6, by decide +kernel, by decide⟩
abbrev mX6_parts : vMx := (yX6_parts, cX6_parts, 5, (some .int))
theorem gX6_parts : vGood mX6_parts 3 := ⟨List.mem_filter.mpr ⟨List.mem_append_right _ (List.mem_of_getElem? (i := 861) (by decide +kernel)), rfl⟩, kn_X6, by decide +kernel, by decide⟩
abbrev mX6_manager : vMx := (yX6_manager, cX6_manager, 4, (some .int))
theorem gX6_manager : vGood mX6_manager 1 := ⟨List.mem_filter.mpr ⟨List.mem_append_right _ (List.mem_of_getElem? (i := 865) (by decide +kernel)), rfl⟩, kn_X6, by decide +kernel, by decide⟩
abbrev mX6_held : vMx := (yX6_held, cX6_held, 5, (some .int))
theorem gX6_held : vGood mX6_held 2 := ⟨List.mem_filter.mpr ⟨List.mem_append_right _ (List.mem_of_getElem? (i := 869) (by decide +kernel)), rfl⟩, kn_X6, by decide +kernel, by decide⟩
abbrev mX6_isPaper : vMx := (yX6_isPaper, cX6_isPaper, 2, (some .boolean))
theorem gX6_isPaper : vGood mX6_isPaper 1 := ⟨List.mem_filter.mpr ⟨List.mem_append_right _ (List.mem_of_getElem? (i := 881) (by decide +kernel)), rfl⟩, kn_X6, by decide +kernel, by decide⟩
abbrev mX6_paper : vMx := (yX6_paper, cX6_paper, 7, (some .int))
theorem gX6_paper : vGood mX6_paper 5 := ⟨List.mem_filter.mpr ⟨List.mem_append_right _ (List.mem_of_getElem? (i := 873) (by decide +kernel)), rfl⟩, kn_X6, by decide +kernel, by decide⟩
abbrev mX6_witnessOf : vMx := (yX6_witnessOf, cX6_witnessOf, 4, (some .int))
theorem gX6_witnessOf : vGood mX6_witnessOf 2 := ⟨List.mem_filter.mpr ⟨List.mem_append_right _ (List.mem_of_getElem? (i := 885) (by decide +kernel)), rfl⟩, kn_X6, by decide +kernel, by decide⟩
abbrev mX6_witness : vMx := (yX6_witness, cX6_witness, 4, (some .int))
theorem gX6_witness : vGood mX6_witness 3 := ⟨List.mem_filter.mpr ⟨List.mem_append_right _ (List.mem_of_getElem? (i := 877) (by decide +kernel)), rfl⟩, kn_X6, by decide +kernel, by decide⟩
abbrev mX6_areAlike : vMx := (yX6_areAlike, cX6_areAlike, 9, (some .boolean))
theorem gX6_areAlike : vGood mX6_areAlike 2 := ⟨List.mem_filter.mpr ⟨List.mem_append_right _ (List.mem_of_getElem? (i := 893) (by decide +kernel)), rfl⟩, kn_X6, by decide +kernel, by decide⟩
abbrev mX6_alike : vMx := (yX6_alike, cX6_alike, 3, (some .int))
theorem gX6_alike : vGood mX6_alike 2 := ⟨List.mem_filter.mpr ⟨List.mem_append_right _ (List.mem_of_getElem? (i := 889) (by decide +kernel)), rfl⟩, kn_X6, by decide +kernel, by decide⟩
abbrev mX6_mayJoin : vMx := (yX6_mayJoin, cX6_mayJoin, 3, (some .boolean))
theorem gX6_mayJoin : vGood mX6_mayJoin 1 := ⟨List.mem_filter.mpr ⟨List.mem_append_right _ (List.mem_of_getElem? (i := 909) (by decide +kernel)), rfl⟩, kn_X6, by decide +kernel, by decide⟩
abbrev mX6_findJoining : vMx := (yX6_findJoining, cX6_findJoining, 4, (some .boolean))
theorem gX6_findJoining : vGood mX6_findJoining 1 := ⟨List.mem_filter.mpr ⟨List.mem_append_right _ (List.mem_of_getElem? (i := 905) (by decide +kernel)), rfl⟩, kn_X6, by decide +kernel, by decide⟩
abbrev mX6_join : vMx := (yX6_join, cX6_join, 2, (some .int))
theorem gX6_join : vGood mX6_join 0 := ⟨List.mem_filter.mpr ⟨List.mem_append_right _ (List.mem_of_getElem? (i := 901) (by decide +kernel)), rfl⟩, kn_X6, by decide +kernel, by decide⟩
abbrev mX6_group : vMx := (yX6_group, cX6_group, 3, (some .int))
theorem gX6_group : vGood mX6_group 1 := ⟨List.mem_filter.mpr ⟨List.mem_append_right _ (List.mem_of_getElem? (i := 897) (by decide +kernel)), rfl⟩, kn_X6, by decide +kernel, by decide⟩
abbrev mX6_groups : vMx := (yX6_groups, cX6_groups, 1, (some .int))
theorem gX6_groups : vGood mX6_groups 0 := ⟨List.mem_filter.mpr ⟨List.mem_append_right _ (List.mem_of_getElem? (i := 913) (by decide +kernel)), rfl⟩, kn_X6, by decide +kernel, by decide⟩
abbrev mX6_entriesThat : vMx := (yX6_entriesThat, cX6_entriesThat, 4, (some .int))
theorem gX6_entriesThat : vGood mX6_entriesThat 1 := ⟨List.mem_filter.mpr ⟨List.mem_append_right _ (List.mem_of_getElem? (i := 921) (by decide +kernel)), rfl⟩, kn_X6, by decide +kernel, by decide⟩
abbrev mX6_standing : vMx := (yX6_standing, cX6_standing, 3, (some .int))
theorem gX6_standing : vGood mX6_standing 0 := ⟨List.mem_filter.mpr ⟨List.mem_append_right _ (List.mem_of_getElem? (i := 925) (by decide +kernel)), rfl⟩, kn_X6, by decide +kernel, by decide⟩
abbrev mX6_many : vMx := (yX6_many, cX6_many, 2, (some .int))
theorem gX6_many : vGood mX6_many 1 := ⟨List.mem_filter.mpr ⟨List.mem_append_right _ (List.mem_of_getElem? (i := 917) (by decide +kernel)), rfl⟩, kn_X6, by decide +kernel, by decide⟩
abbrev mJ9_max_7cf53 : vMx := (yJ9_max_7cf53, cJ9_max_7cf53, 2, (some .int))
theorem gJ9_max_7cf53 : vGood mJ9_max_7cf53 2 := ⟨List.mem_filter.mpr ⟨List.mem_append_right _ (List.mem_of_getElem? (i := 301) (by decide +kernel)), rfl⟩, kn_J9, by decide +kernel, by decide⟩
abbrev mJ9_min_7cf53 : vMx := (yJ9_min_7cf53, cJ9_min_7cf53, 2, (some .int))
theorem gJ9_min_7cf53 : vGood mJ9_min_7cf53 2 := ⟨List.mem_filter.mpr ⟨List.mem_append_right _ (List.mem_of_getElem? (i := 518) (by decide +kernel)), rfl⟩, kn_J9, by decide +kernel, by decide⟩
