theorem iw_0 : Cond.methodLink RX0 3 Lib.objectInit ∈ lw_gd := tb_in (List.mem_append_right _ (List.mem_of_getElem? (i := 96) (by decide +kernel))) rfl
theorem iw_1 : Cond.instanceMethod Lib.objectInit ∈ lw_gd := tb_in (List.mem_append_right _ (List.mem_of_getElem? (i := 16) (by decide +kernel))) rfl
theorem iw_2 : Cond.code Lib.objectInit ⟨#[0xb1]⟩ 1 none ∈ lw_gd := tb_in (List.mem_append_right _ (List.mem_of_getElem? (i := 17) (by decide +kernel))) rfl
theorem iw_3 : Cond.fieldLink RX0 9 "CountedTerms$History" "shelf" "LCountedTerms$Shelf;" ∈ lw_gd := tb_in (List.mem_append_right _ (List.mem_of_getElem? (i := 97) (by decide +kernel))) rfl
theorem iw_4 : Cond.fieldLink RX0 19 "CountedTerms$History" "next" "I" ∈ lw_gd := tb_in (List.mem_append_right _ (List.mem_of_getElem? (i := 98) (by decide +kernel))) rfl
theorem iw_5 : Cond.methodLink RX0 22 yX4_duplicateState ∈ lw_gd := tb_in (List.mem_append_right _ (List.mem_of_getElem? (i := 173) (by decide +kernel))) rfl
theorem iw_6 : Cond.instanceMethod yX4_duplicateState ∈ lw_gd := tb_in (List.mem_append_right _ (List.mem_of_getElem? (i := 174) (by decide +kernel))) rfl
theorem iw_7 : Cond.selects RX4 yX4_duplicateState yX4_duplicateState ∈ lw_gd := tb_in (List.mem_append_right _ (List.mem_of_getElem? (i := 175) (by decide +kernel))) rfl
theorem iw_8 : Cond.initialized RX4 ∈ lw_gd := tb_in (List.mem_append_right _ (List.mem_of_getElem? (i := 2) (by decide +kernel))) rfl
theorem iw_9 : Cond.fieldLink RX0 15 "CountedTerms$History" "length" "I" ∈ lw_gd := tb_in (List.mem_append_right _ (List.mem_of_getElem? (i := 99) (by decide +kernel))) rfl
theorem iw_10 : Cond.code Lib.Math.min.name Lib.Math.min.code 2 (some .int) ∈ lw_gd := tb_in (List.mem_append_right _ (List.mem_of_getElem? (i := 202) (by decide +kernel))) rfl
theorem iw_11 : Cond.methodLink RX0 28 Lib.Math.min.name ∈ lw_gd := tb_in (List.mem_append_right _ (List.mem_of_getElem? (i := 200) (by decide +kernel))) rfl
theorem iw_12 : Cond.static Lib.Math.min.name ∈ lw_gd := tb_in (List.mem_append_right _ (List.mem_of_getElem? (i := 201) (by decide +kernel))) rfl
theorem iw_13 : Cond.initialized RJ9 ∈ lw_gd := tb_in (List.mem_append_right _ (List.mem_of_getElem? (i := 4) (by decide +kernel))) rfl
theorem iw_14 : Cond.methodLink RX1 3 Lib.objectInit ∈ lw_gd := tb_in (List.mem_append_right _ (List.mem_of_getElem? (i := 112) (by decide +kernel))) rfl
theorem iw_15 : Cond.classLink RX1 9 RX3 ∈ lw_gd := tb_in (List.mem_append_right _ (List.mem_of_getElem? (i := 113) (by decide +kernel))) rfl
theorem iw_16 : Cond.instantiable RX3 1 ∈ lw_gd := tb_in (List.mem_append_right _ (List.mem_of_getElem? (i := 25) (by decide +kernel))) rfl
theorem iw_17 : Cond.initialized RX3 ∈ lw_gd := tb_in (List.mem_append_right _ (List.mem_of_getElem? (i := 3) (by decide +kernel))) rfl
theorem iw_18 : Cond.methodLink RX1 11 yX3_init ∈ lw_gd := tb_in (List.mem_append_right _ (List.mem_of_getElem? (i := 114) (by decide +kernel))) rfl
theorem iw_19 : Cond.instanceMethod yX3_init ∈ lw_gd := tb_in (List.mem_append_right _ (List.mem_of_getElem? (i := 27) (by decide +kernel))) rfl
theorem iw_20 : Cond.fieldLink RX1 14 "CountedTerms$Pad" "characters" "LCountedTerms$Row;" ∈ lw_gd := tb_in (List.mem_append_right _ (List.mem_of_getElem? (i := 115) (by decide +kernel))) rfl
theorem iw_21 : Cond.fieldLink RX1 20 "CountedTerms$Pad" "awaited" "LCountedTerms$Row;" ∈ lw_gd := tb_in (List.mem_append_right _ (List.mem_of_getElem? (i := 116) (by decide +kernel))) rfl
theorem iw_22 : Cond.constantLong RX1 23 (255 : Int64) ∈ lw_gd := tb_in (List.mem_append_right _ (List.mem_of_getElem? (i := 429) (by decide +kernel))) rfl
theorem iw_23 : Cond.constantLong RX1 25 (33 : Int64) ∈ lw_gd := tb_in (List.mem_append_right _ (List.mem_of_getElem? (i := 430) (by decide +kernel))) rfl
theorem iw_24 : Cond.constantLong RX1 27 (126 : Int64) ∈ lw_gd := tb_in (List.mem_append_right _ (List.mem_of_getElem? (i := 431) (by decide +kernel))) rfl
theorem iw_25 : Cond.fieldLink RX1 29 "CountedTerms$Pad" "length" "I" ∈ lw_gd := tb_in (List.mem_append_right _ (List.mem_of_getElem? (i := 117) (by decide +kernel))) rfl
theorem iw_26 : Cond.methodLink RX1 33 yX3_set ∈ lw_gd := tb_in (List.mem_append_right _ (List.mem_of_getElem? (i := 164) (by decide +kernel))) rfl
theorem iw_27 : Cond.instanceMethod yX3_set ∈ lw_gd := tb_in (List.mem_append_right _ (List.mem_of_getElem? (i := 134) (by decide +kernel))) rfl
theorem iw_28 : Cond.selects RX3 yX3_set yX3_set ∈ lw_gd := tb_in (List.mem_append_right _ (List.mem_of_getElem? (i := 135) (by decide +kernel))) rfl
theorem iw_29 : Cond.methodLink RX1 37 yX3_get ∈ lw_gd := tb_in (List.mem_append_right _ (List.mem_of_getElem? (i := 165) (by decide +kernel))) rfl
theorem iw_30 : Cond.instanceMethod yX3_get ∈ lw_gd := tb_in (List.mem_append_right _ (List.mem_of_getElem? (i := 130) (by decide +kernel))) rfl
theorem iw_31 : Cond.selects RX3 yX3_get yX3_get ∈ lw_gd := tb_in (List.mem_append_right _ (List.mem_of_getElem? (i := 131) (by decide +kernel))) rfl
theorem iw_32 : Cond.methodLink RX1 41 yX1_kindOf ∈ lw_gd := tb_in (List.mem_append_right _ (List.mem_of_getElem? (i := 166) (by decide +kernel))) rfl
theorem iw_33 : Cond.static yX1_kindOf ∈ lw_gd := tb_in (List.mem_append_right _ (List.mem_of_getElem? (i := 167) (by decide +kernel))) rfl
theorem iw_34 : Cond.initialized RX1 ∈ lw_gd := tb_in (List.mem_append_right _ (List.mem_of_getElem? (i := 8) (by decide +kernel))) rfl
theorem iw_35 : Cond.methodLink RX1 44 yX4_clear ∈ lw_gd := tb_in (List.mem_append_right _ (List.mem_of_getElem? (i := 207) (by decide +kernel))) rfl
theorem iw_36 : Cond.instanceMethod yX4_clear ∈ lw_gd := tb_in (List.mem_append_right _ (List.mem_of_getElem? (i := 182) (by decide +kernel))) rfl
theorem iw_37 : Cond.selects RX4 yX4_clear yX4_clear ∈ lw_gd := tb_in (List.mem_append_right _ (List.mem_of_getElem? (i := 183) (by decide +kernel))) rfl
theorem iw_38 : Cond.methodLink RX1 49 yX4_append ∈ lw_gd := tb_in (List.mem_append_right _ (List.mem_of_getElem? (i := 208) (by decide +kernel))) rfl
theorem iw_39 : Cond.instanceMethod yX4_append ∈ lw_gd := tb_in (List.mem_append_right _ (List.mem_of_getElem? (i := 126) (by decide +kernel))) rfl
theorem iw_40 : Cond.selects RX4 yX4_append yX4_append ∈ lw_gd := tb_in (List.mem_append_right _ (List.mem_of_getElem? (i := 127) (by decide +kernel))) rfl
theorem iw_41 : Cond.methodLink RX2 3 Lib.objectInit ∈ lw_gd := tb_in (List.mem_append_right _ (List.mem_of_getElem? (i := 77) (by decide +kernel))) rfl
theorem iw_42 : Cond.fieldLink RX2 9 "CountedTerms$Rewriter" "shelf" "LCountedTerms$Shelf;" ∈ lw_gd := tb_in (List.mem_append_right _ (List.mem_of_getElem? (i := 78) (by decide +kernel))) rfl
theorem iw_43 : Cond.fieldLink RX2 15 "CountedTerms$Rewriter" "survey" "LCountedTerms$Survey;" ∈ lw_gd := tb_in (List.mem_append_right _ (List.mem_of_getElem? (i := 79) (by decide +kernel))) rfl
theorem iw_44 : Cond.fieldLink RX2 19 "CountedTerms$Rewriter" "steps" "I" ∈ lw_gd := tb_in (List.mem_append_right _ (List.mem_of_getElem? (i := 80) (by decide +kernel))) rfl
theorem iw_45 : Cond.methodLink RX2 26 yX4_length ∈ lw_gd := tb_in (List.mem_append_right _ (List.mem_of_getElem? (i := 296) (by decide +kernel))) rfl
theorem iw_46 : Cond.instanceMethod yX4_length ∈ lw_gd := tb_in (List.mem_append_right _ (List.mem_of_getElem? (i := 186) (by decide +kernel))) rfl
theorem iw_47 : Cond.selects RX4 yX4_length yX4_length ∈ lw_gd := tb_in (List.mem_append_right _ (List.mem_of_getElem? (i := 187) (by decide +kernel))) rfl
theorem iw_48 : Cond.fieldLink RX2 23 "CountedTerms$Rewriter" "greatest" "I" ∈ lw_gd := tb_in (List.mem_append_right _ (List.mem_of_getElem? (i := 81) (by decide +kernel))) rfl
theorem iw_49 : Cond.methodLink RX2 32 yX5_look ∈ lw_gd := tb_in (List.mem_append_right _ (List.mem_of_getElem? (i := 320) (by decide +kernel))) rfl
theorem iw_50 : Cond.instanceMethod yX5_look ∈ lw_gd := tb_in (List.mem_append_right _ (List.mem_of_getElem? (i := 223) (by decide +kernel))) rfl
theorem iw_51 : Cond.selects RX5 yX5_look yX5_look ∈ lw_gd := tb_in (List.mem_append_right _ (List.mem_of_getElem? (i := 224) (by decide +kernel))) rfl
theorem iw_52 : Cond.initialized RX5 ∈ lw_gd := tb_in (List.mem_append_right _ (List.mem_of_getElem? (i := 5) (by decide +kernel))) rfl
theorem iw_53 : Cond.methodLink RX2 38 yX5_next ∈ lw_gd := tb_in (List.mem_append_right _ (List.mem_of_getElem? (i := 321) (by decide +kernel))) rfl
theorem iw_54 : Cond.instanceMethod yX5_next ∈ lw_gd := tb_in (List.mem_append_right _ (List.mem_of_getElem? (i := 269) (by decide +kernel))) rfl
theorem iw_55 : Cond.selects RX5 yX5_next yX5_next ∈ lw_gd := tb_in (List.mem_append_right _ (List.mem_of_getElem? (i := 270) (by decide +kernel))) rfl
theorem iw_56 : Cond.methodLink RX2 41 yX2_lengthBehind ∈ lw_gd := tb_in (List.mem_append_right _ (List.mem_of_getElem? (i := 322) (by decide +kernel))) rfl
theorem iw_57 : Cond.instanceMethod yX2_lengthBehind ∈ lw_gd := tb_in (List.mem_append_right _ (List.mem_of_getElem? (i := 281) (by decide +kernel))) rfl
theorem iw_58 : Cond.selects RX2 yX2_lengthBehind yX2_lengthBehind ∈ lw_gd := tb_in (List.mem_append_right _ (List.mem_of_getElem? (i := 282) (by decide +kernel))) rfl
theorem iw_59 : Cond.initialized RX2 ∈ lw_gd := tb_in (List.mem_append_right _ (List.mem_of_getElem? (i := 6) (by decide +kernel))) rfl
theorem iw_60 : Cond.methodLink RX2 44 yX2_rewrite ∈ lw_gd := tb_in (List.mem_append_right _ (List.mem_of_getElem? (i := 323) (by decide +kernel))) rfl
theorem iw_61 : Cond.instanceMethod yX2_rewrite ∈ lw_gd := tb_in (List.mem_append_right _ (List.mem_of_getElem? (i := 298) (by decide +kernel))) rfl
theorem iw_62 : Cond.selects RX2 yX2_rewrite yX2_rewrite ∈ lw_gd := tb_in (List.mem_append_right _ (List.mem_of_getElem? (i := 299) (by decide +kernel))) rfl
theorem iw_63 : Cond.code Lib.Math.max.name Lib.Math.max.code 2 (some .int) ∈ lw_gd := tb_in (List.mem_append_right _ (List.mem_of_getElem? (i := 32) (by decide +kernel))) rfl
theorem iw_64 : Cond.methodLink RX2 47 Lib.Math.max.name ∈ lw_gd := tb_in (List.mem_append_right _ (List.mem_of_getElem? (i := 324) (by decide +kernel))) rfl
theorem iw_65 : Cond.static Lib.Math.max.name ∈ lw_gd := tb_in (List.mem_append_right _ (List.mem_of_getElem? (i := 31) (by decide +kernel))) rfl
theorem iw_66 : Cond.methodLink RX2 53 yX5_term ∈ lw_gd := tb_in (List.mem_append_right _ (List.mem_of_getElem? (i := 284) (by decide +kernel))) rfl
theorem iw_67 : Cond.instanceMethod yX5_term ∈ lw_gd := tb_in (List.mem_append_right _ (List.mem_of_getElem? (i := 285) (by decide +kernel))) rfl
theorem iw_68 : Cond.selects RX5 yX5_term yX5_term ∈ lw_gd := tb_in (List.mem_append_right _ (List.mem_of_getElem? (i := 286) (by decide +kernel))) rfl
theorem iw_69 : Cond.methodLink RX2 57 yX5_behind ∈ lw_gd := tb_in (List.mem_append_right _ (List.mem_of_getElem? (i := 288) (by decide +kernel))) rfl
theorem iw_70 : Cond.instanceMethod yX5_behind ∈ lw_gd := tb_in (List.mem_append_right _ (List.mem_of_getElem? (i := 236) (by decide +kernel))) rfl
theorem iw_71 : Cond.selects RX5 yX5_behind yX5_behind ∈ lw_gd := tb_in (List.mem_append_right _ (List.mem_of_getElem? (i := 237) (by decide +kernel))) rfl
theorem iw_72 : Cond.methodLink RX2 60 yX4_kind ∈ lw_gd := tb_in (List.mem_append_right _ (List.mem_of_getElem? (i := 289) (by decide +kernel))) rfl
theorem iw_73 : Cond.instanceMethod yX4_kind ∈ lw_gd := tb_in (List.mem_append_right _ (List.mem_of_getElem? (i := 232) (by decide +kernel))) rfl
theorem iw_74 : Cond.selects RX4 yX4_kind yX4_kind ∈ lw_gd := tb_in (List.mem_append_right _ (List.mem_of_getElem? (i := 233) (by decide +kernel))) rfl
theorem iw_75 : Cond.methodLink RX2 63 yX4_number ∈ lw_gd := tb_in (List.mem_append_right _ (List.mem_of_getElem? (i := 290) (by decide +kernel))) rfl
theorem iw_76 : Cond.instanceMethod yX4_number ∈ lw_gd := tb_in (List.mem_append_right _ (List.mem_of_getElem? (i := 256) (by decide +kernel))) rfl
theorem iw_77 : Cond.selects RX4 yX4_number yX4_number ∈ lw_gd := tb_in (List.mem_append_right _ (List.mem_of_getElem? (i := 257) (by decide +kernel))) rfl
theorem iw_78 : Cond.methodLink RX2 66 yX2_functionsWithin ∈ lw_gd := tb_in (List.mem_append_right _ (List.mem_of_getElem? (i := 291) (by decide +kernel))) rfl
theorem iw_79 : Cond.instanceMethod yX2_functionsWithin ∈ lw_gd := tb_in (List.mem_append_right _ (List.mem_of_getElem? (i := 293) (by decide +kernel))) rfl
theorem iw_80 : Cond.selects RX2 yX2_functionsWithin yX2_functionsWithin ∈ lw_gd := tb_in (List.mem_append_left _ (List.mem_of_getElem? (i := 6) (by decide +kernel))) rfl
theorem iw_81 : Cond.methodLink RX2 69 yX4_clear ∈ lw_gd := tb_in (List.mem_append_right _ (List.mem_of_getElem? (i := 301) (by decide +kernel))) rfl
theorem iw_82 : Cond.methodLink RX2 72 yX4_appendParts ∈ lw_gd := tb_in (List.mem_append_right _ (List.mem_of_getElem? (i := 302) (by decide +kernel))) rfl
theorem iw_83 : Cond.instanceMethod yX4_appendParts ∈ lw_gd := tb_in (List.mem_append_right _ (List.mem_of_getElem? (i := 190) (by decide +kernel))) rfl
theorem iw_84 : Cond.selects RX4 yX4_appendParts yX4_appendParts ∈ lw_gd := tb_in (List.mem_append_right _ (List.mem_of_getElem? (i := 191) (by decide +kernel))) rfl
theorem iw_85 : Cond.methodLink RX2 76 yX4_append ∈ lw_gd := tb_in (List.mem_append_right _ (List.mem_of_getElem? (i := 303) (by decide +kernel))) rfl
theorem iw_86 : Cond.methodLink RX2 80 yX2_draftArgument ∈ lw_gd := tb_in (List.mem_append_right _ (List.mem_of_getElem? (i := 304) (by decide +kernel))) rfl
theorem iw_87 : Cond.instanceMethod yX2_draftArgument ∈ lw_gd := tb_in (List.mem_append_right _ (List.mem_of_getElem? (i := 306) (by decide +kernel))) rfl
theorem iw_88 : Cond.selects RX2 yX2_draftArgument yX2_draftArgument ∈ lw_gd := tb_in (List.mem_append_left _ (List.mem_of_getElem? (i := 7) (by decide +kernel))) rfl
theorem iw_89 : Cond.methodLink RX2 84 yX4_duplicate ∈ lw_gd := tb_in (List.mem_append_right _ (List.mem_of_getElem? (i := 308) (by decide +kernel))) rfl
theorem iw_90 : Cond.instanceMethod yX4_duplicate ∈ lw_gd := tb_in (List.mem_append_right _ (List.mem_of_getElem? (i := 178) (by decide +kernel))) rfl
theorem iw_91 : Cond.selects RX4 yX4_duplicate yX4_duplicate ∈ lw_gd := tb_in (List.mem_append_right _ (List.mem_of_getElem? (i := 179) (by decide +kernel))) rfl
theorem iw_92 : Cond.methodLink RX2 87 yX5_around ∈ lw_gd := tb_in (List.mem_append_right _ (List.mem_of_getElem? (i := 295) (by decide +kernel))) rfl
theorem iw_93 : Cond.instanceMethod yX5_around ∈ lw_gd := tb_in (List.mem_append_right _ (List.mem_of_getElem? (i := 246) (by decide +kernel))) rfl
theorem iw_94 : Cond.selects RX5 yX5_around yX5_around ∈ lw_gd := tb_in (List.mem_append_right _ (List.mem_of_getElem? (i := 247) (by decide +kernel))) rfl
theorem iw_95 : Cond.methodLink RX3 1 Lib.objectInit ∈ lw_gd := tb_in (List.mem_append_right _ (List.mem_of_getElem? (i := 29) (by decide +kernel))) rfl
theorem iw_96 : Cond.methodLink RX3 7 Lib.Math.max.name ∈ lw_gd := tb_in (List.mem_append_right _ (List.mem_of_getElem? (i := 30) (by decide +kernel))) rfl
theorem iw_97 : Cond.arrayClass .int ∈ lw_gd := tb_in (List.mem_append_right _ (List.mem_of_getElem? (i := 37) (by decide +kernel))) rfl
theorem iw_98 : Cond.fieldLink RX3 13 "CountedTerms$Row" "numbers" "[I" ∈ lw_gd := tb_in (List.mem_append_right _ (List.mem_of_getElem? (i := 33) (by decide +kernel))) rfl
theorem iw_99 : Cond.methodLink RX3 19 arraycopyName ∈ lw_gd := tb_in (List.mem_append_right _ (List.mem_of_getElem? (i := 197) (by decide +kernel))) rfl
theorem iw_100 : Cond.native arraycopyName ∈ lw_gd := tb_in (List.mem_append_right _ (List.mem_of_getElem? (i := 199) (by decide +kernel))) rfl
theorem iw_101 : Cond.static arraycopyName ∈ lw_gd := tb_in (List.mem_append_right _ (List.mem_of_getElem? (i := 198) (by decide +kernel))) rfl
theorem iw_102 : Cond.initialized RJ10 ∈ lw_gd := tb_in (List.mem_append_right _ (List.mem_of_getElem? (i := 9) (by decide +kernel))) rfl
theorem iw_103 : Cond.methodLink RX4 3 Lib.objectInit ∈ lw_gd := tb_in (List.mem_append_right _ (List.mem_of_getElem? (i := 23) (by decide +kernel))) rfl
theorem iw_104 : Cond.classLink RX4 9 RX3 ∈ lw_gd := tb_in (List.mem_append_right _ (List.mem_of_getElem? (i := 24) (by decide +kernel))) rfl
theorem iw_105 : Cond.methodLink RX4 11 yX3_init ∈ lw_gd := tb_in (List.mem_append_right _ (List.mem_of_getElem? (i := 26) (by decide +kernel))) rfl
theorem iw_106 : Cond.fieldLink RX4 14 "CountedTerms$Shelf" "lengths" "LCountedTerms$Row;" ∈ lw_gd := tb_in (List.mem_append_right _ (List.mem_of_getElem? (i := 38) (by decide +kernel))) rfl
theorem iw_107 : Cond.fieldLink RX4 20 "CountedTerms$Shelf" "parts" "LCountedTerms$Row;" ∈ lw_gd := tb_in (List.mem_append_right _ (List.mem_of_getElem? (i := 39) (by decide +kernel))) rfl
theorem iw_108 : Cond.methodLink RX4 23 yX3_get ∈ lw_gd := tb_in (List.mem_append_right _ (List.mem_of_getElem? (i := 129) (by decide +kernel))) rfl
theorem iw_109 : Cond.methodLink RX4 27 yX3_set ∈ lw_gd := tb_in (List.mem_append_right _ (List.mem_of_getElem? (i := 133) (by decide +kernel))) rfl
theorem iw_110 : Cond.methodLink RX4 31 yX3_move ∈ lw_gd := tb_in (List.mem_append_right _ (List.mem_of_getElem? (i := 193) (by decide +kernel))) rfl
theorem iw_111 : Cond.instanceMethod yX3_move ∈ lw_gd := tb_in (List.mem_append_right _ (List.mem_of_getElem? (i := 194) (by decide +kernel))) rfl
theorem iw_112 : Cond.selects RX3 yX3_move yX3_move ∈ lw_gd := tb_in (List.mem_append_right _ (List.mem_of_getElem? (i := 195) (by decide +kernel))) rfl
theorem iw_113 : Cond.methodLink RX4 35 yX4_clear ∈ lw_gd := tb_in (List.mem_append_right _ (List.mem_of_getElem? (i := 181) (by decide +kernel))) rfl
theorem iw_114 : Cond.methodLink RX4 38 yX4_length ∈ lw_gd := tb_in (List.mem_append_right _ (List.mem_of_getElem? (i := 185) (by decide +kernel))) rfl
theorem iw_115 : Cond.methodLink RX4 41 yX4_appendParts ∈ lw_gd := tb_in (List.mem_append_right _ (List.mem_of_getElem? (i := 189) (by decide +kernel))) rfl
theorem iw_116 : Cond.methodLink RX4 45 yX4_duplicate ∈ lw_gd := tb_in (List.mem_append_right _ (List.mem_of_getElem? (i := 177) (by decide +kernel))) rfl
theorem iw_117 : Cond.methodLink RX4 48 yX4_kind ∈ lw_gd := tb_in (List.mem_append_right _ (List.mem_of_getElem? (i := 395) (by decide +kernel))) rfl
theorem iw_118 : Cond.methodLink RX4 52 yX4_number ∈ lw_gd := tb_in (List.mem_append_right _ (List.mem_of_getElem? (i := 409) (by decide +kernel))) rfl
theorem iw_119 : Cond.methodLink RX4 55 Lib.Math.max.name ∈ lw_gd := tb_in (List.mem_append_right _ (List.mem_of_getElem? (i := 410) (by decide +kernel))) rfl
theorem iw_120 : Cond.methodLink RX5 3 Lib.objectInit ∈ lw_gd := tb_in (List.mem_append_right _ (List.mem_of_getElem? (i := 50) (by decide +kernel))) rfl
theorem iw_121 : Cond.fieldLink RX5 9 "CountedTerms$Survey" "shelf" "LCountedTerms$Shelf;" ∈ lw_gd := tb_in (List.mem_append_right _ (List.mem_of_getElem? (i := 53) (by decide +kernel))) rfl
theorem iw_122 : Cond.classLink RX5 15 RX3 ∈ lw_gd := tb_in (List.mem_append_right _ (List.mem_of_getElem? (i := 51) (by decide +kernel))) rfl
theorem iw_123 : Cond.methodLink RX5 17 yX3_init ∈ lw_gd := tb_in (List.mem_append_right _ (List.mem_of_getElem? (i := 52) (by decide +kernel))) rfl
theorem iw_124 : Cond.fieldLink RX5 20 "CountedTerms$Survey" "behind" "LCountedTerms$Row;" ∈ lw_gd := tb_in (List.mem_append_right _ (List.mem_of_getElem? (i := 54) (by decide +kernel))) rfl
theorem iw_125 : Cond.fieldLink RX5 24 "CountedTerms$Survey" "around" "LCountedTerms$Row;" ∈ lw_gd := tb_in (List.mem_append_right _ (List.mem_of_getElem? (i := 55) (by decide +kernel))) rfl
theorem iw_126 : Cond.fieldLink RX5 27 "CountedTerms$Survey" "nearest" "LCountedTerms$Row;" ∈ lw_gd := tb_in (List.mem_append_right _ (List.mem_of_getElem? (i := 56) (by decide +kernel))) rfl
theorem iw_127 : Cond.fieldLink RX5 30 "CountedTerms$Survey" "term" "I" ∈ lw_gd := tb_in (List.mem_append_right _ (List.mem_of_getElem? (i := 57) (by decide +kernel))) rfl
theorem iw_128 : Cond.methodLink RX5 34 yX4_length ∈ lw_gd := tb_in (List.mem_append_right _ (List.mem_of_getElem? (i := 226) (by decide +kernel))) rfl
theorem iw_129 : Cond.fieldLink RX5 40 "CountedTerms$Survey" "length" "I" ∈ lw_gd := tb_in (List.mem_append_right _ (List.mem_of_getElem? (i := 58) (by decide +kernel))) rfl
theorem iw_130 : Cond.methodLink RX5 42 yX5_findEnds ∈ lw_gd := tb_in (List.mem_append_right _ (List.mem_of_getElem? (i := 227) (by decide +kernel))) rfl
theorem iw_131 : Cond.instanceMethod yX5_findEnds ∈ lw_gd := tb_in (List.mem_append_right _ (List.mem_of_getElem? (i := 229) (by decide +kernel))) rfl
theorem iw_132 : Cond.selects RX5 yX5_findEnds yX5_findEnds ∈ lw_gd := tb_in (List.mem_append_left _ (List.mem_of_getElem? (i := 1) (by decide +kernel))) rfl
theorem iw_133 : Cond.methodLink RX5 45 yX5_findSurroundings ∈ lw_gd := tb_in (List.mem_append_right _ (List.mem_of_getElem? (i := 241) (by decide +kernel))) rfl
theorem iw_134 : Cond.instanceMethod yX5_findSurroundings ∈ lw_gd := tb_in (List.mem_append_right _ (List.mem_of_getElem? (i := 243) (by decide +kernel))) rfl
theorem iw_135 : Cond.selects RX5 yX5_findSurroundings yX5_findSurroundings ∈ lw_gd := tb_in (List.mem_append_left _ (List.mem_of_getElem? (i := 2) (by decide +kernel))) rfl
theorem iw_136 : Cond.methodLink RX5 48 yX3_get ∈ lw_gd := tb_in (List.mem_append_right _ (List.mem_of_getElem? (i := 239) (by decide +kernel))) rfl
theorem iw_137 : Cond.methodLink RX5 51 yX4_kind ∈ lw_gd := tb_in (List.mem_append_right _ (List.mem_of_getElem? (i := 231) (by decide +kernel))) rfl
theorem iw_138 : Cond.methodLink RX5 55 yX4_number ∈ lw_gd := tb_in (List.mem_append_right _ (List.mem_of_getElem? (i := 371) (by decide +kernel))) rfl
theorem iw_139 : Cond.methodLink RX5 58 yX5_around ∈ lw_gd := tb_in (List.mem_append_right _ (List.mem_of_getElem? (i := 245) (by decide +kernel))) rfl
theorem iw_140 : Cond.methodLink RX5 60 Lib.Math.max.name ∈ lw_gd := tb_in (List.mem_append_right _ (List.mem_of_getElem? (i := 400) (by decide +kernel))) rfl
theorem iw_141 : Cond.methodLink RX5 65 yX5_isReducible ∈ lw_gd := tb_in (List.mem_append_right _ (List.mem_of_getElem? (i := 276) (by decide +kernel))) rfl
theorem iw_142 : Cond.instanceMethod yX5_isReducible ∈ lw_gd := tb_in (List.mem_append_right _ (List.mem_of_getElem? (i := 278) (by decide +kernel))) rfl
theorem iw_143 : Cond.selects RX5 yX5_isReducible yX5_isReducible ∈ lw_gd := tb_in (List.mem_append_left _ (List.mem_of_getElem? (i := 5) (by decide +kernel))) rfl
theorem iw_144 : Cond.methodLink RX5 69 yX5_firstInner ∈ lw_gd := tb_in (List.mem_append_right _ (List.mem_of_getElem? (i := 272) (by decide +kernel))) rfl
theorem iw_145 : Cond.instanceMethod yX5_firstInner ∈ lw_gd := tb_in (List.mem_append_right _ (List.mem_of_getElem? (i := 274) (by decide +kernel))) rfl
theorem iw_146 : Cond.selects RX5 yX5_firstInner yX5_firstInner ∈ lw_gd := tb_in (List.mem_append_left _ (List.mem_of_getElem? (i := 4) (by decide +kernel))) rfl
theorem iw_147 : Cond.methodLink RX5 73 yX5_sign ∈ lw_gd := tb_in (List.mem_append_right _ (List.mem_of_getElem? (i := 380) (by decide +kernel))) rfl
theorem iw_148 : Cond.instanceMethod yX5_sign ∈ lw_gd := tb_in (List.mem_append_right _ (List.mem_of_getElem? (i := 382) (by decide +kernel))) rfl
theorem iw_149 : Cond.selects RX5 yX5_sign yX5_sign ∈ lw_gd := tb_in (List.mem_append_left _ (List.mem_of_getElem? (i := 8) (by decide +kernel))) rfl
theorem iw_150 : Cond.methodLink RX5 76 yX5_letter ∈ lw_gd := tb_in (List.mem_append_right _ (List.mem_of_getElem? (i := 384) (by decide +kernel))) rfl
theorem iw_151 : Cond.static yX5_letter ∈ lw_gd := tb_in (List.mem_append_right _ (List.mem_of_getElem? (i := 385) (by decide +kernel))) rfl
theorem iw_152 : Cond.methodLink RX5 79 yX5_behind ∈ lw_gd := tb_in (List.mem_append_right _ (List.mem_of_getElem? (i := 235) (by decide +kernel))) rfl
theorem iw_153 : Cond.methodLink RX5 81 yX3_set ∈ lw_gd := tb_in (List.mem_append_right _ (List.mem_of_getElem? (i := 240) (by decide +kernel))) rfl
theorem iw_154 : Cond.methodLink RX5 85 yX5_surroundAs ∈ lw_gd := tb_in (List.mem_append_right _ (List.mem_of_getElem? (i := 249) (by decide +kernel))) rfl
theorem iw_155 : Cond.instanceMethod yX5_surroundAs ∈ lw_gd := tb_in (List.mem_append_right _ (List.mem_of_getElem? (i := 251) (by decide +kernel))) rfl
theorem iw_156 : Cond.selects RX5 yX5_surroundAs yX5_surroundAs ∈ lw_gd := tb_in (List.mem_append_left _ (List.mem_of_getElem? (i := 3) (by decide +kernel))) rfl
theorem iw_157 : Cond.methodLink RX6 3 Lib.objectInit ∈ lw_gd := tb_in (List.mem_append_right _ (List.mem_of_getElem? (i := 15) (by decide +kernel))) rfl
theorem iw_158 : Cond.classLink RX6 9 RX4 ∈ lw_gd := tb_in (List.mem_append_right _ (List.mem_of_getElem? (i := 18) (by decide +kernel))) rfl
theorem iw_159 : Cond.instantiable RX4 2 ∈ lw_gd := tb_in (List.mem_append_right _ (List.mem_of_getElem? (i := 19) (by decide +kernel))) rfl
theorem iw_160 : Cond.methodLink RX6 11 yX4_init ∈ lw_gd := tb_in (List.mem_append_right _ (List.mem_of_getElem? (i := 20) (by decide +kernel))) rfl
theorem iw_161 : Cond.instanceMethod yX4_init ∈ lw_gd := tb_in (List.mem_append_right _ (List.mem_of_getElem? (i := 21) (by decide +kernel))) rfl
theorem iw_162 : Cond.fieldLink RX6 12 "CountedTerms" "shelf" "LCountedTerms$Shelf;" ∈ lw_gd := tb_in (List.mem_append_right _ (List.mem_of_getElem? (i := 137) (by decide +kernel))) rfl
theorem iw_163 : Cond.classLink RX6 16 RX5 ∈ lw_gd := tb_in (List.mem_append_right _ (List.mem_of_getElem? (i := 45) (by decide +kernel))) rfl
theorem iw_164 : Cond.instantiable RX5 6 ∈ lw_gd := tb_in (List.mem_append_right _ (List.mem_of_getElem? (i := 46) (by decide +kernel))) rfl
theorem iw_165 : Cond.methodLink RX6 18 yX5_init ∈ lw_gd := tb_in (List.mem_append_right _ (List.mem_of_getElem? (i := 47) (by decide +kernel))) rfl
theorem iw_166 : Cond.instanceMethod yX5_init ∈ lw_gd := tb_in (List.mem_append_right _ (List.mem_of_getElem? (i := 48) (by decide +kernel))) rfl
theorem iw_167 : Cond.fieldLink RX6 21 "CountedTerms" "survey" "LCountedTerms$Survey;" ∈ lw_gd := tb_in (List.mem_append_right _ (List.mem_of_getElem? (i := 138) (by decide +kernel))) rfl
theorem iw_168 : Cond.classLink RX6 25 RX2 ∈ lw_gd := tb_in (List.mem_append_right _ (List.mem_of_getElem? (i := 72) (by decide +kernel))) rfl
theorem iw_169 : Cond.instantiable RX2 4 ∈ lw_gd := tb_in (List.mem_append_right _ (List.mem_of_getElem? (i := 73) (by decide +kernel))) rfl
theorem iw_170 : Cond.methodLink RX6 27 yX2_init ∈ lw_gd := tb_in (List.mem_append_right _ (List.mem_of_getElem? (i := 74) (by decide +kernel))) rfl
theorem iw_171 : Cond.instanceMethod yX2_init ∈ lw_gd := tb_in (List.mem_append_right _ (List.mem_of_getElem? (i := 75) (by decide +kernel))) rfl
theorem iw_172 : Cond.fieldLink RX6 30 "CountedTerms" "rewriter" "LCountedTerms$Rewriter;" ∈ lw_gd := tb_in (List.mem_append_right _ (List.mem_of_getElem? (i := 139) (by decide +kernel))) rfl
theorem iw_173 : Cond.classLink RX6 34 RX0 ∈ lw_gd := tb_in (List.mem_append_right _ (List.mem_of_getElem? (i := 91) (by decide +kernel))) rfl
theorem iw_174 : Cond.instantiable RX0 3 ∈ lw_gd := tb_in (List.mem_append_right _ (List.mem_of_getElem? (i := 92) (by decide +kernel))) rfl
theorem iw_175 : Cond.initialized RX0 ∈ lw_gd := tb_in (List.mem_append_right _ (List.mem_of_getElem? (i := 7) (by decide +kernel))) rfl
theorem iw_176 : Cond.methodLink RX6 36 yX0_init ∈ lw_gd := tb_in (List.mem_append_right _ (List.mem_of_getElem? (i := 93) (by decide +kernel))) rfl
theorem iw_177 : Cond.instanceMethod yX0_init ∈ lw_gd := tb_in (List.mem_append_right _ (List.mem_of_getElem? (i := 94) (by decide +kernel))) rfl
theorem iw_178 : Cond.fieldLink RX6 37 "CountedTerms" "history" "LCountedTerms$History;" ∈ lw_gd := tb_in (List.mem_append_right _ (List.mem_of_getElem? (i := 140) (by decide +kernel))) rfl
theorem iw_179 : Cond.classLink RX6 41 RX1 ∈ lw_gd := tb_in (List.mem_append_right _ (List.mem_of_getElem? (i := 107) (by decide +kernel))) rfl
theorem iw_180 : Cond.instantiable RX1 3 ∈ lw_gd := tb_in (List.mem_append_right _ (List.mem_of_getElem? (i := 108) (by decide +kernel))) rfl
theorem iw_181 : Cond.methodLink RX6 43 yX1_init ∈ lw_gd := tb_in (List.mem_append_right _ (List.mem_of_getElem? (i := 109) (by decide +kernel))) rfl
theorem iw_182 : Cond.instanceMethod yX1_init ∈ lw_gd := tb_in (List.mem_append_right _ (List.mem_of_getElem? (i := 110) (by decide +kernel))) rfl
theorem iw_183 : Cond.fieldLink RX6 44 "CountedTerms" "pad" "LCountedTerms$Pad;" ∈ lw_gd := tb_in (List.mem_append_right _ (List.mem_of_getElem? (i := 141) (by decide +kernel))) rfl
theorem iw_184 : Cond.methodLink RX6 48 yX4_append ∈ lw_gd := tb_in (List.mem_append_right _ (List.mem_of_getElem? (i := 125) (by decide +kernel))) rfl
theorem iw_185 : Cond.methodLink RX6 52 yX6_isRegister ∈ lw_gd := tb_in (List.mem_append_right _ (List.mem_of_getElem? (i := 157) (by decide +kernel))) rfl
theorem iw_186 : Cond.static yX6_isRegister ∈ lw_gd := tb_in (List.mem_append_right _ (List.mem_of_getElem? (i := 158) (by decide +kernel))) rfl
theorem iw_187 : Cond.initialized RX6 ∈ lw_gd := tb_in (List.mem_append_right _ (List.mem_of_getElem? (i := 1) (by decide +kernel))) rfl
theorem iw_188 : Cond.methodLink RX6 56 yX1_firstWrong ∈ lw_gd := tb_in (List.mem_append_right _ (List.mem_of_getElem? (i := 160) (by decide +kernel))) rfl
theorem iw_189 : Cond.instanceMethod yX1_firstWrong ∈ lw_gd := tb_in (List.mem_append_right _ (List.mem_of_getElem? (i := 161) (by decide +kernel))) rfl
theorem iw_190 : Cond.selects RX1 yX1_firstWrong yX1_firstWrong ∈ lw_gd := tb_in (List.mem_append_right _ (List.mem_of_getElem? (i := 162) (by decide +kernel))) rfl
theorem iw_191 : Cond.methodLink RX6 60 yX0_keepState ∈ lw_gd := tb_in (List.mem_append_right _ (List.mem_of_getElem? (i := 169) (by decide +kernel))) rfl
theorem iw_192 : Cond.instanceMethod yX0_keepState ∈ lw_gd := tb_in (List.mem_append_right _ (List.mem_of_getElem? (i := 170) (by decide +kernel))) rfl
theorem iw_193 : Cond.selects RX0 yX0_keepState yX0_keepState ∈ lw_gd := tb_in (List.mem_append_right _ (List.mem_of_getElem? (i := 171) (by decide +kernel))) rfl
theorem iw_194 : Cond.methodLink RX6 63 yX1_writeTo ∈ lw_gd := tb_in (List.mem_append_right _ (List.mem_of_getElem? (i := 203) (by decide +kernel))) rfl
theorem iw_195 : Cond.instanceMethod yX1_writeTo ∈ lw_gd := tb_in (List.mem_append_right _ (List.mem_of_getElem? (i := 204) (by decide +kernel))) rfl
theorem iw_196 : Cond.selects RX1 yX1_writeTo yX1_writeTo ∈ lw_gd := tb_in (List.mem_append_right _ (List.mem_of_getElem? (i := 205) (by decide +kernel))) rfl
theorem iw_197 : Cond.methodLink RX6 67 yX1_empty ∈ lw_gd := tb_in (List.mem_append_right _ (List.mem_of_getElem? (i := 209) (by decide +kernel))) rfl
theorem iw_198 : Cond.instanceMethod yX1_empty ∈ lw_gd := tb_in (List.mem_append_right _ (List.mem_of_getElem? (i := 210) (by decide +kernel))) rfl
theorem iw_199 : Cond.selects RX1 yX1_empty yX1_empty ∈ lw_gd := tb_in (List.mem_append_right _ (List.mem_of_getElem? (i := 211) (by decide +kernel))) rfl
theorem iw_200 : Cond.methodLink RX6 70 yX4_length ∈ lw_gd := tb_in (List.mem_append_right _ (List.mem_of_getElem? (i := 213) (by decide +kernel))) rfl
theorem iw_201 : Cond.methodLink RX6 86 yX6_draftFunction ∈ lw_gd := tb_in (List.mem_append_right _ (List.mem_of_getElem? (i := 218) (by decide +kernel))) rfl
theorem iw_202 : Cond.instanceMethod yX6_draftFunction ∈ lw_gd := tb_in (List.mem_append_right _ (List.mem_of_getElem? (i := 220) (by decide +kernel))) rfl
theorem iw_203 : Cond.selects RX6 yX6_draftFunction yX6_draftFunction ∈ lw_gd := tb_in (List.mem_append_left _ (List.mem_of_getElem? (i := 0) (by decide +kernel))) rfl
theorem iw_204 : Cond.methodLink RX6 74 yX4_duplicate ∈ lw_gd := tb_in (List.mem_append_right _ (List.mem_of_getElem? (i := 260) (by decide +kernel))) rfl
theorem iw_205 : Cond.methodLink RX6 90 yX6_isOrder ∈ lw_gd := tb_in (List.mem_append_right _ (List.mem_of_getElem? (i := 265) (by decide +kernel))) rfl
theorem iw_206 : Cond.static yX6_isOrder ∈ lw_gd := tb_in (List.mem_append_right _ (List.mem_of_getElem? (i := 266) (by decide +kernel))) rfl
theorem iw_207 : Cond.methodLink RX6 93 yX5_look ∈ lw_gd := tb_in (List.mem_append_right _ (List.mem_of_getElem? (i := 222) (by decide +kernel))) rfl
theorem iw_208 : Cond.methodLink RX6 96 yX5_next ∈ lw_gd := tb_in (List.mem_append_right _ (List.mem_of_getElem? (i := 268) (by decide +kernel))) rfl
theorem iw_209 : Cond.methodLink RX6 99 yX2_lengthBehind ∈ lw_gd := tb_in (List.mem_append_right _ (List.mem_of_getElem? (i := 280) (by decide +kernel))) rfl
theorem iw_210 : Cond.methodLink RX6 102 yX2_rewrite ∈ lw_gd := tb_in (List.mem_append_right _ (List.mem_of_getElem? (i := 297) (by decide +kernel))) rfl
theorem iw_211 : Cond.methodLink RX6 115 yX4_partsOfKind ∈ lw_gd := tb_in (List.mem_append_right _ (List.mem_of_getElem? (i := 391) (by decide +kernel))) rfl
theorem iw_212 : Cond.instanceMethod yX4_partsOfKind ∈ lw_gd := tb_in (List.mem_append_right _ (List.mem_of_getElem? (i := 392) (by decide +kernel))) rfl
theorem iw_213 : Cond.selects RX4 yX4_partsOfKind yX4_partsOfKind ∈ lw_gd := tb_in (List.mem_append_right _ (List.mem_of_getElem? (i := 393) (by decide +kernel))) rfl
theorem iw_214 : Cond.methodLink RX6 118 yX5_mostAround ∈ lw_gd := tb_in (List.mem_append_right _ (List.mem_of_getElem? (i := 396) (by decide +kernel))) rfl
theorem iw_215 : Cond.instanceMethod yX5_mostAround ∈ lw_gd := tb_in (List.mem_append_right _ (List.mem_of_getElem? (i := 397) (by decide +kernel))) rfl
theorem iw_216 : Cond.selects RX5 yX5_mostAround yX5_mostAround ∈ lw_gd := tb_in (List.mem_append_right _ (List.mem_of_getElem? (i := 398) (by decide +kernel))) rfl
theorem iw_217 : Cond.methodLink RX6 121 yX5_reduciblePlaces ∈ lw_gd := tb_in (List.mem_append_right _ (List.mem_of_getElem? (i := 401) (by decide +kernel))) rfl
theorem iw_218 : Cond.instanceMethod yX5_reduciblePlaces ∈ lw_gd := tb_in (List.mem_append_right _ (List.mem_of_getElem? (i := 402) (by decide +kernel))) rfl
theorem iw_219 : Cond.selects RX5 yX5_reduciblePlaces yX5_reduciblePlaces ∈ lw_gd := tb_in (List.mem_append_right _ (List.mem_of_getElem? (i := 403) (by decide +kernel))) rfl
theorem iw_220 : Cond.methodLink RX6 124 yX4_greatestVariable ∈ lw_gd := tb_in (List.mem_append_right _ (List.mem_of_getElem? (i := 405) (by decide +kernel))) rfl
theorem iw_221 : Cond.instanceMethod yX4_greatestVariable ∈ lw_gd := tb_in (List.mem_append_right _ (List.mem_of_getElem? (i := 406) (by decide +kernel))) rfl
theorem iw_222 : Cond.selects RX4 yX4_greatestVariable yX4_greatestVariable ∈ lw_gd := tb_in (List.mem_append_right _ (List.mem_of_getElem? (i := 407) (by decide +kernel))) rfl
theorem iw_223 : Cond.methodLink RX6 127 yX4_kind ∈ lw_gd := tb_in (List.mem_append_right _ (List.mem_of_getElem? (i := 254) (by decide +kernel))) rfl
theorem iw_224 : Cond.methodLink RX6 130 yX4_number ∈ lw_gd := tb_in (List.mem_append_right _ (List.mem_of_getElem? (i := 255) (by decide +kernel))) rfl
theorem iw_225 : Cond.methodLink RX6 133 yX5_around ∈ lw_gd := tb_in (List.mem_append_right _ (List.mem_of_getElem? (i := 259) (by decide +kernel))) rfl
theorem iw_226 : Cond.methodLink RX6 136 yX5_behind ∈ lw_gd := tb_in (List.mem_append_right _ (List.mem_of_getElem? (i := 366) (by decide +kernel))) rfl
theorem iw_227 : Cond.methodLink RX6 139 yX5_binder ∈ lw_gd := tb_in (List.mem_append_right _ (List.mem_of_getElem? (i := 367) (by decide +kernel))) rfl
theorem iw_228 : Cond.instanceMethod yX5_binder ∈ lw_gd := tb_in (List.mem_append_right _ (List.mem_of_getElem? (i := 368) (by decide +kernel))) rfl
theorem iw_229 : Cond.selects RX5 yX5_binder yX5_binder ∈ lw_gd := tb_in (List.mem_append_right _ (List.mem_of_getElem? (i := 369) (by decide +kernel))) rfl
theorem iw_230 : Cond.methodLink RX6 142 yX5_printed ∈ lw_gd := tb_in (List.mem_append_right _ (List.mem_of_getElem? (i := 376) (by decide +kernel))) rfl
theorem iw_231 : Cond.instanceMethod yX5_printed ∈ lw_gd := tb_in (List.mem_append_right _ (List.mem_of_getElem? (i := 377) (by decide +kernel))) rfl
theorem iw_232 : Cond.selects RX5 yX5_printed yX5_printed ∈ lw_gd := tb_in (List.mem_append_right _ (List.mem_of_getElem? (i := 378) (by decide +kernel))) rfl
theorem iw_233 : Cond.methodLink RX6 105 yX6_isFuel ∈ lw_gd := tb_in (List.mem_append_right _ (List.mem_of_getElem? (i := 313) (by decide +kernel))) rfl
theorem iw_234 : Cond.static yX6_isFuel ∈ lw_gd := tb_in (List.mem_append_right _ (List.mem_of_getElem? (i := 314) (by decide +kernel))) rfl
theorem iw_235 : Cond.methodLink RX6 108 yX2_doSteps ∈ lw_gd := tb_in (List.mem_append_right _ (List.mem_of_getElem? (i := 316) (by decide +kernel))) rfl
theorem iw_236 : Cond.instanceMethod yX2_doSteps ∈ lw_gd := tb_in (List.mem_append_right _ (List.mem_of_getElem? (i := 317) (by decide +kernel))) rfl
theorem iw_237 : Cond.selects RX2 yX2_doSteps yX2_doSteps ∈ lw_gd := tb_in (List.mem_append_right _ (List.mem_of_getElem? (i := 318) (by decide +kernel))) rfl
theorem iw_238 : Cond.methodLink RX6 112 yX2_stepsDone ∈ lw_gd := tb_in (List.mem_append_right _ (List.mem_of_getElem? (i := 325) (by decide +kernel))) rfl
theorem iw_239 : Cond.instanceMethod yX2_stepsDone ∈ lw_gd := tb_in (List.mem_append_right _ (List.mem_of_getElem? (i := 326) (by decide +kernel))) rfl
theorem iw_240 : Cond.selects RX2 yX2_stepsDone yX2_stepsDone ∈ lw_gd := tb_in (List.mem_append_right _ (List.mem_of_getElem? (i := 327) (by decide +kernel))) rfl
theorem iw_241 : Cond.methodLink RX6 161 yX1_charactersIn ∈ lw_gd := tb_in (List.mem_append_right _ (List.mem_of_getElem? (i := 426) (by decide +kernel))) rfl
theorem iw_242 : Cond.static yX1_charactersIn ∈ lw_gd := tb_in (List.mem_append_right _ (List.mem_of_getElem? (i := 427) (by decide +kernel))) rfl
theorem iw_243 : Cond.methodLink RX6 155 yX1_length ∈ lw_gd := tb_in (List.mem_append_right _ (List.mem_of_getElem? (i := 418) (by decide +kernel))) rfl
theorem iw_244 : Cond.instanceMethod yX1_length ∈ lw_gd := tb_in (List.mem_append_right _ (List.mem_of_getElem? (i := 419) (by decide +kernel))) rfl
theorem iw_245 : Cond.selects RX1 yX1_length yX1_length ∈ lw_gd := tb_in (List.mem_append_right _ (List.mem_of_getElem? (i := 420) (by decide +kernel))) rfl
theorem iw_246 : Cond.methodLink RX6 165 yX1_append ∈ lw_gd := tb_in (List.mem_append_right _ (List.mem_of_getElem? (i := 432) (by decide +kernel))) rfl
theorem iw_247 : Cond.instanceMethod yX1_append ∈ lw_gd := tb_in (List.mem_append_right _ (List.mem_of_getElem? (i := 433) (by decide +kernel))) rfl
theorem iw_248 : Cond.selects RX1 yX1_append yX1_append ∈ lw_gd := tb_in (List.mem_append_right _ (List.mem_of_getElem? (i := 434) (by decide +kernel))) rfl
theorem iw_249 : Cond.methodLink RX6 78 yX4_clear ∈ lw_gd := tb_in (List.mem_append_right _ (List.mem_of_getElem? (i := 253) (by decide +kernel))) rfl
theorem iw_250 : Cond.constant RL 7 (729683299 : Int32) ∈ lw_gd := tb_in (List.mem_append_right _ (List.mem_of_getElem? (i := 332) (by decide +kernel))) rfl
theorem iw_251 : Cond.constant RL 8 (1016749425 : Int32) ∈ lw_gd := tb_in (List.mem_append_right _ (List.mem_of_getElem? (i := 333) (by decide +kernel))) rfl
theorem iw_252 : Cond.constant RL 9 (2147483647 : Int32) ∈ lw_gd := tb_in (List.mem_append_right _ (List.mem_of_getElem? (i := 337) (by decide +kernel))) rfl
theorem iw_253 : Cond.methodLink RL 10 yL_end ∈ lw_gd := tb_in (List.mem_append_right _ (List.mem_of_getElem? (i := 344) (by decide +kernel))) rfl
theorem iw_254 : Cond.static yL_end ∈ lw_gd := tb_in (List.mem_append_right _ (List.mem_of_getElem? (i := 345) (by decide +kernel))) rfl
theorem iw_255 : Cond.initialized RL ∈ lw_gd := tb_in (List.mem_append_right _ (List.mem_of_getElem? (i := 0) (by decide +kernel))) rfl
theorem iw_256 : Cond.methodLink RL 16 yL_scan ∈ lw_gd := tb_in (List.mem_append_right _ (List.mem_of_getElem? (i := 338) (by decide +kernel))) rfl
theorem iw_257 : Cond.static yL_scan ∈ lw_gd := tb_in (List.mem_append_right _ (List.mem_of_getElem? (i := 339) (by decide +kernel))) rfl
theorem iw_258 : Cond.methodLink RL 20 yL_deep ∈ lw_gd := tb_in (List.mem_append_right _ (List.mem_of_getElem? (i := 356) (by decide +kernel))) rfl
theorem iw_259 : Cond.static yL_deep ∈ lw_gd := tb_in (List.mem_append_right _ (List.mem_of_getElem? (i := 357) (by decide +kernel))) rfl
theorem iw_260 : Cond.methodLink RL 23 yL_count ∈ lw_gd := tb_in (List.mem_append_right _ (List.mem_of_getElem? (i := 359) (by decide +kernel))) rfl
theorem iw_261 : Cond.static yL_count ∈ lw_gd := tb_in (List.mem_append_right _ (List.mem_of_getElem? (i := 360) (by decide +kernel))) rfl
theorem iw_262 : Cond.methodLink RL 27 yX6_part ∈ lw_gd := tb_in (List.mem_append_right _ (List.mem_of_getElem? (i := 362) (by decide +kernel))) rfl
theorem iw_263 : Cond.instanceMethod yX6_part ∈ lw_gd := tb_in (List.mem_append_right _ (List.mem_of_getElem? (i := 363) (by decide +kernel))) rfl
theorem iw_264 : Cond.selects RX6 yX6_part yX6_part ∈ lw_gd := tb_in (List.mem_append_right _ (List.mem_of_getElem? (i := 364) (by decide +kernel))) rfl
theorem iw_265 : Cond.methodLink RL 33 yX6_named ∈ lw_gd := tb_in (List.mem_append_right _ (List.mem_of_getElem? (i := 372) (by decide +kernel))) rfl
theorem iw_266 : Cond.instanceMethod yX6_named ∈ lw_gd := tb_in (List.mem_append_right _ (List.mem_of_getElem? (i := 373) (by decide +kernel))) rfl
theorem iw_267 : Cond.selects RX6 yX6_named yX6_named ∈ lw_gd := tb_in (List.mem_append_right _ (List.mem_of_getElem? (i := 374) (by decide +kernel))) rfl
theorem iw_268 : Cond.methodLink RL 37 yX6_of ∈ lw_gd := tb_in (List.mem_append_right _ (List.mem_of_getElem? (i := 387) (by decide +kernel))) rfl
theorem iw_269 : Cond.instanceMethod yX6_of ∈ lw_gd := tb_in (List.mem_append_right _ (List.mem_of_getElem? (i := 388) (by decide +kernel))) rfl
theorem iw_270 : Cond.selects RX6 yX6_of yX6_of ∈ lw_gd := tb_in (List.mem_append_right _ (List.mem_of_getElem? (i := 389) (by decide +kernel))) rfl
theorem iw_271 : Cond.methodLink RL 40 yL_next ∈ lw_gd := tb_in (List.mem_append_right _ (List.mem_of_getElem? (i := 341) (by decide +kernel))) rfl
theorem iw_272 : Cond.static yL_next ∈ lw_gd := tb_in (List.mem_append_right _ (List.mem_of_getElem? (i := 342) (by decide +kernel))) rfl
theorem iw_273 : Cond.methodLink RL 44 yX6_wipe ∈ lw_gd := tb_in (List.mem_append_right _ (List.mem_of_getElem? (i := 414) (by decide +kernel))) rfl
theorem iw_274 : Cond.instanceMethod yX6_wipe ∈ lw_gd := tb_in (List.mem_append_right _ (List.mem_of_getElem? (i := 415) (by decide +kernel))) rfl
theorem iw_275 : Cond.selects RX6 yX6_wipe yX6_wipe ∈ lw_gd := tb_in (List.mem_append_right _ (List.mem_of_getElem? (i := 416) (by decide +kernel))) rfl
theorem iw_276 : Cond.methodLink RL 48 yL_low ∈ lw_gd := tb_in (List.mem_append_right _ (List.mem_of_getElem? (i := 334) (by decide +kernel))) rfl
theorem iw_277 : Cond.static yL_low ∈ lw_gd := tb_in (List.mem_append_right _ (List.mem_of_getElem? (i := 335) (by decide +kernel))) rfl
theorem iw_278 : Cond.methodLink RL 51 yX6_put ∈ lw_gd := tb_in (List.mem_append_right _ (List.mem_of_getElem? (i := 422) (by decide +kernel))) rfl
theorem iw_279 : Cond.instanceMethod yX6_put ∈ lw_gd := tb_in (List.mem_append_right _ (List.mem_of_getElem? (i := 423) (by decide +kernel))) rfl
theorem iw_280 : Cond.selects RX6 yX6_put yX6_put ∈ lw_gd := tb_in (List.mem_append_right _ (List.mem_of_getElem? (i := 424) (by decide +kernel))) rfl
theorem iw_281 : Cond.constantLong RL 55 (76 : Int64) ∈ lw_gd := tb_in (List.mem_append_right _ (List.mem_of_getElem? (i := 436) (by decide +kernel))) rfl
theorem iw_282 : Cond.constantLong RL 57 (64 : Int64) ∈ lw_gd := tb_in (List.mem_append_right _ (List.mem_of_getElem? (i := 437) (by decide +kernel))) rfl
theorem iw_283 : Cond.methodLink RL 59 yX6_fault ∈ lw_gd := tb_in (List.mem_append_right _ (List.mem_of_getElem? (i := 438) (by decide +kernel))) rfl
theorem iw_284 : Cond.instanceMethod yX6_fault ∈ lw_gd := tb_in (List.mem_append_right _ (List.mem_of_getElem? (i := 439) (by decide +kernel))) rfl
theorem iw_285 : Cond.selects RX6 yX6_fault yX6_fault ∈ lw_gd := tb_in (List.mem_append_right _ (List.mem_of_getElem? (i := 440) (by decide +kernel))) rfl
theorem iw_286 : Cond.classLink RL 28 RX6 ∈ lw_gd := tb_in (List.mem_append_right _ (List.mem_of_getElem? (i := 10) (by decide +kernel))) rfl
theorem iw_287 : Cond.instantiable RX6 5 ∈ lw_gd := tb_in (List.mem_append_right _ (List.mem_of_getElem? (i := 11) (by decide +kernel))) rfl
theorem iw_288 : Cond.methodLink RL 62 yX6_init ∈ lw_gd := tb_in (List.mem_append_right _ (List.mem_of_getElem? (i := 12) (by decide +kernel))) rfl
theorem iw_289 : Cond.instanceMethod yX6_init ∈ lw_gd := tb_in (List.mem_append_right _ (List.mem_of_getElem? (i := 13) (by decide +kernel))) rfl
theorem iw_290 : Cond.methodLink RL 63 yL_cell ∈ lw_gd := tb_in (List.mem_append_right _ (List.mem_of_getElem? (i := 329) (by decide +kernel))) rfl
theorem iw_291 : Cond.static yL_cell ∈ lw_gd := tb_in (List.mem_append_right _ (List.mem_of_getElem? (i := 330) (by decide +kernel))) rfl
theorem iw_292 : Cond.methodLink RL 66 yL_types ∈ lw_gd := tb_in (List.mem_append_right _ (List.mem_of_getElem? (i := 411) (by decide +kernel))) rfl
theorem iw_293 : Cond.static yL_types ∈ lw_gd := tb_in (List.mem_append_right _ (List.mem_of_getElem? (i := 412) (by decide +kernel))) rfl
theorem iw_294 : Cond.methodLink RL 70 yX6_read ∈ lw_gd := tb_in (List.mem_append_right _ (List.mem_of_getElem? (i := 153) (by decide +kernel))) rfl
theorem iw_295 : Cond.instanceMethod yX6_read ∈ lw_gd := tb_in (List.mem_append_right _ (List.mem_of_getElem? (i := 154) (by decide +kernel))) rfl
theorem iw_296 : Cond.selects RX6 yX6_read yX6_read ∈ lw_gd := tb_in (List.mem_append_right _ (List.mem_of_getElem? (i := 155) (by decide +kernel))) rfl
theorem iw_297 : Cond.methodLink RL 74 yL_same ∈ lw_gd := tb_in (List.mem_append_right _ (List.mem_of_getElem? (i := 353) (by decide +kernel))) rfl
theorem iw_298 : Cond.static yL_same ∈ lw_gd := tb_in (List.mem_append_right _ (List.mem_of_getElem? (i := 354) (by decide +kernel))) rfl
theorem iw_299 : Cond.methodLink RL 78 yX6_ends ∈ lw_gd := tb_in (List.mem_append_right _ (List.mem_of_getElem? (i := 309) (by decide +kernel))) rfl
theorem iw_300 : Cond.instanceMethod yX6_ends ∈ lw_gd := tb_in (List.mem_append_right _ (List.mem_of_getElem? (i := 310) (by decide +kernel))) rfl
theorem iw_301 : Cond.selects RX6 yX6_ends yX6_ends ∈ lw_gd := tb_in (List.mem_append_right _ (List.mem_of_getElem? (i := 311) (by decide +kernel))) rfl
theorem iw_302 : Cond.methodLink RL 81 yX6_step ∈ lw_gd := tb_in (List.mem_append_right _ (List.mem_of_getElem? (i := 261) (by decide +kernel))) rfl
theorem iw_303 : Cond.instanceMethod yX6_step ∈ lw_gd := tb_in (List.mem_append_right _ (List.mem_of_getElem? (i := 262) (by decide +kernel))) rfl
theorem iw_304 : Cond.selects RX6 yX6_step yX6_step ∈ lw_gd := tb_in (List.mem_append_right _ (List.mem_of_getElem? (i := 263) (by decide +kernel))) rfl
theorem iw_305 : Cond.methodLink RL 84 yL_size ∈ lw_gd := tb_in (List.mem_append_right _ (List.mem_of_getElem? (i := 347) (by decide +kernel))) rfl
theorem iw_306 : Cond.static yL_size ∈ lw_gd := tb_in (List.mem_append_right _ (List.mem_of_getElem? (i := 348) (by decide +kernel))) rfl
theorem iw_307 : Cond.methodLink RL 87 yL_rewrite ∈ lw_gd := tb_in (List.mem_append_right _ (List.mem_of_getElem? (i := 350) (by decide +kernel))) rfl
theorem iw_308 : Cond.static yL_rewrite ∈ lw_gd := tb_in (List.mem_append_right _ (List.mem_of_getElem? (i := 351) (by decide +kernel))) rfl
theorem iw_309 : Cond.methodLink RL 91 yX6_bind ∈ lw_gd := tb_in (List.mem_append_right _ (List.mem_of_getElem? (i := 214) (by decide +kernel))) rfl
theorem iw_310 : Cond.instanceMethod yX6_bind ∈ lw_gd := tb_in (List.mem_append_right _ (List.mem_of_getElem? (i := 215) (by decide +kernel))) rfl
theorem iw_311 : Cond.selects RX6 yX6_bind yX6_bind ∈ lw_gd := tb_in (List.mem_append_right _ (List.mem_of_getElem? (i := 216) (by decide +kernel))) rfl
theorem iw_312 : Cond.code yX0_init cX0_init 2 none ∈ lw_gd := tb_in (List.mem_append_right _ (List.mem_of_getElem? (i := 95) (by decide +kernel))) rfl
theorem iw_313 : Cond.code yX0_keepState cX0_keepState 1 none ∈ lw_gd := tb_in (List.mem_append_right _ (List.mem_of_getElem? (i := 172) (by decide +kernel))) rfl
theorem iw_314 : Cond.code yX1_init cX1_init 1 none ∈ lw_gd := tb_in (List.mem_append_right _ (List.mem_of_getElem? (i := 111) (by decide +kernel))) rfl
theorem iw_315 : Cond.code yX1_charactersIn cX1_charactersIn 7 (some .int) ∈ lw_gd := tb_in (List.mem_append_right _ (List.mem_of_getElem? (i := 428) (by decide +kernel))) rfl
theorem iw_316 : Cond.code yX1_length cX1_length 1 (some .int) ∈ lw_gd := tb_in (List.mem_append_right _ (List.mem_of_getElem? (i := 421) (by decide +kernel))) rfl
theorem iw_317 : Cond.code yX1_empty cX1_empty 1 none ∈ lw_gd := tb_in (List.mem_append_right _ (List.mem_of_getElem? (i := 212) (by decide +kernel))) rfl
theorem iw_318 : Cond.code yX1_append cX1_append 5 none ∈ lw_gd := tb_in (List.mem_append_right _ (List.mem_of_getElem? (i := 435) (by decide +kernel))) rfl
theorem iw_319 : Cond.code yX1_firstWrong cX1_firstWrong 6 (some .int) ∈ lw_gd := tb_in (List.mem_append_right _ (List.mem_of_getElem? (i := 163) (by decide +kernel))) rfl
theorem iw_320 : Cond.code yX1_writeTo cX1_writeTo 7 none ∈ lw_gd := tb_in (List.mem_append_right _ (List.mem_of_getElem? (i := 206) (by decide +kernel))) rfl
theorem iw_321 : Cond.code yX1_kindOf cX1_kindOf 1 (some .int) ∈ lw_gd := tb_in (List.mem_append_right _ (List.mem_of_getElem? (i := 168) (by decide +kernel))) rfl
theorem iw_322 : Cond.code yX2_init cX2_init 3 none ∈ lw_gd := tb_in (List.mem_append_right _ (List.mem_of_getElem? (i := 76) (by decide +kernel))) rfl
theorem iw_323 : Cond.code yX2_stepsDone cX2_stepsDone 1 (some .int) ∈ lw_gd := tb_in (List.mem_append_right _ (List.mem_of_getElem? (i := 328) (by decide +kernel))) rfl
theorem iw_324 : Cond.code yX2_doSteps cX2_doSteps 6 (some .boolean) ∈ lw_gd := tb_in (List.mem_append_right _ (List.mem_of_getElem? (i := 319) (by decide +kernel))) rfl
theorem iw_325 : Cond.code yX2_lengthBehind cX2_lengthBehind 7 (some .int) ∈ lw_gd := tb_in (List.mem_append_right _ (List.mem_of_getElem? (i := 283) (by decide +kernel))) rfl
theorem iw_326 : Cond.code yX2_rewrite cX2_rewrite 8 none ∈ lw_gd := tb_in (List.mem_append_right _ (List.mem_of_getElem? (i := 300) (by decide +kernel))) rfl
theorem iw_327 : Cond.code yX2_draftArgument cX2_draftArgument 9 none ∈ lw_gd := tb_in (List.mem_append_right _ (List.mem_of_getElem? (i := 307) (by decide +kernel))) rfl
theorem iw_328 : Cond.code yX2_functionsWithin cX2_functionsWithin 3 (some .int) ∈ lw_gd := tb_in (List.mem_append_right _ (List.mem_of_getElem? (i := 294) (by decide +kernel))) rfl
theorem iw_329 : Cond.code yX3_init cX3_init 2 none ∈ lw_gd := tb_in (List.mem_append_right _ (List.mem_of_getElem? (i := 28) (by decide +kernel))) rfl
theorem iw_330 : Cond.code yX3_get cX3_get 2 (some .int) ∈ lw_gd := tb_in (List.mem_append_right _ (List.mem_of_getElem? (i := 132) (by decide +kernel))) rfl
theorem iw_331 : Cond.code yX3_set cX3_set 3 none ∈ lw_gd := tb_in (List.mem_append_right _ (List.mem_of_getElem? (i := 136) (by decide +kernel))) rfl
theorem iw_332 : Cond.code yX3_move cX3_move 5 none ∈ lw_gd := tb_in (List.mem_append_right _ (List.mem_of_getElem? (i := 196) (by decide +kernel))) rfl
theorem iw_333 : Cond.code yX4_init cX4_init 1 none ∈ lw_gd := tb_in (List.mem_append_right _ (List.mem_of_getElem? (i := 22) (by decide +kernel))) rfl
theorem iw_334 : Cond.code yX4_length cX4_length 2 (some .int) ∈ lw_gd := tb_in (List.mem_append_right _ (List.mem_of_getElem? (i := 188) (by decide +kernel))) rfl
theorem iw_335 : Cond.code yX4_kind cX4_kind 3 (some .int) ∈ lw_gd := tb_in (List.mem_append_right _ (List.mem_of_getElem? (i := 234) (by decide +kernel))) rfl
theorem iw_336 : Cond.code yX4_number cX4_number 3 (some .int) ∈ lw_gd := tb_in (List.mem_append_right _ (List.mem_of_getElem? (i := 258) (by decide +kernel))) rfl
theorem iw_337 : Cond.code yX4_clear cX4_clear 2 none ∈ lw_gd := tb_in (List.mem_append_right _ (List.mem_of_getElem? (i := 184) (by decide +kernel))) rfl
theorem iw_338 : Cond.code yX4_append cX4_append 5 none ∈ lw_gd := tb_in (List.mem_append_right _ (List.mem_of_getElem? (i := 128) (by decide +kernel))) rfl
theorem iw_339 : Cond.code yX4_appendParts cX4_appendParts 7 none ∈ lw_gd := tb_in (List.mem_append_right _ (List.mem_of_getElem? (i := 192) (by decide +kernel))) rfl
theorem iw_340 : Cond.code yX4_duplicate cX4_duplicate 3 none ∈ lw_gd := tb_in (List.mem_append_right _ (List.mem_of_getElem? (i := 180) (by decide +kernel))) rfl
theorem iw_341 : Cond.code yX4_duplicateState cX4_duplicateState 4 none ∈ lw_gd := tb_in (List.mem_append_right _ (List.mem_of_getElem? (i := 176) (by decide +kernel))) rfl
theorem iw_342 : Cond.code yX4_partsOfKind cX4_partsOfKind 5 (some .int) ∈ lw_gd := tb_in (List.mem_append_right _ (List.mem_of_getElem? (i := 394) (by decide +kernel))) rfl
theorem iw_343 : Cond.code yX4_greatestVariable cX4_greatestVariable 4 (some .int) ∈ lw_gd := tb_in (List.mem_append_right _ (List.mem_of_getElem? (i := 408) (by decide +kernel))) rfl
theorem iw_344 : Cond.code yX5_init cX5_init 2 none ∈ lw_gd := tb_in (List.mem_append_right _ (List.mem_of_getElem? (i := 49) (by decide +kernel))) rfl
theorem iw_345 : Cond.code yX5_look cX5_look 2 none ∈ lw_gd := tb_in (List.mem_append_right _ (List.mem_of_getElem? (i := 225) (by decide +kernel))) rfl
theorem iw_346 : Cond.code yX5_term cX5_term 1 (some .int) ∈ lw_gd := tb_in (List.mem_append_right _ (List.mem_of_getElem? (i := 287) (by decide +kernel))) rfl
theorem iw_347 : Cond.code yX5_behind cX5_behind 2 (some .int) ∈ lw_gd := tb_in (List.mem_append_right _ (List.mem_of_getElem? (i := 238) (by decide +kernel))) rfl
theorem iw_348 : Cond.code yX5_around cX5_around 2 (some .int) ∈ lw_gd := tb_in (List.mem_append_right _ (List.mem_of_getElem? (i := 248) (by decide +kernel))) rfl
theorem iw_349 : Cond.code yX5_binder cX5_binder 5 (some .int) ∈ lw_gd := tb_in (List.mem_append_right _ (List.mem_of_getElem? (i := 370) (by decide +kernel))) rfl
theorem iw_350 : Cond.code yX5_mostAround cX5_mostAround 3 (some .int) ∈ lw_gd := tb_in (List.mem_append_right _ (List.mem_of_getElem? (i := 399) (by decide +kernel))) rfl
theorem iw_351 : Cond.code yX5_reduciblePlaces cX5_reduciblePlaces 3 (some .int) ∈ lw_gd := tb_in (List.mem_append_right _ (List.mem_of_getElem? (i := 404) (by decide +kernel))) rfl
theorem iw_352 : Cond.code yX5_next cX5_next 3 (some .int) ∈ lw_gd := tb_in (List.mem_append_right _ (List.mem_of_getElem? (i := 271) (by decide +kernel))) rfl
theorem iw_353 : Cond.code yX5_printed cX5_printed 4 (some .int) ∈ lw_gd := tb_in (List.mem_append_right _ (List.mem_of_getElem? (i := 379) (by decide +kernel))) rfl
theorem iw_354 : Cond.code yX5_findEnds cX5_findEnds 4 none ∈ lw_gd := tb_in (List.mem_append_right _ (List.mem_of_getElem? (i := 230) (by decide +kernel))) rfl
theorem iw_355 : Cond.code yX5_findSurroundings cX5_findSurroundings 3 none ∈ lw_gd := tb_in (List.mem_append_right _ (List.mem_of_getElem? (i := 244) (by decide +kernel))) rfl
theorem iw_356 : Cond.code yX5_surroundAs cX5_surroundAs 3 none ∈ lw_gd := tb_in (List.mem_append_right _ (List.mem_of_getElem? (i := 252) (by decide +kernel))) rfl
theorem iw_357 : Cond.code yX5_isReducible cX5_isReducible 2 (some .boolean) ∈ lw_gd := tb_in (List.mem_append_right _ (List.mem_of_getElem? (i := 279) (by decide +kernel))) rfl
theorem iw_358 : Cond.code yX5_firstInner cX5_firstInner 3 (some .int) ∈ lw_gd := tb_in (List.mem_append_right _ (List.mem_of_getElem? (i := 275) (by decide +kernel))) rfl
theorem iw_359 : Cond.code yX5_sign cX5_sign 3 (some .int) ∈ lw_gd := tb_in (List.mem_append_right _ (List.mem_of_getElem? (i := 383) (by decide +kernel))) rfl
theorem iw_360 : Cond.code yX5_letter cX5_letter 1 (some .int) ∈ lw_gd := tb_in (List.mem_append_right _ (List.mem_of_getElem? (i := 386) (by decide +kernel))) rfl
theorem iw_361 : Cond.code yX6_init cX6_init 2 none ∈ lw_gd := tb_in (List.mem_append_right _ (List.mem_of_getElem? (i := 14) (by decide +kernel))) rfl
theorem iw_362 : Cond.code yX6_read cX6_read 2 (some .int) ∈ lw_gd := tb_in (List.mem_append_right _ (List.mem_of_getElem? (i := 156) (by decide +kernel))) rfl
theorem iw_363 : Cond.code yX6_bind cX6_bind 5 (some .int) ∈ lw_gd := tb_in (List.mem_append_right _ (List.mem_of_getElem? (i := 217) (by decide +kernel))) rfl
theorem iw_364 : Cond.code yX6_step cX6_step 4 (some .int) ∈ lw_gd := tb_in (List.mem_append_right _ (List.mem_of_getElem? (i := 264) (by decide +kernel))) rfl
theorem iw_365 : Cond.code yX6_of cX6_of 3 (some .int) ∈ lw_gd := tb_in (List.mem_append_right _ (List.mem_of_getElem? (i := 390) (by decide +kernel))) rfl
theorem iw_366 : Cond.code yX6_part cX6_part 4 (some .int) ∈ lw_gd := tb_in (List.mem_append_right _ (List.mem_of_getElem? (i := 365) (by decide +kernel))) rfl
theorem iw_367 : Cond.code yX6_named cX6_named 3 (some .int) ∈ lw_gd := tb_in (List.mem_append_right _ (List.mem_of_getElem? (i := 375) (by decide +kernel))) rfl
theorem iw_368 : Cond.code yX6_ends cX6_ends 4 (some .int) ∈ lw_gd := tb_in (List.mem_append_right _ (List.mem_of_getElem? (i := 312) (by decide +kernel))) rfl
theorem iw_369 : Cond.code yX6_put cX6_put 4 (some .int) ∈ lw_gd := tb_in (List.mem_append_right _ (List.mem_of_getElem? (i := 425) (by decide +kernel))) rfl
theorem iw_370 : Cond.code yX6_wipe cX6_wipe 2 (some .int) ∈ lw_gd := tb_in (List.mem_append_right _ (List.mem_of_getElem? (i := 417) (by decide +kernel))) rfl
theorem iw_371 : Cond.code yX6_fault cX6_fault 1 (some .int) ∈ lw_gd := tb_in (List.mem_append_right _ (List.mem_of_getElem? (i := 441) (by decide +kernel))) rfl
theorem iw_372 : Cond.code yX6_isRegister cX6_isRegister 1 (some .boolean) ∈ lw_gd := tb_in (List.mem_append_right _ (List.mem_of_getElem? (i := 159) (by decide +kernel))) rfl
theorem iw_373 : Cond.code yX6_isOrder cX6_isOrder 1 (some .boolean) ∈ lw_gd := tb_in (List.mem_append_right _ (List.mem_of_getElem? (i := 267) (by decide +kernel))) rfl
theorem iw_374 : Cond.code yX6_isFuel cX6_isFuel 1 (some .boolean) ∈ lw_gd := tb_in (List.mem_append_right _ (List.mem_of_getElem? (i := 315) (by decide +kernel))) rfl
theorem iw_375 : Cond.code yX6_draftFunction cX6_draftFunction 8 (some .int) ∈ lw_gd := tb_in (List.mem_append_right _ (List.mem_of_getElem? (i := 221) (by decide +kernel))) rfl
theorem iw_376 : Cond.code yL_cell cL_cell 2 (some .int) ∈ lw_gd := tb_in (List.mem_append_right _ (List.mem_of_getElem? (i := 331) (by decide +kernel))) rfl
theorem iw_377 : Cond.code yL_low cL_low 2 (some .int) ∈ lw_gd := tb_in (List.mem_append_right _ (List.mem_of_getElem? (i := 336) (by decide +kernel))) rfl
theorem iw_378 : Cond.code yL_scan cL_scan 6 none ∈ lw_gd := tb_in (List.mem_append_right _ (List.mem_of_getElem? (i := 340) (by decide +kernel))) rfl
theorem iw_379 : Cond.code yL_end cL_end 4 (some .int) ∈ lw_gd := tb_in (List.mem_append_right _ (List.mem_of_getElem? (i := 346) (by decide +kernel))) rfl
theorem iw_380 : Cond.code yL_deep cL_deep 4 (some .int) ∈ lw_gd := tb_in (List.mem_append_right _ (List.mem_of_getElem? (i := 358) (by decide +kernel))) rfl
theorem iw_381 : Cond.code yL_count cL_count 5 (some .int) ∈ lw_gd := tb_in (List.mem_append_right _ (List.mem_of_getElem? (i := 361) (by decide +kernel))) rfl
theorem iw_382 : Cond.code yL_next cL_next 7 (some .int) ∈ lw_gd := tb_in (List.mem_append_right _ (List.mem_of_getElem? (i := 343) (by decide +kernel))) rfl
theorem iw_383 : Cond.code yL_size cL_size 8 (some .int) ∈ lw_gd := tb_in (List.mem_append_right _ (List.mem_of_getElem? (i := 349) (by decide +kernel))) rfl
theorem iw_384 : Cond.code yL_rewrite cL_rewrite 13 none ∈ lw_gd := tb_in (List.mem_append_right _ (List.mem_of_getElem? (i := 352) (by decide +kernel))) rfl
theorem iw_385 : Cond.code yL_same cL_same 16 (some .boolean) ∈ lw_gd := tb_in (List.mem_append_right _ (List.mem_of_getElem? (i := 355) (by decide +kernel))) rfl
theorem iw_386 : Cond.code yL_types cL_types 16 (some .boolean) ∈ lw_gd := tb_in (List.mem_append_right _ (List.mem_of_getElem? (i := 413) (by decide +kernel))) rfl
theorem tb_gd : m_gd := trivial
theorem inGX0 : ∀ w ∈ wsX00, w ∈ lw_gd := fun w h => tb_in (inX0 w h) (List.all_eq_true.mp (by decide +kernel : (wsX00).all goodWord = true) w h)
theorem inGX1 : ∀ w ∈ wsX10, w ∈ lw_gd := fun w h => tb_in (inX1 w h) (List.all_eq_true.mp (by decide +kernel : (wsX10).all goodWord = true) w h)
theorem inGX2 : ∀ w ∈ wsX20, w ∈ lw_gd := fun w h => tb_in (inX2 w h) (List.all_eq_true.mp (by decide +kernel : (wsX20).all goodWord = true) w h)
theorem inGX3 : ∀ w ∈ wsX30, w ∈ lw_gd := fun w h => tb_in (inX3 w h) (List.all_eq_true.mp (by decide +kernel : (wsX30).all goodWord = true) w h)
theorem inGX4 : ∀ w ∈ wsX40, w ∈ lw_gd := fun w h => tb_in (inX4 w h) (List.all_eq_true.mp (by decide +kernel : (wsX40).all goodWord = true) w h)
theorem inGX5 : ∀ w ∈ wsX50, w ∈ lw_gd := fun w h => tb_in (inX5 w h) (List.all_eq_true.mp (by decide +kernel : (wsX50).all goodWord = true) w h)
theorem inGX6 : ∀ w ∈ wsX60, w ∈ lw_gd := fun w h => tb_in (inX6 w h) (List.all_eq_true.mp (by decide +kernel : (wsX60).all goodWord = true) w h)
theorem inGX7 : ∀ w ∈ wsX70, w ∈ lw_gd := fun w h => tb_in (inX7 w h) (List.all_eq_true.mp (by decide +kernel : (wsX70).all goodWord = true) w h)
theorem st_0 : m_st 0 1 := ⟨⟨by decide +kernel, by decide +kernel, by decide +kernel⟩, by decide +kernel, iw_312⟩
theorem st_1 : m_st 1 0 := ⟨⟨by decide +kernel, by decide +kernel, by decide +kernel⟩, by decide +kernel, iw_313⟩
theorem st_2 : m_st 2 0 := ⟨⟨by decide +kernel, by decide +kernel, by decide +kernel⟩, by decide +kernel, iw_314⟩
theorem st_3 : m_st 3 1 := ⟨⟨by decide +kernel, by decide +kernel, by decide +kernel⟩, by decide +kernel, iw_315⟩
theorem st_4 : m_st 4 0 := ⟨⟨by decide +kernel, by decide +kernel, by decide +kernel⟩, by decide +kernel, iw_316⟩
theorem st_5 : m_st 5 0 := ⟨⟨by decide +kernel, by decide +kernel, by decide +kernel⟩, by decide +kernel, iw_317⟩
theorem st_6 : m_st 6 2 := ⟨⟨by decide +kernel, by decide +kernel, by decide +kernel⟩, by decide +kernel, iw_318⟩
theorem st_7 : m_st 7 0 := ⟨⟨by decide +kernel, by decide +kernel, by decide +kernel⟩, by decide +kernel, iw_319⟩
theorem st_8 : m_st 8 2 := ⟨⟨by decide +kernel, by decide +kernel, by decide +kernel⟩, by decide +kernel, iw_320⟩
theorem st_9 : m_st 9 1 := ⟨⟨by decide +kernel, by decide +kernel, by decide +kernel⟩, by decide +kernel, iw_321⟩
theorem st_10 : m_st 10 2 := ⟨⟨by decide +kernel, by decide +kernel, by decide +kernel⟩, by decide +kernel, iw_322⟩
theorem st_11 : m_st 11 0 := ⟨⟨by decide +kernel, by decide +kernel, by decide +kernel⟩, by decide +kernel, iw_323⟩
theorem st_12 : m_st 12 3 := ⟨⟨by decide +kernel, by decide +kernel, by decide +kernel⟩, by decide +kernel, iw_324⟩
theorem st_13 : m_st 13 1 := ⟨⟨by decide +kernel, by decide +kernel, by decide +kernel⟩, by decide +kernel, iw_325⟩
theorem st_14 : m_st 14 1 := ⟨⟨by decide +kernel, by decide +kernel, by decide +kernel⟩, by decide +kernel, iw_326⟩
theorem st_15 : m_st 15 2 := ⟨⟨by decide +kernel, by decide +kernel, by decide +kernel⟩, by decide +kernel, iw_327⟩
theorem st_16 : m_st 16 2 := ⟨⟨by decide +kernel, by decide +kernel, by decide +kernel⟩, by decide +kernel, iw_328⟩
theorem st_17 : m_st 17 1 := ⟨⟨by decide +kernel, by decide +kernel, by decide +kernel⟩, by decide +kernel, iw_329⟩
theorem st_18 : m_st 18 1 := ⟨⟨by decide +kernel, by decide +kernel, by decide +kernel⟩, by decide +kernel, iw_330⟩
theorem st_19 : m_st 19 2 := ⟨⟨by decide +kernel, by decide +kernel, by decide +kernel⟩, by decide +kernel, iw_331⟩
theorem st_20 : m_st 20 3 := ⟨⟨by decide +kernel, by decide +kernel, by decide +kernel⟩, by decide +kernel, iw_332⟩
theorem st_21 : m_st 21 0 := ⟨⟨by decide +kernel, by decide +kernel, by decide +kernel⟩, by decide +kernel, iw_333⟩
theorem st_22 : m_st 22 1 := ⟨⟨by decide +kernel, by decide +kernel, by decide +kernel⟩, by decide +kernel, iw_334⟩
theorem st_23 : m_st 23 2 := ⟨⟨by decide +kernel, by decide +kernel, by decide +kernel⟩, by decide +kernel, iw_335⟩
theorem st_24 : m_st 24 2 := ⟨⟨by decide +kernel, by decide +kernel, by decide +kernel⟩, by decide +kernel, iw_336⟩
theorem st_25 : m_st 25 1 := ⟨⟨by decide +kernel, by decide +kernel, by decide +kernel⟩, by decide +kernel, iw_337⟩
theorem st_26 : m_st 26 3 := ⟨⟨by decide +kernel, by decide +kernel, by decide +kernel⟩, by decide +kernel, iw_338⟩
theorem st_27 : m_st 27 4 := ⟨⟨by decide +kernel, by decide +kernel, by decide +kernel⟩, by decide +kernel, iw_339⟩
theorem st_28 : m_st 28 2 := ⟨⟨by decide +kernel, by decide +kernel, by decide +kernel⟩, by decide +kernel, iw_340⟩
theorem st_29 : m_st 29 2 := ⟨⟨by decide +kernel, by decide +kernel, by decide +kernel⟩, by decide +kernel, iw_341⟩
theorem st_30 : m_st 30 2 := ⟨⟨by decide +kernel, by decide +kernel, by decide +kernel⟩, by decide +kernel, iw_342⟩
theorem st_31 : m_st 31 1 := ⟨⟨by decide +kernel, by decide +kernel, by decide +kernel⟩, by decide +kernel, iw_343⟩
theorem st_32 : m_st 32 1 := ⟨⟨by decide +kernel, by decide +kernel, by decide +kernel⟩, by decide +kernel, iw_344⟩
theorem st_33 : m_st 33 1 := ⟨⟨by decide +kernel, by decide +kernel, by decide +kernel⟩, by decide +kernel, iw_345⟩
theorem st_34 : m_st 34 0 := ⟨⟨by decide +kernel, by decide +kernel, by decide +kernel⟩, by decide +kernel, iw_346⟩
theorem st_35 : m_st 35 1 := ⟨⟨by decide +kernel, by decide +kernel, by decide +kernel⟩, by decide +kernel, iw_347⟩
theorem st_36 : m_st 36 1 := ⟨⟨by decide +kernel, by decide +kernel, by decide +kernel⟩, by decide +kernel, iw_348⟩
theorem st_37 : m_st 37 1 := ⟨⟨by decide +kernel, by decide +kernel, by decide +kernel⟩, by decide +kernel, iw_349⟩
theorem st_38 : m_st 38 0 := ⟨⟨by decide +kernel, by decide +kernel, by decide +kernel⟩, by decide +kernel, iw_350⟩
theorem st_39 : m_st 39 0 := ⟨⟨by decide +kernel, by decide +kernel, by decide +kernel⟩, by decide +kernel, iw_351⟩
theorem st_40 : m_st 40 1 := ⟨⟨by decide +kernel, by decide +kernel, by decide +kernel⟩, by decide +kernel, iw_352⟩
theorem st_41 : m_st 41 1 := ⟨⟨by decide +kernel, by decide +kernel, by decide +kernel⟩, by decide +kernel, iw_353⟩
theorem st_42 : m_st 42 0 := ⟨⟨by decide +kernel, by decide +kernel, by decide +kernel⟩, by decide +kernel, iw_354⟩
theorem st_43 : m_st 43 0 := ⟨⟨by decide +kernel, by decide +kernel, by decide +kernel⟩, by decide +kernel, iw_355⟩
theorem st_44 : m_st 44 2 := ⟨⟨by decide +kernel, by decide +kernel, by decide +kernel⟩, by decide +kernel, iw_356⟩
theorem st_45 : m_st 45 1 := ⟨⟨by decide +kernel, by decide +kernel, by decide +kernel⟩, by decide +kernel, iw_357⟩
theorem st_46 : m_st 46 0 := ⟨⟨by decide +kernel, by decide +kernel, by decide +kernel⟩, by decide +kernel, iw_358⟩
theorem st_47 : m_st 47 1 := ⟨⟨by decide +kernel, by decide +kernel, by decide +kernel⟩, by decide +kernel, iw_359⟩
theorem st_48 : m_st 48 1 := ⟨⟨by decide +kernel, by decide +kernel, by decide +kernel⟩, by decide +kernel, iw_360⟩
theorem st_49 : m_st 49 0 := ⟨⟨by decide +kernel, by decide +kernel, by decide +kernel⟩, by decide +kernel, iw_361⟩
theorem st_50 : m_st 50 1 := ⟨⟨by decide +kernel, by decide +kernel, by decide +kernel⟩, by decide +kernel, iw_362⟩
theorem st_51 : m_st 51 3 := ⟨⟨by decide +kernel, by decide +kernel, by decide +kernel⟩, by decide +kernel, iw_363⟩
theorem st_52 : m_st 52 2 := ⟨⟨by decide +kernel, by decide +kernel, by decide +kernel⟩, by decide +kernel, iw_364⟩
theorem st_53 : m_st 53 2 := ⟨⟨by decide +kernel, by decide +kernel, by decide +kernel⟩, by decide +kernel, iw_365⟩
theorem st_54 : m_st 54 3 := ⟨⟨by decide +kernel, by decide +kernel, by decide +kernel⟩, by decide +kernel, iw_366⟩
theorem st_55 : m_st 55 2 := ⟨⟨by decide +kernel, by decide +kernel, by decide +kernel⟩, by decide +kernel, iw_367⟩
theorem st_56 : m_st 56 3 := ⟨⟨by decide +kernel, by decide +kernel, by decide +kernel⟩, by decide +kernel, iw_368⟩
theorem st_57 : m_st 57 1 := ⟨⟨by decide +kernel, by decide +kernel, by decide +kernel⟩, by decide +kernel, iw_369⟩
theorem st_58 : m_st 58 0 := ⟨⟨by decide +kernel, by decide +kernel, by decide +kernel⟩, by decide +kernel, iw_370⟩
theorem st_59 : m_st 59 0 := ⟨⟨by decide +kernel, by decide +kernel, by decide +kernel⟩, by decide +kernel, iw_371⟩
theorem st_60 : m_st 60 1 := ⟨⟨by decide +kernel, by decide +kernel, by decide +kernel⟩, by decide +kernel, iw_372⟩
theorem st_61 : m_st 61 1 := ⟨⟨by decide +kernel, by decide +kernel, by decide +kernel⟩, by decide +kernel, iw_373⟩
theorem st_62 : m_st 62 1 := ⟨⟨by decide +kernel, by decide +kernel, by decide +kernel⟩, by decide +kernel, iw_374⟩
theorem st_63 : m_st 63 2 := ⟨⟨by decide +kernel, by decide +kernel, by decide +kernel⟩, by decide +kernel, iw_375⟩
theorem st_64 : m_st 64 2 := ⟨⟨by decide +kernel, by decide +kernel, by decide +kernel⟩, by decide +kernel, iw_376⟩
theorem st_65 : m_st 65 2 := ⟨⟨by decide +kernel, by decide +kernel, by decide +kernel⟩, by decide +kernel, iw_377⟩
theorem st_66 : m_st 66 4 := ⟨⟨by decide +kernel, by decide +kernel, by decide +kernel⟩, by decide +kernel, iw_378⟩
theorem st_67 : m_st 67 2 := ⟨⟨by decide +kernel, by decide +kernel, by decide +kernel⟩, by decide +kernel, iw_379⟩
theorem st_68 : m_st 68 2 := ⟨⟨by decide +kernel, by decide +kernel, by decide +kernel⟩, by decide +kernel, iw_380⟩
theorem st_69 : m_st 69 3 := ⟨⟨by decide +kernel, by decide +kernel, by decide +kernel⟩, by decide +kernel, iw_381⟩
theorem st_70 : m_st 70 4 := ⟨⟨by decide +kernel, by decide +kernel, by decide +kernel⟩, by decide +kernel, iw_382⟩
theorem st_71 : m_st 71 4 := ⟨⟨by decide +kernel, by decide +kernel, by decide +kernel⟩, by decide +kernel, iw_383⟩
theorem st_72 : m_st 72 8 := ⟨⟨by decide +kernel, by decide +kernel, by decide +kernel⟩, by decide +kernel, iw_384⟩
theorem st_73 : m_st 73 7 := ⟨⟨by decide +kernel, by decide +kernel, by decide +kernel⟩, by decide +kernel, iw_385⟩
theorem st_74 : m_st 74 8 := ⟨⟨by decide +kernel, by decide +kernel, by decide +kernel⟩, by decide +kernel, iw_386⟩
def q_pl (v : Value) : Bool := match v with
  | .int _ => true
  | .null => true
  | _ => false
theorem q_pl_ok {fs : List Value} (h : fs.all q_pl = true) : ∀ v ∈ fs, ∀ n, m_ok n v := fun v hv n => by
  have h1 := List.all_eq_true.mp h v hv
  cases v <;> first | trivial | cases h1
theorem q_pl_cv {fs : List Value} (h : fs.all q_pl = true) : ∀ b ad, fs.map (m_cv b ad) = fs := fun b ad => by
  have h2 : fs.map (m_cv b ad) = fs.map id := List.map_congr_left fun v hv => by
    have h1 := List.all_eq_true.mp h v hv
    cases v <;> first | rfl | cases h1
  rw [h2, List.map_id]
theorem k_tswD {L : Nat} {xs : Nat → Int32} {m pc d len : Nat} {dflt : Int} {hi : Nat} {offs : Array Int} {cs : List (Int32 × Nat)} (hd : decode (mcc m) pc = .ok (.tableswitch dflt 0 (hi : Int) offs, len)) (hdf : (pc : Int) + dflt = (d : Int)) (hc : (decide (cs.length = hi + 1) && (decide (hi < 1000) && (List.range (hi + 1)).all fun k => match cs[k]?, offs[k]? with
    | some c, some o => decide (c.1 = nI k) && decide ((pc : Int) + o = (c.2 : Int))
    | _, _ => false)) = true) : m_Ok L xs m pc (a_tsw cs d) := by
  simp only [Bool.and_eq_true, decide_eq_true_eq] at hc
  refine k_tsw hd hdf hc.1 hc.2.1 fun k hk c hck => ?_
  have h1 := List.all_eq_true.mp hc.2.2 k (List.mem_range.mpr hk)
  rw [hck] at h1
  cases ho : offs[k]? with
  | none => rw [ho] at h1; cases h1
  | some o =>
    rw [ho] at h1
    simp only [Bool.and_eq_true, decide_eq_true_eq] at h1
    exact ⟨h1.1, o, rfl, h1.2⟩
theorem o_br {L : Nat} {xs : Nat → Int32} {m pc : Nat} {b : Bool} {x y : mA} (hx : m_Ok L xs m pc x) (hy : m_Ok L xs m pc y) : m_Ok L xs m pc (cond b x y) := by cases b <;> assumption
def a_none : mA := fun _ _ _ => none
theorem o_lf {L : Nat} {xs : Nat → Int32} {m pc k : Nat} {a : mA} (h : m_Ok L xs m k a) : m_Ok L xs m pc (cond (Nat.beq pc k) a a_none) := by
  cases hb : Nat.beq pc k with
  | false => exact m_Ok_none
  | true => rw [Nat.eq_of_beq_eq_true hb]; exact h
theorem o_lm {L : Nat} {xs : Nat → Int32} {m pc k : Nat} {f : Nat → mA} (h : ∀ pc, m_Ok L xs k pc (f pc)) : m_Ok L xs m pc (cond (Nat.beq m k) (f pc) a_none) := by
  cases hb : Nat.beq m k with
  | false => exact m_Ok_none
  | true => rw [Nat.eq_of_beq_eq_true hb]; exact h pc
theorem m_nz {P Q : Prop} (h : ¬ P) : (¬ P ∧ Q) = Q := propext ⟨fun z => z.2, fun z => ⟨h, z⟩⟩
