theorem iw_0 : Cond.methodLink RX0 3 Lib.objectInit ∈ lw_gd := tb_in (List.mem_append_right _ (List.mem_of_getElem? (i := 97) (by decide +kernel))) rfl
theorem iw_1 : Cond.instanceMethod Lib.objectInit ∈ lw_gd := tb_in (List.mem_append_right _ (List.mem_of_getElem? (i := 17) (by decide +kernel))) rfl
theorem iw_2 : Cond.code Lib.objectInit ⟨#[0xb1]⟩ 1 none ∈ lw_gd := tb_in (List.mem_append_right _ (List.mem_of_getElem? (i := 18) (by decide +kernel))) rfl
theorem iw_3 : Cond.fieldLink RX0 9 "CountedTerms$History" "shelf" "LCountedTerms$Shelf;" ∈ lw_gd := tb_in (List.mem_append_right _ (List.mem_of_getElem? (i := 98) (by decide +kernel))) rfl
theorem iw_4 : Cond.fieldLink RX0 15 "CountedTerms$History" "length" "I" ∈ lw_gd := tb_in (List.mem_append_right _ (List.mem_of_getElem? (i := 100) (by decide +kernel))) rfl
theorem iw_5 : Cond.fieldLink RX0 19 "CountedTerms$History" "next" "I" ∈ lw_gd := tb_in (List.mem_append_right _ (List.mem_of_getElem? (i := 99) (by decide +kernel))) rfl
theorem iw_6 : Cond.methodLink RX0 22 yX4_duplicateState ∈ lw_gd := tb_in (List.mem_append_right _ (List.mem_of_getElem? (i := 174) (by decide +kernel))) rfl
theorem iw_7 : Cond.instanceMethod yX4_duplicateState ∈ lw_gd := tb_in (List.mem_append_right _ (List.mem_of_getElem? (i := 175) (by decide +kernel))) rfl
theorem iw_8 : Cond.selects RX4 yX4_duplicateState yX4_duplicateState ∈ lw_gd := tb_in (List.mem_append_right _ (List.mem_of_getElem? (i := 176) (by decide +kernel))) rfl
theorem iw_9 : Cond.initialized RX4 ∈ lw_gd := tb_in (List.mem_append_right _ (List.mem_of_getElem? (i := 2) (by decide +kernel))) rfl
theorem iw_10 : Cond.code Lib.Math.min.name Lib.Math.min.code 2 (some .int) ∈ lw_gd := tb_in (List.mem_append_right _ (List.mem_of_getElem? (i := 203) (by decide +kernel))) rfl
theorem iw_11 : Cond.methodLink RX0 28 Lib.Math.min.name ∈ lw_gd := tb_in (List.mem_append_right _ (List.mem_of_getElem? (i := 201) (by decide +kernel))) rfl
theorem iw_12 : Cond.static Lib.Math.min.name ∈ lw_gd := tb_in (List.mem_append_right _ (List.mem_of_getElem? (i := 202) (by decide +kernel))) rfl
theorem iw_13 : Cond.initialized RJ9 ∈ lw_gd := tb_in (List.mem_append_right _ (List.mem_of_getElem? (i := 4) (by decide +kernel))) rfl
theorem iw_14 : Cond.code Lib.Math.max.name Lib.Math.max.code 2 (some .int) ∈ lw_gd := tb_in (List.mem_append_right _ (List.mem_of_getElem? (i := 33) (by decide +kernel))) rfl
theorem iw_15 : Cond.methodLink RX0 34 Lib.Math.max.name ∈ lw_gd := tb_in (List.mem_append_right _ (List.mem_of_getElem? (i := 466) (by decide +kernel))) rfl
theorem iw_16 : Cond.static Lib.Math.max.name ∈ lw_gd := tb_in (List.mem_append_right _ (List.mem_of_getElem? (i := 32) (by decide +kernel))) rfl
theorem iw_17 : Cond.methodLink RX1 3 Lib.objectInit ∈ lw_gd := tb_in (List.mem_append_right _ (List.mem_of_getElem? (i := 113) (by decide +kernel))) rfl
theorem iw_18 : Cond.classLink RX1 9 RX3 ∈ lw_gd := tb_in (List.mem_append_right _ (List.mem_of_getElem? (i := 114) (by decide +kernel))) rfl
theorem iw_19 : Cond.instantiable RX3 1 ∈ lw_gd := tb_in (List.mem_append_right _ (List.mem_of_getElem? (i := 26) (by decide +kernel))) rfl
theorem iw_20 : Cond.initialized RX3 ∈ lw_gd := tb_in (List.mem_append_right _ (List.mem_of_getElem? (i := 3) (by decide +kernel))) rfl
theorem iw_21 : Cond.methodLink RX1 11 yX3_init ∈ lw_gd := tb_in (List.mem_append_right _ (List.mem_of_getElem? (i := 115) (by decide +kernel))) rfl
theorem iw_22 : Cond.instanceMethod yX3_init ∈ lw_gd := tb_in (List.mem_append_right _ (List.mem_of_getElem? (i := 28) (by decide +kernel))) rfl
theorem iw_23 : Cond.fieldLink RX1 14 "CountedTerms$Pad" "characters" "LCountedTerms$Row;" ∈ lw_gd := tb_in (List.mem_append_right _ (List.mem_of_getElem? (i := 116) (by decide +kernel))) rfl
theorem iw_24 : Cond.fieldLink RX1 20 "CountedTerms$Pad" "awaited" "LCountedTerms$Row;" ∈ lw_gd := tb_in (List.mem_append_right _ (List.mem_of_getElem? (i := 117) (by decide +kernel))) rfl
theorem iw_25 : Cond.constantLong RX1 23 (255 : Int64) ∈ lw_gd := tb_in (List.mem_append_right _ (List.mem_of_getElem? (i := 443) (by decide +kernel))) rfl
theorem iw_26 : Cond.constantLong RX1 25 (33 : Int64) ∈ lw_gd := tb_in (List.mem_append_right _ (List.mem_of_getElem? (i := 444) (by decide +kernel))) rfl
theorem iw_27 : Cond.constantLong RX1 27 (126 : Int64) ∈ lw_gd := tb_in (List.mem_append_right _ (List.mem_of_getElem? (i := 445) (by decide +kernel))) rfl
theorem iw_28 : Cond.fieldLink RX1 29 "CountedTerms$Pad" "length" "I" ∈ lw_gd := tb_in (List.mem_append_right _ (List.mem_of_getElem? (i := 118) (by decide +kernel))) rfl
theorem iw_29 : Cond.methodLink RX1 33 yX3_set ∈ lw_gd := tb_in (List.mem_append_right _ (List.mem_of_getElem? (i := 165) (by decide +kernel))) rfl
theorem iw_30 : Cond.instanceMethod yX3_set ∈ lw_gd := tb_in (List.mem_append_right _ (List.mem_of_getElem? (i := 135) (by decide +kernel))) rfl
theorem iw_31 : Cond.selects RX3 yX3_set yX3_set ∈ lw_gd := tb_in (List.mem_append_right _ (List.mem_of_getElem? (i := 136) (by decide +kernel))) rfl
theorem iw_32 : Cond.methodLink RX1 37 yX3_get ∈ lw_gd := tb_in (List.mem_append_right _ (List.mem_of_getElem? (i := 166) (by decide +kernel))) rfl
theorem iw_33 : Cond.instanceMethod yX3_get ∈ lw_gd := tb_in (List.mem_append_right _ (List.mem_of_getElem? (i := 131) (by decide +kernel))) rfl
theorem iw_34 : Cond.selects RX3 yX3_get yX3_get ∈ lw_gd := tb_in (List.mem_append_right _ (List.mem_of_getElem? (i := 132) (by decide +kernel))) rfl
theorem iw_35 : Cond.methodLink RX1 41 yX1_kindOf ∈ lw_gd := tb_in (List.mem_append_right _ (List.mem_of_getElem? (i := 167) (by decide +kernel))) rfl
theorem iw_36 : Cond.static yX1_kindOf ∈ lw_gd := tb_in (List.mem_append_right _ (List.mem_of_getElem? (i := 168) (by decide +kernel))) rfl
theorem iw_37 : Cond.initialized RX1 ∈ lw_gd := tb_in (List.mem_append_right _ (List.mem_of_getElem? (i := 8) (by decide +kernel))) rfl
theorem iw_38 : Cond.methodLink RX1 44 yX4_clear ∈ lw_gd := tb_in (List.mem_append_right _ (List.mem_of_getElem? (i := 208) (by decide +kernel))) rfl
theorem iw_39 : Cond.instanceMethod yX4_clear ∈ lw_gd := tb_in (List.mem_append_right _ (List.mem_of_getElem? (i := 183) (by decide +kernel))) rfl
theorem iw_40 : Cond.selects RX4 yX4_clear yX4_clear ∈ lw_gd := tb_in (List.mem_append_right _ (List.mem_of_getElem? (i := 184) (by decide +kernel))) rfl
theorem iw_41 : Cond.methodLink RX1 49 yX4_append ∈ lw_gd := tb_in (List.mem_append_right _ (List.mem_of_getElem? (i := 209) (by decide +kernel))) rfl
theorem iw_42 : Cond.instanceMethod yX4_append ∈ lw_gd := tb_in (List.mem_append_right _ (List.mem_of_getElem? (i := 127) (by decide +kernel))) rfl
theorem iw_43 : Cond.selects RX4 yX4_append yX4_append ∈ lw_gd := tb_in (List.mem_append_right _ (List.mem_of_getElem? (i := 128) (by decide +kernel))) rfl
theorem iw_44 : Cond.methodLink RX2 3 Lib.objectInit ∈ lw_gd := tb_in (List.mem_append_right _ (List.mem_of_getElem? (i := 78) (by decide +kernel))) rfl
theorem iw_45 : Cond.fieldLink RX2 9 "CountedTerms$Rewriter" "shelf" "LCountedTerms$Shelf;" ∈ lw_gd := tb_in (List.mem_append_right _ (List.mem_of_getElem? (i := 79) (by decide +kernel))) rfl
theorem iw_46 : Cond.fieldLink RX2 15 "CountedTerms$Rewriter" "survey" "LCountedTerms$Survey;" ∈ lw_gd := tb_in (List.mem_append_right _ (List.mem_of_getElem? (i := 80) (by decide +kernel))) rfl
theorem iw_47 : Cond.fieldLink RX2 19 "CountedTerms$Rewriter" "steps" "I" ∈ lw_gd := tb_in (List.mem_append_right _ (List.mem_of_getElem? (i := 81) (by decide +kernel))) rfl
theorem iw_48 : Cond.fieldLink RX2 23 "CountedTerms$Rewriter" "greatest" "I" ∈ lw_gd := tb_in (List.mem_append_right _ (List.mem_of_getElem? (i := 82) (by decide +kernel))) rfl
theorem iw_49 : Cond.methodLink RX2 26 yX4_length ∈ lw_gd := tb_in (List.mem_append_right _ (List.mem_of_getElem? (i := 306) (by decide +kernel))) rfl
theorem iw_50 : Cond.instanceMethod yX4_length ∈ lw_gd := tb_in (List.mem_append_right _ (List.mem_of_getElem? (i := 187) (by decide +kernel))) rfl
theorem iw_51 : Cond.selects RX4 yX4_length yX4_length ∈ lw_gd := tb_in (List.mem_append_right _ (List.mem_of_getElem? (i := 188) (by decide +kernel))) rfl
theorem iw_52 : Cond.methodLink RX2 32 yX5_look ∈ lw_gd := tb_in (List.mem_append_right _ (List.mem_of_getElem? (i := 330) (by decide +kernel))) rfl
theorem iw_53 : Cond.instanceMethod yX5_look ∈ lw_gd := tb_in (List.mem_append_right _ (List.mem_of_getElem? (i := 235) (by decide +kernel))) rfl
theorem iw_54 : Cond.selects RX5 yX5_look yX5_look ∈ lw_gd := tb_in (List.mem_append_right _ (List.mem_of_getElem? (i := 236) (by decide +kernel))) rfl
theorem iw_55 : Cond.initialized RX5 ∈ lw_gd := tb_in (List.mem_append_right _ (List.mem_of_getElem? (i := 5) (by decide +kernel))) rfl
theorem iw_56 : Cond.methodLink RX2 38 yX5_next ∈ lw_gd := tb_in (List.mem_append_right _ (List.mem_of_getElem? (i := 331) (by decide +kernel))) rfl
theorem iw_57 : Cond.instanceMethod yX5_next ∈ lw_gd := tb_in (List.mem_append_right _ (List.mem_of_getElem? (i := 279) (by decide +kernel))) rfl
theorem iw_58 : Cond.selects RX5 yX5_next yX5_next ∈ lw_gd := tb_in (List.mem_append_right _ (List.mem_of_getElem? (i := 280) (by decide +kernel))) rfl
theorem iw_59 : Cond.methodLink RX2 41 yX2_lengthBehind ∈ lw_gd := tb_in (List.mem_append_right _ (List.mem_of_getElem? (i := 332) (by decide +kernel))) rfl
theorem iw_60 : Cond.instanceMethod yX2_lengthBehind ∈ lw_gd := tb_in (List.mem_append_right _ (List.mem_of_getElem? (i := 291) (by decide +kernel))) rfl
theorem iw_61 : Cond.selects RX2 yX2_lengthBehind yX2_lengthBehind ∈ lw_gd := tb_in (List.mem_append_right _ (List.mem_of_getElem? (i := 292) (by decide +kernel))) rfl
theorem iw_62 : Cond.initialized RX2 ∈ lw_gd := tb_in (List.mem_append_right _ (List.mem_of_getElem? (i := 6) (by decide +kernel))) rfl
theorem iw_63 : Cond.methodLink RX2 44 yX2_rewrite ∈ lw_gd := tb_in (List.mem_append_right _ (List.mem_of_getElem? (i := 333) (by decide +kernel))) rfl
theorem iw_64 : Cond.instanceMethod yX2_rewrite ∈ lw_gd := tb_in (List.mem_append_right _ (List.mem_of_getElem? (i := 308) (by decide +kernel))) rfl
theorem iw_65 : Cond.selects RX2 yX2_rewrite yX2_rewrite ∈ lw_gd := tb_in (List.mem_append_right _ (List.mem_of_getElem? (i := 309) (by decide +kernel))) rfl
theorem iw_66 : Cond.methodLink RX2 47 Lib.Math.max.name ∈ lw_gd := tb_in (List.mem_append_right _ (List.mem_of_getElem? (i := 334) (by decide +kernel))) rfl
theorem iw_67 : Cond.methodLink RX2 53 yX5_term ∈ lw_gd := tb_in (List.mem_append_right _ (List.mem_of_getElem? (i := 294) (by decide +kernel))) rfl
theorem iw_68 : Cond.instanceMethod yX5_term ∈ lw_gd := tb_in (List.mem_append_right _ (List.mem_of_getElem? (i := 295) (by decide +kernel))) rfl
theorem iw_69 : Cond.selects RX5 yX5_term yX5_term ∈ lw_gd := tb_in (List.mem_append_right _ (List.mem_of_getElem? (i := 296) (by decide +kernel))) rfl
theorem iw_70 : Cond.methodLink RX2 57 yX5_behind ∈ lw_gd := tb_in (List.mem_append_right _ (List.mem_of_getElem? (i := 298) (by decide +kernel))) rfl
theorem iw_71 : Cond.instanceMethod yX5_behind ∈ lw_gd := tb_in (List.mem_append_right _ (List.mem_of_getElem? (i := 248) (by decide +kernel))) rfl
theorem iw_72 : Cond.selects RX5 yX5_behind yX5_behind ∈ lw_gd := tb_in (List.mem_append_right _ (List.mem_of_getElem? (i := 249) (by decide +kernel))) rfl
theorem iw_73 : Cond.methodLink RX2 60 yX4_kind ∈ lw_gd := tb_in (List.mem_append_right _ (List.mem_of_getElem? (i := 299) (by decide +kernel))) rfl
theorem iw_74 : Cond.instanceMethod yX4_kind ∈ lw_gd := tb_in (List.mem_append_right _ (List.mem_of_getElem? (i := 244) (by decide +kernel))) rfl
theorem iw_75 : Cond.selects RX4 yX4_kind yX4_kind ∈ lw_gd := tb_in (List.mem_append_right _ (List.mem_of_getElem? (i := 245) (by decide +kernel))) rfl
theorem iw_76 : Cond.methodLink RX2 63 yX4_number ∈ lw_gd := tb_in (List.mem_append_right _ (List.mem_of_getElem? (i := 300) (by decide +kernel))) rfl
theorem iw_77 : Cond.instanceMethod yX4_number ∈ lw_gd := tb_in (List.mem_append_right _ (List.mem_of_getElem? (i := 267) (by decide +kernel))) rfl
theorem iw_78 : Cond.selects RX4 yX4_number yX4_number ∈ lw_gd := tb_in (List.mem_append_right _ (List.mem_of_getElem? (i := 268) (by decide +kernel))) rfl
theorem iw_79 : Cond.methodLink RX2 66 yX2_functionsWithin ∈ lw_gd := tb_in (List.mem_append_right _ (List.mem_of_getElem? (i := 301) (by decide +kernel))) rfl
theorem iw_80 : Cond.instanceMethod yX2_functionsWithin ∈ lw_gd := tb_in (List.mem_append_right _ (List.mem_of_getElem? (i := 303) (by decide +kernel))) rfl
theorem iw_81 : Cond.selects RX2 yX2_functionsWithin yX2_functionsWithin ∈ lw_gd := tb_in (List.mem_append_left _ (List.mem_of_getElem? (i := 6) (by decide +kernel))) rfl
theorem iw_82 : Cond.methodLink RX2 69 yX4_clear ∈ lw_gd := tb_in (List.mem_append_right _ (List.mem_of_getElem? (i := 311) (by decide +kernel))) rfl
theorem iw_83 : Cond.methodLink RX2 72 yX4_appendParts ∈ lw_gd := tb_in (List.mem_append_right _ (List.mem_of_getElem? (i := 312) (by decide +kernel))) rfl
theorem iw_84 : Cond.instanceMethod yX4_appendParts ∈ lw_gd := tb_in (List.mem_append_right _ (List.mem_of_getElem? (i := 191) (by decide +kernel))) rfl
theorem iw_85 : Cond.selects RX4 yX4_appendParts yX4_appendParts ∈ lw_gd := tb_in (List.mem_append_right _ (List.mem_of_getElem? (i := 192) (by decide +kernel))) rfl
theorem iw_86 : Cond.methodLink RX2 76 yX4_append ∈ lw_gd := tb_in (List.mem_append_right _ (List.mem_of_getElem? (i := 313) (by decide +kernel))) rfl
theorem iw_87 : Cond.methodLink RX2 80 yX2_draftArgument ∈ lw_gd := tb_in (List.mem_append_right _ (List.mem_of_getElem? (i := 314) (by decide +kernel))) rfl
theorem iw_88 : Cond.instanceMethod yX2_draftArgument ∈ lw_gd := tb_in (List.mem_append_right _ (List.mem_of_getElem? (i := 316) (by decide +kernel))) rfl
theorem iw_89 : Cond.selects RX2 yX2_draftArgument yX2_draftArgument ∈ lw_gd := tb_in (List.mem_append_left _ (List.mem_of_getElem? (i := 7) (by decide +kernel))) rfl
theorem iw_90 : Cond.methodLink RX2 84 yX4_duplicate ∈ lw_gd := tb_in (List.mem_append_right _ (List.mem_of_getElem? (i := 318) (by decide +kernel))) rfl
theorem iw_91 : Cond.instanceMethod yX4_duplicate ∈ lw_gd := tb_in (List.mem_append_right _ (List.mem_of_getElem? (i := 179) (by decide +kernel))) rfl
theorem iw_92 : Cond.selects RX4 yX4_duplicate yX4_duplicate ∈ lw_gd := tb_in (List.mem_append_right _ (List.mem_of_getElem? (i := 180) (by decide +kernel))) rfl
theorem iw_93 : Cond.methodLink RX2 87 yX5_around ∈ lw_gd := tb_in (List.mem_append_right _ (List.mem_of_getElem? (i := 305) (by decide +kernel))) rfl
theorem iw_94 : Cond.instanceMethod yX5_around ∈ lw_gd := tb_in (List.mem_append_right _ (List.mem_of_getElem? (i := 258) (by decide +kernel))) rfl
theorem iw_95 : Cond.selects RX5 yX5_around yX5_around ∈ lw_gd := tb_in (List.mem_append_right _ (List.mem_of_getElem? (i := 259) (by decide +kernel))) rfl
theorem iw_96 : Cond.methodLink RX3 1 Lib.objectInit ∈ lw_gd := tb_in (List.mem_append_right _ (List.mem_of_getElem? (i := 30) (by decide +kernel))) rfl
theorem iw_97 : Cond.methodLink RX3 7 Lib.Math.max.name ∈ lw_gd := tb_in (List.mem_append_right _ (List.mem_of_getElem? (i := 31) (by decide +kernel))) rfl
theorem iw_98 : Cond.arrayClass .int ∈ lw_gd := tb_in (List.mem_append_right _ (List.mem_of_getElem? (i := 38) (by decide +kernel))) rfl
theorem iw_99 : Cond.fieldLink RX3 13 "CountedTerms$Row" "numbers" "[I" ∈ lw_gd := tb_in (List.mem_append_right _ (List.mem_of_getElem? (i := 34) (by decide +kernel))) rfl
theorem iw_100 : Cond.methodLink RX3 19 arraycopyName ∈ lw_gd := tb_in (List.mem_append_right _ (List.mem_of_getElem? (i := 198) (by decide +kernel))) rfl
theorem iw_101 : Cond.native arraycopyName ∈ lw_gd := tb_in (List.mem_append_right _ (List.mem_of_getElem? (i := 200) (by decide +kernel))) rfl
theorem iw_102 : Cond.static arraycopyName ∈ lw_gd := tb_in (List.mem_append_right _ (List.mem_of_getElem? (i := 199) (by decide +kernel))) rfl
theorem iw_103 : Cond.initialized RJ10 ∈ lw_gd := tb_in (List.mem_append_right _ (List.mem_of_getElem? (i := 10) (by decide +kernel))) rfl
theorem iw_104 : Cond.methodLink RX4 3 Lib.objectInit ∈ lw_gd := tb_in (List.mem_append_right _ (List.mem_of_getElem? (i := 24) (by decide +kernel))) rfl
theorem iw_105 : Cond.classLink RX4 9 RX3 ∈ lw_gd := tb_in (List.mem_append_right _ (List.mem_of_getElem? (i := 25) (by decide +kernel))) rfl
theorem iw_106 : Cond.methodLink RX4 11 yX3_init ∈ lw_gd := tb_in (List.mem_append_right _ (List.mem_of_getElem? (i := 27) (by decide +kernel))) rfl
theorem iw_107 : Cond.fieldLink RX4 14 "CountedTerms$Shelf" "lengths" "LCountedTerms$Row;" ∈ lw_gd := tb_in (List.mem_append_right _ (List.mem_of_getElem? (i := 39) (by decide +kernel))) rfl
theorem iw_108 : Cond.fieldLink RX4 20 "CountedTerms$Shelf" "parts" "LCountedTerms$Row;" ∈ lw_gd := tb_in (List.mem_append_right _ (List.mem_of_getElem? (i := 40) (by decide +kernel))) rfl
theorem iw_109 : Cond.methodLink RX4 23 yX3_get ∈ lw_gd := tb_in (List.mem_append_right _ (List.mem_of_getElem? (i := 130) (by decide +kernel))) rfl
theorem iw_110 : Cond.methodLink RX4 27 yX3_set ∈ lw_gd := tb_in (List.mem_append_right _ (List.mem_of_getElem? (i := 134) (by decide +kernel))) rfl
theorem iw_111 : Cond.methodLink RX4 31 yX3_move ∈ lw_gd := tb_in (List.mem_append_right _ (List.mem_of_getElem? (i := 194) (by decide +kernel))) rfl
theorem iw_112 : Cond.instanceMethod yX3_move ∈ lw_gd := tb_in (List.mem_append_right _ (List.mem_of_getElem? (i := 195) (by decide +kernel))) rfl
theorem iw_113 : Cond.selects RX3 yX3_move yX3_move ∈ lw_gd := tb_in (List.mem_append_right _ (List.mem_of_getElem? (i := 196) (by decide +kernel))) rfl
theorem iw_114 : Cond.methodLink RX4 35 yX4_clear ∈ lw_gd := tb_in (List.mem_append_right _ (List.mem_of_getElem? (i := 182) (by decide +kernel))) rfl
theorem iw_115 : Cond.methodLink RX4 38 yX4_length ∈ lw_gd := tb_in (List.mem_append_right _ (List.mem_of_getElem? (i := 186) (by decide +kernel))) rfl
theorem iw_116 : Cond.methodLink RX4 41 yX4_appendParts ∈ lw_gd := tb_in (List.mem_append_right _ (List.mem_of_getElem? (i := 190) (by decide +kernel))) rfl
theorem iw_117 : Cond.methodLink RX4 45 yX4_duplicate ∈ lw_gd := tb_in (List.mem_append_right _ (List.mem_of_getElem? (i := 178) (by decide +kernel))) rfl
theorem iw_118 : Cond.methodLink RX4 48 yX4_kind ∈ lw_gd := tb_in (List.mem_append_right _ (List.mem_of_getElem? (i := 347) (by decide +kernel))) rfl
theorem iw_119 : Cond.methodLink RX4 52 yX4_number ∈ lw_gd := tb_in (List.mem_append_right _ (List.mem_of_getElem? (i := 361) (by decide +kernel))) rfl
theorem iw_120 : Cond.methodLink RX4 55 Lib.Math.max.name ∈ lw_gd := tb_in (List.mem_append_right _ (List.mem_of_getElem? (i := 362) (by decide +kernel))) rfl
theorem iw_121 : Cond.methodLink RX5 3 Lib.objectInit ∈ lw_gd := tb_in (List.mem_append_right _ (List.mem_of_getElem? (i := 51) (by decide +kernel))) rfl
theorem iw_122 : Cond.fieldLink RX5 9 "CountedTerms$Survey" "shelf" "LCountedTerms$Shelf;" ∈ lw_gd := tb_in (List.mem_append_right _ (List.mem_of_getElem? (i := 54) (by decide +kernel))) rfl
theorem iw_123 : Cond.classLink RX5 15 RX3 ∈ lw_gd := tb_in (List.mem_append_right _ (List.mem_of_getElem? (i := 52) (by decide +kernel))) rfl
theorem iw_124 : Cond.methodLink RX5 17 yX3_init ∈ lw_gd := tb_in (List.mem_append_right _ (List.mem_of_getElem? (i := 53) (by decide +kernel))) rfl
theorem iw_125 : Cond.fieldLink RX5 20 "CountedTerms$Survey" "behind" "LCountedTerms$Row;" ∈ lw_gd := tb_in (List.mem_append_right _ (List.mem_of_getElem? (i := 55) (by decide +kernel))) rfl
theorem iw_126 : Cond.fieldLink RX5 24 "CountedTerms$Survey" "around" "LCountedTerms$Row;" ∈ lw_gd := tb_in (List.mem_append_right _ (List.mem_of_getElem? (i := 56) (by decide +kernel))) rfl
theorem iw_127 : Cond.fieldLink RX5 27 "CountedTerms$Survey" "nearest" "LCountedTerms$Row;" ∈ lw_gd := tb_in (List.mem_append_right _ (List.mem_of_getElem? (i := 57) (by decide +kernel))) rfl
theorem iw_128 : Cond.fieldLink RX5 30 "CountedTerms$Survey" "term" "I" ∈ lw_gd := tb_in (List.mem_append_right _ (List.mem_of_getElem? (i := 58) (by decide +kernel))) rfl
theorem iw_129 : Cond.methodLink RX5 34 yX4_length ∈ lw_gd := tb_in (List.mem_append_right _ (List.mem_of_getElem? (i := 238) (by decide +kernel))) rfl
theorem iw_130 : Cond.fieldLink RX5 40 "CountedTerms$Survey" "length" "I" ∈ lw_gd := tb_in (List.mem_append_right _ (List.mem_of_getElem? (i := 59) (by decide +kernel))) rfl
theorem iw_131 : Cond.methodLink RX5 42 yX5_findEnds ∈ lw_gd := tb_in (List.mem_append_right _ (List.mem_of_getElem? (i := 239) (by decide +kernel))) rfl
theorem iw_132 : Cond.instanceMethod yX5_findEnds ∈ lw_gd := tb_in (List.mem_append_right _ (List.mem_of_getElem? (i := 241) (by decide +kernel))) rfl
theorem iw_133 : Cond.selects RX5 yX5_findEnds yX5_findEnds ∈ lw_gd := tb_in (List.mem_append_left _ (List.mem_of_getElem? (i := 1) (by decide +kernel))) rfl
theorem iw_134 : Cond.methodLink RX5 45 yX5_findSurroundings ∈ lw_gd := tb_in (List.mem_append_right _ (List.mem_of_getElem? (i := 253) (by decide +kernel))) rfl
theorem iw_135 : Cond.instanceMethod yX5_findSurroundings ∈ lw_gd := tb_in (List.mem_append_right _ (List.mem_of_getElem? (i := 255) (by decide +kernel))) rfl
theorem iw_136 : Cond.selects RX5 yX5_findSurroundings yX5_findSurroundings ∈ lw_gd := tb_in (List.mem_append_left _ (List.mem_of_getElem? (i := 2) (by decide +kernel))) rfl
theorem iw_137 : Cond.methodLink RX5 48 yX3_get ∈ lw_gd := tb_in (List.mem_append_right _ (List.mem_of_getElem? (i := 251) (by decide +kernel))) rfl
theorem iw_138 : Cond.methodLink RX5 51 yX4_kind ∈ lw_gd := tb_in (List.mem_append_right _ (List.mem_of_getElem? (i := 243) (by decide +kernel))) rfl
theorem iw_139 : Cond.methodLink RX5 55 yX4_number ∈ lw_gd := tb_in (List.mem_append_right _ (List.mem_of_getElem? (i := 372) (by decide +kernel))) rfl
theorem iw_140 : Cond.methodLink RX5 58 yX5_around ∈ lw_gd := tb_in (List.mem_append_right _ (List.mem_of_getElem? (i := 257) (by decide +kernel))) rfl
theorem iw_141 : Cond.methodLink RX5 60 Lib.Math.max.name ∈ lw_gd := tb_in (List.mem_append_right _ (List.mem_of_getElem? (i := 352) (by decide +kernel))) rfl
theorem iw_142 : Cond.methodLink RX5 65 yX5_isReducible ∈ lw_gd := tb_in (List.mem_append_right _ (List.mem_of_getElem? (i := 286) (by decide +kernel))) rfl
theorem iw_143 : Cond.instanceMethod yX5_isReducible ∈ lw_gd := tb_in (List.mem_append_right _ (List.mem_of_getElem? (i := 288) (by decide +kernel))) rfl
theorem iw_144 : Cond.selects RX5 yX5_isReducible yX5_isReducible ∈ lw_gd := tb_in (List.mem_append_left _ (List.mem_of_getElem? (i := 5) (by decide +kernel))) rfl
theorem iw_145 : Cond.methodLink RX5 69 yX5_firstInner ∈ lw_gd := tb_in (List.mem_append_right _ (List.mem_of_getElem? (i := 282) (by decide +kernel))) rfl
theorem iw_146 : Cond.instanceMethod yX5_firstInner ∈ lw_gd := tb_in (List.mem_append_right _ (List.mem_of_getElem? (i := 284) (by decide +kernel))) rfl
theorem iw_147 : Cond.selects RX5 yX5_firstInner yX5_firstInner ∈ lw_gd := tb_in (List.mem_append_left _ (List.mem_of_getElem? (i := 4) (by decide +kernel))) rfl
theorem iw_148 : Cond.methodLink RX5 73 yX5_sign ∈ lw_gd := tb_in (List.mem_append_right _ (List.mem_of_getElem? (i := 381) (by decide +kernel))) rfl
theorem iw_149 : Cond.instanceMethod yX5_sign ∈ lw_gd := tb_in (List.mem_append_right _ (List.mem_of_getElem? (i := 383) (by decide +kernel))) rfl
theorem iw_150 : Cond.selects RX5 yX5_sign yX5_sign ∈ lw_gd := tb_in (List.mem_append_left _ (List.mem_of_getElem? (i := 8) (by decide +kernel))) rfl
theorem iw_151 : Cond.methodLink RX5 76 yX5_letter ∈ lw_gd := tb_in (List.mem_append_right _ (List.mem_of_getElem? (i := 385) (by decide +kernel))) rfl
theorem iw_152 : Cond.static yX5_letter ∈ lw_gd := tb_in (List.mem_append_right _ (List.mem_of_getElem? (i := 386) (by decide +kernel))) rfl
theorem iw_153 : Cond.methodLink RX5 79 yX5_behind ∈ lw_gd := tb_in (List.mem_append_right _ (List.mem_of_getElem? (i := 247) (by decide +kernel))) rfl
theorem iw_154 : Cond.methodLink RX5 81 yX3_set ∈ lw_gd := tb_in (List.mem_append_right _ (List.mem_of_getElem? (i := 252) (by decide +kernel))) rfl
theorem iw_155 : Cond.methodLink RX5 85 yX5_surroundAs ∈ lw_gd := tb_in (List.mem_append_right _ (List.mem_of_getElem? (i := 261) (by decide +kernel))) rfl
theorem iw_156 : Cond.instanceMethod yX5_surroundAs ∈ lw_gd := tb_in (List.mem_append_right _ (List.mem_of_getElem? (i := 263) (by decide +kernel))) rfl
theorem iw_157 : Cond.selects RX5 yX5_surroundAs yX5_surroundAs ∈ lw_gd := tb_in (List.mem_append_left _ (List.mem_of_getElem? (i := 3) (by decide +kernel))) rfl
theorem iw_158 : Cond.methodLink RX6 3 Lib.objectInit ∈ lw_gd := tb_in (List.mem_append_right _ (List.mem_of_getElem? (i := 16) (by decide +kernel))) rfl
theorem iw_159 : Cond.classLink RX6 9 RX4 ∈ lw_gd := tb_in (List.mem_append_right _ (List.mem_of_getElem? (i := 19) (by decide +kernel))) rfl
theorem iw_160 : Cond.instantiable RX4 2 ∈ lw_gd := tb_in (List.mem_append_right _ (List.mem_of_getElem? (i := 20) (by decide +kernel))) rfl
theorem iw_161 : Cond.methodLink RX6 11 yX4_init ∈ lw_gd := tb_in (List.mem_append_right _ (List.mem_of_getElem? (i := 21) (by decide +kernel))) rfl
theorem iw_162 : Cond.instanceMethod yX4_init ∈ lw_gd := tb_in (List.mem_append_right _ (List.mem_of_getElem? (i := 22) (by decide +kernel))) rfl
theorem iw_163 : Cond.fieldLink RX6 12 "CountedTerms" "shelf" "LCountedTerms$Shelf;" ∈ lw_gd := tb_in (List.mem_append_right _ (List.mem_of_getElem? (i := 138) (by decide +kernel))) rfl
theorem iw_164 : Cond.classLink RX6 16 RX5 ∈ lw_gd := tb_in (List.mem_append_right _ (List.mem_of_getElem? (i := 46) (by decide +kernel))) rfl
theorem iw_165 : Cond.instantiable RX5 6 ∈ lw_gd := tb_in (List.mem_append_right _ (List.mem_of_getElem? (i := 47) (by decide +kernel))) rfl
theorem iw_166 : Cond.methodLink RX6 18 yX5_init ∈ lw_gd := tb_in (List.mem_append_right _ (List.mem_of_getElem? (i := 48) (by decide +kernel))) rfl
theorem iw_167 : Cond.instanceMethod yX5_init ∈ lw_gd := tb_in (List.mem_append_right _ (List.mem_of_getElem? (i := 49) (by decide +kernel))) rfl
theorem iw_168 : Cond.fieldLink RX6 21 "CountedTerms" "survey" "LCountedTerms$Survey;" ∈ lw_gd := tb_in (List.mem_append_right _ (List.mem_of_getElem? (i := 139) (by decide +kernel))) rfl
theorem iw_169 : Cond.classLink RX6 25 RX2 ∈ lw_gd := tb_in (List.mem_append_right _ (List.mem_of_getElem? (i := 73) (by decide +kernel))) rfl
theorem iw_170 : Cond.instantiable RX2 4 ∈ lw_gd := tb_in (List.mem_append_right _ (List.mem_of_getElem? (i := 74) (by decide +kernel))) rfl
theorem iw_171 : Cond.methodLink RX6 27 yX2_init ∈ lw_gd := tb_in (List.mem_append_right _ (List.mem_of_getElem? (i := 75) (by decide +kernel))) rfl
theorem iw_172 : Cond.instanceMethod yX2_init ∈ lw_gd := tb_in (List.mem_append_right _ (List.mem_of_getElem? (i := 76) (by decide +kernel))) rfl
theorem iw_173 : Cond.fieldLink RX6 30 "CountedTerms" "rewriter" "LCountedTerms$Rewriter;" ∈ lw_gd := tb_in (List.mem_append_right _ (List.mem_of_getElem? (i := 140) (by decide +kernel))) rfl
theorem iw_174 : Cond.classLink RX6 34 RX0 ∈ lw_gd := tb_in (List.mem_append_right _ (List.mem_of_getElem? (i := 92) (by decide +kernel))) rfl
theorem iw_175 : Cond.instantiable RX0 3 ∈ lw_gd := tb_in (List.mem_append_right _ (List.mem_of_getElem? (i := 93) (by decide +kernel))) rfl
theorem iw_176 : Cond.initialized RX0 ∈ lw_gd := tb_in (List.mem_append_right _ (List.mem_of_getElem? (i := 7) (by decide +kernel))) rfl
theorem iw_177 : Cond.methodLink RX6 36 yX0_init ∈ lw_gd := tb_in (List.mem_append_right _ (List.mem_of_getElem? (i := 94) (by decide +kernel))) rfl
theorem iw_178 : Cond.instanceMethod yX0_init ∈ lw_gd := tb_in (List.mem_append_right _ (List.mem_of_getElem? (i := 95) (by decide +kernel))) rfl
theorem iw_179 : Cond.fieldLink RX6 37 "CountedTerms" "history" "LCountedTerms$History;" ∈ lw_gd := tb_in (List.mem_append_right _ (List.mem_of_getElem? (i := 141) (by decide +kernel))) rfl
theorem iw_180 : Cond.classLink RX6 41 RX1 ∈ lw_gd := tb_in (List.mem_append_right _ (List.mem_of_getElem? (i := 108) (by decide +kernel))) rfl
theorem iw_181 : Cond.instantiable RX1 3 ∈ lw_gd := tb_in (List.mem_append_right _ (List.mem_of_getElem? (i := 109) (by decide +kernel))) rfl
theorem iw_182 : Cond.methodLink RX6 43 yX1_init ∈ lw_gd := tb_in (List.mem_append_right _ (List.mem_of_getElem? (i := 110) (by decide +kernel))) rfl
theorem iw_183 : Cond.instanceMethod yX1_init ∈ lw_gd := tb_in (List.mem_append_right _ (List.mem_of_getElem? (i := 111) (by decide +kernel))) rfl
theorem iw_184 : Cond.fieldLink RX6 44 "CountedTerms" "pad" "LCountedTerms$Pad;" ∈ lw_gd := tb_in (List.mem_append_right _ (List.mem_of_getElem? (i := 142) (by decide +kernel))) rfl
theorem iw_185 : Cond.methodLink RX6 48 yX4_append ∈ lw_gd := tb_in (List.mem_append_right _ (List.mem_of_getElem? (i := 126) (by decide +kernel))) rfl
theorem iw_186 : Cond.methodLink RX6 52 yX6_isRegister ∈ lw_gd := tb_in (List.mem_append_right _ (List.mem_of_getElem? (i := 158) (by decide +kernel))) rfl
theorem iw_187 : Cond.static yX6_isRegister ∈ lw_gd := tb_in (List.mem_append_right _ (List.mem_of_getElem? (i := 159) (by decide +kernel))) rfl
theorem iw_188 : Cond.initialized RX6 ∈ lw_gd := tb_in (List.mem_append_right _ (List.mem_of_getElem? (i := 1) (by decide +kernel))) rfl
theorem iw_189 : Cond.methodLink RX6 56 yX1_firstWrong ∈ lw_gd := tb_in (List.mem_append_right _ (List.mem_of_getElem? (i := 161) (by decide +kernel))) rfl
theorem iw_190 : Cond.instanceMethod yX1_firstWrong ∈ lw_gd := tb_in (List.mem_append_right _ (List.mem_of_getElem? (i := 162) (by decide +kernel))) rfl
theorem iw_191 : Cond.selects RX1 yX1_firstWrong yX1_firstWrong ∈ lw_gd := tb_in (List.mem_append_right _ (List.mem_of_getElem? (i := 163) (by decide +kernel))) rfl
theorem iw_192 : Cond.methodLink RX6 60 yX0_keepState ∈ lw_gd := tb_in (List.mem_append_right _ (List.mem_of_getElem? (i := 170) (by decide +kernel))) rfl
theorem iw_193 : Cond.instanceMethod yX0_keepState ∈ lw_gd := tb_in (List.mem_append_right _ (List.mem_of_getElem? (i := 171) (by decide +kernel))) rfl
theorem iw_194 : Cond.selects RX0 yX0_keepState yX0_keepState ∈ lw_gd := tb_in (List.mem_append_right _ (List.mem_of_getElem? (i := 172) (by decide +kernel))) rfl
theorem iw_195 : Cond.methodLink RX6 63 yX1_writeTo ∈ lw_gd := tb_in (List.mem_append_right _ (List.mem_of_getElem? (i := 204) (by decide +kernel))) rfl
theorem iw_196 : Cond.instanceMethod yX1_writeTo ∈ lw_gd := tb_in (List.mem_append_right _ (List.mem_of_getElem? (i := 205) (by decide +kernel))) rfl
theorem iw_197 : Cond.selects RX1 yX1_writeTo yX1_writeTo ∈ lw_gd := tb_in (List.mem_append_right _ (List.mem_of_getElem? (i := 206) (by decide +kernel))) rfl
theorem iw_198 : Cond.methodLink RX6 67 yX1_empty ∈ lw_gd := tb_in (List.mem_append_right _ (List.mem_of_getElem? (i := 210) (by decide +kernel))) rfl
theorem iw_199 : Cond.instanceMethod yX1_empty ∈ lw_gd := tb_in (List.mem_append_right _ (List.mem_of_getElem? (i := 211) (by decide +kernel))) rfl
theorem iw_200 : Cond.selects RX1 yX1_empty yX1_empty ∈ lw_gd := tb_in (List.mem_append_right _ (List.mem_of_getElem? (i := 212) (by decide +kernel))) rfl
theorem iw_201 : Cond.methodLink RX6 70 yX4_length ∈ lw_gd := tb_in (List.mem_append_right _ (List.mem_of_getElem? (i := 214) (by decide +kernel))) rfl
theorem iw_202 : Cond.methodLink RX6 74 yX4_duplicate ∈ lw_gd := tb_in (List.mem_append_right _ (List.mem_of_getElem? (i := 219) (by decide +kernel))) rfl
theorem iw_203 : Cond.methodLink RX6 78 yX4_clear ∈ lw_gd := tb_in (List.mem_append_right _ (List.mem_of_getElem? (i := 224) (by decide +kernel))) rfl
theorem iw_204 : Cond.methodLink RX6 82 yX4_appendParts ∈ lw_gd := tb_in (List.mem_append_right _ (List.mem_of_getElem? (i := 225) (by decide +kernel))) rfl
theorem iw_205 : Cond.methodLink RX6 86 yX6_draftFunction ∈ lw_gd := tb_in (List.mem_append_right _ (List.mem_of_getElem? (i := 230) (by decide +kernel))) rfl
theorem iw_206 : Cond.instanceMethod yX6_draftFunction ∈ lw_gd := tb_in (List.mem_append_right _ (List.mem_of_getElem? (i := 232) (by decide +kernel))) rfl
theorem iw_207 : Cond.selects RX6 yX6_draftFunction yX6_draftFunction ∈ lw_gd := tb_in (List.mem_append_left _ (List.mem_of_getElem? (i := 0) (by decide +kernel))) rfl
theorem iw_208 : Cond.methodLink RX6 90 yX6_isOrder ∈ lw_gd := tb_in (List.mem_append_right _ (List.mem_of_getElem? (i := 275) (by decide +kernel))) rfl
theorem iw_209 : Cond.static yX6_isOrder ∈ lw_gd := tb_in (List.mem_append_right _ (List.mem_of_getElem? (i := 276) (by decide +kernel))) rfl
theorem iw_210 : Cond.methodLink RX6 93 yX5_look ∈ lw_gd := tb_in (List.mem_append_right _ (List.mem_of_getElem? (i := 234) (by decide +kernel))) rfl
theorem iw_211 : Cond.methodLink RX6 96 yX5_next ∈ lw_gd := tb_in (List.mem_append_right _ (List.mem_of_getElem? (i := 278) (by decide +kernel))) rfl
theorem iw_212 : Cond.methodLink RX6 99 yX2_lengthBehind ∈ lw_gd := tb_in (List.mem_append_right _ (List.mem_of_getElem? (i := 290) (by decide +kernel))) rfl
theorem iw_213 : Cond.methodLink RX6 102 yX2_rewrite ∈ lw_gd := tb_in (List.mem_append_right _ (List.mem_of_getElem? (i := 307) (by decide +kernel))) rfl
theorem iw_214 : Cond.methodLink RX6 105 yX6_isFuel ∈ lw_gd := tb_in (List.mem_append_right _ (List.mem_of_getElem? (i := 323) (by decide +kernel))) rfl
theorem iw_215 : Cond.static yX6_isFuel ∈ lw_gd := tb_in (List.mem_append_right _ (List.mem_of_getElem? (i := 324) (by decide +kernel))) rfl
theorem iw_216 : Cond.methodLink RX6 108 yX2_doSteps ∈ lw_gd := tb_in (List.mem_append_right _ (List.mem_of_getElem? (i := 326) (by decide +kernel))) rfl
theorem iw_217 : Cond.instanceMethod yX2_doSteps ∈ lw_gd := tb_in (List.mem_append_right _ (List.mem_of_getElem? (i := 327) (by decide +kernel))) rfl
theorem iw_218 : Cond.selects RX2 yX2_doSteps yX2_doSteps ∈ lw_gd := tb_in (List.mem_append_right _ (List.mem_of_getElem? (i := 328) (by decide +kernel))) rfl
theorem iw_219 : Cond.methodLink RX6 112 yX2_stepsDone ∈ lw_gd := tb_in (List.mem_append_right _ (List.mem_of_getElem? (i := 335) (by decide +kernel))) rfl
theorem iw_220 : Cond.instanceMethod yX2_stepsDone ∈ lw_gd := tb_in (List.mem_append_right _ (List.mem_of_getElem? (i := 336) (by decide +kernel))) rfl
theorem iw_221 : Cond.selects RX2 yX2_stepsDone yX2_stepsDone ∈ lw_gd := tb_in (List.mem_append_right _ (List.mem_of_getElem? (i := 337) (by decide +kernel))) rfl
theorem iw_222 : Cond.methodLink RX6 115 yX4_partsOfKind ∈ lw_gd := tb_in (List.mem_append_right _ (List.mem_of_getElem? (i := 343) (by decide +kernel))) rfl
theorem iw_223 : Cond.instanceMethod yX4_partsOfKind ∈ lw_gd := tb_in (List.mem_append_right _ (List.mem_of_getElem? (i := 344) (by decide +kernel))) rfl
theorem iw_224 : Cond.selects RX4 yX4_partsOfKind yX4_partsOfKind ∈ lw_gd := tb_in (List.mem_append_right _ (List.mem_of_getElem? (i := 345) (by decide +kernel))) rfl
theorem iw_225 : Cond.methodLink RX6 118 yX5_mostAround ∈ lw_gd := tb_in (List.mem_append_right _ (List.mem_of_getElem? (i := 348) (by decide +kernel))) rfl
theorem iw_226 : Cond.instanceMethod yX5_mostAround ∈ lw_gd := tb_in (List.mem_append_right _ (List.mem_of_getElem? (i := 349) (by decide +kernel))) rfl
theorem iw_227 : Cond.selects RX5 yX5_mostAround yX5_mostAround ∈ lw_gd := tb_in (List.mem_append_right _ (List.mem_of_getElem? (i := 350) (by decide +kernel))) rfl
theorem iw_228 : Cond.methodLink RX6 121 yX5_reduciblePlaces ∈ lw_gd := tb_in (List.mem_append_right _ (List.mem_of_getElem? (i := 353) (by decide +kernel))) rfl
theorem iw_229 : Cond.instanceMethod yX5_reduciblePlaces ∈ lw_gd := tb_in (List.mem_append_right _ (List.mem_of_getElem? (i := 354) (by decide +kernel))) rfl
theorem iw_230 : Cond.selects RX5 yX5_reduciblePlaces yX5_reduciblePlaces ∈ lw_gd := tb_in (List.mem_append_right _ (List.mem_of_getElem? (i := 355) (by decide +kernel))) rfl
theorem iw_231 : Cond.methodLink RX6 124 yX4_greatestVariable ∈ lw_gd := tb_in (List.mem_append_right _ (List.mem_of_getElem? (i := 357) (by decide +kernel))) rfl
theorem iw_232 : Cond.instanceMethod yX4_greatestVariable ∈ lw_gd := tb_in (List.mem_append_right _ (List.mem_of_getElem? (i := 358) (by decide +kernel))) rfl
theorem iw_233 : Cond.selects RX4 yX4_greatestVariable yX4_greatestVariable ∈ lw_gd := tb_in (List.mem_append_right _ (List.mem_of_getElem? (i := 359) (by decide +kernel))) rfl
theorem iw_234 : Cond.methodLink RX6 127 yX4_kind ∈ lw_gd := tb_in (List.mem_append_right _ (List.mem_of_getElem? (i := 265) (by decide +kernel))) rfl
theorem iw_235 : Cond.methodLink RX6 130 yX4_number ∈ lw_gd := tb_in (List.mem_append_right _ (List.mem_of_getElem? (i := 266) (by decide +kernel))) rfl
theorem iw_236 : Cond.methodLink RX6 133 yX5_around ∈ lw_gd := tb_in (List.mem_append_right _ (List.mem_of_getElem? (i := 270) (by decide +kernel))) rfl
theorem iw_237 : Cond.methodLink RX6 136 yX5_behind ∈ lw_gd := tb_in (List.mem_append_right _ (List.mem_of_getElem? (i := 367) (by decide +kernel))) rfl
theorem iw_238 : Cond.methodLink RX6 139 yX5_binder ∈ lw_gd := tb_in (List.mem_append_right _ (List.mem_of_getElem? (i := 368) (by decide +kernel))) rfl
theorem iw_239 : Cond.instanceMethod yX5_binder ∈ lw_gd := tb_in (List.mem_append_right _ (List.mem_of_getElem? (i := 369) (by decide +kernel))) rfl
theorem iw_240 : Cond.selects RX5 yX5_binder yX5_binder ∈ lw_gd := tb_in (List.mem_append_right _ (List.mem_of_getElem? (i := 370) (by decide +kernel))) rfl
theorem iw_241 : Cond.methodLink RX6 142 yX5_printed ∈ lw_gd := tb_in (List.mem_append_right _ (List.mem_of_getElem? (i := 377) (by decide +kernel))) rfl
theorem iw_242 : Cond.instanceMethod yX5_printed ∈ lw_gd := tb_in (List.mem_append_right _ (List.mem_of_getElem? (i := 378) (by decide +kernel))) rfl
theorem iw_243 : Cond.selects RX5 yX5_printed yX5_printed ∈ lw_gd := tb_in (List.mem_append_right _ (List.mem_of_getElem? (i := 379) (by decide +kernel))) rfl
theorem iw_244 : Cond.methodLink RX6 145 yX4_alikePartByPart ∈ lw_gd := tb_in (List.mem_append_right _ (List.mem_of_getElem? (i := 392) (by decide +kernel))) rfl
theorem iw_245 : Cond.instanceMethod yX4_alikePartByPart ∈ lw_gd := tb_in (List.mem_append_right _ (List.mem_of_getElem? (i := 393) (by decide +kernel))) rfl
theorem iw_246 : Cond.selects RX4 yX4_alikePartByPart yX4_alikePartByPart ∈ lw_gd := tb_in (List.mem_append_right _ (List.mem_of_getElem? (i := 394) (by decide +kernel))) rfl
theorem iw_247 : Cond.methodLink RX6 149 yX4_partsOfState ∈ lw_gd := tb_in (List.mem_append_right _ (List.mem_of_getElem? (i := 400) (by decide +kernel))) rfl
theorem iw_248 : Cond.instanceMethod yX4_partsOfState ∈ lw_gd := tb_in (List.mem_append_right _ (List.mem_of_getElem? (i := 401) (by decide +kernel))) rfl
theorem iw_249 : Cond.selects RX4 yX4_partsOfState yX4_partsOfState ∈ lw_gd := tb_in (List.mem_append_right _ (List.mem_of_getElem? (i := 402) (by decide +kernel))) rfl
theorem iw_250 : Cond.methodLink RX6 152 yX6_registersAtRest ∈ lw_gd := tb_in (List.mem_append_right _ (List.mem_of_getElem? (i := 404) (by decide +kernel))) rfl
theorem iw_251 : Cond.instanceMethod yX6_registersAtRest ∈ lw_gd := tb_in (List.mem_append_right _ (List.mem_of_getElem? (i := 406) (by decide +kernel))) rfl
theorem iw_252 : Cond.selects RX6 yX6_registersAtRest yX6_registersAtRest ∈ lw_gd := tb_in (List.mem_append_left _ (List.mem_of_getElem? (i := 9) (by decide +kernel))) rfl
theorem iw_253 : Cond.methodLink RX6 155 yX1_length ∈ lw_gd := tb_in (List.mem_append_right _ (List.mem_of_getElem? (i := 408) (by decide +kernel))) rfl
theorem iw_254 : Cond.instanceMethod yX1_length ∈ lw_gd := tb_in (List.mem_append_right _ (List.mem_of_getElem? (i := 409) (by decide +kernel))) rfl
theorem iw_255 : Cond.selects RX1 yX1_length yX1_length ∈ lw_gd := tb_in (List.mem_append_right _ (List.mem_of_getElem? (i := 410) (by decide +kernel))) rfl
theorem iw_256 : Cond.methodLink RX6 157 yX0_length ∈ lw_gd := tb_in (List.mem_append_right _ (List.mem_of_getElem? (i := 412) (by decide +kernel))) rfl
theorem iw_257 : Cond.instanceMethod yX0_length ∈ lw_gd := tb_in (List.mem_append_right _ (List.mem_of_getElem? (i := 413) (by decide +kernel))) rfl
theorem iw_258 : Cond.selects RX0 yX0_length yX0_length ∈ lw_gd := tb_in (List.mem_append_right _ (List.mem_of_getElem? (i := 414) (by decide +kernel))) rfl
theorem iw_259 : Cond.methodLink RX6 158 yX2_greatestLength ∈ lw_gd := tb_in (List.mem_append_right _ (List.mem_of_getElem? (i := 428) (by decide +kernel))) rfl
theorem iw_260 : Cond.instanceMethod yX2_greatestLength ∈ lw_gd := tb_in (List.mem_append_right _ (List.mem_of_getElem? (i := 429) (by decide +kernel))) rfl
theorem iw_261 : Cond.selects RX2 yX2_greatestLength yX2_greatestLength ∈ lw_gd := tb_in (List.mem_append_right _ (List.mem_of_getElem? (i := 430) (by decide +kernel))) rfl
theorem iw_262 : Cond.methodLink RX6 161 yX1_charactersIn ∈ lw_gd := tb_in (List.mem_append_right _ (List.mem_of_getElem? (i := 440) (by decide +kernel))) rfl
theorem iw_263 : Cond.static yX1_charactersIn ∈ lw_gd := tb_in (List.mem_append_right _ (List.mem_of_getElem? (i := 441) (by decide +kernel))) rfl
theorem iw_264 : Cond.methodLink RX6 165 yX1_append ∈ lw_gd := tb_in (List.mem_append_right _ (List.mem_of_getElem? (i := 446) (by decide +kernel))) rfl
theorem iw_265 : Cond.instanceMethod yX1_append ∈ lw_gd := tb_in (List.mem_append_right _ (List.mem_of_getElem? (i := 447) (by decide +kernel))) rfl
theorem iw_266 : Cond.selects RX1 yX1_append yX1_append ∈ lw_gd := tb_in (List.mem_append_right _ (List.mem_of_getElem? (i := 448) (by decide +kernel))) rfl
theorem iw_267 : Cond.methodLink RX6 168 yX0_takeBack ∈ lw_gd := tb_in (List.mem_append_right _ (List.mem_of_getElem? (i := 462) (by decide +kernel))) rfl
theorem iw_268 : Cond.instanceMethod yX0_takeBack ∈ lw_gd := tb_in (List.mem_append_right _ (List.mem_of_getElem? (i := 463) (by decide +kernel))) rfl
theorem iw_269 : Cond.selects RX0 yX0_takeBack yX0_takeBack ∈ lw_gd := tb_in (List.mem_append_right _ (List.mem_of_getElem? (i := 464) (by decide +kernel))) rfl
theorem iw_270 : Cond.methodLink RX6 171 yX6_isSlot ∈ lw_gd := tb_in (List.mem_append_right _ (List.mem_of_getElem? (i := 471) (by decide +kernel))) rfl
theorem iw_271 : Cond.static yX6_isSlot ∈ lw_gd := tb_in (List.mem_append_right _ (List.mem_of_getElem? (i := 472) (by decide +kernel))) rfl
theorem iw_272 : Cond.methodLink RX6 174 yX4_duplicateState ∈ lw_gd := tb_in (List.mem_append_right _ (List.mem_of_getElem? (i := 474) (by decide +kernel))) rfl
theorem iw_273 : Cond.methodLink RX7 1 Lib.objectInit ∈ lw_gd := tb_in (List.mem_append_right _ (List.mem_of_getElem? (i := 484) (by decide +kernel))) rfl
theorem iw_274 : Cond.fieldLink RX7 7 "CountedTermsModel" "state" "[I" ∈ lw_gd := tb_in (List.mem_append_right _ (List.mem_of_getElem? (i := 485) (by decide +kernel))) rfl
theorem iw_275 : Cond.fieldLink RX7 13 "CountedTermsModel" "history" "[I" ∈ lw_gd := tb_in (List.mem_append_right _ (List.mem_of_getElem? (i := 486) (by decide +kernel))) rfl
theorem iw_276 : Cond.fieldLink RX7 16 "CountedTermsModel" "slots" "[I" ∈ lw_gd := tb_in (List.mem_append_right _ (List.mem_of_getElem? (i := 488) (by decide +kernel))) rfl
theorem iw_277 : Cond.fieldLink RX7 19 "CountedTermsModel" "isSaved" "[I" ∈ lw_gd := tb_in (List.mem_append_right _ (List.mem_of_getElem? (i := 489) (by decide +kernel))) rfl
theorem iw_278 : Cond.fieldLink RX7 22 "CountedTermsModel" "pad" "[I" ∈ lw_gd := tb_in (List.mem_append_right _ (List.mem_of_getElem? (i := 490) (by decide +kernel))) rfl
theorem iw_279 : Cond.fieldLink RX7 25 "CountedTermsModel" "row" "[I" ∈ lw_gd := tb_in (List.mem_append_right _ (List.mem_of_getElem? (i := 492) (by decide +kernel))) rfl
theorem iw_280 : Cond.fieldLink RX7 28 "CountedTermsModel" "depths" "[I" ∈ lw_gd := tb_in (List.mem_append_right _ (List.mem_of_getElem? (i := 494) (by decide +kernel))) rfl
theorem iw_281 : Cond.fieldLink RX7 31 "CountedTermsModel" "next" "[I" ∈ lw_gd := tb_in (List.mem_append_right _ (List.mem_of_getElem? (i := 495) (by decide +kernel))) rfl
theorem iw_282 : Cond.fieldLink RX7 34 "CountedTermsModel" "pending" "[I" ∈ lw_gd := tb_in (List.mem_append_right _ (List.mem_of_getElem? (i := 497) (by decide +kernel))) rfl
theorem iw_283 : Cond.fieldLink RX7 37 "CountedTermsModel" "other" "[I" ∈ lw_gd := tb_in (List.mem_append_right _ (List.mem_of_getElem? (i := 498) (by decide +kernel))) rfl
theorem iw_284 : Cond.fieldLink RX7 40 "CountedTermsModel" "text" "[I" ∈ lw_gd := tb_in (List.mem_append_right _ (List.mem_of_getElem? (i := 500) (by decide +kernel))) rfl
theorem iw_285 : Cond.fieldLink RX7 43 "CountedTermsModel" "recorded" "I" ∈ lw_gd := tb_in (List.mem_append_right _ (List.mem_of_getElem? (i := 487) (by decide +kernel))) rfl
theorem iw_286 : Cond.methodLink RX7 47 yX7_moves ∈ lw_gd := tb_in (List.mem_append_right _ (List.mem_of_getElem? (i := 558) (by decide +kernel))) rfl
theorem iw_287 : Cond.static yX7_moves ∈ lw_gd := tb_in (List.mem_append_right _ (List.mem_of_getElem? (i := 559) (by decide +kernel))) rfl
theorem iw_288 : Cond.initialized RX7 ∈ lw_gd := tb_in (List.mem_append_right _ (List.mem_of_getElem? (i := 9) (by decide +kernel))) rfl
theorem iw_289 : Cond.methodLink RX7 51 yX7_within ∈ lw_gd := tb_in (List.mem_append_right _ (List.mem_of_getElem? (i := 544) (by decide +kernel))) rfl
theorem iw_290 : Cond.static yX7_within ∈ lw_gd := tb_in (List.mem_append_right _ (List.mem_of_getElem? (i := 545) (by decide +kernel))) rfl
theorem iw_291 : Cond.fieldLink RX7 55 "CountedTermsModel" "many" "I" ∈ lw_gd := tb_in (List.mem_append_right _ (List.mem_of_getElem? (i := 493) (by decide +kernel))) rfl
theorem iw_292 : Cond.methodLink RX7 58 yX7_findDepths ∈ lw_gd := tb_in (List.mem_append_right _ (List.mem_of_getElem? (i := 573) (by decide +kernel))) rfl
theorem iw_293 : Cond.instanceMethod yX7_findDepths ∈ lw_gd := tb_in (List.mem_append_right _ (List.mem_of_getElem? (i := 575) (by decide +kernel))) rfl
theorem iw_294 : Cond.selects RX7 yX7_findDepths yX7_findDepths ∈ lw_gd := tb_in (List.mem_append_left _ (List.mem_of_getElem? (i := 14) (by decide +kernel))) rfl
theorem iw_295 : Cond.methodLink RX7 61 yX7_kindAt ∈ lw_gd := tb_in (List.mem_append_right _ (List.mem_of_getElem? (i := 577) (by decide +kernel))) rfl
theorem iw_296 : Cond.instanceMethod yX7_kindAt ∈ lw_gd := tb_in (List.mem_append_right _ (List.mem_of_getElem? (i := 579) (by decide +kernel))) rfl
theorem iw_297 : Cond.selects RX7 yX7_kindAt yX7_kindAt ∈ lw_gd := tb_in (List.mem_append_left _ (List.mem_of_getElem? (i := 15) (by decide +kernel))) rfl
theorem iw_298 : Cond.methodLink RX7 65 yX7_isReducible ∈ lw_gd := tb_in (List.mem_append_right _ (List.mem_of_getElem? (i := 609) (by decide +kernel))) rfl
theorem iw_299 : Cond.instanceMethod yX7_isReducible ∈ lw_gd := tb_in (List.mem_append_right _ (List.mem_of_getElem? (i := 611) (by decide +kernel))) rfl
theorem iw_300 : Cond.selects RX7 yX7_isReducible yX7_isReducible ∈ lw_gd := tb_in (List.mem_append_left _ (List.mem_of_getElem? (i := 20) (by decide +kernel))) rfl
theorem iw_301 : Cond.methodLink RX7 69 yX7_endOf ∈ lw_gd := tb_in (List.mem_append_right _ (List.mem_of_getElem? (i := 613) (by decide +kernel))) rfl
theorem iw_302 : Cond.instanceMethod yX7_endOf ∈ lw_gd := tb_in (List.mem_append_right _ (List.mem_of_getElem? (i := 615) (by decide +kernel))) rfl
theorem iw_303 : Cond.selects RX7 yX7_endOf yX7_endOf ∈ lw_gd := tb_in (List.mem_append_left _ (List.mem_of_getElem? (i := 21) (by decide +kernel))) rfl
theorem iw_304 : Cond.methodLink RX7 72 yX7_hasReducible ∈ lw_gd := tb_in (List.mem_append_right _ (List.mem_of_getElem? (i := 617) (by decide +kernel))) rfl
theorem iw_305 : Cond.instanceMethod yX7_hasReducible ∈ lw_gd := tb_in (List.mem_append_right _ (List.mem_of_getElem? (i := 619) (by decide +kernel))) rfl
theorem iw_306 : Cond.selects RX7 yX7_hasReducible yX7_hasReducible ∈ lw_gd := tb_in (List.mem_append_left _ (List.mem_of_getElem? (i := 22) (by decide +kernel))) rfl
theorem iw_307 : Cond.methodLink RX7 76 yX7_canCome ∈ lw_gd := tb_in (List.mem_append_right _ (List.mem_of_getElem? (i := 605) (by decide +kernel))) rfl
theorem iw_308 : Cond.instanceMethod yX7_canCome ∈ lw_gd := tb_in (List.mem_append_right _ (List.mem_of_getElem? (i := 607) (by decide +kernel))) rfl
theorem iw_309 : Cond.selects RX7 yX7_canCome yX7_canCome ∈ lw_gd := tb_in (List.mem_append_left _ (List.mem_of_getElem? (i := 19) (by decide +kernel))) rfl
theorem iw_310 : Cond.fieldLink RX7 79 "CountedTermsModel" "nextMany" "I" ∈ lw_gd := tb_in (List.mem_append_right _ (List.mem_of_getElem? (i := 496) (by decide +kernel))) rfl
theorem iw_311 : Cond.methodLink RX7 82 yX7_numberAt ∈ lw_gd := tb_in (List.mem_append_right _ (List.mem_of_getElem? (i := 625) (by decide +kernel))) rfl
theorem iw_312 : Cond.instanceMethod yX7_numberAt ∈ lw_gd := tb_in (List.mem_append_right _ (List.mem_of_getElem? (i := 627) (by decide +kernel))) rfl
theorem iw_313 : Cond.selects RX7 yX7_numberAt yX7_numberAt ∈ lw_gd := tb_in (List.mem_append_left _ (List.mem_of_getElem? (i := 24) (by decide +kernel))) rfl
theorem iw_314 : Cond.methodLink RX7 85 yX7_gives ∈ lw_gd := tb_in (List.mem_append_right _ (List.mem_of_getElem? (i := 589) (by decide +kernel))) rfl
theorem iw_315 : Cond.instanceMethod yX7_gives ∈ lw_gd := tb_in (List.mem_append_right _ (List.mem_of_getElem? (i := 591) (by decide +kernel))) rfl
theorem iw_316 : Cond.selects RX7 yX7_gives yX7_gives ∈ lw_gd := tb_in (List.mem_append_left _ (List.mem_of_getElem? (i := 16) (by decide +kernel))) rfl
theorem iw_317 : Cond.methodLink RX7 89 yX7_givesArgument ∈ lw_gd := tb_in (List.mem_append_right _ (List.mem_of_getElem? (i := 633) (by decide +kernel))) rfl
theorem iw_318 : Cond.instanceMethod yX7_givesArgument ∈ lw_gd := tb_in (List.mem_append_right _ (List.mem_of_getElem? (i := 635) (by decide +kernel))) rfl
theorem iw_319 : Cond.selects RX7 yX7_givesArgument yX7_givesArgument ∈ lw_gd := tb_in (List.mem_append_left _ (List.mem_of_getElem? (i := 26) (by decide +kernel))) rfl
theorem iw_320 : Cond.methodLink RX7 93 yX7_nextBy ∈ lw_gd := tb_in (List.mem_append_right _ (List.mem_of_getElem? (i := 601) (by decide +kernel))) rfl
theorem iw_321 : Cond.instanceMethod yX7_nextBy ∈ lw_gd := tb_in (List.mem_append_right _ (List.mem_of_getElem? (i := 603) (by decide +kernel))) rfl
theorem iw_322 : Cond.selects RX7 yX7_nextBy yX7_nextBy ∈ lw_gd := tb_in (List.mem_append_left _ (List.mem_of_getElem? (i := 18) (by decide +kernel))) rfl
theorem iw_323 : Cond.methodLink RX7 96 yX7_usesOf ∈ lw_gd := tb_in (List.mem_append_right _ (List.mem_of_getElem? (i := 621) (by decide +kernel))) rfl
theorem iw_324 : Cond.instanceMethod yX7_usesOf ∈ lw_gd := tb_in (List.mem_append_right _ (List.mem_of_getElem? (i := 623) (by decide +kernel))) rfl
theorem iw_325 : Cond.selects RX7 yX7_usesOf yX7_usesOf ∈ lw_gd := tb_in (List.mem_append_left _ (List.mem_of_getElem? (i := 23) (by decide +kernel))) rfl
theorem iw_326 : Cond.methodLink RX7 100 yX7_givesBody ∈ lw_gd := tb_in (List.mem_append_right _ (List.mem_of_getElem? (i := 629) (by decide +kernel))) rfl
theorem iw_327 : Cond.instanceMethod yX7_givesBody ∈ lw_gd := tb_in (List.mem_append_right _ (List.mem_of_getElem? (i := 631) (by decide +kernel))) rfl
theorem iw_328 : Cond.selects RX7 yX7_givesBody yX7_givesBody ∈ lw_gd := tb_in (List.mem_append_left _ (List.mem_of_getElem? (i := 25) (by decide +kernel))) rfl
theorem iw_329 : Cond.methodLink RX7 103 yX7_goes ∈ lw_gd := tb_in (List.mem_append_right _ (List.mem_of_getElem? (i := 597) (by decide +kernel))) rfl
theorem iw_330 : Cond.instanceMethod yX7_goes ∈ lw_gd := tb_in (List.mem_append_right _ (List.mem_of_getElem? (i := 599) (by decide +kernel))) rfl
theorem iw_331 : Cond.selects RX7 yX7_goes yX7_goes ∈ lw_gd := tb_in (List.mem_append_left _ (List.mem_of_getElem? (i := 17) (by decide +kernel))) rfl
theorem iw_332 : Cond.methodLink RX7 106 yX7_isRegister ∈ lw_gd := tb_in (List.mem_append_right _ (List.mem_of_getElem? (i := 541) (by decide +kernel))) rfl
theorem iw_333 : Cond.static yX7_isRegister ∈ lw_gd := tb_in (List.mem_append_right _ (List.mem_of_getElem? (i := 542) (by decide +kernel))) rfl
theorem iw_334 : Cond.methodLink RX7 109 yX7_findFault ∈ lw_gd := tb_in (List.mem_append_right _ (List.mem_of_getElem? (i := 547) (by decide +kernel))) rfl
theorem iw_335 : Cond.instanceMethod yX7_findFault ∈ lw_gd := tb_in (List.mem_append_right _ (List.mem_of_getElem? (i := 549) (by decide +kernel))) rfl
theorem iw_336 : Cond.selects RX7 yX7_findFault yX7_findFault ∈ lw_gd := tb_in (List.mem_append_left _ (List.mem_of_getElem? (i := 10) (by decide +kernel))) rfl
theorem iw_337 : Cond.methodLink RX7 113 yX7_record ∈ lw_gd := tb_in (List.mem_append_right _ (List.mem_of_getElem? (i := 554) (by decide +kernel))) rfl
theorem iw_338 : Cond.instanceMethod yX7_record ∈ lw_gd := tb_in (List.mem_append_right _ (List.mem_of_getElem? (i := 556) (by decide +kernel))) rfl
theorem iw_339 : Cond.selects RX7 yX7_record yX7_record ∈ lw_gd := tb_in (List.mem_append_left _ (List.mem_of_getElem? (i := 11) (by decide +kernel))) rfl
theorem iw_340 : Cond.fieldLink RX7 116 "CountedTermsModel" "padLength" "I" ∈ lw_gd := tb_in (List.mem_append_right _ (List.mem_of_getElem? (i := 491) (by decide +kernel))) rfl
theorem iw_341 : Cond.methodLink RX7 119 yX7_partBy ∈ lw_gd := tb_in (List.mem_append_right _ (List.mem_of_getElem? (i := 551) (by decide +kernel))) rfl
theorem iw_342 : Cond.static yX7_partBy ∈ lw_gd := tb_in (List.mem_append_right _ (List.mem_of_getElem? (i := 552) (by decide +kernel))) rfl
theorem iw_343 : Cond.methodLink RX7 122 yX7_store ∈ lw_gd := tb_in (List.mem_append_right _ (List.mem_of_getElem? (i := 561) (by decide +kernel))) rfl
theorem iw_344 : Cond.instanceMethod yX7_store ∈ lw_gd := tb_in (List.mem_append_right _ (List.mem_of_getElem? (i := 563) (by decide +kernel))) rfl
theorem iw_345 : Cond.selects RX7 yX7_store yX7_store ∈ lw_gd := tb_in (List.mem_append_left _ (List.mem_of_getElem? (i := 12) (by decide +kernel))) rfl
theorem iw_346 : Cond.methodLink RX7 125 yX7_load ∈ lw_gd := tb_in (List.mem_append_right _ (List.mem_of_getElem? (i := 569) (by decide +kernel))) rfl
theorem iw_347 : Cond.instanceMethod yX7_load ∈ lw_gd := tb_in (List.mem_append_right _ (List.mem_of_getElem? (i := 571) (by decide +kernel))) rfl
theorem iw_348 : Cond.selects RX7 yX7_load yX7_load ∈ lw_gd := tb_in (List.mem_append_left _ (List.mem_of_getElem? (i := 13) (by decide +kernel))) rfl
theorem iw_349 : Cond.methodLink RX7 128 yX7_isRun ∈ lw_gd := tb_in (List.mem_append_right _ (List.mem_of_getElem? (i := 641) (by decide +kernel))) rfl
theorem iw_350 : Cond.static yX7_isRun ∈ lw_gd := tb_in (List.mem_append_right _ (List.mem_of_getElem? (i := 642) (by decide +kernel))) rfl
theorem iw_351 : Cond.methodLink RX7 131 yX7_goesOn ∈ lw_gd := tb_in (List.mem_append_right _ (List.mem_of_getElem? (i := 644) (by decide +kernel))) rfl
theorem iw_352 : Cond.instanceMethod yX7_goesOn ∈ lw_gd := tb_in (List.mem_append_right _ (List.mem_of_getElem? (i := 646) (by decide +kernel))) rfl
theorem iw_353 : Cond.selects RX7 yX7_goesOn yX7_goesOn ∈ lw_gd := tb_in (List.mem_append_left _ (List.mem_of_getElem? (i := 27) (by decide +kernel))) rfl
theorem iw_354 : Cond.methodLink RX7 134 yX7_ofKind ∈ lw_gd := tb_in (List.mem_append_right _ (List.mem_of_getElem? (i := 652) (by decide +kernel))) rfl
theorem iw_355 : Cond.instanceMethod yX7_ofKind ∈ lw_gd := tb_in (List.mem_append_right _ (List.mem_of_getElem? (i := 654) (by decide +kernel))) rfl
theorem iw_356 : Cond.selects RX7 yX7_ofKind yX7_ofKind ∈ lw_gd := tb_in (List.mem_append_left _ (List.mem_of_getElem? (i := 28) (by decide +kernel))) rfl
theorem iw_357 : Cond.methodLink RX7 137 yX7_deepest ∈ lw_gd := tb_in (List.mem_append_right _ (List.mem_of_getElem? (i := 656) (by decide +kernel))) rfl
theorem iw_358 : Cond.instanceMethod yX7_deepest ∈ lw_gd := tb_in (List.mem_append_right _ (List.mem_of_getElem? (i := 658) (by decide +kernel))) rfl
theorem iw_359 : Cond.selects RX7 yX7_deepest yX7_deepest ∈ lw_gd := tb_in (List.mem_append_left _ (List.mem_of_getElem? (i := 29) (by decide +kernel))) rfl
theorem iw_360 : Cond.methodLink RX7 140 yX7_reducibleMany ∈ lw_gd := tb_in (List.mem_append_right _ (List.mem_of_getElem? (i := 660) (by decide +kernel))) rfl
theorem iw_361 : Cond.instanceMethod yX7_reducibleMany ∈ lw_gd := tb_in (List.mem_append_right _ (List.mem_of_getElem? (i := 662) (by decide +kernel))) rfl
theorem iw_362 : Cond.selects RX7 yX7_reducibleMany yX7_reducibleMany ∈ lw_gd := tb_in (List.mem_append_left _ (List.mem_of_getElem? (i := 30) (by decide +kernel))) rfl
theorem iw_363 : Cond.methodLink RX7 143 yX7_greatest ∈ lw_gd := tb_in (List.mem_append_right _ (List.mem_of_getElem? (i := 664) (by decide +kernel))) rfl
theorem iw_364 : Cond.instanceMethod yX7_greatest ∈ lw_gd := tb_in (List.mem_append_right _ (List.mem_of_getElem? (i := 666) (by decide +kernel))) rfl
theorem iw_365 : Cond.selects RX7 yX7_greatest yX7_greatest ∈ lw_gd := tb_in (List.mem_append_left _ (List.mem_of_getElem? (i := 31) (by decide +kernel))) rfl
theorem iw_366 : Cond.methodLink RX7 146 yX7_binderOf ∈ lw_gd := tb_in (List.mem_append_right _ (List.mem_of_getElem? (i := 672) (by decide +kernel))) rfl
theorem iw_367 : Cond.instanceMethod yX7_binderOf ∈ lw_gd := tb_in (List.mem_append_right _ (List.mem_of_getElem? (i := 674) (by decide +kernel))) rfl
theorem iw_368 : Cond.selects RX7 yX7_binderOf yX7_binderOf ∈ lw_gd := tb_in (List.mem_append_left _ (List.mem_of_getElem? (i := 32) (by decide +kernel))) rfl
theorem iw_369 : Cond.fieldLink RX7 149 "CountedTermsModel" "textLength" "I" ∈ lw_gd := tb_in (List.mem_append_right _ (List.mem_of_getElem? (i := 501) (by decide +kernel))) rfl
theorem iw_370 : Cond.methodLink RX7 152 yX7_nameBy ∈ lw_gd := tb_in (List.mem_append_right _ (List.mem_of_getElem? (i := 684) (by decide +kernel))) rfl
theorem iw_371 : Cond.static yX7_nameBy ∈ lw_gd := tb_in (List.mem_append_right _ (List.mem_of_getElem? (i := 685) (by decide +kernel))) rfl
theorem iw_372 : Cond.methodLink RX7 155 yX7_says ∈ lw_gd := tb_in (List.mem_append_right _ (List.mem_of_getElem? (i := 687) (by decide +kernel))) rfl
theorem iw_373 : Cond.instanceMethod yX7_says ∈ lw_gd := tb_in (List.mem_append_right _ (List.mem_of_getElem? (i := 689) (by decide +kernel))) rfl
theorem iw_374 : Cond.selects RX7 yX7_says yX7_says ∈ lw_gd := tb_in (List.mem_append_left _ (List.mem_of_getElem? (i := 34) (by decide +kernel))) rfl
theorem iw_375 : Cond.methodLink RX7 158 yX7_print ∈ lw_gd := tb_in (List.mem_append_right _ (List.mem_of_getElem? (i := 680) (by decide +kernel))) rfl
theorem iw_376 : Cond.instanceMethod yX7_print ∈ lw_gd := tb_in (List.mem_append_right _ (List.mem_of_getElem? (i := 682) (by decide +kernel))) rfl
theorem iw_377 : Cond.selects RX7 yX7_print yX7_print ∈ lw_gd := tb_in (List.mem_append_left _ (List.mem_of_getElem? (i := 33) (by decide +kernel))) rfl
theorem iw_378 : Cond.methodLink RX7 161 yX7_allParts ∈ lw_gd := tb_in (List.mem_append_right _ (List.mem_of_getElem? (i := 699) (by decide +kernel))) rfl
theorem iw_379 : Cond.instanceMethod yX7_allParts ∈ lw_gd := tb_in (List.mem_append_right _ (List.mem_of_getElem? (i := 701) (by decide +kernel))) rfl
theorem iw_380 : Cond.selects RX7 yX7_allParts yX7_allParts ∈ lw_gd := tb_in (List.mem_append_left _ (List.mem_of_getElem? (i := 35) (by decide +kernel))) rfl
theorem iw_381 : Cond.methodLink RX7 164 yX7_atRest ∈ lw_gd := tb_in (List.mem_append_right _ (List.mem_of_getElem? (i := 703) (by decide +kernel))) rfl
theorem iw_382 : Cond.instanceMethod yX7_atRest ∈ lw_gd := tb_in (List.mem_append_right _ (List.mem_of_getElem? (i := 705) (by decide +kernel))) rfl
theorem iw_383 : Cond.selects RX7 yX7_atRest yX7_atRest ∈ lw_gd := tb_in (List.mem_append_left _ (List.mem_of_getElem? (i := 36) (by decide +kernel))) rfl
theorem iw_384 : Cond.fieldLink RX7 167 "CountedTermsModel" "otherMany" "I" ∈ lw_gd := tb_in (List.mem_append_right _ (List.mem_of_getElem? (i := 499) (by decide +kernel))) rfl
theorem iw_385 : Cond.methodLink RX7 170 yX7_meet ∈ lw_gd := tb_in (List.mem_append_right _ (List.mem_of_getElem? (i := 715) (by decide +kernel))) rfl
theorem iw_386 : Cond.instanceMethod yX7_meet ∈ lw_gd := tb_in (List.mem_append_right _ (List.mem_of_getElem? (i := 717) (by decide +kernel))) rfl
theorem iw_387 : Cond.selects RX7 yX7_meet yX7_meet ∈ lw_gd := tb_in (List.mem_append_left _ (List.mem_of_getElem? (i := 37) (by decide +kernel))) rfl
theorem iw_388 : Cond.constantLong RX7 174 (255 : Int64) ∈ lw_gd := tb_in (List.mem_append_right _ (List.mem_of_getElem? (i := 731) (by decide +kernel))) rfl
theorem iw_389 : Cond.classLink RL 7 RX6 ∈ lw_gd := tb_in (List.mem_append_right _ (List.mem_of_getElem? (i := 11) (by decide +kernel))) rfl
theorem iw_390 : Cond.instantiable RX6 5 ∈ lw_gd := tb_in (List.mem_append_right _ (List.mem_of_getElem? (i := 12) (by decide +kernel))) rfl
theorem iw_391 : Cond.methodLink RL 9 yX6_init ∈ lw_gd := tb_in (List.mem_append_right _ (List.mem_of_getElem? (i := 13) (by decide +kernel))) rfl
theorem iw_392 : Cond.instanceMethod yX6_init ∈ lw_gd := tb_in (List.mem_append_right _ (List.mem_of_getElem? (i := 14) (by decide +kernel))) rfl
theorem iw_393 : Cond.classLink RL 10 RX7 ∈ lw_gd := tb_in (List.mem_append_right _ (List.mem_of_getElem? (i := 479) (by decide +kernel))) rfl
theorem iw_394 : Cond.instantiable RX7 17 ∈ lw_gd := tb_in (List.mem_append_right _ (List.mem_of_getElem? (i := 480) (by decide +kernel))) rfl
theorem iw_395 : Cond.methodLink RL 12 yX7_init ∈ lw_gd := tb_in (List.mem_append_right _ (List.mem_of_getElem? (i := 481) (by decide +kernel))) rfl
theorem iw_396 : Cond.instanceMethod yX7_init ∈ lw_gd := tb_in (List.mem_append_right _ (List.mem_of_getElem? (i := 482) (by decide +kernel))) rfl
theorem iw_397 : Cond.methodLink RL 13 yX6_read ∈ lw_gd := tb_in (List.mem_append_right _ (List.mem_of_getElem? (i := 154) (by decide +kernel))) rfl
theorem iw_398 : Cond.instanceMethod yX6_read ∈ lw_gd := tb_in (List.mem_append_right _ (List.mem_of_getElem? (i := 155) (by decide +kernel))) rfl
theorem iw_399 : Cond.selects RX6 yX6_read yX6_read ∈ lw_gd := tb_in (List.mem_append_right _ (List.mem_of_getElem? (i := 156) (by decide +kernel))) rfl
theorem iw_400 : Cond.methodLink RL 17 yX7_read ∈ lw_gd := tb_in (List.mem_append_right _ (List.mem_of_getElem? (i := 537) (by decide +kernel))) rfl
theorem iw_401 : Cond.instanceMethod yX7_read ∈ lw_gd := tb_in (List.mem_append_right _ (List.mem_of_getElem? (i := 538) (by decide +kernel))) rfl
theorem iw_402 : Cond.selects RX7 yX7_read yX7_read ∈ lw_gd := tb_in (List.mem_append_right _ (List.mem_of_getElem? (i := 539) (by decide +kernel))) rfl
theorem iw_403 : Cond.methodLink RL 18 yX6_copy ∈ lw_gd := tb_in (List.mem_append_right _ (List.mem_of_getElem? (i := 215) (by decide +kernel))) rfl
theorem iw_404 : Cond.instanceMethod yX6_copy ∈ lw_gd := tb_in (List.mem_append_right _ (List.mem_of_getElem? (i := 216) (by decide +kernel))) rfl
theorem iw_405 : Cond.selects RX6 yX6_copy yX6_copy ∈ lw_gd := tb_in (List.mem_append_right _ (List.mem_of_getElem? (i := 217) (by decide +kernel))) rfl
theorem iw_406 : Cond.methodLink RL 22 yX7_copy ∈ lw_gd := tb_in (List.mem_append_right _ (List.mem_of_getElem? (i := 565) (by decide +kernel))) rfl
theorem iw_407 : Cond.instanceMethod yX7_copy ∈ lw_gd := tb_in (List.mem_append_right _ (List.mem_of_getElem? (i := 566) (by decide +kernel))) rfl
theorem iw_408 : Cond.selects RX7 yX7_copy yX7_copy ∈ lw_gd := tb_in (List.mem_append_right _ (List.mem_of_getElem? (i := 567) (by decide +kernel))) rfl
theorem iw_409 : Cond.methodLink RL 23 yX6_apply ∈ lw_gd := tb_in (List.mem_append_right _ (List.mem_of_getElem? (i := 220) (by decide +kernel))) rfl
theorem iw_410 : Cond.instanceMethod yX6_apply ∈ lw_gd := tb_in (List.mem_append_right _ (List.mem_of_getElem? (i := 221) (by decide +kernel))) rfl
theorem iw_411 : Cond.selects RX6 yX6_apply yX6_apply ∈ lw_gd := tb_in (List.mem_append_right _ (List.mem_of_getElem? (i := 222) (by decide +kernel))) rfl
theorem iw_412 : Cond.methodLink RL 27 yX7_apply ∈ lw_gd := tb_in (List.mem_append_right _ (List.mem_of_getElem? (i := 581) (by decide +kernel))) rfl
theorem iw_413 : Cond.instanceMethod yX7_apply ∈ lw_gd := tb_in (List.mem_append_right _ (List.mem_of_getElem? (i := 582) (by decide +kernel))) rfl
theorem iw_414 : Cond.selects RX7 yX7_apply yX7_apply ∈ lw_gd := tb_in (List.mem_append_right _ (List.mem_of_getElem? (i := 583) (by decide +kernel))) rfl
theorem iw_415 : Cond.methodLink RL 28 yX6_bind ∈ lw_gd := tb_in (List.mem_append_right _ (List.mem_of_getElem? (i := 226) (by decide +kernel))) rfl
theorem iw_416 : Cond.instanceMethod yX6_bind ∈ lw_gd := tb_in (List.mem_append_right _ (List.mem_of_getElem? (i := 227) (by decide +kernel))) rfl
theorem iw_417 : Cond.selects RX6 yX6_bind yX6_bind ∈ lw_gd := tb_in (List.mem_append_right _ (List.mem_of_getElem? (i := 228) (by decide +kernel))) rfl
theorem iw_418 : Cond.methodLink RL 31 yX7_bind ∈ lw_gd := tb_in (List.mem_append_right _ (List.mem_of_getElem? (i := 585) (by decide +kernel))) rfl
theorem iw_419 : Cond.instanceMethod yX7_bind ∈ lw_gd := tb_in (List.mem_append_right _ (List.mem_of_getElem? (i := 586) (by decide +kernel))) rfl
theorem iw_420 : Cond.selects RX7 yX7_bind yX7_bind ∈ lw_gd := tb_in (List.mem_append_right _ (List.mem_of_getElem? (i := 587) (by decide +kernel))) rfl
theorem iw_421 : Cond.methodLink RL 32 yX6_step ∈ lw_gd := tb_in (List.mem_append_right _ (List.mem_of_getElem? (i := 271) (by decide +kernel))) rfl
theorem iw_422 : Cond.instanceMethod yX6_step ∈ lw_gd := tb_in (List.mem_append_right _ (List.mem_of_getElem? (i := 272) (by decide +kernel))) rfl
theorem iw_423 : Cond.selects RX6 yX6_step yX6_step ∈ lw_gd := tb_in (List.mem_append_right _ (List.mem_of_getElem? (i := 273) (by decide +kernel))) rfl
theorem iw_424 : Cond.methodLink RL 35 yX7_step ∈ lw_gd := tb_in (List.mem_append_right _ (List.mem_of_getElem? (i := 593) (by decide +kernel))) rfl
theorem iw_425 : Cond.instanceMethod yX7_step ∈ lw_gd := tb_in (List.mem_append_right _ (List.mem_of_getElem? (i := 594) (by decide +kernel))) rfl
theorem iw_426 : Cond.selects RX7 yX7_step yX7_step ∈ lw_gd := tb_in (List.mem_append_right _ (List.mem_of_getElem? (i := 595) (by decide +kernel))) rfl
theorem iw_427 : Cond.methodLink RL 36 yX6_run ∈ lw_gd := tb_in (List.mem_append_right _ (List.mem_of_getElem? (i := 319) (by decide +kernel))) rfl
theorem iw_428 : Cond.instanceMethod yX6_run ∈ lw_gd := tb_in (List.mem_append_right _ (List.mem_of_getElem? (i := 320) (by decide +kernel))) rfl
theorem iw_429 : Cond.selects RX6 yX6_run yX6_run ∈ lw_gd := tb_in (List.mem_append_right _ (List.mem_of_getElem? (i := 321) (by decide +kernel))) rfl
theorem iw_430 : Cond.methodLink RL 39 yX7_run ∈ lw_gd := tb_in (List.mem_append_right _ (List.mem_of_getElem? (i := 637) (by decide +kernel))) rfl
theorem iw_431 : Cond.instanceMethod yX7_run ∈ lw_gd := tb_in (List.mem_append_right _ (List.mem_of_getElem? (i := 638) (by decide +kernel))) rfl
theorem iw_432 : Cond.selects RX7 yX7_run yX7_run ∈ lw_gd := tb_in (List.mem_append_right _ (List.mem_of_getElem? (i := 639) (by decide +kernel))) rfl
theorem iw_433 : Cond.methodLink RL 40 yX6_of ∈ lw_gd := tb_in (List.mem_append_right _ (List.mem_of_getElem? (i := 339) (by decide +kernel))) rfl
theorem iw_434 : Cond.instanceMethod yX6_of ∈ lw_gd := tb_in (List.mem_append_right _ (List.mem_of_getElem? (i := 340) (by decide +kernel))) rfl
theorem iw_435 : Cond.selects RX6 yX6_of yX6_of ∈ lw_gd := tb_in (List.mem_append_right _ (List.mem_of_getElem? (i := 341) (by decide +kernel))) rfl
theorem iw_436 : Cond.methodLink RL 43 yX7_of ∈ lw_gd := tb_in (List.mem_append_right _ (List.mem_of_getElem? (i := 648) (by decide +kernel))) rfl
theorem iw_437 : Cond.instanceMethod yX7_of ∈ lw_gd := tb_in (List.mem_append_right _ (List.mem_of_getElem? (i := 649) (by decide +kernel))) rfl
theorem iw_438 : Cond.selects RX7 yX7_of yX7_of ∈ lw_gd := tb_in (List.mem_append_right _ (List.mem_of_getElem? (i := 650) (by decide +kernel))) rfl
theorem iw_439 : Cond.methodLink RL 44 yX6_part ∈ lw_gd := tb_in (List.mem_append_right _ (List.mem_of_getElem? (i := 363) (by decide +kernel))) rfl
theorem iw_440 : Cond.instanceMethod yX6_part ∈ lw_gd := tb_in (List.mem_append_right _ (List.mem_of_getElem? (i := 364) (by decide +kernel))) rfl
theorem iw_441 : Cond.selects RX6 yX6_part yX6_part ∈ lw_gd := tb_in (List.mem_append_right _ (List.mem_of_getElem? (i := 365) (by decide +kernel))) rfl
theorem iw_442 : Cond.methodLink RL 47 yX7_part ∈ lw_gd := tb_in (List.mem_append_right _ (List.mem_of_getElem? (i := 668) (by decide +kernel))) rfl
theorem iw_443 : Cond.instanceMethod yX7_part ∈ lw_gd := tb_in (List.mem_append_right _ (List.mem_of_getElem? (i := 669) (by decide +kernel))) rfl
theorem iw_444 : Cond.selects RX7 yX7_part yX7_part ∈ lw_gd := tb_in (List.mem_append_right _ (List.mem_of_getElem? (i := 670) (by decide +kernel))) rfl
theorem iw_445 : Cond.methodLink RL 48 yX6_named ∈ lw_gd := tb_in (List.mem_append_right _ (List.mem_of_getElem? (i := 373) (by decide +kernel))) rfl
theorem iw_446 : Cond.instanceMethod yX6_named ∈ lw_gd := tb_in (List.mem_append_right _ (List.mem_of_getElem? (i := 374) (by decide +kernel))) rfl
theorem iw_447 : Cond.selects RX6 yX6_named yX6_named ∈ lw_gd := tb_in (List.mem_append_right _ (List.mem_of_getElem? (i := 375) (by decide +kernel))) rfl
theorem iw_448 : Cond.methodLink RL 51 yX7_named ∈ lw_gd := tb_in (List.mem_append_right _ (List.mem_of_getElem? (i := 676) (by decide +kernel))) rfl
theorem iw_449 : Cond.instanceMethod yX7_named ∈ lw_gd := tb_in (List.mem_append_right _ (List.mem_of_getElem? (i := 677) (by decide +kernel))) rfl
theorem iw_450 : Cond.selects RX7 yX7_named yX7_named ∈ lw_gd := tb_in (List.mem_append_right _ (List.mem_of_getElem? (i := 678) (by decide +kernel))) rfl
theorem iw_451 : Cond.methodLink RL 52 yX6_same ∈ lw_gd := tb_in (List.mem_append_right _ (List.mem_of_getElem? (i := 388) (by decide +kernel))) rfl
theorem iw_452 : Cond.instanceMethod yX6_same ∈ lw_gd := tb_in (List.mem_append_right _ (List.mem_of_getElem? (i := 389) (by decide +kernel))) rfl
theorem iw_453 : Cond.selects RX6 yX6_same yX6_same ∈ lw_gd := tb_in (List.mem_append_right _ (List.mem_of_getElem? (i := 390) (by decide +kernel))) rfl
theorem iw_454 : Cond.methodLink RL 55 yX7_same ∈ lw_gd := tb_in (List.mem_append_right _ (List.mem_of_getElem? (i := 691) (by decide +kernel))) rfl
theorem iw_455 : Cond.instanceMethod yX7_same ∈ lw_gd := tb_in (List.mem_append_right _ (List.mem_of_getElem? (i := 692) (by decide +kernel))) rfl
theorem iw_456 : Cond.selects RX7 yX7_same yX7_same ∈ lw_gd := tb_in (List.mem_append_right _ (List.mem_of_getElem? (i := 693) (by decide +kernel))) rfl
theorem iw_457 : Cond.methodLink RL 56 yX6_count ∈ lw_gd := tb_in (List.mem_append_right _ (List.mem_of_getElem? (i := 396) (by decide +kernel))) rfl
theorem iw_458 : Cond.instanceMethod yX6_count ∈ lw_gd := tb_in (List.mem_append_right _ (List.mem_of_getElem? (i := 397) (by decide +kernel))) rfl
theorem iw_459 : Cond.selects RX6 yX6_count yX6_count ∈ lw_gd := tb_in (List.mem_append_right _ (List.mem_of_getElem? (i := 398) (by decide +kernel))) rfl
theorem iw_460 : Cond.methodLink RL 59 yX7_count ∈ lw_gd := tb_in (List.mem_append_right _ (List.mem_of_getElem? (i := 695) (by decide +kernel))) rfl
theorem iw_461 : Cond.instanceMethod yX7_count ∈ lw_gd := tb_in (List.mem_append_right _ (List.mem_of_getElem? (i := 696) (by decide +kernel))) rfl
theorem iw_462 : Cond.selects RX7 yX7_count yX7_count ∈ lw_gd := tb_in (List.mem_append_right _ (List.mem_of_getElem? (i := 697) (by decide +kernel))) rfl
theorem iw_463 : Cond.methodLink RL 60 yX6_ends ∈ lw_gd := tb_in (List.mem_append_right _ (List.mem_of_getElem? (i := 416) (by decide +kernel))) rfl
theorem iw_464 : Cond.instanceMethod yX6_ends ∈ lw_gd := tb_in (List.mem_append_right _ (List.mem_of_getElem? (i := 417) (by decide +kernel))) rfl
theorem iw_465 : Cond.selects RX6 yX6_ends yX6_ends ∈ lw_gd := tb_in (List.mem_append_right _ (List.mem_of_getElem? (i := 418) (by decide +kernel))) rfl
theorem iw_466 : Cond.methodLink RL 63 yX7_ends ∈ lw_gd := tb_in (List.mem_append_right _ (List.mem_of_getElem? (i := 707) (by decide +kernel))) rfl
theorem iw_467 : Cond.instanceMethod yX7_ends ∈ lw_gd := tb_in (List.mem_append_right _ (List.mem_of_getElem? (i := 708) (by decide +kernel))) rfl
theorem iw_468 : Cond.selects RX7 yX7_ends yX7_ends ∈ lw_gd := tb_in (List.mem_append_right _ (List.mem_of_getElem? (i := 709) (by decide +kernel))) rfl
theorem iw_469 : Cond.methodLink RL 64 yX6_agree ∈ lw_gd := tb_in (List.mem_append_right _ (List.mem_of_getElem? (i := 420) (by decide +kernel))) rfl
theorem iw_470 : Cond.instanceMethod yX6_agree ∈ lw_gd := tb_in (List.mem_append_right _ (List.mem_of_getElem? (i := 421) (by decide +kernel))) rfl
theorem iw_471 : Cond.selects RX6 yX6_agree yX6_agree ∈ lw_gd := tb_in (List.mem_append_right _ (List.mem_of_getElem? (i := 422) (by decide +kernel))) rfl
theorem iw_472 : Cond.methodLink RL 67 yX7_agree ∈ lw_gd := tb_in (List.mem_append_right _ (List.mem_of_getElem? (i := 711) (by decide +kernel))) rfl
theorem iw_473 : Cond.instanceMethod yX7_agree ∈ lw_gd := tb_in (List.mem_append_right _ (List.mem_of_getElem? (i := 712) (by decide +kernel))) rfl
theorem iw_474 : Cond.selects RX7 yX7_agree yX7_agree ∈ lw_gd := tb_in (List.mem_append_right _ (List.mem_of_getElem? (i := 713) (by decide +kernel))) rfl
theorem iw_475 : Cond.methodLink RL 68 yX6_most ∈ lw_gd := tb_in (List.mem_append_right _ (List.mem_of_getElem? (i := 424) (by decide +kernel))) rfl
theorem iw_476 : Cond.instanceMethod yX6_most ∈ lw_gd := tb_in (List.mem_append_right _ (List.mem_of_getElem? (i := 425) (by decide +kernel))) rfl
theorem iw_477 : Cond.selects RX6 yX6_most yX6_most ∈ lw_gd := tb_in (List.mem_append_right _ (List.mem_of_getElem? (i := 426) (by decide +kernel))) rfl
theorem iw_478 : Cond.methodLink RL 71 yX7_most ∈ lw_gd := tb_in (List.mem_append_right _ (List.mem_of_getElem? (i := 719) (by decide +kernel))) rfl
theorem iw_479 : Cond.instanceMethod yX7_most ∈ lw_gd := tb_in (List.mem_append_right _ (List.mem_of_getElem? (i := 720) (by decide +kernel))) rfl
theorem iw_480 : Cond.selects RX7 yX7_most yX7_most ∈ lw_gd := tb_in (List.mem_append_right _ (List.mem_of_getElem? (i := 721) (by decide +kernel))) rfl
theorem iw_481 : Cond.methodLink RL 72 yX6_alike ∈ lw_gd := tb_in (List.mem_append_right _ (List.mem_of_getElem? (i := 432) (by decide +kernel))) rfl
theorem iw_482 : Cond.instanceMethod yX6_alike ∈ lw_gd := tb_in (List.mem_append_right _ (List.mem_of_getElem? (i := 433) (by decide +kernel))) rfl
theorem iw_483 : Cond.selects RX6 yX6_alike yX6_alike ∈ lw_gd := tb_in (List.mem_append_right _ (List.mem_of_getElem? (i := 434) (by decide +kernel))) rfl
theorem iw_484 : Cond.methodLink RL 75 yX7_alike ∈ lw_gd := tb_in (List.mem_append_right _ (List.mem_of_getElem? (i := 723) (by decide +kernel))) rfl
theorem iw_485 : Cond.instanceMethod yX7_alike ∈ lw_gd := tb_in (List.mem_append_right _ (List.mem_of_getElem? (i := 724) (by decide +kernel))) rfl
theorem iw_486 : Cond.selects RX7 yX7_alike yX7_alike ∈ lw_gd := tb_in (List.mem_append_right _ (List.mem_of_getElem? (i := 725) (by decide +kernel))) rfl
theorem iw_487 : Cond.constantLong RL 76 (4294967295 : Int64) ∈ lw_gd := tb_in (List.mem_append_right _ (List.mem_of_getElem? (i := 752) (by decide +kernel))) rfl
theorem iw_488 : Cond.methodLink RL 78 yX6_put ∈ lw_gd := tb_in (List.mem_append_right _ (List.mem_of_getElem? (i := 436) (by decide +kernel))) rfl
theorem iw_489 : Cond.instanceMethod yX6_put ∈ lw_gd := tb_in (List.mem_append_right _ (List.mem_of_getElem? (i := 437) (by decide +kernel))) rfl
theorem iw_490 : Cond.selects RX6 yX6_put yX6_put ∈ lw_gd := tb_in (List.mem_append_right _ (List.mem_of_getElem? (i := 438) (by decide +kernel))) rfl
theorem iw_491 : Cond.methodLink RL 82 yX7_put ∈ lw_gd := tb_in (List.mem_append_right _ (List.mem_of_getElem? (i := 727) (by decide +kernel))) rfl
theorem iw_492 : Cond.instanceMethod yX7_put ∈ lw_gd := tb_in (List.mem_append_right _ (List.mem_of_getElem? (i := 728) (by decide +kernel))) rfl
theorem iw_493 : Cond.selects RX7 yX7_put yX7_put ∈ lw_gd := tb_in (List.mem_append_right _ (List.mem_of_getElem? (i := 729) (by decide +kernel))) rfl
theorem iw_494 : Cond.methodLink RL 83 yX6_wipe ∈ lw_gd := tb_in (List.mem_append_right _ (List.mem_of_getElem? (i := 450) (by decide +kernel))) rfl
theorem iw_495 : Cond.instanceMethod yX6_wipe ∈ lw_gd := tb_in (List.mem_append_right _ (List.mem_of_getElem? (i := 451) (by decide +kernel))) rfl
theorem iw_496 : Cond.selects RX6 yX6_wipe yX6_wipe ∈ lw_gd := tb_in (List.mem_append_right _ (List.mem_of_getElem? (i := 452) (by decide +kernel))) rfl
theorem iw_497 : Cond.methodLink RL 87 yX7_wipe ∈ lw_gd := tb_in (List.mem_append_right _ (List.mem_of_getElem? (i := 732) (by decide +kernel))) rfl
theorem iw_498 : Cond.instanceMethod yX7_wipe ∈ lw_gd := tb_in (List.mem_append_right _ (List.mem_of_getElem? (i := 733) (by decide +kernel))) rfl
theorem iw_499 : Cond.selects RX7 yX7_wipe yX7_wipe ∈ lw_gd := tb_in (List.mem_append_right _ (List.mem_of_getElem? (i := 734) (by decide +kernel))) rfl
theorem iw_500 : Cond.methodLink RL 88 yX6_fault ∈ lw_gd := tb_in (List.mem_append_right _ (List.mem_of_getElem? (i := 454) (by decide +kernel))) rfl
theorem iw_501 : Cond.instanceMethod yX6_fault ∈ lw_gd := tb_in (List.mem_append_right _ (List.mem_of_getElem? (i := 455) (by decide +kernel))) rfl
theorem iw_502 : Cond.selects RX6 yX6_fault yX6_fault ∈ lw_gd := tb_in (List.mem_append_right _ (List.mem_of_getElem? (i := 456) (by decide +kernel))) rfl
theorem iw_503 : Cond.methodLink RL 91 yX7_fault ∈ lw_gd := tb_in (List.mem_append_right _ (List.mem_of_getElem? (i := 736) (by decide +kernel))) rfl
theorem iw_504 : Cond.instanceMethod yX7_fault ∈ lw_gd := tb_in (List.mem_append_right _ (List.mem_of_getElem? (i := 737) (by decide +kernel))) rfl
theorem iw_505 : Cond.selects RX7 yX7_fault yX7_fault ∈ lw_gd := tb_in (List.mem_append_right _ (List.mem_of_getElem? (i := 738) (by decide +kernel))) rfl
theorem iw_506 : Cond.methodLink RL 92 yX6_undo ∈ lw_gd := tb_in (List.mem_append_right _ (List.mem_of_getElem? (i := 458) (by decide +kernel))) rfl
theorem iw_507 : Cond.instanceMethod yX6_undo ∈ lw_gd := tb_in (List.mem_append_right _ (List.mem_of_getElem? (i := 459) (by decide +kernel))) rfl
theorem iw_508 : Cond.selects RX6 yX6_undo yX6_undo ∈ lw_gd := tb_in (List.mem_append_right _ (List.mem_of_getElem? (i := 460) (by decide +kernel))) rfl
theorem iw_509 : Cond.methodLink RL 95 yX7_undo ∈ lw_gd := tb_in (List.mem_append_right _ (List.mem_of_getElem? (i := 740) (by decide +kernel))) rfl
theorem iw_510 : Cond.instanceMethod yX7_undo ∈ lw_gd := tb_in (List.mem_append_right _ (List.mem_of_getElem? (i := 741) (by decide +kernel))) rfl
theorem iw_511 : Cond.selects RX7 yX7_undo yX7_undo ∈ lw_gd := tb_in (List.mem_append_right _ (List.mem_of_getElem? (i := 742) (by decide +kernel))) rfl
theorem iw_512 : Cond.methodLink RL 96 yX6_save ∈ lw_gd := tb_in (List.mem_append_right _ (List.mem_of_getElem? (i := 467) (by decide +kernel))) rfl
theorem iw_513 : Cond.instanceMethod yX6_save ∈ lw_gd := tb_in (List.mem_append_right _ (List.mem_of_getElem? (i := 468) (by decide +kernel))) rfl
theorem iw_514 : Cond.selects RX6 yX6_save yX6_save ∈ lw_gd := tb_in (List.mem_append_right _ (List.mem_of_getElem? (i := 469) (by decide +kernel))) rfl
theorem iw_515 : Cond.methodLink RL 99 yX7_save ∈ lw_gd := tb_in (List.mem_append_right _ (List.mem_of_getElem? (i := 744) (by decide +kernel))) rfl
theorem iw_516 : Cond.instanceMethod yX7_save ∈ lw_gd := tb_in (List.mem_append_right _ (List.mem_of_getElem? (i := 745) (by decide +kernel))) rfl
theorem iw_517 : Cond.selects RX7 yX7_save yX7_save ∈ lw_gd := tb_in (List.mem_append_right _ (List.mem_of_getElem? (i := 746) (by decide +kernel))) rfl
theorem iw_518 : Cond.methodLink RL 100 yX6_restore ∈ lw_gd := tb_in (List.mem_append_right _ (List.mem_of_getElem? (i := 475) (by decide +kernel))) rfl
theorem iw_519 : Cond.instanceMethod yX6_restore ∈ lw_gd := tb_in (List.mem_append_right _ (List.mem_of_getElem? (i := 476) (by decide +kernel))) rfl
theorem iw_520 : Cond.selects RX6 yX6_restore yX6_restore ∈ lw_gd := tb_in (List.mem_append_right _ (List.mem_of_getElem? (i := 477) (by decide +kernel))) rfl
theorem iw_521 : Cond.methodLink RL 103 yX7_restore ∈ lw_gd := tb_in (List.mem_append_right _ (List.mem_of_getElem? (i := 748) (by decide +kernel))) rfl
theorem iw_522 : Cond.instanceMethod yX7_restore ∈ lw_gd := tb_in (List.mem_append_right _ (List.mem_of_getElem? (i := 749) (by decide +kernel))) rfl
theorem iw_523 : Cond.selects RX7 yX7_restore yX7_restore ∈ lw_gd := tb_in (List.mem_append_right _ (List.mem_of_getElem? (i := 750) (by decide +kernel))) rfl
theorem iw_524 : Cond.code yX0_init cX0_init 2 none ∈ lw_gd := tb_in (List.mem_append_right _ (List.mem_of_getElem? (i := 96) (by decide +kernel))) rfl
theorem iw_525 : Cond.code yX0_length cX0_length 1 (some .int) ∈ lw_gd := tb_in (List.mem_append_right _ (List.mem_of_getElem? (i := 415) (by decide +kernel))) rfl
theorem iw_526 : Cond.code yX0_keepState cX0_keepState 1 none ∈ lw_gd := tb_in (List.mem_append_right _ (List.mem_of_getElem? (i := 173) (by decide +kernel))) rfl
theorem iw_527 : Cond.code yX0_takeBack cX0_takeBack 1 none ∈ lw_gd := tb_in (List.mem_append_right _ (List.mem_of_getElem? (i := 465) (by decide +kernel))) rfl
theorem iw_528 : Cond.code yX1_init cX1_init 1 none ∈ lw_gd := tb_in (List.mem_append_right _ (List.mem_of_getElem? (i := 112) (by decide +kernel))) rfl
theorem iw_529 : Cond.code yX1_charactersIn cX1_charactersIn 7 (some .int) ∈ lw_gd := tb_in (List.mem_append_right _ (List.mem_of_getElem? (i := 442) (by decide +kernel))) rfl
theorem iw_530 : Cond.code yX1_length cX1_length 1 (some .int) ∈ lw_gd := tb_in (List.mem_append_right _ (List.mem_of_getElem? (i := 411) (by decide +kernel))) rfl
theorem iw_531 : Cond.code yX1_empty cX1_empty 1 none ∈ lw_gd := tb_in (List.mem_append_right _ (List.mem_of_getElem? (i := 213) (by decide +kernel))) rfl
theorem iw_532 : Cond.code yX1_append cX1_append 5 none ∈ lw_gd := tb_in (List.mem_append_right _ (List.mem_of_getElem? (i := 449) (by decide +kernel))) rfl
theorem iw_533 : Cond.code yX1_firstWrong cX1_firstWrong 6 (some .int) ∈ lw_gd := tb_in (List.mem_append_right _ (List.mem_of_getElem? (i := 164) (by decide +kernel))) rfl
theorem iw_534 : Cond.code yX1_writeTo cX1_writeTo 7 none ∈ lw_gd := tb_in (List.mem_append_right _ (List.mem_of_getElem? (i := 207) (by decide +kernel))) rfl
theorem iw_535 : Cond.code yX1_kindOf cX1_kindOf 1 (some .int) ∈ lw_gd := tb_in (List.mem_append_right _ (List.mem_of_getElem? (i := 169) (by decide +kernel))) rfl
theorem iw_536 : Cond.code yX2_init cX2_init 3 none ∈ lw_gd := tb_in (List.mem_append_right _ (List.mem_of_getElem? (i := 77) (by decide +kernel))) rfl
theorem iw_537 : Cond.code yX2_stepsDone cX2_stepsDone 1 (some .int) ∈ lw_gd := tb_in (List.mem_append_right _ (List.mem_of_getElem? (i := 338) (by decide +kernel))) rfl
theorem iw_538 : Cond.code yX2_greatestLength cX2_greatestLength 1 (some .int) ∈ lw_gd := tb_in (List.mem_append_right _ (List.mem_of_getElem? (i := 431) (by decide +kernel))) rfl
theorem iw_539 : Cond.code yX2_doSteps cX2_doSteps 6 (some .boolean) ∈ lw_gd := tb_in (List.mem_append_right _ (List.mem_of_getElem? (i := 329) (by decide +kernel))) rfl
theorem iw_540 : Cond.code yX2_lengthBehind cX2_lengthBehind 7 (some .int) ∈ lw_gd := tb_in (List.mem_append_right _ (List.mem_of_getElem? (i := 293) (by decide +kernel))) rfl
theorem iw_541 : Cond.code yX2_rewrite cX2_rewrite 8 none ∈ lw_gd := tb_in (List.mem_append_right _ (List.mem_of_getElem? (i := 310) (by decide +kernel))) rfl
theorem iw_542 : Cond.code yX2_draftArgument cX2_draftArgument 9 none ∈ lw_gd := tb_in (List.mem_append_right _ (List.mem_of_getElem? (i := 317) (by decide +kernel))) rfl
theorem iw_543 : Cond.code yX2_functionsWithin cX2_functionsWithin 3 (some .int) ∈ lw_gd := tb_in (List.mem_append_right _ (List.mem_of_getElem? (i := 304) (by decide +kernel))) rfl
theorem iw_544 : Cond.code yX3_init cX3_init 2 none ∈ lw_gd := tb_in (List.mem_append_right _ (List.mem_of_getElem? (i := 29) (by decide +kernel))) rfl
theorem iw_545 : Cond.code yX3_get cX3_get 2 (some .int) ∈ lw_gd := tb_in (List.mem_append_right _ (List.mem_of_getElem? (i := 133) (by decide +kernel))) rfl
theorem iw_546 : Cond.code yX3_set cX3_set 3 none ∈ lw_gd := tb_in (List.mem_append_right _ (List.mem_of_getElem? (i := 137) (by decide +kernel))) rfl
theorem iw_547 : Cond.code yX3_move cX3_move 5 none ∈ lw_gd := tb_in (List.mem_append_right _ (List.mem_of_getElem? (i := 197) (by decide +kernel))) rfl
theorem iw_548 : Cond.code yX4_init cX4_init 1 none ∈ lw_gd := tb_in (List.mem_append_right _ (List.mem_of_getElem? (i := 23) (by decide +kernel))) rfl
theorem iw_549 : Cond.code yX4_length cX4_length 2 (some .int) ∈ lw_gd := tb_in (List.mem_append_right _ (List.mem_of_getElem? (i := 189) (by decide +kernel))) rfl
theorem iw_550 : Cond.code yX4_kind cX4_kind 3 (some .int) ∈ lw_gd := tb_in (List.mem_append_right _ (List.mem_of_getElem? (i := 246) (by decide +kernel))) rfl
theorem iw_551 : Cond.code yX4_number cX4_number 3 (some .int) ∈ lw_gd := tb_in (List.mem_append_right _ (List.mem_of_getElem? (i := 269) (by decide +kernel))) rfl
theorem iw_552 : Cond.code yX4_clear cX4_clear 2 none ∈ lw_gd := tb_in (List.mem_append_right _ (List.mem_of_getElem? (i := 185) (by decide +kernel))) rfl
theorem iw_553 : Cond.code yX4_append cX4_append 5 none ∈ lw_gd := tb_in (List.mem_append_right _ (List.mem_of_getElem? (i := 129) (by decide +kernel))) rfl
theorem iw_554 : Cond.code yX4_appendParts cX4_appendParts 7 none ∈ lw_gd := tb_in (List.mem_append_right _ (List.mem_of_getElem? (i := 193) (by decide +kernel))) rfl
theorem iw_555 : Cond.code yX4_duplicate cX4_duplicate 3 none ∈ lw_gd := tb_in (List.mem_append_right _ (List.mem_of_getElem? (i := 181) (by decide +kernel))) rfl
theorem iw_556 : Cond.code yX4_duplicateState cX4_duplicateState 4 none ∈ lw_gd := tb_in (List.mem_append_right _ (List.mem_of_getElem? (i := 177) (by decide +kernel))) rfl
theorem iw_557 : Cond.code yX4_alikePartByPart cX4_alikePartByPart 4 (some .boolean) ∈ lw_gd := tb_in (List.mem_append_right _ (List.mem_of_getElem? (i := 395) (by decide +kernel))) rfl
theorem iw_558 : Cond.code yX4_partsOfKind cX4_partsOfKind 5 (some .int) ∈ lw_gd := tb_in (List.mem_append_right _ (List.mem_of_getElem? (i := 346) (by decide +kernel))) rfl
theorem iw_559 : Cond.code yX4_greatestVariable cX4_greatestVariable 4 (some .int) ∈ lw_gd := tb_in (List.mem_append_right _ (List.mem_of_getElem? (i := 360) (by decide +kernel))) rfl
theorem iw_560 : Cond.code yX4_partsOfState cX4_partsOfState 4 (some .int) ∈ lw_gd := tb_in (List.mem_append_right _ (List.mem_of_getElem? (i := 403) (by decide +kernel))) rfl
theorem iw_561 : Cond.code yX5_init cX5_init 2 none ∈ lw_gd := tb_in (List.mem_append_right _ (List.mem_of_getElem? (i := 50) (by decide +kernel))) rfl
theorem iw_562 : Cond.code yX5_look cX5_look 2 none ∈ lw_gd := tb_in (List.mem_append_right _ (List.mem_of_getElem? (i := 237) (by decide +kernel))) rfl
theorem iw_563 : Cond.code yX5_term cX5_term 1 (some .int) ∈ lw_gd := tb_in (List.mem_append_right _ (List.mem_of_getElem? (i := 297) (by decide +kernel))) rfl
theorem iw_564 : Cond.code yX5_behind cX5_behind 2 (some .int) ∈ lw_gd := tb_in (List.mem_append_right _ (List.mem_of_getElem? (i := 250) (by decide +kernel))) rfl
theorem iw_565 : Cond.code yX5_around cX5_around 2 (some .int) ∈ lw_gd := tb_in (List.mem_append_right _ (List.mem_of_getElem? (i := 260) (by decide +kernel))) rfl
theorem iw_566 : Cond.code yX5_binder cX5_binder 5 (some .int) ∈ lw_gd := tb_in (List.mem_append_right _ (List.mem_of_getElem? (i := 371) (by decide +kernel))) rfl
theorem iw_567 : Cond.code yX5_mostAround cX5_mostAround 3 (some .int) ∈ lw_gd := tb_in (List.mem_append_right _ (List.mem_of_getElem? (i := 351) (by decide +kernel))) rfl
theorem iw_568 : Cond.code yX5_reduciblePlaces cX5_reduciblePlaces 3 (some .int) ∈ lw_gd := tb_in (List.mem_append_right _ (List.mem_of_getElem? (i := 356) (by decide +kernel))) rfl
theorem iw_569 : Cond.code yX5_next cX5_next 3 (some .int) ∈ lw_gd := tb_in (List.mem_append_right _ (List.mem_of_getElem? (i := 281) (by decide +kernel))) rfl
theorem iw_570 : Cond.code yX5_printed cX5_printed 4 (some .int) ∈ lw_gd := tb_in (List.mem_append_right _ (List.mem_of_getElem? (i := 380) (by decide +kernel))) rfl
theorem iw_571 : Cond.code yX5_findEnds cX5_findEnds 4 none ∈ lw_gd := tb_in (List.mem_append_right _ (List.mem_of_getElem? (i := 242) (by decide +kernel))) rfl
theorem iw_572 : Cond.code yX5_findSurroundings cX5_findSurroundings 3 none ∈ lw_gd := tb_in (List.mem_append_right _ (List.mem_of_getElem? (i := 256) (by decide +kernel))) rfl
theorem iw_573 : Cond.code yX5_surroundAs cX5_surroundAs 3 none ∈ lw_gd := tb_in (List.mem_append_right _ (List.mem_of_getElem? (i := 264) (by decide +kernel))) rfl
theorem iw_574 : Cond.code yX5_isReducible cX5_isReducible 2 (some .boolean) ∈ lw_gd := tb_in (List.mem_append_right _ (List.mem_of_getElem? (i := 289) (by decide +kernel))) rfl
theorem iw_575 : Cond.code yX5_firstInner cX5_firstInner 3 (some .int) ∈ lw_gd := tb_in (List.mem_append_right _ (List.mem_of_getElem? (i := 285) (by decide +kernel))) rfl
theorem iw_576 : Cond.code yX5_sign cX5_sign 3 (some .int) ∈ lw_gd := tb_in (List.mem_append_right _ (List.mem_of_getElem? (i := 384) (by decide +kernel))) rfl
theorem iw_577 : Cond.code yX5_letter cX5_letter 1 (some .int) ∈ lw_gd := tb_in (List.mem_append_right _ (List.mem_of_getElem? (i := 387) (by decide +kernel))) rfl
theorem iw_578 : Cond.code yX6_init cX6_init 2 none ∈ lw_gd := tb_in (List.mem_append_right _ (List.mem_of_getElem? (i := 15) (by decide +kernel))) rfl
theorem iw_579 : Cond.code yX6_read cX6_read 2 (some .int) ∈ lw_gd := tb_in (List.mem_append_right _ (List.mem_of_getElem? (i := 157) (by decide +kernel))) rfl
theorem iw_580 : Cond.code yX6_copy cX6_copy 3 (some .int) ∈ lw_gd := tb_in (List.mem_append_right _ (List.mem_of_getElem? (i := 218) (by decide +kernel))) rfl
theorem iw_581 : Cond.code yX6_apply cX6_apply 4 (some .int) ∈ lw_gd := tb_in (List.mem_append_right _ (List.mem_of_getElem? (i := 223) (by decide +kernel))) rfl
theorem iw_582 : Cond.code yX6_bind cX6_bind 5 (some .int) ∈ lw_gd := tb_in (List.mem_append_right _ (List.mem_of_getElem? (i := 229) (by decide +kernel))) rfl
theorem iw_583 : Cond.code yX6_step cX6_step 4 (some .int) ∈ lw_gd := tb_in (List.mem_append_right _ (List.mem_of_getElem? (i := 274) (by decide +kernel))) rfl
theorem iw_584 : Cond.code yX6_run cX6_run 4 (some .int) ∈ lw_gd := tb_in (List.mem_append_right _ (List.mem_of_getElem? (i := 322) (by decide +kernel))) rfl
theorem iw_585 : Cond.code yX6_of cX6_of 3 (some .int) ∈ lw_gd := tb_in (List.mem_append_right _ (List.mem_of_getElem? (i := 342) (by decide +kernel))) rfl
theorem iw_586 : Cond.code yX6_part cX6_part 4 (some .int) ∈ lw_gd := tb_in (List.mem_append_right _ (List.mem_of_getElem? (i := 366) (by decide +kernel))) rfl
theorem iw_587 : Cond.code yX6_named cX6_named 3 (some .int) ∈ lw_gd := tb_in (List.mem_append_right _ (List.mem_of_getElem? (i := 376) (by decide +kernel))) rfl
theorem iw_588 : Cond.code yX6_same cX6_same 3 (some .int) ∈ lw_gd := tb_in (List.mem_append_right _ (List.mem_of_getElem? (i := 391) (by decide +kernel))) rfl
theorem iw_589 : Cond.code yX6_count cX6_count 2 (some .int) ∈ lw_gd := tb_in (List.mem_append_right _ (List.mem_of_getElem? (i := 399) (by decide +kernel))) rfl
theorem iw_590 : Cond.code yX6_ends cX6_ends 4 (some .int) ∈ lw_gd := tb_in (List.mem_append_right _ (List.mem_of_getElem? (i := 419) (by decide +kernel))) rfl
theorem iw_591 : Cond.code yX6_agree cX6_agree 3 (some .int) ∈ lw_gd := tb_in (List.mem_append_right _ (List.mem_of_getElem? (i := 423) (by decide +kernel))) rfl
theorem iw_592 : Cond.code yX6_most cX6_most 4 (some .int) ∈ lw_gd := tb_in (List.mem_append_right _ (List.mem_of_getElem? (i := 427) (by decide +kernel))) rfl
theorem iw_593 : Cond.code yX6_alike cX6_alike 4 (some .int) ∈ lw_gd := tb_in (List.mem_append_right _ (List.mem_of_getElem? (i := 435) (by decide +kernel))) rfl
theorem iw_594 : Cond.code yX6_put cX6_put 4 (some .int) ∈ lw_gd := tb_in (List.mem_append_right _ (List.mem_of_getElem? (i := 439) (by decide +kernel))) rfl
theorem iw_595 : Cond.code yX6_wipe cX6_wipe 2 (some .int) ∈ lw_gd := tb_in (List.mem_append_right _ (List.mem_of_getElem? (i := 453) (by decide +kernel))) rfl
theorem iw_596 : Cond.code yX6_fault cX6_fault 1 (some .int) ∈ lw_gd := tb_in (List.mem_append_right _ (List.mem_of_getElem? (i := 457) (by decide +kernel))) rfl
theorem iw_597 : Cond.code yX6_undo cX6_undo 1 (some .int) ∈ lw_gd := tb_in (List.mem_append_right _ (List.mem_of_getElem? (i := 461) (by decide +kernel))) rfl
theorem iw_598 : Cond.code yX6_save cX6_save 2 (some .int) ∈ lw_gd := tb_in (List.mem_append_right _ (List.mem_of_getElem? (i := 470) (by decide +kernel))) rfl
theorem iw_599 : Cond.code yX6_restore cX6_restore 2 (some .int) ∈ lw_gd := tb_in (List.mem_append_right _ (List.mem_of_getElem? (i := 478) (by decide +kernel))) rfl
theorem iw_600 : Cond.code yX6_isRegister cX6_isRegister 1 (some .boolean) ∈ lw_gd := tb_in (List.mem_append_right _ (List.mem_of_getElem? (i := 160) (by decide +kernel))) rfl
theorem iw_601 : Cond.code yX6_isOrder cX6_isOrder 1 (some .boolean) ∈ lw_gd := tb_in (List.mem_append_right _ (List.mem_of_getElem? (i := 277) (by decide +kernel))) rfl
theorem iw_602 : Cond.code yX6_isFuel cX6_isFuel 1 (some .boolean) ∈ lw_gd := tb_in (List.mem_append_right _ (List.mem_of_getElem? (i := 325) (by decide +kernel))) rfl
theorem iw_603 : Cond.code yX6_isSlot cX6_isSlot 1 (some .boolean) ∈ lw_gd := tb_in (List.mem_append_right _ (List.mem_of_getElem? (i := 473) (by decide +kernel))) rfl
theorem iw_604 : Cond.code yX6_draftFunction cX6_draftFunction 8 (some .int) ∈ lw_gd := tb_in (List.mem_append_right _ (List.mem_of_getElem? (i := 233) (by decide +kernel))) rfl
theorem iw_605 : Cond.code yX6_registersAtRest cX6_registersAtRest 3 (some .int) ∈ lw_gd := tb_in (List.mem_append_right _ (List.mem_of_getElem? (i := 407) (by decide +kernel))) rfl
theorem iw_606 : Cond.code yX7_init cX7_init 2 none ∈ lw_gd := tb_in (List.mem_append_right _ (List.mem_of_getElem? (i := 483) (by decide +kernel))) rfl
theorem iw_607 : Cond.code yX7_moves cX7_moves 6 none ∈ lw_gd := tb_in (List.mem_append_right _ (List.mem_of_getElem? (i := 560) (by decide +kernel))) rfl
theorem iw_608 : Cond.code yX7_within cX7_within 3 (some .boolean) ∈ lw_gd := tb_in (List.mem_append_right _ (List.mem_of_getElem? (i := 546) (by decide +kernel))) rfl
theorem iw_609 : Cond.code yX7_record cX7_record 2 none ∈ lw_gd := tb_in (List.mem_append_right _ (List.mem_of_getElem? (i := 557) (by decide +kernel))) rfl
theorem iw_610 : Cond.code yX7_isRegister cX7_isRegister 1 (some .boolean) ∈ lw_gd := tb_in (List.mem_append_right _ (List.mem_of_getElem? (i := 543) (by decide +kernel))) rfl
theorem iw_611 : Cond.code yX7_load cX7_load 2 none ∈ lw_gd := tb_in (List.mem_append_right _ (List.mem_of_getElem? (i := 572) (by decide +kernel))) rfl
theorem iw_612 : Cond.code yX7_store cX7_store 3 none ∈ lw_gd := tb_in (List.mem_append_right _ (List.mem_of_getElem? (i := 564) (by decide +kernel))) rfl
theorem iw_613 : Cond.code yX7_kindAt cX7_kindAt 2 (some .int) ∈ lw_gd := tb_in (List.mem_append_right _ (List.mem_of_getElem? (i := 580) (by decide +kernel))) rfl
theorem iw_614 : Cond.code yX7_numberAt cX7_numberAt 2 (some .int) ∈ lw_gd := tb_in (List.mem_append_right _ (List.mem_of_getElem? (i := 628) (by decide +kernel))) rfl
theorem iw_615 : Cond.code yX7_findDepths cX7_findDepths 4 none ∈ lw_gd := tb_in (List.mem_append_right _ (List.mem_of_getElem? (i := 576) (by decide +kernel))) rfl
theorem iw_616 : Cond.code yX7_endOf cX7_endOf 4 (some .int) ∈ lw_gd := tb_in (List.mem_append_right _ (List.mem_of_getElem? (i := 616) (by decide +kernel))) rfl
theorem iw_617 : Cond.code yX7_isReducible cX7_isReducible 2 (some .boolean) ∈ lw_gd := tb_in (List.mem_append_right _ (List.mem_of_getElem? (i := 612) (by decide +kernel))) rfl
theorem iw_618 : Cond.code yX7_hasReducible cX7_hasReducible 5 (some .boolean) ∈ lw_gd := tb_in (List.mem_append_right _ (List.mem_of_getElem? (i := 620) (by decide +kernel))) rfl
theorem iw_619 : Cond.code yX7_canCome cX7_canCome 3 (some .boolean) ∈ lw_gd := tb_in (List.mem_append_right _ (List.mem_of_getElem? (i := 608) (by decide +kernel))) rfl
theorem iw_620 : Cond.code yX7_nextBy cX7_nextBy 3 (some .int) ∈ lw_gd := tb_in (List.mem_append_right _ (List.mem_of_getElem? (i := 604) (by decide +kernel))) rfl
theorem iw_621 : Cond.code yX7_gives cX7_gives 2 none ∈ lw_gd := tb_in (List.mem_append_right _ (List.mem_of_getElem? (i := 592) (by decide +kernel))) rfl
theorem iw_622 : Cond.code yX7_givesArgument cX7_givesArgument 6 none ∈ lw_gd := tb_in (List.mem_append_right _ (List.mem_of_getElem? (i := 636) (by decide +kernel))) rfl
theorem iw_623 : Cond.code yX7_usesOf cX7_usesOf 5 (some .int) ∈ lw_gd := tb_in (List.mem_append_right _ (List.mem_of_getElem? (i := 624) (by decide +kernel))) rfl
theorem iw_624 : Cond.code yX7_givesBody cX7_givesBody 7 none ∈ lw_gd := tb_in (List.mem_append_right _ (List.mem_of_getElem? (i := 632) (by decide +kernel))) rfl
theorem iw_625 : Cond.code yX7_goes cX7_goes 8 (some .int) ∈ lw_gd := tb_in (List.mem_append_right _ (List.mem_of_getElem? (i := 600) (by decide +kernel))) rfl
theorem iw_626 : Cond.code yX7_goesOn cX7_goesOn 6 (some .int) ∈ lw_gd := tb_in (List.mem_append_right _ (List.mem_of_getElem? (i := 647) (by decide +kernel))) rfl
theorem iw_627 : Cond.code yX7_read cX7_read 3 (some .int) ∈ lw_gd := tb_in (List.mem_append_right _ (List.mem_of_getElem? (i := 540) (by decide +kernel))) rfl
theorem iw_628 : Cond.code yX7_copy cX7_copy 3 (some .int) ∈ lw_gd := tb_in (List.mem_append_right _ (List.mem_of_getElem? (i := 568) (by decide +kernel))) rfl
theorem iw_629 : Cond.code yX7_apply cX7_apply 5 (some .int) ∈ lw_gd := tb_in (List.mem_append_right _ (List.mem_of_getElem? (i := 584) (by decide +kernel))) rfl
theorem iw_630 : Cond.code yX7_bind cX7_bind 7 (some .int) ∈ lw_gd := tb_in (List.mem_append_right _ (List.mem_of_getElem? (i := 588) (by decide +kernel))) rfl
theorem iw_631 : Cond.code yX7_step cX7_step 4 (some .int) ∈ lw_gd := tb_in (List.mem_append_right _ (List.mem_of_getElem? (i := 596) (by decide +kernel))) rfl
theorem iw_632 : Cond.code yX7_isRun cX7_isRun 2 (some .boolean) ∈ lw_gd := tb_in (List.mem_append_right _ (List.mem_of_getElem? (i := 643) (by decide +kernel))) rfl
theorem iw_633 : Cond.code yX7_run cX7_run 5 (some .int) ∈ lw_gd := tb_in (List.mem_append_right _ (List.mem_of_getElem? (i := 640) (by decide +kernel))) rfl
theorem iw_634 : Cond.code yX7_ofKind cX7_ofKind 4 (some .int) ∈ lw_gd := tb_in (List.mem_append_right _ (List.mem_of_getElem? (i := 655) (by decide +kernel))) rfl
theorem iw_635 : Cond.code yX7_deepest cX7_deepest 3 (some .int) ∈ lw_gd := tb_in (List.mem_append_right _ (List.mem_of_getElem? (i := 659) (by decide +kernel))) rfl
theorem iw_636 : Cond.code yX7_reducibleMany cX7_reducibleMany 3 (some .int) ∈ lw_gd := tb_in (List.mem_append_right _ (List.mem_of_getElem? (i := 663) (by decide +kernel))) rfl
theorem iw_637 : Cond.code yX7_greatest cX7_greatest 3 (some .int) ∈ lw_gd := tb_in (List.mem_append_right _ (List.mem_of_getElem? (i := 667) (by decide +kernel))) rfl
theorem iw_638 : Cond.code yX7_of cX7_of 3 (some .int) ∈ lw_gd := tb_in (List.mem_append_right _ (List.mem_of_getElem? (i := 651) (by decide +kernel))) rfl
theorem iw_639 : Cond.code yX7_binderOf cX7_binderOf 5 (some .int) ∈ lw_gd := tb_in (List.mem_append_right _ (List.mem_of_getElem? (i := 675) (by decide +kernel))) rfl
theorem iw_640 : Cond.code yX7_part cX7_part 4 (some .int) ∈ lw_gd := tb_in (List.mem_append_right _ (List.mem_of_getElem? (i := 671) (by decide +kernel))) rfl
theorem iw_641 : Cond.code yX7_says cX7_says 2 none ∈ lw_gd := tb_in (List.mem_append_right _ (List.mem_of_getElem? (i := 690) (by decide +kernel))) rfl
theorem iw_642 : Cond.code yX7_nameBy cX7_nameBy 1 (some .int) ∈ lw_gd := tb_in (List.mem_append_right _ (List.mem_of_getElem? (i := 686) (by decide +kernel))) rfl
theorem iw_643 : Cond.code yX7_print cX7_print 2 none ∈ lw_gd := tb_in (List.mem_append_right _ (List.mem_of_getElem? (i := 683) (by decide +kernel))) rfl
theorem iw_644 : Cond.code yX7_named cX7_named 3 (some .int) ∈ lw_gd := tb_in (List.mem_append_right _ (List.mem_of_getElem? (i := 679) (by decide +kernel))) rfl
theorem iw_645 : Cond.code yX7_same cX7_same 5 (some .int) ∈ lw_gd := tb_in (List.mem_append_right _ (List.mem_of_getElem? (i := 694) (by decide +kernel))) rfl
theorem iw_646 : Cond.code yX7_allParts cX7_allParts 3 (some .int) ∈ lw_gd := tb_in (List.mem_append_right _ (List.mem_of_getElem? (i := 702) (by decide +kernel))) rfl
theorem iw_647 : Cond.code yX7_atRest cX7_atRest 3 (some .int) ∈ lw_gd := tb_in (List.mem_append_right _ (List.mem_of_getElem? (i := 706) (by decide +kernel))) rfl
theorem iw_648 : Cond.code yX7_count cX7_count 2 (some .int) ∈ lw_gd := tb_in (List.mem_append_right _ (List.mem_of_getElem? (i := 698) (by decide +kernel))) rfl
theorem iw_649 : Cond.code yX7_ends cX7_ends 5 (some .int) ∈ lw_gd := tb_in (List.mem_append_right _ (List.mem_of_getElem? (i := 710) (by decide +kernel))) rfl
theorem iw_650 : Cond.code yX7_meet cX7_meet 8 (some .int) ∈ lw_gd := tb_in (List.mem_append_right _ (List.mem_of_getElem? (i := 718) (by decide +kernel))) rfl
theorem iw_651 : Cond.code yX7_agree cX7_agree 3 (some .int) ∈ lw_gd := tb_in (List.mem_append_right _ (List.mem_of_getElem? (i := 714) (by decide +kernel))) rfl
theorem iw_652 : Cond.code yX7_most cX7_most 7 (some .int) ∈ lw_gd := tb_in (List.mem_append_right _ (List.mem_of_getElem? (i := 722) (by decide +kernel))) rfl
theorem iw_653 : Cond.code yX7_alike cX7_alike 4 (some .int) ∈ lw_gd := tb_in (List.mem_append_right _ (List.mem_of_getElem? (i := 726) (by decide +kernel))) rfl
theorem iw_654 : Cond.code yX7_put cX7_put 8 (some .int) ∈ lw_gd := tb_in (List.mem_append_right _ (List.mem_of_getElem? (i := 730) (by decide +kernel))) rfl
theorem iw_655 : Cond.code yX7_wipe cX7_wipe 2 (some .int) ∈ lw_gd := tb_in (List.mem_append_right _ (List.mem_of_getElem? (i := 735) (by decide +kernel))) rfl
theorem iw_656 : Cond.code yX7_partBy cX7_partBy 1 (some .int) ∈ lw_gd := tb_in (List.mem_append_right _ (List.mem_of_getElem? (i := 553) (by decide +kernel))) rfl
theorem iw_657 : Cond.code yX7_findFault cX7_findFault 5 (some .int) ∈ lw_gd := tb_in (List.mem_append_right _ (List.mem_of_getElem? (i := 550) (by decide +kernel))) rfl
theorem iw_658 : Cond.code yX7_fault cX7_fault 1 (some .int) ∈ lw_gd := tb_in (List.mem_append_right _ (List.mem_of_getElem? (i := 739) (by decide +kernel))) rfl
theorem iw_659 : Cond.code yX7_undo cX7_undo 1 (some .int) ∈ lw_gd := tb_in (List.mem_append_right _ (List.mem_of_getElem? (i := 743) (by decide +kernel))) rfl
theorem iw_660 : Cond.code yX7_save cX7_save 2 (some .int) ∈ lw_gd := tb_in (List.mem_append_right _ (List.mem_of_getElem? (i := 747) (by decide +kernel))) rfl
theorem iw_661 : Cond.code yX7_restore cX7_restore 2 (some .int) ∈ lw_gd := tb_in (List.mem_append_right _ (List.mem_of_getElem? (i := 751) (by decide +kernel))) rfl
theorem tb_gd : m_gd := trivial
theorem inGX0 : ∀ w ∈ wsX00, w ∈ lw_gd := fun w h => tb_in (inX0 w h) (List.all_eq_true.mp (by decide +kernel : (wsX00).all goodWord = true) w h)
theorem inGX1 : ∀ w ∈ wsX10, w ∈ lw_gd := fun w h => tb_in (inX1 w h) (List.all_eq_true.mp (by decide +kernel : (wsX10).all goodWord = true) w h)
theorem inGX2 : ∀ w ∈ wsX20, w ∈ lw_gd := fun w h => tb_in (inX2 w h) (List.all_eq_true.mp (by decide +kernel : (wsX20).all goodWord = true) w h)
theorem inGX3 : ∀ w ∈ wsX30, w ∈ lw_gd := fun w h => tb_in (inX3 w h) (List.all_eq_true.mp (by decide +kernel : (wsX30).all goodWord = true) w h)
theorem inGX4 : ∀ w ∈ wsX40, w ∈ lw_gd := fun w h => tb_in (inX4 w h) (List.all_eq_true.mp (by decide +kernel : (wsX40).all goodWord = true) w h)
theorem inGX5 : ∀ w ∈ wsX50, w ∈ lw_gd := fun w h => tb_in (inX5 w h) (List.all_eq_true.mp (by decide +kernel : (wsX50).all goodWord = true) w h)
theorem inGX6 : ∀ w ∈ wsX60, w ∈ lw_gd := fun w h => tb_in (inX6 w h) (List.all_eq_true.mp (by decide +kernel : (wsX60).all goodWord = true) w h)
theorem inGX7 : ∀ w ∈ wsX70, w ∈ lw_gd := fun w h => tb_in (inX7 w h) (List.all_eq_true.mp (by decide +kernel : (wsX70).all goodWord = true) w h)
theorem st_0 : m_st 0 1 := ⟨⟨by decide +kernel, by decide +kernel, by decide +kernel⟩, by decide +kernel, iw_524⟩
theorem st_1 : m_st 1 0 := ⟨⟨by decide +kernel, by decide +kernel, by decide +kernel⟩, by decide +kernel, iw_525⟩
theorem st_2 : m_st 2 0 := ⟨⟨by decide +kernel, by decide +kernel, by decide +kernel⟩, by decide +kernel, iw_526⟩
theorem st_3 : m_st 3 0 := ⟨⟨by decide +kernel, by decide +kernel, by decide +kernel⟩, by decide +kernel, iw_527⟩
theorem st_4 : m_st 4 0 := ⟨⟨by decide +kernel, by decide +kernel, by decide +kernel⟩, by decide +kernel, iw_528⟩
theorem st_5 : m_st 5 1 := ⟨⟨by decide +kernel, by decide +kernel, by decide +kernel⟩, by decide +kernel, iw_529⟩
theorem st_6 : m_st 6 0 := ⟨⟨by decide +kernel, by decide +kernel, by decide +kernel⟩, by decide +kernel, iw_530⟩
theorem st_7 : m_st 7 0 := ⟨⟨by decide +kernel, by decide +kernel, by decide +kernel⟩, by decide +kernel, iw_531⟩
theorem st_8 : m_st 8 2 := ⟨⟨by decide +kernel, by decide +kernel, by decide +kernel⟩, by decide +kernel, iw_532⟩
theorem st_9 : m_st 9 0 := ⟨⟨by decide +kernel, by decide +kernel, by decide +kernel⟩, by decide +kernel, iw_533⟩
theorem st_10 : m_st 10 2 := ⟨⟨by decide +kernel, by decide +kernel, by decide +kernel⟩, by decide +kernel, iw_534⟩
theorem st_11 : m_st 11 1 := ⟨⟨by decide +kernel, by decide +kernel, by decide +kernel⟩, by decide +kernel, iw_535⟩
theorem st_12 : m_st 12 2 := ⟨⟨by decide +kernel, by decide +kernel, by decide +kernel⟩, by decide +kernel, iw_536⟩
theorem st_13 : m_st 13 0 := ⟨⟨by decide +kernel, by decide +kernel, by decide +kernel⟩, by decide +kernel, iw_537⟩
theorem st_14 : m_st 14 0 := ⟨⟨by decide +kernel, by decide +kernel, by decide +kernel⟩, by decide +kernel, iw_538⟩
theorem st_15 : m_st 15 3 := ⟨⟨by decide +kernel, by decide +kernel, by decide +kernel⟩, by decide +kernel, iw_539⟩
theorem st_16 : m_st 16 1 := ⟨⟨by decide +kernel, by decide +kernel, by decide +kernel⟩, by decide +kernel, iw_540⟩
theorem st_17 : m_st 17 1 := ⟨⟨by decide +kernel, by decide +kernel, by decide +kernel⟩, by decide +kernel, iw_541⟩
theorem st_18 : m_st 18 2 := ⟨⟨by decide +kernel, by decide +kernel, by decide +kernel⟩, by decide +kernel, iw_542⟩
theorem st_19 : m_st 19 2 := ⟨⟨by decide +kernel, by decide +kernel, by decide +kernel⟩, by decide +kernel, iw_543⟩
theorem st_20 : m_st 20 1 := ⟨⟨by decide +kernel, by decide +kernel, by decide +kernel⟩, by decide +kernel, iw_544⟩
theorem st_21 : m_st 21 1 := ⟨⟨by decide +kernel, by decide +kernel, by decide +kernel⟩, by decide +kernel, iw_545⟩
theorem st_22 : m_st 22 2 := ⟨⟨by decide +kernel, by decide +kernel, by decide +kernel⟩, by decide +kernel, iw_546⟩
theorem st_23 : m_st 23 3 := ⟨⟨by decide +kernel, by decide +kernel, by decide +kernel⟩, by decide +kernel, iw_547⟩
theorem st_24 : m_st 24 0 := ⟨⟨by decide +kernel, by decide +kernel, by decide +kernel⟩, by decide +kernel, iw_548⟩
theorem st_25 : m_st 25 1 := ⟨⟨by decide +kernel, by decide +kernel, by decide +kernel⟩, by decide +kernel, iw_549⟩
theorem st_26 : m_st 26 2 := ⟨⟨by decide +kernel, by decide +kernel, by decide +kernel⟩, by decide +kernel, iw_550⟩
theorem st_27 : m_st 27 2 := ⟨⟨by decide +kernel, by decide +kernel, by decide +kernel⟩, by decide +kernel, iw_551⟩
theorem st_28 : m_st 28 1 := ⟨⟨by decide +kernel, by decide +kernel, by decide +kernel⟩, by decide +kernel, iw_552⟩
theorem st_29 : m_st 29 3 := ⟨⟨by decide +kernel, by decide +kernel, by decide +kernel⟩, by decide +kernel, iw_553⟩
theorem st_30 : m_st 30 4 := ⟨⟨by decide +kernel, by decide +kernel, by decide +kernel⟩, by decide +kernel, iw_554⟩
theorem st_31 : m_st 31 2 := ⟨⟨by decide +kernel, by decide +kernel, by decide +kernel⟩, by decide +kernel, iw_555⟩
theorem st_32 : m_st 32 2 := ⟨⟨by decide +kernel, by decide +kernel, by decide +kernel⟩, by decide +kernel, iw_556⟩
theorem st_33 : m_st 33 2 := ⟨⟨by decide +kernel, by decide +kernel, by decide +kernel⟩, by decide +kernel, iw_557⟩
theorem st_34 : m_st 34 2 := ⟨⟨by decide +kernel, by decide +kernel, by decide +kernel⟩, by decide +kernel, iw_558⟩
theorem st_35 : m_st 35 1 := ⟨⟨by decide +kernel, by decide +kernel, by decide +kernel⟩, by decide +kernel, iw_559⟩
theorem st_36 : m_st 36 1 := ⟨⟨by decide +kernel, by decide +kernel, by decide +kernel⟩, by decide +kernel, iw_560⟩
theorem st_37 : m_st 37 1 := ⟨⟨by decide +kernel, by decide +kernel, by decide +kernel⟩, by decide +kernel, iw_561⟩
theorem st_38 : m_st 38 1 := ⟨⟨by decide +kernel, by decide +kernel, by decide +kernel⟩, by decide +kernel, iw_562⟩
theorem st_39 : m_st 39 0 := ⟨⟨by decide +kernel, by decide +kernel, by decide +kernel⟩, by decide +kernel, iw_563⟩
theorem st_40 : m_st 40 1 := ⟨⟨by decide +kernel, by decide +kernel, by decide +kernel⟩, by decide +kernel, iw_564⟩
theorem st_41 : m_st 41 1 := ⟨⟨by decide +kernel, by decide +kernel, by decide +kernel⟩, by decide +kernel, iw_565⟩
theorem st_42 : m_st 42 1 := ⟨⟨by decide +kernel, by decide +kernel, by decide +kernel⟩, by decide +kernel, iw_566⟩
theorem st_43 : m_st 43 0 := ⟨⟨by decide +kernel, by decide +kernel, by decide +kernel⟩, by decide +kernel, iw_567⟩
theorem st_44 : m_st 44 0 := ⟨⟨by decide +kernel, by decide +kernel, by decide +kernel⟩, by decide +kernel, iw_568⟩
theorem st_45 : m_st 45 1 := ⟨⟨by decide +kernel, by decide +kernel, by decide +kernel⟩, by decide +kernel, iw_569⟩
theorem st_46 : m_st 46 1 := ⟨⟨by decide +kernel, by decide +kernel, by decide +kernel⟩, by decide +kernel, iw_570⟩
theorem st_47 : m_st 47 0 := ⟨⟨by decide +kernel, by decide +kernel, by decide +kernel⟩, by decide +kernel, iw_571⟩
theorem st_48 : m_st 48 0 := ⟨⟨by decide +kernel, by decide +kernel, by decide +kernel⟩, by decide +kernel, iw_572⟩
theorem st_49 : m_st 49 2 := ⟨⟨by decide +kernel, by decide +kernel, by decide +kernel⟩, by decide +kernel, iw_573⟩
theorem st_50 : m_st 50 1 := ⟨⟨by decide +kernel, by decide +kernel, by decide +kernel⟩, by decide +kernel, iw_574⟩
theorem st_51 : m_st 51 0 := ⟨⟨by decide +kernel, by decide +kernel, by decide +kernel⟩, by decide +kernel, iw_575⟩
theorem st_52 : m_st 52 1 := ⟨⟨by decide +kernel, by decide +kernel, by decide +kernel⟩, by decide +kernel, iw_576⟩
theorem st_53 : m_st 53 1 := ⟨⟨by decide +kernel, by decide +kernel, by decide +kernel⟩, by decide +kernel, iw_577⟩
theorem st_54 : m_st 54 0 := ⟨⟨by decide +kernel, by decide +kernel, by decide +kernel⟩, by decide +kernel, iw_578⟩
theorem st_55 : m_st 55 1 := ⟨⟨by decide +kernel, by decide +kernel, by decide +kernel⟩, by decide +kernel, iw_579⟩
theorem st_56 : m_st 56 2 := ⟨⟨by decide +kernel, by decide +kernel, by decide +kernel⟩, by decide +kernel, iw_580⟩
theorem st_57 : m_st 57 3 := ⟨⟨by decide +kernel, by decide +kernel, by decide +kernel⟩, by decide +kernel, iw_581⟩
theorem st_58 : m_st 58 3 := ⟨⟨by decide +kernel, by decide +kernel, by decide +kernel⟩, by decide +kernel, iw_582⟩
theorem st_59 : m_st 59 2 := ⟨⟨by decide +kernel, by decide +kernel, by decide +kernel⟩, by decide +kernel, iw_583⟩
theorem st_60 : m_st 60 3 := ⟨⟨by decide +kernel, by decide +kernel, by decide +kernel⟩, by decide +kernel, iw_584⟩
theorem st_61 : m_st 61 2 := ⟨⟨by decide +kernel, by decide +kernel, by decide +kernel⟩, by decide +kernel, iw_585⟩
theorem st_62 : m_st 62 3 := ⟨⟨by decide +kernel, by decide +kernel, by decide +kernel⟩, by decide +kernel, iw_586⟩
theorem st_63 : m_st 63 2 := ⟨⟨by decide +kernel, by decide +kernel, by decide +kernel⟩, by decide +kernel, iw_587⟩
theorem st_64 : m_st 64 2 := ⟨⟨by decide +kernel, by decide +kernel, by decide +kernel⟩, by decide +kernel, iw_588⟩
theorem st_65 : m_st 65 1 := ⟨⟨by decide +kernel, by decide +kernel, by decide +kernel⟩, by decide +kernel, iw_589⟩
theorem st_66 : m_st 66 3 := ⟨⟨by decide +kernel, by decide +kernel, by decide +kernel⟩, by decide +kernel, iw_590⟩
theorem st_67 : m_st 67 2 := ⟨⟨by decide +kernel, by decide +kernel, by decide +kernel⟩, by decide +kernel, iw_591⟩
theorem st_68 : m_st 68 3 := ⟨⟨by decide +kernel, by decide +kernel, by decide +kernel⟩, by decide +kernel, iw_592⟩
theorem st_69 : m_st 69 3 := ⟨⟨by decide +kernel, by decide +kernel, by decide +kernel⟩, by decide +kernel, iw_593⟩
theorem st_70 : m_st 70 1 := ⟨⟨by decide +kernel, by decide +kernel, by decide +kernel⟩, by decide +kernel, iw_594⟩
theorem st_71 : m_st 71 0 := ⟨⟨by decide +kernel, by decide +kernel, by decide +kernel⟩, by decide +kernel, iw_595⟩
theorem st_72 : m_st 72 0 := ⟨⟨by decide +kernel, by decide +kernel, by decide +kernel⟩, by decide +kernel, iw_596⟩
theorem st_73 : m_st 73 0 := ⟨⟨by decide +kernel, by decide +kernel, by decide +kernel⟩, by decide +kernel, iw_597⟩
theorem st_74 : m_st 74 1 := ⟨⟨by decide +kernel, by decide +kernel, by decide +kernel⟩, by decide +kernel, iw_598⟩
theorem st_75 : m_st 75 1 := ⟨⟨by decide +kernel, by decide +kernel, by decide +kernel⟩, by decide +kernel, iw_599⟩
theorem st_76 : m_st 76 1 := ⟨⟨by decide +kernel, by decide +kernel, by decide +kernel⟩, by decide +kernel, iw_600⟩
theorem st_77 : m_st 77 1 := ⟨⟨by decide +kernel, by decide +kernel, by decide +kernel⟩, by decide +kernel, iw_601⟩
theorem st_78 : m_st 78 1 := ⟨⟨by decide +kernel, by decide +kernel, by decide +kernel⟩, by decide +kernel, iw_602⟩
theorem st_79 : m_st 79 1 := ⟨⟨by decide +kernel, by decide +kernel, by decide +kernel⟩, by decide +kernel, iw_603⟩
theorem st_80 : m_st 80 2 := ⟨⟨by decide +kernel, by decide +kernel, by decide +kernel⟩, by decide +kernel, iw_604⟩
theorem st_81 : m_st 81 0 := ⟨⟨by decide +kernel, by decide +kernel, by decide +kernel⟩, by decide +kernel, iw_605⟩
theorem st_82 : m_st 82 0 := ⟨⟨by decide +kernel, by decide +kernel, by decide +kernel⟩, by decide +kernel, iw_606⟩
theorem st_83 : m_st 83 5 := ⟨⟨by decide +kernel, by decide +kernel, by decide +kernel⟩, by decide +kernel, iw_607⟩
theorem st_84 : m_st 84 3 := ⟨⟨by decide +kernel, by decide +kernel, by decide +kernel⟩, by decide +kernel, iw_608⟩
theorem st_85 : m_st 85 0 := ⟨⟨by decide +kernel, by decide +kernel, by decide +kernel⟩, by decide +kernel, iw_609⟩
theorem st_86 : m_st 86 1 := ⟨⟨by decide +kernel, by decide +kernel, by decide +kernel⟩, by decide +kernel, iw_610⟩
theorem st_87 : m_st 87 1 := ⟨⟨by decide +kernel, by decide +kernel, by decide +kernel⟩, by decide +kernel, iw_611⟩
theorem st_88 : m_st 88 1 := ⟨⟨by decide +kernel, by decide +kernel, by decide +kernel⟩, by decide +kernel, iw_612⟩
theorem st_89 : m_st 89 1 := ⟨⟨by decide +kernel, by decide +kernel, by decide +kernel⟩, by decide +kernel, iw_613⟩
theorem st_90 : m_st 90 1 := ⟨⟨by decide +kernel, by decide +kernel, by decide +kernel⟩, by decide +kernel, iw_614⟩
theorem st_91 : m_st 91 0 := ⟨⟨by decide +kernel, by decide +kernel, by decide +kernel⟩, by decide +kernel, iw_615⟩
theorem st_92 : m_st 92 1 := ⟨⟨by decide +kernel, by decide +kernel, by decide +kernel⟩, by decide +kernel, iw_616⟩
theorem st_93 : m_st 93 1 := ⟨⟨by decide +kernel, by decide +kernel, by decide +kernel⟩, by decide +kernel, iw_617⟩
theorem st_94 : m_st 94 2 := ⟨⟨by decide +kernel, by decide +kernel, by decide +kernel⟩, by decide +kernel, iw_618⟩
theorem st_95 : m_st 95 2 := ⟨⟨by decide +kernel, by decide +kernel, by decide +kernel⟩, by decide +kernel, iw_619⟩
theorem st_96 : m_st 96 1 := ⟨⟨by decide +kernel, by decide +kernel, by decide +kernel⟩, by decide +kernel, iw_620⟩
theorem st_97 : m_st 97 1 := ⟨⟨by decide +kernel, by decide +kernel, by decide +kernel⟩, by decide +kernel, iw_621⟩
theorem st_98 : m_st 98 3 := ⟨⟨by decide +kernel, by decide +kernel, by decide +kernel⟩, by decide +kernel, iw_622⟩
theorem st_99 : m_st 99 2 := ⟨⟨by decide +kernel, by decide +kernel, by decide +kernel⟩, by decide +kernel, iw_623⟩
theorem st_100 : m_st 100 3 := ⟨⟨by decide +kernel, by decide +kernel, by decide +kernel⟩, by decide +kernel, iw_624⟩
theorem st_101 : m_st 101 1 := ⟨⟨by decide +kernel, by decide +kernel, by decide +kernel⟩, by decide +kernel, iw_625⟩
theorem st_102 : m_st 102 2 := ⟨⟨by decide +kernel, by decide +kernel, by decide +kernel⟩, by decide +kernel, iw_626⟩
theorem st_103 : m_st 103 1 := ⟨⟨by decide +kernel, by decide +kernel, by decide +kernel⟩, by decide +kernel, iw_627⟩
theorem st_104 : m_st 104 2 := ⟨⟨by decide +kernel, by decide +kernel, by decide +kernel⟩, by decide +kernel, iw_628⟩
theorem st_105 : m_st 105 3 := ⟨⟨by decide +kernel, by decide +kernel, by decide +kernel⟩, by decide +kernel, iw_629⟩
theorem st_106 : m_st 106 3 := ⟨⟨by decide +kernel, by decide +kernel, by decide +kernel⟩, by decide +kernel, iw_630⟩
theorem st_107 : m_st 107 2 := ⟨⟨by decide +kernel, by decide +kernel, by decide +kernel⟩, by decide +kernel, iw_631⟩
theorem st_108 : m_st 108 2 := ⟨⟨by decide +kernel, by decide +kernel, by decide +kernel⟩, by decide +kernel, iw_632⟩
theorem st_109 : m_st 109 3 := ⟨⟨by decide +kernel, by decide +kernel, by decide +kernel⟩, by decide +kernel, iw_633⟩
theorem st_110 : m_st 110 1 := ⟨⟨by decide +kernel, by decide +kernel, by decide +kernel⟩, by decide +kernel, iw_634⟩
theorem st_111 : m_st 111 0 := ⟨⟨by decide +kernel, by decide +kernel, by decide +kernel⟩, by decide +kernel, iw_635⟩
theorem st_112 : m_st 112 0 := ⟨⟨by decide +kernel, by decide +kernel, by decide +kernel⟩, by decide +kernel, iw_636⟩
theorem st_113 : m_st 113 0 := ⟨⟨by decide +kernel, by decide +kernel, by decide +kernel⟩, by decide +kernel, iw_637⟩
theorem st_114 : m_st 114 2 := ⟨⟨by decide +kernel, by decide +kernel, by decide +kernel⟩, by decide +kernel, iw_638⟩
theorem st_115 : m_st 115 1 := ⟨⟨by decide +kernel, by decide +kernel, by decide +kernel⟩, by decide +kernel, iw_639⟩
theorem st_116 : m_st 116 3 := ⟨⟨by decide +kernel, by decide +kernel, by decide +kernel⟩, by decide +kernel, iw_640⟩
theorem st_117 : m_st 117 1 := ⟨⟨by decide +kernel, by decide +kernel, by decide +kernel⟩, by decide +kernel, iw_641⟩
theorem st_118 : m_st 118 1 := ⟨⟨by decide +kernel, by decide +kernel, by decide +kernel⟩, by decide +kernel, iw_642⟩
theorem st_119 : m_st 119 0 := ⟨⟨by decide +kernel, by decide +kernel, by decide +kernel⟩, by decide +kernel, iw_643⟩
theorem st_120 : m_st 120 2 := ⟨⟨by decide +kernel, by decide +kernel, by decide +kernel⟩, by decide +kernel, iw_644⟩
theorem st_121 : m_st 121 2 := ⟨⟨by decide +kernel, by decide +kernel, by decide +kernel⟩, by decide +kernel, iw_645⟩
theorem st_122 : m_st 122 0 := ⟨⟨by decide +kernel, by decide +kernel, by decide +kernel⟩, by decide +kernel, iw_646⟩
theorem st_123 : m_st 123 0 := ⟨⟨by decide +kernel, by decide +kernel, by decide +kernel⟩, by decide +kernel, iw_647⟩
theorem st_124 : m_st 124 1 := ⟨⟨by decide +kernel, by decide +kernel, by decide +kernel⟩, by decide +kernel, iw_648⟩
theorem st_125 : m_st 125 3 := ⟨⟨by decide +kernel, by decide +kernel, by decide +kernel⟩, by decide +kernel, iw_649⟩
theorem st_126 : m_st 126 5 := ⟨⟨by decide +kernel, by decide +kernel, by decide +kernel⟩, by decide +kernel, iw_650⟩
theorem st_127 : m_st 127 2 := ⟨⟨by decide +kernel, by decide +kernel, by decide +kernel⟩, by decide +kernel, iw_651⟩
theorem st_128 : m_st 128 3 := ⟨⟨by decide +kernel, by decide +kernel, by decide +kernel⟩, by decide +kernel, iw_652⟩
theorem st_129 : m_st 129 3 := ⟨⟨by decide +kernel, by decide +kernel, by decide +kernel⟩, by decide +kernel, iw_653⟩
theorem st_130 : m_st 130 1 := ⟨⟨by decide +kernel, by decide +kernel, by decide +kernel⟩, by decide +kernel, iw_654⟩
theorem st_131 : m_st 131 0 := ⟨⟨by decide +kernel, by decide +kernel, by decide +kernel⟩, by decide +kernel, iw_655⟩
theorem st_132 : m_st 132 1 := ⟨⟨by decide +kernel, by decide +kernel, by decide +kernel⟩, by decide +kernel, iw_656⟩
theorem st_133 : m_st 133 0 := ⟨⟨by decide +kernel, by decide +kernel, by decide +kernel⟩, by decide +kernel, iw_657⟩
theorem st_134 : m_st 134 0 := ⟨⟨by decide +kernel, by decide +kernel, by decide +kernel⟩, by decide +kernel, iw_658⟩
theorem st_135 : m_st 135 0 := ⟨⟨by decide +kernel, by decide +kernel, by decide +kernel⟩, by decide +kernel, iw_659⟩
theorem st_136 : m_st 136 1 := ⟨⟨by decide +kernel, by decide +kernel, by decide +kernel⟩, by decide +kernel, iw_660⟩
theorem st_137 : m_st 137 1 := ⟨⟨by decide +kernel, by decide +kernel, by decide +kernel⟩, by decide +kernel, iw_661⟩
def q_pl (v : Value) : Bool := match v with
  | .int _ => true
  | .null => true
  | _ => false
theorem q_pl_ok {fs : List Value} (h : fs.all q_pl = true) : ∀ v ∈ fs, ∀ n, m_ok n v := fun v hv n => by
  have h1 := List.all_eq_true.mp h v hv
  cases v <;> first | trivial | cases h1
theorem q_pl_cv {fs : List Value} (h : fs.all q_pl = true) : ∀ b ad, fs.map (m_cv b ad) = fs := fun b ad => by
  have h2 : fs.map (m_cv b ad) = fs.map id := List.map_congr_left fun v hv => by
    have h1 := List.all_eq_true.mp h v hv
    cases v <;> first | rfl | cases h1
  rw [h2, List.map_id]
theorem k_tswD {L : Nat} {xs : Nat → Int32} {m pc d len : Nat} {dflt : Int} {hi : Nat} {offs : Array Int} {cs : List (Int32 × Nat)} (hd : decode (mcc m) pc = .ok (.tableswitch dflt 0 (hi : Int) offs, len)) (hdf : (pc : Int) + dflt = (d : Int)) (hc : (decide (cs.length = hi + 1) && (decide (hi < 1000) && (List.range (hi + 1)).all fun k => match cs[k]?, offs[k]? with
    | some c, some o => decide (c.1 = nI k) && decide ((pc : Int) + o = (c.2 : Int))
    | _, _ => false)) = true) : m_Ok L xs m pc (a_tsw cs d) := by
  simp only [Bool.and_eq_true, decide_eq_true_eq] at hc
  refine k_tsw hd hdf hc.1 hc.2.1 fun k hk c hck => ?_
  have h1 := List.all_eq_true.mp hc.2.2 k (List.mem_range.mpr hk)
  rw [hck] at h1
  cases ho : offs[k]? with
  | none => rw [ho] at h1; cases h1
  | some o =>
    rw [ho] at h1
    simp only [Bool.and_eq_true, decide_eq_true_eq] at h1
    exact ⟨h1.1, o, rfl, h1.2⟩
theorem o_br {L : Nat} {xs : Nat → Int32} {m pc : Nat} {b : Bool} {x y : mA} (hx : m_Ok L xs m pc x) (hy : m_Ok L xs m pc y) : m_Ok L xs m pc (cond b x y) := by cases b <;> assumption
def a_none : mA := fun _ _ _ => none
theorem o_lf {L : Nat} {xs : Nat → Int32} {m pc k : Nat} {a : mA} (h : m_Ok L xs m k a) : m_Ok L xs m pc (cond (Nat.beq pc k) a a_none) := by
  cases hb : Nat.beq pc k with
  | false => exact m_Ok_none
  | true => rw [Nat.eq_of_beq_eq_true hb]; exact h
theorem o_lm {L : Nat} {xs : Nat → Int32} {m pc k : Nat} {f : Nat → mA} (h : ∀ pc, m_Ok L xs k pc (f pc)) : m_Ok L xs m pc (cond (Nat.beq m k) (f pc) a_none) := by
  cases hb : Nat.beq m k with
  | false => exact m_Ok_none
  | true => rw [Nat.eq_of_beq_eq_true hb]; exact h pc
theorem m_nz {P Q : Prop} (h : ¬ P) : (¬ P ∧ Q) = Q := propext ⟨fun z => z.2, fun z => ⟨h, z⟩⟩
