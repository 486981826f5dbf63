/-! words of the tables: printed by wip/whole/gen.py -/
theorem ab_ina {w : Cond} (h : w ∈ lw_tbl) (g : goodWord w = true) : w ∈ ab_all := List.mem_filter.mpr ⟨h, g⟩
theorem ab_ino {w : Cond} (h : w ∈ lw_tbl) (g : ab_oddk w = true) : w ∈ ab_odd := List.mem_filter.mpr ⟨h, g⟩
theorem ab_at1 {i : Nat} {w : Cond} (h : tables_1_1[i]? = some w) : w ∈ lw_tbl := List.mem_append_right _ (show w ∈ tables_1 from List.mem_append_left _ (List.mem_of_getElem? h))
theorem ab_at2 {i : Nat} {w : Cond} (h : tables_1_2[i]? = some w) : w ∈ lw_tbl := List.mem_append_right _ (show w ∈ tables_1 from List.mem_append_right _ (List.mem_append_left _ (List.mem_of_getElem? h)))
theorem ab_at3 {i : Nat} {w : Cond} (h : tables_1_3[i]? = some w) : w ∈ lw_tbl := List.mem_append_right _ (show w ∈ tables_1 from List.mem_append_right _ (List.mem_append_right _ (List.mem_append_left _ (List.mem_of_getElem? h))))
theorem ab_at4 {i : Nat} {w : Cond} (h : tables_1_4[i]? = some w) : w ∈ lw_tbl := List.mem_append_right _ (show w ∈ tables_1 from List.mem_append_right _ (List.mem_append_right _ (List.mem_append_right _ (List.mem_append_left _ (List.mem_of_getElem? h)))))
theorem ab_at5 {i : Nat} {w : Cond} (h : tables_1_5[i]? = some w) : w ∈ lw_tbl := List.mem_append_right _ (show w ∈ tables_1 from List.mem_append_right _ (List.mem_append_right _ (List.mem_append_right _ (List.mem_append_right _ (List.mem_append_left _ (List.mem_of_getElem? h))))))
theorem ab_at6 {i : Nat} {w : Cond} (h : tables_1_6[i]? = some w) : w ∈ lw_tbl := List.mem_append_right _ (show w ∈ tables_1 from List.mem_append_right _ (List.mem_append_right _ (List.mem_append_right _ (List.mem_append_right _ (List.mem_append_right _ (List.mem_of_getElem? h))))))
theorem wd_0 : Cond.methodLink "TempoPlayer" 3 Lib.objectInit ∈ ab_all := ab_ina (ab_at1 (i := 23) (rfl)) rfl
theorem wd_1 : Cond.instanceMethod Lib.objectInit ∈ ab_all := ab_ina (ab_at1 (i := 24) (rfl)) rfl
theorem wd_2 : Cond.code Lib.objectInit ⟨#[0xb1]⟩ 1 none ∈ ab_all := ab_ina (ab_at1 (i := 25) (by decide +kernel)) rfl
theorem wd_3 : Cond.classLink "TempoPlayer" 9 "TempoPlayer$Score" ∈ ab_all := ab_ina (ab_at1 (i := 26) (rfl)) rfl
theorem wd_4 : Cond.instantiable "TempoPlayer$Score" 8 ∈ ab_all := ab_ina (ab_at1 (i := 27) (rfl)) rfl
theorem wd_5 : Cond.initialized "TempoPlayer$Score" ∈ ab_all := ab_ina (ab_at1 (i := 2) (rfl)) rfl
theorem wd_6 : Cond.methodLinkNest "TempoPlayer" 11 ⟨"TempoPlayer$Score", "<init>", "()V"⟩ "TempoPlayer" ∈ ab_odd := ab_ino (ab_at1 (i := 28) (rfl)) rfl
theorem wd_7 : Cond.instanceMethod ⟨"TempoPlayer$Score", "<init>", "()V"⟩ ∈ ab_all := ab_ina (ab_at1 (i := 29) (rfl)) rfl
theorem wd_8 : Cond.fieldLink "TempoPlayer" 12 "TempoPlayer" "score" "LTempoPlayer$Score;" ∈ ab_all := ab_ina (ab_at1 (i := 206) (rfl)) rfl
theorem wd_9 : Cond.fieldLink "TempoPlayer" 16 "TempoPlayer$Score" "piece" "LTempoPlayer$Piece;" ∈ ab_all := ab_ina (ab_at1 (i := 84) (rfl)) rfl
theorem wd_10 : Cond.fieldLink "TempoPlayer" 20 "TempoPlayer" "piece" "LTempoPlayer$Piece;" ∈ ab_all := ab_ina (ab_at1 (i := 207) (rfl)) rfl
theorem wd_11 : Cond.classLink "TempoPlayer" 21 "TempoPlayer$Playback" ∈ ab_all := ab_ina (ab_at1 (i := 115) (rfl)) rfl
theorem wd_12 : Cond.instantiable "TempoPlayer$Playback" 11 ∈ ab_all := ab_ina (ab_at1 (i := 116) (rfl)) rfl
theorem wd_13 : Cond.initialized "TempoPlayer$Playback" ∈ ab_all := ab_ina (ab_at1 (i := 6) (rfl)) rfl
theorem wd_14 : Cond.methodLinkNest "TempoPlayer" 23 ⟨"TempoPlayer$Playback", "<init>", "()V"⟩ "TempoPlayer" ∈ ab_odd := ab_ino (ab_at1 (i := 117) (rfl)) rfl
theorem wd_15 : Cond.instanceMethod ⟨"TempoPlayer$Playback", "<init>", "()V"⟩ ∈ ab_all := ab_ina (ab_at1 (i := 118) (rfl)) rfl
theorem wd_16 : Cond.fieldLink "TempoPlayer" 24 "TempoPlayer" "playback" "LTempoPlayer$Playback;" ∈ ab_all := ab_ina (ab_at1 (i := 208) (rfl)) rfl
theorem wd_17 : Cond.classLink "TempoPlayer" 28 "TempoPlayer$History" ∈ ab_all := ab_ina (ab_at1 (i := 160) (rfl)) rfl
theorem wd_18 : Cond.instantiable "TempoPlayer$History" 2 ∈ ab_all := ab_ina (ab_at1 (i := 161) (rfl)) rfl
theorem wd_19 : Cond.initialized "TempoPlayer$History" ∈ ab_all := ab_ina (ab_at1 (i := 7) (rfl)) rfl
theorem wd_20 : Cond.methodLink "TempoPlayer" 30 ⟨"TempoPlayer$History", "<init>", "()V"⟩ ∈ ab_all := ab_ina (ab_at1 (i := 162) (rfl)) rfl
theorem wd_21 : Cond.instanceMethod ⟨"TempoPlayer$History", "<init>", "()V"⟩ ∈ ab_all := ab_ina (ab_at1 (i := 163) (rfl)) rfl
theorem wd_22 : Cond.fieldLink "TempoPlayer" 31 "TempoPlayer" "history" "LTempoPlayer$History;" ∈ ab_all := ab_ina (ab_at1 (i := 209) (rfl)) rfl
theorem wd_23 : Cond.classLink "TempoPlayer" 35 ab_pc ∈ ab_all := ab_ina (ab_at1 (i := 177) (rfl)) rfl
theorem wd_24 : Cond.fieldLink "TempoPlayer" 37 "TempoPlayer" "images" "[LTempoPlayer$Piece;" ∈ ab_all := ab_ina (ab_at1 (i := 210) (rfl)) rfl
theorem wd_25 : Cond.arrayClass .int ∈ ab_all := ab_ina (ab_at1 (i := 65) (rfl)) rfl
theorem wd_26 : Cond.fieldLink "TempoPlayer" 41 "TempoPlayer" "input" "[I" ∈ ab_all := ab_ina (ab_at1 (i := 212) (rfl)) rfl
theorem wd_27 : Cond.classLink "TempoPlayer" 45 "TempoPlayer$TextReader" ∈ ab_all := ab_ina (ab_at1 (i := 178) (rfl)) rfl
theorem wd_28 : Cond.instantiable "TempoPlayer$TextReader" 5 ∈ ab_all := ab_ina (ab_at1 (i := 179) (rfl)) rfl
theorem wd_29 : Cond.initialized "TempoPlayer$TextReader" ∈ ab_all := ab_ina (ab_at1 (i := 8) (rfl)) rfl
theorem wd_30 : Cond.methodLinkNest "TempoPlayer" 47 ⟨"TempoPlayer$TextReader", "<init>", "()V"⟩ "TempoPlayer" ∈ ab_odd := ab_ino (ab_at1 (i := 180) (rfl)) rfl
theorem wd_31 : Cond.instanceMethod ⟨"TempoPlayer$TextReader", "<init>", "()V"⟩ ∈ ab_all := ab_ina (ab_at1 (i := 181) (rfl)) rfl
theorem wd_32 : Cond.fieldLink "TempoPlayer" 48 "TempoPlayer" "reader" "LTempoPlayer$TextReader;" ∈ ab_all := ab_ina (ab_at1 (i := 214) (rfl)) rfl
theorem wd_33 : Cond.fieldLink "TempoPlayer" 52 "TempoPlayer" "supposed" "LTempoPlayer$Score;" ∈ ab_all := ab_ina (ab_at1 (i := 215) (rfl)) rfl
theorem wd_34 : Cond.classLink "TempoPlayer" 35 "TempoPlayer$Piece" ∈ ab_all := ab_ina (ab_at1 (i := 177) (rfl)) rfl
theorem wd_35 : Cond.instantiable "TempoPlayer$Piece" 3 ∈ ab_all := ab_ina (ab_at1 (i := 33) (rfl)) rfl
theorem wd_36 : Cond.initialized "TempoPlayer$Piece" ∈ ab_all := ab_ina (ab_at1 (i := 3) (rfl)) rfl
theorem wd_37 : Cond.methodLinkNest "TempoPlayer" 55 ⟨"TempoPlayer$Piece", "<init>", "()V"⟩ "TempoPlayer" ∈ ab_odd := ab_ino (ab_at1 (i := 205) (rfl)) rfl
theorem wd_38 : Cond.instanceMethod ⟨"TempoPlayer$Piece", "<init>", "()V"⟩ ∈ ab_all := ab_ina (ab_at1 (i := 35) (rfl)) rfl
theorem wd_39 : Cond.methodLink "TempoPlayer" 56 ⟨"TempoPlayer", "needNothingPlayed", "()V"⟩ ∈ ab_all := ab_ina (ab_at3 (i := 79) (rfl)) rfl
theorem wd_40 : Cond.instanceMethod ⟨"TempoPlayer", "needNothingPlayed", "()V"⟩ ∈ ab_all := ab_ina (ab_at3 (i := 81) (rfl)) rfl
theorem wd_41 : Cond.selects "TempoPlayer" ⟨"TempoPlayer", "needNothingPlayed", "()V"⟩ ⟨"TempoPlayer", "needNothingPlayed", "()V"⟩ ∈ ab_all := ab_ina (List.mem_append_left _ (List.mem_of_getElem? (i := 10) (by decide +kernel))) rfl
theorem wd_42 : Cond.fieldLink "TempoPlayer" 59 "TempoPlayer$Piece" "bars" "LTempoPlayer$Table;" ∈ ab_all := ab_ina (ab_at1 (i := 67) (rfl)) rfl
theorem wd_43 : Cond.fieldLink "TempoPlayer" 63 "TempoPlayer$Table" "rows" "I" ∈ ab_all := ab_ina (ab_at1 (i := 53) (rfl)) rfl
theorem wd_44 : Cond.methodLink "TempoPlayer" 69 ⟨"TempoPlayer$History", "remember", "(LTempoPlayer$Piece;)V"⟩ ∈ ab_all := ab_ina (ab_at3 (i := 99) (rfl)) rfl
theorem wd_45 : Cond.instanceMethod ⟨"TempoPlayer$History", "remember", "(LTempoPlayer$Piece;)V"⟩ ∈ ab_all := ab_ina (ab_at3 (i := 100) (rfl)) rfl
theorem wd_46 : Cond.selects "TempoPlayer$History" ⟨"TempoPlayer$History", "remember", "(LTempoPlayer$Piece;)V"⟩ ⟨"TempoPlayer$History", "remember", "(LTempoPlayer$Piece;)V"⟩ ∈ ab_all := ab_ina (ab_at3 (i := 101) (rfl)) rfl
theorem wd_47 : Cond.methodLink "TempoPlayer" 73 ⟨"TempoPlayer$Piece", "empty", "()V"⟩ ∈ ab_all := ab_ina (ab_at3 (i := 118) (rfl)) rfl
theorem wd_48 : Cond.instanceMethod ⟨"TempoPlayer$Piece", "empty", "()V"⟩ ∈ ab_all := ab_ina (ab_at3 (i := 119) (rfl)) rfl
theorem wd_49 : Cond.selects "TempoPlayer$Piece" ⟨"TempoPlayer$Piece", "empty", "()V"⟩ ⟨"TempoPlayer$Piece", "empty", "()V"⟩ ∈ ab_all := ab_ina (ab_at3 (i := 120) (rfl)) rfl
theorem wd_50 : Cond.methodLink "TempoPlayer" 76 ⟨"TempoPlayer$Score", "settle", "()V"⟩ ∈ ab_all := ab_ina (ab_at3 (i := 122) (rfl)) rfl
theorem wd_51 : Cond.instanceMethod ⟨"TempoPlayer$Score", "settle", "()V"⟩ ∈ ab_all := ab_ina (ab_at3 (i := 123) (rfl)) rfl
theorem wd_52 : Cond.selects "TempoPlayer$Score" ⟨"TempoPlayer$Score", "settle", "()V"⟩ ⟨"TempoPlayer$Score", "settle", "()V"⟩ ∈ ab_all := ab_ina (ab_at3 (i := 124) (rfl)) rfl
theorem wd_53 : Cond.fieldLink "TempoPlayer" 79 "TempoPlayer" "LEAST_VALUES" "[I" ∈ ab_all := ab_ina (ab_at3 (i := 160) (rfl)) rfl
theorem wd_54 : Cond.fieldLink "TempoPlayer" 82 "TempoPlayer" "MOST_VALUES" "[I" ∈ ab_all := ab_ina (ab_at3 (i := 161) (rfl)) rfl
theorem wd_55 : Cond.methodLink "TempoPlayer" 85 ⟨"TempoPlayer", "needRange", "(JJJ)V"⟩ ∈ ab_all := ab_ina (ab_at2 (i := 64) (rfl)) rfl
theorem wd_56 : Cond.static ⟨"TempoPlayer", "needRange", "(JJJ)V"⟩ ∈ ab_all := ab_ina (ab_at2 (i := 65) (rfl)) rfl
theorem wd_57 : Cond.methodLink "TempoPlayer" 89 ⟨"TempoPlayer", "needRoom", "(LTempoPlayer$Table;II)V"⟩ ∈ ab_all := ab_ina (ab_at3 (i := 162) (rfl)) rfl
theorem wd_58 : Cond.static ⟨"TempoPlayer", "needRoom", "(LTempoPlayer$Table;II)V"⟩ ∈ ab_all := ab_ina (ab_at3 (i := 163) (rfl)) rfl
theorem wd_59 : Cond.methodLink "TempoPlayer" 93 ⟨"TempoPlayer", "appendBar", "(LTempoPlayer$Table;II)V"⟩ ∈ ab_all := ab_ina (ab_at3 (i := 166) (rfl)) rfl
theorem wd_60 : Cond.static ⟨"TempoPlayer", "appendBar", "(LTempoPlayer$Table;II)V"⟩ ∈ ab_all := ab_ina (ab_at2 (i := 14) (rfl)) rfl
theorem wd_61 : Cond.methodLink "TempoPlayer" 96 ⟨"TempoPlayer", "needIndex", "(II)V"⟩ ∈ ab_all := ab_ina (ab_at2 (i := 239) (rfl)) rfl
theorem wd_62 : Cond.static ⟨"TempoPlayer", "needIndex", "(II)V"⟩ ∈ ab_all := ab_ina (ab_at3 (i := 0) (rfl)) rfl
theorem wd_63 : Cond.methodLink "TempoPlayer" 100 ⟨"TempoPlayer$Table", "cell", "(II)I"⟩ ∈ ab_all := ab_ina (ab_at3 (i := 20) (rfl)) rfl
theorem wd_64 : Cond.instanceMethod ⟨"TempoPlayer$Table", "cell", "(II)I"⟩ ∈ ab_all := ab_ina (ab_at2 (i := 140) (rfl)) rfl
theorem wd_65 : Cond.selects "TempoPlayer$Table" ⟨"TempoPlayer$Table", "cell", "(II)I"⟩ ⟨"TempoPlayer$Table", "cell", "(II)I"⟩ ∈ ab_all := ab_ina (ab_at2 (i := 141) (rfl)) rfl
theorem wd_66 : Cond.methodLink "TempoPlayer" 104 ⟨"TempoPlayer$Table", "put", "(III)V"⟩ ∈ ab_all := ab_ina (ab_at2 (i := 23) (rfl)) rfl
theorem wd_67 : Cond.instanceMethod ⟨"TempoPlayer$Table", "put", "(III)V"⟩ ∈ ab_all := ab_ina (ab_at2 (i := 24) (rfl)) rfl
theorem wd_68 : Cond.selects "TempoPlayer$Table" ⟨"TempoPlayer$Table", "put", "(III)V"⟩ ⟨"TempoPlayer$Table", "put", "(III)V"⟩ ∈ ab_all := ab_ina (ab_at2 (i := 25) (rfl)) rfl
theorem wd_69 : Cond.methodLink "TempoPlayer" 108 ⟨"TempoPlayer", "dropLostAccents", "(I)V"⟩ ∈ ab_all := ab_ina (ab_at3 (i := 175) (rfl)) rfl
theorem wd_70 : Cond.instanceMethod ⟨"TempoPlayer", "dropLostAccents", "(I)V"⟩ ∈ ab_all := ab_ina (ab_at3 (i := 177) (rfl)) rfl
theorem wd_71 : Cond.selects "TempoPlayer" ⟨"TempoPlayer", "dropLostAccents", "(I)V"⟩ ⟨"TempoPlayer", "dropLostAccents", "(I)V"⟩ ∈ ab_all := ab_ina (List.mem_append_left _ (List.mem_of_getElem? (i := 17) (by decide +kernel))) rfl
theorem wd_72 : Cond.methodLink "TempoPlayer" 112 ⟨"TempoPlayer$Table", "dropRow", "(I)V"⟩ ∈ ab_all := ab_ina (ab_at3 (i := 186) (rfl)) rfl
theorem wd_73 : Cond.instanceMethod ⟨"TempoPlayer$Table", "dropRow", "(I)V"⟩ ∈ ab_all := ab_ina (ab_at3 (i := 149) (rfl)) rfl
theorem wd_74 : Cond.selects "TempoPlayer$Table" ⟨"TempoPlayer$Table", "dropRow", "(I)V"⟩ ⟨"TempoPlayer$Table", "dropRow", "(I)V"⟩ ∈ ab_all := ab_ina (ab_at3 (i := 150) (rfl)) rfl
theorem wd_75 : Cond.constantLong "TempoPlayer" 115 (287) ∈ ab_all := ab_ina (ab_at3 (i := 194) (rfl)) rfl
theorem wd_76 : Cond.constantLong "TempoPlayer" 117 (200) ∈ ab_all := ab_ina (ab_at3 (i := 195) (rfl)) rfl
theorem wd_77 : Cond.constantLong "TempoPlayer" 119 (4000) ∈ ab_all := ab_ina (ab_at3 (i := 196) (rfl)) rfl
theorem wd_78 : Cond.fieldLink "TempoPlayer" 121 "TempoPlayer$Piece" "marks" "LTempoPlayer$Table;" ∈ ab_all := ab_ina (ab_at1 (i := 71) (rfl)) rfl
theorem wd_79 : Cond.methodLink "TempoPlayer" 124 ⟨"TempoPlayer", "markPlace", "(LTempoPlayer$Table;I)I"⟩ ∈ ab_all := ab_ina (ab_at3 (i := 197) (rfl)) rfl
theorem wd_80 : Cond.static ⟨"TempoPlayer", "markPlace", "(LTempoPlayer$Table;I)I"⟩ ∈ ab_all := ab_ina (ab_at3 (i := 198) (rfl)) rfl
theorem wd_81 : Cond.methodLink "TempoPlayer" 128 ⟨"TempoPlayer", "isMarkAt", "(LTempoPlayer$Table;II)Z"⟩ ∈ ab_all := ab_ina (ab_at3 (i := 200) (rfl)) rfl
theorem wd_82 : Cond.static ⟨"TempoPlayer", "isMarkAt", "(LTempoPlayer$Table;II)Z"⟩ ∈ ab_all := ab_ina (ab_at3 (i := 201) (rfl)) rfl
theorem wd_83 : Cond.methodLink "TempoPlayer" 132 ⟨"TempoPlayer", "putMark", "(LTempoPlayer$Table;IIZ)V"⟩ ∈ ab_all := ab_ina (ab_at3 (i := 203) (rfl)) rfl
theorem wd_84 : Cond.static ⟨"TempoPlayer", "putMark", "(LTempoPlayer$Table;IIZ)V"⟩ ∈ ab_all := ab_ina (ab_at3 (i := 204) (rfl)) rfl
theorem wd_85 : Cond.fieldLink "TempoPlayer" 136 "TempoPlayer$Score" "beats" "I" ∈ ab_all := ab_ina (ab_at1 (i := 93) (rfl)) rfl
theorem wd_86 : Cond.constantLong "TempoPlayer" 139 (479) ∈ ab_all := ab_ina (ab_at3 (i := 220) (rfl)) rfl
theorem wd_87 : Cond.constantLong "TempoPlayer" 141 (5000) ∈ ab_all := ab_ina (ab_at3 (i := 221) (rfl)) rfl
theorem wd_88 : Cond.fieldLink "TempoPlayer" 143 "TempoPlayer$Piece" "cues" "LTempoPlayer$Table;" ∈ ab_all := ab_ina (ab_at1 (i := 75) (rfl)) rfl
theorem wd_89 : Cond.methodLink "TempoPlayer" 146 ⟨"TempoPlayer$Table", "openRow", "(I)V"⟩ ∈ ab_all := ab_ina (ab_at2 (i := 16) (rfl)) rfl
theorem wd_90 : Cond.instanceMethod ⟨"TempoPlayer$Table", "openRow", "(I)V"⟩ ∈ ab_all := ab_ina (ab_at2 (i := 17) (rfl)) rfl
theorem wd_91 : Cond.selects "TempoPlayer$Table" ⟨"TempoPlayer$Table", "openRow", "(I)V"⟩ ⟨"TempoPlayer$Table", "openRow", "(I)V"⟩ ∈ ab_all := ab_ina (ab_at2 (i := 18) (rfl)) rfl
theorem wd_92 : Cond.fieldLink "TempoPlayer" 149 "TempoPlayer" "inputLength" "I" ∈ ab_all := ab_ina (ab_at1 (i := 213) (rfl)) rfl
theorem wd_93 : Cond.methodLink "TempoPlayer" 152 ⟨"TempoPlayer$TextReader", "read", "([II)V"⟩ ∈ ab_all := ab_ina (ab_at2 (i := 5) (rfl)) rfl
theorem wd_94 : Cond.instanceMethod ⟨"TempoPlayer$TextReader", "read", "([II)V"⟩ ∈ ab_all := ab_ina (ab_at2 (i := 6) (rfl)) rfl
theorem wd_95 : Cond.selects "TempoPlayer$TextReader" ⟨"TempoPlayer$TextReader", "read", "([II)V"⟩ ⟨"TempoPlayer$TextReader", "read", "([II)V"⟩ ∈ ab_all := ab_ina (ab_at2 (i := 7) (rfl)) rfl
theorem wd_96 : Cond.fieldLink "TempoPlayer" 156 "TempoPlayer$TextReader" "complete" "Z" ∈ ab_all := ab_ina (ab_at1 (i := 191) (rfl)) rfl
theorem wd_97 : Cond.classLink "TempoPlayer" 160 (ab_exc 1) ∈ ab_all := ab_ina (ab_at2 (i := 67) (rfl)) rfl
theorem wd_98 : Cond.initialized (ab_exc 1) ∈ ab_all := ab_ina (ab_at1 (i := 15) (rfl)) rfl
theorem wd_99 : Cond.fieldLink "TempoPlayer" 167 "TempoPlayer$TextReader" "bars" "LTempoPlayer$Table;" ∈ ab_all := ab_ina (ab_at1 (i := 187) (rfl)) rfl
theorem wd_100 : Cond.methodLink "TempoPlayer" 168 ⟨"TempoPlayer$Table", "appendCopy", "(LTempoPlayer$Table;I)V"⟩ ∈ ab_all := ab_ina (ab_at3 (i := 237) (rfl)) rfl
theorem wd_101 : Cond.instanceMethod ⟨"TempoPlayer$Table", "appendCopy", "(LTempoPlayer$Table;I)V"⟩ ∈ ab_all := ab_ina (ab_at3 (i := 238) (rfl)) rfl
theorem wd_102 : Cond.selects "TempoPlayer$Table" ⟨"TempoPlayer$Table", "appendCopy", "(LTempoPlayer$Table;I)V"⟩ ⟨"TempoPlayer$Table", "appendCopy", "(LTempoPlayer$Table;I)V"⟩ ∈ ab_all := ab_ina (ab_at3 (i := 239) (rfl)) rfl
theorem wd_103 : Cond.fieldLink "TempoPlayer" 172 "TempoPlayer$History" "states" "I" ∈ ab_all := ab_ina (ab_at1 (i := 171) (rfl)) rfl
theorem wd_104 : Cond.classLink "TempoPlayer" 175 (ab_exc 0) ∈ ab_all := ab_ina (ab_at3 (i := 83) (rfl)) rfl
theorem wd_105 : Cond.initialized (ab_exc 0) ∈ ab_all := ab_ina (ab_at1 (i := 13) (rfl)) rfl
theorem wd_106 : Cond.methodLink "TempoPlayer" 180 ⟨"TempoPlayer$History", "takeBack", "(LTempoPlayer$Piece;)V"⟩ ∈ ab_all := ab_ina (ab_at4 (i := 12) (rfl)) rfl
theorem wd_107 : Cond.instanceMethod ⟨"TempoPlayer$History", "takeBack", "(LTempoPlayer$Piece;)V"⟩ ∈ ab_all := ab_ina (ab_at4 (i := 13) (rfl)) rfl
theorem wd_108 : Cond.selects "TempoPlayer$History" ⟨"TempoPlayer$History", "takeBack", "(LTempoPlayer$Piece;)V"⟩ ⟨"TempoPlayer$History", "takeBack", "(LTempoPlayer$Piece;)V"⟩ ∈ ab_all := ab_ina (ab_at4 (i := 14) (rfl)) rfl
theorem wd_109 : Cond.methodLink "TempoPlayer" 183 ⟨"TempoPlayer$Piece", "copyFrom", "(LTempoPlayer$Piece;)V"⟩ ∈ ab_all := ab_ina (ab_at4 (i := 23) (rfl)) rfl
theorem wd_110 : Cond.instanceMethod ⟨"TempoPlayer$Piece", "copyFrom", "(LTempoPlayer$Piece;)V"⟩ ∈ ab_all := ab_ina (ab_at3 (i := 108) (rfl)) rfl
theorem wd_111 : Cond.selects "TempoPlayer$Piece" ⟨"TempoPlayer$Piece", "copyFrom", "(LTempoPlayer$Piece;)V"⟩ ⟨"TempoPlayer$Piece", "copyFrom", "(LTempoPlayer$Piece;)V"⟩ ∈ ab_all := ab_ina (ab_at3 (i := 109) (rfl)) rfl
theorem wd_112 : Cond.fieldLink "TempoPlayer" 186 "TempoPlayer" "keptImages" "I" ∈ ab_all := ab_ina (ab_at1 (i := 211) (rfl)) rfl
theorem wd_113 : Cond.constantLong "TempoPlayer" 191 (32) ∈ ab_all := ab_ina (ab_at4 (i := 39) (rfl)) rfl
theorem wd_114 : Cond.constantLong "TempoPlayer" 193 (126) ∈ ab_all := ab_ina (ab_at4 (i := 40) (rfl)) rfl
theorem wd_115 : Cond.fieldLink "TempoPlayer" 197 "TempoPlayer$TextReader" "taken" "I" ∈ ab_all := ab_ina (ab_at1 (i := 189) (rfl)) rfl
theorem wd_116 : Cond.constantLong "TempoPlayer" 200 (8) ∈ ab_all := ab_ina (ab_at4 (i := 49) (rfl)) rfl
theorem wd_117 : Cond.constantLong "TempoPlayer" 202 (50) ∈ ab_all := ab_ina (ab_at4 (i := 50) (rfl)) rfl
theorem wd_118 : Cond.methodLink "TempoPlayer" 204 ⟨"TempoPlayer$Score", "firstBeatOf", "(I)I"⟩ ∈ ab_all := ab_ina (ab_at3 (i := 19) (rfl)) rfl
theorem wd_119 : Cond.instanceMethod ⟨"TempoPlayer$Score", "firstBeatOf", "(I)I"⟩ ∈ ab_all := ab_ina (ab_at2 (i := 157) (rfl)) rfl
theorem wd_120 : Cond.selects "TempoPlayer$Score" ⟨"TempoPlayer$Score", "firstBeatOf", "(I)I"⟩ ⟨"TempoPlayer$Score", "firstBeatOf", "(I)I"⟩ ∈ ab_all := ab_ina (ab_at2 (i := 158) (rfl)) rfl
theorem wd_121 : Cond.methodLink "TempoPlayer" 208 ⟨"TempoPlayer$Playback", "open", "(III)V"⟩ ∈ ab_all := ab_ina (ab_at4 (i := 51) (rfl)) rfl
theorem wd_122 : Cond.instanceMethod ⟨"TempoPlayer$Playback", "open", "(III)V"⟩ ∈ ab_all := ab_ina (ab_at4 (i := 52) (rfl)) rfl
theorem wd_123 : Cond.selects "TempoPlayer$Playback" ⟨"TempoPlayer$Playback", "open", "(III)V"⟩ ⟨"TempoPlayer$Playback", "open", "(III)V"⟩ ∈ ab_all := ab_ina (ab_at4 (i := 53) (rfl)) rfl
theorem wd_124 : Cond.methodLink "TempoPlayer" 211 ⟨"TempoPlayer$Playback", "playedEnd", "(LTempoPlayer$Score;)J"⟩ ∈ ab_all := ab_ina (ab_at2 (i := 174) (rfl)) rfl
theorem wd_125 : Cond.instanceMethod ⟨"TempoPlayer$Playback", "playedEnd", "(LTempoPlayer$Score;)J"⟩ ∈ ab_all := ab_ina (ab_at2 (i := 175) (rfl)) rfl
theorem wd_126 : Cond.selects "TempoPlayer$Playback" ⟨"TempoPlayer$Playback", "playedEnd", "(LTempoPlayer$Score;)J"⟩ ⟨"TempoPlayer$Playback", "playedEnd", "(LTempoPlayer$Score;)J"⟩ ∈ ab_all := ab_ina (ab_at2 (i := 176) (rfl)) rfl
theorem wd_127 : Cond.constantLong "TempoPlayer" 215 (60000) ∈ ab_all := ab_ina (ab_at4 (i := 62) (rfl)) rfl
theorem wd_128 : Cond.methodLink "TempoPlayer" 217 ⟨"TempoPlayer", "needSomethingPlayed", "()V"⟩ ∈ ab_all := ab_ina (ab_at4 (i := 63) (rfl)) rfl
theorem wd_129 : Cond.instanceMethod ⟨"TempoPlayer", "needSomethingPlayed", "()V"⟩ ∈ ab_all := ab_ina (ab_at4 (i := 65) (rfl)) rfl
theorem wd_130 : Cond.selects "TempoPlayer" ⟨"TempoPlayer", "needSomethingPlayed", "()V"⟩ ⟨"TempoPlayer", "needSomethingPlayed", "()V"⟩ ∈ ab_all := ab_ina (List.mem_append_left _ (List.mem_of_getElem? (i := 18) (by decide +kernel))) rfl
theorem wd_131 : Cond.constantLong "TempoPlayer" 220 (1000) ∈ ab_all := ab_ina (ab_at4 (i := 68) (rfl)) rfl
theorem wd_132 : Cond.methodLink "TempoPlayer" 222 ⟨"TempoPlayer$Playback", "hear", "(LTempoPlayer$Score;J)I"⟩ ∈ ab_all := ab_ina (ab_at4 (i := 69) (rfl)) rfl
theorem wd_133 : Cond.instanceMethod ⟨"TempoPlayer$Playback", "hear", "(LTempoPlayer$Score;J)I"⟩ ∈ ab_all := ab_ina (ab_at4 (i := 70) (rfl)) rfl
theorem wd_134 : Cond.selects "TempoPlayer$Playback" ⟨"TempoPlayer$Playback", "hear", "(LTempoPlayer$Score;J)I"⟩ ⟨"TempoPlayer$Playback", "hear", "(LTempoPlayer$Score;J)I"⟩ ∈ ab_all := ab_ina (ab_at4 (i := 71) (rfl)) rfl
theorem wd_135 : Cond.fieldLink "TempoPlayer" 226 "TempoPlayer$Playback" "on" "Z" ∈ ab_all := ab_ina (ab_at1 (i := 128) (rfl)) rfl
theorem wd_136 : Cond.fieldLink "TempoPlayer" 229 "TempoPlayer$Playback" "clock" "J" ∈ ab_all := ab_ina (ab_at1 (i := 130) (rfl)) rfl
theorem wd_137 : Cond.constantLong "TempoPlayer" 233 (6) ∈ ab_all := ab_ina (ab_at2 (i := 172) (rfl)) rfl
theorem wd_138 : Cond.constantLong "TempoPlayer" 235 (-1) ∈ ab_all := ab_ina (ab_at2 (i := 173) (rfl)) rfl
theorem wd_139 : Cond.methodLink "TempoPlayer" 237 ⟨"TempoPlayer$Playback", "nextClickTime", "(LTempoPlayer$Score;)J"⟩ ∈ ab_all := ab_ina (ab_at2 (i := 191) (rfl)) rfl
theorem wd_140 : Cond.instanceMethod ⟨"TempoPlayer$Playback", "nextClickTime", "(LTempoPlayer$Score;)J"⟩ ∈ ab_all := ab_ina (ab_at2 (i := 192) (rfl)) rfl
theorem wd_141 : Cond.selects "TempoPlayer$Playback" ⟨"TempoPlayer$Playback", "nextClickTime", "(LTempoPlayer$Score;)J"⟩ ⟨"TempoPlayer$Playback", "nextClickTime", "(LTempoPlayer$Score;)J"⟩ ∈ ab_all := ab_ina (ab_at2 (i := 193) (rfl)) rfl
theorem wd_142 : Cond.methodLink "TempoPlayer" 240 ⟨"TempoPlayer$Playback", "nextCueTime", "(LTempoPlayer$Score;)J"⟩ ∈ ab_all := ab_ina (ab_at2 (i := 209) (rfl)) rfl
theorem wd_143 : Cond.instanceMethod ⟨"TempoPlayer$Playback", "nextCueTime", "(LTempoPlayer$Score;)J"⟩ ∈ ab_all := ab_ina (ab_at2 (i := 210) (rfl)) rfl
theorem wd_144 : Cond.selects "TempoPlayer$Playback" ⟨"TempoPlayer$Playback", "nextCueTime", "(LTempoPlayer$Score;)J"⟩ ⟨"TempoPlayer$Playback", "nextCueTime", "(LTempoPlayer$Score;)J"⟩ ∈ ab_all := ab_ina (ab_at2 (i := 211) (rfl)) rfl
theorem wd_145 : Cond.fieldLink "TempoPlayer" 243 "TempoPlayer$Playback" "clicksHeard" "I" ∈ ab_all := ab_ina (ab_at1 (i := 132) (rfl)) rfl
theorem wd_146 : Cond.fieldLink "TempoPlayer" 246 "TempoPlayer$Playback" "loudHeard" "I" ∈ ab_all := ab_ina (ab_at1 (i := 134) (rfl)) rfl
theorem wd_147 : Cond.fieldLink "TempoPlayer" 249 "TempoPlayer$Playback" "cuesHeard" "I" ∈ ab_all := ab_ina (ab_at1 (i := 136) (rfl)) rfl
theorem wd_148 : Cond.constantLong "TempoPlayer" 252 (5) ∈ ab_all := ab_ina (ab_at3 (i := 18) (rfl)) rfl
theorem wd_149 : Cond.methodLink "TempoPlayer" 254 ⟨"TempoPlayer$Score", "barOf", "(I)I"⟩ ∈ ab_all := ab_ina (ab_at3 (i := 25) (rfl)) rfl
theorem wd_150 : Cond.instanceMethod ⟨"TempoPlayer$Score", "barOf", "(I)I"⟩ ∈ ab_all := ab_ina (ab_at2 (i := 204) (rfl)) rfl
theorem wd_151 : Cond.selects "TempoPlayer$Score" ⟨"TempoPlayer$Score", "barOf", "(I)I"⟩ ⟨"TempoPlayer$Score", "barOf", "(I)I"⟩ ∈ ab_all := ab_ina (ab_at2 (i := 205) (rfl)) rfl
theorem wd_152 : Cond.methodLink "TempoPlayer" 257 ⟨"TempoPlayer$Score", "placeInBar", "(I)I"⟩ ∈ ab_all := ab_ina (ab_at3 (i := 26) (rfl)) rfl
theorem wd_153 : Cond.instanceMethod ⟨"TempoPlayer$Score", "placeInBar", "(I)I"⟩ ∈ ab_all := ab_ina (ab_at3 (i := 27) (rfl)) rfl
theorem wd_154 : Cond.selects "TempoPlayer$Score" ⟨"TempoPlayer$Score", "placeInBar", "(I)I"⟩ ⟨"TempoPlayer$Score", "placeInBar", "(I)I"⟩ ∈ ab_all := ab_ina (ab_at3 (i := 28) (rfl)) rfl
theorem wd_155 : Cond.methodLink "TempoPlayer" 260 ⟨"TempoPlayer$Score", "tempoOf", "(I)I"⟩ ∈ ab_all := ab_ina (ab_at3 (i := 30) (rfl)) rfl
theorem wd_156 : Cond.instanceMethod ⟨"TempoPlayer$Score", "tempoOf", "(I)I"⟩ ∈ ab_all := ab_ina (ab_at3 (i := 31) (rfl)) rfl
theorem wd_157 : Cond.selects "TempoPlayer$Score" ⟨"TempoPlayer$Score", "tempoOf", "(I)I"⟩ ⟨"TempoPlayer$Score", "tempoOf", "(I)I"⟩ ∈ ab_all := ab_ina (ab_at3 (i := 32) (rfl)) rfl
theorem wd_158 : Cond.methodLink "TempoPlayer" 263 ⟨"TempoPlayer$Score", "naturalOf", "(I)J"⟩ ∈ ab_all := ab_ina (ab_at3 (i := 34) (rfl)) rfl
theorem wd_159 : Cond.instanceMethod ⟨"TempoPlayer$Score", "naturalOf", "(I)J"⟩ ∈ ab_all := ab_ina (ab_at3 (i := 35) (rfl)) rfl
theorem wd_160 : Cond.selects "TempoPlayer$Score" ⟨"TempoPlayer$Score", "naturalOf", "(I)J"⟩ ⟨"TempoPlayer$Score", "naturalOf", "(I)J"⟩ ∈ ab_all := ab_ina (ab_at3 (i := 36) (rfl)) rfl
theorem wd_161 : Cond.methodLink "TempoPlayer" 267 ⟨"TempoPlayer$Score", "beginOf", "(I)J"⟩ ∈ ab_all := ab_ina (ab_at3 (i := 40) (rfl)) rfl
theorem wd_162 : Cond.instanceMethod ⟨"TempoPlayer$Score", "beginOf", "(I)J"⟩ ∈ ab_all := ab_ina (ab_at2 (i := 161) (rfl)) rfl
theorem wd_163 : Cond.selects "TempoPlayer$Score" ⟨"TempoPlayer$Score", "beginOf", "(I)J"⟩ ⟨"TempoPlayer$Score", "beginOf", "(I)J"⟩ ∈ ab_all := ab_ina (ab_at2 (i := 162) (rfl)) rfl
theorem wd_164 : Cond.methodLink "TempoPlayer" 270 ⟨"TempoPlayer$Score", "lengthOf", "(I)J"⟩ ∈ ab_all := ab_ina (ab_at3 (i := 41) (rfl)) rfl
theorem wd_165 : Cond.instanceMethod ⟨"TempoPlayer$Score", "lengthOf", "(I)J"⟩ ∈ ab_all := ab_ina (ab_at2 (i := 165) (rfl)) rfl
theorem wd_166 : Cond.selects "TempoPlayer$Score" ⟨"TempoPlayer$Score", "lengthOf", "(I)J"⟩ ⟨"TempoPlayer$Score", "lengthOf", "(I)J"⟩ ∈ ab_all := ab_ina (ab_at2 (i := 166) (rfl)) rfl
theorem wd_167 : Cond.methodLink "TempoPlayer" 273 ⟨"TempoPlayer$Score", "accentOf", "(I)I"⟩ ∈ ab_all := ab_ina (ab_at3 (i := 42) (rfl)) rfl
theorem wd_168 : Cond.instanceMethod ⟨"TempoPlayer$Score", "accentOf", "(I)I"⟩ ∈ ab_all := ab_ina (ab_at3 (i := 43) (rfl)) rfl
theorem wd_169 : Cond.selects "TempoPlayer$Score" ⟨"TempoPlayer$Score", "accentOf", "(I)I"⟩ ⟨"TempoPlayer$Score", "accentOf", "(I)I"⟩ ∈ ab_all := ab_ina (ab_at3 (i := 44) (rfl)) rfl
theorem wd_170 : Cond.methodLink "TempoPlayer" 276 ⟨"TempoPlayer$Score", "divisionOf", "(I)I"⟩ ∈ ab_all := ab_ina (ab_at4 (i := 118) (rfl)) rfl
theorem wd_171 : Cond.instanceMethod ⟨"TempoPlayer$Score", "divisionOf", "(I)I"⟩ ∈ ab_all := ab_ina (ab_at2 (i := 200) (rfl)) rfl
theorem wd_172 : Cond.selects "TempoPlayer$Score" ⟨"TempoPlayer$Score", "divisionOf", "(I)I"⟩ ⟨"TempoPlayer$Score", "divisionOf", "(I)I"⟩ ∈ ab_all := ab_ina (ab_at2 (i := 201) (rfl)) rfl
theorem wd_173 : Cond.methodLink "TempoPlayer" 279 ⟨"TempoPlayer$Score", "clickTime", "(II)J"⟩ ∈ ab_all := ab_ina (ab_at4 (i := 119) (rfl)) rfl
theorem wd_174 : Cond.instanceMethod ⟨"TempoPlayer$Score", "clickTime", "(II)J"⟩ ∈ ab_all := ab_ina (ab_at2 (i := 196) (rfl)) rfl
theorem wd_175 : Cond.selects "TempoPlayer$Score" ⟨"TempoPlayer$Score", "clickTime", "(II)J"⟩ ⟨"TempoPlayer$Score", "clickTime", "(II)J"⟩ ∈ ab_all := ab_ina (ab_at2 (i := 197) (rfl)) rfl
theorem wd_176 : Cond.constantLong "TempoPlayer" 283 (2) ∈ ab_all := ab_ina (ab_at3 (i := 51) (rfl)) rfl
theorem wd_177 : Cond.constantLong "TempoPlayer" 285 (4) ∈ ab_all := ab_ina (ab_at3 (i := 56) (rfl)) rfl
theorem wd_178 : Cond.methodLink "TempoPlayer" 287 ⟨"TempoPlayer$Score", "cuePlace", "(I)J"⟩ ∈ ab_all := ab_ina (ab_at3 (i := 57) (rfl)) rfl
theorem wd_179 : Cond.instanceMethod ⟨"TempoPlayer$Score", "cuePlace", "(I)J"⟩ ∈ ab_all := ab_ina (ab_at2 (i := 220) (rfl)) rfl
theorem wd_180 : Cond.selects "TempoPlayer$Score" ⟨"TempoPlayer$Score", "cuePlace", "(I)J"⟩ ⟨"TempoPlayer$Score", "cuePlace", "(I)J"⟩ ∈ ab_all := ab_ina (ab_at2 (i := 221) (rfl)) rfl
theorem wd_181 : Cond.methodLink "TempoPlayer" 290 ⟨"TempoPlayer$Score", "cuesBefore", "(I)J"⟩ ∈ ab_all := ab_ina (ab_at3 (i := 58) (rfl)) rfl
theorem wd_182 : Cond.instanceMethod ⟨"TempoPlayer$Score", "cuesBefore", "(I)J"⟩ ∈ ab_all := ab_ina (ab_at3 (i := 59) (rfl)) rfl
theorem wd_183 : Cond.selects "TempoPlayer$Score" ⟨"TempoPlayer$Score", "cuesBefore", "(I)J"⟩ ⟨"TempoPlayer$Score", "cuesBefore", "(I)J"⟩ ∈ ab_all := ab_ina (ab_at3 (i := 60) (rfl)) rfl
theorem wd_184 : Cond.fieldLink "TempoPlayer" 293 "TempoPlayer$Score" "end" "J" ∈ ab_all := ab_ina (ab_at1 (i := 96) (rfl)) rfl
theorem wd_185 : Cond.methodLink "TempoPlayer" 296 ⟨"TempoPlayer$Score", "beatAt", "(J)I"⟩ ∈ ab_all := ab_ina (ab_at4 (i := 135) (rfl)) rfl
theorem wd_186 : Cond.instanceMethod ⟨"TempoPlayer$Score", "beatAt", "(J)I"⟩ ∈ ab_all := ab_ina (ab_at4 (i := 136) (rfl)) rfl
theorem wd_187 : Cond.selects "TempoPlayer$Score" ⟨"TempoPlayer$Score", "beatAt", "(J)I"⟩ ⟨"TempoPlayer$Score", "beatAt", "(J)I"⟩ ∈ ab_all := ab_ina (ab_at4 (i := 137) (rfl)) rfl
theorem wd_188 : Cond.constantLong "TempoPlayer" 300 (480) ∈ ab_all := ab_ina (ab_at4 (i := 139) (rfl)) rfl
theorem wd_189 : Cond.methodLink "TempoPlayer" 302 ⟨"TempoPlayer", "quotient", "(JJ)J"⟩ ∈ ab_all := ab_ina (ab_at2 (i := 188) (rfl)) rfl
theorem wd_190 : Cond.static ⟨"TempoPlayer", "quotient", "(JJ)J"⟩ ∈ ab_all := ab_ina (ab_at2 (i := 189) (rfl)) rfl
theorem wd_191 : Cond.methodLink "TempoPlayer" 306 Lib.MathLoose.min_long.x ∈ ab_all := ab_ina (ab_at4 (i := 140) (rfl)) rfl
theorem wd_192 : Cond.static Lib.MathLoose.min_long.x ∈ ab_all := ab_ina (ab_at4 (i := 141) (rfl)) rfl
theorem wd_193 : Cond.initialized "java/lang/Math" ∈ ab_all := ab_ina (ab_at1 (i := 5) (rfl)) rfl
theorem wd_194 : Cond.code Lib.MathLoose.min_long.x Lib.MathLoose.min_long.code 4 (some .long) ∈ ab_all := ab_ina (ab_at4 (i := 142) (by decide +kernel)) rfl
theorem wd_195 : Cond.constantLong "TempoPlayer" 311 (11) ∈ ab_all := ab_ina (ab_at2 (i := 63) (rfl)) rfl
theorem wd_196 : Cond.methodLink "TempoPlayer" 313 ⟨"TempoPlayer$Score", "clicksOfPiece", "()J"⟩ ∈ ab_all := ab_ina (ab_at2 (i := 135) (rfl)) rfl
theorem wd_197 : Cond.instanceMethod ⟨"TempoPlayer$Score", "clicksOfPiece", "()J"⟩ ∈ ab_all := ab_ina (ab_at2 (i := 136) (rfl)) rfl
theorem wd_198 : Cond.selects "TempoPlayer$Score" ⟨"TempoPlayer$Score", "clicksOfPiece", "()J"⟩ ⟨"TempoPlayer$Score", "clicksOfPiece", "()J"⟩ ∈ ab_all := ab_ina (ab_at2 (i := 137) (rfl)) rfl
theorem wd_199 : Cond.methodLink "TempoPlayer" 317 ⟨"TempoPlayer$Score", "sumOfPauses", "()J"⟩ ∈ ab_all := ab_ina (ab_at2 (i := 143) (rfl)) rfl
theorem wd_200 : Cond.instanceMethod ⟨"TempoPlayer$Score", "sumOfPauses", "()J"⟩ ∈ ab_all := ab_ina (ab_at2 (i := 144) (rfl)) rfl
theorem wd_201 : Cond.selects "TempoPlayer$Score" ⟨"TempoPlayer$Score", "sumOfPauses", "()J"⟩ ⟨"TempoPlayer$Score", "sumOfPauses", "()J"⟩ ∈ ab_all := ab_ina (ab_at2 (i := 145) (rfl)) rfl
theorem wd_202 : Cond.methodLink "TempoPlayer" 320 ⟨"TempoPlayer$Score", "sumOfLengths", "(Z)J"⟩ ∈ ab_all := ab_ina (ab_at2 (i := 148) (rfl)) rfl
theorem wd_203 : Cond.instanceMethod ⟨"TempoPlayer$Score", "sumOfLengths", "(Z)J"⟩ ∈ ab_all := ab_ina (ab_at2 (i := 149) (rfl)) rfl
theorem wd_204 : Cond.selects "TempoPlayer$Score" ⟨"TempoPlayer$Score", "sumOfLengths", "(Z)J"⟩ ⟨"TempoPlayer$Score", "sumOfLengths", "(Z)J"⟩ ∈ ab_all := ab_ina (ab_at2 (i := 150) (rfl)) rfl
theorem wd_205 : Cond.constantLong "TempoPlayer" 324 (1000000000) ∈ ab_all := ab_ina (ab_at4 (i := 154) (rfl)) rfl
theorem wd_206 : Cond.methodLink "TempoPlayer" 326 ⟨"TempoPlayer", "playedAt", "(JI)J"⟩ ∈ ab_all := ab_ina (ab_at4 (i := 155) (rfl)) rfl
theorem wd_207 : Cond.static ⟨"TempoPlayer", "playedAt", "(JI)J"⟩ ∈ ab_all := ab_ina (ab_at2 (i := 185) (rfl)) rfl
theorem wd_208 : Cond.methodLink "TempoPlayer" 330 ⟨"TempoPlayer", "distance", "(JJ)J"⟩ ∈ ab_all := ab_ina (ab_at4 (i := 156) (rfl)) rfl
theorem wd_209 : Cond.static ⟨"TempoPlayer", "distance", "(JJ)J"⟩ ∈ ab_all := ab_ina (ab_at4 (i := 157) (rfl)) rfl
theorem wd_210 : Cond.methodLink "TempoPlayer" 333 ⟨"TempoPlayer$Score", "lengthOfBar", "(I)J"⟩ ∈ ab_all := ab_ina (ab_at4 (i := 166) (rfl)) rfl
theorem wd_211 : Cond.instanceMethod ⟨"TempoPlayer$Score", "lengthOfBar", "(I)J"⟩ ∈ ab_all := ab_ina (ab_at2 (i := 153) (rfl)) rfl
theorem wd_212 : Cond.selects "TempoPlayer$Score" ⟨"TempoPlayer$Score", "lengthOfBar", "(I)J"⟩ ⟨"TempoPlayer$Score", "lengthOfBar", "(I)J"⟩ ∈ ab_all := ab_ina (ab_at2 (i := 154) (rfl)) rfl
theorem wd_213 : Cond.methodLink "TempoPlayer" 336 Lib.MathLoose.max_long.x ∈ ab_all := ab_ina (ab_at4 (i := 167) (rfl)) rfl
theorem wd_214 : Cond.static Lib.MathLoose.max_long.x ∈ ab_all := ab_ina (ab_at2 (i := 225) (rfl)) rfl
theorem wd_215 : Cond.code Lib.MathLoose.max_long.x Lib.MathLoose.max_long.code 4 (some .long) ∈ ab_all := ab_ina (ab_at2 (i := 226) (by decide +kernel)) rfl
theorem wd_216 : Cond.constantDouble "TempoPlayer" 339 4723321873536909312 ∈ ab_all := ab_ina (ab_at2 (i := 52) (rfl)) rfl
theorem wd_217 : Cond.constantLong "TempoPlayer" 341 (2083) ∈ ab_all := ab_ina (ab_at2 (i := 57) (rfl)) rfl
theorem wd_218 : Cond.constantLong "TempoPlayer" 343 (31) ∈ ab_all := ab_ina (ab_at2 (i := 58) (rfl)) rfl
theorem wd_219 : Cond.methodLink "TempoPlayer" 345 ⟨"TempoPlayer", "count", "(I)J"⟩ ∈ ab_all := ab_ina (ab_at2 (i := 59) (rfl)) rfl
theorem wd_220 : Cond.instanceMethod ⟨"TempoPlayer", "count", "(I)J"⟩ ∈ ab_all := ab_ina (ab_at2 (i := 60) (rfl)) rfl
theorem wd_221 : Cond.selects "TempoPlayer" ⟨"TempoPlayer", "count", "(I)J"⟩ ⟨"TempoPlayer", "count", "(I)J"⟩ ∈ ab_all := ab_ina (ab_at2 (i := 61) (rfl)) rfl
theorem wd_222 : Cond.methodLink "TempoPlayer" 348 ⟨"TempoPlayer", "playing", "(I)J"⟩ ∈ ab_all := ab_ina (ab_at2 (i := 168) (rfl)) rfl
theorem wd_223 : Cond.instanceMethod ⟨"TempoPlayer", "playing", "(I)J"⟩ ∈ ab_all := ab_ina (ab_at2 (i := 169) (rfl)) rfl
theorem wd_224 : Cond.selects "TempoPlayer" ⟨"TempoPlayer", "playing", "(I)J"⟩ ⟨"TempoPlayer", "playing", "(I)J"⟩ ∈ ab_all := ab_ina (ab_at2 (i := 170) (rfl)) rfl
theorem wd_225 : Cond.methodLink "TempoPlayer" 351 ⟨"TempoPlayer", "digestOfPiece", "(J)J"⟩ ∈ ab_all := ab_ina (ab_at2 (i := 231) (rfl)) rfl
theorem wd_226 : Cond.instanceMethod ⟨"TempoPlayer", "digestOfPiece", "(J)J"⟩ ∈ ab_all := ab_ina (ab_at2 (i := 233) (rfl)) rfl
theorem wd_227 : Cond.selects "TempoPlayer" ⟨"TempoPlayer", "digestOfPiece", "(J)J"⟩ ⟨"TempoPlayer", "digestOfPiece", "(J)J"⟩ ∈ ab_all := ab_ina (List.mem_append_left _ (List.mem_of_getElem? (i := 9) (by decide +kernel))) rfl
theorem wd_228 : Cond.methodLink "TempoPlayer" 355 ⟨"TempoPlayer", "meanTempo", "()D"⟩ ∈ ab_all := ab_ina (ab_at3 (i := 63) (rfl)) rfl
theorem wd_229 : Cond.instanceMethod ⟨"TempoPlayer", "meanTempo", "()D"⟩ ∈ ab_all := ab_ina (ab_at2 (i := 49) (rfl)) rfl
theorem wd_230 : Cond.selects "TempoPlayer" ⟨"TempoPlayer", "meanTempo", "()D"⟩ ⟨"TempoPlayer", "meanTempo", "()D"⟩ ∈ ab_all := ab_ina (ab_at2 (i := 50) (rfl)) rfl
theorem wd_231 : Cond.methodLink "TempoPlayer" 359 ⟨"TempoPlayer", "bitsOf", "(D)J"⟩ ∈ ab_all := ab_ina (ab_at3 (i := 64) (rfl)) rfl
theorem wd_232 : Cond.static ⟨"TempoPlayer", "bitsOf", "(D)J"⟩ ∈ ab_all := ab_ina (ab_at3 (i := 65) (rfl)) rfl
theorem wd_233 : Cond.methodLink "TempoPlayer" 363 ⟨"TempoPlayer", "bar", "(II)I"⟩ ∈ ab_all := ab_ina (ab_at2 (i := 235) (rfl)) rfl
theorem wd_234 : Cond.instanceMethod ⟨"TempoPlayer", "bar", "(II)I"⟩ ∈ ab_all := ab_ina (ab_at2 (i := 236) (rfl)) rfl
theorem wd_235 : Cond.selects "TempoPlayer" ⟨"TempoPlayer", "bar", "(II)I"⟩ ⟨"TempoPlayer", "bar", "(II)I"⟩ ∈ ab_all := ab_ina (ab_at2 (i := 237) (rfl)) rfl
theorem wd_236 : Cond.methodLink "TempoPlayer" 366 ⟨"TempoPlayer", "beat", "(II)J"⟩ ∈ ab_all := ab_ina (ab_at3 (i := 21) (rfl)) rfl
theorem wd_237 : Cond.instanceMethod ⟨"TempoPlayer", "beat", "(II)J"⟩ ∈ ab_all := ab_ina (ab_at3 (i := 22) (rfl)) rfl
theorem wd_238 : Cond.selects "TempoPlayer" ⟨"TempoPlayer", "beat", "(II)J"⟩ ⟨"TempoPlayer", "beat", "(II)J"⟩ ∈ ab_all := ab_ina (ab_at3 (i := 23) (rfl)) rfl
theorem wd_239 : Cond.methodLink "TempoPlayer" 369 ⟨"TempoPlayer", "tempo", "(II)I"⟩ ∈ ab_all := ab_ina (ab_at3 (i := 47) (rfl)) rfl
theorem wd_240 : Cond.instanceMethod ⟨"TempoPlayer", "tempo", "(II)I"⟩ ∈ ab_all := ab_ina (ab_at3 (i := 48) (rfl)) rfl
theorem wd_241 : Cond.selects "TempoPlayer" ⟨"TempoPlayer", "tempo", "(II)I"⟩ ⟨"TempoPlayer", "tempo", "(II)I"⟩ ∈ ab_all := ab_ina (ab_at3 (i := 49) (rfl)) rfl
theorem wd_242 : Cond.methodLink "TempoPlayer" 372 ⟨"TempoPlayer", "cueAt", "(II)J"⟩ ∈ ab_all := ab_ina (ab_at3 (i := 52) (rfl)) rfl
theorem wd_243 : Cond.instanceMethod ⟨"TempoPlayer", "cueAt", "(II)J"⟩ ∈ ab_all := ab_ina (ab_at3 (i := 53) (rfl)) rfl
theorem wd_244 : Cond.selects "TempoPlayer" ⟨"TempoPlayer", "cueAt", "(II)J"⟩ ⟨"TempoPlayer", "cueAt", "(II)J"⟩ ∈ ab_all := ab_ina (ab_at3 (i := 54) (rfl)) rfl
theorem wd_245 : Cond.classLink "TempoPlayer" 375 (ab_exc 2) ∈ ab_all := ab_ina (ab_at3 (i := 2) (rfl)) rfl
theorem wd_246 : Cond.initialized (ab_exc 2) ∈ ab_all := ab_ina (ab_at1 (i := 16) (rfl)) rfl
theorem wd_247 : Cond.constantLong "TempoPlayer" 388 (100) ∈ ab_all := ab_ina (ab_at2 (i := 187) (rfl)) rfl
theorem wd_248 : Cond.constantLong "TempoPlayer" 390 (1023) ∈ ab_all := ab_ina (ab_at3 (i := 67) (rfl)) rfl
theorem wd_249 : Cond.constantDouble "TempoPlayer" 392 4611686018427387904 ∈ ab_all := ab_ina (ab_at3 (i := 68) (rfl)) rfl
theorem wd_250 : Cond.constantLong "TempoPlayer" 394 (2046) ∈ ab_all := ab_ina (ab_at3 (i := 69) (rfl)) rfl
theorem wd_251 : Cond.constantDouble "TempoPlayer" 396 4841369599423283200 ∈ ab_all := ab_ina (ab_at3 (i := 70) (rfl)) rfl
theorem wd_252 : Cond.methodLink "TempoPlayer$Score" 3 Lib.objectInit ∈ ab_all := ab_ina (ab_at1 (i := 31) (rfl)) rfl
theorem wd_253 : Cond.classLink "TempoPlayer$Score" 9 "TempoPlayer$Piece" ∈ ab_all := ab_ina (ab_at1 (i := 32) (rfl)) rfl
theorem wd_254 : Cond.methodLinkNest "TempoPlayer$Score" 11 ⟨"TempoPlayer$Piece", "<init>", "()V"⟩ "TempoPlayer" ∈ ab_odd := ab_ino (ab_at1 (i := 34) (rfl)) rfl
theorem wd_255 : Cond.fieldLink "TempoPlayer$Score" 12 "TempoPlayer$Score" "piece" "LTempoPlayer$Piece;" ∈ ab_all := ab_ina (ab_at1 (i := 83) (rfl)) rfl
theorem wd_256 : Cond.fieldLink "TempoPlayer$Score" 18 "TempoPlayer$Score" "firstBeats" "[I" ∈ ab_all := ab_ina (ab_at1 (i := 86) (rfl)) rfl
theorem wd_257 : Cond.fieldLink "TempoPlayer$Score" 22 "TempoPlayer$Score" "barsOfBeats" "[I" ∈ ab_all := ab_ina (ab_at1 (i := 87) (rfl)) rfl
theorem wd_258 : Cond.fieldLink "TempoPlayer$Score" 25 "TempoPlayer$Score" "tempos" "[I" ∈ ab_all := ab_ina (ab_at1 (i := 88) (rfl)) rfl
theorem wd_259 : Cond.arrayClass .long ∈ ab_all := ab_ina (ab_at1 (i := 114) (rfl)) rfl
theorem wd_260 : Cond.fieldLink "TempoPlayer$Score" 28 "TempoPlayer$Score" "begins" "[J" ∈ ab_all := ab_ina (ab_at1 (i := 89) (rfl)) rfl
theorem wd_261 : Cond.fieldLink "TempoPlayer$Score" 32 "TempoPlayer$Score" "lengths" "[J" ∈ ab_all := ab_ina (ab_at1 (i := 90) (rfl)) rfl
theorem wd_262 : Cond.methodLink "TempoPlayer$Score" 35 ⟨"TempoPlayer$Score", "numberBeats", "()V"⟩ ∈ ab_all := ab_ina (ab_at3 (i := 126) (rfl)) rfl
theorem wd_263 : Cond.instanceMethod ⟨"TempoPlayer$Score", "numberBeats", "()V"⟩ ∈ ab_all := ab_ina (ab_at3 (i := 128) (rfl)) rfl
theorem wd_264 : Cond.selects "TempoPlayer$Score" ⟨"TempoPlayer$Score", "numberBeats", "()V"⟩ ⟨"TempoPlayer$Score", "numberBeats", "()V"⟩ ∈ ab_all := ab_ina (List.mem_append_left _ (List.mem_of_getElem? (i := 12) (by decide +kernel))) rfl
theorem wd_265 : Cond.methodLink "TempoPlayer$Score" 38 ⟨"TempoPlayer$Score", "setTempos", "()V"⟩ ∈ ab_all := ab_ina (ab_at3 (i := 131) (rfl)) rfl
theorem wd_266 : Cond.instanceMethod ⟨"TempoPlayer$Score", "setTempos", "()V"⟩ ∈ ab_all := ab_ina (ab_at3 (i := 133) (rfl)) rfl
theorem wd_267 : Cond.selects "TempoPlayer$Score" ⟨"TempoPlayer$Score", "setTempos", "()V"⟩ ⟨"TempoPlayer$Score", "setTempos", "()V"⟩ ∈ ab_all := ab_ina (List.mem_append_left _ (List.mem_of_getElem? (i := 13) (by decide +kernel))) rfl
theorem wd_268 : Cond.methodLink "TempoPlayer$Score" 41 ⟨"TempoPlayer$Score", "placeBars", "()V"⟩ ∈ ab_all := ab_ina (ab_at3 (i := 139) (rfl)) rfl
theorem wd_269 : Cond.instanceMethod ⟨"TempoPlayer$Score", "placeBars", "()V"⟩ ∈ ab_all := ab_ina (ab_at3 (i := 141) (rfl)) rfl
theorem wd_270 : Cond.selects "TempoPlayer$Score" ⟨"TempoPlayer$Score", "placeBars", "()V"⟩ ⟨"TempoPlayer$Score", "placeBars", "()V"⟩ ∈ ab_all := ab_ina (List.mem_append_left _ (List.mem_of_getElem? (i := 15) (by decide +kernel))) rfl
theorem wd_271 : Cond.fieldLink "TempoPlayer$Score" 44 "TempoPlayer$Piece" "cues" "LTempoPlayer$Table;" ∈ ab_all := ab_ina (ab_at1 (i := 73) (rfl)) rfl
theorem wd_272 : Cond.fieldLink "TempoPlayer$Score" 48 "TempoPlayer$Table" "rows" "I" ∈ ab_all := ab_ina (ab_at1 (i := 54) (rfl)) rfl
theorem wd_273 : Cond.methodLink "TempoPlayer$Score" 54 ⟨"TempoPlayer$Table", "cell", "(II)I"⟩ ∈ ab_all := ab_ina (ab_at2 (i := 139) (rfl)) rfl
theorem wd_274 : Cond.fieldLink "TempoPlayer$Score" 58 "TempoPlayer$Score" "beats" "I" ∈ ab_all := ab_ina (ab_at1 (i := 91) (rfl)) rfl
theorem wd_275 : Cond.methodLink "TempoPlayer$Score" 61 ⟨"TempoPlayer$Table", "dropRow", "(I)V"⟩ ∈ ab_all := ab_ina (ab_at3 (i := 148) (rfl)) rfl
theorem wd_276 : Cond.fieldLink "TempoPlayer$Score" 65 "TempoPlayer$Piece" "bars" "LTempoPlayer$Table;" ∈ ab_all := ab_ina (ab_at1 (i := 68) (rfl)) rfl
theorem wd_277 : Cond.methodLink "TempoPlayer$Score" 68 Lib.Math.min.name ∈ ab_all := ab_ina (ab_at3 (i := 130) (rfl)) rfl
theorem wd_278 : Cond.static Lib.Math.min.name ∈ ab_all := ab_ina (ab_at3 (i := 116) (rfl)) rfl
theorem wd_279 : Cond.code Lib.Math.min.name Lib.Math.min.code 2 (some .int) ∈ ab_all := ab_ina (ab_at3 (i := 117) (by decide +kernel)) rfl
theorem wd_280 : Cond.fieldLink "TempoPlayer$Score" 73 "TempoPlayer$Piece" "marks" "LTempoPlayer$Table;" ∈ ab_all := ab_ina (ab_at1 (i := 70) (rfl)) rfl
theorem wd_281 : Cond.methodLink "TempoPlayer$Score" 76 ⟨"TempoPlayer$Score", "tempoUnder", "(II)I"⟩ ∈ ab_all := ab_ina (ab_at3 (i := 135) (rfl)) rfl
theorem wd_282 : Cond.instanceMethod ⟨"TempoPlayer$Score", "tempoUnder", "(II)I"⟩ ∈ ab_all := ab_ina (ab_at3 (i := 137) (rfl)) rfl
theorem wd_283 : Cond.selects "TempoPlayer$Score" ⟨"TempoPlayer$Score", "tempoUnder", "(II)I"⟩ ⟨"TempoPlayer$Score", "tempoUnder", "(II)I"⟩ ∈ ab_all := ab_ina (List.mem_append_left _ (List.mem_of_getElem? (i := 14) (by decide +kernel))) rfl
theorem wd_284 : Cond.methodLinkNest "TempoPlayer$Score" 79 ⟨"TempoPlayer", "quotient", "(JJ)J"⟩ "TempoPlayer" ∈ ab_odd := ab_ino (ab_at2 (i := 207) (rfl)) rfl
theorem wd_285 : Cond.fieldLink "TempoPlayer$Score" 83 "TempoPlayer$Score" "end" "J" ∈ ab_all := ab_ina (ab_at1 (i := 95) (rfl)) rfl
theorem wd_286 : Cond.methodLink "TempoPlayer$Score" 87 ⟨"TempoPlayer$Score", "firstBeatOf", "(I)I"⟩ ∈ ab_all := ab_ina (ab_at2 (i := 156) (rfl)) rfl
theorem wd_287 : Cond.constantLong "TempoPlayer$Score" 91 (1000) ∈ ab_all := ab_ina (ab_at2 (i := 147) (rfl)) rfl
theorem wd_288 : Cond.methodLink "TempoPlayer$Score" 93 ⟨"TempoPlayer$Score", "placeBeats", "(IIJ)V"⟩ ∈ ab_all := ab_ina (ab_at3 (i := 143) (rfl)) rfl
theorem wd_289 : Cond.instanceMethod ⟨"TempoPlayer$Score", "placeBeats", "(IIJ)V"⟩ ∈ ab_all := ab_ina (ab_at3 (i := 145) (rfl)) rfl
theorem wd_290 : Cond.selects "TempoPlayer$Score" ⟨"TempoPlayer$Score", "placeBeats", "(IIJ)V"⟩ ⟨"TempoPlayer$Score", "placeBeats", "(IIJ)V"⟩ ∈ ab_all := ab_ina (List.mem_append_left _ (List.mem_of_getElem? (i := 16) (by decide +kernel))) rfl
theorem wd_291 : Cond.methodLink "TempoPlayer$Score" 97 ⟨"TempoPlayer$Score", "naturalOf", "(I)J"⟩ ∈ ab_all := ab_ina (ab_at3 (i := 147) (rfl)) rfl
theorem wd_292 : Cond.methodLink "TempoPlayer$Score" 101 ⟨"TempoPlayer$Score", "barOf", "(I)I"⟩ ∈ ab_all := ab_ina (ab_at2 (i := 203) (rfl)) rfl
theorem wd_293 : Cond.constantLong "TempoPlayer$Score" 104 (600000000) ∈ ab_all := ab_ina (ab_at3 (i := 38) (rfl)) rfl
theorem wd_294 : Cond.methodLink "TempoPlayer$Score" 106 ⟨"TempoPlayer$Score", "tempoOf", "(I)I"⟩ ∈ ab_all := ab_ina (ab_at3 (i := 39) (rfl)) rfl
theorem wd_295 : Cond.methodLink "TempoPlayer$Score" 109 ⟨"TempoPlayer$Score", "placeInBar", "(I)I"⟩ ∈ ab_all := ab_ina (ab_at3 (i := 46) (rfl)) rfl
theorem wd_296 : Cond.methodLink "TempoPlayer$Score" 112 ⟨"TempoPlayer$Score", "beginOf", "(I)J"⟩ ∈ ab_all := ab_ina (ab_at2 (i := 160) (rfl)) rfl
theorem wd_297 : Cond.methodLink "TempoPlayer$Score" 115 ⟨"TempoPlayer$Score", "lengthOf", "(I)J"⟩ ∈ ab_all := ab_ina (ab_at2 (i := 164) (rfl)) rfl
theorem wd_298 : Cond.methodLink "TempoPlayer$Score" 118 ⟨"TempoPlayer$Score", "divisionOf", "(I)I"⟩ ∈ ab_all := ab_ina (ab_at2 (i := 199) (rfl)) rfl
theorem wd_299 : Cond.constantLong "TempoPlayer$Score" 121 (480) ∈ ab_all := ab_ina (ab_at2 (i := 223) (rfl)) rfl
theorem wd_300 : Cond.methodLink "TempoPlayer$Score" 123 ⟨"TempoPlayer$Score", "cuePlace", "(I)J"⟩ ∈ ab_all := ab_ina (ab_at3 (i := 62) (rfl)) rfl
theorem wd_301 : Cond.methodLink "TempoPlayer$Score" 126 ⟨"TempoPlayer$Score", "lengthOfBar", "(I)J"⟩ ∈ ab_all := ab_ina (ab_at2 (i := 152) (rfl)) rfl
theorem wd_302 : Cond.methodLink "TempoPlayer$Piece" 3 Lib.objectInit ∈ ab_all := ab_ina (ab_at1 (i := 37) (rfl)) rfl
theorem wd_303 : Cond.classLink "TempoPlayer$Piece" 9 "TempoPlayer$Table" ∈ ab_all := ab_ina (ab_at1 (i := 38) (rfl)) rfl
theorem wd_304 : Cond.instantiable "TempoPlayer$Table" 4 ∈ ab_all := ab_ina (ab_at1 (i := 39) (rfl)) rfl
theorem wd_305 : Cond.initialized "TempoPlayer$Table" ∈ ab_all := ab_ina (ab_at1 (i := 4) (rfl)) rfl
theorem wd_306 : Cond.methodLink "TempoPlayer$Piece" 11 ⟨"TempoPlayer$Table", "<init>", "(II)V"⟩ ∈ ab_all := ab_ina (ab_at1 (i := 40) (rfl)) rfl
theorem wd_307 : Cond.instanceMethod ⟨"TempoPlayer$Table", "<init>", "(II)V"⟩ ∈ ab_all := ab_ina (ab_at1 (i := 41) (rfl)) rfl
theorem wd_308 : Cond.fieldLink "TempoPlayer$Piece" 14 "TempoPlayer$Piece" "bars" "LTempoPlayer$Table;" ∈ ab_all := ab_ina (ab_at1 (i := 66) (rfl)) rfl
theorem wd_309 : Cond.fieldLink "TempoPlayer$Piece" 20 "TempoPlayer$Piece" "marks" "LTempoPlayer$Table;" ∈ ab_all := ab_ina (ab_at1 (i := 69) (rfl)) rfl
theorem wd_310 : Cond.fieldLink "TempoPlayer$Piece" 23 "TempoPlayer$Piece" "cues" "LTempoPlayer$Table;" ∈ ab_all := ab_ina (ab_at1 (i := 72) (rfl)) rfl
theorem wd_311 : Cond.fieldLink "TempoPlayer$Piece" 26 "TempoPlayer$Table" "rows" "I" ∈ ab_all := ab_ina (ab_at1 (i := 50) (rfl)) rfl
theorem wd_312 : Cond.methodLink "TempoPlayer$Piece" 30 ⟨"TempoPlayer$Table", "copyFrom", "(LTempoPlayer$Table;)V"⟩ ∈ ab_all := ab_ina (ab_at3 (i := 111) (rfl)) rfl
theorem wd_313 : Cond.instanceMethod ⟨"TempoPlayer$Table", "copyFrom", "(LTempoPlayer$Table;)V"⟩ ∈ ab_all := ab_ina (ab_at3 (i := 112) (rfl)) rfl
theorem wd_314 : Cond.selects "TempoPlayer$Table" ⟨"TempoPlayer$Table", "copyFrom", "(LTempoPlayer$Table;)V"⟩ ⟨"TempoPlayer$Table", "copyFrom", "(LTempoPlayer$Table;)V"⟩ ∈ ab_all := ab_ina (ab_at3 (i := 113) (rfl)) rfl
theorem wd_315 : Cond.methodLink "TempoPlayer$Table" 1 Lib.objectInit ∈ ab_all := ab_ina (ab_at1 (i := 43) (rfl)) rfl
theorem wd_316 : Cond.fieldLink "TempoPlayer$Table" 7 "TempoPlayer$Table" "most" "I" ∈ ab_all := ab_ina (ab_at1 (i := 47) (rfl)) rfl
theorem wd_317 : Cond.fieldLink "TempoPlayer$Table" 13 "TempoPlayer$Table" "width" "I" ∈ ab_all := ab_ina (ab_at1 (i := 48) (rfl)) rfl
theorem wd_318 : Cond.methodLink "TempoPlayer$Table" 16 Lib.Math.max.name ∈ ab_all := ab_ina (ab_at1 (i := 44) (rfl)) rfl
theorem wd_319 : Cond.static Lib.Math.max.name ∈ ab_all := ab_ina (ab_at1 (i := 45) (rfl)) rfl
theorem wd_320 : Cond.code Lib.Math.max.name Lib.Math.max.code 2 (some .int) ∈ ab_all := ab_ina (ab_at1 (i := 46) (by decide +kernel)) rfl
theorem wd_321 : Cond.fieldLink "TempoPlayer$Table" 22 "TempoPlayer$Table" "cells" "[I" ∈ ab_all := ab_ina (ab_at1 (i := 49) (rfl)) rfl
theorem wd_322 : Cond.fieldLink "TempoPlayer$Table" 26 "TempoPlayer$Table" "rows" "I" ∈ ab_all := ab_ina (ab_at1 (i := 52) (rfl)) rfl
theorem wd_323 : Cond.methodLink "TempoPlayer$Table" 29 arraycopyName ∈ ab_all := ab_ina (ab_at2 (i := 20) (rfl)) rfl
theorem wd_324 : Cond.native arraycopyName ∈ ab_all := ab_ina (ab_at2 (i := 22) (rfl)) rfl
theorem wd_325 : Cond.static arraycopyName ∈ ab_all := ab_ina (ab_at2 (i := 21) (rfl)) rfl
theorem wd_326 : Cond.initialized "java/lang/System" ∈ ab_all := ab_ina (ab_at1 (i := 14) (rfl)) rfl
theorem wd_327 : Cond.methodLink "TempoPlayer$Table" 35 ⟨"TempoPlayer$Table", "openRow", "(I)V"⟩ ∈ ab_all := ab_ina (ab_at4 (i := 1) (rfl)) rfl
theorem wd_328 : Cond.methodLink "TempoPlayer$Table" 39 ⟨"TempoPlayer$Table", "cell", "(II)I"⟩ ∈ ab_all := ab_ina (ab_at4 (i := 2) (rfl)) rfl
theorem wd_329 : Cond.methodLink "TempoPlayer$Table" 42 ⟨"TempoPlayer$Table", "put", "(III)V"⟩ ∈ ab_all := ab_ina (ab_at4 (i := 3) (rfl)) rfl
theorem wd_330 : Cond.methodLink "TempoPlayer$Table" 46 Lib.Math.min.name ∈ ab_all := ab_ina (ab_at3 (i := 115) (rfl)) rfl
theorem wd_331 : Cond.methodLink "TempoPlayer$Playback" 3 Lib.objectInit ∈ ab_all := ab_ina (ab_at1 (i := 120) (rfl)) rfl
theorem wd_332 : Cond.fieldLink "TempoPlayer$Playback" 9 "TempoPlayer$Playback" "firstBeat" "I" ∈ ab_all := ab_ina (ab_at1 (i := 121) (rfl)) rfl
theorem wd_333 : Cond.fieldLink "TempoPlayer$Playback" 15 "TempoPlayer$Playback" "countIn" "I" ∈ ab_all := ab_ina (ab_at1 (i := 122) (rfl)) rfl
theorem wd_334 : Cond.fieldLink "TempoPlayer$Playback" 18 "TempoPlayer$Playback" "speed" "I" ∈ ab_all := ab_ina (ab_at1 (i := 123) (rfl)) rfl
theorem wd_335 : Cond.fieldLink "TempoPlayer$Playback" 21 "TempoPlayer$Playback" "countInHeard" "I" ∈ ab_all := ab_ina (ab_at1 (i := 124) (rfl)) rfl
theorem wd_336 : Cond.fieldLink "TempoPlayer$Playback" 24 "TempoPlayer$Playback" "nextBeat" "I" ∈ ab_all := ab_ina (ab_at1 (i := 125) (rfl)) rfl
theorem wd_337 : Cond.fieldLink "TempoPlayer$Playback" 27 "TempoPlayer$Playback" "nextClick" "I" ∈ ab_all := ab_ina (ab_at1 (i := 126) (rfl)) rfl
theorem wd_338 : Cond.fieldLink "TempoPlayer$Playback" 30 "TempoPlayer$Playback" "on" "Z" ∈ ab_all := ab_ina (ab_at1 (i := 127) (rfl)) rfl
theorem wd_339 : Cond.fieldLink "TempoPlayer$Playback" 34 "TempoPlayer$Playback" "clock" "J" ∈ ab_all := ab_ina (ab_at1 (i := 129) (rfl)) rfl
theorem wd_340 : Cond.fieldLink "TempoPlayer$Playback" 38 "TempoPlayer$Playback" "clicksHeard" "I" ∈ ab_all := ab_ina (ab_at1 (i := 131) (rfl)) rfl
theorem wd_341 : Cond.fieldLink "TempoPlayer$Playback" 41 "TempoPlayer$Playback" "loudHeard" "I" ∈ ab_all := ab_ina (ab_at1 (i := 133) (rfl)) rfl
theorem wd_342 : Cond.fieldLink "TempoPlayer$Playback" 44 "TempoPlayer$Playback" "cuesHeard" "I" ∈ ab_all := ab_ina (ab_at1 (i := 135) (rfl)) rfl
theorem wd_343 : Cond.fieldLink "TempoPlayer$Playback" 47 "TempoPlayer$Score" "end" "J" ∈ ab_all := ab_ina (ab_at1 (i := 94) (rfl)) rfl
theorem wd_344 : Cond.methodLink "TempoPlayer$Playback" 52 ⟨"TempoPlayer$Playback", "playedTime", "(LTempoPlayer$Score;J)J"⟩ ∈ ab_all := ab_ina (ab_at2 (i := 178) (rfl)) rfl
theorem wd_345 : Cond.instanceMethod ⟨"TempoPlayer$Playback", "playedTime", "(LTempoPlayer$Score;J)J"⟩ ∈ ab_all := ab_ina (ab_at2 (i := 180) (rfl)) rfl
theorem wd_346 : Cond.selects "TempoPlayer$Playback" ⟨"TempoPlayer$Playback", "playedTime", "(LTempoPlayer$Score;J)J"⟩ ⟨"TempoPlayer$Playback", "playedTime", "(LTempoPlayer$Score;J)J"⟩ ∈ ab_all := ab_ina (List.mem_append_left _ (List.mem_of_getElem? (i := 6) (by decide +kernel))) rfl
theorem wd_347 : Cond.methodLink "TempoPlayer$Playback" 56 ⟨"TempoPlayer$Score", "lengthOf", "(I)J"⟩ ∈ ab_all := ab_ina (ab_at2 (i := 182) (rfl)) rfl
theorem wd_348 : Cond.methodLink "TempoPlayer$Playback" 60 ⟨"TempoPlayer$Score", "beginOf", "(I)J"⟩ ∈ ab_all := ab_ina (ab_at2 (i := 183) (rfl)) rfl
theorem wd_349 : Cond.methodLinkNest "TempoPlayer$Playback" 63 ⟨"TempoPlayer", "playedAt", "(JI)J"⟩ "TempoPlayer" ∈ ab_odd := ab_ino (ab_at2 (i := 184) (rfl)) rfl
theorem wd_350 : Cond.fieldLink "TempoPlayer$Playback" 67 "TempoPlayer$Score" "beats" "I" ∈ ab_all := ab_ina (ab_at1 (i := 92) (rfl)) rfl
theorem wd_351 : Cond.methodLink "TempoPlayer$Playback" 70 ⟨"TempoPlayer$Score", "clickTime", "(II)J"⟩ ∈ ab_all := ab_ina (ab_at2 (i := 195) (rfl)) rfl
theorem wd_352 : Cond.constantLong "TempoPlayer$Playback" 74 (-1) ∈ ab_all := ab_ina (ab_at2 (i := 208) (rfl)) rfl
theorem wd_353 : Cond.fieldLink "TempoPlayer$Playback" 76 "TempoPlayer$Score" "piece" "LTempoPlayer$Piece;" ∈ ab_all := ab_ina (ab_at1 (i := 85) (rfl)) rfl
theorem wd_354 : Cond.fieldLink "TempoPlayer$Playback" 80 "TempoPlayer$Piece" "cues" "LTempoPlayer$Table;" ∈ ab_all := ab_ina (ab_at1 (i := 74) (rfl)) rfl
theorem wd_355 : Cond.methodLink "TempoPlayer$Playback" 86 ⟨"TempoPlayer$Table", "cell", "(II)I"⟩ ∈ ab_all := ab_ina (ab_at2 (i := 217) (rfl)) rfl
theorem wd_356 : Cond.constantLong "TempoPlayer$Playback" 92 (1000) ∈ ab_all := ab_ina (ab_at2 (i := 218) (rfl)) rfl
theorem wd_357 : Cond.methodLink "TempoPlayer$Playback" 94 ⟨"TempoPlayer$Score", "cuePlace", "(I)J"⟩ ∈ ab_all := ab_ina (ab_at2 (i := 219) (rfl)) rfl
theorem wd_358 : Cond.methodLink "TempoPlayer$Playback" 97 Lib.MathLoose.max_long.x ∈ ab_all := ab_ina (ab_at2 (i := 224) (rfl)) rfl
theorem wd_359 : Cond.fieldLink "TempoPlayer$Playback" 103 "TempoPlayer$Table" "rows" "I" ∈ ab_all := ab_ina (ab_at1 (i := 55) (rfl)) rfl
theorem wd_360 : Cond.methodLink "TempoPlayer$Playback" 106 ⟨"TempoPlayer$Playback", "cueTime", "(LTempoPlayer$Score;I)J"⟩ ∈ ab_all := ab_ina (ab_at2 (i := 213) (rfl)) rfl
theorem wd_361 : Cond.instanceMethod ⟨"TempoPlayer$Playback", "cueTime", "(LTempoPlayer$Score;I)J"⟩ ∈ ab_all := ab_ina (ab_at2 (i := 215) (rfl)) rfl
theorem wd_362 : Cond.selects "TempoPlayer$Playback" ⟨"TempoPlayer$Playback", "cueTime", "(LTempoPlayer$Score;I)J"⟩ ⟨"TempoPlayer$Playback", "cueTime", "(LTempoPlayer$Score;I)J"⟩ ∈ ab_all := ab_ina (List.mem_append_left _ (List.mem_of_getElem? (i := 7) (by decide +kernel))) rfl
theorem wd_363 : Cond.methodLink "TempoPlayer$Playback" 110 ⟨"TempoPlayer$Playback", "isPlayed", "(LTempoPlayer$Score;I)Z"⟩ ∈ ab_all := ab_ina (ab_at2 (i := 227) (rfl)) rfl
theorem wd_364 : Cond.instanceMethod ⟨"TempoPlayer$Playback", "isPlayed", "(LTempoPlayer$Score;I)Z"⟩ ∈ ab_all := ab_ina (ab_at2 (i := 229) (rfl)) rfl
theorem wd_365 : Cond.selects "TempoPlayer$Playback" ⟨"TempoPlayer$Playback", "isPlayed", "(LTempoPlayer$Score;I)Z"⟩ ⟨"TempoPlayer$Playback", "isPlayed", "(LTempoPlayer$Score;I)Z"⟩ ∈ ab_all := ab_ina (List.mem_append_left _ (List.mem_of_getElem? (i := 8) (by decide +kernel))) rfl
theorem wd_366 : Cond.methodLink "TempoPlayer$Playback" 114 ⟨"TempoPlayer$Playback", "hearClicks", "(LTempoPlayer$Score;J)I"⟩ ∈ ab_all := ab_ina (ab_at4 (i := 73) (rfl)) rfl
theorem wd_367 : Cond.instanceMethod ⟨"TempoPlayer$Playback", "hearClicks", "(LTempoPlayer$Score;J)I"⟩ ∈ ab_all := ab_ina (ab_at4 (i := 75) (rfl)) rfl
theorem wd_368 : Cond.selects "TempoPlayer$Playback" ⟨"TempoPlayer$Playback", "hearClicks", "(LTempoPlayer$Score;J)I"⟩ ⟨"TempoPlayer$Playback", "hearClicks", "(LTempoPlayer$Score;J)I"⟩ ∈ ab_all := ab_ina (List.mem_append_left _ (List.mem_of_getElem? (i := 19) (by decide +kernel))) rfl
theorem wd_369 : Cond.methodLink "TempoPlayer$Playback" 118 ⟨"TempoPlayer$Playback", "hearCues", "(LTempoPlayer$Score;J)I"⟩ ∈ ab_all := ab_ina (ab_at4 (i := 87) (rfl)) rfl
theorem wd_370 : Cond.instanceMethod ⟨"TempoPlayer$Playback", "hearCues", "(LTempoPlayer$Score;J)I"⟩ ∈ ab_all := ab_ina (ab_at4 (i := 89) (rfl)) rfl
theorem wd_371 : Cond.selects "TempoPlayer$Playback" ⟨"TempoPlayer$Playback", "hearCues", "(LTempoPlayer$Score;J)I"⟩ ⟨"TempoPlayer$Playback", "hearCues", "(LTempoPlayer$Score;J)I"⟩ ∈ ab_all := ab_ina (List.mem_append_left _ (List.mem_of_getElem? (i := 21) (by decide +kernel))) rfl
theorem wd_372 : Cond.methodLink "TempoPlayer$Playback" 121 ⟨"TempoPlayer$Playback", "playedEnd", "(LTempoPlayer$Score;)J"⟩ ∈ ab_all := ab_ina (ab_at4 (i := 91) (rfl)) rfl
theorem wd_373 : Cond.methodLink "TempoPlayer$Playback" 125 ⟨"TempoPlayer$Playback", "nextClickTime", "(LTempoPlayer$Score;)J"⟩ ∈ ab_all := ab_ina (ab_at4 (i := 77) (rfl)) rfl
theorem wd_374 : Cond.methodLink "TempoPlayer$Playback" 128 ⟨"TempoPlayer$Playback", "isBefore", "(JJ)Z"⟩ ∈ ab_all := ab_ina (ab_at4 (i := 78) (rfl)) rfl
theorem wd_375 : Cond.static ⟨"TempoPlayer$Playback", "isBefore", "(JJ)Z"⟩ ∈ ab_all := ab_ina (ab_at4 (i := 79) (rfl)) rfl
theorem wd_376 : Cond.methodLink "TempoPlayer$Playback" 132 ⟨"TempoPlayer$Playback", "hearClick", "(LTempoPlayer$Score;)V"⟩ ∈ ab_all := ab_ina (ab_at4 (i := 81) (rfl)) rfl
theorem wd_377 : Cond.instanceMethod ⟨"TempoPlayer$Playback", "hearClick", "(LTempoPlayer$Score;)V"⟩ ∈ ab_all := ab_ina (ab_at4 (i := 83) (rfl)) rfl
theorem wd_378 : Cond.selects "TempoPlayer$Playback" ⟨"TempoPlayer$Playback", "hearClick", "(LTempoPlayer$Score;)V"⟩ ⟨"TempoPlayer$Playback", "hearClick", "(LTempoPlayer$Score;)V"⟩ ∈ ab_all := ab_ina (List.mem_append_left _ (List.mem_of_getElem? (i := 20) (by decide +kernel))) rfl
theorem wd_379 : Cond.methodLink "TempoPlayer$Playback" 136 ⟨"TempoPlayer$Score", "accentOf", "(I)I"⟩ ∈ ab_all := ab_ina (ab_at4 (i := 85) (rfl)) rfl
theorem wd_380 : Cond.methodLink "TempoPlayer$Playback" 140 ⟨"TempoPlayer$Score", "divisionOf", "(I)I"⟩ ∈ ab_all := ab_ina (ab_at4 (i := 86) (rfl)) rfl
theorem wd_381 : Cond.methodLink "TempoPlayer$History" 3 Lib.objectInit ∈ ab_all := ab_ina (ab_at1 (i := 165) (rfl)) rfl
theorem wd_382 : Cond.classLink "TempoPlayer$History" 9 ab_pc ∈ ab_all := ab_ina (ab_at1 (i := 166) (rfl)) rfl
theorem wd_383 : Cond.fieldLink "TempoPlayer$History" 11 "TempoPlayer$History" "kept" "[LTempoPlayer$Piece;" ∈ ab_all := ab_ina (ab_at1 (i := 169) (rfl)) rfl
theorem wd_384 : Cond.classLink "TempoPlayer$History" 9 "TempoPlayer$Piece" ∈ ab_all := ab_ina (ab_at1 (i := 166) (rfl)) rfl
theorem wd_385 : Cond.methodLinkNest "TempoPlayer$History" 17 ⟨"TempoPlayer$Piece", "<init>", "()V"⟩ "TempoPlayer" ∈ ab_odd := ab_ino (ab_at1 (i := 168) (rfl)) rfl
theorem wd_386 : Cond.fieldLink "TempoPlayer$History" 18 "TempoPlayer$History" "states" "I" ∈ ab_all := ab_ina (ab_at1 (i := 170) (rfl)) rfl
theorem wd_387 : Cond.methodLink "TempoPlayer$History" 22 ⟨"TempoPlayer$History", "moveOldestToEnd", "()V"⟩ ∈ ab_all := ab_ina (ab_at3 (i := 103) (rfl)) rfl
theorem wd_388 : Cond.instanceMethod ⟨"TempoPlayer$History", "moveOldestToEnd", "()V"⟩ ∈ ab_all := ab_ina (ab_at3 (i := 105) (rfl)) rfl
theorem wd_389 : Cond.selects "TempoPlayer$History" ⟨"TempoPlayer$History", "moveOldestToEnd", "()V"⟩ ⟨"TempoPlayer$History", "moveOldestToEnd", "()V"⟩ ∈ ab_all := ab_ina (List.mem_append_left _ (List.mem_of_getElem? (i := 11) (by decide +kernel))) rfl
theorem wd_390 : Cond.methodLink "TempoPlayer$History" 25 ⟨"TempoPlayer$Piece", "copyFrom", "(LTempoPlayer$Piece;)V"⟩ ∈ ab_all := ab_ina (ab_at3 (i := 107) (rfl)) rfl
theorem wd_391 : Cond.methodLink "TempoPlayer$TextReader" 3 Lib.objectInit ∈ ab_all := ab_ina (ab_at1 (i := 183) (rfl)) rfl
theorem wd_392 : Cond.classLink "TempoPlayer$TextReader" 9 "TempoPlayer$Table" ∈ ab_all := ab_ina (ab_at1 (i := 184) (rfl)) rfl
theorem wd_393 : Cond.methodLink "TempoPlayer$TextReader" 11 ⟨"TempoPlayer$Table", "<init>", "(II)V"⟩ ∈ ab_all := ab_ina (ab_at1 (i := 185) (rfl)) rfl
theorem wd_394 : Cond.fieldLink "TempoPlayer$TextReader" 14 "TempoPlayer$TextReader" "bars" "LTempoPlayer$Table;" ∈ ab_all := ab_ina (ab_at1 (i := 186) (rfl)) rfl
theorem wd_395 : Cond.fieldLink "TempoPlayer$TextReader" 20 "TempoPlayer$Table" "rows" "I" ∈ ab_all := ab_ina (ab_at1 (i := 51) (rfl)) rfl
theorem wd_396 : Cond.methodLink "TempoPlayer$TextReader" 24 ⟨"TempoPlayer$TextReader", "openBar", "()V"⟩ ∈ ab_all := ab_ina (ab_at2 (i := 9) (rfl)) rfl
theorem wd_397 : Cond.instanceMethod ⟨"TempoPlayer$TextReader", "openBar", "()V"⟩ ∈ ab_all := ab_ina (ab_at2 (i := 11) (rfl)) rfl
theorem wd_398 : Cond.selects "TempoPlayer$TextReader" ⟨"TempoPlayer$TextReader", "openBar", "()V"⟩ ⟨"TempoPlayer$TextReader", "openBar", "()V"⟩ ∈ ab_all := ab_ina (List.mem_append_left _ (List.mem_of_getElem? (i := 0) (by decide +kernel))) rfl
theorem wd_399 : Cond.fieldLink "TempoPlayer$TextReader" 27 "TempoPlayer$TextReader" "taken" "I" ∈ ab_all := ab_ina (ab_at1 (i := 188) (rfl)) rfl
theorem wd_400 : Cond.methodLink "TempoPlayer$TextReader" 30 ⟨"TempoPlayer$TextReader", "take", "(I)Z"⟩ ∈ ab_all := ab_ina (ab_at2 (i := 27) (rfl)) rfl
theorem wd_401 : Cond.instanceMethod ⟨"TempoPlayer$TextReader", "take", "(I)Z"⟩ ∈ ab_all := ab_ina (ab_at2 (i := 29) (rfl)) rfl
theorem wd_402 : Cond.selects "TempoPlayer$TextReader" ⟨"TempoPlayer$TextReader", "take", "(I)Z"⟩ ⟨"TempoPlayer$TextReader", "take", "(I)Z"⟩ ∈ ab_all := ab_ina (List.mem_append_left _ (List.mem_of_getElem? (i := 1) (by decide +kernel))) rfl
theorem wd_403 : Cond.methodLink "TempoPlayer$TextReader" 34 ⟨"TempoPlayer$TextReader", "isNumberWhole", "()Z"⟩ ∈ ab_all := ab_ina (ab_at2 (i := 38) (rfl)) rfl
theorem wd_404 : Cond.instanceMethod ⟨"TempoPlayer$TextReader", "isNumberWhole", "()Z"⟩ ∈ ab_all := ab_ina (ab_at2 (i := 40) (rfl)) rfl
theorem wd_405 : Cond.selects "TempoPlayer$TextReader" ⟨"TempoPlayer$TextReader", "isNumberWhole", "()Z"⟩ ⟨"TempoPlayer$TextReader", "isNumberWhole", "()Z"⟩ ∈ ab_all := ab_ina (List.mem_append_left _ (List.mem_of_getElem? (i := 3) (by decide +kernel))) rfl
theorem wd_406 : Cond.fieldLink "TempoPlayer$TextReader" 38 "TempoPlayer$TextReader" "complete" "Z" ∈ ab_all := ab_ina (ab_at1 (i := 190) (rfl)) rfl
theorem wd_407 : Cond.methodLinkNest "TempoPlayer$TextReader" 42 ⟨"TempoPlayer", "appendBar", "(LTempoPlayer$Table;II)V"⟩ "TempoPlayer" ∈ ab_odd := ab_ino (ab_at2 (i := 13) (rfl)) rfl
theorem wd_408 : Cond.fieldLink "TempoPlayer$TextReader" 46 "TempoPlayer$TextReader" "what" "I" ∈ ab_all := ab_ina (ab_at1 (i := 192) (rfl)) rfl
theorem wd_409 : Cond.fieldLink "TempoPlayer$TextReader" 49 "TempoPlayer$TextReader" "number" "I" ∈ ab_all := ab_ina (ab_at1 (i := 193) (rfl)) rfl
theorem wd_410 : Cond.fieldLinkNest "TempoPlayer$TextReader" 52 "TempoPlayer" "LEAST_VALUES" "[I" "TempoPlayer" ∈ ab_odd := ab_ino (ab_at2 (i := 42) (rfl)) rfl
theorem wd_411 : Cond.methodLink "TempoPlayer$TextReader" 56 ⟨"TempoPlayer$TextReader", "takeDigit", "(I)Z"⟩ ∈ ab_all := ab_ina (ab_at2 (i := 31) (rfl)) rfl
theorem wd_412 : Cond.instanceMethod ⟨"TempoPlayer$TextReader", "takeDigit", "(I)Z"⟩ ∈ ab_all := ab_ina (ab_at2 (i := 33) (rfl)) rfl
theorem wd_413 : Cond.selects "TempoPlayer$TextReader" ⟨"TempoPlayer$TextReader", "takeDigit", "(I)Z"⟩ ⟨"TempoPlayer$TextReader", "takeDigit", "(I)Z"⟩ ∈ ab_all := ab_ina (List.mem_append_left _ (List.mem_of_getElem? (i := 2) (by decide +kernel))) rfl
theorem wd_414 : Cond.methodLink "TempoPlayer$TextReader" 59 ⟨"TempoPlayer$TextReader", "takeLetter", "(I)Z"⟩ ∈ ab_all := ab_ina (ab_at2 (i := 44) (rfl)) rfl
theorem wd_415 : Cond.instanceMethod ⟨"TempoPlayer$TextReader", "takeLetter", "(I)Z"⟩ ∈ ab_all := ab_ina (ab_at2 (i := 46) (rfl)) rfl
theorem wd_416 : Cond.selects "TempoPlayer$TextReader" ⟨"TempoPlayer$TextReader", "takeLetter", "(I)Z"⟩ ⟨"TempoPlayer$TextReader", "takeLetter", "(I)Z"⟩ ∈ ab_all := ab_ina (List.mem_append_left _ (List.mem_of_getElem? (i := 4) (by decide +kernel))) rfl
theorem wd_417 : Cond.fieldLinkNest "TempoPlayer$TextReader" 62 "TempoPlayer" "MOST_VALUES" "[I" "TempoPlayer" ∈ ab_odd := ab_ino (ab_at2 (i := 35) (rfl)) rfl
theorem wd_418 : Cond.methodLink "TempoPlayer$TextReader" 65 ⟨"TempoPlayer$Table", "put", "(III)V"⟩ ∈ ab_all := ab_ina (ab_at2 (i := 37) (rfl)) rfl
theorem wd_419 : Cond.methodLink "TempoPlayerModel" 1 Lib.objectInit ∈ ab_all := ab_ina (ab_at4 (i := 180) (rfl)) rfl
theorem wd_420 : Cond.fieldLink "TempoPlayerModel" 7 "TempoPlayerModel" "z" "[I" ∈ ab_all := ab_ina (ab_at4 (i := 182) (rfl)) rfl
theorem wd_421 : Cond.fieldLink "TempoPlayerModel" 13 "TempoPlayerModel" "aside" "[I" ∈ ab_all := ab_ina (ab_at4 (i := 183) (rfl)) rfl
theorem wd_422 : Cond.fieldLink "TempoPlayerModel" 16 "TempoPlayerModel" "history" "[I" ∈ ab_all := ab_ina (ab_at4 (i := 185) (rfl)) rfl
theorem wd_423 : Cond.fieldLink "TempoPlayerModel" 19 "TempoPlayerModel" "images" "[I" ∈ ab_all := ab_ina (ab_at4 (i := 187) (rfl)) rfl
theorem wd_424 : Cond.fieldLink "TempoPlayerModel" 22 "TempoPlayerModel" "buffer" "[I" ∈ ab_all := ab_ina (ab_at4 (i := 189) (rfl)) rfl
theorem wd_425 : Cond.fieldLink "TempoPlayerModel" 25 "TempoPlayerModel" "barOf" "[I" ∈ ab_all := ab_ina (ab_at4 (i := 195) (rfl)) rfl
theorem wd_426 : Cond.fieldLink "TempoPlayerModel" 28 "TempoPlayerModel" "begins" "[J" ∈ ab_all := ab_ina (ab_at4 (i := 196) (rfl)) rfl
theorem wd_427 : Cond.fieldLink "TempoPlayerModel" 32 "TempoPlayerModel" "lengths" "[J" ∈ ab_all := ab_ina (ab_at4 (i := 197) (rfl)) rfl
theorem wd_428 : Cond.fieldLink "TempoPlayerModel" 35 "TempoPlayerModel" "read" "[I" ∈ ab_all := ab_ina (ab_at4 (i := 200) (rfl)) rfl
theorem wd_429 : Cond.fieldLink "TempoPlayerModel" 38 "TempoPlayerModel" "thrown" "I" ∈ ab_all := ab_ina (ab_at4 (i := 181) (rfl)) rfl
theorem wd_430 : Cond.methodLink "TempoPlayerModel" 42 ⟨"TempoPlayerModel", "bars", "()I"⟩ ∈ ab_all := ab_ina (ab_at5 (i := 30) (rfl)) rfl
theorem wd_431 : Cond.instanceMethod ⟨"TempoPlayerModel", "bars", "()I"⟩ ∈ ab_all := ab_ina (ab_at5 (i := 32) (rfl)) rfl
theorem wd_432 : Cond.selects "TempoPlayerModel" ⟨"TempoPlayerModel", "bars", "()I"⟩ ⟨"TempoPlayerModel", "bars", "()I"⟩ ∈ ab_all := ab_ina (List.mem_append_left _ (List.mem_of_getElem? (i := 24) (by decide +kernel))) rfl
theorem wd_433 : Cond.methodLink "TempoPlayerModel" 46 ⟨"TempoPlayerModel", "within", "(JJJ)Z"⟩ ∈ ab_all := ab_ina (ab_at5 (i := 39) (rfl)) rfl
theorem wd_434 : Cond.static ⟨"TempoPlayerModel", "within", "(JJJ)Z"⟩ ∈ ab_all := ab_ina (ab_at5 (i := 40) (rfl)) rfl
theorem wd_435 : Cond.methodLink "TempoPlayerModel" 50 ⟨"TempoPlayerModel", "of", "(II)I"⟩ ∈ ab_all := ab_ina (ab_at5 (i := 63) (rfl)) rfl
theorem wd_436 : Cond.instanceMethod ⟨"TempoPlayerModel", "of", "(II)I"⟩ ∈ ab_all := ab_ina (ab_at5 (i := 65) (rfl)) rfl
theorem wd_437 : Cond.selects "TempoPlayerModel" ⟨"TempoPlayerModel", "of", "(II)I"⟩ ⟨"TempoPlayerModel", "of", "(II)I"⟩ ∈ ab_all := ab_ina (List.mem_append_left _ (List.mem_of_getElem? (i := 27) (by decide +kernel))) rfl
theorem wd_438 : Cond.methodLink "TempoPlayerModel" 54 ⟨"TempoPlayerModel", "firstBeat", "(I)I"⟩ ∈ ab_all := ab_ina (ab_at5 (i := 75) (rfl)) rfl
theorem wd_439 : Cond.instanceMethod ⟨"TempoPlayerModel", "firstBeat", "(I)I"⟩ ∈ ab_all := ab_ina (ab_at5 (i := 77) (rfl)) rfl
theorem wd_440 : Cond.selects "TempoPlayerModel" ⟨"TempoPlayerModel", "firstBeat", "(I)I"⟩ ⟨"TempoPlayerModel", "firstBeat", "(I)I"⟩ ∈ ab_all := ab_ina (List.mem_append_left _ (List.mem_of_getElem? (i := 30) (by decide +kernel))) rfl
theorem wd_441 : Cond.methodLink "TempoPlayerModel" 58 ⟨"TempoPlayerModel", "beats", "()I"⟩ ∈ ab_all := ab_ina (ab_at5 (i := 71) (rfl)) rfl
theorem wd_442 : Cond.instanceMethod ⟨"TempoPlayerModel", "beats", "()I"⟩ ∈ ab_all := ab_ina (ab_at5 (i := 73) (rfl)) rfl
theorem wd_443 : Cond.selects "TempoPlayerModel" ⟨"TempoPlayerModel", "beats", "()I"⟩ ⟨"TempoPlayerModel", "beats", "()I"⟩ ∈ ab_all := ab_ina (List.mem_append_left _ (List.mem_of_getElem? (i := 29) (by decide +kernel))) rfl
theorem wd_444 : Cond.fieldLink "TempoPlayerModel" 61 "TempoPlayerModel" "states" "I" ∈ ab_all := ab_ina (ab_at4 (i := 184) (rfl)) rfl
theorem wd_445 : Cond.methodLink "TempoPlayerModel" 64 ⟨"TempoPlayerModel", "copy", "([II[II)V"⟩ ∈ ab_all := ab_ina (ab_at5 (i := 26) (rfl)) rfl
theorem wd_446 : Cond.instanceMethod ⟨"TempoPlayerModel", "copy", "([II[II)V"⟩ ∈ ab_all := ab_ina (ab_at5 (i := 28) (rfl)) rfl
theorem wd_447 : Cond.selects "TempoPlayerModel" ⟨"TempoPlayerModel", "copy", "([II[II)V"⟩ ⟨"TempoPlayerModel", "copy", "([II[II)V"⟩ ∈ ab_all := ab_ina (List.mem_append_left _ (List.mem_of_getElem? (i := 23) (by decide +kernel))) rfl
theorem wd_448 : Cond.methodLink "TempoPlayerModel" 68 ⟨"TempoPlayerModel", "markOf", "(II)I"⟩ ∈ ab_all := ab_ina (ab_at5 (i := 101) (rfl)) rfl
theorem wd_449 : Cond.instanceMethod ⟨"TempoPlayerModel", "markOf", "(II)I"⟩ ∈ ab_all := ab_ina (ab_at5 (i := 103) (rfl)) rfl
theorem wd_450 : Cond.selects "TempoPlayerModel" ⟨"TempoPlayerModel", "markOf", "(II)I"⟩ ⟨"TempoPlayerModel", "markOf", "(II)I"⟩ ∈ ab_all := ab_ina (List.mem_append_left _ (List.mem_of_getElem? (i := 33) (by decide +kernel))) rfl
theorem wd_451 : Cond.constantLong "TempoPlayerModel" 71 (600000000) ∈ ab_all := ab_ina (ab_at5 (i := 212) (rfl)) rfl
theorem wd_452 : Cond.methodLink "TempoPlayerModel" 73 ⟨"TempoPlayerModel", "tempoOf", "(I)I"⟩ ∈ ab_all := ab_ina (ab_at5 (i := 213) (rfl)) rfl
theorem wd_453 : Cond.instanceMethod ⟨"TempoPlayerModel", "tempoOf", "(I)I"⟩ ∈ ab_all := ab_ina (ab_at5 (i := 215) (rfl)) rfl
theorem wd_454 : Cond.selects "TempoPlayerModel" ⟨"TempoPlayerModel", "tempoOf", "(I)I"⟩ ⟨"TempoPlayerModel", "tempoOf", "(I)I"⟩ ∈ ab_all := ab_ina (List.mem_append_left _ (List.mem_of_getElem? (i := 46) (by decide +kernel))) rfl
theorem wd_455 : Cond.methodLink "TempoPlayerModel" 76 ⟨"TempoPlayerModel", "natural", "(I)J"⟩ ∈ ab_all := ab_ina (ab_at5 (i := 208) (rfl)) rfl
theorem wd_456 : Cond.instanceMethod ⟨"TempoPlayerModel", "natural", "(I)J"⟩ ∈ ab_all := ab_ina (ab_at5 (i := 210) (rfl)) rfl
theorem wd_457 : Cond.selects "TempoPlayerModel" ⟨"TempoPlayerModel", "natural", "(I)J"⟩ ⟨"TempoPlayerModel", "natural", "(I)J"⟩ ∈ ab_all := ab_ina (List.mem_append_left _ (List.mem_of_getElem? (i := 45) (by decide +kernel))) rfl
theorem wd_458 : Cond.methodLink "TempoPlayerModel" 80 ⟨"TempoPlayerModel", "naturalSum", "(II)J"⟩ ∈ ab_all := ab_ina (ab_at5 (i := 204) (rfl)) rfl
theorem wd_459 : Cond.instanceMethod ⟨"TempoPlayerModel", "naturalSum", "(II)J"⟩ ∈ ab_all := ab_ina (ab_at5 (i := 206) (rfl)) rfl
theorem wd_460 : Cond.selects "TempoPlayerModel" ⟨"TempoPlayerModel", "naturalSum", "(II)J"⟩ ⟨"TempoPlayerModel", "naturalSum", "(II)J"⟩ ∈ ab_all := ab_ina (List.mem_append_left _ (List.mem_of_getElem? (i := 44) (by decide +kernel))) rfl
theorem wd_461 : Cond.constantLong "TempoPlayerModel" 84 (1000) ∈ ab_all := ab_ina (ab_at5 (i := 217) (rfl)) rfl
theorem wd_462 : Cond.methodLink "TempoPlayerModel" 86 ⟨"TempoPlayerModel", "inBar", "(III)J"⟩ ∈ ab_all := ab_ina (ab_at5 (i := 200) (rfl)) rfl
theorem wd_463 : Cond.instanceMethod ⟨"TempoPlayerModel", "inBar", "(III)J"⟩ ∈ ab_all := ab_ina (ab_at5 (i := 202) (rfl)) rfl
theorem wd_464 : Cond.selects "TempoPlayerModel" ⟨"TempoPlayerModel", "inBar", "(III)J"⟩ ⟨"TempoPlayerModel", "inBar", "(III)J"⟩ ∈ ab_all := ab_ina (List.mem_append_left _ (List.mem_of_getElem? (i := 43) (by decide +kernel))) rfl
theorem wd_465 : Cond.fieldLink "TempoPlayerModel" 90 "TempoPlayerModel" "end" "J" ∈ ab_all := ab_ina (ab_at4 (i := 198) (rfl)) rfl
theorem wd_466 : Cond.methodLink "TempoPlayerModel" 94 ⟨"TempoPlayerModel", "cueOf", "(II)I"⟩ ∈ ab_all := ab_ina (ab_at5 (i := 79) (rfl)) rfl
theorem wd_467 : Cond.instanceMethod ⟨"TempoPlayerModel", "cueOf", "(II)I"⟩ ∈ ab_all := ab_ina (ab_at5 (i := 81) (rfl)) rfl
theorem wd_468 : Cond.selects "TempoPlayerModel" ⟨"TempoPlayerModel", "cueOf", "(II)I"⟩ ⟨"TempoPlayerModel", "cueOf", "(II)I"⟩ ∈ ab_all := ab_ina (List.mem_append_left _ (List.mem_of_getElem? (i := 31) (by decide +kernel))) rfl
theorem wd_469 : Cond.constantLong "TempoPlayerModel" 97 (480) ∈ ab_all := ab_ina (ab_at6 (i := 18) (rfl)) rfl
theorem wd_470 : Cond.fieldLink "TempoPlayerModel" 99 "TempoPlayerModel" "isPlaying" "Z" ∈ ab_all := ab_ina (ab_at4 (i := 190) (rfl)) rfl
theorem wd_471 : Cond.methodLink "TempoPlayerModel" 103 ⟨"TempoPlayerModel", "record", "()V"⟩ ∈ ab_all := ab_ina (ab_at5 (i := 22) (rfl)) rfl
theorem wd_472 : Cond.instanceMethod ⟨"TempoPlayerModel", "record", "()V"⟩ ∈ ab_all := ab_ina (ab_at5 (i := 24) (rfl)) rfl
theorem wd_473 : Cond.selects "TempoPlayerModel" ⟨"TempoPlayerModel", "record", "()V"⟩ ⟨"TempoPlayerModel", "record", "()V"⟩ ∈ ab_all := ab_ina (List.mem_append_left _ (List.mem_of_getElem? (i := 22) (by decide +kernel))) rfl
theorem wd_474 : Cond.constantLong "TempoPlayerModel" 106 (12) ∈ ab_all := ab_ina (ab_at5 (i := 38) (rfl)) rfl
theorem wd_475 : Cond.constantLong "TempoPlayerModel" 108 (8) ∈ ab_all := ab_ina (ab_at5 (i := 42) (rfl)) rfl
theorem wd_476 : Cond.methodLink "TempoPlayerModel" 110 ⟨"TempoPlayerModel", "putBar", "(IIII)V"⟩ ∈ ab_all := ab_ina (ab_at5 (i := 43) (rfl)) rfl
theorem wd_477 : Cond.instanceMethod ⟨"TempoPlayerModel", "putBar", "(IIII)V"⟩ ∈ ab_all := ab_ina (ab_at5 (i := 45) (rfl)) rfl
theorem wd_478 : Cond.selects "TempoPlayerModel" ⟨"TempoPlayerModel", "putBar", "(IIII)V"⟩ ⟨"TempoPlayerModel", "putBar", "(IIII)V"⟩ ∈ ab_all := ab_ina (List.mem_append_left _ (List.mem_of_getElem? (i := 25) (by decide +kernel))) rfl
theorem wd_479 : Cond.constantLong "TempoPlayerModel" 114 (100) ∈ ab_all := ab_ina (ab_at5 (i := 59) (rfl)) rfl
theorem wd_480 : Cond.constantLong "TempoPlayerModel" 116 (60000) ∈ ab_all := ab_ina (ab_at5 (i := 60) (rfl)) rfl
theorem wd_481 : Cond.constantLong "TempoPlayerModel" 118 (20000) ∈ ab_all := ab_ina (ab_at5 (i := 61) (rfl)) rfl
theorem wd_482 : Cond.constantLong "TempoPlayerModel" 120 (4095) ∈ ab_all := ab_ina (ab_at5 (i := 62) (rfl)) rfl
theorem wd_483 : Cond.methodLink "TempoPlayerModel" 122 ⟨"TempoPlayerModel", "isBar", "(I)Z"⟩ ∈ ab_all := ab_ina (ab_at5 (i := 51) (rfl)) rfl
theorem wd_484 : Cond.instanceMethod ⟨"TempoPlayerModel", "isBar", "(I)Z"⟩ ∈ ab_all := ab_ina (ab_at5 (i := 53) (rfl)) rfl
theorem wd_485 : Cond.selects "TempoPlayerModel" ⟨"TempoPlayerModel", "isBar", "(I)Z"⟩ ⟨"TempoPlayerModel", "isBar", "(I)Z"⟩ ∈ ab_all := ab_ina (List.mem_append_left _ (List.mem_of_getElem? (i := 26) (by decide +kernel))) rfl
theorem wd_486 : Cond.constantLong "TempoPlayerModel" 126 (4) ∈ ab_all := ab_ina (ab_at5 (i := 55) (rfl)) rfl
theorem wd_487 : Cond.methodLink "TempoPlayerModel" 128 ⟨"TempoPlayerModel", "isValue", "(II)Z"⟩ ∈ ab_all := ab_ina (ab_at5 (i := 56) (rfl)) rfl
theorem wd_488 : Cond.static ⟨"TempoPlayerModel", "isValue", "(II)Z"⟩ ∈ ab_all := ab_ina (ab_at5 (i := 57) (rfl)) rfl
theorem wd_489 : Cond.methodLink "TempoPlayerModel" 132 ⟨"TempoPlayerModel", "dropCues", "()V"⟩ ∈ ab_all := ab_ina (ab_at5 (i := 67) (rfl)) rfl
theorem wd_490 : Cond.instanceMethod ⟨"TempoPlayerModel", "dropCues", "()V"⟩ ∈ ab_all := ab_ina (ab_at5 (i := 69) (rfl)) rfl
theorem wd_491 : Cond.selects "TempoPlayerModel" ⟨"TempoPlayerModel", "dropCues", "()V"⟩ ⟨"TempoPlayerModel", "dropCues", "()V"⟩ ∈ ab_all := ab_ina (List.mem_append_left _ (List.mem_of_getElem? (i := 28) (by decide +kernel))) rfl
theorem wd_492 : Cond.methodLink "TempoPlayerModel" 135 ⟨"TempoPlayerModel", "markAt", "(I)I"⟩ ∈ ab_all := ab_ina (ab_at5 (i := 97) (rfl)) rfl
theorem wd_493 : Cond.instanceMethod ⟨"TempoPlayerModel", "markAt", "(I)I"⟩ ∈ ab_all := ab_ina (ab_at5 (i := 99) (rfl)) rfl
theorem wd_494 : Cond.selects "TempoPlayerModel" ⟨"TempoPlayerModel", "markAt", "(I)I"⟩ ⟨"TempoPlayerModel", "markAt", "(I)I"⟩ ∈ ab_all := ab_ina (List.mem_append_left _ (List.mem_of_getElem? (i := 32) (by decide +kernel))) rfl
theorem wd_495 : Cond.constantLong "TempoPlayerModel" 138 (287) ∈ ab_all := ab_ina (ab_at5 (i := 94) (rfl)) rfl
theorem wd_496 : Cond.constantLong "TempoPlayerModel" 140 (200) ∈ ab_all := ab_ina (ab_at5 (i := 95) (rfl)) rfl
theorem wd_497 : Cond.constantLong "TempoPlayerModel" 142 (4000) ∈ ab_all := ab_ina (ab_at5 (i := 96) (rfl)) rfl
theorem wd_498 : Cond.methodLink "TempoPlayerModel" 144 ⟨"TempoPlayerModel", "isMarking", "(II)Z"⟩ ∈ ab_all := ab_ina (ab_at5 (i := 91) (rfl)) rfl
theorem wd_499 : Cond.static ⟨"TempoPlayerModel", "isMarking", "(II)Z"⟩ ∈ ab_all := ab_ina (ab_at5 (i := 92) (rfl)) rfl
theorem wd_500 : Cond.methodLink "TempoPlayerModel" 147 ⟨"TempoPlayerModel", "putMark", "(III)V"⟩ ∈ ab_all := ab_ina (ab_at5 (i := 105) (rfl)) rfl
theorem wd_501 : Cond.instanceMethod ⟨"TempoPlayerModel", "putMark", "(III)V"⟩ ∈ ab_all := ab_ina (ab_at5 (i := 107) (rfl)) rfl
theorem wd_502 : Cond.selects "TempoPlayerModel" ⟨"TempoPlayerModel", "putMark", "(III)V"⟩ ⟨"TempoPlayerModel", "putMark", "(III)V"⟩ ∈ ab_all := ab_ina (List.mem_append_left _ (List.mem_of_getElem? (i := 34) (by decide +kernel))) rfl
theorem wd_503 : Cond.constantLong "TempoPlayerModel" 151 (479) ∈ ab_all := ab_ina (ab_at5 (i := 117) (rfl)) rfl
theorem wd_504 : Cond.constantLong "TempoPlayerModel" 153 (5000) ∈ ab_all := ab_ina (ab_at5 (i := 118) (rfl)) rfl
theorem wd_505 : Cond.methodLink "TempoPlayerModel" 155 ⟨"TempoPlayerModel", "isBeat", "(I)Z"⟩ ∈ ab_all := ab_ina (ab_at5 (i := 119) (rfl)) rfl
theorem wd_506 : Cond.instanceMethod ⟨"TempoPlayerModel", "isBeat", "(I)Z"⟩ ∈ ab_all := ab_ina (ab_at5 (i := 121) (rfl)) rfl
theorem wd_507 : Cond.selects "TempoPlayerModel" ⟨"TempoPlayerModel", "isBeat", "(I)Z"⟩ ⟨"TempoPlayerModel", "isBeat", "(I)Z"⟩ ∈ ab_all := ab_ina (List.mem_append_left _ (List.mem_of_getElem? (i := 35) (by decide +kernel))) rfl
theorem wd_508 : Cond.methodLink "TempoPlayerModel" 158 ⟨"TempoPlayerModel", "isCue", "(I)Z"⟩ ∈ ab_all := ab_ina (ab_at5 (i := 127) (rfl)) rfl
theorem wd_509 : Cond.instanceMethod ⟨"TempoPlayerModel", "isCue", "(I)Z"⟩ ∈ ab_all := ab_ina (ab_at5 (i := 129) (rfl)) rfl
theorem wd_510 : Cond.selects "TempoPlayerModel" ⟨"TempoPlayerModel", "isCue", "(I)Z"⟩ ⟨"TempoPlayerModel", "isCue", "(I)Z"⟩ ∈ ab_all := ab_ina (List.mem_append_left _ (List.mem_of_getElem? (i := 36) (by decide +kernel))) rfl
theorem wd_511 : Cond.constant "TempoPlayerModel" 161 (60000) ∈ ab_all := by decide +kernel
theorem wd_512 : Cond.fieldLink "TempoPlayerModel" 162 "TempoPlayerModel" "hasDigit" "Z" ∈ ab_all := ab_ina (ab_at4 (i := 203) (rfl)) rfl
theorem wd_513 : Cond.fieldLink "TempoPlayerModel" 165 "TempoPlayerModel" "place" "I" ∈ ab_all := ab_ina (ab_at4 (i := 201) (rfl)) rfl
theorem wd_514 : Cond.fieldLink "TempoPlayerModel" 168 "TempoPlayerModel" "number" "I" ∈ ab_all := ab_ina (ab_at4 (i := 202) (rfl)) rfl
theorem wd_515 : Cond.fieldLink "TempoPlayerModel" 171 "TempoPlayerModel" "readBars" "I" ∈ ab_all := ab_ina (ab_at4 (i := 199) (rfl)) rfl
theorem wd_516 : Cond.constantLong "TempoPlayerModel" 174 (48) ∈ ab_all := ab_ina (ab_at5 (i := 155) (rfl)) rfl
theorem wd_517 : Cond.constantLong "TempoPlayerModel" 176 (49) ∈ ab_all := ab_ina (ab_at5 (i := 156) (rfl)) rfl
theorem wd_518 : Cond.constantLong "TempoPlayerModel" 178 (57) ∈ ab_all := ab_ina (ab_at5 (i := 157) (rfl)) rfl
theorem wd_519 : Cond.methodLink "TempoPlayerModel" 180 ⟨"TempoPlayerModel", "mostOf", "(I)I"⟩ ∈ ab_all := ab_ina (ab_at5 (i := 158) (rfl)) rfl
theorem wd_520 : Cond.static ⟨"TempoPlayerModel", "mostOf", "(I)I"⟩ ∈ ab_all := ab_ina (ab_at5 (i := 159) (rfl)) rfl
theorem wd_521 : Cond.methodLink "TempoPlayerModel" 183 ⟨"TempoPlayerModel", "isOver", "()Z"⟩ ∈ ab_all := ab_ina (ab_at5 (i := 147) (rfl)) rfl
theorem wd_522 : Cond.instanceMethod ⟨"TempoPlayerModel", "isOver", "()Z"⟩ ∈ ab_all := ab_ina (ab_at5 (i := 149) (rfl)) rfl
theorem wd_523 : Cond.selects "TempoPlayerModel" ⟨"TempoPlayerModel", "isOver", "()Z"⟩ ⟨"TempoPlayerModel", "isOver", "()Z"⟩ ∈ ab_all := ab_ina (List.mem_append_left _ (List.mem_of_getElem? (i := 40) (by decide +kernel))) rfl
theorem wd_524 : Cond.methodLink "TempoPlayerModel" 187 ⟨"TempoPlayerModel", "takesDigit", "(I)Z"⟩ ∈ ab_all := ab_ina (ab_at5 (i := 151) (rfl)) rfl
theorem wd_525 : Cond.instanceMethod ⟨"TempoPlayerModel", "takesDigit", "(I)Z"⟩ ∈ ab_all := ab_ina (ab_at5 (i := 153) (rfl)) rfl
theorem wd_526 : Cond.selects "TempoPlayerModel" ⟨"TempoPlayerModel", "takesDigit", "(I)Z"⟩ ⟨"TempoPlayerModel", "takesDigit", "(I)Z"⟩ ∈ ab_all := ab_ina (List.mem_append_left _ (List.mem_of_getElem? (i := 41) (by decide +kernel))) rfl
theorem wd_527 : Cond.methodLink "TempoPlayerModel" 190 ⟨"TempoPlayerModel", "goOn", "(I)V"⟩ ∈ ab_all := ab_ina (ab_at5 (i := 139) (rfl)) rfl
theorem wd_528 : Cond.instanceMethod ⟨"TempoPlayerModel", "goOn", "(I)V"⟩ ∈ ab_all := ab_ina (ab_at5 (i := 141) (rfl)) rfl
theorem wd_529 : Cond.selects "TempoPlayerModel" ⟨"TempoPlayerModel", "goOn", "(I)V"⟩ ⟨"TempoPlayerModel", "goOn", "(I)V"⟩ ∈ ab_all := ab_ina (List.mem_append_left _ (List.mem_of_getElem? (i := 38) (by decide +kernel))) rfl
theorem wd_530 : Cond.fieldLink "TempoPlayerModel" 194 "TempoPlayerModel" "length" "I" ∈ ab_all := ab_ina (ab_at4 (i := 188) (rfl)) rfl
theorem wd_531 : Cond.methodLink "TempoPlayerModel" 197 ⟨"TempoPlayerModel", "takes", "(I)Z"⟩ ∈ ab_all := ab_ina (ab_at5 (i := 143) (rfl)) rfl
theorem wd_532 : Cond.instanceMethod ⟨"TempoPlayerModel", "takes", "(I)Z"⟩ ∈ ab_all := ab_ina (ab_at5 (i := 145) (rfl)) rfl
theorem wd_533 : Cond.selects "TempoPlayerModel" ⟨"TempoPlayerModel", "takes", "(I)Z"⟩ ⟨"TempoPlayerModel", "takes", "(I)Z"⟩ ∈ ab_all := ab_ina (List.mem_append_left _ (List.mem_of_getElem? (i := 39) (by decide +kernel))) rfl
theorem wd_534 : Cond.methodLink "TempoPlayerModel" 200 ⟨"TempoPlayerModel", "rightLength", "()I"⟩ ∈ ab_all := ab_ina (ab_at5 (i := 135) (rfl)) rfl
theorem wd_535 : Cond.instanceMethod ⟨"TempoPlayerModel", "rightLength", "()I"⟩ ∈ ab_all := ab_ina (ab_at5 (i := 137) (rfl)) rfl
theorem wd_536 : Cond.selects "TempoPlayerModel" ⟨"TempoPlayerModel", "rightLength", "()I"⟩ ⟨"TempoPlayerModel", "rightLength", "()I"⟩ ∈ ab_all := ab_ina (List.mem_append_left _ (List.mem_of_getElem? (i := 37) (by decide +kernel))) rfl
theorem wd_537 : Cond.constantLong "TempoPlayerModel" 203 (32) ∈ ab_all := ab_ina (ab_at5 (i := 166) (rfl)) rfl
theorem wd_538 : Cond.constantLong "TempoPlayerModel" 205 (126) ∈ ab_all := ab_ina (ab_at5 (i := 167) (rfl)) rfl
theorem wd_539 : Cond.methodLink "TempoPlayerModel" 207 ⟨"TempoPlayerModel", "isImage", "(I)Z"⟩ ∈ ab_all := ab_ina (ab_at5 (i := 184) (rfl)) rfl
theorem wd_540 : Cond.static ⟨"TempoPlayerModel", "isImage", "(I)Z"⟩ ∈ ab_all := ab_ina (ab_at5 (i := 185) (rfl)) rfl
theorem wd_541 : Cond.fieldLink "TempoPlayerModel" 210 "TempoPlayerModel" "kept" "I" ∈ ab_all := ab_ina (ab_at4 (i := 186) (rfl)) rfl
theorem wd_542 : Cond.fieldLink "TempoPlayerModel" 213 "TempoPlayerModel" "fromBar" "I" ∈ ab_all := ab_ina (ab_at4 (i := 191) (rfl)) rfl
theorem wd_543 : Cond.fieldLink "TempoPlayerModel" 216 "TempoPlayerModel" "countIn" "I" ∈ ab_all := ab_ina (ab_at4 (i := 192) (rfl)) rfl
theorem wd_544 : Cond.fieldLink "TempoPlayerModel" 219 "TempoPlayerModel" "speed" "I" ∈ ab_all := ab_ina (ab_at4 (i := 193) (rfl)) rfl
theorem wd_545 : Cond.methodLink "TempoPlayerModel" 222 ⟨"TempoPlayerModel", "placeOf", "(I)J"⟩ ∈ ab_all := ab_ina (ab_at6 (i := 14) (rfl)) rfl
theorem wd_546 : Cond.instanceMethod ⟨"TempoPlayerModel", "placeOf", "(I)J"⟩ ∈ ab_all := ab_ina (ab_at6 (i := 16) (rfl)) rfl
theorem wd_547 : Cond.selects "TempoPlayerModel" ⟨"TempoPlayerModel", "placeOf", "(I)J"⟩ ⟨"TempoPlayerModel", "placeOf", "(I)J"⟩ ∈ ab_all := ab_ina (List.mem_append_left _ (List.mem_of_getElem? (i := 55) (by decide +kernel))) rfl
theorem wd_548 : Cond.methodLink "TempoPlayerModel" 225 ⟨"TempoPlayerModel", "played", "(J)J"⟩ ∈ ab_all := ab_ina (ab_at5 (i := 218) (rfl)) rfl
theorem wd_549 : Cond.instanceMethod ⟨"TempoPlayerModel", "played", "(J)J"⟩ ∈ ab_all := ab_ina (ab_at5 (i := 220) (rfl)) rfl
theorem wd_550 : Cond.selects "TempoPlayerModel" ⟨"TempoPlayerModel", "played", "(J)J"⟩ ⟨"TempoPlayerModel", "played", "(J)J"⟩ ∈ ab_all := ab_ina (List.mem_append_left _ (List.mem_of_getElem? (i := 47) (by decide +kernel))) rfl
theorem wd_551 : Cond.constantLong "TempoPlayerModel" 229 (50) ∈ ab_all := ab_ina (ab_at5 (i := 195) (rfl)) rfl
theorem wd_552 : Cond.fieldLink "TempoPlayerModel" 231 "TempoPlayerModel" "clock" "J" ∈ ab_all := ab_ina (ab_at4 (i := 194) (rfl)) rfl
theorem wd_553 : Cond.methodLink "TempoPlayerModel" 234 ⟨"TempoPlayerModel", "lay", "()V"⟩ ∈ ab_all := ab_ina (ab_at5 (i := 196) (rfl)) rfl
theorem wd_554 : Cond.instanceMethod ⟨"TempoPlayerModel", "lay", "()V"⟩ ∈ ab_all := ab_ina (ab_at5 (i := 198) (rfl)) rfl
theorem wd_555 : Cond.selects "TempoPlayerModel" ⟨"TempoPlayerModel", "lay", "()V"⟩ ⟨"TempoPlayerModel", "lay", "()V"⟩ ∈ ab_all := ab_ina (List.mem_append_left _ (List.mem_of_getElem? (i := 42) (by decide +kernel))) rfl
theorem wd_556 : Cond.methodLink "TempoPlayerModel" 237 ⟨"TempoPlayerModel", "countInTime", "(I)J"⟩ ∈ ab_all := ab_ina (ab_at5 (i := 230) (rfl)) rfl
theorem wd_557 : Cond.instanceMethod ⟨"TempoPlayerModel", "countInTime", "(I)J"⟩ ∈ ab_all := ab_ina (ab_at5 (i := 232) (rfl)) rfl
theorem wd_558 : Cond.selects "TempoPlayerModel" ⟨"TempoPlayerModel", "countInTime", "(I)J"⟩ ⟨"TempoPlayerModel", "countInTime", "(I)J"⟩ ∈ ab_all := ab_ina (List.mem_append_left _ (List.mem_of_getElem? (i := 49) (by decide +kernel))) rfl
theorem wd_559 : Cond.methodLink "TempoPlayerModel" 240 ⟨"TempoPlayerModel", "hasAccent", "(I)Z"⟩ ∈ ab_all := ab_ina (ab_at5 (i := 234) (rfl)) rfl
theorem wd_560 : Cond.instanceMethod ⟨"TempoPlayerModel", "hasAccent", "(I)Z"⟩ ∈ ab_all := ab_ina (ab_at5 (i := 236) (rfl)) rfl
theorem wd_561 : Cond.selects "TempoPlayerModel" ⟨"TempoPlayerModel", "hasAccent", "(I)Z"⟩ ⟨"TempoPlayerModel", "hasAccent", "(I)Z"⟩ ∈ ab_all := ab_ina (List.mem_append_left _ (List.mem_of_getElem? (i := 50) (by decide +kernel))) rfl
theorem wd_562 : Cond.methodLink "TempoPlayerModel" 243 ⟨"TempoPlayerModel", "clickTime", "(II)J"⟩ ∈ ab_all := ab_ina (ab_at5 (i := 238) (rfl)) rfl
theorem wd_563 : Cond.instanceMethod ⟨"TempoPlayerModel", "clickTime", "(II)J"⟩ ∈ ab_all := ab_ina (ab_at6 (i := 0) (rfl)) rfl
theorem wd_564 : Cond.selects "TempoPlayerModel" ⟨"TempoPlayerModel", "clickTime", "(II)J"⟩ ⟨"TempoPlayerModel", "clickTime", "(II)J"⟩ ∈ ab_all := ab_ina (List.mem_append_left _ (List.mem_of_getElem? (i := 51) (by decide +kernel))) rfl
theorem wd_565 : Cond.methodLink "TempoPlayerModel" 246 ⟨"TempoPlayerModel", "isGiven", "(I)Z"⟩ ∈ ab_all := ab_ina (ab_at6 (i := 6) (rfl)) rfl
theorem wd_566 : Cond.instanceMethod ⟨"TempoPlayerModel", "isGiven", "(I)Z"⟩ ∈ ab_all := ab_ina (ab_at6 (i := 8) (rfl)) rfl
theorem wd_567 : Cond.selects "TempoPlayerModel" ⟨"TempoPlayerModel", "isGiven", "(I)Z"⟩ ⟨"TempoPlayerModel", "isGiven", "(I)Z"⟩ ∈ ab_all := ab_ina (List.mem_append_left _ (List.mem_of_getElem? (i := 53) (by decide +kernel))) rfl
theorem wd_568 : Cond.methodLink "TempoPlayerModel" 249 ⟨"TempoPlayerModel", "cueTime", "(I)J"⟩ ∈ ab_all := ab_ina (ab_at6 (i := 10) (rfl)) rfl
theorem wd_569 : Cond.instanceMethod ⟨"TempoPlayerModel", "cueTime", "(I)J"⟩ ∈ ab_all := ab_ina (ab_at6 (i := 12) (rfl)) rfl
theorem wd_570 : Cond.selects "TempoPlayerModel" ⟨"TempoPlayerModel", "cueTime", "(I)J"⟩ ⟨"TempoPlayerModel", "cueTime", "(I)J"⟩ ∈ ab_all := ab_ina (List.mem_append_left _ (List.mem_of_getElem? (i := 54) (by decide +kernel))) rfl
theorem wd_571 : Cond.methodLink "TempoPlayerModel" 252 ⟨"TempoPlayerModel", "clicksUntil", "(JZ)I"⟩ ∈ ab_all := ab_ina (ab_at5 (i := 226) (rfl)) rfl
theorem wd_572 : Cond.instanceMethod ⟨"TempoPlayerModel", "clicksUntil", "(JZ)I"⟩ ∈ ab_all := ab_ina (ab_at5 (i := 228) (rfl)) rfl
theorem wd_573 : Cond.selects "TempoPlayerModel" ⟨"TempoPlayerModel", "clicksUntil", "(JZ)I"⟩ ⟨"TempoPlayerModel", "clicksUntil", "(JZ)I"⟩ ∈ ab_all := ab_ina (List.mem_append_left _ (List.mem_of_getElem? (i := 48) (by decide +kernel))) rfl
theorem wd_574 : Cond.methodLink "TempoPlayerModel" 256 ⟨"TempoPlayerModel", "cuesUntil", "(J)I"⟩ ∈ ab_all := ab_ina (ab_at6 (i := 2) (rfl)) rfl
theorem wd_575 : Cond.instanceMethod ⟨"TempoPlayerModel", "cuesUntil", "(J)I"⟩ ∈ ab_all := ab_ina (ab_at6 (i := 4) (rfl)) rfl
theorem wd_576 : Cond.selects "TempoPlayerModel" ⟨"TempoPlayerModel", "cuesUntil", "(J)I"⟩ ⟨"TempoPlayerModel", "cuesUntil", "(J)I"⟩ ∈ ab_all := ab_ina (List.mem_append_left _ (List.mem_of_getElem? (i := 52) (by decide +kernel))) rfl
theorem wd_577 : Cond.constantLong "TempoPlayerModel" 260 (-1) ∈ ab_all := ab_ina (ab_at6 (i := 32) (rfl)) rfl
theorem wd_578 : Cond.methodLink "TempoPlayerModel" 262 ⟨"TempoPlayerModel", "sooner", "(JJ)J"⟩ ∈ ab_all := ab_ina (ab_at6 (i := 37) (rfl)) rfl
theorem wd_579 : Cond.instanceMethod ⟨"TempoPlayerModel", "sooner", "(JJ)J"⟩ ∈ ab_all := ab_ina (ab_at6 (i := 39) (rfl)) rfl
theorem wd_580 : Cond.selects "TempoPlayerModel" ⟨"TempoPlayerModel", "sooner", "(JJ)J"⟩ ⟨"TempoPlayerModel", "sooner", "(JJ)J"⟩ ∈ ab_all := ab_ina (List.mem_append_left _ (List.mem_of_getElem? (i := 58) (by decide +kernel))) rfl
theorem wd_581 : Cond.methodLink "TempoPlayerModel" 266 ⟨"TempoPlayerModel", "nextClick", "()J"⟩ ∈ ab_all := ab_ina (ab_at6 (i := 33) (rfl)) rfl
theorem wd_582 : Cond.instanceMethod ⟨"TempoPlayerModel", "nextClick", "()J"⟩ ∈ ab_all := ab_ina (ab_at6 (i := 35) (rfl)) rfl
theorem wd_583 : Cond.selects "TempoPlayerModel" ⟨"TempoPlayerModel", "nextClick", "()J"⟩ ⟨"TempoPlayerModel", "nextClick", "()J"⟩ ∈ ab_all := ab_ina (List.mem_append_left _ (List.mem_of_getElem? (i := 57) (by decide +kernel))) rfl
theorem wd_584 : Cond.methodLink "TempoPlayerModel" 270 ⟨"TempoPlayerModel", "nextCue", "()J"⟩ ∈ ab_all := ab_ina (ab_at6 (i := 41) (rfl)) rfl
theorem wd_585 : Cond.instanceMethod ⟨"TempoPlayerModel", "nextCue", "()J"⟩ ∈ ab_all := ab_ina (ab_at6 (i := 43) (rfl)) rfl
theorem wd_586 : Cond.selects "TempoPlayerModel" ⟨"TempoPlayerModel", "nextCue", "()J"⟩ ⟨"TempoPlayerModel", "nextCue", "()J"⟩ ∈ ab_all := ab_ina (List.mem_append_left _ (List.mem_of_getElem? (i := 59) (by decide +kernel))) rfl
theorem wd_587 : Cond.constantLong "TempoPlayerModel" 273 (6) ∈ ab_all := ab_ina (ab_at6 (i := 27) (rfl)) rfl
theorem wd_588 : Cond.methodLink "TempoPlayerModel" 275 ⟨"TempoPlayerModel", "playingNow", "(I)J"⟩ ∈ ab_all := ab_ina (ab_at6 (i := 28) (rfl)) rfl
theorem wd_589 : Cond.instanceMethod ⟨"TempoPlayerModel", "playingNow", "(I)J"⟩ ∈ ab_all := ab_ina (ab_at6 (i := 30) (rfl)) rfl
theorem wd_590 : Cond.selects "TempoPlayerModel" ⟨"TempoPlayerModel", "playingNow", "(I)J"⟩ ⟨"TempoPlayerModel", "playingNow", "(I)J"⟩ ∈ ab_all := ab_ina (List.mem_append_left _ (List.mem_of_getElem? (i := 56) (by decide +kernel))) rfl
theorem wd_591 : Cond.constantLong "TempoPlayerModel" 278 (5) ∈ ab_all := ab_ina (ab_at6 (i := 49) (rfl)) rfl
theorem wd_592 : Cond.methodLink "TempoPlayerModel" 280 ⟨"TempoPlayerModel", "beatNow", "(II)J"⟩ ∈ ab_all := ab_ina (ab_at6 (i := 54) (rfl)) rfl
theorem wd_593 : Cond.instanceMethod ⟨"TempoPlayerModel", "beatNow", "(II)J"⟩ ∈ ab_all := ab_ina (ab_at6 (i := 56) (rfl)) rfl
theorem wd_594 : Cond.selects "TempoPlayerModel" ⟨"TempoPlayerModel", "beatNow", "(II)J"⟩ ⟨"TempoPlayerModel", "beatNow", "(II)J"⟩ ∈ ab_all := ab_ina (List.mem_append_left _ (List.mem_of_getElem? (i := 60) (by decide +kernel))) rfl
theorem wd_595 : Cond.constantLong "TempoPlayerModel" 283 (2) ∈ ab_all := ab_ina (ab_at6 (i := 66) (rfl)) rfl
theorem wd_596 : Cond.methodLink "TempoPlayerModel" 285 ⟨"TempoPlayerModel", "cuesAhead", "(I)I"⟩ ∈ ab_all := ab_ina (ab_at6 (i := 75) (rfl)) rfl
theorem wd_597 : Cond.instanceMethod ⟨"TempoPlayerModel", "cuesAhead", "(I)I"⟩ ∈ ab_all := ab_ina (ab_at6 (i := 77) (rfl)) rfl
theorem wd_598 : Cond.selects "TempoPlayerModel" ⟨"TempoPlayerModel", "cuesAhead", "(I)I"⟩ ⟨"TempoPlayerModel", "cuesAhead", "(I)I"⟩ ∈ ab_all := ab_ina (List.mem_append_left _ (List.mem_of_getElem? (i := 62) (by decide +kernel))) rfl
theorem wd_599 : Cond.methodLink "TempoPlayerModel" 288 ⟨"TempoPlayerModel", "cueNow", "(II)J"⟩ ∈ ab_all := ab_ina (ab_at6 (i := 71) (rfl)) rfl
theorem wd_600 : Cond.instanceMethod ⟨"TempoPlayerModel", "cueNow", "(II)J"⟩ ∈ ab_all := ab_ina (ab_at6 (i := 73) (rfl)) rfl
theorem wd_601 : Cond.selects "TempoPlayerModel" ⟨"TempoPlayerModel", "cueNow", "(II)J"⟩ ⟨"TempoPlayerModel", "cueNow", "(II)J"⟩ ∈ ab_all := ab_ina (List.mem_append_left _ (List.mem_of_getElem? (i := 61) (by decide +kernel))) rfl
theorem wd_602 : Cond.methodLink "TempoPlayerModel" 291 ⟨"TempoPlayerModel", "beatAt", "(J)I"⟩ ∈ ab_all := ab_ina (ab_at6 (i := 83) (rfl)) rfl
theorem wd_603 : Cond.instanceMethod ⟨"TempoPlayerModel", "beatAt", "(J)I"⟩ ∈ ab_all := ab_ina (ab_at6 (i := 85) (rfl)) rfl
theorem wd_604 : Cond.selects "TempoPlayerModel" ⟨"TempoPlayerModel", "beatAt", "(J)I"⟩ ⟨"TempoPlayerModel", "beatAt", "(J)I"⟩ ∈ ab_all := ab_ina (List.mem_append_left _ (List.mem_of_getElem? (i := 63) (by decide +kernel))) rfl
theorem wd_605 : Cond.methodLink "TempoPlayerModel" 294 ⟨"TempoPlayerModel", "clicksOfPiece", "()J"⟩ ∈ ab_all := ab_ina (ab_at6 (i := 96) (rfl)) rfl
theorem wd_606 : Cond.instanceMethod ⟨"TempoPlayerModel", "clicksOfPiece", "()J"⟩ ∈ ab_all := ab_ina (ab_at6 (i := 98) (rfl)) rfl
theorem wd_607 : Cond.selects "TempoPlayerModel" ⟨"TempoPlayerModel", "clicksOfPiece", "()J"⟩ ⟨"TempoPlayerModel", "clicksOfPiece", "()J"⟩ ∈ ab_all := ab_ina (List.mem_append_left _ (List.mem_of_getElem? (i := 65) (by decide +kernel))) rfl
theorem wd_608 : Cond.methodLink "TempoPlayerModel" 297 ⟨"TempoPlayerModel", "pauses", "()J"⟩ ∈ ab_all := ab_ina (ab_at6 (i := 100) (rfl)) rfl
theorem wd_609 : Cond.instanceMethod ⟨"TempoPlayerModel", "pauses", "()J"⟩ ∈ ab_all := ab_ina (ab_at6 (i := 102) (rfl)) rfl
theorem wd_610 : Cond.selects "TempoPlayerModel" ⟨"TempoPlayerModel", "pauses", "()J"⟩ ⟨"TempoPlayerModel", "pauses", "()J"⟩ ∈ ab_all := ab_ina (List.mem_append_left _ (List.mem_of_getElem? (i := 66) (by decide +kernel))) rfl
theorem wd_611 : Cond.methodLink "TempoPlayerModel" 300 ⟨"TempoPlayerModel", "lengthsOf", "(Z)J"⟩ ∈ ab_all := ab_ina (ab_at6 (i := 104) (rfl)) rfl
theorem wd_612 : Cond.instanceMethod ⟨"TempoPlayerModel", "lengthsOf", "(Z)J"⟩ ∈ ab_all := ab_ina (ab_at6 (i := 106) (rfl)) rfl
theorem wd_613 : Cond.selects "TempoPlayerModel" ⟨"TempoPlayerModel", "lengthsOf", "(Z)J"⟩ ⟨"TempoPlayerModel", "lengthsOf", "(Z)J"⟩ ∈ ab_all := ab_ina (List.mem_append_left _ (List.mem_of_getElem? (i := 67) (by decide +kernel))) rfl
theorem wd_614 : Cond.constantLong "TempoPlayerModel" 304 (11) ∈ ab_all := ab_ina (ab_at6 (i := 91) (rfl)) rfl
theorem wd_615 : Cond.methodLink "TempoPlayerModel" 306 ⟨"TempoPlayerModel", "counted", "(I)J"⟩ ∈ ab_all := ab_ina (ab_at6 (i := 92) (rfl)) rfl
theorem wd_616 : Cond.instanceMethod ⟨"TempoPlayerModel", "counted", "(I)J"⟩ ∈ ab_all := ab_ina (ab_at6 (i := 94) (rfl)) rfl
theorem wd_617 : Cond.selects "TempoPlayerModel" ⟨"TempoPlayerModel", "counted", "(I)J"⟩ ⟨"TempoPlayerModel", "counted", "(I)J"⟩ ∈ ab_all := ab_ina (List.mem_append_left _ (List.mem_of_getElem? (i := 64) (by decide +kernel))) rfl
theorem wd_618 : Cond.constantLong "TempoPlayerModel" 309 (1000000000) ∈ ab_all := ab_ina (ab_at6 (i := 115) (rfl)) rfl
theorem wd_619 : Cond.methodLink "TempoPlayerModel" 311 ⟨"TempoPlayerModel", "isTarget", "(J)Z"⟩ ∈ ab_all := ab_ina (ab_at6 (i := 112) (rfl)) rfl
theorem wd_620 : Cond.static ⟨"TempoPlayerModel", "isTarget", "(J)Z"⟩ ∈ ab_all := ab_ina (ab_at6 (i := 113) (rfl)) rfl
theorem wd_621 : Cond.constantDouble "TempoPlayerModel" 315 4723321873536909312 ∈ ab_all := ab_ina (ab_at6 (i := 132) (rfl)) rfl
theorem wd_622 : Cond.methodLink "TempoPlayerModel" 317 ⟨"TempoPlayerModel", "meanNow", "()D"⟩ ∈ ab_all := ab_ina (ab_at6 (i := 128) (rfl)) rfl
theorem wd_623 : Cond.instanceMethod ⟨"TempoPlayerModel", "meanNow", "()D"⟩ ∈ ab_all := ab_ina (ab_at6 (i := 130) (rfl)) rfl
theorem wd_624 : Cond.selects "TempoPlayerModel" ⟨"TempoPlayerModel", "meanNow", "()D"⟩ ⟨"TempoPlayerModel", "meanNow", "()D"⟩ ∈ ab_all := ab_ina (List.mem_append_left _ (List.mem_of_getElem? (i := 68) (by decide +kernel))) rfl
theorem wd_625 : Cond.constantLong "TempoPlayerModel" 321 (31) ∈ ab_all := ab_ina (ab_at6 (i := 142) (rfl)) rfl
theorem wd_626 : Cond.fieldLink "TempoPlayerModel" 323 "TempoPlayerModel" "hash" "J" ∈ ab_all := ab_ina (ab_at4 (i := 204) (rfl)) rfl
theorem wd_627 : Cond.methodLink "TempoPlayerModel" 326 ⟨"TempoPlayerModel", "mix", "(J)V"⟩ ∈ ab_all := ab_ina (ab_at6 (i := 138) (rfl)) rfl
theorem wd_628 : Cond.instanceMethod ⟨"TempoPlayerModel", "mix", "(J)V"⟩ ∈ ab_all := ab_ina (ab_at6 (i := 140) (rfl)) rfl
theorem wd_629 : Cond.selects "TempoPlayerModel" ⟨"TempoPlayerModel", "mix", "(J)V"⟩ ⟨"TempoPlayerModel", "mix", "(J)V"⟩ ∈ ab_all := ab_ina (List.mem_append_left _ (List.mem_of_getElem? (i := 69) (by decide +kernel))) rfl
theorem wd_630 : Cond.constantLong "TempoPlayerModel" 330 (2083) ∈ ab_all := ab_ina (ab_at6 (i := 137) (rfl)) rfl
theorem wd_631 : Cond.methodLink "TempoPlayerModel" 332 ⟨"TempoPlayerModel", "mixPiece", "()V"⟩ ∈ ab_all := ab_ina (ab_at6 (i := 143) (rfl)) rfl
theorem wd_632 : Cond.instanceMethod ⟨"TempoPlayerModel", "mixPiece", "()V"⟩ ∈ ab_all := ab_ina (ab_at6 (i := 145) (rfl)) rfl
theorem wd_633 : Cond.selects "TempoPlayerModel" ⟨"TempoPlayerModel", "mixPiece", "()V"⟩ ⟨"TempoPlayerModel", "mixPiece", "()V"⟩ ∈ ab_all := ab_ina (List.mem_append_left _ (List.mem_of_getElem? (i := 70) (by decide +kernel))) rfl
theorem wd_634 : Cond.methodLink "TempoPlayerModel" 335 ⟨"java/lang/Double", "doubleToLongBits", "(D)J"⟩ ∈ ab_all := ab_ina (ab_at6 (i := 147) (rfl)) rfl
theorem wd_635 : Cond.static ⟨"java/lang/Double", "doubleToLongBits", "(D)J"⟩ ∈ ab_all := ab_ina (ab_at6 (i := 148) (rfl)) rfl
theorem wd_636 : Cond.methodLink "TempoPlayerLaw" 7 ⟨"TempoPlayer", "begin", "()I"⟩ ∈ ab_all := ab_ina (ab_at3 (i := 75) (rfl)) rfl
theorem wd_637 : Cond.instanceMethod ⟨"TempoPlayer", "begin", "()I"⟩ ∈ ab_all := ab_ina (ab_at3 (i := 76) (rfl)) rfl
theorem wd_638 : Cond.selects "TempoPlayer" ⟨"TempoPlayer", "begin", "()I"⟩ ⟨"TempoPlayer", "begin", "()I"⟩ ∈ ab_all := ab_ina (ab_at3 (i := 77) (rfl)) rfl
theorem wd_639 : Cond.methodLink "TempoPlayerLaw" 15 ⟨"TempoPlayer", "addBar", "(II)I"⟩ ∈ ab_all := ab_ina (ab_at3 (i := 156) (rfl)) rfl
theorem wd_640 : Cond.instanceMethod ⟨"TempoPlayer", "addBar", "(II)I"⟩ ∈ ab_all := ab_ina (ab_at3 (i := 157) (rfl)) rfl
theorem wd_641 : Cond.selects "TempoPlayer" ⟨"TempoPlayer", "addBar", "(II)I"⟩ ⟨"TempoPlayer", "addBar", "(II)I"⟩ ∈ ab_all := ab_ina (ab_at3 (i := 158) (rfl)) rfl
theorem wd_642 : Cond.methodLink "TempoPlayerLaw" 21 ⟨"TempoPlayer", "setBar", "(III)I"⟩ ∈ ab_all := ab_ina (ab_at3 (i := 171) (rfl)) rfl
theorem wd_643 : Cond.instanceMethod ⟨"TempoPlayer", "setBar", "(III)I"⟩ ∈ ab_all := ab_ina (ab_at3 (i := 172) (rfl)) rfl
theorem wd_644 : Cond.selects "TempoPlayer" ⟨"TempoPlayer", "setBar", "(III)I"⟩ ⟨"TempoPlayer", "setBar", "(III)I"⟩ ∈ ab_all := ab_ina (ab_at3 (i := 173) (rfl)) rfl
theorem wd_645 : Cond.methodLink "TempoPlayerLaw" 27 ⟨"TempoPlayer", "removeBar", "(I)I"⟩ ∈ ab_all := ab_ina (ab_at3 (i := 182) (rfl)) rfl
theorem wd_646 : Cond.instanceMethod ⟨"TempoPlayer", "removeBar", "(I)I"⟩ ∈ ab_all := ab_ina (ab_at3 (i := 183) (rfl)) rfl
theorem wd_647 : Cond.selects "TempoPlayer" ⟨"TempoPlayer", "removeBar", "(I)I"⟩ ⟨"TempoPlayer", "removeBar", "(I)I"⟩ ∈ ab_all := ab_ina (ab_at3 (i := 184) (rfl)) rfl
theorem wd_648 : Cond.methodLink "TempoPlayerLaw" 31 ⟨"TempoPlayer", "mark", "(IIZ)I"⟩ ∈ ab_all := ab_ina (ab_at3 (i := 190) (rfl)) rfl
theorem wd_649 : Cond.instanceMethod ⟨"TempoPlayer", "mark", "(IIZ)I"⟩ ∈ ab_all := ab_ina (ab_at3 (i := 191) (rfl)) rfl
theorem wd_650 : Cond.selects "TempoPlayer" ⟨"TempoPlayer", "mark", "(IIZ)I"⟩ ⟨"TempoPlayer", "mark", "(IIZ)I"⟩ ∈ ab_all := ab_ina (ab_at3 (i := 192) (rfl)) rfl
theorem wd_651 : Cond.methodLink "TempoPlayerLaw" 35 ⟨"TempoPlayer", "removeMark", "(I)I"⟩ ∈ ab_all := ab_ina (ab_at3 (i := 209) (rfl)) rfl
theorem wd_652 : Cond.instanceMethod ⟨"TempoPlayer", "removeMark", "(I)I"⟩ ∈ ab_all := ab_ina (ab_at3 (i := 210) (rfl)) rfl
theorem wd_653 : Cond.selects "TempoPlayer" ⟨"TempoPlayer", "removeMark", "(I)I"⟩ ⟨"TempoPlayer", "removeMark", "(I)I"⟩ ∈ ab_all := ab_ina (ab_at3 (i := 211) (rfl)) rfl
theorem wd_654 : Cond.methodLink "TempoPlayerLaw" 38 ⟨"TempoPlayer", "cue", "(III)I"⟩ ∈ ab_all := ab_ina (ab_at3 (i := 216) (rfl)) rfl
theorem wd_655 : Cond.instanceMethod ⟨"TempoPlayer", "cue", "(III)I"⟩ ∈ ab_all := ab_ina (ab_at3 (i := 217) (rfl)) rfl
theorem wd_656 : Cond.selects "TempoPlayer" ⟨"TempoPlayer", "cue", "(III)I"⟩ ⟨"TempoPlayer", "cue", "(III)I"⟩ ∈ ab_all := ab_ina (ab_at3 (i := 218) (rfl)) rfl
theorem wd_657 : Cond.methodLink "TempoPlayerLaw" 41 ⟨"TempoPlayer", "removeCue", "(I)I"⟩ ∈ ab_all := ab_ina (ab_at3 (i := 225) (rfl)) rfl
theorem wd_658 : Cond.instanceMethod ⟨"TempoPlayer", "removeCue", "(I)I"⟩ ∈ ab_all := ab_ina (ab_at3 (i := 226) (rfl)) rfl
theorem wd_659 : Cond.selects "TempoPlayer" ⟨"TempoPlayer", "removeCue", "(I)I"⟩ ⟨"TempoPlayer", "removeCue", "(I)I"⟩ ∈ ab_all := ab_ina (ab_at3 (i := 227) (rfl)) rfl
theorem wd_660 : Cond.methodLink "TempoPlayerLaw" 44 ⟨"TempoPlayer", "load", "()I"⟩ ∈ ab_all := ab_ina (ab_at3 (i := 232) (rfl)) rfl
theorem wd_661 : Cond.instanceMethod ⟨"TempoPlayer", "load", "()I"⟩ ∈ ab_all := ab_ina (ab_at3 (i := 233) (rfl)) rfl
theorem wd_662 : Cond.selects "TempoPlayer" ⟨"TempoPlayer", "load", "()I"⟩ ⟨"TempoPlayer", "load", "()I"⟩ ∈ ab_all := ab_ina (ab_at3 (i := 234) (rfl)) rfl
theorem wd_663 : Cond.methodLink "TempoPlayerLaw" 47 ⟨"TempoPlayer", "undo", "()I"⟩ ∈ ab_all := ab_ina (ab_at4 (i := 7) (rfl)) rfl
theorem wd_664 : Cond.instanceMethod ⟨"TempoPlayer", "undo", "()I"⟩ ∈ ab_all := ab_ina (ab_at4 (i := 8) (rfl)) rfl
theorem wd_665 : Cond.selects "TempoPlayer" ⟨"TempoPlayer", "undo", "()I"⟩ ⟨"TempoPlayer", "undo", "()I"⟩ ∈ ab_all := ab_ina (ab_at4 (i := 9) (rfl)) rfl
theorem wd_666 : Cond.methodLink "TempoPlayerLaw" 50 ⟨"TempoPlayer", "keep", "(I)I"⟩ ∈ ab_all := ab_ina (ab_at4 (i := 19) (rfl)) rfl
theorem wd_667 : Cond.instanceMethod ⟨"TempoPlayer", "keep", "(I)I"⟩ ∈ ab_all := ab_ina (ab_at4 (i := 20) (rfl)) rfl
theorem wd_668 : Cond.selects "TempoPlayer" ⟨"TempoPlayer", "keep", "(I)I"⟩ ⟨"TempoPlayer", "keep", "(I)I"⟩ ∈ ab_all := ab_ina (ab_at4 (i := 21) (rfl)) rfl
theorem wd_669 : Cond.methodLink "TempoPlayerLaw" 53 ⟨"TempoPlayer", "back", "(I)I"⟩ ∈ ab_all := ab_ina (ab_at4 (i := 27) (rfl)) rfl
theorem wd_670 : Cond.instanceMethod ⟨"TempoPlayer", "back", "(I)I"⟩ ∈ ab_all := ab_ina (ab_at4 (i := 28) (rfl)) rfl
theorem wd_671 : Cond.selects "TempoPlayer" ⟨"TempoPlayer", "back", "(I)I"⟩ ⟨"TempoPlayer", "back", "(I)I"⟩ ∈ ab_all := ab_ina (ab_at4 (i := 29) (rfl)) rfl
theorem wd_672 : Cond.methodLink "TempoPlayerLaw" 56 ⟨"TempoPlayer", "append", "(I)I"⟩ ∈ ab_all := ab_ina (ab_at4 (i := 35) (rfl)) rfl
theorem wd_673 : Cond.instanceMethod ⟨"TempoPlayer", "append", "(I)I"⟩ ∈ ab_all := ab_ina (ab_at4 (i := 36) (rfl)) rfl
theorem wd_674 : Cond.selects "TempoPlayer" ⟨"TempoPlayer", "append", "(I)I"⟩ ⟨"TempoPlayer", "append", "(I)I"⟩ ∈ ab_all := ab_ina (ab_at4 (i := 37) (rfl)) rfl
theorem wd_675 : Cond.methodLink "TempoPlayerLaw" 59 ⟨"TempoPlayer", "start", "(III)J"⟩ ∈ ab_all := ab_ina (ab_at4 (i := 45) (rfl)) rfl
theorem wd_676 : Cond.instanceMethod ⟨"TempoPlayer", "start", "(III)J"⟩ ∈ ab_all := ab_ina (ab_at4 (i := 46) (rfl)) rfl
theorem wd_677 : Cond.selects "TempoPlayer" ⟨"TempoPlayer", "start", "(III)J"⟩ ⟨"TempoPlayer", "start", "(III)J"⟩ ∈ ab_all := ab_ina (ab_at4 (i := 47) (rfl)) rfl
theorem wd_678 : Cond.methodLink "TempoPlayerLaw" 63 ⟨"TempoPlayer", "advance", "(I)I"⟩ ∈ ab_all := ab_ina (ab_at4 (i := 58) (rfl)) rfl
theorem wd_679 : Cond.instanceMethod ⟨"TempoPlayer", "advance", "(I)I"⟩ ∈ ab_all := ab_ina (ab_at4 (i := 59) (rfl)) rfl
theorem wd_680 : Cond.selects "TempoPlayer" ⟨"TempoPlayer", "advance", "(I)I"⟩ ⟨"TempoPlayer", "advance", "(I)I"⟩ ∈ ab_all := ab_ina (ab_at4 (i := 60) (rfl)) rfl
theorem wd_681 : Cond.methodLink "TempoPlayerLaw" 66 ⟨"TempoPlayer", "stop", "()J"⟩ ∈ ab_all := ab_ina (ab_at4 (i := 95) (rfl)) rfl
theorem wd_682 : Cond.instanceMethod ⟨"TempoPlayer", "stop", "()J"⟩ ∈ ab_all := ab_ina (ab_at4 (i := 96) (rfl)) rfl
theorem wd_683 : Cond.selects "TempoPlayer" ⟨"TempoPlayer", "stop", "()J"⟩ ⟨"TempoPlayer", "stop", "()J"⟩ ∈ ab_all := ab_ina (ab_at4 (i := 97) (rfl)) rfl
theorem wd_684 : Cond.methodLink "TempoPlayerLaw" 70 ⟨"TempoPlayer", "playing", "(I)J"⟩ ∈ ab_all := ab_ina (ab_at4 (i := 102) (rfl)) rfl
theorem wd_685 : Cond.methodLink "TempoPlayerLaw" 74 ⟨"TempoPlayer", "bar", "(II)I"⟩ ∈ ab_all := ab_ina (ab_at4 (i := 106) (rfl)) rfl
theorem wd_686 : Cond.methodLink "TempoPlayerLaw" 77 ⟨"TempoPlayer", "beat", "(II)J"⟩ ∈ ab_all := ab_ina (ab_at4 (i := 110) (rfl)) rfl
theorem wd_687 : Cond.methodLink "TempoPlayerLaw" 81 ⟨"TempoPlayer", "click", "(II)J"⟩ ∈ ab_all := ab_ina (ab_at4 (i := 114) (rfl)) rfl
theorem wd_688 : Cond.instanceMethod ⟨"TempoPlayer", "click", "(II)J"⟩ ∈ ab_all := ab_ina (ab_at4 (i := 115) (rfl)) rfl
theorem wd_689 : Cond.selects "TempoPlayer" ⟨"TempoPlayer", "click", "(II)J"⟩ ⟨"TempoPlayer", "click", "(II)J"⟩ ∈ ab_all := ab_ina (ab_at4 (i := 116) (rfl)) rfl
theorem wd_690 : Cond.methodLink "TempoPlayerLaw" 84 ⟨"TempoPlayer", "tempo", "(II)I"⟩ ∈ ab_all := ab_ina (ab_at4 (i := 123) (rfl)) rfl
theorem wd_691 : Cond.methodLink "TempoPlayerLaw" 87 ⟨"TempoPlayer", "cueAt", "(II)J"⟩ ∈ ab_all := ab_ina (ab_at4 (i := 127) (rfl)) rfl
theorem wd_692 : Cond.methodLink "TempoPlayerLaw" 90 ⟨"TempoPlayer", "at", "(JI)I"⟩ ∈ ab_all := ab_ina (ab_at4 (i := 131) (rfl)) rfl
theorem wd_693 : Cond.instanceMethod ⟨"TempoPlayer", "at", "(JI)I"⟩ ∈ ab_all := ab_ina (ab_at4 (i := 132) (rfl)) rfl
theorem wd_694 : Cond.selects "TempoPlayer" ⟨"TempoPlayer", "at", "(JI)I"⟩ ⟨"TempoPlayer", "at", "(JI)I"⟩ ∈ ab_all := ab_ina (ab_at4 (i := 133) (rfl)) rfl
theorem wd_695 : Cond.methodLink "TempoPlayerLaw" 94 ⟨"TempoPlayer", "count", "(I)J"⟩ ∈ ab_all := ab_ina (ab_at4 (i := 146) (rfl)) rfl
theorem wd_696 : Cond.methodLink "TempoPlayerLaw" 97 ⟨"TempoPlayer", "bestSpeed", "(IJ)I"⟩ ∈ ab_all := ab_ina (ab_at4 (i := 150) (rfl)) rfl
theorem wd_697 : Cond.instanceMethod ⟨"TempoPlayer", "bestSpeed", "(IJ)I"⟩ ∈ ab_all := ab_ina (ab_at4 (i := 151) (rfl)) rfl
theorem wd_698 : Cond.selects "TempoPlayer" ⟨"TempoPlayer", "bestSpeed", "(IJ)I"⟩ ⟨"TempoPlayer", "bestSpeed", "(IJ)I"⟩ ∈ ab_all := ab_ina (ab_at4 (i := 152) (rfl)) rfl
theorem wd_699 : Cond.methodLink "TempoPlayerLaw" 101 ⟨"TempoPlayer", "rubberFor", "(IJ)I"⟩ ∈ ab_all := ab_ina (ab_at4 (i := 162) (rfl)) rfl
theorem wd_700 : Cond.instanceMethod ⟨"TempoPlayer", "rubberFor", "(IJ)I"⟩ ∈ ab_all := ab_ina (ab_at4 (i := 163) (rfl)) rfl
theorem wd_701 : Cond.selects "TempoPlayer" ⟨"TempoPlayer", "rubberFor", "(IJ)I"⟩ ⟨"TempoPlayer", "rubberFor", "(IJ)I"⟩ ∈ ab_all := ab_ina (ab_at4 (i := 164) (rfl)) rfl
theorem wd_702 : Cond.methodLink "TempoPlayerLaw" 104 ⟨"TempoPlayer", "ifMark", "(III)J"⟩ ∈ ab_all := ab_ina (ab_at4 (i := 171) (rfl)) rfl
theorem wd_703 : Cond.instanceMethod ⟨"TempoPlayer", "ifMark", "(III)J"⟩ ∈ ab_all := ab_ina (ab_at4 (i := 172) (rfl)) rfl
theorem wd_704 : Cond.selects "TempoPlayer" ⟨"TempoPlayer", "ifMark", "(III)J"⟩ ⟨"TempoPlayer", "ifMark", "(III)J"⟩ ∈ ab_all := ab_ina (ab_at4 (i := 173) (rfl)) rfl
theorem wd_705 : Cond.classLink "TempoPlayerLaw" 8 "TempoPlayer" ∈ ab_all := ab_ina (ab_at1 (i := 18) (rfl)) rfl
theorem wd_706 : Cond.instantiable "TempoPlayer" 10 ∈ ab_all := ab_ina (ab_at1 (i := 19) (rfl)) rfl
theorem wd_707 : Cond.initialized "TempoPlayer" ∈ ab_all := ab_ina (ab_at1 (i := 1) (rfl)) rfl
theorem wd_708 : Cond.methodLink "TempoPlayerLaw" 107 ⟨"TempoPlayer", "<init>", "()V"⟩ ∈ ab_all := ab_ina (ab_at1 (i := 20) (rfl)) rfl
theorem wd_709 : Cond.instanceMethod ⟨"TempoPlayer", "<init>", "()V"⟩ ∈ ab_all := ab_ina (ab_at1 (i := 21) (rfl)) rfl
theorem wd_710 : Cond.classLink "TempoPlayerLaw" 108 "TempoPlayerModel" ∈ ab_all := ab_ina (ab_at4 (i := 175) (rfl)) rfl
theorem wd_711 : Cond.instantiable "TempoPlayerModel" 24 ∈ ab_all := ab_ina (ab_at4 (i := 176) (rfl)) rfl
theorem wd_712 : Cond.initialized "TempoPlayerModel" ∈ ab_all := ab_ina (ab_at1 (i := 9) (rfl)) rfl
theorem wd_713 : Cond.methodLink "TempoPlayerLaw" 110 ⟨"TempoPlayerModel", "<init>", "()V"⟩ ∈ ab_all := ab_ina (ab_at4 (i := 177) (rfl)) rfl
theorem wd_714 : Cond.instanceMethod ⟨"TempoPlayerModel", "<init>", "()V"⟩ ∈ ab_all := ab_ina (ab_at4 (i := 178) (rfl)) rfl
theorem wd_715 : Cond.methodLink "TempoPlayerLaw" 111 ⟨"TempoPlayerLaw", "begin", "(LTempoPlayer;[J)I"⟩ ∈ ab_all := ab_ina (ab_at3 (i := 71) (rfl)) rfl
theorem wd_716 : Cond.static ⟨"TempoPlayerLaw", "begin", "(LTempoPlayer;[J)I"⟩ ∈ ab_all := ab_ina (ab_at3 (i := 72) (rfl)) rfl
theorem wd_717 : Cond.methodLink "TempoPlayerLaw" 116 ⟨"TempoPlayerModel", "begin", "()I"⟩ ∈ ab_all := ab_ina (ab_at5 (i := 18) (rfl)) rfl
theorem wd_718 : Cond.instanceMethod ⟨"TempoPlayerModel", "begin", "()I"⟩ ∈ ab_all := ab_ina (ab_at5 (i := 19) (rfl)) rfl
theorem wd_719 : Cond.selects "TempoPlayerModel" ⟨"TempoPlayerModel", "begin", "()I"⟩ ⟨"TempoPlayerModel", "begin", "()I"⟩ ∈ ab_all := ab_ina (ab_at5 (i := 20) (rfl)) rfl
theorem wd_720 : Cond.methodLink "TempoPlayerLaw" 117 ⟨"TempoPlayerModel", "thrown", "()I"⟩ ∈ ab_all := ab_ina (ab_at5 (i := 14) (rfl)) rfl
theorem wd_721 : Cond.instanceMethod ⟨"TempoPlayerModel", "thrown", "()I"⟩ ∈ ab_all := ab_ina (ab_at5 (i := 15) (rfl)) rfl
theorem wd_722 : Cond.selects "TempoPlayerModel" ⟨"TempoPlayerModel", "thrown", "()I"⟩ ⟨"TempoPlayerModel", "thrown", "()I"⟩ ∈ ab_all := ab_ina (ab_at5 (i := 16) (rfl)) rfl
theorem wd_723 : Cond.methodLink "TempoPlayerLaw" 120 ⟨"TempoPlayerLaw", "addBar", "(LTempoPlayer;II[J)I"⟩ ∈ ab_all := ab_ina (ab_at3 (i := 152) (rfl)) rfl
theorem wd_724 : Cond.static ⟨"TempoPlayerLaw", "addBar", "(LTempoPlayer;II[J)I"⟩ ∈ ab_all := ab_ina (ab_at3 (i := 153) (rfl)) rfl
theorem wd_725 : Cond.methodLink "TempoPlayerLaw" 123 ⟨"TempoPlayerModel", "addBar", "(II)I"⟩ ∈ ab_all := ab_ina (ab_at5 (i := 34) (rfl)) rfl
theorem wd_726 : Cond.instanceMethod ⟨"TempoPlayerModel", "addBar", "(II)I"⟩ ∈ ab_all := ab_ina (ab_at5 (i := 35) (rfl)) rfl
theorem wd_727 : Cond.selects "TempoPlayerModel" ⟨"TempoPlayerModel", "addBar", "(II)I"⟩ ⟨"TempoPlayerModel", "addBar", "(II)I"⟩ ∈ ab_all := ab_ina (ab_at5 (i := 36) (rfl)) rfl
theorem wd_728 : Cond.methodLink "TempoPlayerLaw" 124 ⟨"TempoPlayerLaw", "setBar", "(LTempoPlayer;III[J)I"⟩ ∈ ab_all := ab_ina (ab_at3 (i := 167) (rfl)) rfl
theorem wd_729 : Cond.static ⟨"TempoPlayerLaw", "setBar", "(LTempoPlayer;III[J)I"⟩ ∈ ab_all := ab_ina (ab_at3 (i := 168) (rfl)) rfl
theorem wd_730 : Cond.methodLink "TempoPlayerLaw" 127 ⟨"TempoPlayerModel", "setBar", "(III)I"⟩ ∈ ab_all := ab_ina (ab_at5 (i := 47) (rfl)) rfl
theorem wd_731 : Cond.instanceMethod ⟨"TempoPlayerModel", "setBar", "(III)I"⟩ ∈ ab_all := ab_ina (ab_at5 (i := 48) (rfl)) rfl
theorem wd_732 : Cond.selects "TempoPlayerModel" ⟨"TempoPlayerModel", "setBar", "(III)I"⟩ ⟨"TempoPlayerModel", "setBar", "(III)I"⟩ ∈ ab_all := ab_ina (ab_at5 (i := 49) (rfl)) rfl
theorem wd_733 : Cond.methodLink "TempoPlayerLaw" 128 ⟨"TempoPlayerLaw", "removeBar", "(LTempoPlayer;I[J)I"⟩ ∈ ab_all := ab_ina (ab_at3 (i := 179) (rfl)) rfl
theorem wd_734 : Cond.static ⟨"TempoPlayerLaw", "removeBar", "(LTempoPlayer;I[J)I"⟩ ∈ ab_all := ab_ina (ab_at3 (i := 180) (rfl)) rfl
theorem wd_735 : Cond.methodLink "TempoPlayerLaw" 131 ⟨"TempoPlayerModel", "removeBar", "(I)I"⟩ ∈ ab_all := ab_ina (ab_at5 (i := 83) (rfl)) rfl
theorem wd_736 : Cond.instanceMethod ⟨"TempoPlayerModel", "removeBar", "(I)I"⟩ ∈ ab_all := ab_ina (ab_at5 (i := 84) (rfl)) rfl
theorem wd_737 : Cond.selects "TempoPlayerModel" ⟨"TempoPlayerModel", "removeBar", "(I)I"⟩ ⟨"TempoPlayerModel", "removeBar", "(I)I"⟩ ∈ ab_all := ab_ina (ab_at5 (i := 85) (rfl)) rfl
theorem wd_738 : Cond.methodLink "TempoPlayerLaw" 132 ⟨"TempoPlayerLaw", "mark", "(LTempoPlayer;IIZ[J)I"⟩ ∈ ab_all := ab_ina (ab_at3 (i := 187) (rfl)) rfl
theorem wd_739 : Cond.static ⟨"TempoPlayerLaw", "mark", "(LTempoPlayer;IIZ[J)I"⟩ ∈ ab_all := ab_ina (ab_at3 (i := 188) (rfl)) rfl
theorem wd_740 : Cond.methodLink "TempoPlayerLaw" 135 ⟨"TempoPlayerModel", "mark", "(IIZ)I"⟩ ∈ ab_all := ab_ina (ab_at5 (i := 87) (rfl)) rfl
theorem wd_741 : Cond.instanceMethod ⟨"TempoPlayerModel", "mark", "(IIZ)I"⟩ ∈ ab_all := ab_ina (ab_at5 (i := 88) (rfl)) rfl
theorem wd_742 : Cond.selects "TempoPlayerModel" ⟨"TempoPlayerModel", "mark", "(IIZ)I"⟩ ⟨"TempoPlayerModel", "mark", "(IIZ)I"⟩ ∈ ab_all := ab_ina (ab_at5 (i := 89) (rfl)) rfl
theorem wd_743 : Cond.methodLink "TempoPlayerLaw" 136 ⟨"TempoPlayerLaw", "removeMark", "(LTempoPlayer;I[J)I"⟩ ∈ ab_all := ab_ina (ab_at3 (i := 206) (rfl)) rfl
theorem wd_744 : Cond.static ⟨"TempoPlayerLaw", "removeMark", "(LTempoPlayer;I[J)I"⟩ ∈ ab_all := ab_ina (ab_at3 (i := 207) (rfl)) rfl
theorem wd_745 : Cond.methodLink "TempoPlayerLaw" 138 ⟨"TempoPlayerModel", "removeMark", "(I)I"⟩ ∈ ab_all := ab_ina (ab_at5 (i := 109) (rfl)) rfl
theorem wd_746 : Cond.instanceMethod ⟨"TempoPlayerModel", "removeMark", "(I)I"⟩ ∈ ab_all := ab_ina (ab_at5 (i := 110) (rfl)) rfl
theorem wd_747 : Cond.selects "TempoPlayerModel" ⟨"TempoPlayerModel", "removeMark", "(I)I"⟩ ⟨"TempoPlayerModel", "removeMark", "(I)I"⟩ ∈ ab_all := ab_ina (ab_at5 (i := 111) (rfl)) rfl
theorem wd_748 : Cond.methodLink "TempoPlayerLaw" 139 ⟨"TempoPlayerLaw", "cue", "(LTempoPlayer;III[J)I"⟩ ∈ ab_all := ab_ina (ab_at3 (i := 213) (rfl)) rfl
theorem wd_749 : Cond.static ⟨"TempoPlayerLaw", "cue", "(LTempoPlayer;III[J)I"⟩ ∈ ab_all := ab_ina (ab_at3 (i := 214) (rfl)) rfl
theorem wd_750 : Cond.methodLink "TempoPlayerLaw" 141 ⟨"TempoPlayerModel", "cue", "(III)I"⟩ ∈ ab_all := ab_ina (ab_at5 (i := 113) (rfl)) rfl
theorem wd_751 : Cond.instanceMethod ⟨"TempoPlayerModel", "cue", "(III)I"⟩ ∈ ab_all := ab_ina (ab_at5 (i := 114) (rfl)) rfl
theorem wd_752 : Cond.selects "TempoPlayerModel" ⟨"TempoPlayerModel", "cue", "(III)I"⟩ ⟨"TempoPlayerModel", "cue", "(III)I"⟩ ∈ ab_all := ab_ina (ab_at5 (i := 115) (rfl)) rfl
theorem wd_753 : Cond.methodLink "TempoPlayerLaw" 142 ⟨"TempoPlayerLaw", "removeCue", "(LTempoPlayer;I[J)I"⟩ ∈ ab_all := ab_ina (ab_at3 (i := 222) (rfl)) rfl
theorem wd_754 : Cond.static ⟨"TempoPlayerLaw", "removeCue", "(LTempoPlayer;I[J)I"⟩ ∈ ab_all := ab_ina (ab_at3 (i := 223) (rfl)) rfl
theorem wd_755 : Cond.methodLink "TempoPlayerLaw" 144 ⟨"TempoPlayerModel", "removeCue", "(I)I"⟩ ∈ ab_all := ab_ina (ab_at5 (i := 123) (rfl)) rfl
theorem wd_756 : Cond.instanceMethod ⟨"TempoPlayerModel", "removeCue", "(I)I"⟩ ∈ ab_all := ab_ina (ab_at5 (i := 124) (rfl)) rfl
theorem wd_757 : Cond.selects "TempoPlayerModel" ⟨"TempoPlayerModel", "removeCue", "(I)I"⟩ ⟨"TempoPlayerModel", "removeCue", "(I)I"⟩ ∈ ab_all := ab_ina (ab_at5 (i := 125) (rfl)) rfl
theorem wd_758 : Cond.methodLink "TempoPlayerLaw" 145 ⟨"TempoPlayerLaw", "load", "(LTempoPlayer;[J)I"⟩ ∈ ab_all := ab_ina (ab_at3 (i := 229) (rfl)) rfl
theorem wd_759 : Cond.static ⟨"TempoPlayerLaw", "load", "(LTempoPlayer;[J)I"⟩ ∈ ab_all := ab_ina (ab_at3 (i := 230) (rfl)) rfl
theorem wd_760 : Cond.methodLink "TempoPlayerLaw" 147 ⟨"TempoPlayerModel", "load", "()I"⟩ ∈ ab_all := ab_ina (ab_at5 (i := 172) (rfl)) rfl
theorem wd_761 : Cond.instanceMethod ⟨"TempoPlayerModel", "load", "()I"⟩ ∈ ab_all := ab_ina (ab_at5 (i := 173) (rfl)) rfl
theorem wd_762 : Cond.selects "TempoPlayerModel" ⟨"TempoPlayerModel", "load", "()I"⟩ ⟨"TempoPlayerModel", "load", "()I"⟩ ∈ ab_all := ab_ina (ab_at5 (i := 174) (rfl)) rfl
theorem wd_763 : Cond.methodLink "TempoPlayerLaw" 148 ⟨"TempoPlayerLaw", "undo", "(LTempoPlayer;[J)I"⟩ ∈ ab_all := ab_ina (ab_at4 (i := 4) (rfl)) rfl
theorem wd_764 : Cond.static ⟨"TempoPlayerLaw", "undo", "(LTempoPlayer;[J)I"⟩ ∈ ab_all := ab_ina (ab_at4 (i := 5) (rfl)) rfl
theorem wd_765 : Cond.methodLink "TempoPlayerLaw" 150 ⟨"TempoPlayerModel", "undo", "()I"⟩ ∈ ab_all := ab_ina (ab_at5 (i := 176) (rfl)) rfl
theorem wd_766 : Cond.instanceMethod ⟨"TempoPlayerModel", "undo", "()I"⟩ ∈ ab_all := ab_ina (ab_at5 (i := 177) (rfl)) rfl
theorem wd_767 : Cond.selects "TempoPlayerModel" ⟨"TempoPlayerModel", "undo", "()I"⟩ ⟨"TempoPlayerModel", "undo", "()I"⟩ ∈ ab_all := ab_ina (ab_at5 (i := 178) (rfl)) rfl
theorem wd_768 : Cond.methodLink "TempoPlayerLaw" 151 ⟨"TempoPlayerLaw", "keep", "(LTempoPlayer;I[J)I"⟩ ∈ ab_all := ab_ina (ab_at4 (i := 16) (rfl)) rfl
theorem wd_769 : Cond.static ⟨"TempoPlayerLaw", "keep", "(LTempoPlayer;I[J)I"⟩ ∈ ab_all := ab_ina (ab_at4 (i := 17) (rfl)) rfl
theorem wd_770 : Cond.methodLink "TempoPlayerLaw" 153 ⟨"TempoPlayerModel", "keep", "(I)I"⟩ ∈ ab_all := ab_ina (ab_at5 (i := 180) (rfl)) rfl
theorem wd_771 : Cond.instanceMethod ⟨"TempoPlayerModel", "keep", "(I)I"⟩ ∈ ab_all := ab_ina (ab_at5 (i := 181) (rfl)) rfl
theorem wd_772 : Cond.selects "TempoPlayerModel" ⟨"TempoPlayerModel", "keep", "(I)I"⟩ ⟨"TempoPlayerModel", "keep", "(I)I"⟩ ∈ ab_all := ab_ina (ab_at5 (i := 182) (rfl)) rfl
theorem wd_773 : Cond.methodLink "TempoPlayerLaw" 154 ⟨"TempoPlayerLaw", "back", "(LTempoPlayer;I[J)I"⟩ ∈ ab_all := ab_ina (ab_at4 (i := 24) (rfl)) rfl
theorem wd_774 : Cond.static ⟨"TempoPlayerLaw", "back", "(LTempoPlayer;I[J)I"⟩ ∈ ab_all := ab_ina (ab_at4 (i := 25) (rfl)) rfl
theorem wd_775 : Cond.methodLink "TempoPlayerLaw" 156 ⟨"TempoPlayerModel", "back", "(I)I"⟩ ∈ ab_all := ab_ina (ab_at5 (i := 187) (rfl)) rfl
theorem wd_776 : Cond.instanceMethod ⟨"TempoPlayerModel", "back", "(I)I"⟩ ∈ ab_all := ab_ina (ab_at5 (i := 188) (rfl)) rfl
theorem wd_777 : Cond.selects "TempoPlayerModel" ⟨"TempoPlayerModel", "back", "(I)I"⟩ ⟨"TempoPlayerModel", "back", "(I)I"⟩ ∈ ab_all := ab_ina (ab_at5 (i := 189) (rfl)) rfl
theorem wd_778 : Cond.methodLink "TempoPlayerLaw" 157 ⟨"TempoPlayerLaw", "append", "(LTempoPlayer;I[J)I"⟩ ∈ ab_all := ab_ina (ab_at4 (i := 32) (rfl)) rfl
theorem wd_779 : Cond.static ⟨"TempoPlayerLaw", "append", "(LTempoPlayer;I[J)I"⟩ ∈ ab_all := ab_ina (ab_at4 (i := 33) (rfl)) rfl
theorem wd_780 : Cond.methodLink "TempoPlayerLaw" 159 ⟨"TempoPlayerModel", "append", "(I)I"⟩ ∈ ab_all := ab_ina (ab_at5 (i := 162) (rfl)) rfl
theorem wd_781 : Cond.instanceMethod ⟨"TempoPlayerModel", "append", "(I)I"⟩ ∈ ab_all := ab_ina (ab_at5 (i := 163) (rfl)) rfl
theorem wd_782 : Cond.selects "TempoPlayerModel" ⟨"TempoPlayerModel", "append", "(I)I"⟩ ⟨"TempoPlayerModel", "append", "(I)I"⟩ ∈ ab_all := ab_ina (ab_at5 (i := 164) (rfl)) rfl
theorem wd_783 : Cond.methodLink "TempoPlayerLaw" 160 ⟨"TempoPlayer", "clearInput", "()I"⟩ ∈ ab_all := ab_ina (ab_at1 (i := 237) (rfl)) rfl
theorem wd_784 : Cond.instanceMethod ⟨"TempoPlayer", "clearInput", "()I"⟩ ∈ ab_all := ab_ina (ab_at1 (i := 238) (rfl)) rfl
theorem wd_785 : Cond.selects "TempoPlayer" ⟨"TempoPlayer", "clearInput", "()I"⟩ ⟨"TempoPlayer", "clearInput", "()I"⟩ ∈ ab_all := ab_ina (ab_at1 (i := 239) (rfl)) rfl
theorem wd_786 : Cond.methodLink "TempoPlayerLaw" 163 ⟨"TempoPlayerModel", "clearInput", "()I"⟩ ∈ ab_all := ab_ina (ab_at5 (i := 168) (rfl)) rfl
theorem wd_787 : Cond.instanceMethod ⟨"TempoPlayerModel", "clearInput", "()I"⟩ ∈ ab_all := ab_ina (ab_at5 (i := 169) (rfl)) rfl
theorem wd_788 : Cond.selects "TempoPlayerModel" ⟨"TempoPlayerModel", "clearInput", "()I"⟩ ⟨"TempoPlayerModel", "clearInput", "()I"⟩ ∈ ab_all := ab_ina (ab_at5 (i := 170) (rfl)) rfl
theorem wd_789 : Cond.methodLink "TempoPlayerLaw" 164 ⟨"TempoPlayer", "firstError", "()I"⟩ ∈ ab_all := ab_ina (ab_at2 (i := 1) (rfl)) rfl
theorem wd_790 : Cond.instanceMethod ⟨"TempoPlayer", "firstError", "()I"⟩ ∈ ab_all := ab_ina (ab_at2 (i := 2) (rfl)) rfl
theorem wd_791 : Cond.selects "TempoPlayer" ⟨"TempoPlayer", "firstError", "()I"⟩ ⟨"TempoPlayer", "firstError", "()I"⟩ ∈ ab_all := ab_ina (ab_at2 (i := 3) (rfl)) rfl
theorem wd_792 : Cond.methodLink "TempoPlayerLaw" 167 ⟨"TempoPlayerModel", "firstError", "()I"⟩ ∈ ab_all := ab_ina (ab_at5 (i := 131) (rfl)) rfl
theorem wd_793 : Cond.instanceMethod ⟨"TempoPlayerModel", "firstError", "()I"⟩ ∈ ab_all := ab_ina (ab_at5 (i := 132) (rfl)) rfl
theorem wd_794 : Cond.selects "TempoPlayerModel" ⟨"TempoPlayerModel", "firstError", "()I"⟩ ⟨"TempoPlayerModel", "firstError", "()I"⟩ ∈ ab_all := ab_ina (ab_at5 (i := 133) (rfl)) rfl
theorem wd_795 : Cond.methodLink "TempoPlayerLaw" 168 ⟨"TempoPlayerLaw", "start", "(LTempoPlayer;III[J)I"⟩ ∈ ab_all := ab_ina (ab_at4 (i := 42) (rfl)) rfl
theorem wd_796 : Cond.static ⟨"TempoPlayerLaw", "start", "(LTempoPlayer;III[J)I"⟩ ∈ ab_all := ab_ina (ab_at4 (i := 43) (rfl)) rfl
theorem wd_797 : Cond.methodLink "TempoPlayerLaw" 170 ⟨"TempoPlayerModel", "start", "(III)J"⟩ ∈ ab_all := ab_ina (ab_at5 (i := 191) (rfl)) rfl
theorem wd_798 : Cond.instanceMethod ⟨"TempoPlayerModel", "start", "(III)J"⟩ ∈ ab_all := ab_ina (ab_at5 (i := 192) (rfl)) rfl
theorem wd_799 : Cond.selects "TempoPlayerModel" ⟨"TempoPlayerModel", "start", "(III)J"⟩ ⟨"TempoPlayerModel", "start", "(III)J"⟩ ∈ ab_all := ab_ina (ab_at5 (i := 193) (rfl)) rfl
theorem wd_800 : Cond.methodLink "TempoPlayerLaw" 171 ⟨"TempoPlayerLaw", "advance", "(LTempoPlayer;I[J)I"⟩ ∈ ab_all := ab_ina (ab_at4 (i := 55) (rfl)) rfl
theorem wd_801 : Cond.static ⟨"TempoPlayerLaw", "advance", "(LTempoPlayer;I[J)I"⟩ ∈ ab_all := ab_ina (ab_at4 (i := 56) (rfl)) rfl
theorem wd_802 : Cond.methodLink "TempoPlayerLaw" 173 ⟨"TempoPlayerModel", "advance", "(I)I"⟩ ∈ ab_all := ab_ina (ab_at5 (i := 222) (rfl)) rfl
theorem wd_803 : Cond.instanceMethod ⟨"TempoPlayerModel", "advance", "(I)I"⟩ ∈ ab_all := ab_ina (ab_at5 (i := 223) (rfl)) rfl
theorem wd_804 : Cond.selects "TempoPlayerModel" ⟨"TempoPlayerModel", "advance", "(I)I"⟩ ⟨"TempoPlayerModel", "advance", "(I)I"⟩ ∈ ab_all := ab_ina (ab_at5 (i := 224) (rfl)) rfl
theorem wd_805 : Cond.methodLink "TempoPlayerLaw" 174 ⟨"TempoPlayerLaw", "stop", "(LTempoPlayer;[J)I"⟩ ∈ ab_all := ab_ina (ab_at4 (i := 92) (rfl)) rfl
theorem wd_806 : Cond.static ⟨"TempoPlayerLaw", "stop", "(LTempoPlayer;[J)I"⟩ ∈ ab_all := ab_ina (ab_at4 (i := 93) (rfl)) rfl
theorem wd_807 : Cond.methodLink "TempoPlayerLaw" 176 ⟨"TempoPlayerModel", "stop", "()J"⟩ ∈ ab_all := ab_ina (ab_at6 (i := 19) (rfl)) rfl
theorem wd_808 : Cond.instanceMethod ⟨"TempoPlayerModel", "stop", "()J"⟩ ∈ ab_all := ab_ina (ab_at6 (i := 20) (rfl)) rfl
theorem wd_809 : Cond.selects "TempoPlayerModel" ⟨"TempoPlayerModel", "stop", "()J"⟩ ⟨"TempoPlayerModel", "stop", "()J"⟩ ∈ ab_all := ab_ina (ab_at6 (i := 21) (rfl)) rfl
theorem wd_810 : Cond.methodLink "TempoPlayerLaw" 177 ⟨"TempoPlayerLaw", "playing", "(LTempoPlayer;I[J)I"⟩ ∈ ab_all := ab_ina (ab_at4 (i := 99) (rfl)) rfl
theorem wd_811 : Cond.static ⟨"TempoPlayerLaw", "playing", "(LTempoPlayer;I[J)I"⟩ ∈ ab_all := ab_ina (ab_at4 (i := 100) (rfl)) rfl
theorem wd_812 : Cond.methodLink "TempoPlayerLaw" 179 ⟨"TempoPlayerModel", "playing", "(I)J"⟩ ∈ ab_all := ab_ina (ab_at6 (i := 23) (rfl)) rfl
theorem wd_813 : Cond.instanceMethod ⟨"TempoPlayerModel", "playing", "(I)J"⟩ ∈ ab_all := ab_ina (ab_at6 (i := 24) (rfl)) rfl
theorem wd_814 : Cond.selects "TempoPlayerModel" ⟨"TempoPlayerModel", "playing", "(I)J"⟩ ⟨"TempoPlayerModel", "playing", "(I)J"⟩ ∈ ab_all := ab_ina (ab_at6 (i := 25) (rfl)) rfl
theorem wd_815 : Cond.methodLink "TempoPlayerLaw" 180 ⟨"TempoPlayerLaw", "bar", "(LTempoPlayer;II[J)I"⟩ ∈ ab_all := ab_ina (ab_at4 (i := 103) (rfl)) rfl
theorem wd_816 : Cond.static ⟨"TempoPlayerLaw", "bar", "(LTempoPlayer;II[J)I"⟩ ∈ ab_all := ab_ina (ab_at4 (i := 104) (rfl)) rfl
theorem wd_817 : Cond.methodLink "TempoPlayerLaw" 182 ⟨"TempoPlayerModel", "bar", "(II)I"⟩ ∈ ab_all := ab_ina (ab_at6 (i := 45) (rfl)) rfl
theorem wd_818 : Cond.instanceMethod ⟨"TempoPlayerModel", "bar", "(II)I"⟩ ∈ ab_all := ab_ina (ab_at6 (i := 46) (rfl)) rfl
theorem wd_819 : Cond.selects "TempoPlayerModel" ⟨"TempoPlayerModel", "bar", "(II)I"⟩ ⟨"TempoPlayerModel", "bar", "(II)I"⟩ ∈ ab_all := ab_ina (ab_at6 (i := 47) (rfl)) rfl
theorem wd_820 : Cond.methodLink "TempoPlayerLaw" 183 ⟨"TempoPlayerLaw", "beat", "(LTempoPlayer;II[J)I"⟩ ∈ ab_all := ab_ina (ab_at4 (i := 107) (rfl)) rfl
theorem wd_821 : Cond.static ⟨"TempoPlayerLaw", "beat", "(LTempoPlayer;II[J)I"⟩ ∈ ab_all := ab_ina (ab_at4 (i := 108) (rfl)) rfl
theorem wd_822 : Cond.methodLink "TempoPlayerLaw" 185 ⟨"TempoPlayerModel", "beat", "(II)J"⟩ ∈ ab_all := ab_ina (ab_at6 (i := 50) (rfl)) rfl
theorem wd_823 : Cond.instanceMethod ⟨"TempoPlayerModel", "beat", "(II)J"⟩ ∈ ab_all := ab_ina (ab_at6 (i := 51) (rfl)) rfl
theorem wd_824 : Cond.selects "TempoPlayerModel" ⟨"TempoPlayerModel", "beat", "(II)J"⟩ ⟨"TempoPlayerModel", "beat", "(II)J"⟩ ∈ ab_all := ab_ina (ab_at6 (i := 52) (rfl)) rfl
theorem wd_825 : Cond.methodLink "TempoPlayerLaw" 186 ⟨"TempoPlayerLaw", "click", "(LTempoPlayer;II[J)I"⟩ ∈ ab_all := ab_ina (ab_at4 (i := 111) (rfl)) rfl
theorem wd_826 : Cond.static ⟨"TempoPlayerLaw", "click", "(LTempoPlayer;II[J)I"⟩ ∈ ab_all := ab_ina (ab_at4 (i := 112) (rfl)) rfl
theorem wd_827 : Cond.methodLink "TempoPlayerLaw" 188 ⟨"TempoPlayerModel", "click", "(II)J"⟩ ∈ ab_all := ab_ina (ab_at6 (i := 58) (rfl)) rfl
theorem wd_828 : Cond.instanceMethod ⟨"TempoPlayerModel", "click", "(II)J"⟩ ∈ ab_all := ab_ina (ab_at6 (i := 59) (rfl)) rfl
theorem wd_829 : Cond.selects "TempoPlayerModel" ⟨"TempoPlayerModel", "click", "(II)J"⟩ ⟨"TempoPlayerModel", "click", "(II)J"⟩ ∈ ab_all := ab_ina (ab_at6 (i := 60) (rfl)) rfl
theorem wd_830 : Cond.methodLink "TempoPlayerLaw" 189 ⟨"TempoPlayerLaw", "tempo", "(LTempoPlayer;II[J)I"⟩ ∈ ab_all := ab_ina (ab_at4 (i := 120) (rfl)) rfl
theorem wd_831 : Cond.static ⟨"TempoPlayerLaw", "tempo", "(LTempoPlayer;II[J)I"⟩ ∈ ab_all := ab_ina (ab_at4 (i := 121) (rfl)) rfl
theorem wd_832 : Cond.methodLink "TempoPlayerLaw" 191 ⟨"TempoPlayerModel", "tempo", "(II)I"⟩ ∈ ab_all := ab_ina (ab_at6 (i := 62) (rfl)) rfl
theorem wd_833 : Cond.instanceMethod ⟨"TempoPlayerModel", "tempo", "(II)I"⟩ ∈ ab_all := ab_ina (ab_at6 (i := 63) (rfl)) rfl
theorem wd_834 : Cond.selects "TempoPlayerModel" ⟨"TempoPlayerModel", "tempo", "(II)I"⟩ ⟨"TempoPlayerModel", "tempo", "(II)I"⟩ ∈ ab_all := ab_ina (ab_at6 (i := 64) (rfl)) rfl
theorem wd_835 : Cond.methodLink "TempoPlayerLaw" 192 ⟨"TempoPlayerLaw", "cueAt", "(LTempoPlayer;II[J)I"⟩ ∈ ab_all := ab_ina (ab_at4 (i := 124) (rfl)) rfl
theorem wd_836 : Cond.static ⟨"TempoPlayerLaw", "cueAt", "(LTempoPlayer;II[J)I"⟩ ∈ ab_all := ab_ina (ab_at4 (i := 125) (rfl)) rfl
theorem wd_837 : Cond.methodLink "TempoPlayerLaw" 194 ⟨"TempoPlayerModel", "cueAt", "(II)J"⟩ ∈ ab_all := ab_ina (ab_at6 (i := 67) (rfl)) rfl
theorem wd_838 : Cond.instanceMethod ⟨"TempoPlayerModel", "cueAt", "(II)J"⟩ ∈ ab_all := ab_ina (ab_at6 (i := 68) (rfl)) rfl
theorem wd_839 : Cond.selects "TempoPlayerModel" ⟨"TempoPlayerModel", "cueAt", "(II)J"⟩ ⟨"TempoPlayerModel", "cueAt", "(II)J"⟩ ∈ ab_all := ab_ina (ab_at6 (i := 69) (rfl)) rfl
theorem wd_840 : Cond.constantLong "TempoPlayerLaw" 195 (4294967295) ∈ ab_all := ab_ina (ab_at6 (i := 157) (rfl)) rfl
theorem wd_841 : Cond.methodLink "TempoPlayerLaw" 197 ⟨"TempoPlayerLaw", "at", "(LTempoPlayer;JI[J)I"⟩ ∈ ab_all := ab_ina (ab_at4 (i := 128) (rfl)) rfl
theorem wd_842 : Cond.static ⟨"TempoPlayerLaw", "at", "(LTempoPlayer;JI[J)I"⟩ ∈ ab_all := ab_ina (ab_at4 (i := 129) (rfl)) rfl
theorem wd_843 : Cond.methodLink "TempoPlayerLaw" 200 ⟨"TempoPlayerModel", "at", "(JI)I"⟩ ∈ ab_all := ab_ina (ab_at6 (i := 79) (rfl)) rfl
theorem wd_844 : Cond.instanceMethod ⟨"TempoPlayerModel", "at", "(JI)I"⟩ ∈ ab_all := ab_ina (ab_at6 (i := 80) (rfl)) rfl
theorem wd_845 : Cond.selects "TempoPlayerModel" ⟨"TempoPlayerModel", "at", "(JI)I"⟩ ⟨"TempoPlayerModel", "at", "(JI)I"⟩ ∈ ab_all := ab_ina (ab_at6 (i := 81) (rfl)) rfl
theorem wd_846 : Cond.methodLink "TempoPlayerLaw" 201 ⟨"TempoPlayerLaw", "count", "(LTempoPlayer;I[J)I"⟩ ∈ ab_all := ab_ina (ab_at4 (i := 143) (rfl)) rfl
theorem wd_847 : Cond.static ⟨"TempoPlayerLaw", "count", "(LTempoPlayer;I[J)I"⟩ ∈ ab_all := ab_ina (ab_at4 (i := 144) (rfl)) rfl
theorem wd_848 : Cond.methodLink "TempoPlayerLaw" 203 ⟨"TempoPlayerModel", "count", "(I)J"⟩ ∈ ab_all := ab_ina (ab_at6 (i := 87) (rfl)) rfl
theorem wd_849 : Cond.instanceMethod ⟨"TempoPlayerModel", "count", "(I)J"⟩ ∈ ab_all := ab_ina (ab_at6 (i := 88) (rfl)) rfl
theorem wd_850 : Cond.selects "TempoPlayerModel" ⟨"TempoPlayerModel", "count", "(I)J"⟩ ⟨"TempoPlayerModel", "count", "(I)J"⟩ ∈ ab_all := ab_ina (ab_at6 (i := 89) (rfl)) rfl
theorem wd_851 : Cond.methodLink "TempoPlayerLaw" 204 ⟨"TempoPlayerLaw", "bestSpeed", "(LTempoPlayer;IJ[J)I"⟩ ∈ ab_all := ab_ina (ab_at4 (i := 147) (rfl)) rfl
theorem wd_852 : Cond.static ⟨"TempoPlayerLaw", "bestSpeed", "(LTempoPlayer;IJ[J)I"⟩ ∈ ab_all := ab_ina (ab_at4 (i := 148) (rfl)) rfl
theorem wd_853 : Cond.methodLink "TempoPlayerLaw" 207 ⟨"TempoPlayerModel", "bestSpeed", "(IJ)I"⟩ ∈ ab_all := ab_ina (ab_at6 (i := 108) (rfl)) rfl
theorem wd_854 : Cond.instanceMethod ⟨"TempoPlayerModel", "bestSpeed", "(IJ)I"⟩ ∈ ab_all := ab_ina (ab_at6 (i := 109) (rfl)) rfl
theorem wd_855 : Cond.selects "TempoPlayerModel" ⟨"TempoPlayerModel", "bestSpeed", "(IJ)I"⟩ ⟨"TempoPlayerModel", "bestSpeed", "(IJ)I"⟩ ∈ ab_all := ab_ina (ab_at6 (i := 110) (rfl)) rfl
theorem wd_856 : Cond.methodLink "TempoPlayerLaw" 208 ⟨"TempoPlayerLaw", "rubberFor", "(LTempoPlayer;IJ[J)I"⟩ ∈ ab_all := ab_ina (ab_at4 (i := 159) (rfl)) rfl
theorem wd_857 : Cond.static ⟨"TempoPlayerLaw", "rubberFor", "(LTempoPlayer;IJ[J)I"⟩ ∈ ab_all := ab_ina (ab_at4 (i := 160) (rfl)) rfl
theorem wd_858 : Cond.methodLink "TempoPlayerLaw" 210 ⟨"TempoPlayerModel", "rubberFor", "(IJ)I"⟩ ∈ ab_all := ab_ina (ab_at6 (i := 116) (rfl)) rfl
theorem wd_859 : Cond.instanceMethod ⟨"TempoPlayerModel", "rubberFor", "(IJ)I"⟩ ∈ ab_all := ab_ina (ab_at6 (i := 117) (rfl)) rfl
theorem wd_860 : Cond.selects "TempoPlayerModel" ⟨"TempoPlayerModel", "rubberFor", "(IJ)I"⟩ ⟨"TempoPlayerModel", "rubberFor", "(IJ)I"⟩ ∈ ab_all := ab_ina (ab_at6 (i := 118) (rfl)) rfl
theorem wd_861 : Cond.methodLink "TempoPlayerLaw" 211 ⟨"TempoPlayerLaw", "ifMark", "(LTempoPlayer;III[J)I"⟩ ∈ ab_all := ab_ina (ab_at4 (i := 168) (rfl)) rfl
theorem wd_862 : Cond.static ⟨"TempoPlayerLaw", "ifMark", "(LTempoPlayer;III[J)I"⟩ ∈ ab_all := ab_ina (ab_at4 (i := 169) (rfl)) rfl
theorem wd_863 : Cond.methodLink "TempoPlayerLaw" 213 ⟨"TempoPlayerModel", "ifMark", "(III)J"⟩ ∈ ab_all := ab_ina (ab_at6 (i := 120) (rfl)) rfl
theorem wd_864 : Cond.instanceMethod ⟨"TempoPlayerModel", "ifMark", "(III)J"⟩ ∈ ab_all := ab_ina (ab_at6 (i := 121) (rfl)) rfl
theorem wd_865 : Cond.selects "TempoPlayerModel" ⟨"TempoPlayerModel", "ifMark", "(III)J"⟩ ⟨"TempoPlayerModel", "ifMark", "(III)J"⟩ ∈ ab_all := ab_ina (ab_at6 (i := 122) (rfl)) rfl
theorem wd_866 : Cond.methodLink "TempoPlayerLaw" 214 ⟨"TempoPlayer", "meanTempo", "()D"⟩ ∈ ab_all := ab_ina (ab_at2 (i := 48) (rfl)) rfl
theorem wd_867 : Cond.methodLink "TempoPlayerLaw" 218 ⟨"TempoPlayerModel", "meanTempo", "()D"⟩ ∈ ab_all := ab_ina (ab_at6 (i := 124) (rfl)) rfl
theorem wd_868 : Cond.instanceMethod ⟨"TempoPlayerModel", "meanTempo", "()D"⟩ ∈ ab_all := ab_ina (ab_at6 (i := 125) (rfl)) rfl
theorem wd_869 : Cond.selects "TempoPlayerModel" ⟨"TempoPlayerModel", "meanTempo", "()D"⟩ ⟨"TempoPlayerModel", "meanTempo", "()D"⟩ ∈ ab_all := ab_ina (ab_at6 (i := 126) (rfl)) rfl
theorem wd_870 : Cond.methodLink "TempoPlayerLaw" 219 ⟨"TempoPlayer", "digest", "()J"⟩ ∈ ab_all := ab_ina (ab_at2 (i := 53) (rfl)) rfl
theorem wd_871 : Cond.instanceMethod ⟨"TempoPlayer", "digest", "()J"⟩ ∈ ab_all := ab_ina (ab_at2 (i := 54) (rfl)) rfl
theorem wd_872 : Cond.selects "TempoPlayer" ⟨"TempoPlayer", "digest", "()J"⟩ ⟨"TempoPlayer", "digest", "()J"⟩ ∈ ab_all := ab_ina (ab_at2 (i := 55) (rfl)) rfl
theorem wd_873 : Cond.methodLink "TempoPlayerLaw" 222 ⟨"TempoPlayerModel", "digest", "()J"⟩ ∈ ab_all := ab_ina (ab_at6 (i := 133) (rfl)) rfl
theorem wd_874 : Cond.instanceMethod ⟨"TempoPlayerModel", "digest", "()J"⟩ ∈ ab_all := ab_ina (ab_at6 (i := 134) (rfl)) rfl
theorem wd_875 : Cond.selects "TempoPlayerModel" ⟨"TempoPlayerModel", "digest", "()J"⟩ ⟨"TempoPlayerModel", "digest", "()J"⟩ ∈ ab_all := ab_ina (ab_at6 (i := 135) (rfl)) rfl
theorem wd_876 : Cond.methodLink "java/lang/Double" 122 ⟨"java/lang/Double", "isNaN", "(D)Z"⟩ ∈ ab_all := ab_ina (ab_at6 (i := 150) (rfl)) rfl
theorem wd_877 : Cond.static ⟨"java/lang/Double", "isNaN", "(D)Z"⟩ ∈ ab_all := ab_ina (ab_at6 (i := 151) (rfl)) rfl
theorem wd_878 : Cond.methodLink "java/lang/Double" 134 ⟨"java/lang/Double", "doubleToRawLongBits", "(D)J"⟩ ∈ ab_all := ab_ina (ab_at6 (i := 153) (rfl)) rfl
theorem wd_879 : Cond.native ⟨"java/lang/Double", "doubleToRawLongBits", "(D)J"⟩ ∈ ab_all := ab_ina (ab_at6 (i := 155) (rfl)) rfl
theorem wd_880 : Cond.static ⟨"java/lang/Double", "doubleToRawLongBits", "(D)J"⟩ ∈ ab_all := ab_ina (ab_at6 (i := 154) (rfl)) rfl
theorem wd_881 : Cond.initialized "java/lang/Double" ∈ ab_all := ab_ina (ab_at1 (i := 17) (rfl)) rfl
theorem wd_882 : Cond.constantLong "java/lang/Double" 137 (9221120237041090560) ∈ ab_all := ab_ina (ab_at6 (i := 156) (rfl)) rfl
theorem wd_883 : Cond.classLink "TempoPlayerLaw" 13 (ab_exc 0) ∈ ab_all := ab_ina (ab_at3 (i := 74) (rfl)) rfl
theorem wd_884 : Cond.castable (ab_exc 0) (ab_exc 0) ∈ ab_odd := ab_ino (ab_at3 (i := 85) (rfl)) rfl
theorem wd_885 : Cond.classLink "TempoPlayerLaw" 19 (ab_exc 1) ∈ ab_all := ab_ina (ab_at3 (i := 155) (rfl)) rfl
theorem wd_886 : Cond.castable (ab_exc 1) (ab_exc 1) ∈ ab_odd := ab_ino (ab_at2 (i := 69) (rfl)) rfl
theorem wd_887 : Cond.classLink "TempoPlayerLaw" 19 "java/lang/IllegalArgumentException" ∈ ab_all := ab_ina (ab_at3 (i := 155) (rfl)) rfl
theorem wd_888 : Cond.classLink "TempoPlayerLaw" 25 (ab_exc 2) ∈ ab_all := ab_ina (ab_at3 (i := 170) (rfl)) rfl
theorem wd_889 : Cond.castable (ab_exc 2) (ab_exc 2) ∈ ab_odd := ab_ino (ab_at3 (i := 4) (rfl)) rfl
theorem wd_890 : Cond.classLink "TempoPlayerLaw" 25 "java/lang/IndexOutOfBoundsException" ∈ ab_all := ab_ina (ab_at3 (i := 170) (rfl)) rfl
theorem wd_891 : Cond.initialized "TempoPlayerLaw" ∈ ab_all := ab_ina (ab_at1 (i := 0) (rfl)) rfl
theorem cl_0 {M : ab_M} (h : 5 + 1 ≤ M.2.2.2.2.1) : ab_two M ab_m0 := ⟨h, by decide, by decide, by decide, wd_707, ab_ina (ab_at1 (i := 22) (rfl)) rfl⟩
theorem cl_1 {M : ab_M} (h : 7 + 1 ≤ M.2.2.2.2.1) : ab_two M ab_m1 := ⟨h, by decide, by decide, by decide, wd_707, ab_ina (ab_at3 (i := 78) (rfl)) rfl⟩
theorem cl_2 {M : ab_M} (h : 7 + 1 ≤ M.2.2.2.2.1) : ab_two M ab_m2 := ⟨h, by decide, by decide, by decide, wd_707, ab_ina (ab_at3 (i := 159) (rfl)) rfl⟩
theorem cl_3 {M : ab_M} (h : 7 + 1 ≤ M.2.2.2.2.1) : ab_two M ab_m3 := ⟨h, by decide, by decide, by decide, wd_707, ab_ina (ab_at3 (i := 174) (rfl)) rfl⟩
theorem cl_4 {M : ab_M} (h : 7 + 1 ≤ M.2.2.2.2.1) : ab_two M ab_m4 := ⟨h, by decide, by decide, by decide, wd_707, ab_ina (ab_at3 (i := 185) (rfl)) rfl⟩
theorem cl_5 {M : ab_M} (h : 7 + 1 ≤ M.2.2.2.2.1) : ab_two M ab_m5 := ⟨h, by decide, by decide, by decide, wd_707, ab_ina (ab_at3 (i := 193) (rfl)) rfl⟩
theorem cl_6 {M : ab_M} (h : 7 + 1 ≤ M.2.2.2.2.1) : ab_two M ab_m6 := ⟨h, by decide, by decide, by decide, wd_707, ab_ina (ab_at3 (i := 212) (rfl)) rfl⟩
theorem cl_7 {M : ab_M} (h : 7 + 1 ≤ M.2.2.2.2.1) : ab_two M ab_m7 := ⟨h, by decide, by decide, by decide, wd_707, ab_ina (ab_at3 (i := 219) (rfl)) rfl⟩
theorem cl_8 {M : ab_M} (h : 7 + 1 ≤ M.2.2.2.2.1) : ab_two M ab_m8 := ⟨h, by decide, by decide, by decide, wd_707, ab_ina (ab_at3 (i := 228) (rfl)) rfl⟩
theorem cl_9 {M : ab_M} (h : 7 + 1 ≤ M.2.2.2.2.1) : ab_two M ab_m9 := ⟨h, by decide, by decide, by decide, wd_707, ab_ina (ab_at3 (i := 235) (rfl)) rfl⟩
theorem cl_10 {M : ab_M} (h : 7 + 1 ≤ M.2.2.2.2.1) : ab_two M ab_m10 := ⟨h, by decide, by decide, by decide, wd_707, ab_ina (ab_at4 (i := 10) (rfl)) rfl⟩
theorem cl_11 {M : ab_M} (h : 7 + 1 ≤ M.2.2.2.2.1) : ab_two M ab_m11 := ⟨h, by decide, by decide, by decide, wd_707, ab_ina (ab_at4 (i := 22) (rfl)) rfl⟩
theorem cl_12 {M : ab_M} (h : 7 + 1 ≤ M.2.2.2.2.1) : ab_two M ab_m12 := ⟨h, by decide, by decide, by decide, wd_707, ab_ina (ab_at4 (i := 30) (rfl)) rfl⟩
theorem cl_13 {M : ab_M} (h : 7 + 1 ≤ M.2.2.2.2.1) : ab_two M ab_m13 := ⟨h, by decide, by decide, by decide, wd_707, ab_ina (ab_at4 (i := 38) (rfl)) rfl⟩
theorem cl_14 {M : ab_M} (h : 2 + 1 ≤ M.2.2.2.2.1) : ab_two M ab_m14 := ⟨h, by decide, by decide, by decide, wd_707, ab_ina (ab_at2 (i := 0) (rfl)) rfl⟩
theorem cl_15 {M : ab_M} (h : 7 + 1 ≤ M.2.2.2.2.1) : ab_two M ab_m15 := ⟨h, by decide, by decide, by decide, wd_707, ab_ina (ab_at2 (i := 4) (rfl)) rfl⟩
theorem cl_16 {M : ab_M} (h : 7 + 1 ≤ M.2.2.2.2.1) : ab_two M ab_m16 := ⟨h, by decide, by decide, by decide, wd_707, ab_ina (ab_at4 (i := 48) (rfl)) rfl⟩
theorem cl_17 {M : ab_M} (h : 8 + 1 ≤ M.2.2.2.2.1) : ab_two M ab_m17 := ⟨h, by decide, by decide, by decide, wd_707, ab_ina (ab_at4 (i := 61) (rfl)) rfl⟩
theorem cl_18 {M : ab_M} (h : 7 + 1 ≤ M.2.2.2.2.1) : ab_two M ab_m18 := ⟨h, by decide, by decide, by decide, wd_707, ab_ina (ab_at4 (i := 98) (rfl)) rfl⟩
theorem cl_19 {M : ab_M} (h : 7 + 1 ≤ M.2.2.2.2.1) : ab_two M ab_m19 := ⟨h, by decide, by decide, by decide, wd_707, ab_ina (ab_at2 (i := 171) (rfl)) rfl⟩
theorem cl_20 {M : ab_M} (h : 7 + 1 ≤ M.2.2.2.2.1) : ab_two M ab_m20 := ⟨h, by decide, by decide, by decide, wd_707, ab_ina (ab_at2 (i := 238) (rfl)) rfl⟩
theorem cl_21 {M : ab_M} (h : 7 + 1 ≤ M.2.2.2.2.1) : ab_two M ab_m21 := ⟨h, by decide, by decide, by decide, wd_707, ab_ina (ab_at3 (i := 24) (rfl)) rfl⟩
theorem cl_22 {M : ab_M} (h : 7 + 1 ≤ M.2.2.2.2.1) : ab_two M ab_m22 := ⟨h, by decide, by decide, by decide, wd_707, ab_ina (ab_at4 (i := 117) (rfl)) rfl⟩
theorem cl_23 {M : ab_M} (h : 7 + 1 ≤ M.2.2.2.2.1) : ab_two M ab_m23 := ⟨h, by decide, by decide, by decide, wd_707, ab_ina (ab_at3 (i := 50) (rfl)) rfl⟩
theorem cl_24 {M : ab_M} (h : 7 + 1 ≤ M.2.2.2.2.1) : ab_two M ab_m24 := ⟨h, by decide, by decide, by decide, wd_707, ab_ina (ab_at3 (i := 55) (rfl)) rfl⟩
theorem cl_25 {M : ab_M} (h : 7 + 1 ≤ M.2.2.2.2.1) : ab_two M ab_m25 := ⟨h, by decide, by decide, by decide, wd_707, ab_ina (ab_at4 (i := 134) (rfl)) rfl⟩
theorem cl_26 {M : ab_M} (h : 7 + 1 ≤ M.2.2.2.2.1) : ab_two M ab_m26 := ⟨h, by decide, by decide, by decide, wd_707, ab_ina (ab_at2 (i := 62) (rfl)) rfl⟩
theorem cl_27 {M : ab_M} (h : 7 + 1 ≤ M.2.2.2.2.1) : ab_two M ab_m27 := ⟨h, by decide, by decide, by decide, wd_707, ab_ina (ab_at4 (i := 153) (rfl)) rfl⟩
theorem cl_28 {M : ab_M} (h : 7 + 1 ≤ M.2.2.2.2.1) : ab_two M ab_m28 := ⟨h, by decide, by decide, by decide, wd_707, ab_ina (ab_at4 (i := 165) (rfl)) rfl⟩
theorem cl_29 {M : ab_M} (h : 7 + 1 ≤ M.2.2.2.2.1) : ab_two M ab_m29 := ⟨h, by decide, by decide, by decide, wd_707, ab_ina (ab_at4 (i := 174) (rfl)) rfl⟩
theorem cl_30 {M : ab_M} (h : 2 + 1 ≤ M.2.2.2.2.1) : ab_two M ab_m30 := ⟨h, by decide, by decide, by decide, wd_707, ab_ina (ab_at2 (i := 51) (rfl)) rfl⟩
theorem cl_31 {M : ab_M} (h : 9 + 1 ≤ M.2.2.2.2.1) : ab_two M ab_m31 := ⟨h, by decide, by decide, by decide, wd_707, ab_ina (ab_at2 (i := 56) (rfl)) rfl⟩
theorem cl_32 {M : ab_M} (h : 8 + 1 ≤ M.2.2.2.2.1) : ab_two M ab_m32 := ⟨h, by decide, by decide, by decide, wd_707, ab_ina (ab_at2 (i := 234) (rfl)) rfl⟩
theorem cl_33 {M : ab_M} (h : 6 + 1 ≤ M.2.2.2.2.1) : ab_two M ab_m33 := ⟨h, by decide, by decide, by decide, wd_707, ab_ina (ab_at3 (i := 1) (rfl)) rfl⟩
theorem cl_34 {M : ab_M} (h : 6 + 1 ≤ M.2.2.2.2.1) : ab_two M ab_m34 := ⟨h, by decide, by decide, by decide, wd_707, ab_ina (ab_at2 (i := 66) (rfl)) rfl⟩
theorem cl_35 {M : ab_M} (h : 6 + 1 ≤ M.2.2.2.2.1) : ab_two M ab_m35 := ⟨h, by decide, by decide, by decide, wd_707, ab_ina (ab_at3 (i := 164) (rfl)) rfl⟩
theorem cl_36 {M : ab_M} (h : 6 + 1 ≤ M.2.2.2.2.1) : ab_two M ab_m36 := ⟨h, by decide, by decide, by decide, wd_707, ab_ina (ab_at3 (i := 82) (rfl)) rfl⟩
theorem cl_37 {M : ab_M} (h : 6 + 1 ≤ M.2.2.2.2.1) : ab_two M ab_m37 := ⟨h, by decide, by decide, by decide, wd_707, ab_ina (ab_at4 (i := 66) (rfl)) rfl⟩
theorem cl_38 {M : ab_M} (h : 3 + 1 ≤ M.2.2.2.2.1) : ab_two M ab_m38 := ⟨h, by decide, by decide, by decide, wd_707, ab_ina (ab_at3 (i := 178) (rfl)) rfl⟩
theorem cl_39 {M : ab_M} (h : 3 + 1 ≤ M.2.2.2.2.1) : ab_two M ab_m39 := ⟨h, by decide, by decide, by decide, wd_707, ab_ina (ab_at2 (i := 15) (rfl)) rfl⟩
theorem cl_40 {M : ab_M} (h : 3 + 1 ≤ M.2.2.2.2.1) : ab_two M ab_m40 := ⟨h, by decide, by decide, by decide, wd_707, ab_ina (ab_at3 (i := 199) (rfl)) rfl⟩
theorem cl_41 {M : ab_M} (h : 3 + 1 ≤ M.2.2.2.2.1) : ab_two M ab_m41 := ⟨h, by decide, by decide, by decide, wd_707, ab_ina (ab_at3 (i := 202) (rfl)) rfl⟩
theorem cl_42 {M : ab_M} (h : 4 + 1 ≤ M.2.2.2.2.1) : ab_two M ab_m42 := ⟨h, by decide, by decide, by decide, wd_707, ab_ina (ab_at3 (i := 205) (rfl)) rfl⟩
theorem cl_43 {M : ab_M} (h : 2 + 1 ≤ M.2.2.2.2.1) : ab_two M ab_m43 := ⟨h, by decide, by decide, by decide, wd_707, ab_ina (ab_at2 (i := 190) (rfl)) rfl⟩
theorem cl_44 {M : ab_M} (h : 3 + 1 ≤ M.2.2.2.2.1) : ab_two M ab_m44 := ⟨h, by decide, by decide, by decide, wd_707, ab_ina (ab_at2 (i := 186) (rfl)) rfl⟩
theorem cl_45 {M : ab_M} (h : 2 + 1 ≤ M.2.2.2.2.1) : ab_two M ab_m45 := ⟨h, by decide, by decide, by decide, wd_707, ab_ina (ab_at4 (i := 158) (rfl)) rfl⟩
theorem cl_46 {M : ab_M} (h : 2 + 1 ≤ M.2.2.2.2.1) : ab_two M ab_m46 := ⟨h, by decide, by decide, by decide, wd_707, ab_ina (ab_at3 (i := 66) (rfl)) rfl⟩
theorem cl_47 {M : ab_M} (h : 4 + 1 ≤ M.2.2.2.2.1) : ab_two M ab_m47 := ⟨h, by decide, by decide, by decide, wd_5, ab_ina (ab_at1 (i := 30) (rfl)) rfl⟩
theorem cl_48 {M : ab_M} (h : 6 + 1 ≤ M.2.2.2.2.1) : ab_two M ab_m48 := ⟨h, by decide, by decide, by decide, wd_5, ab_ina (ab_at3 (i := 125) (rfl)) rfl⟩
theorem cl_49 {M : ab_M} (h : 3 + 1 ≤ M.2.2.2.2.1) : ab_two M ab_m49 := ⟨h, by decide, by decide, by decide, wd_5, ab_ina (ab_at3 (i := 129) (rfl)) rfl⟩
theorem cl_50 {M : ab_M} (h : 4 + 1 ≤ M.2.2.2.2.1) : ab_two M ab_m50 := ⟨h, by decide, by decide, by decide, wd_5, ab_ina (ab_at3 (i := 134) (rfl)) rfl⟩
theorem cl_51 {M : ab_M} (h : 3 + 1 ≤ M.2.2.2.2.1) : ab_two M ab_m51 := ⟨h, by decide, by decide, by decide, wd_5, ab_ina (ab_at3 (i := 138) (rfl)) rfl⟩
theorem cl_52 {M : ab_M} (h : 5 + 1 ≤ M.2.2.2.2.1) : ab_two M ab_m52 := ⟨h, by decide, by decide, by decide, wd_5, ab_ina (ab_at3 (i := 142) (rfl)) rfl⟩
theorem cl_53 {M : ab_M} (h : 4 + 1 ≤ M.2.2.2.2.1) : ab_two M ab_m53 := ⟨h, by decide, by decide, by decide, wd_5, ab_ina (ab_at3 (i := 146) (rfl)) rfl⟩
theorem cl_54 {M : ab_M} (h : 2 + 1 ≤ M.2.2.2.2.1) : ab_two M ab_m54 := ⟨h, by decide, by decide, by decide, wd_5, ab_ina (ab_at2 (i := 159) (rfl)) rfl⟩
theorem cl_55 {M : ab_M} (h : 2 + 1 ≤ M.2.2.2.2.1) : ab_two M ab_m55 := ⟨h, by decide, by decide, by decide, wd_5, ab_ina (ab_at2 (i := 206) (rfl)) rfl⟩
theorem cl_56 {M : ab_M} (h : 3 + 1 ≤ M.2.2.2.2.1) : ab_two M ab_m56 := ⟨h, by decide, by decide, by decide, wd_5, ab_ina (ab_at3 (i := 29) (rfl)) rfl⟩
theorem cl_57 {M : ab_M} (h : 2 + 1 ≤ M.2.2.2.2.1) : ab_two M ab_m57 := ⟨h, by decide, by decide, by decide, wd_5, ab_ina (ab_at3 (i := 33) (rfl)) rfl⟩
theorem cl_58 {M : ab_M} (h : 3 + 1 ≤ M.2.2.2.2.1) : ab_two M ab_m58 := ⟨h, by decide, by decide, by decide, wd_5, ab_ina (ab_at3 (i := 37) (rfl)) rfl⟩
theorem cl_59 {M : ab_M} (h : 2 + 1 ≤ M.2.2.2.2.1) : ab_two M ab_m59 := ⟨h, by decide, by decide, by decide, wd_5, ab_ina (ab_at2 (i := 163) (rfl)) rfl⟩
theorem cl_60 {M : ab_M} (h : 2 + 1 ≤ M.2.2.2.2.1) : ab_two M ab_m60 := ⟨h, by decide, by decide, by decide, wd_5, ab_ina (ab_at2 (i := 167) (rfl)) rfl⟩
theorem cl_61 {M : ab_M} (h : 4 + 1 ≤ M.2.2.2.2.1) : ab_two M ab_m61 := ⟨h, by decide, by decide, by decide, wd_5, ab_ina (ab_at3 (i := 45) (rfl)) rfl⟩
theorem cl_62 {M : ab_M} (h : 3 + 1 ≤ M.2.2.2.2.1) : ab_two M ab_m62 := ⟨h, by decide, by decide, by decide, wd_5, ab_ina (ab_at2 (i := 202) (rfl)) rfl⟩
theorem cl_63 {M : ab_M} (h : 4 + 1 ≤ M.2.2.2.2.1) : ab_two M ab_m63 := ⟨h, by decide, by decide, by decide, wd_5, ab_ina (ab_at2 (i := 198) (rfl)) rfl⟩
theorem cl_64 {M : ab_M} (h : 3 + 1 ≤ M.2.2.2.2.1) : ab_two M ab_m64 := ⟨h, by decide, by decide, by decide, wd_5, ab_ina (ab_at4 (i := 138) (rfl)) rfl⟩
theorem cl_65 {M : ab_M} (h : 3 + 1 ≤ M.2.2.2.2.1) : ab_two M ab_m65 := ⟨h, by decide, by decide, by decide, wd_5, ab_ina (ab_at2 (i := 222) (rfl)) rfl⟩
theorem cl_66 {M : ab_M} (h : 4 + 1 ≤ M.2.2.2.2.1) : ab_two M ab_m66 := ⟨h, by decide, by decide, by decide, wd_5, ab_ina (ab_at3 (i := 61) (rfl)) rfl⟩
theorem cl_67 {M : ab_M} (h : 3 + 1 ≤ M.2.2.2.2.1) : ab_two M ab_m67 := ⟨h, by decide, by decide, by decide, wd_5, ab_ina (ab_at2 (i := 138) (rfl)) rfl⟩
theorem cl_68 {M : ab_M} (h : 3 + 1 ≤ M.2.2.2.2.1) : ab_two M ab_m68 := ⟨h, by decide, by decide, by decide, wd_5, ab_ina (ab_at2 (i := 146) (rfl)) rfl⟩
theorem cl_69 {M : ab_M} (h : 4 + 1 ≤ M.2.2.2.2.1) : ab_two M ab_m69 := ⟨h, by decide, by decide, by decide, wd_5, ab_ina (ab_at2 (i := 151) (rfl)) rfl⟩
theorem cl_70 {M : ab_M} (h : 3 + 1 ≤ M.2.2.2.2.1) : ab_two M ab_m70 := ⟨h, by decide, by decide, by decide, wd_5, ab_ina (ab_at2 (i := 155) (rfl)) rfl⟩
theorem cl_71 {M : ab_M} (h : 3 + 1 ≤ M.2.2.2.2.1) : ab_two M ab_m71 := ⟨h, by decide, by decide, by decide, wd_36, ab_ina (ab_at1 (i := 36) (rfl)) rfl⟩
theorem cl_72 {M : ab_M} (h : 2 + 1 ≤ M.2.2.2.2.1) : ab_two M ab_m72 := ⟨h, by decide, by decide, by decide, wd_36, ab_ina (ab_at3 (i := 121) (rfl)) rfl⟩
theorem cl_73 {M : ab_M} (h : 3 + 1 ≤ M.2.2.2.2.1) : ab_two M ab_m73 := ⟨h, by decide, by decide, by decide, wd_36, ab_ina (ab_at3 (i := 110) (rfl)) rfl⟩
theorem cl_74 {M : ab_M} (h : 2 + 1 ≤ M.2.2.2.2.1) : ab_two M ab_m74 := ⟨h, by decide, by decide, by decide, wd_305, ab_ina (ab_at1 (i := 42) (rfl)) rfl⟩
theorem cl_75 {M : ab_M} (h : 2 + 1 ≤ M.2.2.2.2.1) : ab_two M ab_m75 := ⟨h, by decide, by decide, by decide, wd_305, ab_ina (ab_at2 (i := 142) (rfl)) rfl⟩
theorem cl_76 {M : ab_M} (h : 2 + 1 ≤ M.2.2.2.2.1) : ab_two M ab_m76 := ⟨h, by decide, by decide, by decide, wd_305, ab_ina (ab_at2 (i := 26) (rfl)) rfl⟩
theorem cl_77 {M : ab_M} (h : 2 + 1 ≤ M.2.2.2.2.1) : ab_two M ab_m77 := ⟨h, by decide, by decide, by decide, wd_305, ab_ina (ab_at2 (i := 19) (rfl)) rfl⟩
theorem cl_78 {M : ab_M} (h : 2 + 1 ≤ M.2.2.2.2.1) : ab_two M ab_m78 := ⟨h, by decide, by decide, by decide, wd_305, ab_ina (ab_at3 (i := 151) (rfl)) rfl⟩
theorem cl_79 {M : ab_M} (h : 3 + 1 ≤ M.2.2.2.2.1) : ab_two M ab_m79 := ⟨h, by decide, by decide, by decide, wd_305, ab_ina (ab_at4 (i := 0) (rfl)) rfl⟩
theorem cl_80 {M : ab_M} (h : 2 + 1 ≤ M.2.2.2.2.1) : ab_two M ab_m80 := ⟨h, by decide, by decide, by decide, wd_305, ab_ina (ab_at3 (i := 114) (rfl)) rfl⟩
theorem cl_81 {M : ab_M} (h : 2 + 1 ≤ M.2.2.2.2.1) : ab_two M ab_m81 := ⟨h, by decide, by decide, by decide, wd_13, ab_ina (ab_at1 (i := 119) (rfl)) rfl⟩
theorem cl_82 {M : ab_M} (h : 2 + 1 ≤ M.2.2.2.2.1) : ab_two M ab_m82 := ⟨h, by decide, by decide, by decide, wd_13, ab_ina (ab_at4 (i := 54) (rfl)) rfl⟩
theorem cl_83 {M : ab_M} (h : 5 + 1 ≤ M.2.2.2.2.1) : ab_two M ab_m83 := ⟨h, by decide, by decide, by decide, wd_13, ab_ina (ab_at2 (i := 177) (rfl)) rfl⟩
theorem cl_84 {M : ab_M} (h : 4 + 1 ≤ M.2.2.2.2.1) : ab_two M ab_m84 := ⟨h, by decide, by decide, by decide, wd_13, ab_ina (ab_at2 (i := 181) (rfl)) rfl⟩
theorem cl_85 {M : ab_M} (h : 5 + 1 ≤ M.2.2.2.2.1) : ab_two M ab_m85 := ⟨h, by decide, by decide, by decide, wd_13, ab_ina (ab_at2 (i := 194) (rfl)) rfl⟩
theorem cl_86 {M : ab_M} (h : 3 + 1 ≤ M.2.2.2.2.1) : ab_two M ab_m86 := ⟨h, by decide, by decide, by decide, wd_13, ab_ina (ab_at2 (i := 230) (rfl)) rfl⟩
theorem cl_87 {M : ab_M} (h : 5 + 1 ≤ M.2.2.2.2.1) : ab_two M ab_m87 := ⟨h, by decide, by decide, by decide, wd_13, ab_ina (ab_at2 (i := 216) (rfl)) rfl⟩
theorem cl_88 {M : ab_M} (h : 6 + 1 ≤ M.2.2.2.2.1) : ab_two M ab_m88 := ⟨h, by decide, by decide, by decide, wd_13, ab_ina (ab_at2 (i := 212) (rfl)) rfl⟩
theorem cl_89 {M : ab_M} (h : 7 + 1 ≤ M.2.2.2.2.1) : ab_two M ab_m89 := ⟨h, by decide, by decide, by decide, wd_13, ab_ina (ab_at4 (i := 72) (rfl)) rfl⟩
theorem cl_90 {M : ab_M} (h : 6 + 1 ≤ M.2.2.2.2.1) : ab_two M ab_m90 := ⟨h, by decide, by decide, by decide, wd_13, ab_ina (ab_at4 (i := 76) (rfl)) rfl⟩
theorem cl_91 {M : ab_M} (h : 2 + 1 ≤ M.2.2.2.2.1) : ab_two M ab_m91 := ⟨h, by decide, by decide, by decide, wd_13, ab_ina (ab_at4 (i := 80) (rfl)) rfl⟩
theorem cl_92 {M : ab_M} (h : 5 + 1 ≤ M.2.2.2.2.1) : ab_two M ab_m92 := ⟨h, by decide, by decide, by decide, wd_13, ab_ina (ab_at4 (i := 84) (rfl)) rfl⟩
theorem cl_93 {M : ab_M} (h : 6 + 1 ≤ M.2.2.2.2.1) : ab_two M ab_m93 := ⟨h, by decide, by decide, by decide, wd_13, ab_ina (ab_at4 (i := 90) (rfl)) rfl⟩
theorem cl_94 {M : ab_M} (h : 4 + 1 ≤ M.2.2.2.2.1) : ab_two M ab_m94 := ⟨h, by decide, by decide, by decide, wd_19, ab_ina (ab_at1 (i := 164) (rfl)) rfl⟩
theorem cl_95 {M : ab_M} (h : 4 + 1 ≤ M.2.2.2.2.1) : ab_two M ab_m95 := ⟨h, by decide, by decide, by decide, wd_19, ab_ina (ab_at3 (i := 102) (rfl)) rfl⟩
theorem cl_96 {M : ab_M} (h : 2 + 1 ≤ M.2.2.2.2.1) : ab_two M ab_m96 := ⟨h, by decide, by decide, by decide, wd_19, ab_ina (ab_at3 (i := 106) (rfl)) rfl⟩
theorem cl_97 {M : ab_M} (h : 4 + 1 ≤ M.2.2.2.2.1) : ab_two M ab_m97 := ⟨h, by decide, by decide, by decide, wd_19, ab_ina (ab_at4 (i := 15) (rfl)) rfl⟩
theorem cl_98 {M : ab_M} (h : 3 + 1 ≤ M.2.2.2.2.1) : ab_two M ab_m98 := ⟨h, by decide, by decide, by decide, wd_29, ab_ina (ab_at1 (i := 182) (rfl)) rfl⟩
theorem cl_99 {M : ab_M} (h : 6 + 1 ≤ M.2.2.2.2.1) : ab_two M ab_m99 := ⟨h, by decide, by decide, by decide, wd_29, ab_ina (ab_at2 (i := 8) (rfl)) rfl⟩
theorem cl_100 {M : ab_M} (h : 4 + 1 ≤ M.2.2.2.2.1) : ab_two M ab_m100 := ⟨h, by decide, by decide, by decide, wd_29, ab_ina (ab_at2 (i := 12) (rfl)) rfl⟩
theorem cl_101 {M : ab_M} (h : 2 + 1 ≤ M.2.2.2.2.1) : ab_two M ab_m101 := ⟨h, by decide, by decide, by decide, wd_29, ab_ina (ab_at2 (i := 41) (rfl)) rfl⟩
theorem cl_102 {M : ab_M} (h : 5 + 1 ≤ M.2.2.2.2.1) : ab_two M ab_m102 := ⟨h, by decide, by decide, by decide, wd_29, ab_ina (ab_at2 (i := 30) (rfl)) rfl⟩
theorem cl_103 {M : ab_M} (h : 3 + 1 ≤ M.2.2.2.2.1) : ab_two M ab_m103 := ⟨h, by decide, by decide, by decide, wd_29, ab_ina (ab_at2 (i := 34) (rfl)) rfl⟩
theorem cl_104 {M : ab_M} (h : 2 + 1 ≤ M.2.2.2.2.1) : ab_two M ab_m104 := ⟨h, by decide, by decide, by decide, wd_29, ab_ina (ab_at2 (i := 47) (rfl)) rfl⟩
theorem cl_105 {M : ab_M} (h : 2 + 1 ≤ M.2.2.2.2.1) : ab_two M ab_m105 := ⟨h, by decide, by decide, by decide, wd_712, ab_ina (ab_at4 (i := 179) (rfl)) rfl⟩
theorem cl_106 {M : ab_M} (h : 2 + 1 ≤ M.2.2.2.2.1) : ab_two M ab_m106 := ⟨h, by decide, by decide, by decide, wd_712, ab_ina (ab_at5 (i := 17) (rfl)) rfl⟩
theorem cl_107 {M : ab_M} (h : 2 + 1 ≤ M.2.2.2.2.1) : ab_two M ab_m107 := ⟨h, by decide, by decide, by decide, wd_712, ab_ina (ab_at5 (i := 41) (rfl)) rfl⟩
theorem cl_108 {M : ab_M} (h : 2 + 1 ≤ M.2.2.2.2.1) : ab_two M ab_m108 := ⟨h, by decide, by decide, by decide, wd_712, ab_ina (ab_at5 (i := 33) (rfl)) rfl⟩
theorem cl_109 {M : ab_M} (h : 2 + 1 ≤ M.2.2.2.2.1) : ab_two M ab_m109 := ⟨h, by decide, by decide, by decide, wd_712, ab_ina (ab_at5 (i := 66) (rfl)) rfl⟩
theorem cl_110 {M : ab_M} (h : 2 + 1 ≤ M.2.2.2.2.1) : ab_two M ab_m110 := ⟨h, by decide, by decide, by decide, wd_712, ab_ina (ab_at5 (i := 104) (rfl)) rfl⟩
theorem cl_111 {M : ab_M} (h : 2 + 1 ≤ M.2.2.2.2.1) : ab_two M ab_m111 := ⟨h, by decide, by decide, by decide, wd_712, ab_ina (ab_at5 (i := 82) (rfl)) rfl⟩
theorem cl_112 {M : ab_M} (h : 3 + 1 ≤ M.2.2.2.2.1) : ab_two M ab_m112 := ⟨h, by decide, by decide, by decide, wd_712, ab_ina (ab_at5 (i := 54) (rfl)) rfl⟩
theorem cl_113 {M : ab_M} (h : 3 + 1 ≤ M.2.2.2.2.1) : ab_two M ab_m113 := ⟨h, by decide, by decide, by decide, wd_712, ab_ina (ab_at5 (i := 78) (rfl)) rfl⟩
theorem cl_114 {M : ab_M} (h : 4 + 1 ≤ M.2.2.2.2.1) : ab_two M ab_m114 := ⟨h, by decide, by decide, by decide, wd_712, ab_ina (ab_at5 (i := 74) (rfl)) rfl⟩
theorem cl_115 {M : ab_M} (h : 5 + 1 ≤ M.2.2.2.2.1) : ab_two M ab_m115 := ⟨h, by decide, by decide, by decide, wd_712, ab_ina (ab_at5 (i := 122) (rfl)) rfl⟩
theorem cl_116 {M : ab_M} (h : 2 + 1 ≤ M.2.2.2.2.1) : ab_two M ab_m116 := ⟨h, by decide, by decide, by decide, wd_712, ab_ina (ab_at5 (i := 29) (rfl)) rfl⟩
theorem cl_117 {M : ab_M} (h : 3 + 1 ≤ M.2.2.2.2.1) : ab_two M ab_m117 := ⟨h, by decide, by decide, by decide, wd_712, ab_ina (ab_at5 (i := 25) (rfl)) rfl⟩
theorem cl_118 {M : ab_M} (h : 3 + 1 ≤ M.2.2.2.2.1) : ab_two M ab_m118 := ⟨h, by decide, by decide, by decide, wd_712, ab_ina (ab_at5 (i := 216) (rfl)) rfl⟩
theorem cl_119 {M : ab_M} (h : 4 + 1 ≤ M.2.2.2.2.1) : ab_two M ab_m119 := ⟨h, by decide, by decide, by decide, wd_712, ab_ina (ab_at5 (i := 211) (rfl)) rfl⟩
theorem cl_120 {M : ab_M} (h : 5 + 1 ≤ M.2.2.2.2.1) : ab_two M ab_m120 := ⟨h, by decide, by decide, by decide, wd_712, ab_ina (ab_at5 (i := 207) (rfl)) rfl⟩
theorem cl_121 {M : ab_M} (h : 6 + 1 ≤ M.2.2.2.2.1) : ab_two M ab_m121 := ⟨h, by decide, by decide, by decide, wd_712, ab_ina (ab_at5 (i := 203) (rfl)) rfl⟩
theorem cl_122 {M : ab_M} (h : 7 + 1 ≤ M.2.2.2.2.1) : ab_two M ab_m122 := ⟨h, by decide, by decide, by decide, wd_712, ab_ina (ab_at5 (i := 199) (rfl)) rfl⟩
theorem cl_123 {M : ab_M} (h : 3 + 1 ≤ M.2.2.2.2.1) : ab_two M ab_m123 := ⟨h, by decide, by decide, by decide, wd_712, ab_ina (ab_at6 (i := 1) (rfl)) rfl⟩
theorem cl_124 {M : ab_M} (h : 3 + 1 ≤ M.2.2.2.2.1) : ab_two M ab_m124 := ⟨h, by decide, by decide, by decide, wd_712, ab_ina (ab_at6 (i := 17) (rfl)) rfl⟩
theorem cl_125 {M : ab_M} (h : 4 + 1 ≤ M.2.2.2.2.1) : ab_two M ab_m125 := ⟨h, by decide, by decide, by decide, wd_712, ab_ina (ab_at5 (i := 237) (rfl)) rfl⟩
theorem cl_126 {M : ab_M} (h : 5 + 1 ≤ M.2.2.2.2.1) : ab_two M ab_m126 := ⟨h, by decide, by decide, by decide, wd_712, ab_ina (ab_at5 (i := 70) (rfl)) rfl⟩
theorem cl_127 {M : ab_M} (h : 4 + 1 ≤ M.2.2.2.2.1) : ab_two M ab_m127 := ⟨h, by decide, by decide, by decide, wd_712, ab_ina (ab_at5 (i := 21) (rfl)) rfl⟩
theorem cl_128 {M : ab_M} (h : 3 + 1 ≤ M.2.2.2.2.1) : ab_two M ab_m128 := ⟨h, by decide, by decide, by decide, wd_712, ab_ina (ab_at5 (i := 46) (rfl)) rfl⟩
theorem cl_129 {M : ab_M} (h : 4 + 1 ≤ M.2.2.2.2.1) : ab_two M ab_m129 := ⟨h, by decide, by decide, by decide, wd_712, ab_ina (ab_at5 (i := 37) (rfl)) rfl⟩
theorem cl_130 {M : ab_M} (h : 3 + 1 ≤ M.2.2.2.2.1) : ab_two M ab_m130 := ⟨h, by decide, by decide, by decide, wd_712, ab_ina (ab_at5 (i := 58) (rfl)) rfl⟩
theorem cl_131 {M : ab_M} (h : 6 + 1 ≤ M.2.2.2.2.1) : ab_two M ab_m131 := ⟨h, by decide, by decide, by decide, wd_712, ab_ina (ab_at5 (i := 50) (rfl)) rfl⟩
theorem cl_132 {M : ab_M} (h : 6 + 1 ≤ M.2.2.2.2.1) : ab_two M ab_m132 := ⟨h, by decide, by decide, by decide, wd_712, ab_ina (ab_at5 (i := 86) (rfl)) rfl⟩
theorem cl_133 {M : ab_M} (h : 3 + 1 ≤ M.2.2.2.2.1) : ab_two M ab_m133 := ⟨h, by decide, by decide, by decide, wd_712, ab_ina (ab_at5 (i := 100) (rfl)) rfl⟩
theorem cl_134 {M : ab_M} (h : 4 + 1 ≤ M.2.2.2.2.1) : ab_two M ab_m134 := ⟨h, by decide, by decide, by decide, wd_712, ab_ina (ab_at5 (i := 108) (rfl)) rfl⟩
theorem cl_135 {M : ab_M} (h : 3 + 1 ≤ M.2.2.2.2.1) : ab_two M ab_m135 := ⟨h, by decide, by decide, by decide, wd_712, ab_ina (ab_at5 (i := 93) (rfl)) rfl⟩
theorem cl_136 {M : ab_M} (h : 5 + 1 ≤ M.2.2.2.2.1) : ab_two M ab_m136 := ⟨h, by decide, by decide, by decide, wd_712, ab_ina (ab_at5 (i := 90) (rfl)) rfl⟩
theorem cl_137 {M : ab_M} (h : 4 + 1 ≤ M.2.2.2.2.1) : ab_two M ab_m137 := ⟨h, by decide, by decide, by decide, wd_712, ab_ina (ab_at5 (i := 112) (rfl)) rfl⟩
theorem cl_138 {M : ab_M} (h : 6 + 1 ≤ M.2.2.2.2.1) : ab_two M ab_m138 := ⟨h, by decide, by decide, by decide, wd_712, ab_ina (ab_at5 (i := 116) (rfl)) rfl⟩
theorem cl_139 {M : ab_M} (h : 3 + 1 ≤ M.2.2.2.2.1) : ab_two M ab_m139 := ⟨h, by decide, by decide, by decide, wd_712, ab_ina (ab_at5 (i := 130) (rfl)) rfl⟩
theorem cl_140 {M : ab_M} (h : 4 + 1 ≤ M.2.2.2.2.1) : ab_two M ab_m140 := ⟨h, by decide, by decide, by decide, wd_712, ab_ina (ab_at5 (i := 126) (rfl)) rfl⟩
theorem cl_141 {M : ab_M} (h : 2 + 1 ≤ M.2.2.2.2.1) : ab_two M ab_m141 := ⟨h, by decide, by decide, by decide, wd_712, ab_ina (ab_at5 (i := 160) (rfl)) rfl⟩
theorem cl_142 {M : ab_M} (h : 2 + 1 ≤ M.2.2.2.2.1) : ab_two M ab_m142 := ⟨h, by decide, by decide, by decide, wd_712, ab_ina (ab_at5 (i := 150) (rfl)) rfl⟩
theorem cl_143 {M : ab_M} (h : 2 + 1 ≤ M.2.2.2.2.1) : ab_two M ab_m143 := ⟨h, by decide, by decide, by decide, wd_712, ab_ina (ab_at5 (i := 142) (rfl)) rfl⟩
theorem cl_144 {M : ab_M} (h : 3 + 1 ≤ M.2.2.2.2.1) : ab_two M ab_m144 := ⟨h, by decide, by decide, by decide, wd_712, ab_ina (ab_at5 (i := 154) (rfl)) rfl⟩
theorem cl_145 {M : ab_M} (h : 4 + 1 ≤ M.2.2.2.2.1) : ab_two M ab_m145 := ⟨h, by decide, by decide, by decide, wd_712, ab_ina (ab_at5 (i := 146) (rfl)) rfl⟩
theorem cl_146 {M : ab_M} (h : 5 + 1 ≤ M.2.2.2.2.1) : ab_two M ab_m146 := ⟨h, by decide, by decide, by decide, wd_712, ab_ina (ab_at5 (i := 138) (rfl)) rfl⟩
theorem cl_147 {M : ab_M} (h : 6 + 1 ≤ M.2.2.2.2.1) : ab_two M ab_m147 := ⟨h, by decide, by decide, by decide, wd_712, ab_ina (ab_at5 (i := 134) (rfl)) rfl⟩
theorem cl_148 {M : ab_M} (h : 3 + 1 ≤ M.2.2.2.2.1) : ab_two M ab_m148 := ⟨h, by decide, by decide, by decide, wd_712, ab_ina (ab_at5 (i := 165) (rfl)) rfl⟩
theorem cl_149 {M : ab_M} (h : 2 + 1 ≤ M.2.2.2.2.1) : ab_two M ab_m149 := ⟨h, by decide, by decide, by decide, wd_712, ab_ina (ab_at5 (i := 171) (rfl)) rfl⟩
theorem cl_150 {M : ab_M} (h : 6 + 1 ≤ M.2.2.2.2.1) : ab_two M ab_m150 := ⟨h, by decide, by decide, by decide, wd_712, ab_ina (ab_at5 (i := 175) (rfl)) rfl⟩
theorem cl_151 {M : ab_M} (h : 3 + 1 ≤ M.2.2.2.2.1) : ab_two M ab_m151 := ⟨h, by decide, by decide, by decide, wd_712, ab_ina (ab_at5 (i := 179) (rfl)) rfl⟩
theorem cl_152 {M : ab_M} (h : 3 + 1 ≤ M.2.2.2.2.1) : ab_two M ab_m152 := ⟨h, by decide, by decide, by decide, wd_712, ab_ina (ab_at5 (i := 186) (rfl)) rfl⟩
theorem cl_153 {M : ab_M} (h : 4 + 1 ≤ M.2.2.2.2.1) : ab_two M ab_m153 := ⟨h, by decide, by decide, by decide, wd_712, ab_ina (ab_at5 (i := 183) (rfl)) rfl⟩
theorem cl_154 {M : ab_M} (h : 4 + 1 ≤ M.2.2.2.2.1) : ab_two M ab_m154 := ⟨h, by decide, by decide, by decide, wd_712, ab_ina (ab_at5 (i := 190) (rfl)) rfl⟩
theorem cl_155 {M : ab_M} (h : 4 + 1 ≤ M.2.2.2.2.1) : ab_two M ab_m155 := ⟨h, by decide, by decide, by decide, wd_712, ab_ina (ab_at5 (i := 221) (rfl)) rfl⟩
theorem cl_156 {M : ab_M} (h : 4 + 1 ≤ M.2.2.2.2.1) : ab_two M ab_m156 := ⟨h, by decide, by decide, by decide, wd_712, ab_ina (ab_at5 (i := 233) (rfl)) rfl⟩
theorem cl_157 {M : ab_M} (h : 5 + 1 ≤ M.2.2.2.2.1) : ab_two M ab_m157 := ⟨h, by decide, by decide, by decide, wd_712, ab_ina (ab_at6 (i := 13) (rfl)) rfl⟩
theorem cl_158 {M : ab_M} (h : 4 + 1 ≤ M.2.2.2.2.1) : ab_two M ab_m158 := ⟨h, by decide, by decide, by decide, wd_712, ab_ina (ab_at6 (i := 9) (rfl)) rfl⟩
theorem cl_159 {M : ab_M} (h : 8 + 1 ≤ M.2.2.2.2.1) : ab_two M ab_m159 := ⟨h, by decide, by decide, by decide, wd_712, ab_ina (ab_at5 (i := 194) (rfl)) rfl⟩
theorem cl_160 {M : ab_M} (h : 5 + 1 ≤ M.2.2.2.2.1) : ab_two M ab_m160 := ⟨h, by decide, by decide, by decide, wd_712, ab_ina (ab_at5 (i := 229) (rfl)) rfl⟩
theorem cl_161 {M : ab_M} (h : 6 + 1 ≤ M.2.2.2.2.1) : ab_two M ab_m161 := ⟨h, by decide, by decide, by decide, wd_712, ab_ina (ab_at6 (i := 5) (rfl)) rfl⟩
theorem cl_162 {M : ab_M} (h : 8 + 1 ≤ M.2.2.2.2.1) : ab_two M ab_m162 := ⟨h, by decide, by decide, by decide, wd_712, ab_ina (ab_at5 (i := 225) (rfl)) rfl⟩
theorem cl_163 {M : ab_M} (h : 2 + 1 ≤ M.2.2.2.2.1) : ab_two M ab_m163 := ⟨h, by decide, by decide, by decide, wd_712, ab_ina (ab_at6 (i := 22) (rfl)) rfl⟩
theorem cl_164 {M : ab_M} (h : 2 + 1 ≤ M.2.2.2.2.1) : ab_two M ab_m164 := ⟨h, by decide, by decide, by decide, wd_712, ab_ina (ab_at6 (i := 40) (rfl)) rfl⟩
theorem cl_165 {M : ab_M} (h : 5 + 1 ≤ M.2.2.2.2.1) : ab_two M ab_m165 := ⟨h, by decide, by decide, by decide, wd_712, ab_ina (ab_at6 (i := 36) (rfl)) rfl⟩
theorem cl_166 {M : ab_M} (h : 6 + 1 ≤ M.2.2.2.2.1) : ab_two M ab_m166 := ⟨h, by decide, by decide, by decide, wd_712, ab_ina (ab_at6 (i := 44) (rfl)) rfl⟩
theorem cl_167 {M : ab_M} (h : 7 + 1 ≤ M.2.2.2.2.1) : ab_two M ab_m167 := ⟨h, by decide, by decide, by decide, wd_712, ab_ina (ab_at6 (i := 31) (rfl)) rfl⟩
theorem cl_168 {M : ab_M} (h : 8 + 1 ≤ M.2.2.2.2.1) : ab_two M ab_m168 := ⟨h, by decide, by decide, by decide, wd_712, ab_ina (ab_at6 (i := 26) (rfl)) rfl⟩
theorem cl_169 {M : ab_M} (h : 4 + 1 ≤ M.2.2.2.2.1) : ab_two M ab_m169 := ⟨h, by decide, by decide, by decide, wd_712, ab_ina (ab_at6 (i := 48) (rfl)) rfl⟩
theorem cl_170 {M : ab_M} (h : 5 + 1 ≤ M.2.2.2.2.1) : ab_two M ab_m170 := ⟨h, by decide, by decide, by decide, wd_712, ab_ina (ab_at6 (i := 57) (rfl)) rfl⟩
theorem cl_171 {M : ab_M} (h : 8 + 1 ≤ M.2.2.2.2.1) : ab_two M ab_m171 := ⟨h, by decide, by decide, by decide, wd_712, ab_ina (ab_at6 (i := 53) (rfl)) rfl⟩
theorem cl_172 {M : ab_M} (h : 8 + 1 ≤ M.2.2.2.2.1) : ab_two M ab_m172 := ⟨h, by decide, by decide, by decide, wd_712, ab_ina (ab_at6 (i := 61) (rfl)) rfl⟩
theorem cl_173 {M : ab_M} (h : 3 + 1 ≤ M.2.2.2.2.1) : ab_two M ab_m173 := ⟨h, by decide, by decide, by decide, wd_712, ab_ina (ab_at6 (i := 65) (rfl)) rfl⟩
theorem cl_174 {M : ab_M} (h : 4 + 1 ≤ M.2.2.2.2.1) : ab_two M ab_m174 := ⟨h, by decide, by decide, by decide, wd_712, ab_ina (ab_at6 (i := 78) (rfl)) rfl⟩
theorem cl_175 {M : ab_M} (h : 5 + 1 ≤ M.2.2.2.2.1) : ab_two M ab_m175 := ⟨h, by decide, by decide, by decide, wd_712, ab_ina (ab_at6 (i := 74) (rfl)) rfl⟩
theorem cl_176 {M : ab_M} (h : 8 + 1 ≤ M.2.2.2.2.1) : ab_two M ab_m176 := ⟨h, by decide, by decide, by decide, wd_712, ab_ina (ab_at6 (i := 70) (rfl)) rfl⟩
theorem cl_177 {M : ab_M} (h : 5 + 1 ≤ M.2.2.2.2.1) : ab_two M ab_m177 := ⟨h, by decide, by decide, by decide, wd_712, ab_ina (ab_at6 (i := 86) (rfl)) rfl⟩
theorem cl_178 {M : ab_M} (h : 8 + 1 ≤ M.2.2.2.2.1) : ab_two M ab_m178 := ⟨h, by decide, by decide, by decide, wd_712, ab_ina (ab_at6 (i := 82) (rfl)) rfl⟩
theorem cl_179 {M : ab_M} (h : 3 + 1 ≤ M.2.2.2.2.1) : ab_two M ab_m179 := ⟨h, by decide, by decide, by decide, wd_712, ab_ina (ab_at6 (i := 99) (rfl)) rfl⟩
theorem cl_180 {M : ab_M} (h : 3 + 1 ≤ M.2.2.2.2.1) : ab_two M ab_m180 := ⟨h, by decide, by decide, by decide, wd_712, ab_ina (ab_at6 (i := 103) (rfl)) rfl⟩
theorem cl_181 {M : ab_M} (h : 5 + 1 ≤ M.2.2.2.2.1) : ab_two M ab_m181 := ⟨h, by decide, by decide, by decide, wd_712, ab_ina (ab_at6 (i := 107) (rfl)) rfl⟩
theorem cl_182 {M : ab_M} (h : 6 + 1 ≤ M.2.2.2.2.1) : ab_two M ab_m182 := ⟨h, by decide, by decide, by decide, wd_712, ab_ina (ab_at6 (i := 95) (rfl)) rfl⟩
theorem cl_183 {M : ab_M} (h : 8 + 1 ≤ M.2.2.2.2.1) : ab_two M ab_m183 := ⟨h, by decide, by decide, by decide, wd_712, ab_ina (ab_at6 (i := 90) (rfl)) rfl⟩
theorem cl_184 {M : ab_M} (h : 3 + 1 ≤ M.2.2.2.2.1) : ab_two M ab_m184 := ⟨h, by decide, by decide, by decide, wd_712, ab_ina (ab_at6 (i := 114) (rfl)) rfl⟩
theorem cl_185 {M : ab_M} (h : 8 + 1 ≤ M.2.2.2.2.1) : ab_two M ab_m185 := ⟨h, by decide, by decide, by decide, wd_712, ab_ina (ab_at6 (i := 111) (rfl)) rfl⟩
theorem cl_186 {M : ab_M} (h : 8 + 1 ≤ M.2.2.2.2.1) : ab_two M ab_m186 := ⟨h, by decide, by decide, by decide, wd_712, ab_ina (ab_at6 (i := 119) (rfl)) rfl⟩
theorem cl_187 {M : ab_M} (h : 8 + 1 ≤ M.2.2.2.2.1) : ab_two M ab_m187 := ⟨h, by decide, by decide, by decide, wd_712, ab_ina (ab_at6 (i := 123) (rfl)) rfl⟩
theorem cl_188 {M : ab_M} (h : 5 + 1 ≤ M.2.2.2.2.1) : ab_two M ab_m188 := ⟨h, by decide, by decide, by decide, wd_712, ab_ina (ab_at6 (i := 131) (rfl)) rfl⟩
theorem cl_189 {M : ab_M} (h : 8 + 1 ≤ M.2.2.2.2.1) : ab_two M ab_m189 := ⟨h, by decide, by decide, by decide, wd_712, ab_ina (ab_at6 (i := 127) (rfl)) rfl⟩
theorem cl_190 {M : ab_M} (h : 2 + 1 ≤ M.2.2.2.2.1) : ab_two M ab_m190 := ⟨h, by decide, by decide, by decide, wd_712, ab_ina (ab_at6 (i := 141) (rfl)) rfl⟩
theorem cl_191 {M : ab_M} (h : 6 + 1 ≤ M.2.2.2.2.1) : ab_two M ab_m191 := ⟨h, by decide, by decide, by decide, wd_712, ab_ina (ab_at6 (i := 146) (rfl)) rfl⟩
theorem cl_192 {M : ab_M} (h : 8 + 1 ≤ M.2.2.2.2.1) : ab_two M ab_m192 := ⟨h, by decide, by decide, by decide, wd_712, ab_ina (ab_at6 (i := 136) (rfl)) rfl⟩
theorem cl_193 {M : ab_M} (h : 8 + 1 ≤ M.2.2.2.2.1) : ab_two M ab_m193 := ⟨h, by decide, by decide, by decide, wd_891, ab_ina (ab_at3 (i := 73) (rfl)) rfl⟩
theorem cl_194 {M : ab_M} (h : 8 + 1 ≤ M.2.2.2.2.1) : ab_two M ab_m194 := ⟨h, by decide, by decide, by decide, wd_891, ab_ina (ab_at3 (i := 154) (rfl)) rfl⟩
theorem cl_195 {M : ab_M} (h : 8 + 1 ≤ M.2.2.2.2.1) : ab_two M ab_m195 := ⟨h, by decide, by decide, by decide, wd_891, ab_ina (ab_at3 (i := 169) (rfl)) rfl⟩
theorem cl_196 {M : ab_M} (h : 8 + 1 ≤ M.2.2.2.2.1) : ab_two M ab_m196 := ⟨h, by decide, by decide, by decide, wd_891, ab_ina (ab_at3 (i := 181) (rfl)) rfl⟩
theorem cl_197 {M : ab_M} (h : 8 + 1 ≤ M.2.2.2.2.1) : ab_two M ab_m197 := ⟨h, by decide, by decide, by decide, wd_891, ab_ina (ab_at3 (i := 189) (rfl)) rfl⟩
theorem cl_198 {M : ab_M} (h : 8 + 1 ≤ M.2.2.2.2.1) : ab_two M ab_m198 := ⟨h, by decide, by decide, by decide, wd_891, ab_ina (ab_at3 (i := 208) (rfl)) rfl⟩
theorem cl_199 {M : ab_M} (h : 8 + 1 ≤ M.2.2.2.2.1) : ab_two M ab_m199 := ⟨h, by decide, by decide, by decide, wd_891, ab_ina (ab_at3 (i := 215) (rfl)) rfl⟩
theorem cl_200 {M : ab_M} (h : 8 + 1 ≤ M.2.2.2.2.1) : ab_two M ab_m200 := ⟨h, by decide, by decide, by decide, wd_891, ab_ina (ab_at3 (i := 224) (rfl)) rfl⟩
theorem cl_201 {M : ab_M} (h : 8 + 1 ≤ M.2.2.2.2.1) : ab_two M ab_m201 := ⟨h, by decide, by decide, by decide, wd_891, ab_ina (ab_at3 (i := 231) (rfl)) rfl⟩
theorem cl_202 {M : ab_M} (h : 8 + 1 ≤ M.2.2.2.2.1) : ab_two M ab_m202 := ⟨h, by decide, by decide, by decide, wd_891, ab_ina (ab_at4 (i := 6) (rfl)) rfl⟩
theorem cl_203 {M : ab_M} (h : 8 + 1 ≤ M.2.2.2.2.1) : ab_two M ab_m203 := ⟨h, by decide, by decide, by decide, wd_891, ab_ina (ab_at4 (i := 18) (rfl)) rfl⟩
theorem cl_204 {M : ab_M} (h : 8 + 1 ≤ M.2.2.2.2.1) : ab_two M ab_m204 := ⟨h, by decide, by decide, by decide, wd_891, ab_ina (ab_at4 (i := 26) (rfl)) rfl⟩
theorem cl_205 {M : ab_M} (h : 8 + 1 ≤ M.2.2.2.2.1) : ab_two M ab_m205 := ⟨h, by decide, by decide, by decide, wd_891, ab_ina (ab_at4 (i := 34) (rfl)) rfl⟩
theorem cl_206 {M : ab_M} (h : 8 + 1 ≤ M.2.2.2.2.1) : ab_two M ab_m206 := ⟨h, by decide, by decide, by decide, wd_891, ab_ina (ab_at4 (i := 44) (rfl)) rfl⟩
theorem cl_207 {M : ab_M} (h : 9 + 1 ≤ M.2.2.2.2.1) : ab_two M ab_m207 := ⟨h, by decide, by decide, by decide, wd_891, ab_ina (ab_at4 (i := 57) (rfl)) rfl⟩
theorem cl_208 {M : ab_M} (h : 8 + 1 ≤ M.2.2.2.2.1) : ab_two M ab_m208 := ⟨h, by decide, by decide, by decide, wd_891, ab_ina (ab_at4 (i := 94) (rfl)) rfl⟩
theorem cl_209 {M : ab_M} (h : 8 + 1 ≤ M.2.2.2.2.1) : ab_two M ab_m209 := ⟨h, by decide, by decide, by decide, wd_891, ab_ina (ab_at4 (i := 101) (rfl)) rfl⟩
theorem cl_210 {M : ab_M} (h : 8 + 1 ≤ M.2.2.2.2.1) : ab_two M ab_m210 := ⟨h, by decide, by decide, by decide, wd_891, ab_ina (ab_at4 (i := 105) (rfl)) rfl⟩
theorem cl_211 {M : ab_M} (h : 8 + 1 ≤ M.2.2.2.2.1) : ab_two M ab_m211 := ⟨h, by decide, by decide, by decide, wd_891, ab_ina (ab_at4 (i := 109) (rfl)) rfl⟩
theorem cl_212 {M : ab_M} (h : 8 + 1 ≤ M.2.2.2.2.1) : ab_two M ab_m212 := ⟨h, by decide, by decide, by decide, wd_891, ab_ina (ab_at4 (i := 113) (rfl)) rfl⟩
theorem cl_213 {M : ab_M} (h : 8 + 1 ≤ M.2.2.2.2.1) : ab_two M ab_m213 := ⟨h, by decide, by decide, by decide, wd_891, ab_ina (ab_at4 (i := 122) (rfl)) rfl⟩
theorem cl_214 {M : ab_M} (h : 8 + 1 ≤ M.2.2.2.2.1) : ab_two M ab_m214 := ⟨h, by decide, by decide, by decide, wd_891, ab_ina (ab_at4 (i := 126) (rfl)) rfl⟩
theorem cl_215 {M : ab_M} (h : 8 + 1 ≤ M.2.2.2.2.1) : ab_two M ab_m215 := ⟨h, by decide, by decide, by decide, wd_891, ab_ina (ab_at4 (i := 130) (rfl)) rfl⟩
theorem cl_216 {M : ab_M} (h : 8 + 1 ≤ M.2.2.2.2.1) : ab_two M ab_m216 := ⟨h, by decide, by decide, by decide, wd_891, ab_ina (ab_at4 (i := 145) (rfl)) rfl⟩
theorem cl_217 {M : ab_M} (h : 8 + 1 ≤ M.2.2.2.2.1) : ab_two M ab_m217 := ⟨h, by decide, by decide, by decide, wd_891, ab_ina (ab_at4 (i := 149) (rfl)) rfl⟩
theorem cl_218 {M : ab_M} (h : 8 + 1 ≤ M.2.2.2.2.1) : ab_two M ab_m218 := ⟨h, by decide, by decide, by decide, wd_891, ab_ina (ab_at4 (i := 161) (rfl)) rfl⟩
theorem cl_219 {M : ab_M} (h : 8 + 1 ≤ M.2.2.2.2.1) : ab_two M ab_m219 := ⟨h, by decide, by decide, by decide, wd_891, ab_ina (ab_at4 (i := 170) (rfl)) rfl⟩
theorem cl_221 {M : ab_M} (h : 3 + 1 ≤ M.2.2.2.2.1) : ab_two M ab_m221 := ⟨h, by decide, by decide, by decide, wd_881, ab_ina (ab_at6 (i := 149) (rfl)) rfl⟩
theorem cl_222 {M : ab_M} (h : 2 + 1 ≤ M.2.2.2.2.1) : ab_two M ab_m222 := ⟨h, by decide, by decide, by decide, wd_881, ab_ina (ab_at6 (i := 152) (rfl)) rfl⟩
theorem hd_193 : ∀ x ∈ ab_m193.2.2.2.2.2.2.2.1, ab_OkH ab_m193 x.1 x.2.1 x.2.2 := List.forall_mem_cons.mpr ⟨sn_catch (M := ab_m193) (pc := 3) (E := 0) (h := 12) [] [] (0, 8, 11, 13) rfl (fun _ h => absurd h List.not_mem_nil) (by decide) (by decide) wd_883 wd_884 (i := 2) (by decide) (Or.inl ⟨2, rfl, by decide +kernel, rfl⟩), fun _ h => absurd h List.not_mem_nil⟩
theorem hd_194 : ∀ x ∈ ab_m194.2.2.2.2.2.2.2.1, ab_OkH ab_m194 x.1 x.2.1 x.2.2 := List.forall_mem_cons.mpr ⟨sn_catch (M := ab_m194) (pc := 5) (E := 1) (h := 15) [] [(0, 10, 17, 13)] (0, 10, 13, 19) rfl (fun _ h => absurd h List.not_mem_nil) (by decide) (by decide) wd_885 wd_886 (i := 4) (by decide) (Or.inr ⟨by decide +kernel, rfl⟩), List.forall_mem_cons.mpr ⟨sn_catch (M := ab_m194) (pc := 5) (E := 0) (h := 19) [(0, 10, 13, 19)] [] (0, 10, 17, 13) rfl (List.forall_mem_cons.mpr ⟨⟨by decide, "java/lang/IllegalArgumentException", wd_887, by decide⟩, fun _ h => absurd h List.not_mem_nil⟩) (by decide) (by decide) wd_883 wd_884 (i := 4) (by decide) (Or.inr ⟨by decide +kernel, rfl⟩), fun _ h => absurd h List.not_mem_nil⟩⟩
theorem hd_195 : ∀ x ∈ ab_m195.2.2.2.2.2.2.2.1, ab_OkH ab_m195 x.1 x.2.1 x.2.2 := List.forall_mem_cons.mpr ⟨sn_catch (M := ab_m195) (pc := 7) (E := 2) (h := 17) [] [(0, 12, 19, 19), (0, 12, 23, 13)] (0, 12, 15, 25) rfl (fun _ h => absurd h List.not_mem_nil) (by decide) (by decide) wd_888 wd_889 (i := 5) (by decide) (Or.inr ⟨by decide +kernel, rfl⟩), List.forall_mem_cons.mpr ⟨sn_catch (M := ab_m195) (pc := 7) (E := 1) (h := 21) [(0, 12, 15, 25)] [(0, 12, 23, 13)] (0, 12, 19, 19) rfl (List.forall_mem_cons.mpr ⟨⟨by decide, "java/lang/IndexOutOfBoundsException", wd_890, by decide⟩, fun _ h => absurd h List.not_mem_nil⟩) (by decide) (by decide) wd_885 wd_886 (i := 5) (by decide) (Or.inr ⟨by decide +kernel, rfl⟩), List.forall_mem_cons.mpr ⟨sn_catch (M := ab_m195) (pc := 7) (E := 0) (h := 25) [(0, 12, 15, 25), (0, 12, 19, 19)] [] (0, 12, 23, 13) rfl (List.forall_mem_cons.mpr ⟨⟨by decide, "java/lang/IndexOutOfBoundsException", wd_890, by decide⟩, List.forall_mem_cons.mpr ⟨⟨by decide, "java/lang/IllegalArgumentException", wd_887, by decide⟩, fun _ h => absurd h List.not_mem_nil⟩⟩) (by decide) (by decide) wd_883 wd_884 (i := 5) (by decide) (Or.inr ⟨by decide +kernel, rfl⟩), fun _ h => absurd h List.not_mem_nil⟩⟩⟩
theorem hd_196 : ∀ x ∈ ab_m196.2.2.2.2.2.2.2.1, ab_OkH ab_m196 x.1 x.2.1 x.2.2 := List.forall_mem_cons.mpr ⟨sn_catch (M := ab_m196) (pc := 4) (E := 2) (h := 13) [] [(0, 9, 15, 13)] (0, 9, 12, 25) rfl (fun _ h => absurd h List.not_mem_nil) (by decide) (by decide) wd_888 wd_889 (i := 3) (by decide) (Or.inl ⟨3, rfl, by decide +kernel, rfl⟩), List.forall_mem_cons.mpr ⟨sn_catch (M := ab_m196) (pc := 4) (E := 0) (h := 16) [(0, 9, 12, 25)] [] (0, 9, 15, 13) rfl (List.forall_mem_cons.mpr ⟨⟨by decide, "java/lang/IndexOutOfBoundsException", wd_890, by decide⟩, fun _ h => absurd h List.not_mem_nil⟩) (by decide) (by decide) wd_883 wd_884 (i := 3) (by decide) (Or.inl ⟨3, rfl, by decide +kernel, rfl⟩), fun _ h => absurd h List.not_mem_nil⟩⟩
theorem hd_197 : ∀ x ∈ ab_m197.2.2.2.2.2.2.2.1, ab_OkH ab_m197 x.1 x.2.1 x.2.2 := List.forall_mem_cons.mpr ⟨sn_catch (M := ab_m197) (pc := 7) (E := 1) (h := 17) [] [(0, 12, 19, 13)] (0, 12, 15, 19) rfl (fun _ h => absurd h List.not_mem_nil) (by decide) (by decide) wd_885 wd_886 (i := 5) (by decide) (Or.inr ⟨by decide +kernel, rfl⟩), List.forall_mem_cons.mpr ⟨sn_catch (M := ab_m197) (pc := 7) (E := 0) (h := 21) [(0, 12, 15, 19)] [] (0, 12, 19, 13) rfl (List.forall_mem_cons.mpr ⟨⟨by decide, "java/lang/IllegalArgumentException", wd_887, by decide⟩, fun _ h => absurd h List.not_mem_nil⟩) (by decide) (by decide) wd_883 wd_884 (i := 5) (by decide) (Or.inr ⟨by decide +kernel, rfl⟩), fun _ h => absurd h List.not_mem_nil⟩⟩
theorem hd_198 : ∀ x ∈ ab_m198.2.2.2.2.2.2.2.1, ab_OkH ab_m198 x.1 x.2.1 x.2.2 := List.forall_mem_cons.mpr ⟨sn_catch (M := ab_m198) (pc := 4) (E := 2) (h := 13) [] [(0, 9, 15, 13)] (0, 9, 12, 25) rfl (fun _ h => absurd h List.not_mem_nil) (by decide) (by decide) wd_888 wd_889 (i := 3) (by decide) (Or.inl ⟨3, rfl, by decide +kernel, rfl⟩), List.forall_mem_cons.mpr ⟨sn_catch (M := ab_m198) (pc := 4) (E := 0) (h := 16) [(0, 9, 12, 25)] [] (0, 9, 15, 13) rfl (List.forall_mem_cons.mpr ⟨⟨by decide, "java/lang/IndexOutOfBoundsException", wd_890, by decide⟩, fun _ h => absurd h List.not_mem_nil⟩) (by decide) (by decide) wd_883 wd_884 (i := 3) (by decide) (Or.inl ⟨3, rfl, by decide +kernel, rfl⟩), fun _ h => absurd h List.not_mem_nil⟩⟩
theorem hd_199 : ∀ x ∈ ab_m199.2.2.2.2.2.2.2.1, ab_OkH ab_m199 x.1 x.2.1 x.2.2 := List.forall_mem_cons.mpr ⟨sn_catch (M := ab_m199) (pc := 7) (E := 2) (h := 17) [] [(0, 12, 19, 19), (0, 12, 23, 13)] (0, 12, 15, 25) rfl (fun _ h => absurd h List.not_mem_nil) (by decide) (by decide) wd_888 wd_889 (i := 5) (by decide) (Or.inr ⟨by decide +kernel, rfl⟩), List.forall_mem_cons.mpr ⟨sn_catch (M := ab_m199) (pc := 7) (E := 1) (h := 21) [(0, 12, 15, 25)] [(0, 12, 23, 13)] (0, 12, 19, 19) rfl (List.forall_mem_cons.mpr ⟨⟨by decide, "java/lang/IndexOutOfBoundsException", wd_890, by decide⟩, fun _ h => absurd h List.not_mem_nil⟩) (by decide) (by decide) wd_885 wd_886 (i := 5) (by decide) (Or.inr ⟨by decide +kernel, rfl⟩), List.forall_mem_cons.mpr ⟨sn_catch (M := ab_m199) (pc := 7) (E := 0) (h := 25) [(0, 12, 15, 25), (0, 12, 19, 19)] [] (0, 12, 23, 13) rfl (List.forall_mem_cons.mpr ⟨⟨by decide, "java/lang/IndexOutOfBoundsException", wd_890, by decide⟩, List.forall_mem_cons.mpr ⟨⟨by decide, "java/lang/IllegalArgumentException", wd_887, by decide⟩, fun _ h => absurd h List.not_mem_nil⟩⟩) (by decide) (by decide) wd_883 wd_884 (i := 5) (by decide) (Or.inr ⟨by decide +kernel, rfl⟩), fun _ h => absurd h List.not_mem_nil⟩⟩⟩
theorem hd_200 : ∀ x ∈ ab_m200.2.2.2.2.2.2.2.1, ab_OkH ab_m200 x.1 x.2.1 x.2.2 := List.forall_mem_cons.mpr ⟨sn_catch (M := ab_m200) (pc := 4) (E := 2) (h := 13) [] [(0, 9, 15, 13)] (0, 9, 12, 25) rfl (fun _ h => absurd h List.not_mem_nil) (by decide) (by decide) wd_888 wd_889 (i := 3) (by decide) (Or.inl ⟨3, rfl, by decide +kernel, rfl⟩), List.forall_mem_cons.mpr ⟨sn_catch (M := ab_m200) (pc := 4) (E := 0) (h := 16) [(0, 9, 12, 25)] [] (0, 9, 15, 13) rfl (List.forall_mem_cons.mpr ⟨⟨by decide, "java/lang/IndexOutOfBoundsException", wd_890, by decide⟩, fun _ h => absurd h List.not_mem_nil⟩) (by decide) (by decide) wd_883 wd_884 (i := 3) (by decide) (Or.inl ⟨3, rfl, by decide +kernel, rfl⟩), fun _ h => absurd h List.not_mem_nil⟩⟩
theorem hd_201 : ∀ x ∈ ab_m201.2.2.2.2.2.2.2.1, ab_OkH ab_m201 x.1 x.2.1 x.2.2 := List.forall_mem_cons.mpr ⟨sn_catch (M := ab_m201) (pc := 3) (E := 1) (h := 12) [] [(0, 8, 14, 13)] (0, 8, 11, 19) rfl (fun _ h => absurd h List.not_mem_nil) (by decide) (by decide) wd_885 wd_886 (i := 2) (by decide) (Or.inl ⟨2, rfl, by decide +kernel, rfl⟩), List.forall_mem_cons.mpr ⟨sn_catch (M := ab_m201) (pc := 3) (E := 0) (h := 15) [(0, 8, 11, 19)] [] (0, 8, 14, 13) rfl (List.forall_mem_cons.mpr ⟨⟨by decide, "java/lang/IllegalArgumentException", wd_887, by decide⟩, fun _ h => absurd h List.not_mem_nil⟩) (by decide) (by decide) wd_883 wd_884 (i := 2) (by decide) (Or.inl ⟨2, rfl, by decide +kernel, rfl⟩), fun _ h => absurd h List.not_mem_nil⟩⟩
theorem hd_202 : ∀ x ∈ ab_m202.2.2.2.2.2.2.2.1, ab_OkH ab_m202 x.1 x.2.1 x.2.2 := List.forall_mem_cons.mpr ⟨sn_catch (M := ab_m202) (pc := 3) (E := 0) (h := 12) [] [] (0, 8, 11, 13) rfl (fun _ h => absurd h List.not_mem_nil) (by decide) (by decide) wd_883 wd_884 (i := 2) (by decide) (Or.inl ⟨2, rfl, by decide +kernel, rfl⟩), fun _ h => absurd h List.not_mem_nil⟩
theorem hd_203 : ∀ x ∈ ab_m203.2.2.2.2.2.2.2.1, ab_OkH ab_m203 x.1 x.2.1 x.2.2 := List.forall_mem_cons.mpr ⟨sn_catch (M := ab_m203) (pc := 4) (E := 2) (h := 13) [] [] (0, 9, 12, 25) rfl (fun _ h => absurd h List.not_mem_nil) (by decide) (by decide) wd_888 wd_889 (i := 3) (by decide) (Or.inl ⟨3, rfl, by decide +kernel, rfl⟩), fun _ h => absurd h List.not_mem_nil⟩
theorem hd_204 : ∀ x ∈ ab_m204.2.2.2.2.2.2.2.1, ab_OkH ab_m204 x.1 x.2.1 x.2.2 := List.forall_mem_cons.mpr ⟨sn_catch (M := ab_m204) (pc := 4) (E := 2) (h := 13) [] [(0, 9, 15, 13)] (0, 9, 12, 25) rfl (fun _ h => absurd h List.not_mem_nil) (by decide) (by decide) wd_888 wd_889 (i := 3) (by decide) (Or.inl ⟨3, rfl, by decide +kernel, rfl⟩), List.forall_mem_cons.mpr ⟨sn_catch (M := ab_m204) (pc := 4) (E := 0) (h := 16) [(0, 9, 12, 25)] [] (0, 9, 15, 13) rfl (List.forall_mem_cons.mpr ⟨⟨by decide, "java/lang/IndexOutOfBoundsException", wd_890, by decide⟩, fun _ h => absurd h List.not_mem_nil⟩) (by decide) (by decide) wd_883 wd_884 (i := 3) (by decide) (Or.inl ⟨3, rfl, by decide +kernel, rfl⟩), fun _ h => absurd h List.not_mem_nil⟩⟩
theorem hd_205 : ∀ x ∈ ab_m205.2.2.2.2.2.2.2.1, ab_OkH ab_m205 x.1 x.2.1 x.2.2 := List.forall_mem_cons.mpr ⟨sn_catch (M := ab_m205) (pc := 4) (E := 1) (h := 13) [] [(0, 9, 15, 13)] (0, 9, 12, 19) rfl (fun _ h => absurd h List.not_mem_nil) (by decide) (by decide) wd_885 wd_886 (i := 3) (by decide) (Or.inl ⟨3, rfl, by decide +kernel, rfl⟩), List.forall_mem_cons.mpr ⟨sn_catch (M := ab_m205) (pc := 4) (E := 0) (h := 16) [(0, 9, 12, 19)] [] (0, 9, 15, 13) rfl (List.forall_mem_cons.mpr ⟨⟨by decide, "java/lang/IllegalArgumentException", wd_887, by decide⟩, fun _ h => absurd h List.not_mem_nil⟩) (by decide) (by decide) wd_883 wd_884 (i := 3) (by decide) (Or.inl ⟨3, rfl, by decide +kernel, rfl⟩), fun _ h => absurd h List.not_mem_nil⟩⟩
theorem hd_206 : ∀ x ∈ ab_m206.2.2.2.2.2.2.2.1, ab_OkH ab_m206 x.1 x.2.1 x.2.2 := List.forall_mem_cons.mpr ⟨sn_catch (M := ab_m206) (pc := 7) (E := 2) (h := 16) [] [(0, 11, 18, 19), (0, 11, 22, 13)] (0, 11, 14, 25) rfl (fun _ h => absurd h List.not_mem_nil) (by decide) (by decide) wd_888 wd_889 (i := 5) (by decide) (Or.inr ⟨by decide +kernel, rfl⟩), List.forall_mem_cons.mpr ⟨sn_catch (M := ab_m206) (pc := 7) (E := 1) (h := 20) [(0, 11, 14, 25)] [(0, 11, 22, 13)] (0, 11, 18, 19) rfl (List.forall_mem_cons.mpr ⟨⟨by decide, "java/lang/IndexOutOfBoundsException", wd_890, by decide⟩, fun _ h => absurd h List.not_mem_nil⟩) (by decide) (by decide) wd_885 wd_886 (i := 5) (by decide) (Or.inr ⟨by decide +kernel, rfl⟩), List.forall_mem_cons.mpr ⟨sn_catch (M := ab_m206) (pc := 7) (E := 0) (h := 24) [(0, 11, 14, 25), (0, 11, 18, 19)] [] (0, 11, 22, 13) rfl (List.forall_mem_cons.mpr ⟨⟨by decide, "java/lang/IndexOutOfBoundsException", wd_890, by decide⟩, List.forall_mem_cons.mpr ⟨⟨by decide, "java/lang/IllegalArgumentException", wd_887, by decide⟩, fun _ h => absurd h List.not_mem_nil⟩⟩) (by decide) (by decide) wd_883 wd_884 (i := 5) (by decide) (Or.inr ⟨by decide +kernel, rfl⟩), fun _ h => absurd h List.not_mem_nil⟩⟩⟩
theorem hd_207 : ∀ x ∈ ab_m207.2.2.2.2.2.2.2.1, ab_OkH ab_m207 x.1 x.2.1 x.2.2 := List.forall_mem_cons.mpr ⟨sn_catch (M := ab_m207) (pc := 4) (E := 1) (h := 13) [] [(0, 9, 15, 13)] (0, 9, 12, 19) rfl (fun _ h => absurd h List.not_mem_nil) (by decide) (by decide) wd_885 wd_886 (i := 3) (by decide) (Or.inl ⟨3, rfl, by decide +kernel, rfl⟩), List.forall_mem_cons.mpr ⟨sn_catch (M := ab_m207) (pc := 4) (E := 0) (h := 16) [(0, 9, 12, 19)] [] (0, 9, 15, 13) rfl (List.forall_mem_cons.mpr ⟨⟨by decide, "java/lang/IllegalArgumentException", wd_887, by decide⟩, fun _ h => absurd h List.not_mem_nil⟩) (by decide) (by decide) wd_883 wd_884 (i := 3) (by decide) (Or.inl ⟨3, rfl, by decide +kernel, rfl⟩), fun _ h => absurd h List.not_mem_nil⟩⟩
theorem hd_208 : ∀ x ∈ ab_m208.2.2.2.2.2.2.2.1, ab_OkH ab_m208 x.1 x.2.1 x.2.2 := List.forall_mem_cons.mpr ⟨sn_catch (M := ab_m208) (pc := 3) (E := 0) (h := 11) [] [] (0, 7, 10, 13) rfl (fun _ h => absurd h List.not_mem_nil) (by decide) (by decide) wd_883 wd_884 (i := 2) (by decide) (Or.inl ⟨2, rfl, by decide +kernel, rfl⟩), fun _ h => absurd h List.not_mem_nil⟩
theorem hd_209 : ∀ x ∈ ab_m209.2.2.2.2.2.2.2.1, ab_OkH ab_m209 x.1 x.2.1 x.2.2 := List.forall_mem_cons.mpr ⟨sn_catch (M := ab_m209) (pc := 4) (E := 1) (h := 12) [] [] (0, 8, 11, 19) rfl (fun _ h => absurd h List.not_mem_nil) (by decide) (by decide) wd_885 wd_886 (i := 3) (by decide) (Or.inl ⟨3, rfl, by decide +kernel, rfl⟩), fun _ h => absurd h List.not_mem_nil⟩
theorem hd_210 : ∀ x ∈ ab_m210.2.2.2.2.2.2.2.1, ab_OkH ab_m210 x.1 x.2.1 x.2.2 := List.forall_mem_cons.mpr ⟨sn_catch (M := ab_m210) (pc := 5) (E := 2) (h := 15) [] [(0, 10, 17, 19)] (0, 10, 13, 25) rfl (fun _ h => absurd h List.not_mem_nil) (by decide) (by decide) wd_888 wd_889 (i := 4) (by decide) (Or.inr ⟨by decide +kernel, rfl⟩), List.forall_mem_cons.mpr ⟨sn_catch (M := ab_m210) (pc := 5) (E := 1) (h := 19) [(0, 10, 13, 25)] [] (0, 10, 17, 19) rfl (List.forall_mem_cons.mpr ⟨⟨by decide, "java/lang/IndexOutOfBoundsException", wd_890, by decide⟩, fun _ h => absurd h List.not_mem_nil⟩) (by decide) (by decide) wd_885 wd_886 (i := 4) (by decide) (Or.inr ⟨by decide +kernel, rfl⟩), fun _ h => absurd h List.not_mem_nil⟩⟩
theorem hd_211 : ∀ x ∈ ab_m211.2.2.2.2.2.2.2.1, ab_OkH ab_m211 x.1 x.2.1 x.2.2 := List.forall_mem_cons.mpr ⟨sn_catch (M := ab_m211) (pc := 5) (E := 2) (h := 14) [] [(0, 9, 16, 19)] (0, 9, 12, 25) rfl (fun _ h => absurd h List.not_mem_nil) (by decide) (by decide) wd_888 wd_889 (i := 4) (by decide) (Or.inr ⟨by decide +kernel, rfl⟩), List.forall_mem_cons.mpr ⟨sn_catch (M := ab_m211) (pc := 5) (E := 1) (h := 18) [(0, 9, 12, 25)] [] (0, 9, 16, 19) rfl (List.forall_mem_cons.mpr ⟨⟨by decide, "java/lang/IndexOutOfBoundsException", wd_890, by decide⟩, fun _ h => absurd h List.not_mem_nil⟩) (by decide) (by decide) wd_885 wd_886 (i := 4) (by decide) (Or.inr ⟨by decide +kernel, rfl⟩), fun _ h => absurd h List.not_mem_nil⟩⟩
theorem hd_212 : ∀ x ∈ ab_m212.2.2.2.2.2.2.2.1, ab_OkH ab_m212 x.1 x.2.1 x.2.2 := List.forall_mem_cons.mpr ⟨sn_catch (M := ab_m212) (pc := 5) (E := 2) (h := 14) [] [] (0, 9, 12, 25) rfl (fun _ h => absurd h List.not_mem_nil) (by decide) (by decide) wd_888 wd_889 (i := 4) (by decide) (Or.inr ⟨by decide +kernel, rfl⟩), fun _ h => absurd h List.not_mem_nil⟩
theorem hd_213 : ∀ x ∈ ab_m213.2.2.2.2.2.2.2.1, ab_OkH ab_m213 x.1 x.2.1 x.2.2 := List.forall_mem_cons.mpr ⟨sn_catch (M := ab_m213) (pc := 5) (E := 2) (h := 15) [] [(0, 10, 17, 19)] (0, 10, 13, 25) rfl (fun _ h => absurd h List.not_mem_nil) (by decide) (by decide) wd_888 wd_889 (i := 4) (by decide) (Or.inr ⟨by decide +kernel, rfl⟩), List.forall_mem_cons.mpr ⟨sn_catch (M := ab_m213) (pc := 5) (E := 1) (h := 19) [(0, 10, 13, 25)] [] (0, 10, 17, 19) rfl (List.forall_mem_cons.mpr ⟨⟨by decide, "java/lang/IndexOutOfBoundsException", wd_890, by decide⟩, fun _ h => absurd h List.not_mem_nil⟩) (by decide) (by decide) wd_885 wd_886 (i := 4) (by decide) (Or.inr ⟨by decide +kernel, rfl⟩), fun _ h => absurd h List.not_mem_nil⟩⟩
theorem hd_214 : ∀ x ∈ ab_m214.2.2.2.2.2.2.2.1, ab_OkH ab_m214 x.1 x.2.1 x.2.2 := List.forall_mem_cons.mpr ⟨sn_catch (M := ab_m214) (pc := 5) (E := 2) (h := 14) [] [(0, 9, 16, 19)] (0, 9, 12, 25) rfl (fun _ h => absurd h List.not_mem_nil) (by decide) (by decide) wd_888 wd_889 (i := 4) (by decide) (Or.inr ⟨by decide +kernel, rfl⟩), List.forall_mem_cons.mpr ⟨sn_catch (M := ab_m214) (pc := 5) (E := 1) (h := 18) [(0, 9, 12, 25)] [] (0, 9, 16, 19) rfl (List.forall_mem_cons.mpr ⟨⟨by decide, "java/lang/IndexOutOfBoundsException", wd_890, by decide⟩, fun _ h => absurd h List.not_mem_nil⟩) (by decide) (by decide) wd_885 wd_886 (i := 4) (by decide) (Or.inr ⟨by decide +kernel, rfl⟩), fun _ h => absurd h List.not_mem_nil⟩⟩
theorem hd_215 : ∀ x ∈ ab_m215.2.2.2.2.2.2.2.1, ab_OkH ab_m215 x.1 x.2.1 x.2.2 := List.forall_mem_cons.mpr ⟨sn_catch (M := ab_m215) (pc := 6) (E := 1) (h := 16) [] [] (0, 11, 14, 19) rfl (fun _ h => absurd h List.not_mem_nil) (by decide) (by decide) wd_885 wd_886 (i := 5) (by decide) (Or.inr ⟨by decide +kernel, rfl⟩), fun _ h => absurd h List.not_mem_nil⟩
theorem hd_216 : ∀ x ∈ ab_m216.2.2.2.2.2.2.2.1, ab_OkH ab_m216 x.1 x.2.1 x.2.2 := List.forall_mem_cons.mpr ⟨sn_catch (M := ab_m216) (pc := 4) (E := 1) (h := 12) [] [] (0, 8, 11, 19) rfl (fun _ h => absurd h List.not_mem_nil) (by decide) (by decide) wd_885 wd_886 (i := 3) (by decide) (Or.inl ⟨3, rfl, by decide +kernel, rfl⟩), fun _ h => absurd h List.not_mem_nil⟩
theorem hd_217 : ∀ x ∈ ab_m217.2.2.2.2.2.2.2.1, ab_OkH ab_m217 x.1 x.2.1 x.2.2 := List.forall_mem_cons.mpr ⟨sn_catch (M := ab_m217) (pc := 6) (E := 2) (h := 16) [] [(0, 11, 18, 19)] (0, 11, 14, 25) rfl (fun _ h => absurd h List.not_mem_nil) (by decide) (by decide) wd_888 wd_889 (i := 5) (by decide) (Or.inr ⟨by decide +kernel, rfl⟩), List.forall_mem_cons.mpr ⟨sn_catch (M := ab_m217) (pc := 6) (E := 1) (h := 20) [(0, 11, 14, 25)] [] (0, 11, 18, 19) rfl (List.forall_mem_cons.mpr ⟨⟨by decide, "java/lang/IndexOutOfBoundsException", wd_890, by decide⟩, fun _ h => absurd h List.not_mem_nil⟩) (by decide) (by decide) wd_885 wd_886 (i := 5) (by decide) (Or.inr ⟨by decide +kernel, rfl⟩), fun _ h => absurd h List.not_mem_nil⟩⟩
theorem hd_218 : ∀ x ∈ ab_m218.2.2.2.2.2.2.2.1, ab_OkH ab_m218 x.1 x.2.1 x.2.2 := List.forall_mem_cons.mpr ⟨sn_catch (M := ab_m218) (pc := 6) (E := 2) (h := 16) [] [(0, 11, 18, 19)] (0, 11, 14, 25) rfl (fun _ h => absurd h List.not_mem_nil) (by decide) (by decide) wd_888 wd_889 (i := 5) (by decide) (Or.inr ⟨by decide +kernel, rfl⟩), List.forall_mem_cons.mpr ⟨sn_catch (M := ab_m218) (pc := 6) (E := 1) (h := 20) [(0, 11, 14, 25)] [] (0, 11, 18, 19) rfl (List.forall_mem_cons.mpr ⟨⟨by decide, "java/lang/IndexOutOfBoundsException", wd_890, by decide⟩, fun _ h => absurd h List.not_mem_nil⟩) (by decide) (by decide) wd_885 wd_886 (i := 5) (by decide) (Or.inr ⟨by decide +kernel, rfl⟩), fun _ h => absurd h List.not_mem_nil⟩⟩
theorem hd_219 : ∀ x ∈ ab_m219.2.2.2.2.2.2.2.1, ab_OkH ab_m219 x.1 x.2.1 x.2.2 := List.forall_mem_cons.mpr ⟨sn_catch (M := ab_m219) (pc := 7) (E := 2) (h := 16) [] [(0, 11, 18, 19)] (0, 11, 14, 25) rfl (fun _ h => absurd h List.not_mem_nil) (by decide) (by decide) wd_888 wd_889 (i := 5) (by decide) (Or.inr ⟨by decide +kernel, rfl⟩), List.forall_mem_cons.mpr ⟨sn_catch (M := ab_m219) (pc := 7) (E := 1) (h := 20) [(0, 11, 14, 25)] [] (0, 11, 18, 19) rfl (List.forall_mem_cons.mpr ⟨⟨by decide, "java/lang/IndexOutOfBoundsException", wd_890, by decide⟩, fun _ h => absurd h List.not_mem_nil⟩) (by decide) (by decide) wd_885 wd_886 (i := 5) (by decide) (Or.inr ⟨by decide +kernel, rfl⟩), fun _ h => absurd h List.not_mem_nil⟩⟩
