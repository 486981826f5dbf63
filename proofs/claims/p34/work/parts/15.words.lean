/-! words of the tables: printed by wip/p34/gen.py -/
theorem ab_ina {w : Cond} (h : w ∈ lw_tbl) (g : goodWord w = true) : w ∈ ab_all := List.mem_filter.mpr ⟨h, g⟩
theorem ab_ino {w : Cond} (h : w ∈ lw_tbl) (g : ab_oddk w = true) : w ∈ ab_odd := List.mem_filter.mpr ⟨h, g⟩
theorem ab_at1 {i : Nat} {w : Cond} (h : tables_1_1[i]? = some w) : w ∈ lw_tbl := List.mem_append_right _ (show w ∈ tables_1 from List.mem_append_left _ (List.mem_of_getElem? h))
theorem ab_at2 {i : Nat} {w : Cond} (h : tables_1_2[i]? = some w) : w ∈ lw_tbl := List.mem_append_right _ (show w ∈ tables_1 from List.mem_append_right _ (List.mem_append_left _ (List.mem_of_getElem? h)))
theorem ab_at3 {i : Nat} {w : Cond} (h : tables_1_3[i]? = some w) : w ∈ lw_tbl := List.mem_append_right _ (show w ∈ tables_1 from List.mem_append_right _ (List.mem_append_right _ (List.mem_of_getElem? h)))
theorem wd_0 : Cond.methodLink "TempoPlayer" 3 Lib.objectInit ∈ ab_all := ab_ina (ab_at1 (i := 21) (rfl)) rfl
theorem wd_1 : Cond.instanceMethod Lib.objectInit ∈ ab_all := ab_ina (ab_at1 (i := 22) (rfl)) rfl
theorem wd_2 : Cond.code Lib.objectInit ⟨#[0xb1]⟩ 1 none ∈ ab_all := ab_ina (ab_at1 (i := 23) (by decide +kernel)) rfl
theorem wd_3 : Cond.classLink "TempoPlayer" 9 "TempoPlayer$Score" ∈ ab_all := ab_ina (ab_at1 (i := 24) (rfl)) rfl
theorem wd_4 : Cond.instantiable "TempoPlayer$Score" 8 ∈ ab_all := ab_ina (ab_at1 (i := 25) (rfl)) rfl
theorem wd_5 : Cond.initialized "TempoPlayer$Score" ∈ ab_all := ab_ina (ab_at1 (i := 2) (rfl)) rfl
theorem wd_6 : Cond.methodLinkNest "TempoPlayer" 11 ⟨"TempoPlayer$Score", "<init>", "()V"⟩ "TempoPlayer" ∈ ab_odd := ab_ino (ab_at1 (i := 26) (rfl)) rfl
theorem wd_7 : Cond.instanceMethod ⟨"TempoPlayer$Score", "<init>", "()V"⟩ ∈ ab_all := ab_ina (ab_at1 (i := 27) (rfl)) rfl
theorem wd_8 : Cond.fieldLink "TempoPlayer" 12 "TempoPlayer" "score" "LTempoPlayer$Score;" ∈ ab_all := ab_ina (ab_at1 (i := 175) (rfl)) rfl
theorem wd_9 : Cond.fieldLink "TempoPlayer" 16 "TempoPlayer$Score" "piece" "LTempoPlayer$Piece;" ∈ ab_all := ab_ina (ab_at1 (i := 78) (rfl)) rfl
theorem wd_10 : Cond.fieldLink "TempoPlayer" 20 "TempoPlayer" "piece" "LTempoPlayer$Piece;" ∈ ab_all := ab_ina (ab_at1 (i := 176) (rfl)) rfl
theorem wd_11 : Cond.classLink "TempoPlayer" 21 "TempoPlayer$Playback" ∈ ab_all := ab_ina (ab_at1 (i := 106) (rfl)) rfl
theorem wd_12 : Cond.instantiable "TempoPlayer$Playback" 11 ∈ ab_all := ab_ina (ab_at1 (i := 107) (rfl)) rfl
theorem wd_13 : Cond.initialized "TempoPlayer$Playback" ∈ ab_all := ab_ina (ab_at1 (i := 6) (rfl)) rfl
theorem wd_14 : Cond.methodLinkNest "TempoPlayer" 23 ⟨"TempoPlayer$Playback", "<init>", "()V"⟩ "TempoPlayer" ∈ ab_odd := ab_ino (ab_at1 (i := 108) (rfl)) rfl
theorem wd_15 : Cond.instanceMethod ⟨"TempoPlayer$Playback", "<init>", "()V"⟩ ∈ ab_all := ab_ina (ab_at1 (i := 109) (rfl)) rfl
theorem wd_16 : Cond.fieldLink "TempoPlayer" 24 "TempoPlayer" "playback" "LTempoPlayer$Playback;" ∈ ab_all := ab_ina (ab_at1 (i := 177) (rfl)) rfl
theorem wd_17 : Cond.classLink "TempoPlayer" 28 "TempoPlayer$History" ∈ ab_all := ab_ina (ab_at1 (i := 136) (rfl)) rfl
theorem wd_18 : Cond.instantiable "TempoPlayer$History" 2 ∈ ab_all := ab_ina (ab_at1 (i := 137) (rfl)) rfl
theorem wd_19 : Cond.initialized "TempoPlayer$History" ∈ ab_all := ab_ina (ab_at1 (i := 7) (rfl)) rfl
theorem wd_20 : Cond.methodLink "TempoPlayer" 30 ⟨"TempoPlayer$History", "<init>", "()V"⟩ ∈ ab_all := ab_ina (ab_at1 (i := 138) (rfl)) rfl
theorem wd_21 : Cond.instanceMethod ⟨"TempoPlayer$History", "<init>", "()V"⟩ ∈ ab_all := ab_ina (ab_at1 (i := 139) (rfl)) rfl
theorem wd_22 : Cond.fieldLink "TempoPlayer" 31 "TempoPlayer" "history" "LTempoPlayer$History;" ∈ ab_all := ab_ina (ab_at1 (i := 178) (rfl)) rfl
theorem wd_23 : Cond.classLink "TempoPlayer" 35 ab_pc ∈ ab_all := ab_ina (ab_at1 (i := 153) (rfl)) rfl
theorem wd_24 : Cond.fieldLink "TempoPlayer" 37 "TempoPlayer" "images" "[LTempoPlayer$Piece;" ∈ ab_all := ab_ina (ab_at1 (i := 179) (rfl)) rfl
theorem wd_25 : Cond.arrayClass .int ∈ ab_all := ab_ina (ab_at1 (i := 60) (rfl)) rfl
theorem wd_26 : Cond.fieldLink "TempoPlayer" 41 "TempoPlayer" "input" "[I" ∈ ab_all := ab_ina (ab_at1 (i := 181) (rfl)) rfl
theorem wd_27 : Cond.classLink "TempoPlayer" 45 "TempoPlayer$TextReader" ∈ ab_all := ab_ina (ab_at1 (i := 154) (rfl)) rfl
theorem wd_28 : Cond.instantiable "TempoPlayer$TextReader" 5 ∈ ab_all := ab_ina (ab_at1 (i := 155) (rfl)) rfl
theorem wd_29 : Cond.initialized "TempoPlayer$TextReader" ∈ ab_all := ab_ina (ab_at1 (i := 8) (rfl)) rfl
theorem wd_30 : Cond.methodLinkNest "TempoPlayer" 47 ⟨"TempoPlayer$TextReader", "<init>", "()V"⟩ "TempoPlayer" ∈ ab_odd := ab_ino (ab_at1 (i := 156) (rfl)) rfl
theorem wd_31 : Cond.instanceMethod ⟨"TempoPlayer$TextReader", "<init>", "()V"⟩ ∈ ab_all := ab_ina (ab_at1 (i := 157) (rfl)) rfl
theorem wd_32 : Cond.fieldLink "TempoPlayer" 48 "TempoPlayer" "reader" "LTempoPlayer$TextReader;" ∈ ab_all := ab_ina (ab_at1 (i := 182) (rfl)) rfl
theorem wd_33 : Cond.fieldLink "TempoPlayer" 52 "TempoPlayer" "supposed" "LTempoPlayer$Score;" ∈ ab_all := ab_ina (ab_at1 (i := 183) (rfl)) rfl
theorem wd_34 : Cond.classLink "TempoPlayer" 35 "TempoPlayer$Piece" ∈ ab_all := ab_ina (ab_at1 (i := 153) (rfl)) rfl
theorem wd_35 : Cond.instantiable "TempoPlayer$Piece" 3 ∈ ab_all := ab_ina (ab_at1 (i := 31) (rfl)) rfl
theorem wd_36 : Cond.initialized "TempoPlayer$Piece" ∈ ab_all := ab_ina (ab_at1 (i := 3) (rfl)) rfl
theorem wd_37 : Cond.methodLinkNest "TempoPlayer" 55 ⟨"TempoPlayer$Piece", "<init>", "()V"⟩ "TempoPlayer" ∈ ab_odd := ab_ino (ab_at1 (i := 174) (rfl)) rfl
theorem wd_38 : Cond.instanceMethod ⟨"TempoPlayer$Piece", "<init>", "()V"⟩ ∈ ab_all := ab_ina (ab_at1 (i := 33) (rfl)) rfl
theorem wd_39 : Cond.fieldLink "TempoPlayer" 79 "TempoPlayer" "LEAST_VALUES" "[I" ∈ ab_all := ab_ina (ab_at3 (i := 9) (rfl)) rfl
theorem wd_40 : Cond.fieldLink "TempoPlayer" 82 "TempoPlayer" "MOST_VALUES" "[I" ∈ ab_all := ab_ina (ab_at3 (i := 11) (rfl)) rfl
theorem wd_41 : Cond.methodLink "TempoPlayer" 85 ⟨"TempoPlayer", "needRange", "(JJJ)V"⟩ ∈ ab_all := ab_ina (ab_at1 (i := 210) (rfl)) rfl
theorem wd_42 : Cond.static ⟨"TempoPlayer", "needRange", "(JJJ)V"⟩ ∈ ab_all := ab_ina (ab_at1 (i := 211) (rfl)) rfl
theorem wd_43 : Cond.methodLink "TempoPlayer" 56 ⟨"TempoPlayer", "needNothingPlayed", "()V"⟩ ∈ ab_all := ab_ina (ab_at3 (i := 13) (rfl)) rfl
theorem wd_44 : Cond.instanceMethod ⟨"TempoPlayer", "needNothingPlayed", "()V"⟩ ∈ ab_all := ab_ina (ab_at3 (i := 15) (rfl)) rfl
theorem wd_45 : Cond.selects "TempoPlayer" ⟨"TempoPlayer", "needNothingPlayed", "()V"⟩ ⟨"TempoPlayer", "needNothingPlayed", "()V"⟩ ∈ ab_all := ab_ina (List.mem_append_left _ (List.mem_of_getElem? (i := 1) (by decide +kernel))) rfl
theorem wd_46 : Cond.fieldLink "TempoPlayer" 59 "TempoPlayer$Piece" "bars" "LTempoPlayer$Table;" ∈ ab_all := ab_ina (ab_at1 (i := 63) (rfl)) rfl
theorem wd_47 : Cond.methodLink "TempoPlayer" 89 ⟨"TempoPlayer", "needRoom", "(LTempoPlayer$Table;II)V"⟩ ∈ ab_all := ab_ina (ab_at3 (i := 33) (rfl)) rfl
theorem wd_48 : Cond.static ⟨"TempoPlayer", "needRoom", "(LTempoPlayer$Table;II)V"⟩ ∈ ab_all := ab_ina (ab_at3 (i := 34) (rfl)) rfl
theorem wd_49 : Cond.methodLink "TempoPlayer" 69 ⟨"TempoPlayer$History", "remember", "(LTempoPlayer$Piece;)V"⟩ ∈ ab_all := ab_ina (ab_at3 (i := 37) (rfl)) rfl
theorem wd_50 : Cond.instanceMethod ⟨"TempoPlayer$History", "remember", "(LTempoPlayer$Piece;)V"⟩ ∈ ab_all := ab_ina (ab_at3 (i := 38) (rfl)) rfl
theorem wd_51 : Cond.selects "TempoPlayer$History" ⟨"TempoPlayer$History", "remember", "(LTempoPlayer$Piece;)V"⟩ ⟨"TempoPlayer$History", "remember", "(LTempoPlayer$Piece;)V"⟩ ∈ ab_all := ab_ina (ab_at3 (i := 39) (rfl)) rfl
theorem wd_52 : Cond.methodLink "TempoPlayer" 93 ⟨"TempoPlayer", "appendBar", "(LTempoPlayer$Table;II)V"⟩ ∈ ab_all := ab_ina (ab_at3 (i := 59) (rfl)) rfl
theorem wd_53 : Cond.static ⟨"TempoPlayer", "appendBar", "(LTempoPlayer$Table;II)V"⟩ ∈ ab_all := ab_ina (ab_at3 (i := 60) (rfl)) rfl
theorem wd_54 : Cond.methodLink "TempoPlayer" 76 ⟨"TempoPlayer$Score", "settle", "()V"⟩ ∈ ab_all := ab_ina (ab_at3 (i := 70) (rfl)) rfl
theorem wd_55 : Cond.instanceMethod ⟨"TempoPlayer$Score", "settle", "()V"⟩ ∈ ab_all := ab_ina (ab_at3 (i := 71) (rfl)) rfl
theorem wd_56 : Cond.selects "TempoPlayer$Score" ⟨"TempoPlayer$Score", "settle", "()V"⟩ ⟨"TempoPlayer$Score", "settle", "()V"⟩ ∈ ab_all := ab_ina (ab_at3 (i := 72) (rfl)) rfl
theorem wd_57 : Cond.fieldLink "TempoPlayer" 63 "TempoPlayer$Table" "rows" "I" ∈ ab_all := ab_ina (ab_at1 (i := 50) (rfl)) rfl
theorem wd_58 : Cond.methodLink "TempoPlayer" 96 ⟨"TempoPlayer", "needIndex", "(II)V"⟩ ∈ ab_all := ab_ina (ab_at2 (i := 104) (rfl)) rfl
theorem wd_59 : Cond.static ⟨"TempoPlayer", "needIndex", "(II)V"⟩ ∈ ab_all := ab_ina (ab_at2 (i := 105) (rfl)) rfl
theorem wd_60 : Cond.methodLink "TempoPlayer" 100 ⟨"TempoPlayer$Table", "cell", "(II)I"⟩ ∈ ab_all := ab_ina (ab_at2 (i := 177) (rfl)) rfl
theorem wd_61 : Cond.instanceMethod ⟨"TempoPlayer$Table", "cell", "(II)I"⟩ ∈ ab_all := ab_ina (ab_at2 (i := 153) (rfl)) rfl
theorem wd_62 : Cond.selects "TempoPlayer$Table" ⟨"TempoPlayer$Table", "cell", "(II)I"⟩ ⟨"TempoPlayer$Table", "cell", "(II)I"⟩ ∈ ab_all := ab_ina (ab_at2 (i := 154) (rfl)) rfl
theorem wd_63 : Cond.methodLink "TempoPlayer" 104 ⟨"TempoPlayer$Table", "put", "(III)V"⟩ ∈ ab_all := ab_ina (ab_at3 (i := 66) (rfl)) rfl
theorem wd_64 : Cond.instanceMethod ⟨"TempoPlayer$Table", "put", "(III)V"⟩ ∈ ab_all := ab_ina (ab_at3 (i := 67) (rfl)) rfl
theorem wd_65 : Cond.selects "TempoPlayer$Table" ⟨"TempoPlayer$Table", "put", "(III)V"⟩ ⟨"TempoPlayer$Table", "put", "(III)V"⟩ ∈ ab_all := ab_ina (ab_at3 (i := 68) (rfl)) rfl
theorem wd_66 : Cond.methodLink "TempoPlayer" 108 ⟨"TempoPlayer", "dropLostAccents", "(I)V"⟩ ∈ ab_all := ab_ina (ab_at3 (i := 110) (rfl)) rfl
theorem wd_67 : Cond.instanceMethod ⟨"TempoPlayer", "dropLostAccents", "(I)V"⟩ ∈ ab_all := ab_ina (ab_at3 (i := 112) (rfl)) rfl
theorem wd_68 : Cond.selects "TempoPlayer" ⟨"TempoPlayer", "dropLostAccents", "(I)V"⟩ ⟨"TempoPlayer", "dropLostAccents", "(I)V"⟩ ∈ ab_all := ab_ina (List.mem_append_left _ (List.mem_of_getElem? (i := 8) (by decide +kernel))) rfl
theorem wd_69 : Cond.methodLink "TempoPlayer" 112 ⟨"TempoPlayer$Table", "dropRow", "(I)V"⟩ ∈ ab_all := ab_ina (ab_at3 (i := 149) (rfl)) rfl
theorem wd_70 : Cond.instanceMethod ⟨"TempoPlayer$Table", "dropRow", "(I)V"⟩ ∈ ab_all := ab_ina (ab_at3 (i := 97) (rfl)) rfl
theorem wd_71 : Cond.selects "TempoPlayer$Table" ⟨"TempoPlayer$Table", "dropRow", "(I)V"⟩ ⟨"TempoPlayer$Table", "dropRow", "(I)V"⟩ ∈ ab_all := ab_ina (ab_at3 (i := 98) (rfl)) rfl
theorem wd_72 : Cond.constantLong "TempoPlayer" 115 (287) ∈ ab_all := ab_ina (ab_at3 (i := 124) (rfl)) rfl
theorem wd_73 : Cond.constantLong "TempoPlayer" 117 (200) ∈ ab_all := ab_ina (ab_at3 (i := 125) (rfl)) rfl
theorem wd_74 : Cond.constantLong "TempoPlayer" 119 (4000) ∈ ab_all := ab_ina (ab_at3 (i := 126) (rfl)) rfl
theorem wd_75 : Cond.fieldLink "TempoPlayer" 121 "TempoPlayer$Piece" "marks" "LTempoPlayer$Table;" ∈ ab_all := ab_ina (ab_at1 (i := 66) (rfl)) rfl
theorem wd_76 : Cond.methodLink "TempoPlayer" 124 ⟨"TempoPlayer", "markPlace", "(LTempoPlayer$Table;I)I"⟩ ∈ ab_all := ab_ina (ab_at3 (i := 127) (rfl)) rfl
theorem wd_77 : Cond.static ⟨"TempoPlayer", "markPlace", "(LTempoPlayer$Table;I)I"⟩ ∈ ab_all := ab_ina (ab_at3 (i := 128) (rfl)) rfl
theorem wd_78 : Cond.methodLink "TempoPlayer" 128 ⟨"TempoPlayer", "isMarkAt", "(LTempoPlayer$Table;II)Z"⟩ ∈ ab_all := ab_ina (ab_at3 (i := 130) (rfl)) rfl
theorem wd_79 : Cond.static ⟨"TempoPlayer", "isMarkAt", "(LTempoPlayer$Table;II)Z"⟩ ∈ ab_all := ab_ina (ab_at3 (i := 131) (rfl)) rfl
theorem wd_80 : Cond.methodLink "TempoPlayer" 132 ⟨"TempoPlayer", "putMark", "(LTempoPlayer$Table;IIZ)V"⟩ ∈ ab_all := ab_ina (ab_at3 (i := 133) (rfl)) rfl
theorem wd_81 : Cond.static ⟨"TempoPlayer", "putMark", "(LTempoPlayer$Table;IIZ)V"⟩ ∈ ab_all := ab_ina (ab_at3 (i := 134) (rfl)) rfl
theorem wd_82 : Cond.fieldLink "TempoPlayer" 136 "TempoPlayer$Score" "beats" "I" ∈ ab_all := ab_ina (ab_at1 (i := 85) (rfl)) rfl
theorem wd_83 : Cond.constantLong "TempoPlayer" 139 (479) ∈ ab_all := ab_ina (ab_at3 (i := 143) (rfl)) rfl
theorem wd_84 : Cond.constantLong "TempoPlayer" 141 (5000) ∈ ab_all := ab_ina (ab_at3 (i := 144) (rfl)) rfl
theorem wd_85 : Cond.fieldLink "TempoPlayer" 143 "TempoPlayer$Piece" "cues" "LTempoPlayer$Table;" ∈ ab_all := ab_ina (ab_at1 (i := 69) (rfl)) rfl
theorem wd_86 : Cond.methodLink "TempoPlayer" 146 ⟨"TempoPlayer$Table", "openRow", "(I)V"⟩ ∈ ab_all := ab_ina (ab_at3 (i := 62) (rfl)) rfl
theorem wd_87 : Cond.instanceMethod ⟨"TempoPlayer$Table", "openRow", "(I)V"⟩ ∈ ab_all := ab_ina (ab_at3 (i := 63) (rfl)) rfl
theorem wd_88 : Cond.selects "TempoPlayer$Table" ⟨"TempoPlayer$Table", "openRow", "(I)V"⟩ ⟨"TempoPlayer$Table", "openRow", "(I)V"⟩ ∈ ab_all := ab_ina (ab_at3 (i := 64) (rfl)) rfl
theorem wd_89 : Cond.constantLong "TempoPlayer" 252 (5) ∈ ab_all := ab_ina (ab_at2 (i := 175) (rfl)) rfl
theorem wd_90 : Cond.methodLink "TempoPlayer" 204 ⟨"TempoPlayer$Score", "firstBeatOf", "(I)I"⟩ ∈ ab_all := ab_ina (ab_at2 (i := 176) (rfl)) rfl
theorem wd_91 : Cond.instanceMethod ⟨"TempoPlayer$Score", "firstBeatOf", "(I)I"⟩ ∈ ab_all := ab_ina (ab_at2 (i := 134) (rfl)) rfl
theorem wd_92 : Cond.selects "TempoPlayer$Score" ⟨"TempoPlayer$Score", "firstBeatOf", "(I)I"⟩ ⟨"TempoPlayer$Score", "firstBeatOf", "(I)I"⟩ ∈ ab_all := ab_ina (ab_at2 (i := 135) (rfl)) rfl
theorem wd_93 : Cond.constantLong "TempoPlayer" 233 (6) ∈ ab_all := ab_ina (ab_at2 (i := 123) (rfl)) rfl
theorem wd_94 : Cond.methodLink "TempoPlayer" 254 ⟨"TempoPlayer$Score", "barOf", "(I)I"⟩ ∈ ab_all := ab_ina (ab_at2 (i := 124) (rfl)) rfl
theorem wd_95 : Cond.instanceMethod ⟨"TempoPlayer$Score", "barOf", "(I)I"⟩ ∈ ab_all := ab_ina (ab_at2 (i := 125) (rfl)) rfl
theorem wd_96 : Cond.selects "TempoPlayer$Score" ⟨"TempoPlayer$Score", "barOf", "(I)I"⟩ ⟨"TempoPlayer$Score", "barOf", "(I)I"⟩ ∈ ab_all := ab_ina (ab_at2 (i := 126) (rfl)) rfl
theorem wd_97 : Cond.methodLink "TempoPlayer" 257 ⟨"TempoPlayer$Score", "placeInBar", "(I)I"⟩ ∈ ab_all := ab_ina (ab_at2 (i := 128) (rfl)) rfl
theorem wd_98 : Cond.instanceMethod ⟨"TempoPlayer$Score", "placeInBar", "(I)I"⟩ ∈ ab_all := ab_ina (ab_at2 (i := 129) (rfl)) rfl
theorem wd_99 : Cond.selects "TempoPlayer$Score" ⟨"TempoPlayer$Score", "placeInBar", "(I)I"⟩ ⟨"TempoPlayer$Score", "placeInBar", "(I)I"⟩ ∈ ab_all := ab_ina (ab_at2 (i := 130) (rfl)) rfl
theorem wd_100 : Cond.methodLink "TempoPlayer" 260 ⟨"TempoPlayer$Score", "tempoOf", "(I)I"⟩ ∈ ab_all := ab_ina (ab_at2 (i := 137) (rfl)) rfl
theorem wd_101 : Cond.instanceMethod ⟨"TempoPlayer$Score", "tempoOf", "(I)I"⟩ ∈ ab_all := ab_ina (ab_at2 (i := 138) (rfl)) rfl
theorem wd_102 : Cond.selects "TempoPlayer$Score" ⟨"TempoPlayer$Score", "tempoOf", "(I)I"⟩ ⟨"TempoPlayer$Score", "tempoOf", "(I)I"⟩ ∈ ab_all := ab_ina (ab_at2 (i := 139) (rfl)) rfl
theorem wd_103 : Cond.methodLink "TempoPlayer" 263 ⟨"TempoPlayer$Score", "naturalOf", "(I)J"⟩ ∈ ab_all := ab_ina (ab_at2 (i := 141) (rfl)) rfl
theorem wd_104 : Cond.instanceMethod ⟨"TempoPlayer$Score", "naturalOf", "(I)J"⟩ ∈ ab_all := ab_ina (ab_at2 (i := 142) (rfl)) rfl
theorem wd_105 : Cond.selects "TempoPlayer$Score" ⟨"TempoPlayer$Score", "naturalOf", "(I)J"⟩ ⟨"TempoPlayer$Score", "naturalOf", "(I)J"⟩ ∈ ab_all := ab_ina (ab_at2 (i := 143) (rfl)) rfl
theorem wd_106 : Cond.methodLink "TempoPlayer" 267 ⟨"TempoPlayer$Score", "beginOf", "(I)J"⟩ ∈ ab_all := ab_ina (ab_at2 (i := 49) (rfl)) rfl
theorem wd_107 : Cond.instanceMethod ⟨"TempoPlayer$Score", "beginOf", "(I)J"⟩ ∈ ab_all := ab_ina (ab_at2 (i := 46) (rfl)) rfl
theorem wd_108 : Cond.selects "TempoPlayer$Score" ⟨"TempoPlayer$Score", "beginOf", "(I)J"⟩ ⟨"TempoPlayer$Score", "beginOf", "(I)J"⟩ ∈ ab_all := ab_ina (ab_at2 (i := 47) (rfl)) rfl
theorem wd_109 : Cond.methodLink "TempoPlayer" 270 ⟨"TempoPlayer$Score", "lengthOf", "(I)J"⟩ ∈ ab_all := ab_ina (ab_at2 (i := 51) (rfl)) rfl
theorem wd_110 : Cond.instanceMethod ⟨"TempoPlayer$Score", "lengthOf", "(I)J"⟩ ∈ ab_all := ab_ina (ab_at2 (i := 52) (rfl)) rfl
theorem wd_111 : Cond.selects "TempoPlayer$Score" ⟨"TempoPlayer$Score", "lengthOf", "(I)J"⟩ ⟨"TempoPlayer$Score", "lengthOf", "(I)J"⟩ ∈ ab_all := ab_ina (ab_at2 (i := 53) (rfl)) rfl
theorem wd_112 : Cond.methodLink "TempoPlayer" 273 ⟨"TempoPlayer$Score", "accentOf", "(I)I"⟩ ∈ ab_all := ab_ina (ab_at2 (i := 148) (rfl)) rfl
theorem wd_113 : Cond.instanceMethod ⟨"TempoPlayer$Score", "accentOf", "(I)I"⟩ ∈ ab_all := ab_ina (ab_at2 (i := 149) (rfl)) rfl
theorem wd_114 : Cond.selects "TempoPlayer$Score" ⟨"TempoPlayer$Score", "accentOf", "(I)I"⟩ ⟨"TempoPlayer$Score", "accentOf", "(I)I"⟩ ∈ ab_all := ab_ina (ab_at2 (i := 150) (rfl)) rfl
theorem wd_115 : Cond.methodLink "TempoPlayer" 276 ⟨"TempoPlayer$Score", "divisionOf", "(I)I"⟩ ∈ ab_all := ab_ina (ab_at2 (i := 161) (rfl)) rfl
theorem wd_116 : Cond.instanceMethod ⟨"TempoPlayer$Score", "divisionOf", "(I)I"⟩ ∈ ab_all := ab_ina (ab_at2 (i := 162) (rfl)) rfl
theorem wd_117 : Cond.selects "TempoPlayer$Score" ⟨"TempoPlayer$Score", "divisionOf", "(I)I"⟩ ⟨"TempoPlayer$Score", "divisionOf", "(I)I"⟩ ∈ ab_all := ab_ina (ab_at2 (i := 163) (rfl)) rfl
theorem wd_118 : Cond.methodLink "TempoPlayer" 279 ⟨"TempoPlayer$Score", "clickTime", "(II)J"⟩ ∈ ab_all := ab_ina (ab_at2 (i := 165) (rfl)) rfl
theorem wd_119 : Cond.instanceMethod ⟨"TempoPlayer$Score", "clickTime", "(II)J"⟩ ∈ ab_all := ab_ina (ab_at2 (i := 166) (rfl)) rfl
theorem wd_120 : Cond.selects "TempoPlayer$Score" ⟨"TempoPlayer$Score", "clickTime", "(II)J"⟩ ⟨"TempoPlayer$Score", "clickTime", "(II)J"⟩ ∈ ab_all := ab_ina (ab_at2 (i := 167) (rfl)) rfl
theorem wd_121 : Cond.constantLong "TempoPlayer" 283 (2) ∈ ab_all := ab_ina (ab_at1 (i := 209) (rfl)) rfl
theorem wd_122 : Cond.constantLong "TempoPlayer" 285 (4) ∈ ab_all := ab_ina (ab_at2 (i := 224) (rfl)) rfl
theorem wd_123 : Cond.methodLink "TempoPlayer" 287 ⟨"TempoPlayer$Score", "cuePlace", "(I)J"⟩ ∈ ab_all := ab_ina (ab_at2 (i := 225) (rfl)) rfl
theorem wd_124 : Cond.instanceMethod ⟨"TempoPlayer$Score", "cuePlace", "(I)J"⟩ ∈ ab_all := ab_ina (ab_at2 (i := 226) (rfl)) rfl
theorem wd_125 : Cond.selects "TempoPlayer$Score" ⟨"TempoPlayer$Score", "cuePlace", "(I)J"⟩ ⟨"TempoPlayer$Score", "cuePlace", "(I)J"⟩ ∈ ab_all := ab_ina (ab_at2 (i := 227) (rfl)) rfl
theorem wd_126 : Cond.methodLink "TempoPlayer" 290 ⟨"TempoPlayer$Score", "cuesBefore", "(I)J"⟩ ∈ ab_all := ab_ina (ab_at2 (i := 230) (rfl)) rfl
theorem wd_127 : Cond.instanceMethod ⟨"TempoPlayer$Score", "cuesBefore", "(I)J"⟩ ∈ ab_all := ab_ina (ab_at2 (i := 231) (rfl)) rfl
theorem wd_128 : Cond.selects "TempoPlayer$Score" ⟨"TempoPlayer$Score", "cuesBefore", "(I)J"⟩ ⟨"TempoPlayer$Score", "cuesBefore", "(I)J"⟩ ∈ ab_all := ab_ina (ab_at2 (i := 232) (rfl)) rfl
theorem wd_129 : Cond.fieldLink "TempoPlayer" 293 "TempoPlayer$Score" "end" "J" ∈ ab_all := ab_ina (ab_at1 (i := 87) (rfl)) rfl
theorem wd_130 : Cond.methodLink "TempoPlayer" 296 ⟨"TempoPlayer$Score", "beatAt", "(J)I"⟩ ∈ ab_all := ab_ina (ab_at2 (i := 41) (rfl)) rfl
theorem wd_131 : Cond.instanceMethod ⟨"TempoPlayer$Score", "beatAt", "(J)I"⟩ ∈ ab_all := ab_ina (ab_at2 (i := 42) (rfl)) rfl
theorem wd_132 : Cond.selects "TempoPlayer$Score" ⟨"TempoPlayer$Score", "beatAt", "(J)I"⟩ ⟨"TempoPlayer$Score", "beatAt", "(J)I"⟩ ∈ ab_all := ab_ina (ab_at2 (i := 43) (rfl)) rfl
theorem wd_133 : Cond.constantLong "TempoPlayer" 300 (480) ∈ ab_all := ab_ina (ab_at2 (i := 50) (rfl)) rfl
theorem wd_134 : Cond.methodLink "TempoPlayer" 302 ⟨"TempoPlayer", "quotient", "(JJ)J"⟩ ∈ ab_all := ab_ina (ab_at2 (i := 55) (rfl)) rfl
theorem wd_135 : Cond.static ⟨"TempoPlayer", "quotient", "(JJ)J"⟩ ∈ ab_all := ab_ina (ab_at2 (i := 56) (rfl)) rfl
theorem wd_136 : Cond.methodLink "TempoPlayer" 306 Lib.MathLoose.min_long.x ∈ ab_all := ab_ina (ab_at2 (i := 58) (rfl)) rfl
theorem wd_137 : Cond.static Lib.MathLoose.min_long.x ∈ ab_all := ab_ina (ab_at2 (i := 59) (rfl)) rfl
theorem wd_138 : Cond.initialized "java/lang/Math" ∈ ab_all := ab_ina (ab_at1 (i := 5) (rfl)) rfl
theorem wd_139 : Cond.code Lib.MathLoose.min_long.x Lib.MathLoose.min_long.code 4 (some .long) ∈ ab_all := ab_ina (ab_at2 (i := 60) (by decide +kernel)) rfl
theorem wd_140 : Cond.constantLong "TempoPlayer" 311 (11) ∈ ab_all := ab_ina (ab_at2 (i := 182) (rfl)) rfl
theorem wd_141 : Cond.methodLink "TempoPlayer" 313 ⟨"TempoPlayer$Score", "clicksOfPiece", "()J"⟩ ∈ ab_all := ab_ina (ab_at2 (i := 183) (rfl)) rfl
theorem wd_142 : Cond.instanceMethod ⟨"TempoPlayer$Score", "clicksOfPiece", "()J"⟩ ∈ ab_all := ab_ina (ab_at2 (i := 184) (rfl)) rfl
theorem wd_143 : Cond.selects "TempoPlayer$Score" ⟨"TempoPlayer$Score", "clicksOfPiece", "()J"⟩ ⟨"TempoPlayer$Score", "clicksOfPiece", "()J"⟩ ∈ ab_all := ab_ina (ab_at2 (i := 185) (rfl)) rfl
theorem wd_144 : Cond.methodLink "TempoPlayer" 317 ⟨"TempoPlayer$Score", "sumOfPauses", "()J"⟩ ∈ ab_all := ab_ina (ab_at2 (i := 187) (rfl)) rfl
theorem wd_145 : Cond.instanceMethod ⟨"TempoPlayer$Score", "sumOfPauses", "()J"⟩ ∈ ab_all := ab_ina (ab_at2 (i := 188) (rfl)) rfl
theorem wd_146 : Cond.selects "TempoPlayer$Score" ⟨"TempoPlayer$Score", "sumOfPauses", "()J"⟩ ⟨"TempoPlayer$Score", "sumOfPauses", "()J"⟩ ∈ ab_all := ab_ina (ab_at2 (i := 189) (rfl)) rfl
theorem wd_147 : Cond.methodLink "TempoPlayer" 320 ⟨"TempoPlayer$Score", "sumOfLengths", "(Z)J"⟩ ∈ ab_all := ab_ina (ab_at2 (i := 192) (rfl)) rfl
theorem wd_148 : Cond.instanceMethod ⟨"TempoPlayer$Score", "sumOfLengths", "(Z)J"⟩ ∈ ab_all := ab_ina (ab_at2 (i := 193) (rfl)) rfl
theorem wd_149 : Cond.selects "TempoPlayer$Score" ⟨"TempoPlayer$Score", "sumOfLengths", "(Z)J"⟩ ⟨"TempoPlayer$Score", "sumOfLengths", "(Z)J"⟩ ∈ ab_all := ab_ina (ab_at2 (i := 194) (rfl)) rfl
theorem wd_150 : Cond.fieldLink "TempoPlayer" 226 "TempoPlayer$Playback" "on" "Z" ∈ ab_all := ab_ina (ab_at1 (i := 112) (rfl)) rfl
theorem wd_151 : Cond.fieldLink "TempoPlayer" 172 "TempoPlayer$History" "states" "I" ∈ ab_all := ab_ina (ab_at1 (i := 147) (rfl)) rfl
theorem wd_152 : Cond.fieldLink "TempoPlayer" 186 "TempoPlayer" "keptImages" "I" ∈ ab_all := ab_ina (ab_at1 (i := 180) (rfl)) rfl
theorem wd_153 : Cond.constantDouble "TempoPlayer" 339 4723321873536909312 ∈ ab_all := ab_ina (ab_at2 (i := 204) (rfl)) rfl
theorem wd_154 : Cond.classLink "TempoPlayer" 375 (ab_exc 2) ∈ ab_all := ab_ina (ab_at2 (i := 107) (rfl)) rfl
theorem wd_155 : Cond.initialized (ab_exc 2) ∈ ab_all := ab_ina (ab_at1 (i := 12) (rfl)) rfl
theorem wd_156 : Cond.classLink "TempoPlayer" 160 (ab_exc 1) ∈ ab_all := ab_ina (ab_at1 (i := 213) (rfl)) rfl
theorem wd_157 : Cond.initialized (ab_exc 1) ∈ ab_all := ab_ina (ab_at1 (i := 13) (rfl)) rfl
theorem wd_158 : Cond.classLink "TempoPlayer" 175 (ab_exc 0) ∈ ab_all := ab_ina (ab_at3 (i := 17) (rfl)) rfl
theorem wd_159 : Cond.initialized (ab_exc 0) ∈ ab_all := ab_ina (ab_at1 (i := 14) (rfl)) rfl
theorem wd_160 : Cond.methodLink "TempoPlayer$Score" 3 Lib.objectInit ∈ ab_all := ab_ina (ab_at1 (i := 29) (rfl)) rfl
theorem wd_161 : Cond.classLink "TempoPlayer$Score" 9 "TempoPlayer$Piece" ∈ ab_all := ab_ina (ab_at1 (i := 30) (rfl)) rfl
theorem wd_162 : Cond.methodLinkNest "TempoPlayer$Score" 11 ⟨"TempoPlayer$Piece", "<init>", "()V"⟩ "TempoPlayer" ∈ ab_odd := ab_ino (ab_at1 (i := 32) (rfl)) rfl
theorem wd_163 : Cond.fieldLink "TempoPlayer$Score" 12 "TempoPlayer$Score" "piece" "LTempoPlayer$Piece;" ∈ ab_all := ab_ina (ab_at1 (i := 77) (rfl)) rfl
theorem wd_164 : Cond.fieldLink "TempoPlayer$Score" 18 "TempoPlayer$Score" "firstBeats" "[I" ∈ ab_all := ab_ina (ab_at1 (i := 79) (rfl)) rfl
theorem wd_165 : Cond.fieldLink "TempoPlayer$Score" 22 "TempoPlayer$Score" "barsOfBeats" "[I" ∈ ab_all := ab_ina (ab_at1 (i := 80) (rfl)) rfl
theorem wd_166 : Cond.fieldLink "TempoPlayer$Score" 25 "TempoPlayer$Score" "tempos" "[I" ∈ ab_all := ab_ina (ab_at1 (i := 81) (rfl)) rfl
theorem wd_167 : Cond.arrayClass .long ∈ ab_all := ab_ina (ab_at1 (i := 105) (rfl)) rfl
theorem wd_168 : Cond.fieldLink "TempoPlayer$Score" 28 "TempoPlayer$Score" "begins" "[J" ∈ ab_all := ab_ina (ab_at1 (i := 82) (rfl)) rfl
theorem wd_169 : Cond.fieldLink "TempoPlayer$Score" 32 "TempoPlayer$Score" "lengths" "[J" ∈ ab_all := ab_ina (ab_at1 (i := 83) (rfl)) rfl
theorem wd_170 : Cond.methodLink "TempoPlayer$Score" 35 ⟨"TempoPlayer$Score", "numberBeats", "()V"⟩ ∈ ab_all := ab_ina (ab_at3 (i := 74) (rfl)) rfl
theorem wd_171 : Cond.instanceMethod ⟨"TempoPlayer$Score", "numberBeats", "()V"⟩ ∈ ab_all := ab_ina (ab_at3 (i := 76) (rfl)) rfl
theorem wd_172 : Cond.selects "TempoPlayer$Score" ⟨"TempoPlayer$Score", "numberBeats", "()V"⟩ ⟨"TempoPlayer$Score", "numberBeats", "()V"⟩ ∈ ab_all := ab_ina (List.mem_append_left _ (List.mem_of_getElem? (i := 3) (by decide +kernel))) rfl
theorem wd_173 : Cond.methodLink "TempoPlayer$Score" 38 ⟨"TempoPlayer$Score", "setTempos", "()V"⟩ ∈ ab_all := ab_ina (ab_at3 (i := 79) (rfl)) rfl
theorem wd_174 : Cond.instanceMethod ⟨"TempoPlayer$Score", "setTempos", "()V"⟩ ∈ ab_all := ab_ina (ab_at3 (i := 81) (rfl)) rfl
theorem wd_175 : Cond.selects "TempoPlayer$Score" ⟨"TempoPlayer$Score", "setTempos", "()V"⟩ ⟨"TempoPlayer$Score", "setTempos", "()V"⟩ ∈ ab_all := ab_ina (List.mem_append_left _ (List.mem_of_getElem? (i := 4) (by decide +kernel))) rfl
theorem wd_176 : Cond.methodLink "TempoPlayer$Score" 41 ⟨"TempoPlayer$Score", "placeBars", "()V"⟩ ∈ ab_all := ab_ina (ab_at3 (i := 87) (rfl)) rfl
theorem wd_177 : Cond.instanceMethod ⟨"TempoPlayer$Score", "placeBars", "()V"⟩ ∈ ab_all := ab_ina (ab_at3 (i := 89) (rfl)) rfl
theorem wd_178 : Cond.selects "TempoPlayer$Score" ⟨"TempoPlayer$Score", "placeBars", "()V"⟩ ⟨"TempoPlayer$Score", "placeBars", "()V"⟩ ∈ ab_all := ab_ina (List.mem_append_left _ (List.mem_of_getElem? (i := 6) (by decide +kernel))) rfl
theorem wd_179 : Cond.fieldLink "TempoPlayer$Score" 44 "TempoPlayer$Piece" "cues" "LTempoPlayer$Table;" ∈ ab_all := ab_ina (ab_at1 (i := 68) (rfl)) rfl
theorem wd_180 : Cond.fieldLink "TempoPlayer$Score" 48 "TempoPlayer$Table" "rows" "I" ∈ ab_all := ab_ina (ab_at1 (i := 49) (rfl)) rfl
theorem wd_181 : Cond.methodLink "TempoPlayer$Score" 54 ⟨"TempoPlayer$Table", "cell", "(II)I"⟩ ∈ ab_all := ab_ina (ab_at2 (i := 152) (rfl)) rfl
theorem wd_182 : Cond.fieldLink "TempoPlayer$Score" 58 "TempoPlayer$Score" "beats" "I" ∈ ab_all := ab_ina (ab_at1 (i := 84) (rfl)) rfl
theorem wd_183 : Cond.methodLink "TempoPlayer$Score" 61 ⟨"TempoPlayer$Table", "dropRow", "(I)V"⟩ ∈ ab_all := ab_ina (ab_at3 (i := 96) (rfl)) rfl
theorem wd_184 : Cond.fieldLink "TempoPlayer$Score" 65 "TempoPlayer$Piece" "bars" "LTempoPlayer$Table;" ∈ ab_all := ab_ina (ab_at1 (i := 62) (rfl)) rfl
theorem wd_185 : Cond.methodLink "TempoPlayer$Score" 68 Lib.Math.min.name ∈ ab_all := ab_ina (ab_at3 (i := 78) (rfl)) rfl
theorem wd_186 : Cond.static Lib.Math.min.name ∈ ab_all := ab_ina (ab_at3 (i := 54) (rfl)) rfl
theorem wd_187 : Cond.code Lib.Math.min.name Lib.Math.min.code 2 (some .int) ∈ ab_all := ab_ina (ab_at3 (i := 55) (by decide +kernel)) rfl
theorem wd_188 : Cond.fieldLink "TempoPlayer$Score" 73 "TempoPlayer$Piece" "marks" "LTempoPlayer$Table;" ∈ ab_all := ab_ina (ab_at1 (i := 65) (rfl)) rfl
theorem wd_189 : Cond.methodLink "TempoPlayer$Score" 76 ⟨"TempoPlayer$Score", "tempoUnder", "(II)I"⟩ ∈ ab_all := ab_ina (ab_at3 (i := 83) (rfl)) rfl
theorem wd_190 : Cond.instanceMethod ⟨"TempoPlayer$Score", "tempoUnder", "(II)I"⟩ ∈ ab_all := ab_ina (ab_at3 (i := 85) (rfl)) rfl
theorem wd_191 : Cond.selects "TempoPlayer$Score" ⟨"TempoPlayer$Score", "tempoUnder", "(II)I"⟩ ⟨"TempoPlayer$Score", "tempoUnder", "(II)I"⟩ ∈ ab_all := ab_ina (List.mem_append_left _ (List.mem_of_getElem? (i := 5) (by decide +kernel))) rfl
theorem wd_192 : Cond.methodLinkNest "TempoPlayer$Score" 79 ⟨"TempoPlayer", "quotient", "(JJ)J"⟩ "TempoPlayer" ∈ ab_odd := ab_ino (ab_at2 (i := 147) (rfl)) rfl
theorem wd_193 : Cond.fieldLink "TempoPlayer$Score" 83 "TempoPlayer$Score" "end" "J" ∈ ab_all := ab_ina (ab_at1 (i := 86) (rfl)) rfl
theorem wd_194 : Cond.methodLink "TempoPlayer$Score" 87 ⟨"TempoPlayer$Score", "firstBeatOf", "(I)I"⟩ ∈ ab_all := ab_ina (ab_at2 (i := 133) (rfl)) rfl
theorem wd_195 : Cond.constantLong "TempoPlayer$Score" 91 (1000) ∈ ab_all := ab_ina (ab_at2 (i := 191) (rfl)) rfl
theorem wd_196 : Cond.methodLink "TempoPlayer$Score" 93 ⟨"TempoPlayer$Score", "placeBeats", "(IIJ)V"⟩ ∈ ab_all := ab_ina (ab_at3 (i := 91) (rfl)) rfl
theorem wd_197 : Cond.instanceMethod ⟨"TempoPlayer$Score", "placeBeats", "(IIJ)V"⟩ ∈ ab_all := ab_ina (ab_at3 (i := 93) (rfl)) rfl
theorem wd_198 : Cond.selects "TempoPlayer$Score" ⟨"TempoPlayer$Score", "placeBeats", "(IIJ)V"⟩ ⟨"TempoPlayer$Score", "placeBeats", "(IIJ)V"⟩ ∈ ab_all := ab_ina (List.mem_append_left _ (List.mem_of_getElem? (i := 7) (by decide +kernel))) rfl
theorem wd_199 : Cond.methodLink "TempoPlayer$Score" 97 ⟨"TempoPlayer$Score", "naturalOf", "(I)J"⟩ ∈ ab_all := ab_ina (ab_at3 (i := 95) (rfl)) rfl
theorem wd_200 : Cond.methodLink "TempoPlayer$Score" 101 ⟨"TempoPlayer$Score", "barOf", "(I)I"⟩ ∈ ab_all := ab_ina (ab_at2 (i := 132) (rfl)) rfl
theorem wd_201 : Cond.constantLong "TempoPlayer$Score" 104 (600000000) ∈ ab_all := ab_ina (ab_at2 (i := 145) (rfl)) rfl
theorem wd_202 : Cond.methodLink "TempoPlayer$Score" 106 ⟨"TempoPlayer$Score", "tempoOf", "(I)I"⟩ ∈ ab_all := ab_ina (ab_at2 (i := 146) (rfl)) rfl
theorem wd_203 : Cond.methodLink "TempoPlayer$Score" 109 ⟨"TempoPlayer$Score", "placeInBar", "(I)I"⟩ ∈ ab_all := ab_ina (ab_at2 (i := 156) (rfl)) rfl
theorem wd_204 : Cond.methodLink "TempoPlayer$Score" 112 ⟨"TempoPlayer$Score", "beginOf", "(I)J"⟩ ∈ ab_all := ab_ina (ab_at2 (i := 45) (rfl)) rfl
theorem wd_205 : Cond.methodLink "TempoPlayer$Score" 115 ⟨"TempoPlayer$Score", "lengthOf", "(I)J"⟩ ∈ ab_all := ab_ina (ab_at2 (i := 169) (rfl)) rfl
theorem wd_206 : Cond.methodLink "TempoPlayer$Score" 118 ⟨"TempoPlayer$Score", "divisionOf", "(I)I"⟩ ∈ ab_all := ab_ina (ab_at2 (i := 170) (rfl)) rfl
theorem wd_207 : Cond.constantLong "TempoPlayer$Score" 121 (480) ∈ ab_all := ab_ina (ab_at2 (i := 229) (rfl)) rfl
theorem wd_208 : Cond.methodLink "TempoPlayer$Score" 123 ⟨"TempoPlayer$Score", "cuePlace", "(I)J"⟩ ∈ ab_all := ab_ina (ab_at2 (i := 234) (rfl)) rfl
theorem wd_209 : Cond.methodLink "TempoPlayer$Score" 126 ⟨"TempoPlayer$Score", "lengthOfBar", "(I)J"⟩ ∈ ab_all := ab_ina (ab_at2 (i := 196) (rfl)) rfl
theorem wd_210 : Cond.instanceMethod ⟨"TempoPlayer$Score", "lengthOfBar", "(I)J"⟩ ∈ ab_all := ab_ina (ab_at2 (i := 197) (rfl)) rfl
theorem wd_211 : Cond.selects "TempoPlayer$Score" ⟨"TempoPlayer$Score", "lengthOfBar", "(I)J"⟩ ⟨"TempoPlayer$Score", "lengthOfBar", "(I)J"⟩ ∈ ab_all := ab_ina (ab_at2 (i := 198) (rfl)) rfl
theorem wd_212 : Cond.methodLink "TempoPlayer$Piece" 3 Lib.objectInit ∈ ab_all := ab_ina (ab_at1 (i := 35) (rfl)) rfl
theorem wd_213 : Cond.classLink "TempoPlayer$Piece" 9 "TempoPlayer$Table" ∈ ab_all := ab_ina (ab_at1 (i := 36) (rfl)) rfl
theorem wd_214 : Cond.instantiable "TempoPlayer$Table" 4 ∈ ab_all := ab_ina (ab_at1 (i := 37) (rfl)) rfl
theorem wd_215 : Cond.initialized "TempoPlayer$Table" ∈ ab_all := ab_ina (ab_at1 (i := 4) (rfl)) rfl
theorem wd_216 : Cond.methodLink "TempoPlayer$Piece" 11 ⟨"TempoPlayer$Table", "<init>", "(II)V"⟩ ∈ ab_all := ab_ina (ab_at1 (i := 38) (rfl)) rfl
theorem wd_217 : Cond.instanceMethod ⟨"TempoPlayer$Table", "<init>", "(II)V"⟩ ∈ ab_all := ab_ina (ab_at1 (i := 39) (rfl)) rfl
theorem wd_218 : Cond.fieldLink "TempoPlayer$Piece" 14 "TempoPlayer$Piece" "bars" "LTempoPlayer$Table;" ∈ ab_all := ab_ina (ab_at1 (i := 61) (rfl)) rfl
theorem wd_219 : Cond.fieldLink "TempoPlayer$Piece" 20 "TempoPlayer$Piece" "marks" "LTempoPlayer$Table;" ∈ ab_all := ab_ina (ab_at1 (i := 64) (rfl)) rfl
theorem wd_220 : Cond.fieldLink "TempoPlayer$Piece" 23 "TempoPlayer$Piece" "cues" "LTempoPlayer$Table;" ∈ ab_all := ab_ina (ab_at1 (i := 67) (rfl)) rfl
theorem wd_221 : Cond.methodLink "TempoPlayer$Piece" 30 ⟨"TempoPlayer$Table", "copyFrom", "(LTempoPlayer$Table;)V"⟩ ∈ ab_all := ab_ina (ab_at3 (i := 49) (rfl)) rfl
theorem wd_222 : Cond.instanceMethod ⟨"TempoPlayer$Table", "copyFrom", "(LTempoPlayer$Table;)V"⟩ ∈ ab_all := ab_ina (ab_at3 (i := 50) (rfl)) rfl
theorem wd_223 : Cond.selects "TempoPlayer$Table" ⟨"TempoPlayer$Table", "copyFrom", "(LTempoPlayer$Table;)V"⟩ ⟨"TempoPlayer$Table", "copyFrom", "(LTempoPlayer$Table;)V"⟩ ∈ ab_all := ab_ina (ab_at3 (i := 51) (rfl)) rfl
theorem wd_224 : Cond.methodLink "TempoPlayer$Table" 1 Lib.objectInit ∈ ab_all := ab_ina (ab_at1 (i := 41) (rfl)) rfl
theorem wd_225 : Cond.fieldLink "TempoPlayer$Table" 7 "TempoPlayer$Table" "most" "I" ∈ ab_all := ab_ina (ab_at1 (i := 45) (rfl)) rfl
theorem wd_226 : Cond.fieldLink "TempoPlayer$Table" 13 "TempoPlayer$Table" "width" "I" ∈ ab_all := ab_ina (ab_at1 (i := 46) (rfl)) rfl
theorem wd_227 : Cond.methodLink "TempoPlayer$Table" 16 Lib.Math.max.name ∈ ab_all := ab_ina (ab_at1 (i := 42) (rfl)) rfl
theorem wd_228 : Cond.static Lib.Math.max.name ∈ ab_all := ab_ina (ab_at1 (i := 43) (rfl)) rfl
theorem wd_229 : Cond.code Lib.Math.max.name Lib.Math.max.code 2 (some .int) ∈ ab_all := ab_ina (ab_at1 (i := 44) (by decide +kernel)) rfl
theorem wd_230 : Cond.fieldLink "TempoPlayer$Table" 22 "TempoPlayer$Table" "cells" "[I" ∈ ab_all := ab_ina (ab_at1 (i := 47) (rfl)) rfl
theorem wd_231 : Cond.fieldLink "TempoPlayer$Table" 26 "TempoPlayer$Table" "rows" "I" ∈ ab_all := ab_ina (ab_at1 (i := 48) (rfl)) rfl
theorem wd_232 : Cond.methodLink "TempoPlayer$Table" 29 arraycopyName ∈ ab_all := ab_ina (ab_at3 (i := 56) (rfl)) rfl
theorem wd_233 : Cond.native arraycopyName ∈ ab_all := ab_ina (ab_at3 (i := 58) (rfl)) rfl
theorem wd_234 : Cond.static arraycopyName ∈ ab_all := ab_ina (ab_at3 (i := 57) (rfl)) rfl
theorem wd_235 : Cond.initialized "java/lang/System" ∈ ab_all := ab_ina (ab_at1 (i := 15) (rfl)) rfl
theorem wd_236 : Cond.methodLink "TempoPlayer$Table" 46 Lib.Math.min.name ∈ ab_all := ab_ina (ab_at3 (i := 53) (rfl)) rfl
theorem wd_237 : Cond.methodLink "TempoPlayer$Playback" 3 Lib.objectInit ∈ ab_all := ab_ina (ab_at1 (i := 111) (rfl)) rfl
theorem wd_238 : Cond.methodLink "TempoPlayer$History" 3 Lib.objectInit ∈ ab_all := ab_ina (ab_at1 (i := 141) (rfl)) rfl
theorem wd_239 : Cond.classLink "TempoPlayer$History" 9 ab_pc ∈ ab_all := ab_ina (ab_at1 (i := 142) (rfl)) rfl
theorem wd_240 : Cond.fieldLink "TempoPlayer$History" 11 "TempoPlayer$History" "kept" "[LTempoPlayer$Piece;" ∈ ab_all := ab_ina (ab_at1 (i := 145) (rfl)) rfl
theorem wd_241 : Cond.classLink "TempoPlayer$History" 9 "TempoPlayer$Piece" ∈ ab_all := ab_ina (ab_at1 (i := 142) (rfl)) rfl
theorem wd_242 : Cond.methodLinkNest "TempoPlayer$History" 17 ⟨"TempoPlayer$Piece", "<init>", "()V"⟩ "TempoPlayer" ∈ ab_odd := ab_ino (ab_at1 (i := 144) (rfl)) rfl
theorem wd_243 : Cond.fieldLink "TempoPlayer$History" 18 "TempoPlayer$History" "states" "I" ∈ ab_all := ab_ina (ab_at1 (i := 146) (rfl)) rfl
theorem wd_244 : Cond.methodLink "TempoPlayer$History" 22 ⟨"TempoPlayer$History", "moveOldestToEnd", "()V"⟩ ∈ ab_all := ab_ina (ab_at3 (i := 41) (rfl)) rfl
theorem wd_245 : Cond.instanceMethod ⟨"TempoPlayer$History", "moveOldestToEnd", "()V"⟩ ∈ ab_all := ab_ina (ab_at3 (i := 43) (rfl)) rfl
theorem wd_246 : Cond.selects "TempoPlayer$History" ⟨"TempoPlayer$History", "moveOldestToEnd", "()V"⟩ ⟨"TempoPlayer$History", "moveOldestToEnd", "()V"⟩ ∈ ab_all := ab_ina (List.mem_append_left _ (List.mem_of_getElem? (i := 2) (by decide +kernel))) rfl
theorem wd_247 : Cond.methodLink "TempoPlayer$History" 25 ⟨"TempoPlayer$Piece", "copyFrom", "(LTempoPlayer$Piece;)V"⟩ ∈ ab_all := ab_ina (ab_at3 (i := 45) (rfl)) rfl
theorem wd_248 : Cond.instanceMethod ⟨"TempoPlayer$Piece", "copyFrom", "(LTempoPlayer$Piece;)V"⟩ ∈ ab_all := ab_ina (ab_at3 (i := 46) (rfl)) rfl
theorem wd_249 : Cond.selects "TempoPlayer$Piece" ⟨"TempoPlayer$Piece", "copyFrom", "(LTempoPlayer$Piece;)V"⟩ ⟨"TempoPlayer$Piece", "copyFrom", "(LTempoPlayer$Piece;)V"⟩ ∈ ab_all := ab_ina (ab_at3 (i := 47) (rfl)) rfl
theorem wd_250 : Cond.methodLink "TempoPlayer$TextReader" 3 Lib.objectInit ∈ ab_all := ab_ina (ab_at1 (i := 159) (rfl)) rfl
theorem wd_251 : Cond.classLink "TempoPlayer$TextReader" 9 "TempoPlayer$Table" ∈ ab_all := ab_ina (ab_at1 (i := 160) (rfl)) rfl
theorem wd_252 : Cond.methodLink "TempoPlayer$TextReader" 11 ⟨"TempoPlayer$Table", "<init>", "(II)V"⟩ ∈ ab_all := ab_ina (ab_at1 (i := 161) (rfl)) rfl
theorem wd_253 : Cond.fieldLink "TempoPlayer$TextReader" 14 "TempoPlayer$TextReader" "bars" "LTempoPlayer$Table;" ∈ ab_all := ab_ina (ab_at1 (i := 162) (rfl)) rfl
theorem wd_254 : Cond.constant "TempoPlayerLaw" 7 528734635 ∈ ab_all := ab_ina (ab_at2 (i := 64) (rfl)) rfl
theorem wd_255 : Cond.constantLong "TempoPlayerLaw" 8 (600000000) ∈ ab_all := ab_ina (ab_at2 (i := 83) (rfl)) rfl
theorem wd_256 : Cond.methodLink "TempoPlayerLaw" 10 ⟨"TempoPlayerLaw", "tempo", "(I[I[I)I"⟩ ∈ ab_all := ab_ina (ab_at2 (i := 84) (rfl)) rfl
theorem wd_257 : Cond.static ⟨"TempoPlayerLaw", "tempo", "(I[I[I)I"⟩ ∈ ab_all := ab_ina (ab_at2 (i := 85) (rfl)) rfl
theorem wd_258 : Cond.constantLong "TempoPlayerLaw" 16 (1000) ∈ ab_all := ab_ina (ab_at2 (i := 87) (rfl)) rfl
theorem wd_259 : Cond.methodLink "TempoPlayerLaw" 18 ⟨"TempoPlayerLaw", "firstOf", "(I[I)I"⟩ ∈ ab_all := ab_ina (ab_at2 (i := 68) (rfl)) rfl
theorem wd_260 : Cond.static ⟨"TempoPlayerLaw", "firstOf", "(I[I)I"⟩ ∈ ab_all := ab_ina (ab_at2 (i := 69) (rfl)) rfl
theorem wd_261 : Cond.methodLink "TempoPlayerLaw" 22 ⟨"TempoPlayerLaw", "natural", "(II[I[I)J"⟩ ∈ ab_all := ab_ina (ab_at2 (i := 80) (rfl)) rfl
theorem wd_262 : Cond.static ⟨"TempoPlayerLaw", "natural", "(II[I[I)J"⟩ ∈ ab_all := ab_ina (ab_at2 (i := 81) (rfl)) rfl
theorem wd_263 : Cond.methodLink "TempoPlayerLaw" 26 ⟨"TempoPlayerLaw", "whole", "(I[I[I[I)J"⟩ ∈ ab_all := ab_ina (ab_at2 (i := 91) (rfl)) rfl
theorem wd_264 : Cond.static ⟨"TempoPlayerLaw", "whole", "(I[I[I[I)J"⟩ ∈ ab_all := ab_ina (ab_at2 (i := 92) (rfl)) rfl
theorem wd_265 : Cond.methodLink "TempoPlayerLaw" 30 ⟨"TempoPlayerLaw", "startOf", "(I[I[I[I)J"⟩ ∈ ab_all := ab_ina (ab_at2 (i := 88) (rfl)) rfl
theorem wd_266 : Cond.static ⟨"TempoPlayerLaw", "startOf", "(I[I[I[I)J"⟩ ∈ ab_all := ab_ina (ab_at2 (i := 89) (rfl)) rfl
theorem wd_267 : Cond.methodLink "TempoPlayerLaw" 33 ⟨"TempoPlayerLaw", "barOf", "(I[I)I"⟩ ∈ ab_all := ab_ina (ab_at2 (i := 71) (rfl)) rfl
theorem wd_268 : Cond.static ⟨"TempoPlayerLaw", "barOf", "(I[I)I"⟩ ∈ ab_all := ab_ina (ab_at2 (i := 72) (rfl)) rfl
theorem wd_269 : Cond.methodLink "TempoPlayerLaw" 36 ⟨"TempoPlayerLaw", "begins", "(II[I[I[I)J"⟩ ∈ ab_all := ab_ina (ab_at2 (i := 77) (rfl)) rfl
theorem wd_270 : Cond.static ⟨"TempoPlayerLaw", "begins", "(II[I[I[I)J"⟩ ∈ ab_all := ab_ina (ab_at2 (i := 78) (rfl)) rfl
theorem wd_271 : Cond.methodLink "TempoPlayerLaw" 40 ⟨"TempoPlayerLaw", "beginOf", "(I[I[I[I)J"⟩ ∈ ab_all := ab_ina (ab_at2 (i := 94) (rfl)) rfl
theorem wd_272 : Cond.static ⟨"TempoPlayerLaw", "beginOf", "(I[I[I[I)J"⟩ ∈ ab_all := ab_ina (ab_at2 (i := 95) (rfl)) rfl
theorem wd_273 : Cond.methodLink "TempoPlayerLaw" 43 ⟨"TempoPlayerLaw", "lengthOf", "(I[I[I[I)J"⟩ ∈ ab_all := ab_ina (ab_at2 (i := 74) (rfl)) rfl
theorem wd_274 : Cond.static ⟨"TempoPlayerLaw", "lengthOf", "(I[I[I[I)J"⟩ ∈ ab_all := ab_ina (ab_at2 (i := 75) (rfl)) rfl
theorem wd_275 : Cond.constantLong "TempoPlayerLaw" 46 (480) ∈ ab_all := ab_ina (ab_at2 (i := 219) (rfl)) rfl
theorem wd_276 : Cond.methodLink "TempoPlayerLaw" 48 ⟨"TempoPlayerLaw", "at", "(II)I"⟩ ∈ ab_all := ab_ina (ab_at2 (i := 97) (rfl)) rfl
theorem wd_277 : Cond.static ⟨"TempoPlayerLaw", "at", "(II)I"⟩ ∈ ab_all := ab_ina (ab_at2 (i := 98) (rfl)) rfl
theorem wd_278 : Cond.methodLink "TempoPlayerLaw" 52 ⟨"TempoPlayer", "addBar", "(II)I"⟩ ∈ ab_all := ab_ina (ab_at3 (i := 5) (rfl)) rfl
theorem wd_279 : Cond.instanceMethod ⟨"TempoPlayer", "addBar", "(II)I"⟩ ∈ ab_all := ab_ina (ab_at3 (i := 6) (rfl)) rfl
theorem wd_280 : Cond.selects "TempoPlayer" ⟨"TempoPlayer", "addBar", "(II)I"⟩ ⟨"TempoPlayer", "addBar", "(II)I"⟩ ∈ ab_all := ab_ina (ab_at3 (i := 7) (rfl)) rfl
theorem wd_281 : Cond.methodLink "TempoPlayerLaw" 57 ⟨"TempoPlayerLaw", "markAt", "(I[I[I)I"⟩ ∈ ab_all := ab_ina (ab_at3 (i := 117) (rfl)) rfl
theorem wd_282 : Cond.static ⟨"TempoPlayerLaw", "markAt", "(I[I[I)I"⟩ ∈ ab_all := ab_ina (ab_at3 (i := 118) (rfl)) rfl
theorem wd_283 : Cond.methodLink "TempoPlayerLaw" 60 ⟨"TempoPlayer", "mark", "(IIZ)I"⟩ ∈ ab_all := ab_ina (ab_at3 (i := 120) (rfl)) rfl
theorem wd_284 : Cond.instanceMethod ⟨"TempoPlayer", "mark", "(IIZ)I"⟩ ∈ ab_all := ab_ina (ab_at3 (i := 121) (rfl)) rfl
theorem wd_285 : Cond.selects "TempoPlayer" ⟨"TempoPlayer", "mark", "(IIZ)I"⟩ ⟨"TempoPlayer", "mark", "(IIZ)I"⟩ ∈ ab_all := ab_ina (ab_at3 (i := 122) (rfl)) rfl
theorem wd_286 : Cond.methodLink "TempoPlayerLaw" 64 ⟨"TempoPlayer", "cue", "(III)I"⟩ ∈ ab_all := ab_ina (ab_at3 (i := 139) (rfl)) rfl
theorem wd_287 : Cond.instanceMethod ⟨"TempoPlayer", "cue", "(III)I"⟩ ∈ ab_all := ab_ina (ab_at3 (i := 140) (rfl)) rfl
theorem wd_288 : Cond.selects "TempoPlayer" ⟨"TempoPlayer", "cue", "(III)I"⟩ ⟨"TempoPlayer", "cue", "(III)I"⟩ ∈ ab_all := ab_ina (ab_at3 (i := 141) (rfl)) rfl
theorem wd_289 : Cond.methodLink "TempoPlayerLaw" 68 ⟨"TempoPlayerLaw", "fall", "([I[I[I)V"⟩ ∈ ab_all := ab_ina (ab_at3 (i := 103) (rfl)) rfl
theorem wd_290 : Cond.static ⟨"TempoPlayerLaw", "fall", "([I[I[I)V"⟩ ∈ ab_all := ab_ina (ab_at3 (i := 104) (rfl)) rfl
theorem wd_291 : Cond.methodLink "TempoPlayerLaw" 72 ⟨"TempoPlayer", "setBar", "(III)I"⟩ ∈ ab_all := ab_ina (ab_at3 (i := 106) (rfl)) rfl
theorem wd_292 : Cond.instanceMethod ⟨"TempoPlayer", "setBar", "(III)I"⟩ ∈ ab_all := ab_ina (ab_at3 (i := 107) (rfl)) rfl
theorem wd_293 : Cond.selects "TempoPlayer" ⟨"TempoPlayer", "setBar", "(III)I"⟩ ⟨"TempoPlayer", "setBar", "(III)I"⟩ ∈ ab_all := ab_ina (ab_at3 (i := 108) (rfl)) rfl
theorem wd_294 : Cond.methodLink "TempoPlayerLaw" 75 ⟨"TempoPlayer", "beat", "(II)J"⟩ ∈ ab_all := ab_ina (ab_at2 (i := 100) (rfl)) rfl
theorem wd_295 : Cond.instanceMethod ⟨"TempoPlayer", "beat", "(II)J"⟩ ∈ ab_all := ab_ina (ab_at2 (i := 101) (rfl)) rfl
theorem wd_296 : Cond.selects "TempoPlayer" ⟨"TempoPlayer", "beat", "(II)J"⟩ ⟨"TempoPlayer", "beat", "(II)J"⟩ ∈ ab_all := ab_ina (ab_at2 (i := 102) (rfl)) rfl
theorem wd_297 : Cond.methodLink "TempoPlayerLaw" 79 ⟨"TempoPlayer", "click", "(II)J"⟩ ∈ ab_all := ab_ina (ab_at2 (i := 157) (rfl)) rfl
theorem wd_298 : Cond.instanceMethod ⟨"TempoPlayer", "click", "(II)J"⟩ ∈ ab_all := ab_ina (ab_at2 (i := 158) (rfl)) rfl
theorem wd_299 : Cond.selects "TempoPlayer" ⟨"TempoPlayer", "click", "(II)J"⟩ ⟨"TempoPlayer", "click", "(II)J"⟩ ∈ ab_all := ab_ina (ab_at2 (i := 159) (rfl)) rfl
theorem wd_300 : Cond.methodLink "TempoPlayerLaw" 82 ⟨"TempoPlayer", "bar", "(II)I"⟩ ∈ ab_all := ab_ina (ab_at2 (i := 171) (rfl)) rfl
theorem wd_301 : Cond.instanceMethod ⟨"TempoPlayer", "bar", "(II)I"⟩ ∈ ab_all := ab_ina (ab_at2 (i := 172) (rfl)) rfl
theorem wd_302 : Cond.selects "TempoPlayer" ⟨"TempoPlayer", "bar", "(II)I"⟩ ⟨"TempoPlayer", "bar", "(II)I"⟩ ∈ ab_all := ab_ina (ab_at2 (i := 173) (rfl)) rfl
theorem wd_303 : Cond.methodLink "TempoPlayerLaw" 85 ⟨"TempoPlayer", "count", "(I)J"⟩ ∈ ab_all := ab_ina (ab_at2 (i := 178) (rfl)) rfl
theorem wd_304 : Cond.instanceMethod ⟨"TempoPlayer", "count", "(I)J"⟩ ∈ ab_all := ab_ina (ab_at2 (i := 179) (rfl)) rfl
theorem wd_305 : Cond.selects "TempoPlayer" ⟨"TempoPlayer", "count", "(I)J"⟩ ⟨"TempoPlayer", "count", "(I)J"⟩ ∈ ab_all := ab_ina (ab_at2 (i := 180) (rfl)) rfl
theorem wd_306 : Cond.methodLink "TempoPlayerLaw" 89 ⟨"TempoPlayer", "meanTempo", "()D"⟩ ∈ ab_all := ab_ina (ab_at2 (i := 200) (rfl)) rfl
theorem wd_307 : Cond.instanceMethod ⟨"TempoPlayer", "meanTempo", "()D"⟩ ∈ ab_all := ab_ina (ab_at2 (i := 201) (rfl)) rfl
theorem wd_308 : Cond.selects "TempoPlayer" ⟨"TempoPlayer", "meanTempo", "()D"⟩ ⟨"TempoPlayer", "meanTempo", "()D"⟩ ∈ ab_all := ab_ina (ab_at2 (i := 202) (rfl)) rfl
theorem wd_309 : Cond.constantDouble "TempoPlayerLaw" 93 4723321873536909312 ∈ ab_all := ab_ina (ab_at2 (i := 205) (rfl)) rfl
theorem wd_310 : Cond.methodLink "TempoPlayerLaw" 95 ⟨"TempoPlayerLaw", "markBy", "(I[I[I)I"⟩ ∈ ab_all := ab_ina (ab_at2 (i := 209) (rfl)) rfl
theorem wd_311 : Cond.static ⟨"TempoPlayerLaw", "markBy", "(I[I[I)I"⟩ ∈ ab_all := ab_ina (ab_at2 (i := 210) (rfl)) rfl
theorem wd_312 : Cond.methodLink "TempoPlayerLaw" 98 ⟨"TempoPlayer", "tempo", "(II)I"⟩ ∈ ab_all := ab_ina (ab_at2 (i := 212) (rfl)) rfl
theorem wd_313 : Cond.instanceMethod ⟨"TempoPlayer", "tempo", "(II)I"⟩ ∈ ab_all := ab_ina (ab_at2 (i := 213) (rfl)) rfl
theorem wd_314 : Cond.selects "TempoPlayer" ⟨"TempoPlayer", "tempo", "(II)I"⟩ ⟨"TempoPlayer", "tempo", "(II)I"⟩ ∈ ab_all := ab_ina (ab_at2 (i := 214) (rfl)) rfl
theorem wd_315 : Cond.methodLink "TempoPlayerLaw" 100 ⟨"TempoPlayerLaw", "placeOf", "(I[I[I[I[I)J"⟩ ∈ ab_all := ab_ina (ab_at2 (i := 216) (rfl)) rfl
theorem wd_316 : Cond.static ⟨"TempoPlayerLaw", "placeOf", "(I[I[I[I[I)J"⟩ ∈ ab_all := ab_ina (ab_at2 (i := 217) (rfl)) rfl
theorem wd_317 : Cond.methodLink "TempoPlayerLaw" 104 ⟨"TempoPlayer", "cueAt", "(II)J"⟩ ∈ ab_all := ab_ina (ab_at2 (i := 220) (rfl)) rfl
theorem wd_318 : Cond.instanceMethod ⟨"TempoPlayer", "cueAt", "(II)J"⟩ ∈ ab_all := ab_ina (ab_at2 (i := 221) (rfl)) rfl
theorem wd_319 : Cond.selects "TempoPlayer" ⟨"TempoPlayer", "cueAt", "(II)J"⟩ ⟨"TempoPlayer", "cueAt", "(II)J"⟩ ∈ ab_all := ab_ina (ab_at2 (i := 222) (rfl)) rfl
theorem wd_320 : Cond.constantLong "TempoPlayerLaw" 107 (999) ∈ ab_all := ab_ina (ab_at2 (i := 238) (rfl)) rfl
theorem wd_321 : Cond.methodLink "TempoPlayerLaw" 109 ⟨"TempoPlayer", "at", "(JI)I"⟩ ∈ ab_all := ab_ina (ab_at1 (i := 205) (rfl)) rfl
theorem wd_322 : Cond.instanceMethod ⟨"TempoPlayer", "at", "(JI)I"⟩ ∈ ab_all := ab_ina (ab_at1 (i := 206) (rfl)) rfl
theorem wd_323 : Cond.selects "TempoPlayer" ⟨"TempoPlayer", "at", "(JI)I"⟩ ⟨"TempoPlayer", "at", "(JI)I"⟩ ∈ ab_all := ab_ina (ab_at1 (i := 207) (rfl)) rfl
theorem wd_324 : Cond.methodLink "TempoPlayerLaw" 112 ⟨"TempoPlayerLaw", "bar", "(LTempoPlayer;II[I[I)Z"⟩ ∈ ab_all := ab_ina (ab_at3 (i := 2) (rfl)) rfl
theorem wd_325 : Cond.static ⟨"TempoPlayerLaw", "bar", "(LTempoPlayer;II[I[I)Z"⟩ ∈ ab_all := ab_ina (ab_at3 (i := 3) (rfl)) rfl
theorem wd_326 : Cond.methodLink "TempoPlayerLaw" 115 ⟨"TempoPlayerLaw", "set", "(LTempoPlayer;II[I[I[I)Z"⟩ ∈ ab_all := ab_ina (ab_at3 (i := 100) (rfl)) rfl
theorem wd_327 : Cond.static ⟨"TempoPlayerLaw", "set", "(LTempoPlayer;II[I[I[I)Z"⟩ ∈ ab_all := ab_ina (ab_at3 (i := 101) (rfl)) rfl
theorem wd_328 : Cond.methodLink "TempoPlayerLaw" 119 ⟨"TempoPlayerLaw", "mark", "(LTempoPlayer;II[I[I[I)Z"⟩ ∈ ab_all := ab_ina (ab_at3 (i := 114) (rfl)) rfl
theorem wd_329 : Cond.static ⟨"TempoPlayerLaw", "mark", "(LTempoPlayer;II[I[I[I)Z"⟩ ∈ ab_all := ab_ina (ab_at3 (i := 115) (rfl)) rfl
theorem wd_330 : Cond.methodLink "TempoPlayerLaw" 121 ⟨"TempoPlayerLaw", "cue", "(LTempoPlayer;II[I[I[I)Z"⟩ ∈ ab_all := ab_ina (ab_at3 (i := 136) (rfl)) rfl
theorem wd_331 : Cond.static ⟨"TempoPlayerLaw", "cue", "(LTempoPlayer;II[I[I[I)Z"⟩ ∈ ab_all := ab_ina (ab_at3 (i := 137) (rfl)) rfl
theorem wd_332 : Cond.methodLink "TempoPlayerLaw" 123 ⟨"TempoPlayer", "removeBar", "(I)I"⟩ ∈ ab_all := ab_ina (ab_at3 (i := 145) (rfl)) rfl
theorem wd_333 : Cond.instanceMethod ⟨"TempoPlayer", "removeBar", "(I)I"⟩ ∈ ab_all := ab_ina (ab_at3 (i := 146) (rfl)) rfl
theorem wd_334 : Cond.selects "TempoPlayer" ⟨"TempoPlayer", "removeBar", "(I)I"⟩ ⟨"TempoPlayer", "removeBar", "(I)I"⟩ ∈ ab_all := ab_ina (ab_at3 (i := 147) (rfl)) rfl
theorem wd_335 : Cond.methodLink "TempoPlayerLaw" 127 ⟨"TempoPlayer", "removeMark", "(I)I"⟩ ∈ ab_all := ab_ina (ab_at3 (i := 150) (rfl)) rfl
theorem wd_336 : Cond.instanceMethod ⟨"TempoPlayer", "removeMark", "(I)I"⟩ ∈ ab_all := ab_ina (ab_at3 (i := 151) (rfl)) rfl
theorem wd_337 : Cond.selects "TempoPlayer" ⟨"TempoPlayer", "removeMark", "(I)I"⟩ ⟨"TempoPlayer", "removeMark", "(I)I"⟩ ∈ ab_all := ab_ina (ab_at3 (i := 152) (rfl)) rfl
theorem wd_338 : Cond.methodLink "TempoPlayerLaw" 130 ⟨"TempoPlayer", "removeCue", "(I)I"⟩ ∈ ab_all := ab_ina (ab_at3 (i := 154) (rfl)) rfl
theorem wd_339 : Cond.instanceMethod ⟨"TempoPlayer", "removeCue", "(I)I"⟩ ∈ ab_all := ab_ina (ab_at3 (i := 155) (rfl)) rfl
theorem wd_340 : Cond.selects "TempoPlayer" ⟨"TempoPlayer", "removeCue", "(I)I"⟩ ⟨"TempoPlayer", "removeCue", "(I)I"⟩ ∈ ab_all := ab_ina (ab_at3 (i := 156) (rfl)) rfl
theorem wd_341 : Cond.classLink "TempoPlayerLaw" 53 "TempoPlayer" ∈ ab_all := ab_ina (ab_at1 (i := 16) (rfl)) rfl
theorem wd_342 : Cond.instantiable "TempoPlayer" 10 ∈ ab_all := ab_ina (ab_at1 (i := 17) (rfl)) rfl
theorem wd_343 : Cond.initialized "TempoPlayer" ∈ ab_all := ab_ina (ab_at1 (i := 1) (rfl)) rfl
theorem wd_344 : Cond.methodLink "TempoPlayerLaw" 133 ⟨"TempoPlayer", "<init>", "()V"⟩ ∈ ab_all := ab_ina (ab_at1 (i := 18) (rfl)) rfl
theorem wd_345 : Cond.instanceMethod ⟨"TempoPlayer", "<init>", "()V"⟩ ∈ ab_all := ab_ina (ab_at1 (i := 19) (rfl)) rfl
theorem wd_346 : Cond.methodLink "TempoPlayerLaw" 134 ⟨"TempoPlayerLaw", "beats", "(LTempoPlayer;I[I[I[I)Z"⟩ ∈ ab_all := ab_ina (ab_at2 (i := 65) (rfl)) rfl
theorem wd_347 : Cond.static ⟨"TempoPlayerLaw", "beats", "(LTempoPlayer;I[I[I[I)Z"⟩ ∈ ab_all := ab_ina (ab_at2 (i := 66) (rfl)) rfl
theorem wd_348 : Cond.methodLink "TempoPlayerLaw" 138 ⟨"TempoPlayerLaw", "cell", "([II)I"⟩ ∈ ab_all := ab_ina (ab_at2 (i := 61) (rfl)) rfl
theorem wd_349 : Cond.static ⟨"TempoPlayerLaw", "cell", "([II)I"⟩ ∈ ab_all := ab_ina (ab_at2 (i := 62) (rfl)) rfl
theorem wd_350 : Cond.constant "TempoPlayerLaw" 142 16777215 ∈ ab_all := ab_ina (ab_at3 (i := 158) (rfl)) rfl
theorem wd_351 : Cond.methodLink "TempoPlayerLaw" 143 ⟨"TempoPlayerLaw", "act", "(LTempoPlayer;II[I[I[I[I)Z"⟩ ∈ ab_all := ab_ina (ab_at2 (i := 239) (rfl)) rfl
theorem wd_352 : Cond.static ⟨"TempoPlayerLaw", "act", "(LTempoPlayer;II[I[I[I[I)Z"⟩ ∈ ab_all := ab_ina (ab_at3 (i := 0) (rfl)) rfl
theorem wd_353 : Cond.methodLink "TempoPlayerLaw" 147 ⟨"TempoPlayerLaw", "marks", "(LTempoPlayer;[I[I[I[I)Z"⟩ ∈ ab_all := ab_ina (ab_at2 (i := 206) (rfl)) rfl
theorem wd_354 : Cond.static ⟨"TempoPlayerLaw", "marks", "(LTempoPlayer;[I[I[I[I)Z"⟩ ∈ ab_all := ab_ina (ab_at2 (i := 207) (rfl)) rfl
theorem wd_355 : Cond.methodLink "TempoPlayerLaw" 151 ⟨"TempoPlayerLaw", "back", "(LTempoPlayer;I[I[I[I)Z"⟩ ∈ ab_all := ab_ina (ab_at2 (i := 235) (rfl)) rfl
theorem wd_356 : Cond.static ⟨"TempoPlayerLaw", "back", "(LTempoPlayer;I[I[I[I)Z"⟩ ∈ ab_all := ab_ina (ab_at2 (i := 236) (rfl)) rfl
theorem wd_357 : Cond.initialized "TempoPlayerLaw" ∈ ab_all := ab_ina (ab_at1 (i := 0) (rfl)) rfl
theorem cl_0 {M : ab_M} (h : 5 + 1 ≤ M.2.2.2.2.1) : ab_two M ab_m0 := ⟨Nat.le_trans (Nat.add_le_add_left (show 1 ≤ 1 by decide) _) h, by have h9 := h; show 8 + (2 + 11) + 36 * 5 ≤ 36 * M.2.2.2.2.1; omega, by decide, by decide, wd_343, ab_ina (ab_at1 (i := 20) (rfl)) rfl⟩
theorem cl_1 {M : ab_M} (h : 7 + 1 ≤ M.2.2.2.2.1) : ab_two M ab_m1 := ⟨Nat.le_trans (Nat.add_le_add_left (show 1 ≤ 1 by decide) _) h, by have h9 := h; show 8 + (3 + 11) + 36 * 7 ≤ 36 * M.2.2.2.2.1; omega, by decide, by decide, wd_343, ab_ina (ab_at3 (i := 8) (rfl)) rfl⟩
theorem cl_2 {M : ab_M} (h : 7 + 1 ≤ M.2.2.2.2.1) : ab_two M ab_m2 := ⟨Nat.le_trans (Nat.add_le_add_left (show 1 ≤ 1 by decide) _) h, by have h9 := h; show 8 + (5 + 11) + 36 * 7 ≤ 36 * M.2.2.2.2.1; omega, by decide, by decide, wd_343, ab_ina (ab_at3 (i := 109) (rfl)) rfl⟩
theorem cl_3 {M : ab_M} (h : 7 + 1 ≤ M.2.2.2.2.1) : ab_two M ab_m3 := ⟨Nat.le_trans (Nat.add_le_add_left (show 1 ≤ 1 by decide) _) h, by have h9 := h; show 8 + (2 + 11) + 36 * 7 ≤ 36 * M.2.2.2.2.1; omega, by decide, by decide, wd_343, ab_ina (ab_at3 (i := 148) (rfl)) rfl⟩
theorem cl_4 {M : ab_M} (h : 7 + 1 ≤ M.2.2.2.2.1) : ab_two M ab_m4 := ⟨Nat.le_trans (Nat.add_le_add_left (show 1 ≤ 1 by decide) _) h, by have h9 := h; show 8 + (4 + 11) + 36 * 7 ≤ 36 * M.2.2.2.2.1; omega, by decide, by decide, wd_343, ab_ina (ab_at3 (i := 123) (rfl)) rfl⟩
theorem cl_5 {M : ab_M} (h : 7 + 1 ≤ M.2.2.2.2.1) : ab_two M ab_m5 := ⟨Nat.le_trans (Nat.add_le_add_left (show 1 ≤ 1 by decide) _) h, by have h9 := h; show 8 + (2 + 11) + 36 * 7 ≤ 36 * M.2.2.2.2.1; omega, by decide, by decide, wd_343, ab_ina (ab_at3 (i := 153) (rfl)) rfl⟩
theorem cl_6 {M : ab_M} (h : 7 + 1 ≤ M.2.2.2.2.1) : ab_two M ab_m6 := ⟨Nat.le_trans (Nat.add_le_add_left (show 1 ≤ 1 by decide) _) h, by have h9 := h; show 8 + (5 + 11) + 36 * 7 ≤ 36 * M.2.2.2.2.1; omega, by decide, by decide, wd_343, ab_ina (ab_at3 (i := 142) (rfl)) rfl⟩
theorem cl_7 {M : ab_M} (h : 7 + 1 ≤ M.2.2.2.2.1) : ab_two M ab_m7 := ⟨Nat.le_trans (Nat.add_le_add_left (show 1 ≤ 1 by decide) _) h, by have h9 := h; show 8 + (2 + 11) + 36 * 7 ≤ 36 * M.2.2.2.2.1; omega, by decide, by decide, wd_343, ab_ina (ab_at3 (i := 157) (rfl)) rfl⟩
theorem cl_8 {M : ab_M} (h : 7 + 1 ≤ M.2.2.2.2.1) : ab_two M ab_m8 := ⟨Nat.le_trans (Nat.add_le_add_left (show 1 ≤ 1 by decide) _) h, by have h9 := h; show 8 + (3 + 11) + 36 * 7 ≤ 36 * M.2.2.2.2.1; omega, by decide, by decide, wd_343, ab_ina (ab_at2 (i := 174) (rfl)) rfl⟩
theorem cl_9 {M : ab_M} (h : 7 + 1 ≤ M.2.2.2.2.1) : ab_two M ab_m9 := ⟨Nat.le_trans (Nat.add_le_add_left (show 1 ≤ 1 by decide) _) h, by have h9 := h; show 8 + (3 + 11) + 36 * 7 ≤ 36 * M.2.2.2.2.1; omega, by decide, by decide, wd_343, ab_ina (ab_at2 (i := 103) (rfl)) rfl⟩
theorem cl_10 {M : ab_M} (h : 7 + 1 ≤ M.2.2.2.2.1) : ab_two M ab_m10 := ⟨Nat.le_trans (Nat.add_le_add_left (show 1 ≤ 1 by decide) _) h, by have h9 := h; show 8 + (3 + 11) + 36 * 7 ≤ 36 * M.2.2.2.2.1; omega, by decide, by decide, wd_343, ab_ina (ab_at2 (i := 160) (rfl)) rfl⟩
theorem cl_11 {M : ab_M} (h : 7 + 1 ≤ M.2.2.2.2.1) : ab_two M ab_m11 := ⟨Nat.le_trans (Nat.add_le_add_left (show 1 ≤ 1 by decide) _) h, by have h9 := h; show 8 + (3 + 11) + 36 * 7 ≤ 36 * M.2.2.2.2.1; omega, by decide, by decide, wd_343, ab_ina (ab_at2 (i := 215) (rfl)) rfl⟩
theorem cl_12 {M : ab_M} (h : 7 + 1 ≤ M.2.2.2.2.1) : ab_two M ab_m12 := ⟨Nat.le_trans (Nat.add_le_add_left (show 1 ≤ 1 by decide) _) h, by have h9 := h; show 8 + (3 + 11) + 36 * 7 ≤ 36 * M.2.2.2.2.1; omega, by decide, by decide, wd_343, ab_ina (ab_at2 (i := 223) (rfl)) rfl⟩
theorem cl_13 {M : ab_M} (h : 7 + 1 ≤ M.2.2.2.2.1) : ab_two M ab_m13 := ⟨Nat.le_trans (Nat.add_le_add_left (show 1 ≤ 1 by decide) _) h, by have h9 := h; show 8 + (7 + 11) + 36 * 7 ≤ 36 * M.2.2.2.2.1; omega, by decide, by decide, wd_343, ab_ina (ab_at1 (i := 208) (rfl)) rfl⟩
theorem cl_14 {M : ab_M} (h : 7 + 1 ≤ M.2.2.2.2.1) : ab_two M ab_m14 := ⟨Nat.le_trans (Nat.add_le_add_left (show 1 ≤ 1 by decide) _) h, by have h9 := h; show 8 + (2 + 11) + 36 * 7 ≤ 36 * M.2.2.2.2.1; omega, by decide, by decide, wd_343, ab_ina (ab_at2 (i := 181) (rfl)) rfl⟩
theorem cl_15 {M : ab_M} (h : 2 + 1 ≤ M.2.2.2.2.1) : ab_two M ab_m15 := ⟨Nat.le_trans (Nat.add_le_add_left (show 1 ≤ 1 by decide) _) h, by have h9 := h; show 8 + (1 + 11) + 36 * 2 ≤ 36 * M.2.2.2.2.1; omega, by decide, by decide, wd_343, ab_ina (ab_at2 (i := 203) (rfl)) rfl⟩
theorem cl_16 {M : ab_M} (h : 6 + 1 ≤ M.2.2.2.2.1) : ab_two M ab_m16 := ⟨Nat.le_trans (Nat.add_le_add_left (show 1 ≤ 1 by decide) _) h, by have h9 := h; show 8 + (2 + 11) + 36 * 6 ≤ 36 * M.2.2.2.2.1; omega, by decide, by decide, wd_343, ab_ina (ab_at2 (i := 106) (rfl)) rfl⟩
theorem cl_17 {M : ab_M} (h : 6 + 1 ≤ M.2.2.2.2.1) : ab_two M ab_m17 := ⟨Nat.le_trans (Nat.add_le_add_left (show 1 ≤ 1 by decide) _) h, by have h9 := h; show 8 + (6 + 11) + 36 * 6 ≤ 36 * M.2.2.2.2.1; omega, by decide, by decide, wd_343, ab_ina (ab_at1 (i := 212) (rfl)) rfl⟩
theorem cl_18 {M : ab_M} (h : 6 + 1 ≤ M.2.2.2.2.1) : ab_two M ab_m18 := ⟨Nat.le_trans (Nat.add_le_add_left (show 1 ≤ 1 by decide) _) h, by have h9 := h; show 8 + (3 + 11) + 36 * 6 ≤ 36 * M.2.2.2.2.1; omega, by decide, by decide, wd_343, ab_ina (ab_at3 (i := 35) (rfl)) rfl⟩
theorem cl_19 {M : ab_M} (h : 6 + 1 ≤ M.2.2.2.2.1) : ab_two M ab_m19 := ⟨Nat.le_trans (Nat.add_le_add_left (show 1 ≤ 1 by decide) _) h, by have h9 := h; show 8 + (1 + 11) + 36 * 6 ≤ 36 * M.2.2.2.2.1; omega, by decide, by decide, wd_343, ab_ina (ab_at3 (i := 16) (rfl)) rfl⟩
theorem cl_20 {M : ab_M} (h : 3 + 1 ≤ M.2.2.2.2.1) : ab_two M ab_m20 := ⟨Nat.le_trans (Nat.add_le_add_left (show 1 ≤ 1 by decide) _) h, by have h9 := h; show 8 + (3 + 11) + 36 * 3 ≤ 36 * M.2.2.2.2.1; omega, by decide, by decide, wd_343, ab_ina (ab_at3 (i := 113) (rfl)) rfl⟩
theorem cl_21 {M : ab_M} (h : 3 + 1 ≤ M.2.2.2.2.1) : ab_two M ab_m21 := ⟨Nat.le_trans (Nat.add_le_add_left (show 1 ≤ 1 by decide) _) h, by have h9 := h; show 8 + (4 + 11) + 36 * 3 ≤ 36 * M.2.2.2.2.1; omega, by decide, by decide, wd_343, ab_ina (ab_at3 (i := 61) (rfl)) rfl⟩
theorem cl_22 {M : ab_M} (h : 3 + 1 ≤ M.2.2.2.2.1) : ab_two M ab_m22 := ⟨Nat.le_trans (Nat.add_le_add_left (show 1 ≤ 1 by decide) _) h, by have h9 := h; show 8 + (3 + 11) + 36 * 3 ≤ 36 * M.2.2.2.2.1; omega, by decide, by decide, wd_343, ab_ina (ab_at3 (i := 129) (rfl)) rfl⟩
theorem cl_23 {M : ab_M} (h : 3 + 1 ≤ M.2.2.2.2.1) : ab_two M ab_m23 := ⟨Nat.le_trans (Nat.add_le_add_left (show 1 ≤ 1 by decide) _) h, by have h9 := h; show 8 + (3 + 11) + 36 * 3 ≤ 36 * M.2.2.2.2.1; omega, by decide, by decide, wd_343, ab_ina (ab_at3 (i := 132) (rfl)) rfl⟩
theorem cl_24 {M : ab_M} (h : 4 + 1 ≤ M.2.2.2.2.1) : ab_two M ab_m24 := ⟨Nat.le_trans (Nat.add_le_add_left (show 1 ≤ 1 by decide) _) h, by have h9 := h; show 8 + (5 + 11) + 36 * 4 ≤ 36 * M.2.2.2.2.1; omega, by decide, by decide, wd_343, ab_ina (ab_at3 (i := 135) (rfl)) rfl⟩
theorem cl_25 {M : ab_M} (h : 2 + 1 ≤ M.2.2.2.2.1) : ab_two M ab_m25 := ⟨Nat.le_trans (Nat.add_le_add_left (show 1 ≤ 1 by decide) _) h, by have h9 := h; show 8 + (4 + 11) + 36 * 2 ≤ 36 * M.2.2.2.2.1; omega, by decide, by decide, wd_343, ab_ina (ab_at2 (i := 57) (rfl)) rfl⟩
theorem cl_26 {M : ab_M} (h : 4 + 1 ≤ M.2.2.2.2.1) : ab_two M ab_m26 := ⟨Nat.le_trans (Nat.add_le_add_left (show 1 ≤ 1 by decide) _) h, by have h9 := h; show 8 + (1 + 11) + 36 * 4 ≤ 36 * M.2.2.2.2.1; omega, by decide, by decide, wd_5, ab_ina (ab_at1 (i := 28) (rfl)) rfl⟩
theorem cl_27 {M : ab_M} (h : 6 + 1 ≤ M.2.2.2.2.1) : ab_two M ab_m27 := ⟨Nat.le_trans (Nat.add_le_add_left (show 1 ≤ 1 by decide) _) h, by have h9 := h; show 8 + (2 + 11) + 36 * 6 ≤ 36 * M.2.2.2.2.1; omega, by decide, by decide, wd_5, ab_ina (ab_at3 (i := 73) (rfl)) rfl⟩
theorem cl_28 {M : ab_M} (h : 3 + 1 ≤ M.2.2.2.2.1) : ab_two M ab_m28 := ⟨Nat.le_trans (Nat.add_le_add_left (show 1 ≤ 1 by decide) _) h, by have h9 := h; show 8 + (3 + 11) + 36 * 3 ≤ 36 * M.2.2.2.2.1; omega, by decide, by decide, wd_5, ab_ina (ab_at3 (i := 77) (rfl)) rfl⟩
theorem cl_29 {M : ab_M} (h : 4 + 1 ≤ M.2.2.2.2.1) : ab_two M ab_m29 := ⟨Nat.le_trans (Nat.add_le_add_left (show 1 ≤ 1 by decide) _) h, by have h9 := h; show 8 + (3 + 11) + 36 * 4 ≤ 36 * M.2.2.2.2.1; omega, by decide, by decide, wd_5, ab_ina (ab_at3 (i := 82) (rfl)) rfl⟩
theorem cl_30 {M : ab_M} (h : 3 + 1 ≤ M.2.2.2.2.1) : ab_two M ab_m30 := ⟨Nat.le_trans (Nat.add_le_add_left (show 1 ≤ 1 by decide) _) h, by have h9 := h; show 8 + (9 + 11) + 36 * 3 ≤ 36 * M.2.2.2.2.1; omega, by decide, by decide, wd_5, ab_ina (ab_at3 (i := 86) (rfl)) rfl⟩
theorem cl_31 {M : ab_M} (h : 5 + 1 ≤ M.2.2.2.2.1) : ab_two M ab_m31 := ⟨Nat.le_trans (Nat.add_le_add_left (show 1 ≤ 1 by decide) _) h, by have h9 := h; show 8 + (4 + 11) + 36 * 5 ≤ 36 * M.2.2.2.2.1; omega, by decide, by decide, wd_5, ab_ina (ab_at3 (i := 90) (rfl)) rfl⟩
theorem cl_32 {M : ab_M} (h : 4 + 1 ≤ M.2.2.2.2.1) : ab_two M ab_m32 := ⟨Nat.le_trans (Nat.add_le_add_left (show 1 ≤ 1 by decide) _) h, by have h9 := h; show 8 + (16 + 11) + 36 * 4 ≤ 36 * M.2.2.2.2.1; omega, by decide, by decide, wd_5, ab_ina (ab_at3 (i := 94) (rfl)) rfl⟩
theorem cl_33 {M : ab_M} (h : 2 + 1 ≤ M.2.2.2.2.1) : ab_two M ab_m33 := ⟨Nat.le_trans (Nat.add_le_add_left (show 1 ≤ 1 by decide) _) h, by have h9 := h; show 8 + (2 + 11) + 36 * 2 ≤ 36 * M.2.2.2.2.1; omega, by decide, by decide, wd_5, ab_ina (ab_at2 (i := 136) (rfl)) rfl⟩
theorem cl_34 {M : ab_M} (h : 2 + 1 ≤ M.2.2.2.2.1) : ab_two M ab_m34 := ⟨Nat.le_trans (Nat.add_le_add_left (show 1 ≤ 1 by decide) _) h, by have h9 := h; show 8 + (2 + 11) + 36 * 2 ≤ 36 * M.2.2.2.2.1; omega, by decide, by decide, wd_5, ab_ina (ab_at2 (i := 127) (rfl)) rfl⟩
theorem cl_35 {M : ab_M} (h : 3 + 1 ≤ M.2.2.2.2.1) : ab_two M ab_m35 := ⟨Nat.le_trans (Nat.add_le_add_left (show 1 ≤ 1 by decide) _) h, by have h9 := h; show 8 + (2 + 11) + 36 * 3 ≤ 36 * M.2.2.2.2.1; omega, by decide, by decide, wd_5, ab_ina (ab_at2 (i := 131) (rfl)) rfl⟩
theorem cl_36 {M : ab_M} (h : 2 + 1 ≤ M.2.2.2.2.1) : ab_two M ab_m36 := ⟨Nat.le_trans (Nat.add_le_add_left (show 1 ≤ 1 by decide) _) h, by have h9 := h; show 8 + (2 + 11) + 36 * 2 ≤ 36 * M.2.2.2.2.1; omega, by decide, by decide, wd_5, ab_ina (ab_at2 (i := 140) (rfl)) rfl⟩
theorem cl_37 {M : ab_M} (h : 3 + 1 ≤ M.2.2.2.2.1) : ab_two M ab_m37 := ⟨Nat.le_trans (Nat.add_le_add_left (show 1 ≤ 1 by decide) _) h, by have h9 := h; show 8 + (2 + 11) + 36 * 3 ≤ 36 * M.2.2.2.2.1; omega, by decide, by decide, wd_5, ab_ina (ab_at2 (i := 144) (rfl)) rfl⟩
theorem cl_38 {M : ab_M} (h : 2 + 1 ≤ M.2.2.2.2.1) : ab_two M ab_m38 := ⟨Nat.le_trans (Nat.add_le_add_left (show 1 ≤ 1 by decide) _) h, by have h9 := h; show 8 + (2 + 11) + 36 * 2 ≤ 36 * M.2.2.2.2.1; omega, by decide, by decide, wd_5, ab_ina (ab_at2 (i := 48) (rfl)) rfl⟩
theorem cl_39 {M : ab_M} (h : 2 + 1 ≤ M.2.2.2.2.1) : ab_two M ab_m39 := ⟨Nat.le_trans (Nat.add_le_add_left (show 1 ≤ 1 by decide) _) h, by have h9 := h; show 8 + (2 + 11) + 36 * 2 ≤ 36 * M.2.2.2.2.1; omega, by decide, by decide, wd_5, ab_ina (ab_at2 (i := 54) (rfl)) rfl⟩
theorem cl_40 {M : ab_M} (h : 4 + 1 ≤ M.2.2.2.2.1) : ab_two M ab_m40 := ⟨Nat.le_trans (Nat.add_le_add_left (show 1 ≤ 1 by decide) _) h, by have h9 := h; show 8 + (2 + 11) + 36 * 4 ≤ 36 * M.2.2.2.2.1; omega, by decide, by decide, wd_5, ab_ina (ab_at2 (i := 151) (rfl)) rfl⟩
theorem cl_41 {M : ab_M} (h : 3 + 1 ≤ M.2.2.2.2.1) : ab_two M ab_m41 := ⟨Nat.le_trans (Nat.add_le_add_left (show 1 ≤ 1 by decide) _) h, by have h9 := h; show 8 + (2 + 11) + 36 * 3 ≤ 36 * M.2.2.2.2.1; omega, by decide, by decide, wd_5, ab_ina (ab_at2 (i := 164) (rfl)) rfl⟩
theorem cl_42 {M : ab_M} (h : 4 + 1 ≤ M.2.2.2.2.1) : ab_two M ab_m42 := ⟨Nat.le_trans (Nat.add_le_add_left (show 1 ≤ 1 by decide) _) h, by have h9 := h; show 8 + (3 + 11) + 36 * 4 ≤ 36 * M.2.2.2.2.1; omega, by decide, by decide, wd_5, ab_ina (ab_at2 (i := 168) (rfl)) rfl⟩
theorem cl_43 {M : ab_M} (h : 3 + 1 ≤ M.2.2.2.2.1) : ab_two M ab_m43 := ⟨Nat.le_trans (Nat.add_le_add_left (show 1 ≤ 1 by decide) _) h, by have h9 := h; show 8 + (4 + 11) + 36 * 3 ≤ 36 * M.2.2.2.2.1; omega, by decide, by decide, wd_5, ab_ina (ab_at2 (i := 44) (rfl)) rfl⟩
theorem cl_44 {M : ab_M} (h : 3 + 1 ≤ M.2.2.2.2.1) : ab_two M ab_m44 := ⟨Nat.le_trans (Nat.add_le_add_left (show 1 ≤ 1 by decide) _) h, by have h9 := h; show 8 + (3 + 11) + 36 * 3 ≤ 36 * M.2.2.2.2.1; omega, by decide, by decide, wd_5, ab_ina (ab_at2 (i := 228) (rfl)) rfl⟩
theorem cl_45 {M : ab_M} (h : 4 + 1 ≤ M.2.2.2.2.1) : ab_two M ab_m45 := ⟨Nat.le_trans (Nat.add_le_add_left (show 1 ≤ 1 by decide) _) h, by have h9 := h; show 8 + (9 + 11) + 36 * 4 ≤ 36 * M.2.2.2.2.1; omega, by decide, by decide, wd_5, ab_ina (ab_at2 (i := 233) (rfl)) rfl⟩
theorem cl_46 {M : ab_M} (h : 3 + 1 ≤ M.2.2.2.2.1) : ab_two M ab_m46 := ⟨Nat.le_trans (Nat.add_le_add_left (show 1 ≤ 1 by decide) _) h, by have h9 := h; show 8 + (4 + 11) + 36 * 3 ≤ 36 * M.2.2.2.2.1; omega, by decide, by decide, wd_5, ab_ina (ab_at2 (i := 186) (rfl)) rfl⟩
theorem cl_47 {M : ab_M} (h : 3 + 1 ≤ M.2.2.2.2.1) : ab_two M ab_m47 := ⟨Nat.le_trans (Nat.add_le_add_left (show 1 ≤ 1 by decide) _) h, by have h9 := h; show 8 + (4 + 11) + 36 * 3 ≤ 36 * M.2.2.2.2.1; omega, by decide, by decide, wd_5, ab_ina (ab_at2 (i := 190) (rfl)) rfl⟩
theorem cl_48 {M : ab_M} (h : 4 + 1 ≤ M.2.2.2.2.1) : ab_two M ab_m48 := ⟨Nat.le_trans (Nat.add_le_add_left (show 1 ≤ 1 by decide) _) h, by have h9 := h; show 8 + (6 + 11) + 36 * 4 ≤ 36 * M.2.2.2.2.1; omega, by decide, by decide, wd_5, ab_ina (ab_at2 (i := 195) (rfl)) rfl⟩
theorem cl_49 {M : ab_M} (h : 3 + 1 ≤ M.2.2.2.2.1) : ab_two M ab_m49 := ⟨Nat.le_trans (Nat.add_le_add_left (show 1 ≤ 1 by decide) _) h, by have h9 := h; show 8 + (4 + 11) + 36 * 3 ≤ 36 * M.2.2.2.2.1; omega, by decide, by decide, wd_5, ab_ina (ab_at2 (i := 199) (rfl)) rfl⟩
theorem cl_50 {M : ab_M} (h : 3 + 1 ≤ M.2.2.2.2.1) : ab_two M ab_m50 := ⟨Nat.le_trans (Nat.add_le_add_left (show 1 ≤ 1 by decide) _) h, by have h9 := h; show 8 + (1 + 11) + 36 * 3 ≤ 36 * M.2.2.2.2.1; omega, by decide, by decide, wd_36, ab_ina (ab_at1 (i := 34) (rfl)) rfl⟩
theorem cl_51 {M : ab_M} (h : 3 + 1 ≤ M.2.2.2.2.1) : ab_two M ab_m51 := ⟨Nat.le_trans (Nat.add_le_add_left (show 1 ≤ 1 by decide) _) h, by have h9 := h; show 8 + (2 + 11) + 36 * 3 ≤ 36 * M.2.2.2.2.1; omega, by decide, by decide, wd_36, ab_ina (ab_at3 (i := 48) (rfl)) rfl⟩
theorem cl_52 {M : ab_M} (h : 2 + 1 ≤ M.2.2.2.2.1) : ab_two M ab_m52 := ⟨Nat.le_trans (Nat.add_le_add_left (show 1 ≤ 1 by decide) _) h, by have h9 := h; show 8 + (3 + 11) + 36 * 2 ≤ 36 * M.2.2.2.2.1; omega, by decide, by decide, wd_215, ab_ina (ab_at1 (i := 40) (rfl)) rfl⟩
theorem cl_53 {M : ab_M} (h : 2 + 1 ≤ M.2.2.2.2.1) : ab_two M ab_m53 := ⟨Nat.le_trans (Nat.add_le_add_left (show 1 ≤ 1 by decide) _) h, by have h9 := h; show 8 + (3 + 11) + 36 * 2 ≤ 36 * M.2.2.2.2.1; omega, by decide, by decide, wd_215, ab_ina (ab_at2 (i := 155) (rfl)) rfl⟩
theorem cl_54 {M : ab_M} (h : 2 + 1 ≤ M.2.2.2.2.1) : ab_two M ab_m54 := ⟨Nat.le_trans (Nat.add_le_add_left (show 1 ≤ 1 by decide) _) h, by have h9 := h; show 8 + (4 + 11) + 36 * 2 ≤ 36 * M.2.2.2.2.1; omega, by decide, by decide, wd_215, ab_ina (ab_at3 (i := 69) (rfl)) rfl⟩
theorem cl_55 {M : ab_M} (h : 2 + 1 ≤ M.2.2.2.2.1) : ab_two M ab_m55 := ⟨Nat.le_trans (Nat.add_le_add_left (show 1 ≤ 1 by decide) _) h, by have h9 := h; show 8 + (2 + 11) + 36 * 2 ≤ 36 * M.2.2.2.2.1; omega, by decide, by decide, wd_215, ab_ina (ab_at3 (i := 65) (rfl)) rfl⟩
theorem cl_56 {M : ab_M} (h : 2 + 1 ≤ M.2.2.2.2.1) : ab_two M ab_m56 := ⟨Nat.le_trans (Nat.add_le_add_left (show 1 ≤ 1 by decide) _) h, by have h9 := h; show 8 + (2 + 11) + 36 * 2 ≤ 36 * M.2.2.2.2.1; omega, by decide, by decide, wd_215, ab_ina (ab_at3 (i := 99) (rfl)) rfl⟩
theorem cl_57 {M : ab_M} (h : 2 + 1 ≤ M.2.2.2.2.1) : ab_two M ab_m57 := ⟨Nat.le_trans (Nat.add_le_add_left (show 1 ≤ 1 by decide) _) h, by have h9 := h; show 8 + (2 + 11) + 36 * 2 ≤ 36 * M.2.2.2.2.1; omega, by decide, by decide, wd_215, ab_ina (ab_at3 (i := 52) (rfl)) rfl⟩
theorem cl_58 {M : ab_M} (h : 2 + 1 ≤ M.2.2.2.2.1) : ab_two M ab_m58 := ⟨Nat.le_trans (Nat.add_le_add_left (show 1 ≤ 1 by decide) _) h, by have h9 := h; show 8 + (1 + 11) + 36 * 2 ≤ 36 * M.2.2.2.2.1; omega, by decide, by decide, wd_13, ab_ina (ab_at1 (i := 110) (rfl)) rfl⟩
theorem cl_59 {M : ab_M} (h : 4 + 1 ≤ M.2.2.2.2.1) : ab_two M ab_m59 := ⟨Nat.le_trans (Nat.add_le_add_left (show 1 ≤ 1 by decide) _) h, by have h9 := h; show 8 + (2 + 11) + 36 * 4 ≤ 36 * M.2.2.2.2.1; omega, by decide, by decide, wd_19, ab_ina (ab_at1 (i := 140) (rfl)) rfl⟩
theorem cl_60 {M : ab_M} (h : 4 + 1 ≤ M.2.2.2.2.1) : ab_two M ab_m60 := ⟨Nat.le_trans (Nat.add_le_add_left (show 1 ≤ 1 by decide) _) h, by have h9 := h; show 8 + (2 + 11) + 36 * 4 ≤ 36 * M.2.2.2.2.1; omega, by decide, by decide, wd_19, ab_ina (ab_at3 (i := 40) (rfl)) rfl⟩
theorem cl_61 {M : ab_M} (h : 2 + 1 ≤ M.2.2.2.2.1) : ab_two M ab_m61 := ⟨Nat.le_trans (Nat.add_le_add_left (show 1 ≤ 1 by decide) _) h, by have h9 := h; show 8 + (3 + 11) + 36 * 2 ≤ 36 * M.2.2.2.2.1; omega, by decide, by decide, wd_19, ab_ina (ab_at3 (i := 44) (rfl)) rfl⟩
theorem cl_62 {M : ab_M} (h : 3 + 1 ≤ M.2.2.2.2.1) : ab_two M ab_m62 := ⟨Nat.le_trans (Nat.add_le_add_left (show 1 ≤ 1 by decide) _) h, by have h9 := h; show 8 + (1 + 11) + 36 * 3 ≤ 36 * M.2.2.2.2.1; omega, by decide, by decide, wd_29, ab_ina (ab_at1 (i := 158) (rfl)) rfl⟩
theorem cl_63 {M : ab_M} (h : 2 + 1 ≤ M.2.2.2.2.1) : ab_two M ab_m63 := ⟨Nat.le_trans (Nat.add_le_add_left (show 1 ≤ 1 by decide) _) h, by have h9 := h; show 8 + (2 + 11) + 36 * 2 ≤ 36 * M.2.2.2.2.1; omega, by decide, by decide, wd_357, ab_ina (ab_at2 (i := 63) (rfl)) rfl⟩
theorem cl_64 {M : ab_M} (h : 2 + 1 ≤ M.2.2.2.2.1) : ab_two M ab_m64 := ⟨Nat.le_trans (Nat.add_le_add_left (show 1 ≤ 1 by decide) _) h, by have h9 := h; show 8 + (2 + 11) + 36 * 2 ≤ 36 * M.2.2.2.2.1; omega, by decide, by decide, wd_357, ab_ina (ab_at2 (i := 99) (rfl)) rfl⟩
theorem cl_65 {M : ab_M} (h : 2 + 1 ≤ M.2.2.2.2.1) : ab_two M ab_m65 := ⟨Nat.le_trans (Nat.add_le_add_left (show 1 ≤ 1 by decide) _) h, by have h9 := h; show 8 + (4 + 11) + 36 * 2 ≤ 36 * M.2.2.2.2.1; omega, by decide, by decide, wd_357, ab_ina (ab_at2 (i := 70) (rfl)) rfl⟩
theorem cl_66 {M : ab_M} (h : 2 + 1 ≤ M.2.2.2.2.1) : ab_two M ab_m66 := ⟨Nat.le_trans (Nat.add_le_add_left (show 1 ≤ 1 by decide) _) h, by have h9 := h; show 8 + (4 + 11) + 36 * 2 ≤ 36 * M.2.2.2.2.1; omega, by decide, by decide, wd_357, ab_ina (ab_at2 (i := 73) (rfl)) rfl⟩
theorem cl_67 {M : ab_M} (h : 2 + 1 ≤ M.2.2.2.2.1) : ab_two M ab_m67 := ⟨Nat.le_trans (Nat.add_le_add_left (show 1 ≤ 1 by decide) _) h, by have h9 := h; show 8 + (8 + 11) + 36 * 2 ≤ 36 * M.2.2.2.2.1; omega, by decide, by decide, wd_357, ab_ina (ab_at2 (i := 86) (rfl)) rfl⟩
theorem cl_68 {M : ab_M} (h : 3 + 1 ≤ M.2.2.2.2.1) : ab_two M ab_m68 := ⟨Nat.le_trans (Nat.add_le_add_left (show 1 ≤ 1 by decide) _) h, by have h9 := h; show 8 + (7 + 11) + 36 * 3 ≤ 36 * M.2.2.2.2.1; omega, by decide, by decide, wd_357, ab_ina (ab_at2 (i := 82) (rfl)) rfl⟩
theorem cl_69 {M : ab_M} (h : 4 + 1 ≤ M.2.2.2.2.1) : ab_two M ab_m69 := ⟨Nat.le_trans (Nat.add_le_add_left (show 1 ≤ 1 by decide) _) h, by have h9 := h; show 8 + (4 + 11) + 36 * 4 ≤ 36 * M.2.2.2.2.1; omega, by decide, by decide, wd_357, ab_ina (ab_at2 (i := 93) (rfl)) rfl⟩
theorem cl_70 {M : ab_M} (h : 5 + 1 ≤ M.2.2.2.2.1) : ab_two M ab_m70 := ⟨Nat.le_trans (Nat.add_le_add_left (show 1 ≤ 1 by decide) _) h, by have h9 := h; show 8 + (7 + 11) + 36 * 5 ≤ 36 * M.2.2.2.2.1; omega, by decide, by decide, wd_357, ab_ina (ab_at2 (i := 90) (rfl)) rfl⟩
theorem cl_71 {M : ab_M} (h : 6 + 1 ≤ M.2.2.2.2.1) : ab_two M ab_m71 := ⟨Nat.le_trans (Nat.add_le_add_left (show 1 ≤ 1 by decide) _) h, by have h9 := h; show 8 + (8 + 11) + 36 * 6 ≤ 36 * M.2.2.2.2.1; omega, by decide, by decide, wd_357, ab_ina (ab_at2 (i := 79) (rfl)) rfl⟩
theorem cl_72 {M : ab_M} (h : 7 + 1 ≤ M.2.2.2.2.1) : ab_two M ab_m72 := ⟨Nat.le_trans (Nat.add_le_add_left (show 1 ≤ 1 by decide) _) h, by have h9 := h; show 8 + (5 + 11) + 36 * 7 ≤ 36 * M.2.2.2.2.1; omega, by decide, by decide, wd_357, ab_ina (ab_at2 (i := 96) (rfl)) rfl⟩
theorem cl_73 {M : ab_M} (h : 7 + 1 ≤ M.2.2.2.2.1) : ab_two M ab_m73 := ⟨Nat.le_trans (Nat.add_le_add_left (show 1 ≤ 1 by decide) _) h, by have h9 := h; show 8 + (6 + 11) + 36 * 7 ≤ 36 * M.2.2.2.2.1; omega, by decide, by decide, wd_357, ab_ina (ab_at2 (i := 76) (rfl)) rfl⟩
theorem cl_74 {M : ab_M} (h : 8 + 1 ≤ M.2.2.2.2.1) : ab_two M ab_m74 := ⟨Nat.le_trans (Nat.add_le_add_left (show 1 ≤ 1 by decide) _) h, by have h9 := h; show 8 + (5 + 11) + 36 * 8 ≤ 36 * M.2.2.2.2.1; omega, by decide, by decide, wd_357, ab_ina (ab_at2 (i := 218) (rfl)) rfl⟩
theorem cl_75 {M : ab_M} (h : 3 + 1 ≤ M.2.2.2.2.1) : ab_two M ab_m75 := ⟨Nat.le_trans (Nat.add_le_add_left (show 1 ≤ 1 by decide) _) h, by have h9 := h; show 8 + (6 + 11) + 36 * 3 ≤ 36 * M.2.2.2.2.1; omega, by decide, by decide, wd_357, ab_ina (ab_at3 (i := 105) (rfl)) rfl⟩
theorem cl_76 {M : ab_M} (h : 2 + 1 ≤ M.2.2.2.2.1) : ab_two M ab_m76 := ⟨Nat.le_trans (Nat.add_le_add_left (show 1 ≤ 1 by decide) _) h, by have h9 := h; show 8 + (4 + 11) + 36 * 2 ≤ 36 * M.2.2.2.2.1; omega, by decide, by decide, wd_357, ab_ina (ab_at3 (i := 119) (rfl)) rfl⟩
theorem cl_77 {M : ab_M} (h : 2 + 1 ≤ M.2.2.2.2.1) : ab_two M ab_m77 := ⟨Nat.le_trans (Nat.add_le_add_left (show 1 ≤ 1 by decide) _) h, by have h9 := h; show 8 + (6 + 11) + 36 * 2 ≤ 36 * M.2.2.2.2.1; omega, by decide, by decide, wd_357, ab_ina (ab_at2 (i := 211) (rfl)) rfl⟩
theorem cl_78 {M : ab_M} (h : 8 + 1 ≤ M.2.2.2.2.1) : ab_two M ab_m78 := ⟨Nat.le_trans (Nat.add_le_add_left (show 1 ≤ 1 by decide) _) h, by have h9 := h; show 8 + (6 + 11) + 36 * 8 ≤ 36 * M.2.2.2.2.1; omega, by decide, by decide, wd_357, ab_ina (ab_at3 (i := 4) (rfl)) rfl⟩
theorem cl_79 {M : ab_M} (h : 8 + 1 ≤ M.2.2.2.2.1) : ab_two M ab_m79 := ⟨Nat.le_trans (Nat.add_le_add_left (show 1 ≤ 1 by decide) _) h, by have h9 := h; show 8 + (8 + 11) + 36 * 8 ≤ 36 * M.2.2.2.2.1; omega, by decide, by decide, wd_357, ab_ina (ab_at3 (i := 116) (rfl)) rfl⟩
theorem cl_80 {M : ab_M} (h : 8 + 1 ≤ M.2.2.2.2.1) : ab_two M ab_m80 := ⟨Nat.le_trans (Nat.add_le_add_left (show 1 ≤ 1 by decide) _) h, by have h9 := h; show 8 + (7 + 11) + 36 * 8 ≤ 36 * M.2.2.2.2.1; omega, by decide, by decide, wd_357, ab_ina (ab_at3 (i := 138) (rfl)) rfl⟩
theorem cl_81 {M : ab_M} (h : 8 + 1 ≤ M.2.2.2.2.1) : ab_two M ab_m81 := ⟨Nat.le_trans (Nat.add_le_add_left (show 1 ≤ 1 by decide) _) h, by have h9 := h; show 8 + (11 + 11) + 36 * 8 ≤ 36 * M.2.2.2.2.1; omega, by decide, by decide, wd_357, ab_ina (ab_at3 (i := 102) (rfl)) rfl⟩
theorem cl_82 {M : ab_M} (h : 8 + 2 ≤ M.2.2.2.2.1) : ab_two M ab_m82 := ⟨Nat.le_trans (Nat.add_le_add_left (show 1 ≤ 2 by decide) _) h, by have h9 := h; show 8 + (22 + 11) + 36 * 8 ≤ 36 * M.2.2.2.2.1; omega, by decide, by decide, wd_357, ab_ina (ab_at2 (i := 67) (rfl)) rfl⟩
theorem cl_83 {M : ab_M} (h : 9 + 1 ≤ M.2.2.2.2.1) : ab_two M ab_m83 := ⟨Nat.le_trans (Nat.add_le_add_left (show 1 ≤ 1 by decide) _) h, by have h9 := h; show 8 + (12 + 11) + 36 * 9 ≤ 36 * M.2.2.2.2.1; omega, by decide, by decide, wd_357, ab_ina (ab_at2 (i := 208) (rfl)) rfl⟩
theorem cl_84 {M : ab_M} (h : 8 + 1 ≤ M.2.2.2.2.1) : ab_two M ab_m84 := ⟨Nat.le_trans (Nat.add_le_add_left (show 1 ≤ 1 by decide) _) h, by have h9 := h; show 8 + (16 + 11) + 36 * 8 ≤ 36 * M.2.2.2.2.1; omega, by decide, by decide, wd_357, ab_ina (ab_at2 (i := 237) (rfl)) rfl⟩
theorem cl_85 {M : ab_M} (h : 9 + 1 ≤ M.2.2.2.2.1) : ab_two M ab_m85 := ⟨Nat.le_trans (Nat.add_le_add_left (show 1 ≤ 1 by decide) _) h, by have h9 := h; show 8 + (11 + 11) + 36 * 9 ≤ 36 * M.2.2.2.2.1; omega, by decide, by decide, wd_357, ab_ina (ab_at3 (i := 1) (rfl)) rfl⟩

