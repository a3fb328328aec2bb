theorem fl_RX5_7 : Cond.fieldLink RX5 7 "IdeasDeck$Ride" "stop" "I" ∈ xT := xT_of (List.mem_of_getElem? (i := 38) (by decide +kernel)) rfl
theorem fl_RX3_49 : Cond.fieldLink RX3 49 "IdeasDeck$Ride" "stop" "I" ∈ xT := xT_of (List.mem_of_getElem? (i := 39) (by decide +kernel)) rfl
theorem fl_RX8_141 : Cond.fieldLink RX8 141 "IdeasDeck$Ride" "stop" "I" ∈ xT := xT_of (List.mem_of_getElem? (i := 40) (by decide +kernel)) rfl
theorem fl_RX0_87 : Cond.fieldLink RX0 87 "IdeasDeck$Ride" "stop" "I" ∈ xT := xT_of (List.mem_of_getElem? (i := 41) (by decide +kernel)) rfl
theorem fl_RX5_13 : Cond.fieldLink RX5 13 "IdeasDeck$Ride" "up" "I" ∈ xT := xT_of (List.mem_of_getElem? (i := 42) (by decide +kernel)) rfl
theorem fl_RX7_58 : Cond.fieldLink RX7 58 "IdeasDeck$Ride" "up" "I" ∈ xT := xT_of (List.mem_of_getElem? (i := 43) (by decide +kernel)) rfl
theorem fl_RX8_166 : Cond.fieldLink RX8 166 "IdeasDeck$Ride" "up" "I" ∈ xT := xT_of (List.mem_of_getElem? (i := 44) (by decide +kernel)) rfl
theorem fl_RX0_109 : Cond.fieldLink RX0 109 "IdeasDeck$Ride" "up" "I" ∈ xT := xT_of (List.mem_of_getElem? (i := 45) (by decide +kernel)) rfl
theorem fl_RX5_16 : Cond.fieldLink RX5 16 "IdeasDeck$Ride" "scraped" "I" ∈ xT := xT_of (List.mem_of_getElem? (i := 46) (by decide +kernel)) rfl
theorem fl_RX3_59 : Cond.fieldLink RX3 59 "IdeasDeck$Ride" "scraped" "I" ∈ xT := xT_of (List.mem_of_getElem? (i := 47) (by decide +kernel)) rfl
theorem fl_RX0_131 : Cond.fieldLink RX0 131 "IdeasDeck$Ride" "scraped" "I" ∈ xT := xT_of (List.mem_of_getElem? (i := 48) (by decide +kernel)) rfl
theorem fl_RX8_194 : Cond.fieldLink RX8 194 "IdeasDeck$Ride" "scraped" "I" ∈ xT := xT_of (List.mem_of_getElem? (i := 49) (by decide +kernel)) rfl
theorem fl_RX5_19 : Cond.fieldLink RX5 19 "IdeasDeck$Ride" "left" "I" ∈ xT := xT_of (List.mem_of_getElem? (i := 50) (by decide +kernel)) rfl
theorem fl_RX3_56 : Cond.fieldLink RX3 56 "IdeasDeck$Ride" "left" "I" ∈ xT := xT_of (List.mem_of_getElem? (i := 51) (by decide +kernel)) rfl
theorem fl_RX0_122 : Cond.fieldLink RX0 122 "IdeasDeck$Ride" "left" "I" ∈ xT := xT_of (List.mem_of_getElem? (i := 52) (by decide +kernel)) rfl
theorem fl_RX8_197 : Cond.fieldLink RX8 197 "IdeasDeck$Ride" "left" "I" ∈ xT := xT_of (List.mem_of_getElem? (i := 53) (by decide +kernel)) rfl
theorem fl_RX5_22 : Cond.fieldLink RX5 22 "IdeasDeck$Ride" "levy" "I" ∈ xT := xT_of (List.mem_of_getElem? (i := 54) (by decide +kernel)) rfl
theorem fl_RX8_149 : Cond.fieldLink RX8 149 "IdeasDeck$Ride" "levy" "I" ∈ xT := xT_of (List.mem_of_getElem? (i := 55) (by decide +kernel)) rfl
theorem fl_RX3_100 : Cond.fieldLink RX3 100 "IdeasDeck$Ride" "levy" "I" ∈ xT := xT_of (List.mem_of_getElem? (i := 56) (by decide +kernel)) rfl
theorem fl_RX0_106 : Cond.fieldLink RX0 106 "IdeasDeck$Ride" "levy" "I" ∈ xT := xT_of (List.mem_of_getElem? (i := 57) (by decide +kernel)) rfl
theorem fl_RX0_9 : Cond.fieldLink RX0 9 "IdeasDeck$Bus" "room" "I" ∈ xT := xT_of (List.mem_of_getElem? (i := 71) (by decide +kernel)) rfl
theorem fl_RX8_81 : Cond.fieldLink RX8 81 "IdeasDeck$Bus" "room" "I" ∈ xT := xT_of (List.mem_of_getElem? (i := 72) (by decide +kernel)) rfl
theorem fl_RX6_34 : Cond.fieldLink RX6 34 "IdeasDeck$Bus" "room" "I" ∈ xT := xT_of (List.mem_of_getElem? (i := 73) (by decide +kernel)) rfl
theorem fl_RX4_76 : Cond.fieldLink RX4 76 "IdeasDeck$Bus" "room" "I" ∈ xT := xT_of (List.mem_of_getElem? (i := 74) (by decide +kernel)) rfl
theorem fl_RX0_15 : Cond.fieldLink RX0 15 "IdeasDeck$Bus" "heights" "[I" ∈ xT := xT_of (List.mem_of_getElem? (i := 75) (by decide +kernel)) rfl
theorem fl_RX8_87 : Cond.fieldLink RX8 87 "IdeasDeck$Bus" "heights" "[I" ∈ xT := xT_of (List.mem_of_getElem? (i := 76) (by decide +kernel)) rfl
theorem fl_RX4_86 : Cond.fieldLink RX4 86 "IdeasDeck$Bus" "heights" "[I" ∈ xT := xT_of (List.mem_of_getElem? (i := 77) (by decide +kernel)) rfl
theorem fl_RX6_13 : Cond.fieldLink RX6 13 "IdeasDeck$Bus" "ideas" "I" ∈ xT := xT_of (List.mem_of_getElem? (i := 78) (by decide +kernel)) rfl
theorem fl_RX8_74 : Cond.fieldLink RX8 74 "IdeasDeck$Bus" "ideas" "I" ∈ xT := xT_of (List.mem_of_getElem? (i := 79) (by decide +kernel)) rfl
theorem fl_RX0_57 : Cond.fieldLink RX0 57 "IdeasDeck$Bus" "ideas" "I" ∈ xT := xT_of (List.mem_of_getElem? (i := 80) (by decide +kernel)) rfl
theorem fl_RX1_19 : Cond.fieldLink RX1 19 "IdeasDeck$Bus" "ideas" "I" ∈ xT := xT_of (List.mem_of_getElem? (i := 81) (by decide +kernel)) rfl
theorem fl_RX4_89 : Cond.fieldLink RX4 89 "IdeasDeck$Bus" "ideas" "I" ∈ xT := xT_of (List.mem_of_getElem? (i := 82) (by decide +kernel)) rfl
theorem fl_RX3_78 : Cond.fieldLink RX3 78 "IdeasDeck$Bus" "ideas" "I" ∈ xT := xT_of (List.mem_of_getElem? (i := 83) (by decide +kernel)) rfl
theorem fl_RX0_19 : Cond.fieldLink RX0 19 "IdeasDeck$Bus" "kinds" "[I" ∈ xT := xT_of (List.mem_of_getElem? (i := 84) (by decide +kernel)) rfl
theorem fl_RX8_178 : Cond.fieldLink RX8 178 "IdeasDeck$Bus" "kinds" "[I" ∈ xT := xT_of (List.mem_of_getElem? (i := 85) (by decide +kernel)) rfl
theorem fl_RX0_22 : Cond.fieldLink RX0 22 "IdeasDeck$Bus" "feet" "[I" ∈ xT := xT_of (List.mem_of_getElem? (i := 86) (by decide +kernel)) rfl
theorem fl_RX8_181 : Cond.fieldLink RX8 181 "IdeasDeck$Bus" "feet" "[I" ∈ xT := xT_of (List.mem_of_getElem? (i := 87) (by decide +kernel)) rfl
theorem fl_RX0_25 : Cond.fieldLink RX0 25 "IdeasDeck$Bus" "ons" "[I" ∈ xT := xT_of (List.mem_of_getElem? (i := 88) (by decide +kernel)) rfl
theorem fl_RX3_36 : Cond.fieldLink RX3 36 "IdeasDeck$Bus" "ons" "[I" ∈ xT := xT_of (List.mem_of_getElem? (i := 89) (by decide +kernel)) rfl
theorem fl_RX8_155 : Cond.fieldLink RX8 155 "IdeasDeck$Bus" "ons" "[I" ∈ xT := xT_of (List.mem_of_getElem? (i := 90) (by decide +kernel)) rfl
theorem fl_RX0_28 : Cond.fieldLink RX0 28 "IdeasDeck$Bus" "offs" "[I" ∈ xT := xT_of (List.mem_of_getElem? (i := 91) (by decide +kernel)) rfl
theorem fl_RX7_24 : Cond.fieldLink RX7 24 "IdeasDeck$Bus" "offs" "[I" ∈ xT := xT_of (List.mem_of_getElem? (i := 92) (by decide +kernel)) rfl
theorem fl_RX3_81 : Cond.fieldLink RX3 81 "IdeasDeck$Bus" "offs" "[I" ∈ xT := xT_of (List.mem_of_getElem? (i := 93) (by decide +kernel)) rfl
theorem fl_RX8_184 : Cond.fieldLink RX8 184 "IdeasDeck$Bus" "offs" "[I" ∈ xT := xT_of (List.mem_of_getElem? (i := 94) (by decide +kernel)) rfl
theorem fl_RX0_31 : Cond.fieldLink RX0 31 "IdeasDeck$Bus" "quarrels" "[I" ∈ xT := xT_of (List.mem_of_getElem? (i := 95) (by decide +kernel)) rfl
theorem fl_RX1_28 : Cond.fieldLink RX1 28 "IdeasDeck$Bus" "quarrels" "[I" ∈ xT := xT_of (List.mem_of_getElem? (i := 96) (by decide +kernel)) rfl
theorem fl_RX8_102 : Cond.fieldLink RX8 102 "IdeasDeck$Bus" "quarrels" "[I" ∈ xT := xT_of (List.mem_of_getElem? (i := 97) (by decide +kernel)) rfl
theorem fl_RX0_60 : Cond.fieldLink RX0 60 "IdeasDeck$Bus" "notes" "I" ∈ xT := xT_of (List.mem_of_getElem? (i := 98) (by decide +kernel)) rfl
theorem fl_RX8_240 : Cond.fieldLink RX8 240 "IdeasDeck$Bus" "notes" "I" ∈ xT := xT_of (List.mem_of_getElem? (i := 99) (by decide +kernel)) rfl
theorem fl_RX0_34 : Cond.fieldLink RX0 34 "IdeasDeck$Bus" "noteIdeas" "[I" ∈ xT := xT_of (List.mem_of_getElem? (i := 100) (by decide +kernel)) rfl
theorem fl_RX0_37 : Cond.fieldLink RX0 37 "IdeasDeck$Bus" "noteStops" "[I" ∈ xT := xT_of (List.mem_of_getElem? (i := 101) (by decide +kernel)) rfl
theorem fl_RX0_40 : Cond.fieldLink RX0 40 "IdeasDeck$Bus" "noteSways" "[I" ∈ xT := xT_of (List.mem_of_getElem? (i := 102) (by decide +kernel)) rfl
theorem fl_RX0_43 : Cond.fieldLink RX0 43 "IdeasDeck$Bus" "noteTalls" "[I" ∈ xT := xT_of (List.mem_of_getElem? (i := 103) (by decide +kernel)) rfl
theorem fl_RX0_49 : Cond.fieldLink RX0 49 "IdeasDeck$Bus" "ride" "LIdeasDeck$Ride;" ∈ xT := xT_of (List.mem_of_getElem? (i := 104) (by decide +kernel)) rfl
theorem fl_RX3_22 : Cond.fieldLink RX3 22 "IdeasDeck$Bus" "ride" "LIdeasDeck$Ride;" ∈ xT := xT_of (List.mem_of_getElem? (i := 105) (by decide +kernel)) rfl
theorem fl_RX8_137 : Cond.fieldLink RX8 137 "IdeasDeck$Bus" "ride" "LIdeasDeck$Ride;" ∈ xT := xT_of (List.mem_of_getElem? (i := 106) (by decide +kernel)) rfl
theorem fl_RX0_53 : Cond.fieldLink RX0 53 "IdeasDeck$Bus" "past" "[LIdeasDeck$Ride;" ∈ xT := xT_of (List.mem_of_getElem? (i := 107) (by decide +kernel)) rfl
theorem fl_RX0_66 : Cond.fieldLink RX0 66 "IdeasDeck$Bus" "undoable" "I" ∈ xT := xT_of (List.mem_of_getElem? (i := 108) (by decide +kernel)) rfl
theorem fl_RX8_84 : Cond.fieldLink RX8 84 "IdeasDeck$Bus" "undoable" "I" ∈ xT := xT_of (List.mem_of_getElem? (i := 109) (by decide +kernel)) rfl
theorem fl_RX3_12 : Cond.fieldLink RX3 12 "IdeasDeck$Journey" "ride" "LIdeasDeck$Ride;" ∈ xT := xT_of (List.mem_of_getElem? (i := 152) (by decide +kernel)) rfl
theorem fl_RX7_47 : Cond.fieldLink RX7 47 "IdeasDeck$Journey" "ride" "LIdeasDeck$Ride;" ∈ xT := xT_of (List.mem_of_getElem? (i := 153) (by decide +kernel)) rfl
theorem fl_RX8_207 : Cond.fieldLink RX8 207 "IdeasDeck$Journey" "ride" "LIdeasDeck$Ride;" ∈ xT := xT_of (List.mem_of_getElem? (i := 154) (by decide +kernel)) rfl
theorem fl_RX3_18 : Cond.fieldLink RX3 18 "IdeasDeck$Journey" "boarding" "[I" ∈ xT := xT_of (List.mem_of_getElem? (i := 155) (by decide +kernel)) rfl
theorem fl_RX7_40 : Cond.fieldLink RX7 40 "IdeasDeck$Journey" "boarding" "[I" ∈ xT := xT_of (List.mem_of_getElem? (i := 156) (by decide +kernel)) rfl
theorem fl_RX7_51 : Cond.fieldLink RX7 51 "IdeasDeck$Journey" "lift" "I" ∈ xT := xT_of (List.mem_of_getElem? (i := 157) (by decide +kernel)) rfl
theorem fl_RX3_45 : Cond.fieldLink RX3 45 "IdeasDeck$Journey" "lift" "I" ∈ xT := xT_of (List.mem_of_getElem? (i := 158) (by decide +kernel)) rfl
theorem fl_RX1_9 : Cond.fieldLink RX1 9 "IdeasDeck$Decks" "deckOf" "[I" ∈ xT := xT_of (List.mem_of_getElem? (i := 173) (by decide +kernel)) rfl
theorem fl_RX8_218 : Cond.fieldLink RX8 218 "IdeasDeck$Decks" "deckOf" "[I" ∈ xT := xT_of (List.mem_of_getElem? (i := 174) (by decide +kernel)) rfl
theorem fl_RX6_7 : Cond.fieldLink RX6 7 "IdeasDeck$Sets" "found" "I" ∈ xT := xT_of (List.mem_of_getElem? (i := 184) (by decide +kernel)) rfl
theorem fl_RX8_231 : Cond.fieldLink RX8 231 "IdeasDeck$Sets" "found" "I" ∈ xT := xT_of (List.mem_of_getElem? (i := 185) (by decide +kernel)) rfl
theorem fl_RX6_18 : Cond.fieldLink RX6 18 "IdeasDeck$Sets" "inAll" "I" ∈ xT := xT_of (List.mem_of_getElem? (i := 186) (by decide +kernel)) rfl
theorem fl_RX8_234 : Cond.fieldLink RX8 234 "IdeasDeck$Sets" "inAll" "I" ∈ xT := xT_of (List.mem_of_getElem? (i := 187) (by decide +kernel)) rfl
theorem fl_RX6_21 : Cond.fieldLink RX6 21 "IdeasDeck$Sets" "inSome" "I" ∈ xT := xT_of (List.mem_of_getElem? (i := 188) (by decide +kernel)) rfl
theorem fl_RX8_237 : Cond.fieldLink RX8 237 "IdeasDeck$Sets" "inSome" "I" ∈ xT := xT_of (List.mem_of_getElem? (i := 189) (by decide +kernel)) rfl
theorem fl_RX7_9 : Cond.fieldLink RX7 9 "IdeasDeck$Two" "gainsOfA" "[I" ∈ xT := xT_of (List.mem_of_getElem? (i := 203) (by decide +kernel)) rfl
theorem fl_RX7_15 : Cond.fieldLink RX7 15 "IdeasDeck$Two" "gainsOfB" "[I" ∈ xT := xT_of (List.mem_of_getElem? (i := 204) (by decide +kernel)) rfl
theorem fl_RX7_27 : Cond.fieldLink RX7 27 "IdeasDeck$Two" "choicesOfA" "I" ∈ xT := xT_of (List.mem_of_getElem? (i := 205) (by decide +kernel)) rfl
theorem fl_RX7_31 : Cond.fieldLink RX7 31 "IdeasDeck$Two" "choicesOfB" "I" ∈ xT := xT_of (List.mem_of_getElem? (i := 206) (by decide +kernel)) rfl
theorem fl_RX2_7 : Cond.fieldLink RX2 7 "IdeasDeck$Fraction" "above" "J" ∈ xT := xT_of (List.mem_of_getElem? (i := 222) (by decide +kernel)) rfl
theorem fl_RX8_278 : Cond.fieldLink RX8 278 "IdeasDeck$Fraction" "above" "J" ∈ xT := xT_of (List.mem_of_getElem? (i := 223) (by decide +kernel)) rfl
theorem fl_RX2_13 : Cond.fieldLink RX2 13 "IdeasDeck$Fraction" "below" "J" ∈ xT := xT_of (List.mem_of_getElem? (i := 224) (by decide +kernel)) rfl
theorem fl_RX8_282 : Cond.fieldLink RX8 282 "IdeasDeck$Fraction" "below" "J" ∈ xT := xT_of (List.mem_of_getElem? (i := 225) (by decide +kernel)) rfl
theorem fl_RX4_9 : Cond.fieldLink RX4 9 "IdeasDeck$Reader" "text" "[I" ∈ xT := xT_of (List.mem_of_getElem? (i := 239) (by decide +kernel)) rfl
theorem fl_RX4_22 : Cond.fieldLink RX4 22 "IdeasDeck$Reader" "length" "I" ∈ xT := xT_of (List.mem_of_getElem? (i := 240) (by decide +kernel)) rfl
theorem fl_RX8_113 : Cond.fieldLink RX8 113 "IdeasDeck$Reader" "length" "I" ∈ xT := xT_of (List.mem_of_getElem? (i := 241) (by decide +kernel)) rfl
theorem fl_RX4_18 : Cond.fieldLink RX4 18 "IdeasDeck$Reader" "told" "LIdeasDeck$Bus;" ∈ xT := xT_of (List.mem_of_getElem? (i := 242) (by decide +kernel)) rfl
theorem fl_RX8_127 : Cond.fieldLink RX8 127 "IdeasDeck$Reader" "told" "LIdeasDeck$Bus;" ∈ xT := xT_of (List.mem_of_getElem? (i := 243) (by decide +kernel)) rfl
theorem fl_RX4_45 : Cond.fieldLink RX4 45 "IdeasDeck$Reader" "items" "I" ∈ xT := xT_of (List.mem_of_getElem? (i := 244) (by decide +kernel)) rfl
theorem fl_RX8_134 : Cond.fieldLink RX8 134 "IdeasDeck$Reader" "items" "I" ∈ xT := xT_of (List.mem_of_getElem? (i := 245) (by decide +kernel)) rfl
theorem fl_RX8_124 : Cond.fieldLink RX8 124 "IdeasDeck$Reader" "place" "I" ∈ xT := xT_of (List.mem_of_getElem? (i := 246) (by decide +kernel)) rfl
theorem fl_RX4_104 : Cond.fieldLink RX4 104 "IdeasDeck$Reader" "place" "I" ∈ xT := xT_of (List.mem_of_getElem? (i := 247) (by decide +kernel)) rfl
theorem fl_RX4_29 : Cond.fieldLink RX4 29 "IdeasDeck$Reader" "next" "I" ∈ xT := xT_of (List.mem_of_getElem? (i := 248) (by decide +kernel)) rfl
theorem fl_RX4_48 : Cond.fieldLink RX4 48 "IdeasDeck$Reader" "token" "I" ∈ xT := xT_of (List.mem_of_getElem? (i := 249) (by decide +kernel)) rfl
theorem fl_RX4_73 : Cond.fieldLink RX4 73 "IdeasDeck$Reader" "number" "I" ∈ xT := xT_of (List.mem_of_getElem? (i := 250) (by decide +kernel)) rfl
theorem fl_RX8_12 : Cond.fieldLink RX8 12 "IdeasDeck" "bus" "LIdeasDeck$Bus;" ∈ xT := xT_of (List.mem_of_getElem? (i := 268) (by decide +kernel)) rfl
theorem fl_RX8_16 : Cond.fieldLink RX8 16 "IdeasDeck" "images" "[LIdeasDeck$Bus;" ∈ xT := xT_of (List.mem_of_getElem? (i := 269) (by decide +kernel)) rfl
theorem fl_RX8_20 : Cond.fieldLink RX8 20 "IdeasDeck" "kept" "[Z" ∈ xT := xT_of (List.mem_of_getElem? (i := 270) (by decide +kernel)) rfl
theorem fl_RX8_27 : Cond.fieldLink RX8 27 "IdeasDeck" "journey" "LIdeasDeck$Journey;" ∈ xT := xT_of (List.mem_of_getElem? (i := 271) (by decide +kernel)) rfl
theorem fl_RX8_34 : Cond.fieldLink RX8 34 "IdeasDeck" "parting" "LIdeasDeck$Decks;" ∈ xT := xT_of (List.mem_of_getElem? (i := 272) (by decide +kernel)) rfl
theorem fl_RX8_41 : Cond.fieldLink RX8 41 "IdeasDeck" "sets" "LIdeasDeck$Sets;" ∈ xT := xT_of (List.mem_of_getElem? (i := 273) (by decide +kernel)) rfl
theorem fl_RX8_48 : Cond.fieldLink RX8 48 "IdeasDeck" "game" "LIdeasDeck$Two;" ∈ xT := xT_of (List.mem_of_getElem? (i := 274) (by decide +kernel)) rfl
theorem fl_RX8_55 : Cond.fieldLink RX8 55 "IdeasDeck" "fraction" "LIdeasDeck$Fraction;" ∈ xT := xT_of (List.mem_of_getElem? (i := 275) (by decide +kernel)) rfl
theorem fl_RX8_62 : Cond.fieldLink RX8 62 "IdeasDeck" "reader" "LIdeasDeck$Reader;" ∈ xT := xT_of (List.mem_of_getElem? (i := 276) (by decide +kernel)) rfl
theorem fl_RX8_285 : Cond.fieldLink RX8 285 "IdeasDeck" "refusedBad" "I" ∈ xT := xT_of (List.mem_of_getElem? (i := 277) (by decide +kernel)) rfl
theorem fl_RX8_288 : Cond.fieldLink RX8 288 "IdeasDeck" "refusedNo" "I" ∈ xT := xT_of (List.mem_of_getElem? (i := 278) (by decide +kernel)) rfl
theorem fl_RX8_291 : Cond.fieldLink RX8 291 "IdeasDeck" "refusedFull" "I" ∈ xT := xT_of (List.mem_of_getElem? (i := 279) (by decide +kernel)) rfl
theorem fl_RJ0_38 : Cond.fieldLink RJ0 38 "java/lang/String" "COMPACT_STRINGS" "Z" ∈ xT := xT_of (List.mem_of_getElem? (i := 411) (by decide +kernel)) rfl
theorem fl_RJ0_1053 : Cond.fieldLink RJ0 1053 "jdk/internal/util/Preconditions" "SIOOBE_FORMATTER" "Ljava/util/function/BiFunction;" ∈ xT := xT_of (List.mem_of_getElem? (i := 427) (by decide +kernel)) rfl
theorem fl_RJ2_44 : Cond.fieldLink RJ2 44 "java/lang/StringUTF16" "$assertionsDisabled" "Z" ∈ xT := xT_of (List.mem_of_getElem? (i := 445) (by decide +kernel)) rfl
theorem fl_RJ2_59 : Cond.fieldLink RJ2 59 "java/lang/StringUTF16" "HI_BYTE_SHIFT" "I" ∈ xT := xT_of (List.mem_of_getElem? (i := 447) (by decide +kernel)) rfl
theorem fl_RJ2_63 : Cond.fieldLink RJ2 63 "java/lang/StringUTF16" "LO_BYTE_SHIFT" "I" ∈ xT := xT_of (List.mem_of_getElem? (i := 449) (by decide +kernel)) rfl
theorem fl_RX9_7 : Cond.fieldLink RX9 7 "IdeasDeckModel" "told" "[I" ∈ xT := xT_of (List.mem_of_getElem? (i := 816) (by decide +kernel)) rfl
theorem fl_RX9_13 : Cond.fieldLink RX9 13 "IdeasDeckModel" "kept" "[I" ∈ xT := xT_of (List.mem_of_getElem? (i := 817) (by decide +kernel)) rfl
theorem fl_RX9_16 : Cond.fieldLink RX9 16 "IdeasDeckModel" "isKept" "[Z" ∈ xT := xT_of (List.mem_of_getElem? (i := 818) (by decide +kernel)) rfl
theorem fl_RX9_20 : Cond.fieldLink RX9 20 "IdeasDeckModel" "refused" "[I" ∈ xT := xT_of (List.mem_of_getElem? (i := 819) (by decide +kernel)) rfl
theorem fl_RX9_159 : Cond.fieldLink RX9 159 "IdeasDeckModel" "above" "J" ∈ xT := xT_of (List.mem_of_getElem? (i := 820) (by decide +kernel)) rfl
theorem fl_RX9_23 : Cond.fieldLink RX9 23 "IdeasDeckModel" "below" "J" ∈ xT := xT_of (List.mem_of_getElem? (i := 821) (by decide +kernel)) rfl
theorem fl_RX9_27 : Cond.fieldLink RX9 27 "IdeasDeckModel" "hand" "[I" ∈ xT := xT_of (List.mem_of_getElem? (i := 822) (by decide +kernel)) rfl
theorem fl_RX9_30 : Cond.fieldLink RX9 30 "IdeasDeckModel" "lies" "[I" ∈ xT := xT_of (List.mem_of_getElem? (i := 823) (by decide +kernel)) rfl
theorem fl_RX9_33 : Cond.fieldLink RX9 33 "IdeasDeckModel" "his" "[I" ∈ xT := xT_of (List.mem_of_getElem? (i := 824) (by decide +kernel)) rfl
theorem fl_RX9_36 : Cond.fieldLink RX9 36 "IdeasDeckModel" "theirs" "[I" ∈ xT := xT_of (List.mem_of_getElem? (i := 825) (by decide +kernel)) rfl
theorem fl_RX9_39 : Cond.fieldLink RX9 39 "IdeasDeckModel" "bytes" "[I" ∈ xT := xT_of (List.mem_of_getElem? (i := 826) (by decide +kernel)) rfl
theorem fl_RX9_191 : Cond.fieldLink RX9 191 "IdeasDeckModel" "bytesLong" "I" ∈ xT := xT_of (List.mem_of_getElem? (i := 827) (by decide +kernel)) rfl
theorem fl_RX9_203 : Cond.fieldLink RX9 203 "IdeasDeckModel" "tokenAt" "I" ∈ xT := xT_of (List.mem_of_getElem? (i := 828) (by decide +kernel)) rfl
theorem fl_RX9_206 : Cond.fieldLink RX9 206 "IdeasDeckModel" "tokenLong" "I" ∈ xT := xT_of (List.mem_of_getElem? (i := 829) (by decide +kernel)) rfl
theorem fl_RX9_209 : Cond.fieldLink RX9 209 "IdeasDeckModel" "token" "I" ∈ xT := xT_of (List.mem_of_getElem? (i := 830) (by decide +kernel)) rfl
theorem fl_RX9_212 : Cond.fieldLink RX9 212 "IdeasDeckModel" "value" "I" ∈ xT := xT_of (List.mem_of_getElem? (i := 831) (by decide +kernel)) rfl
theorem fl_RX9_42 : Cond.fieldLink RX9 42 "IdeasDeckModel" "anew" "[I" ∈ xT := xT_of (List.mem_of_getElem? (i := 832) (by decide +kernel)) rfl
theorem fl_RX9_45 : Cond.fieldLink RX9 45 "IdeasDeckModel" "values" "[I" ∈ xT := xT_of (List.mem_of_getElem? (i := 833) (by decide +kernel)) rfl
theorem fl_RJ0_9 : Cond.fieldLink RJ0 9 "java/lang/String" "value" "[B" ∈ xT := xT_of (List.mem_of_getElem? (i := 1201) (by decide +kernel)) rfl
theorem fl_RJ0_15 : Cond.fieldLink RJ0 15 "java/lang/String" "coder" "B" ∈ xT := xT_of (List.mem_of_getElem? (i := 1202) (by decide +kernel)) rfl
theorem ml_RL_9 : Cond.methodLink RL 9 yX8_init ∈ xT := xT_of (List.mem_of_getElem? (i := 20) (by decide +kernel)) rfl
theorem ml_RX8_3 : Cond.methodLink RX8 3 objectInit ∈ xT := xT_of (List.mem_of_getElem? (i := 23) (by decide +kernel)) rfl
theorem ml_RX8_11 : Cond.methodLink RX8 11 yX0_init ∈ xT := xT_of (List.mem_of_getElem? (i := 28) (by decide +kernel)) rfl
theorem ml_RX0_3 : Cond.methodLink RX0 3 objectInit ∈ xT := xT_of (List.mem_of_getElem? (i := 31) (by decide +kernel)) rfl
theorem ml_RX5_1 : Cond.methodLink RX5 1 objectInit ∈ xT := xT_of (List.mem_of_getElem? (i := 37) (by decide +kernel)) rfl
theorem ml_RX3_3 : Cond.methodLink RX3 3 objectInit ∈ xT := xT_of (List.mem_of_getElem? (i := 149) (by decide +kernel)) rfl
theorem ml_RX1_3 : Cond.methodLink RX1 3 objectInit ∈ xT := xT_of (List.mem_of_getElem? (i := 172) (by decide +kernel)) rfl
theorem ml_RX6_1 : Cond.methodLink RX6 1 objectInit ∈ xT := xT_of (List.mem_of_getElem? (i := 183) (by decide +kernel)) rfl
theorem ml_RX7_3 : Cond.methodLink RX7 3 objectInit ∈ xT := xT_of (List.mem_of_getElem? (i := 202) (by decide +kernel)) rfl
theorem ml_RX2_1 : Cond.methodLink RX2 1 objectInit ∈ xT := xT_of (List.mem_of_getElem? (i := 221) (by decide +kernel)) rfl
theorem ml_RX4_3 : Cond.methodLink RX4 3 objectInit ∈ xT := xT_of (List.mem_of_getElem? (i := 236) (by decide +kernel)) rfl
theorem ml_RX4_17 : Cond.methodLink RX4 17 yX0_init ∈ xT := xT_of (List.mem_of_getElem? (i := 238) (by decide +kernel)) rfl
theorem ml_RL_13 : Cond.methodLink RL 13 yX8_bus ∈ xT := xT_of (List.mem_of_getElem? (i := 305) (by decide +kernel)) rfl
theorem ml_RX8_66 : Cond.methodLink RX8 66 yX8_within ∈ xT := xT_of (List.mem_of_getElem? (i := 309) (by decide +kernel)) rfl
theorem ml_RX8_70 : Cond.methodLink RX8 70 yX8_refuseBad ∈ xT := xT_of (List.mem_of_getElem? (i := 312) (by decide +kernel)) rfl
theorem ml_RX8_78 : Cond.methodLink RX8 78 yX0_startAnew ∈ xT := xT_of (List.mem_of_getElem? (i := 316) (by decide +kernel)) rfl
theorem ml_RX0_63 : Cond.methodLink RX0 63 yX5_startAnew ∈ xT := xT_of (List.mem_of_getElem? (i := 320) (by decide +kernel)) rfl
theorem ml_RL_18 : Cond.methodLink RL 18 yX8_room ∈ xT := xT_of (List.mem_of_getElem? (i := 324) (by decide +kernel)) rfl
theorem ml_RL_22 : Cond.methodLink RL 22 yX8_bridge ∈ xT := xT_of (List.mem_of_getElem? (i := 328) (by decide +kernel)) rfl
theorem ml_RL_27 : Cond.methodLink RL 27 yX8_idea ∈ xT := xT_of (List.mem_of_getElem? (i := 332) (by decide +kernel)) rfl
theorem ml_RX8_91 : Cond.methodLink RX8 91 yX8_refuseFull ∈ xT := xT_of (List.mem_of_getElem? (i := 336) (by decide +kernel)) rfl
theorem ml_RX8_94 : Cond.methodLink RX8 94 yX0_addIdea ∈ xT := xT_of (List.mem_of_getElem? (i := 340) (by decide +kernel)) rfl
theorem ml_RL_32 : Cond.methodLink RL 32 yX8_quarrel ∈ xT := xT_of (List.mem_of_getElem? (i := 344) (by decide +kernel)) rfl
theorem ml_RX8_98 : Cond.methodLink RX8 98 yX0_hasTwo ∈ xT := xT_of (List.mem_of_getElem? (i := 348) (by decide +kernel)) rfl
theorem ml_RX0_79 : Cond.methodLink RX0 79 yX0_has ∈ xT := xT_of (List.mem_of_getElem? (i := 352) (by decide +kernel)) rfl
theorem ml_RX8_105 : Cond.methodLink RX8 105 yX8_bit ∈ xT := xT_of (List.mem_of_getElem? (i := 356) (by decide +kernel)) rfl
theorem ml_RX8_109 : Cond.methodLink RX8 109 yX0_setQuarrel ∈ xT := xT_of (List.mem_of_getElem? (i := 359) (by decide +kernel)) rfl
theorem ml_RX0_83 : Cond.methodLink RX0 83 yX0_hasTwo ∈ xT := xT_of (List.mem_of_getElem? (i := 363) (by decide +kernel)) rfl
theorem ml_RL_37 : Cond.methodLink RL 37 yX8_type ∈ xT := xT_of (List.mem_of_getElem? (i := 364) (by decide +kernel)) rfl
theorem ml_RX8_116 : Cond.methodLink RX8 116 yX4_addByte ∈ xT := xT_of (List.mem_of_getElem? (i := 368) (by decide +kernel)) rfl
theorem ml_RL_41 : Cond.methodLink RL 41 yX8_clear ∈ xT := xT_of (List.mem_of_getElem? (i := 372) (by decide +kernel)) rfl
theorem ml_RL_46 : Cond.methodLink RL 46 yX8_read ∈ xT := xT_of (List.mem_of_getElem? (i := 376) (by decide +kernel)) rfl
theorem ml_RX8_120 : Cond.methodLink RX8 120 yX4_readBus ∈ xT := xT_of (List.mem_of_getElem? (i := 380) (by decide +kernel)) rfl
theorem ml_RX4_26 : Cond.methodLink RX4 26 yX0_startAnew ∈ xT := xT_of (List.mem_of_getElem? (i := 384) (by decide +kernel)) rfl
theorem ml_RX4_32 : Cond.methodLink RX4 32 yX4_step ∈ xT := xT_of (List.mem_of_getElem? (i := 385) (by decide +kernel)) rfl
theorem ml_RX4_119 : Cond.methodLink RX4 119 yX4_endOfRun ∈ xT := xT_of (List.mem_of_getElem? (i := 389) (by decide +kernel)) rfl
theorem ml_RX4_111 : Cond.methodLink RX4 111 yX4_byteAt ∈ xT := xT_of (List.mem_of_getElem? (i := 393) (by decide +kernel)) rfl
theorem ml_RX4_37 : Cond.methodLink RX4 37 yX4_isWord ∈ xT := xT_of (List.mem_of_getElem? (i := 399) (by decide +kernel)) rfl
theorem ml_RX4_107 : Cond.methodLink RX4 107 yJ0_length_8abf5 ∈ xT := xT_of (List.mem_of_getElem? (i := 403) (by decide +kernel)) rfl
theorem ml_RJ0_335 : Cond.methodLink RJ0 335 yJ0_coder_7d493 ∈ xT := xT_of (List.mem_of_getElem? (i := 407) (by decide +kernel)) rfl
theorem ml_RX4_115 : Cond.methodLink RX4 115 yJ0_charAt_5068e ∈ xT := xT_of (List.mem_of_getElem? (i := 413) (by decide +kernel)) rfl
theorem ml_RJ0_492 : Cond.methodLink RJ0 492 yJ0_isLatin1_aae02 ∈ xT := xT_of (List.mem_of_getElem? (i := 417) (by decide +kernel)) rfl
theorem ml_RJ0_495 : Cond.methodLink RJ0 495 yJ1_charAt_3b067 ∈ xT := xT_of (List.mem_of_getElem? (i := 421) (by decide +kernel)) rfl
theorem ml_RJ1_9 : Cond.methodLink RJ1 9 yJ0_checkIndex_df160 ∈ xT := xT_of (List.mem_of_getElem? (i := 424) (by decide +kernel)) rfl
theorem ml_RJ0_1059 : Cond.methodLink RJ0 1059 yJ3_checkIndex_8e157 ∈ xT := xT_of (List.mem_of_getElem? (i := 429) (by decide +kernel)) rfl
theorem ml_RJ0_498 : Cond.methodLink RJ0 498 yJ2_charAt_3b067 ∈ xT := xT_of (List.mem_of_getElem? (i := 432) (by decide +kernel)) rfl
theorem ml_RJ2_67 : Cond.methodLink RJ2 67 yJ2_checkIndex_2214a ∈ xT := xT_of (List.mem_of_getElem? (i := 435) (by decide +kernel)) rfl
theorem ml_RJ2_48 : Cond.methodLink RJ2 48 yJ2_length_9d52b ∈ xT := xT_of (List.mem_of_getElem? (i := 438) (by decide +kernel)) rfl
theorem ml_RJ2_414 : Cond.methodLink RJ2 414 yJ0_checkIndex_df160 ∈ xT := xT_of (List.mem_of_getElem? (i := 441) (by decide +kernel)) rfl
theorem ml_RJ2_71 : Cond.methodLink RJ2 71 yJ2_getChar_3b067 ∈ xT := xT_of (List.mem_of_getElem? (i := 442) (by decide +kernel)) rfl
theorem ml_RX4_41 : Cond.methodLink RX4 41 yX4_readRoom ∈ xT := xT_of (List.mem_of_getElem? (i := 451) (by decide +kernel)) rfl
theorem ml_RX4_69 : Cond.methodLink RX4 69 yX4_readNumber ∈ xT := xT_of (List.mem_of_getElem? (i := 455) (by decide +kernel)) rfl
theorem ml_RX4_100 : Cond.methodLink RX4 100 yX4_valueOfFigures ∈ xT := xT_of (List.mem_of_getElem? (i := 459) (by decide +kernel)) rfl
theorem ml_RX4_79 : Cond.methodLink RX4 79 yX4_readMark ∈ xT := xT_of (List.mem_of_getElem? (i := 463) (by decide +kernel)) rfl
theorem ml_RX4_51 : Cond.methodLink RX4 51 yX4_readItem ∈ xT := xT_of (List.mem_of_getElem? (i := 467) (by decide +kernel)) rfl
theorem ml_RX4_56 : Cond.methodLink RX4 56 yX4_readBridge ∈ xT := xT_of (List.mem_of_getElem? (i := 472) (by decide +kernel)) rfl
theorem ml_RX4_61 : Cond.methodLink RX4 61 yX4_readIdea ∈ xT := xT_of (List.mem_of_getElem? (i := 477) (by decide +kernel)) rfl
theorem ml_RX4_92 : Cond.methodLink RX4 92 yX0_addIdea ∈ xT := xT_of (List.mem_of_getElem? (i := 481) (by decide +kernel)) rfl
theorem ml_RX4_66 : Cond.methodLink RX4 66 yX4_readQuarrel ∈ xT := xT_of (List.mem_of_getElem? (i := 483) (by decide +kernel)) rfl
theorem ml_RX4_96 : Cond.methodLink RX4 96 yX0_setQuarrel ∈ xT := xT_of (List.mem_of_getElem? (i := 487) (by decide +kernel)) rfl
theorem ml_RX8_130 : Cond.methodLink RX8 130 yX0_take ∈ xT := xT_of (List.mem_of_getElem? (i := 488) (by decide +kernel)) rfl
theorem ml_RX0_69 : Cond.methodLink RX0 69 arraycopyName ∈ xT := xT_of (List.mem_of_getElem? (i := 492) (by decide +kernel)) rfl
theorem ml_RX0_75 : Cond.methodLink RX0 75 yX5_take ∈ xT := xT_of (List.mem_of_getElem? (i := 495) (by decide +kernel)) rfl
theorem ml_RL_50 : Cond.methodLink RL 50 yX8_drive ∈ xT := xT_of (List.mem_of_getElem? (i := 500) (by decide +kernel)) rfl
theorem ml_RX8_146 : Cond.methodLink RX8 146 yX8_refuseNo ∈ xT := xT_of (List.mem_of_getElem? (i := 504) (by decide +kernel)) rfl
theorem ml_RX8_152 : Cond.methodLink RX8 152 yX0_remember ∈ xT := xT_of (List.mem_of_getElem? (i := 508) (by decide +kernel)) rfl
theorem ml_RX8_158 : Cond.methodLink RX8 158 yX0_passStop ∈ xT := xT_of (List.mem_of_getElem? (i := 512) (by decide +kernel)) rfl
theorem ml_RX0_94 : Cond.methodLink RX0 94 yX0_letOff ∈ xT := xT_of (List.mem_of_getElem? (i := 517) (by decide +kernel)) rfl
theorem ml_RX0_98 : Cond.methodLink RX0 98 yX0_letOn ∈ xT := xT_of (List.mem_of_getElem? (i := 521) (by decide +kernel)) rfl
theorem ml_RX0_116 : Cond.methodLink RX0 116 yJ6_bitCount_0f7a4 ∈ xT := xT_of (List.mem_of_getElem? (i := 525) (by decide +kernel)) rfl
theorem ml_RX0_102 : Cond.methodLink RX0 102 yX0_scrape ∈ xT := xT_of (List.mem_of_getElem? (i := 531) (by decide +kernel)) rfl
theorem ml_RX0_112 : Cond.methodLink RX0 112 yX0_swayOfAll ∈ xT := xT_of (List.mem_of_getElem? (i := 539) (by decide +kernel)) rfl
theorem ml_RL_54 : Cond.methodLink RL 54 yX8_puts ∈ xT := xT_of (List.mem_of_getElem? (i := 546) (by decide +kernel)) rfl
theorem ml_RX8_162 : Cond.methodLink RX8 162 yX0_has ∈ xT := xT_of (List.mem_of_getElem? (i := 550) (by decide +kernel)) rfl
theorem ml_RX8_169 : Cond.methodLink RX8 169 yJ6_bitCount_0f7a4 ∈ xT := xT_of (List.mem_of_getElem? (i := 551) (by decide +kernel)) rfl
theorem ml_RL_58 : Cond.methodLink RL 58 yX8_undo ∈ xT := xT_of (List.mem_of_getElem? (i := 552) (by decide +kernel)) rfl
theorem ml_RX8_175 : Cond.methodLink RX8 175 yX0_goBack ∈ xT := xT_of (List.mem_of_getElem? (i := 556) (by decide +kernel)) rfl
theorem ml_RL_62 : Cond.methodLink RL 62 yX8_of ∈ xT := xT_of (List.mem_of_getElem? (i := 560) (by decide +kernel)) rfl
theorem ml_RL_66 : Cond.methodLink RL 66 yX8_sways ∈ xT := xT_of (List.mem_of_getElem? (i := 564) (by decide +kernel)) rfl
theorem ml_RX8_187 : Cond.methodLink RX8 187 yX8_swayOf ∈ xT := xT_of (List.mem_of_getElem? (i := 568) (by decide +kernel)) rfl
theorem ml_RX8_191 : Cond.methodLink RX8 191 yX8_tallOf ∈ xT := xT_of (List.mem_of_getElem? (i := 569) (by decide +kernel)) rfl
theorem ml_RL_70 : Cond.methodLink RL 70 yX8_now ∈ xT := xT_of (List.mem_of_getElem? (i := 570) (by decide +kernel)) rfl
theorem ml_RL_74 : Cond.methodLink RL 74 yX8_then ∈ xT := xT_of (List.mem_of_getElem? (i := 574) (by decide +kernel)) rfl
theorem ml_RX8_200 : Cond.methodLink RX8 200 yX3_goOn ∈ xT := xT_of (List.mem_of_getElem? (i := 578) (by decide +kernel)) rfl
theorem ml_RX3_25 : Cond.methodLink RX3 25 yX5_take ∈ xT := xT_of (List.mem_of_getElem? (i := 582) (by decide +kernel)) rfl
theorem ml_RX3_29 : Cond.methodLink RX3 29 yX3_boardAsTold ∈ xT := xT_of (List.mem_of_getElem? (i := 583) (by decide +kernel)) rfl
theorem ml_RX3_39 : Cond.methodLink RX3 39 arraycopyName ∈ xT := xT_of (List.mem_of_getElem? (i := 587) (by decide +kernel)) rfl
theorem ml_RX8_203 : Cond.methodLink RX8 203 yX3_passThrough ∈ xT := xT_of (List.mem_of_getElem? (i := 588) (by decide +kernel)) rfl
theorem ml_RX3_52 : Cond.methodLink RX3 52 yX0_passStop ∈ xT := xT_of (List.mem_of_getElem? (i := 592) (by decide +kernel)) rfl
theorem ml_RX8_208 : Cond.methodLink RX8 208 yX0_swayOfAll ∈ xT := xT_of (List.mem_of_getElem? (i := 593) (by decide +kernel)) rfl
theorem ml_RL_78 : Cond.methodLink RL 78 yX8_end ∈ xT := xT_of (List.mem_of_getElem? (i := 594) (by decide +kernel)) rfl
theorem ml_RL_82 : Cond.methodLink RL 82 yX8_decks ∈ xT := xT_of (List.mem_of_getElem? (i := 598) (by decide +kernel)) rfl
theorem ml_RX8_211 : Cond.methodLink RX8 211 yX8_refuseOtherBad ∈ xT := xT_of (List.mem_of_getElem? (i := 602) (by decide +kernel)) rfl
theorem ml_RX8_214 : Cond.methodLink RX8 214 yX1_fewest ∈ xT := xT_of (List.mem_of_getElem? (i := 606) (by decide +kernel)) rfl
theorem ml_RX1_15 : Cond.methodLink RX1 15 yX1_canPlace ∈ xT := xT_of (List.mem_of_getElem? (i := 610) (by decide +kernel)) rfl
theorem ml_RX1_25 : Cond.methodLink RX1 25 yX1_isCalm ∈ xT := xT_of (List.mem_of_getElem? (i := 613) (by decide +kernel)) rfl
theorem ml_RL_86 : Cond.methodLink RL 86 yX8_better ∈ xT := xT_of (List.mem_of_getElem? (i := 617) (by decide +kernel)) rfl
theorem ml_RX8_221 : Cond.methodLink RX8 221 yX3_betterBoarding ∈ xT := xT_of (List.mem_of_getElem? (i := 621) (by decide +kernel)) rfl
theorem ml_RX3_68 : Cond.methodLink RX3 68 yX3_startAnew ∈ xT := xT_of (List.mem_of_getElem? (i := 625) (by decide +kernel)) rfl
theorem ml_RX3_33 : Cond.methodLink RX3 33 yX5_startAnew ∈ xT := xT_of (List.mem_of_getElem? (i := 629) (by decide +kernel)) rfl
theorem ml_RX3_70 : Cond.methodLink RX3 70 yX3_passThrough ∈ xT := xT_of (List.mem_of_getElem? (i := 630) (by decide +kernel)) rfl
theorem ml_RX3_74 : Cond.methodLink RX3 74 yX3_missing ∈ xT := xT_of (List.mem_of_getElem? (i := 631) (by decide +kernel)) rfl
theorem ml_RX3_62 : Cond.methodLink RX3 62 yJ6_bitCount_0f7a4 ∈ xT := xT_of (List.mem_of_getElem? (i := 635) (by decide +kernel)) rfl
theorem ml_RX3_84 : Cond.methodLink RX3 84 yX3_missingIf ∈ xT := xT_of (List.mem_of_getElem? (i := 636) (by decide +kernel)) rfl
theorem ml_RL_90 : Cond.methodLink RL 90 yX8_raise ∈ xT := xT_of (List.mem_of_getElem? (i := 641) (by decide +kernel)) rfl
theorem ml_RX8_224 : Cond.methodLink RX8 224 yX3_leastLift ∈ xT := xT_of (List.mem_of_getElem? (i := 645) (by decide +kernel)) rfl
theorem ml_RL_94 : Cond.methodLink RL 94 yX8_upstairs ∈ xT := xT_of (List.mem_of_getElem? (i := 649) (by decide +kernel)) rfl
theorem ml_RX8_227 : Cond.methodLink RX8 227 yX6_find ∈ xT := xT_of (List.mem_of_getElem? (i := 653) (by decide +kernel)) rfl
theorem ml_RX6_24 : Cond.methodLink RX6 24 yX6_canBe ∈ xT := xT_of (List.mem_of_getElem? (i := 657) (by decide +kernel)) rfl
theorem ml_RX6_28 : Cond.methodLink RX6 28 yJ6_bitCount_0f7a4 ∈ xT := xT_of (List.mem_of_getElem? (i := 660) (by decide +kernel)) rfl
theorem ml_RX6_37 : Cond.methodLink RX6 37 yX0_swayOfAll ∈ xT := xT_of (List.mem_of_getElem? (i := 661) (by decide +kernel)) rfl
theorem ml_RX6_41 : Cond.methodLink RX6 41 yX0_quarrelsIn ∈ xT := xT_of (List.mem_of_getElem? (i := 662) (by decide +kernel)) rfl
theorem ml_RL_98 : Cond.methodLink RL 98 yX8_note ∈ xT := xT_of (List.mem_of_getElem? (i := 666) (by decide +kernel)) rfl
theorem ml_RX8_243 : Cond.methodLink RX8 243 yX0_addNote ∈ xT := xT_of (List.mem_of_getElem? (i := 670) (by decide +kernel)) rfl
theorem ml_RL_102 : Cond.methodLink RL 102 yX8_forget ∈ xT := xT_of (List.mem_of_getElem? (i := 674) (by decide +kernel)) rfl
theorem ml_RL_106 : Cond.methodLink RL 106 yX8_is ∈ xT := xT_of (List.mem_of_getElem? (i := 678) (by decide +kernel)) rfl
theorem ml_RX8_246 : Cond.methodLink RX8 246 yX0_kindsByNotes ∈ xT := xT_of (List.mem_of_getElem? (i := 682) (by decide +kernel)) rfl
theorem ml_RX0_138 : Cond.methodLink RX0 138 yX0_fitsNotes ∈ xT := xT_of (List.mem_of_getElem? (i := 686) (by decide +kernel)) rfl
theorem ml_RL_110 : Cond.methodLink RL 110 yX8_look ∈ xT := xT_of (List.mem_of_getElem? (i := 690) (by decide +kernel)) rfl
theorem ml_RX8_249 : Cond.methodLink RX8 249 yX8_bestLook ∈ xT := xT_of (List.mem_of_getElem? (i := 694) (by decide +kernel)) rfl
theorem ml_RX8_314 : Cond.methodLink RX8 314 yX8_mostAlike ∈ xT := xT_of (List.mem_of_getElem? (i := 697) (by decide +kernel)) rfl
theorem ml_RX8_317 : Cond.methodLink RX8 317 yX8_countAlike ∈ xT := xT_of (List.mem_of_getElem? (i := 700) (by decide +kernel)) rfl
theorem ml_RX8_321 : Cond.methodLink RX8 321 yJ9_max_7cf53 ∈ xT := xT_of (List.mem_of_getElem? (i := 703) (by decide +kernel)) rfl
theorem ml_RL_114 : Cond.methodLink RL 114 yX8_fare ∈ xT := xT_of (List.mem_of_getElem? (i := 706) (by decide +kernel)) rfl
theorem ml_RX8_252 : Cond.methodLink RX8 252 yX2_become ∈ xT := xT_of (List.mem_of_getElem? (i := 710) (by decide +kernel)) rfl
theorem ml_RX2_16 : Cond.methodLink RX2 16 yX2_commonDivisor ∈ xT := xT_of (List.mem_of_getElem? (i := 714) (by decide +kernel)) rfl
theorem ml_RL_118 : Cond.methodLink RL 118 yX8_two ∈ xT := xT_of (List.mem_of_getElem? (i := 717) (by decide +kernel)) rfl
theorem ml_RX8_256 : Cond.methodLink RX8 256 yX7_play ∈ xT := xT_of (List.mem_of_getElem? (i := 721) (by decide +kernel)) rfl
theorem ml_RX7_18 : Cond.methodLink RX7 18 yX0_hasTwo ∈ xT := xT_of (List.mem_of_getElem? (i := 725) (by decide +kernel)) rfl
theorem ml_RX7_34 : Cond.methodLink RX7 34 yX3_startAnew ∈ xT := xT_of (List.mem_of_getElem? (i := 726) (by decide +kernel)) rfl
theorem ml_RX7_43 : Cond.methodLink RX7 43 yX7_countStops ∈ xT := xT_of (List.mem_of_getElem? (i := 727) (by decide +kernel)) rfl
theorem ml_RX7_54 : Cond.methodLink RX7 54 yX0_passStop ∈ xT := xT_of (List.mem_of_getElem? (i := 731) (by decide +kernel)) rfl
theorem ml_RX8_260 : Cond.methodLink RX8 260 yX7_resting ∈ xT := xT_of (List.mem_of_getElem? (i := 733) (by decide +kernel)) rfl
theorem ml_RX7_67 : Cond.methodLink RX7 67 yX7_rests ∈ xT := xT_of (List.mem_of_getElem? (i := 737) (by decide +kernel)) rfl
theorem ml_RX8_263 : Cond.methodLink RX8 263 yX7_restingAt ∈ xT := xT_of (List.mem_of_getElem? (i := 741) (by decide +kernel)) rfl
theorem ml_RL_122 : Cond.methodLink RL 122 yX8_bell ∈ xT := xT_of (List.mem_of_getElem? (i := 745) (by decide +kernel)) rfl
theorem ml_RX8_266 : Cond.methodLink RX8 266 yJ9_min_7cf53 ∈ xT := xT_of (List.mem_of_getElem? (i := 749) (by decide +kernel)) rfl
theorem ml_RL_126 : Cond.methodLink RL 126 yX8_days ∈ xT := xT_of (List.mem_of_getElem? (i := 753) (by decide +kernel)) rfl
theorem ml_RX8_274 : Cond.methodLink RX8 274 yX3_levyOfDays ∈ xT := xT_of (List.mem_of_getElem? (i := 758) (by decide +kernel)) rfl
theorem ml_RL_130 : Cond.methodLink RL 130 yX8_part ∈ xT := xT_of (List.mem_of_getElem? (i := 766) (by decide +kernel)) rfl
theorem ml_RL_135 : Cond.methodLink RL 135 yX8_image ∈ xT := xT_of (List.mem_of_getElem? (i := 770) (by decide +kernel)) rfl
theorem ml_RL_139 : Cond.methodLink RL 139 yX8_from ∈ xT := xT_of (List.mem_of_getElem? (i := 774) (by decide +kernel)) rfl
theorem ml_RL_143 : Cond.methodLink RL 143 yX8_status ∈ xT := xT_of (List.mem_of_getElem? (i := 778) (by decide +kernel)) rfl
theorem ml_RL_147 : Cond.methodLink RL 147 yX8_count ∈ xT := xT_of (List.mem_of_getElem? (i := 782) (by decide +kernel)) rfl
theorem ml_RX8_294 : Cond.methodLink RX8 294 yX0_countQuarrels ∈ xT := xT_of (List.mem_of_getElem? (i := 786) (by decide +kernel)) rfl
theorem ml_RX8_297 : Cond.methodLink RX8 297 yX0_countBridges ∈ xT := xT_of (List.mem_of_getElem? (i := 790) (by decide +kernel)) rfl
theorem ml_RL_151 : Cond.methodLink RL 151 yX8_digest ∈ xT := xT_of (List.mem_of_getElem? (i := 794) (by decide +kernel)) rfl
theorem ml_RX8_304 : Cond.methodLink RX8 304 yX8_count ∈ xT := xT_of (List.mem_of_getElem? (i := 800) (by decide +kernel)) rfl
theorem ml_RX8_307 : Cond.methodLink RX8 307 yX8_now ∈ xT := xT_of (List.mem_of_getElem? (i := 801) (by decide +kernel)) rfl
theorem ml_RX8_310 : Cond.methodLink RX8 310 yX0_mixTold ∈ xT := xT_of (List.mem_of_getElem? (i := 802) (by decide +kernel)) rfl
theorem ml_RL_12 : Cond.methodLink RL 12 yX9_init ∈ xT := xT_of (List.mem_of_getElem? (i := 809) (by decide +kernel)) rfl
theorem ml_RX9_1 : Cond.methodLink RX9 1 objectInit ∈ xT := xT_of (List.mem_of_getElem? (i := 812) (by decide +kernel)) rfl
theorem ml_RX9_48 : Cond.methodLink RX9 48 yX9_begin ∈ xT := xT_of (List.mem_of_getElem? (i := 813) (by decide +kernel)) rfl
theorem ml_RL_17 : Cond.methodLink RL 17 yX9_bus ∈ xT := xT_of (List.mem_of_getElem? (i := 871) (by decide +kernel)) rfl
theorem ml_RX9_56 : Cond.methodLink RX9 56 yX9_in ∈ xT := xT_of (List.mem_of_getElem? (i := 876) (by decide +kernel)) rfl
theorem ml_RX9_64 : Cond.methodLink RX9 64 yX9_bad ∈ xT := xT_of (List.mem_of_getElem? (i := 879) (by decide +kernel)) rfl
theorem ml_RX9_52 : Cond.methodLink RX9 52 yX9_many ∈ xT := xT_of (List.mem_of_getElem? (i := 883) (by decide +kernel)) rfl
theorem ml_RL_21 : Cond.methodLink RL 21 yX9_room ∈ xT := xT_of (List.mem_of_getElem? (i := 887) (by decide +kernel)) rfl
theorem ml_RL_26 : Cond.methodLink RL 26 yX9_bridge ∈ xT := xT_of (List.mem_of_getElem? (i := 891) (by decide +kernel)) rfl
theorem ml_RX9_68 : Cond.methodLink RX9 68 yX9_isStop ∈ xT := xT_of (List.mem_of_getElem? (i := 895) (by decide +kernel)) rfl
theorem ml_RL_31 : Cond.methodLink RL 31 yX9_idea ∈ xT := xT_of (List.mem_of_getElem? (i := 899) (by decide +kernel)) rfl
theorem ml_RX9_76 : Cond.methodLink RX9 76 yX9_full ∈ xT := xT_of (List.mem_of_getElem? (i := 905) (by decide +kernel)) rfl
theorem ml_RX9_79 : Cond.methodLink RX9 79 yX9_layIdea ∈ xT := xT_of (List.mem_of_getElem? (i := 909) (by decide +kernel)) rfl
theorem ml_RL_36 : Cond.methodLink RL 36 yX9_quarrel ∈ xT := xT_of (List.mem_of_getElem? (i := 912) (by decide +kernel)) rfl
theorem ml_RX9_83 : Cond.methodLink RX9 83 yX9_isIdea ∈ xT := xT_of (List.mem_of_getElem? (i := 916) (by decide +kernel)) rfl
theorem ml_RX9_86 : Cond.methodLink RX9 86 yX9_layFoes ∈ xT := xT_of (List.mem_of_getElem? (i := 920) (by decide +kernel)) rfl
theorem ml_RL_53 : Cond.methodLink RL 53 yX9_drive ∈ xT := xT_of (List.mem_of_getElem? (i := 923) (by decide +kernel)) rfl
theorem ml_RX9_119 : Cond.methodLink RX9 119 yX9_no ∈ xT := xT_of (List.mem_of_getElem? (i := 928) (by decide +kernel)) rfl
theorem ml_RX9_122 : Cond.methodLink RX9 122 yX9_keep ∈ xT := xT_of (List.mem_of_getElem? (i := 932) (by decide +kernel)) rfl
theorem ml_RX9_90 : Cond.methodLink RX9 90 yX9_layHand ∈ xT := xT_of (List.mem_of_getElem? (i := 936) (by decide +kernel)) rfl
theorem ml_RX9_125 : Cond.methodLink RX9 125 yX9_goTill ∈ xT := xT_of (List.mem_of_getElem? (i := 940) (by decide +kernel)) rfl
theorem ml_RX9_114 : Cond.methodLink RX9 114 yX9_goStop ∈ xT := xT_of (List.mem_of_getElem? (i := 944) (by decide +kernel)) rfl
theorem ml_RX9_105 : Cond.methodLink RX9 105 yX9_bits ∈ xT := xT_of (List.mem_of_getElem? (i := 948) (by decide +kernel)) rfl
theorem ml_RX9_97 : Cond.methodLink RX9 97 yX9_has ∈ xT := xT_of (List.mem_of_getElem? (i := 951) (by decide +kernel)) rfl
theorem ml_RX9_108 : Cond.methodLink RX9 108 yX9_tallAs ∈ xT := xT_of (List.mem_of_getElem? (i := 954) (by decide +kernel)) rfl
theorem ml_RX9_111 : Cond.methodLink RX9 111 yX9_swayOfAll ∈ xT := xT_of (List.mem_of_getElem? (i := 957) (by decide +kernel)) rfl
theorem ml_RX9_101 : Cond.methodLink RX9 101 yX9_swayOf ∈ xT := xT_of (List.mem_of_getElem? (i := 961) (by decide +kernel)) rfl
theorem ml_RX9_93 : Cond.methodLink RX9 93 yX9_swayAs ∈ xT := xT_of (List.mem_of_getElem? (i := 965) (by decide +kernel)) rfl
theorem ml_RL_57 : Cond.methodLink RL 57 yX9_puts ∈ xT := xT_of (List.mem_of_getElem? (i := 968) (by decide +kernel)) rfl
theorem ml_RL_61 : Cond.methodLink RL 61 yX9_undo ∈ xT := xT_of (List.mem_of_getElem? (i := 972) (by decide +kernel)) rfl
theorem ml_RL_65 : Cond.methodLink RL 65 yX9_of ∈ xT := xT_of (List.mem_of_getElem? (i := 976) (by decide +kernel)) rfl
theorem ml_RL_69 : Cond.methodLink RL 69 yX9_sways ∈ xT := xT_of (List.mem_of_getElem? (i := 980) (by decide +kernel)) rfl
theorem ml_RL_73 : Cond.methodLink RL 73 yX9_now ∈ xT := xT_of (List.mem_of_getElem? (i := 984) (by decide +kernel)) rfl
theorem ml_RL_77 : Cond.methodLink RL 77 yX9_then ∈ xT := xT_of (List.mem_of_getElem? (i := 989) (by decide +kernel)) rfl
theorem ml_RL_81 : Cond.methodLink RL 81 yX9_end ∈ xT := xT_of (List.mem_of_getElem? (i := 994) (by decide +kernel)) rfl
theorem ml_RL_85 : Cond.methodLink RL 85 yX9_decks ∈ xT := xT_of (List.mem_of_getElem? (i := 998) (by decide +kernel)) rfl
theorem ml_RX9_138 : Cond.methodLink RX9 138 yX9_fewestDecks ∈ xT := xT_of (List.mem_of_getElem? (i := 1003) (by decide +kernel)) rfl
theorem ml_RX9_133 : Cond.methodLink RX9 133 yX9_layDecks ∈ xT := xT_of (List.mem_of_getElem? (i := 1007) (by decide +kernel)) rfl
theorem ml_RL_89 : Cond.methodLink RL 89 yX9_better ∈ xT := xT_of (List.mem_of_getElem? (i := 1011) (by decide +kernel)) rfl
theorem ml_RX9_141 : Cond.methodLink RX9 141 yX9_layStart ∈ xT := xT_of (List.mem_of_getElem? (i := 1015) (by decide +kernel)) rfl
theorem ml_RX9_144 : Cond.methodLink RX9 144 yX9_manyLost ∈ xT := xT_of (List.mem_of_getElem? (i := 1019) (by decide +kernel)) rfl
theorem ml_RL_93 : Cond.methodLink RL 93 yX9_raise ∈ xT := xT_of (List.mem_of_getElem? (i := 1023) (by decide +kernel)) rfl
theorem ml_RL_97 : Cond.methodLink RL 97 yX9_upstairs ∈ xT := xT_of (List.mem_of_getElem? (i := 1027) (by decide +kernel)) rfl
theorem ml_RL_101 : Cond.methodLink RL 101 yX9_note ∈ xT := xT_of (List.mem_of_getElem? (i := 1032) (by decide +kernel)) rfl
theorem ml_RL_105 : Cond.methodLink RL 105 yX9_forget ∈ xT := xT_of (List.mem_of_getElem? (i := 1037) (by decide +kernel)) rfl
theorem ml_RL_109 : Cond.methodLink RL 109 yX9_is ∈ xT := xT_of (List.mem_of_getElem? (i := 1041) (by decide +kernel)) rfl
theorem ml_RX9_151 : Cond.methodLink RX9 151 yX9_kindsOf ∈ xT := xT_of (List.mem_of_getElem? (i := 1045) (by decide +kernel)) rfl
theorem ml_RL_113 : Cond.methodLink RL 113 yX9_look ∈ xT := xT_of (List.mem_of_getElem? (i := 1049) (by decide +kernel)) rfl
theorem ml_RX9_155 : Cond.methodLink RX9 155 yX9_areAlike ∈ xT := xT_of (List.mem_of_getElem? (i := 1054) (by decide +kernel)) rfl
theorem ml_RL_117 : Cond.methodLink RL 117 yX9_fare ∈ xT := xT_of (List.mem_of_getElem? (i := 1057) (by decide +kernel)) rfl
theorem ml_RX9_164 : Cond.methodLink RX9 164 yX9_fraction ∈ xT := xT_of (List.mem_of_getElem? (i := 1062) (by decide +kernel)) rfl
theorem ml_RL_121 : Cond.methodLink RL 121 yX9_two ∈ xT := xT_of (List.mem_of_getElem? (i := 1066) (by decide +kernel)) rfl
theorem ml_RX9_168 : Cond.methodLink RX9 168 yX9_isPair ∈ xT := xT_of (List.mem_of_getElem? (i := 1070) (by decide +kernel)) rfl
theorem ml_RX9_172 : Cond.methodLink RX9 172 yX9_layPair ∈ xT := xT_of (List.mem_of_getElem? (i := 1074) (by decide +kernel)) rfl
theorem ml_RX9_176 : Cond.methodLink RX9 176 yX9_rests ∈ xT := xT_of (List.mem_of_getElem? (i := 1078) (by decide +kernel)) rfl
theorem ml_RL_125 : Cond.methodLink RL 125 yX9_bell ∈ xT := xT_of (List.mem_of_getElem? (i := 1082) (by decide +kernel)) rfl
theorem ml_RL_129 : Cond.methodLink RL 129 yX9_days ∈ xT := xT_of (List.mem_of_getElem? (i := 1086) (by decide +kernel)) rfl
theorem ml_RL_40 : Cond.methodLink RL 40 yX9_type ∈ xT := xT_of (List.mem_of_getElem? (i := 1095) (by decide +kernel)) rfl
theorem ml_RL_45 : Cond.methodLink RL 45 yX9_clear ∈ xT := xT_of (List.mem_of_getElem? (i := 1100) (by decide +kernel)) rfl
theorem ml_RL_49 : Cond.methodLink RL 49 yX9_read ∈ xT := xT_of (List.mem_of_getElem? (i := 1104) (by decide +kernel)) rfl
theorem ml_RX9_221 : Cond.methodLink RX9 221 yX9_lookAt ∈ xT := xT_of (List.mem_of_getElem? (i := 1108) (by decide +kernel)) rfl
theorem ml_RX9_215 : Cond.methodLink RX9 215 yX9_isSmall ∈ xT := xT_of (List.mem_of_getElem? (i := 1112) (by decide +kernel)) rfl
theorem ml_RX9_218 : Cond.methodLink RX9 218 yX9_isFigure ∈ xT := xT_of (List.mem_of_getElem? (i := 1117) (by decide +kernel)) rfl
theorem ml_RX9_247 : Cond.methodLink RX9 247 yX9_takesBus ∈ xT := xT_of (List.mem_of_getElem? (i := 1122) (by decide +kernel)) rfl
theorem ml_RX9_227 : Cond.methodLink RX9 227 yX9_spells ∈ xT := xT_of (List.mem_of_getElem? (i := 1126) (by decide +kernel)) rfl
theorem ml_RX9_224 : Cond.methodLink RX9 224 yX9_goBehind ∈ xT := xT_of (List.mem_of_getElem? (i := 1130) (by decide +kernel)) rfl
theorem ml_RX9_231 : Cond.methodLink RX9 231 yX9_takes ∈ xT := xT_of (List.mem_of_getElem? (i := 1134) (by decide +kernel)) rfl
theorem ml_RX9_250 : Cond.methodLink RX9 250 yX9_takesItem ∈ xT := xT_of (List.mem_of_getElem? (i := 1138) (by decide +kernel)) rfl
theorem ml_RX9_234 : Cond.methodLink RX9 234 yX9_takesBridge ∈ xT := xT_of (List.mem_of_getElem? (i := 1142) (by decide +kernel)) rfl
theorem ml_RX9_238 : Cond.methodLink RX9 238 yX9_takesIdea ∈ xT := xT_of (List.mem_of_getElem? (i := 1146) (by decide +kernel)) rfl
theorem ml_RX9_241 : Cond.methodLink RX9 241 yX9_isQuarrel ∈ xT := xT_of (List.mem_of_getElem? (i := 1150) (by decide +kernel)) rfl
theorem ml_RX9_244 : Cond.methodLink RX9 244 yX9_takesQuarrel ∈ xT := xT_of (List.mem_of_getElem? (i := 1154) (by decide +kernel)) rfl
theorem ml_RL_134 : Cond.methodLink RL 134 yX9_part ∈ xT := xT_of (List.mem_of_getElem? (i := 1158) (by decide +kernel)) rfl
theorem ml_RL_138 : Cond.methodLink RL 138 yX9_image ∈ xT := xT_of (List.mem_of_getElem? (i := 1162) (by decide +kernel)) rfl
theorem ml_RL_142 : Cond.methodLink RL 142 yX9_from ∈ xT := xT_of (List.mem_of_getElem? (i := 1166) (by decide +kernel)) rfl
theorem ml_RL_146 : Cond.methodLink RL 146 yX9_status ∈ xT := xT_of (List.mem_of_getElem? (i := 1170) (by decide +kernel)) rfl
theorem ml_RL_150 : Cond.methodLink RL 150 yX9_count ∈ xT := xT_of (List.mem_of_getElem? (i := 1174) (by decide +kernel)) rfl
theorem ml_RX9_261 : Cond.methodLink RX9 261 yX9_counted ∈ xT := xT_of (List.mem_of_getElem? (i := 1179) (by decide +kernel)) rfl
theorem ml_RX9_253 : Cond.methodLink RX9 253 yX9_manyQuarrels ∈ xT := xT_of (List.mem_of_getElem? (i := 1183) (by decide +kernel)) rfl
theorem ml_RX9_256 : Cond.methodLink RX9 256 yX9_manyBridges ∈ xT := xT_of (List.mem_of_getElem? (i := 1187) (by decide +kernel)) rfl
theorem ml_RL_155 : Cond.methodLink RL 155 yX9_digest ∈ xT := xT_of (List.mem_of_getElem? (i := 1191) (by decide +kernel)) rfl
theorem ml_RX9_268 : Cond.methodLink RX9 268 yX9_sums ∈ xT := xT_of (List.mem_of_getElem? (i := 1197) (by decide +kernel)) rfl
theorem nl_RX0_48 : Cond.methodLinkNest RX0 48 yX5_init "IdeasDeck" ∈ xnest := List.mem_filter.mpr ⟨List.mem_append_right _ (List.mem_of_getElem? (i := 34) (by decide +kernel)), rfl⟩
theorem nl_RX8_26 : Cond.methodLinkNest RX8 26 yX3_init "IdeasDeck" ∈ xnest := List.mem_filter.mpr ⟨List.mem_append_right _ (List.mem_of_getElem? (i := 146) (by decide +kernel)), rfl⟩
theorem nl_RX3_11 : Cond.methodLinkNest RX3 11 yX5_init "IdeasDeck" ∈ xnest := List.mem_filter.mpr ⟨List.mem_append_right _ (List.mem_of_getElem? (i := 151) (by decide +kernel)), rfl⟩
theorem nl_RX8_33 : Cond.methodLinkNest RX8 33 yX1_init "IdeasDeck" ∈ xnest := List.mem_filter.mpr ⟨List.mem_append_right _ (List.mem_of_getElem? (i := 169) (by decide +kernel)), rfl⟩
theorem nl_RX8_40 : Cond.methodLinkNest RX8 40 yX6_init "IdeasDeck" ∈ xnest := List.mem_filter.mpr ⟨List.mem_append_right _ (List.mem_of_getElem? (i := 180) (by decide +kernel)), rfl⟩
theorem nl_RX8_47 : Cond.methodLinkNest RX8 47 yX7_init "IdeasDeck" ∈ xnest := List.mem_filter.mpr ⟨List.mem_append_right _ (List.mem_of_getElem? (i := 199) (by decide +kernel)), rfl⟩
theorem nl_RX8_54 : Cond.methodLinkNest RX8 54 yX2_init "IdeasDeck" ∈ xnest := List.mem_filter.mpr ⟨List.mem_append_right _ (List.mem_of_getElem? (i := 218) (by decide +kernel)), rfl⟩
theorem nl_RX8_61 : Cond.methodLinkNest RX8 61 yX4_init "IdeasDeck" ∈ xnest := List.mem_filter.mpr ⟨List.mem_append_right _ (List.mem_of_getElem? (i := 233) (by decide +kernel)), rfl⟩
theorem nl_RX4_82 : Cond.methodLinkNest RX4 82 yX8_within "IdeasDeck" ∈ xnest := List.mem_filter.mpr ⟨List.mem_append_right _ (List.mem_of_getElem? (i := 397) (by decide +kernel)), rfl⟩
theorem nl_RX0_90 : Cond.methodLinkNest RX0 90 yX8_within "IdeasDeck" ∈ xnest := List.mem_filter.mpr ⟨List.mem_append_right _ (List.mem_of_getElem? (i := 516) (by decide +kernel)), rfl⟩
theorem nl_RX0_125 : Cond.methodLinkNest RX0 125 yX8_bit "IdeasDeck" ∈ xnest := List.mem_filter.mpr ⟨List.mem_append_right _ (List.mem_of_getElem? (i := 535) (by decide +kernel)), rfl⟩
theorem nl_RX0_128 : Cond.methodLinkNest RX0 128 yX8_tallOf "IdeasDeck" ∈ xnest := List.mem_filter.mpr ⟨List.mem_append_right _ (List.mem_of_getElem? (i := 536) (by decide +kernel)), rfl⟩
theorem nl_RX0_134 : Cond.methodLinkNest RX0 134 yX8_swayOf "IdeasDeck" ∈ xnest := List.mem_filter.mpr ⟨List.mem_append_right _ (List.mem_of_getElem? (i := 543) (by decide +kernel)), rfl⟩
theorem nl_RX1_31 : Cond.methodLinkNest RX1 31 yX8_bit "IdeasDeck" ∈ xnest := List.mem_filter.mpr ⟨List.mem_append_right _ (List.mem_of_getElem? (i := 616) (by decide +kernel)), rfl⟩
theorem nl_RX3_88 : Cond.methodLinkNest RX3 88 yX8_within "IdeasDeck" ∈ xnest := List.mem_filter.mpr ⟨List.mem_append_right _ (List.mem_of_getElem? (i := 640) (by decide +kernel)), rfl⟩
theorem nl_RX7_63 : Cond.methodLinkNest RX7 63 yX8_bit "IdeasDeck" ∈ xnest := List.mem_filter.mpr ⟨List.mem_append_right _ (List.mem_of_getElem? (i := 732) (by decide +kernel)), rfl⟩
theorem cl_RL_7 : Cond.classLink RL 7 RX8 ∈ xT := xT_of (List.mem_of_getElem? (i := 18) (by decide +kernel)) rfl
theorem cl_RX8_9 : Cond.classLink RX8 9 RX0 ∈ xT := xT_of (List.mem_of_getElem? (i := 26) (by decide +kernel)) rfl
theorem cl_RX0_46 : Cond.classLink RX0 46 RX5 ∈ xT := xT_of (List.mem_of_getElem? (i := 32) (by decide +kernel)) rfl
theorem cl_RX8_24 : Cond.classLink RX8 24 RX3 ∈ xT := xT_of (List.mem_of_getElem? (i := 144) (by decide +kernel)) rfl
theorem cl_RX3_9 : Cond.classLink RX3 9 RX5 ∈ xT := xT_of (List.mem_of_getElem? (i := 150) (by decide +kernel)) rfl
theorem cl_RX8_31 : Cond.classLink RX8 31 RX1 ∈ xT := xT_of (List.mem_of_getElem? (i := 167) (by decide +kernel)) rfl
theorem cl_RX8_38 : Cond.classLink RX8 38 RX6 ∈ xT := xT_of (List.mem_of_getElem? (i := 178) (by decide +kernel)) rfl
theorem cl_RX8_45 : Cond.classLink RX8 45 RX7 ∈ xT := xT_of (List.mem_of_getElem? (i := 197) (by decide +kernel)) rfl
theorem cl_RX8_52 : Cond.classLink RX8 52 RX2 ∈ xT := xT_of (List.mem_of_getElem? (i := 216) (by decide +kernel)) rfl
theorem cl_RX8_59 : Cond.classLink RX8 59 RX4 ∈ xT := xT_of (List.mem_of_getElem? (i := 231) (by decide +kernel)) rfl
theorem cl_RX4_15 : Cond.classLink RX4 15 RX0 ∈ xT := xT_of (List.mem_of_getElem? (i := 237) (by decide +kernel)) rfl
theorem cl_RL_10 : Cond.classLink RL 10 RX9 ∈ xT := xT_of (List.mem_of_getElem? (i := 807) (by decide +kernel)) rfl
theorem in_RL : Cond.initialized RL ∈ xT := xT_of (List.mem_of_getElem? (i := 0) (by decide +kernel)) rfl
theorem in_RX8 : Cond.initialized RX8 ∈ xT := xT_of (List.mem_of_getElem? (i := 1) (by decide +kernel)) rfl
theorem in_RX0 : Cond.initialized RX0 ∈ xT := xT_of (List.mem_of_getElem? (i := 2) (by decide +kernel)) rfl
theorem in_RX5 : Cond.initialized RX5 ∈ xT := xT_of (List.mem_of_getElem? (i := 3) (by decide +kernel)) rfl
theorem in_RX3 : Cond.initialized RX3 ∈ xT := xT_of (List.mem_of_getElem? (i := 4) (by decide +kernel)) rfl
theorem in_RX1 : Cond.initialized RX1 ∈ xT := xT_of (List.mem_of_getElem? (i := 5) (by decide +kernel)) rfl
theorem in_RX6 : Cond.initialized RX6 ∈ xT := xT_of (List.mem_of_getElem? (i := 6) (by decide +kernel)) rfl
theorem in_RX7 : Cond.initialized RX7 ∈ xT := xT_of (List.mem_of_getElem? (i := 7) (by decide +kernel)) rfl
theorem in_RX2 : Cond.initialized RX2 ∈ xT := xT_of (List.mem_of_getElem? (i := 8) (by decide +kernel)) rfl
theorem in_RX4 : Cond.initialized RX4 ∈ xT := xT_of (List.mem_of_getElem? (i := 9) (by decide +kernel)) rfl
theorem in_RX9 : Cond.initialized RX9 ∈ xT := xT_of (List.mem_of_getElem? (i := 10) (by decide +kernel)) rfl
theorem in_RJ0 : Cond.initialized RJ0 ∈ xT := xT_of (List.mem_of_getElem? (i := 11) (by decide +kernel)) rfl
theorem in_RJ1 : Cond.initialized RJ1 ∈ xT := xT_of (List.mem_of_getElem? (i := 12) (by decide +kernel)) rfl
theorem in_RJ3 : Cond.initialized RJ3 ∈ xT := xT_of (List.mem_of_getElem? (i := 13) (by decide +kernel)) rfl
theorem in_RJ2 : Cond.initialized RJ2 ∈ xT := xT_of (List.mem_of_getElem? (i := 14) (by decide +kernel)) rfl
theorem in_RJ10 : Cond.initialized RJ10 ∈ xT := xT_of (List.mem_of_getElem? (i := 15) (by decide +kernel)) rfl
theorem in_RJ6 : Cond.initialized RJ6 ∈ xT := xT_of (List.mem_of_getElem? (i := 16) (by decide +kernel)) rfl
theorem in_RJ9 : Cond.initialized RJ9 ∈ xT := xT_of (List.mem_of_getElem? (i := 17) (by decide +kernel)) rfl
theorem is_RX8 : Cond.instantiable RX8 12 ∈ xT := xT_of (List.mem_of_getElem? (i := 19) (by decide +kernel)) rfl
theorem is_RX0 : Cond.instantiable RX0 16 ∈ xT := xT_of (List.mem_of_getElem? (i := 27) (by decide +kernel)) rfl
theorem is_RX5 : Cond.instantiable RX5 5 ∈ xT := xT_of (List.mem_of_getElem? (i := 33) (by decide +kernel)) rfl
theorem is_RX3 : Cond.instantiable RX3 3 ∈ xT := xT_of (List.mem_of_getElem? (i := 145) (by decide +kernel)) rfl
theorem is_RX1 : Cond.instantiable RX1 1 ∈ xT := xT_of (List.mem_of_getElem? (i := 168) (by decide +kernel)) rfl
theorem is_RX6 : Cond.instantiable RX6 3 ∈ xT := xT_of (List.mem_of_getElem? (i := 179) (by decide +kernel)) rfl
theorem is_RX7 : Cond.instantiable RX7 4 ∈ xT := xT_of (List.mem_of_getElem? (i := 198) (by decide +kernel)) rfl
theorem is_RX2 : Cond.instantiable RX2 2 ∈ xT := xT_of (List.mem_of_getElem? (i := 217) (by decide +kernel)) rfl
theorem is_RX4 : Cond.instantiable RX4 8 ∈ xT := xT_of (List.mem_of_getElem? (i := 232) (by decide +kernel)) rfl
theorem is_RX9 : Cond.instantiable RX9 18 ∈ xT := xT_of (List.mem_of_getElem? (i := 808) (by decide +kernel)) rfl
theorem ct_RJ6_265 : Cond.constant RJ6 265 (1431655765) ∈ xT := xT_of (List.mem_of_getElem? (i := 528) (by decide +kernel)) rfl
theorem ct_RJ6_266 : Cond.constant RJ6 266 (858993459) ∈ xT := xT_of (List.mem_of_getElem? (i := 529) (by decide +kernel)) rfl
theorem ct_RJ6_267 : Cond.constant RJ6 267 (252645135) ∈ xT := xT_of (List.mem_of_getElem? (i := 530) (by decide +kernel)) rfl
theorem ct_RX8_273 : Cond.constant RX8 273 (999999) ∈ xT := xT_of (List.mem_of_getElem? (i := 757) (by decide +kernel)) rfl
theorem ct_RX9_154 : Cond.constant RX9 154 (1000000) ∈ xT := xT_of (List.mem_of_getElem? (i := 1053) (by decide +kernel)) rfl
theorem cL_RX8_271 : Cond.constantLong RX8 271 (10) ∈ xT := xT_of (List.mem_of_getElem? (i := 752) (by decide +kernel)) rfl
theorem cL_RX3_92 : Cond.constantLong RX3 92 (1103515245) ∈ xT := xT_of (List.mem_of_getElem? (i := 762) (by decide +kernel)) rfl
theorem cL_RX3_94 : Cond.constantLong RX3 94 (12345) ∈ xT := xT_of (List.mem_of_getElem? (i := 763) (by decide +kernel)) rfl
theorem cL_RX3_96 : Cond.constantLong RX3 96 (2147483648) ∈ xT := xT_of (List.mem_of_getElem? (i := 764) (by decide +kernel)) rfl
theorem cL_RX3_98 : Cond.constantLong RX3 98 (65536) ∈ xT := xT_of (List.mem_of_getElem? (i := 765) (by decide +kernel)) rfl
theorem cL_RX8_300 : Cond.constantLong RX8 300 (1381) ∈ xT := xT_of (List.mem_of_getElem? (i := 798) (by decide +kernel)) rfl
theorem cL_RX8_302 : Cond.constantLong RX8 302 (31) ∈ xT := xT_of (List.mem_of_getElem? (i := 799) (by decide +kernel)) rfl
theorem cL_RX0_141 : Cond.constantLong RX0 141 (31) ∈ xT := xT_of (List.mem_of_getElem? (i := 806) (by decide +kernel)) rfl
theorem cL_RX9_62 : Cond.constantLong RX9 62 (7) ∈ xT := xT_of (List.mem_of_getElem? (i := 875) (by decide +kernel)) rfl
theorem cL_RX9_60 : Cond.constantLong RX9 60 (9) ∈ xT := xT_of (List.mem_of_getElem? (i := 898) (by decide +kernel)) rfl
theorem cL_RX9_72 : Cond.constantLong RX9 72 (5) ∈ xT := xT_of (List.mem_of_getElem? (i := 903) (by decide +kernel)) rfl
theorem cL_RX9_74 : Cond.constantLong RX9 74 (8) ∈ xT := xT_of (List.mem_of_getElem? (i := 904) (by decide +kernel)) rfl
theorem cL_RX9_117 : Cond.constantLong RX9 117 (10) ∈ xT := xT_of (List.mem_of_getElem? (i := 927) (by decide +kernel)) rfl
theorem cL_RX9_129 : Cond.constantLong RX9 129 (4) ∈ xT := xT_of (List.mem_of_getElem? (i := 988) (by decide +kernel)) rfl
theorem cL_RX9_131 : Cond.constantLong RX9 131 (2) ∈ xT := xT_of (List.mem_of_getElem? (i := 993) (by decide +kernel)) rfl
theorem cL_RX9_136 : Cond.constantLong RX9 136 (-1) ∈ xT := xT_of (List.mem_of_getElem? (i := 1002) (by decide +kernel)) rfl
theorem cL_RX9_147 : Cond.constantLong RX9 147 (200) ∈ xT := xT_of (List.mem_of_getElem? (i := 1031) (by decide +kernel)) rfl
theorem cL_RX9_149 : Cond.constantLong RX9 149 (40) ∈ xT := xT_of (List.mem_of_getElem? (i := 1036) (by decide +kernel)) rfl
theorem cL_RX9_162 : Cond.constantLong RX9 162 (60) ∈ xT := xT_of (List.mem_of_getElem? (i := 1061) (by decide +kernel)) rfl
theorem cL_RX9_179 : Cond.constantLong RX9 179 (999999) ∈ xT := xT_of (List.mem_of_getElem? (i := 1090) (by decide +kernel)) rfl
theorem cL_RX9_181 : Cond.constantLong RX9 181 (1103515245) ∈ xT := xT_of (List.mem_of_getElem? (i := 1091) (by decide +kernel)) rfl
theorem cL_RX9_183 : Cond.constantLong RX9 183 (12345) ∈ xT := xT_of (List.mem_of_getElem? (i := 1092) (by decide +kernel)) rfl
theorem cL_RX9_185 : Cond.constantLong RX9 185 (2147483648) ∈ xT := xT_of (List.mem_of_getElem? (i := 1093) (by decide +kernel)) rfl
theorem cL_RX9_187 : Cond.constantLong RX9 187 (65536) ∈ xT := xT_of (List.mem_of_getElem? (i := 1094) (by decide +kernel)) rfl
theorem cL_RX9_189 : Cond.constantLong RX9 189 (127) ∈ xT := xT_of (List.mem_of_getElem? (i := 1099) (by decide +kernel)) rfl
theorem cL_RX9_195 : Cond.constantLong RX9 195 (97) ∈ xT := xT_of (List.mem_of_getElem? (i := 1115) (by decide +kernel)) rfl
theorem cL_RX9_197 : Cond.constantLong RX9 197 (122) ∈ xT := xT_of (List.mem_of_getElem? (i := 1116) (by decide +kernel)) rfl
theorem cL_RX9_199 : Cond.constantLong RX9 199 (48) ∈ xT := xT_of (List.mem_of_getElem? (i := 1120) (by decide +kernel)) rfl
theorem cL_RX9_201 : Cond.constantLong RX9 201 (57) ∈ xT := xT_of (List.mem_of_getElem? (i := 1121) (by decide +kernel)) rfl
theorem cL_RX9_259 : Cond.constantLong RX9 259 (6) ∈ xT := xT_of (List.mem_of_getElem? (i := 1178) (by decide +kernel)) rfl
theorem cL_RX9_266 : Cond.constantLong RX9 266 (1381) ∈ xT := xT_of (List.mem_of_getElem? (i := 1195) (by decide +kernel)) rfl
theorem cL_RX9_264 : Cond.constantLong RX9 264 (31) ∈ xT := xT_of (List.mem_of_getElem? (i := 1196) (by decide +kernel)) rfl
theorem ac_int : Cond.arrayClass .int ∈ xT := xT_of (List.mem_of_getElem? (i := 69) (by decide +kernel)) rfl
theorem ac_boolean : Cond.arrayClass .boolean ∈ xT := xT_of (List.mem_of_getElem? (i := 166) (by decide +kernel)) rfl
theorem ac_byte : Cond.arrayClass .byte ∈ xT := xT_of (List.mem_of_getElem? (i := 499) (by decide +kernel)) rfl
theorem nt_copy : Cond.native arraycopyName ∈ xT := xT_of (List.mem_of_getElem? (i := 494) (by decide +kernel)) rfl
theorem tg_X8_init : xtg yX8_init cX8_init 1 none 0 := ⟨xT_of (List.mem_of_getElem? (i := 22) (by decide +kernel)) rfl, in_RX8, by decide +kernel, by decide +kernel, by decide +kernel⟩
theorem cd_obj : Cond.code objectInit ⟨#[0xb1]⟩ 1 none ∈ xT := xT_of (List.mem_of_getElem? (i := 25) (by decide +kernel)) rfl
theorem tg_X0_init : xtg yX0_init cX0_init 2 none 0 := ⟨xT_of (List.mem_of_getElem? (i := 30) (by decide +kernel)) rfl, in_RX0, by decide +kernel, by decide +kernel, by decide +kernel⟩
theorem tg_X5_init : xtg yX5_init cX5_init 1 none 0 := ⟨xT_of (List.mem_of_getElem? (i := 36) (by decide +kernel)) rfl, in_RX5, by decide +kernel, by decide +kernel, by decide +kernel⟩
theorem tg_X3_init : xtg yX3_init cX3_init 1 none 0 := ⟨xT_of (List.mem_of_getElem? (i := 148) (by decide +kernel)) rfl, in_RX3, by decide +kernel, by decide +kernel, by decide +kernel⟩
theorem tg_X1_init : xtg yX1_init cX1_init 1 none 0 := ⟨xT_of (List.mem_of_getElem? (i := 171) (by decide +kernel)) rfl, in_RX1, by decide +kernel, by decide +kernel, by decide +kernel⟩
theorem tg_X6_init : xtg yX6_init cX6_init 1 none 0 := ⟨xT_of (List.mem_of_getElem? (i := 182) (by decide +kernel)) rfl, in_RX6, by decide +kernel, by decide +kernel, by decide +kernel⟩
theorem tg_X7_init : xtg yX7_init cX7_init 1 none 0 := ⟨xT_of (List.mem_of_getElem? (i := 201) (by decide +kernel)) rfl, in_RX7, by decide +kernel, by decide +kernel, by decide +kernel⟩
theorem tg_X2_init : xtg yX2_init cX2_init 1 none 0 := ⟨xT_of (List.mem_of_getElem? (i := 220) (by decide +kernel)) rfl, in_RX2, by decide +kernel, by decide +kernel, by decide +kernel⟩
theorem tg_X4_init : xtg yX4_init cX4_init 1 none 0 := ⟨xT_of (List.mem_of_getElem? (i := 235) (by decide +kernel)) rfl, in_RX4, by decide +kernel, by decide +kernel, by decide +kernel⟩
theorem tg_X8_bus : xtg yX8_bus cX8_bus 3 (some .int) 1 := ⟨xT_of (List.mem_of_getElem? (i := 308) (by decide +kernel)) rfl, in_RX8, by decide +kernel, by decide +kernel, by decide +kernel⟩
theorem tg_X8_within : xtg yX8_within cX8_within 3 (some .boolean) 3 := ⟨xT_of (List.mem_of_getElem? (i := 311) (by decide +kernel)) rfl, in_RX8, by decide +kernel, by decide +kernel, by decide +kernel⟩
theorem tg_X8_refuseBad : xtg yX8_refuseBad cX8_refuseBad 1 (some .int) 0 := ⟨xT_of (List.mem_of_getElem? (i := 315) (by decide +kernel)) rfl, in_RX8, by decide +kernel, by decide +kernel, by decide +kernel⟩
theorem tg_X0_startAnew : xtg yX0_startAnew cX0_startAnew 2 none 0 := ⟨xT_of (List.mem_of_getElem? (i := 319) (by decide +kernel)) rfl, in_RX0, by decide +kernel, by decide +kernel, by decide +kernel⟩
theorem tg_X5_startAnew : xtg yX5_startAnew cX5_startAnew 1 none 0 := ⟨xT_of (List.mem_of_getElem? (i := 323) (by decide +kernel)) rfl, in_RX5, by decide +kernel, by decide +kernel, by decide +kernel⟩
theorem tg_X8_room : xtg yX8_room cX8_room 3 (some .int) 1 := ⟨xT_of (List.mem_of_getElem? (i := 327) (by decide +kernel)) rfl, in_RX8, by decide +kernel, by decide +kernel, by decide +kernel⟩
theorem tg_X8_bridge : xtg yX8_bridge cX8_bridge 4 (some .int) 2 := ⟨xT_of (List.mem_of_getElem? (i := 331) (by decide +kernel)) rfl, in_RX8, by decide +kernel, by decide +kernel, by decide +kernel⟩
theorem tg_X8_idea : xtg yX8_idea cX8_idea 5 (some .int) 4 := ⟨xT_of (List.mem_of_getElem? (i := 335) (by decide +kernel)) rfl, in_RX8, by decide +kernel, by decide +kernel, by decide +kernel⟩
theorem tg_X8_refuseFull : xtg yX8_refuseFull cX8_refuseFull 1 (some .int) 0 := ⟨xT_of (List.mem_of_getElem? (i := 339) (by decide +kernel)) rfl, in_RX8, by decide +kernel, by decide +kernel, by decide +kernel⟩
theorem tg_X0_addIdea : xtg yX0_addIdea cX0_addIdea 5 none 4 := ⟨xT_of (List.mem_of_getElem? (i := 343) (by decide +kernel)) rfl, in_RX0, by decide +kernel, by decide +kernel, by decide +kernel⟩
theorem tg_X8_quarrel : xtg yX8_quarrel cX8_quarrel 5 (some .int) 3 := ⟨xT_of (List.mem_of_getElem? (i := 347) (by decide +kernel)) rfl, in_RX8, by decide +kernel, by decide +kernel, by decide +kernel⟩
theorem tg_X0_hasTwo : xtg yX0_hasTwo cX0_hasTwo 3 (some .boolean) 2 := ⟨xT_of (List.mem_of_getElem? (i := 351) (by decide +kernel)) rfl, in_RX0, by decide +kernel, by decide +kernel, by decide +kernel⟩
theorem tg_X0_has : xtg yX0_has cX0_has 2 (some .boolean) 1 := ⟨xT_of (List.mem_of_getElem? (i := 355) (by decide +kernel)) rfl, in_RX0, by decide +kernel, by decide +kernel, by decide +kernel⟩
theorem tg_X8_bit : xtg yX8_bit cX8_bit 2 (some .int) 2 := ⟨xT_of (List.mem_of_getElem? (i := 358) (by decide +kernel)) rfl, in_RX8, by decide +kernel, by decide +kernel, by decide +kernel⟩
theorem tg_X0_setQuarrel : xtg yX0_setQuarrel cX0_setQuarrel 4 none 3 := ⟨xT_of (List.mem_of_getElem? (i := 362) (by decide +kernel)) rfl, in_RX0, by decide +kernel, by decide +kernel, by decide +kernel⟩
theorem tg_X8_type : xtg yX8_type cX8_type 2 (some .int) 1 := ⟨xT_of (List.mem_of_getElem? (i := 367) (by decide +kernel)) rfl, in_RX8, by decide +kernel, by decide +kernel, by decide +kernel⟩
theorem tg_X4_addByte : xtg yX4_addByte cX4_addByte 2 none 1 := ⟨xT_of (List.mem_of_getElem? (i := 371) (by decide +kernel)) rfl, in_RX4, by decide +kernel, by decide +kernel, by decide +kernel⟩
theorem tg_X8_clear : xtg yX8_clear cX8_clear 2 (some .int) 0 := ⟨xT_of (List.mem_of_getElem? (i := 375) (by decide +kernel)) rfl, in_RX8, by decide +kernel, by decide +kernel, by decide +kernel⟩
theorem tg_X8_read : xtg yX8_read cX8_read 1 (some .int) 0 := ⟨xT_of (List.mem_of_getElem? (i := 379) (by decide +kernel)) rfl, in_RX8, by decide +kernel, by decide +kernel, by decide +kernel⟩
theorem tg_X4_readBus : xtg yX4_readBus cX4_readBus 2 (some .boolean) 0 := ⟨xT_of (List.mem_of_getElem? (i := 383) (by decide +kernel)) rfl, in_RX4, by decide +kernel, by decide +kernel, by decide +kernel⟩
theorem tg_X4_step : xtg yX4_step cX4_step 2 none 0 := ⟨xT_of (List.mem_of_getElem? (i := 388) (by decide +kernel)) rfl, in_RX4, by decide +kernel, by decide +kernel, by decide +kernel⟩
theorem tg_X4_endOfRun : xtg yX4_endOfRun cX4_endOfRun 5 (some .int) 3 := ⟨xT_of (List.mem_of_getElem? (i := 392) (by decide +kernel)) rfl, in_RX4, by decide +kernel, by decide +kernel, by decide +kernel⟩
theorem tg_X4_byteAt : xtg yX4_byteAt cX4_byteAt 2 (some .int) 1 := ⟨xT_of (List.mem_of_getElem? (i := 396) (by decide +kernel)) rfl, in_RX4, by decide +kernel, by decide +kernel, by decide +kernel⟩
theorem tg_X4_isWord : xtg yX4_isWord cX4_isWord 3 (some .boolean) 1 := ⟨xT_of (List.mem_of_getElem? (i := 402) (by decide +kernel)) rfl, in_RX4, by decide +kernel, by decide +kernel, by decide +kernel⟩
theorem tg_J0_length_8abf5 : xtg yJ0_length_8abf5 cJ0_length_8abf5 1 (some .int) 0 := ⟨xT_of (List.mem_of_getElem? (i := 406) (by decide +kernel)) rfl, in_RJ0, by decide +kernel, by decide +kernel, by decide +kernel⟩
theorem tg_J0_coder_7d493 : xtg yJ0_coder_7d493 cJ0_coder_7d493 1 (some .byte) 0 := ⟨xT_of (List.mem_of_getElem? (i := 410) (by decide +kernel)) rfl, in_RJ0, by decide +kernel, by decide +kernel, by decide +kernel⟩
theorem tg_J0_charAt_5068e : xtg yJ0_charAt_5068e cJ0_charAt_5068e 2 (some .char) 1 := ⟨xT_of (List.mem_of_getElem? (i := 416) (by decide +kernel)) rfl, in_RJ0, by decide +kernel, by decide +kernel, by decide +kernel⟩
theorem tg_J0_isLatin1_aae02 : xtg yJ0_isLatin1_aae02 cJ0_isLatin1_aae02 1 (some .boolean) 0 := ⟨xT_of (List.mem_of_getElem? (i := 420) (by decide +kernel)) rfl, in_RJ0, by decide +kernel, by decide +kernel, by decide +kernel⟩
theorem tg_J1_charAt_3b067 : xtg yJ1_charAt_3b067 cJ1_charAt_3b067 2 (some .char) 2 := ⟨xT_of (List.mem_of_getElem? (i := 423) (by decide +kernel)) rfl, in_RJ1, by decide +kernel, by decide +kernel, by decide +kernel⟩
theorem tg_J0_checkIndex_df160 : xtg yJ0_checkIndex_df160 cJ0_checkIndex_df160 2 none 2 := ⟨xT_of (List.mem_of_getElem? (i := 426) (by decide +kernel)) rfl, in_RJ0, by decide +kernel, by decide +kernel, by decide +kernel⟩
theorem tg_J3_checkIndex_8e157 : xtg yJ3_checkIndex_8e157 cJ3_checkIndex_8e157 3 (some .int) 3 := ⟨xT_of (List.mem_of_getElem? (i := 431) (by decide +kernel)) rfl, in_RJ3, by decide +kernel, by decide +kernel, by decide +kernel⟩
theorem tg_J2_charAt_3b067 : xtg yJ2_charAt_3b067 cJ2_charAt_3b067 2 (some .char) 2 := ⟨xT_of (List.mem_of_getElem? (i := 434) (by decide +kernel)) rfl, in_RJ2, by decide +kernel, by decide +kernel, by decide +kernel⟩
theorem tg_J2_checkIndex_2214a : xtg yJ2_checkIndex_2214a cJ2_checkIndex_2214a 2 none 2 := ⟨xT_of (List.mem_of_getElem? (i := 437) (by decide +kernel)) rfl, in_RJ2, by decide +kernel, by decide +kernel, by decide +kernel⟩
theorem tg_J2_length_9d52b : xtg yJ2_length_9d52b cJ2_length_9d52b 1 (some .int) 1 := ⟨xT_of (List.mem_of_getElem? (i := 440) (by decide +kernel)) rfl, in_RJ2, by decide +kernel, by decide +kernel, by decide +kernel⟩
theorem tg_J2_getChar_3b067 : xtg yJ2_getChar_3b067 cJ2_getChar_3b067 2 (some .char) 2 := ⟨xT_of (List.mem_of_getElem? (i := 444) (by decide +kernel)) rfl, in_RJ2, by decide +kernel, by decide +kernel, by decide +kernel⟩
theorem tg_X4_readRoom : xtg yX4_readRoom cX4_readRoom 1 (some .boolean) 0 := ⟨xT_of (List.mem_of_getElem? (i := 454) (by decide +kernel)) rfl, in_RX4, by decide +kernel, by decide +kernel, by decide +kernel⟩
theorem tg_X4_readNumber : xtg yX4_readNumber cX4_readNumber 3 (some .boolean) 2 := ⟨xT_of (List.mem_of_getElem? (i := 458) (by decide +kernel)) rfl, in_RX4, by decide +kernel, by decide +kernel, by decide +kernel⟩
theorem tg_X4_valueOfFigures : xtg yX4_valueOfFigures cX4_valueOfFigures 3 (some .int) 0 := ⟨xT_of (List.mem_of_getElem? (i := 462) (by decide +kernel)) rfl, in_RX4, by decide +kernel, by decide +kernel, by decide +kernel⟩
theorem tg_X4_readMark : xtg yX4_readMark cX4_readMark 1 (some .boolean) 0 := ⟨xT_of (List.mem_of_getElem? (i := 466) (by decide +kernel)) rfl, in_RX4, by decide +kernel, by decide +kernel, by decide +kernel⟩
theorem tg_X4_readItem : xtg yX4_readItem cX4_readItem 1 (some .boolean) 0 := ⟨xT_of (List.mem_of_getElem? (i := 470) (by decide +kernel)) rfl, in_RX4, by decide +kernel, by decide +kernel, by decide +kernel⟩
theorem tg_X4_readBridge : xtg yX4_readBridge cX4_readBridge 2 (some .boolean) 0 := ⟨xT_of (List.mem_of_getElem? (i := 475) (by decide +kernel)) rfl, in_RX4, by decide +kernel, by decide +kernel, by decide +kernel⟩
theorem tg_X4_readIdea : xtg yX4_readIdea cX4_readIdea 4 (some .boolean) 0 := ⟨xT_of (List.mem_of_getElem? (i := 480) (by decide +kernel)) rfl, in_RX4, by decide +kernel, by decide +kernel, by decide +kernel⟩
theorem tg_X4_readQuarrel : xtg yX4_readQuarrel cX4_readQuarrel 2 (some .boolean) 0 := ⟨xT_of (List.mem_of_getElem? (i := 486) (by decide +kernel)) rfl, in_RX4, by decide +kernel, by decide +kernel, by decide +kernel⟩
theorem tg_X0_take : xtg yX0_take cX0_take 3 none 1 := ⟨xT_of (List.mem_of_getElem? (i := 491) (by decide +kernel)) rfl, in_RX0, by decide +kernel, by decide +kernel, by decide +kernel⟩
theorem tg_X5_take : xtg yX5_take cX5_take 2 none 1 := ⟨xT_of (List.mem_of_getElem? (i := 498) (by decide +kernel)) rfl, in_RX5, by decide +kernel, by decide +kernel, by decide +kernel⟩
theorem tg_X8_drive : xtg yX8_drive cX8_drive 4 (some .int) 1 := ⟨xT_of (List.mem_of_getElem? (i := 503) (by decide +kernel)) rfl, in_RX8, by decide +kernel, by decide +kernel, by decide +kernel⟩
theorem tg_X8_refuseNo : xtg yX8_refuseNo cX8_refuseNo 1 (some .int) 0 := ⟨xT_of (List.mem_of_getElem? (i := 507) (by decide +kernel)) rfl, in_RX8, by decide +kernel, by decide +kernel, by decide +kernel⟩
theorem tg_X0_remember : xtg yX0_remember cX0_remember 3 none 0 := ⟨xT_of (List.mem_of_getElem? (i := 511) (by decide +kernel)) rfl, in_RX0, by decide +kernel, by decide +kernel, by decide +kernel⟩
theorem tg_X0_passStop : xtg yX0_passStop cX0_passStop 5 none 3 := ⟨xT_of (List.mem_of_getElem? (i := 515) (by decide +kernel)) rfl, in_RX0, by decide +kernel, by decide +kernel, by decide +kernel⟩
theorem tg_X0_letOff : xtg yX0_letOff cX0_letOff 4 none 2 := ⟨xT_of (List.mem_of_getElem? (i := 520) (by decide +kernel)) rfl, in_RX0, by decide +kernel, by decide +kernel, by decide +kernel⟩
theorem tg_X0_letOn : xtg yX0_letOn cX0_letOn 6 none 3 := ⟨xT_of (List.mem_of_getElem? (i := 524) (by decide +kernel)) rfl, in_RX0, by decide +kernel, by decide +kernel, by decide +kernel⟩
theorem tg_J6_bitCount_0f7a4 : xtg yJ6_bitCount_0f7a4 cJ6_bitCount_0f7a4 1 (some .int) 1 := ⟨xT_of (List.mem_of_getElem? (i := 527) (by decide +kernel)) rfl, in_RJ6, by decide +kernel, by decide +kernel, by decide +kernel⟩
theorem tg_X0_scrape : xtg yX0_scrape cX0_scrape 5 none 3 := ⟨xT_of (List.mem_of_getElem? (i := 534) (by decide +kernel)) rfl, in_RX0, by decide +kernel, by decide +kernel, by decide +kernel⟩
theorem tg_X8_tallOf : xtg yX8_tallOf cX8_tallOf 5 (some .int) 2 := ⟨xT_of (List.mem_of_getElem? (i := 538) (by decide +kernel)) rfl, in_RX8, by decide +kernel, by decide +kernel, by decide +kernel⟩
theorem tg_X0_swayOfAll : xtg yX0_swayOfAll cX0_swayOfAll 5 (some .int) 2 := ⟨xT_of (List.mem_of_getElem? (i := 542) (by decide +kernel)) rfl, in_RX0, by decide +kernel, by decide +kernel, by decide +kernel⟩
theorem tg_X8_swayOf : xtg yX8_swayOf cX8_swayOf 5 (some .int) 3 := ⟨xT_of (List.mem_of_getElem? (i := 545) (by decide +kernel)) rfl, in_RX8, by decide +kernel, by decide +kernel, by decide +kernel⟩
theorem tg_X8_puts : xtg yX8_puts cX8_puts 2 (some .int) 1 := ⟨xT_of (List.mem_of_getElem? (i := 549) (by decide +kernel)) rfl, in_RX8, by decide +kernel, by decide +kernel, by decide +kernel⟩
theorem tg_X8_undo : xtg yX8_undo cX8_undo 1 (some .int) 0 := ⟨xT_of (List.mem_of_getElem? (i := 555) (by decide +kernel)) rfl, in_RX8, by decide +kernel, by decide +kernel, by decide +kernel⟩
theorem tg_X0_goBack : xtg yX0_goBack cX0_goBack 1 none 0 := ⟨xT_of (List.mem_of_getElem? (i := 559) (by decide +kernel)) rfl, in_RX0, by decide +kernel, by decide +kernel, by decide +kernel⟩
theorem tg_X8_of : xtg yX8_of cX8_of 3 (some .int) 2 := ⟨xT_of (List.mem_of_getElem? (i := 563) (by decide +kernel)) rfl, in_RX8, by decide +kernel, by decide +kernel, by decide +kernel⟩
theorem tg_X8_sways : xtg yX8_sways cX8_sways 4 (some .int) 3 := ⟨xT_of (List.mem_of_getElem? (i := 567) (by decide +kernel)) rfl, in_RX8, by decide +kernel, by decide +kernel, by decide +kernel⟩
theorem tg_X8_now : xtg yX8_now cX8_now 2 (some .int) 1 := ⟨xT_of (List.mem_of_getElem? (i := 573) (by decide +kernel)) rfl, in_RX8, by decide +kernel, by decide +kernel, by decide +kernel⟩
theorem tg_X8_then : xtg yX8_then cX8_then 3 (some .int) 2 := ⟨xT_of (List.mem_of_getElem? (i := 577) (by decide +kernel)) rfl, in_RX8, by decide +kernel, by decide +kernel, by decide +kernel⟩
theorem tg_X3_goOn : xtg yX3_goOn cX3_goOn 2 none 1 := ⟨xT_of (List.mem_of_getElem? (i := 581) (by decide +kernel)) rfl, in_RX3, by decide +kernel, by decide +kernel, by decide +kernel⟩
theorem tg_X3_boardAsTold : xtg yX3_boardAsTold cX3_boardAsTold 2 none 1 := ⟨xT_of (List.mem_of_getElem? (i := 586) (by decide +kernel)) rfl, in_RX3, by decide +kernel, by decide +kernel, by decide +kernel⟩
theorem tg_X3_passThrough : xtg yX3_passThrough cX3_passThrough 4 none 2 := ⟨xT_of (List.mem_of_getElem? (i := 591) (by decide +kernel)) rfl, in_RX3, by decide +kernel, by decide +kernel, by decide +kernel⟩
theorem tg_X8_end : xtg yX8_end cX8_end 2 (some .int) 1 := ⟨xT_of (List.mem_of_getElem? (i := 597) (by decide +kernel)) rfl, in_RX8, by decide +kernel, by decide +kernel, by decide +kernel⟩
theorem tg_X8_decks : xtg yX8_decks cX8_decks 3 (some .int) 1 := ⟨xT_of (List.mem_of_getElem? (i := 601) (by decide +kernel)) rfl, in_RX8, by decide +kernel, by decide +kernel, by decide +kernel⟩
theorem tg_X8_refuseOtherBad : xtg yX8_refuseOtherBad cX8_refuseOtherBad 1 (some .int) 0 := ⟨xT_of (List.mem_of_getElem? (i := 605) (by decide +kernel)) rfl, in_RX8, by decide +kernel, by decide +kernel, by decide +kernel⟩
theorem tg_X1_fewest : xtg yX1_fewest cX1_fewest 3 (some .int) 1 := ⟨xT_of (List.mem_of_getElem? (i := 609) (by decide +kernel)) rfl, in_RX1, by decide +kernel, by decide +kernel, by decide +kernel⟩
theorem tg_X1_canPlace : xtg yX1_canPlace cX1_canPlace 5 (some .boolean) 4 := ⟨xT_of (List.mem_of_getElem? (i := 612) (by decide +kernel)) rfl, in_RX1, by decide +kernel, by decide +kernel, by decide +kernel⟩
theorem tg_X1_isCalm : xtg yX1_isCalm cX1_isCalm 5 (some .boolean) 4 := ⟨xT_of (List.mem_of_getElem? (i := 615) (by decide +kernel)) rfl, in_RX1, by decide +kernel, by decide +kernel, by decide +kernel⟩
theorem tg_X8_better : xtg yX8_better cX8_better 1 (some .int) 0 := ⟨xT_of (List.mem_of_getElem? (i := 620) (by decide +kernel)) rfl, in_RX8, by decide +kernel, by decide +kernel, by decide +kernel⟩
theorem tg_X3_betterBoarding : xtg yX3_betterBoarding cX3_betterBoarding 7 (some .int) 1 := ⟨xT_of (List.mem_of_getElem? (i := 624) (by decide +kernel)) rfl, in_RX3, by decide +kernel, by decide +kernel, by decide +kernel⟩
theorem tg_X3_startAnew : xtg yX3_startAnew cX3_startAnew 2 none 1 := ⟨xT_of (List.mem_of_getElem? (i := 628) (by decide +kernel)) rfl, in_RX3, by decide +kernel, by decide +kernel, by decide +kernel⟩
theorem tg_X3_missing : xtg yX3_missing cX3_missing 1 (some .int) 0 := ⟨xT_of (List.mem_of_getElem? (i := 634) (by decide +kernel)) rfl, in_RX3, by decide +kernel, by decide +kernel, by decide +kernel⟩
theorem tg_X3_missingIf : xtg yX3_missingIf cX3_missingIf 4 (some .int) 3 := ⟨xT_of (List.mem_of_getElem? (i := 639) (by decide +kernel)) rfl, in_RX3, by decide +kernel, by decide +kernel, by decide +kernel⟩
theorem tg_X8_raise : xtg yX8_raise cX8_raise 1 (some .int) 0 := ⟨xT_of (List.mem_of_getElem? (i := 644) (by decide +kernel)) rfl, in_RX8, by decide +kernel, by decide +kernel, by decide +kernel⟩
theorem tg_X3_leastLift : xtg yX3_leastLift cX3_leastLift 3 (some .int) 1 := ⟨xT_of (List.mem_of_getElem? (i := 648) (by decide +kernel)) rfl, in_RX3, by decide +kernel, by decide +kernel, by decide +kernel⟩
theorem tg_X8_upstairs : xtg yX8_upstairs cX8_upstairs 4 (some .int) 3 := ⟨xT_of (List.mem_of_getElem? (i := 652) (by decide +kernel)) rfl, in_RX8, by decide +kernel, by decide +kernel, by decide +kernel⟩
theorem tg_X6_find : xtg yX6_find cX6_find 5 none 3 := ⟨xT_of (List.mem_of_getElem? (i := 656) (by decide +kernel)) rfl, in_RX6, by decide +kernel, by decide +kernel, by decide +kernel⟩
theorem tg_X6_canBe : xtg yX6_canBe cX6_canBe 4 (some .boolean) 4 := ⟨xT_of (List.mem_of_getElem? (i := 659) (by decide +kernel)) rfl, in_RX6, by decide +kernel, by decide +kernel, by decide +kernel⟩
theorem tg_X0_quarrelsIn : xtg yX0_quarrelsIn cX0_quarrelsIn 3 (some .boolean) 1 := ⟨xT_of (List.mem_of_getElem? (i := 665) (by decide +kernel)) rfl, in_RX0, by decide +kernel, by decide +kernel, by decide +kernel⟩
theorem tg_X8_note : xtg yX8_note cX8_note 5 (some .int) 4 := ⟨xT_of (List.mem_of_getElem? (i := 669) (by decide +kernel)) rfl, in_RX8, by decide +kernel, by decide +kernel, by decide +kernel⟩
theorem tg_X0_addNote : xtg yX0_addNote cX0_addNote 5 none 4 := ⟨xT_of (List.mem_of_getElem? (i := 673) (by decide +kernel)) rfl, in_RX0, by decide +kernel, by decide +kernel, by decide +kernel⟩
theorem tg_X8_forget : xtg yX8_forget cX8_forget 2 (some .int) 0 := ⟨xT_of (List.mem_of_getElem? (i := 677) (by decide +kernel)) rfl, in_RX8, by decide +kernel, by decide +kernel, by decide +kernel⟩
theorem tg_X8_is : xtg yX8_is cX8_is 2 (some .int) 1 := ⟨xT_of (List.mem_of_getElem? (i := 681) (by decide +kernel)) rfl, in_RX8, by decide +kernel, by decide +kernel, by decide +kernel⟩
theorem tg_X0_kindsByNotes : xtg yX0_kindsByNotes cX0_kindsByNotes 4 (some .int) 1 := ⟨xT_of (List.mem_of_getElem? (i := 685) (by decide +kernel)) rfl, in_RX0, by decide +kernel, by decide +kernel, by decide +kernel⟩
theorem tg_X0_fitsNotes : xtg yX0_fitsNotes cX0_fitsNotes 5 (some .boolean) 2 := ⟨xT_of (List.mem_of_getElem? (i := 689) (by decide +kernel)) rfl, in_RX0, by decide +kernel, by decide +kernel, by decide +kernel⟩
theorem tg_X8_look : xtg yX8_look cX8_look 2 (some .int) 1 := ⟨xT_of (List.mem_of_getElem? (i := 693) (by decide +kernel)) rfl, in_RX8, by decide +kernel, by decide +kernel, by decide +kernel⟩
theorem tg_X8_bestLook : xtg yX8_bestLook cX8_bestLook 6 (some .int) 2 := ⟨xT_of (List.mem_of_getElem? (i := 696) (by decide +kernel)) rfl, in_RX8, by decide +kernel, by decide +kernel, by decide +kernel⟩
theorem tg_X8_mostAlike : xtg yX8_mostAlike cX8_mostAlike 5 (some .int) 3 := ⟨xT_of (List.mem_of_getElem? (i := 699) (by decide +kernel)) rfl, in_RX8, by decide +kernel, by decide +kernel, by decide +kernel⟩
theorem tg_X8_countAlike : xtg yX8_countAlike cX8_countAlike 6 (some .int) 4 := ⟨xT_of (List.mem_of_getElem? (i := 702) (by decide +kernel)) rfl, in_RX8, by decide +kernel, by decide +kernel, by decide +kernel⟩
theorem tg_J9_max_7cf53 : xtg yJ9_max_7cf53 cJ9_max_7cf53 2 (some .int) 2 := ⟨xT_of (List.mem_of_getElem? (i := 705) (by decide +kernel)) rfl, in_RJ9, by decide +kernel, by decide +kernel, by decide +kernel⟩
theorem tg_X8_fare : xtg yX8_fare cX8_fare 2 (some .int) 1 := ⟨xT_of (List.mem_of_getElem? (i := 709) (by decide +kernel)) rfl, in_RX8, by decide +kernel, by decide +kernel, by decide +kernel⟩
theorem tg_X2_become : xtg yX2_become cX2_become 7 none 2 := ⟨xT_of (List.mem_of_getElem? (i := 713) (by decide +kernel)) rfl, in_RX2, by decide +kernel, by decide +kernel, by decide +kernel⟩
theorem tg_X2_commonDivisor : xtg yX2_commonDivisor cX2_commonDivisor 11 (some .long) 2 := ⟨xT_of (List.mem_of_getElem? (i := 716) (by decide +kernel)) rfl, in_RX2, by decide +kernel, by decide +kernel, by decide +kernel⟩
theorem tg_X8_two : xtg yX8_two cX8_two 4 (some .int) 3 := ⟨xT_of (List.mem_of_getElem? (i := 720) (by decide +kernel)) rfl, in_RX8, by decide +kernel, by decide +kernel, by decide +kernel⟩
theorem tg_X7_play : xtg yX7_play cX7_play 7 none 4 := ⟨xT_of (List.mem_of_getElem? (i := 724) (by decide +kernel)) rfl, in_RX7, by decide +kernel, by decide +kernel, by decide +kernel⟩
theorem tg_X7_countStops : xtg yX7_countStops cX7_countStops 9 none 5 := ⟨xT_of (List.mem_of_getElem? (i := 730) (by decide +kernel)) rfl, in_RX7, by decide +kernel, by decide +kernel, by decide +kernel⟩
theorem tg_X7_resting : xtg yX7_resting cX7_resting 4 (some .int) 0 := ⟨xT_of (List.mem_of_getElem? (i := 736) (by decide +kernel)) rfl, in_RX7, by decide +kernel, by decide +kernel, by decide +kernel⟩
theorem tg_X7_rests : xtg yX7_rests cX7_rests 4 (some .boolean) 2 := ⟨xT_of (List.mem_of_getElem? (i := 740) (by decide +kernel)) rfl, in_RX7, by decide +kernel, by decide +kernel, by decide +kernel⟩
theorem tg_X7_restingAt : xtg yX7_restingAt cX7_restingAt 5 (some .int) 1 := ⟨xT_of (List.mem_of_getElem? (i := 744) (by decide +kernel)) rfl, in_RX7, by decide +kernel, by decide +kernel, by decide +kernel⟩
theorem tg_X8_bell : xtg yX8_bell cX8_bell 3 (some .int) 1 := ⟨xT_of (List.mem_of_getElem? (i := 748) (by decide +kernel)) rfl, in_RX8, by decide +kernel, by decide +kernel, by decide +kernel⟩
theorem tg_J9_min_7cf53 : xtg yJ9_min_7cf53 cJ9_min_7cf53 2 (some .int) 2 := ⟨xT_of (List.mem_of_getElem? (i := 751) (by decide +kernel)) rfl, in_RJ9, by decide +kernel, by decide +kernel, by decide +kernel⟩
theorem tg_X8_days : xtg yX8_days cX8_days 3 (some .int) 2 := ⟨xT_of (List.mem_of_getElem? (i := 756) (by decide +kernel)) rfl, in_RX8, by decide +kernel, by decide +kernel, by decide +kernel⟩
theorem tg_X3_levyOfDays : xtg yX3_levyOfDays cX3_levyOfDays 9 (some .int) 3 := ⟨xT_of (List.mem_of_getElem? (i := 761) (by decide +kernel)) rfl, in_RX3, by decide +kernel, by decide +kernel, by decide +kernel⟩
theorem tg_X8_part : xtg yX8_part cX8_part 2 (some .long) 1 := ⟨xT_of (List.mem_of_getElem? (i := 769) (by decide +kernel)) rfl, in_RX8, by decide +kernel, by decide +kernel, by decide +kernel⟩
theorem tg_X8_image : xtg yX8_image cX8_image 2 (some .int) 1 := ⟨xT_of (List.mem_of_getElem? (i := 773) (by decide +kernel)) rfl, in_RX8, by decide +kernel, by decide +kernel, by decide +kernel⟩
theorem tg_X8_from : xtg yX8_from cX8_from 2 (some .int) 1 := ⟨xT_of (List.mem_of_getElem? (i := 777) (by decide +kernel)) rfl, in_RX8, by decide +kernel, by decide +kernel, by decide +kernel⟩
theorem tg_X8_status : xtg yX8_status cX8_status 2 (some .int) 1 := ⟨xT_of (List.mem_of_getElem? (i := 781) (by decide +kernel)) rfl, in_RX8, by decide +kernel, by decide +kernel, by decide +kernel⟩
theorem tg_X8_count : xtg yX8_count cX8_count 2 (some .int) 1 := ⟨xT_of (List.mem_of_getElem? (i := 785) (by decide +kernel)) rfl, in_RX8, by decide +kernel, by decide +kernel, by decide +kernel⟩
theorem tg_X0_countQuarrels : xtg yX0_countQuarrels cX0_countQuarrels 3 (some .int) 0 := ⟨xT_of (List.mem_of_getElem? (i := 789) (by decide +kernel)) rfl, in_RX0, by decide +kernel, by decide +kernel, by decide +kernel⟩
theorem tg_X0_countBridges : xtg yX0_countBridges cX0_countBridges 3 (some .int) 0 := ⟨xT_of (List.mem_of_getElem? (i := 793) (by decide +kernel)) rfl, in_RX0, by decide +kernel, by decide +kernel, by decide +kernel⟩
theorem tg_X8_digest : xtg yX8_digest cX8_digest 4 (some .long) 0 := ⟨xT_of (List.mem_of_getElem? (i := 797) (by decide +kernel)) rfl, in_RX8, by decide +kernel, by decide +kernel, by decide +kernel⟩
theorem tg_X0_mixTold : xtg yX0_mixTold cX0_mixTold 6 (some .long) 1 := ⟨xT_of (List.mem_of_getElem? (i := 805) (by decide +kernel)) rfl, in_RX0, by decide +kernel, by decide +kernel, by decide +kernel⟩
theorem tg_X9_init : xtg yX9_init cX9_init 1 none 0 := ⟨xT_of (List.mem_of_getElem? (i := 811) (by decide +kernel)) rfl, in_RX9, by decide +kernel, by decide +kernel, by decide +kernel⟩
theorem tg_X9_begin : xtg yX9_begin cX9_begin 3 none 2 := ⟨xT_of (List.mem_of_getElem? (i := 815) (by decide +kernel)) rfl, in_RX9, by decide +kernel, by decide +kernel, by decide +kernel⟩
theorem tg_X9_bus : xtg yX9_bus cX9_bus 3 (some .int) 1 := ⟨xT_of (List.mem_of_getElem? (i := 874) (by decide +kernel)) rfl, in_RX9, by decide +kernel, by decide +kernel, by decide +kernel⟩
theorem tg_X9_in : xtg yX9_in cX9_in 6 (some .boolean) 3 := ⟨xT_of (List.mem_of_getElem? (i := 878) (by decide +kernel)) rfl, in_RX9, by decide +kernel, by decide +kernel, by decide +kernel⟩
theorem tg_X9_bad : xtg yX9_bad cX9_bad 2 (some .int) 1 := ⟨xT_of (List.mem_of_getElem? (i := 882) (by decide +kernel)) rfl, in_RX9, by decide +kernel, by decide +kernel, by decide +kernel⟩
theorem tg_X9_many : xtg yX9_many cX9_many 1 (some .int) 0 := ⟨xT_of (List.mem_of_getElem? (i := 886) (by decide +kernel)) rfl, in_RX9, by decide +kernel, by decide +kernel, by decide +kernel⟩
theorem tg_X9_room : xtg yX9_room cX9_room 3 (some .int) 1 := ⟨xT_of (List.mem_of_getElem? (i := 890) (by decide +kernel)) rfl, in_RX9, by decide +kernel, by decide +kernel, by decide +kernel⟩
theorem tg_X9_bridge : xtg yX9_bridge cX9_bridge 4 (some .int) 2 := ⟨xT_of (List.mem_of_getElem? (i := 894) (by decide +kernel)) rfl, in_RX9, by decide +kernel, by decide +kernel, by decide +kernel⟩
theorem tg_X9_isStop : xtg yX9_isStop cX9_isStop 1 (some .boolean) 1 := ⟨xT_of (List.mem_of_getElem? (i := 897) (by decide +kernel)) rfl, in_RX9, by decide +kernel, by decide +kernel, by decide +kernel⟩
theorem tg_X9_idea : xtg yX9_idea cX9_idea 5 (some .int) 4 := ⟨xT_of (List.mem_of_getElem? (i := 902) (by decide +kernel)) rfl, in_RX9, by decide +kernel, by decide +kernel, by decide +kernel⟩
theorem tg_X9_full : xtg yX9_full cX9_full 1 (some .int) 0 := ⟨xT_of (List.mem_of_getElem? (i := 908) (by decide +kernel)) rfl, in_RX9, by decide +kernel, by decide +kernel, by decide +kernel⟩
theorem tg_X9_layIdea : xtg yX9_layIdea cX9_layIdea 6 none 5 := ⟨xT_of (List.mem_of_getElem? (i := 911) (by decide +kernel)) rfl, in_RX9, by decide +kernel, by decide +kernel, by decide +kernel⟩
theorem tg_X9_quarrel : xtg yX9_quarrel cX9_quarrel 5 (some .int) 3 := ⟨xT_of (List.mem_of_getElem? (i := 915) (by decide +kernel)) rfl, in_RX9, by decide +kernel, by decide +kernel, by decide +kernel⟩
theorem tg_X9_isIdea : xtg yX9_isIdea cX9_isIdea 2 (some .boolean) 1 := ⟨xT_of (List.mem_of_getElem? (i := 919) (by decide +kernel)) rfl, in_RX9, by decide +kernel, by decide +kernel, by decide +kernel⟩
theorem tg_X9_layFoes : xtg yX9_layFoes cX9_layFoes 4 none 4 := ⟨xT_of (List.mem_of_getElem? (i := 922) (by decide +kernel)) rfl, in_RX9, by decide +kernel, by decide +kernel, by decide +kernel⟩
theorem tg_X9_drive : xtg yX9_drive cX9_drive 4 (some .int) 1 := ⟨xT_of (List.mem_of_getElem? (i := 926) (by decide +kernel)) rfl, in_RX9, by decide +kernel, by decide +kernel, by decide +kernel⟩
theorem tg_X9_no : xtg yX9_no cX9_no 1 (some .int) 0 := ⟨xT_of (List.mem_of_getElem? (i := 931) (by decide +kernel)) rfl, in_RX9, by decide +kernel, by decide +kernel, by decide +kernel⟩
theorem tg_X9_keep : xtg yX9_keep cX9_keep 2 none 0 := ⟨xT_of (List.mem_of_getElem? (i := 935) (by decide +kernel)) rfl, in_RX9, by decide +kernel, by decide +kernel, by decide +kernel⟩
theorem tg_X9_layHand : xtg yX9_layHand cX9_layHand 2 none 0 := ⟨xT_of (List.mem_of_getElem? (i := 939) (by decide +kernel)) rfl, in_RX9, by decide +kernel, by decide +kernel, by decide +kernel⟩
theorem tg_X9_goTill : xtg yX9_goTill cX9_goTill 2 none 1 := ⟨xT_of (List.mem_of_getElem? (i := 943) (by decide +kernel)) rfl, in_RX9, by decide +kernel, by decide +kernel, by decide +kernel⟩
theorem tg_X9_goStop : xtg yX9_goStop cX9_goStop 4 none 0 := ⟨xT_of (List.mem_of_getElem? (i := 947) (by decide +kernel)) rfl, in_RX9, by decide +kernel, by decide +kernel, by decide +kernel⟩
theorem tg_X9_bits : xtg yX9_bits cX9_bits 3 (some .int) 1 := ⟨xT_of (List.mem_of_getElem? (i := 950) (by decide +kernel)) rfl, in_RX9, by decide +kernel, by decide +kernel, by decide +kernel⟩
theorem tg_X9_has : xtg yX9_has cX9_has 2 (some .boolean) 2 := ⟨xT_of (List.mem_of_getElem? (i := 953) (by decide +kernel)) rfl, in_RX9, by decide +kernel, by decide +kernel, by decide +kernel⟩
theorem tg_X9_tallAs : xtg yX9_tallAs cX9_tallAs 2 (some .int) 2 := ⟨xT_of (List.mem_of_getElem? (i := 956) (by decide +kernel)) rfl, in_RX9, by decide +kernel, by decide +kernel, by decide +kernel⟩
theorem tg_X9_swayOfAll : xtg yX9_swayOfAll cX9_swayOfAll 5 (some .int) 2 := ⟨xT_of (List.mem_of_getElem? (i := 960) (by decide +kernel)) rfl, in_RX9, by decide +kernel, by decide +kernel, by decide +kernel⟩
theorem tg_X9_swayOf : xtg yX9_swayOf cX9_swayOf 3 (some .int) 2 := ⟨xT_of (List.mem_of_getElem? (i := 964) (by decide +kernel)) rfl, in_RX9, by decide +kernel, by decide +kernel, by decide +kernel⟩
theorem tg_X9_swayAs : xtg yX9_swayAs cX9_swayAs 4 (some .int) 3 := ⟨xT_of (List.mem_of_getElem? (i := 967) (by decide +kernel)) rfl, in_RX9, by decide +kernel, by decide +kernel, by decide +kernel⟩
theorem tg_X9_puts : xtg yX9_puts cX9_puts 2 (some .int) 1 := ⟨xT_of (List.mem_of_getElem? (i := 971) (by decide +kernel)) rfl, in_RX9, by decide +kernel, by decide +kernel, by decide +kernel⟩
theorem tg_X9_undo : xtg yX9_undo cX9_undo 2 (some .int) 0 := ⟨xT_of (List.mem_of_getElem? (i := 975) (by decide +kernel)) rfl, in_RX9, by decide +kernel, by decide +kernel, by decide +kernel⟩
theorem tg_X9_of : xtg yX9_of cX9_of 3 (some .int) 2 := ⟨xT_of (List.mem_of_getElem? (i := 979) (by decide +kernel)) rfl, in_RX9, by decide +kernel, by decide +kernel, by decide +kernel⟩
theorem tg_X9_sways : xtg yX9_sways cX9_sways 4 (some .int) 3 := ⟨xT_of (List.mem_of_getElem? (i := 983) (by decide +kernel)) rfl, in_RX9, by decide +kernel, by decide +kernel, by decide +kernel⟩
theorem tg_X9_now : xtg yX9_now cX9_now 2 (some .int) 1 := ⟨xT_of (List.mem_of_getElem? (i := 987) (by decide +kernel)) rfl, in_RX9, by decide +kernel, by decide +kernel, by decide +kernel⟩
theorem tg_X9_then : xtg yX9_then cX9_then 3 (some .int) 2 := ⟨xT_of (List.mem_of_getElem? (i := 992) (by decide +kernel)) rfl, in_RX9, by decide +kernel, by decide +kernel, by decide +kernel⟩
theorem tg_X9_end : xtg yX9_end cX9_end 2 (some .int) 1 := ⟨xT_of (List.mem_of_getElem? (i := 997) (by decide +kernel)) rfl, in_RX9, by decide +kernel, by decide +kernel, by decide +kernel⟩
theorem tg_X9_decks : xtg yX9_decks cX9_decks 3 (some .int) 1 := ⟨xT_of (List.mem_of_getElem? (i := 1001) (by decide +kernel)) rfl, in_RX9, by decide +kernel, by decide +kernel, by decide +kernel⟩
theorem tg_X9_fewestDecks : xtg yX9_fewestDecks cX9_fewestDecks 4 (some .int) 0 := ⟨xT_of (List.mem_of_getElem? (i := 1006) (by decide +kernel)) rfl, in_RX9, by decide +kernel, by decide +kernel, by decide +kernel⟩
theorem tg_X9_layDecks : xtg yX9_layDecks cX9_layDecks 7 (some .boolean) 2 := ⟨xT_of (List.mem_of_getElem? (i := 1010) (by decide +kernel)) rfl, in_RX9, by decide +kernel, by decide +kernel, by decide +kernel⟩
theorem tg_X9_better : xtg yX9_better cX9_better 5 (some .int) 0 := ⟨xT_of (List.mem_of_getElem? (i := 1014) (by decide +kernel)) rfl, in_RX9, by decide +kernel, by decide +kernel, by decide +kernel⟩
theorem tg_X9_layStart : xtg yX9_layStart cX9_layStart 1 none 0 := ⟨xT_of (List.mem_of_getElem? (i := 1018) (by decide +kernel)) rfl, in_RX9, by decide +kernel, by decide +kernel, by decide +kernel⟩
theorem tg_X9_manyLost : xtg yX9_manyLost cX9_manyLost 1 (some .int) 0 := ⟨xT_of (List.mem_of_getElem? (i := 1022) (by decide +kernel)) rfl, in_RX9, by decide +kernel, by decide +kernel, by decide +kernel⟩
theorem tg_X9_raise : xtg yX9_raise cX9_raise 3 (some .int) 0 := ⟨xT_of (List.mem_of_getElem? (i := 1026) (by decide +kernel)) rfl, in_RX9, by decide +kernel, by decide +kernel, by decide +kernel⟩
theorem tg_X9_upstairs : xtg yX9_upstairs cX9_upstairs 10 (some .int) 3 := ⟨xT_of (List.mem_of_getElem? (i := 1030) (by decide +kernel)) rfl, in_RX9, by decide +kernel, by decide +kernel, by decide +kernel⟩
theorem tg_X9_note : xtg yX9_note cX9_note 6 (some .int) 4 := ⟨xT_of (List.mem_of_getElem? (i := 1035) (by decide +kernel)) rfl, in_RX9, by decide +kernel, by decide +kernel, by decide +kernel⟩
theorem tg_X9_forget : xtg yX9_forget cX9_forget 2 (some .int) 0 := ⟨xT_of (List.mem_of_getElem? (i := 1040) (by decide +kernel)) rfl, in_RX9, by decide +kernel, by decide +kernel, by decide +kernel⟩
theorem tg_X9_is : xtg yX9_is cX9_is 2 (some .int) 1 := ⟨xT_of (List.mem_of_getElem? (i := 1044) (by decide +kernel)) rfl, in_RX9, by decide +kernel, by decide +kernel, by decide +kernel⟩
theorem tg_X9_kindsOf : xtg yX9_kindsOf cX9_kindsOf 9 (some .int) 1 := ⟨xT_of (List.mem_of_getElem? (i := 1048) (by decide +kernel)) rfl, in_RX9, by decide +kernel, by decide +kernel, by decide +kernel⟩
theorem tg_X9_look : xtg yX9_look cX9_look 10 (some .int) 1 := ⟨xT_of (List.mem_of_getElem? (i := 1052) (by decide +kernel)) rfl, in_RX9, by decide +kernel, by decide +kernel, by decide +kernel⟩
theorem tg_X9_areAlike : xtg yX9_areAlike cX9_areAlike 4 (some .boolean) 4 := ⟨xT_of (List.mem_of_getElem? (i := 1056) (by decide +kernel)) rfl, in_RX9, by decide +kernel, by decide +kernel, by decide +kernel⟩
theorem tg_X9_fare : xtg yX9_fare cX9_fare 2 (some .int) 1 := ⟨xT_of (List.mem_of_getElem? (i := 1060) (by decide +kernel)) rfl, in_RX9, by decide +kernel, by decide +kernel, by decide +kernel⟩
theorem tg_X9_fraction : xtg yX9_fraction cX9_fraction 11 none 2 := ⟨xT_of (List.mem_of_getElem? (i := 1065) (by decide +kernel)) rfl, in_RX9, by decide +kernel, by decide +kernel, by decide +kernel⟩
theorem tg_X9_two : xtg yX9_two cX9_two 7 (some .int) 3 := ⟨xT_of (List.mem_of_getElem? (i := 1069) (by decide +kernel)) rfl, in_RX9, by decide +kernel, by decide +kernel, by decide +kernel⟩
theorem tg_X9_isPair : xtg yX9_isPair cX9_isPair 4 (some .boolean) 3 := ⟨xT_of (List.mem_of_getElem? (i := 1073) (by decide +kernel)) rfl, in_RX9, by decide +kernel, by decide +kernel, by decide +kernel⟩
theorem tg_X9_layPair : xtg yX9_layPair cX9_layPair 4 none 3 := ⟨xT_of (List.mem_of_getElem? (i := 1077) (by decide +kernel)) rfl, in_RX9, by decide +kernel, by decide +kernel, by decide +kernel⟩
theorem tg_X9_rests : xtg yX9_rests cX9_rests 6 (some .boolean) 3 := ⟨xT_of (List.mem_of_getElem? (i := 1081) (by decide +kernel)) rfl, in_RX9, by decide +kernel, by decide +kernel, by decide +kernel⟩
theorem tg_X9_bell : xtg yX9_bell cX9_bell 3 (some .int) 1 := ⟨xT_of (List.mem_of_getElem? (i := 1085) (by decide +kernel)) rfl, in_RX9, by decide +kernel, by decide +kernel, by decide +kernel⟩
theorem tg_X9_days : xtg yX9_days cX9_days 8 (some .int) 2 := ⟨xT_of (List.mem_of_getElem? (i := 1089) (by decide +kernel)) rfl, in_RX9, by decide +kernel, by decide +kernel, by decide +kernel⟩
theorem tg_X9_type : xtg yX9_type cX9_type 2 (some .int) 1 := ⟨xT_of (List.mem_of_getElem? (i := 1098) (by decide +kernel)) rfl, in_RX9, by decide +kernel, by decide +kernel, by decide +kernel⟩
theorem tg_X9_clear : xtg yX9_clear cX9_clear 2 (some .int) 0 := ⟨xT_of (List.mem_of_getElem? (i := 1103) (by decide +kernel)) rfl, in_RX9, by decide +kernel, by decide +kernel, by decide +kernel⟩
theorem tg_X9_read : xtg yX9_read cX9_read 3 (some .int) 0 := ⟨xT_of (List.mem_of_getElem? (i := 1107) (by decide +kernel)) rfl, in_RX9, by decide +kernel, by decide +kernel, by decide +kernel⟩
theorem tg_X9_lookAt : xtg yX9_lookAt cX9_lookAt 5 none 1 := ⟨xT_of (List.mem_of_getElem? (i := 1111) (by decide +kernel)) rfl, in_RX9, by decide +kernel, by decide +kernel, by decide +kernel⟩
theorem tg_X9_isSmall : xtg yX9_isSmall cX9_isSmall 1 (some .boolean) 1 := ⟨xT_of (List.mem_of_getElem? (i := 1114) (by decide +kernel)) rfl, in_RX9, by decide +kernel, by decide +kernel, by decide +kernel⟩
theorem tg_X9_isFigure : xtg yX9_isFigure cX9_isFigure 1 (some .boolean) 1 := ⟨xT_of (List.mem_of_getElem? (i := 1119) (by decide +kernel)) rfl, in_RX9, by decide +kernel, by decide +kernel, by decide +kernel⟩
theorem tg_X9_takesBus : xtg yX9_takesBus cX9_takesBus 1 (some .boolean) 0 := ⟨xT_of (List.mem_of_getElem? (i := 1125) (by decide +kernel)) rfl, in_RX9, by decide +kernel, by decide +kernel, by decide +kernel⟩
theorem tg_X9_spells : xtg yX9_spells cX9_spells 10 (some .boolean) 7 := ⟨xT_of (List.mem_of_getElem? (i := 1129) (by decide +kernel)) rfl, in_RX9, by decide +kernel, by decide +kernel, by decide +kernel⟩
theorem tg_X9_goBehind : xtg yX9_goBehind cX9_goBehind 1 none 0 := ⟨xT_of (List.mem_of_getElem? (i := 1133) (by decide +kernel)) rfl, in_RX9, by decide +kernel, by decide +kernel, by decide +kernel⟩
theorem tg_X9_takes : xtg yX9_takes cX9_takes 4 (some .boolean) 3 := ⟨xT_of (List.mem_of_getElem? (i := 1137) (by decide +kernel)) rfl, in_RX9, by decide +kernel, by decide +kernel, by decide +kernel⟩
theorem tg_X9_takesItem : xtg yX9_takesItem cX9_takesItem 1 (some .boolean) 0 := ⟨xT_of (List.mem_of_getElem? (i := 1141) (by decide +kernel)) rfl, in_RX9, by decide +kernel, by decide +kernel, by decide +kernel⟩
theorem tg_X9_takesBridge : xtg yX9_takesBridge cX9_takesBridge 1 (some .boolean) 0 := ⟨xT_of (List.mem_of_getElem? (i := 1145) (by decide +kernel)) rfl, in_RX9, by decide +kernel, by decide +kernel, by decide +kernel⟩
theorem tg_X9_takesIdea : xtg yX9_takesIdea cX9_takesIdea 1 (some .boolean) 0 := ⟨xT_of (List.mem_of_getElem? (i := 1149) (by decide +kernel)) rfl, in_RX9, by decide +kernel, by decide +kernel, by decide +kernel⟩
theorem tg_X9_isQuarrel : xtg yX9_isQuarrel cX9_isQuarrel 3 (some .boolean) 0 := ⟨xT_of (List.mem_of_getElem? (i := 1153) (by decide +kernel)) rfl, in_RX9, by decide +kernel, by decide +kernel, by decide +kernel⟩
theorem tg_X9_takesQuarrel : xtg yX9_takesQuarrel cX9_takesQuarrel 1 (some .boolean) 0 := ⟨xT_of (List.mem_of_getElem? (i := 1157) (by decide +kernel)) rfl, in_RX9, by decide +kernel, by decide +kernel, by decide +kernel⟩
theorem tg_X9_part : xtg yX9_part cX9_part 2 (some .long) 1 := ⟨xT_of (List.mem_of_getElem? (i := 1161) (by decide +kernel)) rfl, in_RX9, by decide +kernel, by decide +kernel, by decide +kernel⟩
theorem tg_X9_image : xtg yX9_image cX9_image 3 (some .int) 1 := ⟨xT_of (List.mem_of_getElem? (i := 1165) (by decide +kernel)) rfl, in_RX9, by decide +kernel, by decide +kernel, by decide +kernel⟩
theorem tg_X9_from : xtg yX9_from cX9_from 3 (some .int) 1 := ⟨xT_of (List.mem_of_getElem? (i := 1169) (by decide +kernel)) rfl, in_RX9, by decide +kernel, by decide +kernel, by decide +kernel⟩
theorem tg_X9_status : xtg yX9_status cX9_status 2 (some .int) 1 := ⟨xT_of (List.mem_of_getElem? (i := 1173) (by decide +kernel)) rfl, in_RX9, by decide +kernel, by decide +kernel, by decide +kernel⟩
theorem tg_X9_count : xtg yX9_count cX9_count 2 (some .int) 1 := ⟨xT_of (List.mem_of_getElem? (i := 1177) (by decide +kernel)) rfl, in_RX9, by decide +kernel, by decide +kernel, by decide +kernel⟩
theorem tg_X9_counted : xtg yX9_counted cX9_counted 2 (some .int) 1 := ⟨xT_of (List.mem_of_getElem? (i := 1182) (by decide +kernel)) rfl, in_RX9, by decide +kernel, by decide +kernel, by decide +kernel⟩
theorem tg_X9_manyQuarrels : xtg yX9_manyQuarrels cX9_manyQuarrels 3 (some .int) 0 := ⟨xT_of (List.mem_of_getElem? (i := 1186) (by decide +kernel)) rfl, in_RX9, by decide +kernel, by decide +kernel, by decide +kernel⟩
theorem tg_X9_manyBridges : xtg yX9_manyBridges cX9_manyBridges 3 (some .int) 0 := ⟨xT_of (List.mem_of_getElem? (i := 1190) (by decide +kernel)) rfl, in_RX9, by decide +kernel, by decide +kernel, by decide +kernel⟩
theorem tg_X9_digest : xtg yX9_digest cX9_digest 4 (some .long) 0 := ⟨xT_of (List.mem_of_getElem? (i := 1194) (by decide +kernel)) rfl, in_RX9, by decide +kernel, by decide +kernel, by decide +kernel⟩
theorem tg_X9_sums : xtg yX9_sums cX9_sums 8 (some .long) 3 := ⟨xT_of (List.mem_of_getElem? (i := 1200) (by decide +kernel)) rfl, in_RX9, by decide +kernel, by decide +kernel, by decide +kernel⟩
theorem st_X6_canBe : Cond.static yX6_canBe ∈ xT := xT_of (List.mem_of_getElem? (i := 658) (by decide +kernel)) rfl
theorem st_X9_begin : Cond.static yX9_begin ∈ xT := xT_of (List.mem_of_getElem? (i := 814) (by decide +kernel)) rfl
theorem st_X9_in : Cond.static yX9_in ∈ xT := xT_of (List.mem_of_getElem? (i := 877) (by decide +kernel)) rfl
theorem st_X9_tallAs : Cond.static yX9_tallAs ∈ xT := xT_of (List.mem_of_getElem? (i := 955) (by decide +kernel)) rfl
theorem st_X9_bits : Cond.static yX9_bits ∈ xT := xT_of (List.mem_of_getElem? (i := 949) (by decide +kernel)) rfl
theorem st_X2_commonDivisor : Cond.static yX2_commonDivisor ∈ xT := xT_of (List.mem_of_getElem? (i := 715) (by decide +kernel)) rfl
theorem st_X8_tallOf : Cond.static yX8_tallOf ∈ xT := xT_of (List.mem_of_getElem? (i := 537) (by decide +kernel)) rfl
theorem st_J1_charAt_3b067 : Cond.static yJ1_charAt_3b067 ∈ xT := xT_of (List.mem_of_getElem? (i := 422) (by decide +kernel)) rfl
theorem st_X9_has : Cond.static yX9_has ∈ xT := xT_of (List.mem_of_getElem? (i := 952) (by decide +kernel)) rfl
theorem st_X8_mostAlike : Cond.static yX8_mostAlike ∈ xT := xT_of (List.mem_of_getElem? (i := 698) (by decide +kernel)) rfl
theorem st_J2_length_9d52b : Cond.static yJ2_length_9d52b ∈ xT := xT_of (List.mem_of_getElem? (i := 439) (by decide +kernel)) rfl
theorem st_X9_isSmall : Cond.static yX9_isSmall ∈ xT := xT_of (List.mem_of_getElem? (i := 1113) (by decide +kernel)) rfl
theorem st_X9_layFoes : Cond.static yX9_layFoes ∈ xT := xT_of (List.mem_of_getElem? (i := 921) (by decide +kernel)) rfl
theorem st_X8_countAlike : Cond.static yX8_countAlike ∈ xT := xT_of (List.mem_of_getElem? (i := 701) (by decide +kernel)) rfl
theorem st_X9_isFigure : Cond.static yX9_isFigure ∈ xT := xT_of (List.mem_of_getElem? (i := 1118) (by decide +kernel)) rfl
theorem st_X9_layIdea : Cond.static yX9_layIdea ∈ xT := xT_of (List.mem_of_getElem? (i := 910) (by decide +kernel)) rfl
theorem st_J3_checkIndex_8e157 : Cond.static yJ3_checkIndex_8e157 ∈ xT := xT_of (List.mem_of_getElem? (i := 430) (by decide +kernel)) rfl
theorem st_X9_isStop : Cond.static yX9_isStop ∈ xT := xT_of (List.mem_of_getElem? (i := 896) (by decide +kernel)) rfl
theorem st_copy : Cond.static arraycopyName ∈ xT := xT_of (List.mem_of_getElem? (i := 493) (by decide +kernel)) rfl
theorem st_J2_checkIndex_2214a : Cond.static yJ2_checkIndex_2214a ∈ xT := xT_of (List.mem_of_getElem? (i := 436) (by decide +kernel)) rfl
theorem st_X9_areAlike : Cond.static yX9_areAlike ∈ xT := xT_of (List.mem_of_getElem? (i := 1055) (by decide +kernel)) rfl
theorem st_J6_bitCount_0f7a4 : Cond.static yJ6_bitCount_0f7a4 ∈ xT := xT_of (List.mem_of_getElem? (i := 526) (by decide +kernel)) rfl
theorem st_X8_within : Cond.static yX8_within ∈ xT := xT_of (List.mem_of_getElem? (i := 310) (by decide +kernel)) rfl
theorem st_X1_isCalm : Cond.static yX1_isCalm ∈ xT := xT_of (List.mem_of_getElem? (i := 614) (by decide +kernel)) rfl
theorem st_J2_charAt_3b067 : Cond.static yJ2_charAt_3b067 ∈ xT := xT_of (List.mem_of_getElem? (i := 433) (by decide +kernel)) rfl
theorem st_J0_checkIndex_df160 : Cond.static yJ0_checkIndex_df160 ∈ xT := xT_of (List.mem_of_getElem? (i := 425) (by decide +kernel)) rfl
theorem st_X8_bestLook : Cond.static yX8_bestLook ∈ xT := xT_of (List.mem_of_getElem? (i := 695) (by decide +kernel)) rfl
theorem st_X8_swayOf : Cond.static yX8_swayOf ∈ xT := xT_of (List.mem_of_getElem? (i := 544) (by decide +kernel)) rfl
theorem st_J9_min_7cf53 : Cond.static yJ9_min_7cf53 ∈ xT := xT_of (List.mem_of_getElem? (i := 750) (by decide +kernel)) rfl
theorem st_X1_canPlace : Cond.static yX1_canPlace ∈ xT := xT_of (List.mem_of_getElem? (i := 611) (by decide +kernel)) rfl
theorem st_J2_getChar_3b067 : Cond.static yJ2_getChar_3b067 ∈ xT := xT_of (List.mem_of_getElem? (i := 443) (by decide +kernel)) rfl
theorem st_J9_max_7cf53 : Cond.static yJ9_max_7cf53 ∈ xT := xT_of (List.mem_of_getElem? (i := 704) (by decide +kernel)) rfl
theorem st_X8_bit : Cond.static yX8_bit ∈ xT := xT_of (List.mem_of_getElem? (i := 357) (by decide +kernel)) rfl
theorem st_X9_swayAs : Cond.static yX9_swayAs ∈ xT := xT_of (List.mem_of_getElem? (i := 966) (by decide +kernel)) rfl
theorem im_X5_take : Cond.instanceMethod yX5_take ∈ xT := xT_of (List.mem_of_getElem? (i := 496) (by decide +kernel)) rfl
theorem im_X9_forget : Cond.instanceMethod yX9_forget ∈ xT := xT_of (List.mem_of_getElem? (i := 1038) (by decide +kernel)) rfl
theorem im_X8_note : Cond.instanceMethod yX8_note ∈ xT := xT_of (List.mem_of_getElem? (i := 667) (by decide +kernel)) rfl
theorem im_X9_isPair : Cond.instanceMethod yX9_isPair ∈ xT := xT_of (List.mem_of_getElem? (i := 1072) (by decide +kernel)) rfl
theorem im_X0_remember : Cond.instanceMethod yX0_remember ∈ xT := xT_of (List.mem_of_getElem? (i := 509) (by decide +kernel)) rfl
theorem im_X9_quarrel : Cond.instanceMethod yX9_quarrel ∈ xT := xT_of (List.mem_of_getElem? (i := 913) (by decide +kernel)) rfl
theorem im_X4_step : Cond.instanceMethod yX4_step ∈ xT := xT_of (List.mem_of_getElem? (i := 387) (by decide +kernel)) rfl
theorem im_X8_init : Cond.instanceMethod yX8_init ∈ xT := xT_of (List.mem_of_getElem? (i := 21) (by decide +kernel)) rfl
theorem im_X4_readIdea : Cond.instanceMethod yX4_readIdea ∈ xT := xT_of (List.mem_of_getElem? (i := 479) (by decide +kernel)) rfl
theorem im_X8_fare : Cond.instanceMethod yX8_fare ∈ xT := xT_of (List.mem_of_getElem? (i := 707) (by decide +kernel)) rfl
theorem im_X7_rests : Cond.instanceMethod yX7_rests ∈ xT := xT_of (List.mem_of_getElem? (i := 739) (by decide +kernel)) rfl
theorem im_X0_countBridges : Cond.instanceMethod yX0_countBridges ∈ xT := xT_of (List.mem_of_getElem? (i := 791) (by decide +kernel)) rfl
theorem im_X9_goTill : Cond.instanceMethod yX9_goTill ∈ xT := xT_of (List.mem_of_getElem? (i := 942) (by decide +kernel)) rfl
theorem im_X9_many : Cond.instanceMethod yX9_many ∈ xT := xT_of (List.mem_of_getElem? (i := 885) (by decide +kernel)) rfl
theorem im_J0_charAt_5068e : Cond.instanceMethod yJ0_charAt_5068e ∈ xT := xT_of (List.mem_of_getElem? (i := 414) (by decide +kernel)) rfl
theorem im_X8_quarrel : Cond.instanceMethod yX8_quarrel ∈ xT := xT_of (List.mem_of_getElem? (i := 345) (by decide +kernel)) rfl
theorem im_X6_find : Cond.instanceMethod yX6_find ∈ xT := xT_of (List.mem_of_getElem? (i := 654) (by decide +kernel)) rfl
theorem im_X9_kindsOf : Cond.instanceMethod yX9_kindsOf ∈ xT := xT_of (List.mem_of_getElem? (i := 1047) (by decide +kernel)) rfl
theorem im_X9_takes : Cond.instanceMethod yX9_takes ∈ xT := xT_of (List.mem_of_getElem? (i := 1136) (by decide +kernel)) rfl
theorem im_X9_type : Cond.instanceMethod yX9_type ∈ xT := xT_of (List.mem_of_getElem? (i := 1096) (by decide +kernel)) rfl
theorem im_X8_count : Cond.instanceMethod yX8_count ∈ xT := xT_of (List.mem_of_getElem? (i := 783) (by decide +kernel)) rfl
theorem im_X8_refuseBad : Cond.instanceMethod yX8_refuseBad ∈ xT := xT_of (List.mem_of_getElem? (i := 314) (by decide +kernel)) rfl
theorem im_X4_readItem : Cond.instanceMethod yX4_readItem ∈ xT := xT_of (List.mem_of_getElem? (i := 469) (by decide +kernel)) rfl
theorem im_X9_read : Cond.instanceMethod yX9_read ∈ xT := xT_of (List.mem_of_getElem? (i := 1105) (by decide +kernel)) rfl
theorem im_X8_better : Cond.instanceMethod yX8_better ∈ xT := xT_of (List.mem_of_getElem? (i := 618) (by decide +kernel)) rfl
theorem im_X4_addByte : Cond.instanceMethod yX4_addByte ∈ xT := xT_of (List.mem_of_getElem? (i := 369) (by decide +kernel)) rfl
theorem im_X9_goStop : Cond.instanceMethod yX9_goStop ∈ xT := xT_of (List.mem_of_getElem? (i := 946) (by decide +kernel)) rfl
theorem im_X7_resting : Cond.instanceMethod yX7_resting ∈ xT := xT_of (List.mem_of_getElem? (i := 734) (by decide +kernel)) rfl
theorem im_X0_init : Cond.instanceMethod yX0_init ∈ xT := xT_of (List.mem_of_getElem? (i := 29) (by decide +kernel)) rfl
theorem im_X9_layHand : Cond.instanceMethod yX9_layHand ∈ xT := xT_of (List.mem_of_getElem? (i := 938) (by decide +kernel)) rfl
theorem im_X0_kindsByNotes : Cond.instanceMethod yX0_kindsByNotes ∈ xT := xT_of (List.mem_of_getElem? (i := 683) (by decide +kernel)) rfl
theorem im_X4_readBus : Cond.instanceMethod yX4_readBus ∈ xT := xT_of (List.mem_of_getElem? (i := 381) (by decide +kernel)) rfl
theorem im_X7_play : Cond.instanceMethod yX7_play ∈ xT := xT_of (List.mem_of_getElem? (i := 722) (by decide +kernel)) rfl
theorem im_X9_from : Cond.instanceMethod yX9_from ∈ xT := xT_of (List.mem_of_getElem? (i := 1167) (by decide +kernel)) rfl
theorem im_X7_restingAt : Cond.instanceMethod yX7_restingAt ∈ xT := xT_of (List.mem_of_getElem? (i := 742) (by decide +kernel)) rfl
theorem im_X4_init : Cond.instanceMethod yX4_init ∈ xT := xT_of (List.mem_of_getElem? (i := 234) (by decide +kernel)) rfl
theorem im_X9_sums : Cond.instanceMethod yX9_sums ∈ xT := xT_of (List.mem_of_getElem? (i := 1199) (by decide +kernel)) rfl
theorem im_X9_look : Cond.instanceMethod yX9_look ∈ xT := xT_of (List.mem_of_getElem? (i := 1050) (by decide +kernel)) rfl
theorem im_X3_boardAsTold : Cond.instanceMethod yX3_boardAsTold ∈ xT := xT_of (List.mem_of_getElem? (i := 585) (by decide +kernel)) rfl
theorem im_X0_startAnew : Cond.instanceMethod yX0_startAnew ∈ xT := xT_of (List.mem_of_getElem? (i := 317) (by decide +kernel)) rfl
theorem im_X7_init : Cond.instanceMethod yX7_init ∈ xT := xT_of (List.mem_of_getElem? (i := 200) (by decide +kernel)) rfl
theorem im_X5_startAnew : Cond.instanceMethod yX5_startAnew ∈ xT := xT_of (List.mem_of_getElem? (i := 321) (by decide +kernel)) rfl
theorem im_X9_bell : Cond.instanceMethod yX9_bell ∈ xT := xT_of (List.mem_of_getElem? (i := 1083) (by decide +kernel)) rfl
theorem im_X9_undo : Cond.instanceMethod yX9_undo ∈ xT := xT_of (List.mem_of_getElem? (i := 973) (by decide +kernel)) rfl
theorem im_X1_fewest : Cond.instanceMethod yX1_fewest ∈ xT := xT_of (List.mem_of_getElem? (i := 607) (by decide +kernel)) rfl
theorem im_X8_upstairs : Cond.instanceMethod yX8_upstairs ∈ xT := xT_of (List.mem_of_getElem? (i := 650) (by decide +kernel)) rfl
theorem im_X8_then : Cond.instanceMethod yX8_then ∈ xT := xT_of (List.mem_of_getElem? (i := 575) (by decide +kernel)) rfl
theorem im_X0_countQuarrels : Cond.instanceMethod yX0_countQuarrels ∈ xT := xT_of (List.mem_of_getElem? (i := 787) (by decide +kernel)) rfl
theorem im_X9_init : Cond.instanceMethod yX9_init ∈ xT := xT_of (List.mem_of_getElem? (i := 810) (by decide +kernel)) rfl
theorem im_X9_count : Cond.instanceMethod yX9_count ∈ xT := xT_of (List.mem_of_getElem? (i := 1175) (by decide +kernel)) rfl
theorem im_J0_isLatin1_aae02 : Cond.instanceMethod yJ0_isLatin1_aae02 ∈ xT := xT_of (List.mem_of_getElem? (i := 418) (by decide +kernel)) rfl
theorem im_X2_become : Cond.instanceMethod yX2_become ∈ xT := xT_of (List.mem_of_getElem? (i := 711) (by decide +kernel)) rfl
theorem im_X8_refuseNo : Cond.instanceMethod yX8_refuseNo ∈ xT := xT_of (List.mem_of_getElem? (i := 506) (by decide +kernel)) rfl
theorem im_X9_note : Cond.instanceMethod yX9_note ∈ xT := xT_of (List.mem_of_getElem? (i := 1033) (by decide +kernel)) rfl
theorem im_X9_swayOf : Cond.instanceMethod yX9_swayOf ∈ xT := xT_of (List.mem_of_getElem? (i := 963) (by decide +kernel)) rfl
theorem im_J0_coder_7d493 : Cond.instanceMethod yJ0_coder_7d493 ∈ xT := xT_of (List.mem_of_getElem? (i := 408) (by decide +kernel)) rfl
theorem im_X8_image : Cond.instanceMethod yX8_image ∈ xT := xT_of (List.mem_of_getElem? (i := 771) (by decide +kernel)) rfl
theorem im_X9_layPair : Cond.instanceMethod yX9_layPair ∈ xT := xT_of (List.mem_of_getElem? (i := 1076) (by decide +kernel)) rfl
theorem im_X9_takesBridge : Cond.instanceMethod yX9_takesBridge ∈ xT := xT_of (List.mem_of_getElem? (i := 1144) (by decide +kernel)) rfl
theorem im_X9_takesIdea : Cond.instanceMethod yX9_takesIdea ∈ xT := xT_of (List.mem_of_getElem? (i := 1148) (by decide +kernel)) rfl
theorem im_X9_fraction : Cond.instanceMethod yX9_fraction ∈ xT := xT_of (List.mem_of_getElem? (i := 1064) (by decide +kernel)) rfl
theorem im_X6_init : Cond.instanceMethod yX6_init ∈ xT := xT_of (List.mem_of_getElem? (i := 181) (by decide +kernel)) rfl
theorem im_X9_part : Cond.instanceMethod yX9_part ∈ xT := xT_of (List.mem_of_getElem? (i := 1159) (by decide +kernel)) rfl
theorem im_X9_isQuarrel : Cond.instanceMethod yX9_isQuarrel ∈ xT := xT_of (List.mem_of_getElem? (i := 1152) (by decide +kernel)) rfl
theorem im_X9_swayOfAll : Cond.instanceMethod yX9_swayOfAll ∈ xT := xT_of (List.mem_of_getElem? (i := 959) (by decide +kernel)) rfl
theorem im_X4_isWord : Cond.instanceMethod yX4_isWord ∈ xT := xT_of (List.mem_of_getElem? (i := 401) (by decide +kernel)) rfl
theorem im_X9_manyBridges : Cond.instanceMethod yX9_manyBridges ∈ xT := xT_of (List.mem_of_getElem? (i := 1189) (by decide +kernel)) rfl
theorem im_X8_now : Cond.instanceMethod yX8_now ∈ xT := xT_of (List.mem_of_getElem? (i := 571) (by decide +kernel)) rfl
theorem im_X9_clear : Cond.instanceMethod yX9_clear ∈ xT := xT_of (List.mem_of_getElem? (i := 1101) (by decide +kernel)) rfl
theorem im_X3_missing : Cond.instanceMethod yX3_missing ∈ xT := xT_of (List.mem_of_getElem? (i := 633) (by decide +kernel)) rfl
theorem im_X8_decks : Cond.instanceMethod yX8_decks ∈ xT := xT_of (List.mem_of_getElem? (i := 599) (by decide +kernel)) rfl
theorem im_X9_puts : Cond.instanceMethod yX9_puts ∈ xT := xT_of (List.mem_of_getElem? (i := 969) (by decide +kernel)) rfl
theorem im_X2_init : Cond.instanceMethod yX2_init ∈ xT := xT_of (List.mem_of_getElem? (i := 219) (by decide +kernel)) rfl
theorem im_X9_takesQuarrel : Cond.instanceMethod yX9_takesQuarrel ∈ xT := xT_of (List.mem_of_getElem? (i := 1156) (by decide +kernel)) rfl
theorem im_X9_bad : Cond.instanceMethod yX9_bad ∈ xT := xT_of (List.mem_of_getElem? (i := 881) (by decide +kernel)) rfl
theorem im_X8_clear : Cond.instanceMethod yX8_clear ∈ xT := xT_of (List.mem_of_getElem? (i := 373) (by decide +kernel)) rfl
theorem im_X0_letOff : Cond.instanceMethod yX0_letOff ∈ xT := xT_of (List.mem_of_getElem? (i := 519) (by decide +kernel)) rfl
theorem im_X9_full : Cond.instanceMethod yX9_full ∈ xT := xT_of (List.mem_of_getElem? (i := 907) (by decide +kernel)) rfl
theorem im_X0_hasTwo : Cond.instanceMethod yX0_hasTwo ∈ xT := xT_of (List.mem_of_getElem? (i := 349) (by decide +kernel)) rfl
theorem im_X3_leastLift : Cond.instanceMethod yX3_leastLift ∈ xT := xT_of (List.mem_of_getElem? (i := 646) (by decide +kernel)) rfl
theorem im_X8_raise : Cond.instanceMethod yX8_raise ∈ xT := xT_of (List.mem_of_getElem? (i := 642) (by decide +kernel)) rfl
theorem im_X8_is : Cond.instanceMethod yX8_is ∈ xT := xT_of (List.mem_of_getElem? (i := 679) (by decide +kernel)) rfl
theorem im_X9_manyQuarrels : Cond.instanceMethod yX9_manyQuarrels ∈ xT := xT_of (List.mem_of_getElem? (i := 1185) (by decide +kernel)) rfl
theorem im_X9_rests : Cond.instanceMethod yX9_rests ∈ xT := xT_of (List.mem_of_getElem? (i := 1080) (by decide +kernel)) rfl
theorem im_X9_room : Cond.instanceMethod yX9_room ∈ xT := xT_of (List.mem_of_getElem? (i := 888) (by decide +kernel)) rfl
theorem im_X7_countStops : Cond.instanceMethod yX7_countStops ∈ xT := xT_of (List.mem_of_getElem? (i := 729) (by decide +kernel)) rfl
theorem im_X8_from : Cond.instanceMethod yX8_from ∈ xT := xT_of (List.mem_of_getElem? (i := 775) (by decide +kernel)) rfl
theorem im_X8_part : Cond.instanceMethod yX8_part ∈ xT := xT_of (List.mem_of_getElem? (i := 767) (by decide +kernel)) rfl
theorem im_X9_takesItem : Cond.instanceMethod yX9_takesItem ∈ xT := xT_of (List.mem_of_getElem? (i := 1140) (by decide +kernel)) rfl
theorem im_X0_passStop : Cond.instanceMethod yX0_passStop ∈ xT := xT_of (List.mem_of_getElem? (i := 513) (by decide +kernel)) rfl
theorem im_X8_refuseOtherBad : Cond.instanceMethod yX8_refuseOtherBad ∈ xT := xT_of (List.mem_of_getElem? (i := 604) (by decide +kernel)) rfl
theorem im_X0_quarrelsIn : Cond.instanceMethod yX0_quarrelsIn ∈ xT := xT_of (List.mem_of_getElem? (i := 663) (by decide +kernel)) rfl
theorem im_X8_room : Cond.instanceMethod yX8_room ∈ xT := xT_of (List.mem_of_getElem? (i := 325) (by decide +kernel)) rfl
theorem im_X8_read : Cond.instanceMethod yX8_read ∈ xT := xT_of (List.mem_of_getElem? (i := 377) (by decide +kernel)) rfl
theorem im_X4_readBridge : Cond.instanceMethod yX4_readBridge ∈ xT := xT_of (List.mem_of_getElem? (i := 474) (by decide +kernel)) rfl
theorem im_X9_sways : Cond.instanceMethod yX9_sways ∈ xT := xT_of (List.mem_of_getElem? (i := 981) (by decide +kernel)) rfl
theorem im_X9_then : Cond.instanceMethod yX9_then ∈ xT := xT_of (List.mem_of_getElem? (i := 990) (by decide +kernel)) rfl
theorem im_X9_raise : Cond.instanceMethod yX9_raise ∈ xT := xT_of (List.mem_of_getElem? (i := 1024) (by decide +kernel)) rfl
theorem im_X8_of : Cond.instanceMethod yX8_of ∈ xT := xT_of (List.mem_of_getElem? (i := 561) (by decide +kernel)) rfl
theorem im_X9_counted : Cond.instanceMethod yX9_counted ∈ xT := xT_of (List.mem_of_getElem? (i := 1181) (by decide +kernel)) rfl
theorem im_X8_look : Cond.instanceMethod yX8_look ∈ xT := xT_of (List.mem_of_getElem? (i := 691) (by decide +kernel)) rfl
theorem im_X8_idea : Cond.instanceMethod yX8_idea ∈ xT := xT_of (List.mem_of_getElem? (i := 333) (by decide +kernel)) rfl
theorem im_X3_missingIf : Cond.instanceMethod yX3_missingIf ∈ xT := xT_of (List.mem_of_getElem? (i := 638) (by decide +kernel)) rfl
theorem im_X0_letOn : Cond.instanceMethod yX0_letOn ∈ xT := xT_of (List.mem_of_getElem? (i := 523) (by decide +kernel)) rfl
theorem im_X8_type : Cond.instanceMethod yX8_type ∈ xT := xT_of (List.mem_of_getElem? (i := 365) (by decide +kernel)) rfl
theorem im_X8_days : Cond.instanceMethod yX8_days ∈ xT := xT_of (List.mem_of_getElem? (i := 754) (by decide +kernel)) rfl
theorem im_X1_init : Cond.instanceMethod yX1_init ∈ xT := xT_of (List.mem_of_getElem? (i := 170) (by decide +kernel)) rfl
theorem im_X8_refuseFull : Cond.instanceMethod yX8_refuseFull ∈ xT := xT_of (List.mem_of_getElem? (i := 338) (by decide +kernel)) rfl
theorem im_X3_betterBoarding : Cond.instanceMethod yX3_betterBoarding ∈ xT := xT_of (List.mem_of_getElem? (i := 622) (by decide +kernel)) rfl
theorem im_X9_layDecks : Cond.instanceMethod yX9_layDecks ∈ xT := xT_of (List.mem_of_getElem? (i := 1009) (by decide +kernel)) rfl
theorem im_X9_goBehind : Cond.instanceMethod yX9_goBehind ∈ xT := xT_of (List.mem_of_getElem? (i := 1132) (by decide +kernel)) rfl
theorem im_X0_fitsNotes : Cond.instanceMethod yX0_fitsNotes ∈ xT := xT_of (List.mem_of_getElem? (i := 688) (by decide +kernel)) rfl
theorem im_X4_readQuarrel : Cond.instanceMethod yX4_readQuarrel ∈ xT := xT_of (List.mem_of_getElem? (i := 485) (by decide +kernel)) rfl
theorem im_X9_two : Cond.instanceMethod yX9_two ∈ xT := xT_of (List.mem_of_getElem? (i := 1067) (by decide +kernel)) rfl
theorem im_X9_fare : Cond.instanceMethod yX9_fare ∈ xT := xT_of (List.mem_of_getElem? (i := 1058) (by decide +kernel)) rfl
theorem im_X0_mixTold : Cond.instanceMethod yX0_mixTold ∈ xT := xT_of (List.mem_of_getElem? (i := 803) (by decide +kernel)) rfl
theorem im_X8_end : Cond.instanceMethod yX8_end ∈ xT := xT_of (List.mem_of_getElem? (i := 595) (by decide +kernel)) rfl
theorem im_X4_readNumber : Cond.instanceMethod yX4_readNumber ∈ xT := xT_of (List.mem_of_getElem? (i := 457) (by decide +kernel)) rfl
theorem im_X9_of : Cond.instanceMethod yX9_of ∈ xT := xT_of (List.mem_of_getElem? (i := 977) (by decide +kernel)) rfl
theorem im_X4_readRoom : Cond.instanceMethod yX4_readRoom ∈ xT := xT_of (List.mem_of_getElem? (i := 453) (by decide +kernel)) rfl
theorem im_X4_readMark : Cond.instanceMethod yX4_readMark ∈ xT := xT_of (List.mem_of_getElem? (i := 465) (by decide +kernel)) rfl
theorem im_X4_endOfRun : Cond.instanceMethod yX4_endOfRun ∈ xT := xT_of (List.mem_of_getElem? (i := 391) (by decide +kernel)) rfl
theorem im_X8_drive : Cond.instanceMethod yX8_drive ∈ xT := xT_of (List.mem_of_getElem? (i := 501) (by decide +kernel)) rfl
theorem im_X5_init : Cond.instanceMethod yX5_init ∈ xT := xT_of (List.mem_of_getElem? (i := 35) (by decide +kernel)) rfl
theorem im_X8_forget : Cond.instanceMethod yX8_forget ∈ xT := xT_of (List.mem_of_getElem? (i := 675) (by decide +kernel)) rfl
theorem im_X9_bridge : Cond.instanceMethod yX9_bridge ∈ xT := xT_of (List.mem_of_getElem? (i := 892) (by decide +kernel)) rfl
theorem im_X9_end : Cond.instanceMethod yX9_end ∈ xT := xT_of (List.mem_of_getElem? (i := 995) (by decide +kernel)) rfl
theorem im_X9_keep : Cond.instanceMethod yX9_keep ∈ xT := xT_of (List.mem_of_getElem? (i := 934) (by decide +kernel)) rfl
theorem im_obj : Cond.instanceMethod objectInit ∈ xT := xT_of (List.mem_of_getElem? (i := 24) (by decide +kernel)) rfl
theorem im_X3_goOn : Cond.instanceMethod yX3_goOn ∈ xT := xT_of (List.mem_of_getElem? (i := 579) (by decide +kernel)) rfl
theorem im_J0_length_8abf5 : Cond.instanceMethod yJ0_length_8abf5 ∈ xT := xT_of (List.mem_of_getElem? (i := 404) (by decide +kernel)) rfl
theorem im_X3_startAnew : Cond.instanceMethod yX3_startAnew ∈ xT := xT_of (List.mem_of_getElem? (i := 626) (by decide +kernel)) rfl
theorem im_X8_two : Cond.instanceMethod yX8_two ∈ xT := xT_of (List.mem_of_getElem? (i := 718) (by decide +kernel)) rfl
theorem im_X9_spells : Cond.instanceMethod yX9_spells ∈ xT := xT_of (List.mem_of_getElem? (i := 1128) (by decide +kernel)) rfl
theorem im_X9_now : Cond.instanceMethod yX9_now ∈ xT := xT_of (List.mem_of_getElem? (i := 985) (by decide +kernel)) rfl
theorem im_X0_scrape : Cond.instanceMethod yX0_scrape ∈ xT := xT_of (List.mem_of_getElem? (i := 533) (by decide +kernel)) rfl
theorem im_X9_layStart : Cond.instanceMethod yX9_layStart ∈ xT := xT_of (List.mem_of_getElem? (i := 1017) (by decide +kernel)) rfl
theorem im_X8_bridge : Cond.instanceMethod yX8_bridge ∈ xT := xT_of (List.mem_of_getElem? (i := 329) (by decide +kernel)) rfl
theorem im_X3_passThrough : Cond.instanceMethod yX3_passThrough ∈ xT := xT_of (List.mem_of_getElem? (i := 589) (by decide +kernel)) rfl
theorem im_X0_setQuarrel : Cond.instanceMethod yX0_setQuarrel ∈ xT := xT_of (List.mem_of_getElem? (i := 360) (by decide +kernel)) rfl
theorem im_X9_fewestDecks : Cond.instanceMethod yX9_fewestDecks ∈ xT := xT_of (List.mem_of_getElem? (i := 1005) (by decide +kernel)) rfl
theorem im_X8_sways : Cond.instanceMethod yX8_sways ∈ xT := xT_of (List.mem_of_getElem? (i := 565) (by decide +kernel)) rfl
theorem im_X9_status : Cond.instanceMethod yX9_status ∈ xT := xT_of (List.mem_of_getElem? (i := 1171) (by decide +kernel)) rfl
theorem im_X9_better : Cond.instanceMethod yX9_better ∈ xT := xT_of (List.mem_of_getElem? (i := 1012) (by decide +kernel)) rfl
theorem im_X4_byteAt : Cond.instanceMethod yX4_byteAt ∈ xT := xT_of (List.mem_of_getElem? (i := 395) (by decide +kernel)) rfl
theorem im_X8_status : Cond.instanceMethod yX8_status ∈ xT := xT_of (List.mem_of_getElem? (i := 779) (by decide +kernel)) rfl
theorem im_X9_idea : Cond.instanceMethod yX9_idea ∈ xT := xT_of (List.mem_of_getElem? (i := 900) (by decide +kernel)) rfl
theorem im_X9_bus : Cond.instanceMethod yX9_bus ∈ xT := xT_of (List.mem_of_getElem? (i := 872) (by decide +kernel)) rfl
theorem im_X8_undo : Cond.instanceMethod yX8_undo ∈ xT := xT_of (List.mem_of_getElem? (i := 553) (by decide +kernel)) rfl
theorem im_X9_decks : Cond.instanceMethod yX9_decks ∈ xT := xT_of (List.mem_of_getElem? (i := 999) (by decide +kernel)) rfl
theorem im_X8_bus : Cond.instanceMethod yX8_bus ∈ xT := xT_of (List.mem_of_getElem? (i := 306) (by decide +kernel)) rfl
theorem im_X0_addNote : Cond.instanceMethod yX0_addNote ∈ xT := xT_of (List.mem_of_getElem? (i := 671) (by decide +kernel)) rfl
theorem im_X9_takesBus : Cond.instanceMethod yX9_takesBus ∈ xT := xT_of (List.mem_of_getElem? (i := 1124) (by decide +kernel)) rfl
theorem im_X9_manyLost : Cond.instanceMethod yX9_manyLost ∈ xT := xT_of (List.mem_of_getElem? (i := 1021) (by decide +kernel)) rfl
theorem im_X9_isIdea : Cond.instanceMethod yX9_isIdea ∈ xT := xT_of (List.mem_of_getElem? (i := 918) (by decide +kernel)) rfl
theorem im_X0_take : Cond.instanceMethod yX0_take ∈ xT := xT_of (List.mem_of_getElem? (i := 489) (by decide +kernel)) rfl
theorem im_X8_puts : Cond.instanceMethod yX8_puts ∈ xT := xT_of (List.mem_of_getElem? (i := 547) (by decide +kernel)) rfl
theorem im_X0_goBack : Cond.instanceMethod yX0_goBack ∈ xT := xT_of (List.mem_of_getElem? (i := 557) (by decide +kernel)) rfl
theorem im_X9_lookAt : Cond.instanceMethod yX9_lookAt ∈ xT := xT_of (List.mem_of_getElem? (i := 1110) (by decide +kernel)) rfl
theorem im_X9_no : Cond.instanceMethod yX9_no ∈ xT := xT_of (List.mem_of_getElem? (i := 930) (by decide +kernel)) rfl
theorem im_X8_bell : Cond.instanceMethod yX8_bell ∈ xT := xT_of (List.mem_of_getElem? (i := 746) (by decide +kernel)) rfl
theorem im_X8_digest : Cond.instanceMethod yX8_digest ∈ xT := xT_of (List.mem_of_getElem? (i := 795) (by decide +kernel)) rfl
theorem im_X3_levyOfDays : Cond.instanceMethod yX3_levyOfDays ∈ xT := xT_of (List.mem_of_getElem? (i := 759) (by decide +kernel)) rfl
theorem im_X0_addIdea : Cond.instanceMethod yX0_addIdea ∈ xT := xT_of (List.mem_of_getElem? (i := 341) (by decide +kernel)) rfl
theorem im_X0_swayOfAll : Cond.instanceMethod yX0_swayOfAll ∈ xT := xT_of (List.mem_of_getElem? (i := 540) (by decide +kernel)) rfl
theorem im_X9_digest : Cond.instanceMethod yX9_digest ∈ xT := xT_of (List.mem_of_getElem? (i := 1192) (by decide +kernel)) rfl
theorem im_X9_is : Cond.instanceMethod yX9_is ∈ xT := xT_of (List.mem_of_getElem? (i := 1042) (by decide +kernel)) rfl
theorem im_X3_init : Cond.instanceMethod yX3_init ∈ xT := xT_of (List.mem_of_getElem? (i := 147) (by decide +kernel)) rfl
theorem im_X9_days : Cond.instanceMethod yX9_days ∈ xT := xT_of (List.mem_of_getElem? (i := 1087) (by decide +kernel)) rfl
theorem im_X9_upstairs : Cond.instanceMethod yX9_upstairs ∈ xT := xT_of (List.mem_of_getElem? (i := 1028) (by decide +kernel)) rfl
theorem im_X9_image : Cond.instanceMethod yX9_image ∈ xT := xT_of (List.mem_of_getElem? (i := 1163) (by decide +kernel)) rfl
theorem im_X9_drive : Cond.instanceMethod yX9_drive ∈ xT := xT_of (List.mem_of_getElem? (i := 924) (by decide +kernel)) rfl
theorem im_X0_has : Cond.instanceMethod yX0_has ∈ xT := xT_of (List.mem_of_getElem? (i := 353) (by decide +kernel)) rfl
theorem im_X4_valueOfFigures : Cond.instanceMethod yX4_valueOfFigures ∈ xT := xT_of (List.mem_of_getElem? (i := 461) (by decide +kernel)) rfl
theorem se_X8_bus : Cond.selects RX8 yX8_bus yX8_bus ∈ xT := xT_of (List.mem_of_getElem? (i := 307) (by decide +kernel)) rfl
theorem se_X0_startAnew : Cond.selects RX0 yX0_startAnew yX0_startAnew ∈ xT := xT_of (List.mem_of_getElem? (i := 318) (by decide +kernel)) rfl
theorem se_X5_startAnew : Cond.selects RX5 yX5_startAnew yX5_startAnew ∈ xT := xT_of (List.mem_of_getElem? (i := 322) (by decide +kernel)) rfl
theorem se_X8_room : Cond.selects RX8 yX8_room yX8_room ∈ xT := xT_of (List.mem_of_getElem? (i := 326) (by decide +kernel)) rfl
theorem se_X8_bridge : Cond.selects RX8 yX8_bridge yX8_bridge ∈ xT := xT_of (List.mem_of_getElem? (i := 330) (by decide +kernel)) rfl
theorem se_X8_idea : Cond.selects RX8 yX8_idea yX8_idea ∈ xT := xT_of (List.mem_of_getElem? (i := 334) (by decide +kernel)) rfl
theorem se_X0_addIdea : Cond.selects RX0 yX0_addIdea yX0_addIdea ∈ xT := xT_of (List.mem_of_getElem? (i := 342) (by decide +kernel)) rfl
theorem se_X8_quarrel : Cond.selects RX8 yX8_quarrel yX8_quarrel ∈ xT := xT_of (List.mem_of_getElem? (i := 346) (by decide +kernel)) rfl
theorem se_X0_hasTwo : Cond.selects RX0 yX0_hasTwo yX0_hasTwo ∈ xT := xT_of (List.mem_of_getElem? (i := 350) (by decide +kernel)) rfl
theorem se_X0_has : Cond.selects RX0 yX0_has yX0_has ∈ xT := xT_of (List.mem_of_getElem? (i := 354) (by decide +kernel)) rfl
theorem se_X0_setQuarrel : Cond.selects RX0 yX0_setQuarrel yX0_setQuarrel ∈ xT := xT_of (List.mem_of_getElem? (i := 361) (by decide +kernel)) rfl
theorem se_X8_type : Cond.selects RX8 yX8_type yX8_type ∈ xT := xT_of (List.mem_of_getElem? (i := 366) (by decide +kernel)) rfl
theorem se_X4_addByte : Cond.selects RX4 yX4_addByte yX4_addByte ∈ xT := xT_of (List.mem_of_getElem? (i := 370) (by decide +kernel)) rfl
theorem se_X8_clear : Cond.selects RX8 yX8_clear yX8_clear ∈ xT := xT_of (List.mem_of_getElem? (i := 374) (by decide +kernel)) rfl
theorem se_X8_read : Cond.selects RX8 yX8_read yX8_read ∈ xT := xT_of (List.mem_of_getElem? (i := 378) (by decide +kernel)) rfl
theorem se_X4_readBus : Cond.selects RX4 yX4_readBus yX4_readBus ∈ xT := xT_of (List.mem_of_getElem? (i := 382) (by decide +kernel)) rfl
theorem se_J0_length_8abf5 : Cond.selects RJ0 yJ0_length_8abf5 yJ0_length_8abf5 ∈ xT := xT_of (List.mem_of_getElem? (i := 405) (by decide +kernel)) rfl
theorem se_J0_coder_7d493 : Cond.selects RJ0 yJ0_coder_7d493 yJ0_coder_7d493 ∈ xT := xT_of (List.mem_of_getElem? (i := 409) (by decide +kernel)) rfl
theorem se_J0_charAt_5068e : Cond.selects RJ0 yJ0_charAt_5068e yJ0_charAt_5068e ∈ xT := xT_of (List.mem_of_getElem? (i := 415) (by decide +kernel)) rfl
theorem se_J0_isLatin1_aae02 : Cond.selects RJ0 yJ0_isLatin1_aae02 yJ0_isLatin1_aae02 ∈ xT := xT_of (List.mem_of_getElem? (i := 419) (by decide +kernel)) rfl
theorem se_X0_take : Cond.selects RX0 yX0_take yX0_take ∈ xT := xT_of (List.mem_of_getElem? (i := 490) (by decide +kernel)) rfl
theorem se_X5_take : Cond.selects RX5 yX5_take yX5_take ∈ xT := xT_of (List.mem_of_getElem? (i := 497) (by decide +kernel)) rfl
theorem se_X8_drive : Cond.selects RX8 yX8_drive yX8_drive ∈ xT := xT_of (List.mem_of_getElem? (i := 502) (by decide +kernel)) rfl
theorem se_X0_remember : Cond.selects RX0 yX0_remember yX0_remember ∈ xT := xT_of (List.mem_of_getElem? (i := 510) (by decide +kernel)) rfl
theorem se_X0_passStop : Cond.selects RX0 yX0_passStop yX0_passStop ∈ xT := xT_of (List.mem_of_getElem? (i := 514) (by decide +kernel)) rfl
theorem se_X0_swayOfAll : Cond.selects RX0 yX0_swayOfAll yX0_swayOfAll ∈ xT := xT_of (List.mem_of_getElem? (i := 541) (by decide +kernel)) rfl
theorem se_X8_puts : Cond.selects RX8 yX8_puts yX8_puts ∈ xT := xT_of (List.mem_of_getElem? (i := 548) (by decide +kernel)) rfl
theorem se_X8_undo : Cond.selects RX8 yX8_undo yX8_undo ∈ xT := xT_of (List.mem_of_getElem? (i := 554) (by decide +kernel)) rfl
theorem se_X0_goBack : Cond.selects RX0 yX0_goBack yX0_goBack ∈ xT := xT_of (List.mem_of_getElem? (i := 558) (by decide +kernel)) rfl
theorem se_X8_of : Cond.selects RX8 yX8_of yX8_of ∈ xT := xT_of (List.mem_of_getElem? (i := 562) (by decide +kernel)) rfl
theorem se_X8_sways : Cond.selects RX8 yX8_sways yX8_sways ∈ xT := xT_of (List.mem_of_getElem? (i := 566) (by decide +kernel)) rfl
theorem se_X8_now : Cond.selects RX8 yX8_now yX8_now ∈ xT := xT_of (List.mem_of_getElem? (i := 572) (by decide +kernel)) rfl
theorem se_X8_then : Cond.selects RX8 yX8_then yX8_then ∈ xT := xT_of (List.mem_of_getElem? (i := 576) (by decide +kernel)) rfl
theorem se_X3_goOn : Cond.selects RX3 yX3_goOn yX3_goOn ∈ xT := xT_of (List.mem_of_getElem? (i := 580) (by decide +kernel)) rfl
theorem se_X3_passThrough : Cond.selects RX3 yX3_passThrough yX3_passThrough ∈ xT := xT_of (List.mem_of_getElem? (i := 590) (by decide +kernel)) rfl
theorem se_X8_end : Cond.selects RX8 yX8_end yX8_end ∈ xT := xT_of (List.mem_of_getElem? (i := 596) (by decide +kernel)) rfl
theorem se_X8_decks : Cond.selects RX8 yX8_decks yX8_decks ∈ xT := xT_of (List.mem_of_getElem? (i := 600) (by decide +kernel)) rfl
theorem se_X1_fewest : Cond.selects RX1 yX1_fewest yX1_fewest ∈ xT := xT_of (List.mem_of_getElem? (i := 608) (by decide +kernel)) rfl
theorem se_X8_better : Cond.selects RX8 yX8_better yX8_better ∈ xT := xT_of (List.mem_of_getElem? (i := 619) (by decide +kernel)) rfl
theorem se_X3_betterBoarding : Cond.selects RX3 yX3_betterBoarding yX3_betterBoarding ∈ xT := xT_of (List.mem_of_getElem? (i := 623) (by decide +kernel)) rfl
theorem se_X3_startAnew : Cond.selects RX3 yX3_startAnew yX3_startAnew ∈ xT := xT_of (List.mem_of_getElem? (i := 627) (by decide +kernel)) rfl
theorem se_X8_raise : Cond.selects RX8 yX8_raise yX8_raise ∈ xT := xT_of (List.mem_of_getElem? (i := 643) (by decide +kernel)) rfl
theorem se_X3_leastLift : Cond.selects RX3 yX3_leastLift yX3_leastLift ∈ xT := xT_of (List.mem_of_getElem? (i := 647) (by decide +kernel)) rfl
theorem se_X8_upstairs : Cond.selects RX8 yX8_upstairs yX8_upstairs ∈ xT := xT_of (List.mem_of_getElem? (i := 651) (by decide +kernel)) rfl
theorem se_X6_find : Cond.selects RX6 yX6_find yX6_find ∈ xT := xT_of (List.mem_of_getElem? (i := 655) (by decide +kernel)) rfl
theorem se_X0_quarrelsIn : Cond.selects RX0 yX0_quarrelsIn yX0_quarrelsIn ∈ xT := xT_of (List.mem_of_getElem? (i := 664) (by decide +kernel)) rfl
theorem se_X8_note : Cond.selects RX8 yX8_note yX8_note ∈ xT := xT_of (List.mem_of_getElem? (i := 668) (by decide +kernel)) rfl
theorem se_X0_addNote : Cond.selects RX0 yX0_addNote yX0_addNote ∈ xT := xT_of (List.mem_of_getElem? (i := 672) (by decide +kernel)) rfl
theorem se_X8_forget : Cond.selects RX8 yX8_forget yX8_forget ∈ xT := xT_of (List.mem_of_getElem? (i := 676) (by decide +kernel)) rfl
theorem se_X8_is : Cond.selects RX8 yX8_is yX8_is ∈ xT := xT_of (List.mem_of_getElem? (i := 680) (by decide +kernel)) rfl
theorem se_X0_kindsByNotes : Cond.selects RX0 yX0_kindsByNotes yX0_kindsByNotes ∈ xT := xT_of (List.mem_of_getElem? (i := 684) (by decide +kernel)) rfl
theorem se_X8_look : Cond.selects RX8 yX8_look yX8_look ∈ xT := xT_of (List.mem_of_getElem? (i := 692) (by decide +kernel)) rfl
theorem se_X8_fare : Cond.selects RX8 yX8_fare yX8_fare ∈ xT := xT_of (List.mem_of_getElem? (i := 708) (by decide +kernel)) rfl
theorem se_X2_become : Cond.selects RX2 yX2_become yX2_become ∈ xT := xT_of (List.mem_of_getElem? (i := 712) (by decide +kernel)) rfl
theorem se_X8_two : Cond.selects RX8 yX8_two yX8_two ∈ xT := xT_of (List.mem_of_getElem? (i := 719) (by decide +kernel)) rfl
theorem se_X7_play : Cond.selects RX7 yX7_play yX7_play ∈ xT := xT_of (List.mem_of_getElem? (i := 723) (by decide +kernel)) rfl
theorem se_X7_resting : Cond.selects RX7 yX7_resting yX7_resting ∈ xT := xT_of (List.mem_of_getElem? (i := 735) (by decide +kernel)) rfl
theorem se_X7_restingAt : Cond.selects RX7 yX7_restingAt yX7_restingAt ∈ xT := xT_of (List.mem_of_getElem? (i := 743) (by decide +kernel)) rfl
theorem se_X8_bell : Cond.selects RX8 yX8_bell yX8_bell ∈ xT := xT_of (List.mem_of_getElem? (i := 747) (by decide +kernel)) rfl
theorem se_X8_days : Cond.selects RX8 yX8_days yX8_days ∈ xT := xT_of (List.mem_of_getElem? (i := 755) (by decide +kernel)) rfl
theorem se_X3_levyOfDays : Cond.selects RX3 yX3_levyOfDays yX3_levyOfDays ∈ xT := xT_of (List.mem_of_getElem? (i := 760) (by decide +kernel)) rfl
theorem se_X8_part : Cond.selects RX8 yX8_part yX8_part ∈ xT := xT_of (List.mem_of_getElem? (i := 768) (by decide +kernel)) rfl
theorem se_X8_image : Cond.selects RX8 yX8_image yX8_image ∈ xT := xT_of (List.mem_of_getElem? (i := 772) (by decide +kernel)) rfl
theorem se_X8_from : Cond.selects RX8 yX8_from yX8_from ∈ xT := xT_of (List.mem_of_getElem? (i := 776) (by decide +kernel)) rfl
theorem se_X8_status : Cond.selects RX8 yX8_status yX8_status ∈ xT := xT_of (List.mem_of_getElem? (i := 780) (by decide +kernel)) rfl
theorem se_X8_count : Cond.selects RX8 yX8_count yX8_count ∈ xT := xT_of (List.mem_of_getElem? (i := 784) (by decide +kernel)) rfl
theorem se_X0_countQuarrels : Cond.selects RX0 yX0_countQuarrels yX0_countQuarrels ∈ xT := xT_of (List.mem_of_getElem? (i := 788) (by decide +kernel)) rfl
theorem se_X0_countBridges : Cond.selects RX0 yX0_countBridges yX0_countBridges ∈ xT := xT_of (List.mem_of_getElem? (i := 792) (by decide +kernel)) rfl
theorem se_X8_digest : Cond.selects RX8 yX8_digest yX8_digest ∈ xT := xT_of (List.mem_of_getElem? (i := 796) (by decide +kernel)) rfl
theorem se_X0_mixTold : Cond.selects RX0 yX0_mixTold yX0_mixTold ∈ xT := xT_of (List.mem_of_getElem? (i := 804) (by decide +kernel)) rfl
theorem se_X9_bus : Cond.selects RX9 yX9_bus yX9_bus ∈ xT := xT_of (List.mem_of_getElem? (i := 873) (by decide +kernel)) rfl
theorem se_X9_room : Cond.selects RX9 yX9_room yX9_room ∈ xT := xT_of (List.mem_of_getElem? (i := 889) (by decide +kernel)) rfl
theorem se_X9_bridge : Cond.selects RX9 yX9_bridge yX9_bridge ∈ xT := xT_of (List.mem_of_getElem? (i := 893) (by decide +kernel)) rfl
theorem se_X9_idea : Cond.selects RX9 yX9_idea yX9_idea ∈ xT := xT_of (List.mem_of_getElem? (i := 901) (by decide +kernel)) rfl
theorem se_X9_quarrel : Cond.selects RX9 yX9_quarrel yX9_quarrel ∈ xT := xT_of (List.mem_of_getElem? (i := 914) (by decide +kernel)) rfl
theorem se_X9_drive : Cond.selects RX9 yX9_drive yX9_drive ∈ xT := xT_of (List.mem_of_getElem? (i := 925) (by decide +kernel)) rfl
theorem se_X9_puts : Cond.selects RX9 yX9_puts yX9_puts ∈ xT := xT_of (List.mem_of_getElem? (i := 970) (by decide +kernel)) rfl
theorem se_X9_undo : Cond.selects RX9 yX9_undo yX9_undo ∈ xT := xT_of (List.mem_of_getElem? (i := 974) (by decide +kernel)) rfl
theorem se_X9_of : Cond.selects RX9 yX9_of yX9_of ∈ xT := xT_of (List.mem_of_getElem? (i := 978) (by decide +kernel)) rfl
theorem se_X9_sways : Cond.selects RX9 yX9_sways yX9_sways ∈ xT := xT_of (List.mem_of_getElem? (i := 982) (by decide +kernel)) rfl
theorem se_X9_now : Cond.selects RX9 yX9_now yX9_now ∈ xT := xT_of (List.mem_of_getElem? (i := 986) (by decide +kernel)) rfl
theorem se_X9_then : Cond.selects RX9 yX9_then yX9_then ∈ xT := xT_of (List.mem_of_getElem? (i := 991) (by decide +kernel)) rfl
theorem se_X9_end : Cond.selects RX9 yX9_end yX9_end ∈ xT := xT_of (List.mem_of_getElem? (i := 996) (by decide +kernel)) rfl
theorem se_X9_decks : Cond.selects RX9 yX9_decks yX9_decks ∈ xT := xT_of (List.mem_of_getElem? (i := 1000) (by decide +kernel)) rfl
theorem se_X9_better : Cond.selects RX9 yX9_better yX9_better ∈ xT := xT_of (List.mem_of_getElem? (i := 1013) (by decide +kernel)) rfl
theorem se_X9_raise : Cond.selects RX9 yX9_raise yX9_raise ∈ xT := xT_of (List.mem_of_getElem? (i := 1025) (by decide +kernel)) rfl
theorem se_X9_upstairs : Cond.selects RX9 yX9_upstairs yX9_upstairs ∈ xT := xT_of (List.mem_of_getElem? (i := 1029) (by decide +kernel)) rfl
theorem se_X9_note : Cond.selects RX9 yX9_note yX9_note ∈ xT := xT_of (List.mem_of_getElem? (i := 1034) (by decide +kernel)) rfl
theorem se_X9_forget : Cond.selects RX9 yX9_forget yX9_forget ∈ xT := xT_of (List.mem_of_getElem? (i := 1039) (by decide +kernel)) rfl
theorem se_X9_is : Cond.selects RX9 yX9_is yX9_is ∈ xT := xT_of (List.mem_of_getElem? (i := 1043) (by decide +kernel)) rfl
theorem se_X9_look : Cond.selects RX9 yX9_look yX9_look ∈ xT := xT_of (List.mem_of_getElem? (i := 1051) (by decide +kernel)) rfl
theorem se_X9_fare : Cond.selects RX9 yX9_fare yX9_fare ∈ xT := xT_of (List.mem_of_getElem? (i := 1059) (by decide +kernel)) rfl
theorem se_X9_two : Cond.selects RX9 yX9_two yX9_two ∈ xT := xT_of (List.mem_of_getElem? (i := 1068) (by decide +kernel)) rfl
theorem se_X9_bell : Cond.selects RX9 yX9_bell yX9_bell ∈ xT := xT_of (List.mem_of_getElem? (i := 1084) (by decide +kernel)) rfl
theorem se_X9_days : Cond.selects RX9 yX9_days yX9_days ∈ xT := xT_of (List.mem_of_getElem? (i := 1088) (by decide +kernel)) rfl
theorem se_X9_type : Cond.selects RX9 yX9_type yX9_type ∈ xT := xT_of (List.mem_of_getElem? (i := 1097) (by decide +kernel)) rfl
theorem se_X9_clear : Cond.selects RX9 yX9_clear yX9_clear ∈ xT := xT_of (List.mem_of_getElem? (i := 1102) (by decide +kernel)) rfl
theorem se_X9_read : Cond.selects RX9 yX9_read yX9_read ∈ xT := xT_of (List.mem_of_getElem? (i := 1106) (by decide +kernel)) rfl
theorem se_X9_part : Cond.selects RX9 yX9_part yX9_part ∈ xT := xT_of (List.mem_of_getElem? (i := 1160) (by decide +kernel)) rfl
theorem se_X9_image : Cond.selects RX9 yX9_image yX9_image ∈ xT := xT_of (List.mem_of_getElem? (i := 1164) (by decide +kernel)) rfl
theorem se_X9_from : Cond.selects RX9 yX9_from yX9_from ∈ xT := xT_of (List.mem_of_getElem? (i := 1168) (by decide +kernel)) rfl
theorem se_X9_status : Cond.selects RX9 yX9_status yX9_status ∈ xT := xT_of (List.mem_of_getElem? (i := 1172) (by decide +kernel)) rfl
theorem se_X9_count : Cond.selects RX9 yX9_count yX9_count ∈ xT := xT_of (List.mem_of_getElem? (i := 1176) (by decide +kernel)) rfl
theorem se_X9_digest : Cond.selects RX9 yX9_digest yX9_digest ∈ xT := xT_of (List.mem_of_getElem? (i := 1193) (by decide +kernel)) rfl
theorem se_X8_refuseBad : Cond.selects yX8_refuseBad.cls yX8_refuseBad yX8_refuseBad ∈ xT := xT_mem (List.mem_append_left _ (List.mem_map.mpr ⟨_, List.mem_of_getElem? (i := 0) (show lw_privs[0]? = some (yX8_refuseBad, 12) by decide +kernel), rfl⟩)) rfl
theorem se_X8_refuseFull : Cond.selects yX8_refuseFull.cls yX8_refuseFull yX8_refuseFull ∈ xT := xT_mem (List.mem_append_left _ (List.mem_map.mpr ⟨_, List.mem_of_getElem? (i := 1) (show lw_privs[1]? = some (yX8_refuseFull, 12) by decide +kernel), rfl⟩)) rfl
theorem se_X4_step : Cond.selects yX4_step.cls yX4_step yX4_step ∈ xT := xT_mem (List.mem_append_left _ (List.mem_map.mpr ⟨_, List.mem_of_getElem? (i := 2) (show lw_privs[2]? = some (yX4_step, 8) by decide +kernel), rfl⟩)) rfl
theorem se_X4_endOfRun : Cond.selects yX4_endOfRun.cls yX4_endOfRun yX4_endOfRun ∈ xT := xT_mem (List.mem_append_left _ (List.mem_map.mpr ⟨_, List.mem_of_getElem? (i := 3) (show lw_privs[3]? = some (yX4_endOfRun, 8) by decide +kernel), rfl⟩)) rfl
theorem se_X4_byteAt : Cond.selects yX4_byteAt.cls yX4_byteAt yX4_byteAt ∈ xT := xT_mem (List.mem_append_left _ (List.mem_map.mpr ⟨_, List.mem_of_getElem? (i := 4) (show lw_privs[4]? = some (yX4_byteAt, 8) by decide +kernel), rfl⟩)) rfl
theorem se_X4_isWord : Cond.selects yX4_isWord.cls yX4_isWord yX4_isWord ∈ xT := xT_mem (List.mem_append_left _ (List.mem_map.mpr ⟨_, List.mem_of_getElem? (i := 5) (show lw_privs[5]? = some (yX4_isWord, 8) by decide +kernel), rfl⟩)) rfl
theorem se_X4_readRoom : Cond.selects yX4_readRoom.cls yX4_readRoom yX4_readRoom ∈ xT := xT_mem (List.mem_append_left _ (List.mem_map.mpr ⟨_, List.mem_of_getElem? (i := 6) (show lw_privs[6]? = some (yX4_readRoom, 8) by decide +kernel), rfl⟩)) rfl
theorem se_X4_readNumber : Cond.selects yX4_readNumber.cls yX4_readNumber yX4_readNumber ∈ xT := xT_mem (List.mem_append_left _ (List.mem_map.mpr ⟨_, List.mem_of_getElem? (i := 7) (show lw_privs[7]? = some (yX4_readNumber, 8) by decide +kernel), rfl⟩)) rfl
theorem se_X4_valueOfFigures : Cond.selects yX4_valueOfFigures.cls yX4_valueOfFigures yX4_valueOfFigures ∈ xT := xT_mem (List.mem_append_left _ (List.mem_map.mpr ⟨_, List.mem_of_getElem? (i := 8) (show lw_privs[8]? = some (yX4_valueOfFigures, 8) by decide +kernel), rfl⟩)) rfl
theorem se_X4_readMark : Cond.selects yX4_readMark.cls yX4_readMark yX4_readMark ∈ xT := xT_mem (List.mem_append_left _ (List.mem_map.mpr ⟨_, List.mem_of_getElem? (i := 9) (show lw_privs[9]? = some (yX4_readMark, 8) by decide +kernel), rfl⟩)) rfl
theorem se_X4_readItem : Cond.selects yX4_readItem.cls yX4_readItem yX4_readItem ∈ xT := xT_mem (List.mem_append_left _ (List.mem_map.mpr ⟨_, List.mem_of_getElem? (i := 10) (show lw_privs[10]? = some (yX4_readItem, 8) by decide +kernel), rfl⟩)) rfl
theorem se_X4_readBridge : Cond.selects yX4_readBridge.cls yX4_readBridge yX4_readBridge ∈ xT := xT_mem (List.mem_append_left _ (List.mem_map.mpr ⟨_, List.mem_of_getElem? (i := 11) (show lw_privs[11]? = some (yX4_readBridge, 8) by decide +kernel), rfl⟩)) rfl
theorem se_X4_readIdea : Cond.selects yX4_readIdea.cls yX4_readIdea yX4_readIdea ∈ xT := xT_mem (List.mem_append_left _ (List.mem_map.mpr ⟨_, List.mem_of_getElem? (i := 12) (show lw_privs[12]? = some (yX4_readIdea, 8) by decide +kernel), rfl⟩)) rfl
theorem se_X4_readQuarrel : Cond.selects yX4_readQuarrel.cls yX4_readQuarrel yX4_readQuarrel ∈ xT := xT_mem (List.mem_append_left _ (List.mem_map.mpr ⟨_, List.mem_of_getElem? (i := 13) (show lw_privs[13]? = some (yX4_readQuarrel, 8) by decide +kernel), rfl⟩)) rfl
theorem se_X8_refuseNo : Cond.selects yX8_refuseNo.cls yX8_refuseNo yX8_refuseNo ∈ xT := xT_mem (List.mem_append_left _ (List.mem_map.mpr ⟨_, List.mem_of_getElem? (i := 14) (show lw_privs[14]? = some (yX8_refuseNo, 12) by decide +kernel), rfl⟩)) rfl
theorem se_X0_letOff : Cond.selects yX0_letOff.cls yX0_letOff yX0_letOff ∈ xT := xT_mem (List.mem_append_left _ (List.mem_map.mpr ⟨_, List.mem_of_getElem? (i := 15) (show lw_privs[15]? = some (yX0_letOff, 16) by decide +kernel), rfl⟩)) rfl
theorem se_X0_letOn : Cond.selects yX0_letOn.cls yX0_letOn yX0_letOn ∈ xT := xT_mem (List.mem_append_left _ (List.mem_map.mpr ⟨_, List.mem_of_getElem? (i := 16) (show lw_privs[16]? = some (yX0_letOn, 16) by decide +kernel), rfl⟩)) rfl
theorem se_X0_scrape : Cond.selects yX0_scrape.cls yX0_scrape yX0_scrape ∈ xT := xT_mem (List.mem_append_left _ (List.mem_map.mpr ⟨_, List.mem_of_getElem? (i := 17) (show lw_privs[17]? = some (yX0_scrape, 16) by decide +kernel), rfl⟩)) rfl
theorem se_X3_boardAsTold : Cond.selects yX3_boardAsTold.cls yX3_boardAsTold yX3_boardAsTold ∈ xT := xT_mem (List.mem_append_left _ (List.mem_map.mpr ⟨_, List.mem_of_getElem? (i := 18) (show lw_privs[18]? = some (yX3_boardAsTold, 3) by decide +kernel), rfl⟩)) rfl
theorem se_X8_refuseOtherBad : Cond.selects yX8_refuseOtherBad.cls yX8_refuseOtherBad yX8_refuseOtherBad ∈ xT := xT_mem (List.mem_append_left _ (List.mem_map.mpr ⟨_, List.mem_of_getElem? (i := 19) (show lw_privs[19]? = some (yX8_refuseOtherBad, 12) by decide +kernel), rfl⟩)) rfl
theorem se_X3_missing : Cond.selects yX3_missing.cls yX3_missing yX3_missing ∈ xT := xT_mem (List.mem_append_left _ (List.mem_map.mpr ⟨_, List.mem_of_getElem? (i := 20) (show lw_privs[20]? = some (yX3_missing, 3) by decide +kernel), rfl⟩)) rfl
theorem se_X3_missingIf : Cond.selects yX3_missingIf.cls yX3_missingIf yX3_missingIf ∈ xT := xT_mem (List.mem_append_left _ (List.mem_map.mpr ⟨_, List.mem_of_getElem? (i := 21) (show lw_privs[21]? = some (yX3_missingIf, 3) by decide +kernel), rfl⟩)) rfl
theorem se_X0_fitsNotes : Cond.selects yX0_fitsNotes.cls yX0_fitsNotes yX0_fitsNotes ∈ xT := xT_mem (List.mem_append_left _ (List.mem_map.mpr ⟨_, List.mem_of_getElem? (i := 22) (show lw_privs[22]? = some (yX0_fitsNotes, 16) by decide +kernel), rfl⟩)) rfl
theorem se_X7_countStops : Cond.selects yX7_countStops.cls yX7_countStops yX7_countStops ∈ xT := xT_mem (List.mem_append_left _ (List.mem_map.mpr ⟨_, List.mem_of_getElem? (i := 23) (show lw_privs[23]? = some (yX7_countStops, 4) by decide +kernel), rfl⟩)) rfl
theorem se_X7_rests : Cond.selects yX7_rests.cls yX7_rests yX7_rests ∈ xT := xT_mem (List.mem_append_left _ (List.mem_map.mpr ⟨_, List.mem_of_getElem? (i := 24) (show lw_privs[24]? = some (yX7_rests, 4) by decide +kernel), rfl⟩)) rfl
theorem se_X9_bad : Cond.selects yX9_bad.cls yX9_bad yX9_bad ∈ xT := xT_mem (List.mem_append_left _ (List.mem_map.mpr ⟨_, List.mem_of_getElem? (i := 25) (show lw_privs[25]? = some (yX9_bad, 18) by decide +kernel), rfl⟩)) rfl
theorem se_X9_many : Cond.selects yX9_many.cls yX9_many yX9_many ∈ xT := xT_mem (List.mem_append_left _ (List.mem_map.mpr ⟨_, List.mem_of_getElem? (i := 26) (show lw_privs[26]? = some (yX9_many, 18) by decide +kernel), rfl⟩)) rfl
theorem se_X9_full : Cond.selects yX9_full.cls yX9_full yX9_full ∈ xT := xT_mem (List.mem_append_left _ (List.mem_map.mpr ⟨_, List.mem_of_getElem? (i := 27) (show lw_privs[27]? = some (yX9_full, 18) by decide +kernel), rfl⟩)) rfl
theorem se_X9_isIdea : Cond.selects yX9_isIdea.cls yX9_isIdea yX9_isIdea ∈ xT := xT_mem (List.mem_append_left _ (List.mem_map.mpr ⟨_, List.mem_of_getElem? (i := 28) (show lw_privs[28]? = some (yX9_isIdea, 18) by decide +kernel), rfl⟩)) rfl
theorem se_X9_no : Cond.selects yX9_no.cls yX9_no yX9_no ∈ xT := xT_mem (List.mem_append_left _ (List.mem_map.mpr ⟨_, List.mem_of_getElem? (i := 29) (show lw_privs[29]? = some (yX9_no, 18) by decide +kernel), rfl⟩)) rfl
theorem se_X9_keep : Cond.selects yX9_keep.cls yX9_keep yX9_keep ∈ xT := xT_mem (List.mem_append_left _ (List.mem_map.mpr ⟨_, List.mem_of_getElem? (i := 30) (show lw_privs[30]? = some (yX9_keep, 18) by decide +kernel), rfl⟩)) rfl
theorem se_X9_layHand : Cond.selects yX9_layHand.cls yX9_layHand yX9_layHand ∈ xT := xT_mem (List.mem_append_left _ (List.mem_map.mpr ⟨_, List.mem_of_getElem? (i := 31) (show lw_privs[31]? = some (yX9_layHand, 18) by decide +kernel), rfl⟩)) rfl
theorem se_X9_goTill : Cond.selects yX9_goTill.cls yX9_goTill yX9_goTill ∈ xT := xT_mem (List.mem_append_left _ (List.mem_map.mpr ⟨_, List.mem_of_getElem? (i := 32) (show lw_privs[32]? = some (yX9_goTill, 18) by decide +kernel), rfl⟩)) rfl
theorem se_X9_goStop : Cond.selects yX9_goStop.cls yX9_goStop yX9_goStop ∈ xT := xT_mem (List.mem_append_left _ (List.mem_map.mpr ⟨_, List.mem_of_getElem? (i := 33) (show lw_privs[33]? = some (yX9_goStop, 18) by decide +kernel), rfl⟩)) rfl
theorem se_X9_swayOfAll : Cond.selects yX9_swayOfAll.cls yX9_swayOfAll yX9_swayOfAll ∈ xT := xT_mem (List.mem_append_left _ (List.mem_map.mpr ⟨_, List.mem_of_getElem? (i := 34) (show lw_privs[34]? = some (yX9_swayOfAll, 18) by decide +kernel), rfl⟩)) rfl
theorem se_X9_swayOf : Cond.selects yX9_swayOf.cls yX9_swayOf yX9_swayOf ∈ xT := xT_mem (List.mem_append_left _ (List.mem_map.mpr ⟨_, List.mem_of_getElem? (i := 35) (show lw_privs[35]? = some (yX9_swayOf, 18) by decide +kernel), rfl⟩)) rfl
theorem se_X9_fewestDecks : Cond.selects yX9_fewestDecks.cls yX9_fewestDecks yX9_fewestDecks ∈ xT := xT_mem (List.mem_append_left _ (List.mem_map.mpr ⟨_, List.mem_of_getElem? (i := 36) (show lw_privs[36]? = some (yX9_fewestDecks, 18) by decide +kernel), rfl⟩)) rfl
theorem se_X9_layDecks : Cond.selects yX9_layDecks.cls yX9_layDecks yX9_layDecks ∈ xT := xT_mem (List.mem_append_left _ (List.mem_map.mpr ⟨_, List.mem_of_getElem? (i := 37) (show lw_privs[37]? = some (yX9_layDecks, 18) by decide +kernel), rfl⟩)) rfl
theorem se_X9_layStart : Cond.selects yX9_layStart.cls yX9_layStart yX9_layStart ∈ xT := xT_mem (List.mem_append_left _ (List.mem_map.mpr ⟨_, List.mem_of_getElem? (i := 38) (show lw_privs[38]? = some (yX9_layStart, 18) by decide +kernel), rfl⟩)) rfl
theorem se_X9_manyLost : Cond.selects yX9_manyLost.cls yX9_manyLost yX9_manyLost ∈ xT := xT_mem (List.mem_append_left _ (List.mem_map.mpr ⟨_, List.mem_of_getElem? (i := 39) (show lw_privs[39]? = some (yX9_manyLost, 18) by decide +kernel), rfl⟩)) rfl
theorem se_X9_kindsOf : Cond.selects yX9_kindsOf.cls yX9_kindsOf yX9_kindsOf ∈ xT := xT_mem (List.mem_append_left _ (List.mem_map.mpr ⟨_, List.mem_of_getElem? (i := 40) (show lw_privs[40]? = some (yX9_kindsOf, 18) by decide +kernel), rfl⟩)) rfl
theorem se_X9_fraction : Cond.selects yX9_fraction.cls yX9_fraction yX9_fraction ∈ xT := xT_mem (List.mem_append_left _ (List.mem_map.mpr ⟨_, List.mem_of_getElem? (i := 41) (show lw_privs[41]? = some (yX9_fraction, 18) by decide +kernel), rfl⟩)) rfl
theorem se_X9_isPair : Cond.selects yX9_isPair.cls yX9_isPair yX9_isPair ∈ xT := xT_mem (List.mem_append_left _ (List.mem_map.mpr ⟨_, List.mem_of_getElem? (i := 42) (show lw_privs[42]? = some (yX9_isPair, 18) by decide +kernel), rfl⟩)) rfl
theorem se_X9_layPair : Cond.selects yX9_layPair.cls yX9_layPair yX9_layPair ∈ xT := xT_mem (List.mem_append_left _ (List.mem_map.mpr ⟨_, List.mem_of_getElem? (i := 43) (show lw_privs[43]? = some (yX9_layPair, 18) by decide +kernel), rfl⟩)) rfl
theorem se_X9_rests : Cond.selects yX9_rests.cls yX9_rests yX9_rests ∈ xT := xT_mem (List.mem_append_left _ (List.mem_map.mpr ⟨_, List.mem_of_getElem? (i := 44) (show lw_privs[44]? = some (yX9_rests, 18) by decide +kernel), rfl⟩)) rfl
theorem se_X9_lookAt : Cond.selects yX9_lookAt.cls yX9_lookAt yX9_lookAt ∈ xT := xT_mem (List.mem_append_left _ (List.mem_map.mpr ⟨_, List.mem_of_getElem? (i := 45) (show lw_privs[45]? = some (yX9_lookAt, 18) by decide +kernel), rfl⟩)) rfl
theorem se_X9_takesBus : Cond.selects yX9_takesBus.cls yX9_takesBus yX9_takesBus ∈ xT := xT_mem (List.mem_append_left _ (List.mem_map.mpr ⟨_, List.mem_of_getElem? (i := 46) (show lw_privs[46]? = some (yX9_takesBus, 18) by decide +kernel), rfl⟩)) rfl
theorem se_X9_spells : Cond.selects yX9_spells.cls yX9_spells yX9_spells ∈ xT := xT_mem (List.mem_append_left _ (List.mem_map.mpr ⟨_, List.mem_of_getElem? (i := 47) (show lw_privs[47]? = some (yX9_spells, 18) by decide +kernel), rfl⟩)) rfl
theorem se_X9_goBehind : Cond.selects yX9_goBehind.cls yX9_goBehind yX9_goBehind ∈ xT := xT_mem (List.mem_append_left _ (List.mem_map.mpr ⟨_, List.mem_of_getElem? (i := 48) (show lw_privs[48]? = some (yX9_goBehind, 18) by decide +kernel), rfl⟩)) rfl
theorem se_X9_takes : Cond.selects yX9_takes.cls yX9_takes yX9_takes ∈ xT := xT_mem (List.mem_append_left _ (List.mem_map.mpr ⟨_, List.mem_of_getElem? (i := 49) (show lw_privs[49]? = some (yX9_takes, 18) by decide +kernel), rfl⟩)) rfl
theorem se_X9_takesItem : Cond.selects yX9_takesItem.cls yX9_takesItem yX9_takesItem ∈ xT := xT_mem (List.mem_append_left _ (List.mem_map.mpr ⟨_, List.mem_of_getElem? (i := 50) (show lw_privs[50]? = some (yX9_takesItem, 18) by decide +kernel), rfl⟩)) rfl
theorem se_X9_takesBridge : Cond.selects yX9_takesBridge.cls yX9_takesBridge yX9_takesBridge ∈ xT := xT_mem (List.mem_append_left _ (List.mem_map.mpr ⟨_, List.mem_of_getElem? (i := 51) (show lw_privs[51]? = some (yX9_takesBridge, 18) by decide +kernel), rfl⟩)) rfl
theorem se_X9_takesIdea : Cond.selects yX9_takesIdea.cls yX9_takesIdea yX9_takesIdea ∈ xT := xT_mem (List.mem_append_left _ (List.mem_map.mpr ⟨_, List.mem_of_getElem? (i := 52) (show lw_privs[52]? = some (yX9_takesIdea, 18) by decide +kernel), rfl⟩)) rfl
theorem se_X9_isQuarrel : Cond.selects yX9_isQuarrel.cls yX9_isQuarrel yX9_isQuarrel ∈ xT := xT_mem (List.mem_append_left _ (List.mem_map.mpr ⟨_, List.mem_of_getElem? (i := 53) (show lw_privs[53]? = some (yX9_isQuarrel, 18) by decide +kernel), rfl⟩)) rfl
theorem se_X9_takesQuarrel : Cond.selects yX9_takesQuarrel.cls yX9_takesQuarrel yX9_takesQuarrel ∈ xT := xT_mem (List.mem_append_left _ (List.mem_map.mpr ⟨_, List.mem_of_getElem? (i := 54) (show lw_privs[54]? = some (yX9_takesQuarrel, 18) by decide +kernel), rfl⟩)) rfl
theorem se_X9_counted : Cond.selects yX9_counted.cls yX9_counted yX9_counted ∈ xT := xT_mem (List.mem_append_left _ (List.mem_map.mpr ⟨_, List.mem_of_getElem? (i := 55) (show lw_privs[55]? = some (yX9_counted, 18) by decide +kernel), rfl⟩)) rfl
theorem se_X9_manyQuarrels : Cond.selects yX9_manyQuarrels.cls yX9_manyQuarrels yX9_manyQuarrels ∈ xT := xT_mem (List.mem_append_left _ (List.mem_map.mpr ⟨_, List.mem_of_getElem? (i := 56) (show lw_privs[56]? = some (yX9_manyQuarrels, 18) by decide +kernel), rfl⟩)) rfl
theorem se_X9_manyBridges : Cond.selects yX9_manyBridges.cls yX9_manyBridges yX9_manyBridges ∈ xT := xT_mem (List.mem_append_left _ (List.mem_map.mpr ⟨_, List.mem_of_getElem? (i := 57) (show lw_privs[57]? = some (yX9_manyBridges, 18) by decide +kernel), rfl⟩)) rfl
theorem se_X9_sums : Cond.selects yX9_sums.cls yX9_sums yX9_sums ∈ xT := xT_mem (List.mem_append_left _ (List.mem_map.mpr ⟨_, List.mem_of_getElem? (i := 58) (show lw_privs[58]? = some (yX9_sums, 18) by decide +kernel), rfl⟩)) rfl
theorem in_System : Cond.initialized "java/lang/System" ∈ xT := xT_of (List.mem_of_getElem? (i := 15) (by decide +kernel)) rfl
