set_option maxRecDepth 100000
theorem kf_X9_12 : Cond.fieldLink RX9 12 "BronzeDown" "now" "LBronzeDown$State;" ∈ GW := bz_gw2 (i := 28) rfl rfl
theorem kf_X9_16 : Cond.fieldLink RX9 16 "BronzeDown" "kept" "LBronzeDown$State;" ∈ GW := bz_gw2 (i := 29) rfl rfl
theorem kf_X9_19 : Cond.fieldLink RX9 19 "BronzeDown" "images" "I" ∈ GW := bz_gw2 (i := 30) rfl rfl
theorem kf_X9_26 : Cond.fieldLink RX9 26 "BronzeDown" "thought" "LBronzeDown$Course;" ∈ GW := bz_gw2 (i := 31) rfl rfl
theorem kf_X9_32 : Cond.fieldLink RX9 32 "BronzeDown" "sheets" "[LBronzeDown$Sheet;" ∈ GW := bz_gw2 (i := 32) rfl rfl
theorem kf_X9_39 : Cond.fieldLink RX9 39 "BronzeDown" "reader" "LBronzeDown$Reader;" ∈ GW := bz_gw2 (i := 33) rfl rfl
theorem kf_X9_46 : Cond.fieldLink RX9 46 "BronzeDown" "voices" "LBronzeDown$Voices;" ∈ GW := bz_gw2 (i := 34) rfl rfl
theorem kf_X9_50 : Cond.fieldLink RX9 50 "BronzeDown" "errors" "[I" ∈ GW := bz_gw2 (i := 35) rfl rfl
theorem kf_X9_55 : Cond.fieldLinkNest RX9 55 "BronzeDown$State" "course" "LBronzeDown$Course;" "BronzeDown" ∈ NW := bz_nw1 (i := 179) rfl rfl
theorem kf_X9_75 : Cond.fieldLink RX9 75 "BronzeDown" "MOST_OF_FIGURE" "[I" ∈ GW := bz_gw2 (i := 81) rfl rfl
theorem kf_X9_95 : Cond.fieldLinkNest RX9 95 "BronzeDown$State" "grounds" "LBronzeDown$Grounds;" "BronzeDown" ∈ NW := bz_nw1 (i := 181) rfl rfl
theorem kf_X9_108 : Cond.fieldLinkNest RX9 108 "BronzeDown$Grounds" "trees" "[I" "BronzeDown" ∈ NW := bz_nw1 (i := 154) rfl rfl
theorem kf_X9_111 : Cond.fieldLinkNest RX9 111 "BronzeDown$Course" "visitors" "LBronzeDown$Visitors;" "BronzeDown" ∈ NW := bz_nw1 (i := 112) rfl rfl
theorem kf_X9_126 : Cond.fieldLinkNest RX9 126 "BronzeDown$Visitors" "kind" "[I" "BronzeDown" ∈ NW := bz_nw1 (i := 42) rfl rfl
theorem kf_X9_129 : Cond.fieldLinkNest RX9 129 "BronzeDown$Visitors" "m" "[I" "BronzeDown" ∈ NW := bz_nw1 (i := 44) rfl rfl
theorem kf_X9_132 : Cond.fieldLinkNest RX9 132 "BronzeDown$Visitors" "loud" "[I" "BronzeDown" ∈ NW := bz_nw1 (i := 46) rfl rfl
theorem kf_X9_135 : Cond.fieldLinkNest RX9 135 "BronzeDown$Visitors" "every" "[I" "BronzeDown" ∈ NW := bz_nw1 (i := 48) rfl rfl
theorem kf_X9_138 : Cond.fieldLinkNest RX9 138 "BronzeDown$Course" "year" "I" "BronzeDown" ∈ NW := bz_nw1 (i := 125) rfl rfl
theorem kf_X9_147 : Cond.fieldLinkNest RX9 147 "BronzeDown$Course" "want" "I" "BronzeDown" ∈ NW := bz_nw1 (i := 117) rfl rfl
theorem kf_X9_160 : Cond.fieldLinkNest RX9 160 "BronzeDown$State" "tape" "LBronzeDown$Row;" "BronzeDown" ∈ NW := bz_nw1 (i := 183) rfl rfl
theorem kf_X9_164 : Cond.fieldLinkNest RX9 164 "BronzeDown$Row" "size" "I" "BronzeDown" ∈ NW := bz_nw1 (i := 89) rfl rfl
theorem kf_X9_184 : Cond.fieldLinkNest RX9 184 "BronzeDown$Reader" "law" "LBronzeDown$Law;" "BronzeDown" ∈ NW := bz_nw1 (i := 215) rfl rfl
theorem kf_X9_205 : Cond.fieldLinkNest RX9 205 "BronzeDown$Course" "lean" "I" "BronzeDown" ∈ NW := bz_nw1 (i := 120) rfl rfl
theorem kf_X9_211 : Cond.fieldLinkNest RX9 211 "BronzeDown$Course" "hat" "I" "BronzeDown" ∈ NW := bz_nw1 (i := 123) rfl rfl
theorem kf_X9_215 : Cond.fieldLinkNest RX9 215 "BronzeDown$Visitors" "size" "I" "BronzeDown" ∈ NW := bz_nw1 (i := 51) rfl rfl
theorem kf_X9_216 : Cond.fieldLinkNest RX9 216 "BronzeDown$Visitors" "away" "I" "BronzeDown" ∈ NW := bz_nw1 (i := 53) rfl rfl
theorem kf_X9_227 : Cond.fieldLinkNest RX9 227 "BronzeDown$Sheet" "row" "LBronzeDown$Row;" "BronzeDown" ∈ NW := bz_nw2 (i := 20) rfl rfl
theorem kf_X9_264 : Cond.fieldLinkNest RX9 264 "BronzeDown$State" "z" "I" "BronzeDown" ∈ NW := bz_nw1 (i := 187) rfl rfl
theorem kf_X9_271 : Cond.fieldLinkNest RX9 271 "BronzeDown$Voices" "bodies" "LBronzeDown$Row;" "BronzeDown" ∈ NW := bz_nw1 (i := 239) rfl rfl
theorem kf_X9_287 : Cond.fieldLinkNest RX9 287 "BronzeDown$Sheet" "bits" "I" "BronzeDown" ∈ NW := bz_nw2 (i := 22) rfl rfl
theorem kf_X9_306 : Cond.fieldLinkNest RX9 306 "BronzeDown$State" "waiting" "LBronzeDown$Row;" "BronzeDown" ∈ NW := bz_nw1 (i := 185) rfl rfl
theorem kf_X0_9 : Cond.fieldLink RX0 9 "BronzeDown$Course" "heat" "[I" ∈ GW := bz_gw1 (i := 108) rfl rfl
theorem kf_X0_15 : Cond.fieldLink RX0 15 "BronzeDown$Course" "rain" "[I" ∈ GW := bz_gw1 (i := 109) rfl rfl
theorem kf_X0_21 : Cond.fieldLink RX0 21 "BronzeDown$Course" "visitors" "LBronzeDown$Visitors;" ∈ GW := bz_gw1 (i := 111) rfl rfl
theorem kf_X0_28 : Cond.fieldLink RX0 28 "BronzeDown$Course" "yearns" "LBronzeDown$Law;" ∈ GW := bz_gw1 (i := 113) rfl rfl
theorem kf_X0_32 : Cond.fieldLink RX0 32 "BronzeDown$Course" "shifts" "LBronzeDown$Law;" ∈ GW := bz_gw1 (i := 114) rfl rfl
theorem kf_X0_35 : Cond.fieldLink RX0 35 "BronzeDown$Course" "want" "I" ∈ GW := bz_gw1 (i := 115) rfl rfl
theorem kf_X0_39 : Cond.fieldLink RX0 39 "BronzeDown$Course" "lean" "I" ∈ GW := bz_gw1 (i := 118) rfl rfl
theorem kf_X0_42 : Cond.fieldLink RX0 42 "BronzeDown$Course" "hat" "I" ∈ GW := bz_gw1 (i := 121) rfl rfl
theorem kf_X0_45 : Cond.fieldLink RX0 45 "BronzeDown$Course" "year" "I" ∈ GW := bz_gw1 (i := 124) rfl rfl
theorem kf_X0_58 : Cond.fieldLinkNest RX0 58 "BronzeDown$Law" "isThere" "Z" "BronzeDown" ∈ NW := bz_nw1 (i := 100) rfl rfl
theorem kf_X0_89 : Cond.fieldLinkNest RX0 89 "BronzeDown$Visitors" "size" "I" "BronzeDown" ∈ NW := bz_nw1 (i := 50) rfl rfl
theorem kf_X1_7 : Cond.fieldLink RX1 7 "BronzeDown$Grounds" "tall" "[I" ∈ GW := bz_gw1 (i := 151) rfl rfl
theorem kf_X1_13 : Cond.fieldLink RX1 13 "BronzeDown$Grounds" "bears" "[I" ∈ GW := bz_gw1 (i := 152) rfl rfl
theorem kf_X1_16 : Cond.fieldLink RX1 16 "BronzeDown$Grounds" "trees" "[I" ∈ GW := bz_gw1 (i := 153) rfl rfl
theorem kf_X1_19 : Cond.fieldLink RX1 19 "BronzeDown$Grounds" "ways" "[I" ∈ GW := bz_gw1 (i := 155) rfl rfl
theorem kf_X1_22 : Cond.fieldLink RX1 22 "BronzeDown$Grounds" "waysNext" "[I" ∈ GW := bz_gw1 (i := 156) rfl rfl
theorem kf_X1_25 : Cond.fieldLink RX1 25 "BronzeDown$Grounds" "high" "I" ∈ GW := bz_gw1 (i := 157) rfl rfl
theorem kf_X1_29 : Cond.fieldLink RX1 29 "BronzeDown$Grounds" "feet" "I" ∈ GW := bz_gw1 (i := 159) rfl rfl
theorem kf_X1_54 : Cond.fieldLinkNest RX1 54 "BronzeDown$Row" "size" "I" "BronzeDown" ∈ NW := bz_nw1 (i := 87) rfl rfl
theorem kf_X2_14 : Cond.fieldLink RX2 14 "BronzeDown$Law" "marks" "LBronzeDown$Row;" ∈ GW := bz_gw1 (i := 95) rfl rfl
theorem kf_X2_20 : Cond.fieldLink RX2 20 "BronzeDown$Law" "stack" "[I" ∈ GW := bz_gw1 (i := 97) rfl rfl
theorem kf_X2_24 : Cond.fieldLink RX2 24 "BronzeDown$Law" "isThere" "Z" ∈ GW := bz_gw1 (i := 98) rfl rfl
theorem kf_X2_32 : Cond.fieldLinkNest RX2 32 "BronzeDown$Row" "size" "I" "BronzeDown" ∈ NW := bz_nw1 (i := 86) rfl rfl
theorem kf_X3_14 : Cond.fieldLink RX3 14 "BronzeDown$Reader" "signs" "LBronzeDown$Row;" ∈ GW := bz_gw1 (i := 213) rfl rfl
theorem kf_X3_23 : Cond.fieldLink RX3 23 "BronzeDown$Reader" "law" "LBronzeDown$Law;" ∈ GW := bz_gw1 (i := 214) rfl rfl
theorem kf_X3_27 : Cond.fieldLink RX3 27 "BronzeDown$Reader" "use" "I" ∈ GW := bz_gw1 (i := 216) rfl rfl
theorem kf_X3_31 : Cond.fieldLink RX3 31 "BronzeDown$Reader" "at" "I" ∈ GW := bz_gw1 (i := 217) rfl rfl
theorem kf_X3_34 : Cond.fieldLink RX3 34 "BronzeDown$Reader" "faulty" "Z" ∈ GW := bz_gw1 (i := 218) rfl rfl
theorem kf_X3_42 : Cond.fieldLinkNest RX3 42 "BronzeDown$Law" "isThere" "Z" "BronzeDown" ∈ NW := bz_nw1 (i := 99) rfl rfl
theorem kf_X3_45 : Cond.fieldLinkNest RX3 45 "BronzeDown$Law" "marks" "LBronzeDown$Row;" "BronzeDown" ∈ NW := bz_nw1 (i := 96) rfl rfl
theorem kf_X3_55 : Cond.fieldLinkNest RX3 55 "BronzeDown$Row" "size" "I" "BronzeDown" ∈ NW := bz_nw1 (i := 85) rfl rfl
theorem kf_X4_7 : Cond.fieldLink RX4 7 "BronzeDown$Row" "size" "I" ∈ GW := bz_gw1 (i := 84) rfl rfl
theorem kf_X4_19 : Cond.fieldLink RX4 19 "BronzeDown$Row" "numbers" "[I" ∈ GW := bz_gw1 (i := 83) rfl rfl
theorem kf_X5_14 : Cond.fieldLink RX5 14 "BronzeDown$Sheet" "row" "LBronzeDown$Row;" ∈ GW := bz_gw2 (i := 19) rfl rfl
theorem kf_X5_20 : Cond.fieldLink RX5 20 "BronzeDown$Sheet" "bits" "I" ∈ GW := bz_gw2 (i := 21) rfl rfl
theorem kf_X6_12 : Cond.fieldLink RX6 12 "BronzeDown$State" "course" "LBronzeDown$Course;" ∈ GW := bz_gw1 (i := 178) rfl rfl
theorem kf_X6_21 : Cond.fieldLink RX6 21 "BronzeDown$State" "grounds" "LBronzeDown$Grounds;" ∈ GW := bz_gw1 (i := 180) rfl rfl
theorem kf_X6_30 : Cond.fieldLink RX6 30 "BronzeDown$State" "tape" "LBronzeDown$Row;" ∈ GW := bz_gw1 (i := 182) rfl rfl
theorem kf_X6_34 : Cond.fieldLink RX6 34 "BronzeDown$State" "waiting" "LBronzeDown$Row;" ∈ GW := bz_gw1 (i := 184) rfl rfl
theorem kf_X6_37 : Cond.fieldLink RX6 37 "BronzeDown$State" "z" "I" ∈ GW := bz_gw1 (i := 186) rfl rfl
theorem kf_X6_41 : Cond.fieldLinkNest RX6 41 "BronzeDown$Course" "want" "I" "BronzeDown" ∈ NW := bz_nw1 (i := 116) rfl rfl
theorem kf_X6_44 : Cond.fieldLinkNest RX6 44 "BronzeDown$Course" "lean" "I" "BronzeDown" ∈ NW := bz_nw1 (i := 119) rfl rfl
theorem kf_X6_47 : Cond.fieldLinkNest RX6 47 "BronzeDown$Course" "hat" "I" "BronzeDown" ∈ NW := bz_nw1 (i := 122) rfl rfl
theorem kf_X6_50 : Cond.fieldLinkNest RX6 50 "BronzeDown$Grounds" "high" "I" "BronzeDown" ∈ NW := bz_nw1 (i := 158) rfl rfl
theorem kf_X6_53 : Cond.fieldLinkNest RX6 53 "BronzeDown$Grounds" "feet" "I" "BronzeDown" ∈ NW := bz_nw1 (i := 160) rfl rfl
theorem kf_X6_60 : Cond.fieldLinkNest RX6 60 "BronzeDown$Course" "rain" "[I" "BronzeDown" ∈ NW := bz_nw1 (i := 110) rfl rfl
theorem kf_X7_9 : Cond.fieldLink RX7 9 "BronzeDown$Visitors" "kind" "[I" ∈ GW := bz_gw1 (i := 41) rfl rfl
theorem kf_X7_13 : Cond.fieldLink RX7 13 "BronzeDown$Visitors" "m" "[I" ∈ GW := bz_gw1 (i := 43) rfl rfl
theorem kf_X7_16 : Cond.fieldLink RX7 16 "BronzeDown$Visitors" "loud" "[I" ∈ GW := bz_gw1 (i := 45) rfl rfl
theorem kf_X7_19 : Cond.fieldLink RX7 19 "BronzeDown$Visitors" "every" "[I" ∈ GW := bz_gw1 (i := 47) rfl rfl
theorem kf_X7_22 : Cond.fieldLink RX7 22 "BronzeDown$Visitors" "size" "I" ∈ GW := bz_gw1 (i := 49) rfl rfl
theorem kf_X7_26 : Cond.fieldLink RX7 26 "BronzeDown$Visitors" "away" "I" ∈ GW := bz_gw1 (i := 52) rfl rfl
theorem kf_X7_29 : Cond.fieldLink RX7 29 "BronzeDown$Visitors" "KIND_ABOVE" "[I" ∈ GW := bz_gw2 (i := 210) rfl rfl
theorem kf_X7_61 : Cond.fieldLink RX7 61 "BronzeDown$Visitors" "ORDERS" "[I" ∈ GW := bz_gw3 (i := 231) rfl rfl
theorem kf_X7_64 : Cond.fieldLinkNest RX7 64 "BronzeDown$Row" "size" "I" "BronzeDown" ∈ NW := bz_nw1 (i := 88) rfl rfl
theorem kf_X8_14 : Cond.fieldLink RX8 14 "BronzeDown$Voices" "bodies" "LBronzeDown$Row;" ∈ GW := bz_gw1 (i := 238) rfl rfl
theorem kf_X8_18 : Cond.fieldLink RX8 18 "BronzeDown$Voices" "number" "I" ∈ GW := bz_gw2 (i := 0) rfl rfl
theorem kf_X8_22 : Cond.fieldLink RX8 22 "BronzeDown$Voices" "kind" "I" ∈ GW := bz_gw2 (i := 1) rfl rfl
theorem kf_X8_25 : Cond.fieldLink RX8 25 "BronzeDown$Voices" "m" "I" ∈ GW := bz_gw2 (i := 2) rfl rfl
theorem kf_X8_59 : Cond.fieldLink RX8 59 "BronzeDown$Voices" "BODIES" "[I" ∈ GW := bz_gw4 (i := 39) rfl rfl
theorem kf_X10_7 : Cond.fieldLink RX10 7 "BronzeDownModel" "row" "[I" ∈ GW := bz_gw4 (i := 156) rfl rfl
theorem kf_X10_13 : Cond.fieldLink RX10 13 "BronzeDownModel" "kept" "[I" ∈ GW := bz_gw4 (i := 157) rfl rfl
theorem kf_X10_16 : Cond.fieldLink RX10 16 "BronzeDownModel" "tried" "[I" ∈ GW := bz_gw4 (i := 158) rfl rfl
theorem kf_X10_19 : Cond.fieldLink RX10 19 "BronzeDownModel" "before" "[I" ∈ GW := bz_gw4 (i := 159) rfl rfl
theorem kf_X10_22 : Cond.fieldLink RX10 22 "BronzeDownModel" "found" "[I" ∈ GW := bz_gw4 (i := 162) rfl rfl
theorem kf_X10_25 : Cond.fieldLink RX10 25 "BronzeDownModel" "away" "I" ∈ GW := bz_gw4 (i := 163) rfl rfl
theorem kf_X10_29 : Cond.fieldLink RX10 29 "BronzeDownModel" "bitsOf" "[I" ∈ GW := bz_gw4 (i := 172) rfl rfl
theorem kf_X10_32 : Cond.fieldLink RX10 32 "BronzeDownModel" "sizeOf" "[I" ∈ GW := bz_gw4 (i := 173) rfl rfl
theorem kf_X10_35 : Cond.fieldLink RX10 35 "BronzeDownModel" "sheets" "[I" ∈ GW := bz_gw4 (i := 174) rfl rfl
theorem kf_X10_38 : Cond.fieldLink RX10 38 "BronzeDownModel" "moved" "[I" ∈ GW := bz_gw4 (i := 175) rfl rfl
theorem kf_X10_41 : Cond.fieldLink RX10 41 "BronzeDownModel" "ways" "[I" ∈ GW := bz_gw4 (i := 176) rfl rfl
theorem kf_X10_44 : Cond.fieldLink RX10 44 "BronzeDownModel" "waysThen" "[I" ∈ GW := bz_gw4 (i := 177) rfl rfl
theorem kf_X10_47 : Cond.fieldLink RX10 47 "BronzeDownModel" "traced" "[I" ∈ GW := bz_gw4 (i := 178) rfl rfl
theorem kf_X10_96 : Cond.fieldLink RX10 96 "BronzeDownModel" "end" "I" ∈ GW := bz_gw4 (i := 166) rfl rfl
theorem kf_X10_99 : Cond.fieldLink RX10 99 "BronzeDownModel" "use" "I" ∈ GW := bz_gw4 (i := 164) rfl rfl
theorem kf_X10_102 : Cond.fieldLink RX10 102 "BronzeDownModel" "good" "Z" ∈ GW := bz_gw4 (i := 171) rfl rfl
theorem kf_X10_106 : Cond.fieldLink RX10 106 "BronzeDownModel" "at" "I" ∈ GW := bz_gw4 (i := 165) rfl rfl
theorem kf_X10_118 : Cond.fieldLink RX10 118 "BronzeDownModel" "namedA" "I" ∈ GW := bz_gw4 (i := 168) rfl rfl
theorem kf_X10_121 : Cond.fieldLink RX10 121 "BronzeDownModel" "namedB" "I" ∈ GW := bz_gw4 (i := 169) rfl rfl
theorem kf_X10_124 : Cond.fieldLink RX10 124 "BronzeDownModel" "namedC" "I" ∈ GW := bz_gw4 (i := 170) rfl rfl
theorem kf_X10_133 : Cond.fieldLink RX10 133 "BronzeDownModel" "open" "I" ∈ GW := bz_gw4 (i := 167) rfl rfl
theorem kf_X10_233 : Cond.fieldLink RX10 233 "BronzeDownModel" "tracedMany" "I" ∈ GW := bz_gw4 (i := 179) rfl rfl
theorem kf_X10_239 : Cond.fieldLink RX10 239 "BronzeDownModel" "voiceN" "I" ∈ GW := bz_gw4 (i := 181) rfl rfl
theorem kf_X10_245 : Cond.fieldLink RX10 245 "BronzeDownModel" "voiceM" "I" ∈ GW := bz_gw4 (i := 182) rfl rfl
theorem kf_X10_251 : Cond.fieldLink RX10 251 "BronzeDownModel" "voiceKind" "I" ∈ GW := bz_gw4 (i := 180) rfl rfl
theorem kf_X10_263 : Cond.fieldLink RX10 263 "BronzeDownModel" "isKept" "Z" ∈ GW := bz_gw4 (i := 160) rfl rfl
theorem kf_X10_266 : Cond.fieldLink RX10 266 "BronzeDownModel" "images" "I" ∈ GW := bz_gw4 (i := 161) rfl rfl
theorem km_X9_11 : Cond.methodLinkNest RX9 11 yX6_init "BronzeDown" ∈ NW := bz_nw1 (i := 25) rfl rfl
theorem km_X9_25 : Cond.methodLinkNest RX9 25 yX0_init "BronzeDown" ∈ NW := bz_nw1 (i := 200) rfl rfl
theorem km_X9_38 : Cond.methodLinkNest RX9 38 yX3_init "BronzeDown" ∈ NW := bz_nw1 (i := 205) rfl rfl
theorem km_X9_45 : Cond.methodLinkNest RX9 45 yX8_init "BronzeDown" ∈ NW := bz_nw1 (i := 232) rfl rfl
theorem km_X9_54 : Cond.methodLinkNest RX9 54 yX5_init "BronzeDown" ∈ NW := bz_nw2 (i := 13) rfl rfl
theorem km_X9_58 : Cond.methodLink RX9 58 yX0_rowOfSeasons ∈ GW := bz_gw2 (i := 57) rfl rfl
theorem km_X9_62 : Cond.methodLink RX9 62 yX9_isPlace ∈ GW := bz_gw2 (i := 61) rfl rfl
theorem km_X9_66 : Cond.methodLink RX9 66 yX9_within ∈ GW := bz_gw2 (i := 64) rfl rfl
theorem km_X9_71 : Cond.methodLink RX9 71 yX9_fails ∈ GW := bz_gw2 (i := 68) rfl rfl
theorem km_X9_78 : Cond.methodLink RX9 78 yX6_partOfFigure ∈ GW := bz_gw2 (i := 83) rfl rfl
theorem km_X9_81 : Cond.methodLink RX9 81 yX6_setPartOfFigure ∈ GW := bz_gw2 (i := 87) rfl rfl
theorem km_X9_85 : Cond.methodLink RX9 85 yX0_weight ∈ GW := bz_gw2 (i := 95) rfl rfl
theorem km_X9_89 : Cond.methodLink RX9 89 yX0_yearning ∈ GW := bz_gw2 (i := 99) rfl rfl
theorem km_X9_92 : Cond.methodLink RX9 92 yX0_shifting ∈ GW := bz_gw2 (i := 136) rfl rfl
theorem km_X9_99 : Cond.methodLink RX9 99 yX1_rowOfSteps ∈ GW := bz_gw2 (i := 144) rfl rfl
theorem km_X9_104 : Cond.methodLink RX9 104 yX1_isGood ∈ GW := bz_gw2 (i := 152) rfl rfl
theorem km_X9_115 : Cond.methodLink RX9 115 yX7_add ∈ GW := bz_gw2 (i := 165) rfl rfl
theorem km_X9_122 : Cond.methodLink RX9 122 yX7_has ∈ GW := bz_gw2 (i := 174) rfl rfl
theorem km_X9_141 : Cond.methodLink RX9 141 yX0_rainNow ∈ GW := bz_gw2 (i := 178) rfl rfl
theorem km_X9_144 : Cond.methodLink RX9 144 yX7_comes ∈ GW := bz_gw2 (i := 182) rfl rfl
theorem km_X9_150 : Cond.methodLink RX9 150 yX0_heatNow ∈ GW := bz_gw2 (i := 187) rfl rfl
theorem km_X9_153 : Cond.methodLink RX9 153 yX7_keeps ∈ GW := bz_gw2 (i := 188) rfl rfl
theorem km_X9_156 : Cond.methodLink RX9 156 yX7_isUnder ∈ GW := bz_gw2 (i := 204) rfl rfl
theorem km_X9_171 : Cond.methodLink RX9 171 yX4_add ∈ GW := bz_gw2 (i := 219) rfl rfl
theorem km_X9_173 : Cond.methodLink RX9 173 yX3_read ∈ GW := bz_gw2 (i := 227) rfl rfl
theorem km_X9_177 : Cond.methodLink RX9 177 yX4_clear ∈ GW := bz_gw3 (i := 47) rfl rfl
theorem km_X9_180 : Cond.methodLink RX9 180 yX0_lawOf ∈ GW := bz_gw3 (i := 48) rfl rfl
theorem km_X9_188 : Cond.methodLink RX9 188 yX2_copyFrom ∈ GW := bz_gw3 (i := 49) rfl rfl
theorem km_X9_194 : Cond.methodLink RX9 194 yX0_given ∈ GW := bz_gw3 (i := 58) rfl rfl
theorem km_X9_199 : Cond.methodLink RX9 199 yX0_pass ∈ GW := bz_gw3 (i := 64) rfl rfl
theorem km_X9_202 : Cond.methodLink RX9 202 yX6_drawRain ∈ GW := bz_gw3 (i := 81) rfl rfl
theorem km_X9_208 : Cond.methodLink RX9 208 yX9_thinkAfresh ∈ GW := bz_gw3 (i := 95) rfl rfl
theorem km_X9_219 : Cond.methodLink RX9 219 yX9_sheetOf ∈ GW := bz_gw3 (i := 135) rfl rfl
theorem km_X9_223 : Cond.methodLink RX9 223 yX5_isMissing ∈ GW := bz_gw3 (i := 139) rfl rfl
theorem km_X9_230 : Cond.methodLink RX9 230 yX9_firstUnlike ∈ GW := bz_gw3 (i := 143) rfl rfl
theorem km_X9_234 : Cond.methodLink RX9 234 yJ_min ∈ GW := bz_gw3 (i := 148) rfl rfl
theorem km_X9_240 : Cond.methodLink RX9 240 yX1_leastStair ∈ GW := bz_gw3 (i := 157) rfl rfl
theorem km_X9_243 : Cond.methodLink RX9 243 yJ_bitCount ∈ GW := bz_gw3 (i := 176) rfl rfl
theorem km_X9_248 : Cond.methodLink RX9 248 yX1_exactStairs ∈ GW := bz_gw3 (i := 181) rfl rfl
theorem km_X9_251 : Cond.methodLink RX9 251 yX1_isToldOf ∈ GW := bz_gw3 (i := 189) rfl rfl
theorem km_X9_255 : Cond.methodLink RX9 255 yX7_ordersTippedBy ∈ GW := bz_gw3 (i := 215) rfl rfl
theorem km_X9_258 : Cond.methodLink RX9 258 yX1_gaits ∈ GW := bz_gw3 (i := 237) rfl rfl
theorem km_X9_261 : Cond.methodLink RX9 261 yX9_inLowestTerms ∈ GW := bz_gw4 (i := 13) rfl rfl
theorem km_X9_267 : Cond.methodLink RX9 267 yX8_raise ∈ GW := bz_gw4 (i := 24) rfl rfl
theorem km_X9_274 : Cond.methodLink RX9 274 yX4_has ∈ GW := bz_gw4 (i := 56) rfl rfl
theorem km_X9_275 : Cond.methodLink RX9 275 yX4_at ∈ GW := bz_gw3 (i := 147) rfl rfl
theorem km_X9_278 : Cond.methodLink RX9 278 yX5_areBits ∈ GW := bz_gw4 (i := 61) rfl rfl
theorem km_X9_281 : Cond.methodLink RX9 281 yX5_make ∈ GW := bz_gw4 (i := 64) rfl rfl
theorem km_X9_284 : Cond.methodLink RX9 284 yX5_write ∈ GW := bz_gw4 (i := 76) rfl rfl
theorem km_X9_290 : Cond.methodLink RX9 290 yX4_hasRun ∈ GW := bz_gw4 (i := 89) rfl rfl
theorem km_X9_293 : Cond.methodLink RX9 293 yX4_takeRun ∈ GW := bz_gw4 (i := 90) rfl rfl
theorem km_X9_297 : Cond.methodLink RX9 297 yX1_takeTalls ∈ GW := bz_gw4 (i := 95) rfl rfl
theorem km_X9_300 : Cond.methodLink RX9 300 yX7_firstNotSoLoud ∈ GW := bz_gw4 (i := 104) rfl rfl
theorem km_X9_303 : Cond.methodLink RX9 303 yX6_copyFrom ∈ GW := bz_gw4 (i := 115) rfl rfl
theorem km_X9_309 : Cond.methodLink RX9 309 yX7_loudOfAll ∈ GW := bz_gw4 (i := 141) rfl rfl
theorem km_X9_312 : Cond.methodLink RX9 312 yX1_treesOfAll ∈ GW := bz_gw4 (i := 142) rfl rfl
theorem km_X9_316 : Cond.methodLink RX9 316 yX0_copyFrom ∈ GW := bz_gw3 (i := 99) rfl rfl
theorem km_X0_20 : Cond.methodLinkNest RX0 20 yX7_init "BronzeDown" ∈ NW := bz_nw1 (i := 37) rfl rfl
theorem km_X0_27 : Cond.methodLinkNest RX0 27 yX2_init "BronzeDown" ∈ NW := bz_nw1 (i := 70) rfl rfl
theorem km_X0_48 : Cond.methodLink RX0 48 yJ_floorMod ∈ GW := bz_gw2 (i := 107) rfl rfl
theorem km_X0_54 : Cond.methodLink RX0 54 yX0_lawOf ∈ GW := bz_gw2 (i := 114) rfl rfl
theorem km_X0_62 : Cond.methodLink RX0 62 yX2_workOut ∈ GW := bz_gw2 (i := 118) rfl rfl
theorem km_X0_66 : Cond.methodLink RX0 66 yJ_min ∈ GW := bz_gw2 (i := 132) rfl rfl
theorem km_X0_69 : Cond.methodLink RX0 69 yJ_max ∈ GW := bz_gw2 (i := 135) rfl rfl
theorem km_X0_72 : Cond.methodLink RX0 72 yX0_heatNow ∈ GW := bz_gw2 (i := 103) rfl rfl
theorem km_X0_76 : Cond.methodLink RX0 76 yX0_given ∈ GW := bz_gw2 (i := 110) rfl rfl
theorem km_X0_80 : Cond.methodLink RX0 80 yX0_passYear ∈ GW := bz_gw3 (i := 68) rfl rfl
theorem km_X0_83 : Cond.methodLink RX0 83 yX0_yearning ∈ GW := bz_gw3 (i := 72) rfl rfl
theorem km_X0_86 : Cond.methodLink RX0 86 yX0_rainNow ∈ GW := bz_gw3 (i := 73) rfl rfl
theorem km_X0_92 : Cond.methodLink RX0 92 yX7_comes ∈ GW := bz_gw3 (i := 74) rfl rfl
theorem km_X0_96 : Cond.methodLink RX0 96 yX7_keeps ∈ GW := bz_gw3 (i := 75) rfl rfl
theorem km_X0_99 : Cond.methodLink RX0 99 yX0_shifting ∈ GW := bz_gw3 (i := 76) rfl rfl
theorem km_X0_102 : Cond.methodLink RX0 102 ⟨"java/lang/System", "arraycopy", "(Ljava/lang/Object;ILjava/lang/Object;II)V"⟩ ∈ GW := bz_gw3 (i := 103) rfl rfl
theorem km_X0_108 : Cond.methodLink RX0 108 yX7_copyFrom ∈ GW := bz_gw3 (i := 104) rfl rfl
theorem km_X0_112 : Cond.methodLink RX0 112 yX2_copyFrom ∈ GW := bz_gw3 (i := 109) rfl rfl
theorem km_X1_32 : Cond.methodLinkNest RX1 32 yX9_isPlace "BronzeDown" ∈ NW := bz_nw2 (i := 156) rfl rfl
theorem km_X1_38 : Cond.methodLink RX1 38 yX1_isGood ∈ GW := bz_gw3 (i := 165) rfl rfl
theorem km_X1_42 : Cond.methodLink RX1 42 yX1_goodSteps ∈ GW := bz_gw3 (i := 161) rfl rfl
theorem km_X1_46 : Cond.methodLink RX1 46 yJ_bitCount ∈ GW := bz_gw3 (i := 166) rfl rfl
theorem km_X1_51 : Cond.methodLink RX1 51 yX1_tallOf ∈ GW := bz_gw3 (i := 172) rfl rfl
theorem km_X1_59 : Cond.methodLink RX1 59 yJ_min ∈ GW := bz_gw4 (i := 99) rfl rfl
theorem km_X1_65 : Cond.methodLink RX1 65 yX4_at ∈ GW := bz_gw3 (i := 193) rfl rfl
theorem km_X1_68 : Cond.methodLinkNest RX1 68 yX9_within "BronzeDown" ∈ NW := bz_nw3 (i := 206) rfl rfl
theorem km_X1_72 : Cond.methodLink RX1 72 yX1_treesOfRow ∈ GW := bz_gw3 (i := 194) rfl rfl
theorem km_X1_75 : Cond.methodLink RX1 75 yX1_treesOfLine ∈ GW := bz_gw3 (i := 198) rfl rfl
theorem km_X1_78 : Cond.methodLink RX1 78 yX1_treesNextTo ∈ GW := bz_gw3 (i := 207) rfl rfl
theorem km_X1_81 : Cond.methodLink RX1 81 yX1_treeAt ∈ GW := bz_gw3 (i := 202) rfl rfl
theorem km_X1_84 : Cond.methodLink RX1 84 yX1_tumbles ∈ GW := bz_gw4 (i := 1) rfl rfl
theorem km_X1_88 : Cond.methodLink RX1 88 yX1_moveOneFoot ∈ GW := bz_gw4 (i := 4) rfl rfl
theorem km_X1_91 : Cond.methodLink RX1 91 ⟨"java/lang/System", "arraycopy", "(Ljava/lang/Object;ILjava/lang/Object;II)V"⟩ ∈ GW := bz_gw4 (i := 8) rfl rfl
theorem km_X2_11 : Cond.methodLink RX2 11 yX4_init ∈ GW := bz_gw1 (i := 76) rfl rfl
theorem km_X2_28 : Cond.methodLink RX2 28 yX4_copyFrom ∈ GW := bz_gw3 (i := 53) rfl rfl
theorem km_X2_36 : Cond.methodLink RX2 36 yX4_at ∈ GW := bz_gw2 (i := 122) rfl rfl
theorem km_X2_40 : Cond.methodLink RX2 40 yX2_operand ∈ GW := bz_gw2 (i := 126) rfl rfl
theorem km_X2_44 : Cond.methodLink RX2 44 yX2_joined ∈ GW := bz_gw2 (i := 129) rfl rfl
theorem km_X3_11 : Cond.methodLink RX3 11 yX4_init ∈ GW := bz_gw1 (i := 210) rfl rfl
theorem km_X3_22 : Cond.methodLinkNest RX3 22 yX2_init "BronzeDown" ∈ NW := bz_nw1 (i := 212) rfl rfl
theorem km_X3_38 : Cond.methodLink RX3 38 yX4_copyFrom ∈ GW := bz_gw2 (i := 231) rfl rfl
theorem km_X3_48 : Cond.methodLink RX3 48 yX4_clear ∈ GW := bz_gw3 (i := 7) rfl rfl
theorem km_X3_51 : Cond.methodLink RX3 51 yX3_readLevel ∈ GW := bz_gw3 (i := 11) rfl rfl
theorem km_X3_58 : Cond.methodLink RX3 58 yX3_readUnit ∈ GW := bz_gw3 (i := 15) rfl rfl
theorem km_X3_61 : Cond.methodLink RX3 61 yX3_next ∈ GW := bz_gw3 (i := 19) rfl rfl
theorem km_X3_65 : Cond.methodLink RX3 65 yX3_levelOf ∈ GW := bz_gw3 (i := 44) rfl rfl
theorem km_X3_69 : Cond.methodLink RX3 69 yX4_add ∈ GW := bz_gw3 (i := 35) rfl rfl
theorem km_X3_73 : Cond.methodLink RX3 73 yX3_isDigit ∈ GW := bz_gw3 (i := 28) rfl rfl
theorem km_X3_76 : Cond.methodLink RX3 76 yX3_readNumber ∈ GW := bz_gw3 (i := 31) rfl rfl
theorem km_X3_79 : Cond.methodLink RX3 79 yX3_nameOf ∈ GW := bz_gw3 (i := 36) rfl rfl
theorem km_X3_82 : Cond.methodLink RX3 82 yX3_close ∈ GW := bz_gw3 (i := 40) rfl rfl
theorem km_X3_85 : Cond.methodLink RX3 85 yX4_has ∈ GW := bz_gw3 (i := 23) rfl rfl
theorem km_X3_88 : Cond.methodLink RX3 88 yX4_at ∈ GW := bz_gw3 (i := 27) rfl rfl
theorem km_X4_13 : Cond.methodLink RX4 13 yJ_max ∈ GW := bz_gw1 (i := 80) rfl rfl
theorem km_X4_23 : Cond.methodLink RX4 23 yX4_has ∈ GW := bz_gw4 (i := 84) rfl rfl
theorem km_X4_27 : Cond.methodLink RX4 27 yJ_min ∈ GW := bz_gw2 (i := 235) rfl rfl
theorem km_X4_30 : Cond.methodLink RX4 30 yX4_hasRun ∈ GW := bz_gw3 (i := 0) rfl rfl
theorem km_X4_34 : Cond.methodLink RX4 34 ⟨"java/lang/System", "arraycopy", "(Ljava/lang/Object;ILjava/lang/Object;II)V"⟩ ∈ GW := bz_gw3 (i := 4) rfl rfl
theorem km_X4_40 : Cond.methodLink RX4 40 yX4_takeRun ∈ GW := bz_gw2 (i := 236) rfl rfl
theorem km_X5_11 : Cond.methodLink RX5 11 yX4_init ∈ GW := bz_gw2 (i := 18) rfl rfl
theorem km_X5_24 : Cond.methodLink RX5 24 yX4_fillWithZeros ∈ GW := bz_gw4 (i := 68) rfl rfl
theorem km_X5_27 : Cond.methodLink RX5 27 yX4_write ∈ GW := bz_gw4 (i := 80) rfl rfl
theorem km_X6_11 : Cond.methodLinkNest RX6 11 yX0_init "BronzeDown" ∈ NW := bz_nw1 (i := 31) rfl rfl
theorem km_X6_20 : Cond.methodLinkNest RX6 20 yX1_init "BronzeDown" ∈ NW := bz_nw1 (i := 147) rfl rfl
theorem km_X6_27 : Cond.methodLink RX6 27 yX4_init ∈ GW := bz_gw1 (i := 177) rfl rfl
theorem km_X6_56 : Cond.methodLink RX6 56 yX6_draw ∈ GW := bz_gw3 (i := 85) rfl rfl
theorem km_X6_64 : Cond.methodLinkNest RX6 64 yX9_isPlace "BronzeDown" ∈ NW := bz_nw3 (i := 90) rfl rfl
theorem km_X6_69 : Cond.methodLink RX6 69 yX0_copyFrom ∈ GW := bz_gw4 (i := 119) rfl rfl
theorem km_X6_73 : Cond.methodLink RX6 73 yX1_copyFrom ∈ GW := bz_gw4 (i := 120) rfl rfl
theorem km_X6_76 : Cond.methodLink RX6 76 yX4_copyFrom ∈ GW := bz_gw4 (i := 124) rfl rfl
theorem km_X7_32 : Cond.methodLinkNest RX7 32 yX9_isPlace "BronzeDown" ∈ NW := bz_nw2 (i := 212) rfl rfl
theorem km_X7_38 : Cond.methodLink RX7 38 yX7_kindAbove ∈ GW := bz_gw2 (i := 207) rfl rfl
theorem km_X7_42 : Cond.methodLink RX7 42 yX7_has ∈ GW := bz_gw2 (i := 186) rfl rfl
theorem km_X7_46 : Cond.methodLink RX7 46 yX7_loudOf ∈ GW := bz_gw3 (i := 223) rfl rfl
theorem km_X7_49 : Cond.methodLink RX7 49 yX7_loudOfAll ∈ GW := bz_gw3 (i := 219) rfl rfl
theorem km_X7_53 : Cond.methodLink RX7 53 yJ_bitCount ∈ GW := bz_gw3 (i := 227) rfl rfl
theorem km_X7_58 : Cond.methodLink RX7 58 yX7_ordersOf ∈ GW := bz_gw3 (i := 228) rfl rfl
theorem km_X7_67 : Cond.methodLink RX7 67 yJ_max ∈ GW := bz_gw4 (i := 108) rfl rfl
theorem km_X7_73 : Cond.methodLink RX7 73 yX4_has ∈ GW := bz_gw4 (i := 109) rfl rfl
theorem km_X7_74 : Cond.methodLink RX7 74 yX4_at ∈ GW := bz_gw4 (i := 110) rfl rfl
theorem km_X7_77 : Cond.methodLink RX7 77 ⟨"java/lang/System", "arraycopy", "(Ljava/lang/Object;ILjava/lang/Object;II)V"⟩ ∈ GW := bz_gw3 (i := 108) rfl rfl
theorem km_X8_11 : Cond.methodLink RX8 11 yX4_init ∈ GW := bz_gw1 (i := 237) rfl rfl
theorem km_X8_28 : Cond.methodLink RX8 28 yX4_clear ∈ GW := bz_gw4 (i := 28) rfl rfl
theorem km_X8_31 : Cond.methodLink RX8 31 yX8_say ∈ GW := bz_gw4 (i := 29) rfl rfl
theorem km_X8_35 : Cond.methodLink RX8 35 yX8_ownerOf ∈ GW := bz_gw4 (i := 33) rfl rfl
theorem km_X8_39 : Cond.methodLink RX8 39 yX8_bodyOf ∈ GW := bz_gw4 (i := 36) rfl rfl
theorem km_X8_42 : Cond.methodLink RX8 42 yX4_add ∈ GW := bz_gw4 (i := 43) rfl rfl
theorem km_X8_46 : Cond.methodLink RX8 46 yX7_kindAbove ∈ GW := bz_gw4 (i := 42) rfl rfl
theorem km_X8_52 : Cond.methodLink RX8 52 yX8_sayPlain ∈ GW := bz_gw4 (i := 44) rfl rfl
theorem km_X8_56 : Cond.methodLink RX8 56 yX8_saySpecial ∈ GW := bz_gw4 (i := 48) rfl rfl
theorem km_X8_63 : Cond.methodLinkNest RX8 63 yX9_isPlace "BronzeDown" ∈ NW := bz_nw4 (i := 41) rfl rfl
theorem km_L_9 : Cond.methodLink "BronzeDownLaw" 9 yX9_init ∈ GW := bz_gw1 (i := 17) rfl rfl
theorem km_L_12 : Cond.methodLink "BronzeDownLaw" 12 yX10_init ∈ GW := bz_gw4 (i := 152) rfl rfl
theorem km_L_13 : Cond.methodLink "BronzeDownLaw" 13 yX9_season ∈ GW := bz_gw2 (i := 53) rfl rfl
theorem km_L_17 : Cond.methodLink "BronzeDownLaw" 17 yX10_season ∈ GW := bz_gw4 (i := 238) rfl rfl
theorem km_L_18 : Cond.methodLink "BronzeDownLaw" 18 yX9_ofSeason ∈ GW := bz_gw2 (i := 73) rfl rfl
theorem km_L_22 : Cond.methodLink "BronzeDownLaw" 22 yX10_ofSeason ∈ GW := bz_gw5 (i := 15) rfl rfl
theorem km_L_23 : Cond.methodLink "BronzeDownLaw" 23 yX9_figure ∈ GW := bz_gw2 (i := 77) rfl rfl
theorem km_L_26 : Cond.methodLink "BronzeDownLaw" 26 yX10_figure ∈ GW := bz_gw5 (i := 19) rfl rfl
theorem km_L_27 : Cond.methodLink "BronzeDownLaw" 27 yX9_ofFigure ∈ GW := bz_gw2 (i := 91) rfl rfl
theorem km_L_31 : Cond.methodLink "BronzeDownLaw" 31 yX10_ofFigure ∈ GW := bz_gw5 (i := 170) rfl rfl
theorem km_L_32 : Cond.methodLink "BronzeDownLaw" 32 yX9_step ∈ GW := bz_gw2 (i := 140) rfl rfl
theorem km_L_35 : Cond.methodLink "BronzeDownLaw" 35 yX10_step ∈ GW := bz_gw5 (i := 26) rfl rfl
theorem km_L_36 : Cond.methodLink "BronzeDownLaw" 36 yX9_ofStep ∈ GW := bz_gw2 (i := 148) rfl rfl
theorem km_L_39 : Cond.methodLink "BronzeDownLaw" 39 yX10_ofStep ∈ GW := bz_gw5 (i := 30) rfl rfl
theorem km_L_40 : Cond.methodLink "BronzeDownLaw" 40 yX9_trees ∈ GW := bz_gw2 (i := 157) rfl rfl
theorem km_L_43 : Cond.methodLink "BronzeDownLaw" 43 yX10_trees ∈ GW := bz_gw5 (i := 42) rfl rfl
theorem km_L_44 : Cond.methodLink "BronzeDownLaw" 44 yX9_visitor ∈ GW := bz_gw2 (i := 161) rfl rfl
theorem km_L_47 : Cond.methodLink "BronzeDownLaw" 47 yX10_visitor ∈ GW := bz_gw5 (i := 46) rfl rfl
theorem km_L_48 : Cond.methodLink "BronzeDownLaw" 48 yX9_ofVisitor ∈ GW := bz_gw2 (i := 170) rfl rfl
theorem km_L_51 : Cond.methodLink "BronzeDownLaw" 51 yX10_ofVisitor ∈ GW := bz_gw5 (i := 55) rfl rfl
theorem km_L_52 : Cond.methodLink "BronzeDownLaw" 52 yX9_change ∈ GW := bz_gw2 (i := 192) rfl rfl
theorem km_L_55 : Cond.methodLink "BronzeDownLaw" 55 yX10_change ∈ GW := bz_gw5 (i := 83) rfl rfl
theorem km_L_56 : Cond.methodLink "BronzeDownLaw" 56 yX9_become ∈ GW := bz_gw2 (i := 196) rfl rfl
theorem km_L_59 : Cond.methodLink "BronzeDownLaw" 59 yX10_become ∈ GW := bz_gw5 (i := 87) rfl rfl
theorem km_L_60 : Cond.methodLink "BronzeDownLaw" 60 yX9_as ∈ GW := bz_gw2 (i := 200) rfl rfl
theorem km_L_63 : Cond.methodLink "BronzeDownLaw" 63 yX10_as ∈ GW := bz_gw5 (i := 91) rfl rfl
theorem km_L_66 : Cond.methodLink "BronzeDownLaw" 66 yX9_feed ∈ GW := bz_gw2 (i := 214) rfl rfl
theorem km_L_70 : Cond.methodLink "BronzeDownLaw" 70 yX10_feed ∈ GW := bz_gw5 (i := 157) rfl rfl
theorem km_L_71 : Cond.methodLink "BronzeDownLaw" 71 yX9_text ∈ GW := bz_gw2 (i := 223) rfl rfl
theorem km_L_74 : Cond.methodLink "BronzeDownLaw" 74 yX10_text ∈ GW := bz_gw5 (i := 162) rfl rfl
theorem km_L_75 : Cond.methodLink "BronzeDownLaw" 75 yX9_law ∈ GW := bz_gw3 (i := 54) rfl rfl
theorem km_L_79 : Cond.methodLink "BronzeDownLaw" 79 yX10_law ∈ GW := bz_gw5 (i := 99) rfl rfl
theorem km_L_80 : Cond.methodLink "BronzeDownLaw" 80 yX9_years ∈ GW := bz_gw3 (i := 59) rfl rfl
theorem km_L_83 : Cond.methodLink "BronzeDownLaw" 83 yX10_years ∈ GW := bz_gw5 (i := 182) rfl rfl
theorem km_L_84 : Cond.methodLink "BronzeDownLaw" 84 yX9_loose ∈ GW := bz_gw3 (i := 77) rfl rfl
theorem km_L_87 : Cond.methodLink "BronzeDownLaw" 87 yX10_loose ∈ GW := bz_gw5 (i := 195) rfl rfl
theorem km_L_88 : Cond.methodLink "BronzeDownLaw" 88 yX9_then ∈ GW := bz_gw3 (i := 91) rfl rfl
theorem km_L_91 : Cond.methodLink "BronzeDownLaw" 91 yX10_then ∈ GW := bz_gw5 (i := 204) rfl rfl
theorem km_L_92 : Cond.methodLink "BronzeDownLaw" 92 yX9_falls ∈ GW := bz_gw3 (i := 110) rfl rfl
theorem km_L_96 : Cond.methodLink "BronzeDownLaw" 96 yX10_falls ∈ GW := bz_gw5 (i := 212) rfl rfl
theorem km_L_97 : Cond.methodLink "BronzeDownLaw" 97 yX9_wet ∈ GW := bz_gw3 (i := 115) rfl rfl
theorem km_L_100 : Cond.methodLink "BronzeDownLaw" 100 yX10_wet ∈ GW := bz_gw5 (i := 217) rfl rfl
theorem km_L_101 : Cond.methodLink "BronzeDownLaw" 101 yX9_loudFor ∈ GW := bz_gw3 (i := 119) rfl rfl
theorem km_L_104 : Cond.methodLink "BronzeDownLaw" 104 yX10_loudFor ∈ GW := bz_gw5 (i := 221) rfl rfl
theorem km_L_105 : Cond.methodLink "BronzeDownLaw" 105 yX9_everyFor ∈ GW := bz_gw3 (i := 123) rfl rfl
theorem km_L_108 : Cond.methodLink "BronzeDownLaw" 108 yX10_everyFor ∈ GW := bz_gw5 (i := 225) rfl rfl
theorem km_L_109 : Cond.methodLink "BronzeDownLaw" 109 yX9_needless ∈ GW := bz_gw3 (i := 127) rfl rfl
theorem km_L_112 : Cond.methodLink "BronzeDownLaw" 112 yX10_needless ∈ GW := bz_gw5 (i := 229) rfl rfl
theorem km_L_113 : Cond.methodLink "BronzeDownLaw" 113 yX9_wanted ∈ GW := bz_gw3 (i := 131) rfl rfl
theorem km_L_116 : Cond.methodLink "BronzeDownLaw" 116 yX10_wanted ∈ GW := bz_gw5 (i := 233) rfl rfl
theorem km_L_117 : Cond.methodLink "BronzeDownLaw" 117 yX9_which ∈ GW := bz_gw3 (i := 149) rfl rfl
theorem km_L_120 : Cond.methodLink "BronzeDownLaw" 120 yX10_which ∈ GW := bz_gw6 (i := 4) rfl rfl
theorem km_L_121 : Cond.methodLink "BronzeDownLaw" 121 yX9_stair ∈ GW := bz_gw3 (i := 153) rfl rfl
theorem km_L_124 : Cond.methodLink "BronzeDownLaw" 124 yX10_stair ∈ GW := bz_gw6 (i := 8) rfl rfl
theorem km_L_125 : Cond.methodLink "BronzeDownLaw" 125 yX9_exact ∈ GW := bz_gw3 (i := 177) rfl rfl
theorem km_L_128 : Cond.methodLink "BronzeDownLaw" 128 yX10_exact ∈ GW := bz_gw6 (i := 23) rfl rfl
theorem km_L_129 : Cond.methodLink "BronzeDownLaw" 129 yX9_house ∈ GW := bz_gw3 (i := 185) rfl rfl
theorem km_L_132 : Cond.methodLink "BronzeDownLaw" 132 yX10_house ∈ GW := bz_gw6 (i := 27) rfl rfl
theorem km_L_133 : Cond.methodLink "BronzeDownLaw" 133 yX9_power ∈ GW := bz_gw3 (i := 211) rfl rfl
theorem km_L_136 : Cond.methodLink "BronzeDownLaw" 136 yX10_power ∈ GW := bz_gw6 (i := 43) rfl rfl
theorem km_L_137 : Cond.methodLink "BronzeDownLaw" 137 yX9_gait ∈ GW := bz_gw3 (i := 233) rfl rfl
theorem km_L_140 : Cond.methodLink "BronzeDownLaw" 140 yX10_gait ∈ GW := bz_gw6 (i := 54) rfl rfl
theorem km_L_141 : Cond.methodLink "BronzeDownLaw" 141 yX9_odds ∈ GW := bz_gw4 (i := 9) rfl rfl
theorem km_L_144 : Cond.methodLink "BronzeDownLaw" 144 yX10_odds ∈ GW := bz_gw6 (i := 61) rfl rfl
theorem km_L_145 : Cond.methodLink "BronzeDownLaw" 145 yX9_seed ∈ GW := bz_gw4 (i := 16) rfl rfl
theorem km_L_148 : Cond.methodLink "BronzeDownLaw" 148 yX10_seed ∈ GW := bz_gw6 (i := 65) rfl rfl
theorem km_L_149 : Cond.methodLink "BronzeDownLaw" 149 yX9_voice ∈ GW := bz_gw4 (i := 20) rfl rfl
theorem km_L_152 : Cond.methodLink "BronzeDownLaw" 152 yX10_voice ∈ GW := bz_gw6 (i := 69) rfl rfl
theorem km_L_153 : Cond.methodLink "BronzeDownLaw" 153 yX9_trace ∈ GW := bz_gw4 (i := 52) rfl rfl
theorem km_L_156 : Cond.methodLink "BronzeDownLaw" 156 yX10_trace ∈ GW := bz_gw6 (i := 93) rfl rfl
theorem km_L_157 : Cond.methodLink "BronzeDownLaw" 157 yX9_sheet ∈ GW := bz_gw4 (i := 57) rfl rfl
theorem km_L_160 : Cond.methodLink "BronzeDownLaw" 160 yX10_sheet ∈ GW := bz_gw6 (i := 97) rfl rfl
theorem km_L_161 : Cond.methodLink "BronzeDownLaw" 161 yX9_put ∈ GW := bz_gw4 (i := 72) rfl rfl
theorem km_L_164 : Cond.methodLink "BronzeDownLaw" 164 yX10_put ∈ GW := bz_gw6 (i := 101) rfl rfl
theorem km_L_165 : Cond.methodLink "BronzeDownLaw" 165 yX9_move ∈ GW := bz_gw4 (i := 85) rfl rfl
theorem km_L_169 : Cond.methodLink "BronzeDownLaw" 169 yX10_move ∈ GW := bz_gw6 (i := 108) rfl rfl
theorem km_L_170 : Cond.methodLink "BronzeDownLaw" 170 yX9_talls ∈ GW := bz_gw4 (i := 91) rfl rfl
theorem km_L_173 : Cond.methodLink "BronzeDownLaw" 173 yX10_talls ∈ GW := bz_gw6 (i := 112) rfl rfl
theorem km_L_174 : Cond.methodLink "BronzeDownLaw" 174 yX9_judge ∈ GW := bz_gw4 (i := 100) rfl rfl
theorem km_L_177 : Cond.methodLink "BronzeDownLaw" 177 yX10_judge ∈ GW := bz_gw6 (i := 116) rfl rfl
theorem km_L_178 : Cond.methodLink "BronzeDownLaw" 178 yX9_image ∈ GW := bz_gw4 (i := 111) rfl rfl
theorem km_L_181 : Cond.methodLink "BronzeDownLaw" 181 yX10_image ∈ GW := bz_gw6 (i := 120) rfl rfl
theorem km_L_182 : Cond.methodLink "BronzeDownLaw" 182 yX9_restore ∈ GW := bz_gw4 (i := 125) rfl rfl
theorem km_L_185 : Cond.methodLink "BronzeDownLaw" 185 yX10_restore ∈ GW := bz_gw6 (i := 124) rfl rfl
theorem km_L_186 : Cond.methodLink "BronzeDownLaw" 186 yX9_tell ∈ GW := bz_gw4 (i := 129) rfl rfl
theorem km_L_189 : Cond.methodLink "BronzeDownLaw" 189 yX10_tell ∈ GW := bz_gw6 (i := 128) rfl rfl
theorem km_L_190 : Cond.methodLink "BronzeDownLaw" 190 yX9_check ∈ GW := bz_gw4 (i := 133) rfl rfl
theorem km_L_193 : Cond.methodLink "BronzeDownLaw" 193 yX10_check ∈ GW := bz_gw6 (i := 132) rfl rfl
theorem km_L_194 : Cond.methodLink "BronzeDownLaw" 194 yX9_count ∈ GW := bz_gw4 (i := 137) rfl rfl
theorem km_L_197 : Cond.methodLink "BronzeDownLaw" 197 yX10_count ∈ GW := bz_gw6 (i := 136) rfl rfl
theorem km_L_198 : Cond.methodLink "BronzeDownLaw" 198 yX9_told ∈ GW := bz_gw4 (i := 146) rfl rfl
theorem km_L_201 : Cond.methodLink "BronzeDownLaw" 201 yX10_told ∈ GW := bz_gw6 (i := 144) rfl rfl
theorem km_X10_51 : Cond.methodLink RX10 51 yX10_in ∈ GW := bz_gw5 (i := 2) rfl rfl
theorem km_X10_55 : Cond.methodLink RX10 55 yX10_becomes ∈ GW := bz_gw5 (i := 5) rfl rfl
theorem km_X10_60 : Cond.methodLink RX10 60 yX10_errs ∈ GW := bz_gw5 (i := 10) rfl rfl
theorem km_X10_64 : Cond.methodLink RX10 64 yX10_mostOf ∈ GW := bz_gw5 (i := 23) rfl rfl
theorem km_X10_67 : Cond.methodLink RX10 67 yX10_weight ∈ GW := bz_gw5 (i := 38) rfl rfl
theorem km_X10_71 : Cond.methodLink RX10 71 yX10_isGood ∈ GW := bz_gw5 (i := 34) rfl rfl
theorem km_X10_76 : Cond.methodLink RX10 76 yX10_puts ∈ GW := bz_gw5 (i := 51) rfl rfl
theorem km_X10_80 : Cond.methodLink RX10 80 yX10_isVisitor ∈ GW := bz_gw5 (i := 59) rfl rfl
theorem km_X10_83 : Cond.methodLink RX10 83 yX10_its ∈ GW := bz_gw5 (i := 63) rfl rfl
theorem km_X10_86 : Cond.methodLink RX10 86 yX10_keeps ∈ GW := bz_gw5 (i := 67) rfl rfl
theorem km_X10_89 : Cond.methodLink RX10 89 yX10_isComing ∈ GW := bz_gw5 (i := 75) rfl rfl
theorem km_X10_92 : Cond.methodLink RX10 92 yX10_above ∈ GW := bz_gw5 (i := 95) rfl rfl
theorem km_X10_109 : Cond.methodLink RX10 109 yX10_byteAt ∈ GW := bz_gw5 (i := 135) rfl rfl
theorem km_X10_112 : Cond.methodLink RX10 112 yX10_isDigit ∈ GW := bz_gw5 (i := 139) rfl rfl
theorem km_X10_115 : Cond.methodLink RX10 115 yX10_fails ∈ GW := bz_gw5 (i := 150) rfl rfl
theorem km_X10_127 : Cond.methodLink RX10 127 yX10_number ∈ GW := bz_gw5 (i := 142) rfl rfl
theorem km_X10_130 : Cond.methodLink RX10 130 yX10_named ∈ GW := bz_gw5 (i := 146) rfl rfl
theorem km_X10_136 : Cond.methodLink RX10 136 yX10_factor ∈ GW := bz_gw5 (i := 131) rfl rfl
theorem km_X10_139 : Cond.methodLink RX10 139 yX10_whole ∈ GW := bz_gw5 (i := 111) rfl rfl
theorem km_X10_142 : Cond.methodLink RX10 142 yX10_product ∈ GW := bz_gw5 (i := 127) rfl rfl
theorem km_X10_145 : Cond.methodLink RX10 145 yX10_sum ∈ GW := bz_gw5 (i := 123) rfl rfl
theorem km_X10_148 : Cond.methodLink RX10 148 yX10_compared ∈ GW := bz_gw5 (i := 119) rfl rfl
theorem km_X10_151 : Cond.methodLink RX10 151 yX10_both ∈ GW := bz_gw5 (i := 115) rfl rfl
theorem km_X10_154 : Cond.methodLink RX10 154 yX10_walks ∈ GW := bz_gw5 (i := 107) rfl rfl
theorem km_X10_158 : Cond.methodLink RX10 158 yX10_held ∈ GW := bz_gw5 (i := 154) rfl rfl
theorem km_X10_162 : Cond.methodLink RX10 162 yX10_lawOf ∈ GW := bz_gw5 (i := 103) rfl rfl
theorem km_X10_167 : Cond.methodLink RX10 167 yX10_moveAll ∈ GW := bz_gw5 (i := 166) rfl rfl
theorem km_X10_171 : Cond.methodLink RX10 171 yX10_rain ∈ GW := bz_gw5 (i := 79) rfl rfl
theorem km_X10_174 : Cond.methodLink RX10 174 yX10_heat ∈ GW := bz_gw5 (i := 71) rfl rfl
theorem km_X10_177 : Cond.methodLink RX10 177 yX10_yearns ∈ GW := bz_gw5 (i := 174) rfl rfl
theorem km_X10_180 : Cond.methodLink RX10 180 yX10_shifts ∈ GW := bz_gw5 (i := 178) rfl rfl
theorem km_X10_183 : Cond.methodLink RX10 183 yX10_oneYear ∈ GW := bz_gw5 (i := 191) rfl rfl
theorem km_X10_187 : Cond.methodLink RX10 187 yX10_passes ∈ GW := bz_gw5 (i := 187) rfl rfl
theorem km_X10_192 : Cond.methodLink RX10 192 yX10_drawn ∈ GW := bz_gw5 (i := 199) rfl rfl
theorem km_X10_195 : Cond.methodLink RX10 195 yX10_behind ∈ GW := bz_gw5 (i := 208) rfl rfl
theorem km_X10_199 : Cond.methodLink RX10 199 yX10_isSheet ∈ GW := bz_gw5 (i := 237) rfl rfl
theorem km_X10_202 : Cond.methodLink RX10 202 yX10_leansSo ∈ GW := bz_gw6 (i := 0) rfl rfl
theorem km_X10_205 : Cond.methodLink RX10 205 yX10_goodSet ∈ GW := bz_gw6 (i := 12) rfl rfl
theorem km_X10_208 : Cond.methodLink RX10 208 yX10_ones ∈ GW := bz_gw6 (i := 16) rfl rfl
theorem km_X10_211 : Cond.methodLink RX10 211 yX10_tallOf ∈ GW := bz_gw6 (i := 19) rfl rfl
theorem km_X10_214 : Cond.methodLink RX10 214 yX10_tree ∈ GW := bz_gw6 (i := 39) rfl rfl
theorem km_X10_217 : Cond.methodLink RX10 217 yX10_treesBy ∈ GW := bz_gw6 (i := 35) rfl rfl
theorem km_X10_220 : Cond.methodLink RX10 220 yX10_isThere ∈ GW := bz_gw6 (i := 31) rfl rfl
theorem km_X10_224 : Cond.methodLink RX10 224 yX10_loudOf ∈ GW := bz_gw6 (i := 47) rfl rfl
theorem km_X10_227 : Cond.methodLink RX10 227 yX10_orders ∈ GW := bz_gw6 (i := 51) rfl rfl
theorem km_X10_230 : Cond.methodLink RX10 230 yX10_stands ∈ GW := bz_gw6 (i := 58) rfl rfl
theorem km_X10_236 : Cond.methodLink RX10 236 yX10_ran ∈ GW := bz_gw6 (i := 77) rfl rfl
theorem km_X10_242 : Cond.methodLink RX10 242 yX10_callsIn ∈ GW := bz_gw6 (i := 73) rfl rfl
theorem km_X10_248 : Cond.methodLink RX10 248 yX10_nodsIn ∈ GW := bz_gw6 (i := 85) rfl rfl
theorem km_X10_254 : Cond.methodLink RX10 254 yX10_holdsIn ∈ GW := bz_gw6 (i := 81) rfl rfl
theorem km_X10_257 : Cond.methodLink RX10 257 yX10_tellsIn ∈ GW := bz_gw6 (i := 89) rfl rfl
theorem km_X10_260 : Cond.methodLink RX10 260 yX10_narrow ∈ GW := bz_gw6 (i := 105) rfl rfl
theorem km_X10_269 : Cond.methodLink RX10 269 yX10_sumOfTrees ∈ GW := bz_gw6 (i := 140) rfl rfl
theorem kc_X9_70 : Cond.constant RX9 70 (-1000000001) ∈ GW := bz_gw2 (i := 67) rfl rfl
theorem kc_X9_121 : Cond.constant RX9 121 (-1000000004) ∈ GW := bz_gw2 (i := 169) rfl rfl
theorem kc_X9_159 : Cond.constant RX9 159 (-1000000005) ∈ GW := bz_gw2 (i := 213) rfl rfl
theorem kc_X9_169 : Cond.constantLong RX9 169 (255) ∈ GW := bz_gw2 (i := 218) rfl rfl
theorem kc_X9_198 : Cond.constant RX9 198 (-1000000003) ∈ GW := bz_gw3 (i := 63) rfl rfl
theorem kc_X9_214 : Cond.constant RX9 214 (-1000000002) ∈ GW := bz_gw3 (i := 114) rfl rfl
theorem kc_X9_315 : Cond.constant RX9 315 (-1000000000) ∈ GW := bz_gw2 (i := 72) rfl rfl
theorem kc_X6_68 : Cond.constant RX6 68 (1103515245) ∈ GW := bz_gw3 (i := 89) rfl rfl
theorem kc_L_64 : Cond.constantLong "BronzeDownLaw" 64 (4294967295) ∈ GW := bz_gw6 (i := 148) rfl rfl
theorem kc_X10_50 : Cond.constant RX10 50 (-1000000000) ∈ GW := bz_gw5 (i := 14) rfl rfl
theorem kc_X10_59 : Cond.constant RX10 59 (-1000000001) ∈ GW := bz_gw5 (i := 9) rfl rfl
theorem kc_X10_75 : Cond.constant RX10 75 (-1000000004) ∈ GW := bz_gw5 (i := 50) rfl rfl
theorem kc_X10_95 : Cond.constant RX10 95 (-1000000005) ∈ GW := bz_gw5 (i := 98) rfl rfl
theorem kc_X10_165 : Cond.constantLong RX10 165 (255) ∈ GW := bz_gw5 (i := 161) rfl rfl
theorem kc_X10_186 : Cond.constant RX10 186 (-1000000003) ∈ GW := bz_gw5 (i := 186) rfl rfl
theorem kc_X10_191 : Cond.constant RX10 191 (1103515245) ∈ GW := bz_gw5 (i := 203) rfl rfl
theorem kc_X10_198 : Cond.constant RX10 198 (-1000000002) ∈ GW := bz_gw5 (i := 216) rfl rfl
theorem kc_JI_265 : Cond.constant "java/lang/Integer" 265 (1431655765) ∈ GW := bz_gw3 (i := 169) rfl rfl
theorem kc_JI_266 : Cond.constant "java/lang/Integer" 266 (858993459) ∈ GW := bz_gw3 (i := 170) rfl rfl
theorem kc_JI_267 : Cond.constant "java/lang/Integer" 267 (252645135) ∈ GW := bz_gw3 (i := 171) rfl rfl
theorem kk_X9_init : Cond.code yX9_init cX9_init 2 none ∈ GW := bz_gw1 (i := 19) rfl rfl
theorem ki_X9_init : Cond.instanceMethod yX9_init ∈ GW := bz_gw1 (i := 18) rfl rfl
theorem kk_X9_season : Cond.code yX9_season cX9_season 6 (some .int) ∈ GW := bz_gw2 (i := 56) rfl rfl
theorem ki_X9_season : Cond.instanceMethod yX9_season ∈ GW := bz_gw2 (i := 54) rfl rfl
theorem kl_X9_season : Cond.selects RX9 yX9_season yX9_season ∈ GW := bz_gw2 (i := 55) rfl rfl
theorem kk_X9_ofSeason : Cond.code yX9_ofSeason cX9_ofSeason 4 (some .int) ∈ GW := bz_gw2 (i := 76) rfl rfl
theorem ki_X9_ofSeason : Cond.instanceMethod yX9_ofSeason ∈ GW := bz_gw2 (i := 74) rfl rfl
theorem kl_X9_ofSeason : Cond.selects RX9 yX9_ofSeason yX9_ofSeason ∈ GW := bz_gw2 (i := 75) rfl rfl
theorem kk_X9_figure : Cond.code yX9_figure cX9_figure 4 (some .int) ∈ GW := bz_gw2 (i := 80) rfl rfl
theorem ki_X9_figure : Cond.instanceMethod yX9_figure ∈ GW := bz_gw2 (i := 78) rfl rfl
theorem kl_X9_figure : Cond.selects RX9 yX9_figure yX9_figure ∈ GW := bz_gw2 (i := 79) rfl rfl
theorem kk_X9_ofFigure : Cond.code yX9_ofFigure cX9_ofFigure 2 (some .int) ∈ GW := bz_gw2 (i := 94) rfl rfl
theorem ki_X9_ofFigure : Cond.instanceMethod yX9_ofFigure ∈ GW := bz_gw2 (i := 92) rfl rfl
theorem kl_X9_ofFigure : Cond.selects RX9 yX9_ofFigure yX9_ofFigure ∈ GW := bz_gw2 (i := 93) rfl rfl
theorem kk_X9_step : Cond.code yX9_step cX9_step 6 (some .int) ∈ GW := bz_gw2 (i := 143) rfl rfl
theorem ki_X9_step : Cond.instanceMethod yX9_step ∈ GW := bz_gw2 (i := 141) rfl rfl
theorem kl_X9_step : Cond.selects RX9 yX9_step yX9_step ∈ GW := bz_gw2 (i := 142) rfl rfl
theorem kk_X9_ofStep : Cond.code yX9_ofStep cX9_ofStep 4 (some .int) ∈ GW := bz_gw2 (i := 151) rfl rfl
theorem ki_X9_ofStep : Cond.instanceMethod yX9_ofStep ∈ GW := bz_gw2 (i := 149) rfl rfl
theorem kl_X9_ofStep : Cond.selects RX9 yX9_ofStep yX9_ofStep ∈ GW := bz_gw2 (i := 150) rfl rfl
theorem kk_X9_trees : Cond.code yX9_trees cX9_trees 5 (some .int) ∈ GW := bz_gw2 (i := 160) rfl rfl
theorem ki_X9_trees : Cond.instanceMethod yX9_trees ∈ GW := bz_gw2 (i := 158) rfl rfl
theorem kl_X9_trees : Cond.selects RX9 yX9_trees yX9_trees ∈ GW := bz_gw2 (i := 159) rfl rfl
theorem kk_X9_visitor : Cond.code yX9_visitor cX9_visitor 5 (some .int) ∈ GW := bz_gw2 (i := 164) rfl rfl
theorem ki_X9_visitor : Cond.instanceMethod yX9_visitor ∈ GW := bz_gw2 (i := 162) rfl rfl
theorem kl_X9_visitor : Cond.selects RX9 yX9_visitor yX9_visitor ∈ GW := bz_gw2 (i := 163) rfl rfl
theorem kk_X9_ofVisitor : Cond.code yX9_ofVisitor cX9_ofVisitor 4 (some .int) ∈ GW := bz_gw2 (i := 173) rfl rfl
theorem ki_X9_ofVisitor : Cond.instanceMethod yX9_ofVisitor ∈ GW := bz_gw2 (i := 171) rfl rfl
theorem kl_X9_ofVisitor : Cond.selects RX9 yX9_ofVisitor yX9_ofVisitor ∈ GW := bz_gw2 (i := 172) rfl rfl
theorem kk_X9_change : Cond.code yX9_change cX9_change 8 (some .int) ∈ GW := bz_gw2 (i := 195) rfl rfl
theorem ki_X9_change : Cond.instanceMethod yX9_change ∈ GW := bz_gw2 (i := 193) rfl rfl
theorem kl_X9_change : Cond.selects RX9 yX9_change yX9_change ∈ GW := bz_gw2 (i := 194) rfl rfl
theorem kk_X9_become : Cond.code yX9_become cX9_become 5 (some .int) ∈ GW := bz_gw2 (i := 199) rfl rfl
theorem ki_X9_become : Cond.instanceMethod yX9_become ∈ GW := bz_gw2 (i := 197) rfl rfl
theorem kl_X9_become : Cond.selects RX9 yX9_become yX9_become ∈ GW := bz_gw2 (i := 198) rfl rfl
theorem kk_X9_as : Cond.code yX9_as cX9_as 4 (some .int) ∈ GW := bz_gw2 (i := 203) rfl rfl
theorem ki_X9_as : Cond.instanceMethod yX9_as ∈ GW := bz_gw2 (i := 201) rfl rfl
theorem kl_X9_as : Cond.selects RX9 yX9_as yX9_as ∈ GW := bz_gw2 (i := 202) rfl rfl
theorem kk_X9_feed : Cond.code yX9_feed cX9_feed 5 (some .int) ∈ GW := bz_gw2 (i := 217) rfl rfl
theorem ki_X9_feed : Cond.instanceMethod yX9_feed ∈ GW := bz_gw2 (i := 215) rfl rfl
theorem kl_X9_feed : Cond.selects RX9 yX9_feed yX9_feed ∈ GW := bz_gw2 (i := 216) rfl rfl
theorem kk_X9_text : Cond.code yX9_text cX9_text 3 (some .int) ∈ GW := bz_gw2 (i := 226) rfl rfl
theorem ki_X9_text : Cond.instanceMethod yX9_text ∈ GW := bz_gw2 (i := 224) rfl rfl
theorem kl_X9_text : Cond.selects RX9 yX9_text yX9_text ∈ GW := bz_gw2 (i := 225) rfl rfl
theorem kk_X9_law : Cond.code yX9_law cX9_law 5 (some .int) ∈ GW := bz_gw3 (i := 57) rfl rfl
theorem ki_X9_law : Cond.instanceMethod yX9_law ∈ GW := bz_gw3 (i := 55) rfl rfl
theorem kl_X9_law : Cond.selects RX9 yX9_law yX9_law ∈ GW := bz_gw3 (i := 56) rfl rfl
theorem kk_X9_years : Cond.code yX9_years cX9_years 2 (some .int) ∈ GW := bz_gw3 (i := 62) rfl rfl
theorem ki_X9_years : Cond.instanceMethod yX9_years ∈ GW := bz_gw3 (i := 60) rfl rfl
theorem kl_X9_years : Cond.selects RX9 yX9_years yX9_years ∈ GW := bz_gw3 (i := 61) rfl rfl
theorem kk_X9_loose : Cond.code yX9_loose cX9_loose 3 (some .int) ∈ GW := bz_gw3 (i := 80) rfl rfl
theorem ki_X9_loose : Cond.instanceMethod yX9_loose ∈ GW := bz_gw3 (i := 78) rfl rfl
theorem kl_X9_loose : Cond.selects RX9 yX9_loose yX9_loose ∈ GW := bz_gw3 (i := 79) rfl rfl
theorem kk_X9_then : Cond.code yX9_then cX9_then 3 (some .int) ∈ GW := bz_gw3 (i := 94) rfl rfl
theorem ki_X9_then : Cond.instanceMethod yX9_then ∈ GW := bz_gw3 (i := 92) rfl rfl
theorem kl_X9_then : Cond.selects RX9 yX9_then yX9_then ∈ GW := bz_gw3 (i := 93) rfl rfl
theorem kk_X9_falls : Cond.code yX9_falls cX9_falls 2 (some .int) ∈ GW := bz_gw3 (i := 113) rfl rfl
theorem ki_X9_falls : Cond.instanceMethod yX9_falls ∈ GW := bz_gw3 (i := 111) rfl rfl
theorem kl_X9_falls : Cond.selects RX9 yX9_falls yX9_falls ∈ GW := bz_gw3 (i := 112) rfl rfl
theorem kk_X9_wet : Cond.code yX9_wet cX9_wet 5 (some .int) ∈ GW := bz_gw3 (i := 118) rfl rfl
theorem ki_X9_wet : Cond.instanceMethod yX9_wet ∈ GW := bz_gw3 (i := 116) rfl rfl
theorem kl_X9_wet : Cond.selects RX9 yX9_wet yX9_wet ∈ GW := bz_gw3 (i := 117) rfl rfl
theorem kk_X9_loudFor : Cond.code yX9_loudFor cX9_loudFor 5 (some .int) ∈ GW := bz_gw3 (i := 122) rfl rfl
theorem ki_X9_loudFor : Cond.instanceMethod yX9_loudFor ∈ GW := bz_gw3 (i := 120) rfl rfl
theorem kl_X9_loudFor : Cond.selects RX9 yX9_loudFor yX9_loudFor ∈ GW := bz_gw3 (i := 121) rfl rfl
theorem kk_X9_everyFor : Cond.code yX9_everyFor cX9_everyFor 7 (some .int) ∈ GW := bz_gw3 (i := 126) rfl rfl
theorem ki_X9_everyFor : Cond.instanceMethod yX9_everyFor ∈ GW := bz_gw3 (i := 124) rfl rfl
theorem kl_X9_everyFor : Cond.selects RX9 yX9_everyFor yX9_everyFor ∈ GW := bz_gw3 (i := 125) rfl rfl
theorem kk_X9_needless : Cond.code yX9_needless cX9_needless 5 (some .int) ∈ GW := bz_gw3 (i := 130) rfl rfl
theorem ki_X9_needless : Cond.instanceMethod yX9_needless ∈ GW := bz_gw3 (i := 128) rfl rfl
theorem kl_X9_needless : Cond.selects RX9 yX9_needless yX9_needless ∈ GW := bz_gw3 (i := 129) rfl rfl
theorem kk_X9_wanted : Cond.code yX9_wanted cX9_wanted 7 (some .int) ∈ GW := bz_gw3 (i := 134) rfl rfl
theorem ki_X9_wanted : Cond.instanceMethod yX9_wanted ∈ GW := bz_gw3 (i := 132) rfl rfl
theorem kl_X9_wanted : Cond.selects RX9 yX9_wanted yX9_wanted ∈ GW := bz_gw3 (i := 133) rfl rfl
theorem kk_X9_which : Cond.code yX9_which cX9_which 6 (some .int) ∈ GW := bz_gw3 (i := 152) rfl rfl
theorem ki_X9_which : Cond.instanceMethod yX9_which ∈ GW := bz_gw3 (i := 150) rfl rfl
theorem kl_X9_which : Cond.selects RX9 yX9_which yX9_which ∈ GW := bz_gw3 (i := 151) rfl rfl
theorem kk_X9_stair : Cond.code yX9_stair cX9_stair 3 (some .int) ∈ GW := bz_gw3 (i := 156) rfl rfl
theorem ki_X9_stair : Cond.instanceMethod yX9_stair ∈ GW := bz_gw3 (i := 154) rfl rfl
theorem kl_X9_stair : Cond.selects RX9 yX9_stair yX9_stair ∈ GW := bz_gw3 (i := 155) rfl rfl
theorem kk_X9_exact : Cond.code yX9_exact cX9_exact 1 (some .int) ∈ GW := bz_gw3 (i := 180) rfl rfl
theorem ki_X9_exact : Cond.instanceMethod yX9_exact ∈ GW := bz_gw3 (i := 178) rfl rfl
theorem kl_X9_exact : Cond.selects RX9 yX9_exact yX9_exact ∈ GW := bz_gw3 (i := 179) rfl rfl
theorem kk_X9_house : Cond.code yX9_house cX9_house 7 (some .int) ∈ GW := bz_gw3 (i := 188) rfl rfl
theorem ki_X9_house : Cond.instanceMethod yX9_house ∈ GW := bz_gw3 (i := 186) rfl rfl
theorem kl_X9_house : Cond.selects RX9 yX9_house yX9_house ∈ GW := bz_gw3 (i := 187) rfl rfl
theorem kk_X9_power : Cond.code yX9_power cX9_power 3 (some .int) ∈ GW := bz_gw3 (i := 214) rfl rfl
theorem ki_X9_power : Cond.instanceMethod yX9_power ∈ GW := bz_gw3 (i := 212) rfl rfl
theorem kl_X9_power : Cond.selects RX9 yX9_power yX9_power ∈ GW := bz_gw3 (i := 213) rfl rfl
theorem kk_X9_gait : Cond.code yX9_gait cX9_gait 2 (some .int) ∈ GW := bz_gw3 (i := 236) rfl rfl
theorem ki_X9_gait : Cond.instanceMethod yX9_gait ∈ GW := bz_gw3 (i := 234) rfl rfl
theorem kl_X9_gait : Cond.selects RX9 yX9_gait yX9_gait ∈ GW := bz_gw3 (i := 235) rfl rfl
theorem kk_X9_odds : Cond.code yX9_odds cX9_odds 6 (some .int) ∈ GW := bz_gw4 (i := 12) rfl rfl
theorem ki_X9_odds : Cond.instanceMethod yX9_odds ∈ GW := bz_gw4 (i := 10) rfl rfl
theorem kl_X9_odds : Cond.selects RX9 yX9_odds yX9_odds ∈ GW := bz_gw4 (i := 11) rfl rfl
theorem kk_X9_seed : Cond.code yX9_seed cX9_seed 3 (some .int) ∈ GW := bz_gw4 (i := 19) rfl rfl
theorem ki_X9_seed : Cond.instanceMethod yX9_seed ∈ GW := bz_gw4 (i := 17) rfl rfl
theorem kl_X9_seed : Cond.selects RX9 yX9_seed yX9_seed ∈ GW := bz_gw4 (i := 18) rfl rfl
theorem kk_X9_voice : Cond.code yX9_voice cX9_voice 5 (some .int) ∈ GW := bz_gw4 (i := 23) rfl rfl
theorem ki_X9_voice : Cond.instanceMethod yX9_voice ∈ GW := bz_gw4 (i := 21) rfl rfl
theorem kl_X9_voice : Cond.selects RX9 yX9_voice yX9_voice ∈ GW := bz_gw4 (i := 22) rfl rfl
theorem kk_X9_trace : Cond.code yX9_trace cX9_trace 2 (some .int) ∈ GW := bz_gw4 (i := 55) rfl rfl
theorem ki_X9_trace : Cond.instanceMethod yX9_trace ∈ GW := bz_gw4 (i := 53) rfl rfl
theorem kl_X9_trace : Cond.selects RX9 yX9_trace yX9_trace ∈ GW := bz_gw4 (i := 54) rfl rfl
theorem kk_X9_sheet : Cond.code yX9_sheet cX9_sheet 5 (some .int) ∈ GW := bz_gw4 (i := 60) rfl rfl
theorem ki_X9_sheet : Cond.instanceMethod yX9_sheet ∈ GW := bz_gw4 (i := 58) rfl rfl
theorem kl_X9_sheet : Cond.selects RX9 yX9_sheet yX9_sheet ∈ GW := bz_gw4 (i := 59) rfl rfl
theorem kk_X9_put : Cond.code yX9_put cX9_put 5 (some .int) ∈ GW := bz_gw4 (i := 75) rfl rfl
theorem ki_X9_put : Cond.instanceMethod yX9_put ∈ GW := bz_gw4 (i := 73) rfl rfl
theorem kl_X9_put : Cond.selects RX9 yX9_put yX9_put ∈ GW := bz_gw4 (i := 74) rfl rfl
theorem kk_X9_move : Cond.code yX9_move cX9_move 8 (some .int) ∈ GW := bz_gw4 (i := 88) rfl rfl
theorem ki_X9_move : Cond.instanceMethod yX9_move ∈ GW := bz_gw4 (i := 86) rfl rfl
theorem kl_X9_move : Cond.selects RX9 yX9_move yX9_move ∈ GW := bz_gw4 (i := 87) rfl rfl
theorem kk_X9_talls : Cond.code yX9_talls cX9_talls 3 (some .int) ∈ GW := bz_gw4 (i := 94) rfl rfl
theorem ki_X9_talls : Cond.instanceMethod yX9_talls ∈ GW := bz_gw4 (i := 92) rfl rfl
theorem kl_X9_talls : Cond.selects RX9 yX9_talls yX9_talls ∈ GW := bz_gw4 (i := 93) rfl rfl
theorem kk_X9_judge : Cond.code yX9_judge cX9_judge 3 (some .int) ∈ GW := bz_gw4 (i := 103) rfl rfl
theorem ki_X9_judge : Cond.instanceMethod yX9_judge ∈ GW := bz_gw4 (i := 101) rfl rfl
theorem kl_X9_judge : Cond.selects RX9 yX9_judge yX9_judge ∈ GW := bz_gw4 (i := 102) rfl rfl
theorem kk_X9_image : Cond.code yX9_image cX9_image 1 (some .int) ∈ GW := bz_gw4 (i := 114) rfl rfl
theorem ki_X9_image : Cond.instanceMethod yX9_image ∈ GW := bz_gw4 (i := 112) rfl rfl
theorem kl_X9_image : Cond.selects RX9 yX9_image yX9_image ∈ GW := bz_gw4 (i := 113) rfl rfl
theorem kk_X9_restore : Cond.code yX9_restore cX9_restore 1 (some .int) ∈ GW := bz_gw4 (i := 128) rfl rfl
theorem ki_X9_restore : Cond.instanceMethod yX9_restore ∈ GW := bz_gw4 (i := 126) rfl rfl
theorem kl_X9_restore : Cond.selects RX9 yX9_restore yX9_restore ∈ GW := bz_gw4 (i := 127) rfl rfl
theorem kk_X9_tell : Cond.code yX9_tell cX9_tell 2 (some .int) ∈ GW := bz_gw4 (i := 132) rfl rfl
theorem ki_X9_tell : Cond.instanceMethod yX9_tell ∈ GW := bz_gw4 (i := 130) rfl rfl
theorem kl_X9_tell : Cond.selects RX9 yX9_tell yX9_tell ∈ GW := bz_gw4 (i := 131) rfl rfl
theorem kk_X9_check : Cond.code yX9_check cX9_check 2 (some .int) ∈ GW := bz_gw4 (i := 136) rfl rfl
theorem ki_X9_check : Cond.instanceMethod yX9_check ∈ GW := bz_gw4 (i := 134) rfl rfl
theorem kl_X9_check : Cond.selects RX9 yX9_check yX9_check ∈ GW := bz_gw4 (i := 135) rfl rfl
theorem kk_X9_count : Cond.code yX9_count cX9_count 2 (some .int) ∈ GW := bz_gw4 (i := 140) rfl rfl
theorem ki_X9_count : Cond.instanceMethod yX9_count ∈ GW := bz_gw4 (i := 138) rfl rfl
theorem kl_X9_count : Cond.selects RX9 yX9_count yX9_count ∈ GW := bz_gw4 (i := 139) rfl rfl
theorem kk_X9_told : Cond.code yX9_told cX9_told 2 (some .int) ∈ GW := bz_gw4 (i := 149) rfl rfl
theorem ki_X9_told : Cond.instanceMethod yX9_told ∈ GW := bz_gw4 (i := 147) rfl rfl
theorem kl_X9_told : Cond.selects RX9 yX9_told yX9_told ∈ GW := bz_gw4 (i := 148) rfl rfl
theorem kk_X9_fails : Cond.code yX9_fails cX9_fails 3 (some .int) ∈ GW := bz_gw2 (i := 71) rfl rfl
theorem ki_X9_fails : Cond.instanceMethod yX9_fails ∈ GW := bz_gw2 (i := 70) rfl rfl
theorem kl_X9_fails : Cond.selects RX9 yX9_fails yX9_fails ∈ GW := bz_gw0 (i := 0) rfl rfl
theorem kk_X9_within : Cond.code yX9_within cX9_within 3 (some .boolean) ∈ GW := bz_gw2 (i := 66) rfl rfl
theorem ks_X9_within : Cond.static yX9_within ∈ GW := bz_gw2 (i := 65) rfl rfl
theorem kk_X9_isPlace : Cond.code yX9_isPlace cX9_isPlace 2 (some .boolean) ∈ GW := bz_gw2 (i := 63) rfl rfl
theorem ks_X9_isPlace : Cond.static yX9_isPlace ∈ GW := bz_gw2 (i := 62) rfl rfl
theorem kk_X9_inLowestTerms : Cond.code yX9_inLowestTerms cX9_inLowestTerms 4 (some .int) ∈ GW := bz_gw4 (i := 15) rfl rfl
theorem ks_X9_inLowestTerms : Cond.static yX9_inLowestTerms ∈ GW := bz_gw4 (i := 14) rfl rfl
theorem kk_X9_sheetOf : Cond.code yX9_sheetOf cX9_sheetOf 2 (some (.object "BronzeDown$Sheet")) ∈ GW := bz_gw3 (i := 138) rfl rfl
theorem ki_X9_sheetOf : Cond.instanceMethod yX9_sheetOf ∈ GW := bz_gw3 (i := 137) rfl rfl
theorem kl_X9_sheetOf : Cond.selects RX9 yX9_sheetOf yX9_sheetOf ∈ GW := bz_gw0 (i := 10) rfl rfl
theorem kk_X9_thinkAfresh : Cond.code yX9_thinkAfresh cX9_thinkAfresh 1 none ∈ GW := bz_gw3 (i := 98) rfl rfl
theorem ki_X9_thinkAfresh : Cond.instanceMethod yX9_thinkAfresh ∈ GW := bz_gw3 (i := 97) rfl rfl
theorem kl_X9_thinkAfresh : Cond.selects RX9 yX9_thinkAfresh yX9_thinkAfresh ∈ GW := bz_gw0 (i := 9) rfl rfl
theorem kk_X9_firstUnlike : Cond.code yX9_firstUnlike cX9_firstUnlike 3 (some .int) ∈ GW := bz_gw3 (i := 146) rfl rfl
theorem ki_X9_firstUnlike : Cond.instanceMethod yX9_firstUnlike ∈ GW := bz_gw3 (i := 145) rfl rfl
theorem kl_X9_firstUnlike : Cond.selects RX9 yX9_firstUnlike yX9_firstUnlike ∈ GW := bz_gw0 (i := 11) rfl rfl
theorem kk_X10_init : Cond.code yX10_init cX10_init 2 none ∈ GW := bz_gw4 (i := 154) rfl rfl
theorem ki_X10_init : Cond.instanceMethod yX10_init ∈ GW := bz_gw4 (i := 153) rfl rfl
theorem kk_X10_in : Cond.code yX10_in cX10_in 3 (some .boolean) ∈ GW := bz_gw5 (i := 4) rfl rfl
theorem ks_X10_in : Cond.static yX10_in ∈ GW := bz_gw5 (i := 3) rfl rfl
theorem kk_X10_errs : Cond.code yX10_errs cX10_errs 2 (some .int) ∈ GW := bz_gw5 (i := 13) rfl rfl
theorem ki_X10_errs : Cond.instanceMethod yX10_errs ∈ GW := bz_gw5 (i := 12) rfl rfl
theorem kl_X10_errs : Cond.selects RX10 yX10_errs yX10_errs ∈ GW := bz_gw0 (i := 24) rfl rfl
theorem kk_X10_held : Cond.code yX10_held cX10_held 3 (some .int) ∈ GW := bz_gw5 (i := 156) rfl rfl
theorem ks_X10_held : Cond.static yX10_held ∈ GW := bz_gw5 (i := 155) rfl rfl
theorem kk_X10_moveAll : Cond.code yX10_moveAll cX10_moveAll 4 none ∈ GW := bz_gw5 (i := 169) rfl rfl
theorem ki_X10_moveAll : Cond.instanceMethod yX10_moveAll ∈ GW := bz_gw5 (i := 168) rfl rfl
theorem kl_X10_moveAll : Cond.selects RX10 yX10_moveAll yX10_moveAll ∈ GW := bz_gw0 (i := 46) rfl rfl
theorem kk_X10_ones : Cond.code yX10_ones cX10_ones 3 (some .int) ∈ GW := bz_gw6 (i := 18) rfl rfl
theorem ks_X10_ones : Cond.static yX10_ones ∈ GW := bz_gw6 (i := 17) rfl rfl
theorem kk_X10_its : Cond.code yX10_its cX10_its 3 (some .int) ∈ GW := bz_gw5 (i := 66) rfl rfl
theorem ki_X10_its : Cond.instanceMethod yX10_its ∈ GW := bz_gw5 (i := 65) rfl rfl
theorem kl_X10_its : Cond.selects RX10 yX10_its yX10_its ∈ GW := bz_gw0 (i := 29) rfl rfl
theorem kk_X10_puts : Cond.code yX10_puts cX10_puts 4 none ∈ GW := bz_gw5 (i := 54) rfl rfl
theorem ki_X10_puts : Cond.instanceMethod yX10_puts ∈ GW := bz_gw5 (i := 53) rfl rfl
theorem kl_X10_puts : Cond.selects RX10 yX10_puts yX10_puts ∈ GW := bz_gw0 (i := 27) rfl rfl
theorem kk_X10_isVisitor : Cond.code yX10_isVisitor cX10_isVisitor 2 (some .boolean) ∈ GW := bz_gw5 (i := 62) rfl rfl
theorem ki_X10_isVisitor : Cond.instanceMethod yX10_isVisitor ∈ GW := bz_gw5 (i := 61) rfl rfl
theorem kl_X10_isVisitor : Cond.selects RX10 yX10_isVisitor yX10_isVisitor ∈ GW := bz_gw0 (i := 28) rfl rfl
theorem kk_X10_becomes : Cond.code yX10_becomes cX10_becomes 4 (some .int) ∈ GW := bz_gw5 (i := 8) rfl rfl
theorem ki_X10_becomes : Cond.instanceMethod yX10_becomes ∈ GW := bz_gw5 (i := 7) rfl rfl
theorem kl_X10_becomes : Cond.selects RX10 yX10_becomes yX10_becomes ∈ GW := bz_gw0 (i := 23) rfl rfl
theorem kk_X10_season : Cond.code yX10_season cX10_season 4 (some .int) ∈ GW := bz_gw5 (i := 1) rfl rfl
theorem ki_X10_season : Cond.instanceMethod yX10_season ∈ GW := bz_gw4 (i := 239) rfl rfl
theorem kl_X10_season : Cond.selects RX10 yX10_season yX10_season ∈ GW := bz_gw5 (i := 0) rfl rfl
theorem kk_X10_ofSeason : Cond.code yX10_ofSeason cX10_ofSeason 3 (some .int) ∈ GW := bz_gw5 (i := 18) rfl rfl
theorem ki_X10_ofSeason : Cond.instanceMethod yX10_ofSeason ∈ GW := bz_gw5 (i := 16) rfl rfl
theorem kl_X10_ofSeason : Cond.selects RX10 yX10_ofSeason yX10_ofSeason ∈ GW := bz_gw5 (i := 17) rfl rfl
theorem kk_X10_mostOf : Cond.code yX10_mostOf cX10_mostOf 1 (some .int) ∈ GW := bz_gw5 (i := 25) rfl rfl
theorem ks_X10_mostOf : Cond.static yX10_mostOf ∈ GW := bz_gw5 (i := 24) rfl rfl
theorem kk_X10_figure : Cond.code yX10_figure cX10_figure 3 (some .int) ∈ GW := bz_gw5 (i := 22) rfl rfl
theorem ki_X10_figure : Cond.instanceMethod yX10_figure ∈ GW := bz_gw5 (i := 20) rfl rfl
theorem kl_X10_figure : Cond.selects RX10 yX10_figure yX10_figure ∈ GW := bz_gw5 (i := 21) rfl rfl
theorem kk_X10_weight : Cond.code yX10_weight cX10_weight 1 (some .int) ∈ GW := bz_gw5 (i := 41) rfl rfl
theorem ki_X10_weight : Cond.instanceMethod yX10_weight ∈ GW := bz_gw5 (i := 40) rfl rfl
theorem kl_X10_weight : Cond.selects RX10 yX10_weight yX10_weight ∈ GW := bz_gw0 (i := 26) rfl rfl
theorem kk_X10_isGood : Cond.code yX10_isGood cX10_isGood 2 (some .boolean) ∈ GW := bz_gw5 (i := 37) rfl rfl
theorem ki_X10_isGood : Cond.instanceMethod yX10_isGood ∈ GW := bz_gw5 (i := 36) rfl rfl
theorem kl_X10_isGood : Cond.selects RX10 yX10_isGood yX10_isGood ∈ GW := bz_gw0 (i := 25) rfl rfl
theorem kk_X10_step : Cond.code yX10_step cX10_step 4 (some .int) ∈ GW := bz_gw5 (i := 29) rfl rfl
theorem ki_X10_step : Cond.instanceMethod yX10_step ∈ GW := bz_gw5 (i := 27) rfl rfl
theorem kl_X10_step : Cond.selects RX10 yX10_step yX10_step ∈ GW := bz_gw5 (i := 28) rfl rfl
theorem kk_X10_ofStep : Cond.code yX10_ofStep cX10_ofStep 3 (some .int) ∈ GW := bz_gw5 (i := 33) rfl rfl
theorem ki_X10_ofStep : Cond.instanceMethod yX10_ofStep ∈ GW := bz_gw5 (i := 31) rfl rfl
theorem kl_X10_ofStep : Cond.selects RX10 yX10_ofStep yX10_ofStep ∈ GW := bz_gw5 (i := 32) rfl rfl
theorem kk_X10_trees : Cond.code yX10_trees cX10_trees 3 (some .int) ∈ GW := bz_gw5 (i := 45) rfl rfl
theorem ki_X10_trees : Cond.instanceMethod yX10_trees ∈ GW := bz_gw5 (i := 43) rfl rfl
theorem kl_X10_trees : Cond.selects RX10 yX10_trees yX10_trees ∈ GW := bz_gw5 (i := 44) rfl rfl
theorem kk_X10_visitor : Cond.code yX10_visitor cX10_visitor 5 (some .int) ∈ GW := bz_gw5 (i := 49) rfl rfl
theorem ki_X10_visitor : Cond.instanceMethod yX10_visitor ∈ GW := bz_gw5 (i := 47) rfl rfl
theorem kl_X10_visitor : Cond.selects RX10 yX10_visitor yX10_visitor ∈ GW := bz_gw5 (i := 48) rfl rfl
theorem kk_X10_ofVisitor : Cond.code yX10_ofVisitor cX10_ofVisitor 3 (some .int) ∈ GW := bz_gw5 (i := 58) rfl rfl
theorem ki_X10_ofVisitor : Cond.instanceMethod yX10_ofVisitor ∈ GW := bz_gw5 (i := 56) rfl rfl
theorem kl_X10_ofVisitor : Cond.selects RX10 yX10_ofVisitor yX10_ofVisitor ∈ GW := bz_gw5 (i := 57) rfl rfl
theorem kk_X10_change : Cond.code yX10_change cX10_change 5 (some .int) ∈ GW := bz_gw5 (i := 86) rfl rfl
theorem ki_X10_change : Cond.instanceMethod yX10_change ∈ GW := bz_gw5 (i := 84) rfl rfl
theorem kl_X10_change : Cond.selects RX10 yX10_change yX10_change ∈ GW := bz_gw5 (i := 85) rfl rfl
theorem kk_X10_become : Cond.code yX10_become cX10_become 3 (some .int) ∈ GW := bz_gw5 (i := 90) rfl rfl
theorem ki_X10_become : Cond.instanceMethod yX10_become ∈ GW := bz_gw5 (i := 88) rfl rfl
theorem kl_X10_become : Cond.selects RX10 yX10_become yX10_become ∈ GW := bz_gw5 (i := 89) rfl rfl
theorem kk_X10_above : Cond.code yX10_above cX10_above 1 (some .int) ∈ GW := bz_gw5 (i := 97) rfl rfl
theorem ks_X10_above : Cond.static yX10_above ∈ GW := bz_gw5 (i := 96) rfl rfl
theorem kk_X10_as : Cond.code yX10_as cX10_as 4 (some .int) ∈ GW := bz_gw5 (i := 94) rfl rfl
theorem ki_X10_as : Cond.instanceMethod yX10_as ∈ GW := bz_gw5 (i := 92) rfl rfl
theorem kl_X10_as : Cond.selects RX10 yX10_as yX10_as ∈ GW := bz_gw5 (i := 93) rfl rfl
theorem kk_X10_byteAt : Cond.code yX10_byteAt cX10_byteAt 2 (some .int) ∈ GW := bz_gw5 (i := 138) rfl rfl
theorem ki_X10_byteAt : Cond.instanceMethod yX10_byteAt ∈ GW := bz_gw5 (i := 137) rfl rfl
theorem kl_X10_byteAt : Cond.selects RX10 yX10_byteAt yX10_byteAt ∈ GW := bz_gw0 (i := 42) rfl rfl
theorem kk_X10_isDigit : Cond.code yX10_isDigit cX10_isDigit 1 (some .boolean) ∈ GW := bz_gw5 (i := 141) rfl rfl
theorem ks_X10_isDigit : Cond.static yX10_isDigit ∈ GW := bz_gw5 (i := 140) rfl rfl
theorem kk_X10_fails : Cond.code yX10_fails cX10_fails 1 (some .int) ∈ GW := bz_gw5 (i := 153) rfl rfl
theorem ki_X10_fails : Cond.instanceMethod yX10_fails ∈ GW := bz_gw5 (i := 152) rfl rfl
theorem kl_X10_fails : Cond.selects RX10 yX10_fails yX10_fails ∈ GW := bz_gw0 (i := 45) rfl rfl
theorem kk_X10_number : Cond.code yX10_number cX10_number 3 (some .int) ∈ GW := bz_gw5 (i := 145) rfl rfl
theorem ki_X10_number : Cond.instanceMethod yX10_number ∈ GW := bz_gw5 (i := 144) rfl rfl
theorem kl_X10_number : Cond.selects RX10 yX10_number yX10_number ∈ GW := bz_gw0 (i := 43) rfl rfl
theorem kk_X10_named : Cond.code yX10_named cX10_named 5 (some .int) ∈ GW := bz_gw5 (i := 149) rfl rfl
theorem ki_X10_named : Cond.instanceMethod yX10_named ∈ GW := bz_gw5 (i := 148) rfl rfl
theorem kl_X10_named : Cond.selects RX10 yX10_named yX10_named ∈ GW := bz_gw0 (i := 44) rfl rfl
theorem kk_X10_factor : Cond.code yX10_factor cX10_factor 3 (some .int) ∈ GW := bz_gw5 (i := 134) rfl rfl
theorem ki_X10_factor : Cond.instanceMethod yX10_factor ∈ GW := bz_gw5 (i := 133) rfl rfl
theorem kl_X10_factor : Cond.selects RX10 yX10_factor yX10_factor ∈ GW := bz_gw0 (i := 41) rfl rfl
theorem kk_X10_product : Cond.code yX10_product cX10_product 4 (some .int) ∈ GW := bz_gw5 (i := 130) rfl rfl
theorem ki_X10_product : Cond.instanceMethod yX10_product ∈ GW := bz_gw5 (i := 129) rfl rfl
theorem kl_X10_product : Cond.selects RX10 yX10_product yX10_product ∈ GW := bz_gw0 (i := 40) rfl rfl
theorem kk_X10_sum : Cond.code yX10_sum cX10_sum 4 (some .int) ∈ GW := bz_gw5 (i := 126) rfl rfl
theorem ki_X10_sum : Cond.instanceMethod yX10_sum ∈ GW := bz_gw5 (i := 125) rfl rfl
theorem kl_X10_sum : Cond.selects RX10 yX10_sum yX10_sum ∈ GW := bz_gw0 (i := 39) rfl rfl
theorem kk_X10_compared : Cond.code yX10_compared cX10_compared 5 (some .int) ∈ GW := bz_gw5 (i := 122) rfl rfl
theorem ki_X10_compared : Cond.instanceMethod yX10_compared ∈ GW := bz_gw5 (i := 121) rfl rfl
theorem kl_X10_compared : Cond.selects RX10 yX10_compared yX10_compared ∈ GW := bz_gw0 (i := 38) rfl rfl
theorem kk_X10_both : Cond.code yX10_both cX10_both 3 (some .int) ∈ GW := bz_gw5 (i := 118) rfl rfl
theorem ki_X10_both : Cond.instanceMethod yX10_both ∈ GW := bz_gw5 (i := 117) rfl rfl
theorem kl_X10_both : Cond.selects RX10 yX10_both yX10_both ∈ GW := bz_gw0 (i := 37) rfl rfl
theorem kk_X10_whole : Cond.code yX10_whole cX10_whole 3 (some .int) ∈ GW := bz_gw5 (i := 114) rfl rfl
theorem ki_X10_whole : Cond.instanceMethod yX10_whole ∈ GW := bz_gw5 (i := 113) rfl rfl
theorem kl_X10_whole : Cond.selects RX10 yX10_whole yX10_whole ∈ GW := bz_gw0 (i := 36) rfl rfl
theorem kk_X10_walks : Cond.code yX10_walks cX10_walks 6 (some .int) ∈ GW := bz_gw5 (i := 110) rfl rfl
theorem ki_X10_walks : Cond.instanceMethod yX10_walks ∈ GW := bz_gw5 (i := 109) rfl rfl
theorem kl_X10_walks : Cond.selects RX10 yX10_walks yX10_walks ∈ GW := bz_gw0 (i := 35) rfl rfl
theorem kk_X10_lawOf : Cond.code yX10_lawOf cX10_lawOf 6 (some .int) ∈ GW := bz_gw5 (i := 106) rfl rfl
theorem ki_X10_lawOf : Cond.instanceMethod yX10_lawOf ∈ GW := bz_gw5 (i := 105) rfl rfl
theorem kl_X10_lawOf : Cond.selects RX10 yX10_lawOf yX10_lawOf ∈ GW := bz_gw0 (i := 34) rfl rfl
theorem kk_X10_law : Cond.code yX10_law cX10_law 5 (some .int) ∈ GW := bz_gw5 (i := 102) rfl rfl
theorem ki_X10_law : Cond.instanceMethod yX10_law ∈ GW := bz_gw5 (i := 100) rfl rfl
theorem kl_X10_law : Cond.selects RX10 yX10_law yX10_law ∈ GW := bz_gw5 (i := 101) rfl rfl
theorem kk_X10_feed : Cond.code yX10_feed cX10_feed 5 (some .int) ∈ GW := bz_gw5 (i := 160) rfl rfl
theorem ki_X10_feed : Cond.instanceMethod yX10_feed ∈ GW := bz_gw5 (i := 158) rfl rfl
theorem kl_X10_feed : Cond.selects RX10 yX10_feed yX10_feed ∈ GW := bz_gw5 (i := 159) rfl rfl
theorem kk_X10_text : Cond.code yX10_text cX10_text 5 (some .int) ∈ GW := bz_gw5 (i := 165) rfl rfl
theorem ki_X10_text : Cond.instanceMethod yX10_text ∈ GW := bz_gw5 (i := 163) rfl rfl
theorem kl_X10_text : Cond.selects RX10 yX10_text yX10_text ∈ GW := bz_gw5 (i := 164) rfl rfl
theorem kk_X10_heat : Cond.code yX10_heat cX10_heat 1 (some .int) ∈ GW := bz_gw5 (i := 74) rfl rfl
theorem ki_X10_heat : Cond.instanceMethod yX10_heat ∈ GW := bz_gw5 (i := 73) rfl rfl
theorem kl_X10_heat : Cond.selects RX10 yX10_heat yX10_heat ∈ GW := bz_gw0 (i := 31) rfl rfl
theorem kk_X10_rain : Cond.code yX10_rain cX10_rain 1 (some .int) ∈ GW := bz_gw5 (i := 82) rfl rfl
theorem ki_X10_rain : Cond.instanceMethod yX10_rain ∈ GW := bz_gw5 (i := 81) rfl rfl
theorem kl_X10_rain : Cond.selects RX10 yX10_rain yX10_rain ∈ GW := bz_gw0 (i := 33) rfl rfl
theorem kk_X10_isComing : Cond.code yX10_isComing cX10_isComing 3 (some .boolean) ∈ GW := bz_gw5 (i := 78) rfl rfl
theorem ki_X10_isComing : Cond.instanceMethod yX10_isComing ∈ GW := bz_gw5 (i := 77) rfl rfl
theorem kl_X10_isComing : Cond.selects RX10 yX10_isComing yX10_isComing ∈ GW := bz_gw0 (i := 32) rfl rfl
theorem kk_X10_keeps : Cond.code yX10_keeps cX10_keeps 4 (some .int) ∈ GW := bz_gw5 (i := 70) rfl rfl
theorem ki_X10_keeps : Cond.instanceMethod yX10_keeps ∈ GW := bz_gw5 (i := 69) rfl rfl
theorem kl_X10_keeps : Cond.selects RX10 yX10_keeps yX10_keeps ∈ GW := bz_gw0 (i := 30) rfl rfl
theorem kk_X10_yearns : Cond.code yX10_yearns cX10_yearns 1 (some .int) ∈ GW := bz_gw5 (i := 177) rfl rfl
theorem ki_X10_yearns : Cond.instanceMethod yX10_yearns ∈ GW := bz_gw5 (i := 176) rfl rfl
theorem kl_X10_yearns : Cond.selects RX10 yX10_yearns yX10_yearns ∈ GW := bz_gw0 (i := 47) rfl rfl
theorem kk_X10_shifts : Cond.code yX10_shifts cX10_shifts 1 (some .int) ∈ GW := bz_gw5 (i := 181) rfl rfl
theorem ki_X10_shifts : Cond.instanceMethod yX10_shifts ∈ GW := bz_gw5 (i := 180) rfl rfl
theorem kl_X10_shifts : Cond.selects RX10 yX10_shifts yX10_shifts ∈ GW := bz_gw0 (i := 48) rfl rfl
theorem kk_X10_ofFigure : Cond.code yX10_ofFigure cX10_ofFigure 2 (some .int) ∈ GW := bz_gw5 (i := 173) rfl rfl
theorem ki_X10_ofFigure : Cond.instanceMethod yX10_ofFigure ∈ GW := bz_gw5 (i := 171) rfl rfl
theorem kl_X10_ofFigure : Cond.selects RX10 yX10_ofFigure yX10_ofFigure ∈ GW := bz_gw5 (i := 172) rfl rfl
theorem kk_X10_oneYear : Cond.code yX10_oneYear cX10_oneYear 2 none ∈ GW := bz_gw5 (i := 194) rfl rfl
theorem ki_X10_oneYear : Cond.instanceMethod yX10_oneYear ∈ GW := bz_gw5 (i := 193) rfl rfl
theorem kl_X10_oneYear : Cond.selects RX10 yX10_oneYear yX10_oneYear ∈ GW := bz_gw0 (i := 50) rfl rfl
theorem kk_X10_passes : Cond.code yX10_passes cX10_passes 3 none ∈ GW := bz_gw5 (i := 190) rfl rfl
theorem ki_X10_passes : Cond.instanceMethod yX10_passes ∈ GW := bz_gw5 (i := 189) rfl rfl
theorem kl_X10_passes : Cond.selects RX10 yX10_passes yX10_passes ∈ GW := bz_gw0 (i := 49) rfl rfl
theorem kk_X10_years : Cond.code yX10_years cX10_years 2 (some .int) ∈ GW := bz_gw5 (i := 185) rfl rfl
theorem ki_X10_years : Cond.instanceMethod yX10_years ∈ GW := bz_gw5 (i := 183) rfl rfl
theorem kl_X10_years : Cond.selects RX10 yX10_years yX10_years ∈ GW := bz_gw5 (i := 184) rfl rfl
theorem kk_X10_drawn : Cond.code yX10_drawn cX10_drawn 1 (some .int) ∈ GW := bz_gw5 (i := 202) rfl rfl
theorem ki_X10_drawn : Cond.instanceMethod yX10_drawn ∈ GW := bz_gw5 (i := 201) rfl rfl
theorem kl_X10_drawn : Cond.selects RX10 yX10_drawn yX10_drawn ∈ GW := bz_gw0 (i := 51) rfl rfl
theorem kk_X10_loose : Cond.code yX10_loose cX10_loose 4 (some .int) ∈ GW := bz_gw5 (i := 198) rfl rfl
theorem ki_X10_loose : Cond.instanceMethod yX10_loose ∈ GW := bz_gw5 (i := 196) rfl rfl
theorem kl_X10_loose : Cond.selects RX10 yX10_loose yX10_loose ∈ GW := bz_gw5 (i := 197) rfl rfl
theorem kk_X10_behind : Cond.code yX10_behind cX10_behind 4 (some .int) ∈ GW := bz_gw5 (i := 211) rfl rfl
theorem ki_X10_behind : Cond.instanceMethod yX10_behind ∈ GW := bz_gw5 (i := 210) rfl rfl
theorem kl_X10_behind : Cond.selects RX10 yX10_behind yX10_behind ∈ GW := bz_gw0 (i := 52) rfl rfl
theorem kk_X10_then : Cond.code yX10_then cX10_then 3 (some .int) ∈ GW := bz_gw5 (i := 207) rfl rfl
theorem ki_X10_then : Cond.instanceMethod yX10_then ∈ GW := bz_gw5 (i := 205) rfl rfl
theorem kl_X10_then : Cond.selects RX10 yX10_then yX10_then ∈ GW := bz_gw5 (i := 206) rfl rfl
theorem kk_X10_falls : Cond.code yX10_falls cX10_falls 2 (some .int) ∈ GW := bz_gw5 (i := 215) rfl rfl
theorem ki_X10_falls : Cond.instanceMethod yX10_falls ∈ GW := bz_gw5 (i := 213) rfl rfl
theorem kl_X10_falls : Cond.selects RX10 yX10_falls yX10_falls ∈ GW := bz_gw5 (i := 214) rfl rfl
theorem kk_X10_wet : Cond.code yX10_wet cX10_wet 5 (some .int) ∈ GW := bz_gw5 (i := 220) rfl rfl
theorem ki_X10_wet : Cond.instanceMethod yX10_wet ∈ GW := bz_gw5 (i := 218) rfl rfl
theorem kl_X10_wet : Cond.selects RX10 yX10_wet yX10_wet ∈ GW := bz_gw5 (i := 219) rfl rfl
theorem kk_X10_loudFor : Cond.code yX10_loudFor cX10_loudFor 6 (some .int) ∈ GW := bz_gw5 (i := 224) rfl rfl
theorem ki_X10_loudFor : Cond.instanceMethod yX10_loudFor ∈ GW := bz_gw5 (i := 222) rfl rfl
theorem kl_X10_loudFor : Cond.selects RX10 yX10_loudFor yX10_loudFor ∈ GW := bz_gw5 (i := 223) rfl rfl
theorem kk_X10_everyFor : Cond.code yX10_everyFor cX10_everyFor 7 (some .int) ∈ GW := bz_gw5 (i := 228) rfl rfl
theorem ki_X10_everyFor : Cond.instanceMethod yX10_everyFor ∈ GW := bz_gw5 (i := 226) rfl rfl
theorem kl_X10_everyFor : Cond.selects RX10 yX10_everyFor yX10_everyFor ∈ GW := bz_gw5 (i := 227) rfl rfl
theorem kk_X10_needless : Cond.code yX10_needless cX10_needless 5 (some .int) ∈ GW := bz_gw5 (i := 232) rfl rfl
theorem ki_X10_needless : Cond.instanceMethod yX10_needless ∈ GW := bz_gw5 (i := 230) rfl rfl
theorem kl_X10_needless : Cond.selects RX10 yX10_needless yX10_needless ∈ GW := bz_gw5 (i := 231) rfl rfl
theorem kk_X10_isSheet : Cond.code yX10_isSheet cX10_isSheet 1 (some .boolean) ∈ GW := bz_gw5 (i := 239) rfl rfl
theorem ks_X10_isSheet : Cond.static yX10_isSheet ∈ GW := bz_gw5 (i := 238) rfl rfl
theorem kk_X10_leansSo : Cond.code yX10_leansSo cX10_leansSo 4 (some .boolean) ∈ GW := bz_gw6 (i := 3) rfl rfl
theorem ki_X10_leansSo : Cond.instanceMethod yX10_leansSo ∈ GW := bz_gw6 (i := 2) rfl rfl
theorem kl_X10_leansSo : Cond.selects RX10 yX10_leansSo yX10_leansSo ∈ GW := bz_gw0 (i := 53) rfl rfl
theorem kk_X10_wanted : Cond.code yX10_wanted cX10_wanted 7 (some .int) ∈ GW := bz_gw5 (i := 236) rfl rfl
theorem ki_X10_wanted : Cond.instanceMethod yX10_wanted ∈ GW := bz_gw5 (i := 234) rfl rfl
theorem kl_X10_wanted : Cond.selects RX10 yX10_wanted yX10_wanted ∈ GW := bz_gw5 (i := 235) rfl rfl
theorem kk_X10_which : Cond.code yX10_which cX10_which 5 (some .int) ∈ GW := bz_gw6 (i := 7) rfl rfl
theorem ki_X10_which : Cond.instanceMethod yX10_which ∈ GW := bz_gw6 (i := 5) rfl rfl
theorem kl_X10_which : Cond.selects RX10 yX10_which yX10_which ∈ GW := bz_gw6 (i := 6) rfl rfl
theorem kk_X10_goodSet : Cond.code yX10_goodSet cX10_goodSet 3 (some .int) ∈ GW := bz_gw6 (i := 15) rfl rfl
theorem ki_X10_goodSet : Cond.instanceMethod yX10_goodSet ∈ GW := bz_gw6 (i := 14) rfl rfl
theorem kl_X10_goodSet : Cond.selects RX10 yX10_goodSet yX10_goodSet ∈ GW := bz_gw0 (i := 54) rfl rfl
theorem kk_X10_tallOf : Cond.code yX10_tallOf cX10_tallOf 4 (some .int) ∈ GW := bz_gw6 (i := 22) rfl rfl
theorem ki_X10_tallOf : Cond.instanceMethod yX10_tallOf ∈ GW := bz_gw6 (i := 21) rfl rfl
theorem kl_X10_tallOf : Cond.selects RX10 yX10_tallOf yX10_tallOf ∈ GW := bz_gw0 (i := 55) rfl rfl
theorem kk_X10_stair : Cond.code yX10_stair cX10_stair 5 (some .int) ∈ GW := bz_gw6 (i := 11) rfl rfl
theorem ki_X10_stair : Cond.instanceMethod yX10_stair ∈ GW := bz_gw6 (i := 9) rfl rfl
theorem kl_X10_stair : Cond.selects RX10 yX10_stair yX10_stair ∈ GW := bz_gw6 (i := 10) rfl rfl
theorem kk_X10_exact : Cond.code yX10_exact cX10_exact 4 (some .int) ∈ GW := bz_gw6 (i := 26) rfl rfl
theorem ki_X10_exact : Cond.instanceMethod yX10_exact ∈ GW := bz_gw6 (i := 24) rfl rfl
theorem kl_X10_exact : Cond.selects RX10 yX10_exact yX10_exact ∈ GW := bz_gw6 (i := 25) rfl rfl
theorem kk_X10_tree : Cond.code yX10_tree cX10_tree 3 (some .int) ∈ GW := bz_gw6 (i := 42) rfl rfl
theorem ki_X10_tree : Cond.instanceMethod yX10_tree ∈ GW := bz_gw6 (i := 41) rfl rfl
theorem kl_X10_tree : Cond.selects RX10 yX10_tree yX10_tree ∈ GW := bz_gw0 (i := 58) rfl rfl
theorem kk_X10_treesBy : Cond.code yX10_treesBy cX10_treesBy 6 (some .int) ∈ GW := bz_gw6 (i := 38) rfl rfl
theorem ki_X10_treesBy : Cond.instanceMethod yX10_treesBy ∈ GW := bz_gw6 (i := 37) rfl rfl
theorem kl_X10_treesBy : Cond.selects RX10 yX10_treesBy yX10_treesBy ∈ GW := bz_gw0 (i := 57) rfl rfl
theorem kk_X10_isThere : Cond.code yX10_isThere cX10_isThere 5 (some .boolean) ∈ GW := bz_gw6 (i := 34) rfl rfl
theorem ki_X10_isThere : Cond.instanceMethod yX10_isThere ∈ GW := bz_gw6 (i := 33) rfl rfl
theorem kl_X10_isThere : Cond.selects RX10 yX10_isThere yX10_isThere ∈ GW := bz_gw0 (i := 56) rfl rfl
theorem kk_X10_house : Cond.code yX10_house cX10_house 7 (some .int) ∈ GW := bz_gw6 (i := 30) rfl rfl
theorem ki_X10_house : Cond.instanceMethod yX10_house ∈ GW := bz_gw6 (i := 28) rfl rfl
theorem kl_X10_house : Cond.selects RX10 yX10_house yX10_house ∈ GW := bz_gw6 (i := 29) rfl rfl
theorem kk_X10_loudOf : Cond.code yX10_loudOf cX10_loudOf 4 (some .int) ∈ GW := bz_gw6 (i := 50) rfl rfl
theorem ki_X10_loudOf : Cond.instanceMethod yX10_loudOf ∈ GW := bz_gw6 (i := 49) rfl rfl
theorem kl_X10_loudOf : Cond.selects RX10 yX10_loudOf yX10_loudOf ∈ GW := bz_gw0 (i := 59) rfl rfl
theorem kk_X10_orders : Cond.code yX10_orders cX10_orders 3 (some .int) ∈ GW := bz_gw6 (i := 53) rfl rfl
theorem ks_X10_orders : Cond.static yX10_orders ∈ GW := bz_gw6 (i := 52) rfl rfl
theorem kk_X10_power : Cond.code yX10_power cX10_power 7 (some .int) ∈ GW := bz_gw6 (i := 46) rfl rfl
theorem ki_X10_power : Cond.instanceMethod yX10_power ∈ GW := bz_gw6 (i := 44) rfl rfl
theorem kl_X10_power : Cond.selects RX10 yX10_power yX10_power ∈ GW := bz_gw6 (i := 45) rfl rfl
theorem kk_X10_stands : Cond.code yX10_stands cX10_stands 1 (some .boolean) ∈ GW := bz_gw6 (i := 60) rfl rfl
theorem ks_X10_stands : Cond.static yX10_stands ∈ GW := bz_gw6 (i := 59) rfl rfl
theorem kk_X10_gait : Cond.code yX10_gait cX10_gait 4 (some .int) ∈ GW := bz_gw6 (i := 57) rfl rfl
theorem ki_X10_gait : Cond.instanceMethod yX10_gait ∈ GW := bz_gw6 (i := 55) rfl rfl
theorem kl_X10_gait : Cond.selects RX10 yX10_gait yX10_gait ∈ GW := bz_gw6 (i := 56) rfl rfl
theorem kk_X10_odds : Cond.code yX10_odds cX10_odds 6 (some .int) ∈ GW := bz_gw6 (i := 64) rfl rfl
theorem ki_X10_odds : Cond.instanceMethod yX10_odds ∈ GW := bz_gw6 (i := 62) rfl rfl
theorem kl_X10_odds : Cond.selects RX10 yX10_odds yX10_odds ∈ GW := bz_gw6 (i := 63) rfl rfl
theorem kk_X10_seed : Cond.code yX10_seed cX10_seed 3 (some .int) ∈ GW := bz_gw6 (i := 68) rfl rfl
theorem ki_X10_seed : Cond.instanceMethod yX10_seed ∈ GW := bz_gw6 (i := 66) rfl rfl
theorem kl_X10_seed : Cond.selects RX10 yX10_seed yX10_seed ∈ GW := bz_gw6 (i := 67) rfl rfl
theorem kk_X10_ran : Cond.code yX10_ran cX10_ran 2 none ∈ GW := bz_gw6 (i := 80) rfl rfl
theorem ki_X10_ran : Cond.instanceMethod yX10_ran ∈ GW := bz_gw6 (i := 79) rfl rfl
theorem kl_X10_ran : Cond.selects RX10 yX10_ran yX10_ran ∈ GW := bz_gw0 (i := 61) rfl rfl
theorem kk_X10_callsIn : Cond.code yX10_callsIn cX10_callsIn 3 (some .int) ∈ GW := bz_gw6 (i := 76) rfl rfl
theorem ki_X10_callsIn : Cond.instanceMethod yX10_callsIn ∈ GW := bz_gw6 (i := 75) rfl rfl
theorem kl_X10_callsIn : Cond.selects RX10 yX10_callsIn yX10_callsIn ∈ GW := bz_gw0 (i := 60) rfl rfl
theorem kk_X10_nodsIn : Cond.code yX10_nodsIn cX10_nodsIn 3 (some .int) ∈ GW := bz_gw6 (i := 88) rfl rfl
theorem ki_X10_nodsIn : Cond.instanceMethod yX10_nodsIn ∈ GW := bz_gw6 (i := 87) rfl rfl
theorem kl_X10_nodsIn : Cond.selects RX10 yX10_nodsIn yX10_nodsIn ∈ GW := bz_gw0 (i := 63) rfl rfl
theorem kk_X10_holdsIn : Cond.code yX10_holdsIn cX10_holdsIn 4 (some .int) ∈ GW := bz_gw6 (i := 84) rfl rfl
theorem ki_X10_holdsIn : Cond.instanceMethod yX10_holdsIn ∈ GW := bz_gw6 (i := 83) rfl rfl
theorem kl_X10_holdsIn : Cond.selects RX10 yX10_holdsIn yX10_holdsIn ∈ GW := bz_gw0 (i := 62) rfl rfl
theorem kk_X10_tellsIn : Cond.code yX10_tellsIn cX10_tellsIn 4 (some .int) ∈ GW := bz_gw6 (i := 92) rfl rfl
theorem ki_X10_tellsIn : Cond.instanceMethod yX10_tellsIn ∈ GW := bz_gw6 (i := 91) rfl rfl
theorem kl_X10_tellsIn : Cond.selects RX10 yX10_tellsIn yX10_tellsIn ∈ GW := bz_gw0 (i := 64) rfl rfl
theorem kk_X10_voice : Cond.code yX10_voice cX10_voice 4 (some .int) ∈ GW := bz_gw6 (i := 72) rfl rfl
theorem ki_X10_voice : Cond.instanceMethod yX10_voice ∈ GW := bz_gw6 (i := 70) rfl rfl
theorem kl_X10_voice : Cond.selects RX10 yX10_voice yX10_voice ∈ GW := bz_gw6 (i := 71) rfl rfl
theorem kk_X10_trace : Cond.code yX10_trace cX10_trace 2 (some .int) ∈ GW := bz_gw6 (i := 96) rfl rfl
theorem ki_X10_trace : Cond.instanceMethod yX10_trace ∈ GW := bz_gw6 (i := 94) rfl rfl
theorem kl_X10_trace : Cond.selects RX10 yX10_trace yX10_trace ∈ GW := bz_gw6 (i := 95) rfl rfl
theorem kk_X10_narrow : Cond.code yX10_narrow cX10_narrow 2 (some .int) ∈ GW := bz_gw6 (i := 107) rfl rfl
theorem ks_X10_narrow : Cond.static yX10_narrow ∈ GW := bz_gw6 (i := 106) rfl rfl
theorem kk_X10_sheet : Cond.code yX10_sheet cX10_sheet 5 (some .int) ∈ GW := bz_gw6 (i := 100) rfl rfl
theorem ki_X10_sheet : Cond.instanceMethod yX10_sheet ∈ GW := bz_gw6 (i := 98) rfl rfl
theorem kl_X10_sheet : Cond.selects RX10 yX10_sheet yX10_sheet ∈ GW := bz_gw6 (i := 99) rfl rfl
theorem kk_X10_put : Cond.code yX10_put cX10_put 4 (some .int) ∈ GW := bz_gw6 (i := 104) rfl rfl
theorem ki_X10_put : Cond.instanceMethod yX10_put ∈ GW := bz_gw6 (i := 102) rfl rfl
theorem kl_X10_put : Cond.selects RX10 yX10_put yX10_put ∈ GW := bz_gw6 (i := 103) rfl rfl
theorem kk_X10_move : Cond.code yX10_move cX10_move 7 (some .int) ∈ GW := bz_gw6 (i := 111) rfl rfl
theorem ki_X10_move : Cond.instanceMethod yX10_move ∈ GW := bz_gw6 (i := 109) rfl rfl
theorem kl_X10_move : Cond.selects RX10 yX10_move yX10_move ∈ GW := bz_gw6 (i := 110) rfl rfl
theorem kk_X10_talls : Cond.code yX10_talls cX10_talls 3 (some .int) ∈ GW := bz_gw6 (i := 115) rfl rfl
theorem ki_X10_talls : Cond.instanceMethod yX10_talls ∈ GW := bz_gw6 (i := 113) rfl rfl
theorem kl_X10_talls : Cond.selects RX10 yX10_talls yX10_talls ∈ GW := bz_gw6 (i := 114) rfl rfl
theorem kk_X10_judge : Cond.code yX10_judge cX10_judge 3 (some .int) ∈ GW := bz_gw6 (i := 119) rfl rfl
theorem ki_X10_judge : Cond.instanceMethod yX10_judge ∈ GW := bz_gw6 (i := 117) rfl rfl
theorem kl_X10_judge : Cond.selects RX10 yX10_judge yX10_judge ∈ GW := bz_gw6 (i := 118) rfl rfl
theorem kk_X10_image : Cond.code yX10_image cX10_image 1 (some .int) ∈ GW := bz_gw6 (i := 123) rfl rfl
theorem ki_X10_image : Cond.instanceMethod yX10_image ∈ GW := bz_gw6 (i := 121) rfl rfl
theorem kl_X10_image : Cond.selects RX10 yX10_image yX10_image ∈ GW := bz_gw6 (i := 122) rfl rfl
theorem kk_X10_restore : Cond.code yX10_restore cX10_restore 1 (some .int) ∈ GW := bz_gw6 (i := 127) rfl rfl
theorem ki_X10_restore : Cond.instanceMethod yX10_restore ∈ GW := bz_gw6 (i := 125) rfl rfl
theorem kl_X10_restore : Cond.selects RX10 yX10_restore yX10_restore ∈ GW := bz_gw6 (i := 126) rfl rfl
theorem kk_X10_tell : Cond.code yX10_tell cX10_tell 2 (some .int) ∈ GW := bz_gw6 (i := 131) rfl rfl
theorem ki_X10_tell : Cond.instanceMethod yX10_tell ∈ GW := bz_gw6 (i := 129) rfl rfl
theorem kl_X10_tell : Cond.selects RX10 yX10_tell yX10_tell ∈ GW := bz_gw6 (i := 130) rfl rfl
theorem kk_X10_check : Cond.code yX10_check cX10_check 4 (some .int) ∈ GW := bz_gw6 (i := 135) rfl rfl
theorem ki_X10_check : Cond.instanceMethod yX10_check ∈ GW := bz_gw6 (i := 133) rfl rfl
theorem kl_X10_check : Cond.selects RX10 yX10_check yX10_check ∈ GW := bz_gw6 (i := 134) rfl rfl
theorem kk_X10_sumOfTrees : Cond.code yX10_sumOfTrees cX10_sumOfTrees 3 (some .int) ∈ GW := bz_gw6 (i := 143) rfl rfl
theorem ki_X10_sumOfTrees : Cond.instanceMethod yX10_sumOfTrees ∈ GW := bz_gw6 (i := 142) rfl rfl
theorem kl_X10_sumOfTrees : Cond.selects RX10 yX10_sumOfTrees yX10_sumOfTrees ∈ GW := bz_gw0 (i := 65) rfl rfl
theorem kk_X10_count : Cond.code yX10_count cX10_count 2 (some .int) ∈ GW := bz_gw6 (i := 139) rfl rfl
theorem ki_X10_count : Cond.instanceMethod yX10_count ∈ GW := bz_gw6 (i := 137) rfl rfl
theorem kl_X10_count : Cond.selects RX10 yX10_count yX10_count ∈ GW := bz_gw6 (i := 138) rfl rfl
theorem kk_X10_told : Cond.code yX10_told cX10_told 2 (some .int) ∈ GW := bz_gw6 (i := 147) rfl rfl
theorem ki_X10_told : Cond.instanceMethod yX10_told ∈ GW := bz_gw6 (i := 145) rfl rfl
theorem kl_X10_told : Cond.selects RX10 yX10_told yX10_told ∈ GW := bz_gw6 (i := 146) rfl rfl
theorem kk_X0_init : Cond.code yX0_init cX0_init 1 none ∈ GW := bz_gw1 (i := 33) rfl rfl
theorem ki_X0_init : Cond.instanceMethod yX0_init ∈ GW := bz_gw1 (i := 32) rfl rfl
theorem kk_X0_rowOfSeasons : Cond.code yX0_rowOfSeasons cX0_rowOfSeasons 2 (some (.array .int)) ∈ GW := bz_gw2 (i := 60) rfl rfl
theorem ki_X0_rowOfSeasons : Cond.instanceMethod yX0_rowOfSeasons ∈ GW := bz_gw2 (i := 58) rfl rfl
theorem kl_X0_rowOfSeasons : Cond.selects RX0 yX0_rowOfSeasons yX0_rowOfSeasons ∈ GW := bz_gw2 (i := 59) rfl rfl
theorem kk_X0_heatNow : Cond.code yX0_heatNow cX0_heatNow 1 (some .int) ∈ GW := bz_gw2 (i := 106) rfl rfl
theorem ki_X0_heatNow : Cond.instanceMethod yX0_heatNow ∈ GW := bz_gw2 (i := 104) rfl rfl
theorem kl_X0_heatNow : Cond.selects RX0 yX0_heatNow yX0_heatNow ∈ GW := bz_gw2 (i := 105) rfl rfl
theorem kk_X0_rainNow : Cond.code yX0_rainNow cX0_rainNow 1 (some .int) ∈ GW := bz_gw2 (i := 181) rfl rfl
theorem ki_X0_rainNow : Cond.instanceMethod yX0_rainNow ∈ GW := bz_gw2 (i := 179) rfl rfl
theorem kl_X0_rainNow : Cond.selects RX0 yX0_rainNow yX0_rainNow ∈ GW := bz_gw2 (i := 180) rfl rfl
theorem kk_X0_weight : Cond.code yX0_weight cX0_weight 1 (some .int) ∈ GW := bz_gw2 (i := 98) rfl rfl
theorem ki_X0_weight : Cond.instanceMethod yX0_weight ∈ GW := bz_gw2 (i := 96) rfl rfl
theorem kl_X0_weight : Cond.selects RX0 yX0_weight yX0_weight ∈ GW := bz_gw2 (i := 97) rfl rfl
theorem kk_X0_lawOf : Cond.code yX0_lawOf cX0_lawOf 2 (some (.object "BronzeDown$Law")) ∈ GW := bz_gw2 (i := 117) rfl rfl
theorem ki_X0_lawOf : Cond.instanceMethod yX0_lawOf ∈ GW := bz_gw2 (i := 115) rfl rfl
theorem kl_X0_lawOf : Cond.selects RX0 yX0_lawOf yX0_lawOf ∈ GW := bz_gw2 (i := 116) rfl rfl
theorem kk_X0_given : Cond.code yX0_given cX0_given 6 (some .int) ∈ GW := bz_gw2 (i := 113) rfl rfl
theorem ki_X0_given : Cond.instanceMethod yX0_given ∈ GW := bz_gw2 (i := 111) rfl rfl
theorem kl_X0_given : Cond.selects RX0 yX0_given yX0_given ∈ GW := bz_gw2 (i := 112) rfl rfl
theorem kk_X0_yearning : Cond.code yX0_yearning cX0_yearning 1 (some .int) ∈ GW := bz_gw2 (i := 102) rfl rfl
theorem ki_X0_yearning : Cond.instanceMethod yX0_yearning ∈ GW := bz_gw2 (i := 100) rfl rfl
theorem kl_X0_yearning : Cond.selects RX0 yX0_yearning yX0_yearning ∈ GW := bz_gw2 (i := 101) rfl rfl
theorem kk_X0_shifting : Cond.code yX0_shifting cX0_shifting 1 (some .int) ∈ GW := bz_gw2 (i := 139) rfl rfl
theorem ki_X0_shifting : Cond.instanceMethod yX0_shifting ∈ GW := bz_gw2 (i := 137) rfl rfl
theorem kl_X0_shifting : Cond.selects RX0 yX0_shifting yX0_shifting ∈ GW := bz_gw2 (i := 138) rfl rfl
theorem kk_X0_pass : Cond.code yX0_pass cX0_pass 3 (some .int) ∈ GW := bz_gw3 (i := 67) rfl rfl
theorem ki_X0_pass : Cond.instanceMethod yX0_pass ∈ GW := bz_gw3 (i := 65) rfl rfl
theorem kl_X0_pass : Cond.selects RX0 yX0_pass yX0_pass ∈ GW := bz_gw3 (i := 66) rfl rfl
theorem kk_X0_passYear : Cond.code yX0_passYear cX0_passYear 4 none ∈ GW := bz_gw3 (i := 71) rfl rfl
theorem ki_X0_passYear : Cond.instanceMethod yX0_passYear ∈ GW := bz_gw3 (i := 70) rfl rfl
theorem kl_X0_passYear : Cond.selects RX0 yX0_passYear yX0_passYear ∈ GW := bz_gw0 (i := 7) rfl rfl
theorem kk_X0_copyFrom : Cond.code yX0_copyFrom cX0_copyFrom 2 none ∈ GW := bz_gw3 (i := 102) rfl rfl
theorem ki_X0_copyFrom : Cond.instanceMethod yX0_copyFrom ∈ GW := bz_gw3 (i := 100) rfl rfl
theorem kl_X0_copyFrom : Cond.selects RX0 yX0_copyFrom yX0_copyFrom ∈ GW := bz_gw3 (i := 101) rfl rfl
theorem kk_X1_init : Cond.code yX1_init cX1_init 1 none ∈ GW := bz_gw1 (i := 149) rfl rfl
theorem ki_X1_init : Cond.instanceMethod yX1_init ∈ GW := bz_gw1 (i := 148) rfl rfl
theorem kk_X1_rowOfSteps : Cond.code yX1_rowOfSteps cX1_rowOfSteps 2 (some (.array .int)) ∈ GW := bz_gw2 (i := 147) rfl rfl
theorem ki_X1_rowOfSteps : Cond.instanceMethod yX1_rowOfSteps ∈ GW := bz_gw2 (i := 145) rfl rfl
theorem kl_X1_rowOfSteps : Cond.selects RX1 yX1_rowOfSteps yX1_rowOfSteps ∈ GW := bz_gw2 (i := 146) rfl rfl
theorem kk_X1_isGood : Cond.code yX1_isGood cX1_isGood 3 (some .boolean) ∈ GW := bz_gw2 (i := 155) rfl rfl
theorem ki_X1_isGood : Cond.instanceMethod yX1_isGood ∈ GW := bz_gw2 (i := 153) rfl rfl
theorem kl_X1_isGood : Cond.selects RX1 yX1_isGood yX1_isGood ∈ GW := bz_gw2 (i := 154) rfl rfl
theorem kk_X1_goodSteps : Cond.code yX1_goodSteps cX1_goodSteps 4 (some .int) ∈ GW := bz_gw3 (i := 164) rfl rfl
theorem ki_X1_goodSteps : Cond.instanceMethod yX1_goodSteps ∈ GW := bz_gw3 (i := 163) rfl rfl
theorem kl_X1_goodSteps : Cond.selects RX1 yX1_goodSteps yX1_goodSteps ∈ GW := bz_gw0 (i := 12) rfl rfl
theorem kk_X1_tallOf : Cond.code yX1_tallOf cX1_tallOf 4 (some .int) ∈ GW := bz_gw3 (i := 175) rfl rfl
theorem ki_X1_tallOf : Cond.instanceMethod yX1_tallOf ∈ GW := bz_gw3 (i := 174) rfl rfl
theorem kl_X1_tallOf : Cond.selects RX1 yX1_tallOf yX1_tallOf ∈ GW := bz_gw0 (i := 13) rfl rfl
theorem kk_X1_leastStair : Cond.code yX1_leastStair cX1_leastStair 7 (some .int) ∈ GW := bz_gw3 (i := 160) rfl rfl
theorem ki_X1_leastStair : Cond.instanceMethod yX1_leastStair ∈ GW := bz_gw3 (i := 158) rfl rfl
theorem kl_X1_leastStair : Cond.selects RX1 yX1_leastStair yX1_leastStair ∈ GW := bz_gw3 (i := 159) rfl rfl
theorem kk_X1_exactStairs : Cond.code yX1_exactStairs cX1_exactStairs 5 (some .int) ∈ GW := bz_gw3 (i := 184) rfl rfl
theorem ki_X1_exactStairs : Cond.instanceMethod yX1_exactStairs ∈ GW := bz_gw3 (i := 182) rfl rfl
theorem kl_X1_exactStairs : Cond.selects RX1 yX1_exactStairs yX1_exactStairs ∈ GW := bz_gw3 (i := 183) rfl rfl
theorem kk_X1_takeTalls : Cond.code yX1_takeTalls cX1_takeTalls 4 (some .int) ∈ GW := bz_gw4 (i := 98) rfl rfl
theorem ki_X1_takeTalls : Cond.instanceMethod yX1_takeTalls ∈ GW := bz_gw4 (i := 96) rfl rfl
theorem kl_X1_takeTalls : Cond.selects RX1 yX1_takeTalls yX1_takeTalls ∈ GW := bz_gw4 (i := 97) rfl rfl
theorem kk_X1_treesOfAll : Cond.code yX1_treesOfAll cX1_treesOfAll 3 (some .int) ∈ GW := bz_gw4 (i := 145) rfl rfl
theorem ki_X1_treesOfAll : Cond.instanceMethod yX1_treesOfAll ∈ GW := bz_gw4 (i := 143) rfl rfl
theorem kl_X1_treesOfAll : Cond.selects RX1 yX1_treesOfAll yX1_treesOfAll ∈ GW := bz_gw4 (i := 144) rfl rfl
theorem kk_X1_isToldOf : Cond.code yX1_isToldOf cX1_isToldOf 5 (some .boolean) ∈ GW := bz_gw3 (i := 192) rfl rfl
theorem ki_X1_isToldOf : Cond.instanceMethod yX1_isToldOf ∈ GW := bz_gw3 (i := 190) rfl rfl
theorem kl_X1_isToldOf : Cond.selects RX1 yX1_isToldOf yX1_isToldOf ∈ GW := bz_gw3 (i := 191) rfl rfl
theorem kk_X1_treesOfRow : Cond.code yX1_treesOfRow cX1_treesOfRow 2 (some .int) ∈ GW := bz_gw3 (i := 197) rfl rfl
theorem ki_X1_treesOfRow : Cond.instanceMethod yX1_treesOfRow ∈ GW := bz_gw3 (i := 196) rfl rfl
theorem kl_X1_treesOfRow : Cond.selects RX1 yX1_treesOfRow yX1_treesOfRow ∈ GW := bz_gw0 (i := 14) rfl rfl
theorem kk_X1_treesOfLine : Cond.code yX1_treesOfLine cX1_treesOfLine 4 (some .int) ∈ GW := bz_gw3 (i := 201) rfl rfl
theorem ki_X1_treesOfLine : Cond.instanceMethod yX1_treesOfLine ∈ GW := bz_gw3 (i := 200) rfl rfl
theorem kl_X1_treesOfLine : Cond.selects RX1 yX1_treesOfLine yX1_treesOfLine ∈ GW := bz_gw0 (i := 15) rfl rfl
theorem kk_X1_treesNextTo : Cond.code yX1_treesNextTo cX1_treesNextTo 6 (some .int) ∈ GW := bz_gw3 (i := 210) rfl rfl
theorem ki_X1_treesNextTo : Cond.instanceMethod yX1_treesNextTo ∈ GW := bz_gw3 (i := 209) rfl rfl
theorem kl_X1_treesNextTo : Cond.selects RX1 yX1_treesNextTo yX1_treesNextTo ∈ GW := bz_gw0 (i := 17) rfl rfl
theorem kk_X1_treeAt : Cond.code yX1_treeAt cX1_treeAt 4 (some .int) ∈ GW := bz_gw3 (i := 205) rfl rfl
theorem ki_X1_treeAt : Cond.instanceMethod yX1_treeAt ∈ GW := bz_gw3 (i := 204) rfl rfl
theorem kl_X1_treeAt : Cond.selects RX1 yX1_treeAt yX1_treeAt ∈ GW := bz_gw0 (i := 16) rfl rfl
theorem kk_X1_gaits : Cond.code yX1_gaits cX1_gaits 3 (some .int) ∈ GW := bz_gw4 (i := 0) rfl rfl
theorem ki_X1_gaits : Cond.instanceMethod yX1_gaits ∈ GW := bz_gw3 (i := 238) rfl rfl
theorem kl_X1_gaits : Cond.selects RX1 yX1_gaits yX1_gaits ∈ GW := bz_gw3 (i := 239) rfl rfl
theorem kk_X1_moveOneFoot : Cond.code yX1_moveOneFoot cX1_moveOneFoot 3 none ∈ GW := bz_gw4 (i := 7) rfl rfl
theorem ki_X1_moveOneFoot : Cond.instanceMethod yX1_moveOneFoot ∈ GW := bz_gw4 (i := 6) rfl rfl
theorem kl_X1_moveOneFoot : Cond.selects RX1 yX1_moveOneFoot yX1_moveOneFoot ∈ GW := bz_gw0 (i := 19) rfl rfl
theorem kk_X1_tumbles : Cond.code yX1_tumbles cX1_tumbles 1 (some .boolean) ∈ GW := bz_gw4 (i := 3) rfl rfl
theorem ks_X1_tumbles : Cond.static yX1_tumbles ∈ GW := bz_gw4 (i := 2) rfl rfl
theorem kk_X1_copyFrom : Cond.code yX1_copyFrom cX1_copyFrom 2 none ∈ GW := bz_gw4 (i := 123) rfl rfl
theorem ki_X1_copyFrom : Cond.instanceMethod yX1_copyFrom ∈ GW := bz_gw4 (i := 121) rfl rfl
theorem kl_X1_copyFrom : Cond.selects RX1 yX1_copyFrom yX1_copyFrom ∈ GW := bz_gw4 (i := 122) rfl rfl
theorem kk_X2_init : Cond.code yX2_init cX2_init 1 none ∈ GW := bz_gw1 (i := 72) rfl rfl
theorem ki_X2_init : Cond.instanceMethod yX2_init ∈ GW := bz_gw1 (i := 71) rfl rfl
theorem kk_X2_copyFrom : Cond.code yX2_copyFrom cX2_copyFrom 2 none ∈ GW := bz_gw3 (i := 52) rfl rfl
theorem ki_X2_copyFrom : Cond.instanceMethod yX2_copyFrom ∈ GW := bz_gw3 (i := 50) rfl rfl
theorem kl_X2_copyFrom : Cond.selects RX2 yX2_copyFrom yX2_copyFrom ∈ GW := bz_gw3 (i := 51) rfl rfl
theorem kk_X2_workOut : Cond.code yX2_workOut cX2_workOut 7 (some .int) ∈ GW := bz_gw2 (i := 121) rfl rfl
theorem ki_X2_workOut : Cond.instanceMethod yX2_workOut ∈ GW := bz_gw2 (i := 119) rfl rfl
theorem kl_X2_workOut : Cond.selects RX2 yX2_workOut yX2_workOut ∈ GW := bz_gw2 (i := 120) rfl rfl
theorem kk_X2_operand : Cond.code yX2_operand cX2_operand 4 (some .int) ∈ GW := bz_gw2 (i := 128) rfl rfl
theorem ks_X2_operand : Cond.static yX2_operand ∈ GW := bz_gw2 (i := 127) rfl rfl
theorem kk_X2_joined : Cond.code yX2_joined cX2_joined 3 (some .int) ∈ GW := bz_gw2 (i := 131) rfl rfl
theorem ks_X2_joined : Cond.static yX2_joined ∈ GW := bz_gw2 (i := 130) rfl rfl
theorem kk_X3_init : Cond.code yX3_init cX3_init 1 none ∈ GW := bz_gw1 (i := 207) rfl rfl
theorem ki_X3_init : Cond.instanceMethod yX3_init ∈ GW := bz_gw1 (i := 206) rfl rfl
theorem kk_X3_read : Cond.code yX3_read cX3_read 3 (some .int) ∈ GW := bz_gw2 (i := 230) rfl rfl
theorem ki_X3_read : Cond.instanceMethod yX3_read ∈ GW := bz_gw2 (i := 228) rfl rfl
theorem kl_X3_read : Cond.selects RX3 yX3_read yX3_read ∈ GW := bz_gw2 (i := 229) rfl rfl
theorem kk_X3_readLevel : Cond.code yX3_readLevel cX3_readLevel 6 none ∈ GW := bz_gw3 (i := 14) rfl rfl
theorem ki_X3_readLevel : Cond.instanceMethod yX3_readLevel ∈ GW := bz_gw3 (i := 13) rfl rfl
theorem kl_X3_readLevel : Cond.selects RX3 yX3_readLevel yX3_readLevel ∈ GW := bz_gw0 (i := 1) rfl rfl
theorem kk_X3_readUnit : Cond.code yX3_readUnit cX3_readUnit 3 none ∈ GW := bz_gw3 (i := 18) rfl rfl
theorem ki_X3_readUnit : Cond.instanceMethod yX3_readUnit ∈ GW := bz_gw3 (i := 17) rfl rfl
theorem kl_X3_readUnit : Cond.selects RX3 yX3_readUnit yX3_readUnit ∈ GW := bz_gw0 (i := 2) rfl rfl
theorem kk_X3_close : Cond.code yX3_close cX3_close 1 none ∈ GW := bz_gw3 (i := 43) rfl rfl
theorem ki_X3_close : Cond.instanceMethod yX3_close ∈ GW := bz_gw3 (i := 42) rfl rfl
theorem kl_X3_close : Cond.selects RX3 yX3_close yX3_close ∈ GW := bz_gw0 (i := 6) rfl rfl
theorem kk_X3_readNumber : Cond.code yX3_readNumber cX3_readNumber 3 none ∈ GW := bz_gw3 (i := 34) rfl rfl
theorem ki_X3_readNumber : Cond.instanceMethod yX3_readNumber ∈ GW := bz_gw3 (i := 33) rfl rfl
theorem kl_X3_readNumber : Cond.selects RX3 yX3_readNumber yX3_readNumber ∈ GW := bz_gw0 (i := 4) rfl rfl
theorem kk_X3_next : Cond.code yX3_next cX3_next 1 (some .int) ∈ GW := bz_gw3 (i := 22) rfl rfl
theorem ki_X3_next : Cond.instanceMethod yX3_next ∈ GW := bz_gw3 (i := 21) rfl rfl
theorem kl_X3_next : Cond.selects RX3 yX3_next yX3_next ∈ GW := bz_gw0 (i := 3) rfl rfl
theorem kk_X3_isDigit : Cond.code yX3_isDigit cX3_isDigit 1 (some .boolean) ∈ GW := bz_gw3 (i := 30) rfl rfl
theorem ks_X3_isDigit : Cond.static yX3_isDigit ∈ GW := bz_gw3 (i := 29) rfl rfl
theorem kk_X3_nameOf : Cond.code yX3_nameOf cX3_nameOf 2 (some .int) ∈ GW := bz_gw3 (i := 39) rfl rfl
theorem ki_X3_nameOf : Cond.instanceMethod yX3_nameOf ∈ GW := bz_gw3 (i := 38) rfl rfl
theorem kl_X3_nameOf : Cond.selects RX3 yX3_nameOf yX3_nameOf ∈ GW := bz_gw0 (i := 5) rfl rfl
theorem kk_X3_levelOf : Cond.code yX3_levelOf cX3_levelOf 1 (some .int) ∈ GW := bz_gw3 (i := 46) rfl rfl
theorem ks_X3_levelOf : Cond.static yX3_levelOf ∈ GW := bz_gw3 (i := 45) rfl rfl
theorem kk_X4_init : Cond.code yX4_init cX4_init 2 none ∈ GW := bz_gw1 (i := 78) rfl rfl
theorem ki_X4_init : Cond.instanceMethod yX4_init ∈ GW := bz_gw1 (i := 77) rfl rfl
theorem kk_X4_has : Cond.code yX4_has cX4_has 2 (some .boolean) ∈ GW := bz_gw3 (i := 26) rfl rfl
theorem ki_X4_has : Cond.instanceMethod yX4_has ∈ GW := bz_gw3 (i := 24) rfl rfl
theorem kl_X4_has : Cond.selects RX4 yX4_has yX4_has ∈ GW := bz_gw3 (i := 25) rfl rfl
theorem kk_X4_at : Cond.code yX4_at cX4_at 2 (some .int) ∈ GW := bz_gw2 (i := 125) rfl rfl
theorem ki_X4_at : Cond.instanceMethod yX4_at ∈ GW := bz_gw2 (i := 123) rfl rfl
theorem kl_X4_at : Cond.selects RX4 yX4_at yX4_at ∈ GW := bz_gw2 (i := 124) rfl rfl
theorem kk_X4_write : Cond.code yX4_write cX4_write 3 none ∈ GW := bz_gw4 (i := 83) rfl rfl
theorem ki_X4_write : Cond.instanceMethod yX4_write ∈ GW := bz_gw4 (i := 81) rfl rfl
theorem kl_X4_write : Cond.selects RX4 yX4_write yX4_write ∈ GW := bz_gw4 (i := 82) rfl rfl
theorem kk_X4_add : Cond.code yX4_add cX4_add 2 (some .boolean) ∈ GW := bz_gw2 (i := 222) rfl rfl
theorem ki_X4_add : Cond.instanceMethod yX4_add ∈ GW := bz_gw2 (i := 220) rfl rfl
theorem kl_X4_add : Cond.selects RX4 yX4_add yX4_add ∈ GW := bz_gw2 (i := 221) rfl rfl
theorem kk_X4_clear : Cond.code yX4_clear cX4_clear 1 none ∈ GW := bz_gw3 (i := 10) rfl rfl
theorem ki_X4_clear : Cond.instanceMethod yX4_clear ∈ GW := bz_gw3 (i := 8) rfl rfl
theorem kl_X4_clear : Cond.selects RX4 yX4_clear yX4_clear ∈ GW := bz_gw3 (i := 9) rfl rfl
theorem kk_X4_fillWithZeros : Cond.code yX4_fillWithZeros cX4_fillWithZeros 3 none ∈ GW := bz_gw4 (i := 71) rfl rfl
theorem ki_X4_fillWithZeros : Cond.instanceMethod yX4_fillWithZeros ∈ GW := bz_gw4 (i := 69) rfl rfl
theorem kl_X4_fillWithZeros : Cond.selects RX4 yX4_fillWithZeros yX4_fillWithZeros ∈ GW := bz_gw4 (i := 70) rfl rfl
theorem kk_X4_hasRun : Cond.code yX4_hasRun cX4_hasRun 3 (some .boolean) ∈ GW := bz_gw3 (i := 3) rfl rfl
theorem ki_X4_hasRun : Cond.instanceMethod yX4_hasRun ∈ GW := bz_gw3 (i := 1) rfl rfl
theorem kl_X4_hasRun : Cond.selects RX4 yX4_hasRun yX4_hasRun ∈ GW := bz_gw3 (i := 2) rfl rfl
theorem kk_X4_takeRun : Cond.code yX4_takeRun cX4_takeRun 5 none ∈ GW := bz_gw2 (i := 239) rfl rfl
theorem ki_X4_takeRun : Cond.instanceMethod yX4_takeRun ∈ GW := bz_gw2 (i := 237) rfl rfl
theorem kl_X4_takeRun : Cond.selects RX4 yX4_takeRun yX4_takeRun ∈ GW := bz_gw2 (i := 238) rfl rfl
theorem kk_X4_copyFrom : Cond.code yX4_copyFrom cX4_copyFrom 2 none ∈ GW := bz_gw2 (i := 234) rfl rfl
theorem ki_X4_copyFrom : Cond.instanceMethod yX4_copyFrom ∈ GW := bz_gw2 (i := 232) rfl rfl
theorem kl_X4_copyFrom : Cond.selects RX4 yX4_copyFrom yX4_copyFrom ∈ GW := bz_gw2 (i := 233) rfl rfl
theorem kk_X5_init : Cond.code yX5_init cX5_init 1 none ∈ GW := bz_gw2 (i := 15) rfl rfl
theorem ki_X5_init : Cond.instanceMethod yX5_init ∈ GW := bz_gw2 (i := 14) rfl rfl
theorem kk_X5_areBits : Cond.code yX5_areBits cX5_areBits 1 (some .boolean) ∈ GW := bz_gw4 (i := 63) rfl rfl
theorem ks_X5_areBits : Cond.static yX5_areBits ∈ GW := bz_gw4 (i := 62) rfl rfl
theorem kk_X5_isMissing : Cond.code yX5_isMissing cX5_isMissing 1 (some .boolean) ∈ GW := bz_gw3 (i := 142) rfl rfl
theorem ki_X5_isMissing : Cond.instanceMethod yX5_isMissing ∈ GW := bz_gw3 (i := 140) rfl rfl
theorem kl_X5_isMissing : Cond.selects RX5 yX5_isMissing yX5_isMissing ∈ GW := bz_gw3 (i := 141) rfl rfl
theorem kk_X5_make : Cond.code yX5_make cX5_make 3 none ∈ GW := bz_gw4 (i := 67) rfl rfl
theorem ki_X5_make : Cond.instanceMethod yX5_make ∈ GW := bz_gw4 (i := 65) rfl rfl
theorem kl_X5_make : Cond.selects RX5 yX5_make yX5_make ∈ GW := bz_gw4 (i := 66) rfl rfl
theorem kk_X5_write : Cond.code yX5_write cX5_write 3 none ∈ GW := bz_gw4 (i := 79) rfl rfl
theorem ki_X5_write : Cond.instanceMethod yX5_write ∈ GW := bz_gw4 (i := 77) rfl rfl
theorem kl_X5_write : Cond.selects RX5 yX5_write yX5_write ∈ GW := bz_gw4 (i := 78) rfl rfl
theorem kk_X6_init : Cond.code yX6_init cX6_init 1 none ∈ GW := bz_gw1 (i := 27) rfl rfl
theorem ki_X6_init : Cond.instanceMethod yX6_init ∈ GW := bz_gw1 (i := 26) rfl rfl
theorem kk_X6_partOfFigure : Cond.code yX6_partOfFigure cX6_partOfFigure 2 (some .int) ∈ GW := bz_gw2 (i := 86) rfl rfl
theorem ki_X6_partOfFigure : Cond.instanceMethod yX6_partOfFigure ∈ GW := bz_gw2 (i := 84) rfl rfl
theorem kl_X6_partOfFigure : Cond.selects RX6 yX6_partOfFigure yX6_partOfFigure ∈ GW := bz_gw2 (i := 85) rfl rfl
theorem kk_X6_setPartOfFigure : Cond.code yX6_setPartOfFigure cX6_setPartOfFigure 3 none ∈ GW := bz_gw2 (i := 90) rfl rfl
theorem ki_X6_setPartOfFigure : Cond.instanceMethod yX6_setPartOfFigure ∈ GW := bz_gw2 (i := 88) rfl rfl
theorem kl_X6_setPartOfFigure : Cond.selects RX6 yX6_setPartOfFigure yX6_setPartOfFigure ∈ GW := bz_gw2 (i := 89) rfl rfl
theorem kk_X6_drawRain : Cond.code yX6_drawRain cX6_drawRain 3 none ∈ GW := bz_gw3 (i := 84) rfl rfl
theorem ki_X6_drawRain : Cond.instanceMethod yX6_drawRain ∈ GW := bz_gw3 (i := 82) rfl rfl
theorem kl_X6_drawRain : Cond.selects RX6 yX6_drawRain yX6_drawRain ∈ GW := bz_gw3 (i := 83) rfl rfl
theorem kk_X6_draw : Cond.code yX6_draw cX6_draw 1 (some .int) ∈ GW := bz_gw3 (i := 88) rfl rfl
theorem ki_X6_draw : Cond.instanceMethod yX6_draw ∈ GW := bz_gw3 (i := 87) rfl rfl
theorem kl_X6_draw : Cond.selects RX6 yX6_draw yX6_draw ∈ GW := bz_gw0 (i := 8) rfl rfl
theorem kk_X6_copyFrom : Cond.code yX6_copyFrom cX6_copyFrom 2 none ∈ GW := bz_gw4 (i := 118) rfl rfl
theorem ki_X6_copyFrom : Cond.instanceMethod yX6_copyFrom ∈ GW := bz_gw4 (i := 116) rfl rfl
theorem kl_X6_copyFrom : Cond.selects RX6 yX6_copyFrom yX6_copyFrom ∈ GW := bz_gw4 (i := 117) rfl rfl
theorem kk_X7_init : Cond.code yX7_init cX7_init 1 none ∈ GW := bz_gw1 (i := 39) rfl rfl
theorem ki_X7_init : Cond.instanceMethod yX7_init ∈ GW := bz_gw1 (i := 38) rfl rfl
theorem kk_X7_has : Cond.code yX7_has cX7_has 2 (some .boolean) ∈ GW := bz_gw2 (i := 177) rfl rfl
theorem ki_X7_has : Cond.instanceMethod yX7_has ∈ GW := bz_gw2 (i := 175) rfl rfl
theorem kl_X7_has : Cond.selects RX7 yX7_has yX7_has ∈ GW := bz_gw2 (i := 176) rfl rfl
theorem kk_X7_add : Cond.code yX7_add cX7_add 4 (some .int) ∈ GW := bz_gw2 (i := 168) rfl rfl
theorem ki_X7_add : Cond.instanceMethod yX7_add ∈ GW := bz_gw2 (i := 166) rfl rfl
theorem kl_X7_add : Cond.selects RX7 yX7_add yX7_add ∈ GW := bz_gw2 (i := 167) rfl rfl
theorem kk_X7_kindAbove : Cond.code yX7_kindAbove cX7_kindAbove 1 (some .int) ∈ GW := bz_gw2 (i := 209) rfl rfl
theorem ks_X7_kindAbove : Cond.static yX7_kindAbove ∈ GW := bz_gw2 (i := 208) rfl rfl
theorem kk_X7_isUnder : Cond.code yX7_isUnder cX7_isUnder 4 (some .boolean) ∈ GW := bz_gw2 (i := 206) rfl rfl
theorem ks_X7_isUnder : Cond.static yX7_isUnder ∈ GW := bz_gw2 (i := 205) rfl rfl
theorem kk_X7_comes : Cond.code yX7_comes cX7_comes 5 (some .boolean) ∈ GW := bz_gw2 (i := 185) rfl rfl
theorem ki_X7_comes : Cond.instanceMethod yX7_comes ∈ GW := bz_gw2 (i := 183) rfl rfl
theorem kl_X7_comes : Cond.selects RX7 yX7_comes yX7_comes ∈ GW := bz_gw2 (i := 184) rfl rfl
theorem kk_X7_keeps : Cond.code yX7_keeps cX7_keeps 5 (some .int) ∈ GW := bz_gw2 (i := 191) rfl rfl
theorem ki_X7_keeps : Cond.instanceMethod yX7_keeps ∈ GW := bz_gw2 (i := 189) rfl rfl
theorem kl_X7_keeps : Cond.selects RX7 yX7_keeps yX7_keeps ∈ GW := bz_gw2 (i := 190) rfl rfl
theorem kk_X7_loudOfAll : Cond.code yX7_loudOfAll cX7_loudOfAll 1 (some .int) ∈ GW := bz_gw3 (i := 222) rfl rfl
theorem ki_X7_loudOfAll : Cond.instanceMethod yX7_loudOfAll ∈ GW := bz_gw3 (i := 220) rfl rfl
theorem kl_X7_loudOfAll : Cond.selects RX7 yX7_loudOfAll yX7_loudOfAll ∈ GW := bz_gw3 (i := 221) rfl rfl
theorem kk_X7_loudOf : Cond.code yX7_loudOf cX7_loudOf 4 (some .int) ∈ GW := bz_gw3 (i := 226) rfl rfl
theorem ki_X7_loudOf : Cond.instanceMethod yX7_loudOf ∈ GW := bz_gw3 (i := 225) rfl rfl
theorem kl_X7_loudOf : Cond.selects RX7 yX7_loudOf yX7_loudOf ∈ GW := bz_gw0 (i := 18) rfl rfl
theorem kk_X7_ordersTippedBy : Cond.code yX7_ordersTippedBy cX7_ordersTippedBy 8 (some .int) ∈ GW := bz_gw3 (i := 218) rfl rfl
theorem ki_X7_ordersTippedBy : Cond.instanceMethod yX7_ordersTippedBy ∈ GW := bz_gw3 (i := 216) rfl rfl
theorem kl_X7_ordersTippedBy : Cond.selects RX7 yX7_ordersTippedBy yX7_ordersTippedBy ∈ GW := bz_gw3 (i := 217) rfl rfl
theorem kk_X7_ordersOf : Cond.code yX7_ordersOf cX7_ordersOf 1 (some .int) ∈ GW := bz_gw3 (i := 230) rfl rfl
theorem ks_X7_ordersOf : Cond.static yX7_ordersOf ∈ GW := bz_gw3 (i := 229) rfl rfl
theorem kk_X7_firstNotSoLoud : Cond.code yX7_firstNotSoLoud cX7_firstNotSoLoud 4 (some .int) ∈ GW := bz_gw4 (i := 107) rfl rfl
theorem ki_X7_firstNotSoLoud : Cond.instanceMethod yX7_firstNotSoLoud ∈ GW := bz_gw4 (i := 105) rfl rfl
theorem kl_X7_firstNotSoLoud : Cond.selects RX7 yX7_firstNotSoLoud yX7_firstNotSoLoud ∈ GW := bz_gw4 (i := 106) rfl rfl
theorem kk_X7_copyFrom : Cond.code yX7_copyFrom cX7_copyFrom 2 none ∈ GW := bz_gw3 (i := 107) rfl rfl
theorem ki_X7_copyFrom : Cond.instanceMethod yX7_copyFrom ∈ GW := bz_gw3 (i := 105) rfl rfl
theorem kl_X7_copyFrom : Cond.selects RX7 yX7_copyFrom yX7_copyFrom ∈ GW := bz_gw3 (i := 106) rfl rfl
theorem kk_X8_init : Cond.code yX8_init cX8_init 1 none ∈ GW := bz_gw1 (i := 234) rfl rfl
theorem ki_X8_init : Cond.instanceMethod yX8_init ∈ GW := bz_gw1 (i := 233) rfl rfl
theorem kk_X8_raise : Cond.code yX8_raise cX8_raise 6 (some .int) ∈ GW := bz_gw4 (i := 27) rfl rfl
theorem ki_X8_raise : Cond.instanceMethod yX8_raise ∈ GW := bz_gw4 (i := 25) rfl rfl
theorem kl_X8_raise : Cond.selects RX8 yX8_raise yX8_raise ∈ GW := bz_gw4 (i := 26) rfl rfl
theorem kk_X8_say : Cond.code yX8_say cX8_say 8 (some .int) ∈ GW := bz_gw4 (i := 32) rfl rfl
theorem ki_X8_say : Cond.instanceMethod yX8_say ∈ GW := bz_gw4 (i := 31) rfl rfl
theorem kl_X8_say : Cond.selects RX8 yX8_say yX8_say ∈ GW := bz_gw0 (i := 20) rfl rfl
theorem kk_X8_sayPlain : Cond.code yX8_sayPlain cX8_sayPlain 4 (some .int) ∈ GW := bz_gw4 (i := 47) rfl rfl
theorem ki_X8_sayPlain : Cond.instanceMethod yX8_sayPlain ∈ GW := bz_gw4 (i := 46) rfl rfl
theorem kl_X8_sayPlain : Cond.selects RX8 yX8_sayPlain yX8_sayPlain ∈ GW := bz_gw0 (i := 21) rfl rfl
theorem kk_X8_saySpecial : Cond.code yX8_saySpecial cX8_saySpecial 5 (some .int) ∈ GW := bz_gw4 (i := 51) rfl rfl
theorem ki_X8_saySpecial : Cond.instanceMethod yX8_saySpecial ∈ GW := bz_gw4 (i := 50) rfl rfl
theorem kl_X8_saySpecial : Cond.selects RX8 yX8_saySpecial yX8_saySpecial ∈ GW := bz_gw0 (i := 22) rfl rfl
theorem kk_X8_ownerOf : Cond.code yX8_ownerOf cX8_ownerOf 4 (some .int) ∈ GW := bz_gw4 (i := 35) rfl rfl
theorem ks_X8_ownerOf : Cond.static yX8_ownerOf ∈ GW := bz_gw4 (i := 34) rfl rfl
theorem kk_X8_bodyOf : Cond.code yX8_bodyOf cX8_bodyOf 3 (some .int) ∈ GW := bz_gw4 (i := 38) rfl rfl
theorem ks_X8_bodyOf : Cond.static yX8_bodyOf ∈ GW := bz_gw4 (i := 37) rfl rfl
theorem kk_J_bitCount : Cond.code yJ_bitCount cJ_bitCount 1 (some .int) ∈ GW := bz_gw3 (i := 168) rfl rfl
theorem ks_J_bitCount : Cond.static yJ_bitCount ∈ GW := bz_gw3 (i := 167) rfl rfl
theorem kk_J_floorMod : Cond.code yJ_floorMod cJ_floorMod 3 (some .int) ∈ GW := bz_gw2 (i := 109) rfl rfl
theorem ks_J_floorMod : Cond.static yJ_floorMod ∈ GW := bz_gw2 (i := 108) rfl rfl
theorem kk_J_max : Cond.code yJ_max cJ_max 2 (some .int) ∈ GW := bz_gw1 (i := 82) rfl rfl
theorem ks_J_max : Cond.static yJ_max ∈ GW := bz_gw1 (i := 81) rfl rfl
theorem kk_J_min : Cond.code yJ_min cJ_min 2 (some .int) ∈ GW := bz_gw2 (i := 134) rfl rfl
theorem ks_J_min : Cond.static yJ_min ∈ GW := bz_gw2 (i := 133) rfl rfl
theorem kn_X0 : Cond.initialized RX0 ∈ GW := bz_gw1 (i := 3) rfl rfl
theorem kn_X1 : Cond.initialized RX1 ∈ GW := bz_gw1 (i := 8) rfl rfl
theorem kn_X2 : Cond.initialized RX2 ∈ GW := bz_gw1 (i := 5) rfl rfl
theorem kn_X3 : Cond.initialized RX3 ∈ GW := bz_gw1 (i := 9) rfl rfl
theorem kn_X4 : Cond.initialized RX4 ∈ GW := bz_gw1 (i := 6) rfl rfl
theorem kn_X5 : Cond.initialized RX5 ∈ GW := bz_gw1 (i := 11) rfl rfl
theorem kn_X6 : Cond.initialized RX6 ∈ GW := bz_gw1 (i := 2) rfl rfl
theorem kn_X7 : Cond.initialized RX7 ∈ GW := bz_gw1 (i := 4) rfl rfl
theorem kn_X8 : Cond.initialized RX8 ∈ GW := bz_gw1 (i := 10) rfl rfl
theorem kn_X9 : Cond.initialized RX9 ∈ GW := bz_gw1 (i := 1) rfl rfl
theorem kn_X10 : Cond.initialized RX10 ∈ GW := bz_gw1 (i := 12) rfl rfl
theorem kn_JM : Cond.initialized "java/lang/Math" ∈ GW := bz_gw1 (i := 7) rfl rfl
theorem kn_JI : Cond.initialized "java/lang/Integer" ∈ GW := bz_gw1 (i := 14) rfl rfl
theorem kn_JS : Cond.initialized "java/lang/System" ∈ GW := bz_gw1 (i := 13) rfl rfl
theorem kx_native : Cond.native arraycopyName ∈ GW := bz_gw3 (i := 6) rfl rfl
theorem kx_static : Cond.static arraycopyName ∈ GW := bz_gw3 (i := 5) rfl rfl
