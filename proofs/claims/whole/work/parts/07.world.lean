/-! Methods and classes by number, as the Statement has them. Made by wip/whole/world.py. -/
def nm (y : Nat) : MethodName := (bif Nat.ble y 159 then (bif Nat.ble y 79 then (bif Nat.ble y 39 then (bif Nat.ble y 19 then (bif Nat.ble y 9 then (bif Nat.ble y 4 then (bif Nat.ble y 1 then (bif Nat.ble y 0 then yL_law else yX0_init) else (bif Nat.ble y 2 then yX0_clear else (bif Nat.ble y 3 then yX0_emit else yX0_endClue))) else (bif Nat.ble y 6 then (bif Nat.ble y 5 then yX0_maskFor else yX0_look) else (bif Nat.ble y 7 then yX0_apply else (bif Nat.ble y 8 then yX0_joined else yX0_kept)))) else (bif Nat.ble y 14 then (bif Nat.ble y 11 then (bif Nat.ble y 10 then yX0_push else yX0_pop) else (bif Nat.ble y 12 then yX1_init else (bif Nat.ble y 13 then yX1_mark else yX1_keep))) else (bif Nat.ble y 16 then (bif Nat.ble y 15 then yX1_latest else yX1_forget) else (bif Nat.ble y 17 then yX2_init else (bif Nat.ble y 18 then yX2_lay else yX2_weigh))))) else (bif Nat.ble y 29 then (bif Nat.ble y 24 then (bif Nat.ble y 21 then (bif Nat.ble y 20 then yX2_measure else yX2_solve) else (bif Nat.ble y 22 then yX2_inRow else (bif Nat.ble y 23 then yX2_layLegs else yX2_nextBy))) else (bif Nat.ble y 26 then (bif Nat.ble y 25 then yX2_costBy else yX3_init) else (bif Nat.ble y 27 then yX3_begin else (bif Nat.ble y 28 then yX3_takeFrom else yX3_maskOf)))) else (bif Nat.ble y 34 then (bif Nat.ble y 31 then (bif Nat.ble y 30 then yX3_hasMark else yX3_isLeft) else (bif Nat.ble y 32 then yX3_isCell else (bif Nat.ble y 33 then yX3_leftOnes else yX3_attempt))) else (bif Nat.ble y 36 then (bif Nat.ble y 35 then yX3_touch else yX3_takeBack) else (bif Nat.ble y 37 then yX3_markUnfelt else (bif Nat.ble y 38 then yX4_init else yX4_take)))))) else (bif Nat.ble y 59 then (bif Nat.ble y 49 then (bif Nat.ble y 44 then (bif Nat.ble y 41 then (bif Nat.ble y 40 then yX4_note else yX5_init) else (bif Nat.ble y 42 then yX5_single else (bif Nat.ble y 43 then yX5_pairs else yX5_waysOf))) else (bif Nat.ble y 46 then (bif Nat.ble y 45 then yX5_pairOf else yX5_turnsOfTwo) else (bif Nat.ble y 47 then yX6_init else (bif Nat.ble y 48 then yX6_rank else yX6_at)))) else (bif Nat.ble y 54 then (bif Nat.ble y 51 then (bif Nat.ble y 50 then yX6_countMasks else yX6_sortMasks) else (bif Nat.ble y 52 then yX6_shareOut else (bif Nat.ble y 53 then yX7_init else yX7_readText))) else (bif Nat.ble y 56 then (bif Nat.ble y 55 then yX7_kind else yX7_refuse) else (bif Nat.ble y 57 then yX7_take else (bif Nat.ble y 58 then yX7_takeIf else yX7_takeN))))) else (bif Nat.ble y 69 then (bif Nat.ble y 64 then (bif Nat.ble y 61 then (bif Nat.ble y 60 then yX7_readLine else yX7_readWheel) else (bif Nat.ble y 62 then yX7_readClue else (bif Nat.ble y 63 then yX7_readBar else yX7_readMate))) else (bif Nat.ble y 66 then (bif Nat.ble y 65 then yX7_readFigures else yX7_readTruth) else (bif Nat.ble y 67 then yX7_readAllOf else (bif Nat.ble y 68 then yX7_readUnit else yX7_readComparison)))) else (bif Nat.ble y 74 then (bif Nat.ble y 71 then (bif Nat.ble y 70 then yX7_readSum else yX7_readTerm) else (bif Nat.ble y 72 then yX7_readAtom else (bif Nat.ble y 73 then yX7_putOperand else yX7_readName))) else (bif Nat.ble y 76 then (bif Nat.ble y 75 then yX8_init else yX8_clear) else (bif Nat.ble y 77 then yX8_addWheel else (bif Nat.ble y 78 then yX8_settle else yX8_takeFrom))))))) else (bif Nat.ble y 119 then (bif Nat.ble y 99 then (bif Nat.ble y 89 then (bif Nat.ble y 84 then (bif Nat.ble y 81 then (bif Nat.ble y 80 then yX8_fillWeights else yX8_figureOf) else (bif Nat.ble y 82 then yX8_turnsOfWheel else (bif Nat.ble y 83 then yX8_turns else yX8_onTheWay))) else (bif Nat.ble y 86 then (bif Nat.ble y 85 then yX8_placeOnTheWay else yX8_turnedIfOdd) else (bif Nat.ble y 87 then yX8_turnsOfTheWay else (bif Nat.ble y 88 then yX9_init else yX9_split)))) else (bif Nat.ble y 94 then (bif Nat.ble y 91 then (bif Nat.ble y 90 then yX9_kindAt else yX9_valueAt) else (bif Nat.ble y 92 then yX9_placeAt else (bif Nat.ble y 93 then yX9_push else yX9_isLetter))) else (bif Nat.ble y 96 then (bif Nat.ble y 95 then yX9_isDigit else yX9_endOfRun) else (bif Nat.ble y 97 then yX9_kindOf else (bif Nat.ble y 98 then yX9_valueOf else yX9_wordKind))))) else (bif Nat.ble y 109 then (bif Nat.ble y 104 then (bif Nat.ble y 101 then (bif Nat.ble y 100 then yX9_isWord else yX10_init) else (bif Nat.ble y 102 then yX10_isMissing else (bif Nat.ble y 103 then yX10_lay else yX10_at))) else (bif Nat.ble y 106 then (bif Nat.ble y 105 then yX10_put else yX10_allWithin) else (bif Nat.ble y 107 then yX10_has else (bif Nat.ble y 108 then yX10_unlikeOnes else yX10_firstPlaceOf)))) else (bif Nat.ble y 114 then (bif Nat.ble y 111 then (bif Nat.ble y 110 then yX10_cut else yX11_init) else (bif Nat.ble y 112 then yX11_feed else (bif Nat.ble y 113 then yX11_shed else yX11_fault))) else (bif Nat.ble y 116 then (bif Nat.ble y 115 then yX11_wheel else yX11_holds) else (bif Nat.ble y 117 then yX11_figure else (bif Nat.ble y 118 then yX11_likely else yX11_left)))))) else (bif Nat.ble y 139 then (bif Nat.ble y 129 then (bif Nat.ble y 124 then (bif Nat.ble y 121 then (bif Nat.ble y 120 then yX11_all else yX11_order) else (bif Nat.ble y 122 then yX11_chance else (bif Nat.ble y 123 then yX11_mean else yX11_tells))) else (bif Nat.ble y 126 then (bif Nat.ble y 125 then yX11_telling else yX11_but) else (bif Nat.ble y 127 then yX11_tries else (bif Nat.ble y 128 then yX11_feel else yX11_undo)))) else (bif Nat.ble y 134 then (bif Nat.ble y 131 then (bif Nat.ble y 130 then yX11_judge else yX11_perform) else (bif Nat.ble y 132 then yX11_year else (bif Nat.ble y 133 then yX11_steps else yX11_nearest))) else (bif Nat.ble y 136 then (bif Nat.ble y 135 then yX11_through else yX11_along) else (bif Nat.ble y 137 then yX11_length else (bif Nat.ble y 138 then yX11_best else yX11_shortest))))) else (bif Nat.ble y 149 then (bif Nat.ble y 144 then (bif Nat.ble y 141 then (bif Nat.ble y 140 then yX11_saw else yX11_mate) else (bif Nat.ble y 142 then yX11_guarded else (bif Nat.ble y 143 then yX11_danger else yX11_both))) else (bif Nat.ble y 146 then (bif Nat.ble y 145 then yX11_hidden else yX11_who) else (bif Nat.ble y 147 then yX11_rows else (bif Nat.ble y 148 then yX11_near else yX11_numbers)))) else (bif Nat.ble y 154 then (bif Nat.ble y 151 then (bif Nat.ble y 150 then yX11_write else yX11_copy) else (bif Nat.ble y 152 then yX11_image else (bif Nat.ble y 153 then yX11_restore else yX11_count))) else (bif Nat.ble y 156 then (bif Nat.ble y 155 then yX11_isWheel else yX11_isFigure) else (bif Nat.ble y 157 then yX11_isNumber else (bif Nat.ble y 158 then yX11_isMate else yX11_isTray)))))))) else (bif Nat.ble y 239 then (bif Nat.ble y 199 then (bif Nat.ble y 179 then (bif Nat.ble y 169 then (bif Nat.ble y 164 then (bif Nat.ble y 161 then (bif Nat.ble y 160 then yX11_isImage else yX11_isPart) else (bif Nat.ble y 162 then yX11_putBytes else (bif Nat.ble y 163 then yX11_sureFigure else yX11_leftWeight))) else (bif Nat.ble y 166 then (bif Nat.ble y 165 then yX11_leftSum else yX11_leftWeightHeld) else (bif Nat.ble y 167 then yX11_rankLeft else (bif Nat.ble y 168 then yX11_rankOfMate else yX11_leftWeightOfFirst)))) else (bif Nat.ble y 174 then (bif Nat.ble y 171 then (bif Nat.ble y 170 then yX11_lowest else yX11_commonDivisor) else (bif Nat.ble y 172 then yX11_tryTray else (bif Nat.ble y 173 then yX11_nextDraw else yX11_drawNumber))) else (bif Nat.ble y 176 then (bif Nat.ble y 175 then yX11_firstInOrder else yX11_leftByNumber) else (bif Nat.ble y 177 then yX11_nearestLeft else (bif Nat.ble y 178 then yX11_latestLeft else yX11_takeRow))))) else (bif Nat.ble y 189 then (bif Nat.ble y 184 then (bif Nat.ble y 181 then (bif Nat.ble y 180 then yX11_planSawing else yX11_beginsWith) else (bif Nat.ble y 182 then yX11_roomFor else (bif Nat.ble y 183 then yX12_within else yX12_init))) else (bif Nat.ble y 186 then (bif Nat.ble y 185 then yX12_plain else yX12_feed) else (bif Nat.ble y 187 then yX12_see else (bif Nat.ble y 188 then yX12_isSmall else yX12_isDigit)))) else (bif Nat.ble y 194 then (bif Nat.ble y 191 then (bif Nat.ble y 190 then yX12_keyAt else yX12_next) else (bif Nat.ble y 192 then yX12_fails else (bif Nat.ble y 193 then yX12_is else yX12_eats))) else (bif Nat.ble y 196 then (bif Nat.ble y 195 then yX12_takes else yX12_isIn) else (bif Nat.ble y 197 then yX12_readWheel else (bif Nat.ble y 198 then yX12_takesNumber else yX12_readMate)))))) else (bif Nat.ble y 219 then (bif Nat.ble y 209 then (bif Nat.ble y 204 then (bif Nat.ble y 201 then (bif Nat.ble y 200 then yX12_codes else yX12_goesIn) else (bif Nat.ble y 202 then yX12_readAtom else (bif Nat.ble y 203 then yX12_readTerm else yX12_readSum))) else (bif Nat.ble y 206 then (bif Nat.ble y 205 then yX12_readUnit else yX12_readBoth) else (bif Nat.ble y 207 then yX12_readTruth else (bif Nat.ble y 208 then yX12_readClue else yX12_readBar)))) else (bif Nat.ble y 214 then (bif Nat.ble y 211 then (bif Nat.ble y 210 then yX12_laysFigures else yX12_wordOf) else (bif Nat.ble y 212 then yX12_between else (bif Nat.ble y 213 then yX12_holdsFor else yX12_laysHolds))) else (bif Nat.ble y 216 then (bif Nat.ble y 215 then yX12_readLine else yX12_shed) else (bif Nat.ble y 217 then yX12_fault else (bif Nat.ble y 218 then yX12_isNumber else yX12_isWheel))))) else (bif Nat.ble y 229 then (bif Nat.ble y 224 then (bif Nat.ble y 221 then (bif Nat.ble y 220 then yX12_figureOf else yX12_isTried) else (bif Nat.ble y 222 then yX12_weightBy else (bif Nat.ble y 223 then yX12_everyClue else yX12_isFelt))) else (bif Nat.ble y 226 then (bif Nat.ble y 225 then yX12_laysRanks else yX12_isLeft) else (bif Nat.ble y 227 then yX12_laysOrder else (bif Nat.ble y 228 then yX12_laysLeft else yX12_weightAt)))) else (bif Nat.ble y 234 then (bif Nat.ble y 231 then (bif Nat.ble y 230 then yX12_weightAll else yX12_sureFigure) else (bif Nat.ble y 232 then yX12_wheel else (bif Nat.ble y 233 then yX12_holds else yX12_figure))) else (bif Nat.ble y 236 then (bif Nat.ble y 235 then yX12_common else yX12_part) else (bif Nat.ble y 237 then yX12_likely else (bif Nat.ble y 238 then yX12_left else yX12_all))))))) else (bif Nat.ble y 279 then (bif Nat.ble y 259 then (bif Nat.ble y 249 then (bif Nat.ble y 244 then (bif Nat.ble y 241 then (bif Nat.ble y 240 then yX12_order else yX12_weightFirst) else (bif Nat.ble y 242 then yX12_chance else (bif Nat.ble y 243 then yX12_mean else yX12_tells))) else (bif Nat.ble y 246 then (bif Nat.ble y 245 then yX12_telling else yX12_bitsOf) else (bif Nat.ble y 247 then yX12_but else (bif Nat.ble y 248 then yX12_keeps else yX12_isAgain)))) else (bif Nat.ble y 254 then (bif Nat.ble y 251 then (bif Nat.ble y 250 then yX12_notes else yX12_turns) else (bif Nat.ble y 252 then yX12_goesTo else (bif Nat.ble y 253 then yX12_tries else yX12_feel))) else (bif Nat.ble y 256 then (bif Nat.ble y 255 then yX12_undo else yX12_evenings) else (bif Nat.ble y 257 then yX12_noTray else (bif Nat.ble y 258 then yX12_judge else yX12_perform))))) else (bif Nat.ble y 269 then (bif Nat.ble y 264 then (bif Nat.ble y 261 then (bif Nat.ble y 260 then yX12_draw else yX12_byNumbers) else (bif Nat.ble y 262 then yX12_year else (bif Nat.ble y 263 then yX12_steps else yX12_nearestOf))) else (bif Nat.ble y 266 then (bif Nat.ble y 265 then yX12_nearest else yX12_throughOf) else (bif Nat.ble y 267 then yX12_through else (bif Nat.ble y 268 then yX12_alongOf else yX12_along)))) else (bif Nat.ble y 274 then (bif Nat.ble y 271 then (bif Nat.ble y 270 then yX12_length else yX12_goesRow) else (bif Nat.ble y 272 then yX12_laysRow else (bif Nat.ble y 273 then yX12_best else yX12_shortest))) else (bif Nat.ble y 276 then (bif Nat.ble y 275 then yX12_saw else yX12_isMate) else (bif Nat.ble y 277 then yX12_mate else (bif Nat.ble y 278 then yX12_guardedBy else yX12_guarded)))))) else (bif Nat.ble y 299 then (bif Nat.ble y 289 then (bif Nat.ble y 284 then (bif Nat.ble y 281 then (bif Nat.ble y 280 then yX12_danger else yX12_both) else (bif Nat.ble y 282 then yX12_hidden else (bif Nat.ble y 283 then yX12_isToldIn else yX12_who))) else (bif Nat.ble y 286 then (bif Nat.ble y 285 then yX12_laysHalves else yX12_turnsFast) else (bif Nat.ble y 287 then yX12_noSeconds else (bif Nat.ble y 288 then yX12_goesOn else yX12_laysRows)))) else (bif Nat.ble y 294 then (bif Nat.ble y 291 then (bif Nat.ble y 290 then yX12_rows else yX12_near) else (bif Nat.ble y 292 then yX12_cut else (bif Nat.ble y 293 then yX12_numbers else yX12_write))) else (bif Nat.ble y 296 then (bif Nat.ble y 295 then yX12_copy else yX12_image) else (bif Nat.ble y 297 then yX12_restore else (bif Nat.ble y 298 then yX12_triedMany else yX12_count))))) else (bif Nat.ble y 309 then (bif Nat.ble y 304 then (bif Nat.ble y 301 then (bif Nat.ble y 300 then yJ6_bitCount_0f7a4 else yJ9_abs_0f7a4) else (bif Nat.ble y 302 then yJ9_max_7cf53 else (bif Nat.ble y 303 then yJ9_max_f86c9 else yJ9_min_7cf53))) else (bif Nat.ble y 306 then (bif Nat.ble y 305 then yJ9_min_f86c9 else yJ0_length_8abf5) else (bif Nat.ble y 307 then yJ0_charAt_5068e else (bif Nat.ble y 308 then yJ0_indexOf_0f7a4 else yJ0_indexOf_7cf53)))) else (bif Nat.ble y 314 then (bif Nat.ble y 311 then (bif Nat.ble y 310 then yJ0_coder_7d493 else yJ0_isLatin1_aae02) else (bif Nat.ble y 312 then yJ0_checkIndex_df160 else (bif Nat.ble y 313 then yJ1_charAt_3b067 else yJ1_canEncode_9a6ad))) else (bif Nat.ble y 316 then (bif Nat.ble y 315 then yJ1_indexOf_4cfef else yJ1_indexOfChar_4cfef) else (bif Nat.ble y 317 then yJ7_fill_d0a16 else (bif Nat.ble y 318 then yJ7_fill_53178 else yJ3_checkIndex_8e157)))))))))
def bt (y : Nat) : ByteArray := (bif Nat.ble y 159 then (bif Nat.ble y 79 then (bif Nat.ble y 39 then (bif Nat.ble y 19 then (bif Nat.ble y 9 then (bif Nat.ble y 4 then (bif Nat.ble y 1 then (bif Nat.ble y 0 then cL_law else cX0_init) else (bif Nat.ble y 2 then cX0_clear else (bif Nat.ble y 3 then cX0_emit else cX0_endClue))) else (bif Nat.ble y 6 then (bif Nat.ble y 5 then cX0_maskFor else cX0_look) else (bif Nat.ble y 7 then cX0_apply else (bif Nat.ble y 8 then cX0_joined else cX0_kept)))) else (bif Nat.ble y 14 then (bif Nat.ble y 11 then (bif Nat.ble y 10 then cX0_push else cX0_pop) else (bif Nat.ble y 12 then cX1_init else (bif Nat.ble y 13 then cX1_mark else cX1_keep))) else (bif Nat.ble y 16 then (bif Nat.ble y 15 then cX1_latest else cX1_forget) else (bif Nat.ble y 17 then cX2_init else (bif Nat.ble y 18 then cX2_lay else cX2_weigh))))) else (bif Nat.ble y 29 then (bif Nat.ble y 24 then (bif Nat.ble y 21 then (bif Nat.ble y 20 then cX2_measure else cX2_solve) else (bif Nat.ble y 22 then cX2_inRow else (bif Nat.ble y 23 then cX2_layLegs else cX2_nextBy))) else (bif Nat.ble y 26 then (bif Nat.ble y 25 then cX2_costBy else cX3_init) else (bif Nat.ble y 27 then cX3_begin else (bif Nat.ble y 28 then cX3_takeFrom else cX3_maskOf)))) else (bif Nat.ble y 34 then (bif Nat.ble y 31 then (bif Nat.ble y 30 then cX3_hasMark else cX3_isLeft) else (bif Nat.ble y 32 then cX3_isCell else (bif Nat.ble y 33 then cX3_leftOnes else cX3_attempt))) else (bif Nat.ble y 36 then (bif Nat.ble y 35 then cX3_touch else cX3_takeBack) else (bif Nat.ble y 37 then cX3_markUnfelt else (bif Nat.ble y 38 then cX4_init else cX4_take)))))) else (bif Nat.ble y 59 then (bif Nat.ble y 49 then (bif Nat.ble y 44 then (bif Nat.ble y 41 then (bif Nat.ble y 40 then cX4_note else cX5_init) else (bif Nat.ble y 42 then cX5_single else (bif Nat.ble y 43 then cX5_pairs else cX5_waysOf))) else (bif Nat.ble y 46 then (bif Nat.ble y 45 then cX5_pairOf else cX5_turnsOfTwo) else (bif Nat.ble y 47 then cX6_init else (bif Nat.ble y 48 then cX6_rank else cX6_at)))) else (bif Nat.ble y 54 then (bif Nat.ble y 51 then (bif Nat.ble y 50 then cX6_countMasks else cX6_sortMasks) else (bif Nat.ble y 52 then cX6_shareOut else (bif Nat.ble y 53 then cX7_init else cX7_readText))) else (bif Nat.ble y 56 then (bif Nat.ble y 55 then cX7_kind else cX7_refuse) else (bif Nat.ble y 57 then cX7_take else (bif Nat.ble y 58 then cX7_takeIf else cX7_takeN))))) else (bif Nat.ble y 69 then (bif Nat.ble y 64 then (bif Nat.ble y 61 then (bif Nat.ble y 60 then cX7_readLine else cX7_readWheel) else (bif Nat.ble y 62 then cX7_readClue else (bif Nat.ble y 63 then cX7_readBar else cX7_readMate))) else (bif Nat.ble y 66 then (bif Nat.ble y 65 then cX7_readFigures else cX7_readTruth) else (bif Nat.ble y 67 then cX7_readAllOf else (bif Nat.ble y 68 then cX7_readUnit else cX7_readComparison)))) else (bif Nat.ble y 74 then (bif Nat.ble y 71 then (bif Nat.ble y 70 then cX7_readSum else cX7_readTerm) else (bif Nat.ble y 72 then cX7_readAtom else (bif Nat.ble y 73 then cX7_putOperand else cX7_readName))) else (bif Nat.ble y 76 then (bif Nat.ble y 75 then cX8_init else cX8_clear) else (bif Nat.ble y 77 then cX8_addWheel else (bif Nat.ble y 78 then cX8_settle else cX8_takeFrom))))))) else (bif Nat.ble y 119 then (bif Nat.ble y 99 then (bif Nat.ble y 89 then (bif Nat.ble y 84 then (bif Nat.ble y 81 then (bif Nat.ble y 80 then cX8_fillWeights else cX8_figureOf) else (bif Nat.ble y 82 then cX8_turnsOfWheel else (bif Nat.ble y 83 then cX8_turns else cX8_onTheWay))) else (bif Nat.ble y 86 then (bif Nat.ble y 85 then cX8_placeOnTheWay else cX8_turnedIfOdd) else (bif Nat.ble y 87 then cX8_turnsOfTheWay else (bif Nat.ble y 88 then cX9_init else cX9_split)))) else (bif Nat.ble y 94 then (bif Nat.ble y 91 then (bif Nat.ble y 90 then cX9_kindAt else cX9_valueAt) else (bif Nat.ble y 92 then cX9_placeAt else (bif Nat.ble y 93 then cX9_push else cX9_isLetter))) else (bif Nat.ble y 96 then (bif Nat.ble y 95 then cX9_isDigit else cX9_endOfRun) else (bif Nat.ble y 97 then cX9_kindOf else (bif Nat.ble y 98 then cX9_valueOf else cX9_wordKind))))) else (bif Nat.ble y 109 then (bif Nat.ble y 104 then (bif Nat.ble y 101 then (bif Nat.ble y 100 then cX9_isWord else cX10_init) else (bif Nat.ble y 102 then cX10_isMissing else (bif Nat.ble y 103 then cX10_lay else cX10_at))) else (bif Nat.ble y 106 then (bif Nat.ble y 105 then cX10_put else cX10_allWithin) else (bif Nat.ble y 107 then cX10_has else (bif Nat.ble y 108 then cX10_unlikeOnes else cX10_firstPlaceOf)))) else (bif Nat.ble y 114 then (bif Nat.ble y 111 then (bif Nat.ble y 110 then cX10_cut else cX11_init) else (bif Nat.ble y 112 then cX11_feed else (bif Nat.ble y 113 then cX11_shed else cX11_fault))) else (bif Nat.ble y 116 then (bif Nat.ble y 115 then cX11_wheel else cX11_holds) else (bif Nat.ble y 117 then cX11_figure else (bif Nat.ble y 118 then cX11_likely else cX11_left)))))) else (bif Nat.ble y 139 then (bif Nat.ble y 129 then (bif Nat.ble y 124 then (bif Nat.ble y 121 then (bif Nat.ble y 120 then cX11_all else cX11_order) else (bif Nat.ble y 122 then cX11_chance else (bif Nat.ble y 123 then cX11_mean else cX11_tells))) else (bif Nat.ble y 126 then (bif Nat.ble y 125 then cX11_telling else cX11_but) else (bif Nat.ble y 127 then cX11_tries else (bif Nat.ble y 128 then cX11_feel else cX11_undo)))) else (bif Nat.ble y 134 then (bif Nat.ble y 131 then (bif Nat.ble y 130 then cX11_judge else cX11_perform) else (bif Nat.ble y 132 then cX11_year else (bif Nat.ble y 133 then cX11_steps else cX11_nearest))) else (bif Nat.ble y 136 then (bif Nat.ble y 135 then cX11_through else cX11_along) else (bif Nat.ble y 137 then cX11_length else (bif Nat.ble y 138 then cX11_best else cX11_shortest))))) else (bif Nat.ble y 149 then (bif Nat.ble y 144 then (bif Nat.ble y 141 then (bif Nat.ble y 140 then cX11_saw else cX11_mate) else (bif Nat.ble y 142 then cX11_guarded else (bif Nat.ble y 143 then cX11_danger else cX11_both))) else (bif Nat.ble y 146 then (bif Nat.ble y 145 then cX11_hidden else cX11_who) else (bif Nat.ble y 147 then cX11_rows else (bif Nat.ble y 148 then cX11_near else cX11_numbers)))) else (bif Nat.ble y 154 then (bif Nat.ble y 151 then (bif Nat.ble y 150 then cX11_write else cX11_copy) else (bif Nat.ble y 152 then cX11_image else (bif Nat.ble y 153 then cX11_restore else cX11_count))) else (bif Nat.ble y 156 then (bif Nat.ble y 155 then cX11_isWheel else cX11_isFigure) else (bif Nat.ble y 157 then cX11_isNumber else (bif Nat.ble y 158 then cX11_isMate else cX11_isTray)))))))) else (bif Nat.ble y 239 then (bif Nat.ble y 199 then (bif Nat.ble y 179 then (bif Nat.ble y 169 then (bif Nat.ble y 164 then (bif Nat.ble y 161 then (bif Nat.ble y 160 then cX11_isImage else cX11_isPart) else (bif Nat.ble y 162 then cX11_putBytes else (bif Nat.ble y 163 then cX11_sureFigure else cX11_leftWeight))) else (bif Nat.ble y 166 then (bif Nat.ble y 165 then cX11_leftSum else cX11_leftWeightHeld) else (bif Nat.ble y 167 then cX11_rankLeft else (bif Nat.ble y 168 then cX11_rankOfMate else cX11_leftWeightOfFirst)))) else (bif Nat.ble y 174 then (bif Nat.ble y 171 then (bif Nat.ble y 170 then cX11_lowest else cX11_commonDivisor) else (bif Nat.ble y 172 then cX11_tryTray else (bif Nat.ble y 173 then cX11_nextDraw else cX11_drawNumber))) else (bif Nat.ble y 176 then (bif Nat.ble y 175 then cX11_firstInOrder else cX11_leftByNumber) else (bif Nat.ble y 177 then cX11_nearestLeft else (bif Nat.ble y 178 then cX11_latestLeft else cX11_takeRow))))) else (bif Nat.ble y 189 then (bif Nat.ble y 184 then (bif Nat.ble y 181 then (bif Nat.ble y 180 then cX11_planSawing else cX11_beginsWith) else (bif Nat.ble y 182 then cX11_roomFor else (bif Nat.ble y 183 then cX12_within else cX12_init))) else (bif Nat.ble y 186 then (bif Nat.ble y 185 then cX12_plain else cX12_feed) else (bif Nat.ble y 187 then cX12_see else (bif Nat.ble y 188 then cX12_isSmall else cX12_isDigit)))) else (bif Nat.ble y 194 then (bif Nat.ble y 191 then (bif Nat.ble y 190 then cX12_keyAt else cX12_next) else (bif Nat.ble y 192 then cX12_fails else (bif Nat.ble y 193 then cX12_is else cX12_eats))) else (bif Nat.ble y 196 then (bif Nat.ble y 195 then cX12_takes else cX12_isIn) else (bif Nat.ble y 197 then cX12_readWheel else (bif Nat.ble y 198 then cX12_takesNumber else cX12_readMate)))))) else (bif Nat.ble y 219 then (bif Nat.ble y 209 then (bif Nat.ble y 204 then (bif Nat.ble y 201 then (bif Nat.ble y 200 then cX12_codes else cX12_goesIn) else (bif Nat.ble y 202 then cX12_readAtom else (bif Nat.ble y 203 then cX12_readTerm else cX12_readSum))) else (bif Nat.ble y 206 then (bif Nat.ble y 205 then cX12_readUnit else cX12_readBoth) else (bif Nat.ble y 207 then cX12_readTruth else (bif Nat.ble y 208 then cX12_readClue else cX12_readBar)))) else (bif Nat.ble y 214 then (bif Nat.ble y 211 then (bif Nat.ble y 210 then cX12_laysFigures else cX12_wordOf) else (bif Nat.ble y 212 then cX12_between else (bif Nat.ble y 213 then cX12_holdsFor else cX12_laysHolds))) else (bif Nat.ble y 216 then (bif Nat.ble y 215 then cX12_readLine else cX12_shed) else (bif Nat.ble y 217 then cX12_fault else (bif Nat.ble y 218 then cX12_isNumber else cX12_isWheel))))) else (bif Nat.ble y 229 then (bif Nat.ble y 224 then (bif Nat.ble y 221 then (bif Nat.ble y 220 then cX12_figureOf else cX12_isTried) else (bif Nat.ble y 222 then cX12_weightBy else (bif Nat.ble y 223 then cX12_everyClue else cX12_isFelt))) else (bif Nat.ble y 226 then (bif Nat.ble y 225 then cX12_laysRanks else cX12_isLeft) else (bif Nat.ble y 227 then cX12_laysOrder else (bif Nat.ble y 228 then cX12_laysLeft else cX12_weightAt)))) else (bif Nat.ble y 234 then (bif Nat.ble y 231 then (bif Nat.ble y 230 then cX12_weightAll else cX12_sureFigure) else (bif Nat.ble y 232 then cX12_wheel else (bif Nat.ble y 233 then cX12_holds else cX12_figure))) else (bif Nat.ble y 236 then (bif Nat.ble y 235 then cX12_common else cX12_part) else (bif Nat.ble y 237 then cX12_likely else (bif Nat.ble y 238 then cX12_left else cX12_all))))))) else (bif Nat.ble y 279 then (bif Nat.ble y 259 then (bif Nat.ble y 249 then (bif Nat.ble y 244 then (bif Nat.ble y 241 then (bif Nat.ble y 240 then cX12_order else cX12_weightFirst) else (bif Nat.ble y 242 then cX12_chance else (bif Nat.ble y 243 then cX12_mean else cX12_tells))) else (bif Nat.ble y 246 then (bif Nat.ble y 245 then cX12_telling else cX12_bitsOf) else (bif Nat.ble y 247 then cX12_but else (bif Nat.ble y 248 then cX12_keeps else cX12_isAgain)))) else (bif Nat.ble y 254 then (bif Nat.ble y 251 then (bif Nat.ble y 250 then cX12_notes else cX12_turns) else (bif Nat.ble y 252 then cX12_goesTo else (bif Nat.ble y 253 then cX12_tries else cX12_feel))) else (bif Nat.ble y 256 then (bif Nat.ble y 255 then cX12_undo else cX12_evenings) else (bif Nat.ble y 257 then cX12_noTray else (bif Nat.ble y 258 then cX12_judge else cX12_perform))))) else (bif Nat.ble y 269 then (bif Nat.ble y 264 then (bif Nat.ble y 261 then (bif Nat.ble y 260 then cX12_draw else cX12_byNumbers) else (bif Nat.ble y 262 then cX12_year else (bif Nat.ble y 263 then cX12_steps else cX12_nearestOf))) else (bif Nat.ble y 266 then (bif Nat.ble y 265 then cX12_nearest else cX12_throughOf) else (bif Nat.ble y 267 then cX12_through else (bif Nat.ble y 268 then cX12_alongOf else cX12_along)))) else (bif Nat.ble y 274 then (bif Nat.ble y 271 then (bif Nat.ble y 270 then cX12_length else cX12_goesRow) else (bif Nat.ble y 272 then cX12_laysRow else (bif Nat.ble y 273 then cX12_best else cX12_shortest))) else (bif Nat.ble y 276 then (bif Nat.ble y 275 then cX12_saw else cX12_isMate) else (bif Nat.ble y 277 then cX12_mate else (bif Nat.ble y 278 then cX12_guardedBy else cX12_guarded)))))) else (bif Nat.ble y 299 then (bif Nat.ble y 289 then (bif Nat.ble y 284 then (bif Nat.ble y 281 then (bif Nat.ble y 280 then cX12_danger else cX12_both) else (bif Nat.ble y 282 then cX12_hidden else (bif Nat.ble y 283 then cX12_isToldIn else cX12_who))) else (bif Nat.ble y 286 then (bif Nat.ble y 285 then cX12_laysHalves else cX12_turnsFast) else (bif Nat.ble y 287 then cX12_noSeconds else (bif Nat.ble y 288 then cX12_goesOn else cX12_laysRows)))) else (bif Nat.ble y 294 then (bif Nat.ble y 291 then (bif Nat.ble y 290 then cX12_rows else cX12_near) else (bif Nat.ble y 292 then cX12_cut else (bif Nat.ble y 293 then cX12_numbers else cX12_write))) else (bif Nat.ble y 296 then (bif Nat.ble y 295 then cX12_copy else cX12_image) else (bif Nat.ble y 297 then cX12_restore else (bif Nat.ble y 298 then cX12_triedMany else cX12_count))))) else (bif Nat.ble y 309 then (bif Nat.ble y 304 then (bif Nat.ble y 301 then (bif Nat.ble y 300 then cJ6_bitCount_0f7a4 else cJ9_abs_0f7a4) else (bif Nat.ble y 302 then cJ9_max_7cf53 else (bif Nat.ble y 303 then cJ9_max_f86c9 else cJ9_min_7cf53))) else (bif Nat.ble y 306 then (bif Nat.ble y 305 then cJ9_min_f86c9 else cJ0_length_8abf5) else (bif Nat.ble y 307 then cJ0_charAt_5068e else (bif Nat.ble y 308 then cJ0_indexOf_0f7a4 else cJ0_indexOf_7cf53)))) else (bif Nat.ble y 314 then (bif Nat.ble y 311 then (bif Nat.ble y 310 then cJ0_coder_7d493 else cJ0_isLatin1_aae02) else (bif Nat.ble y 312 then cJ0_checkIndex_df160 else (bif Nat.ble y 313 then cJ1_charAt_3b067 else cJ1_canEncode_9a6ad))) else (bif Nat.ble y 316 then (bif Nat.ble y 315 then cJ1_indexOf_4cfef else cJ1_indexOfChar_4cfef) else (bif Nat.ble y 317 then cJ7_fill_d0a16 else (bif Nat.ble y 318 then cJ7_fill_53178 else cJ3_checkIndex_8e157)))))))))
def rtt (y : Nat) : Option FieldType := (bif Nat.ble y 171 then (bif Nat.ble y 87 then (bif Nat.ble y 32 then (bif Nat.ble y 13 then (bif Nat.ble y 7 then (bif Nat.ble y 4 then (bif Nat.ble y 0 then (some .boolean) else none) else (bif Nat.ble y 5 then (some .int) else none)) else (bif Nat.ble y 10 then (bif Nat.ble y 9 then (some .int) else none) else (bif Nat.ble y 11 then (some .int) else (bif Nat.ble y 12 then none else (some (.object "FourWheels$Mark")))))) else (bif Nat.ble y 23 then (bif Nat.ble y 15 then (bif Nat.ble y 14 then none else (some (.object "FourWheels$Mark"))) else (bif Nat.ble y 21 then none else (bif Nat.ble y 22 then (some .int) else none))) else (bif Nat.ble y 25 then (bif Nat.ble y 24 then (some .int) else (some .long)) else (bif Nat.ble y 28 then none else (bif Nat.ble y 29 then (some .int) else (some .boolean)))))) else (bif Nat.ble y 50 then (bif Nat.ble y 41 then (bif Nat.ble y 34 then (bif Nat.ble y 33 then (some .int) else none) else (bif Nat.ble y 35 then (some .boolean) else none)) else (bif Nat.ble y 46 then (bif Nat.ble y 43 then (some .long) else (some .int)) else (bif Nat.ble y 48 then none else (bif Nat.ble y 49 then (some .int) else none)))) else (bif Nat.ble y 59 then (bif Nat.ble y 54 then (bif Nat.ble y 51 then (some .int) else none) else (bif Nat.ble y 55 then (some .int) else (bif Nat.ble y 58 then (some .boolean) else (some .int)))) else (bif Nat.ble y 65 then (bif Nat.ble y 64 then (some .boolean) else (some .int)) else (bif Nat.ble y 74 then (some .boolean) else (bif Nat.ble y 80 then none else (some .int))))))) else (bif Nat.ble y 120 then (bif Nat.ble y 103 then (bif Nat.ble y 95 then (bif Nat.ble y 92 then (bif Nat.ble y 89 then none else (some .int)) else (bif Nat.ble y 93 then none else (some .boolean))) else (bif Nat.ble y 100 then (bif Nat.ble y 99 then (some .int) else (some .boolean)) else (bif Nat.ble y 101 then none else (bif Nat.ble y 102 then (some .boolean) else none)))) else (bif Nat.ble y 110 then (bif Nat.ble y 105 then (bif Nat.ble y 104 then (some .long) else none) else (bif Nat.ble y 107 then (some .boolean) else (bif Nat.ble y 109 then (some .int) else (some .long)))) else (bif Nat.ble y 117 then (bif Nat.ble y 111 then none else (some .int)) else (bif Nat.ble y 118 then (some .long) else (bif Nat.ble y 119 then (some .int) else (some .long)))))) else (bif Nat.ble y 146 then (bif Nat.ble y 138 then (bif Nat.ble y 124 then (bif Nat.ble y 121 then (some .int) else (some .long)) else (bif Nat.ble y 137 then (some .int) else (some .long))) else (bif Nat.ble y 140 then (bif Nat.ble y 139 then (some .int) else (some .long)) else (bif Nat.ble y 141 then (some .int) else (bif Nat.ble y 142 then (some .long) else (some .int))))) else (bif Nat.ble y 161 then (bif Nat.ble y 149 then (bif Nat.ble y 147 then (some .long) else (some .int)) else (bif Nat.ble y 150 then (some .long) else (bif Nat.ble y 154 then (some .int) else (some .boolean)))) else (bif Nat.ble y 163 then (bif Nat.ble y 162 then none else (some .int)) else (bif Nat.ble y 166 then (some .long) else (bif Nat.ble y 168 then none else (some .long)))))))) else (bif Nat.ble y 244 then (bif Nat.ble y 212 then (bif Nat.ble y 190 then (bif Nat.ble y 182 then (bif Nat.ble y 180 then (bif Nat.ble y 179 then (some .int) else (some .long)) else (bif Nat.ble y 181 then (some .boolean) else (some (.array .int)))) else (bif Nat.ble y 185 then (bif Nat.ble y 183 then (some .boolean) else none) else (bif Nat.ble y 187 then (some .int) else (bif Nat.ble y 189 then (some .boolean) else (some .int))))) else (bif Nat.ble y 197 then (bif Nat.ble y 194 then (bif Nat.ble y 192 then none else (some .boolean)) else (bif Nat.ble y 195 then (some .int) else (bif Nat.ble y 196 then (some .boolean) else none))) else (bif Nat.ble y 200 then (bif Nat.ble y 198 then (some .int) else none) else (bif Nat.ble y 201 then (some .boolean) else (bif Nat.ble y 210 then none else (some .int)))))) else (bif Nat.ble y 224 then (bif Nat.ble y 219 then (bif Nat.ble y 215 then (bif Nat.ble y 213 then (some .boolean) else none) else (bif Nat.ble y 217 then (some .int) else (some .boolean))) else (bif Nat.ble y 221 then (bif Nat.ble y 220 then (some .int) else (some .boolean)) else (bif Nat.ble y 222 then (some .long) else (bif Nat.ble y 223 then (some .int) else (some .boolean))))) else (bif Nat.ble y 234 then (bif Nat.ble y 226 then (bif Nat.ble y 225 then none else (some .boolean)) else (bif Nat.ble y 228 then none else (bif Nat.ble y 230 then (some .long) else (some .int)))) else (bif Nat.ble y 238 then (bif Nat.ble y 237 then (some .long) else (some .int)) else (bif Nat.ble y 239 then (some .long) else (bif Nat.ble y 240 then (some .int) else (some .long))))))) else (bif Nat.ble y 289 then (bif Nat.ble y 274 then (bif Nat.ble y 252 then (bif Nat.ble y 250 then (bif Nat.ble y 247 then (some .int) else none) else (bif Nat.ble y 251 then (some .int) else none)) else (bif Nat.ble y 271 then (bif Nat.ble y 270 then (some .int) else none) else (bif Nat.ble y 272 then (some .int) else (bif Nat.ble y 273 then (some .long) else (some .int))))) else (bif Nat.ble y 282 then (bif Nat.ble y 276 then (bif Nat.ble y 275 then (some .long) else (some .boolean)) else (bif Nat.ble y 277 then (some .int) else (bif Nat.ble y 279 then (some .long) else (some .int)))) else (bif Nat.ble y 284 then (bif Nat.ble y 283 then (some .boolean) else (some .int)) else (bif Nat.ble y 285 then none else (bif Nat.ble y 287 then (some .int) else none))))) else (bif Nat.ble y 306 then (bif Nat.ble y 294 then (bif Nat.ble y 291 then (bif Nat.ble y 290 then (some .long) else (some .int)) else (bif Nat.ble y 292 then (some .long) else (bif Nat.ble y 293 then (some .int) else (some .long)))) else (bif Nat.ble y 303 then (bif Nat.ble y 302 then (some .int) else (some .long)) else (bif Nat.ble y 304 then (some .int) else (bif Nat.ble y 305 then (some .long) else (some .int))))) else (bif Nat.ble y 312 then (bif Nat.ble y 309 then (bif Nat.ble y 307 then (some .char) else (some .int)) else (bif Nat.ble y 310 then (some .byte) else (bif Nat.ble y 311 then (some .boolean) else none))) else (bif Nat.ble y 314 then (bif Nat.ble y 313 then (some .char) else (some .boolean)) else (bif Nat.ble y 316 then (some .int) else (bif Nat.ble y 318 then none else (some .int)))))))))
def npr (y : Nat) : Nat := (bif Nat.ble y 144 then (bif Nat.ble y 74 then (bif Nat.ble y 35 then (bif Nat.ble y 20 then (bif Nat.ble y 8 then (bif Nat.ble y 3 then (bif Nat.ble y 0 then 1 else (bif Nat.ble y 2 then 0 else 2)) else (bif Nat.ble y 4 then 0 else (bif Nat.ble y 7 then 2 else 3))) else (bif Nat.ble y 13 then (bif Nat.ble y 10 then 1 else (bif Nat.ble y 12 then 0 else 1)) else (bif Nat.ble y 17 then 0 else (bif Nat.ble y 18 then 1 else 2)))) else (bif Nat.ble y 26 then (bif Nat.ble y 23 then (bif Nat.ble y 21 then 0 else (bif Nat.ble y 22 then 1 else 3)) else (bif Nat.ble y 24 then 2 else (bif Nat.ble y 25 then 3 else 0))) else (bif Nat.ble y 30 then (bif Nat.ble y 27 then 2 else (bif Nat.ble y 29 then 1 else 2)) else (bif Nat.ble y 32 then 1 else (bif Nat.ble y 33 then 0 else 3))))) else (bif Nat.ble y 48 then (bif Nat.ble y 42 then (bif Nat.ble y 38 then (bif Nat.ble y 36 then 2 else (bif Nat.ble y 37 then 1 else 0)) else (bif Nat.ble y 40 then 1 else (bif Nat.ble y 41 then 0 else 3))) else (bif Nat.ble y 45 then (bif Nat.ble y 43 then 4 else (bif Nat.ble y 44 then 2 else 3)) else (bif Nat.ble y 46 then 4 else (bif Nat.ble y 47 then 0 else 3)))) else (bif Nat.ble y 54 then (bif Nat.ble y 51 then (bif Nat.ble y 49 then 1 else (bif Nat.ble y 50 then 3 else 1)) else (bif Nat.ble y 52 then 2 else (bif Nat.ble y 53 then 0 else 3))) else (bif Nat.ble y 59 then (bif Nat.ble y 55 then 0 else (bif Nat.ble y 58 then 1 else 2)) else (bif Nat.ble y 72 then (bif Nat.ble y 65 then 0 else 1) else (bif Nat.ble y 73 then 2 else 1)))))) else (bif Nat.ble y 110 then (bif Nat.ble y 89 then (bif Nat.ble y 82 then (bif Nat.ble y 78 then (bif Nat.ble y 76 then 0 else (bif Nat.ble y 77 then 3 else 0)) else (bif Nat.ble y 79 then 1 else (bif Nat.ble y 81 then 2 else 3))) else (bif Nat.ble y 86 then (bif Nat.ble y 83 then 2 else (bif Nat.ble y 85 then 1 else 3)) else (bif Nat.ble y 87 then 1 else (bif Nat.ble y 88 then 0 else 2)))) else (bif Nat.ble y 102 then (bif Nat.ble y 95 then (bif Nat.ble y 92 then 1 else (bif Nat.ble y 93 then 3 else 1)) else (bif Nat.ble y 99 then 3 else (bif Nat.ble y 100 then 4 else 0))) else (bif Nat.ble y 105 then (bif Nat.ble y 103 then 2 else (bif Nat.ble y 104 then 1 else 2)) else (bif Nat.ble y 107 then 1 else (bif Nat.ble y 108 then 0 else 1))))) else (bif Nat.ble y 127 then (bif Nat.ble y 120 then (bif Nat.ble y 114 then (bif Nat.ble y 111 then 0 else (bif Nat.ble y 112 then 5 else 1)) else (bif Nat.ble y 117 then 2 else (bif Nat.ble y 118 then 1 else 0))) else (bif Nat.ble y 123 then (bif Nat.ble y 121 then 1 else (bif Nat.ble y 122 then 2 else 1)) else (bif Nat.ble y 124 then 2 else (bif Nat.ble y 125 then 0 else 1)))) else (bif Nat.ble y 134 then (bif Nat.ble y 130 then (bif Nat.ble y 128 then 2 else (bif Nat.ble y 129 then 1 else 2)) else (bif Nat.ble y 131 then 1 else (bif Nat.ble y 133 then 2 else 0))) else (bif Nat.ble y 140 then (bif Nat.ble y 137 then 1 else (bif Nat.ble y 139 then 2 else 1)) else (bif Nat.ble y 142 then (bif Nat.ble y 141 then 2 else 3) else (bif Nat.ble y 143 then 1 else 2))))))) else (bif Nat.ble y 236 then (bif Nat.ble y 185 then (bif Nat.ble y 170 then (bif Nat.ble y 164 then (bif Nat.ble y 150 then (bif Nat.ble y 145 then 0 else (bif Nat.ble y 148 then 1 else 3)) else (bif Nat.ble y 155 then 1 else (bif Nat.ble y 156 then 2 else 1))) else (bif Nat.ble y 167 then (bif Nat.ble y 165 then 0 else (bif Nat.ble y 166 then 1 else 0)) else (bif Nat.ble y 168 then 2 else (bif Nat.ble y 169 then 1 else 3)))) else (bif Nat.ble y 178 then (bif Nat.ble y 174 then (bif Nat.ble y 172 then 2 else (bif Nat.ble y 173 then 0 else 1)) else (bif Nat.ble y 175 then 0 else (bif Nat.ble y 176 then 1 else 0))) else (bif Nat.ble y 182 then (bif Nat.ble y 179 then 2 else (bif Nat.ble y 181 then 1 else 2)) else (bif Nat.ble y 183 then 3 else (bif Nat.ble y 184 then 0 else 1))))) else (bif Nat.ble y 215 then (bif Nat.ble y 199 then (bif Nat.ble y 191 then (bif Nat.ble y 186 then 5 else (bif Nat.ble y 189 then 1 else 0)) else (bif Nat.ble y 194 then 1 else (bif Nat.ble y 196 then 2 else 0))) else (bif Nat.ble y 211 then (bif Nat.ble y 207 then 1 else (bif Nat.ble y 209 then 0 else 2)) else (bif Nat.ble y 212 then 3 else (bif Nat.ble y 213 then 2 else 0)))) else (bif Nat.ble y 225 then (bif Nat.ble y 221 then (bif Nat.ble y 219 then 1 else (bif Nat.ble y 220 then 2 else 1)) else (bif Nat.ble y 222 then 2 else (bif Nat.ble y 223 then 0 else 1))) else (bif Nat.ble y 229 then (bif Nat.ble y 227 then 2 else (bif Nat.ble y 228 then 0 else 1)) else (bif Nat.ble y 231 then (bif Nat.ble y 230 then 0 else 1) else (bif Nat.ble y 235 then 2 else 3)))))) else (bif Nat.ble y 279 then (bif Nat.ble y 254 then (bif Nat.ble y 244 then (bif Nat.ble y 241 then (bif Nat.ble y 237 then 1 else (bif Nat.ble y 239 then 0 else 1)) else (bif Nat.ble y 242 then 2 else (bif Nat.ble y 243 then 1 else 2))) else (bif Nat.ble y 250 then (bif Nat.ble y 245 then 0 else (bif Nat.ble y 247 then 1 else 0)) else (bif Nat.ble y 251 then 2 else (bif Nat.ble y 253 then 1 else 2)))) else (bif Nat.ble y 270 then (bif Nat.ble y 261 then (bif Nat.ble y 257 then 1 else (bif Nat.ble y 258 then 2 else 1)) else (bif Nat.ble y 263 then 2 else (bif Nat.ble y 265 then 0 else 1))) else (bif Nat.ble y 274 then (bif Nat.ble y 271 then 7 else (bif Nat.ble y 272 then 3 else 2)) else (bif Nat.ble y 276 then 1 else (bif Nat.ble y 278 then 2 else 3))))) else (bif Nat.ble y 294 then (bif Nat.ble y 285 then (bif Nat.ble y 282 then (bif Nat.ble y 280 then 1 else (bif Nat.ble y 281 then 2 else 0)) else (bif Nat.ble y 283 then 2 else (bif Nat.ble y 284 then 1 else 0))) else (bif Nat.ble y 289 then (bif Nat.ble y 286 then 2 else (bif Nat.ble y 288 then 1 else 2)) else (bif Nat.ble y 291 then 1 else (bif Nat.ble y 292 then 2 else 3)))) else (bif Nat.ble y 308 then (bif Nat.ble y 301 then (bif Nat.ble y 297 then 1 else (bif Nat.ble y 298 then 0 else 1)) else (bif Nat.ble y 305 then 2 else (bif Nat.ble y 306 then 0 else 1))) else (bif Nat.ble y 313 then (bif Nat.ble y 309 then 2 else (bif Nat.ble y 311 then 0 else 2)) else (bif Nat.ble y 316 then (bif Nat.ble y 314 then 1 else 4) else (bif Nat.ble y 318 then 2 else 3))))))))
def cN (c : Nat) : String := (bif Nat.ble c 5 then (bif Nat.ble c 2 then (bif Nat.ble c 0 then RX0 else (bif Nat.ble c 1 then RX1 else RX2)) else (bif Nat.ble c 3 then RX3 else (bif Nat.ble c 4 then RX4 else RX5))) else (bif Nat.ble c 8 then (bif Nat.ble c 6 then RX6 else (bif Nat.ble c 7 then RX7 else RX8)) else (bif Nat.ble c 10 then (bif Nat.ble c 9 then RX9 else RX10) else (bif Nat.ble c 11 then RX11 else RX12))))
def cT (c : Nat) : u_T := (bif Nat.ble c 5 then (bif Nat.ble c 2 then (bif Nat.ble c 0 then TX0 else (bif Nat.ble c 1 then TX1 else TX2)) else (bif Nat.ble c 3 then TX3 else (bif Nat.ble c 4 then TX4 else TX5))) else (bif Nat.ble c 8 then (bif Nat.ble c 6 then TX6 else (bif Nat.ble c 7 then TX7 else TX8)) else (bif Nat.ble c 10 then (bif Nat.ble c 9 then TX9 else TX10) else (bif Nat.ble c 11 then TX11 else TX12))))
def cY (c : Nat) : Nat → FieldType := (bif Nat.ble c 5 then (bif Nat.ble c 2 then (bif Nat.ble c 0 then tyX0 else (bif Nat.ble c 1 then tyX1 else tyX2)) else (bif Nat.ble c 3 then tyX3 else (bif Nat.ble c 4 then tyX4 else tyX5))) else (bif Nat.ble c 8 then (bif Nat.ble c 6 then tyX6 else (bif Nat.ble c 7 then tyX7 else tyX8)) else (bif Nat.ble c 10 then (bif Nat.ble c 9 then tyX9 else tyX10) else (bif Nat.ble c 11 then tyX11 else tyX12))))
def snO (i : Nat) : String := (bif Nat.ble i 1 then (bif Nat.ble i 0 then "FourWheels$Tokens" else "FourWheels$Tokens") else (bif Nat.ble i 2 then "FourWheelsModel" else "FourWheelsModel"))
def snI (i : Nat) : Nat := (bif Nat.ble i 1 then (bif Nat.ble i 0 then 49 else 57) else (bif Nat.ble i 2 then 93 else 131))
def snT (i : Nat) : String := (bif Nat.ble i 1 then (bif Nat.ble i 0 then ";:+-*()[]=<>" else "wheel stiff round clue  pull  bar   saw   mate  set   at    or    and   not   w     has   sum   alike number") else (bif Nat.ble i 2 then " wheel stiff round clue pull bar saw mate set at or and not w has sum alike number " else ";:+-*()[]=<>"))
theorem vw_c : ∀ c, c < 13 → vwCl[c]? = some (cN c, cT c, nfl c) := by
  intro c hc
  match c, hc with
  | 0, _ => rfl
  | 1, _ => rfl
  | 2, _ => rfl
  | 3, _ => rfl
  | 4, _ => rfl
  | 5, _ => rfl
  | 6, _ => rfl
  | 7, _ => rfl
  | 8, _ => rfl
  | 9, _ => rfl
  | 10, _ => rfl
  | 11, _ => rfl
  | 12, _ => rfl
  | k + 13, hc => omega
theorem cY_ok : ∀ c, c < 13 → ∀ k, k < nfl c → parseFieldDescriptor (cT c k).2.2.1 = some (cY c k) := by
  intro c hc
  match c, hc with
  | 0, _ => exact tyX0_ok
  | 1, _ => exact tyX1_ok
  | 2, _ => exact tyX2_ok
  | 3, _ => exact tyX3_ok
  | 4, _ => exact tyX4_ok
  | 5, _ => exact tyX5_ok
  | 6, _ => exact tyX6_ok
  | 7, _ => exact tyX7_ok
  | 8, _ => exact tyX8_ok
  | 9, _ => exact tyX9_ok
  | 10, _ => exact tyX10_ok
  | 11, _ => exact tyX11_ok
  | 12, _ => exact tyX12_ok
  | k + 13, hc => omega
theorem cT_nm : ∀ c, c < 13 → ∀ a, a < nfl c → ∀ b, b < nfl c → a ≠ b → (cT c a).2.1 ≠ (cT c b).2.1 := by
  intro c hc
  match c, hc with
  | 0, _ => exact nmX0
  | 1, _ => exact nmX1
  | 2, _ => exact nmX2
  | 3, _ => exact nmX3
  | 4, _ => exact nmX4
  | 5, _ => exact nmX5
  | 6, _ => exact nmX6
  | 7, _ => exact nmX7
  | 8, _ => exact nmX8
  | 9, _ => exact nmX9
  | 10, _ => exact nmX10
  | 11, _ => exact nmX11
  | 12, _ => exact nmX12
  | k + 13, hc => omega
theorem cT_own : ∀ c, c < 13 → ∀ k, k < nfl c → (cT c k).1 = cN c := by
  intro c hc
  match c, hc with
  | 0, _ => decide +kernel
  | 1, _ => decide +kernel
  | 2, _ => decide +kernel
  | 3, _ => decide +kernel
  | 4, _ => decide +kernel
  | 5, _ => decide +kernel
  | 6, _ => decide +kernel
  | 7, _ => decide +kernel
  | 8, _ => decide +kernel
  | 9, _ => decide +kernel
  | 10, _ => decide +kernel
  | 11, _ => decide +kernel
  | 12, _ => decide +kernel
  | k + 13, hc => omega
theorem cY_fty : ∀ c, c < 13 → ∀ k, k < nfl c → ((fty c k = 0 ∧ cY c k = .int) ∨ (fty c k = 1 ∧ cY c k = .long) ∨ (fty c k = 3 ∧ cY c k = .boolean) ∨ (fty c k = 2 ∧ ((∃ t, cY c k = .array t) ∨ ∃ n, cY c k = .object n))) := by
  intro c hc
  match c, hc with
  | 0, _ =>
    intro k hk
    match k, hk with
    | 0, _ => exact Or.inr (Or.inr (Or.inr ⟨rfl, Or.inl ⟨_, rfl⟩⟩))
    | 1, _ => exact Or.inr (Or.inr (Or.inr ⟨rfl, Or.inl ⟨_, rfl⟩⟩))
    | 2, _ => exact Or.inl ⟨rfl, rfl⟩
    | 3, _ => exact Or.inr (Or.inr (Or.inr ⟨rfl, Or.inl ⟨_, rfl⟩⟩))
    | 4, _ => exact Or.inl ⟨rfl, rfl⟩
    | 5, _ => exact Or.inr (Or.inr (Or.inr ⟨rfl, Or.inl ⟨_, rfl⟩⟩))
    | 6, _ => exact Or.inl ⟨rfl, rfl⟩
    | 7, _ => exact Or.inr (Or.inr (Or.inr ⟨rfl, Or.inl ⟨_, rfl⟩⟩))
    | 8, _ => exact Or.inl ⟨rfl, rfl⟩
    | 9, _ => exact Or.inl ⟨rfl, rfl⟩
    | 10, _ => exact Or.inl ⟨rfl, rfl⟩
    | 11, _ => exact Or.inl ⟨rfl, rfl⟩
    | k + 12, hk => exact absurd hk (by show ¬ k + 12 < 12; omega)
  | 1, _ =>
    intro k hk
    match k, hk with
    | 0, _ => exact Or.inr (Or.inr (Or.inr ⟨rfl, Or.inl ⟨_, rfl⟩⟩))
    | 1, _ => exact Or.inl ⟨rfl, rfl⟩
    | 2, _ => exact Or.inl ⟨rfl, rfl⟩
    | k + 3, hk => exact absurd hk (by show ¬ k + 3 < 3; omega)
  | 2, _ =>
    intro k hk
    match k, hk with
    | 0, _ => exact Or.inr (Or.inr (Or.inr ⟨rfl, Or.inl ⟨_, rfl⟩⟩))
    | 1, _ => exact Or.inl ⟨rfl, rfl⟩
    | 2, _ => exact Or.inr (Or.inr (Or.inr ⟨rfl, Or.inl ⟨_, rfl⟩⟩))
    | 3, _ => exact Or.inr (Or.inr (Or.inr ⟨rfl, Or.inl ⟨_, rfl⟩⟩))
    | 4, _ => exact Or.inr (Or.inr (Or.inr ⟨rfl, Or.inl ⟨_, rfl⟩⟩))
    | 5, _ => exact Or.inr (Or.inr (Or.inr ⟨rfl, Or.inl ⟨_, rfl⟩⟩))
    | 6, _ => exact Or.inr (Or.inr (Or.inr ⟨rfl, Or.inl ⟨_, rfl⟩⟩))
    | 7, _ => exact Or.inr (Or.inl ⟨rfl, rfl⟩)
    | k + 8, hk => exact absurd hk (by show ¬ k + 8 < 8; omega)
  | 3, _ =>
    intro k hk
    match k, hk with
    | 0, _ => exact Or.inr (Or.inr (Or.inr ⟨rfl, Or.inl ⟨_, rfl⟩⟩))
    | 1, _ => exact Or.inl ⟨rfl, rfl⟩
    | 2, _ => exact Or.inr (Or.inr (Or.inr ⟨rfl, Or.inl ⟨_, rfl⟩⟩))
    | 3, _ => exact Or.inl ⟨rfl, rfl⟩
    | 4, _ => exact Or.inl ⟨rfl, rfl⟩
    | 5, _ => exact Or.inl ⟨rfl, rfl⟩
    | 6, _ => exact Or.inl ⟨rfl, rfl⟩
    | 7, _ => exact Or.inr (Or.inr (Or.inl ⟨rfl, rfl⟩))
    | k + 8, hk => exact absurd hk (by show ¬ k + 8 < 8; omega)
  | 4, _ =>
    intro k hk
    match k, hk with
    | 0, _ => exact Or.inr (Or.inr (Or.inr ⟨rfl, Or.inl ⟨_, rfl⟩⟩))
    | 1, _ => exact Or.inl ⟨rfl, rfl⟩
    | 2, _ => exact Or.inr (Or.inr (Or.inr ⟨rfl, Or.inl ⟨_, rfl⟩⟩))
    | 3, _ => exact Or.inl ⟨rfl, rfl⟩
    | 4, _ => exact Or.inl ⟨rfl, rfl⟩
    | 5, _ => exact Or.inl ⟨rfl, rfl⟩
    | 6, _ => exact Or.inr (Or.inr (Or.inl ⟨rfl, rfl⟩))
    | k + 7, hk => exact absurd hk (by show ¬ k + 7 < 7; omega)
  | 5, _ =>
    intro k hk
    match k, hk with
    | 0, _ => exact Or.inr (Or.inr (Or.inr ⟨rfl, Or.inl ⟨_, rfl⟩⟩))
    | k + 1, hk => exact absurd hk (by show ¬ k + 1 < 1; omega)
  | 6, _ =>
    intro k hk
    match k, hk with
    | 0, _ => exact Or.inr (Or.inr (Or.inr ⟨rfl, Or.inl ⟨_, rfl⟩⟩))
    | 1, _ => exact Or.inl ⟨rfl, rfl⟩
    | 2, _ => exact Or.inr (Or.inr (Or.inr ⟨rfl, Or.inl ⟨_, rfl⟩⟩))
    | 3, _ => exact Or.inr (Or.inr (Or.inr ⟨rfl, Or.inl ⟨_, rfl⟩⟩))
    | 4, _ => exact Or.inr (Or.inr (Or.inr ⟨rfl, Or.inl ⟨_, rfl⟩⟩))
    | 5, _ => exact Or.inr (Or.inr (Or.inr ⟨rfl, Or.inl ⟨_, rfl⟩⟩))
    | k + 6, hk => exact absurd hk (by show ¬ k + 6 < 6; omega)
  | 7, _ =>
    intro k hk
    match k, hk with
    | 0, _ => exact Or.inl ⟨rfl, rfl⟩
    | 1, _ => exact Or.inl ⟨rfl, rfl⟩
    | 2, _ => exact Or.inl ⟨rfl, rfl⟩
    | 3, _ => exact Or.inr (Or.inr (Or.inl ⟨rfl, rfl⟩))
    | 4, _ => exact Or.inr (Or.inr (Or.inr ⟨rfl, Or.inr ⟨_, rfl⟩⟩))
    | 5, _ => exact Or.inr (Or.inr (Or.inr ⟨rfl, Or.inr ⟨_, rfl⟩⟩))
    | 6, _ => exact Or.inr (Or.inr (Or.inr ⟨rfl, Or.inr ⟨_, rfl⟩⟩))
    | k + 7, hk => exact absurd hk (by show ¬ k + 7 < 7; omega)
  | 8, _ =>
    intro k hk
    match k, hk with
    | 0, _ => exact Or.inl ⟨rfl, rfl⟩
    | 1, _ => exact Or.inr (Or.inr (Or.inr ⟨rfl, Or.inl ⟨_, rfl⟩⟩))
    | 2, _ => exact Or.inr (Or.inr (Or.inr ⟨rfl, Or.inl ⟨_, rfl⟩⟩))
    | 3, _ => exact Or.inr (Or.inr (Or.inr ⟨rfl, Or.inl ⟨_, rfl⟩⟩))
    | 4, _ => exact Or.inr (Or.inr (Or.inr ⟨rfl, Or.inl ⟨_, rfl⟩⟩))
    | 5, _ => exact Or.inl ⟨rfl, rfl⟩
    | 6, _ => exact Or.inl ⟨rfl, rfl⟩
    | 7, _ => exact Or.inr (Or.inr (Or.inr ⟨rfl, Or.inl ⟨_, rfl⟩⟩))
    | 8, _ => exact Or.inr (Or.inr (Or.inr ⟨rfl, Or.inl ⟨_, rfl⟩⟩))
    | 9, _ => exact Or.inl ⟨rfl, rfl⟩
    | 10, _ => exact Or.inl ⟨rfl, rfl⟩
    | 11, _ => exact Or.inl ⟨rfl, rfl⟩
    | 12, _ => exact Or.inl ⟨rfl, rfl⟩
    | 13, _ => exact Or.inl ⟨rfl, rfl⟩
    | 14, _ => exact Or.inr (Or.inr (Or.inr ⟨rfl, Or.inl ⟨_, rfl⟩⟩))
    | 15, _ => exact Or.inl ⟨rfl, rfl⟩
    | 16, _ => exact Or.inl ⟨rfl, rfl⟩
    | 17, _ => exact Or.inl ⟨rfl, rfl⟩
    | k + 18, hk => exact absurd hk (by show ¬ k + 18 < 18; omega)
  | 9, _ =>
    intro k hk
    match k, hk with
    | 0, _ => exact Or.inr (Or.inr (Or.inr ⟨rfl, Or.inl ⟨_, rfl⟩⟩))
    | 1, _ => exact Or.inr (Or.inr (Or.inr ⟨rfl, Or.inl ⟨_, rfl⟩⟩))
    | 2, _ => exact Or.inr (Or.inr (Or.inr ⟨rfl, Or.inl ⟨_, rfl⟩⟩))
    | 3, _ => exact Or.inl ⟨rfl, rfl⟩
    | k + 4, hk => exact absurd hk (by show ¬ k + 4 < 4; omega)
  | 10, _ =>
    intro k hk
    match k, hk with
    | 0, _ => exact Or.inr (Or.inr (Or.inr ⟨rfl, Or.inl ⟨_, rfl⟩⟩))
    | 1, _ => exact Or.inl ⟨rfl, rfl⟩
    | 2, _ => exact Or.inl ⟨rfl, rfl⟩
    | k + 3, hk => exact absurd hk (by show ¬ k + 3 < 3; omega)
  | 11, _ =>
    intro k hk
    match k, hk with
    | 0, _ => exact Or.inr (Or.inr (Or.inr ⟨rfl, Or.inl ⟨_, rfl⟩⟩))
    | 1, _ => exact Or.inl ⟨rfl, rfl⟩
    | 2, _ => exact Or.inr (Or.inr (Or.inr ⟨rfl, Or.inr ⟨_, rfl⟩⟩))
    | 3, _ => exact Or.inr (Or.inr (Or.inr ⟨rfl, Or.inr ⟨_, rfl⟩⟩))
    | 4, _ => exact Or.inr (Or.inr (Or.inr ⟨rfl, Or.inr ⟨_, rfl⟩⟩))
    | 5, _ => exact Or.inr (Or.inr (Or.inr ⟨rfl, Or.inr ⟨_, rfl⟩⟩))
    | 6, _ => exact Or.inr (Or.inr (Or.inr ⟨rfl, Or.inr ⟨_, rfl⟩⟩))
    | 7, _ => exact Or.inr (Or.inr (Or.inr ⟨rfl, Or.inr ⟨_, rfl⟩⟩))
    | 8, _ => exact Or.inr (Or.inr (Or.inr ⟨rfl, Or.inr ⟨_, rfl⟩⟩))
    | 9, _ => exact Or.inr (Or.inr (Or.inr ⟨rfl, Or.inr ⟨_, rfl⟩⟩))
    | 10, _ => exact Or.inr (Or.inr (Or.inr ⟨rfl, Or.inl ⟨_, rfl⟩⟩))
    | 11, _ => exact Or.inr (Or.inr (Or.inr ⟨rfl, Or.inr ⟨_, rfl⟩⟩))
    | 12, _ => exact Or.inr (Or.inr (Or.inr ⟨rfl, Or.inr ⟨_, rfl⟩⟩))
    | 13, _ => exact Or.inr (Or.inr (Or.inr ⟨rfl, Or.inl ⟨_, rfl⟩⟩))
    | 14, _ => exact Or.inr (Or.inr (Or.inr ⟨rfl, Or.inl ⟨_, rfl⟩⟩))
    | 15, _ => exact Or.inr (Or.inr (Or.inr ⟨rfl, Or.inl ⟨_, rfl⟩⟩))
    | 16, _ => exact Or.inr (Or.inr (Or.inr ⟨rfl, Or.inl ⟨_, rfl⟩⟩))
    | 17, _ => exact Or.inl ⟨rfl, rfl⟩
    | k + 18, hk => exact absurd hk (by show ¬ k + 18 < 18; omega)
  | 12, _ =>
    intro k hk
    match k, hk with
    | 0, _ => exact Or.inl ⟨rfl, rfl⟩
    | 1, _ => exact Or.inr (Or.inr (Or.inr ⟨rfl, Or.inl ⟨_, rfl⟩⟩))
    | 2, _ => exact Or.inr (Or.inr (Or.inr ⟨rfl, Or.inl ⟨_, rfl⟩⟩))
    | 3, _ => exact Or.inr (Or.inr (Or.inr ⟨rfl, Or.inl ⟨_, rfl⟩⟩))
    | 4, _ => exact Or.inr (Or.inr (Or.inr ⟨rfl, Or.inl ⟨_, rfl⟩⟩))
    | 5, _ => exact Or.inl ⟨rfl, rfl⟩
    | 6, _ => exact Or.inl ⟨rfl, rfl⟩
    | 7, _ => exact Or.inl ⟨rfl, rfl⟩
    | 8, _ => exact Or.inl ⟨rfl, rfl⟩
    | 9, _ => exact Or.inl ⟨rfl, rfl⟩
    | 10, _ => exact Or.inl ⟨rfl, rfl⟩
    | 11, _ => exact Or.inl ⟨rfl, rfl⟩
    | 12, _ => exact Or.inl ⟨rfl, rfl⟩
    | 13, _ => exact Or.inl ⟨rfl, rfl⟩
    | 14, _ => exact Or.inl ⟨rfl, rfl⟩
    | 15, _ => exact Or.inr (Or.inr (Or.inl ⟨rfl, rfl⟩))
    | 16, _ => exact Or.inr (Or.inr (Or.inr ⟨rfl, Or.inl ⟨_, rfl⟩⟩))
    | 17, _ => exact Or.inr (Or.inr (Or.inr ⟨rfl, Or.inl ⟨_, rfl⟩⟩))
    | 18, _ => exact Or.inr (Or.inr (Or.inr ⟨rfl, Or.inl ⟨_, rfl⟩⟩))
    | 19, _ => exact Or.inr (Or.inr (Or.inr ⟨rfl, Or.inl ⟨_, rfl⟩⟩))
    | 20, _ => exact Or.inr (Or.inr (Or.inr ⟨rfl, Or.inl ⟨_, rfl⟩⟩))
    | 21, _ => exact Or.inr (Or.inr (Or.inr ⟨rfl, Or.inl ⟨_, rfl⟩⟩))
    | 22, _ => exact Or.inl ⟨rfl, rfl⟩
    | 23, _ => exact Or.inr (Or.inr (Or.inr ⟨rfl, Or.inl ⟨_, rfl⟩⟩))
    | 24, _ => exact Or.inl ⟨rfl, rfl⟩
    | 25, _ => exact Or.inr (Or.inr (Or.inr ⟨rfl, Or.inl ⟨_, rfl⟩⟩))
    | 26, _ => exact Or.inr (Or.inr (Or.inr ⟨rfl, Or.inl ⟨_, rfl⟩⟩))
    | 27, _ => exact Or.inr (Or.inl ⟨rfl, rfl⟩)
    | 28, _ => exact Or.inr (Or.inr (Or.inl ⟨rfl, rfl⟩))
    | 29, _ => exact Or.inr (Or.inr (Or.inr ⟨rfl, Or.inl ⟨_, rfl⟩⟩))
    | 30, _ => exact Or.inr (Or.inr (Or.inr ⟨rfl, Or.inl ⟨_, rfl⟩⟩))
    | 31, _ => exact Or.inr (Or.inr (Or.inr ⟨rfl, Or.inl ⟨_, rfl⟩⟩))
    | 32, _ => exact Or.inr (Or.inr (Or.inr ⟨rfl, Or.inl ⟨_, rfl⟩⟩))
    | 33, _ => exact Or.inr (Or.inr (Or.inr ⟨rfl, Or.inl ⟨_, rfl⟩⟩))
    | 34, _ => exact Or.inl ⟨rfl, rfl⟩
    | 35, _ => exact Or.inr (Or.inr (Or.inr ⟨rfl, Or.inl ⟨_, rfl⟩⟩))
    | 36, _ => exact Or.inr (Or.inr (Or.inr ⟨rfl, Or.inl ⟨_, rfl⟩⟩))
    | 37, _ => exact Or.inr (Or.inr (Or.inr ⟨rfl, Or.inl ⟨_, rfl⟩⟩))
    | k + 38, hk => exact absurd hk (by show ¬ k + 38 < 38; omega)
  | k + 13, hc => omega
def gtb : List Cond := lw_tbl.filter goodWord
def isNw : Cond → Bool
  | .fieldLinkNest .. => true
  | .methodLinkNest .. => true
  | _ => false
def ntb : List Cond := lw_tbl.filter isNw
theorem in_g {w : Cond} (i : Nat) (h : lw_tbl[i]? = some w) (hg : goodWord w = true) : w ∈ gtb := List.mem_filter.mpr ⟨List.mem_of_getElem? h, hg⟩
theorem in_n {w : Cond} (i : Nat) (h : lw_tbl[i]? = some w) (hg : isNw w = true) : w ∈ ntb := List.mem_filter.mpr ⟨List.mem_of_getElem? h, hg⟩
theorem g_good {w : Cond} (h : w ∈ gtb) : goodWord w = true := (List.mem_filter.mp h).2
theorem lyp0 : (u_ws RX0 TX0 12) = [222, 224, 226, 228, 230, 232, 234, 236, 238, 240, 242, 244].filterMap (fun i => lw_tbl[i]?) := by decide +kernel
theorem lyg0 : (u_ws RX0 TX0 12).all goodWord = true := by decide +kernel
theorem ly0 : ∀ w ∈ u_ws RX0 TX0 12, w ∈ gtb := by
  intro w hw
  have hg := List.all_eq_true.mp lyg0 w hw
  rw [lyp0] at hw
  obtain ⟨i, -, hi⟩ := List.mem_filterMap.mp hw
  exact in_g i hi hg
theorem lyp1 : (u_ws RX1 TX1 3) = [439, 441, 443].filterMap (fun i => lw_tbl[i]?) := by decide +kernel
theorem lyg1 : (u_ws RX1 TX1 3).all goodWord = true := by decide +kernel
theorem ly1 : ∀ w ∈ u_ws RX1 TX1 3, w ∈ gtb := by
  intro w hw
  have hg := List.all_eq_true.mp lyg1 w hw
  rw [lyp1] at hw
  obtain ⟨i, -, hi⟩ := List.mem_filterMap.mp hw
  exact in_g i hi hg
theorem lyp2 : (u_ws RX2 TX2 8) = [487, 489, 491, 493, 495, 497, 499, 501].filterMap (fun i => lw_tbl[i]?) := by decide +kernel
theorem lyg2 : (u_ws RX2 TX2 8).all goodWord = true := by decide +kernel
theorem ly2 : ∀ w ∈ u_ws RX2 TX2 8, w ∈ gtb := by
  intro w hw
  have hg := List.all_eq_true.mp lyg2 w hw
  rw [lyp2] at hw
  obtain ⟨i, -, hi⟩ := List.mem_filterMap.mp hw
  exact in_g i hi hg
theorem lyp3 : (u_ws RX3 TX3 8) = [376, 378, 380, 382, 384, 386, 388, 390].filterMap (fun i => lw_tbl[i]?) := by decide +kernel
theorem lyg3 : (u_ws RX3 TX3 8).all goodWord = true := by decide +kernel
theorem ly3 : ∀ w ∈ u_ws RX3 TX3 8, w ∈ gtb := by
  intro w hw
  have hg := List.all_eq_true.mp lyg3 w hw
  rw [lyp3] at hw
  obtain ⟨i, -, hi⟩ := List.mem_filterMap.mp hw
  exact in_g i hi hg
theorem lyp4 : (u_ws RX4 TX4 7) = [420, 422, 424, 426, 428, 430, 432].filterMap (fun i => lw_tbl[i]?) := by decide +kernel
theorem lyg4 : (u_ws RX4 TX4 7).all goodWord = true := by decide +kernel
theorem ly4 : ∀ w ∈ u_ws RX4 TX4 7, w ∈ gtb := by
  intro w hw
  have hg := List.all_eq_true.mp lyg4 w hw
  rw [lyp4] at hw
  obtain ⟨i, -, hi⟩ := List.mem_filterMap.mp hw
  exact in_g i hi hg
theorem lyp5 : (u_ws RX5 TX5 1) = [512].filterMap (fun i => lw_tbl[i]?) := by decide +kernel
theorem lyg5 : (u_ws RX5 TX5 1).all goodWord = true := by decide +kernel
theorem ly5 : ∀ w ∈ u_ws RX5 TX5 1, w ∈ gtb := by
  intro w hw
  have hg := List.all_eq_true.mp lyg5 w hw
  rw [lyp5] at hw
  obtain ⟨i, -, hi⟩ := List.mem_filterMap.mp hw
  exact in_g i hi hg
theorem lyp6 : (u_ws RX6 TX6 6) = [459, 461, 463, 465, 467, 469].filterMap (fun i => lw_tbl[i]?) := by decide +kernel
theorem lyg6 : (u_ws RX6 TX6 6).all goodWord = true := by decide +kernel
theorem ly6 : ∀ w ∈ u_ws RX6 TX6 6, w ∈ gtb := by
  intro w hw
  have hg := List.all_eq_true.mp lyg6 w hw
  rw [lyp6] at hw
  obtain ⟨i, -, hi⟩ := List.mem_filterMap.mp hw
  exact in_g i hi hg
theorem lyp7 : (u_ws RX7 TX7 7) = [189, 191, 193, 195, 197, 199, 201].filterMap (fun i => lw_tbl[i]?) := by decide +kernel
theorem lyg7 : (u_ws RX7 TX7 7).all goodWord = true := by decide +kernel
theorem ly7 : ∀ w ∈ u_ws RX7 TX7 7, w ∈ gtb := by
  intro w hw
  have hg := List.all_eq_true.mp lyg7 w hw
  rw [lyp7] at hw
  obtain ⟨i, -, hi⟩ := List.mem_filterMap.mp hw
  exact in_g i hi hg
theorem lyp8 : (u_ws RX8 TX8 18) = [313, 315, 317, 319, 321, 323, 325, 327, 329, 331, 333, 335, 337, 339, 341, 343, 345, 347].filterMap (fun i => lw_tbl[i]?) := by decide +kernel
theorem lyg8 : (u_ws RX8 TX8 18).all goodWord = true := by decide +kernel
theorem ly8 : ∀ w ∈ u_ws RX8 TX8 18, w ∈ gtb := by
  intro w hw
  have hg := List.all_eq_true.mp lyg8 w hw
  rw [lyp8] at hw
  obtain ⟨i, -, hi⟩ := List.mem_filterMap.mp hw
  exact in_g i hi hg
theorem lyp9 : (u_ws RX9 TX9 4) = [163, 165, 167, 169].filterMap (fun i => lw_tbl[i]?) := by decide +kernel
theorem lyg9 : (u_ws RX9 TX9 4).all goodWord = true := by decide +kernel
theorem ly9 : ∀ w ∈ u_ws RX9 TX9 4, w ∈ gtb := by
  intro w hw
  have hg := List.all_eq_true.mp lyg9 w hw
  rw [lyp9] at hw
  obtain ⟨i, -, hi⟩ := List.mem_filterMap.mp hw
  exact in_g i hi hg
theorem lyp10 : (u_ws RX10 TX10 3) = [529, 531, 533].filterMap (fun i => lw_tbl[i]?) := by decide +kernel
theorem lyg10 : (u_ws RX10 TX10 3).all goodWord = true := by decide +kernel
theorem ly10 : ∀ w ∈ u_ws RX10 TX10 3, w ∈ gtb := by
  intro w hw
  have hg := List.all_eq_true.mp lyg10 w hw
  rw [lyp10] at hw
  obtain ⟨i, -, hi⟩ := List.mem_filterMap.mp hw
  exact in_g i hi hg
theorem lyp11 : (u_ws RX11 TX11 18) = [554, 556, 558, 560, 562, 564, 566, 568, 570, 572, 574, 576, 578, 580, 582, 584, 586, 588].filterMap (fun i => lw_tbl[i]?) := by decide +kernel
theorem lyg11 : (u_ws RX11 TX11 18).all goodWord = true := by decide +kernel
theorem ly11 : ∀ w ∈ u_ws RX11 TX11 18, w ∈ gtb := by
  intro w hw
  have hg := List.all_eq_true.mp lyg11 w hw
  rw [lyp11] at hw
  obtain ⟨i, -, hi⟩ := List.mem_filterMap.mp hw
  exact in_g i hi hg
theorem lyp12 : (u_ws RX12 TX12 38) = [1474, 1476, 1478, 1480, 1482, 1484, 1486, 1488, 1490, 1492, 1494, 1496, 1498, 1500, 1502, 1504, 1506, 1508, 1510, 1512, 1514, 1516, 1518, 1520, 1522, 1524, 1526, 1528, 1530, 1532, 1534, 1536, 1538, 1540, 1542, 1544, 1546, 1548].filterMap (fun i => lw_tbl[i]?) := by decide +kernel
theorem lyg12 : (u_ws RX12 TX12 38).all goodWord = true := by decide +kernel
theorem ly12 : ∀ w ∈ u_ws RX12 TX12 38, w ∈ gtb := by
  intro w hw
  have hg := List.all_eq_true.mp lyg12 w hw
  rw [lyp12] at hw
  obtain ⟨i, -, hi⟩ := List.mem_filterMap.mp hw
  exact in_g i hi hg
theorem ly : ∀ c, c < 13 → ∀ w ∈ u_ws (cN c) (cT c) (nfl c), w ∈ gtb := by
  intro c hc
  match c, hc with
  | 0, _ => exact ly0
  | 1, _ => exact ly1
  | 2, _ => exact ly2
  | 3, _ => exact ly3
  | 4, _ => exact ly4
  | 5, _ => exact ly5
  | 6, _ => exact ly6
  | 7, _ => exact ly7
  | 8, _ => exact ly8
  | 9, _ => exact ly9
  | 10, _ => exact ly10
  | 11, _ => exact ly11
  | 12, _ => exact ly12
  | k + 13, hc => omega
theorem ins_c : ∀ c, c < 13 → Cond.instantiable (cN c) (nfl c) ∈ gtb := by
  intro c hc
  match c, hc with
  | 0, _ => exact in_g 205 (by decide +kernel) rfl
  | 1, _ => exact in_g 394 (by decide +kernel) rfl
  | 2, _ => exact in_g 473 (by decide +kernel) rfl
  | 3, _ => exact in_g 351 (by decide +kernel) rfl
  | 4, _ => exact in_g 401 (by decide +kernel) rfl
  | 5, _ => exact in_g 506 (by decide +kernel) rfl
  | 6, _ => exact in_g 447 (by decide +kernel) rfl
  | 7, _ => exact in_g 175 (by decide +kernel) rfl
  | 8, _ => exact in_g 248 (by decide +kernel) rfl
  | 9, _ => exact in_g 154 (by decide +kernel) rfl
  | 10, _ => exact in_g 519 (by decide +kernel) rfl
  | 11, _ => exact in_g 146 (by decide +kernel) rfl
  | 12, _ => exact in_g 1427 (by decide +kernel) rfl
  | k + 13, hc => omega
theorem ini_c : ∀ c, c < 13 → Cond.initialized (cN c) ∈ gtb := by
  intro c hc
  match c, hc with
  | 0, _ => exact in_g 126 (by decide +kernel) rfl
  | 1, _ => exact in_g 129 (by decide +kernel) rfl
  | 2, _ => exact in_g 132 (by decide +kernel) rfl
  | 3, _ => exact in_g 128 (by decide +kernel) rfl
  | 4, _ => exact in_g 130 (by decide +kernel) rfl
  | 5, _ => exact in_g 133 (by decide +kernel) rfl
  | 6, _ => exact in_g 131 (by decide +kernel) rfl
  | 7, _ => exact in_g 125 (by decide +kernel) rfl
  | 8, _ => exact in_g 127 (by decide +kernel) rfl
  | 9, _ => exact in_g 124 (by decide +kernel) rfl
  | 10, _ => exact in_g 134 (by decide +kernel) rfl
  | 11, _ => exact in_g 123 (by decide +kernel) rfl
  | 12, _ => exact in_g 135 (by decide +kernel) rfl
  | k + 13, hc => omega
