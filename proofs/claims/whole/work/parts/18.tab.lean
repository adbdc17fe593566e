/-! THE TABLE OF ALL METHODS; the shapes when both objects stand -/
def zT0 : Nat → Nat × (Nat → zO) := fun j => (bif Nat.ble 307 j then (0, fun _ => op_bad) else (bif Nat.ble 153 j then (bif Nat.ble 230 j then (bif Nat.ble 268 j then (bif Nat.ble 287 j then (bif Nat.ble 297 j then (bif Nat.ble 302 j then (bif Nat.ble 304 j then (bif Nat.ble 305 j then (bif Nat.ble 306 j then (3, zc_J3_checkIndex_8e157) else (1, zc_J1_canEncode_9a6ad)) else (6, zc_J1_indexOfChar_4cfef)) else (bif Nat.ble 303 j then (4, zc_J1_indexOf_4cfef) else (2, zc_J1_charAt_3b067))) else (bif Nat.ble 299 j then (bif Nat.ble 300 j then (bif Nat.ble 301 j then (2, zc_J0_checkIndex_df160) else (1, zc_J0_coder_7d493)) else (1, zc_J0_isLatin1_aae02)) else (bif Nat.ble 298 j then (3, zc_J0_indexOf_7cf53) else (2, zc_J0_indexOf_0f7a4)))) else (bif Nat.ble 292 j then (bif Nat.ble 294 j then (bif Nat.ble 295 j then (bif Nat.ble 296 j then (2, zc_J0_charAt_5068e) else (1, zc_J0_length_8abf5)) else (2, zc_J6_numberOfTrailingZeros_0f7a4)) else (bif Nat.ble 293 j then (1, zc_J6_bitCount_0f7a4) else (4, zc_X12_look))) else (bif Nat.ble 289 j then (bif Nat.ble 290 j then (bif Nat.ble 291 j then (11, zc_X12_field) else (2, zc_X12_isSide)) else (9, zc_X12_product)) else (bif Nat.ble 288 j then (6, zc_X12_root) else (8, zc_X12_owed))))) else (bif Nat.ble 277 j then (bif Nat.ble 282 j then (bif Nat.ble 284 j then (bif Nat.ble 285 j then (bif Nat.ble 286 j then (7, zc_X12_paidIn) else (2, zc_X12_edict)) else (4, zc_X12_pay)) else (bif Nat.ble 283 j then (2, zc_X12_isLoan) else (4, zc_X12_loan))) else (bif Nat.ble 279 j then (bif Nat.ble 280 j then (bif Nat.ble 281 j then (3, zc_X12_interest) else (9, zc_X12_flockAt)) else (2, zc_X12_over0)) else (bif Nat.ble 278 j then (5, zc_X12_foundAt) else (1, zc_X12_agesByBook)))) else (bif Nat.ble 272 j then (bif Nat.ble 274 j then (bif Nat.ble 275 j then (bif Nat.ble 276 j then (3, zc_X12_least) else (6, zc_X12_found)) else (2, zc_X12_isFlock)) else (bif Nat.ble 273 j then (4, zc_X12_flock) else (3, zc_X12_book))) else (bif Nat.ble 270 j then (bif Nat.ble 271 j then (2, zc_X12_isHerd) else (6, zc_X12_ration)) else (bif Nat.ble 269 j then (7, zc_X12_month) else (3, zc_X12_store)))))) else (bif Nat.ble 249 j then (bif Nat.ble 258 j then (bif Nat.ble 263 j then (bif Nat.ble 265 j then (bif Nat.ble 266 j then (bif Nat.ble 267 j then (3, zc_X12_givenBy) else (5, zc_X12_comesTo)) else (4, zc_X12_twoOf)) else (bif Nat.ble 264 j then (4, zc_X12_takesAsked) else (2, zc_X12_rules))) else (bif Nat.ble 260 j then (bif Nat.ble 261 j then (bif Nat.ble 262 j then (2, zc_X12_readRules) else (2, zc_X12_readRule)) else (4, zc_X12_readAny)) else (bif Nat.ble 259 j then (2, zc_X12_settles) else (2, zc_X12_waits)))) else (bif Nat.ble 253 j then (bif Nat.ble 255 j then (bif Nat.ble 256 j then (bif Nat.ble 257 j then (2, zc_X12_readCompared) else (2, zc_X12_readSum)) else (2, zc_X12_readProduct)) else (bif Nat.ble 254 j then (2, zc_X12_readUnit) else (4, zc_X12_emits))) else (bif Nat.ble 251 j then (bif Nat.ble 252 j then (3, zc_X12_works) else (4, zc_X12_person)) else (bif Nat.ble 250 j then (2, zc_X12_isPerson) else (8, zc_X12_inRow))))) else (bif Nat.ble 239 j then (bif Nat.ble 244 j then (bif Nat.ble 246 j then (bif Nat.ble 247 j then (bif Nat.ble 248 j then (6, zc_X12_row) else (4, zc_X12_ones)) else (8, zc_X12_worksRow)) else (bif Nat.ble 245 j then (6, zc_X12_gap) else (5, zc_X12_edge))) else (bif Nat.ble 241 j then (bif Nat.ble 242 j then (bif Nat.ble 243 j then (2, zc_X12_fragment) else (2, zc_X12_isFragment)) else (5, zc_X12_ahead)) else (bif Nat.ble 240 j then (4, zc_X12_order) else (3, zc_X12_ringMany)))) else (bif Nat.ble 234 j then (bif Nat.ble 236 j then (bif Nat.ble 237 j then (bif Nat.ble 238 j then (7, zc_X12_rings) else (5, zc_X12_nextOver)) else (5, zc_X12_inOrder)) else (bif Nat.ble 235 j then (8, zc_X12_orders) else (3, zc_X12_over))) else (bif Nat.ble 232 j then (bif Nat.ble 233 j then (1, zc_X12_seal) else (2, zc_X12_isSeal)) else (bif Nat.ble 231 j then (3, zc_X12_ball) else (5, zc_X12_findsBall))))))) else (bif Nat.ble 191 j then (bif Nat.ble 210 j then (bif Nat.ble 220 j then (bif Nat.ble 225 j then (bif Nat.ble 227 j then (bif Nat.ble 228 j then (bif Nat.ble 229 j then (5, zc_X12_notesBall) else (5, zc_X12_mayBe)) else (4, zc_X12_tell)) else (bif Nat.ble 226 j then (4, zc_X12_mark) else (3, zc_X12_weight))) else (bif Nat.ble 222 j then (bif Nat.ble 223 j then (bif Nat.ble 224 j then (2, zc_X12_isKind) else (2, zc_X12_isBall)) else (9, zc_X12_stock)) else (bif Nat.ble 221 j then (5, zc_X12_line) else (8, zc_X12_tablet)))) else (bif Nat.ble 215 j then (bif Nat.ble 217 j then (bif Nat.ble 218 j then (bif Nat.ble 219 j then (4, zc_X12_blocks) else (5, zc_X12_worksOut)) else (5, zc_X12_openFills)) else (bif Nat.ble 216 j then (6, zc_X12_closedFills) else (8, zc_X12_fits))) else (bif Nat.ble 212 j then (bif Nat.ble 213 j then (bif Nat.ble 214 j then (3, zc_X12_notes) else (2, zc_X12_mostOf)) else (4, zc_X12_takesUnknowns)) else (bif Nat.ble 211 j then (2, zc_X12_signOf) else (2, zc_X12_readTablet))))) else (bif Nat.ble 200 j then (bif Nat.ble 205 j then (bif Nat.ble 207 j then (bif Nat.ble 208 j then (bif Nat.ble 209 j then (2, zc_X12_readLine) else (3, zc_X12_readNumeral)) else (11, zc_X12_readCount)) else (bif Nat.ble 206 j then (2, zc_X12_fault) else (2, zc_X12_isSign))) else (bif Nat.ble 202 j then (bif Nat.ble 203 j then (bif Nat.ble 204 j then (2, zc_X12_isWord) else (2, zc_X12_fails)) else (3, zc_X12_failsAt)) else (bif Nat.ble 201 j then (2, zc_X12_next) else (6, zc_X12_wordAt)))) else (bif Nat.ble 195 j then (bif Nat.ble 197 j then (bif Nat.ble 198 j then (bif Nat.ble 199 j then (2, zc_X12_isMarkSign) else (2, zc_X12_isDigit)) else (2, zc_X12_isLetter)) else (bif Nat.ble 196 j then (2, zc_X12_raw) else (2, zc_X12_end))) else (bif Nat.ble 193 j then (bif Nat.ble 194 j then (6, zc_X12_feed) else (3, zc_X12_puts)) else (bif Nat.ble 192 j then (1, zc_X12_year) else (6, zc_X12_written)))))) else (bif Nat.ble 172 j then (bif Nat.ble 181 j then (bif Nat.ble 186 j then (bif Nat.ble 188 j then (bif Nat.ble 189 j then (bif Nat.ble 190 j then (3, zc_X12_good) else (6, zc_X12_step)) else (6, zc_X12_worthOf)) else (bif Nat.ble 187 j then (2, zc_X12_isYear) else (2, zc_X12_isGood))) else (bif Nat.ble 183 j then (bif Nat.ble 184 j then (bif Nat.ble 185 j then (2, zc_X12_isSystem) else (4, zc_X12_isIn)) else (1, zc_X12_init)) else (bif Nat.ble 182 j then (8, zc_X11_root) else (8, zc_X11_rootOfProduct)))) else (bif Nat.ble 176 j then (bif Nat.ble 178 j then (bif Nat.ble 179 j then (bif Nat.ble 180 j then (6, zc_X11_threeSided) else (4, zc_X11_quarter)) else (1, zc_X11_isSide)) else (bif Nat.ble 177 j then (1, zc_X11_isYear) else (1, zc_X11_isGood))) else (bif Nat.ble 174 j then (bif Nat.ble 175 j then (3, zc_X11_within) else (2, zc_X11_look)) else (bif Nat.ble 173 j then (7, zc_X11_field) else (4, zc_X11_owed))))) else (bif Nat.ble 162 j then (bif Nat.ble 167 j then (bif Nat.ble 169 j then (bif Nat.ble 170 j then (bif Nat.ble 171 j then (2, zc_X11_edict) else (4, zc_X11_pay)) else (4, zc_X11_loan)) else (bif Nat.ble 168 j then (3, zc_X11_interest) else (5, zc_X11_flockAt))) else (bif Nat.ble 164 j then (bif Nat.ble 165 j then (bif Nat.ble 166 j then (6, zc_X11_found) else (4, zc_X11_flock)) else (3, zc_X11_book)) else (bif Nat.ble 163 j then (4, zc_X11_ration) else (2, zc_X11_month)))) else (bif Nat.ble 157 j then (bif Nat.ble 159 j then (bif Nat.ble 160 j then (bif Nat.ble 161 j then (3, zc_X11_store) else (3, zc_X11_works)) else (4, zc_X11_person)) else (bif Nat.ble 158 j then (3, zc_X11_row) else (5, zc_X11_edge))) else (bif Nat.ble 155 j then (bif Nat.ble 156 j then (2, zc_X11_fragment) else (3, zc_X11_ahead)) else (bif Nat.ble 154 j then (2, zc_X11_order) else (3, zc_X11_over)))))))) else (bif Nat.ble 76 j then (bif Nat.ble 114 j then (bif Nat.ble 133 j then (bif Nat.ble 143 j then (bif Nat.ble 148 j then (bif Nat.ble 150 j then (bif Nat.ble 151 j then (bif Nat.ble 152 j then (1, zc_X11_seal) else (3, zc_X11_ball)) else (4, zc_X11_tell)) else (bif Nat.ble 149 j then (4, zc_X11_mark) else (3, zc_X11_weight))) else (bif Nat.ble 145 j then (bif Nat.ble 146 j then (bif Nat.ble 147 j then (4, zc_X11_stock) else (4, zc_X11_line)) else (2, zc_X11_fault)) else (bif Nat.ble 144 j then (1, zc_X11_rules) else (2, zc_X11_tablet)))) else (bif Nat.ble 138 j then (bif Nat.ble 140 j then (bif Nat.ble 141 j then (bif Nat.ble 142 j then (2, zc_X11_end) else (6, zc_X11_feed)) else (1, zc_X11_year)) else (bif Nat.ble 139 j then (4, zc_X11_written) else (3, zc_X11_good))) else (bif Nat.ble 135 j then (bif Nat.ble 136 j then (bif Nat.ble 137 j then (4, zc_X11_step) else (1, zc_X11_init)) else (2, zc_X10_faultOf)) else (bif Nat.ble 134 j then (2, zc_X10_fail) else (2, zc_X10_take))))) else (bif Nat.ble 123 j then (bif Nat.ble 128 j then (bif Nat.ble 130 j then (bif Nat.ble 131 j then (bif Nat.ble 132 j then (1, zc_X10_move) else (1, zc_X10_signBehind)) else (1, zc_X10_value)) else (bif Nat.ble 129 j then (1, zc_X10_kind) else (1, zc_X10_isDigit))) else (bif Nat.ble 125 j then (bif Nat.ble 126 j then (bif Nat.ble 127 j then (1, zc_X10_isLetter) else (5, zc_X10_standsAt)) else (6, zc_X10_wordAt)) else (bif Nat.ble 124 j then (5, zc_X10_valueOf) else (4, zc_X10_kindOf)))) else (bif Nat.ble 118 j then (bif Nat.ble 120 j then (bif Nat.ble 121 j then (bif Nat.ble 122 j then (5, zc_X10_sizeFrom) else (4, zc_X10_addToken)) else (3, zc_X10_split)) else (bif Nat.ble 119 j then (2, zc_X10_cut) else (3, zc_X10_appendNumber))) else (bif Nat.ble 116 j then (bif Nat.ble 117 j then (6, zc_X10_append) else (1, zc_X10_init)) else (bif Nat.ble 115 j then (3, zc_X9_ofAYear) else (10, zc_X9_stockOf)))))) else (bif Nat.ble 95 j then (bif Nat.ble 104 j then (bif Nat.ble 109 j then (bif Nat.ble 111 j then (bif Nat.ble 112 j then (bif Nat.ble 113 j then (5, zc_X9_lineOf) else (6, zc_X9_keep)) else (2, zc_X9_has)) else (bif Nat.ble 110 j then (2, zc_X9_init) else (5, zc_X8_allUnder))) else (bif Nat.ble 106 j then (bif Nat.ble 107 j then (bif Nat.ble 108 j then (3, zc_X8_compare) else (5, zc_X8_walkRing)) else (5, zc_X8_findWaysBack)) else (bif Nat.ble 105 j then (3, zc_X8_findRing) else (4, zc_X8_findFirst)))) else (bif Nat.ble 99 j then (bif Nat.ble 101 j then (bif Nat.ble 102 j then (bif Nat.ble 103 j then (5, zc_X8_countOrders) else (3, zc_X8_answer)) else (3, zc_X8_lay)) else (bif Nat.ble 100 j then (1, zc_X8_add) else (1, zc_X8_size))) else (bif Nat.ble 97 j then (bif Nat.ble 98 j then (2, zc_X8_isSealing) else (1, zc_X8_init)) else (bif Nat.ble 96 j then (3, zc_X7_joined) else (8, zc_X7_reckon))))) else (bif Nat.ble 85 j then (bif Nat.ble 90 j then (bif Nat.ble 92 j then (bif Nat.ble 93 j then (bif Nat.ble 94 j then (4, zc_X7_amountOf) else (2, zc_X7_write)) else (1, zc_X7_readDivisor)) else (bif Nat.ble 91 j then (2, zc_X7_readUnit) else (5, zc_X7_readSum))) else (bif Nat.ble 87 j then (bif Nat.ble 88 j then (bif Nat.ble 89 j then (4, zc_X7_readCondition) else (5, zc_X7_readWhen)) else (1, zc_X7_readGive)) else (bif Nat.ble 86 j then (2, zc_X7_read) else (2, zc_X7_goodOf)))) else (bif Nat.ble 80 j then (bif Nat.ble 82 j then (bif Nat.ble 83 j then (bif Nat.ble 84 j then (1, zc_X7_lines) else (2, zc_X7_init)) else (3, zc_X6_learnFacts)) else (bif Nat.ble 81 j then (6, zc_X6_rationOf) else (8, zc_X6_runMonth))) else (bif Nat.ble 78 j then (bif Nat.ble 79 j then (3, zc_X6_putInStore) else (3, zc_X6_setDays)) else (bif Nat.ble 77 j then (4, zc_X6_add) else (2, zc_X6_inStore))))))) else (bif Nat.ble 38 j then (bif Nat.ble 57 j then (bif Nat.ble 66 j then (bif Nat.ble 71 j then (bif Nat.ble 73 j then (bif Nat.ble 74 j then (bif Nat.ble 75 j then (1, zc_X6_allShort) else (1, zc_X6_size)) else (2, zc_X6_has)) else (bif Nat.ble 72 j then (2, zc_X6_init) else (7, zc_X5_countIn))) else (bif Nat.ble 68 j then (bif Nat.ble 69 j then (bif Nat.ble 70 j then (3, zc_X5_mostOf) else (5, zc_X5_worthOf)) else (3, zc_X5_hasSign)) else (bif Nat.ble 67 j then (2, zc_X5_systemOf) else (3, zc_X5_setSystem)))) else (bif Nat.ble 61 j then (bif Nat.ble 63 j then (bif Nat.ble 64 j then (bif Nat.ble 65 j then (7, zc_X5_staysSmall) else (3, zc_X5_dropSign)) else (5, zc_X5_setStep)) else (bif Nat.ble 62 j then (1, zc_X5_isSystem) else (2, zc_X5_slot))) else (bif Nat.ble 59 j then (bif Nat.ble 60 j then (2, zc_X5_init) else (7, zc_X4_paidFor)) else (bif Nat.ble 58 j then (8, zc_X4_owedAt) else (3, zc_X4_addEdict))))) else (bif Nat.ble 47 j then (bif Nat.ble 52 j then (bif Nat.ble 54 j then (bif Nat.ble 55 j then (bif Nat.ble 56 j then (5, zc_X4_addPayment) else (4, zc_X4_add)) else (3, zc_X4_setInterest)) else (bif Nat.ble 53 j then (1, zc_X4_size) else (1, zc_X4_init))) else (bif Nat.ble 49 j then (bif Nat.ble 50 j then (bif Nat.ble 51 j then (6, zc_X3_nextInRow) else (8, zc_X3_placeInRow)) else (5, zc_X3_waysOf)) else (bif Nat.ble 48 j then (4, zc_X3_leastGaps) else (5, zc_X3_gapOf)))) else (bif Nat.ble 42 j then (bif Nat.ble 44 j then (bif Nat.ble 45 j then (bif Nat.ble 46 j then (4, zc_X3_offer) else (6, zc_X3_arrange)) else (6, zc_X3_answer)) else (bif Nat.ble 43 j then (5, zc_X3_setEdge) else (2, zc_X3_add))) else (bif Nat.ble 40 j then (bif Nat.ble 41 j then (1, zc_X3_size) else (1, zc_X3_init)) else (bif Nat.ble 39 j then (5, zc_X2_takeFound) else (5, zc_X2_lastFound)))))) else (bif Nat.ble 19 j then (bif Nat.ble 28 j then (bif Nat.ble 33 j then (bif Nat.ble 35 j then (bif Nat.ble 36 j then (bif Nat.ble 37 j then (2, zc_X2_booked) else (3, zc_X2_hundredths)) else (4, zc_X2_goByTheBook)) else (bif Nat.ble 34 j then (7, zc_X2_answer) else (7, zc_X2_addFound))) else (bif Nat.ble 30 j then (bif Nat.ble 31 j then (bif Nat.ble 32 j then (5, zc_X2_add) else (3, zc_X2_setBook)) else (1, zc_X2_size)) else (bif Nat.ble 29 j then (3, zc_X2_canBeTold) else (1, zc_X2_init)))) else (bif Nat.ble 23 j then (bif Nat.ble 25 j then (bif Nat.ble 26 j then (bif Nat.ble 27 j then (3, zc_X1_closeSpans) else (4, zc_X1_openSpans)) else (4, zc_X1_widen)) else (bif Nat.ble 24 j then (7, zc_X1_widenMarked) else (3, zc_X1_markedBy))) else (bif Nat.ble 21 j then (bif Nat.ble 22 j then (5, zc_X1_dueOfLost) else (11, zc_X1_solve)) else (bif Nat.ble 20 j then (6, zc_X1_addMark) else (9, zc_X1_readCount))))) else (bif Nat.ble 9 j then (bif Nat.ble 14 j then (bif Nat.ble 16 j then (bif Nat.ble 17 j then (bif Nat.ble 18 j then (3, zc_X1_readLost) else (5, zc_X1_readNumeral)) else (3, zc_X1_signed)) else (bif Nat.ble 15 j then (2, zc_X1_endLine) else (4, zc_X1_beginLine))) else (bif Nat.ble 11 j then (bif Nat.ble 12 j then (bif Nat.ble 13 j then (3, zc_X1_readLine) else (2, zc_X1_read)) else (3, zc_X1_init)) else (bif Nat.ble 10 j then (3, zc_X0_openedOnes) else (6, zc_X0_admit)))) else (bif Nat.ble 4 j then (bif Nat.ble 6 j then (bif Nat.ble 7 j then (bif Nat.ble 8 j then (6, zc_X0_tryLastKind) else (3, zc_X0_survey)) else (3, zc_X0_answer)) else (bif Nat.ble 5 j then (4, zc_X0_setTold) else (4, zc_X0_setMark))) else (bif Nat.ble 2 j then (bif Nat.ble 3 j then (3, zc_X0_setWeight) else (1, zc_X0_isKind)) else (bif Nat.ble 1 j then (1, zc_X0_isBall) else (2, zc_X0_init))))))))))
theorem zok_0 : zMthOK zI0 zT0 0 := ⟨zr_X0_init, rfl, by decide +kernel⟩
theorem zok_1 : zMthOK zI0 zT0 1 := ⟨zr_X0_isBall, rfl, by decide +kernel⟩
theorem zok_2 : zMthOK zI0 zT0 2 := ⟨zr_X0_isKind, rfl, by decide +kernel⟩
theorem zok_3 : zMthOK zI0 zT0 3 := ⟨zr_X0_setWeight, rfl, by decide +kernel⟩
theorem zok_4 : zMthOK zI0 zT0 4 := ⟨zr_X0_setMark, rfl, by decide +kernel⟩
theorem zok_5 : zMthOK zI0 zT0 5 := ⟨zr_X0_setTold, rfl, by decide +kernel⟩
theorem zok_6 : zMthOK zI0 zT0 6 := ⟨zr_X0_answer, rfl, by decide +kernel⟩
theorem zok_7 : zMthOK zI0 zT0 7 := ⟨zr_X0_survey, rfl, by decide +kernel⟩
theorem zok_8 : zMthOK zI0 zT0 8 := ⟨zr_X0_tryLastKind, rfl, by decide +kernel⟩
theorem zok_9 : zMthOK zI0 zT0 9 := ⟨zr_X0_admit, rfl, by decide +kernel⟩
theorem zok_10 : zMthOK zI0 zT0 10 := ⟨zr_X0_openedOnes, rfl, by decide +kernel⟩
theorem zok_11 : zMthOK zI0 zT0 11 := ⟨zr_X1_init, rfl, by decide +kernel⟩
theorem zok_12 : zMthOK zI0 zT0 12 := ⟨zr_X1_read, rfl, by decide +kernel⟩
theorem zok_13 : zMthOK zI0 zT0 13 := ⟨zr_X1_readLine, rfl, by decide +kernel⟩
theorem zok_14 : zMthOK zI0 zT0 14 := ⟨zr_X1_beginLine, rfl, by decide +kernel⟩
theorem zok_15 : zMthOK zI0 zT0 15 := ⟨zr_X1_endLine, rfl, by decide +kernel⟩
theorem zok_16 : zMthOK zI0 zT0 16 := ⟨zr_X1_signed, rfl, by decide +kernel⟩
theorem zok_17 : zMthOK zI0 zT0 17 := ⟨zr_X1_readNumeral, rfl, by decide +kernel⟩
theorem zok_18 : zMthOK zI0 zT0 18 := ⟨zr_X1_readLost, rfl, by decide +kernel⟩
theorem zok_19 : zMthOK zI0 zT0 19 := ⟨zr_X1_readCount, rfl, by decide +kernel⟩
theorem zok_20 : zMthOK zI0 zT0 20 := ⟨zr_X1_addMark, rfl, by decide +kernel⟩
theorem zok_21 : zMthOK zI0 zT0 21 := ⟨zr_X1_solve, rfl, by decide +kernel⟩
theorem zok_22 : zMthOK zI0 zT0 22 := ⟨zr_X1_dueOfLost, rfl, by decide +kernel⟩
theorem zok_23 : zMthOK zI0 zT0 23 := ⟨zr_X1_markedBy, rfl, by decide +kernel⟩
theorem zok_24 : zMthOK zI0 zT0 24 := ⟨zr_X1_widenMarked, rfl, by decide +kernel⟩
theorem zok_25 : zMthOK zI0 zT0 25 := ⟨zr_X1_widen, rfl, by decide +kernel⟩
theorem zok_26 : zMthOK zI0 zT0 26 := ⟨zr_X1_openSpans, rfl, by decide +kernel⟩
theorem zok_27 : zMthOK zI0 zT0 27 := ⟨zr_X1_closeSpans, rfl, by decide +kernel⟩
theorem zok_28 : zMthOK zI0 zT0 28 := ⟨zr_X2_init, rfl, by decide +kernel⟩
theorem zok_29 : zMthOK zI0 zT0 29 := ⟨zr_X2_canBeTold, rfl, by decide +kernel⟩
theorem zok_30 : zMthOK zI0 zT0 30 := ⟨zr_X2_size, rfl, by decide +kernel⟩
theorem zok_31 : zMthOK zI0 zT0 31 := ⟨zr_X2_setBook, rfl, by decide +kernel⟩
theorem zok_32 : zMthOK zI0 zT0 32 := ⟨zr_X2_add, rfl, by decide +kernel⟩
theorem zok_33 : zMthOK zI0 zT0 33 := ⟨zr_X2_addFound, rfl, by decide +kernel⟩
theorem zok_34 : zMthOK zI0 zT0 34 := ⟨zr_X2_answer, rfl, by decide +kernel⟩
theorem zok_35 : zMthOK zI0 zT0 35 := ⟨zr_X2_goByTheBook, rfl, by decide +kernel⟩
theorem zok_36 : zMthOK zI0 zT0 36 := ⟨zr_X2_hundredths, rfl, by decide +kernel⟩
theorem zok_37 : zMthOK zI0 zT0 37 := ⟨zr_X2_booked, rfl, by decide +kernel⟩
theorem zok_38 : zMthOK zI0 zT0 38 := ⟨zr_X2_lastFound, rfl, by decide +kernel⟩
theorem zok_39 : zMthOK zI0 zT0 39 := ⟨zr_X2_takeFound, rfl, by decide +kernel⟩
theorem zok_40 : zMthOK zI0 zT0 40 := ⟨zr_X3_init, rfl, by decide +kernel⟩
theorem zok_41 : zMthOK zI0 zT0 41 := ⟨zr_X3_size, rfl, by decide +kernel⟩
theorem zok_42 : zMthOK zI0 zT0 42 := ⟨zr_X3_add, rfl, by decide +kernel⟩
theorem zok_43 : zMthOK zI0 zT0 43 := ⟨zr_X3_setEdge, rfl, by decide +kernel⟩
theorem zok_44 : zMthOK zI0 zT0 44 := ⟨zr_X3_answer, rfl, by decide +kernel⟩
theorem zok_45 : zMthOK zI0 zT0 45 := ⟨zr_X3_arrange, rfl, by decide +kernel⟩
theorem zok_46 : zMthOK zI0 zT0 46 := ⟨zr_X3_offer, rfl, by decide +kernel⟩
theorem zok_47 : zMthOK zI0 zT0 47 := ⟨zr_X3_gapOf, rfl, by decide +kernel⟩
theorem zok_48 : zMthOK zI0 zT0 48 := ⟨zr_X3_leastGaps, rfl, by decide +kernel⟩
theorem zok_49 : zMthOK zI0 zT0 49 := ⟨zr_X3_waysOf, rfl, by decide +kernel⟩
theorem zok_50 : zMthOK zI0 zT0 50 := ⟨zr_X3_placeInRow, rfl, by decide +kernel⟩
theorem zok_51 : zMthOK zI0 zT0 51 := ⟨zr_X3_nextInRow, rfl, by decide +kernel⟩
theorem zok_52 : zMthOK zI0 zT0 52 := ⟨zr_X4_init, rfl, by decide +kernel⟩
theorem zok_53 : zMthOK zI0 zT0 53 := ⟨zr_X4_size, rfl, by decide +kernel⟩
theorem zok_54 : zMthOK zI0 zT0 54 := ⟨zr_X4_setInterest, rfl, by decide +kernel⟩
theorem zok_55 : zMthOK zI0 zT0 55 := ⟨zr_X4_add, rfl, by decide +kernel⟩
theorem zok_56 : zMthOK zI0 zT0 56 := ⟨zr_X4_addPayment, rfl, by decide +kernel⟩
theorem zok_57 : zMthOK zI0 zT0 57 := ⟨zr_X4_addEdict, rfl, by decide +kernel⟩
theorem zok_58 : zMthOK zI0 zT0 58 := ⟨zr_X4_owedAt, rfl, by decide +kernel⟩
theorem zok_59 : zMthOK zI0 zT0 59 := ⟨zr_X4_paidFor, rfl, by decide +kernel⟩
theorem zok_60 : zMthOK zI0 zT0 60 := ⟨zr_X5_init, rfl, by decide +kernel⟩
theorem zok_61 : zMthOK zI0 zT0 61 := ⟨zr_X5_slot, rfl, by decide +kernel⟩
theorem zok_62 : zMthOK zI0 zT0 62 := ⟨zr_X5_isSystem, rfl, by decide +kernel⟩
theorem zok_63 : zMthOK zI0 zT0 63 := ⟨zr_X5_setStep, rfl, by decide +kernel⟩
theorem zok_64 : zMthOK zI0 zT0 64 := ⟨zr_X5_dropSign, rfl, by decide +kernel⟩
theorem zok_65 : zMthOK zI0 zT0 65 := ⟨zr_X5_staysSmall, rfl, by decide +kernel⟩
theorem zok_66 : zMthOK zI0 zT0 66 := ⟨zr_X5_setSystem, rfl, by decide +kernel⟩
theorem zok_67 : zMthOK zI0 zT0 67 := ⟨zr_X5_systemOf, rfl, by decide +kernel⟩
theorem zok_68 : zMthOK zI0 zT0 68 := ⟨zr_X5_hasSign, rfl, by decide +kernel⟩
theorem zok_69 : zMthOK zI0 zT0 69 := ⟨zr_X5_worthOf, rfl, by decide +kernel⟩
theorem zok_70 : zMthOK zI0 zT0 70 := ⟨zr_X5_mostOf, rfl, by decide +kernel⟩
theorem zok_71 : zMthOK zI0 zT0 71 := ⟨zr_X5_countIn, rfl, by decide +kernel⟩
theorem zok_72 : zMthOK zI0 zT0 72 := ⟨zr_X6_init, rfl, by decide +kernel⟩
theorem zok_73 : zMthOK zI0 zT0 73 := ⟨zr_X6_has, rfl, by decide +kernel⟩
theorem zok_74 : zMthOK zI0 zT0 74 := ⟨zr_X6_size, rfl, by decide +kernel⟩
theorem zok_75 : zMthOK zI0 zT0 75 := ⟨zr_X6_allShort, rfl, by decide +kernel⟩
theorem zok_76 : zMthOK zI0 zT0 76 := ⟨zr_X6_inStore, rfl, by decide +kernel⟩
theorem zok_77 : zMthOK zI0 zT0 77 := ⟨zr_X6_add, rfl, by decide +kernel⟩
theorem zok_78 : zMthOK zI0 zT0 78 := ⟨zr_X6_setDays, rfl, by decide +kernel⟩
theorem zok_79 : zMthOK zI0 zT0 79 := ⟨zr_X6_putInStore, rfl, by decide +kernel⟩
theorem zok_80 : zMthOK zI0 zT0 80 := ⟨zr_X6_runMonth, rfl, by decide +kernel⟩
theorem zok_81 : zMthOK zI0 zT0 81 := ⟨zr_X6_rationOf, rfl, by decide +kernel⟩
theorem zok_82 : zMthOK zI0 zT0 82 := ⟨zr_X6_learnFacts, rfl, by decide +kernel⟩
theorem zok_83 : zMthOK zI0 zT0 83 := ⟨zr_X7_init, rfl, by decide +kernel⟩
theorem zok_84 : zMthOK zI0 zT0 84 := ⟨zr_X7_lines, rfl, by decide +kernel⟩
theorem zok_85 : zMthOK zI0 zT0 85 := ⟨zr_X7_goodOf, rfl, by decide +kernel⟩
theorem zok_86 : zMthOK zI0 zT0 86 := ⟨zr_X7_read, rfl, by decide +kernel⟩
theorem zok_87 : zMthOK zI0 zT0 87 := ⟨zr_X7_readGive, rfl, by decide +kernel⟩
theorem zok_88 : zMthOK zI0 zT0 88 := ⟨zr_X7_readWhen, rfl, by decide +kernel⟩
theorem zok_89 : zMthOK zI0 zT0 89 := ⟨zr_X7_readCondition, rfl, by decide +kernel⟩
theorem zok_90 : zMthOK zI0 zT0 90 := ⟨zr_X7_readSum, rfl, by decide +kernel⟩
theorem zok_91 : zMthOK zI0 zT0 91 := ⟨zr_X7_readUnit, rfl, by decide +kernel⟩
theorem zok_92 : zMthOK zI0 zT0 92 := ⟨zr_X7_readDivisor, rfl, by decide +kernel⟩
theorem zok_93 : zMthOK zI0 zT0 93 := ⟨zr_X7_write, rfl, by decide +kernel⟩
theorem zok_94 : zMthOK zI0 zT0 94 := ⟨zr_X7_amountOf, rfl, by decide +kernel⟩
theorem zok_95 : zMthOK zI0 zT0 95 := ⟨zr_X7_reckon, rfl, by decide +kernel⟩
theorem zok_96 : zMthOK zI0 zT0 96 := ⟨zr_X7_joined, rfl, by decide +kernel⟩
theorem zok_97 : zMthOK zI0 zT0 97 := ⟨zr_X8_init, rfl, by decide +kernel⟩
theorem zok_98 : zMthOK zI0 zT0 98 := ⟨zr_X8_isSealing, rfl, by decide +kernel⟩
theorem zok_99 : zMthOK zI0 zT0 99 := ⟨zr_X8_size, rfl, by decide +kernel⟩
theorem zok_100 : zMthOK zI0 zT0 100 := ⟨zr_X8_add, rfl, by decide +kernel⟩
theorem zok_101 : zMthOK zI0 zT0 101 := ⟨zr_X8_lay, rfl, by decide +kernel⟩
theorem zok_102 : zMthOK zI0 zT0 102 := ⟨zr_X8_answer, rfl, by decide +kernel⟩
theorem zok_103 : zMthOK zI0 zT0 103 := ⟨zr_X8_countOrders, rfl, by decide +kernel⟩
theorem zok_104 : zMthOK zI0 zT0 104 := ⟨zr_X8_findFirst, rfl, by decide +kernel⟩
theorem zok_105 : zMthOK zI0 zT0 105 := ⟨zr_X8_findRing, rfl, by decide +kernel⟩
theorem zok_106 : zMthOK zI0 zT0 106 := ⟨zr_X8_findWaysBack, rfl, by decide +kernel⟩
theorem zok_107 : zMthOK zI0 zT0 107 := ⟨zr_X8_walkRing, rfl, by decide +kernel⟩
theorem zok_108 : zMthOK zI0 zT0 108 := ⟨zr_X8_compare, rfl, by decide +kernel⟩
theorem zok_109 : zMthOK zI0 zT0 109 := ⟨zr_X8_allUnder, rfl, by decide +kernel⟩
theorem zok_110 : zMthOK zI0 zT0 110 := ⟨zr_X9_init, rfl, by decide +kernel⟩
theorem zok_111 : zMthOK zI0 zT0 111 := ⟨zr_X9_has, rfl, by decide +kernel⟩
theorem zok_112 : zMthOK zI0 zT0 112 := ⟨zr_X9_keep, rfl, by decide +kernel⟩
theorem zok_113 : zMthOK zI0 zT0 113 := ⟨zr_X9_lineOf, rfl, by decide +kernel⟩
theorem zok_114 : zMthOK zI0 zT0 114 := ⟨zr_X9_stockOf, rfl, by decide +kernel⟩
theorem zok_115 : zMthOK zI0 zT0 115 := ⟨zr_X9_ofAYear, rfl, by decide +kernel⟩
theorem zok_116 : zMthOK zI0 zT0 116 := ⟨zr_X10_init, rfl, by decide +kernel⟩
theorem zok_117 : zMthOK zI0 zT0 117 := ⟨zr_X10_append, rfl, by decide +kernel⟩
theorem zok_118 : zMthOK zI0 zT0 118 := ⟨zr_X10_appendNumber, rfl, by decide +kernel⟩
theorem zok_119 : zMthOK zI0 zT0 119 := ⟨zr_X10_cut, rfl, by decide +kernel⟩
theorem zok_120 : zMthOK zI0 zT0 120 := ⟨zr_X10_split, rfl, by decide +kernel⟩
theorem zok_121 : zMthOK zI0 zT0 121 := ⟨zr_X10_addToken, rfl, by decide +kernel⟩
theorem zok_122 : zMthOK zI0 zT0 122 := ⟨zr_X10_sizeFrom, rfl, by decide +kernel⟩
theorem zok_123 : zMthOK zI0 zT0 123 := ⟨zr_X10_kindOf, rfl, by decide +kernel⟩
theorem zok_124 : zMthOK zI0 zT0 124 := ⟨zr_X10_valueOf, rfl, by decide +kernel⟩
theorem zok_125 : zMthOK zI0 zT0 125 := ⟨zr_X10_wordAt, rfl, by decide +kernel⟩
theorem zok_126 : zMthOK zI0 zT0 126 := ⟨zr_X10_standsAt, rfl, by decide +kernel⟩
theorem zok_127 : zMthOK zI0 zT0 127 := ⟨zr_X10_isLetter, rfl, by decide +kernel⟩
theorem zok_128 : zMthOK zI0 zT0 128 := ⟨zr_X10_isDigit, rfl, by decide +kernel⟩
theorem zok_129 : zMthOK zI0 zT0 129 := ⟨zr_X10_kind, rfl, by decide +kernel⟩
theorem zok_130 : zMthOK zI0 zT0 130 := ⟨zr_X10_value, rfl, by decide +kernel⟩
theorem zok_131 : zMthOK zI0 zT0 131 := ⟨zr_X10_signBehind, rfl, by decide +kernel⟩
theorem zok_132 : zMthOK zI0 zT0 132 := ⟨zr_X10_move, rfl, by decide +kernel⟩
theorem zok_133 : zMthOK zI0 zT0 133 := ⟨zr_X10_take, rfl, by decide +kernel⟩
theorem zok_134 : zMthOK zI0 zT0 134 := ⟨zr_X10_fail, rfl, by decide +kernel⟩
theorem zok_135 : zMthOK zI0 zT0 135 := ⟨zr_X10_faultOf, rfl, by decide +kernel⟩
theorem zok_136 : zMthOK zI0 zT0 136 := ⟨zr_X11_init, rfl, by decide +kernel⟩
theorem zok_137 : zMthOK zI0 zT0 137 := ⟨zr_X11_step, rfl, by decide +kernel⟩
theorem zok_138 : zMthOK zI0 zT0 138 := ⟨zr_X11_good, rfl, by decide +kernel⟩
theorem zok_139 : zMthOK zI0 zT0 139 := ⟨zr_X11_written, rfl, by decide +kernel⟩
theorem zok_140 : zMthOK zI0 zT0 140 := ⟨zr_X11_year, rfl, by decide +kernel⟩
theorem zok_141 : zMthOK zI0 zT0 141 := ⟨zr_X11_feed, rfl, by decide +kernel⟩
theorem zok_142 : zMthOK zI0 zT0 142 := ⟨zr_X11_end, rfl, by decide +kernel⟩
theorem zok_143 : zMthOK zI0 zT0 143 := ⟨zr_X11_tablet, rfl, by decide +kernel⟩
theorem zok_144 : zMthOK zI0 zT0 144 := ⟨zr_X11_rules, rfl, by decide +kernel⟩
theorem zok_145 : zMthOK zI0 zT0 145 := ⟨zr_X11_fault, rfl, by decide +kernel⟩
theorem zok_146 : zMthOK zI0 zT0 146 := ⟨zr_X11_line, rfl, by decide +kernel⟩
theorem zok_147 : zMthOK zI0 zT0 147 := ⟨zr_X11_stock, rfl, by decide +kernel⟩
theorem zok_148 : zMthOK zI0 zT0 148 := ⟨zr_X11_weight, rfl, by decide +kernel⟩
theorem zok_149 : zMthOK zI0 zT0 149 := ⟨zr_X11_mark, rfl, by decide +kernel⟩
theorem zok_150 : zMthOK zI0 zT0 150 := ⟨zr_X11_tell, rfl, by decide +kernel⟩
theorem zok_151 : zMthOK zI0 zT0 151 := ⟨zr_X11_ball, rfl, by decide +kernel⟩
theorem zok_152 : zMthOK zI0 zT0 152 := ⟨zr_X11_seal, rfl, by decide +kernel⟩
theorem zok_153 : zMthOK zI0 zT0 153 := ⟨zr_X11_over, rfl, by decide +kernel⟩
theorem zok_154 : zMthOK zI0 zT0 154 := ⟨zr_X11_order, rfl, by decide +kernel⟩
theorem zok_155 : zMthOK zI0 zT0 155 := ⟨zr_X11_ahead, rfl, by decide +kernel⟩
theorem zok_156 : zMthOK zI0 zT0 156 := ⟨zr_X11_fragment, rfl, by decide +kernel⟩
theorem zok_157 : zMthOK zI0 zT0 157 := ⟨zr_X11_edge, rfl, by decide +kernel⟩
theorem zok_158 : zMthOK zI0 zT0 158 := ⟨zr_X11_row, rfl, by decide +kernel⟩
theorem zok_159 : zMthOK zI0 zT0 159 := ⟨zr_X11_person, rfl, by decide +kernel⟩
theorem zok_160 : zMthOK zI0 zT0 160 := ⟨zr_X11_works, rfl, by decide +kernel⟩
theorem zok_161 : zMthOK zI0 zT0 161 := ⟨zr_X11_store, rfl, by decide +kernel⟩
theorem zok_162 : zMthOK zI0 zT0 162 := ⟨zr_X11_month, rfl, by decide +kernel⟩
theorem zok_163 : zMthOK zI0 zT0 163 := ⟨zr_X11_ration, rfl, by decide +kernel⟩
theorem zok_164 : zMthOK zI0 zT0 164 := ⟨zr_X11_book, rfl, by decide +kernel⟩
theorem zok_165 : zMthOK zI0 zT0 165 := ⟨zr_X11_flock, rfl, by decide +kernel⟩
theorem zok_166 : zMthOK zI0 zT0 166 := ⟨zr_X11_found, rfl, by decide +kernel⟩
theorem zok_167 : zMthOK zI0 zT0 167 := ⟨zr_X11_flockAt, rfl, by decide +kernel⟩
theorem zok_168 : zMthOK zI0 zT0 168 := ⟨zr_X11_interest, rfl, by decide +kernel⟩
theorem zok_169 : zMthOK zI0 zT0 169 := ⟨zr_X11_loan, rfl, by decide +kernel⟩
theorem zok_170 : zMthOK zI0 zT0 170 := ⟨zr_X11_pay, rfl, by decide +kernel⟩
theorem zok_171 : zMthOK zI0 zT0 171 := ⟨zr_X11_edict, rfl, by decide +kernel⟩
theorem zok_172 : zMthOK zI0 zT0 172 := ⟨zr_X11_owed, rfl, by decide +kernel⟩
theorem zok_173 : zMthOK zI0 zT0 173 := ⟨zr_X11_field, rfl, by decide +kernel⟩
theorem zok_174 : zMthOK zI0 zT0 174 := ⟨zr_X11_look, rfl, by decide +kernel⟩
theorem zok_175 : zMthOK zI0 zT0 175 := ⟨zr_X11_within, rfl, by decide +kernel⟩
theorem zok_176 : zMthOK zI0 zT0 176 := ⟨zr_X11_isGood, rfl, by decide +kernel⟩
theorem zok_177 : zMthOK zI0 zT0 177 := ⟨zr_X11_isYear, rfl, by decide +kernel⟩
theorem zok_178 : zMthOK zI0 zT0 178 := ⟨zr_X11_isSide, rfl, by decide +kernel⟩
theorem zok_179 : zMthOK zI0 zT0 179 := ⟨zr_X11_quarter, rfl, by decide +kernel⟩
theorem zok_180 : zMthOK zI0 zT0 180 := ⟨zr_X11_threeSided, rfl, by decide +kernel⟩
theorem zok_181 : zMthOK zI0 zT0 181 := ⟨zr_X11_rootOfProduct, rfl, by decide +kernel⟩
theorem zok_182 : zMthOK zI0 zT0 182 := ⟨zr_X11_root, rfl, by decide +kernel⟩
theorem zok_183 : zMthOK zI0 zT0 183 := ⟨zr_X12_init, rfl, by decide +kernel⟩
theorem zok_184 : zMthOK zI0 zT0 184 := ⟨zr_X12_isIn, rfl, by decide +kernel⟩
theorem zok_185 : zMthOK zI0 zT0 185 := ⟨zr_X12_isSystem, rfl, by decide +kernel⟩
theorem zok_186 : zMthOK zI0 zT0 186 := ⟨zr_X12_isGood, rfl, by decide +kernel⟩
theorem zok_187 : zMthOK zI0 zT0 187 := ⟨zr_X12_isYear, rfl, by decide +kernel⟩
theorem zok_188 : zMthOK zI0 zT0 188 := ⟨zr_X12_worthOf, rfl, by decide +kernel⟩
theorem zok_189 : zMthOK zI0 zT0 189 := ⟨zr_X12_step, rfl, by decide +kernel⟩
theorem zok_190 : zMthOK zI0 zT0 190 := ⟨zr_X12_good, rfl, by decide +kernel⟩
theorem zok_191 : zMthOK zI0 zT0 191 := ⟨zr_X12_written, rfl, by decide +kernel⟩
theorem zok_192 : zMthOK zI0 zT0 192 := ⟨zr_X12_year, rfl, by decide +kernel⟩
theorem zok_193 : zMthOK zI0 zT0 193 := ⟨zr_X12_puts, rfl, by decide +kernel⟩
theorem zok_194 : zMthOK zI0 zT0 194 := ⟨zr_X12_feed, rfl, by decide +kernel⟩
theorem zok_195 : zMthOK zI0 zT0 195 := ⟨zr_X12_end, rfl, by decide +kernel⟩
theorem zok_196 : zMthOK zI0 zT0 196 := ⟨zr_X12_raw, rfl, by decide +kernel⟩
theorem zok_197 : zMthOK zI0 zT0 197 := ⟨zr_X12_isLetter, rfl, by decide +kernel⟩
theorem zok_198 : zMthOK zI0 zT0 198 := ⟨zr_X12_isDigit, rfl, by decide +kernel⟩
theorem zok_199 : zMthOK zI0 zT0 199 := ⟨zr_X12_isMarkSign, rfl, by decide +kernel⟩
theorem zok_200 : zMthOK zI0 zT0 200 := ⟨zr_X12_wordAt, rfl, by decide +kernel⟩
theorem zok_201 : zMthOK zI0 zT0 201 := ⟨zr_X12_next, rfl, by decide +kernel⟩
theorem zok_202 : zMthOK zI0 zT0 202 := ⟨zr_X12_failsAt, rfl, by decide +kernel⟩
theorem zok_203 : zMthOK zI0 zT0 203 := ⟨zr_X12_fails, rfl, by decide +kernel⟩
theorem zok_204 : zMthOK zI0 zT0 204 := ⟨zr_X12_isWord, rfl, by decide +kernel⟩
theorem zok_205 : zMthOK zI0 zT0 205 := ⟨zr_X12_isSign, rfl, by decide +kernel⟩
theorem zok_206 : zMthOK zI0 zT0 206 := ⟨zr_X12_fault, rfl, by decide +kernel⟩
theorem zok_207 : zMthOK zI0 zT0 207 := ⟨zr_X12_readCount, rfl, by decide +kernel⟩
theorem zok_208 : zMthOK zI0 zT0 208 := ⟨zr_X12_readNumeral, rfl, by decide +kernel⟩
theorem zok_209 : zMthOK zI0 zT0 209 := ⟨zr_X12_readLine, rfl, by decide +kernel⟩
theorem zok_210 : zMthOK zI0 zT0 210 := ⟨zr_X12_readTablet, rfl, by decide +kernel⟩
theorem zok_211 : zMthOK zI0 zT0 211 := ⟨zr_X12_signOf, rfl, by decide +kernel⟩
theorem zok_212 : zMthOK zI0 zT0 212 := ⟨zr_X12_takesUnknowns, rfl, by decide +kernel⟩
theorem zok_213 : zMthOK zI0 zT0 213 := ⟨zr_X12_mostOf, rfl, by decide +kernel⟩
theorem zok_214 : zMthOK zI0 zT0 214 := ⟨zr_X12_notes, rfl, by decide +kernel⟩
theorem zok_215 : zMthOK zI0 zT0 215 := ⟨zr_X12_fits, rfl, by decide +kernel⟩
theorem zok_216 : zMthOK zI0 zT0 216 := ⟨zr_X12_closedFills, rfl, by decide +kernel⟩
theorem zok_217 : zMthOK zI0 zT0 217 := ⟨zr_X12_openFills, rfl, by decide +kernel⟩
theorem zok_218 : zMthOK zI0 zT0 218 := ⟨zr_X12_worksOut, rfl, by decide +kernel⟩
theorem zok_219 : zMthOK zI0 zT0 219 := ⟨zr_X12_blocks, rfl, by decide +kernel⟩
theorem zok_220 : zMthOK zI0 zT0 220 := ⟨zr_X12_tablet, rfl, by decide +kernel⟩
theorem zok_221 : zMthOK zI0 zT0 221 := ⟨zr_X12_line, rfl, by decide +kernel⟩
theorem zok_222 : zMthOK zI0 zT0 222 := ⟨zr_X12_stock, rfl, by decide +kernel⟩
theorem zok_223 : zMthOK zI0 zT0 223 := ⟨zr_X12_isBall, rfl, by decide +kernel⟩
theorem zok_224 : zMthOK zI0 zT0 224 := ⟨zr_X12_isKind, rfl, by decide +kernel⟩
theorem zok_225 : zMthOK zI0 zT0 225 := ⟨zr_X12_weight, rfl, by decide +kernel⟩
theorem zok_226 : zMthOK zI0 zT0 226 := ⟨zr_X12_mark, rfl, by decide +kernel⟩
theorem zok_227 : zMthOK zI0 zT0 227 := ⟨zr_X12_tell, rfl, by decide +kernel⟩
theorem zok_228 : zMthOK zI0 zT0 228 := ⟨zr_X12_mayBe, rfl, by decide +kernel⟩
theorem zok_229 : zMthOK zI0 zT0 229 := ⟨zr_X12_notesBall, rfl, by decide +kernel⟩
theorem zok_230 : zMthOK zI0 zT0 230 := ⟨zr_X12_findsBall, rfl, by decide +kernel⟩
theorem zok_231 : zMthOK zI0 zT0 231 := ⟨zr_X12_ball, rfl, by decide +kernel⟩
theorem zok_232 : zMthOK zI0 zT0 232 := ⟨zr_X12_isSeal, rfl, by decide +kernel⟩
theorem zok_233 : zMthOK zI0 zT0 233 := ⟨zr_X12_seal, rfl, by decide +kernel⟩
theorem zok_234 : zMthOK zI0 zT0 234 := ⟨zr_X12_over, rfl, by decide +kernel⟩
theorem zok_235 : zMthOK zI0 zT0 235 := ⟨zr_X12_orders, rfl, by decide +kernel⟩
theorem zok_236 : zMthOK zI0 zT0 236 := ⟨zr_X12_inOrder, rfl, by decide +kernel⟩
theorem zok_237 : zMthOK zI0 zT0 237 := ⟨zr_X12_nextOver, rfl, by decide +kernel⟩
theorem zok_238 : zMthOK zI0 zT0 238 := ⟨zr_X12_rings, rfl, by decide +kernel⟩
theorem zok_239 : zMthOK zI0 zT0 239 := ⟨zr_X12_ringMany, rfl, by decide +kernel⟩
theorem zok_240 : zMthOK zI0 zT0 240 := ⟨zr_X12_order, rfl, by decide +kernel⟩
theorem zok_241 : zMthOK zI0 zT0 241 := ⟨zr_X12_ahead, rfl, by decide +kernel⟩
theorem zok_242 : zMthOK zI0 zT0 242 := ⟨zr_X12_isFragment, rfl, by decide +kernel⟩
theorem zok_243 : zMthOK zI0 zT0 243 := ⟨zr_X12_fragment, rfl, by decide +kernel⟩
theorem zok_244 : zMthOK zI0 zT0 244 := ⟨zr_X12_edge, rfl, by decide +kernel⟩
theorem zok_245 : zMthOK zI0 zT0 245 := ⟨zr_X12_gap, rfl, by decide +kernel⟩
theorem zok_246 : zMthOK zI0 zT0 246 := ⟨zr_X12_worksRow, rfl, by decide +kernel⟩
theorem zok_247 : zMthOK zI0 zT0 247 := ⟨zr_X12_ones, rfl, by decide +kernel⟩
theorem zok_248 : zMthOK zI0 zT0 248 := ⟨zr_X12_row, rfl, by decide +kernel⟩
theorem zok_249 : zMthOK zI0 zT0 249 := ⟨zr_X12_inRow, rfl, by decide +kernel⟩
theorem zok_250 : zMthOK zI0 zT0 250 := ⟨zr_X12_isPerson, rfl, by decide +kernel⟩
theorem zok_251 : zMthOK zI0 zT0 251 := ⟨zr_X12_person, rfl, by decide +kernel⟩
theorem zok_252 : zMthOK zI0 zT0 252 := ⟨zr_X12_works, rfl, by decide +kernel⟩
theorem zok_253 : zMthOK zI0 zT0 253 := ⟨zr_X12_emits, rfl, by decide +kernel⟩
theorem zok_254 : zMthOK zI0 zT0 254 := ⟨zr_X12_readUnit, rfl, by decide +kernel⟩
theorem zok_255 : zMthOK zI0 zT0 255 := ⟨zr_X12_readProduct, rfl, by decide +kernel⟩
theorem zok_256 : zMthOK zI0 zT0 256 := ⟨zr_X12_readSum, rfl, by decide +kernel⟩
theorem zok_257 : zMthOK zI0 zT0 257 := ⟨zr_X12_readCompared, rfl, by decide +kernel⟩
theorem zok_258 : zMthOK zI0 zT0 258 := ⟨zr_X12_waits, rfl, by decide +kernel⟩
theorem zok_259 : zMthOK zI0 zT0 259 := ⟨zr_X12_settles, rfl, by decide +kernel⟩
theorem zok_260 : zMthOK zI0 zT0 260 := ⟨zr_X12_readAny, rfl, by decide +kernel⟩
theorem zok_261 : zMthOK zI0 zT0 261 := ⟨zr_X12_readRule, rfl, by decide +kernel⟩
theorem zok_262 : zMthOK zI0 zT0 262 := ⟨zr_X12_readRules, rfl, by decide +kernel⟩
theorem zok_263 : zMthOK zI0 zT0 263 := ⟨zr_X12_rules, rfl, by decide +kernel⟩
theorem zok_264 : zMthOK zI0 zT0 264 := ⟨zr_X12_takesAsked, rfl, by decide +kernel⟩
theorem zok_265 : zMthOK zI0 zT0 265 := ⟨zr_X12_twoOf, rfl, by decide +kernel⟩
theorem zok_266 : zMthOK zI0 zT0 266 := ⟨zr_X12_comesTo, rfl, by decide +kernel⟩
theorem zok_267 : zMthOK zI0 zT0 267 := ⟨zr_X12_givenBy, rfl, by decide +kernel⟩
theorem zok_268 : zMthOK zI0 zT0 268 := ⟨zr_X12_store, rfl, by decide +kernel⟩
theorem zok_269 : zMthOK zI0 zT0 269 := ⟨zr_X12_month, rfl, by decide +kernel⟩
theorem zok_270 : zMthOK zI0 zT0 270 := ⟨zr_X12_ration, rfl, by decide +kernel⟩
theorem zok_271 : zMthOK zI0 zT0 271 := ⟨zr_X12_isHerd, rfl, by decide +kernel⟩
theorem zok_272 : zMthOK zI0 zT0 272 := ⟨zr_X12_book, rfl, by decide +kernel⟩
theorem zok_273 : zMthOK zI0 zT0 273 := ⟨zr_X12_flock, rfl, by decide +kernel⟩
theorem zok_274 : zMthOK zI0 zT0 274 := ⟨zr_X12_isFlock, rfl, by decide +kernel⟩
theorem zok_275 : zMthOK zI0 zT0 275 := ⟨zr_X12_found, rfl, by decide +kernel⟩
theorem zok_276 : zMthOK zI0 zT0 276 := ⟨zr_X12_least, rfl, by decide +kernel⟩
theorem zok_277 : zMthOK zI0 zT0 277 := ⟨zr_X12_agesByBook, rfl, by decide +kernel⟩
theorem zok_278 : zMthOK zI0 zT0 278 := ⟨zr_X12_foundAt, rfl, by decide +kernel⟩
theorem zok_279 : zMthOK zI0 zT0 279 := ⟨zr_X12_over0, rfl, by decide +kernel⟩
theorem zok_280 : zMthOK zI0 zT0 280 := ⟨zr_X12_flockAt, rfl, by decide +kernel⟩
theorem zok_281 : zMthOK zI0 zT0 281 := ⟨zr_X12_interest, rfl, by decide +kernel⟩
theorem zok_282 : zMthOK zI0 zT0 282 := ⟨zr_X12_loan, rfl, by decide +kernel⟩
theorem zok_283 : zMthOK zI0 zT0 283 := ⟨zr_X12_isLoan, rfl, by decide +kernel⟩
theorem zok_284 : zMthOK zI0 zT0 284 := ⟨zr_X12_pay, rfl, by decide +kernel⟩
theorem zok_285 : zMthOK zI0 zT0 285 := ⟨zr_X12_edict, rfl, by decide +kernel⟩
theorem zok_286 : zMthOK zI0 zT0 286 := ⟨zr_X12_paidIn, rfl, by decide +kernel⟩
theorem zok_287 : zMthOK zI0 zT0 287 := ⟨zr_X12_owed, rfl, by decide +kernel⟩
theorem zok_288 : zMthOK zI0 zT0 288 := ⟨zr_X12_root, rfl, by decide +kernel⟩
theorem zok_289 : zMthOK zI0 zT0 289 := ⟨zr_X12_product, rfl, by decide +kernel⟩
theorem zok_290 : zMthOK zI0 zT0 290 := ⟨zr_X12_isSide, rfl, by decide +kernel⟩
theorem zok_291 : zMthOK zI0 zT0 291 := ⟨zr_X12_field, rfl, by decide +kernel⟩
theorem zok_292 : zMthOK zI0 zT0 292 := ⟨zr_X12_look, rfl, by decide +kernel⟩
theorem zok_293 : zMthOK zI0 zT0 293 := ⟨zr_J6_bitCount_0f7a4, rfl, by decide +kernel⟩
theorem zok_294 : zMthOK zI0 zT0 294 := ⟨zr_J6_numberOfTrailingZeros_0f7a4, rfl, by decide +kernel⟩
theorem zok_295 : zMthOK zI0 zT0 295 := ⟨zr_J0_length_8abf5, rfl, by decide +kernel⟩
theorem zok_296 : zMthOK zI0 zT0 296 := ⟨zr_J0_charAt_5068e, rfl, by decide +kernel⟩
theorem zok_297 : zMthOK zI0 zT0 297 := ⟨zr_J0_indexOf_0f7a4, rfl, by decide +kernel⟩
theorem zok_298 : zMthOK zI0 zT0 298 := ⟨zr_J0_indexOf_7cf53, rfl, by decide +kernel⟩
theorem zok_299 : zMthOK zI0 zT0 299 := ⟨zr_J0_isLatin1_aae02, rfl, by decide +kernel⟩
theorem zok_300 : zMthOK zI0 zT0 300 := ⟨zr_J0_coder_7d493, rfl, by decide +kernel⟩
theorem zok_301 : zMthOK zI0 zT0 301 := ⟨zr_J0_checkIndex_df160, rfl, by decide +kernel⟩
theorem zok_302 : zMthOK zI0 zT0 302 := ⟨zr_J1_charAt_3b067, rfl, by decide +kernel⟩
theorem zok_303 : zMthOK zI0 zT0 303 := ⟨zr_J1_indexOf_4cfef, rfl, by decide +kernel⟩
theorem zok_304 : zMthOK zI0 zT0 304 := ⟨zr_J1_indexOfChar_4cfef, rfl, by decide +kernel⟩
theorem zok_305 : zMthOK zI0 zT0 305 := ⟨zr_J1_canEncode_9a6ad, rfl, by decide +kernel⟩
theorem zok_306 : zMthOK zI0 zT0 306 := ⟨zr_J3_checkIndex_8e157, rfl, by decide +kernel⟩
theorem zokl_25 : ∀ j, j < 25 → zMthOK zI0 zT0 j := (zlt1 (n := 24) zok_24 (zlt1 (n := 23) zok_23 (zlt1 (n := 22) zok_22 (zlt1 (n := 21) zok_21 (zlt1 (n := 20) zok_20 (zlt1 (n := 19) zok_19 (zlt1 (n := 18) zok_18 (zlt1 (n := 17) zok_17 (zlt1 (n := 16) zok_16 (zlt1 (n := 15) zok_15 (zlt1 (n := 14) zok_14 (zlt1 (n := 13) zok_13 (zlt1 (n := 12) zok_12 (zlt1 (n := 11) zok_11 (zlt1 (n := 10) zok_10 (zlt1 (n := 9) zok_9 (zlt1 (n := 8) zok_8 (zlt1 (n := 7) zok_7 (zlt1 (n := 6) zok_6 (zlt1 (n := 5) zok_5 (zlt1 (n := 4) zok_4 (zlt1 (n := 3) zok_3 (zlt1 (n := 2) zok_2 (zlt1 (n := 1) zok_1 (zlt1 (n := 0) zok_0 zlt0)))))))))))))))))))))))))
theorem zokl_50 : ∀ j, j < 50 → zMthOK zI0 zT0 j := (zlt1 (n := 49) zok_49 (zlt1 (n := 48) zok_48 (zlt1 (n := 47) zok_47 (zlt1 (n := 46) zok_46 (zlt1 (n := 45) zok_45 (zlt1 (n := 44) zok_44 (zlt1 (n := 43) zok_43 (zlt1 (n := 42) zok_42 (zlt1 (n := 41) zok_41 (zlt1 (n := 40) zok_40 (zlt1 (n := 39) zok_39 (zlt1 (n := 38) zok_38 (zlt1 (n := 37) zok_37 (zlt1 (n := 36) zok_36 (zlt1 (n := 35) zok_35 (zlt1 (n := 34) zok_34 (zlt1 (n := 33) zok_33 (zlt1 (n := 32) zok_32 (zlt1 (n := 31) zok_31 (zlt1 (n := 30) zok_30 (zlt1 (n := 29) zok_29 (zlt1 (n := 28) zok_28 (zlt1 (n := 27) zok_27 (zlt1 (n := 26) zok_26 (zlt1 (n := 25) zok_25 zokl_25)))))))))))))))))))))))))
theorem zokl_75 : ∀ j, j < 75 → zMthOK zI0 zT0 j := (zlt1 (n := 74) zok_74 (zlt1 (n := 73) zok_73 (zlt1 (n := 72) zok_72 (zlt1 (n := 71) zok_71 (zlt1 (n := 70) zok_70 (zlt1 (n := 69) zok_69 (zlt1 (n := 68) zok_68 (zlt1 (n := 67) zok_67 (zlt1 (n := 66) zok_66 (zlt1 (n := 65) zok_65 (zlt1 (n := 64) zok_64 (zlt1 (n := 63) zok_63 (zlt1 (n := 62) zok_62 (zlt1 (n := 61) zok_61 (zlt1 (n := 60) zok_60 (zlt1 (n := 59) zok_59 (zlt1 (n := 58) zok_58 (zlt1 (n := 57) zok_57 (zlt1 (n := 56) zok_56 (zlt1 (n := 55) zok_55 (zlt1 (n := 54) zok_54 (zlt1 (n := 53) zok_53 (zlt1 (n := 52) zok_52 (zlt1 (n := 51) zok_51 (zlt1 (n := 50) zok_50 zokl_50)))))))))))))))))))))))))
theorem zokl_100 : ∀ j, j < 100 → zMthOK zI0 zT0 j := (zlt1 (n := 99) zok_99 (zlt1 (n := 98) zok_98 (zlt1 (n := 97) zok_97 (zlt1 (n := 96) zok_96 (zlt1 (n := 95) zok_95 (zlt1 (n := 94) zok_94 (zlt1 (n := 93) zok_93 (zlt1 (n := 92) zok_92 (zlt1 (n := 91) zok_91 (zlt1 (n := 90) zok_90 (zlt1 (n := 89) zok_89 (zlt1 (n := 88) zok_88 (zlt1 (n := 87) zok_87 (zlt1 (n := 86) zok_86 (zlt1 (n := 85) zok_85 (zlt1 (n := 84) zok_84 (zlt1 (n := 83) zok_83 (zlt1 (n := 82) zok_82 (zlt1 (n := 81) zok_81 (zlt1 (n := 80) zok_80 (zlt1 (n := 79) zok_79 (zlt1 (n := 78) zok_78 (zlt1 (n := 77) zok_77 (zlt1 (n := 76) zok_76 (zlt1 (n := 75) zok_75 zokl_75)))))))))))))))))))))))))
theorem zokl_125 : ∀ j, j < 125 → zMthOK zI0 zT0 j := (zlt1 (n := 124) zok_124 (zlt1 (n := 123) zok_123 (zlt1 (n := 122) zok_122 (zlt1 (n := 121) zok_121 (zlt1 (n := 120) zok_120 (zlt1 (n := 119) zok_119 (zlt1 (n := 118) zok_118 (zlt1 (n := 117) zok_117 (zlt1 (n := 116) zok_116 (zlt1 (n := 115) zok_115 (zlt1 (n := 114) zok_114 (zlt1 (n := 113) zok_113 (zlt1 (n := 112) zok_112 (zlt1 (n := 111) zok_111 (zlt1 (n := 110) zok_110 (zlt1 (n := 109) zok_109 (zlt1 (n := 108) zok_108 (zlt1 (n := 107) zok_107 (zlt1 (n := 106) zok_106 (zlt1 (n := 105) zok_105 (zlt1 (n := 104) zok_104 (zlt1 (n := 103) zok_103 (zlt1 (n := 102) zok_102 (zlt1 (n := 101) zok_101 (zlt1 (n := 100) zok_100 zokl_100)))))))))))))))))))))))))
theorem zokl_150 : ∀ j, j < 150 → zMthOK zI0 zT0 j := (zlt1 (n := 149) zok_149 (zlt1 (n := 148) zok_148 (zlt1 (n := 147) zok_147 (zlt1 (n := 146) zok_146 (zlt1 (n := 145) zok_145 (zlt1 (n := 144) zok_144 (zlt1 (n := 143) zok_143 (zlt1 (n := 142) zok_142 (zlt1 (n := 141) zok_141 (zlt1 (n := 140) zok_140 (zlt1 (n := 139) zok_139 (zlt1 (n := 138) zok_138 (zlt1 (n := 137) zok_137 (zlt1 (n := 136) zok_136 (zlt1 (n := 135) zok_135 (zlt1 (n := 134) zok_134 (zlt1 (n := 133) zok_133 (zlt1 (n := 132) zok_132 (zlt1 (n := 131) zok_131 (zlt1 (n := 130) zok_130 (zlt1 (n := 129) zok_129 (zlt1 (n := 128) zok_128 (zlt1 (n := 127) zok_127 (zlt1 (n := 126) zok_126 (zlt1 (n := 125) zok_125 zokl_125)))))))))))))))))))))))))
theorem zokl_175 : ∀ j, j < 175 → zMthOK zI0 zT0 j := (zlt1 (n := 174) zok_174 (zlt1 (n := 173) zok_173 (zlt1 (n := 172) zok_172 (zlt1 (n := 171) zok_171 (zlt1 (n := 170) zok_170 (zlt1 (n := 169) zok_169 (zlt1 (n := 168) zok_168 (zlt1 (n := 167) zok_167 (zlt1 (n := 166) zok_166 (zlt1 (n := 165) zok_165 (zlt1 (n := 164) zok_164 (zlt1 (n := 163) zok_163 (zlt1 (n := 162) zok_162 (zlt1 (n := 161) zok_161 (zlt1 (n := 160) zok_160 (zlt1 (n := 159) zok_159 (zlt1 (n := 158) zok_158 (zlt1 (n := 157) zok_157 (zlt1 (n := 156) zok_156 (zlt1 (n := 155) zok_155 (zlt1 (n := 154) zok_154 (zlt1 (n := 153) zok_153 (zlt1 (n := 152) zok_152 (zlt1 (n := 151) zok_151 (zlt1 (n := 150) zok_150 zokl_150)))))))))))))))))))))))))
theorem zokl_200 : ∀ j, j < 200 → zMthOK zI0 zT0 j := (zlt1 (n := 199) zok_199 (zlt1 (n := 198) zok_198 (zlt1 (n := 197) zok_197 (zlt1 (n := 196) zok_196 (zlt1 (n := 195) zok_195 (zlt1 (n := 194) zok_194 (zlt1 (n := 193) zok_193 (zlt1 (n := 192) zok_192 (zlt1 (n := 191) zok_191 (zlt1 (n := 190) zok_190 (zlt1 (n := 189) zok_189 (zlt1 (n := 188) zok_188 (zlt1 (n := 187) zok_187 (zlt1 (n := 186) zok_186 (zlt1 (n := 185) zok_185 (zlt1 (n := 184) zok_184 (zlt1 (n := 183) zok_183 (zlt1 (n := 182) zok_182 (zlt1 (n := 181) zok_181 (zlt1 (n := 180) zok_180 (zlt1 (n := 179) zok_179 (zlt1 (n := 178) zok_178 (zlt1 (n := 177) zok_177 (zlt1 (n := 176) zok_176 (zlt1 (n := 175) zok_175 zokl_175)))))))))))))))))))))))))
theorem zokl_225 : ∀ j, j < 225 → zMthOK zI0 zT0 j := (zlt1 (n := 224) zok_224 (zlt1 (n := 223) zok_223 (zlt1 (n := 222) zok_222 (zlt1 (n := 221) zok_221 (zlt1 (n := 220) zok_220 (zlt1 (n := 219) zok_219 (zlt1 (n := 218) zok_218 (zlt1 (n := 217) zok_217 (zlt1 (n := 216) zok_216 (zlt1 (n := 215) zok_215 (zlt1 (n := 214) zok_214 (zlt1 (n := 213) zok_213 (zlt1 (n := 212) zok_212 (zlt1 (n := 211) zok_211 (zlt1 (n := 210) zok_210 (zlt1 (n := 209) zok_209 (zlt1 (n := 208) zok_208 (zlt1 (n := 207) zok_207 (zlt1 (n := 206) zok_206 (zlt1 (n := 205) zok_205 (zlt1 (n := 204) zok_204 (zlt1 (n := 203) zok_203 (zlt1 (n := 202) zok_202 (zlt1 (n := 201) zok_201 (zlt1 (n := 200) zok_200 zokl_200)))))))))))))))))))))))))
theorem zokl_250 : ∀ j, j < 250 → zMthOK zI0 zT0 j := (zlt1 (n := 249) zok_249 (zlt1 (n := 248) zok_248 (zlt1 (n := 247) zok_247 (zlt1 (n := 246) zok_246 (zlt1 (n := 245) zok_245 (zlt1 (n := 244) zok_244 (zlt1 (n := 243) zok_243 (zlt1 (n := 242) zok_242 (zlt1 (n := 241) zok_241 (zlt1 (n := 240) zok_240 (zlt1 (n := 239) zok_239 (zlt1 (n := 238) zok_238 (zlt1 (n := 237) zok_237 (zlt1 (n := 236) zok_236 (zlt1 (n := 235) zok_235 (zlt1 (n := 234) zok_234 (zlt1 (n := 233) zok_233 (zlt1 (n := 232) zok_232 (zlt1 (n := 231) zok_231 (zlt1 (n := 230) zok_230 (zlt1 (n := 229) zok_229 (zlt1 (n := 228) zok_228 (zlt1 (n := 227) zok_227 (zlt1 (n := 226) zok_226 (zlt1 (n := 225) zok_225 zokl_225)))))))))))))))))))))))))
theorem zokl_275 : ∀ j, j < 275 → zMthOK zI0 zT0 j := (zlt1 (n := 274) zok_274 (zlt1 (n := 273) zok_273 (zlt1 (n := 272) zok_272 (zlt1 (n := 271) zok_271 (zlt1 (n := 270) zok_270 (zlt1 (n := 269) zok_269 (zlt1 (n := 268) zok_268 (zlt1 (n := 267) zok_267 (zlt1 (n := 266) zok_266 (zlt1 (n := 265) zok_265 (zlt1 (n := 264) zok_264 (zlt1 (n := 263) zok_263 (zlt1 (n := 262) zok_262 (zlt1 (n := 261) zok_261 (zlt1 (n := 260) zok_260 (zlt1 (n := 259) zok_259 (zlt1 (n := 258) zok_258 (zlt1 (n := 257) zok_257 (zlt1 (n := 256) zok_256 (zlt1 (n := 255) zok_255 (zlt1 (n := 254) zok_254 (zlt1 (n := 253) zok_253 (zlt1 (n := 252) zok_252 (zlt1 (n := 251) zok_251 (zlt1 (n := 250) zok_250 zokl_250)))))))))))))))))))))))))
theorem zokl_300 : ∀ j, j < 300 → zMthOK zI0 zT0 j := (zlt1 (n := 299) zok_299 (zlt1 (n := 298) zok_298 (zlt1 (n := 297) zok_297 (zlt1 (n := 296) zok_296 (zlt1 (n := 295) zok_295 (zlt1 (n := 294) zok_294 (zlt1 (n := 293) zok_293 (zlt1 (n := 292) zok_292 (zlt1 (n := 291) zok_291 (zlt1 (n := 290) zok_290 (zlt1 (n := 289) zok_289 (zlt1 (n := 288) zok_288 (zlt1 (n := 287) zok_287 (zlt1 (n := 286) zok_286 (zlt1 (n := 285) zok_285 (zlt1 (n := 284) zok_284 (zlt1 (n := 283) zok_283 (zlt1 (n := 282) zok_282 (zlt1 (n := 281) zok_281 (zlt1 (n := 280) zok_280 (zlt1 (n := 279) zok_279 (zlt1 (n := 278) zok_278 (zlt1 (n := 277) zok_277 (zlt1 (n := 276) zok_276 (zlt1 (n := 275) zok_275 zokl_275)))))))))))))))))))))))))
theorem zokl_307 : ∀ j, j < 307 → zMthOK zI0 zT0 j := (zlt1 (n := 306) zok_306 (zlt1 (n := 305) zok_305 (zlt1 (n := 304) zok_304 (zlt1 (n := 303) zok_303 (zlt1 (n := 302) zok_302 (zlt1 (n := 301) zok_301 (zlt1 (n := 300) zok_300 zokl_300)))))))
theorem zok_ge (j : Nat) (h : 307 ≤ j) : zMthOK zI0 zT0 j := by
  have hb : Nat.ble 307 j = true := Nat.ble_eq_true_of_le h
  have e1 : zT0 j = (0, fun _ => op_bad) := by unfold zT0; rw [hb]; rfl
  have e2 : zI0 j = (⟨"X", "", ""⟩, ⟨#[]⟩, 0, none) := by unfold zI0; rw [hb]; rfl
  refine ⟨fun pc => ?_, by rw [e1, e2], by rw [e2]; decide +kernel⟩
  rw [e1]
  exact ⟨snd_bad, gw_bad⟩
theorem zok_all (j : Nat) : zMthOK zI0 zT0 j ∨ zPrm zI0 zT0 j := Or.inl (by
  rcases Nat.lt_or_ge j 307 with h | h
  · exact zokl_307 j h
  · exact zok_ge j h)
theorem zsim0 (l : Launch) (G : zG) (d : Nat) : zCal l G zI0 d (zF zT0 d) := zsim zok_all l G d
theorem zg_X0_init : zgood zc_X0_init := fun pc => (zr_X0_init pc).1.1
theorem zg_X0_isBall : zgood zc_X0_isBall := fun pc => (zr_X0_isBall pc).1.1
theorem zg_X0_isKind : zgood zc_X0_isKind := fun pc => (zr_X0_isKind pc).1.1
theorem zg_X0_setWeight : zgood zc_X0_setWeight := fun pc => (zr_X0_setWeight pc).1.1
theorem zg_X0_setMark : zgood zc_X0_setMark := fun pc => (zr_X0_setMark pc).1.1
theorem zg_X0_setTold : zgood zc_X0_setTold := fun pc => (zr_X0_setTold pc).1.1
theorem zg_X0_answer : zgood zc_X0_answer := fun pc => (zr_X0_answer pc).1.1
theorem zg_X0_survey : zgood zc_X0_survey := fun pc => (zr_X0_survey pc).1.1
theorem zg_X0_tryLastKind : zgood zc_X0_tryLastKind := fun pc => (zr_X0_tryLastKind pc).1.1
theorem zg_X0_admit : zgood zc_X0_admit := fun pc => (zr_X0_admit pc).1.1
theorem zg_X0_openedOnes : zgood zc_X0_openedOnes := fun pc => (zr_X0_openedOnes pc).1.1
theorem zg_X1_init : zgood zc_X1_init := fun pc => (zr_X1_init pc).1.1
theorem zg_X1_read : zgood zc_X1_read := fun pc => (zr_X1_read pc).1.1
theorem zg_X1_readLine : zgood zc_X1_readLine := fun pc => (zr_X1_readLine pc).1.1
theorem zg_X1_beginLine : zgood zc_X1_beginLine := fun pc => (zr_X1_beginLine pc).1.1
theorem zg_X1_endLine : zgood zc_X1_endLine := fun pc => (zr_X1_endLine pc).1.1
theorem zg_X1_signed : zgood zc_X1_signed := fun pc => (zr_X1_signed pc).1.1
theorem zg_X1_readNumeral : zgood zc_X1_readNumeral := fun pc => (zr_X1_readNumeral pc).1.1
theorem zg_X1_readLost : zgood zc_X1_readLost := fun pc => (zr_X1_readLost pc).1.1
theorem zg_X1_readCount : zgood zc_X1_readCount := fun pc => (zr_X1_readCount pc).1.1
theorem zg_X1_addMark : zgood zc_X1_addMark := fun pc => (zr_X1_addMark pc).1.1
theorem zg_X1_solve : zgood zc_X1_solve := fun pc => (zr_X1_solve pc).1.1
theorem zg_X1_dueOfLost : zgood zc_X1_dueOfLost := fun pc => (zr_X1_dueOfLost pc).1.1
theorem zg_X1_markedBy : zgood zc_X1_markedBy := fun pc => (zr_X1_markedBy pc).1.1
theorem zg_X1_widenMarked : zgood zc_X1_widenMarked := fun pc => (zr_X1_widenMarked pc).1.1
theorem zg_X1_widen : zgood zc_X1_widen := fun pc => (zr_X1_widen pc).1.1
theorem zg_X1_openSpans : zgood zc_X1_openSpans := fun pc => (zr_X1_openSpans pc).1.1
theorem zg_X1_closeSpans : zgood zc_X1_closeSpans := fun pc => (zr_X1_closeSpans pc).1.1
theorem zg_X2_init : zgood zc_X2_init := fun pc => (zr_X2_init pc).1.1
theorem zg_X2_canBeTold : zgood zc_X2_canBeTold := fun pc => (zr_X2_canBeTold pc).1.1
theorem zg_X2_size : zgood zc_X2_size := fun pc => (zr_X2_size pc).1.1
theorem zg_X2_setBook : zgood zc_X2_setBook := fun pc => (zr_X2_setBook pc).1.1
theorem zg_X2_add : zgood zc_X2_add := fun pc => (zr_X2_add pc).1.1
theorem zg_X2_addFound : zgood zc_X2_addFound := fun pc => (zr_X2_addFound pc).1.1
theorem zg_X2_answer : zgood zc_X2_answer := fun pc => (zr_X2_answer pc).1.1
theorem zg_X2_goByTheBook : zgood zc_X2_goByTheBook := fun pc => (zr_X2_goByTheBook pc).1.1
theorem zg_X2_hundredths : zgood zc_X2_hundredths := fun pc => (zr_X2_hundredths pc).1.1
theorem zg_X2_booked : zgood zc_X2_booked := fun pc => (zr_X2_booked pc).1.1
theorem zg_X2_lastFound : zgood zc_X2_lastFound := fun pc => (zr_X2_lastFound pc).1.1
theorem zg_X2_takeFound : zgood zc_X2_takeFound := fun pc => (zr_X2_takeFound pc).1.1
theorem zg_X3_init : zgood zc_X3_init := fun pc => (zr_X3_init pc).1.1
theorem zg_X3_size : zgood zc_X3_size := fun pc => (zr_X3_size pc).1.1
theorem zg_X3_add : zgood zc_X3_add := fun pc => (zr_X3_add pc).1.1
theorem zg_X3_setEdge : zgood zc_X3_setEdge := fun pc => (zr_X3_setEdge pc).1.1
theorem zg_X3_answer : zgood zc_X3_answer := fun pc => (zr_X3_answer pc).1.1
theorem zg_X3_arrange : zgood zc_X3_arrange := fun pc => (zr_X3_arrange pc).1.1
theorem zg_X3_offer : zgood zc_X3_offer := fun pc => (zr_X3_offer pc).1.1
theorem zg_X3_gapOf : zgood zc_X3_gapOf := fun pc => (zr_X3_gapOf pc).1.1
theorem zg_X3_leastGaps : zgood zc_X3_leastGaps := fun pc => (zr_X3_leastGaps pc).1.1
theorem zg_X3_waysOf : zgood zc_X3_waysOf := fun pc => (zr_X3_waysOf pc).1.1
theorem zg_X3_placeInRow : zgood zc_X3_placeInRow := fun pc => (zr_X3_placeInRow pc).1.1
theorem zg_X3_nextInRow : zgood zc_X3_nextInRow := fun pc => (zr_X3_nextInRow pc).1.1
theorem zg_X4_init : zgood zc_X4_init := fun pc => (zr_X4_init pc).1.1
theorem zg_X4_size : zgood zc_X4_size := fun pc => (zr_X4_size pc).1.1
theorem zg_X4_setInterest : zgood zc_X4_setInterest := fun pc => (zr_X4_setInterest pc).1.1
theorem zg_X4_add : zgood zc_X4_add := fun pc => (zr_X4_add pc).1.1
theorem zg_X4_addPayment : zgood zc_X4_addPayment := fun pc => (zr_X4_addPayment pc).1.1
theorem zg_X4_addEdict : zgood zc_X4_addEdict := fun pc => (zr_X4_addEdict pc).1.1
theorem zg_X4_owedAt : zgood zc_X4_owedAt := fun pc => (zr_X4_owedAt pc).1.1
theorem zg_X4_paidFor : zgood zc_X4_paidFor := fun pc => (zr_X4_paidFor pc).1.1
theorem zg_X5_init : zgood zc_X5_init := fun pc => (zr_X5_init pc).1.1
theorem zg_X5_slot : zgood zc_X5_slot := fun pc => (zr_X5_slot pc).1.1
theorem zg_X5_isSystem : zgood zc_X5_isSystem := fun pc => (zr_X5_isSystem pc).1.1
theorem zg_X5_setStep : zgood zc_X5_setStep := fun pc => (zr_X5_setStep pc).1.1
theorem zg_X5_dropSign : zgood zc_X5_dropSign := fun pc => (zr_X5_dropSign pc).1.1
theorem zg_X5_staysSmall : zgood zc_X5_staysSmall := fun pc => (zr_X5_staysSmall pc).1.1
theorem zg_X5_setSystem : zgood zc_X5_setSystem := fun pc => (zr_X5_setSystem pc).1.1
theorem zg_X5_systemOf : zgood zc_X5_systemOf := fun pc => (zr_X5_systemOf pc).1.1
theorem zg_X5_hasSign : zgood zc_X5_hasSign := fun pc => (zr_X5_hasSign pc).1.1
theorem zg_X5_worthOf : zgood zc_X5_worthOf := fun pc => (zr_X5_worthOf pc).1.1
theorem zg_X5_mostOf : zgood zc_X5_mostOf := fun pc => (zr_X5_mostOf pc).1.1
theorem zg_X5_countIn : zgood zc_X5_countIn := fun pc => (zr_X5_countIn pc).1.1
theorem zg_X6_init : zgood zc_X6_init := fun pc => (zr_X6_init pc).1.1
theorem zg_X6_has : zgood zc_X6_has := fun pc => (zr_X6_has pc).1.1
theorem zg_X6_size : zgood zc_X6_size := fun pc => (zr_X6_size pc).1.1
theorem zg_X6_allShort : zgood zc_X6_allShort := fun pc => (zr_X6_allShort pc).1.1
theorem zg_X6_inStore : zgood zc_X6_inStore := fun pc => (zr_X6_inStore pc).1.1
theorem zg_X6_add : zgood zc_X6_add := fun pc => (zr_X6_add pc).1.1
theorem zg_X6_setDays : zgood zc_X6_setDays := fun pc => (zr_X6_setDays pc).1.1
theorem zg_X6_putInStore : zgood zc_X6_putInStore := fun pc => (zr_X6_putInStore pc).1.1
theorem zg_X6_runMonth : zgood zc_X6_runMonth := fun pc => (zr_X6_runMonth pc).1.1
theorem zg_X6_rationOf : zgood zc_X6_rationOf := fun pc => (zr_X6_rationOf pc).1.1
theorem zg_X6_learnFacts : zgood zc_X6_learnFacts := fun pc => (zr_X6_learnFacts pc).1.1
theorem zg_X7_init : zgood zc_X7_init := fun pc => (zr_X7_init pc).1.1
theorem zg_X7_lines : zgood zc_X7_lines := fun pc => (zr_X7_lines pc).1.1
theorem zg_X7_goodOf : zgood zc_X7_goodOf := fun pc => (zr_X7_goodOf pc).1.1
theorem zg_X7_read : zgood zc_X7_read := fun pc => (zr_X7_read pc).1.1
theorem zg_X7_readGive : zgood zc_X7_readGive := fun pc => (zr_X7_readGive pc).1.1
theorem zg_X7_readWhen : zgood zc_X7_readWhen := fun pc => (zr_X7_readWhen pc).1.1
theorem zg_X7_readCondition : zgood zc_X7_readCondition := fun pc => (zr_X7_readCondition pc).1.1
theorem zg_X7_readSum : zgood zc_X7_readSum := fun pc => (zr_X7_readSum pc).1.1
theorem zg_X7_readUnit : zgood zc_X7_readUnit := fun pc => (zr_X7_readUnit pc).1.1
theorem zg_X7_readDivisor : zgood zc_X7_readDivisor := fun pc => (zr_X7_readDivisor pc).1.1
theorem zg_X7_write : zgood zc_X7_write := fun pc => (zr_X7_write pc).1.1
theorem zg_X7_amountOf : zgood zc_X7_amountOf := fun pc => (zr_X7_amountOf pc).1.1
theorem zg_X7_reckon : zgood zc_X7_reckon := fun pc => (zr_X7_reckon pc).1.1
theorem zg_X7_joined : zgood zc_X7_joined := fun pc => (zr_X7_joined pc).1.1
theorem zg_X8_init : zgood zc_X8_init := fun pc => (zr_X8_init pc).1.1
theorem zg_X8_isSealing : zgood zc_X8_isSealing := fun pc => (zr_X8_isSealing pc).1.1
theorem zg_X8_size : zgood zc_X8_size := fun pc => (zr_X8_size pc).1.1
theorem zg_X8_add : zgood zc_X8_add := fun pc => (zr_X8_add pc).1.1
theorem zg_X8_lay : zgood zc_X8_lay := fun pc => (zr_X8_lay pc).1.1
theorem zg_X8_answer : zgood zc_X8_answer := fun pc => (zr_X8_answer pc).1.1
theorem zg_X8_countOrders : zgood zc_X8_countOrders := fun pc => (zr_X8_countOrders pc).1.1
theorem zg_X8_findFirst : zgood zc_X8_findFirst := fun pc => (zr_X8_findFirst pc).1.1
theorem zg_X8_findRing : zgood zc_X8_findRing := fun pc => (zr_X8_findRing pc).1.1
theorem zg_X8_findWaysBack : zgood zc_X8_findWaysBack := fun pc => (zr_X8_findWaysBack pc).1.1
theorem zg_X8_walkRing : zgood zc_X8_walkRing := fun pc => (zr_X8_walkRing pc).1.1
theorem zg_X8_compare : zgood zc_X8_compare := fun pc => (zr_X8_compare pc).1.1
theorem zg_X8_allUnder : zgood zc_X8_allUnder := fun pc => (zr_X8_allUnder pc).1.1
theorem zg_X9_init : zgood zc_X9_init := fun pc => (zr_X9_init pc).1.1
theorem zg_X9_has : zgood zc_X9_has := fun pc => (zr_X9_has pc).1.1
theorem zg_X9_keep : zgood zc_X9_keep := fun pc => (zr_X9_keep pc).1.1
theorem zg_X9_lineOf : zgood zc_X9_lineOf := fun pc => (zr_X9_lineOf pc).1.1
theorem zg_X9_stockOf : zgood zc_X9_stockOf := fun pc => (zr_X9_stockOf pc).1.1
theorem zg_X9_ofAYear : zgood zc_X9_ofAYear := fun pc => (zr_X9_ofAYear pc).1.1
theorem zg_X10_init : zgood zc_X10_init := fun pc => (zr_X10_init pc).1.1
theorem zg_X10_append : zgood zc_X10_append := fun pc => (zr_X10_append pc).1.1
theorem zg_X10_appendNumber : zgood zc_X10_appendNumber := fun pc => (zr_X10_appendNumber pc).1.1
theorem zg_X10_cut : zgood zc_X10_cut := fun pc => (zr_X10_cut pc).1.1
theorem zg_X10_split : zgood zc_X10_split := fun pc => (zr_X10_split pc).1.1
theorem zg_X10_addToken : zgood zc_X10_addToken := fun pc => (zr_X10_addToken pc).1.1
theorem zg_X10_sizeFrom : zgood zc_X10_sizeFrom := fun pc => (zr_X10_sizeFrom pc).1.1
theorem zg_X10_kindOf : zgood zc_X10_kindOf := fun pc => (zr_X10_kindOf pc).1.1
theorem zg_X10_valueOf : zgood zc_X10_valueOf := fun pc => (zr_X10_valueOf pc).1.1
theorem zg_X10_wordAt : zgood zc_X10_wordAt := fun pc => (zr_X10_wordAt pc).1.1
theorem zg_X10_standsAt : zgood zc_X10_standsAt := fun pc => (zr_X10_standsAt pc).1.1
theorem zg_X10_isLetter : zgood zc_X10_isLetter := fun pc => (zr_X10_isLetter pc).1.1
theorem zg_X10_isDigit : zgood zc_X10_isDigit := fun pc => (zr_X10_isDigit pc).1.1
theorem zg_X10_kind : zgood zc_X10_kind := fun pc => (zr_X10_kind pc).1.1
theorem zg_X10_value : zgood zc_X10_value := fun pc => (zr_X10_value pc).1.1
theorem zg_X10_signBehind : zgood zc_X10_signBehind := fun pc => (zr_X10_signBehind pc).1.1
theorem zg_X10_move : zgood zc_X10_move := fun pc => (zr_X10_move pc).1.1
theorem zg_X10_take : zgood zc_X10_take := fun pc => (zr_X10_take pc).1.1
theorem zg_X10_fail : zgood zc_X10_fail := fun pc => (zr_X10_fail pc).1.1
theorem zg_X10_faultOf : zgood zc_X10_faultOf := fun pc => (zr_X10_faultOf pc).1.1
theorem zg_X11_init : zgood zc_X11_init := fun pc => (zr_X11_init pc).1.1
theorem zg_X11_step : zgood zc_X11_step := fun pc => (zr_X11_step pc).1.1
theorem zg_X11_good : zgood zc_X11_good := fun pc => (zr_X11_good pc).1.1
theorem zg_X11_written : zgood zc_X11_written := fun pc => (zr_X11_written pc).1.1
theorem zg_X11_year : zgood zc_X11_year := fun pc => (zr_X11_year pc).1.1
theorem zg_X11_feed : zgood zc_X11_feed := fun pc => (zr_X11_feed pc).1.1
theorem zg_X11_end : zgood zc_X11_end := fun pc => (zr_X11_end pc).1.1
theorem zg_X11_tablet : zgood zc_X11_tablet := fun pc => (zr_X11_tablet pc).1.1
theorem zg_X11_rules : zgood zc_X11_rules := fun pc => (zr_X11_rules pc).1.1
theorem zg_X11_fault : zgood zc_X11_fault := fun pc => (zr_X11_fault pc).1.1
theorem zg_X11_line : zgood zc_X11_line := fun pc => (zr_X11_line pc).1.1
theorem zg_X11_stock : zgood zc_X11_stock := fun pc => (zr_X11_stock pc).1.1
theorem zg_X11_weight : zgood zc_X11_weight := fun pc => (zr_X11_weight pc).1.1
theorem zg_X11_mark : zgood zc_X11_mark := fun pc => (zr_X11_mark pc).1.1
theorem zg_X11_tell : zgood zc_X11_tell := fun pc => (zr_X11_tell pc).1.1
theorem zg_X11_ball : zgood zc_X11_ball := fun pc => (zr_X11_ball pc).1.1
theorem zg_X11_seal : zgood zc_X11_seal := fun pc => (zr_X11_seal pc).1.1
theorem zg_X11_over : zgood zc_X11_over := fun pc => (zr_X11_over pc).1.1
theorem zg_X11_order : zgood zc_X11_order := fun pc => (zr_X11_order pc).1.1
theorem zg_X11_ahead : zgood zc_X11_ahead := fun pc => (zr_X11_ahead pc).1.1
theorem zg_X11_fragment : zgood zc_X11_fragment := fun pc => (zr_X11_fragment pc).1.1
theorem zg_X11_edge : zgood zc_X11_edge := fun pc => (zr_X11_edge pc).1.1
theorem zg_X11_row : zgood zc_X11_row := fun pc => (zr_X11_row pc).1.1
theorem zg_X11_person : zgood zc_X11_person := fun pc => (zr_X11_person pc).1.1
theorem zg_X11_works : zgood zc_X11_works := fun pc => (zr_X11_works pc).1.1
theorem zg_X11_store : zgood zc_X11_store := fun pc => (zr_X11_store pc).1.1
theorem zg_X11_month : zgood zc_X11_month := fun pc => (zr_X11_month pc).1.1
theorem zg_X11_ration : zgood zc_X11_ration := fun pc => (zr_X11_ration pc).1.1
theorem zg_X11_book : zgood zc_X11_book := fun pc => (zr_X11_book pc).1.1
theorem zg_X11_flock : zgood zc_X11_flock := fun pc => (zr_X11_flock pc).1.1
theorem zg_X11_found : zgood zc_X11_found := fun pc => (zr_X11_found pc).1.1
theorem zg_X11_flockAt : zgood zc_X11_flockAt := fun pc => (zr_X11_flockAt pc).1.1
theorem zg_X11_interest : zgood zc_X11_interest := fun pc => (zr_X11_interest pc).1.1
theorem zg_X11_loan : zgood zc_X11_loan := fun pc => (zr_X11_loan pc).1.1
theorem zg_X11_pay : zgood zc_X11_pay := fun pc => (zr_X11_pay pc).1.1
theorem zg_X11_edict : zgood zc_X11_edict := fun pc => (zr_X11_edict pc).1.1
theorem zg_X11_owed : zgood zc_X11_owed := fun pc => (zr_X11_owed pc).1.1
theorem zg_X11_field : zgood zc_X11_field := fun pc => (zr_X11_field pc).1.1
theorem zg_X11_look : zgood zc_X11_look := fun pc => (zr_X11_look pc).1.1
theorem zg_X11_within : zgood zc_X11_within := fun pc => (zr_X11_within pc).1.1
theorem zg_X11_isGood : zgood zc_X11_isGood := fun pc => (zr_X11_isGood pc).1.1
theorem zg_X11_isYear : zgood zc_X11_isYear := fun pc => (zr_X11_isYear pc).1.1
theorem zg_X11_isSide : zgood zc_X11_isSide := fun pc => (zr_X11_isSide pc).1.1
theorem zg_X11_quarter : zgood zc_X11_quarter := fun pc => (zr_X11_quarter pc).1.1
theorem zg_X11_threeSided : zgood zc_X11_threeSided := fun pc => (zr_X11_threeSided pc).1.1
theorem zg_X11_rootOfProduct : zgood zc_X11_rootOfProduct := fun pc => (zr_X11_rootOfProduct pc).1.1
theorem zg_X11_root : zgood zc_X11_root := fun pc => (zr_X11_root pc).1.1
theorem zg_X12_init : zgood zc_X12_init := fun pc => (zr_X12_init pc).1.1
theorem zg_X12_isIn : zgood zc_X12_isIn := fun pc => (zr_X12_isIn pc).1.1
theorem zg_X12_isSystem : zgood zc_X12_isSystem := fun pc => (zr_X12_isSystem pc).1.1
theorem zg_X12_isGood : zgood zc_X12_isGood := fun pc => (zr_X12_isGood pc).1.1
theorem zg_X12_isYear : zgood zc_X12_isYear := fun pc => (zr_X12_isYear pc).1.1
theorem zg_X12_worthOf : zgood zc_X12_worthOf := fun pc => (zr_X12_worthOf pc).1.1
theorem zg_X12_step : zgood zc_X12_step := fun pc => (zr_X12_step pc).1.1
theorem zg_X12_good : zgood zc_X12_good := fun pc => (zr_X12_good pc).1.1
theorem zg_X12_written : zgood zc_X12_written := fun pc => (zr_X12_written pc).1.1
theorem zg_X12_year : zgood zc_X12_year := fun pc => (zr_X12_year pc).1.1
theorem zg_X12_puts : zgood zc_X12_puts := fun pc => (zr_X12_puts pc).1.1
theorem zg_X12_feed : zgood zc_X12_feed := fun pc => (zr_X12_feed pc).1.1
theorem zg_X12_end : zgood zc_X12_end := fun pc => (zr_X12_end pc).1.1
theorem zg_X12_raw : zgood zc_X12_raw := fun pc => (zr_X12_raw pc).1.1
theorem zg_X12_isLetter : zgood zc_X12_isLetter := fun pc => (zr_X12_isLetter pc).1.1
theorem zg_X12_isDigit : zgood zc_X12_isDigit := fun pc => (zr_X12_isDigit pc).1.1
theorem zg_X12_isMarkSign : zgood zc_X12_isMarkSign := fun pc => (zr_X12_isMarkSign pc).1.1
theorem zg_X12_wordAt : zgood zc_X12_wordAt := fun pc => (zr_X12_wordAt pc).1.1
theorem zg_X12_next : zgood zc_X12_next := fun pc => (zr_X12_next pc).1.1
theorem zg_X12_failsAt : zgood zc_X12_failsAt := fun pc => (zr_X12_failsAt pc).1.1
theorem zg_X12_fails : zgood zc_X12_fails := fun pc => (zr_X12_fails pc).1.1
theorem zg_X12_isWord : zgood zc_X12_isWord := fun pc => (zr_X12_isWord pc).1.1
theorem zg_X12_isSign : zgood zc_X12_isSign := fun pc => (zr_X12_isSign pc).1.1
theorem zg_X12_fault : zgood zc_X12_fault := fun pc => (zr_X12_fault pc).1.1
theorem zg_X12_readCount : zgood zc_X12_readCount := fun pc => (zr_X12_readCount pc).1.1
theorem zg_X12_readNumeral : zgood zc_X12_readNumeral := fun pc => (zr_X12_readNumeral pc).1.1
theorem zg_X12_readLine : zgood zc_X12_readLine := fun pc => (zr_X12_readLine pc).1.1
theorem zg_X12_readTablet : zgood zc_X12_readTablet := fun pc => (zr_X12_readTablet pc).1.1
theorem zg_X12_signOf : zgood zc_X12_signOf := fun pc => (zr_X12_signOf pc).1.1
theorem zg_X12_takesUnknowns : zgood zc_X12_takesUnknowns := fun pc => (zr_X12_takesUnknowns pc).1.1
theorem zg_X12_mostOf : zgood zc_X12_mostOf := fun pc => (zr_X12_mostOf pc).1.1
theorem zg_X12_notes : zgood zc_X12_notes := fun pc => (zr_X12_notes pc).1.1
theorem zg_X12_fits : zgood zc_X12_fits := fun pc => (zr_X12_fits pc).1.1
theorem zg_X12_closedFills : zgood zc_X12_closedFills := fun pc => (zr_X12_closedFills pc).1.1
theorem zg_X12_openFills : zgood zc_X12_openFills := fun pc => (zr_X12_openFills pc).1.1
theorem zg_X12_worksOut : zgood zc_X12_worksOut := fun pc => (zr_X12_worksOut pc).1.1
theorem zg_X12_blocks : zgood zc_X12_blocks := fun pc => (zr_X12_blocks pc).1.1
theorem zg_X12_tablet : zgood zc_X12_tablet := fun pc => (zr_X12_tablet pc).1.1
theorem zg_X12_line : zgood zc_X12_line := fun pc => (zr_X12_line pc).1.1
theorem zg_X12_stock : zgood zc_X12_stock := fun pc => (zr_X12_stock pc).1.1
theorem zg_X12_isBall : zgood zc_X12_isBall := fun pc => (zr_X12_isBall pc).1.1
theorem zg_X12_isKind : zgood zc_X12_isKind := fun pc => (zr_X12_isKind pc).1.1
theorem zg_X12_weight : zgood zc_X12_weight := fun pc => (zr_X12_weight pc).1.1
theorem zg_X12_mark : zgood zc_X12_mark := fun pc => (zr_X12_mark pc).1.1
theorem zg_X12_tell : zgood zc_X12_tell := fun pc => (zr_X12_tell pc).1.1
theorem zg_X12_mayBe : zgood zc_X12_mayBe := fun pc => (zr_X12_mayBe pc).1.1
theorem zg_X12_notesBall : zgood zc_X12_notesBall := fun pc => (zr_X12_notesBall pc).1.1
theorem zg_X12_findsBall : zgood zc_X12_findsBall := fun pc => (zr_X12_findsBall pc).1.1
theorem zg_X12_ball : zgood zc_X12_ball := fun pc => (zr_X12_ball pc).1.1
theorem zg_X12_isSeal : zgood zc_X12_isSeal := fun pc => (zr_X12_isSeal pc).1.1
theorem zg_X12_seal : zgood zc_X12_seal := fun pc => (zr_X12_seal pc).1.1
theorem zg_X12_over : zgood zc_X12_over := fun pc => (zr_X12_over pc).1.1
theorem zg_X12_orders : zgood zc_X12_orders := fun pc => (zr_X12_orders pc).1.1
theorem zg_X12_inOrder : zgood zc_X12_inOrder := fun pc => (zr_X12_inOrder pc).1.1
theorem zg_X12_nextOver : zgood zc_X12_nextOver := fun pc => (zr_X12_nextOver pc).1.1
theorem zg_X12_rings : zgood zc_X12_rings := fun pc => (zr_X12_rings pc).1.1
theorem zg_X12_ringMany : zgood zc_X12_ringMany := fun pc => (zr_X12_ringMany pc).1.1
theorem zg_X12_order : zgood zc_X12_order := fun pc => (zr_X12_order pc).1.1
theorem zg_X12_ahead : zgood zc_X12_ahead := fun pc => (zr_X12_ahead pc).1.1
theorem zg_X12_isFragment : zgood zc_X12_isFragment := fun pc => (zr_X12_isFragment pc).1.1
theorem zg_X12_fragment : zgood zc_X12_fragment := fun pc => (zr_X12_fragment pc).1.1
theorem zg_X12_edge : zgood zc_X12_edge := fun pc => (zr_X12_edge pc).1.1
theorem zg_X12_gap : zgood zc_X12_gap := fun pc => (zr_X12_gap pc).1.1
theorem zg_X12_worksRow : zgood zc_X12_worksRow := fun pc => (zr_X12_worksRow pc).1.1
theorem zg_X12_ones : zgood zc_X12_ones := fun pc => (zr_X12_ones pc).1.1
theorem zg_X12_row : zgood zc_X12_row := fun pc => (zr_X12_row pc).1.1
theorem zg_X12_inRow : zgood zc_X12_inRow := fun pc => (zr_X12_inRow pc).1.1
theorem zg_X12_isPerson : zgood zc_X12_isPerson := fun pc => (zr_X12_isPerson pc).1.1
theorem zg_X12_person : zgood zc_X12_person := fun pc => (zr_X12_person pc).1.1
theorem zg_X12_works : zgood zc_X12_works := fun pc => (zr_X12_works pc).1.1
theorem zg_X12_emits : zgood zc_X12_emits := fun pc => (zr_X12_emits pc).1.1
theorem zg_X12_readUnit : zgood zc_X12_readUnit := fun pc => (zr_X12_readUnit pc).1.1
theorem zg_X12_readProduct : zgood zc_X12_readProduct := fun pc => (zr_X12_readProduct pc).1.1
theorem zg_X12_readSum : zgood zc_X12_readSum := fun pc => (zr_X12_readSum pc).1.1
theorem zg_X12_readCompared : zgood zc_X12_readCompared := fun pc => (zr_X12_readCompared pc).1.1
theorem zg_X12_waits : zgood zc_X12_waits := fun pc => (zr_X12_waits pc).1.1
theorem zg_X12_settles : zgood zc_X12_settles := fun pc => (zr_X12_settles pc).1.1
theorem zg_X12_readAny : zgood zc_X12_readAny := fun pc => (zr_X12_readAny pc).1.1
theorem zg_X12_readRule : zgood zc_X12_readRule := fun pc => (zr_X12_readRule pc).1.1
theorem zg_X12_readRules : zgood zc_X12_readRules := fun pc => (zr_X12_readRules pc).1.1
theorem zg_X12_rules : zgood zc_X12_rules := fun pc => (zr_X12_rules pc).1.1
theorem zg_X12_takesAsked : zgood zc_X12_takesAsked := fun pc => (zr_X12_takesAsked pc).1.1
theorem zg_X12_twoOf : zgood zc_X12_twoOf := fun pc => (zr_X12_twoOf pc).1.1
theorem zg_X12_comesTo : zgood zc_X12_comesTo := fun pc => (zr_X12_comesTo pc).1.1
theorem zg_X12_givenBy : zgood zc_X12_givenBy := fun pc => (zr_X12_givenBy pc).1.1
theorem zg_X12_store : zgood zc_X12_store := fun pc => (zr_X12_store pc).1.1
theorem zg_X12_month : zgood zc_X12_month := fun pc => (zr_X12_month pc).1.1
theorem zg_X12_ration : zgood zc_X12_ration := fun pc => (zr_X12_ration pc).1.1
theorem zg_X12_isHerd : zgood zc_X12_isHerd := fun pc => (zr_X12_isHerd pc).1.1
theorem zg_X12_book : zgood zc_X12_book := fun pc => (zr_X12_book pc).1.1
theorem zg_X12_flock : zgood zc_X12_flock := fun pc => (zr_X12_flock pc).1.1
theorem zg_X12_isFlock : zgood zc_X12_isFlock := fun pc => (zr_X12_isFlock pc).1.1
theorem zg_X12_found : zgood zc_X12_found := fun pc => (zr_X12_found pc).1.1
theorem zg_X12_least : zgood zc_X12_least := fun pc => (zr_X12_least pc).1.1
theorem zg_X12_agesByBook : zgood zc_X12_agesByBook := fun pc => (zr_X12_agesByBook pc).1.1
theorem zg_X12_foundAt : zgood zc_X12_foundAt := fun pc => (zr_X12_foundAt pc).1.1
theorem zg_X12_over0 : zgood zc_X12_over0 := fun pc => (zr_X12_over0 pc).1.1
theorem zg_X12_flockAt : zgood zc_X12_flockAt := fun pc => (zr_X12_flockAt pc).1.1
theorem zg_X12_interest : zgood zc_X12_interest := fun pc => (zr_X12_interest pc).1.1
theorem zg_X12_loan : zgood zc_X12_loan := fun pc => (zr_X12_loan pc).1.1
theorem zg_X12_isLoan : zgood zc_X12_isLoan := fun pc => (zr_X12_isLoan pc).1.1
theorem zg_X12_pay : zgood zc_X12_pay := fun pc => (zr_X12_pay pc).1.1
theorem zg_X12_edict : zgood zc_X12_edict := fun pc => (zr_X12_edict pc).1.1
theorem zg_X12_paidIn : zgood zc_X12_paidIn := fun pc => (zr_X12_paidIn pc).1.1
theorem zg_X12_owed : zgood zc_X12_owed := fun pc => (zr_X12_owed pc).1.1
theorem zg_X12_root : zgood zc_X12_root := fun pc => (zr_X12_root pc).1.1
theorem zg_X12_product : zgood zc_X12_product := fun pc => (zr_X12_product pc).1.1
theorem zg_X12_isSide : zgood zc_X12_isSide := fun pc => (zr_X12_isSide pc).1.1
theorem zg_X12_field : zgood zc_X12_field := fun pc => (zr_X12_field pc).1.1
theorem zg_X12_look : zgood zc_X12_look := fun pc => (zr_X12_look pc).1.1
theorem zg_J6_bitCount_0f7a4 : zgood zc_J6_bitCount_0f7a4 := fun pc => (zr_J6_bitCount_0f7a4 pc).1.1
theorem zg_J6_numberOfTrailingZeros_0f7a4 : zgood zc_J6_numberOfTrailingZeros_0f7a4 := fun pc => (zr_J6_numberOfTrailingZeros_0f7a4 pc).1.1
theorem zg_J0_length_8abf5 : zgood zc_J0_length_8abf5 := fun pc => (zr_J0_length_8abf5 pc).1.1
theorem zg_J0_charAt_5068e : zgood zc_J0_charAt_5068e := fun pc => (zr_J0_charAt_5068e pc).1.1
theorem zg_J0_indexOf_0f7a4 : zgood zc_J0_indexOf_0f7a4 := fun pc => (zr_J0_indexOf_0f7a4 pc).1.1
theorem zg_J0_indexOf_7cf53 : zgood zc_J0_indexOf_7cf53 := fun pc => (zr_J0_indexOf_7cf53 pc).1.1
theorem zg_J0_isLatin1_aae02 : zgood zc_J0_isLatin1_aae02 := fun pc => (zr_J0_isLatin1_aae02 pc).1.1
theorem zg_J0_coder_7d493 : zgood zc_J0_coder_7d493 := fun pc => (zr_J0_coder_7d493 pc).1.1
theorem zg_J0_checkIndex_df160 : zgood zc_J0_checkIndex_df160 := fun pc => (zr_J0_checkIndex_df160 pc).1.1
theorem zg_J1_charAt_3b067 : zgood zc_J1_charAt_3b067 := fun pc => (zr_J1_charAt_3b067 pc).1.1
theorem zg_J1_indexOf_4cfef : zgood zc_J1_indexOf_4cfef := fun pc => (zr_J1_indexOf_4cfef pc).1.1
theorem zg_J1_indexOfChar_4cfef : zgood zc_J1_indexOfChar_4cfef := fun pc => (zr_J1_indexOfChar_4cfef pc).1.1
theorem zg_J1_canEncode_9a6ad : zgood zc_J1_canEncode_9a6ad := fun pc => (zr_J1_canEncode_9a6ad pc).1.1
theorem zg_J3_checkIndex_8e157 : zgood zc_J3_checkIndex_8e157 := fun pc => (zr_J3_checkIndex_8e157 pc).1.1
theorem zg_L_law : zgood zc_L_law := fun pc => (zr_L_law "" pc).1.1
def zSh : List (List Nat) := [[0, 11, 5, 9, 14, 30, 38, 48, 54, 60, 70, 77, 85, 0], [0, 5, 6, 7, 8], [1, 4], [1, 24], [1, 8], [0, 10, 10, 0, 11, 12, 13, 0, 0, 0, 0], [4, 800], [1, 801], [1, 801], [1, 801], [0, 1, 9, 5, 0, 15, 16, 17, 18, 19, 20, 21, 22, 23, 24, 25, 26, 27, 28, 29], [1, 24], [1, 24], [1, 24], [1, 24], [1, 24], [1, 24], [1, 8], [3, 24], [1, 24], [1, 24], [1, 24], [1, 24], [1, 48], [1, 48], [1, 48], [0, 9, 31, 32, 33, 34, 35, 36, 37], [1, 12], [1, 12], [1, 288], [1, 288], [1, 288], [1, 288], [1, 288], [0, 0, 39, 40, 41, 42, 43, 44, 0, 0, 45, 46, 47], [1, 5], [1, 40], [1, 40], [1, 8], [1, 8], [3, 8], [1, 5], [1, 5], [1, 5], [0, 8, 0, 49, 50, 51, 52, 53], [1, 10], [1, 1024], [1, 10], [1, 10], [1, 11], [0, 3, 0, 55, 56, 57, 58, 59], [1, 8], [1, 40], [1, 40], [1, 2048], [1, 2048], [0, 7, 9, 0, 61, 62, 63, 64, 0, 0, 65, 66, 67, 68, 69], [1, 800], [1, 16], [1, 16], [1, 16], [1, 800], [1, 16], [1, 16], [1, 16], [1, 64], [0, 6, 60, 0, 71, 72, 73, 74, 75, 1, 76], [1, 32], [1, 32], [1, 32], [1, 32], [1, 8], [1, 5], [0, 2, 0, 0, 0, 78, 79, 0, 80, 81, 82, 83, 84], [1, 6], [1, 18], [1, 100], [1, 100], [1, 100], [1, 300], [1, 3], [0, 4, 86, 87, 0, 88, 89, 90, 0, 91, 92, 93, 94], [1, 8], [3, 800], [1, 40], [1, 40], [1, 40], [1, 200], [1, 200], [1, 200], [1, 200], [0, 12, 0, 0, 96, 97, 98, 99, 0, 0, 0, 0, 0, 100, 0, 0, 0, 0, 101, 102, 103, 104, 105, 106, 107, 108, 109, 110, 111, 112, 113, 114, 115, 0, 116, 117, 118, 0, 0, 119, 120, 121, 122, 123, 124, 125, 0, 0, 0, 0, 0, 126, 127, 128, 0, 129, 130, 131, 0, 132, 133, 134, 135, 136, 0, 137, 138, 139, 140, 0, 141, 142, 143, 144, 145, 146, 147, 0, 0, 148, 0, 149, 150, 151, 1, 0, 0, 0, 152, 153, 0, 154, 155, 156, 157, 158, 159, 160, 0, 161, 162, 163, 0, 164, 165, 166, 167, 168], [1, 4], [1, 20], [1, 8], [1, 800], [1, 80], [1, 13], [1, 13], [1, 312], [1, 312], [2, 312], [3, 312], [1, 312], [2, 936], [1, 936], [2, 312], [2, 312], [1, 312], [1, 8], [1, 8], [1, 24], [1, 3], [2, 3], [1, 3], [2, 24], [1, 5], [1, 8], [1, 8], [3, 8], [1, 40], [1, 40], [1, 5], [1, 5], [1, 5], [1, 10], [1, 1024], [1, 10], [1, 8], [1, 40], [1, 40], [1, 2048], [1, 2048], [1, 32], [1, 32], [1, 32], [1, 32], [1, 2], [1, 32], [1, 32], [1, 32], [1, 32], [1, 1600], [1, 1600], [1, 40], [1, 5], [1, 820], [1, 8], [1, 6], [1, 18], [1, 100], [1, 100], [1, 100], [1, 300], [1, 3], [1, 3], [1, 8], [1, 40], [1, 40], [1, 40], [1, 200], [1, 200], [1, 200], [1, 200], [3, 800]]
abbrev zm (len : Nat) (μ : zMu) (ν : zNu) : zM := ((len, zSh), μ, ν)
def zrunk (code : Nat → zO) (call : zC) (k : zK) : Nat → zK
  | 0 => k
  | n + 1 => fun pc L st M => code pc call (zrunk code call k n) L st M
theorem zE_runk' {code : Nat → zO} {call : zC} (hg : zgood code) : ∀ n : Nat, zrunk code call (zE code call) n = zE code call
  | 0 => rfl
  | n + 1 => by
    funext pc L st M
    show code pc call (zrunk code call (zE code call) n) L st M = _
    rw [zE_runk' hg n, ← zE_step hg]
theorem zE_runk {code : Nat → zO} {call : zC} (hg : zgood code) (n pc : Nat) (L st : zL) (M : zM) : zE code call pc L st M = zrunk code call (zE code call) n pc L st M := by rw [zE_runk' hg n]
