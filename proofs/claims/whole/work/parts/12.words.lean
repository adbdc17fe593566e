/-! THE TABLES: methods by numbers, classes, the words that link them (laid by wip/gen/lay.py) -/
theorem zfc {α : Type} {P : α → Prop} {a : α} {l : List α} (h : P a) (t : ∀ x ∈ l, P x) : ∀ x ∈ a :: l, P x := List.forall_mem_cons.mpr ⟨h, t⟩
theorem zfn {α : Type} {P : α → Prop} : ∀ x ∈ ([] : List α), P x := fun _ h => absurd h List.not_mem_nil
theorem zgin_1 {w : Cond} (h : w ∈ tables_1_1) (hg : goodWord w = true) : w ∈ lw_gd := List.mem_filter.mpr ⟨List.mem_append_right _ (show w ∈ tables_1 from (List.mem_append_left _ h)), hg⟩
theorem znin_1 {w : Cond} (h : w ∈ tables_1_1) (hg : zisN w = true) : w ∈ lw_nst := List.mem_filter.mpr ⟨List.mem_append_right _ (show w ∈ tables_1 from (List.mem_append_left _ h)), hg⟩
theorem zgin_2 {w : Cond} (h : w ∈ tables_1_2) (hg : goodWord w = true) : w ∈ lw_gd := List.mem_filter.mpr ⟨List.mem_append_right _ (show w ∈ tables_1 from (List.mem_append_right _ (List.mem_append_left _ h))), hg⟩
theorem znin_2 {w : Cond} (h : w ∈ tables_1_2) (hg : zisN w = true) : w ∈ lw_nst := List.mem_filter.mpr ⟨List.mem_append_right _ (show w ∈ tables_1 from (List.mem_append_right _ (List.mem_append_left _ h))), hg⟩
theorem zgin_3 {w : Cond} (h : w ∈ tables_1_3) (hg : goodWord w = true) : w ∈ lw_gd := List.mem_filter.mpr ⟨List.mem_append_right _ (show w ∈ tables_1 from (List.mem_append_right _ (List.mem_append_right _ (List.mem_append_left _ h)))), hg⟩
theorem znin_3 {w : Cond} (h : w ∈ tables_1_3) (hg : zisN w = true) : w ∈ lw_nst := List.mem_filter.mpr ⟨List.mem_append_right _ (show w ∈ tables_1 from (List.mem_append_right _ (List.mem_append_right _ (List.mem_append_left _ h)))), hg⟩
theorem zgin_4 {w : Cond} (h : w ∈ tables_1_4) (hg : goodWord w = true) : w ∈ lw_gd := List.mem_filter.mpr ⟨List.mem_append_right _ (show w ∈ tables_1 from (List.mem_append_right _ (List.mem_append_right _ (List.mem_append_right _ (List.mem_append_left _ h))))), hg⟩
theorem znin_4 {w : Cond} (h : w ∈ tables_1_4) (hg : zisN w = true) : w ∈ lw_nst := List.mem_filter.mpr ⟨List.mem_append_right _ (show w ∈ tables_1 from (List.mem_append_right _ (List.mem_append_right _ (List.mem_append_right _ (List.mem_append_left _ h))))), hg⟩
theorem zgin_5 {w : Cond} (h : w ∈ tables_1_5) (hg : goodWord w = true) : w ∈ lw_gd := List.mem_filter.mpr ⟨List.mem_append_right _ (show w ∈ tables_1 from (List.mem_append_right _ (List.mem_append_right _ (List.mem_append_right _ (List.mem_append_right _ (List.mem_append_left _ h)))))), hg⟩
theorem znin_5 {w : Cond} (h : w ∈ tables_1_5) (hg : zisN w = true) : w ∈ lw_nst := List.mem_filter.mpr ⟨List.mem_append_right _ (show w ∈ tables_1 from (List.mem_append_right _ (List.mem_append_right _ (List.mem_append_right _ (List.mem_append_right _ (List.mem_append_left _ h)))))), hg⟩
theorem zgin_6 {w : Cond} (h : w ∈ tables_1_6) (hg : goodWord w = true) : w ∈ lw_gd := List.mem_filter.mpr ⟨List.mem_append_right _ (show w ∈ tables_1 from (List.mem_append_right _ (List.mem_append_right _ (List.mem_append_right _ (List.mem_append_right _ (List.mem_append_right _ (List.mem_append_left _ h))))))), hg⟩
theorem znin_6 {w : Cond} (h : w ∈ tables_1_6) (hg : zisN w = true) : w ∈ lw_nst := List.mem_filter.mpr ⟨List.mem_append_right _ (show w ∈ tables_1 from (List.mem_append_right _ (List.mem_append_right _ (List.mem_append_right _ (List.mem_append_right _ (List.mem_append_right _ (List.mem_append_left _ h))))))), hg⟩
theorem zgin_7 {w : Cond} (h : w ∈ tables_1_7) (hg : goodWord w = true) : w ∈ lw_gd := List.mem_filter.mpr ⟨List.mem_append_right _ (show w ∈ tables_1 from (List.mem_append_right _ (List.mem_append_right _ (List.mem_append_right _ (List.mem_append_right _ (List.mem_append_right _ (List.mem_append_right _ (List.mem_append_left _ h)))))))), hg⟩
theorem znin_7 {w : Cond} (h : w ∈ tables_1_7) (hg : zisN w = true) : w ∈ lw_nst := List.mem_filter.mpr ⟨List.mem_append_right _ (show w ∈ tables_1 from (List.mem_append_right _ (List.mem_append_right _ (List.mem_append_right _ (List.mem_append_right _ (List.mem_append_right _ (List.mem_append_right _ (List.mem_append_left _ h)))))))), hg⟩
theorem zgin_8 {w : Cond} (h : w ∈ tables_1_8) (hg : goodWord w = true) : w ∈ lw_gd := List.mem_filter.mpr ⟨List.mem_append_right _ (show w ∈ tables_1 from (List.mem_append_right _ (List.mem_append_right _ (List.mem_append_right _ (List.mem_append_right _ (List.mem_append_right _ (List.mem_append_right _ (List.mem_append_right _ (List.mem_append_left _ h))))))))), hg⟩
theorem znin_8 {w : Cond} (h : w ∈ tables_1_8) (hg : zisN w = true) : w ∈ lw_nst := List.mem_filter.mpr ⟨List.mem_append_right _ (show w ∈ tables_1 from (List.mem_append_right _ (List.mem_append_right _ (List.mem_append_right _ (List.mem_append_right _ (List.mem_append_right _ (List.mem_append_right _ (List.mem_append_right _ (List.mem_append_left _ h))))))))), hg⟩
theorem zgin_9 {w : Cond} (h : w ∈ tables_1_9) (hg : goodWord w = true) : w ∈ lw_gd := List.mem_filter.mpr ⟨List.mem_append_right _ (show w ∈ tables_1 from (List.mem_append_right _ (List.mem_append_right _ (List.mem_append_right _ (List.mem_append_right _ (List.mem_append_right _ (List.mem_append_right _ (List.mem_append_right _ (List.mem_append_right _ h))))))))), hg⟩
theorem znin_9 {w : Cond} (h : w ∈ tables_1_9) (hg : zisN w = true) : w ∈ lw_nst := List.mem_filter.mpr ⟨List.mem_append_right _ (show w ∈ tables_1 from (List.mem_append_right _ (List.mem_append_right _ (List.mem_append_right _ (List.mem_append_right _ (List.mem_append_right _ (List.mem_append_right _ (List.mem_append_right _ (List.mem_append_right _ h))))))))), hg⟩
theorem zlt0 {P : Nat → Prop} : ∀ k, k < 0 → P k := fun _ h => absurd h (Nat.not_lt_zero _)
theorem zlt1 {P : Nat → Prop} {n : Nat} (h : P n) (t : ∀ k, k < n → P k) : ∀ k, k < n + 1 → P k := fun k hk => (Nat.lt_or_eq_of_le (Nat.le_of_lt_succ hk)).elim (t k) (fun e => e ▸ h)
theorem zuws {C : String} {T : u_T} {N : Nat} (h : ∀ k, k < N → u_lay C T k ∈ lw_gd) : ∀ w ∈ u_ws C T N, w ∈ lw_gd := fun w hw => by obtain ⟨k, hk, rfl⟩ := List.mem_map.mp hw; exact h k (List.mem_range.mp hk)
def zI0 : zI := fun j => (bif Nat.ble 307 j then (⟨"X", "", ""⟩, ⟨#[]⟩, 0, none) else (bif Nat.ble 153 j then (bif Nat.ble 230 j then (bif Nat.ble 268 j then (bif Nat.ble 287 j then (bif Nat.ble 297 j then (bif Nat.ble 302 j then (bif Nat.ble 304 j then (bif Nat.ble 305 j then (bif Nat.ble 306 j then (yJ3_checkIndex_8e157, cJ3_checkIndex_8e157, 3, (some .int)) else (yJ1_canEncode_9a6ad, cJ1_canEncode_9a6ad, 1, (some .boolean))) else (yJ1_indexOfChar_4cfef, cJ1_indexOfChar_4cfef, 6, (some .int))) else (bif Nat.ble 303 j then (yJ1_indexOf_4cfef, cJ1_indexOf_4cfef, 4, (some .int)) else (yJ1_charAt_3b067, cJ1_charAt_3b067, 2, (some .char)))) else (bif Nat.ble 299 j then (bif Nat.ble 300 j then (bif Nat.ble 301 j then (yJ0_checkIndex_df160, cJ0_checkIndex_df160, 2, none) else (yJ0_coder_7d493, cJ0_coder_7d493, 1, (some .byte))) else (yJ0_isLatin1_aae02, cJ0_isLatin1_aae02, 1, (some .boolean))) else (bif Nat.ble 298 j then (yJ0_indexOf_7cf53, cJ0_indexOf_7cf53, 3, (some .int)) else (yJ0_indexOf_0f7a4, cJ0_indexOf_0f7a4, 2, (some .int))))) else (bif Nat.ble 292 j then (bif Nat.ble 294 j then (bif Nat.ble 295 j then (bif Nat.ble 296 j then (yJ0_charAt_5068e, cJ0_charAt_5068e, 2, (some .char)) else (yJ0_length_8abf5, cJ0_length_8abf5, 1, (some .int))) else (yJ6_numberOfTrailingZeros_0f7a4, cJ6_numberOfTrailingZeros_0f7a4, 2, (some .int))) else (bif Nat.ble 293 j then (yJ6_bitCount_0f7a4, cJ6_bitCount_0f7a4, 1, (some .int)) else (yX12_look, cX12_look, 4, (some .long)))) else (bif Nat.ble 289 j then (bif Nat.ble 290 j then (bif Nat.ble 291 j then (yX12_field, cX12_field, 11, (some .int)) else (yX12_isSide, cX12_isSide, 2, (some .boolean))) else (yX12_product, cX12_product, 9, (some .long))) else (bif Nat.ble 288 j then (yX12_root, cX12_root, 6, (some .long)) else (yX12_owed, cX12_owed, 8, (some .long)))))) else (bif Nat.ble 277 j then (bif Nat.ble 282 j then (bif Nat.ble 284 j then (bif Nat.ble 285 j then (bif Nat.ble 286 j then (yX12_paidIn, cX12_paidIn, 7, (some .long)) else (yX12_edict, cX12_edict, 2, (some .boolean))) else (yX12_pay, cX12_pay, 4, (some .boolean))) else (bif Nat.ble 283 j then (yX12_isLoan, cX12_isLoan, 2, (some .boolean)) else (yX12_loan, cX12_loan, 4, (some .int)))) else (bif Nat.ble 279 j then (bif Nat.ble 280 j then (bif Nat.ble 281 j then (yX12_interest, cX12_interest, 3, (some .boolean)) else (yX12_flockAt, cX12_flockAt, 9, (some .int))) else (yX12_over0, cX12_over0, 2, (some .int))) else (bif Nat.ble 278 j then (yX12_foundAt, cX12_foundAt, 5, (some .int)) else (yX12_agesByBook, cX12_agesByBook, 1, none)))) else (bif Nat.ble 272 j then (bif Nat.ble 274 j then (bif Nat.ble 275 j then (bif Nat.ble 276 j then (yX12_least, cX12_least, 3, (some .int)) else (yX12_found, cX12_found, 6, (some .boolean))) else (yX12_isFlock, cX12_isFlock, 2, (some .boolean))) else (bif Nat.ble 273 j then (yX12_flock, cX12_flock, 4, (some .int)) else (yX12_book, cX12_book, 3, (some .boolean)))) else (bif Nat.ble 270 j then (bif Nat.ble 271 j then (yX12_isHerd, cX12_isHerd, 2, (some .boolean)) else (yX12_ration, cX12_ration, 6, (some .int))) else (bif Nat.ble 269 j then (yX12_month, cX12_month, 7, (some .int)) else (yX12_store, cX12_store, 3, (some .int))))))) else (bif Nat.ble 249 j then (bif Nat.ble 258 j then (bif Nat.ble 263 j then (bif Nat.ble 265 j then (bif Nat.ble 266 j then (bif Nat.ble 267 j then (yX12_givenBy, cX12_givenBy, 3, (some .int)) else (yX12_comesTo, cX12_comesTo, 5, (some .int))) else (yX12_twoOf, cX12_twoOf, 4, (some .int))) else (bif Nat.ble 264 j then (yX12_takesAsked, cX12_takesAsked, 4, none) else (yX12_rules, cX12_rules, 2, (some .int)))) else (bif Nat.ble 260 j then (bif Nat.ble 261 j then (bif Nat.ble 262 j then (yX12_readRules, cX12_readRules, 2, (some .int)) else (yX12_readRule, cX12_readRule, 2, (some .int))) else (yX12_readAny, cX12_readAny, 4, (some .int))) else (bif Nat.ble 259 j then (yX12_settles, cX12_settles, 2, none) else (yX12_waits, cX12_waits, 2, none)))) else (bif Nat.ble 253 j then (bif Nat.ble 255 j then (bif Nat.ble 256 j then (bif Nat.ble 257 j then (yX12_readCompared, cX12_readCompared, 2, (some .int)) else (yX12_readSum, cX12_readSum, 2, (some .int))) else (yX12_readProduct, cX12_readProduct, 2, (some .int))) else (bif Nat.ble 254 j then (yX12_readUnit, cX12_readUnit, 2, (some .int)) else (yX12_emits, cX12_emits, 4, none))) else (bif Nat.ble 251 j then (bif Nat.ble 252 j then (yX12_works, cX12_works, 3, (some .boolean)) else (yX12_person, cX12_person, 4, (some .int))) else (bif Nat.ble 250 j then (yX12_isPerson, cX12_isPerson, 2, (some .boolean)) else (yX12_inRow, cX12_inRow, 8, (some .int)))))) else (bif Nat.ble 239 j then (bif Nat.ble 244 j then (bif Nat.ble 246 j then (bif Nat.ble 247 j then (bif Nat.ble 248 j then (yX12_row, cX12_row, 6, (some .int)) else (yX12_ones, cX12_ones, 4, (some .int))) else (yX12_worksRow, cX12_worksRow, 8, none)) else (bif Nat.ble 245 j then (yX12_gap, cX12_gap, 6, (some .int)) else (yX12_edge, cX12_edge, 5, (some .boolean)))) else (bif Nat.ble 241 j then (bif Nat.ble 242 j then (bif Nat.ble 243 j then (yX12_fragment, cX12_fragment, 2, (some .int)) else (yX12_isFragment, cX12_isFragment, 2, (some .boolean))) else (yX12_ahead, cX12_ahead, 5, (some .int))) else (bif Nat.ble 240 j then (yX12_order, cX12_order, 4, (some .int)) else (yX12_ringMany, cX12_ringMany, 3, (some .int))))) else (bif Nat.ble 234 j then (bif Nat.ble 236 j then (bif Nat.ble 237 j then (bif Nat.ble 238 j then (yX12_rings, cX12_rings, 7, (some .boolean)) else (yX12_nextOver, cX12_nextOver, 5, (some .int))) else (yX12_inOrder, cX12_inOrder, 5, (some .int))) else (bif Nat.ble 235 j then (yX12_orders, cX12_orders, 8, (some .int)) else (yX12_over, cX12_over, 3, (some .boolean)))) else (bif Nat.ble 232 j then (bif Nat.ble 233 j then (yX12_seal, cX12_seal, 1, (some .int)) else (yX12_isSeal, cX12_isSeal, 2, (some .boolean))) else (bif Nat.ble 231 j then (yX12_ball, cX12_ball, 3, (some .int)) else (yX12_findsBall, cX12_findsBall, 5, none))))))) else (bif Nat.ble 191 j then (bif Nat.ble 210 j then (bif Nat.ble 220 j then (bif Nat.ble 225 j then (bif Nat.ble 227 j then (bif Nat.ble 228 j then (bif Nat.ble 229 j then (yX12_notesBall, cX12_notesBall, 5, none) else (yX12_mayBe, cX12_mayBe, 5, (some .boolean))) else (yX12_tell, cX12_tell, 4, (some .boolean))) else (bif Nat.ble 226 j then (yX12_mark, cX12_mark, 4, (some .boolean)) else (yX12_weight, cX12_weight, 3, (some .boolean)))) else (bif Nat.ble 222 j then (bif Nat.ble 223 j then (bif Nat.ble 224 j then (yX12_isKind, cX12_isKind, 2, (some .boolean)) else (yX12_isBall, cX12_isBall, 2, (some .boolean))) else (yX12_stock, cX12_stock, 9, (some .long))) else (bif Nat.ble 221 j then (yX12_line, cX12_line, 5, (some .int)) else (yX12_tablet, cX12_tablet, 8, (some .int))))) else (bif Nat.ble 215 j then (bif Nat.ble 217 j then (bif Nat.ble 218 j then (bif Nat.ble 219 j then (yX12_blocks, cX12_blocks, 4, none) else (yX12_worksOut, cX12_worksOut, 5, none)) else (yX12_openFills, cX12_openFills, 5, (some .long))) else (bif Nat.ble 216 j then (yX12_closedFills, cX12_closedFills, 6, (some .long)) else (yX12_fits, cX12_fits, 8, (some .boolean)))) else (bif Nat.ble 212 j then (bif Nat.ble 213 j then (bif Nat.ble 214 j then (yX12_notes, cX12_notes, 3, none) else (yX12_mostOf, cX12_mostOf, 2, (some .int))) else (yX12_takesUnknowns, cX12_takesUnknowns, 4, none)) else (bif Nat.ble 211 j then (yX12_signOf, cX12_signOf, 2, (some .int)) else (yX12_readTablet, cX12_readTablet, 2, (some .int)))))) else (bif Nat.ble 200 j then (bif Nat.ble 205 j then (bif Nat.ble 207 j then (bif Nat.ble 208 j then (bif Nat.ble 209 j then (yX12_readLine, cX12_readLine, 2, (some .int)) else (yX12_readNumeral, cX12_readNumeral, 3, (some .int))) else (yX12_readCount, cX12_readCount, 11, (some .int))) else (bif Nat.ble 206 j then (yX12_fault, cX12_fault, 2, (some .int)) else (yX12_isSign, cX12_isSign, 2, (some .boolean)))) else (bif Nat.ble 202 j then (bif Nat.ble 203 j then (bif Nat.ble 204 j then (yX12_isWord, cX12_isWord, 2, (some .boolean)) else (yX12_fails, cX12_fails, 2, (some .int))) else (yX12_failsAt, cX12_failsAt, 3, (some .int))) else (bif Nat.ble 201 j then (yX12_next, cX12_next, 2, none) else (yX12_wordAt, cX12_wordAt, 6, (some .int))))) else (bif Nat.ble 195 j then (bif Nat.ble 197 j then (bif Nat.ble 198 j then (bif Nat.ble 199 j then (yX12_isMarkSign, cX12_isMarkSign, 2, (some .boolean)) else (yX12_isDigit, cX12_isDigit, 2, (some .boolean))) else (yX12_isLetter, cX12_isLetter, 2, (some .boolean))) else (bif Nat.ble 196 j then (yX12_raw, cX12_raw, 2, (some .int)) else (yX12_end, cX12_end, 2, (some .boolean)))) else (bif Nat.ble 193 j then (bif Nat.ble 194 j then (yX12_feed, cX12_feed, 6, (some .int)) else (yX12_puts, cX12_puts, 3, none)) else (bif Nat.ble 192 j then (yX12_year, cX12_year, 1, (some .int)) else (yX12_written, cX12_written, 6, (some .int))))))) else (bif Nat.ble 172 j then (bif Nat.ble 181 j then (bif Nat.ble 186 j then (bif Nat.ble 188 j then (bif Nat.ble 189 j then (bif Nat.ble 190 j then (yX12_good, cX12_good, 3, (some .boolean)) else (yX12_step, cX12_step, 6, (some .boolean))) else (yX12_worthOf, cX12_worthOf, 6, (some .long))) else (bif Nat.ble 187 j then (yX12_isYear, cX12_isYear, 2, (some .boolean)) else (yX12_isGood, cX12_isGood, 2, (some .boolean)))) else (bif Nat.ble 183 j then (bif Nat.ble 184 j then (bif Nat.ble 185 j then (yX12_isSystem, cX12_isSystem, 2, (some .boolean)) else (yX12_isIn, cX12_isIn, 4, (some .boolean))) else (yX12_init, cX12_init, 1, none)) else (bif Nat.ble 182 j then (yX11_root, cX11_root, 8, (some .long)) else (yX11_rootOfProduct, cX11_rootOfProduct, 8, (some .long))))) else (bif Nat.ble 176 j then (bif Nat.ble 178 j then (bif Nat.ble 179 j then (bif Nat.ble 180 j then (yX11_threeSided, cX11_threeSided, 6, (some .long)) else (yX11_quarter, cX11_quarter, 4, (some .int))) else (yX11_isSide, cX11_isSide, 1, (some .boolean))) else (bif Nat.ble 177 j then (yX11_isYear, cX11_isYear, 1, (some .boolean)) else (yX11_isGood, cX11_isGood, 1, (some .boolean)))) else (bif Nat.ble 174 j then (bif Nat.ble 175 j then (yX11_within, cX11_within, 3, (some .boolean)) else (yX11_look, cX11_look, 2, (some .long))) else (bif Nat.ble 173 j then (yX11_field, cX11_field, 7, (some .int)) else (yX11_owed, cX11_owed, 4, (some .long)))))) else (bif Nat.ble 162 j then (bif Nat.ble 167 j then (bif Nat.ble 169 j then (bif Nat.ble 170 j then (bif Nat.ble 171 j then (yX11_edict, cX11_edict, 2, (some .boolean)) else (yX11_pay, cX11_pay, 4, (some .boolean))) else (yX11_loan, cX11_loan, 4, (some .int))) else (bif Nat.ble 168 j then (yX11_interest, cX11_interest, 3, (some .boolean)) else (yX11_flockAt, cX11_flockAt, 5, (some .int)))) else (bif Nat.ble 164 j then (bif Nat.ble 165 j then (bif Nat.ble 166 j then (yX11_found, cX11_found, 6, (some .boolean)) else (yX11_flock, cX11_flock, 4, (some .int))) else (yX11_book, cX11_book, 3, (some .boolean))) else (bif Nat.ble 163 j then (yX11_ration, cX11_ration, 4, (some .int)) else (yX11_month, cX11_month, 2, (some .int))))) else (bif Nat.ble 157 j then (bif Nat.ble 159 j then (bif Nat.ble 160 j then (bif Nat.ble 161 j then (yX11_store, cX11_store, 3, (some .int)) else (yX11_works, cX11_works, 3, (some .boolean))) else (yX11_person, cX11_person, 4, (some .int))) else (bif Nat.ble 158 j then (yX11_row, cX11_row, 3, (some .int)) else (yX11_edge, cX11_edge, 5, (some .boolean)))) else (bif Nat.ble 155 j then (bif Nat.ble 156 j then (yX11_fragment, cX11_fragment, 2, (some .int)) else (yX11_ahead, cX11_ahead, 3, (some .int))) else (bif Nat.ble 154 j then (yX11_order, cX11_order, 2, (some .int)) else (yX11_over, cX11_over, 3, (some .boolean))))))))) else (bif Nat.ble 76 j then (bif Nat.ble 114 j then (bif Nat.ble 133 j then (bif Nat.ble 143 j then (bif Nat.ble 148 j then (bif Nat.ble 150 j then (bif Nat.ble 151 j then (bif Nat.ble 152 j then (yX11_seal, cX11_seal, 1, (some .int)) else (yX11_ball, cX11_ball, 3, (some .int))) else (yX11_tell, cX11_tell, 4, (some .boolean))) else (bif Nat.ble 149 j then (yX11_mark, cX11_mark, 4, (some .boolean)) else (yX11_weight, cX11_weight, 3, (some .boolean)))) else (bif Nat.ble 145 j then (bif Nat.ble 146 j then (bif Nat.ble 147 j then (yX11_stock, cX11_stock, 4, (some .long)) else (yX11_line, cX11_line, 4, (some .int))) else (yX11_fault, cX11_fault, 2, (some .int))) else (bif Nat.ble 144 j then (yX11_rules, cX11_rules, 1, (some .int)) else (yX11_tablet, cX11_tablet, 2, (some .int))))) else (bif Nat.ble 138 j then (bif Nat.ble 140 j then (bif Nat.ble 141 j then (bif Nat.ble 142 j then (yX11_end, cX11_end, 2, (some .boolean)) else (yX11_feed, cX11_feed, 6, (some .int))) else (yX11_year, cX11_year, 1, (some .int))) else (bif Nat.ble 139 j then (yX11_written, cX11_written, 4, (some .int)) else (yX11_good, cX11_good, 3, (some .boolean)))) else (bif Nat.ble 135 j then (bif Nat.ble 136 j then (bif Nat.ble 137 j then (yX11_step, cX11_step, 4, (some .boolean)) else (yX11_init, cX11_init, 1, none)) else (yX10_faultOf, cX10_faultOf, 2, (some .int))) else (bif Nat.ble 134 j then (yX10_fail, cX10_fail, 2, (some .boolean)) else (yX10_take, cX10_take, 2, (some .boolean)))))) else (bif Nat.ble 123 j then (bif Nat.ble 128 j then (bif Nat.ble 130 j then (bif Nat.ble 131 j then (bif Nat.ble 132 j then (yX10_move, cX10_move, 1, none) else (yX10_signBehind, cX10_signBehind, 1, (some .int))) else (yX10_value, cX10_value, 1, (some .int))) else (bif Nat.ble 129 j then (yX10_kind, cX10_kind, 1, (some .int)) else (yX10_isDigit, cX10_isDigit, 1, (some .boolean)))) else (bif Nat.ble 125 j then (bif Nat.ble 126 j then (bif Nat.ble 127 j then (yX10_isLetter, cX10_isLetter, 1, (some .boolean)) else (yX10_standsAt, cX10_standsAt, 5, (some .boolean))) else (yX10_wordAt, cX10_wordAt, 6, (some .int))) else (bif Nat.ble 124 j then (yX10_valueOf, cX10_valueOf, 5, (some .int)) else (yX10_kindOf, cX10_kindOf, 4, (some .int))))) else (bif Nat.ble 118 j then (bif Nat.ble 120 j then (bif Nat.ble 121 j then (bif Nat.ble 122 j then (yX10_sizeFrom, cX10_sizeFrom, 5, (some .int)) else (yX10_addToken, cX10_addToken, 4, none)) else (yX10_split, cX10_split, 3, none)) else (bif Nat.ble 119 j then (yX10_cut, cX10_cut, 2, (some .boolean)) else (yX10_appendNumber, cX10_appendNumber, 3, none))) else (bif Nat.ble 116 j then (bif Nat.ble 117 j then (yX10_append, cX10_append, 6, (some .int)) else (yX10_init, cX10_init, 1, none)) else (bif Nat.ble 115 j then (yX9_ofAYear, cX9_ofAYear, 3, (some .int)) else (yX9_stockOf, cX9_stockOf, 10, (some .long))))))) else (bif Nat.ble 95 j then (bif Nat.ble 104 j then (bif Nat.ble 109 j then (bif Nat.ble 111 j then (bif Nat.ble 112 j then (bif Nat.ble 113 j then (yX9_lineOf, cX9_lineOf, 5, (some .int)) else (yX9_keep, cX9_keep, 6, none)) else (yX9_has, cX9_has, 2, (some .boolean))) else (bif Nat.ble 110 j then (yX9_init, cX9_init, 2, none) else (yX8_allUnder, cX8_allUnder, 5, (some .int)))) else (bif Nat.ble 106 j then (bif Nat.ble 107 j then (bif Nat.ble 108 j then (yX8_compare, cX8_compare, 3, (some .int)) else (yX8_walkRing, cX8_walkRing, 5, none)) else (yX8_findWaysBack, cX8_findWaysBack, 5, none)) else (bif Nat.ble 105 j then (yX8_findRing, cX8_findRing, 3, (some .int)) else (yX8_findFirst, cX8_findFirst, 4, (some .boolean))))) else (bif Nat.ble 99 j then (bif Nat.ble 101 j then (bif Nat.ble 102 j then (bif Nat.ble 103 j then (yX8_countOrders, cX8_countOrders, 5, (some .int)) else (yX8_answer, cX8_answer, 3, (some .int))) else (yX8_lay, cX8_lay, 3, (some .boolean))) else (bif Nat.ble 100 j then (yX8_add, cX8_add, 1, (some .int)) else (yX8_size, cX8_size, 1, (some .int)))) else (bif Nat.ble 97 j then (bif Nat.ble 98 j then (yX8_isSealing, cX8_isSealing, 2, (some .boolean)) else (yX8_init, cX8_init, 1, none)) else (bif Nat.ble 96 j then (yX7_joined, cX7_joined, 3, (some .int)) else (yX7_reckon, cX7_reckon, 8, (some .int)))))) else (bif Nat.ble 85 j then (bif Nat.ble 90 j then (bif Nat.ble 92 j then (bif Nat.ble 93 j then (bif Nat.ble 94 j then (yX7_amountOf, cX7_amountOf, 4, (some .int)) else (yX7_write, cX7_write, 2, none)) else (yX7_readDivisor, cX7_readDivisor, 1, (some .boolean))) else (bif Nat.ble 91 j then (yX7_readUnit, cX7_readUnit, 2, (some .boolean)) else (yX7_readSum, cX7_readSum, 5, (some .boolean)))) else (bif Nat.ble 87 j then (bif Nat.ble 88 j then (bif Nat.ble 89 j then (yX7_readCondition, cX7_readCondition, 4, (some .boolean)) else (yX7_readWhen, cX7_readWhen, 5, (some .boolean))) else (yX7_readGive, cX7_readGive, 1, (some .boolean))) else (bif Nat.ble 86 j then (yX7_read, cX7_read, 2, (some .boolean)) else (yX7_goodOf, cX7_goodOf, 2, (some .int))))) else (bif Nat.ble 80 j then (bif Nat.ble 82 j then (bif Nat.ble 83 j then (bif Nat.ble 84 j then (yX7_lines, cX7_lines, 1, (some .int)) else (yX7_init, cX7_init, 2, none)) else (yX6_learnFacts, cX6_learnFacts, 3, none)) else (bif Nat.ble 81 j then (yX6_rationOf, cX6_rationOf, 6, (some .int)) else (yX6_runMonth, cX6_runMonth, 8, (some .int)))) else (bif Nat.ble 78 j then (bif Nat.ble 79 j then (yX6_putInStore, cX6_putInStore, 3, (some .int)) else (yX6_setDays, cX6_setDays, 3, (some .boolean))) else (bif Nat.ble 77 j then (yX6_add, cX6_add, 4, (some .int)) else (yX6_inStore, cX6_inStore, 2, (some .int)))))))) else (bif Nat.ble 38 j then (bif Nat.ble 57 j then (bif Nat.ble 66 j then (bif Nat.ble 71 j then (bif Nat.ble 73 j then (bif Nat.ble 74 j then (bif Nat.ble 75 j then (yX6_allShort, cX6_allShort, 1, (some .long)) else (yX6_size, cX6_size, 1, (some .int))) else (yX6_has, cX6_has, 2, (some .boolean))) else (bif Nat.ble 72 j then (yX6_init, cX6_init, 2, none) else (yX5_countIn, cX5_countIn, 7, (some .int)))) else (bif Nat.ble 68 j then (bif Nat.ble 69 j then (bif Nat.ble 70 j then (yX5_mostOf, cX5_mostOf, 3, (some .int)) else (yX5_worthOf, cX5_worthOf, 5, (some .int))) else (yX5_hasSign, cX5_hasSign, 3, (some .boolean))) else (bif Nat.ble 67 j then (yX5_systemOf, cX5_systemOf, 2, (some .int)) else (yX5_setSystem, cX5_setSystem, 3, (some .boolean))))) else (bif Nat.ble 61 j then (bif Nat.ble 63 j then (bif Nat.ble 64 j then (bif Nat.ble 65 j then (yX5_staysSmall, cX5_staysSmall, 7, (some .boolean)) else (yX5_dropSign, cX5_dropSign, 3, (some .boolean))) else (yX5_setStep, cX5_setStep, 5, (some .boolean))) else (bif Nat.ble 62 j then (yX5_isSystem, cX5_isSystem, 1, (some .boolean)) else (yX5_slot, cX5_slot, 2, (some .int)))) else (bif Nat.ble 59 j then (bif Nat.ble 60 j then (yX5_init, cX5_init, 2, none) else (yX4_paidFor, cX4_paidFor, 7, (some .long))) else (bif Nat.ble 58 j then (yX4_owedAt, cX4_owedAt, 8, (some .long)) else (yX4_addEdict, cX4_addEdict, 3, (some .boolean)))))) else (bif Nat.ble 47 j then (bif Nat.ble 52 j then (bif Nat.ble 54 j then (bif Nat.ble 55 j then (bif Nat.ble 56 j then (yX4_addPayment, cX4_addPayment, 5, (some .boolean)) else (yX4_add, cX4_add, 4, (some .int))) else (yX4_setInterest, cX4_setInterest, 3, (some .boolean))) else (bif Nat.ble 53 j then (yX4_size, cX4_size, 1, (some .int)) else (yX4_init, cX4_init, 1, none))) else (bif Nat.ble 49 j then (bif Nat.ble 50 j then (bif Nat.ble 51 j then (yX3_nextInRow, cX3_nextInRow, 6, (some .int)) else (yX3_placeInRow, cX3_placeInRow, 8, (some .int))) else (yX3_waysOf, cX3_waysOf, 5, (some .int))) else (bif Nat.ble 48 j then (yX3_leastGaps, cX3_leastGaps, 4, (some .int)) else (yX3_gapOf, cX3_gapOf, 5, (some .int))))) else (bif Nat.ble 42 j then (bif Nat.ble 44 j then (bif Nat.ble 45 j then (bif Nat.ble 46 j then (yX3_offer, cX3_offer, 4, none) else (yX3_arrange, cX3_arrange, 6, none)) else (yX3_answer, cX3_answer, 6, (some .int))) else (bif Nat.ble 43 j then (yX3_setEdge, cX3_setEdge, 5, (some .boolean)) else (yX3_add, cX3_add, 2, (some .int)))) else (bif Nat.ble 40 j then (bif Nat.ble 41 j then (yX3_size, cX3_size, 1, (some .int)) else (yX3_init, cX3_init, 1, none)) else (bif Nat.ble 39 j then (yX2_takeFound, cX2_takeFound, 5, (some .int)) else (yX2_lastFound, cX2_lastFound, 5, (some .int))))))) else (bif Nat.ble 19 j then (bif Nat.ble 28 j then (bif Nat.ble 33 j then (bif Nat.ble 35 j then (bif Nat.ble 36 j then (bif Nat.ble 37 j then (yX2_booked, cX2_booked, 2, (some .int)) else (yX2_hundredths, cX2_hundredths, 3, (some .long))) else (yX2_goByTheBook, cX2_goByTheBook, 4, none)) else (bif Nat.ble 34 j then (yX2_answer, cX2_answer, 7, (some .int)) else (yX2_addFound, cX2_addFound, 7, (some .boolean)))) else (bif Nat.ble 30 j then (bif Nat.ble 31 j then (bif Nat.ble 32 j then (yX2_add, cX2_add, 5, (some .int)) else (yX2_setBook, cX2_setBook, 3, (some .boolean))) else (yX2_size, cX2_size, 1, (some .int))) else (bif Nat.ble 29 j then (yX2_canBeTold, cX2_canBeTold, 3, (some .boolean)) else (yX2_init, cX2_init, 1, none)))) else (bif Nat.ble 23 j then (bif Nat.ble 25 j then (bif Nat.ble 26 j then (bif Nat.ble 27 j then (yX1_closeSpans, cX1_closeSpans, 3, none) else (yX1_openSpans, cX1_openSpans, 4, none)) else (yX1_widen, cX1_widen, 4, none)) else (bif Nat.ble 24 j then (yX1_widenMarked, cX1_widenMarked, 7, none) else (yX1_markedBy, cX1_markedBy, 3, (some .int)))) else (bif Nat.ble 21 j then (bif Nat.ble 22 j then (yX1_dueOfLost, cX1_dueOfLost, 5, (some .int)) else (yX1_solve, cX1_solve, 11, none)) else (bif Nat.ble 20 j then (yX1_addMark, cX1_addMark, 6, none) else (yX1_readCount, cX1_readCount, 9, (some .boolean)))))) else (bif Nat.ble 9 j then (bif Nat.ble 14 j then (bif Nat.ble 16 j then (bif Nat.ble 17 j then (bif Nat.ble 18 j then (yX1_readLost, cX1_readLost, 3, (some .boolean)) else (yX1_readNumeral, cX1_readNumeral, 5, (some .boolean))) else (yX1_signed, cX1_signed, 3, (some .int))) else (bif Nat.ble 15 j then (yX1_endLine, cX1_endLine, 2, none) else (yX1_beginLine, cX1_beginLine, 4, none))) else (bif Nat.ble 11 j then (bif Nat.ble 12 j then (bif Nat.ble 13 j then (yX1_readLine, cX1_readLine, 3, (some .boolean)) else (yX1_read, cX1_read, 2, (some .boolean))) else (yX1_init, cX1_init, 3, none)) else (bif Nat.ble 10 j then (yX0_openedOnes, cX0_openedOnes, 3, (some .int)) else (yX0_admit, cX0_admit, 6, none)))) else (bif Nat.ble 4 j then (bif Nat.ble 6 j then (bif Nat.ble 7 j then (bif Nat.ble 8 j then (yX0_tryLastKind, cX0_tryLastKind, 6, none) else (yX0_survey, cX0_survey, 3, none)) else (yX0_answer, cX0_answer, 3, (some .int))) else (bif Nat.ble 5 j then (yX0_setTold, cX0_setTold, 4, (some .boolean)) else (yX0_setMark, cX0_setMark, 4, (some .boolean)))) else (bif Nat.ble 2 j then (bif Nat.ble 3 j then (yX0_setWeight, cX0_setWeight, 3, (some .boolean)) else (yX0_isKind, cX0_isKind, 1, (some .boolean))) else (bif Nat.ble 1 j then (yX0_isBall, cX0_isBall, 1, (some .boolean)) else (yX0_init, cX0_init, 2, none))))))))))
theorem zkd_0 : ∀ j, j < 11 → (([2, 2, 2, 2, 2, 2, 0, 0, 2, 2, 2] : List Nat)[j]? = some 0 ∧ tyX0 j = .int) ∨ (([2, 2, 2, 2, 2, 2, 0, 0, 2, 2, 2] : List Nat)[j]? = some 1 ∧ tyX0 j = .long) ∨ (([2, 2, 2, 2, 2, 2, 0, 0, 2, 2, 2] : List Nat)[j]? = some 2 ∧ defaultValue (tyX0 j) = .null) := by decide +kernel
theorem zkd_1 : ∀ j, j < 18 → (([2, 2, 0, 2, 2, 2, 2, 2, 2, 2, 2, 2, 2, 2, 2, 2, 2, 2] : List Nat)[j]? = some 0 ∧ tyX1 j = .int) ∨ (([2, 2, 0, 2, 2, 2, 2, 2, 2, 2, 2, 2, 2, 2, 2, 2, 2, 2] : List Nat)[j]? = some 1 ∧ tyX1 j = .long) ∨ (([2, 2, 0, 2, 2, 2, 2, 2, 2, 2, 2, 2, 2, 2, 2, 2, 2, 2] : List Nat)[j]? = some 2 ∧ defaultValue (tyX1 j) = .null) := by decide +kernel
theorem zkd_2 : ∀ j, j < 11 → (([0, 0, 0, 2, 2, 0, 2, 2, 2, 2, 2] : List Nat)[j]? = some 0 ∧ tyX2 j = .int) ∨ (([0, 0, 0, 2, 2, 0, 2, 2, 2, 2, 2] : List Nat)[j]? = some 1 ∧ tyX2 j = .long) ∨ (([0, 0, 0, 2, 2, 0, 2, 2, 2, 2, 2] : List Nat)[j]? = some 2 ∧ defaultValue (tyX2 j) = .null) := by decide +kernel
theorem zkd_3 : ∀ j, j < 6 → (([0, 2, 2, 2, 2, 2] : List Nat)[j]? = some 0 ∧ tyX3 j = .int) ∨ (([0, 2, 2, 2, 2, 2] : List Nat)[j]? = some 1 ∧ tyX3 j = .long) ∨ (([0, 2, 2, 2, 2, 2] : List Nat)[j]? = some 2 ∧ defaultValue (tyX3 j) = .null) := by decide +kernel
theorem zkd_4 : ∀ j, j < 11 → (([2, 2, 0, 2, 2, 2, 0, 2, 2, 2, 2] : List Nat)[j]? = some 0 ∧ tyX4 j = .int) ∨ (([2, 2, 0, 2, 2, 2, 0, 2, 2, 2, 2] : List Nat)[j]? = some 1 ∧ tyX4 j = .long) ∨ (([2, 2, 0, 2, 2, 2, 0, 2, 2, 2, 2] : List Nat)[j]? = some 2 ∧ defaultValue (tyX4 j) = .null) := by decide +kernel
theorem zkd_5 : ∀ j, j < 3 → (([2, 2, 2] : List Nat)[j]? = some 0 ∧ tyX5 j = .int) ∨ (([2, 2, 2] : List Nat)[j]? = some 1 ∧ tyX5 j = .long) ∨ (([2, 2, 2] : List Nat)[j]? = some 2 ∧ defaultValue (tyX5 j) = .null) := by decide +kernel
theorem zkd_6 : ∀ j, j < 9 → (([2, 0, 2, 2, 2, 2, 2, 1, 2] : List Nat)[j]? = some 0 ∧ tyX6 j = .int) ∨ (([2, 0, 2, 2, 2, 2, 2, 1, 2] : List Nat)[j]? = some 1 ∧ tyX6 j = .long) ∨ (([2, 0, 2, 2, 2, 2, 2, 1, 2] : List Nat)[j]? = some 2 ∧ defaultValue (tyX6 j) = .null) := by decide +kernel
theorem zkd_7 : ∀ j, j < 13 → (([2, 0, 2, 2, 2, 2, 0, 0, 2, 2, 2, 2, 2] : List Nat)[j]? = some 0 ∧ tyX7 j = .int) ∨ (([2, 0, 2, 2, 2, 2, 0, 0, 2, 2, 2, 2, 2] : List Nat)[j]? = some 1 ∧ tyX7 j = .long) ∨ (([2, 0, 2, 2, 2, 2, 0, 0, 2, 2, 2, 2, 2] : List Nat)[j]? = some 2 ∧ defaultValue (tyX7 j) = .null) := by decide +kernel
theorem zkd_8 : ∀ j, j < 6 → (([0, 2, 2, 2, 2, 2] : List Nat)[j]? = some 0 ∧ tyX8 j = .int) ∨ (([0, 2, 2, 2, 2, 2] : List Nat)[j]? = some 1 ∧ tyX8 j = .long) ∨ (([0, 2, 2, 2, 2, 2] : List Nat)[j]? = some 2 ∧ defaultValue (tyX8 j) = .null) := by decide +kernel
theorem zkd_9 : ∀ j, j < 7 → (([2, 2, 2, 2, 2, 2, 2] : List Nat)[j]? = some 0 ∧ tyX9 j = .int) ∨ (([2, 2, 2, 2, 2, 2, 2] : List Nat)[j]? = some 1 ∧ tyX9 j = .long) ∨ (([2, 2, 2, 2, 2, 2, 2] : List Nat)[j]? = some 2 ∧ defaultValue (tyX9 j) = .null) := by decide +kernel
theorem zkd_10 : ∀ j, j < 9 → (([2, 0, 2, 2, 2, 0, 0, 0, 0] : List Nat)[j]? = some 0 ∧ tyX10 j = .int) ∨ (([2, 0, 2, 2, 2, 0, 0, 0, 0] : List Nat)[j]? = some 1 ∧ tyX10 j = .long) ∨ (([2, 0, 2, 2, 2, 0, 0, 0, 0] : List Nat)[j]? = some 2 ∧ defaultValue (tyX10 j) = .null) := by decide +kernel
theorem zkd_11 : ∀ j, j < 12 → (([2, 2, 2, 2, 2, 2, 2, 2, 2, 2, 2, 0] : List Nat)[j]? = some 0 ∧ tyX11 j = .int) ∨ (([2, 2, 2, 2, 2, 2, 2, 2, 2, 2, 2, 0] : List Nat)[j]? = some 1 ∧ tyX11 j = .long) ∨ (([2, 2, 2, 2, 2, 2, 2, 2, 2, 2, 2, 0] : List Nat)[j]? = some 2 ∧ defaultValue (tyX11 j) = .null) := by decide +kernel
theorem zkd_12 : ∀ j, j < 106 → (([0, 0, 2, 2, 2, 2, 0, 0, 0, 0, 0, 2, 0, 0, 0, 0, 2, 2, 2, 2, 2, 2, 2, 2, 2, 2, 2, 2, 2, 2, 2, 0, 2, 2, 2, 0, 0, 2, 2, 2, 2, 2, 2, 2, 0, 0, 0, 0, 0, 2, 2, 2, 0, 2, 2, 2, 0, 2, 2, 2, 2, 2, 0, 2, 2, 2, 2, 0, 2, 2, 2, 2, 2, 2, 2, 0, 0, 2, 0, 2, 2, 2, 1, 0, 0, 0, 2, 2, 0, 2, 2, 2, 2, 2, 2, 2, 0, 2, 2, 2, 0, 2, 2, 2, 2, 2] : List Nat)[j]? = some 0 ∧ tyX12 j = .int) ∨ (([0, 0, 2, 2, 2, 2, 0, 0, 0, 0, 0, 2, 0, 0, 0, 0, 2, 2, 2, 2, 2, 2, 2, 2, 2, 2, 2, 2, 2, 2, 2, 0, 2, 2, 2, 0, 0, 2, 2, 2, 2, 2, 2, 2, 0, 0, 0, 0, 0, 2, 2, 2, 0, 2, 2, 2, 0, 2, 2, 2, 2, 2, 0, 2, 2, 2, 2, 0, 2, 2, 2, 2, 2, 2, 2, 0, 0, 2, 0, 2, 2, 2, 1, 0, 0, 0, 2, 2, 0, 2, 2, 2, 2, 2, 2, 2, 0, 2, 2, 2, 0, 2, 2, 2, 2, 2] : List Nat)[j]? = some 1 ∧ tyX12 j = .long) ∨ (([0, 0, 2, 2, 2, 2, 0, 0, 0, 0, 0, 2, 0, 0, 0, 0, 2, 2, 2, 2, 2, 2, 2, 2, 2, 2, 2, 2, 2, 2, 2, 0, 2, 2, 2, 0, 0, 2, 2, 2, 2, 2, 2, 2, 0, 0, 0, 0, 0, 2, 2, 2, 0, 2, 2, 2, 0, 2, 2, 2, 2, 2, 0, 2, 2, 2, 2, 0, 2, 2, 2, 2, 2, 2, 2, 0, 0, 2, 0, 2, 2, 2, 1, 0, 0, 0, 2, 2, 0, 2, 2, 2, 2, 2, 2, 2, 0, 2, 2, 2, 0, 2, 2, 2, 2, 2] : List Nat)[j]? = some 2 ∧ defaultValue (tyX12 j) = .null) := by decide +kernel
theorem wd_t_188 : Cond.methodLink RX0 5 ⟨"java/lang/Object", "<init>", "()V"⟩ ∈ lw_gd := zgin_1 (List.mem_of_getElem? (i := 188) rfl) rfl
theorem wd_t_28 : Cond.instanceMethod ⟨"java/lang/Object", "<init>", "()V"⟩ ∈ lw_gd := zgin_1 (List.mem_of_getElem? (i := 28) rfl) rfl
theorem wd_t_29 : Cond.code Lib.objectInit ⟨#[0xb1]⟩ 1 none ∈ lw_gd := zgin_1 (List.mem_of_getElem? (i := 29) rfl) rfl
theorem wd_t_49 : Cond.arrayClass .int ∈ lw_gd := zgin_1 (List.mem_of_getElem? (i := 49) rfl) rfl
theorem wd_t_189 : Cond.fieldLink RX0 11 RX0 "weights" "[I" ∈ lw_gd := zgin_1 (List.mem_of_getElem? (i := 189) rfl) rfl
theorem wd_t_190 : Cond.fieldLink RX0 15 RX0 "marks" "[I" ∈ lw_gd := zgin_1 (List.mem_of_getElem? (i := 190) rfl) rfl
theorem wd_t_191 : Cond.fieldLink RX0 18 RX0 "inside" "[I" ∈ lw_gd := zgin_1 (List.mem_of_getElem? (i := 191) rfl) rfl
theorem wd_t_192 : Cond.fieldLink RX0 21 RX0 "rattled" "[I" ∈ lw_gd := zgin_1 (List.mem_of_getElem? (i := 192) rfl) rfl
theorem wd_t_193 : Cond.fieldLink RX0 24 RX0 "weighed" "[I" ∈ lw_gd := zgin_1 (List.mem_of_getElem? (i := 193) rfl) rfl
theorem wd_t_154 : Cond.arrayClass .boolean ∈ lw_gd := zgin_1 (List.mem_of_getElem? (i := 154) rfl) rfl
theorem wd_t_194 : Cond.fieldLink RX0 27 RX0 "opened" "[Z" ∈ lw_gd := zgin_1 (List.mem_of_getElem? (i := 194) rfl) rfl
theorem wd_t_195 : Cond.fieldLink RX0 31 RX0 "ways" "I" ∈ lw_gd := zgin_1 (List.mem_of_getElem? (i := 195) rfl) rfl
theorem wd_t_196 : Cond.fieldLink RX0 35 RX0 "lies" "I" ∈ lw_gd := zgin_1 (List.mem_of_getElem? (i := 196) rfl) rfl
theorem wd_t_197 : Cond.fieldLink RX0 38 RX0 "least" "[I" ∈ lw_gd := zgin_1 (List.mem_of_getElem? (i := 197) rfl) rfl
theorem wd_t_198 : Cond.fieldLink RX0 41 RX0 "greatest" "[I" ∈ lw_gd := zgin_1 (List.mem_of_getElem? (i := 198) rfl) rfl
theorem wd_t_199 : Cond.fieldLink RX0 44 RX0 "trial" "[I" ∈ lw_gd := zgin_1 (List.mem_of_getElem? (i := 199) rfl) rfl
theorem wd_t_906 : Cond.methodLinkNest RX0 47 yX11_within RX11 ∈ lw_nst := znin_4 (List.mem_of_getElem? (i := 186) rfl) rfl
theorem wd_t_482 : Cond.static yX11_within ∈ lw_gd := zgin_3 (List.mem_of_getElem? (i := 2) rfl) rfl
theorem wd_t_903 : Cond.methodLink RX0 51 yX0_isKind ∈ lw_gd := zgin_4 (List.mem_of_getElem? (i := 183) rfl) rfl
theorem wd_t_904 : Cond.static yX0_isKind ∈ lw_gd := zgin_4 (List.mem_of_getElem? (i := 184) rfl) rfl
theorem wd_t_915 : Cond.methodLink RX0 55 yX0_isBall ∈ lw_gd := zgin_4 (List.mem_of_getElem? (i := 195) rfl) rfl
theorem wd_t_916 : Cond.static yX0_isBall ∈ lw_gd := zgin_4 (List.mem_of_getElem? (i := 196) rfl) rfl
theorem wd_t_934 : Cond.methodLink RX0 58 yX0_survey ∈ lw_gd := zgin_4 (List.mem_of_getElem? (i := 214) rfl) rfl
theorem wd_t_936 : Cond.instanceMethod yX0_survey ∈ lw_gd := zgin_4 (List.mem_of_getElem? (i := 216) rfl) rfl
theorem wd_p_31 : Cond.selects RX0 yX0_survey yX0_survey ∈ lw_gd := List.mem_filter.mpr ⟨List.mem_append_left _ (List.mem_of_getElem? (i := 31) rfl), rfl⟩
theorem wd_t_938 : Cond.methodLink RX0 62 yX0_admit ∈ lw_gd := zgin_4 (List.mem_of_getElem? (i := 218) rfl) rfl
theorem wd_t_940 : Cond.instanceMethod yX0_admit ∈ lw_gd := zgin_4 (List.mem_of_getElem? (i := 220) rfl) rfl
theorem wd_p_32 : Cond.selects RX0 yX0_admit yX0_admit ∈ lw_gd := List.mem_filter.mpr ⟨List.mem_append_left _ (List.mem_of_getElem? (i := 32) rfl), rfl⟩
theorem wd_t_947 : Cond.methodLink RX0 66 yX0_tryLastKind ∈ lw_gd := zgin_4 (List.mem_of_getElem? (i := 227) rfl) rfl
theorem wd_t_949 : Cond.instanceMethod yX0_tryLastKind ∈ lw_gd := zgin_4 (List.mem_of_getElem? (i := 229) rfl) rfl
theorem wd_p_33 : Cond.selects RX0 yX0_tryLastKind yX0_tryLastKind ∈ lw_gd := List.mem_filter.mpr ⟨List.mem_append_left _ (List.mem_of_getElem? (i := 33) rfl), rfl⟩
theorem wd_t_946 : Cond.methodLink RX0 69 yJ9_max_7cf53 ∈ lw_gd := zgin_4 (List.mem_of_getElem? (i := 226) rfl) rfl
theorem wd_t_496 : Cond.static yJ9_max_7cf53 ∈ lw_gd := zgin_3 (List.mem_of_getElem? (i := 16) rfl) rfl
theorem wd_t_14 : Cond.initialized RJ9 ∈ lw_gd := zgin_1 (List.mem_of_getElem? (i := 14) rfl) rfl
theorem wd_t_497 : Cond.code yJ9_max_7cf53 cJ9_max_7cf53 2 (some .int) ∈ lw_gd := zgin_3 (List.mem_of_getElem? (i := 17) rfl) rfl
theorem wd_t_945 : Cond.methodLink RX0 75 yJ9_min_7cf53 ∈ lw_gd := zgin_4 (List.mem_of_getElem? (i := 225) rfl) rfl
theorem wd_t_489 : Cond.static yJ9_min_7cf53 ∈ lw_gd := zgin_3 (List.mem_of_getElem? (i := 9) rfl) rfl
theorem wd_t_490 : Cond.code yJ9_min_7cf53 cJ9_min_7cf53 2 (some .int) ∈ lw_gd := zgin_3 (List.mem_of_getElem? (i := 10) rfl) rfl
theorem wd_t_942 : Cond.methodLink RX0 78 yJ9_abs_0f7a4 ∈ lw_gd := zgin_4 (List.mem_of_getElem? (i := 222) rfl) rfl
theorem wd_t_943 : Cond.static yJ9_abs_0f7a4 ∈ lw_gd := zgin_4 (List.mem_of_getElem? (i := 223) rfl) rfl
theorem wd_t_944 : Cond.code yJ9_abs_0f7a4 cJ9_abs_0f7a4 1 (some .int) ∈ lw_gd := zgin_4 (List.mem_of_getElem? (i := 224) rfl) rfl
theorem wd_t_90 : Cond.methodLink RX1 3 ⟨"java/lang/Object", "<init>", "()V"⟩ ∈ lw_gd := zgin_1 (List.mem_of_getElem? (i := 90) rfl) rfl
theorem wd_t_93 : Cond.fieldLink RX1 9 RX1 "lines" "I" ∈ lw_gd := zgin_1 (List.mem_of_getElem? (i := 93) rfl) rfl
theorem wd_t_96 : Cond.fieldLink RX1 15 RX1 "sorts" "[I" ∈ lw_gd := zgin_1 (List.mem_of_getElem? (i := 96) rfl) rfl
theorem wd_t_98 : Cond.fieldLink RX1 19 RX1 "goods" "[I" ∈ lw_gd := zgin_1 (List.mem_of_getElem? (i := 98) rfl) rfl
theorem wd_t_100 : Cond.fieldLink RX1 22 RX1 "bases" "[I" ∈ lw_gd := zgin_1 (List.mem_of_getElem? (i := 100) rfl) rfl
theorem wd_t_101 : Cond.fieldLink RX1 25 RX1 "least" "[I" ∈ lw_gd := zgin_1 (List.mem_of_getElem? (i := 101) rfl) rfl
theorem wd_t_103 : Cond.fieldLink RX1 28 RX1 "greatest" "[I" ∈ lw_gd := zgin_1 (List.mem_of_getElem? (i := 103) rfl) rfl
theorem wd_t_105 : Cond.fieldLink RX1 31 RX1 "blocks" "[I" ∈ lw_gd := zgin_1 (List.mem_of_getElem? (i := 105) rfl) rfl
theorem wd_t_107 : Cond.fieldLink RX1 34 RX1 "openBlock" "[I" ∈ lw_gd := zgin_1 (List.mem_of_getElem? (i := 107) rfl) rfl
theorem wd_t_108 : Cond.fieldLink RX1 37 RX1 "closed" "[Z" ∈ lw_gd := zgin_1 (List.mem_of_getElem? (i := 108) rfl) rfl
theorem wd_t_109 : Cond.fieldLink RX1 41 RX1 "totals" "[I" ∈ lw_gd := zgin_1 (List.mem_of_getElem? (i := 109) rfl) rfl
theorem wd_t_110 : Cond.fieldLink RX1 44 RX1 "fills" "[I" ∈ lw_gd := zgin_1 (List.mem_of_getElem? (i := 110) rfl) rfl
theorem wd_t_112 : Cond.fieldLink RX1 47 RX1 "lostLine" "[I" ∈ lw_gd := zgin_1 (List.mem_of_getElem? (i := 112) rfl) rfl
theorem wd_t_113 : Cond.fieldLink RX1 50 RX1 "marks" "[I" ∈ lw_gd := zgin_1 (List.mem_of_getElem? (i := 113) rfl) rfl
theorem wd_t_114 : Cond.fieldLink RX1 53 RX1 "markLine" "[I" ∈ lw_gd := zgin_1 (List.mem_of_getElem? (i := 114) rfl) rfl
theorem wd_t_115 : Cond.fieldLink RX1 56 RX1 "markWorth" "[I" ∈ lw_gd := zgin_1 (List.mem_of_getElem? (i := 115) rfl) rfl
theorem wd_t_116 : Cond.fieldLink RX1 59 RX1 "markMost" "[I" ∈ lw_gd := zgin_1 (List.mem_of_getElem? (i := 116) rfl) rfl
theorem wd_t_91 : Cond.fieldLink RX1 62 RX1 "tape" "LClayHouse$Tape;" ∈ lw_gd := zgin_1 (List.mem_of_getElem? (i := 91) rfl) rfl
theorem wd_t_92 : Cond.fieldLink RX1 66 RX1 "numbers" "LClayHouse$Numbers;" ∈ lw_gd := zgin_1 (List.mem_of_getElem? (i := 92) rfl) rfl
theorem wd_t_705 : Cond.methodLink RX1 70 yX10_kind ∈ lw_gd := zgin_3 (List.mem_of_getElem? (i := 225) rfl) rfl
theorem wd_t_706 : Cond.instanceMethod yX10_kind ∈ lw_gd := zgin_3 (List.mem_of_getElem? (i := 226) rfl) rfl
theorem wd_t_707 : Cond.selects RX10 yX10_kind yX10_kind ∈ lw_gd := zgin_3 (List.mem_of_getElem? (i := 227) rfl) rfl
theorem wd_t_709 : Cond.methodLink RX1 76 yX1_readLine ∈ lw_gd := zgin_3 (List.mem_of_getElem? (i := 229) rfl) rfl
theorem wd_t_711 : Cond.instanceMethod yX1_readLine ∈ lw_gd := zgin_3 (List.mem_of_getElem? (i := 231) rfl) rfl
theorem wd_p_9 : Cond.selects RX1 yX1_readLine yX1_readLine ∈ lw_gd := List.mem_filter.mpr ⟨List.mem_append_left _ (List.mem_of_getElem? (i := 9) rfl), rfl⟩
theorem wd_t_774 : Cond.methodLink RX1 80 yX1_solve ∈ lw_gd := zgin_4 (List.mem_of_getElem? (i := 54) rfl) rfl
theorem wd_t_776 : Cond.instanceMethod yX1_solve ∈ lw_gd := zgin_4 (List.mem_of_getElem? (i := 56) rfl) rfl
theorem wd_p_17 : Cond.selects RX1 yX1_solve yX1_solve ∈ lw_gd := List.mem_filter.mpr ⟨List.mem_append_left _ (List.mem_of_getElem? (i := 17) rfl), rfl⟩
theorem wd_t_713 : Cond.methodLink RX1 84 yX10_fail ∈ lw_gd := zgin_3 (List.mem_of_getElem? (i := 233) rfl) rfl
theorem wd_t_714 : Cond.instanceMethod yX10_fail ∈ lw_gd := zgin_3 (List.mem_of_getElem? (i := 234) rfl) rfl
theorem wd_t_715 : Cond.selects RX10 yX10_fail yX10_fail ∈ lw_gd := zgin_3 (List.mem_of_getElem? (i := 235) rfl) rfl
theorem wd_t_717 : Cond.methodLink RX1 88 yX10_move ∈ lw_gd := zgin_3 (List.mem_of_getElem? (i := 237) rfl) rfl
theorem wd_t_718 : Cond.instanceMethod yX10_move ∈ lw_gd := zgin_3 (List.mem_of_getElem? (i := 238) rfl) rfl
theorem wd_t_719 : Cond.selects RX10 yX10_move yX10_move ∈ lw_gd := zgin_3 (List.mem_of_getElem? (i := 239) rfl) rfl
theorem wd_t_721 : Cond.methodLink RX1 91 yX10_take ∈ lw_gd := zgin_4 (List.mem_of_getElem? (i := 1) rfl) rfl
theorem wd_t_722 : Cond.instanceMethod yX10_take ∈ lw_gd := zgin_4 (List.mem_of_getElem? (i := 2) rfl) rfl
theorem wd_t_723 : Cond.selects RX10 yX10_take yX10_take ∈ lw_gd := zgin_4 (List.mem_of_getElem? (i := 3) rfl) rfl
theorem wd_t_727 : Cond.methodLink RX1 94 yX10_value ∈ lw_gd := zgin_4 (List.mem_of_getElem? (i := 7) rfl) rfl
theorem wd_t_728 : Cond.instanceMethod yX10_value ∈ lw_gd := zgin_4 (List.mem_of_getElem? (i := 8) rfl) rfl
theorem wd_t_729 : Cond.selects RX10 yX10_value yX10_value ∈ lw_gd := zgin_4 (List.mem_of_getElem? (i := 9) rfl) rfl
theorem wd_t_731 : Cond.methodLinkNest RX1 97 yX11_isGood RX11 ∈ lw_nst := znin_4 (List.mem_of_getElem? (i := 11) rfl) rfl
theorem wd_t_508 : Cond.static yX11_isGood ∈ lw_gd := zgin_3 (List.mem_of_getElem? (i := 28) rfl) rfl
theorem wd_t_732 : Cond.methodLink RX1 100 yX1_beginLine ∈ lw_gd := zgin_4 (List.mem_of_getElem? (i := 12) rfl) rfl
theorem wd_t_734 : Cond.instanceMethod yX1_beginLine ∈ lw_gd := zgin_4 (List.mem_of_getElem? (i := 14) rfl) rfl
theorem wd_p_10 : Cond.selects RX1 yX1_beginLine yX1_beginLine ∈ lw_gd := List.mem_filter.mpr ⟨List.mem_append_left _ (List.mem_of_getElem? (i := 10) rfl), rfl⟩
theorem wd_t_736 : Cond.methodLink RX1 104 yX5_systemOf ∈ lw_gd := zgin_4 (List.mem_of_getElem? (i := 16) rfl) rfl
theorem wd_t_737 : Cond.instanceMethod yX5_systemOf ∈ lw_gd := zgin_4 (List.mem_of_getElem? (i := 17) rfl) rfl
theorem wd_t_738 : Cond.selects RX5 yX5_systemOf yX5_systemOf ∈ lw_gd := zgin_4 (List.mem_of_getElem? (i := 18) rfl) rfl
theorem wd_t_740 : Cond.methodLink RX1 110 yX1_readNumeral ∈ lw_gd := zgin_4 (List.mem_of_getElem? (i := 20) rfl) rfl
theorem wd_t_742 : Cond.instanceMethod yX1_readNumeral ∈ lw_gd := zgin_4 (List.mem_of_getElem? (i := 22) rfl) rfl
theorem wd_p_11 : Cond.selects RX1 yX1_readNumeral yX1_readNumeral ∈ lw_gd := List.mem_filter.mpr ⟨List.mem_append_left _ (List.mem_of_getElem? (i := 11) rfl), rfl⟩
theorem wd_t_766 : Cond.methodLink RX1 114 yX1_endLine ∈ lw_gd := zgin_4 (List.mem_of_getElem? (i := 46) rfl) rfl
theorem wd_t_768 : Cond.instanceMethod yX1_endLine ∈ lw_gd := zgin_4 (List.mem_of_getElem? (i := 48) rfl) rfl
theorem wd_p_15 : Cond.selects RX1 yX1_endLine yX1_endLine ∈ lw_gd := List.mem_filter.mpr ⟨List.mem_append_left _ (List.mem_of_getElem? (i := 15) rfl), rfl⟩
theorem wd_t_770 : Cond.methodLink RX1 117 yX1_signed ∈ lw_gd := zgin_4 (List.mem_of_getElem? (i := 50) rfl) rfl
theorem wd_t_772 : Cond.instanceMethod yX1_signed ∈ lw_gd := zgin_4 (List.mem_of_getElem? (i := 52) rfl) rfl
theorem wd_p_16 : Cond.selects RX1 yX1_signed yX1_signed ∈ lw_gd := List.mem_filter.mpr ⟨List.mem_append_left _ (List.mem_of_getElem? (i := 16) rfl), rfl⟩
theorem wd_t_744 : Cond.methodLink RX1 121 yX1_readLost ∈ lw_gd := zgin_4 (List.mem_of_getElem? (i := 24) rfl) rfl
theorem wd_t_746 : Cond.instanceMethod yX1_readLost ∈ lw_gd := zgin_4 (List.mem_of_getElem? (i := 26) rfl) rfl
theorem wd_p_12 : Cond.selects RX1 yX1_readLost yX1_readLost ∈ lw_gd := List.mem_filter.mpr ⟨List.mem_append_left _ (List.mem_of_getElem? (i := 12) rfl), rfl⟩
theorem wd_t_748 : Cond.methodLink RX1 124 yX1_readCount ∈ lw_gd := zgin_4 (List.mem_of_getElem? (i := 28) rfl) rfl
theorem wd_t_750 : Cond.instanceMethod yX1_readCount ∈ lw_gd := zgin_4 (List.mem_of_getElem? (i := 30) rfl) rfl
theorem wd_p_13 : Cond.selects RX1 yX1_readCount yX1_readCount ∈ lw_gd := List.mem_filter.mpr ⟨List.mem_append_left _ (List.mem_of_getElem? (i := 13) rfl), rfl⟩
theorem wd_t_752 : Cond.methodLink RX1 128 yX10_signBehind ∈ lw_gd := zgin_4 (List.mem_of_getElem? (i := 32) rfl) rfl
theorem wd_t_753 : Cond.instanceMethod yX10_signBehind ∈ lw_gd := zgin_4 (List.mem_of_getElem? (i := 33) rfl) rfl
theorem wd_t_754 : Cond.selects RX10 yX10_signBehind yX10_signBehind ∈ lw_gd := zgin_4 (List.mem_of_getElem? (i := 34) rfl) rfl
theorem wd_t_756 : Cond.methodLink RX1 131 yX5_hasSign ∈ lw_gd := zgin_4 (List.mem_of_getElem? (i := 36) rfl) rfl
theorem wd_t_520 : Cond.instanceMethod yX5_hasSign ∈ lw_gd := zgin_3 (List.mem_of_getElem? (i := 40) rfl) rfl
theorem wd_t_521 : Cond.selects RX5 yX5_hasSign yX5_hasSign ∈ lw_gd := zgin_3 (List.mem_of_getElem? (i := 41) rfl) rfl
theorem wd_t_757 : Cond.methodLink RX1 134 yX5_mostOf ∈ lw_gd := zgin_4 (List.mem_of_getElem? (i := 37) rfl) rfl
theorem wd_t_758 : Cond.instanceMethod yX5_mostOf ∈ lw_gd := zgin_4 (List.mem_of_getElem? (i := 38) rfl) rfl
theorem wd_t_759 : Cond.selects RX5 yX5_mostOf yX5_mostOf ∈ lw_gd := zgin_4 (List.mem_of_getElem? (i := 39) rfl) rfl
theorem wd_t_761 : Cond.methodLink RX1 137 yX5_worthOf ∈ lw_gd := zgin_4 (List.mem_of_getElem? (i := 41) rfl) rfl
theorem wd_t_525 : Cond.instanceMethod yX5_worthOf ∈ lw_gd := zgin_3 (List.mem_of_getElem? (i := 45) rfl) rfl
theorem wd_t_526 : Cond.selects RX5 yX5_worthOf yX5_worthOf ∈ lw_gd := zgin_3 (List.mem_of_getElem? (i := 46) rfl) rfl
theorem wd_t_762 : Cond.methodLink RX1 140 yX1_addMark ∈ lw_gd := zgin_4 (List.mem_of_getElem? (i := 42) rfl) rfl
theorem wd_t_764 : Cond.instanceMethod yX1_addMark ∈ lw_gd := zgin_4 (List.mem_of_getElem? (i := 44) rfl) rfl
theorem wd_p_14 : Cond.selects RX1 yX1_addMark yX1_addMark ∈ lw_gd := List.mem_filter.mpr ⟨List.mem_append_left _ (List.mem_of_getElem? (i := 14) rfl), rfl⟩
theorem wd_t_778 : Cond.methodLink RX1 144 yX1_openSpans ∈ lw_gd := zgin_4 (List.mem_of_getElem? (i := 58) rfl) rfl
theorem wd_t_780 : Cond.instanceMethod yX1_openSpans ∈ lw_gd := zgin_4 (List.mem_of_getElem? (i := 60) rfl) rfl
theorem wd_p_18 : Cond.selects RX1 yX1_openSpans yX1_openSpans ∈ lw_gd := List.mem_filter.mpr ⟨List.mem_append_left _ (List.mem_of_getElem? (i := 18) rfl), rfl⟩
theorem wd_t_783 : Cond.constant RX1 147 99999 ∈ lw_gd := zgin_4 (List.mem_of_getElem? (i := 63) rfl) rfl
theorem wd_t_784 : Cond.methodLink RX1 148 yX1_dueOfLost ∈ lw_gd := zgin_4 (List.mem_of_getElem? (i := 64) rfl) rfl
theorem wd_t_786 : Cond.instanceMethod yX1_dueOfLost ∈ lw_gd := zgin_4 (List.mem_of_getElem? (i := 66) rfl) rfl
theorem wd_p_19 : Cond.selects RX1 yX1_dueOfLost yX1_dueOfLost ∈ lw_gd := List.mem_filter.mpr ⟨List.mem_append_left _ (List.mem_of_getElem? (i := 19) rfl), rfl⟩
theorem wd_t_792 : Cond.methodLink RX1 152 yJ9_max_7cf53 ∈ lw_gd := zgin_4 (List.mem_of_getElem? (i := 72) rfl) rfl
theorem wd_t_793 : Cond.methodLink RX1 157 yJ9_min_7cf53 ∈ lw_gd := zgin_4 (List.mem_of_getElem? (i := 73) rfl) rfl
theorem wd_t_794 : Cond.methodLink RX1 160 yX1_widen ∈ lw_gd := zgin_4 (List.mem_of_getElem? (i := 74) rfl) rfl
theorem wd_t_796 : Cond.instanceMethod yX1_widen ∈ lw_gd := zgin_4 (List.mem_of_getElem? (i := 76) rfl) rfl
theorem wd_p_21 : Cond.selects RX1 yX1_widen yX1_widen ∈ lw_gd := List.mem_filter.mpr ⟨List.mem_append_left _ (List.mem_of_getElem? (i := 21) rfl), rfl⟩
theorem wd_t_798 : Cond.methodLink RX1 163 yX1_widenMarked ∈ lw_gd := zgin_4 (List.mem_of_getElem? (i := 78) rfl) rfl
theorem wd_t_800 : Cond.instanceMethod yX1_widenMarked ∈ lw_gd := zgin_4 (List.mem_of_getElem? (i := 80) rfl) rfl
theorem wd_p_22 : Cond.selects RX1 yX1_widenMarked yX1_widenMarked ∈ lw_gd := List.mem_filter.mpr ⟨List.mem_append_left _ (List.mem_of_getElem? (i := 22) rfl), rfl⟩
theorem wd_t_802 : Cond.constantLong RX1 167 999999999 ∈ lw_gd := zgin_4 (List.mem_of_getElem? (i := 82) rfl) rfl
theorem wd_t_803 : Cond.methodLink RX1 169 yJ9_min_f86c9 ∈ lw_gd := zgin_4 (List.mem_of_getElem? (i := 83) rfl) rfl
theorem wd_t_804 : Cond.static yJ9_min_f86c9 ∈ lw_gd := zgin_4 (List.mem_of_getElem? (i := 84) rfl) rfl
theorem wd_t_805 : Cond.code yJ9_min_f86c9 cJ9_min_f86c9 4 (some .long) ∈ lw_gd := zgin_4 (List.mem_of_getElem? (i := 85) rfl) rfl
theorem wd_t_806 : Cond.methodLink RX1 172 yX1_closeSpans ∈ lw_gd := zgin_4 (List.mem_of_getElem? (i := 86) rfl) rfl
theorem wd_t_808 : Cond.instanceMethod yX1_closeSpans ∈ lw_gd := zgin_4 (List.mem_of_getElem? (i := 88) rfl) rfl
theorem wd_p_23 : Cond.selects RX1 yX1_closeSpans yX1_closeSpans ∈ lw_gd := List.mem_filter.mpr ⟨List.mem_append_left _ (List.mem_of_getElem? (i := 23) rfl), rfl⟩
theorem wd_t_788 : Cond.methodLink RX1 175 yX1_markedBy ∈ lw_gd := zgin_4 (List.mem_of_getElem? (i := 68) rfl) rfl
theorem wd_t_790 : Cond.instanceMethod yX1_markedBy ∈ lw_gd := zgin_4 (List.mem_of_getElem? (i := 70) rfl) rfl
theorem wd_p_20 : Cond.selects RX1 yX1_markedBy yX1_markedBy ∈ lw_gd := List.mem_filter.mpr ⟨List.mem_append_left _ (List.mem_of_getElem? (i := 20) rfl), rfl⟩
theorem wd_t_782 : Cond.constant RX1 178 2147483647 ∈ lw_gd := zgin_4 (List.mem_of_getElem? (i := 62) rfl) rfl
theorem wd_t_358 : Cond.methodLink RX2 3 ⟨"java/lang/Object", "<init>", "()V"⟩ ∈ lw_gd := zgin_2 (List.mem_of_getElem? (i := 118) rfl) rfl
theorem wd_t_359 : Cond.fieldLink RX2 9 RX2 "rate" "I" ∈ lw_gd := zgin_2 (List.mem_of_getElem? (i := 119) rfl) rfl
theorem wd_t_360 : Cond.fieldLink RX2 15 RX2 "loss" "I" ∈ lw_gd := zgin_2 (List.mem_of_getElem? (i := 120) rfl) rfl
theorem wd_t_361 : Cond.fieldLink RX2 18 RX2 "count" "I" ∈ lw_gd := zgin_2 (List.mem_of_getElem? (i := 121) rfl) rfl
theorem wd_t_362 : Cond.fieldLink RX2 21 RX2 "came" "[I" ∈ lw_gd := zgin_2 (List.mem_of_getElem? (i := 122) rfl) rfl
theorem wd_t_363 : Cond.fieldLink RX2 25 RX2 "cameWith" "[I" ∈ lw_gd := zgin_2 (List.mem_of_getElem? (i := 123) rfl) rfl
theorem wd_t_364 : Cond.fieldLink RX2 28 RX2 "finds" "I" ∈ lw_gd := zgin_2 (List.mem_of_getElem? (i := 124) rfl) rfl
theorem wd_t_365 : Cond.fieldLink RX2 31 RX2 "foundFlock" "[I" ∈ lw_gd := zgin_2 (List.mem_of_getElem? (i := 125) rfl) rfl
theorem wd_t_366 : Cond.fieldLink RX2 34 RX2 "foundYear" "[I" ∈ lw_gd := zgin_2 (List.mem_of_getElem? (i := 126) rfl) rfl
theorem wd_t_367 : Cond.fieldLink RX2 37 RX2 "foundTold" "[I" ∈ lw_gd := zgin_2 (List.mem_of_getElem? (i := 127) rfl) rfl
theorem wd_t_368 : Cond.fieldLink RX2 40 RX2 "foundParts" "[I" ∈ lw_gd := zgin_2 (List.mem_of_getElem? (i := 128) rfl) rfl
theorem wd_t_369 : Cond.fieldLink RX2 43 RX2 "parts" "[I" ∈ lw_gd := zgin_2 (List.mem_of_getElem? (i := 129) rfl) rfl
theorem wd_t_1157 : Cond.methodLinkNest RX2 46 yX11_within RX11 ∈ lw_nst := znin_5 (List.mem_of_getElem? (i := 197) rfl) rfl
theorem wd_t_1166 : Cond.methodLink RX2 50 yX2_canBeTold ∈ lw_gd := zgin_5 (List.mem_of_getElem? (i := 206) rfl) rfl
theorem wd_t_1167 : Cond.static yX2_canBeTold ∈ lw_gd := zgin_5 (List.mem_of_getElem? (i := 207) rfl) rfl
theorem wd_t_1185 : Cond.methodLinkNest RX2 53 yX11_isYear RX11 ∈ lw_nst := znin_5 (List.mem_of_getElem? (i := 225) rfl) rfl
theorem wd_t_888 : Cond.static yX11_isYear ∈ lw_gd := zgin_4 (List.mem_of_getElem? (i := 168) rfl) rfl
theorem wd_t_1186 : Cond.methodLink RX2 57 yX2_goByTheBook ∈ lw_gd := zgin_5 (List.mem_of_getElem? (i := 226) rfl) rfl
theorem wd_t_1188 : Cond.instanceMethod yX2_goByTheBook ∈ lw_gd := zgin_5 (List.mem_of_getElem? (i := 228) rfl) rfl
theorem wd_p_50 : Cond.selects RX2 yX2_goByTheBook yX2_goByTheBook ∈ lw_gd := List.mem_filter.mpr ⟨List.mem_append_left _ (List.mem_of_getElem? (i := 50) rfl), rfl⟩
theorem wd_t_1199 : Cond.methodLink RX2 60 yX2_lastFound ∈ lw_gd := zgin_5 (List.mem_of_getElem? (i := 239) rfl) rfl
theorem wd_t_1201 : Cond.instanceMethod yX2_lastFound ∈ lw_gd := zgin_6 (List.mem_of_getElem? (i := 1) rfl) rfl
theorem wd_p_51 : Cond.selects RX2 yX2_lastFound yX2_lastFound ∈ lw_gd := List.mem_filter.mpr ⟨List.mem_append_left _ (List.mem_of_getElem? (i := 51) rfl), rfl⟩
theorem wd_t_1203 : Cond.methodLink RX2 64 yX2_takeFound ∈ lw_gd := zgin_6 (List.mem_of_getElem? (i := 3) rfl) rfl
theorem wd_t_1205 : Cond.instanceMethod yX2_takeFound ∈ lw_gd := zgin_6 (List.mem_of_getElem? (i := 5) rfl) rfl
theorem wd_p_52 : Cond.selects RX2 yX2_takeFound yX2_takeFound ∈ lw_gd := List.mem_filter.mpr ⟨List.mem_append_left _ (List.mem_of_getElem? (i := 52) rfl), rfl⟩
theorem wd_t_1190 : Cond.methodLink RX2 68 yX2_hundredths ∈ lw_gd := zgin_5 (List.mem_of_getElem? (i := 230) rfl) rfl
theorem wd_t_1191 : Cond.static yX2_hundredths ∈ lw_gd := zgin_5 (List.mem_of_getElem? (i := 231) rfl) rfl
theorem wd_t_1194 : Cond.methodLink RX2 72 yX2_booked ∈ lw_gd := zgin_5 (List.mem_of_getElem? (i := 234) rfl) rfl
theorem wd_t_1195 : Cond.static yX2_booked ∈ lw_gd := zgin_5 (List.mem_of_getElem? (i := 235) rfl) rfl
theorem wd_t_1193 : Cond.constantLong RX2 76 100 ∈ lw_gd := zgin_5 (List.mem_of_getElem? (i := 233) rfl) rfl
theorem wd_t_1197 : Cond.constantLong RX2 78 9999999 ∈ lw_gd := zgin_5 (List.mem_of_getElem? (i := 237) rfl) rfl
theorem wd_t_1198 : Cond.methodLink RX2 80 yJ9_min_f86c9 ∈ lw_gd := zgin_5 (List.mem_of_getElem? (i := 238) rfl) rfl
theorem wd_t_1207 : Cond.methodLink RX2 86 yJ9_max_7cf53 ∈ lw_gd := zgin_6 (List.mem_of_getElem? (i := 7) rfl) rfl
theorem wd_t_1208 : Cond.fieldLink RX2 90 RX2 "SHEKELS" "[I" ∈ lw_gd := zgin_6 (List.mem_of_getElem? (i := 8) rfl) rfl
theorem wd_t_253 : Cond.methodLink RX3 3 ⟨"java/lang/Object", "<init>", "()V"⟩ ∈ lw_gd := zgin_2 (List.mem_of_getElem? (i := 13) rfl) rfl
theorem wd_t_254 : Cond.fieldLink RX3 9 RX3 "count" "I" ∈ lw_gd := zgin_2 (List.mem_of_getElem? (i := 14) rfl) rfl
theorem wd_t_255 : Cond.fieldLink RX3 15 RX3 "hands" "[I" ∈ lw_gd := zgin_2 (List.mem_of_getElem? (i := 15) rfl) rfl
theorem wd_t_256 : Cond.fieldLink RX3 19 RX3 "lefts" "[I" ∈ lw_gd := zgin_2 (List.mem_of_getElem? (i := 16) rfl) rfl
theorem wd_t_257 : Cond.fieldLink RX3 22 RX3 "rights" "[I" ∈ lw_gd := zgin_2 (List.mem_of_getElem? (i := 17) rfl) rfl
theorem wd_t_258 : Cond.fieldLink RX3 25 RX3 "gaps" "[I" ∈ lw_gd := zgin_2 (List.mem_of_getElem? (i := 18) rfl) rfl
theorem wd_t_259 : Cond.fieldLink RX3 28 RX3 "ways" "[I" ∈ lw_gd := zgin_2 (List.mem_of_getElem? (i := 19) rfl) rfl
theorem wd_t_1025 : Cond.methodLinkNest RX3 31 yX11_within RX11 ∈ lw_nst := znin_5 (List.mem_of_getElem? (i := 65) rfl) rfl
theorem wd_t_1042 : Cond.methodLink RX3 35 yJ6_bitCount_0f7a4 ∈ lw_gd := zgin_5 (List.mem_of_getElem? (i := 82) rfl) rfl
theorem wd_t_1043 : Cond.static yJ6_bitCount_0f7a4 ∈ lw_gd := zgin_5 (List.mem_of_getElem? (i := 83) rfl) rfl
theorem wd_t_1048 : Cond.methodLink RX3 41 yX3_arrange ∈ lw_gd := zgin_5 (List.mem_of_getElem? (i := 88) rfl) rfl
theorem wd_t_1050 : Cond.instanceMethod yX3_arrange ∈ lw_gd := zgin_5 (List.mem_of_getElem? (i := 90) rfl) rfl
theorem wd_p_41 : Cond.selects RX3 yX3_arrange yX3_arrange ∈ lw_gd := List.mem_filter.mpr ⟨List.mem_append_left _ (List.mem_of_getElem? (i := 41) rfl), rfl⟩
theorem wd_t_1062 : Cond.methodLink RX3 45 yX3_leastGaps ∈ lw_gd := zgin_5 (List.mem_of_getElem? (i := 102) rfl) rfl
theorem wd_t_1064 : Cond.instanceMethod yX3_leastGaps ∈ lw_gd := zgin_5 (List.mem_of_getElem? (i := 104) rfl) rfl
theorem wd_p_44 : Cond.selects RX3 yX3_leastGaps yX3_leastGaps ∈ lw_gd := List.mem_filter.mpr ⟨List.mem_append_left _ (List.mem_of_getElem? (i := 44) rfl), rfl⟩
theorem wd_t_1067 : Cond.methodLink RX3 48 yX3_placeInRow ∈ lw_gd := zgin_5 (List.mem_of_getElem? (i := 107) rfl) rfl
theorem wd_t_1069 : Cond.instanceMethod yX3_placeInRow ∈ lw_gd := zgin_5 (List.mem_of_getElem? (i := 109) rfl) rfl
theorem wd_p_45 : Cond.selects RX3 yX3_placeInRow yX3_placeInRow ∈ lw_gd := List.mem_filter.mpr ⟨List.mem_append_left _ (List.mem_of_getElem? (i := 45) rfl), rfl⟩
theorem wd_t_1075 : Cond.methodLink RX3 52 yX3_waysOf ∈ lw_gd := zgin_5 (List.mem_of_getElem? (i := 115) rfl) rfl
theorem wd_t_1077 : Cond.instanceMethod yX3_waysOf ∈ lw_gd := zgin_5 (List.mem_of_getElem? (i := 117) rfl) rfl
theorem wd_p_47 : Cond.selects RX3 yX3_waysOf yX3_waysOf ∈ lw_gd := List.mem_filter.mpr ⟨List.mem_append_left _ (List.mem_of_getElem? (i := 47) rfl), rfl⟩
theorem wd_t_1052 : Cond.constant RX3 56 2147483647 ∈ lw_gd := zgin_5 (List.mem_of_getElem? (i := 92) rfl) rfl
theorem wd_t_1053 : Cond.methodLink RX3 57 yX3_gapOf ∈ lw_gd := zgin_5 (List.mem_of_getElem? (i := 93) rfl) rfl
theorem wd_t_1055 : Cond.instanceMethod yX3_gapOf ∈ lw_gd := zgin_5 (List.mem_of_getElem? (i := 95) rfl) rfl
theorem wd_p_42 : Cond.selects RX3 yX3_gapOf yX3_gapOf ∈ lw_gd := List.mem_filter.mpr ⟨List.mem_append_left _ (List.mem_of_getElem? (i := 42) rfl), rfl⟩
theorem wd_t_1058 : Cond.methodLink RX3 60 yX3_offer ∈ lw_gd := zgin_5 (List.mem_of_getElem? (i := 98) rfl) rfl
theorem wd_t_1060 : Cond.instanceMethod yX3_offer ∈ lw_gd := zgin_5 (List.mem_of_getElem? (i := 100) rfl) rfl
theorem wd_p_43 : Cond.selects RX3 yX3_offer yX3_offer ∈ lw_gd := List.mem_filter.mpr ⟨List.mem_append_left _ (List.mem_of_getElem? (i := 43) rfl), rfl⟩
theorem wd_t_1057 : Cond.methodLink RX3 64 yJ9_abs_0f7a4 ∈ lw_gd := zgin_5 (List.mem_of_getElem? (i := 97) rfl) rfl
theorem wd_t_1066 : Cond.methodLink RX3 69 yJ9_min_7cf53 ∈ lw_gd := zgin_5 (List.mem_of_getElem? (i := 106) rfl) rfl
theorem wd_t_1071 : Cond.methodLink RX3 72 yX3_nextInRow ∈ lw_gd := zgin_5 (List.mem_of_getElem? (i := 111) rfl) rfl
theorem wd_t_1073 : Cond.instanceMethod yX3_nextInRow ∈ lw_gd := zgin_5 (List.mem_of_getElem? (i := 113) rfl) rfl
theorem wd_p_46 : Cond.selects RX3 yX3_nextInRow yX3_nextInRow ∈ lw_gd := List.mem_filter.mpr ⟨List.mem_append_left _ (List.mem_of_getElem? (i := 46) rfl), rfl⟩
theorem wd_t_398 : Cond.methodLink RX4 3 ⟨"java/lang/Object", "<init>", "()V"⟩ ∈ lw_gd := zgin_2 (List.mem_of_getElem? (i := 158) rfl) rfl
theorem wd_t_399 : Cond.fieldLink RX4 9 RX4 "interests" "[I" ∈ lw_gd := zgin_2 (List.mem_of_getElem? (i := 159) rfl) rfl
theorem wd_t_400 : Cond.fieldLink RX4 15 RX4 "edicts" "[Z" ∈ lw_gd := zgin_2 (List.mem_of_getElem? (i := 160) rfl) rfl
theorem wd_t_401 : Cond.fieldLink RX4 19 RX4 "count" "I" ∈ lw_gd := zgin_2 (List.mem_of_getElem? (i := 161) rfl) rfl
theorem wd_t_402 : Cond.fieldLink RX4 23 RX4 "goods" "[I" ∈ lw_gd := zgin_2 (List.mem_of_getElem? (i := 162) rfl) rfl
theorem wd_t_403 : Cond.fieldLink RX4 26 RX4 "sums" "[I" ∈ lw_gd := zgin_2 (List.mem_of_getElem? (i := 163) rfl) rfl
theorem wd_t_404 : Cond.fieldLink RX4 29 RX4 "years" "[I" ∈ lw_gd := zgin_2 (List.mem_of_getElem? (i := 164) rfl) rfl
theorem wd_t_405 : Cond.fieldLink RX4 32 RX4 "payments" "I" ∈ lw_gd := zgin_2 (List.mem_of_getElem? (i := 165) rfl) rfl
theorem wd_t_406 : Cond.fieldLink RX4 35 RX4 "paidOn" "[I" ∈ lw_gd := zgin_2 (List.mem_of_getElem? (i := 166) rfl) rfl
theorem wd_t_407 : Cond.fieldLink RX4 38 RX4 "paidIn" "[I" ∈ lw_gd := zgin_2 (List.mem_of_getElem? (i := 167) rfl) rfl
theorem wd_t_408 : Cond.fieldLink RX4 41 RX4 "paidTold" "[I" ∈ lw_gd := zgin_2 (List.mem_of_getElem? (i := 168) rfl) rfl
theorem wd_t_409 : Cond.fieldLink RX4 44 RX4 "paid" "[I" ∈ lw_gd := zgin_2 (List.mem_of_getElem? (i := 169) rfl) rfl
theorem wd_t_1218 : Cond.methodLinkNest RX4 47 yX11_isGood RX11 ∈ lw_nst := znin_6 (List.mem_of_getElem? (i := 18) rfl) rfl
theorem wd_t_1219 : Cond.methodLinkNest RX4 51 yX11_within RX11 ∈ lw_nst := znin_6 (List.mem_of_getElem? (i := 19) rfl) rfl
theorem wd_t_1229 : Cond.constant RX4 55 99999 ∈ lw_gd := zgin_6 (List.mem_of_getElem? (i := 29) rfl) rfl
theorem wd_t_1246 : Cond.methodLinkNest RX4 56 yX11_isYear RX11 ∈ lw_nst := znin_6 (List.mem_of_getElem? (i := 46) rfl) rfl
theorem wd_t_1255 : Cond.constantLong RX4 59 (-1) ∈ lw_gd := zgin_6 (List.mem_of_getElem? (i := 55) rfl) rfl
theorem wd_t_1256 : Cond.methodLink RX4 61 yX4_paidFor ∈ lw_gd := zgin_6 (List.mem_of_getElem? (i := 56) rfl) rfl
theorem wd_t_1258 : Cond.instanceMethod yX4_paidFor ∈ lw_gd := zgin_6 (List.mem_of_getElem? (i := 58) rfl) rfl
theorem wd_p_53 : Cond.selects RX4 yX4_paidFor yX4_paidFor ∈ lw_gd := List.mem_filter.mpr ⟨List.mem_append_left _ (List.mem_of_getElem? (i := 53) rfl), rfl⟩
theorem wd_t_1260 : Cond.methodLink RX4 65 yJ9_max_f86c9 ∈ lw_gd := zgin_6 (List.mem_of_getElem? (i := 60) rfl) rfl
theorem wd_t_1261 : Cond.static yJ9_max_f86c9 ∈ lw_gd := zgin_6 (List.mem_of_getElem? (i := 61) rfl) rfl
theorem wd_t_1262 : Cond.code yJ9_max_f86c9 cJ9_max_f86c9 4 (some .long) ∈ lw_gd := zgin_6 (List.mem_of_getElem? (i := 62) rfl) rfl
theorem wd_t_1263 : Cond.constantLong RX4 71 999999999999 ∈ lw_gd := zgin_6 (List.mem_of_getElem? (i := 63) rfl) rfl
theorem wd_t_1264 : Cond.constantLong RX4 73 100 ∈ lw_gd := zgin_6 (List.mem_of_getElem? (i := 64) rfl) rfl
theorem wd_t_1265 : Cond.methodLink RX4 75 yJ9_min_f86c9 ∈ lw_gd := zgin_6 (List.mem_of_getElem? (i := 65) rfl) rfl
theorem wd_t_35 : Cond.methodLink RX5 3 ⟨"java/lang/Object", "<init>", "()V"⟩ ∈ lw_gd := zgin_1 (List.mem_of_getElem? (i := 35) rfl) rfl
theorem wd_t_39 : Cond.fieldLink RX5 9 RX5 "signs" "[I" ∈ lw_gd := zgin_1 (List.mem_of_getElem? (i := 39) rfl) rfl
theorem wd_t_40 : Cond.fieldLink RX5 15 RX5 "steps" "[I" ∈ lw_gd := zgin_1 (List.mem_of_getElem? (i := 40) rfl) rfl
theorem wd_t_41 : Cond.fieldLink RX5 18 RX5 "systems" "[I" ∈ lw_gd := zgin_1 (List.mem_of_getElem? (i := 41) rfl) rfl
theorem wd_t_36 : Cond.methodLink RX5 21 yX5_slot ∈ lw_gd := zgin_1 (List.mem_of_getElem? (i := 36) rfl) rfl
theorem wd_t_37 : Cond.static yX5_slot ∈ lw_gd := zgin_1 (List.mem_of_getElem? (i := 37) rfl) rfl
theorem wd_t_481 : Cond.methodLinkNest RX5 25 yX11_within RX11 ∈ lw_nst := znin_3 (List.mem_of_getElem? (i := 1) rfl) rfl
theorem wd_t_478 : Cond.methodLink RX5 29 yX5_isSystem ∈ lw_gd := zgin_2 (List.mem_of_getElem? (i := 238) rfl) rfl
theorem wd_t_479 : Cond.static yX5_isSystem ∈ lw_gd := zgin_2 (List.mem_of_getElem? (i := 239) rfl) rfl
theorem wd_t_484 : Cond.methodLink RX5 33 yX5_dropSign ∈ lw_gd := zgin_3 (List.mem_of_getElem? (i := 4) rfl) rfl
theorem wd_t_486 : Cond.instanceMethod yX5_dropSign ∈ lw_gd := zgin_3 (List.mem_of_getElem? (i := 6) rfl) rfl
theorem wd_p_0 : Cond.selects RX5 yX5_dropSign yX5_dropSign ∈ lw_gd := List.mem_filter.mpr ⟨List.mem_append_left _ (List.mem_of_getElem? (i := 0) rfl), rfl⟩
theorem wd_t_488 : Cond.methodLink RX5 37 yJ9_min_7cf53 ∈ lw_gd := zgin_3 (List.mem_of_getElem? (i := 8) rfl) rfl
theorem wd_t_491 : Cond.methodLink RX5 42 yX5_staysSmall ∈ lw_gd := zgin_3 (List.mem_of_getElem? (i := 11) rfl) rfl
theorem wd_t_493 : Cond.instanceMethod yX5_staysSmall ∈ lw_gd := zgin_3 (List.mem_of_getElem? (i := 13) rfl) rfl
theorem wd_p_1 : Cond.selects RX5 yX5_staysSmall yX5_staysSmall ∈ lw_gd := List.mem_filter.mpr ⟨List.mem_append_left _ (List.mem_of_getElem? (i := 1) rfl), rfl⟩
theorem wd_t_495 : Cond.methodLink RX5 45 yJ9_max_7cf53 ∈ lw_gd := zgin_3 (List.mem_of_getElem? (i := 15) rfl) rfl
theorem wd_t_498 : Cond.constant RX5 48 99999 ∈ lw_gd := zgin_3 (List.mem_of_getElem? (i := 18) rfl) rfl
theorem wd_t_507 : Cond.methodLinkNest RX5 49 yX11_isGood RX11 ∈ lw_nst := znin_3 (List.mem_of_getElem? (i := 27) rfl) rfl
theorem wd_t_519 : Cond.methodLink RX5 52 yX5_hasSign ∈ lw_gd := zgin_3 (List.mem_of_getElem? (i := 39) rfl) rfl
theorem wd_t_523 : Cond.constant RX5 55 9999999 ∈ lw_gd := zgin_3 (List.mem_of_getElem? (i := 43) rfl) rfl
theorem wd_t_524 : Cond.methodLink RX5 56 yX5_worthOf ∈ lw_gd := zgin_3 (List.mem_of_getElem? (i := 44) rfl) rfl
theorem wd_t_324 : Cond.methodLink RX6 3 ⟨"java/lang/Object", "<init>", "()V"⟩ ∈ lw_gd := zgin_2 (List.mem_of_getElem? (i := 84) rfl) rfl
theorem wd_t_326 : Cond.fieldLink RX6 9 RX6 "count" "I" ∈ lw_gd := zgin_2 (List.mem_of_getElem? (i := 86) rfl) rfl
theorem wd_t_327 : Cond.fieldLink RX6 15 RX6 "sorts" "[I" ∈ lw_gd := zgin_2 (List.mem_of_getElem? (i := 87) rfl) rfl
theorem wd_t_328 : Cond.fieldLink RX6 19 RX6 "ages" "[I" ∈ lw_gd := zgin_2 (List.mem_of_getElem? (i := 88) rfl) rfl
theorem wd_t_329 : Cond.fieldLink RX6 22 RX6 "days" "[I" ∈ lw_gd := zgin_2 (List.mem_of_getElem? (i := 89) rfl) rfl
theorem wd_t_330 : Cond.fieldLink RX6 25 RX6 "kids" "[I" ∈ lw_gd := zgin_2 (List.mem_of_getElem? (i := 90) rfl) rfl
theorem wd_t_331 : Cond.fieldLink RX6 28 RX6 "stored" "[I" ∈ lw_gd := zgin_2 (List.mem_of_getElem? (i := 91) rfl) rfl
theorem wd_t_332 : Cond.fieldLink RX6 31 RX6 "allShort" "J" ∈ lw_gd := zgin_2 (List.mem_of_getElem? (i := 92) rfl) rfl
theorem wd_t_333 : Cond.fieldLink RX6 35 RX6 "facts" "[I" ∈ lw_gd := zgin_2 (List.mem_of_getElem? (i := 93) rfl) rfl
theorem wd_t_325 : Cond.fieldLink RX6 38 RX6 "rules" "LClayHouse$Rules;" ∈ lw_gd := zgin_2 (List.mem_of_getElem? (i := 85) rfl) rfl
theorem wd_t_1087 : Cond.methodLinkNest RX6 42 yX11_within RX11 ∈ lw_nst := znin_5 (List.mem_of_getElem? (i := 127) rfl) rfl
theorem wd_t_1108 : Cond.methodLinkNest RX6 46 yX11_isGood RX11 ∈ lw_nst := znin_5 (List.mem_of_getElem? (i := 148) rfl) rfl
theorem wd_t_1088 : Cond.methodLink RX6 50 yX6_has ∈ lw_gd := zgin_5 (List.mem_of_getElem? (i := 128) rfl) rfl
theorem wd_t_1089 : Cond.instanceMethod yX6_has ∈ lw_gd := zgin_5 (List.mem_of_getElem? (i := 129) rfl) rfl
theorem wd_t_1090 : Cond.selects RX6 yX6_has yX6_has ∈ lw_gd := zgin_5 (List.mem_of_getElem? (i := 130) rfl) rfl
theorem wd_t_1109 : Cond.constant RX6 53 9999999 ∈ lw_gd := zgin_5 (List.mem_of_getElem? (i := 149) rfl) rfl
theorem wd_t_1118 : Cond.methodLink RX6 54 yX6_learnFacts ∈ lw_gd := zgin_5 (List.mem_of_getElem? (i := 158) rfl) rfl
theorem wd_t_1120 : Cond.instanceMethod yX6_learnFacts ∈ lw_gd := zgin_5 (List.mem_of_getElem? (i := 160) rfl) rfl
theorem wd_p_48 : Cond.selects RX6 yX6_learnFacts yX6_learnFacts ∈ lw_gd := List.mem_filter.mpr ⟨List.mem_append_left _ (List.mem_of_getElem? (i := 48) rfl), rfl⟩
theorem wd_t_1122 : Cond.methodLink RX6 58 yX7_lines ∈ lw_gd := zgin_5 (List.mem_of_getElem? (i := 162) rfl) rfl
theorem wd_t_863 : Cond.instanceMethod yX7_lines ∈ lw_gd := zgin_4 (List.mem_of_getElem? (i := 143) rfl) rfl
theorem wd_t_864 : Cond.selects RX7 yX7_lines yX7_lines ∈ lw_gd := zgin_4 (List.mem_of_getElem? (i := 144) rfl) rfl
theorem wd_t_1123 : Cond.methodLink RX6 64 yX7_amountOf ∈ lw_gd := zgin_5 (List.mem_of_getElem? (i := 163) rfl) rfl
theorem wd_t_1124 : Cond.instanceMethod yX7_amountOf ∈ lw_gd := zgin_5 (List.mem_of_getElem? (i := 164) rfl) rfl
theorem wd_t_1125 : Cond.selects RX7 yX7_amountOf yX7_amountOf ∈ lw_gd := zgin_5 (List.mem_of_getElem? (i := 165) rfl) rfl
theorem wd_t_1136 : Cond.methodLink RX6 68 yX7_goodOf ∈ lw_gd := zgin_5 (List.mem_of_getElem? (i := 176) rfl) rfl
theorem wd_t_1137 : Cond.instanceMethod yX7_goodOf ∈ lw_gd := zgin_5 (List.mem_of_getElem? (i := 177) rfl) rfl
theorem wd_t_1138 : Cond.selects RX7 yX7_goodOf yX7_goodOf ∈ lw_gd := zgin_5 (List.mem_of_getElem? (i := 178) rfl) rfl
theorem wd_t_1140 : Cond.methodLink RX6 72 yJ9_min_7cf53 ∈ lw_gd := zgin_5 (List.mem_of_getElem? (i := 180) rfl) rfl
theorem wd_t_278 : Cond.methodLink RX7 1 ⟨"java/lang/Object", "<init>", "()V"⟩ ∈ lw_gd := zgin_2 (List.mem_of_getElem? (i := 38) rfl) rfl
theorem wd_t_280 : Cond.fieldLink RX7 7 RX7 "gives" "I" ∈ lw_gd := zgin_2 (List.mem_of_getElem? (i := 40) rfl) rfl
theorem wd_t_281 : Cond.fieldLink RX7 15 RX7 "code" "[I" ∈ lw_gd := zgin_2 (List.mem_of_getElem? (i := 41) rfl) rfl
theorem wd_t_282 : Cond.fieldLink RX7 19 RX7 "goods" "[I" ∈ lw_gd := zgin_2 (List.mem_of_getElem? (i := 42) rfl) rfl
theorem wd_t_283 : Cond.fieldLink RX7 22 RX7 "whens" "[I" ∈ lw_gd := zgin_2 (List.mem_of_getElem? (i := 43) rfl) rfl
theorem wd_t_284 : Cond.fieldLink RX7 25 RX7 "ends" "[I" ∈ lw_gd := zgin_2 (List.mem_of_getElem? (i := 44) rfl) rfl
theorem wd_t_285 : Cond.fieldLink RX7 28 RX7 "newGives" "I" ∈ lw_gd := zgin_2 (List.mem_of_getElem? (i := 45) rfl) rfl
theorem wd_t_286 : Cond.fieldLink RX7 31 RX7 "newSize" "I" ∈ lw_gd := zgin_2 (List.mem_of_getElem? (i := 46) rfl) rfl
theorem wd_t_287 : Cond.fieldLink RX7 34 RX7 "newCode" "[I" ∈ lw_gd := zgin_2 (List.mem_of_getElem? (i := 47) rfl) rfl
theorem wd_t_288 : Cond.fieldLink RX7 37 RX7 "newGoods" "[I" ∈ lw_gd := zgin_2 (List.mem_of_getElem? (i := 48) rfl) rfl
theorem wd_t_289 : Cond.fieldLink RX7 40 RX7 "newWhens" "[I" ∈ lw_gd := zgin_2 (List.mem_of_getElem? (i := 49) rfl) rfl
theorem wd_t_290 : Cond.fieldLink RX7 43 RX7 "newEnds" "[I" ∈ lw_gd := zgin_2 (List.mem_of_getElem? (i := 50) rfl) rfl
theorem wd_t_291 : Cond.fieldLink RX7 46 RX7 "stack" "[I" ∈ lw_gd := zgin_2 (List.mem_of_getElem? (i := 51) rfl) rfl
theorem wd_t_279 : Cond.fieldLink RX7 49 RX7 "tape" "LClayHouse$Tape;" ∈ lw_gd := zgin_2 (List.mem_of_getElem? (i := 39) rfl) rfl
theorem wd_t_839 : Cond.methodLinkNest RX7 53 yX11_within RX11 ∈ lw_nst := znin_4 (List.mem_of_getElem? (i := 119) rfl) rfl
theorem wd_t_824 : Cond.methodLink RX7 59 yX10_kind ∈ lw_gd := zgin_4 (List.mem_of_getElem? (i := 104) rfl) rfl
theorem wd_t_825 : Cond.methodLink RX7 63 yX7_readGive ∈ lw_gd := zgin_4 (List.mem_of_getElem? (i := 105) rfl) rfl
theorem wd_t_827 : Cond.instanceMethod yX7_readGive ∈ lw_gd := zgin_4 (List.mem_of_getElem? (i := 107) rfl) rfl
theorem wd_p_24 : Cond.selects RX7 yX7_readGive yX7_readGive ∈ lw_gd := List.mem_filter.mpr ⟨List.mem_append_left _ (List.mem_of_getElem? (i := 24) rfl), rfl⟩
theorem wd_t_859 : Cond.methodLink RX7 67 ⟨"java/lang/System", "arraycopy", "(Ljava/lang/Object;ILjava/lang/Object;II)V"⟩ ∈ lw_gd := zgin_4 (List.mem_of_getElem? (i := 139) rfl) rfl
theorem wd_t_861 : Cond.native ⟨"java/lang/System", "arraycopy", "(Ljava/lang/Object;ILjava/lang/Object;II)V"⟩ ∈ lw_gd := zgin_4 (List.mem_of_getElem? (i := 141) rfl) rfl
theorem wd_t_860 : Cond.static ⟨"java/lang/System", "arraycopy", "(Ljava/lang/Object;ILjava/lang/Object;II)V"⟩ ∈ lw_gd := zgin_4 (List.mem_of_getElem? (i := 140) rfl) rfl
theorem wd_t_20 : Cond.initialized RJ10 ∈ lw_gd := zgin_1 (List.mem_of_getElem? (i := 20) rfl) rfl
theorem wd_t_829 : Cond.methodLink RX7 73 yX10_fail ∈ lw_gd := zgin_4 (List.mem_of_getElem? (i := 109) rfl) rfl
theorem wd_t_830 : Cond.methodLink RX7 77 yX10_move ∈ lw_gd := zgin_4 (List.mem_of_getElem? (i := 110) rfl) rfl
theorem wd_t_831 : Cond.methodLink RX7 80 yX7_readSum ∈ lw_gd := zgin_4 (List.mem_of_getElem? (i := 111) rfl) rfl
theorem wd_t_833 : Cond.instanceMethod yX7_readSum ∈ lw_gd := zgin_4 (List.mem_of_getElem? (i := 113) rfl) rfl
theorem wd_p_25 : Cond.selects RX7 yX7_readSum yX7_readSum ∈ lw_gd := List.mem_filter.mpr ⟨List.mem_append_left _ (List.mem_of_getElem? (i := 25) rfl), rfl⟩
theorem wd_t_849 : Cond.methodLink RX7 83 yX10_take ∈ lw_gd := zgin_4 (List.mem_of_getElem? (i := 129) rfl) rfl
theorem wd_t_840 : Cond.methodLink RX7 86 yX10_value ∈ lw_gd := zgin_4 (List.mem_of_getElem? (i := 120) rfl) rfl
theorem wd_t_850 : Cond.methodLinkNest RX7 89 yX11_isGood RX11 ∈ lw_nst := znin_4 (List.mem_of_getElem? (i := 130) rfl) rfl
theorem wd_t_851 : Cond.methodLink RX7 92 yX7_readWhen ∈ lw_gd := zgin_4 (List.mem_of_getElem? (i := 131) rfl) rfl
theorem wd_t_853 : Cond.instanceMethod yX7_readWhen ∈ lw_gd := zgin_4 (List.mem_of_getElem? (i := 133) rfl) rfl
theorem wd_p_29 : Cond.selects RX7 yX7_readWhen yX7_readWhen ∈ lw_gd := List.mem_filter.mpr ⟨List.mem_append_left _ (List.mem_of_getElem? (i := 29) rfl), rfl⟩
theorem wd_t_855 : Cond.methodLink RX7 95 yX7_readCondition ∈ lw_gd := zgin_4 (List.mem_of_getElem? (i := 135) rfl) rfl
theorem wd_t_857 : Cond.instanceMethod yX7_readCondition ∈ lw_gd := zgin_4 (List.mem_of_getElem? (i := 137) rfl) rfl
theorem wd_p_30 : Cond.selects RX7 yX7_readCondition yX7_readCondition ∈ lw_gd := List.mem_filter.mpr ⟨List.mem_append_left _ (List.mem_of_getElem? (i := 30) rfl), rfl⟩
theorem wd_t_841 : Cond.methodLink RX7 98 yX7_write ∈ lw_gd := zgin_4 (List.mem_of_getElem? (i := 121) rfl) rfl
theorem wd_t_843 : Cond.instanceMethod yX7_write ∈ lw_gd := zgin_4 (List.mem_of_getElem? (i := 123) rfl) rfl
theorem wd_p_27 : Cond.selects RX7 yX7_write yX7_write ∈ lw_gd := List.mem_filter.mpr ⟨List.mem_append_left _ (List.mem_of_getElem? (i := 27) rfl), rfl⟩
theorem wd_t_835 : Cond.methodLink RX7 102 yX7_readUnit ∈ lw_gd := zgin_4 (List.mem_of_getElem? (i := 115) rfl) rfl
theorem wd_t_837 : Cond.instanceMethod yX7_readUnit ∈ lw_gd := zgin_4 (List.mem_of_getElem? (i := 117) rfl) rfl
theorem wd_p_26 : Cond.selects RX7 yX7_readUnit yX7_readUnit ∈ lw_gd := List.mem_filter.mpr ⟨List.mem_append_left _ (List.mem_of_getElem? (i := 26) rfl), rfl⟩
theorem wd_t_845 : Cond.methodLink RX7 105 yX7_readDivisor ∈ lw_gd := zgin_4 (List.mem_of_getElem? (i := 125) rfl) rfl
theorem wd_t_847 : Cond.instanceMethod yX7_readDivisor ∈ lw_gd := zgin_4 (List.mem_of_getElem? (i := 127) rfl) rfl
theorem wd_p_28 : Cond.selects RX7 yX7_readDivisor yX7_readDivisor ∈ lw_gd := List.mem_filter.mpr ⟨List.mem_append_left _ (List.mem_of_getElem? (i := 28) rfl), rfl⟩
theorem wd_t_1127 : Cond.methodLink RX7 108 yX7_reckon ∈ lw_gd := zgin_5 (List.mem_of_getElem? (i := 167) rfl) rfl
theorem wd_t_1129 : Cond.instanceMethod yX7_reckon ∈ lw_gd := zgin_5 (List.mem_of_getElem? (i := 169) rfl) rfl
theorem wd_p_49 : Cond.selects RX7 yX7_reckon yX7_reckon ∈ lw_gd := List.mem_filter.mpr ⟨List.mem_append_left _ (List.mem_of_getElem? (i := 49) rfl), rfl⟩
theorem wd_t_1134 : Cond.methodLink RX7 112 yJ9_min_7cf53 ∈ lw_gd := zgin_5 (List.mem_of_getElem? (i := 174) rfl) rfl
theorem wd_t_1135 : Cond.methodLink RX7 118 yJ9_max_7cf53 ∈ lw_gd := zgin_5 (List.mem_of_getElem? (i := 175) rfl) rfl
theorem wd_t_1131 : Cond.methodLink RX7 121 yX7_joined ∈ lw_gd := zgin_5 (List.mem_of_getElem? (i := 171) rfl) rfl
theorem wd_t_1132 : Cond.static yX7_joined ∈ lw_gd := zgin_5 (List.mem_of_getElem? (i := 172) rfl) rfl
theorem wd_t_228 : Cond.methodLink RX8 3 ⟨"java/lang/Object", "<init>", "()V"⟩ ∈ lw_gd := zgin_1 (List.mem_of_getElem? (i := 228) rfl) rfl
theorem wd_t_229 : Cond.fieldLink RX8 9 RX8 "count" "I" ∈ lw_gd := zgin_1 (List.mem_of_getElem? (i := 229) rfl) rfl
theorem wd_t_230 : Cond.fieldLink RX8 15 RX8 "under" "[I" ∈ lw_gd := zgin_1 (List.mem_of_getElem? (i := 230) rfl) rfl
theorem wd_t_231 : Cond.fieldLink RX8 19 RX8 "orders" "[I" ∈ lw_gd := zgin_1 (List.mem_of_getElem? (i := 231) rfl) rfl
theorem wd_t_232 : Cond.fieldLink RX8 22 RX8 "first" "[I" ∈ lw_gd := zgin_1 (List.mem_of_getElem? (i := 232) rfl) rfl
theorem wd_t_233 : Cond.fieldLink RX8 25 RX8 "ring" "[I" ∈ lw_gd := zgin_1 (List.mem_of_getElem? (i := 233) rfl) rfl
theorem wd_t_234 : Cond.fieldLink RX8 28 RX8 "leadsBack" "[I" ∈ lw_gd := zgin_1 (List.mem_of_getElem? (i := 234) rfl) rfl
theorem wd_t_971 : Cond.methodLinkNest RX8 31 yX11_within RX11 ∈ lw_nst := znin_5 (List.mem_of_getElem? (i := 11) rfl) rfl
theorem wd_t_967 : Cond.methodLink RX8 35 yX8_isSealing ∈ lw_gd := zgin_5 (List.mem_of_getElem? (i := 7) rfl) rfl
theorem wd_t_969 : Cond.instanceMethod yX8_isSealing ∈ lw_gd := zgin_5 (List.mem_of_getElem? (i := 9) rfl) rfl
theorem wd_p_34 : Cond.selects RX8 yX8_isSealing yX8_isSealing ∈ lw_gd := List.mem_filter.mpr ⟨List.mem_append_left _ (List.mem_of_getElem? (i := 34) rfl), rfl⟩
theorem wd_t_980 : Cond.methodLink RX8 39 yX8_countOrders ∈ lw_gd := zgin_5 (List.mem_of_getElem? (i := 20) rfl) rfl
theorem wd_t_982 : Cond.instanceMethod yX8_countOrders ∈ lw_gd := zgin_5 (List.mem_of_getElem? (i := 22) rfl) rfl
theorem wd_p_35 : Cond.selects RX8 yX8_countOrders yX8_countOrders ∈ lw_gd := List.mem_filter.mpr ⟨List.mem_append_left _ (List.mem_of_getElem? (i := 35) rfl), rfl⟩
theorem wd_t_984 : Cond.methodLink RX8 43 yX8_findFirst ∈ lw_gd := zgin_5 (List.mem_of_getElem? (i := 24) rfl) rfl
theorem wd_t_986 : Cond.instanceMethod yX8_findFirst ∈ lw_gd := zgin_5 (List.mem_of_getElem? (i := 26) rfl) rfl
theorem wd_p_36 : Cond.selects RX8 yX8_findFirst yX8_findFirst ∈ lw_gd := List.mem_filter.mpr ⟨List.mem_append_left _ (List.mem_of_getElem? (i := 36) rfl), rfl⟩
theorem wd_t_988 : Cond.methodLink RX8 47 yX8_findRing ∈ lw_gd := zgin_5 (List.mem_of_getElem? (i := 28) rfl) rfl
theorem wd_t_990 : Cond.instanceMethod yX8_findRing ∈ lw_gd := zgin_5 (List.mem_of_getElem? (i := 30) rfl) rfl
theorem wd_p_37 : Cond.selects RX8 yX8_findRing yX8_findRing ∈ lw_gd := List.mem_filter.mpr ⟨List.mem_append_left _ (List.mem_of_getElem? (i := 37) rfl), rfl⟩
theorem wd_t_992 : Cond.methodLink RX8 50 yX8_findWaysBack ∈ lw_gd := zgin_5 (List.mem_of_getElem? (i := 32) rfl) rfl
theorem wd_t_994 : Cond.instanceMethod yX8_findWaysBack ∈ lw_gd := zgin_5 (List.mem_of_getElem? (i := 34) rfl) rfl
theorem wd_p_38 : Cond.selects RX8 yX8_findWaysBack yX8_findWaysBack ∈ lw_gd := List.mem_filter.mpr ⟨List.mem_append_left _ (List.mem_of_getElem? (i := 38) rfl), rfl⟩
theorem wd_t_996 : Cond.methodLink RX8 54 yX8_walkRing ∈ lw_gd := zgin_5 (List.mem_of_getElem? (i := 36) rfl) rfl
theorem wd_t_998 : Cond.instanceMethod yX8_walkRing ∈ lw_gd := zgin_5 (List.mem_of_getElem? (i := 38) rfl) rfl
theorem wd_p_39 : Cond.selects RX8 yX8_walkRing yX8_walkRing ∈ lw_gd := List.mem_filter.mpr ⟨List.mem_append_left _ (List.mem_of_getElem? (i := 39) rfl), rfl⟩
theorem wd_t_1000 : Cond.methodLink RX8 57 yJ6_numberOfTrailingZeros_0f7a4 ∈ lw_gd := zgin_5 (List.mem_of_getElem? (i := 40) rfl) rfl
theorem wd_t_1001 : Cond.static yJ6_numberOfTrailingZeros_0f7a4 ∈ lw_gd := zgin_5 (List.mem_of_getElem? (i := 41) rfl) rfl
theorem wd_t_1004 : Cond.methodLink RX8 63 yJ9_min_7cf53 ∈ lw_gd := zgin_5 (List.mem_of_getElem? (i := 44) rfl) rfl
theorem wd_t_1013 : Cond.methodLink RX8 69 yX8_allUnder ∈ lw_gd := zgin_5 (List.mem_of_getElem? (i := 53) rfl) rfl
theorem wd_t_1015 : Cond.instanceMethod yX8_allUnder ∈ lw_gd := zgin_5 (List.mem_of_getElem? (i := 55) rfl) rfl
theorem wd_p_40 : Cond.selects RX8 yX8_allUnder yX8_allUnder ∈ lw_gd := List.mem_filter.mpr ⟨List.mem_append_left _ (List.mem_of_getElem? (i := 40) rfl), rfl⟩
theorem wd_t_160 : Cond.methodLink RX9 7 ⟨"java/lang/Object", "<init>", "()V"⟩ ∈ lw_gd := zgin_1 (List.mem_of_getElem? (i := 160) rfl) rfl
theorem wd_t_161 : Cond.fieldLink RX9 13 RX9 "years" "[I" ∈ lw_gd := zgin_1 (List.mem_of_getElem? (i := 161) rfl) rfl
theorem wd_t_162 : Cond.fieldLink RX9 17 RX9 "sizes" "[I" ∈ lw_gd := zgin_1 (List.mem_of_getElem? (i := 162) rfl) rfl
theorem wd_t_163 : Cond.fieldLink RX9 20 RX9 "sorts" "[I" ∈ lw_gd := zgin_1 (List.mem_of_getElem? (i := 163) rfl) rfl
theorem wd_t_164 : Cond.fieldLink RX9 23 RX9 "goods" "[I" ∈ lw_gd := zgin_1 (List.mem_of_getElem? (i := 164) rfl) rfl
theorem wd_t_165 : Cond.fieldLink RX9 26 RX9 "least" "[I" ∈ lw_gd := zgin_1 (List.mem_of_getElem? (i := 165) rfl) rfl
theorem wd_t_166 : Cond.fieldLink RX9 29 RX9 "greatest" "[I" ∈ lw_gd := zgin_1 (List.mem_of_getElem? (i := 166) rfl) rfl
theorem wd_t_167 : Cond.fieldLink RX9 32 RX9 "fills" "[I" ∈ lw_gd := zgin_1 (List.mem_of_getElem? (i := 167) rfl) rfl
theorem wd_t_700 : Cond.methodLinkNest RX9 35 yX11_within RX11 ∈ lw_nst := znin_3 (List.mem_of_getElem? (i := 220) rfl) rfl
theorem wd_t_814 : Cond.methodLink RX9 39 yX9_has ∈ lw_gd := zgin_4 (List.mem_of_getElem? (i := 94) rfl) rfl
theorem wd_t_697 : Cond.instanceMethod yX9_has ∈ lw_gd := zgin_3 (List.mem_of_getElem? (i := 217) rfl) rfl
theorem wd_t_698 : Cond.selects RX9 yX9_has yX9_has ∈ lw_gd := zgin_3 (List.mem_of_getElem? (i := 218) rfl) rfl
theorem wd_t_94 : Cond.fieldLinkNest RX9 43 RX1 "lines" "I" RX11 ∈ lw_nst := znin_1 (List.mem_of_getElem? (i := 94) rfl) rfl
theorem wd_t_97 : Cond.fieldLinkNest RX9 47 RX1 "sorts" "[I" RX11 ∈ lw_nst := znin_1 (List.mem_of_getElem? (i := 97) rfl) rfl
theorem wd_t_99 : Cond.fieldLinkNest RX9 48 RX1 "goods" "[I" RX11 ∈ lw_nst := znin_1 (List.mem_of_getElem? (i := 99) rfl) rfl
theorem wd_t_102 : Cond.fieldLinkNest RX9 49 RX1 "least" "[I" RX11 ∈ lw_nst := znin_1 (List.mem_of_getElem? (i := 102) rfl) rfl
theorem wd_t_104 : Cond.fieldLinkNest RX9 50 RX1 "greatest" "[I" RX11 ∈ lw_nst := znin_1 (List.mem_of_getElem? (i := 104) rfl) rfl
theorem wd_t_111 : Cond.fieldLinkNest RX9 51 RX1 "fills" "[I" RX11 ∈ lw_nst := znin_1 (List.mem_of_getElem? (i := 111) rfl) rfl
theorem wd_t_106 : Cond.fieldLinkNest RX9 52 RX1 "blocks" "[I" RX11 ∈ lw_nst := znin_1 (List.mem_of_getElem? (i := 106) rfl) rfl
theorem wd_t_55 : Cond.methodLink RX10 3 ⟨"java/lang/Object", "<init>", "()V"⟩ ∈ lw_gd := zgin_1 (List.mem_of_getElem? (i := 55) rfl) rfl
theorem wd_t_84 : Cond.arrayClass .char ∈ lw_gd := zgin_1 (List.mem_of_getElem? (i := 84) rfl) rfl
theorem wd_t_56 : Cond.fieldLink RX10 11 RX10 "text" "[C" ∈ lw_gd := zgin_1 (List.mem_of_getElem? (i := 56) rfl) rfl
theorem wd_t_57 : Cond.fieldLink RX10 15 RX10 "length" "I" ∈ lw_gd := zgin_1 (List.mem_of_getElem? (i := 57) rfl) rfl
theorem wd_t_58 : Cond.fieldLink RX10 19 RX10 "kinds" "[I" ∈ lw_gd := zgin_1 (List.mem_of_getElem? (i := 58) rfl) rfl
theorem wd_t_59 : Cond.fieldLink RX10 23 RX10 "values" "[I" ∈ lw_gd := zgin_1 (List.mem_of_getElem? (i := 59) rfl) rfl
theorem wd_t_60 : Cond.fieldLink RX10 26 RX10 "places" "[I" ∈ lw_gd := zgin_1 (List.mem_of_getElem? (i := 60) rfl) rfl
theorem wd_t_61 : Cond.fieldLink RX10 29 RX10 "tokens" "I" ∈ lw_gd := zgin_1 (List.mem_of_getElem? (i := 61) rfl) rfl
theorem wd_t_62 : Cond.fieldLink RX10 32 RX10 "at" "I" ∈ lw_gd := zgin_1 (List.mem_of_getElem? (i := 62) rfl) rfl
theorem wd_t_63 : Cond.fieldLink RX10 35 RX10 "fault" "I" ∈ lw_gd := zgin_1 (List.mem_of_getElem? (i := 63) rfl) rfl
theorem wd_t_64 : Cond.fieldLink RX10 38 RX10 "faultPlace" "I" ∈ lw_gd := zgin_1 (List.mem_of_getElem? (i := 64) rfl) rfl
theorem wd_t_540 : Cond.methodLink RX10 41 yX10_appendNumber ∈ lw_gd := zgin_3 (List.mem_of_getElem? (i := 60) rfl) rfl
theorem wd_t_542 : Cond.instanceMethod yX10_appendNumber ∈ lw_gd := zgin_3 (List.mem_of_getElem? (i := 62) rfl) rfl
theorem wd_p_2 : Cond.selects RX10 yX10_appendNumber yX10_appendNumber ∈ lw_gd := List.mem_filter.mpr ⟨List.mem_append_left _ (List.mem_of_getElem? (i := 2) rfl), rfl⟩
theorem wd_t_552 : Cond.methodLinkNest RX10 45 yX11_within RX11 ∈ lw_nst := znin_3 (List.mem_of_getElem? (i := 72) rfl) rfl
theorem wd_t_561 : Cond.methodLink RX10 49 yX10_sizeFrom ∈ lw_gd := zgin_3 (List.mem_of_getElem? (i := 81) rfl) rfl
theorem wd_t_563 : Cond.instanceMethod yX10_sizeFrom ∈ lw_gd := zgin_3 (List.mem_of_getElem? (i := 83) rfl) rfl
theorem wd_p_3 : Cond.selects RX10 yX10_sizeFrom yX10_sizeFrom ∈ lw_gd := List.mem_filter.mpr ⟨List.mem_append_left _ (List.mem_of_getElem? (i := 3) rfl), rfl⟩
theorem wd_t_571 : Cond.methodLink RX10 53 yX10_kindOf ∈ lw_gd := zgin_3 (List.mem_of_getElem? (i := 91) rfl) rfl
theorem wd_t_573 : Cond.instanceMethod yX10_kindOf ∈ lw_gd := zgin_3 (List.mem_of_getElem? (i := 93) rfl) rfl
theorem wd_p_4 : Cond.selects RX10 yX10_kindOf yX10_kindOf ∈ lw_gd := List.mem_filter.mpr ⟨List.mem_append_left _ (List.mem_of_getElem? (i := 4) rfl), rfl⟩
theorem wd_t_688 : Cond.methodLink RX10 57 yX10_valueOf ∈ lw_gd := zgin_3 (List.mem_of_getElem? (i := 208) rfl) rfl
theorem wd_t_690 : Cond.instanceMethod yX10_valueOf ∈ lw_gd := zgin_3 (List.mem_of_getElem? (i := 210) rfl) rfl
theorem wd_p_7 : Cond.selects RX10 yX10_valueOf yX10_valueOf ∈ lw_gd := List.mem_filter.mpr ⟨List.mem_append_left _ (List.mem_of_getElem? (i := 7) rfl), rfl⟩
theorem wd_t_692 : Cond.methodLink RX10 60 yX10_addToken ∈ lw_gd := zgin_3 (List.mem_of_getElem? (i := 212) rfl) rfl
theorem wd_t_694 : Cond.instanceMethod yX10_addToken ∈ lw_gd := zgin_3 (List.mem_of_getElem? (i := 214) rfl) rfl
theorem wd_p_8 : Cond.selects RX10 yX10_addToken yX10_addToken ∈ lw_gd := List.mem_filter.mpr ⟨List.mem_append_left _ (List.mem_of_getElem? (i := 8) rfl), rfl⟩
theorem wd_t_565 : Cond.methodLink RX10 64 yX10_isLetter ∈ lw_gd := zgin_3 (List.mem_of_getElem? (i := 85) rfl) rfl
theorem wd_t_566 : Cond.static yX10_isLetter ∈ lw_gd := zgin_3 (List.mem_of_getElem? (i := 86) rfl) rfl
theorem wd_t_568 : Cond.methodLink RX10 68 yX10_isDigit ∈ lw_gd := zgin_3 (List.mem_of_getElem? (i := 88) rfl) rfl
theorem wd_t_569 : Cond.static yX10_isDigit ∈ lw_gd := zgin_3 (List.mem_of_getElem? (i := 89) rfl) rfl
theorem wd_t_575 : Cond.methodLink RX10 71 yX10_wordAt ∈ lw_gd := zgin_3 (List.mem_of_getElem? (i := 95) rfl) rfl
theorem wd_t_577 : Cond.instanceMethod yX10_wordAt ∈ lw_gd := zgin_3 (List.mem_of_getElem? (i := 97) rfl) rfl
theorem wd_p_5 : Cond.selects RX10 yX10_wordAt yX10_wordAt ∈ lw_gd := List.mem_filter.mpr ⟨List.mem_append_left _ (List.mem_of_getElem? (i := 5) rfl), rfl⟩
theorem wd_t_633 : Cond.methodLink RX10 76 yJ0_indexOf_0f7a4 ∈ lw_gd := zgin_3 (List.mem_of_getElem? (i := 153) rfl) rfl
theorem wd_t_634 : Cond.instanceMethod yJ0_indexOf_0f7a4 ∈ lw_gd := zgin_3 (List.mem_of_getElem? (i := 154) rfl) rfl
theorem wd_t_635 : Cond.selects RJ0 yJ0_indexOf_0f7a4 yJ0_indexOf_0f7a4 ∈ lw_gd := zgin_3 (List.mem_of_getElem? (i := 155) rfl) rfl
theorem wd_t_580 : Cond.methodLink RX10 83 yJ0_length_8abf5 ∈ lw_gd := zgin_3 (List.mem_of_getElem? (i := 100) rfl) rfl
theorem wd_t_581 : Cond.instanceMethod yJ0_length_8abf5 ∈ lw_gd := zgin_3 (List.mem_of_getElem? (i := 101) rfl) rfl
theorem wd_t_582 : Cond.selects RJ0 yJ0_length_8abf5 yJ0_length_8abf5 ∈ lw_gd := zgin_3 (List.mem_of_getElem? (i := 102) rfl) rfl
theorem wd_t_590 : Cond.methodLink RX10 86 yJ0_charAt_5068e ∈ lw_gd := zgin_3 (List.mem_of_getElem? (i := 110) rfl) rfl
theorem wd_t_591 : Cond.instanceMethod yJ0_charAt_5068e ∈ lw_gd := zgin_3 (List.mem_of_getElem? (i := 111) rfl) rfl
theorem wd_t_592 : Cond.selects RJ0 yJ0_charAt_5068e yJ0_charAt_5068e ∈ lw_gd := zgin_3 (List.mem_of_getElem? (i := 112) rfl) rfl
theorem wd_t_628 : Cond.methodLink RX10 90 yX10_standsAt ∈ lw_gd := zgin_3 (List.mem_of_getElem? (i := 148) rfl) rfl
theorem wd_t_630 : Cond.instanceMethod yX10_standsAt ∈ lw_gd := zgin_3 (List.mem_of_getElem? (i := 150) rfl) rfl
theorem wd_p_6 : Cond.selects RX10 yX10_standsAt yX10_standsAt ∈ lw_gd := List.mem_filter.mpr ⟨List.mem_append_left _ (List.mem_of_getElem? (i := 6) rfl), rfl⟩
theorem wd_t_725 : Cond.methodLink RX10 93 yX10_fail ∈ lw_gd := zgin_4 (List.mem_of_getElem? (i := 5) rfl) rfl
theorem wd_t_726 : Cond.methodLink RX10 97 yX10_move ∈ lw_gd := zgin_4 (List.mem_of_getElem? (i := 6) rfl) rfl
theorem wd_t_27 : Cond.methodLink RX11 1 ⟨"java/lang/Object", "<init>", "()V"⟩ ∈ lw_gd := zgin_1 (List.mem_of_getElem? (i := 27) rfl) rfl
theorem wd_t_30 : Cond.classLink RX11 7 RX5 ∈ lw_gd := zgin_1 (List.mem_of_getElem? (i := 30) rfl) rfl
theorem wd_t_31 : Cond.instantiable RX5 3 ∈ lw_gd := zgin_1 (List.mem_of_getElem? (i := 31) rfl) rfl
theorem wd_t_2 : Cond.initialized RX5 ∈ lw_gd := zgin_1 (List.mem_of_getElem? (i := 2) rfl) rfl
theorem wd_t_32 : Cond.methodLink RX11 9 yX5_init ∈ lw_gd := zgin_1 (List.mem_of_getElem? (i := 32) rfl) rfl
theorem wd_t_33 : Cond.instanceMethod yX5_init ∈ lw_gd := zgin_1 (List.mem_of_getElem? (i := 33) rfl) rfl
theorem wd_t_433 : Cond.fieldLink RX11 10 RX11 "numbers" "LClayHouse$Numbers;" ∈ lw_gd := zgin_2 (List.mem_of_getElem? (i := 193) rfl) rfl
theorem wd_t_50 : Cond.classLink RX11 16 RX10 ∈ lw_gd := zgin_1 (List.mem_of_getElem? (i := 50) rfl) rfl
theorem wd_t_51 : Cond.instantiable RX10 9 ∈ lw_gd := zgin_1 (List.mem_of_getElem? (i := 51) rfl) rfl
theorem wd_t_3 : Cond.initialized RX10 ∈ lw_gd := zgin_1 (List.mem_of_getElem? (i := 3) rfl) rfl
theorem wd_t_52 : Cond.methodLinkNest RX11 18 yX10_init RX11 ∈ lw_nst := znin_1 (List.mem_of_getElem? (i := 52) rfl) rfl
theorem wd_t_53 : Cond.instanceMethod yX10_init ∈ lw_gd := zgin_1 (List.mem_of_getElem? (i := 53) rfl) rfl
theorem wd_t_434 : Cond.fieldLink RX11 19 RX11 "tape" "LClayHouse$Tape;" ∈ lw_gd := zgin_2 (List.mem_of_getElem? (i := 194) rfl) rfl
theorem wd_t_85 : Cond.classLink RX11 23 RX1 ∈ lw_gd := zgin_1 (List.mem_of_getElem? (i := 85) rfl) rfl
theorem wd_t_86 : Cond.instantiable RX1 18 ∈ lw_gd := zgin_1 (List.mem_of_getElem? (i := 86) rfl) rfl
theorem wd_t_4 : Cond.initialized RX1 ∈ lw_gd := zgin_1 (List.mem_of_getElem? (i := 4) rfl) rfl
theorem wd_t_87 : Cond.methodLink RX11 25 yX1_init ∈ lw_gd := zgin_1 (List.mem_of_getElem? (i := 87) rfl) rfl
theorem wd_t_88 : Cond.instanceMethod yX1_init ∈ lw_gd := zgin_1 (List.mem_of_getElem? (i := 88) rfl) rfl
theorem wd_t_435 : Cond.fieldLink RX11 28 RX11 "draft" "LClayHouse$Draft;" ∈ lw_gd := zgin_2 (List.mem_of_getElem? (i := 195) rfl) rfl
theorem wd_t_155 : Cond.classLink RX11 32 RX9 ∈ lw_gd := zgin_1 (List.mem_of_getElem? (i := 155) rfl) rfl
theorem wd_t_156 : Cond.instantiable RX9 7 ∈ lw_gd := zgin_1 (List.mem_of_getElem? (i := 156) rfl) rfl
theorem wd_t_5 : Cond.initialized RX9 ∈ lw_gd := zgin_1 (List.mem_of_getElem? (i := 5) rfl) rfl
theorem wd_t_157 : Cond.methodLink RX11 34 yX9_init ∈ lw_gd := zgin_1 (List.mem_of_getElem? (i := 157) rfl) rfl
theorem wd_t_158 : Cond.instanceMethod yX9_init ∈ lw_gd := zgin_1 (List.mem_of_getElem? (i := 158) rfl) rfl
theorem wd_t_436 : Cond.fieldLink RX11 35 RX11 "tablets" "LClayHouse$Tablets;" ∈ lw_gd := zgin_2 (List.mem_of_getElem? (i := 196) rfl) rfl
theorem wd_t_183 : Cond.classLink RX11 39 RX0 ∈ lw_gd := zgin_1 (List.mem_of_getElem? (i := 183) rfl) rfl
theorem wd_t_184 : Cond.instantiable RX0 11 ∈ lw_gd := zgin_1 (List.mem_of_getElem? (i := 184) rfl) rfl
theorem wd_t_6 : Cond.initialized RX0 ∈ lw_gd := zgin_1 (List.mem_of_getElem? (i := 6) rfl) rfl
theorem wd_t_185 : Cond.methodLink RX11 41 yX0_init ∈ lw_gd := zgin_1 (List.mem_of_getElem? (i := 185) rfl) rfl
theorem wd_t_186 : Cond.instanceMethod yX0_init ∈ lw_gd := zgin_1 (List.mem_of_getElem? (i := 186) rfl) rfl
theorem wd_t_437 : Cond.fieldLink RX11 42 RX11 "balls" "LClayHouse$Balls;" ∈ lw_gd := zgin_2 (List.mem_of_getElem? (i := 197) rfl) rfl
theorem wd_t_223 : Cond.classLink RX11 46 RX8 ∈ lw_gd := zgin_1 (List.mem_of_getElem? (i := 223) rfl) rfl
theorem wd_t_224 : Cond.instantiable RX8 6 ∈ lw_gd := zgin_1 (List.mem_of_getElem? (i := 224) rfl) rfl
theorem wd_t_7 : Cond.initialized RX8 ∈ lw_gd := zgin_1 (List.mem_of_getElem? (i := 7) rfl) rfl
theorem wd_t_225 : Cond.methodLinkNest RX11 48 yX8_init RX11 ∈ lw_nst := znin_1 (List.mem_of_getElem? (i := 225) rfl) rfl
theorem wd_t_226 : Cond.instanceMethod yX8_init ∈ lw_gd := zgin_1 (List.mem_of_getElem? (i := 226) rfl) rfl
theorem wd_t_438 : Cond.fieldLink RX11 49 RX11 "sealings" "LClayHouse$Sealings;" ∈ lw_gd := zgin_2 (List.mem_of_getElem? (i := 198) rfl) rfl
theorem wd_t_248 : Cond.classLink RX11 53 RX3 ∈ lw_gd := zgin_2 (List.mem_of_getElem? (i := 8) rfl) rfl
theorem wd_t_249 : Cond.instantiable RX3 6 ∈ lw_gd := zgin_2 (List.mem_of_getElem? (i := 9) rfl) rfl
theorem wd_t_8 : Cond.initialized RX3 ∈ lw_gd := zgin_1 (List.mem_of_getElem? (i := 8) rfl) rfl
theorem wd_t_250 : Cond.methodLinkNest RX11 55 yX3_init RX11 ∈ lw_nst := znin_2 (List.mem_of_getElem? (i := 10) rfl) rfl
theorem wd_t_251 : Cond.instanceMethod yX3_init ∈ lw_gd := zgin_2 (List.mem_of_getElem? (i := 11) rfl) rfl
theorem wd_t_439 : Cond.fieldLink RX11 56 RX11 "fragments" "LClayHouse$Fragments;" ∈ lw_gd := zgin_2 (List.mem_of_getElem? (i := 199) rfl) rfl
theorem wd_t_273 : Cond.classLink RX11 60 RX7 ∈ lw_gd := zgin_2 (List.mem_of_getElem? (i := 33) rfl) rfl
theorem wd_t_274 : Cond.instantiable RX7 13 ∈ lw_gd := zgin_2 (List.mem_of_getElem? (i := 34) rfl) rfl
theorem wd_t_9 : Cond.initialized RX7 ∈ lw_gd := zgin_1 (List.mem_of_getElem? (i := 9) rfl) rfl
theorem wd_t_275 : Cond.methodLink RX11 62 yX7_init ∈ lw_gd := zgin_2 (List.mem_of_getElem? (i := 35) rfl) rfl
theorem wd_t_276 : Cond.instanceMethod yX7_init ∈ lw_gd := zgin_2 (List.mem_of_getElem? (i := 36) rfl) rfl
theorem wd_t_440 : Cond.fieldLink RX11 65 RX11 "rules" "LClayHouse$Rules;" ∈ lw_gd := zgin_2 (List.mem_of_getElem? (i := 200) rfl) rfl
theorem wd_t_319 : Cond.classLink RX11 69 RX6 ∈ lw_gd := zgin_2 (List.mem_of_getElem? (i := 79) rfl) rfl
theorem wd_t_320 : Cond.instantiable RX6 9 ∈ lw_gd := zgin_2 (List.mem_of_getElem? (i := 80) rfl) rfl
theorem wd_t_10 : Cond.initialized RX6 ∈ lw_gd := zgin_1 (List.mem_of_getElem? (i := 10) rfl) rfl
theorem wd_t_321 : Cond.methodLink RX11 71 yX6_init ∈ lw_gd := zgin_2 (List.mem_of_getElem? (i := 81) rfl) rfl
theorem wd_t_322 : Cond.instanceMethod yX6_init ∈ lw_gd := zgin_2 (List.mem_of_getElem? (i := 82) rfl) rfl
theorem wd_t_441 : Cond.fieldLink RX11 74 RX11 "people" "LClayHouse$People;" ∈ lw_gd := zgin_2 (List.mem_of_getElem? (i := 201) rfl) rfl
theorem wd_t_353 : Cond.classLink RX11 78 RX2 ∈ lw_gd := zgin_2 (List.mem_of_getElem? (i := 113) rfl) rfl
theorem wd_t_354 : Cond.instantiable RX2 11 ∈ lw_gd := zgin_2 (List.mem_of_getElem? (i := 114) rfl) rfl
theorem wd_t_11 : Cond.initialized RX2 ∈ lw_gd := zgin_1 (List.mem_of_getElem? (i := 11) rfl) rfl
theorem wd_t_355 : Cond.methodLinkNest RX11 80 yX2_init RX11 ∈ lw_nst := znin_2 (List.mem_of_getElem? (i := 115) rfl) rfl
theorem wd_t_356 : Cond.instanceMethod yX2_init ∈ lw_gd := zgin_2 (List.mem_of_getElem? (i := 116) rfl) rfl
theorem wd_t_442 : Cond.fieldLink RX11 81 RX11 "flocks" "LClayHouse$Flocks;" ∈ lw_gd := zgin_2 (List.mem_of_getElem? (i := 202) rfl) rfl
theorem wd_t_393 : Cond.classLink RX11 85 RX4 ∈ lw_gd := zgin_2 (List.mem_of_getElem? (i := 153) rfl) rfl
theorem wd_t_394 : Cond.instantiable RX4 11 ∈ lw_gd := zgin_2 (List.mem_of_getElem? (i := 154) rfl) rfl
theorem wd_t_12 : Cond.initialized RX4 ∈ lw_gd := zgin_1 (List.mem_of_getElem? (i := 12) rfl) rfl
theorem wd_t_395 : Cond.methodLinkNest RX11 87 yX4_init RX11 ∈ lw_nst := znin_2 (List.mem_of_getElem? (i := 155) rfl) rfl
theorem wd_t_396 : Cond.instanceMethod yX4_init ∈ lw_gd := zgin_2 (List.mem_of_getElem? (i := 156) rfl) rfl
theorem wd_t_443 : Cond.fieldLink RX11 88 RX11 "loans" "LClayHouse$Loans;" ∈ lw_gd := zgin_2 (List.mem_of_getElem? (i := 203) rfl) rfl
theorem wd_t_444 : Cond.fieldLink RX11 92 RX11 "now" "I" ∈ lw_gd := zgin_2 (List.mem_of_getElem? (i := 204) rfl) rfl
theorem wd_t_474 : Cond.methodLink RX11 96 yX5_setStep ∈ lw_gd := zgin_2 (List.mem_of_getElem? (i := 234) rfl) rfl
theorem wd_t_475 : Cond.instanceMethod yX5_setStep ∈ lw_gd := zgin_2 (List.mem_of_getElem? (i := 235) rfl) rfl
theorem wd_t_476 : Cond.selects RX5 yX5_setStep yX5_setStep ∈ lw_gd := zgin_2 (List.mem_of_getElem? (i := 236) rfl) rfl
theorem wd_t_503 : Cond.methodLink RX11 100 yX5_setSystem ∈ lw_gd := zgin_3 (List.mem_of_getElem? (i := 23) rfl) rfl
theorem wd_t_504 : Cond.instanceMethod yX5_setSystem ∈ lw_gd := zgin_3 (List.mem_of_getElem? (i := 24) rfl) rfl
theorem wd_t_505 : Cond.selects RX5 yX5_setSystem yX5_setSystem ∈ lw_gd := zgin_3 (List.mem_of_getElem? (i := 25) rfl) rfl
theorem wd_t_515 : Cond.methodLink RX11 104 yX5_countIn ∈ lw_gd := zgin_3 (List.mem_of_getElem? (i := 35) rfl) rfl
theorem wd_t_516 : Cond.instanceMethod yX5_countIn ∈ lw_gd := zgin_3 (List.mem_of_getElem? (i := 36) rfl) rfl
theorem wd_t_517 : Cond.selects RX5 yX5_countIn yX5_countIn ∈ lw_gd := zgin_3 (List.mem_of_getElem? (i := 37) rfl) rfl
theorem wd_t_536 : Cond.methodLink RX11 108 yX10_append ∈ lw_gd := zgin_3 (List.mem_of_getElem? (i := 56) rfl) rfl
theorem wd_t_537 : Cond.instanceMethod yX10_append ∈ lw_gd := zgin_3 (List.mem_of_getElem? (i := 57) rfl) rfl
theorem wd_t_538 : Cond.selects RX10 yX10_append yX10_append ∈ lw_gd := zgin_3 (List.mem_of_getElem? (i := 58) rfl) rfl
theorem wd_t_548 : Cond.methodLink RX11 112 yX10_cut ∈ lw_gd := zgin_3 (List.mem_of_getElem? (i := 68) rfl) rfl
theorem wd_t_549 : Cond.instanceMethod yX10_cut ∈ lw_gd := zgin_3 (List.mem_of_getElem? (i := 69) rfl) rfl
theorem wd_t_550 : Cond.selects RX10 yX10_cut yX10_cut ∈ lw_gd := zgin_3 (List.mem_of_getElem? (i := 70) rfl) rfl
theorem wd_t_557 : Cond.methodLink RX11 116 yX10_split ∈ lw_gd := zgin_3 (List.mem_of_getElem? (i := 77) rfl) rfl
theorem wd_t_558 : Cond.instanceMethod yX10_split ∈ lw_gd := zgin_3 (List.mem_of_getElem? (i := 78) rfl) rfl
theorem wd_t_559 : Cond.selects RX10 yX10_split yX10_split ∈ lw_gd := zgin_3 (List.mem_of_getElem? (i := 79) rfl) rfl
theorem wd_t_696 : Cond.methodLink RX11 119 yX9_has ∈ lw_gd := zgin_3 (List.mem_of_getElem? (i := 216) rfl) rfl
theorem wd_t_701 : Cond.methodLink RX11 122 yX1_read ∈ lw_gd := zgin_3 (List.mem_of_getElem? (i := 221) rfl) rfl
theorem wd_t_702 : Cond.instanceMethod yX1_read ∈ lw_gd := zgin_3 (List.mem_of_getElem? (i := 222) rfl) rfl
theorem wd_t_703 : Cond.selects RX1 yX1_read yX1_read ∈ lw_gd := zgin_3 (List.mem_of_getElem? (i := 223) rfl) rfl
theorem wd_t_810 : Cond.methodLink RX11 126 yX9_keep ∈ lw_gd := zgin_4 (List.mem_of_getElem? (i := 90) rfl) rfl
theorem wd_t_811 : Cond.instanceMethod yX9_keep ∈ lw_gd := zgin_4 (List.mem_of_getElem? (i := 91) rfl) rfl
theorem wd_t_812 : Cond.selects RX9 yX9_keep yX9_keep ∈ lw_gd := zgin_4 (List.mem_of_getElem? (i := 92) rfl) rfl
theorem wd_t_95 : Cond.fieldLinkNest RX11 130 RX1 "lines" "I" RX11 ∈ lw_nst := znin_1 (List.mem_of_getElem? (i := 95) rfl) rfl
theorem wd_t_820 : Cond.methodLink RX11 133 yX7_read ∈ lw_gd := zgin_4 (List.mem_of_getElem? (i := 100) rfl) rfl
theorem wd_t_821 : Cond.instanceMethod yX7_read ∈ lw_gd := zgin_4 (List.mem_of_getElem? (i := 101) rfl) rfl
theorem wd_t_822 : Cond.selects RX7 yX7_read yX7_read ∈ lw_gd := zgin_4 (List.mem_of_getElem? (i := 102) rfl) rfl
theorem wd_t_862 : Cond.methodLink RX11 134 yX7_lines ∈ lw_gd := zgin_4 (List.mem_of_getElem? (i := 142) rfl) rfl
theorem wd_t_870 : Cond.methodLink RX11 137 yX10_faultOf ∈ lw_gd := zgin_4 (List.mem_of_getElem? (i := 150) rfl) rfl
theorem wd_t_871 : Cond.instanceMethod yX10_faultOf ∈ lw_gd := zgin_4 (List.mem_of_getElem? (i := 151) rfl) rfl
theorem wd_t_872 : Cond.selects RX10 yX10_faultOf yX10_faultOf ∈ lw_gd := zgin_4 (List.mem_of_getElem? (i := 152) rfl) rfl
theorem wd_t_878 : Cond.methodLink RX11 141 yX9_lineOf ∈ lw_gd := zgin_4 (List.mem_of_getElem? (i := 158) rfl) rfl
theorem wd_t_879 : Cond.instanceMethod yX9_lineOf ∈ lw_gd := zgin_4 (List.mem_of_getElem? (i := 159) rfl) rfl
theorem wd_t_880 : Cond.selects RX9 yX9_lineOf yX9_lineOf ∈ lw_gd := zgin_4 (List.mem_of_getElem? (i := 160) rfl) rfl
theorem wd_t_886 : Cond.methodLink RX11 144 yX11_isGood ∈ lw_gd := zgin_4 (List.mem_of_getElem? (i := 166) rfl) rfl
theorem wd_t_887 : Cond.methodLink RX11 147 yX11_isYear ∈ lw_gd := zgin_4 (List.mem_of_getElem? (i := 167) rfl) rfl
theorem wd_t_510 : Cond.methodLink RX11 150 yX11_within ∈ lw_gd := zgin_3 (List.mem_of_getElem? (i := 30) rfl) rfl
theorem wd_t_890 : Cond.constantLong RX11 153 (-99999999999) ∈ lw_gd := zgin_4 (List.mem_of_getElem? (i := 170) rfl) rfl
theorem wd_t_891 : Cond.methodLink RX11 155 yX9_stockOf ∈ lw_gd := zgin_4 (List.mem_of_getElem? (i := 171) rfl) rfl
theorem wd_t_892 : Cond.instanceMethod yX9_stockOf ∈ lw_gd := zgin_4 (List.mem_of_getElem? (i := 172) rfl) rfl
theorem wd_t_893 : Cond.selects RX9 yX9_stockOf yX9_stockOf ∈ lw_gd := zgin_4 (List.mem_of_getElem? (i := 173) rfl) rfl
theorem wd_t_899 : Cond.methodLink RX11 159 yX0_setWeight ∈ lw_gd := zgin_4 (List.mem_of_getElem? (i := 179) rfl) rfl
theorem wd_t_900 : Cond.instanceMethod yX0_setWeight ∈ lw_gd := zgin_4 (List.mem_of_getElem? (i := 180) rfl) rfl
theorem wd_t_901 : Cond.selects RX0 yX0_setWeight yX0_setWeight ∈ lw_gd := zgin_4 (List.mem_of_getElem? (i := 181) rfl) rfl
theorem wd_t_911 : Cond.methodLink RX11 162 yX0_setMark ∈ lw_gd := zgin_4 (List.mem_of_getElem? (i := 191) rfl) rfl
theorem wd_t_912 : Cond.instanceMethod yX0_setMark ∈ lw_gd := zgin_4 (List.mem_of_getElem? (i := 192) rfl) rfl
theorem wd_t_913 : Cond.selects RX0 yX0_setMark yX0_setMark ∈ lw_gd := zgin_4 (List.mem_of_getElem? (i := 193) rfl) rfl
theorem wd_t_922 : Cond.methodLink RX11 165 yX0_setTold ∈ lw_gd := zgin_4 (List.mem_of_getElem? (i := 202) rfl) rfl
theorem wd_t_923 : Cond.instanceMethod yX0_setTold ∈ lw_gd := zgin_4 (List.mem_of_getElem? (i := 203) rfl) rfl
theorem wd_t_924 : Cond.selects RX0 yX0_setTold yX0_setTold ∈ lw_gd := zgin_4 (List.mem_of_getElem? (i := 204) rfl) rfl
theorem wd_t_930 : Cond.methodLink RX11 168 yX0_answer ∈ lw_gd := zgin_4 (List.mem_of_getElem? (i := 210) rfl) rfl
theorem wd_t_931 : Cond.instanceMethod yX0_answer ∈ lw_gd := zgin_4 (List.mem_of_getElem? (i := 211) rfl) rfl
theorem wd_t_932 : Cond.selects RX0 yX0_answer yX0_answer ∈ lw_gd := zgin_4 (List.mem_of_getElem? (i := 212) rfl) rfl
theorem wd_t_955 : Cond.methodLink RX11 172 yX8_add ∈ lw_gd := zgin_4 (List.mem_of_getElem? (i := 235) rfl) rfl
theorem wd_t_956 : Cond.instanceMethod yX8_add ∈ lw_gd := zgin_4 (List.mem_of_getElem? (i := 236) rfl) rfl
theorem wd_t_957 : Cond.selects RX8 yX8_add yX8_add ∈ lw_gd := zgin_4 (List.mem_of_getElem? (i := 237) rfl) rfl
theorem wd_t_963 : Cond.methodLink RX11 175 yX8_lay ∈ lw_gd := zgin_5 (List.mem_of_getElem? (i := 3) rfl) rfl
theorem wd_t_964 : Cond.instanceMethod yX8_lay ∈ lw_gd := zgin_5 (List.mem_of_getElem? (i := 4) rfl) rfl
theorem wd_t_965 : Cond.selects RX8 yX8_lay yX8_lay ∈ lw_gd := zgin_5 (List.mem_of_getElem? (i := 5) rfl) rfl
theorem wd_t_976 : Cond.methodLink RX11 178 yX8_answer ∈ lw_gd := zgin_5 (List.mem_of_getElem? (i := 16) rfl) rfl
theorem wd_t_977 : Cond.instanceMethod yX8_answer ∈ lw_gd := zgin_5 (List.mem_of_getElem? (i := 17) rfl) rfl
theorem wd_t_978 : Cond.selects RX8 yX8_answer yX8_answer ∈ lw_gd := zgin_5 (List.mem_of_getElem? (i := 18) rfl) rfl
theorem wd_t_1009 : Cond.methodLink RX11 180 yX8_compare ∈ lw_gd := zgin_5 (List.mem_of_getElem? (i := 49) rfl) rfl
theorem wd_t_1010 : Cond.instanceMethod yX8_compare ∈ lw_gd := zgin_5 (List.mem_of_getElem? (i := 50) rfl) rfl
theorem wd_t_1011 : Cond.selects RX8 yX8_compare yX8_compare ∈ lw_gd := zgin_5 (List.mem_of_getElem? (i := 51) rfl) rfl
theorem wd_t_1021 : Cond.methodLink RX11 183 yX3_add ∈ lw_gd := zgin_5 (List.mem_of_getElem? (i := 61) rfl) rfl
theorem wd_t_1022 : Cond.instanceMethod yX3_add ∈ lw_gd := zgin_5 (List.mem_of_getElem? (i := 62) rfl) rfl
theorem wd_t_1023 : Cond.selects RX3 yX3_add yX3_add ∈ lw_gd := zgin_5 (List.mem_of_getElem? (i := 63) rfl) rfl
theorem wd_t_1030 : Cond.methodLink RX11 185 yX3_setEdge ∈ lw_gd := zgin_5 (List.mem_of_getElem? (i := 70) rfl) rfl
theorem wd_t_1031 : Cond.instanceMethod yX3_setEdge ∈ lw_gd := zgin_5 (List.mem_of_getElem? (i := 71) rfl) rfl
theorem wd_t_1032 : Cond.selects RX3 yX3_setEdge yX3_setEdge ∈ lw_gd := zgin_5 (List.mem_of_getElem? (i := 72) rfl) rfl
theorem wd_t_1038 : Cond.methodLink RX11 189 yX3_answer ∈ lw_gd := zgin_5 (List.mem_of_getElem? (i := 78) rfl) rfl
theorem wd_t_1039 : Cond.instanceMethod yX3_answer ∈ lw_gd := zgin_5 (List.mem_of_getElem? (i := 79) rfl) rfl
theorem wd_t_1040 : Cond.selects RX3 yX3_answer yX3_answer ∈ lw_gd := zgin_5 (List.mem_of_getElem? (i := 80) rfl) rfl
theorem wd_t_1083 : Cond.methodLink RX11 190 yX6_add ∈ lw_gd := zgin_5 (List.mem_of_getElem? (i := 123) rfl) rfl
theorem wd_t_1084 : Cond.instanceMethod yX6_add ∈ lw_gd := zgin_5 (List.mem_of_getElem? (i := 124) rfl) rfl
theorem wd_t_1085 : Cond.selects RX6 yX6_add yX6_add ∈ lw_gd := zgin_5 (List.mem_of_getElem? (i := 125) rfl) rfl
theorem wd_t_1096 : Cond.methodLink RX11 192 yX6_setDays ∈ lw_gd := zgin_5 (List.mem_of_getElem? (i := 136) rfl) rfl
theorem wd_t_1097 : Cond.instanceMethod yX6_setDays ∈ lw_gd := zgin_5 (List.mem_of_getElem? (i := 137) rfl) rfl
theorem wd_t_1098 : Cond.selects RX6 yX6_setDays yX6_setDays ∈ lw_gd := zgin_5 (List.mem_of_getElem? (i := 138) rfl) rfl
theorem wd_t_1104 : Cond.methodLink RX11 195 yX6_putInStore ∈ lw_gd := zgin_5 (List.mem_of_getElem? (i := 144) rfl) rfl
theorem wd_t_1105 : Cond.instanceMethod yX6_putInStore ∈ lw_gd := zgin_5 (List.mem_of_getElem? (i := 145) rfl) rfl
theorem wd_t_1106 : Cond.selects RX6 yX6_putInStore yX6_putInStore ∈ lw_gd := zgin_5 (List.mem_of_getElem? (i := 146) rfl) rfl
theorem wd_t_1114 : Cond.methodLink RX11 198 yX6_runMonth ∈ lw_gd := zgin_5 (List.mem_of_getElem? (i := 154) rfl) rfl
theorem wd_t_1115 : Cond.instanceMethod yX6_runMonth ∈ lw_gd := zgin_5 (List.mem_of_getElem? (i := 155) rfl) rfl
theorem wd_t_1116 : Cond.selects RX6 yX6_runMonth yX6_runMonth ∈ lw_gd := zgin_5 (List.mem_of_getElem? (i := 156) rfl) rfl
theorem wd_t_1145 : Cond.methodLink RX11 201 yX6_rationOf ∈ lw_gd := zgin_5 (List.mem_of_getElem? (i := 185) rfl) rfl
theorem wd_t_1146 : Cond.instanceMethod yX6_rationOf ∈ lw_gd := zgin_5 (List.mem_of_getElem? (i := 186) rfl) rfl
theorem wd_t_1147 : Cond.selects RX6 yX6_rationOf yX6_rationOf ∈ lw_gd := zgin_5 (List.mem_of_getElem? (i := 187) rfl) rfl
theorem wd_t_1153 : Cond.methodLink RX11 204 yX2_setBook ∈ lw_gd := zgin_5 (List.mem_of_getElem? (i := 193) rfl) rfl
theorem wd_t_1154 : Cond.instanceMethod yX2_setBook ∈ lw_gd := zgin_5 (List.mem_of_getElem? (i := 194) rfl) rfl
theorem wd_t_1155 : Cond.selects RX2 yX2_setBook yX2_setBook ∈ lw_gd := zgin_5 (List.mem_of_getElem? (i := 195) rfl) rfl
theorem wd_t_1162 : Cond.methodLink RX11 207 yX2_add ∈ lw_gd := zgin_5 (List.mem_of_getElem? (i := 202) rfl) rfl
theorem wd_t_1163 : Cond.instanceMethod yX2_add ∈ lw_gd := zgin_5 (List.mem_of_getElem? (i := 203) rfl) rfl
theorem wd_t_1164 : Cond.selects RX2 yX2_add yX2_add ∈ lw_gd := zgin_5 (List.mem_of_getElem? (i := 204) rfl) rfl
theorem wd_t_1173 : Cond.methodLink RX11 210 yX2_addFound ∈ lw_gd := zgin_5 (List.mem_of_getElem? (i := 213) rfl) rfl
theorem wd_t_1174 : Cond.instanceMethod yX2_addFound ∈ lw_gd := zgin_5 (List.mem_of_getElem? (i := 214) rfl) rfl
theorem wd_t_1175 : Cond.selects RX2 yX2_addFound yX2_addFound ∈ lw_gd := zgin_5 (List.mem_of_getElem? (i := 215) rfl) rfl
theorem wd_t_1181 : Cond.methodLink RX11 214 yX2_answer ∈ lw_gd := zgin_5 (List.mem_of_getElem? (i := 221) rfl) rfl
theorem wd_t_1182 : Cond.instanceMethod yX2_answer ∈ lw_gd := zgin_5 (List.mem_of_getElem? (i := 222) rfl) rfl
theorem wd_t_1183 : Cond.selects RX2 yX2_answer yX2_answer ∈ lw_gd := zgin_5 (List.mem_of_getElem? (i := 223) rfl) rfl
theorem wd_t_1214 : Cond.methodLink RX11 216 yX4_setInterest ∈ lw_gd := zgin_6 (List.mem_of_getElem? (i := 14) rfl) rfl
theorem wd_t_1215 : Cond.instanceMethod yX4_setInterest ∈ lw_gd := zgin_6 (List.mem_of_getElem? (i := 15) rfl) rfl
theorem wd_t_1216 : Cond.selects RX4 yX4_setInterest yX4_setInterest ∈ lw_gd := zgin_6 (List.mem_of_getElem? (i := 16) rfl) rfl
theorem wd_t_1224 : Cond.methodLink RX11 219 yX6_has ∈ lw_gd := zgin_6 (List.mem_of_getElem? (i := 24) rfl) rfl
theorem wd_t_1225 : Cond.methodLink RX11 220 yX4_add ∈ lw_gd := zgin_6 (List.mem_of_getElem? (i := 25) rfl) rfl
theorem wd_t_1226 : Cond.instanceMethod yX4_add ∈ lw_gd := zgin_6 (List.mem_of_getElem? (i := 26) rfl) rfl
theorem wd_t_1227 : Cond.selects RX4 yX4_add yX4_add ∈ lw_gd := zgin_6 (List.mem_of_getElem? (i := 27) rfl) rfl
theorem wd_t_1234 : Cond.methodLink RX11 221 yX4_addPayment ∈ lw_gd := zgin_6 (List.mem_of_getElem? (i := 34) rfl) rfl
theorem wd_t_1235 : Cond.instanceMethod yX4_addPayment ∈ lw_gd := zgin_6 (List.mem_of_getElem? (i := 35) rfl) rfl
theorem wd_t_1236 : Cond.selects RX4 yX4_addPayment yX4_addPayment ∈ lw_gd := zgin_6 (List.mem_of_getElem? (i := 36) rfl) rfl
theorem wd_t_1242 : Cond.methodLink RX11 225 yX4_addEdict ∈ lw_gd := zgin_6 (List.mem_of_getElem? (i := 42) rfl) rfl
theorem wd_t_1243 : Cond.instanceMethod yX4_addEdict ∈ lw_gd := zgin_6 (List.mem_of_getElem? (i := 43) rfl) rfl
theorem wd_t_1244 : Cond.selects RX4 yX4_addEdict yX4_addEdict ∈ lw_gd := zgin_6 (List.mem_of_getElem? (i := 44) rfl) rfl
theorem wd_t_1251 : Cond.methodLink RX11 228 yX4_owedAt ∈ lw_gd := zgin_6 (List.mem_of_getElem? (i := 51) rfl) rfl
theorem wd_t_1252 : Cond.instanceMethod yX4_owedAt ∈ lw_gd := zgin_6 (List.mem_of_getElem? (i := 52) rfl) rfl
theorem wd_t_1253 : Cond.selects RX4 yX4_owedAt yX4_owedAt ∈ lw_gd := zgin_6 (List.mem_of_getElem? (i := 53) rfl) rfl
theorem wd_t_1270 : Cond.methodLink RX11 232 yX11_isSide ∈ lw_gd := zgin_6 (List.mem_of_getElem? (i := 70) rfl) rfl
theorem wd_t_1271 : Cond.static yX11_isSide ∈ lw_gd := zgin_6 (List.mem_of_getElem? (i := 71) rfl) rfl
theorem wd_t_1273 : Cond.methodLink RX11 235 yX11_threeSided ∈ lw_gd := zgin_6 (List.mem_of_getElem? (i := 73) rfl) rfl
theorem wd_t_1274 : Cond.static yX11_threeSided ∈ lw_gd := zgin_6 (List.mem_of_getElem? (i := 74) rfl) rfl
theorem wd_t_1284 : Cond.methodLink RX11 239 yX11_quarter ∈ lw_gd := zgin_6 (List.mem_of_getElem? (i := 84) rfl) rfl
theorem wd_t_1285 : Cond.static yX11_quarter ∈ lw_gd := zgin_6 (List.mem_of_getElem? (i := 85) rfl) rfl
theorem wd_t_1276 : Cond.methodLink RX11 243 yX11_rootOfProduct ∈ lw_gd := zgin_6 (List.mem_of_getElem? (i := 76) rfl) rfl
theorem wd_t_1277 : Cond.static yX11_rootOfProduct ∈ lw_gd := zgin_6 (List.mem_of_getElem? (i := 77) rfl) rfl
theorem wd_t_1292 : Cond.methodLink RX11 247 yX6_inStore ∈ lw_gd := zgin_6 (List.mem_of_getElem? (i := 92) rfl) rfl
theorem wd_t_1293 : Cond.instanceMethod yX6_inStore ∈ lw_gd := zgin_6 (List.mem_of_getElem? (i := 93) rfl) rfl
theorem wd_t_1294 : Cond.selects RX6 yX6_inStore yX6_inStore ∈ lw_gd := zgin_6 (List.mem_of_getElem? (i := 94) rfl) rfl
theorem wd_t_1296 : Cond.methodLink RX11 250 yX6_size ∈ lw_gd := zgin_6 (List.mem_of_getElem? (i := 96) rfl) rfl
theorem wd_t_1297 : Cond.instanceMethod yX6_size ∈ lw_gd := zgin_6 (List.mem_of_getElem? (i := 97) rfl) rfl
theorem wd_t_1298 : Cond.selects RX6 yX6_size yX6_size ∈ lw_gd := zgin_6 (List.mem_of_getElem? (i := 98) rfl) rfl
theorem wd_t_1300 : Cond.methodLink RX11 253 yX8_size ∈ lw_gd := zgin_6 (List.mem_of_getElem? (i := 100) rfl) rfl
theorem wd_t_1301 : Cond.instanceMethod yX8_size ∈ lw_gd := zgin_6 (List.mem_of_getElem? (i := 101) rfl) rfl
theorem wd_t_1302 : Cond.selects RX8 yX8_size yX8_size ∈ lw_gd := zgin_6 (List.mem_of_getElem? (i := 102) rfl) rfl
theorem wd_t_1304 : Cond.methodLink RX11 254 yX3_size ∈ lw_gd := zgin_6 (List.mem_of_getElem? (i := 104) rfl) rfl
theorem wd_t_1305 : Cond.instanceMethod yX3_size ∈ lw_gd := zgin_6 (List.mem_of_getElem? (i := 105) rfl) rfl
theorem wd_t_1306 : Cond.selects RX3 yX3_size yX3_size ∈ lw_gd := zgin_6 (List.mem_of_getElem? (i := 106) rfl) rfl
theorem wd_t_1308 : Cond.methodLink RX11 255 yX2_size ∈ lw_gd := zgin_6 (List.mem_of_getElem? (i := 108) rfl) rfl
theorem wd_t_1309 : Cond.instanceMethod yX2_size ∈ lw_gd := zgin_6 (List.mem_of_getElem? (i := 109) rfl) rfl
theorem wd_t_1310 : Cond.selects RX2 yX2_size yX2_size ∈ lw_gd := zgin_6 (List.mem_of_getElem? (i := 110) rfl) rfl
theorem wd_t_1312 : Cond.methodLink RX11 256 yX4_size ∈ lw_gd := zgin_6 (List.mem_of_getElem? (i := 112) rfl) rfl
theorem wd_t_1313 : Cond.instanceMethod yX4_size ∈ lw_gd := zgin_6 (List.mem_of_getElem? (i := 113) rfl) rfl
theorem wd_t_1314 : Cond.selects RX4 yX4_size yX4_size ∈ lw_gd := zgin_6 (List.mem_of_getElem? (i := 114) rfl) rfl
theorem wd_t_1316 : Cond.methodLink RX11 257 yX9_ofAYear ∈ lw_gd := zgin_6 (List.mem_of_getElem? (i := 116) rfl) rfl
theorem wd_t_1317 : Cond.instanceMethod yX9_ofAYear ∈ lw_gd := zgin_6 (List.mem_of_getElem? (i := 117) rfl) rfl
theorem wd_t_1318 : Cond.selects RX9 yX9_ofAYear yX9_ofAYear ∈ lw_gd := zgin_6 (List.mem_of_getElem? (i := 118) rfl) rfl
theorem wd_t_1320 : Cond.methodLink RX11 260 yX6_allShort ∈ lw_gd := zgin_6 (List.mem_of_getElem? (i := 120) rfl) rfl
theorem wd_t_1321 : Cond.instanceMethod yX6_allShort ∈ lw_gd := zgin_6 (List.mem_of_getElem? (i := 121) rfl) rfl
theorem wd_t_1322 : Cond.selects RX6 yX6_allShort yX6_allShort ∈ lw_gd := zgin_6 (List.mem_of_getElem? (i := 122) rfl) rfl
theorem wd_t_1324 : Cond.methodLink RX11 264 yX0_openedOnes ∈ lw_gd := zgin_6 (List.mem_of_getElem? (i := 124) rfl) rfl
theorem wd_t_1325 : Cond.instanceMethod yX0_openedOnes ∈ lw_gd := zgin_6 (List.mem_of_getElem? (i := 125) rfl) rfl
theorem wd_t_1326 : Cond.selects RX0 yX0_openedOnes yX0_openedOnes ∈ lw_gd := zgin_6 (List.mem_of_getElem? (i := 126) rfl) rfl
theorem wd_t_1279 : Cond.constantLong RX11 267 (-1) ∈ lw_gd := zgin_6 (List.mem_of_getElem? (i := 79) rfl) rfl
theorem wd_t_1287 : Cond.constantLong RX11 269 4 ∈ lw_gd := zgin_6 (List.mem_of_getElem? (i := 87) rfl) rfl
theorem wd_t_1280 : Cond.methodLink RX11 271 yX11_root ∈ lw_gd := zgin_6 (List.mem_of_getElem? (i := 80) rfl) rfl
theorem wd_t_1281 : Cond.static yX11_root ∈ lw_gd := zgin_6 (List.mem_of_getElem? (i := 81) rfl) rfl
theorem wd_t_1283 : Cond.constantLong RX11 275 1073741824 ∈ lw_gd := zgin_6 (List.mem_of_getElem? (i := 83) rfl) rfl
theorem wd_t_1333 : Cond.methodLink RX12 1 ⟨"java/lang/Object", "<init>", "()V"⟩ ∈ lw_gd := zgin_6 (List.mem_of_getElem? (i := 133) rfl) rfl
theorem wd_t_1336 : Cond.fieldLink RX12 7 RX12 "signs" "[I" ∈ lw_gd := zgin_6 (List.mem_of_getElem? (i := 136) rfl) rfl
theorem wd_t_1337 : Cond.fieldLink RX12 13 RX12 "stepOf" "[I" ∈ lw_gd := zgin_6 (List.mem_of_getElem? (i := 137) rfl) rfl
theorem wd_t_1338 : Cond.fieldLink RX12 16 RX12 "systemOf" "[I" ∈ lw_gd := zgin_6 (List.mem_of_getElem? (i := 138) rfl) rfl
theorem wd_t_1339 : Cond.fieldLink RX12 19 RX12 "tape" "[I" ∈ lw_gd := zgin_6 (List.mem_of_getElem? (i := 139) rfl) rfl
theorem wd_t_1345 : Cond.fieldLink RX12 22 RX12 "words" "[I" ∈ lw_gd := zgin_6 (List.mem_of_getElem? (i := 145) rfl) rfl
theorem wd_t_1349 : Cond.fieldLink RX12 25 RX12 "faultPlace" "I" ∈ lw_gd := zgin_6 (List.mem_of_getElem? (i := 149) rfl) rfl
theorem wd_t_1350 : Cond.fieldLink RX12 29 RX12 "lineMany" "[I" ∈ lw_gd := zgin_6 (List.mem_of_getElem? (i := 150) rfl) rfl
theorem wd_t_1351 : Cond.fieldLink RX12 32 RX12 "yearOf" "[I" ∈ lw_gd := zgin_6 (List.mem_of_getElem? (i := 151) rfl) rfl
theorem wd_t_1352 : Cond.fieldLink RX12 35 RX12 "sortOf" "[I" ∈ lw_gd := zgin_6 (List.mem_of_getElem? (i := 152) rfl) rfl
theorem wd_t_1353 : Cond.fieldLink RX12 38 RX12 "goodOf" "[I" ∈ lw_gd := zgin_6 (List.mem_of_getElem? (i := 153) rfl) rfl
theorem wd_t_1653 : Cond.arrayClass .long ∈ lw_gd := zgin_7 (List.mem_of_getElem? (i := 213) rfl) rfl
theorem wd_t_1354 : Cond.fieldLink RX12 41 RX12 "worth" "[J" ∈ lw_gd := zgin_6 (List.mem_of_getElem? (i := 154) rfl) rfl
theorem wd_t_1355 : Cond.fieldLink RX12 45 RX12 "isLost" "[Z" ∈ lw_gd := zgin_6 (List.mem_of_getElem? (i := 155) rfl) rfl
theorem wd_t_1356 : Cond.fieldLink RX12 49 RX12 "lostMany" "[I" ∈ lw_gd := zgin_6 (List.mem_of_getElem? (i := 156) rfl) rfl
theorem wd_t_1357 : Cond.fieldLink RX12 52 RX12 "lostUnit" "[J" ∈ lw_gd := zgin_6 (List.mem_of_getElem? (i := 157) rfl) rfl
theorem wd_t_1358 : Cond.fieldLink RX12 55 RX12 "lostMost" "[I" ∈ lw_gd := zgin_6 (List.mem_of_getElem? (i := 158) rfl) rfl
theorem wd_t_1359 : Cond.fieldLink RX12 58 RX12 "low" "[J" ∈ lw_gd := zgin_6 (List.mem_of_getElem? (i := 159) rfl) rfl
theorem wd_t_1360 : Cond.fieldLink RX12 61 RX12 "high" "[J" ∈ lw_gd := zgin_6 (List.mem_of_getElem? (i := 160) rfl) rfl
theorem wd_t_1361 : Cond.fieldLink RX12 64 RX12 "fills" "[I" ∈ lw_gd := zgin_6 (List.mem_of_getElem? (i := 161) rfl) rfl
theorem wd_t_1362 : Cond.fieldLink RX12 67 RX12 "countsIn" "[I" ∈ lw_gd := zgin_6 (List.mem_of_getElem? (i := 162) rfl) rfl
theorem wd_t_1363 : Cond.fieldLink RX12 70 RX12 "numbersIn" "[I" ∈ lw_gd := zgin_6 (List.mem_of_getElem? (i := 163) rfl) rfl
theorem wd_t_1364 : Cond.fieldLink RX12 73 RX12 "blockLine" "[I" ∈ lw_gd := zgin_6 (List.mem_of_getElem? (i := 164) rfl) rfl
theorem wd_t_1366 : Cond.fieldLink RX12 76 RX12 "unknownLine" "[I" ∈ lw_gd := zgin_6 (List.mem_of_getElem? (i := 166) rfl) rfl
theorem wd_t_1367 : Cond.fieldLink RX12 79 RX12 "unknownUnit" "[J" ∈ lw_gd := zgin_6 (List.mem_of_getElem? (i := 167) rfl) rfl
theorem wd_t_1368 : Cond.fieldLink RX12 82 RX12 "unknownMost" "[I" ∈ lw_gd := zgin_6 (List.mem_of_getElem? (i := 168) rfl) rfl
theorem wd_t_1371 : Cond.fieldLink RX12 85 RX12 "filled" "[J" ∈ lw_gd := zgin_6 (List.mem_of_getElem? (i := 171) rfl) rfl
theorem wd_t_1372 : Cond.fieldLink RX12 88 RX12 "weightOf" "[I" ∈ lw_gd := zgin_6 (List.mem_of_getElem? (i := 172) rfl) rfl
theorem wd_t_1373 : Cond.fieldLink RX12 91 RX12 "rattled" "[I" ∈ lw_gd := zgin_6 (List.mem_of_getElem? (i := 173) rfl) rfl
theorem wd_t_1374 : Cond.fieldLink RX12 94 RX12 "weighed" "[I" ∈ lw_gd := zgin_6 (List.mem_of_getElem? (i := 174) rfl) rfl
theorem wd_t_1375 : Cond.fieldLink RX12 97 RX12 "isOpened" "[Z" ∈ lw_gd := zgin_6 (List.mem_of_getElem? (i := 175) rfl) rfl
theorem wd_t_1376 : Cond.fieldLink RX12 100 RX12 "inside" "[I" ∈ lw_gd := zgin_6 (List.mem_of_getElem? (i := 176) rfl) rfl
theorem wd_t_1377 : Cond.fieldLink RX12 103 RX12 "marks" "[I" ∈ lw_gd := zgin_6 (List.mem_of_getElem? (i := 177) rfl) rfl
theorem wd_t_1379 : Cond.fieldLink RX12 106 RX12 "ballAsked" "I" ∈ lw_gd := zgin_6 (List.mem_of_getElem? (i := 179) rfl) rfl
theorem wd_t_1380 : Cond.fieldLink RX12 109 RX12 "ballVersion" "I" ∈ lw_gd := zgin_6 (List.mem_of_getElem? (i := 180) rfl) rfl
theorem wd_t_1383 : Cond.fieldLink RX12 112 RX12 "ballLow" "[I" ∈ lw_gd := zgin_6 (List.mem_of_getElem? (i := 183) rfl) rfl
theorem wd_t_1384 : Cond.fieldLink RX12 115 RX12 "ballHigh" "[I" ∈ lw_gd := zgin_6 (List.mem_of_getElem? (i := 184) rfl) rfl
theorem wd_t_1385 : Cond.fieldLink RX12 118 RX12 "counts" "[I" ∈ lw_gd := zgin_6 (List.mem_of_getElem? (i := 185) rfl) rfl
theorem wd_t_1387 : Cond.fieldLink RX12 121 RX12 "overOf" "[I" ∈ lw_gd := zgin_6 (List.mem_of_getElem? (i := 187) rfl) rfl
theorem wd_t_1388 : Cond.fieldLink RX12 124 RX12 "follow" "[I" ∈ lw_gd := zgin_6 (List.mem_of_getElem? (i := 188) rfl) rfl
theorem wd_t_1389 : Cond.fieldLink RX12 127 RX12 "ring" "[I" ∈ lw_gd := zgin_6 (List.mem_of_getElem? (i := 189) rfl) rfl
theorem wd_t_1391 : Cond.fieldLink RX12 130 RX12 "handOf" "[I" ∈ lw_gd := zgin_6 (List.mem_of_getElem? (i := 191) rfl) rfl
theorem wd_t_1392 : Cond.fieldLink RX12 133 RX12 "lefts" "[I" ∈ lw_gd := zgin_6 (List.mem_of_getElem? (i := 192) rfl) rfl
theorem wd_t_1393 : Cond.fieldLink RX12 136 RX12 "rights" "[I" ∈ lw_gd := zgin_6 (List.mem_of_getElem? (i := 193) rfl) rfl
theorem wd_t_1394 : Cond.fieldLink RX12 139 RX12 "leastGaps" "[I" ∈ lw_gd := zgin_6 (List.mem_of_getElem? (i := 194) rfl) rfl
theorem wd_t_1395 : Cond.fieldLink RX12 142 RX12 "waysFrom" "[I" ∈ lw_gd := zgin_6 (List.mem_of_getElem? (i := 195) rfl) rfl
theorem wd_t_1397 : Cond.fieldLink RX12 145 RX12 "sortOfPerson" "[I" ∈ lw_gd := zgin_6 (List.mem_of_getElem? (i := 197) rfl) rfl
theorem wd_t_1398 : Cond.fieldLink RX12 148 RX12 "ageOf" "[I" ∈ lw_gd := zgin_6 (List.mem_of_getElem? (i := 198) rfl) rfl
theorem wd_t_1399 : Cond.fieldLink RX12 151 RX12 "motherOf" "[I" ∈ lw_gd := zgin_6 (List.mem_of_getElem? (i := 199) rfl) rfl
theorem wd_t_1400 : Cond.fieldLink RX12 154 RX12 "daysOf" "[I" ∈ lw_gd := zgin_6 (List.mem_of_getElem? (i := 200) rfl) rfl
theorem wd_t_1402 : Cond.fieldLink RX12 157 RX12 "ruleMany" "[I" ∈ lw_gd := zgin_6 (List.mem_of_getElem? (i := 202) rfl) rfl
theorem wd_t_1403 : Cond.fieldLink RX12 160 RX12 "ruleGood" "[I" ∈ lw_gd := zgin_6 (List.mem_of_getElem? (i := 203) rfl) rfl
theorem wd_t_1404 : Cond.fieldLink RX12 163 RX12 "ruleFrom" "[I" ∈ lw_gd := zgin_6 (List.mem_of_getElem? (i := 204) rfl) rfl
theorem wd_t_1405 : Cond.fieldLink RX12 166 RX12 "ruleSum" "[I" ∈ lw_gd := zgin_6 (List.mem_of_getElem? (i := 205) rfl) rfl
theorem wd_t_1406 : Cond.fieldLink RX12 169 RX12 "ruleTo" "[I" ∈ lw_gd := zgin_6 (List.mem_of_getElem? (i := 206) rfl) rfl
theorem wd_t_1407 : Cond.fieldLink RX12 172 RX12 "op" "[I" ∈ lw_gd := zgin_6 (List.mem_of_getElem? (i := 207) rfl) rfl
theorem wd_t_1408 : Cond.fieldLink RX12 175 RX12 "arg" "[I" ∈ lw_gd := zgin_6 (List.mem_of_getElem? (i := 208) rfl) rfl
theorem wd_t_1411 : Cond.fieldLink RX12 178 RX12 "pending" "[I" ∈ lw_gd := zgin_6 (List.mem_of_getElem? (i := 211) rfl) rfl
theorem wd_t_1413 : Cond.fieldLink RX12 181 RX12 "asked" "[I" ∈ lw_gd := zgin_6 (List.mem_of_getElem? (i := 213) rfl) rfl
theorem wd_t_1414 : Cond.fieldLink RX12 184 RX12 "stack" "[I" ∈ lw_gd := zgin_6 (List.mem_of_getElem? (i := 214) rfl) rfl
theorem wd_t_1415 : Cond.fieldLink RX12 187 RX12 "stored" "[I" ∈ lw_gd := zgin_6 (List.mem_of_getElem? (i := 215) rfl) rfl
theorem wd_t_1417 : Cond.fieldLink RX12 190 RX12 "rate" "I" ∈ lw_gd := zgin_6 (List.mem_of_getElem? (i := 217) rfl) rfl
theorem wd_t_1418 : Cond.fieldLink RX12 193 RX12 "loss" "I" ∈ lw_gd := zgin_6 (List.mem_of_getElem? (i := 218) rfl) rfl
theorem wd_t_1420 : Cond.fieldLink RX12 196 RX12 "flockYear" "[I" ∈ lw_gd := zgin_6 (List.mem_of_getElem? (i := 220) rfl) rfl
theorem wd_t_1421 : Cond.fieldLink RX12 199 RX12 "came" "[I" ∈ lw_gd := zgin_6 (List.mem_of_getElem? (i := 221) rfl) rfl
theorem wd_t_1423 : Cond.fieldLink RX12 202 RX12 "foundOf" "[I" ∈ lw_gd := zgin_6 (List.mem_of_getElem? (i := 223) rfl) rfl
theorem wd_t_1424 : Cond.fieldLink RX12 205 RX12 "foundYear" "[I" ∈ lw_gd := zgin_6 (List.mem_of_getElem? (i := 224) rfl) rfl
theorem wd_t_1425 : Cond.fieldLink RX12 208 RX12 "foundTold" "[I" ∈ lw_gd := zgin_6 (List.mem_of_getElem? (i := 225) rfl) rfl
theorem wd_t_1426 : Cond.fieldLink RX12 211 RX12 "foundBeasts" "[I" ∈ lw_gd := zgin_6 (List.mem_of_getElem? (i := 226) rfl) rfl
theorem wd_t_1427 : Cond.fieldLink RX12 214 RX12 "beasts" "[I" ∈ lw_gd := zgin_6 (List.mem_of_getElem? (i := 227) rfl) rfl
theorem wd_t_1428 : Cond.fieldLink RX12 217 RX12 "byBook" "[I" ∈ lw_gd := zgin_6 (List.mem_of_getElem? (i := 228) rfl) rfl
theorem wd_t_1429 : Cond.fieldLink RX12 220 RX12 "interestOf" "[I" ∈ lw_gd := zgin_6 (List.mem_of_getElem? (i := 229) rfl) rfl
theorem wd_t_1431 : Cond.fieldLink RX12 223 RX12 "loanYear" "[I" ∈ lw_gd := zgin_6 (List.mem_of_getElem? (i := 231) rfl) rfl
theorem wd_t_1432 : Cond.fieldLink RX12 226 RX12 "loanGood" "[I" ∈ lw_gd := zgin_6 (List.mem_of_getElem? (i := 232) rfl) rfl
theorem wd_t_1433 : Cond.fieldLink RX12 229 RX12 "loanSum" "[I" ∈ lw_gd := zgin_6 (List.mem_of_getElem? (i := 233) rfl) rfl
theorem wd_t_1435 : Cond.fieldLink RX12 232 RX12 "payOf" "[I" ∈ lw_gd := zgin_6 (List.mem_of_getElem? (i := 235) rfl) rfl
theorem wd_t_1436 : Cond.fieldLink RX12 235 RX12 "payYear" "[I" ∈ lw_gd := zgin_6 (List.mem_of_getElem? (i := 236) rfl) rfl
theorem wd_t_1437 : Cond.fieldLink RX12 238 RX12 "payTold" "[I" ∈ lw_gd := zgin_6 (List.mem_of_getElem? (i := 237) rfl) rfl
theorem wd_t_1438 : Cond.fieldLink RX12 241 RX12 "paySum" "[I" ∈ lw_gd := zgin_6 (List.mem_of_getElem? (i := 238) rfl) rfl
theorem wd_t_1439 : Cond.fieldLink RX12 244 RX12 "isEdict" "[Z" ∈ lw_gd := zgin_6 (List.mem_of_getElem? (i := 239) rfl) rfl
theorem wd_t_1662 : Cond.methodLink RX12 250 yX12_isIn ∈ lw_gd := zgin_7 (List.mem_of_getElem? (i := 222) rfl) rfl
theorem wd_t_1664 : Cond.instanceMethod yX12_isIn ∈ lw_gd := zgin_7 (List.mem_of_getElem? (i := 224) rfl) rfl
theorem wd_p_55 : Cond.selects RX12 yX12_isIn yX12_isIn ∈ lw_gd := List.mem_filter.mpr ⟨List.mem_append_left _ (List.mem_of_getElem? (i := 55) rfl), rfl⟩
theorem wd_t_1334 : Cond.fieldLink RX12 247 RX12 "told" "I" ∈ lw_gd := zgin_6 (List.mem_of_getElem? (i := 134) rfl) rfl
theorem wd_t_1658 : Cond.methodLink RX12 254 yX12_isSystem ∈ lw_gd := zgin_7 (List.mem_of_getElem? (i := 218) rfl) rfl
theorem wd_t_1660 : Cond.instanceMethod yX12_isSystem ∈ lw_gd := zgin_7 (List.mem_of_getElem? (i := 220) rfl) rfl
theorem wd_p_54 : Cond.selects RX12 yX12_isSystem yX12_isSystem ∈ lw_gd := List.mem_filter.mpr ⟨List.mem_append_left _ (List.mem_of_getElem? (i := 54) rfl), rfl⟩
theorem wd_t_1666 : Cond.methodLink RX12 258 yX12_worthOf ∈ lw_gd := zgin_7 (List.mem_of_getElem? (i := 226) rfl) rfl
theorem wd_t_1668 : Cond.instanceMethod yX12_worthOf ∈ lw_gd := zgin_7 (List.mem_of_getElem? (i := 228) rfl) rfl
theorem wd_p_56 : Cond.selects RX12 yX12_worthOf yX12_worthOf ∈ lw_gd := List.mem_filter.mpr ⟨List.mem_append_left _ (List.mem_of_getElem? (i := 56) rfl), rfl⟩
theorem wd_t_1670 : Cond.constantLong RX12 262 99999 ∈ lw_gd := zgin_7 (List.mem_of_getElem? (i := 230) rfl) rfl
theorem wd_t_1675 : Cond.methodLink RX12 264 yX12_isGood ∈ lw_gd := zgin_7 (List.mem_of_getElem? (i := 235) rfl) rfl
theorem wd_t_1677 : Cond.instanceMethod yX12_isGood ∈ lw_gd := zgin_7 (List.mem_of_getElem? (i := 237) rfl) rfl
theorem wd_p_57 : Cond.selects RX12 yX12_isGood yX12_isGood ∈ lw_gd := List.mem_filter.mpr ⟨List.mem_append_left _ (List.mem_of_getElem? (i := 57) rfl), rfl⟩
theorem wd_t_1683 : Cond.constant RX12 267 9999999 ∈ lw_gd := zgin_8 (List.mem_of_getElem? (i := 3) rfl) rfl
theorem wd_t_1335 : Cond.fieldLink RX12 268 RX12 "now" "I" ∈ lw_gd := zgin_6 (List.mem_of_getElem? (i := 135) rfl) rfl
theorem wd_t_1340 : Cond.fieldLink RX12 271 RX12 "taped" "I" ∈ lw_gd := zgin_6 (List.mem_of_getElem? (i := 140) rfl) rfl
theorem wd_t_1692 : Cond.methodLink RX12 274 yX12_puts ∈ lw_gd := zgin_8 (List.mem_of_getElem? (i := 12) rfl) rfl
theorem wd_t_1694 : Cond.instanceMethod yX12_puts ∈ lw_gd := zgin_8 (List.mem_of_getElem? (i := 14) rfl) rfl
theorem wd_p_58 : Cond.selects RX12 yX12_puts yX12_puts ∈ lw_gd := List.mem_filter.mpr ⟨List.mem_append_left _ (List.mem_of_getElem? (i := 58) rfl), rfl⟩
theorem wd_t_1341 : Cond.fieldLink RX12 278 RX12 "at" "I" ∈ lw_gd := zgin_6 (List.mem_of_getElem? (i := 141) rfl) rfl
theorem wd_t_1716 : Cond.methodLink RX12 281 yX12_raw ∈ lw_gd := zgin_8 (List.mem_of_getElem? (i := 36) rfl) rfl
theorem wd_t_1718 : Cond.instanceMethod yX12_raw ∈ lw_gd := zgin_8 (List.mem_of_getElem? (i := 38) rfl) rfl
theorem wd_p_61 : Cond.selects RX12 yX12_raw yX12_raw ∈ lw_gd := List.mem_filter.mpr ⟨List.mem_append_left _ (List.mem_of_getElem? (i := 61) rfl), rfl⟩
theorem wd_t_1342 : Cond.fieldLink RX12 285 RX12 "from" "I" ∈ lw_gd := zgin_6 (List.mem_of_getElem? (i := 142) rfl) rfl
theorem wd_t_1343 : Cond.fieldLink RX12 288 RX12 "token" "I" ∈ lw_gd := zgin_6 (List.mem_of_getElem? (i := 143) rfl) rfl
theorem wd_t_1344 : Cond.fieldLink RX12 291 RX12 "value" "I" ∈ lw_gd := zgin_6 (List.mem_of_getElem? (i := 144) rfl) rfl
theorem wd_t_1720 : Cond.methodLink RX12 294 yX12_isLetter ∈ lw_gd := zgin_8 (List.mem_of_getElem? (i := 40) rfl) rfl
theorem wd_t_1722 : Cond.instanceMethod yX12_isLetter ∈ lw_gd := zgin_8 (List.mem_of_getElem? (i := 42) rfl) rfl
theorem wd_p_62 : Cond.selects RX12 yX12_isLetter yX12_isLetter ∈ lw_gd := List.mem_filter.mpr ⟨List.mem_append_left _ (List.mem_of_getElem? (i := 62) rfl), rfl⟩
theorem wd_t_1724 : Cond.methodLink RX12 297 yX12_wordAt ∈ lw_gd := zgin_8 (List.mem_of_getElem? (i := 44) rfl) rfl
theorem wd_t_1726 : Cond.instanceMethod yX12_wordAt ∈ lw_gd := zgin_8 (List.mem_of_getElem? (i := 46) rfl) rfl
theorem wd_p_63 : Cond.selects RX12 yX12_wordAt yX12_wordAt ∈ lw_gd := List.mem_filter.mpr ⟨List.mem_append_left _ (List.mem_of_getElem? (i := 63) rfl), rfl⟩
theorem wd_t_1728 : Cond.methodLink RX12 301 yX12_isDigit ∈ lw_gd := zgin_8 (List.mem_of_getElem? (i := 48) rfl) rfl
theorem wd_t_1730 : Cond.instanceMethod yX12_isDigit ∈ lw_gd := zgin_8 (List.mem_of_getElem? (i := 50) rfl) rfl
theorem wd_p_64 : Cond.selects RX12 yX12_isDigit yX12_isDigit ∈ lw_gd := List.mem_filter.mpr ⟨List.mem_append_left _ (List.mem_of_getElem? (i := 64) rfl), rfl⟩
theorem wd_t_1732 : Cond.methodLink RX12 304 yX12_isMarkSign ∈ lw_gd := zgin_8 (List.mem_of_getElem? (i := 52) rfl) rfl
theorem wd_t_1734 : Cond.instanceMethod yX12_isMarkSign ∈ lw_gd := zgin_8 (List.mem_of_getElem? (i := 54) rfl) rfl
theorem wd_p_65 : Cond.selects RX12 yX12_isMarkSign yX12_isMarkSign ∈ lw_gd := List.mem_filter.mpr ⟨List.mem_append_left _ (List.mem_of_getElem? (i := 65) rfl), rfl⟩
theorem wd_t_1346 : Cond.fieldLink RX12 307 RX12 "readFault" "I" ∈ lw_gd := zgin_6 (List.mem_of_getElem? (i := 146) rfl) rfl
theorem wd_t_1347 : Cond.fieldLink RX12 310 RX12 "readPlace" "I" ∈ lw_gd := zgin_6 (List.mem_of_getElem? (i := 147) rfl) rfl
theorem wd_t_1740 : Cond.methodLink RX12 313 yX12_failsAt ∈ lw_gd := zgin_8 (List.mem_of_getElem? (i := 60) rfl) rfl
theorem wd_t_1742 : Cond.instanceMethod yX12_failsAt ∈ lw_gd := zgin_8 (List.mem_of_getElem? (i := 62) rfl) rfl
theorem wd_p_67 : Cond.selects RX12 yX12_failsAt yX12_failsAt ∈ lw_gd := List.mem_filter.mpr ⟨List.mem_append_left _ (List.mem_of_getElem? (i := 67) rfl), rfl⟩
theorem wd_t_1348 : Cond.fieldLink RX12 316 RX12 "faultKind" "I" ∈ lw_gd := zgin_6 (List.mem_of_getElem? (i := 148) rfl) rfl
theorem wd_t_1756 : Cond.methodLink RX12 319 yX12_isSign ∈ lw_gd := zgin_8 (List.mem_of_getElem? (i := 76) rfl) rfl
theorem wd_t_1758 : Cond.instanceMethod yX12_isSign ∈ lw_gd := zgin_8 (List.mem_of_getElem? (i := 78) rfl) rfl
theorem wd_p_71 : Cond.selects RX12 yX12_isSign yX12_isSign ∈ lw_gd := List.mem_filter.mpr ⟨List.mem_append_left _ (List.mem_of_getElem? (i := 71) rfl), rfl⟩
theorem wd_t_1736 : Cond.methodLink RX12 322 yX12_fails ∈ lw_gd := zgin_8 (List.mem_of_getElem? (i := 56) rfl) rfl
theorem wd_t_1738 : Cond.instanceMethod yX12_fails ∈ lw_gd := zgin_8 (List.mem_of_getElem? (i := 58) rfl) rfl
theorem wd_p_66 : Cond.selects RX12 yX12_fails yX12_fails ∈ lw_gd := List.mem_filter.mpr ⟨List.mem_append_left _ (List.mem_of_getElem? (i := 66) rfl), rfl⟩
theorem wd_t_1712 : Cond.methodLink RX12 325 yX12_next ∈ lw_gd := zgin_8 (List.mem_of_getElem? (i := 32) rfl) rfl
theorem wd_t_1714 : Cond.instanceMethod yX12_next ∈ lw_gd := zgin_8 (List.mem_of_getElem? (i := 34) rfl) rfl
theorem wd_p_60 : Cond.selects RX12 yX12_next yX12_next ∈ lw_gd := List.mem_filter.mpr ⟨List.mem_append_left _ (List.mem_of_getElem? (i := 60) rfl), rfl⟩
theorem wd_t_1748 : Cond.methodLink RX12 328 yX12_isWord ∈ lw_gd := zgin_8 (List.mem_of_getElem? (i := 68) rfl) rfl
theorem wd_t_1750 : Cond.instanceMethod yX12_isWord ∈ lw_gd := zgin_8 (List.mem_of_getElem? (i := 70) rfl) rfl
theorem wd_p_69 : Cond.selects RX12 yX12_isWord yX12_isWord ∈ lw_gd := List.mem_filter.mpr ⟨List.mem_append_left _ (List.mem_of_getElem? (i := 69) rfl), rfl⟩
theorem wd_t_1760 : Cond.methodLink RX12 331 yX12_readCount ∈ lw_gd := zgin_8 (List.mem_of_getElem? (i := 80) rfl) rfl
theorem wd_t_1762 : Cond.instanceMethod yX12_readCount ∈ lw_gd := zgin_8 (List.mem_of_getElem? (i := 82) rfl) rfl
theorem wd_p_72 : Cond.selects RX12 yX12_readCount yX12_readCount ∈ lw_gd := List.mem_filter.mpr ⟨List.mem_append_left _ (List.mem_of_getElem? (i := 72) rfl), rfl⟩
theorem wd_t_1752 : Cond.methodLink RX12 334 yX12_readNumeral ∈ lw_gd := zgin_8 (List.mem_of_getElem? (i := 72) rfl) rfl
theorem wd_t_1754 : Cond.instanceMethod yX12_readNumeral ∈ lw_gd := zgin_8 (List.mem_of_getElem? (i := 74) rfl) rfl
theorem wd_p_70 : Cond.selects RX12 yX12_readNumeral yX12_readNumeral ∈ lw_gd := List.mem_filter.mpr ⟨List.mem_append_left _ (List.mem_of_getElem? (i := 70) rfl), rfl⟩
theorem wd_t_1744 : Cond.methodLink RX12 337 yX12_readLine ∈ lw_gd := zgin_8 (List.mem_of_getElem? (i := 64) rfl) rfl
theorem wd_t_1746 : Cond.instanceMethod yX12_readLine ∈ lw_gd := zgin_8 (List.mem_of_getElem? (i := 66) rfl) rfl
theorem wd_p_68 : Cond.selects RX12 yX12_readLine yX12_readLine ∈ lw_gd := List.mem_filter.mpr ⟨List.mem_append_left _ (List.mem_of_getElem? (i := 68) rfl), rfl⟩
theorem wd_t_1369 : Cond.fieldLink RX12 340 RX12 "unknowns" "I" ∈ lw_gd := zgin_6 (List.mem_of_getElem? (i := 169) rfl) rfl
theorem wd_t_1370 : Cond.fieldLink RX12 343 RX12 "lostLine" "I" ∈ lw_gd := zgin_6 (List.mem_of_getElem? (i := 170) rfl) rfl
theorem wd_t_1365 : Cond.fieldLink RX12 346 RX12 "blockMany" "I" ∈ lw_gd := zgin_6 (List.mem_of_getElem? (i := 165) rfl) rfl
theorem wd_t_1790 : Cond.methodLink RX12 349 yX12_signOf ∈ lw_gd := zgin_8 (List.mem_of_getElem? (i := 110) rfl) rfl
theorem wd_t_1792 : Cond.instanceMethod yX12_signOf ∈ lw_gd := zgin_8 (List.mem_of_getElem? (i := 112) rfl) rfl
theorem wd_p_79 : Cond.selects RX12 yX12_signOf yX12_signOf ∈ lw_gd := List.mem_filter.mpr ⟨List.mem_append_left _ (List.mem_of_getElem? (i := 79) rfl), rfl⟩
theorem wd_t_1794 : Cond.methodLink RX12 352 yX12_notes ∈ lw_gd := zgin_8 (List.mem_of_getElem? (i := 114) rfl) rfl
theorem wd_t_1796 : Cond.instanceMethod yX12_notes ∈ lw_gd := zgin_8 (List.mem_of_getElem? (i := 116) rfl) rfl
theorem wd_p_80 : Cond.selects RX12 yX12_notes yX12_notes ∈ lw_gd := List.mem_filter.mpr ⟨List.mem_append_left _ (List.mem_of_getElem? (i := 80) rfl), rfl⟩
theorem wd_t_1780 : Cond.constantLong RX12 355 1000000000000 ∈ lw_gd := zgin_8 (List.mem_of_getElem? (i := 100) rfl) rfl
theorem wd_t_1781 : Cond.constantLong RX12 357 (-1) ∈ lw_gd := zgin_8 (List.mem_of_getElem? (i := 101) rfl) rfl
theorem wd_t_1782 : Cond.methodLink RX12 359 yX12_mostOf ∈ lw_gd := zgin_8 (List.mem_of_getElem? (i := 102) rfl) rfl
theorem wd_t_1784 : Cond.instanceMethod yX12_mostOf ∈ lw_gd := zgin_8 (List.mem_of_getElem? (i := 104) rfl) rfl
theorem wd_p_77 : Cond.selects RX12 yX12_mostOf yX12_mostOf ∈ lw_gd := List.mem_filter.mpr ⟨List.mem_append_left _ (List.mem_of_getElem? (i := 77) rfl), rfl⟩
theorem wd_t_1786 : Cond.methodLink RX12 362 yX12_fits ∈ lw_gd := zgin_8 (List.mem_of_getElem? (i := 106) rfl) rfl
theorem wd_t_1788 : Cond.instanceMethod yX12_fits ∈ lw_gd := zgin_8 (List.mem_of_getElem? (i := 108) rfl) rfl
theorem wd_p_78 : Cond.selects RX12 yX12_fits yX12_fits ∈ lw_gd := List.mem_filter.mpr ⟨List.mem_append_left _ (List.mem_of_getElem? (i := 78) rfl), rfl⟩
theorem wd_t_1802 : Cond.constantLong RX12 365 100000 ∈ lw_gd := zgin_8 (List.mem_of_getElem? (i := 122) rfl) rfl
theorem wd_t_1803 : Cond.constant RX12 367 99999 ∈ lw_gd := zgin_8 (List.mem_of_getElem? (i := 123) rfl) rfl
theorem wd_t_1772 : Cond.methodLink RX12 368 yX12_takesUnknowns ∈ lw_gd := zgin_8 (List.mem_of_getElem? (i := 92) rfl) rfl
theorem wd_t_1774 : Cond.instanceMethod yX12_takesUnknowns ∈ lw_gd := zgin_8 (List.mem_of_getElem? (i := 94) rfl) rfl
theorem wd_p_75 : Cond.selects RX12 yX12_takesUnknowns yX12_takesUnknowns ∈ lw_gd := List.mem_filter.mpr ⟨List.mem_append_left _ (List.mem_of_getElem? (i := 75) rfl), rfl⟩
theorem wd_t_1776 : Cond.methodLink RX12 371 yX12_closedFills ∈ lw_gd := zgin_8 (List.mem_of_getElem? (i := 96) rfl) rfl
theorem wd_t_1778 : Cond.instanceMethod yX12_closedFills ∈ lw_gd := zgin_8 (List.mem_of_getElem? (i := 98) rfl) rfl
theorem wd_p_76 : Cond.selects RX12 yX12_closedFills yX12_closedFills ∈ lw_gd := List.mem_filter.mpr ⟨List.mem_append_left _ (List.mem_of_getElem? (i := 76) rfl), rfl⟩
theorem wd_t_1798 : Cond.methodLink RX12 375 yX12_openFills ∈ lw_gd := zgin_8 (List.mem_of_getElem? (i := 118) rfl) rfl
theorem wd_t_1800 : Cond.instanceMethod yX12_openFills ∈ lw_gd := zgin_8 (List.mem_of_getElem? (i := 120) rfl) rfl
theorem wd_p_81 : Cond.selects RX12 yX12_openFills yX12_openFills ∈ lw_gd := List.mem_filter.mpr ⟨List.mem_append_left _ (List.mem_of_getElem? (i := 81) rfl), rfl⟩
theorem wd_t_1804 : Cond.constantLong RX12 378 999999999 ∈ lw_gd := zgin_8 (List.mem_of_getElem? (i := 124) rfl) rfl
theorem wd_t_1805 : Cond.constant RX12 380 999999999 ∈ lw_gd := zgin_8 (List.mem_of_getElem? (i := 125) rfl) rfl
theorem wd_t_1768 : Cond.methodLink RX12 381 yX12_worksOut ∈ lw_gd := zgin_8 (List.mem_of_getElem? (i := 88) rfl) rfl
theorem wd_t_1770 : Cond.instanceMethod yX12_worksOut ∈ lw_gd := zgin_8 (List.mem_of_getElem? (i := 90) rfl) rfl
theorem wd_p_74 : Cond.selects RX12 yX12_worksOut yX12_worksOut ∈ lw_gd := List.mem_filter.mpr ⟨List.mem_append_left _ (List.mem_of_getElem? (i := 74) rfl), rfl⟩
theorem wd_t_1708 : Cond.methodLink RX12 385 yX12_readTablet ∈ lw_gd := zgin_8 (List.mem_of_getElem? (i := 28) rfl) rfl
theorem wd_t_1710 : Cond.instanceMethod yX12_readTablet ∈ lw_gd := zgin_8 (List.mem_of_getElem? (i := 30) rfl) rfl
theorem wd_p_59 : Cond.selects RX12 yX12_readTablet yX12_readTablet ∈ lw_gd := List.mem_filter.mpr ⟨List.mem_append_left _ (List.mem_of_getElem? (i := 59) rfl), rfl⟩
theorem wd_t_1764 : Cond.methodLink RX12 389 yX12_blocks ∈ lw_gd := zgin_8 (List.mem_of_getElem? (i := 84) rfl) rfl
theorem wd_t_1766 : Cond.instanceMethod yX12_blocks ∈ lw_gd := zgin_8 (List.mem_of_getElem? (i := 86) rfl) rfl
theorem wd_p_73 : Cond.selects RX12 yX12_blocks yX12_blocks ∈ lw_gd := List.mem_filter.mpr ⟨List.mem_append_left _ (List.mem_of_getElem? (i := 73) rfl), rfl⟩
theorem wd_t_1814 : Cond.methodLink RX12 392 yX12_isYear ∈ lw_gd := zgin_8 (List.mem_of_getElem? (i := 134) rfl) rfl
theorem wd_t_1816 : Cond.instanceMethod yX12_isYear ∈ lw_gd := zgin_8 (List.mem_of_getElem? (i := 136) rfl) rfl
theorem wd_p_82 : Cond.selects RX12 yX12_isYear yX12_isYear ∈ lw_gd := List.mem_filter.mpr ⟨List.mem_append_left _ (List.mem_of_getElem? (i := 82) rfl), rfl⟩
theorem wd_t_1818 : Cond.constantLong RX12 395 (-99999999999) ∈ lw_gd := zgin_8 (List.mem_of_getElem? (i := 138) rfl) rfl
theorem wd_t_1823 : Cond.methodLink RX12 397 yX12_isKind ∈ lw_gd := zgin_8 (List.mem_of_getElem? (i := 143) rfl) rfl
theorem wd_t_1825 : Cond.instanceMethod yX12_isKind ∈ lw_gd := zgin_8 (List.mem_of_getElem? (i := 145) rfl) rfl
theorem wd_p_83 : Cond.selects RX12 yX12_isKind yX12_isKind ∈ lw_gd := List.mem_filter.mpr ⟨List.mem_append_left _ (List.mem_of_getElem? (i := 83) rfl), rfl⟩
theorem wd_t_1378 : Cond.fieldLink RX12 400 RX12 "version" "I" ∈ lw_gd := zgin_6 (List.mem_of_getElem? (i := 178) rfl) rfl
theorem wd_t_1831 : Cond.methodLink RX12 403 yX12_isBall ∈ lw_gd := zgin_8 (List.mem_of_getElem? (i := 151) rfl) rfl
theorem wd_t_1833 : Cond.instanceMethod yX12_isBall ∈ lw_gd := zgin_8 (List.mem_of_getElem? (i := 153) rfl) rfl
theorem wd_p_84 : Cond.selects RX12 yX12_isBall yX12_isBall ∈ lw_gd := List.mem_filter.mpr ⟨List.mem_append_left _ (List.mem_of_getElem? (i := 84) rfl), rfl⟩
theorem wd_t_1381 : Cond.fieldLink RX12 406 RX12 "ballWays" "I" ∈ lw_gd := zgin_6 (List.mem_of_getElem? (i := 181) rfl) rfl
theorem wd_t_1382 : Cond.fieldLink RX12 409 RX12 "ballLies" "I" ∈ lw_gd := zgin_6 (List.mem_of_getElem? (i := 182) rfl) rfl
theorem wd_t_1847 : Cond.constant RX12 412 100000 ∈ lw_gd := zgin_8 (List.mem_of_getElem? (i := 167) rfl) rfl
theorem wd_t_1848 : Cond.methodLink RX12 413 yX12_mayBe ∈ lw_gd := zgin_8 (List.mem_of_getElem? (i := 168) rfl) rfl
theorem wd_t_1850 : Cond.instanceMethod yX12_mayBe ∈ lw_gd := zgin_8 (List.mem_of_getElem? (i := 170) rfl) rfl
theorem wd_p_86 : Cond.selects RX12 yX12_mayBe yX12_mayBe ∈ lw_gd := List.mem_filter.mpr ⟨List.mem_append_left _ (List.mem_of_getElem? (i := 86) rfl), rfl⟩
theorem wd_t_1852 : Cond.methodLink RX12 416 yX12_notesBall ∈ lw_gd := zgin_8 (List.mem_of_getElem? (i := 172) rfl) rfl
theorem wd_t_1854 : Cond.instanceMethod yX12_notesBall ∈ lw_gd := zgin_8 (List.mem_of_getElem? (i := 174) rfl) rfl
theorem wd_p_87 : Cond.selects RX12 yX12_notesBall yX12_notesBall ∈ lw_gd := List.mem_filter.mpr ⟨List.mem_append_left _ (List.mem_of_getElem? (i := 87) rfl), rfl⟩
theorem wd_t_1843 : Cond.methodLink RX12 419 yX12_findsBall ∈ lw_gd := zgin_8 (List.mem_of_getElem? (i := 163) rfl) rfl
theorem wd_t_1845 : Cond.instanceMethod yX12_findsBall ∈ lw_gd := zgin_8 (List.mem_of_getElem? (i := 165) rfl) rfl
theorem wd_p_85 : Cond.selects RX12 yX12_findsBall yX12_findsBall ∈ lw_gd := List.mem_filter.mpr ⟨List.mem_append_left _ (List.mem_of_getElem? (i := 85) rfl), rfl⟩
theorem wd_t_1386 : Cond.fieldLink RX12 422 RX12 "seals" "I" ∈ lw_gd := zgin_6 (List.mem_of_getElem? (i := 186) rfl) rfl
theorem wd_t_1864 : Cond.methodLink RX12 425 yX12_isSeal ∈ lw_gd := zgin_8 (List.mem_of_getElem? (i := 184) rfl) rfl
theorem wd_t_1866 : Cond.instanceMethod yX12_isSeal ∈ lw_gd := zgin_8 (List.mem_of_getElem? (i := 186) rfl) rfl
theorem wd_p_88 : Cond.selects RX12 yX12_isSeal yX12_isSeal ∈ lw_gd := List.mem_filter.mpr ⟨List.mem_append_left _ (List.mem_of_getElem? (i := 88) rfl), rfl⟩
theorem wd_t_1888 : Cond.methodLink RX12 428 yX12_nextOver ∈ lw_gd := zgin_8 (List.mem_of_getElem? (i := 208) rfl) rfl
theorem wd_t_1890 : Cond.instanceMethod yX12_nextOver ∈ lw_gd := zgin_8 (List.mem_of_getElem? (i := 210) rfl) rfl
theorem wd_p_93 : Cond.selects RX12 yX12_nextOver yX12_nextOver ∈ lw_gd := List.mem_filter.mpr ⟨List.mem_append_left _ (List.mem_of_getElem? (i := 93) rfl), rfl⟩
theorem wd_t_1884 : Cond.methodLink RX12 432 yX12_rings ∈ lw_gd := zgin_8 (List.mem_of_getElem? (i := 204) rfl) rfl
theorem wd_t_1886 : Cond.instanceMethod yX12_rings ∈ lw_gd := zgin_8 (List.mem_of_getElem? (i := 206) rfl) rfl
theorem wd_p_92 : Cond.selects RX12 yX12_rings yX12_rings ∈ lw_gd := List.mem_filter.mpr ⟨List.mem_append_left _ (List.mem_of_getElem? (i := 92) rfl), rfl⟩
theorem wd_t_1872 : Cond.methodLink RX12 436 yX12_orders ∈ lw_gd := zgin_8 (List.mem_of_getElem? (i := 192) rfl) rfl
theorem wd_t_1874 : Cond.instanceMethod yX12_orders ∈ lw_gd := zgin_8 (List.mem_of_getElem? (i := 194) rfl) rfl
theorem wd_p_89 : Cond.selects RX12 yX12_orders yX12_orders ∈ lw_gd := List.mem_filter.mpr ⟨List.mem_append_left _ (List.mem_of_getElem? (i := 89) rfl), rfl⟩
theorem wd_t_1876 : Cond.methodLink RX12 439 yX12_inOrder ∈ lw_gd := zgin_8 (List.mem_of_getElem? (i := 196) rfl) rfl
theorem wd_t_1878 : Cond.instanceMethod yX12_inOrder ∈ lw_gd := zgin_8 (List.mem_of_getElem? (i := 198) rfl) rfl
theorem wd_p_90 : Cond.selects RX12 yX12_inOrder yX12_inOrder ∈ lw_gd := List.mem_filter.mpr ⟨List.mem_append_left _ (List.mem_of_getElem? (i := 90) rfl), rfl⟩
theorem wd_t_1880 : Cond.methodLink RX12 442 yX12_ringMany ∈ lw_gd := zgin_8 (List.mem_of_getElem? (i := 200) rfl) rfl
theorem wd_t_1882 : Cond.instanceMethod yX12_ringMany ∈ lw_gd := zgin_8 (List.mem_of_getElem? (i := 202) rfl) rfl
theorem wd_p_91 : Cond.selects RX12 yX12_ringMany yX12_ringMany ∈ lw_gd := List.mem_filter.mpr ⟨List.mem_append_left _ (List.mem_of_getElem? (i := 91) rfl), rfl⟩
theorem wd_t_1390 : Cond.fieldLink RX12 445 RX12 "fragments" "I" ∈ lw_gd := zgin_6 (List.mem_of_getElem? (i := 190) rfl) rfl
theorem wd_t_1904 : Cond.methodLink RX12 448 yX12_isFragment ∈ lw_gd := zgin_8 (List.mem_of_getElem? (i := 224) rfl) rfl
theorem wd_t_1906 : Cond.instanceMethod yX12_isFragment ∈ lw_gd := zgin_8 (List.mem_of_getElem? (i := 226) rfl) rfl
theorem wd_p_94 : Cond.selects RX12 yX12_isFragment yX12_isFragment ∈ lw_gd := List.mem_filter.mpr ⟨List.mem_append_left _ (List.mem_of_getElem? (i := 94) rfl), rfl⟩
theorem wd_t_1920 : Cond.constant RX12 451 1000000 ∈ lw_gd := zgin_9 (List.mem_of_getElem? (i := 0) rfl) rfl
theorem wd_t_1921 : Cond.methodLink RX12 452 yX12_gap ∈ lw_gd := zgin_9 (List.mem_of_getElem? (i := 1) rfl) rfl
theorem wd_t_1923 : Cond.instanceMethod yX12_gap ∈ lw_gd := zgin_9 (List.mem_of_getElem? (i := 3) rfl) rfl
theorem wd_p_97 : Cond.selects RX12 yX12_gap yX12_gap ∈ lw_gd := List.mem_filter.mpr ⟨List.mem_append_left _ (List.mem_of_getElem? (i := 97) rfl), rfl⟩
theorem wd_t_1912 : Cond.methodLink RX12 455 yX12_ones ∈ lw_gd := zgin_8 (List.mem_of_getElem? (i := 232) rfl) rfl
theorem wd_t_1914 : Cond.instanceMethod yX12_ones ∈ lw_gd := zgin_8 (List.mem_of_getElem? (i := 234) rfl) rfl
theorem wd_p_95 : Cond.selects RX12 yX12_ones yX12_ones ∈ lw_gd := List.mem_filter.mpr ⟨List.mem_append_left _ (List.mem_of_getElem? (i := 95) rfl), rfl⟩
theorem wd_t_1916 : Cond.methodLink RX12 458 yX12_worksRow ∈ lw_gd := zgin_8 (List.mem_of_getElem? (i := 236) rfl) rfl
theorem wd_t_1918 : Cond.instanceMethod yX12_worksRow ∈ lw_gd := zgin_8 (List.mem_of_getElem? (i := 238) rfl) rfl
theorem wd_p_96 : Cond.selects RX12 yX12_worksRow yX12_worksRow ∈ lw_gd := List.mem_filter.mpr ⟨List.mem_append_left _ (List.mem_of_getElem? (i := 96) rfl), rfl⟩
theorem wd_t_1925 : Cond.methodLink RX12 462 yX12_inRow ∈ lw_gd := zgin_9 (List.mem_of_getElem? (i := 5) rfl) rfl
theorem wd_t_1927 : Cond.instanceMethod yX12_inRow ∈ lw_gd := zgin_9 (List.mem_of_getElem? (i := 7) rfl) rfl
theorem wd_p_98 : Cond.selects RX12 yX12_inRow yX12_inRow ∈ lw_gd := List.mem_filter.mpr ⟨List.mem_append_left _ (List.mem_of_getElem? (i := 98) rfl), rfl⟩
theorem wd_t_1396 : Cond.fieldLink RX12 465 RX12 "persons" "I" ∈ lw_gd := zgin_6 (List.mem_of_getElem? (i := 196) rfl) rfl
theorem wd_t_1933 : Cond.methodLink RX12 468 yX12_isPerson ∈ lw_gd := zgin_9 (List.mem_of_getElem? (i := 13) rfl) rfl
theorem wd_t_1935 : Cond.instanceMethod yX12_isPerson ∈ lw_gd := zgin_9 (List.mem_of_getElem? (i := 15) rfl) rfl
theorem wd_p_99 : Cond.selects RX12 yX12_isPerson yX12_isPerson ∈ lw_gd := List.mem_filter.mpr ⟨List.mem_append_left _ (List.mem_of_getElem? (i := 99) rfl), rfl⟩
theorem wd_t_1401 : Cond.fieldLink RX12 471 RX12 "holds" "I" ∈ lw_gd := zgin_6 (List.mem_of_getElem? (i := 201) rfl) rfl
theorem wd_t_1409 : Cond.fieldLink RX12 474 RX12 "many" "I" ∈ lw_gd := zgin_6 (List.mem_of_getElem? (i := 209) rfl) rfl
theorem wd_t_1965 : Cond.methodLink RX12 477 yX12_emits ∈ lw_gd := zgin_9 (List.mem_of_getElem? (i := 45) rfl) rfl
theorem wd_t_1967 : Cond.instanceMethod yX12_emits ∈ lw_gd := zgin_9 (List.mem_of_getElem? (i := 47) rfl) rfl
theorem wd_p_105 : Cond.selects RX12 yX12_emits yX12_emits ∈ lw_gd := List.mem_filter.mpr ⟨List.mem_append_left _ (List.mem_of_getElem? (i := 105) rfl), rfl⟩
theorem wd_t_1961 : Cond.methodLink RX12 481 yX12_readUnit ∈ lw_gd := zgin_9 (List.mem_of_getElem? (i := 41) rfl) rfl
theorem wd_t_1963 : Cond.instanceMethod yX12_readUnit ∈ lw_gd := zgin_9 (List.mem_of_getElem? (i := 43) rfl) rfl
theorem wd_p_104 : Cond.selects RX12 yX12_readUnit yX12_readUnit ∈ lw_gd := List.mem_filter.mpr ⟨List.mem_append_left _ (List.mem_of_getElem? (i := 104) rfl), rfl⟩
theorem wd_t_1957 : Cond.methodLink RX12 484 yX12_readProduct ∈ lw_gd := zgin_9 (List.mem_of_getElem? (i := 37) rfl) rfl
theorem wd_t_1959 : Cond.instanceMethod yX12_readProduct ∈ lw_gd := zgin_9 (List.mem_of_getElem? (i := 39) rfl) rfl
theorem wd_p_103 : Cond.selects RX12 yX12_readProduct yX12_readProduct ∈ lw_gd := List.mem_filter.mpr ⟨List.mem_append_left _ (List.mem_of_getElem? (i := 103) rfl), rfl⟩
theorem wd_t_1953 : Cond.methodLink RX12 487 yX12_readSum ∈ lw_gd := zgin_9 (List.mem_of_getElem? (i := 33) rfl) rfl
theorem wd_t_1955 : Cond.instanceMethod yX12_readSum ∈ lw_gd := zgin_9 (List.mem_of_getElem? (i := 35) rfl) rfl
theorem wd_p_102 : Cond.selects RX12 yX12_readSum yX12_readSum ∈ lw_gd := List.mem_filter.mpr ⟨List.mem_append_left _ (List.mem_of_getElem? (i := 102) rfl), rfl⟩
theorem wd_t_1412 : Cond.fieldLink RX12 490 RX12 "pendings" "I" ∈ lw_gd := zgin_6 (List.mem_of_getElem? (i := 212) rfl) rfl
theorem wd_t_1410 : Cond.fieldLink RX12 493 RX12 "open" "I" ∈ lw_gd := zgin_6 (List.mem_of_getElem? (i := 210) rfl) rfl
theorem wd_t_1973 : Cond.methodLink RX12 496 yX12_waits ∈ lw_gd := zgin_9 (List.mem_of_getElem? (i := 53) rfl) rfl
theorem wd_t_1975 : Cond.instanceMethod yX12_waits ∈ lw_gd := zgin_9 (List.mem_of_getElem? (i := 55) rfl) rfl
theorem wd_p_107 : Cond.selects RX12 yX12_waits yX12_waits ∈ lw_gd := List.mem_filter.mpr ⟨List.mem_append_left _ (List.mem_of_getElem? (i := 107) rfl), rfl⟩
theorem wd_t_1977 : Cond.methodLink RX12 499 yX12_readCompared ∈ lw_gd := zgin_9 (List.mem_of_getElem? (i := 57) rfl) rfl
theorem wd_t_1979 : Cond.instanceMethod yX12_readCompared ∈ lw_gd := zgin_9 (List.mem_of_getElem? (i := 59) rfl) rfl
theorem wd_p_108 : Cond.selects RX12 yX12_readCompared yX12_readCompared ∈ lw_gd := List.mem_filter.mpr ⟨List.mem_append_left _ (List.mem_of_getElem? (i := 108) rfl), rfl⟩
theorem wd_t_1981 : Cond.methodLink RX12 502 yX12_settles ∈ lw_gd := zgin_9 (List.mem_of_getElem? (i := 61) rfl) rfl
theorem wd_t_1983 : Cond.instanceMethod yX12_settles ∈ lw_gd := zgin_9 (List.mem_of_getElem? (i := 63) rfl) rfl
theorem wd_p_109 : Cond.selects RX12 yX12_settles yX12_settles ∈ lw_gd := List.mem_filter.mpr ⟨List.mem_append_left _ (List.mem_of_getElem? (i := 109) rfl), rfl⟩
theorem wd_t_1969 : Cond.methodLink RX12 505 yX12_readAny ∈ lw_gd := zgin_9 (List.mem_of_getElem? (i := 49) rfl) rfl
theorem wd_t_1971 : Cond.instanceMethod yX12_readAny ∈ lw_gd := zgin_9 (List.mem_of_getElem? (i := 51) rfl) rfl
theorem wd_p_106 : Cond.selects RX12 yX12_readAny yX12_readAny ∈ lw_gd := List.mem_filter.mpr ⟨List.mem_append_left _ (List.mem_of_getElem? (i := 106) rfl), rfl⟩
theorem wd_t_1949 : Cond.methodLink RX12 508 yX12_readRule ∈ lw_gd := zgin_9 (List.mem_of_getElem? (i := 29) rfl) rfl
theorem wd_t_1951 : Cond.instanceMethod yX12_readRule ∈ lw_gd := zgin_9 (List.mem_of_getElem? (i := 31) rfl) rfl
theorem wd_p_101 : Cond.selects RX12 yX12_readRule yX12_readRule ∈ lw_gd := List.mem_filter.mpr ⟨List.mem_append_left _ (List.mem_of_getElem? (i := 101) rfl), rfl⟩
theorem wd_t_1945 : Cond.methodLink RX12 511 yX12_readRules ∈ lw_gd := zgin_9 (List.mem_of_getElem? (i := 25) rfl) rfl
theorem wd_t_1947 : Cond.instanceMethod yX12_readRules ∈ lw_gd := zgin_9 (List.mem_of_getElem? (i := 27) rfl) rfl
theorem wd_p_100 : Cond.selects RX12 yX12_readRules yX12_readRules ∈ lw_gd := List.mem_filter.mpr ⟨List.mem_append_left _ (List.mem_of_getElem? (i := 100) rfl), rfl⟩
theorem wd_t_2005 : Cond.methodLink RX12 514 yX12_twoOf ∈ lw_gd := zgin_9 (List.mem_of_getElem? (i := 85) rfl) rfl
theorem wd_t_2007 : Cond.instanceMethod yX12_twoOf ∈ lw_gd := zgin_9 (List.mem_of_getElem? (i := 87) rfl) rfl
theorem wd_p_113 : Cond.selects RX12 yX12_twoOf yX12_twoOf ∈ lw_gd := List.mem_filter.mpr ⟨List.mem_append_left _ (List.mem_of_getElem? (i := 113) rfl), rfl⟩
theorem wd_t_2001 : Cond.methodLink RX12 517 yX12_comesTo ∈ lw_gd := zgin_9 (List.mem_of_getElem? (i := 81) rfl) rfl
theorem wd_t_2003 : Cond.instanceMethod yX12_comesTo ∈ lw_gd := zgin_9 (List.mem_of_getElem? (i := 83) rfl) rfl
theorem wd_p_112 : Cond.selects RX12 yX12_comesTo yX12_comesTo ∈ lw_gd := List.mem_filter.mpr ⟨List.mem_append_left _ (List.mem_of_getElem? (i := 112) rfl), rfl⟩
theorem wd_t_1993 : Cond.methodLink RX12 520 yX12_takesAsked ∈ lw_gd := zgin_9 (List.mem_of_getElem? (i := 73) rfl) rfl
theorem wd_t_1995 : Cond.instanceMethod yX12_takesAsked ∈ lw_gd := zgin_9 (List.mem_of_getElem? (i := 75) rfl) rfl
theorem wd_p_110 : Cond.selects RX12 yX12_takesAsked yX12_takesAsked ∈ lw_gd := List.mem_filter.mpr ⟨List.mem_append_left _ (List.mem_of_getElem? (i := 110) rfl), rfl⟩
theorem wd_t_1997 : Cond.methodLink RX12 523 yX12_givenBy ∈ lw_gd := zgin_9 (List.mem_of_getElem? (i := 77) rfl) rfl
theorem wd_t_1999 : Cond.instanceMethod yX12_givenBy ∈ lw_gd := zgin_9 (List.mem_of_getElem? (i := 79) rfl) rfl
theorem wd_p_111 : Cond.selects RX12 yX12_givenBy yX12_givenBy ∈ lw_gd := List.mem_filter.mpr ⟨List.mem_append_left _ (List.mem_of_getElem? (i := 111) rfl), rfl⟩
theorem wd_t_1416 : Cond.fieldLink RX12 526 RX12 "shortAll" "J" ∈ lw_gd := zgin_6 (List.mem_of_getElem? (i := 216) rfl) rfl
theorem wd_t_2021 : Cond.methodLink RX12 530 yX12_isHerd ∈ lw_gd := zgin_9 (List.mem_of_getElem? (i := 101) rfl) rfl
theorem wd_t_2023 : Cond.instanceMethod yX12_isHerd ∈ lw_gd := zgin_9 (List.mem_of_getElem? (i := 103) rfl) rfl
theorem wd_p_114 : Cond.selects RX12 yX12_isHerd yX12_isHerd ∈ lw_gd := List.mem_filter.mpr ⟨List.mem_append_left _ (List.mem_of_getElem? (i := 114) rfl), rfl⟩
theorem wd_t_1419 : Cond.fieldLink RX12 533 RX12 "flocks" "I" ∈ lw_gd := zgin_6 (List.mem_of_getElem? (i := 219) rfl) rfl
theorem wd_t_2029 : Cond.methodLink RX12 536 yX12_isFlock ∈ lw_gd := zgin_9 (List.mem_of_getElem? (i := 109) rfl) rfl
theorem wd_t_2031 : Cond.instanceMethod yX12_isFlock ∈ lw_gd := zgin_9 (List.mem_of_getElem? (i := 111) rfl) rfl
theorem wd_p_115 : Cond.selects RX12 yX12_isFlock yX12_isFlock ∈ lw_gd := List.mem_filter.mpr ⟨List.mem_append_left _ (List.mem_of_getElem? (i := 115) rfl), rfl⟩
theorem wd_t_1422 : Cond.fieldLink RX12 539 RX12 "founds" "I" ∈ lw_gd := zgin_6 (List.mem_of_getElem? (i := 222) rfl) rfl
theorem wd_t_2041 : Cond.methodLink RX12 542 yX12_least ∈ lw_gd := zgin_9 (List.mem_of_getElem? (i := 121) rfl) rfl
theorem wd_t_2043 : Cond.instanceMethod yX12_least ∈ lw_gd := zgin_9 (List.mem_of_getElem? (i := 123) rfl) rfl
theorem wd_p_117 : Cond.selects RX12 yX12_least yX12_least ∈ lw_gd := List.mem_filter.mpr ⟨List.mem_append_left _ (List.mem_of_getElem? (i := 117) rfl), rfl⟩
theorem wd_t_2037 : Cond.methodLink RX12 545 yX12_agesByBook ∈ lw_gd := zgin_9 (List.mem_of_getElem? (i := 117) rfl) rfl
theorem wd_t_2039 : Cond.instanceMethod yX12_agesByBook ∈ lw_gd := zgin_9 (List.mem_of_getElem? (i := 119) rfl) rfl
theorem wd_p_116 : Cond.selects RX12 yX12_agesByBook yX12_agesByBook ∈ lw_gd := List.mem_filter.mpr ⟨List.mem_append_left _ (List.mem_of_getElem? (i := 116) rfl), rfl⟩
theorem wd_t_2045 : Cond.methodLink RX12 548 yX12_foundAt ∈ lw_gd := zgin_9 (List.mem_of_getElem? (i := 125) rfl) rfl
theorem wd_t_2047 : Cond.instanceMethod yX12_foundAt ∈ lw_gd := zgin_9 (List.mem_of_getElem? (i := 127) rfl) rfl
theorem wd_p_118 : Cond.selects RX12 yX12_foundAt yX12_foundAt ∈ lw_gd := List.mem_filter.mpr ⟨List.mem_append_left _ (List.mem_of_getElem? (i := 118) rfl), rfl⟩
theorem wd_t_2049 : Cond.methodLink RX12 551 yX12_over0 ∈ lw_gd := zgin_9 (List.mem_of_getElem? (i := 129) rfl) rfl
theorem wd_t_2051 : Cond.instanceMethod yX12_over0 ∈ lw_gd := zgin_9 (List.mem_of_getElem? (i := 131) rfl) rfl
theorem wd_p_119 : Cond.selects RX12 yX12_over0 yX12_over0 ∈ lw_gd := List.mem_filter.mpr ⟨List.mem_append_left _ (List.mem_of_getElem? (i := 119) rfl), rfl⟩
theorem wd_t_1430 : Cond.fieldLink RX12 554 RX12 "loans" "I" ∈ lw_gd := zgin_6 (List.mem_of_getElem? (i := 230) rfl) rfl
theorem wd_t_2065 : Cond.methodLink RX12 557 yX12_isLoan ∈ lw_gd := zgin_9 (List.mem_of_getElem? (i := 145) rfl) rfl
theorem wd_t_2067 : Cond.instanceMethod yX12_isLoan ∈ lw_gd := zgin_9 (List.mem_of_getElem? (i := 147) rfl) rfl
theorem wd_p_120 : Cond.selects RX12 yX12_isLoan yX12_isLoan ∈ lw_gd := List.mem_filter.mpr ⟨List.mem_append_left _ (List.mem_of_getElem? (i := 120) rfl), rfl⟩
theorem wd_t_1434 : Cond.fieldLink RX12 560 RX12 "payments" "I" ∈ lw_gd := zgin_6 (List.mem_of_getElem? (i := 234) rfl) rfl
theorem wd_t_2077 : Cond.methodLink RX12 563 yX12_paidIn ∈ lw_gd := zgin_9 (List.mem_of_getElem? (i := 157) rfl) rfl
theorem wd_t_2079 : Cond.instanceMethod yX12_paidIn ∈ lw_gd := zgin_9 (List.mem_of_getElem? (i := 159) rfl) rfl
theorem wd_p_121 : Cond.selects RX12 yX12_paidIn yX12_paidIn ∈ lw_gd := List.mem_filter.mpr ⟨List.mem_append_left _ (List.mem_of_getElem? (i := 121) rfl), rfl⟩
theorem wd_t_2081 : Cond.constantLong RX12 567 100 ∈ lw_gd := zgin_9 (List.mem_of_getElem? (i := 161) rfl) rfl
theorem wd_t_2082 : Cond.constantLong RX12 569 999999999999 ∈ lw_gd := zgin_9 (List.mem_of_getElem? (i := 162) rfl) rfl
theorem wd_t_2087 : Cond.methodLink RX12 571 yX12_isSide ∈ lw_gd := zgin_9 (List.mem_of_getElem? (i := 167) rfl) rfl
theorem wd_t_2089 : Cond.instanceMethod yX12_isSide ∈ lw_gd := zgin_9 (List.mem_of_getElem? (i := 169) rfl) rfl
theorem wd_p_122 : Cond.selects RX12 yX12_isSide yX12_isSide ∈ lw_gd := List.mem_filter.mpr ⟨List.mem_append_left _ (List.mem_of_getElem? (i := 122) rfl), rfl⟩
theorem wd_t_2091 : Cond.methodLink RX12 574 yX12_product ∈ lw_gd := zgin_9 (List.mem_of_getElem? (i := 171) rfl) rfl
theorem wd_t_2093 : Cond.instanceMethod yX12_product ∈ lw_gd := zgin_9 (List.mem_of_getElem? (i := 173) rfl) rfl
theorem wd_p_123 : Cond.selects RX12 yX12_product yX12_product ∈ lw_gd := List.mem_filter.mpr ⟨List.mem_append_left _ (List.mem_of_getElem? (i := 123) rfl), rfl⟩
theorem wd_t_2095 : Cond.methodLink RX12 578 yX12_root ∈ lw_gd := zgin_9 (List.mem_of_getElem? (i := 175) rfl) rfl
theorem wd_t_2097 : Cond.instanceMethod yX12_root ∈ lw_gd := zgin_9 (List.mem_of_getElem? (i := 177) rfl) rfl
theorem wd_p_124 : Cond.selects RX12 yX12_root yX12_root ∈ lw_gd := List.mem_filter.mpr ⟨List.mem_append_left _ (List.mem_of_getElem? (i := 124) rfl), rfl⟩
theorem wd_t_2099 : Cond.constantLong RX12 582 4 ∈ lw_gd := zgin_9 (List.mem_of_getElem? (i := 179) rfl) rfl
theorem wd_t_1045 : Cond.constant RJ6 265 1431655765 ∈ lw_gd := zgin_5 (List.mem_of_getElem? (i := 85) rfl) rfl
theorem wd_t_1046 : Cond.constant RJ6 266 858993459 ∈ lw_gd := zgin_5 (List.mem_of_getElem? (i := 86) rfl) rfl
theorem wd_t_1047 : Cond.constant RJ6 267 252645135 ∈ lw_gd := zgin_5 (List.mem_of_getElem? (i := 87) rfl) rfl
theorem wd_t_1003 : Cond.constant RJ6 264 65536 ∈ lw_gd := zgin_5 (List.mem_of_getElem? (i := 43) rfl) rfl
theorem wd_t_2104 : Cond.fieldLink RJ0 9 RJ0 "value" "[B" ∈ lw_gd := zgin_9 (List.mem_of_getElem? (i := 184) rfl) rfl
theorem wd_t_584 : Cond.methodLink RJ0 335 yJ0_coder_7d493 ∈ lw_gd := zgin_3 (List.mem_of_getElem? (i := 104) rfl) rfl
theorem wd_t_585 : Cond.instanceMethod yJ0_coder_7d493 ∈ lw_gd := zgin_3 (List.mem_of_getElem? (i := 105) rfl) rfl
theorem wd_t_586 : Cond.selects RJ0 yJ0_coder_7d493 yJ0_coder_7d493 ∈ lw_gd := zgin_3 (List.mem_of_getElem? (i := 106) rfl) rfl
theorem wd_t_594 : Cond.methodLink RJ0 492 yJ0_isLatin1_aae02 ∈ lw_gd := zgin_3 (List.mem_of_getElem? (i := 114) rfl) rfl
theorem wd_t_595 : Cond.instanceMethod yJ0_isLatin1_aae02 ∈ lw_gd := zgin_3 (List.mem_of_getElem? (i := 115) rfl) rfl
theorem wd_t_596 : Cond.selects RJ0 yJ0_isLatin1_aae02 yJ0_isLatin1_aae02 ∈ lw_gd := zgin_3 (List.mem_of_getElem? (i := 116) rfl) rfl
theorem wd_t_598 : Cond.methodLink RJ0 495 yJ1_charAt_3b067 ∈ lw_gd := zgin_3 (List.mem_of_getElem? (i := 118) rfl) rfl
theorem wd_t_599 : Cond.static yJ1_charAt_3b067 ∈ lw_gd := zgin_3 (List.mem_of_getElem? (i := 119) rfl) rfl
theorem wd_t_637 : Cond.methodLink RJ0 633 yJ0_indexOf_7cf53 ∈ lw_gd := zgin_3 (List.mem_of_getElem? (i := 157) rfl) rfl
theorem wd_t_638 : Cond.instanceMethod yJ0_indexOf_7cf53 ∈ lw_gd := zgin_3 (List.mem_of_getElem? (i := 158) rfl) rfl
theorem wd_t_639 : Cond.selects RJ0 yJ0_indexOf_7cf53 yJ0_indexOf_7cf53 ∈ lw_gd := zgin_3 (List.mem_of_getElem? (i := 159) rfl) rfl
theorem wd_t_641 : Cond.methodLink RJ0 505 yJ0_length_8abf5 ∈ lw_gd := zgin_3 (List.mem_of_getElem? (i := 161) rfl) rfl
theorem wd_t_642 : Cond.methodLink RJ0 637 yJ1_indexOf_4cfef ∈ lw_gd := zgin_3 (List.mem_of_getElem? (i := 162) rfl) rfl
theorem wd_t_643 : Cond.static yJ1_indexOf_4cfef ∈ lw_gd := zgin_3 (List.mem_of_getElem? (i := 163) rfl) rfl
theorem wd_t_588 : Cond.fieldLink RJ0 38 RJ0 "COMPACT_STRINGS" "Z" ∈ lw_gd := zgin_3 (List.mem_of_getElem? (i := 108) rfl) rfl
theorem wd_t_2105 : Cond.fieldLink RJ0 15 RJ0 "coder" "B" ∈ lw_gd := zgin_9 (List.mem_of_getElem? (i := 185) rfl) rfl
theorem wd_t_604 : Cond.fieldLink RJ0 1053 RJ3 "SIOOBE_FORMATTER" "Ljava/util/function/BiFunction;" ∈ lw_gd := zgin_3 (List.mem_of_getElem? (i := 124) rfl) rfl
theorem wd_t_606 : Cond.methodLink RJ0 1059 yJ3_checkIndex_8e157 ∈ lw_gd := zgin_3 (List.mem_of_getElem? (i := 126) rfl) rfl
theorem wd_t_607 : Cond.static yJ3_checkIndex_8e157 ∈ lw_gd := zgin_3 (List.mem_of_getElem? (i := 127) rfl) rfl
theorem wd_t_601 : Cond.methodLink RJ1 9 yJ0_checkIndex_df160 ∈ lw_gd := zgin_3 (List.mem_of_getElem? (i := 121) rfl) rfl
theorem wd_t_602 : Cond.static yJ0_checkIndex_df160 ∈ lw_gd := zgin_3 (List.mem_of_getElem? (i := 122) rfl) rfl
theorem wd_t_645 : Cond.methodLink RJ1 88 yJ1_canEncode_9a6ad ∈ lw_gd := zgin_3 (List.mem_of_getElem? (i := 165) rfl) rfl
theorem wd_t_646 : Cond.static yJ1_canEncode_9a6ad ∈ lw_gd := zgin_3 (List.mem_of_getElem? (i := 166) rfl) rfl
theorem wd_t_648 : Cond.methodLink RJ1 92 yJ9_max_7cf53 ∈ lw_gd := zgin_3 (List.mem_of_getElem? (i := 168) rfl) rfl
theorem wd_t_649 : Cond.methodLink RJ1 38 yJ9_min_7cf53 ∈ lw_gd := zgin_3 (List.mem_of_getElem? (i := 169) rfl) rfl
theorem wd_t_650 : Cond.methodLink RJ1 95 yJ1_indexOfChar_4cfef ∈ lw_gd := zgin_3 (List.mem_of_getElem? (i := 170) rfl) rfl
theorem wd_t_651 : Cond.static yJ1_indexOfChar_4cfef ∈ lw_gd := zgin_3 (List.mem_of_getElem? (i := 171) rfl) rfl
theorem wd_t_22 : Cond.classLink RL 7 RX11 ∈ lw_gd := zgin_1 (List.mem_of_getElem? (i := 22) rfl) rfl
theorem wd_t_23 : Cond.instantiable RX11 12 ∈ lw_gd := zgin_1 (List.mem_of_getElem? (i := 23) rfl) rfl
theorem wd_t_1 : Cond.initialized RX11 ∈ lw_gd := zgin_1 (List.mem_of_getElem? (i := 1) rfl) rfl
theorem wd_t_24 : Cond.methodLink RL 9 yX11_init ∈ lw_gd := zgin_1 (List.mem_of_getElem? (i := 24) rfl) rfl
theorem wd_t_25 : Cond.instanceMethod yX11_init ∈ lw_gd := zgin_1 (List.mem_of_getElem? (i := 25) rfl) rfl
theorem wd_t_1328 : Cond.classLink RL 10 RX12 ∈ lw_gd := zgin_6 (List.mem_of_getElem? (i := 128) rfl) rfl
theorem wd_t_1329 : Cond.instantiable RX12 106 ∈ lw_gd := zgin_6 (List.mem_of_getElem? (i := 129) rfl) rfl
theorem wd_t_13 : Cond.initialized RX12 ∈ lw_gd := zgin_1 (List.mem_of_getElem? (i := 13) rfl) rfl
theorem wd_t_1330 : Cond.methodLink RL 12 yX12_init ∈ lw_gd := zgin_6 (List.mem_of_getElem? (i := 130) rfl) rfl
theorem wd_t_1331 : Cond.instanceMethod yX12_init ∈ lw_gd := zgin_6 (List.mem_of_getElem? (i := 131) rfl) rfl
theorem wd_t_470 : Cond.methodLink RL 13 yX11_step ∈ lw_gd := zgin_2 (List.mem_of_getElem? (i := 230) rfl) rfl
theorem wd_t_471 : Cond.instanceMethod yX11_step ∈ lw_gd := zgin_2 (List.mem_of_getElem? (i := 231) rfl) rfl
theorem wd_t_472 : Cond.selects RX11 yX11_step yX11_step ∈ lw_gd := zgin_2 (List.mem_of_getElem? (i := 232) rfl) rfl
theorem wd_t_1654 : Cond.methodLink RL 17 yX12_step ∈ lw_gd := zgin_7 (List.mem_of_getElem? (i := 214) rfl) rfl
theorem wd_t_1655 : Cond.instanceMethod yX12_step ∈ lw_gd := zgin_7 (List.mem_of_getElem? (i := 215) rfl) rfl
theorem wd_t_1656 : Cond.selects RX12 yX12_step yX12_step ∈ lw_gd := zgin_7 (List.mem_of_getElem? (i := 216) rfl) rfl
theorem wd_t_499 : Cond.methodLink RL 18 yX11_good ∈ lw_gd := zgin_3 (List.mem_of_getElem? (i := 19) rfl) rfl
theorem wd_t_500 : Cond.instanceMethod yX11_good ∈ lw_gd := zgin_3 (List.mem_of_getElem? (i := 20) rfl) rfl
theorem wd_t_501 : Cond.selects RX11 yX11_good yX11_good ∈ lw_gd := zgin_3 (List.mem_of_getElem? (i := 21) rfl) rfl
theorem wd_t_1671 : Cond.methodLink RL 22 yX12_good ∈ lw_gd := zgin_7 (List.mem_of_getElem? (i := 231) rfl) rfl
theorem wd_t_1672 : Cond.instanceMethod yX12_good ∈ lw_gd := zgin_7 (List.mem_of_getElem? (i := 232) rfl) rfl
theorem wd_t_1673 : Cond.selects RX12 yX12_good yX12_good ∈ lw_gd := zgin_7 (List.mem_of_getElem? (i := 233) rfl) rfl
theorem wd_t_511 : Cond.methodLink RL 23 yX11_written ∈ lw_gd := zgin_3 (List.mem_of_getElem? (i := 31) rfl) rfl
theorem wd_t_512 : Cond.instanceMethod yX11_written ∈ lw_gd := zgin_3 (List.mem_of_getElem? (i := 32) rfl) rfl
theorem wd_t_513 : Cond.selects RX11 yX11_written yX11_written ∈ lw_gd := zgin_3 (List.mem_of_getElem? (i := 33) rfl) rfl
theorem wd_t_1679 : Cond.methodLink RL 27 yX12_written ∈ lw_gd := zgin_7 (List.mem_of_getElem? (i := 239) rfl) rfl
theorem wd_t_1680 : Cond.instanceMethod yX12_written ∈ lw_gd := zgin_8 (List.mem_of_getElem? (i := 0) rfl) rfl
theorem wd_t_1681 : Cond.selects RX12 yX12_written yX12_written ∈ lw_gd := zgin_8 (List.mem_of_getElem? (i := 1) rfl) rfl
theorem wd_t_528 : Cond.methodLink RL 28 yX11_year ∈ lw_gd := zgin_3 (List.mem_of_getElem? (i := 48) rfl) rfl
theorem wd_t_529 : Cond.instanceMethod yX11_year ∈ lw_gd := zgin_3 (List.mem_of_getElem? (i := 49) rfl) rfl
theorem wd_t_530 : Cond.selects RX11 yX11_year yX11_year ∈ lw_gd := zgin_3 (List.mem_of_getElem? (i := 50) rfl) rfl
theorem wd_t_1684 : Cond.methodLink RL 32 yX12_year ∈ lw_gd := zgin_8 (List.mem_of_getElem? (i := 4) rfl) rfl
theorem wd_t_1685 : Cond.instanceMethod yX12_year ∈ lw_gd := zgin_8 (List.mem_of_getElem? (i := 5) rfl) rfl
theorem wd_t_1686 : Cond.selects RX12 yX12_year yX12_year ∈ lw_gd := zgin_8 (List.mem_of_getElem? (i := 6) rfl) rfl
theorem wd_t_532 : Cond.methodLink RL 33 yX11_feed ∈ lw_gd := zgin_3 (List.mem_of_getElem? (i := 52) rfl) rfl
theorem wd_t_533 : Cond.instanceMethod yX11_feed ∈ lw_gd := zgin_3 (List.mem_of_getElem? (i := 53) rfl) rfl
theorem wd_t_534 : Cond.selects RX11 yX11_feed yX11_feed ∈ lw_gd := zgin_3 (List.mem_of_getElem? (i := 54) rfl) rfl
theorem wd_t_1688 : Cond.methodLink RL 37 yX12_feed ∈ lw_gd := zgin_8 (List.mem_of_getElem? (i := 8) rfl) rfl
theorem wd_t_1689 : Cond.instanceMethod yX12_feed ∈ lw_gd := zgin_8 (List.mem_of_getElem? (i := 9) rfl) rfl
theorem wd_t_1690 : Cond.selects RX12 yX12_feed yX12_feed ∈ lw_gd := zgin_8 (List.mem_of_getElem? (i := 10) rfl) rfl
theorem wd_t_544 : Cond.methodLink RL 38 yX11_end ∈ lw_gd := zgin_3 (List.mem_of_getElem? (i := 64) rfl) rfl
theorem wd_t_545 : Cond.instanceMethod yX11_end ∈ lw_gd := zgin_3 (List.mem_of_getElem? (i := 65) rfl) rfl
theorem wd_t_546 : Cond.selects RX11 yX11_end yX11_end ∈ lw_gd := zgin_3 (List.mem_of_getElem? (i := 66) rfl) rfl
theorem wd_t_1696 : Cond.methodLink RL 42 yX12_end ∈ lw_gd := zgin_8 (List.mem_of_getElem? (i := 16) rfl) rfl
theorem wd_t_1697 : Cond.instanceMethod yX12_end ∈ lw_gd := zgin_8 (List.mem_of_getElem? (i := 17) rfl) rfl
theorem wd_t_1698 : Cond.selects RX12 yX12_end yX12_end ∈ lw_gd := zgin_8 (List.mem_of_getElem? (i := 18) rfl) rfl
theorem wd_t_553 : Cond.methodLink RL 43 yX11_tablet ∈ lw_gd := zgin_3 (List.mem_of_getElem? (i := 73) rfl) rfl
theorem wd_t_554 : Cond.instanceMethod yX11_tablet ∈ lw_gd := zgin_3 (List.mem_of_getElem? (i := 74) rfl) rfl
theorem wd_t_555 : Cond.selects RX11 yX11_tablet yX11_tablet ∈ lw_gd := zgin_3 (List.mem_of_getElem? (i := 75) rfl) rfl
theorem wd_t_1704 : Cond.methodLink RL 47 yX12_tablet ∈ lw_gd := zgin_8 (List.mem_of_getElem? (i := 24) rfl) rfl
theorem wd_t_1705 : Cond.instanceMethod yX12_tablet ∈ lw_gd := zgin_8 (List.mem_of_getElem? (i := 25) rfl) rfl
theorem wd_t_1706 : Cond.selects RX12 yX12_tablet yX12_tablet ∈ lw_gd := zgin_8 (List.mem_of_getElem? (i := 26) rfl) rfl
theorem wd_t_816 : Cond.methodLink RL 48 yX11_rules ∈ lw_gd := zgin_4 (List.mem_of_getElem? (i := 96) rfl) rfl
theorem wd_t_817 : Cond.instanceMethod yX11_rules ∈ lw_gd := zgin_4 (List.mem_of_getElem? (i := 97) rfl) rfl
theorem wd_t_818 : Cond.selects RX11 yX11_rules yX11_rules ∈ lw_gd := zgin_4 (List.mem_of_getElem? (i := 98) rfl) rfl
theorem wd_t_1941 : Cond.methodLink RL 51 yX12_rules ∈ lw_gd := zgin_9 (List.mem_of_getElem? (i := 21) rfl) rfl
theorem wd_t_1942 : Cond.instanceMethod yX12_rules ∈ lw_gd := zgin_9 (List.mem_of_getElem? (i := 22) rfl) rfl
theorem wd_t_1943 : Cond.selects RX12 yX12_rules yX12_rules ∈ lw_gd := zgin_9 (List.mem_of_getElem? (i := 23) rfl) rfl
theorem wd_t_866 : Cond.methodLink RL 52 yX11_fault ∈ lw_gd := zgin_4 (List.mem_of_getElem? (i := 146) rfl) rfl
theorem wd_t_867 : Cond.instanceMethod yX11_fault ∈ lw_gd := zgin_4 (List.mem_of_getElem? (i := 147) rfl) rfl
theorem wd_t_868 : Cond.selects RX11 yX11_fault yX11_fault ∈ lw_gd := zgin_4 (List.mem_of_getElem? (i := 148) rfl) rfl
theorem wd_t_1700 : Cond.methodLink RL 55 yX12_fault ∈ lw_gd := zgin_8 (List.mem_of_getElem? (i := 20) rfl) rfl
theorem wd_t_1701 : Cond.instanceMethod yX12_fault ∈ lw_gd := zgin_8 (List.mem_of_getElem? (i := 21) rfl) rfl
theorem wd_t_1702 : Cond.selects RX12 yX12_fault yX12_fault ∈ lw_gd := zgin_8 (List.mem_of_getElem? (i := 22) rfl) rfl
theorem wd_t_874 : Cond.methodLink RL 56 yX11_line ∈ lw_gd := zgin_4 (List.mem_of_getElem? (i := 154) rfl) rfl
theorem wd_t_875 : Cond.instanceMethod yX11_line ∈ lw_gd := zgin_4 (List.mem_of_getElem? (i := 155) rfl) rfl
theorem wd_t_876 : Cond.selects RX11 yX11_line yX11_line ∈ lw_gd := zgin_4 (List.mem_of_getElem? (i := 156) rfl) rfl
theorem wd_t_1806 : Cond.methodLink RL 59 yX12_line ∈ lw_gd := zgin_8 (List.mem_of_getElem? (i := 126) rfl) rfl
theorem wd_t_1807 : Cond.instanceMethod yX12_line ∈ lw_gd := zgin_8 (List.mem_of_getElem? (i := 127) rfl) rfl
theorem wd_t_1808 : Cond.selects RX12 yX12_line yX12_line ∈ lw_gd := zgin_8 (List.mem_of_getElem? (i := 128) rfl) rfl
theorem wd_t_882 : Cond.methodLink RL 60 yX11_stock ∈ lw_gd := zgin_4 (List.mem_of_getElem? (i := 162) rfl) rfl
theorem wd_t_883 : Cond.instanceMethod yX11_stock ∈ lw_gd := zgin_4 (List.mem_of_getElem? (i := 163) rfl) rfl
theorem wd_t_884 : Cond.selects RX11 yX11_stock yX11_stock ∈ lw_gd := zgin_4 (List.mem_of_getElem? (i := 164) rfl) rfl
theorem wd_t_1810 : Cond.methodLink RL 64 yX12_stock ∈ lw_gd := zgin_8 (List.mem_of_getElem? (i := 130) rfl) rfl
theorem wd_t_1811 : Cond.instanceMethod yX12_stock ∈ lw_gd := zgin_8 (List.mem_of_getElem? (i := 131) rfl) rfl
theorem wd_t_1812 : Cond.selects RX12 yX12_stock yX12_stock ∈ lw_gd := zgin_8 (List.mem_of_getElem? (i := 132) rfl) rfl
theorem wd_t_895 : Cond.methodLink RL 65 yX11_weight ∈ lw_gd := zgin_4 (List.mem_of_getElem? (i := 175) rfl) rfl
theorem wd_t_896 : Cond.instanceMethod yX11_weight ∈ lw_gd := zgin_4 (List.mem_of_getElem? (i := 176) rfl) rfl
theorem wd_t_897 : Cond.selects RX11 yX11_weight yX11_weight ∈ lw_gd := zgin_4 (List.mem_of_getElem? (i := 177) rfl) rfl
theorem wd_t_1819 : Cond.methodLink RL 68 yX12_weight ∈ lw_gd := zgin_8 (List.mem_of_getElem? (i := 139) rfl) rfl
theorem wd_t_1820 : Cond.instanceMethod yX12_weight ∈ lw_gd := zgin_8 (List.mem_of_getElem? (i := 140) rfl) rfl
theorem wd_t_1821 : Cond.selects RX12 yX12_weight yX12_weight ∈ lw_gd := zgin_8 (List.mem_of_getElem? (i := 141) rfl) rfl
theorem wd_t_907 : Cond.methodLink RL 69 yX11_mark ∈ lw_gd := zgin_4 (List.mem_of_getElem? (i := 187) rfl) rfl
theorem wd_t_908 : Cond.instanceMethod yX11_mark ∈ lw_gd := zgin_4 (List.mem_of_getElem? (i := 188) rfl) rfl
theorem wd_t_909 : Cond.selects RX11 yX11_mark yX11_mark ∈ lw_gd := zgin_4 (List.mem_of_getElem? (i := 189) rfl) rfl
theorem wd_t_1827 : Cond.methodLink RL 72 yX12_mark ∈ lw_gd := zgin_8 (List.mem_of_getElem? (i := 147) rfl) rfl
theorem wd_t_1828 : Cond.instanceMethod yX12_mark ∈ lw_gd := zgin_8 (List.mem_of_getElem? (i := 148) rfl) rfl
theorem wd_t_1829 : Cond.selects RX12 yX12_mark yX12_mark ∈ lw_gd := zgin_8 (List.mem_of_getElem? (i := 149) rfl) rfl
theorem wd_t_918 : Cond.methodLink RL 73 yX11_tell ∈ lw_gd := zgin_4 (List.mem_of_getElem? (i := 198) rfl) rfl
theorem wd_t_919 : Cond.instanceMethod yX11_tell ∈ lw_gd := zgin_4 (List.mem_of_getElem? (i := 199) rfl) rfl
theorem wd_t_920 : Cond.selects RX11 yX11_tell yX11_tell ∈ lw_gd := zgin_4 (List.mem_of_getElem? (i := 200) rfl) rfl
theorem wd_t_1835 : Cond.methodLink RL 76 yX12_tell ∈ lw_gd := zgin_8 (List.mem_of_getElem? (i := 155) rfl) rfl
theorem wd_t_1836 : Cond.instanceMethod yX12_tell ∈ lw_gd := zgin_8 (List.mem_of_getElem? (i := 156) rfl) rfl
theorem wd_t_1837 : Cond.selects RX12 yX12_tell yX12_tell ∈ lw_gd := zgin_8 (List.mem_of_getElem? (i := 157) rfl) rfl
theorem wd_t_926 : Cond.methodLink RL 77 yX11_ball ∈ lw_gd := zgin_4 (List.mem_of_getElem? (i := 206) rfl) rfl
theorem wd_t_927 : Cond.instanceMethod yX11_ball ∈ lw_gd := zgin_4 (List.mem_of_getElem? (i := 207) rfl) rfl
theorem wd_t_928 : Cond.selects RX11 yX11_ball yX11_ball ∈ lw_gd := zgin_4 (List.mem_of_getElem? (i := 208) rfl) rfl
theorem wd_t_1839 : Cond.methodLink RL 81 yX12_ball ∈ lw_gd := zgin_8 (List.mem_of_getElem? (i := 159) rfl) rfl
theorem wd_t_1840 : Cond.instanceMethod yX12_ball ∈ lw_gd := zgin_8 (List.mem_of_getElem? (i := 160) rfl) rfl
theorem wd_t_1841 : Cond.selects RX12 yX12_ball yX12_ball ∈ lw_gd := zgin_8 (List.mem_of_getElem? (i := 161) rfl) rfl
theorem wd_t_951 : Cond.methodLink RL 82 yX11_seal ∈ lw_gd := zgin_4 (List.mem_of_getElem? (i := 231) rfl) rfl
theorem wd_t_952 : Cond.instanceMethod yX11_seal ∈ lw_gd := zgin_4 (List.mem_of_getElem? (i := 232) rfl) rfl
theorem wd_t_953 : Cond.selects RX11 yX11_seal yX11_seal ∈ lw_gd := zgin_4 (List.mem_of_getElem? (i := 233) rfl) rfl
theorem wd_t_1856 : Cond.methodLink RL 85 yX12_seal ∈ lw_gd := zgin_8 (List.mem_of_getElem? (i := 176) rfl) rfl
theorem wd_t_1857 : Cond.instanceMethod yX12_seal ∈ lw_gd := zgin_8 (List.mem_of_getElem? (i := 177) rfl) rfl
theorem wd_t_1858 : Cond.selects RX12 yX12_seal yX12_seal ∈ lw_gd := zgin_8 (List.mem_of_getElem? (i := 178) rfl) rfl
theorem wd_t_959 : Cond.methodLink RL 86 yX11_over ∈ lw_gd := zgin_4 (List.mem_of_getElem? (i := 239) rfl) rfl
theorem wd_t_960 : Cond.instanceMethod yX11_over ∈ lw_gd := zgin_5 (List.mem_of_getElem? (i := 0) rfl) rfl
theorem wd_t_961 : Cond.selects RX11 yX11_over yX11_over ∈ lw_gd := zgin_5 (List.mem_of_getElem? (i := 1) rfl) rfl
theorem wd_t_1860 : Cond.methodLink RL 89 yX12_over ∈ lw_gd := zgin_8 (List.mem_of_getElem? (i := 180) rfl) rfl
theorem wd_t_1861 : Cond.instanceMethod yX12_over ∈ lw_gd := zgin_8 (List.mem_of_getElem? (i := 181) rfl) rfl
theorem wd_t_1862 : Cond.selects RX12 yX12_over yX12_over ∈ lw_gd := zgin_8 (List.mem_of_getElem? (i := 182) rfl) rfl
theorem wd_t_972 : Cond.methodLink RL 90 yX11_order ∈ lw_gd := zgin_5 (List.mem_of_getElem? (i := 12) rfl) rfl
theorem wd_t_973 : Cond.instanceMethod yX11_order ∈ lw_gd := zgin_5 (List.mem_of_getElem? (i := 13) rfl) rfl
theorem wd_t_974 : Cond.selects RX11 yX11_order yX11_order ∈ lw_gd := zgin_5 (List.mem_of_getElem? (i := 14) rfl) rfl
theorem wd_t_1868 : Cond.methodLink RL 93 yX12_order ∈ lw_gd := zgin_8 (List.mem_of_getElem? (i := 188) rfl) rfl
theorem wd_t_1869 : Cond.instanceMethod yX12_order ∈ lw_gd := zgin_8 (List.mem_of_getElem? (i := 189) rfl) rfl
theorem wd_t_1870 : Cond.selects RX12 yX12_order yX12_order ∈ lw_gd := zgin_8 (List.mem_of_getElem? (i := 190) rfl) rfl
theorem wd_t_1005 : Cond.methodLink RL 94 yX11_ahead ∈ lw_gd := zgin_5 (List.mem_of_getElem? (i := 45) rfl) rfl
theorem wd_t_1006 : Cond.instanceMethod yX11_ahead ∈ lw_gd := zgin_5 (List.mem_of_getElem? (i := 46) rfl) rfl
theorem wd_t_1007 : Cond.selects RX11 yX11_ahead yX11_ahead ∈ lw_gd := zgin_5 (List.mem_of_getElem? (i := 47) rfl) rfl
theorem wd_t_1892 : Cond.methodLink RL 97 yX12_ahead ∈ lw_gd := zgin_8 (List.mem_of_getElem? (i := 212) rfl) rfl
theorem wd_t_1893 : Cond.instanceMethod yX12_ahead ∈ lw_gd := zgin_8 (List.mem_of_getElem? (i := 213) rfl) rfl
theorem wd_t_1894 : Cond.selects RX12 yX12_ahead yX12_ahead ∈ lw_gd := zgin_8 (List.mem_of_getElem? (i := 214) rfl) rfl
theorem wd_t_1017 : Cond.methodLink RL 98 yX11_fragment ∈ lw_gd := zgin_5 (List.mem_of_getElem? (i := 57) rfl) rfl
theorem wd_t_1018 : Cond.instanceMethod yX11_fragment ∈ lw_gd := zgin_5 (List.mem_of_getElem? (i := 58) rfl) rfl
theorem wd_t_1019 : Cond.selects RX11 yX11_fragment yX11_fragment ∈ lw_gd := zgin_5 (List.mem_of_getElem? (i := 59) rfl) rfl
theorem wd_t_1896 : Cond.methodLink RL 101 yX12_fragment ∈ lw_gd := zgin_8 (List.mem_of_getElem? (i := 216) rfl) rfl
theorem wd_t_1897 : Cond.instanceMethod yX12_fragment ∈ lw_gd := zgin_8 (List.mem_of_getElem? (i := 217) rfl) rfl
theorem wd_t_1898 : Cond.selects RX12 yX12_fragment yX12_fragment ∈ lw_gd := zgin_8 (List.mem_of_getElem? (i := 218) rfl) rfl
theorem wd_t_1026 : Cond.methodLink RL 102 yX11_edge ∈ lw_gd := zgin_5 (List.mem_of_getElem? (i := 66) rfl) rfl
theorem wd_t_1027 : Cond.instanceMethod yX11_edge ∈ lw_gd := zgin_5 (List.mem_of_getElem? (i := 67) rfl) rfl
theorem wd_t_1028 : Cond.selects RX11 yX11_edge yX11_edge ∈ lw_gd := zgin_5 (List.mem_of_getElem? (i := 68) rfl) rfl
theorem wd_t_1900 : Cond.methodLink RL 106 yX12_edge ∈ lw_gd := zgin_8 (List.mem_of_getElem? (i := 220) rfl) rfl
theorem wd_t_1901 : Cond.instanceMethod yX12_edge ∈ lw_gd := zgin_8 (List.mem_of_getElem? (i := 221) rfl) rfl
theorem wd_t_1902 : Cond.selects RX12 yX12_edge yX12_edge ∈ lw_gd := zgin_8 (List.mem_of_getElem? (i := 222) rfl) rfl
theorem wd_t_1034 : Cond.methodLink RL 107 yX11_row ∈ lw_gd := zgin_5 (List.mem_of_getElem? (i := 74) rfl) rfl
theorem wd_t_1035 : Cond.instanceMethod yX11_row ∈ lw_gd := zgin_5 (List.mem_of_getElem? (i := 75) rfl) rfl
theorem wd_t_1036 : Cond.selects RX11 yX11_row yX11_row ∈ lw_gd := zgin_5 (List.mem_of_getElem? (i := 76) rfl) rfl
theorem wd_t_1908 : Cond.methodLink RL 110 yX12_row ∈ lw_gd := zgin_8 (List.mem_of_getElem? (i := 228) rfl) rfl
theorem wd_t_1909 : Cond.instanceMethod yX12_row ∈ lw_gd := zgin_8 (List.mem_of_getElem? (i := 229) rfl) rfl
theorem wd_t_1910 : Cond.selects RX12 yX12_row yX12_row ∈ lw_gd := zgin_8 (List.mem_of_getElem? (i := 230) rfl) rfl
theorem wd_t_1079 : Cond.methodLink RL 111 yX11_person ∈ lw_gd := zgin_5 (List.mem_of_getElem? (i := 119) rfl) rfl
theorem wd_t_1080 : Cond.instanceMethod yX11_person ∈ lw_gd := zgin_5 (List.mem_of_getElem? (i := 120) rfl) rfl
theorem wd_t_1081 : Cond.selects RX11 yX11_person yX11_person ∈ lw_gd := zgin_5 (List.mem_of_getElem? (i := 121) rfl) rfl
theorem wd_t_1929 : Cond.methodLink RL 114 yX12_person ∈ lw_gd := zgin_9 (List.mem_of_getElem? (i := 9) rfl) rfl
theorem wd_t_1930 : Cond.instanceMethod yX12_person ∈ lw_gd := zgin_9 (List.mem_of_getElem? (i := 10) rfl) rfl
theorem wd_t_1931 : Cond.selects RX12 yX12_person yX12_person ∈ lw_gd := zgin_9 (List.mem_of_getElem? (i := 11) rfl) rfl
theorem wd_t_1092 : Cond.methodLink RL 115 yX11_works ∈ lw_gd := zgin_5 (List.mem_of_getElem? (i := 132) rfl) rfl
theorem wd_t_1093 : Cond.instanceMethod yX11_works ∈ lw_gd := zgin_5 (List.mem_of_getElem? (i := 133) rfl) rfl
theorem wd_t_1094 : Cond.selects RX11 yX11_works yX11_works ∈ lw_gd := zgin_5 (List.mem_of_getElem? (i := 134) rfl) rfl
theorem wd_t_1937 : Cond.methodLink RL 118 yX12_works ∈ lw_gd := zgin_9 (List.mem_of_getElem? (i := 17) rfl) rfl
theorem wd_t_1938 : Cond.instanceMethod yX12_works ∈ lw_gd := zgin_9 (List.mem_of_getElem? (i := 18) rfl) rfl
theorem wd_t_1939 : Cond.selects RX12 yX12_works yX12_works ∈ lw_gd := zgin_9 (List.mem_of_getElem? (i := 19) rfl) rfl
theorem wd_t_1100 : Cond.methodLink RL 119 yX11_store ∈ lw_gd := zgin_5 (List.mem_of_getElem? (i := 140) rfl) rfl
theorem wd_t_1101 : Cond.instanceMethod yX11_store ∈ lw_gd := zgin_5 (List.mem_of_getElem? (i := 141) rfl) rfl
theorem wd_t_1102 : Cond.selects RX11 yX11_store yX11_store ∈ lw_gd := zgin_5 (List.mem_of_getElem? (i := 142) rfl) rfl
theorem wd_t_1985 : Cond.methodLink RL 122 yX12_store ∈ lw_gd := zgin_9 (List.mem_of_getElem? (i := 65) rfl) rfl
theorem wd_t_1986 : Cond.instanceMethod yX12_store ∈ lw_gd := zgin_9 (List.mem_of_getElem? (i := 66) rfl) rfl
theorem wd_t_1987 : Cond.selects RX12 yX12_store yX12_store ∈ lw_gd := zgin_9 (List.mem_of_getElem? (i := 67) rfl) rfl
theorem wd_t_1110 : Cond.methodLink RL 123 yX11_month ∈ lw_gd := zgin_5 (List.mem_of_getElem? (i := 150) rfl) rfl
theorem wd_t_1111 : Cond.instanceMethod yX11_month ∈ lw_gd := zgin_5 (List.mem_of_getElem? (i := 151) rfl) rfl
theorem wd_t_1112 : Cond.selects RX11 yX11_month yX11_month ∈ lw_gd := zgin_5 (List.mem_of_getElem? (i := 152) rfl) rfl
theorem wd_t_1989 : Cond.methodLink RL 126 yX12_month ∈ lw_gd := zgin_9 (List.mem_of_getElem? (i := 69) rfl) rfl
theorem wd_t_1990 : Cond.instanceMethod yX12_month ∈ lw_gd := zgin_9 (List.mem_of_getElem? (i := 70) rfl) rfl
theorem wd_t_1991 : Cond.selects RX12 yX12_month yX12_month ∈ lw_gd := zgin_9 (List.mem_of_getElem? (i := 71) rfl) rfl
theorem wd_t_1141 : Cond.methodLink RL 127 yX11_ration ∈ lw_gd := zgin_5 (List.mem_of_getElem? (i := 181) rfl) rfl
theorem wd_t_1142 : Cond.instanceMethod yX11_ration ∈ lw_gd := zgin_5 (List.mem_of_getElem? (i := 182) rfl) rfl
theorem wd_t_1143 : Cond.selects RX11 yX11_ration yX11_ration ∈ lw_gd := zgin_5 (List.mem_of_getElem? (i := 183) rfl) rfl
theorem wd_t_2009 : Cond.methodLink RL 130 yX12_ration ∈ lw_gd := zgin_9 (List.mem_of_getElem? (i := 89) rfl) rfl
theorem wd_t_2010 : Cond.instanceMethod yX12_ration ∈ lw_gd := zgin_9 (List.mem_of_getElem? (i := 90) rfl) rfl
theorem wd_t_2011 : Cond.selects RX12 yX12_ration yX12_ration ∈ lw_gd := zgin_9 (List.mem_of_getElem? (i := 91) rfl) rfl
theorem wd_t_1149 : Cond.methodLink RL 131 yX11_book ∈ lw_gd := zgin_5 (List.mem_of_getElem? (i := 189) rfl) rfl
theorem wd_t_1150 : Cond.instanceMethod yX11_book ∈ lw_gd := zgin_5 (List.mem_of_getElem? (i := 190) rfl) rfl
theorem wd_t_1151 : Cond.selects RX11 yX11_book yX11_book ∈ lw_gd := zgin_5 (List.mem_of_getElem? (i := 191) rfl) rfl
theorem wd_t_2013 : Cond.methodLink RL 134 yX12_book ∈ lw_gd := zgin_9 (List.mem_of_getElem? (i := 93) rfl) rfl
theorem wd_t_2014 : Cond.instanceMethod yX12_book ∈ lw_gd := zgin_9 (List.mem_of_getElem? (i := 94) rfl) rfl
theorem wd_t_2015 : Cond.selects RX12 yX12_book yX12_book ∈ lw_gd := zgin_9 (List.mem_of_getElem? (i := 95) rfl) rfl
theorem wd_t_1158 : Cond.methodLink RL 135 yX11_flock ∈ lw_gd := zgin_5 (List.mem_of_getElem? (i := 198) rfl) rfl
theorem wd_t_1159 : Cond.instanceMethod yX11_flock ∈ lw_gd := zgin_5 (List.mem_of_getElem? (i := 199) rfl) rfl
theorem wd_t_1160 : Cond.selects RX11 yX11_flock yX11_flock ∈ lw_gd := zgin_5 (List.mem_of_getElem? (i := 200) rfl) rfl
theorem wd_t_2017 : Cond.methodLink RL 138 yX12_flock ∈ lw_gd := zgin_9 (List.mem_of_getElem? (i := 97) rfl) rfl
theorem wd_t_2018 : Cond.instanceMethod yX12_flock ∈ lw_gd := zgin_9 (List.mem_of_getElem? (i := 98) rfl) rfl
theorem wd_t_2019 : Cond.selects RX12 yX12_flock yX12_flock ∈ lw_gd := zgin_9 (List.mem_of_getElem? (i := 99) rfl) rfl
theorem wd_t_1169 : Cond.methodLink RL 139 yX11_found ∈ lw_gd := zgin_5 (List.mem_of_getElem? (i := 209) rfl) rfl
theorem wd_t_1170 : Cond.instanceMethod yX11_found ∈ lw_gd := zgin_5 (List.mem_of_getElem? (i := 210) rfl) rfl
theorem wd_t_1171 : Cond.selects RX11 yX11_found yX11_found ∈ lw_gd := zgin_5 (List.mem_of_getElem? (i := 211) rfl) rfl
theorem wd_t_2025 : Cond.methodLink RL 143 yX12_found ∈ lw_gd := zgin_9 (List.mem_of_getElem? (i := 105) rfl) rfl
theorem wd_t_2026 : Cond.instanceMethod yX12_found ∈ lw_gd := zgin_9 (List.mem_of_getElem? (i := 106) rfl) rfl
theorem wd_t_2027 : Cond.selects RX12 yX12_found yX12_found ∈ lw_gd := zgin_9 (List.mem_of_getElem? (i := 107) rfl) rfl
theorem wd_t_1177 : Cond.methodLink RL 144 yX11_flockAt ∈ lw_gd := zgin_5 (List.mem_of_getElem? (i := 217) rfl) rfl
theorem wd_t_1178 : Cond.instanceMethod yX11_flockAt ∈ lw_gd := zgin_5 (List.mem_of_getElem? (i := 218) rfl) rfl
theorem wd_t_1179 : Cond.selects RX11 yX11_flockAt yX11_flockAt ∈ lw_gd := zgin_5 (List.mem_of_getElem? (i := 219) rfl) rfl
theorem wd_t_2033 : Cond.methodLink RL 148 yX12_flockAt ∈ lw_gd := zgin_9 (List.mem_of_getElem? (i := 113) rfl) rfl
theorem wd_t_2034 : Cond.instanceMethod yX12_flockAt ∈ lw_gd := zgin_9 (List.mem_of_getElem? (i := 114) rfl) rfl
theorem wd_t_2035 : Cond.selects RX12 yX12_flockAt yX12_flockAt ∈ lw_gd := zgin_9 (List.mem_of_getElem? (i := 115) rfl) rfl
theorem wd_t_1210 : Cond.methodLink RL 149 yX11_interest ∈ lw_gd := zgin_6 (List.mem_of_getElem? (i := 10) rfl) rfl
theorem wd_t_1211 : Cond.instanceMethod yX11_interest ∈ lw_gd := zgin_6 (List.mem_of_getElem? (i := 11) rfl) rfl
theorem wd_t_1212 : Cond.selects RX11 yX11_interest yX11_interest ∈ lw_gd := zgin_6 (List.mem_of_getElem? (i := 12) rfl) rfl
theorem wd_t_2053 : Cond.methodLink RL 152 yX12_interest ∈ lw_gd := zgin_9 (List.mem_of_getElem? (i := 133) rfl) rfl
theorem wd_t_2054 : Cond.instanceMethod yX12_interest ∈ lw_gd := zgin_9 (List.mem_of_getElem? (i := 134) rfl) rfl
theorem wd_t_2055 : Cond.selects RX12 yX12_interest yX12_interest ∈ lw_gd := zgin_9 (List.mem_of_getElem? (i := 135) rfl) rfl
theorem wd_t_1220 : Cond.methodLink RL 153 yX11_loan ∈ lw_gd := zgin_6 (List.mem_of_getElem? (i := 20) rfl) rfl
theorem wd_t_1221 : Cond.instanceMethod yX11_loan ∈ lw_gd := zgin_6 (List.mem_of_getElem? (i := 21) rfl) rfl
theorem wd_t_1222 : Cond.selects RX11 yX11_loan yX11_loan ∈ lw_gd := zgin_6 (List.mem_of_getElem? (i := 22) rfl) rfl
theorem wd_t_2057 : Cond.methodLink RL 156 yX12_loan ∈ lw_gd := zgin_9 (List.mem_of_getElem? (i := 137) rfl) rfl
theorem wd_t_2058 : Cond.instanceMethod yX12_loan ∈ lw_gd := zgin_9 (List.mem_of_getElem? (i := 138) rfl) rfl
theorem wd_t_2059 : Cond.selects RX12 yX12_loan yX12_loan ∈ lw_gd := zgin_9 (List.mem_of_getElem? (i := 139) rfl) rfl
theorem wd_t_1230 : Cond.methodLink RL 157 yX11_pay ∈ lw_gd := zgin_6 (List.mem_of_getElem? (i := 30) rfl) rfl
theorem wd_t_1231 : Cond.instanceMethod yX11_pay ∈ lw_gd := zgin_6 (List.mem_of_getElem? (i := 31) rfl) rfl
theorem wd_t_1232 : Cond.selects RX11 yX11_pay yX11_pay ∈ lw_gd := zgin_6 (List.mem_of_getElem? (i := 32) rfl) rfl
theorem wd_t_2061 : Cond.methodLink RL 160 yX12_pay ∈ lw_gd := zgin_9 (List.mem_of_getElem? (i := 141) rfl) rfl
theorem wd_t_2062 : Cond.instanceMethod yX12_pay ∈ lw_gd := zgin_9 (List.mem_of_getElem? (i := 142) rfl) rfl
theorem wd_t_2063 : Cond.selects RX12 yX12_pay yX12_pay ∈ lw_gd := zgin_9 (List.mem_of_getElem? (i := 143) rfl) rfl
theorem wd_t_1238 : Cond.methodLink RL 161 yX11_edict ∈ lw_gd := zgin_6 (List.mem_of_getElem? (i := 38) rfl) rfl
theorem wd_t_1239 : Cond.instanceMethod yX11_edict ∈ lw_gd := zgin_6 (List.mem_of_getElem? (i := 39) rfl) rfl
theorem wd_t_1240 : Cond.selects RX11 yX11_edict yX11_edict ∈ lw_gd := zgin_6 (List.mem_of_getElem? (i := 40) rfl) rfl
theorem wd_t_2069 : Cond.methodLink RL 164 yX12_edict ∈ lw_gd := zgin_9 (List.mem_of_getElem? (i := 149) rfl) rfl
theorem wd_t_2070 : Cond.instanceMethod yX12_edict ∈ lw_gd := zgin_9 (List.mem_of_getElem? (i := 150) rfl) rfl
theorem wd_t_2071 : Cond.selects RX12 yX12_edict yX12_edict ∈ lw_gd := zgin_9 (List.mem_of_getElem? (i := 151) rfl) rfl
theorem wd_t_1247 : Cond.methodLink RL 165 yX11_owed ∈ lw_gd := zgin_6 (List.mem_of_getElem? (i := 47) rfl) rfl
theorem wd_t_1248 : Cond.instanceMethod yX11_owed ∈ lw_gd := zgin_6 (List.mem_of_getElem? (i := 48) rfl) rfl
theorem wd_t_1249 : Cond.selects RX11 yX11_owed yX11_owed ∈ lw_gd := zgin_6 (List.mem_of_getElem? (i := 49) rfl) rfl
theorem wd_t_2073 : Cond.methodLink RL 168 yX12_owed ∈ lw_gd := zgin_9 (List.mem_of_getElem? (i := 153) rfl) rfl
theorem wd_t_2074 : Cond.instanceMethod yX12_owed ∈ lw_gd := zgin_9 (List.mem_of_getElem? (i := 154) rfl) rfl
theorem wd_t_2075 : Cond.selects RX12 yX12_owed yX12_owed ∈ lw_gd := zgin_9 (List.mem_of_getElem? (i := 155) rfl) rfl
theorem wd_t_1266 : Cond.methodLink RL 169 yX11_field ∈ lw_gd := zgin_6 (List.mem_of_getElem? (i := 66) rfl) rfl
theorem wd_t_1267 : Cond.instanceMethod yX11_field ∈ lw_gd := zgin_6 (List.mem_of_getElem? (i := 67) rfl) rfl
theorem wd_t_1268 : Cond.selects RX11 yX11_field yX11_field ∈ lw_gd := zgin_6 (List.mem_of_getElem? (i := 68) rfl) rfl
theorem wd_t_2083 : Cond.methodLink RL 173 yX12_field ∈ lw_gd := zgin_9 (List.mem_of_getElem? (i := 163) rfl) rfl
theorem wd_t_2084 : Cond.instanceMethod yX12_field ∈ lw_gd := zgin_9 (List.mem_of_getElem? (i := 164) rfl) rfl
theorem wd_t_2085 : Cond.selects RX12 yX12_field yX12_field ∈ lw_gd := zgin_9 (List.mem_of_getElem? (i := 165) rfl) rfl
theorem wd_t_1288 : Cond.methodLink RL 174 yX11_look ∈ lw_gd := zgin_6 (List.mem_of_getElem? (i := 88) rfl) rfl
theorem wd_t_1289 : Cond.instanceMethod yX11_look ∈ lw_gd := zgin_6 (List.mem_of_getElem? (i := 89) rfl) rfl
theorem wd_t_1290 : Cond.selects RX11 yX11_look yX11_look ∈ lw_gd := zgin_6 (List.mem_of_getElem? (i := 90) rfl) rfl
theorem wd_t_2100 : Cond.methodLink RL 178 yX12_look ∈ lw_gd := zgin_9 (List.mem_of_getElem? (i := 180) rfl) rfl
theorem wd_t_2101 : Cond.instanceMethod yX12_look ∈ lw_gd := zgin_9 (List.mem_of_getElem? (i := 181) rfl) rfl
theorem wd_t_2102 : Cond.selects RX12 yX12_look yX12_look ∈ lw_gd := zgin_9 (List.mem_of_getElem? (i := 182) rfl) rfl
theorem wd_t_200 : Cond.laysFinal RX0 RX0 "weights" "[I" ∈ lw_gd := zgin_1 (List.mem_of_getElem? (i := 200) rfl) rfl
theorem wd_t_202 : Cond.laysFinal RX0 RX0 "marks" "[I" ∈ lw_gd := zgin_1 (List.mem_of_getElem? (i := 202) rfl) rfl
theorem wd_t_204 : Cond.laysFinal RX0 RX0 "inside" "[I" ∈ lw_gd := zgin_1 (List.mem_of_getElem? (i := 204) rfl) rfl
theorem wd_t_206 : Cond.laysFinal RX0 RX0 "rattled" "[I" ∈ lw_gd := zgin_1 (List.mem_of_getElem? (i := 206) rfl) rfl
theorem wd_t_208 : Cond.laysFinal RX0 RX0 "weighed" "[I" ∈ lw_gd := zgin_1 (List.mem_of_getElem? (i := 208) rfl) rfl
theorem wd_t_210 : Cond.laysFinal RX0 RX0 "opened" "[Z" ∈ lw_gd := zgin_1 (List.mem_of_getElem? (i := 210) rfl) rfl
theorem wd_t_212 : Cond.lays RX0 RX0 "ways" "I" ∈ lw_gd := zgin_1 (List.mem_of_getElem? (i := 212) rfl) rfl
theorem wd_t_214 : Cond.lays RX0 RX0 "lies" "I" ∈ lw_gd := zgin_1 (List.mem_of_getElem? (i := 214) rfl) rfl
theorem wd_t_216 : Cond.laysFinal RX0 RX0 "least" "[I" ∈ lw_gd := zgin_1 (List.mem_of_getElem? (i := 216) rfl) rfl
theorem wd_t_218 : Cond.laysFinal RX0 RX0 "greatest" "[I" ∈ lw_gd := zgin_1 (List.mem_of_getElem? (i := 218) rfl) rfl
theorem wd_t_220 : Cond.laysFinal RX0 RX0 "trial" "[I" ∈ lw_gd := zgin_1 (List.mem_of_getElem? (i := 220) rfl) rfl
theorem wd_t_117 : Cond.laysFinal RX1 RX1 "tape" "LClayHouse$Tape;" ∈ lw_gd := zgin_1 (List.mem_of_getElem? (i := 117) rfl) rfl
theorem wd_t_119 : Cond.laysFinal RX1 RX1 "numbers" "LClayHouse$Numbers;" ∈ lw_gd := zgin_1 (List.mem_of_getElem? (i := 119) rfl) rfl
theorem wd_t_121 : Cond.lays RX1 RX1 "lines" "I" ∈ lw_gd := zgin_1 (List.mem_of_getElem? (i := 121) rfl) rfl
theorem wd_t_123 : Cond.laysFinal RX1 RX1 "sorts" "[I" ∈ lw_gd := zgin_1 (List.mem_of_getElem? (i := 123) rfl) rfl
theorem wd_t_125 : Cond.laysFinal RX1 RX1 "goods" "[I" ∈ lw_gd := zgin_1 (List.mem_of_getElem? (i := 125) rfl) rfl
theorem wd_t_127 : Cond.laysFinal RX1 RX1 "bases" "[I" ∈ lw_gd := zgin_1 (List.mem_of_getElem? (i := 127) rfl) rfl
theorem wd_t_129 : Cond.laysFinal RX1 RX1 "least" "[I" ∈ lw_gd := zgin_1 (List.mem_of_getElem? (i := 129) rfl) rfl
theorem wd_t_131 : Cond.laysFinal RX1 RX1 "greatest" "[I" ∈ lw_gd := zgin_1 (List.mem_of_getElem? (i := 131) rfl) rfl
theorem wd_t_133 : Cond.laysFinal RX1 RX1 "blocks" "[I" ∈ lw_gd := zgin_1 (List.mem_of_getElem? (i := 133) rfl) rfl
theorem wd_t_135 : Cond.laysFinal RX1 RX1 "openBlock" "[I" ∈ lw_gd := zgin_1 (List.mem_of_getElem? (i := 135) rfl) rfl
theorem wd_t_137 : Cond.laysFinal RX1 RX1 "closed" "[Z" ∈ lw_gd := zgin_1 (List.mem_of_getElem? (i := 137) rfl) rfl
theorem wd_t_139 : Cond.laysFinal RX1 RX1 "totals" "[I" ∈ lw_gd := zgin_1 (List.mem_of_getElem? (i := 139) rfl) rfl
theorem wd_t_141 : Cond.laysFinal RX1 RX1 "fills" "[I" ∈ lw_gd := zgin_1 (List.mem_of_getElem? (i := 141) rfl) rfl
theorem wd_t_143 : Cond.laysFinal RX1 RX1 "lostLine" "[I" ∈ lw_gd := zgin_1 (List.mem_of_getElem? (i := 143) rfl) rfl
theorem wd_t_145 : Cond.laysFinal RX1 RX1 "marks" "[I" ∈ lw_gd := zgin_1 (List.mem_of_getElem? (i := 145) rfl) rfl
theorem wd_t_147 : Cond.laysFinal RX1 RX1 "markLine" "[I" ∈ lw_gd := zgin_1 (List.mem_of_getElem? (i := 147) rfl) rfl
theorem wd_t_149 : Cond.laysFinal RX1 RX1 "markWorth" "[I" ∈ lw_gd := zgin_1 (List.mem_of_getElem? (i := 149) rfl) rfl
theorem wd_t_151 : Cond.laysFinal RX1 RX1 "markMost" "[I" ∈ lw_gd := zgin_1 (List.mem_of_getElem? (i := 151) rfl) rfl
theorem wd_t_370 : Cond.lays RX2 RX2 "rate" "I" ∈ lw_gd := zgin_2 (List.mem_of_getElem? (i := 130) rfl) rfl
theorem wd_t_372 : Cond.lays RX2 RX2 "loss" "I" ∈ lw_gd := zgin_2 (List.mem_of_getElem? (i := 132) rfl) rfl
theorem wd_t_374 : Cond.lays RX2 RX2 "count" "I" ∈ lw_gd := zgin_2 (List.mem_of_getElem? (i := 134) rfl) rfl
theorem wd_t_376 : Cond.laysFinal RX2 RX2 "came" "[I" ∈ lw_gd := zgin_2 (List.mem_of_getElem? (i := 136) rfl) rfl
theorem wd_t_378 : Cond.laysFinal RX2 RX2 "cameWith" "[I" ∈ lw_gd := zgin_2 (List.mem_of_getElem? (i := 138) rfl) rfl
theorem wd_t_380 : Cond.lays RX2 RX2 "finds" "I" ∈ lw_gd := zgin_2 (List.mem_of_getElem? (i := 140) rfl) rfl
theorem wd_t_382 : Cond.laysFinal RX2 RX2 "foundFlock" "[I" ∈ lw_gd := zgin_2 (List.mem_of_getElem? (i := 142) rfl) rfl
theorem wd_t_384 : Cond.laysFinal RX2 RX2 "foundYear" "[I" ∈ lw_gd := zgin_2 (List.mem_of_getElem? (i := 144) rfl) rfl
theorem wd_t_386 : Cond.laysFinal RX2 RX2 "foundTold" "[I" ∈ lw_gd := zgin_2 (List.mem_of_getElem? (i := 146) rfl) rfl
theorem wd_t_388 : Cond.laysFinal RX2 RX2 "foundParts" "[I" ∈ lw_gd := zgin_2 (List.mem_of_getElem? (i := 148) rfl) rfl
theorem wd_t_390 : Cond.laysFinal RX2 RX2 "parts" "[I" ∈ lw_gd := zgin_2 (List.mem_of_getElem? (i := 150) rfl) rfl
theorem wd_t_260 : Cond.lays RX3 RX3 "count" "I" ∈ lw_gd := zgin_2 (List.mem_of_getElem? (i := 20) rfl) rfl
theorem wd_t_262 : Cond.laysFinal RX3 RX3 "hands" "[I" ∈ lw_gd := zgin_2 (List.mem_of_getElem? (i := 22) rfl) rfl
theorem wd_t_264 : Cond.laysFinal RX3 RX3 "lefts" "[I" ∈ lw_gd := zgin_2 (List.mem_of_getElem? (i := 24) rfl) rfl
theorem wd_t_266 : Cond.laysFinal RX3 RX3 "rights" "[I" ∈ lw_gd := zgin_2 (List.mem_of_getElem? (i := 26) rfl) rfl
theorem wd_t_268 : Cond.laysFinal RX3 RX3 "gaps" "[I" ∈ lw_gd := zgin_2 (List.mem_of_getElem? (i := 28) rfl) rfl
theorem wd_t_270 : Cond.laysFinal RX3 RX3 "ways" "[I" ∈ lw_gd := zgin_2 (List.mem_of_getElem? (i := 30) rfl) rfl
theorem wd_t_410 : Cond.laysFinal RX4 RX4 "interests" "[I" ∈ lw_gd := zgin_2 (List.mem_of_getElem? (i := 170) rfl) rfl
theorem wd_t_412 : Cond.laysFinal RX4 RX4 "edicts" "[Z" ∈ lw_gd := zgin_2 (List.mem_of_getElem? (i := 172) rfl) rfl
theorem wd_t_414 : Cond.lays RX4 RX4 "count" "I" ∈ lw_gd := zgin_2 (List.mem_of_getElem? (i := 174) rfl) rfl
theorem wd_t_416 : Cond.laysFinal RX4 RX4 "goods" "[I" ∈ lw_gd := zgin_2 (List.mem_of_getElem? (i := 176) rfl) rfl
theorem wd_t_418 : Cond.laysFinal RX4 RX4 "sums" "[I" ∈ lw_gd := zgin_2 (List.mem_of_getElem? (i := 178) rfl) rfl
theorem wd_t_420 : Cond.laysFinal RX4 RX4 "years" "[I" ∈ lw_gd := zgin_2 (List.mem_of_getElem? (i := 180) rfl) rfl
theorem wd_t_422 : Cond.lays RX4 RX4 "payments" "I" ∈ lw_gd := zgin_2 (List.mem_of_getElem? (i := 182) rfl) rfl
theorem wd_t_424 : Cond.laysFinal RX4 RX4 "paidOn" "[I" ∈ lw_gd := zgin_2 (List.mem_of_getElem? (i := 184) rfl) rfl
theorem wd_t_426 : Cond.laysFinal RX4 RX4 "paidIn" "[I" ∈ lw_gd := zgin_2 (List.mem_of_getElem? (i := 186) rfl) rfl
theorem wd_t_428 : Cond.laysFinal RX4 RX4 "paidTold" "[I" ∈ lw_gd := zgin_2 (List.mem_of_getElem? (i := 188) rfl) rfl
theorem wd_t_430 : Cond.laysFinal RX4 RX4 "paid" "[I" ∈ lw_gd := zgin_2 (List.mem_of_getElem? (i := 190) rfl) rfl
theorem wd_t_42 : Cond.laysFinal RX5 RX5 "signs" "[I" ∈ lw_gd := zgin_1 (List.mem_of_getElem? (i := 42) rfl) rfl
theorem wd_t_44 : Cond.laysFinal RX5 RX5 "steps" "[I" ∈ lw_gd := zgin_1 (List.mem_of_getElem? (i := 44) rfl) rfl
theorem wd_t_46 : Cond.laysFinal RX5 RX5 "systems" "[I" ∈ lw_gd := zgin_1 (List.mem_of_getElem? (i := 46) rfl) rfl
theorem wd_t_334 : Cond.laysFinal RX6 RX6 "rules" "LClayHouse$Rules;" ∈ lw_gd := zgin_2 (List.mem_of_getElem? (i := 94) rfl) rfl
theorem wd_t_336 : Cond.lays RX6 RX6 "count" "I" ∈ lw_gd := zgin_2 (List.mem_of_getElem? (i := 96) rfl) rfl
theorem wd_t_338 : Cond.laysFinal RX6 RX6 "sorts" "[I" ∈ lw_gd := zgin_2 (List.mem_of_getElem? (i := 98) rfl) rfl
theorem wd_t_340 : Cond.laysFinal RX6 RX6 "ages" "[I" ∈ lw_gd := zgin_2 (List.mem_of_getElem? (i := 100) rfl) rfl
theorem wd_t_342 : Cond.laysFinal RX6 RX6 "days" "[I" ∈ lw_gd := zgin_2 (List.mem_of_getElem? (i := 102) rfl) rfl
theorem wd_t_344 : Cond.laysFinal RX6 RX6 "kids" "[I" ∈ lw_gd := zgin_2 (List.mem_of_getElem? (i := 104) rfl) rfl
theorem wd_t_346 : Cond.laysFinal RX6 RX6 "stored" "[I" ∈ lw_gd := zgin_2 (List.mem_of_getElem? (i := 106) rfl) rfl
theorem wd_t_348 : Cond.lays RX6 RX6 "allShort" "J" ∈ lw_gd := zgin_2 (List.mem_of_getElem? (i := 108) rfl) rfl
theorem wd_t_350 : Cond.laysFinal RX6 RX6 "facts" "[I" ∈ lw_gd := zgin_2 (List.mem_of_getElem? (i := 110) rfl) rfl
theorem wd_t_292 : Cond.laysFinal RX7 RX7 "tape" "LClayHouse$Tape;" ∈ lw_gd := zgin_2 (List.mem_of_getElem? (i := 52) rfl) rfl
theorem wd_t_294 : Cond.lays RX7 RX7 "gives" "I" ∈ lw_gd := zgin_2 (List.mem_of_getElem? (i := 54) rfl) rfl
theorem wd_t_296 : Cond.laysFinal RX7 RX7 "code" "[I" ∈ lw_gd := zgin_2 (List.mem_of_getElem? (i := 56) rfl) rfl
theorem wd_t_298 : Cond.laysFinal RX7 RX7 "goods" "[I" ∈ lw_gd := zgin_2 (List.mem_of_getElem? (i := 58) rfl) rfl
theorem wd_t_300 : Cond.laysFinal RX7 RX7 "whens" "[I" ∈ lw_gd := zgin_2 (List.mem_of_getElem? (i := 60) rfl) rfl
theorem wd_t_302 : Cond.laysFinal RX7 RX7 "ends" "[I" ∈ lw_gd := zgin_2 (List.mem_of_getElem? (i := 62) rfl) rfl
theorem wd_t_304 : Cond.lays RX7 RX7 "newGives" "I" ∈ lw_gd := zgin_2 (List.mem_of_getElem? (i := 64) rfl) rfl
theorem wd_t_306 : Cond.lays RX7 RX7 "newSize" "I" ∈ lw_gd := zgin_2 (List.mem_of_getElem? (i := 66) rfl) rfl
theorem wd_t_308 : Cond.laysFinal RX7 RX7 "newCode" "[I" ∈ lw_gd := zgin_2 (List.mem_of_getElem? (i := 68) rfl) rfl
theorem wd_t_310 : Cond.laysFinal RX7 RX7 "newGoods" "[I" ∈ lw_gd := zgin_2 (List.mem_of_getElem? (i := 70) rfl) rfl
theorem wd_t_312 : Cond.laysFinal RX7 RX7 "newWhens" "[I" ∈ lw_gd := zgin_2 (List.mem_of_getElem? (i := 72) rfl) rfl
theorem wd_t_314 : Cond.laysFinal RX7 RX7 "newEnds" "[I" ∈ lw_gd := zgin_2 (List.mem_of_getElem? (i := 74) rfl) rfl
theorem wd_t_316 : Cond.laysFinal RX7 RX7 "stack" "[I" ∈ lw_gd := zgin_2 (List.mem_of_getElem? (i := 76) rfl) rfl
theorem wd_t_235 : Cond.lays RX8 RX8 "count" "I" ∈ lw_gd := zgin_1 (List.mem_of_getElem? (i := 235) rfl) rfl
theorem wd_t_237 : Cond.laysFinal RX8 RX8 "under" "[I" ∈ lw_gd := zgin_1 (List.mem_of_getElem? (i := 237) rfl) rfl
theorem wd_t_239 : Cond.laysFinal RX8 RX8 "orders" "[I" ∈ lw_gd := zgin_1 (List.mem_of_getElem? (i := 239) rfl) rfl
theorem wd_t_241 : Cond.laysFinal RX8 RX8 "first" "[I" ∈ lw_gd := zgin_2 (List.mem_of_getElem? (i := 1) rfl) rfl
theorem wd_t_243 : Cond.laysFinal RX8 RX8 "ring" "[I" ∈ lw_gd := zgin_2 (List.mem_of_getElem? (i := 3) rfl) rfl
theorem wd_t_245 : Cond.laysFinal RX8 RX8 "leadsBack" "[I" ∈ lw_gd := zgin_2 (List.mem_of_getElem? (i := 5) rfl) rfl
theorem wd_t_168 : Cond.laysFinal RX9 RX9 "years" "[I" ∈ lw_gd := zgin_1 (List.mem_of_getElem? (i := 168) rfl) rfl
theorem wd_t_170 : Cond.laysFinal RX9 RX9 "sizes" "[I" ∈ lw_gd := zgin_1 (List.mem_of_getElem? (i := 170) rfl) rfl
theorem wd_t_172 : Cond.laysFinal RX9 RX9 "sorts" "[I" ∈ lw_gd := zgin_1 (List.mem_of_getElem? (i := 172) rfl) rfl
theorem wd_t_174 : Cond.laysFinal RX9 RX9 "goods" "[I" ∈ lw_gd := zgin_1 (List.mem_of_getElem? (i := 174) rfl) rfl
theorem wd_t_176 : Cond.laysFinal RX9 RX9 "least" "[I" ∈ lw_gd := zgin_1 (List.mem_of_getElem? (i := 176) rfl) rfl
theorem wd_t_178 : Cond.laysFinal RX9 RX9 "greatest" "[I" ∈ lw_gd := zgin_1 (List.mem_of_getElem? (i := 178) rfl) rfl
theorem wd_t_180 : Cond.laysFinal RX9 RX9 "fills" "[I" ∈ lw_gd := zgin_1 (List.mem_of_getElem? (i := 180) rfl) rfl
theorem wd_t_65 : Cond.laysFinal RX10 RX10 "text" "[C" ∈ lw_gd := zgin_1 (List.mem_of_getElem? (i := 65) rfl) rfl
theorem wd_t_67 : Cond.lays RX10 RX10 "length" "I" ∈ lw_gd := zgin_1 (List.mem_of_getElem? (i := 67) rfl) rfl
theorem wd_t_69 : Cond.laysFinal RX10 RX10 "kinds" "[I" ∈ lw_gd := zgin_1 (List.mem_of_getElem? (i := 69) rfl) rfl
theorem wd_t_71 : Cond.laysFinal RX10 RX10 "values" "[I" ∈ lw_gd := zgin_1 (List.mem_of_getElem? (i := 71) rfl) rfl
theorem wd_t_73 : Cond.laysFinal RX10 RX10 "places" "[I" ∈ lw_gd := zgin_1 (List.mem_of_getElem? (i := 73) rfl) rfl
theorem wd_t_75 : Cond.lays RX10 RX10 "tokens" "I" ∈ lw_gd := zgin_1 (List.mem_of_getElem? (i := 75) rfl) rfl
theorem wd_t_77 : Cond.lays RX10 RX10 "at" "I" ∈ lw_gd := zgin_1 (List.mem_of_getElem? (i := 77) rfl) rfl
theorem wd_t_79 : Cond.lays RX10 RX10 "fault" "I" ∈ lw_gd := zgin_1 (List.mem_of_getElem? (i := 79) rfl) rfl
theorem wd_t_81 : Cond.lays RX10 RX10 "faultPlace" "I" ∈ lw_gd := zgin_1 (List.mem_of_getElem? (i := 81) rfl) rfl
theorem wd_t_445 : Cond.laysFinal RX11 RX11 "numbers" "LClayHouse$Numbers;" ∈ lw_gd := zgin_2 (List.mem_of_getElem? (i := 205) rfl) rfl
theorem wd_t_447 : Cond.laysFinal RX11 RX11 "tape" "LClayHouse$Tape;" ∈ lw_gd := zgin_2 (List.mem_of_getElem? (i := 207) rfl) rfl
theorem wd_t_449 : Cond.laysFinal RX11 RX11 "draft" "LClayHouse$Draft;" ∈ lw_gd := zgin_2 (List.mem_of_getElem? (i := 209) rfl) rfl
theorem wd_t_451 : Cond.laysFinal RX11 RX11 "tablets" "LClayHouse$Tablets;" ∈ lw_gd := zgin_2 (List.mem_of_getElem? (i := 211) rfl) rfl
theorem wd_t_453 : Cond.laysFinal RX11 RX11 "balls" "LClayHouse$Balls;" ∈ lw_gd := zgin_2 (List.mem_of_getElem? (i := 213) rfl) rfl
theorem wd_t_455 : Cond.laysFinal RX11 RX11 "sealings" "LClayHouse$Sealings;" ∈ lw_gd := zgin_2 (List.mem_of_getElem? (i := 215) rfl) rfl
theorem wd_t_457 : Cond.laysFinal RX11 RX11 "fragments" "LClayHouse$Fragments;" ∈ lw_gd := zgin_2 (List.mem_of_getElem? (i := 217) rfl) rfl
theorem wd_t_459 : Cond.laysFinal RX11 RX11 "rules" "LClayHouse$Rules;" ∈ lw_gd := zgin_2 (List.mem_of_getElem? (i := 219) rfl) rfl
theorem wd_t_461 : Cond.laysFinal RX11 RX11 "people" "LClayHouse$People;" ∈ lw_gd := zgin_2 (List.mem_of_getElem? (i := 221) rfl) rfl
theorem wd_t_463 : Cond.laysFinal RX11 RX11 "flocks" "LClayHouse$Flocks;" ∈ lw_gd := zgin_2 (List.mem_of_getElem? (i := 223) rfl) rfl
theorem wd_t_465 : Cond.laysFinal RX11 RX11 "loans" "LClayHouse$Loans;" ∈ lw_gd := zgin_2 (List.mem_of_getElem? (i := 225) rfl) rfl
theorem wd_t_467 : Cond.lays RX11 RX11 "now" "I" ∈ lw_gd := zgin_2 (List.mem_of_getElem? (i := 227) rfl) rfl
theorem wd_t_1440 : Cond.lays RX12 RX12 "told" "I" ∈ lw_gd := zgin_7 (List.mem_of_getElem? (i := 0) rfl) rfl
theorem wd_t_1442 : Cond.lays RX12 RX12 "now" "I" ∈ lw_gd := zgin_7 (List.mem_of_getElem? (i := 2) rfl) rfl
theorem wd_t_1444 : Cond.laysFinal RX12 RX12 "signs" "[I" ∈ lw_gd := zgin_7 (List.mem_of_getElem? (i := 4) rfl) rfl
theorem wd_t_1446 : Cond.laysFinal RX12 RX12 "stepOf" "[I" ∈ lw_gd := zgin_7 (List.mem_of_getElem? (i := 6) rfl) rfl
theorem wd_t_1448 : Cond.laysFinal RX12 RX12 "systemOf" "[I" ∈ lw_gd := zgin_7 (List.mem_of_getElem? (i := 8) rfl) rfl
theorem wd_t_1450 : Cond.laysFinal RX12 RX12 "tape" "[I" ∈ lw_gd := zgin_7 (List.mem_of_getElem? (i := 10) rfl) rfl
theorem wd_t_1452 : Cond.lays RX12 RX12 "taped" "I" ∈ lw_gd := zgin_7 (List.mem_of_getElem? (i := 12) rfl) rfl
theorem wd_t_1454 : Cond.lays RX12 RX12 "at" "I" ∈ lw_gd := zgin_7 (List.mem_of_getElem? (i := 14) rfl) rfl
theorem wd_t_1456 : Cond.lays RX12 RX12 "from" "I" ∈ lw_gd := zgin_7 (List.mem_of_getElem? (i := 16) rfl) rfl
theorem wd_t_1458 : Cond.lays RX12 RX12 "token" "I" ∈ lw_gd := zgin_7 (List.mem_of_getElem? (i := 18) rfl) rfl
theorem wd_t_1460 : Cond.lays RX12 RX12 "value" "I" ∈ lw_gd := zgin_7 (List.mem_of_getElem? (i := 20) rfl) rfl
theorem wd_t_1462 : Cond.laysFinal RX12 RX12 "words" "[I" ∈ lw_gd := zgin_7 (List.mem_of_getElem? (i := 22) rfl) rfl
theorem wd_t_1464 : Cond.lays RX12 RX12 "readFault" "I" ∈ lw_gd := zgin_7 (List.mem_of_getElem? (i := 24) rfl) rfl
theorem wd_t_1466 : Cond.lays RX12 RX12 "readPlace" "I" ∈ lw_gd := zgin_7 (List.mem_of_getElem? (i := 26) rfl) rfl
theorem wd_t_1468 : Cond.lays RX12 RX12 "faultKind" "I" ∈ lw_gd := zgin_7 (List.mem_of_getElem? (i := 28) rfl) rfl
theorem wd_t_1470 : Cond.lays RX12 RX12 "faultPlace" "I" ∈ lw_gd := zgin_7 (List.mem_of_getElem? (i := 30) rfl) rfl
theorem wd_t_1472 : Cond.laysFinal RX12 RX12 "lineMany" "[I" ∈ lw_gd := zgin_7 (List.mem_of_getElem? (i := 32) rfl) rfl
theorem wd_t_1474 : Cond.laysFinal RX12 RX12 "yearOf" "[I" ∈ lw_gd := zgin_7 (List.mem_of_getElem? (i := 34) rfl) rfl
theorem wd_t_1476 : Cond.laysFinal RX12 RX12 "sortOf" "[I" ∈ lw_gd := zgin_7 (List.mem_of_getElem? (i := 36) rfl) rfl
theorem wd_t_1478 : Cond.laysFinal RX12 RX12 "goodOf" "[I" ∈ lw_gd := zgin_7 (List.mem_of_getElem? (i := 38) rfl) rfl
theorem wd_t_1480 : Cond.laysFinal RX12 RX12 "worth" "[J" ∈ lw_gd := zgin_7 (List.mem_of_getElem? (i := 40) rfl) rfl
theorem wd_t_1482 : Cond.laysFinal RX12 RX12 "isLost" "[Z" ∈ lw_gd := zgin_7 (List.mem_of_getElem? (i := 42) rfl) rfl
theorem wd_t_1484 : Cond.laysFinal RX12 RX12 "lostMany" "[I" ∈ lw_gd := zgin_7 (List.mem_of_getElem? (i := 44) rfl) rfl
theorem wd_t_1486 : Cond.laysFinal RX12 RX12 "lostUnit" "[J" ∈ lw_gd := zgin_7 (List.mem_of_getElem? (i := 46) rfl) rfl
theorem wd_t_1488 : Cond.laysFinal RX12 RX12 "lostMost" "[I" ∈ lw_gd := zgin_7 (List.mem_of_getElem? (i := 48) rfl) rfl
theorem wd_t_1490 : Cond.laysFinal RX12 RX12 "low" "[J" ∈ lw_gd := zgin_7 (List.mem_of_getElem? (i := 50) rfl) rfl
theorem wd_t_1492 : Cond.laysFinal RX12 RX12 "high" "[J" ∈ lw_gd := zgin_7 (List.mem_of_getElem? (i := 52) rfl) rfl
theorem wd_t_1494 : Cond.laysFinal RX12 RX12 "fills" "[I" ∈ lw_gd := zgin_7 (List.mem_of_getElem? (i := 54) rfl) rfl
theorem wd_t_1496 : Cond.laysFinal RX12 RX12 "countsIn" "[I" ∈ lw_gd := zgin_7 (List.mem_of_getElem? (i := 56) rfl) rfl
theorem wd_t_1498 : Cond.laysFinal RX12 RX12 "numbersIn" "[I" ∈ lw_gd := zgin_7 (List.mem_of_getElem? (i := 58) rfl) rfl
theorem wd_t_1500 : Cond.laysFinal RX12 RX12 "blockLine" "[I" ∈ lw_gd := zgin_7 (List.mem_of_getElem? (i := 60) rfl) rfl
theorem wd_t_1502 : Cond.lays RX12 RX12 "blockMany" "I" ∈ lw_gd := zgin_7 (List.mem_of_getElem? (i := 62) rfl) rfl
theorem wd_t_1504 : Cond.laysFinal RX12 RX12 "unknownLine" "[I" ∈ lw_gd := zgin_7 (List.mem_of_getElem? (i := 64) rfl) rfl
theorem wd_t_1506 : Cond.laysFinal RX12 RX12 "unknownUnit" "[J" ∈ lw_gd := zgin_7 (List.mem_of_getElem? (i := 66) rfl) rfl
theorem wd_t_1508 : Cond.laysFinal RX12 RX12 "unknownMost" "[I" ∈ lw_gd := zgin_7 (List.mem_of_getElem? (i := 68) rfl) rfl
theorem wd_t_1510 : Cond.lays RX12 RX12 "unknowns" "I" ∈ lw_gd := zgin_7 (List.mem_of_getElem? (i := 70) rfl) rfl
theorem wd_t_1512 : Cond.lays RX12 RX12 "lostLine" "I" ∈ lw_gd := zgin_7 (List.mem_of_getElem? (i := 72) rfl) rfl
theorem wd_t_1514 : Cond.laysFinal RX12 RX12 "filled" "[J" ∈ lw_gd := zgin_7 (List.mem_of_getElem? (i := 74) rfl) rfl
theorem wd_t_1516 : Cond.laysFinal RX12 RX12 "weightOf" "[I" ∈ lw_gd := zgin_7 (List.mem_of_getElem? (i := 76) rfl) rfl
theorem wd_t_1518 : Cond.laysFinal RX12 RX12 "rattled" "[I" ∈ lw_gd := zgin_7 (List.mem_of_getElem? (i := 78) rfl) rfl
theorem wd_t_1520 : Cond.laysFinal RX12 RX12 "weighed" "[I" ∈ lw_gd := zgin_7 (List.mem_of_getElem? (i := 80) rfl) rfl
theorem wd_t_1522 : Cond.laysFinal RX12 RX12 "isOpened" "[Z" ∈ lw_gd := zgin_7 (List.mem_of_getElem? (i := 82) rfl) rfl
theorem wd_t_1524 : Cond.laysFinal RX12 RX12 "inside" "[I" ∈ lw_gd := zgin_7 (List.mem_of_getElem? (i := 84) rfl) rfl
theorem wd_t_1526 : Cond.laysFinal RX12 RX12 "marks" "[I" ∈ lw_gd := zgin_7 (List.mem_of_getElem? (i := 86) rfl) rfl
theorem wd_t_1528 : Cond.lays RX12 RX12 "version" "I" ∈ lw_gd := zgin_7 (List.mem_of_getElem? (i := 88) rfl) rfl
theorem wd_t_1530 : Cond.lays RX12 RX12 "ballAsked" "I" ∈ lw_gd := zgin_7 (List.mem_of_getElem? (i := 90) rfl) rfl
theorem wd_t_1532 : Cond.lays RX12 RX12 "ballVersion" "I" ∈ lw_gd := zgin_7 (List.mem_of_getElem? (i := 92) rfl) rfl
theorem wd_t_1534 : Cond.lays RX12 RX12 "ballWays" "I" ∈ lw_gd := zgin_7 (List.mem_of_getElem? (i := 94) rfl) rfl
theorem wd_t_1536 : Cond.lays RX12 RX12 "ballLies" "I" ∈ lw_gd := zgin_7 (List.mem_of_getElem? (i := 96) rfl) rfl
theorem wd_t_1538 : Cond.laysFinal RX12 RX12 "ballLow" "[I" ∈ lw_gd := zgin_7 (List.mem_of_getElem? (i := 98) rfl) rfl
theorem wd_t_1540 : Cond.laysFinal RX12 RX12 "ballHigh" "[I" ∈ lw_gd := zgin_7 (List.mem_of_getElem? (i := 100) rfl) rfl
theorem wd_t_1542 : Cond.laysFinal RX12 RX12 "counts" "[I" ∈ lw_gd := zgin_7 (List.mem_of_getElem? (i := 102) rfl) rfl
theorem wd_t_1544 : Cond.lays RX12 RX12 "seals" "I" ∈ lw_gd := zgin_7 (List.mem_of_getElem? (i := 104) rfl) rfl
theorem wd_t_1546 : Cond.laysFinal RX12 RX12 "overOf" "[I" ∈ lw_gd := zgin_7 (List.mem_of_getElem? (i := 106) rfl) rfl
theorem wd_t_1548 : Cond.laysFinal RX12 RX12 "follow" "[I" ∈ lw_gd := zgin_7 (List.mem_of_getElem? (i := 108) rfl) rfl
theorem wd_t_1550 : Cond.laysFinal RX12 RX12 "ring" "[I" ∈ lw_gd := zgin_7 (List.mem_of_getElem? (i := 110) rfl) rfl
theorem wd_t_1552 : Cond.lays RX12 RX12 "fragments" "I" ∈ lw_gd := zgin_7 (List.mem_of_getElem? (i := 112) rfl) rfl
theorem wd_t_1554 : Cond.laysFinal RX12 RX12 "handOf" "[I" ∈ lw_gd := zgin_7 (List.mem_of_getElem? (i := 114) rfl) rfl
theorem wd_t_1556 : Cond.laysFinal RX12 RX12 "lefts" "[I" ∈ lw_gd := zgin_7 (List.mem_of_getElem? (i := 116) rfl) rfl
theorem wd_t_1558 : Cond.laysFinal RX12 RX12 "rights" "[I" ∈ lw_gd := zgin_7 (List.mem_of_getElem? (i := 118) rfl) rfl
theorem wd_t_1560 : Cond.laysFinal RX12 RX12 "leastGaps" "[I" ∈ lw_gd := zgin_7 (List.mem_of_getElem? (i := 120) rfl) rfl
theorem wd_t_1562 : Cond.laysFinal RX12 RX12 "waysFrom" "[I" ∈ lw_gd := zgin_7 (List.mem_of_getElem? (i := 122) rfl) rfl
theorem wd_t_1564 : Cond.lays RX12 RX12 "persons" "I" ∈ lw_gd := zgin_7 (List.mem_of_getElem? (i := 124) rfl) rfl
theorem wd_t_1566 : Cond.laysFinal RX12 RX12 "sortOfPerson" "[I" ∈ lw_gd := zgin_7 (List.mem_of_getElem? (i := 126) rfl) rfl
theorem wd_t_1568 : Cond.laysFinal RX12 RX12 "ageOf" "[I" ∈ lw_gd := zgin_7 (List.mem_of_getElem? (i := 128) rfl) rfl
theorem wd_t_1570 : Cond.laysFinal RX12 RX12 "motherOf" "[I" ∈ lw_gd := zgin_7 (List.mem_of_getElem? (i := 130) rfl) rfl
theorem wd_t_1572 : Cond.laysFinal RX12 RX12 "daysOf" "[I" ∈ lw_gd := zgin_7 (List.mem_of_getElem? (i := 132) rfl) rfl
theorem wd_t_1574 : Cond.lays RX12 RX12 "holds" "I" ∈ lw_gd := zgin_7 (List.mem_of_getElem? (i := 134) rfl) rfl
theorem wd_t_1576 : Cond.laysFinal RX12 RX12 "ruleMany" "[I" ∈ lw_gd := zgin_7 (List.mem_of_getElem? (i := 136) rfl) rfl
theorem wd_t_1578 : Cond.laysFinal RX12 RX12 "ruleGood" "[I" ∈ lw_gd := zgin_7 (List.mem_of_getElem? (i := 138) rfl) rfl
theorem wd_t_1580 : Cond.laysFinal RX12 RX12 "ruleFrom" "[I" ∈ lw_gd := zgin_7 (List.mem_of_getElem? (i := 140) rfl) rfl
theorem wd_t_1582 : Cond.laysFinal RX12 RX12 "ruleSum" "[I" ∈ lw_gd := zgin_7 (List.mem_of_getElem? (i := 142) rfl) rfl
theorem wd_t_1584 : Cond.laysFinal RX12 RX12 "ruleTo" "[I" ∈ lw_gd := zgin_7 (List.mem_of_getElem? (i := 144) rfl) rfl
theorem wd_t_1586 : Cond.laysFinal RX12 RX12 "op" "[I" ∈ lw_gd := zgin_7 (List.mem_of_getElem? (i := 146) rfl) rfl
theorem wd_t_1588 : Cond.laysFinal RX12 RX12 "arg" "[I" ∈ lw_gd := zgin_7 (List.mem_of_getElem? (i := 148) rfl) rfl
theorem wd_t_1590 : Cond.lays RX12 RX12 "many" "I" ∈ lw_gd := zgin_7 (List.mem_of_getElem? (i := 150) rfl) rfl
theorem wd_t_1592 : Cond.lays RX12 RX12 "open" "I" ∈ lw_gd := zgin_7 (List.mem_of_getElem? (i := 152) rfl) rfl
theorem wd_t_1594 : Cond.laysFinal RX12 RX12 "pending" "[I" ∈ lw_gd := zgin_7 (List.mem_of_getElem? (i := 154) rfl) rfl
theorem wd_t_1596 : Cond.lays RX12 RX12 "pendings" "I" ∈ lw_gd := zgin_7 (List.mem_of_getElem? (i := 156) rfl) rfl
theorem wd_t_1598 : Cond.laysFinal RX12 RX12 "asked" "[I" ∈ lw_gd := zgin_7 (List.mem_of_getElem? (i := 158) rfl) rfl
theorem wd_t_1600 : Cond.laysFinal RX12 RX12 "stack" "[I" ∈ lw_gd := zgin_7 (List.mem_of_getElem? (i := 160) rfl) rfl
theorem wd_t_1602 : Cond.laysFinal RX12 RX12 "stored" "[I" ∈ lw_gd := zgin_7 (List.mem_of_getElem? (i := 162) rfl) rfl
theorem wd_t_1604 : Cond.lays RX12 RX12 "shortAll" "J" ∈ lw_gd := zgin_7 (List.mem_of_getElem? (i := 164) rfl) rfl
theorem wd_t_1606 : Cond.lays RX12 RX12 "rate" "I" ∈ lw_gd := zgin_7 (List.mem_of_getElem? (i := 166) rfl) rfl
theorem wd_t_1608 : Cond.lays RX12 RX12 "loss" "I" ∈ lw_gd := zgin_7 (List.mem_of_getElem? (i := 168) rfl) rfl
theorem wd_t_1610 : Cond.lays RX12 RX12 "flocks" "I" ∈ lw_gd := zgin_7 (List.mem_of_getElem? (i := 170) rfl) rfl
theorem wd_t_1612 : Cond.laysFinal RX12 RX12 "flockYear" "[I" ∈ lw_gd := zgin_7 (List.mem_of_getElem? (i := 172) rfl) rfl
theorem wd_t_1614 : Cond.laysFinal RX12 RX12 "came" "[I" ∈ lw_gd := zgin_7 (List.mem_of_getElem? (i := 174) rfl) rfl
theorem wd_t_1616 : Cond.lays RX12 RX12 "founds" "I" ∈ lw_gd := zgin_7 (List.mem_of_getElem? (i := 176) rfl) rfl
theorem wd_t_1618 : Cond.laysFinal RX12 RX12 "foundOf" "[I" ∈ lw_gd := zgin_7 (List.mem_of_getElem? (i := 178) rfl) rfl
theorem wd_t_1620 : Cond.laysFinal RX12 RX12 "foundYear" "[I" ∈ lw_gd := zgin_7 (List.mem_of_getElem? (i := 180) rfl) rfl
theorem wd_t_1622 : Cond.laysFinal RX12 RX12 "foundTold" "[I" ∈ lw_gd := zgin_7 (List.mem_of_getElem? (i := 182) rfl) rfl
theorem wd_t_1624 : Cond.laysFinal RX12 RX12 "foundBeasts" "[I" ∈ lw_gd := zgin_7 (List.mem_of_getElem? (i := 184) rfl) rfl
theorem wd_t_1626 : Cond.laysFinal RX12 RX12 "beasts" "[I" ∈ lw_gd := zgin_7 (List.mem_of_getElem? (i := 186) rfl) rfl
theorem wd_t_1628 : Cond.laysFinal RX12 RX12 "byBook" "[I" ∈ lw_gd := zgin_7 (List.mem_of_getElem? (i := 188) rfl) rfl
theorem wd_t_1630 : Cond.laysFinal RX12 RX12 "interestOf" "[I" ∈ lw_gd := zgin_7 (List.mem_of_getElem? (i := 190) rfl) rfl
theorem wd_t_1632 : Cond.lays RX12 RX12 "loans" "I" ∈ lw_gd := zgin_7 (List.mem_of_getElem? (i := 192) rfl) rfl
theorem wd_t_1634 : Cond.laysFinal RX12 RX12 "loanYear" "[I" ∈ lw_gd := zgin_7 (List.mem_of_getElem? (i := 194) rfl) rfl
theorem wd_t_1636 : Cond.laysFinal RX12 RX12 "loanGood" "[I" ∈ lw_gd := zgin_7 (List.mem_of_getElem? (i := 196) rfl) rfl
theorem wd_t_1638 : Cond.laysFinal RX12 RX12 "loanSum" "[I" ∈ lw_gd := zgin_7 (List.mem_of_getElem? (i := 198) rfl) rfl
theorem wd_t_1640 : Cond.lays RX12 RX12 "payments" "I" ∈ lw_gd := zgin_7 (List.mem_of_getElem? (i := 200) rfl) rfl
theorem wd_t_1642 : Cond.laysFinal RX12 RX12 "payOf" "[I" ∈ lw_gd := zgin_7 (List.mem_of_getElem? (i := 202) rfl) rfl
theorem wd_t_1644 : Cond.laysFinal RX12 RX12 "payYear" "[I" ∈ lw_gd := zgin_7 (List.mem_of_getElem? (i := 204) rfl) rfl
theorem wd_t_1646 : Cond.laysFinal RX12 RX12 "payTold" "[I" ∈ lw_gd := zgin_7 (List.mem_of_getElem? (i := 206) rfl) rfl
theorem wd_t_1648 : Cond.laysFinal RX12 RX12 "paySum" "[I" ∈ lw_gd := zgin_7 (List.mem_of_getElem? (i := 208) rfl) rfl
theorem wd_t_1650 : Cond.laysFinal RX12 RX12 "isEdict" "[Z" ∈ lw_gd := zgin_7 (List.mem_of_getElem? (i := 210) rfl) rfl
theorem wd_t_187 : Cond.code yX0_init cX0_init 2 none ∈ lw_gd := zgin_1 (List.mem_of_getElem? (i := 187) rfl) rfl
theorem wd_t_917 : Cond.code yX0_isBall cX0_isBall 1 (some .boolean) ∈ lw_gd := zgin_4 (List.mem_of_getElem? (i := 197) rfl) rfl
theorem wd_t_905 : Cond.code yX0_isKind cX0_isKind 1 (some .boolean) ∈ lw_gd := zgin_4 (List.mem_of_getElem? (i := 185) rfl) rfl
theorem wd_t_902 : Cond.code yX0_setWeight cX0_setWeight 3 (some .boolean) ∈ lw_gd := zgin_4 (List.mem_of_getElem? (i := 182) rfl) rfl
theorem wd_t_914 : Cond.code yX0_setMark cX0_setMark 4 (some .boolean) ∈ lw_gd := zgin_4 (List.mem_of_getElem? (i := 194) rfl) rfl
theorem wd_t_925 : Cond.code yX0_setTold cX0_setTold 4 (some .boolean) ∈ lw_gd := zgin_4 (List.mem_of_getElem? (i := 205) rfl) rfl
theorem wd_t_933 : Cond.code yX0_answer cX0_answer 3 (some .int) ∈ lw_gd := zgin_4 (List.mem_of_getElem? (i := 213) rfl) rfl
theorem wd_t_937 : Cond.code yX0_survey cX0_survey 3 none ∈ lw_gd := zgin_4 (List.mem_of_getElem? (i := 217) rfl) rfl
theorem wd_t_950 : Cond.code yX0_tryLastKind cX0_tryLastKind 6 none ∈ lw_gd := zgin_4 (List.mem_of_getElem? (i := 230) rfl) rfl
theorem wd_t_941 : Cond.code yX0_admit cX0_admit 6 none ∈ lw_gd := zgin_4 (List.mem_of_getElem? (i := 221) rfl) rfl
theorem wd_t_1327 : Cond.code yX0_openedOnes cX0_openedOnes 3 (some .int) ∈ lw_gd := zgin_6 (List.mem_of_getElem? (i := 127) rfl) rfl
theorem wd_t_89 : Cond.code yX1_init cX1_init 3 none ∈ lw_gd := zgin_1 (List.mem_of_getElem? (i := 89) rfl) rfl
theorem wd_t_704 : Cond.code yX1_read cX1_read 2 (some .boolean) ∈ lw_gd := zgin_3 (List.mem_of_getElem? (i := 224) rfl) rfl
theorem wd_t_712 : Cond.code yX1_readLine cX1_readLine 3 (some .boolean) ∈ lw_gd := zgin_3 (List.mem_of_getElem? (i := 232) rfl) rfl
theorem wd_t_735 : Cond.code yX1_beginLine cX1_beginLine 4 none ∈ lw_gd := zgin_4 (List.mem_of_getElem? (i := 15) rfl) rfl
theorem wd_t_769 : Cond.code yX1_endLine cX1_endLine 2 none ∈ lw_gd := zgin_4 (List.mem_of_getElem? (i := 49) rfl) rfl
theorem wd_t_773 : Cond.code yX1_signed cX1_signed 3 (some .int) ∈ lw_gd := zgin_4 (List.mem_of_getElem? (i := 53) rfl) rfl
theorem wd_t_743 : Cond.code yX1_readNumeral cX1_readNumeral 5 (some .boolean) ∈ lw_gd := zgin_4 (List.mem_of_getElem? (i := 23) rfl) rfl
theorem wd_t_747 : Cond.code yX1_readLost cX1_readLost 3 (some .boolean) ∈ lw_gd := zgin_4 (List.mem_of_getElem? (i := 27) rfl) rfl
theorem wd_t_751 : Cond.code yX1_readCount cX1_readCount 9 (some .boolean) ∈ lw_gd := zgin_4 (List.mem_of_getElem? (i := 31) rfl) rfl
theorem wd_t_765 : Cond.code yX1_addMark cX1_addMark 6 none ∈ lw_gd := zgin_4 (List.mem_of_getElem? (i := 45) rfl) rfl
theorem wd_t_777 : Cond.code yX1_solve cX1_solve 11 none ∈ lw_gd := zgin_4 (List.mem_of_getElem? (i := 57) rfl) rfl
theorem wd_t_787 : Cond.code yX1_dueOfLost cX1_dueOfLost 5 (some .int) ∈ lw_gd := zgin_4 (List.mem_of_getElem? (i := 67) rfl) rfl
theorem wd_t_791 : Cond.code yX1_markedBy cX1_markedBy 3 (some .int) ∈ lw_gd := zgin_4 (List.mem_of_getElem? (i := 71) rfl) rfl
theorem wd_t_801 : Cond.code yX1_widenMarked cX1_widenMarked 7 none ∈ lw_gd := zgin_4 (List.mem_of_getElem? (i := 81) rfl) rfl
theorem wd_t_797 : Cond.code yX1_widen cX1_widen 4 none ∈ lw_gd := zgin_4 (List.mem_of_getElem? (i := 77) rfl) rfl
theorem wd_t_781 : Cond.code yX1_openSpans cX1_openSpans 4 none ∈ lw_gd := zgin_4 (List.mem_of_getElem? (i := 61) rfl) rfl
theorem wd_t_809 : Cond.code yX1_closeSpans cX1_closeSpans 3 none ∈ lw_gd := zgin_4 (List.mem_of_getElem? (i := 89) rfl) rfl
theorem wd_t_357 : Cond.code yX2_init cX2_init 1 none ∈ lw_gd := zgin_2 (List.mem_of_getElem? (i := 117) rfl) rfl
theorem wd_t_1168 : Cond.code yX2_canBeTold cX2_canBeTold 3 (some .boolean) ∈ lw_gd := zgin_5 (List.mem_of_getElem? (i := 208) rfl) rfl
theorem wd_t_1311 : Cond.code yX2_size cX2_size 1 (some .int) ∈ lw_gd := zgin_6 (List.mem_of_getElem? (i := 111) rfl) rfl
theorem wd_t_1156 : Cond.code yX2_setBook cX2_setBook 3 (some .boolean) ∈ lw_gd := zgin_5 (List.mem_of_getElem? (i := 196) rfl) rfl
theorem wd_t_1165 : Cond.code yX2_add cX2_add 5 (some .int) ∈ lw_gd := zgin_5 (List.mem_of_getElem? (i := 205) rfl) rfl
theorem wd_t_1176 : Cond.code yX2_addFound cX2_addFound 7 (some .boolean) ∈ lw_gd := zgin_5 (List.mem_of_getElem? (i := 216) rfl) rfl
theorem wd_t_1184 : Cond.code yX2_answer cX2_answer 7 (some .int) ∈ lw_gd := zgin_5 (List.mem_of_getElem? (i := 224) rfl) rfl
theorem wd_t_1189 : Cond.code yX2_goByTheBook cX2_goByTheBook 4 none ∈ lw_gd := zgin_5 (List.mem_of_getElem? (i := 229) rfl) rfl
theorem wd_t_1192 : Cond.code yX2_hundredths cX2_hundredths 3 (some .long) ∈ lw_gd := zgin_5 (List.mem_of_getElem? (i := 232) rfl) rfl
theorem wd_t_1196 : Cond.code yX2_booked cX2_booked 2 (some .int) ∈ lw_gd := zgin_5 (List.mem_of_getElem? (i := 236) rfl) rfl
theorem wd_t_1202 : Cond.code yX2_lastFound cX2_lastFound 5 (some .int) ∈ lw_gd := zgin_6 (List.mem_of_getElem? (i := 2) rfl) rfl
theorem wd_t_1206 : Cond.code yX2_takeFound cX2_takeFound 5 (some .int) ∈ lw_gd := zgin_6 (List.mem_of_getElem? (i := 6) rfl) rfl
theorem wd_t_252 : Cond.code yX3_init cX3_init 1 none ∈ lw_gd := zgin_2 (List.mem_of_getElem? (i := 12) rfl) rfl
theorem wd_t_1307 : Cond.code yX3_size cX3_size 1 (some .int) ∈ lw_gd := zgin_6 (List.mem_of_getElem? (i := 107) rfl) rfl
theorem wd_t_1024 : Cond.code yX3_add cX3_add 2 (some .int) ∈ lw_gd := zgin_5 (List.mem_of_getElem? (i := 64) rfl) rfl
theorem wd_t_1033 : Cond.code yX3_setEdge cX3_setEdge 5 (some .boolean) ∈ lw_gd := zgin_5 (List.mem_of_getElem? (i := 73) rfl) rfl
theorem wd_t_1041 : Cond.code yX3_answer cX3_answer 6 (some .int) ∈ lw_gd := zgin_5 (List.mem_of_getElem? (i := 81) rfl) rfl
theorem wd_t_1051 : Cond.code yX3_arrange cX3_arrange 6 none ∈ lw_gd := zgin_5 (List.mem_of_getElem? (i := 91) rfl) rfl
theorem wd_t_1061 : Cond.code yX3_offer cX3_offer 4 none ∈ lw_gd := zgin_5 (List.mem_of_getElem? (i := 101) rfl) rfl
theorem wd_t_1056 : Cond.code yX3_gapOf cX3_gapOf 5 (some .int) ∈ lw_gd := zgin_5 (List.mem_of_getElem? (i := 96) rfl) rfl
theorem wd_t_1065 : Cond.code yX3_leastGaps cX3_leastGaps 4 (some .int) ∈ lw_gd := zgin_5 (List.mem_of_getElem? (i := 105) rfl) rfl
theorem wd_t_1078 : Cond.code yX3_waysOf cX3_waysOf 5 (some .int) ∈ lw_gd := zgin_5 (List.mem_of_getElem? (i := 118) rfl) rfl
theorem wd_t_1070 : Cond.code yX3_placeInRow cX3_placeInRow 8 (some .int) ∈ lw_gd := zgin_5 (List.mem_of_getElem? (i := 110) rfl) rfl
theorem wd_t_1074 : Cond.code yX3_nextInRow cX3_nextInRow 6 (some .int) ∈ lw_gd := zgin_5 (List.mem_of_getElem? (i := 114) rfl) rfl
theorem wd_t_397 : Cond.code yX4_init cX4_init 1 none ∈ lw_gd := zgin_2 (List.mem_of_getElem? (i := 157) rfl) rfl
theorem wd_t_1315 : Cond.code yX4_size cX4_size 1 (some .int) ∈ lw_gd := zgin_6 (List.mem_of_getElem? (i := 115) rfl) rfl
theorem wd_t_1217 : Cond.code yX4_setInterest cX4_setInterest 3 (some .boolean) ∈ lw_gd := zgin_6 (List.mem_of_getElem? (i := 17) rfl) rfl
theorem wd_t_1228 : Cond.code yX4_add cX4_add 4 (some .int) ∈ lw_gd := zgin_6 (List.mem_of_getElem? (i := 28) rfl) rfl
theorem wd_t_1237 : Cond.code yX4_addPayment cX4_addPayment 5 (some .boolean) ∈ lw_gd := zgin_6 (List.mem_of_getElem? (i := 37) rfl) rfl
theorem wd_t_1245 : Cond.code yX4_addEdict cX4_addEdict 3 (some .boolean) ∈ lw_gd := zgin_6 (List.mem_of_getElem? (i := 45) rfl) rfl
theorem wd_t_1254 : Cond.code yX4_owedAt cX4_owedAt 8 (some .long) ∈ lw_gd := zgin_6 (List.mem_of_getElem? (i := 54) rfl) rfl
theorem wd_t_1259 : Cond.code yX4_paidFor cX4_paidFor 7 (some .long) ∈ lw_gd := zgin_6 (List.mem_of_getElem? (i := 59) rfl) rfl
theorem wd_t_34 : Cond.code yX5_init cX5_init 2 none ∈ lw_gd := zgin_1 (List.mem_of_getElem? (i := 34) rfl) rfl
theorem wd_t_38 : Cond.code yX5_slot cX5_slot 2 (some .int) ∈ lw_gd := zgin_1 (List.mem_of_getElem? (i := 38) rfl) rfl
theorem wd_t_480 : Cond.code yX5_isSystem cX5_isSystem 1 (some .boolean) ∈ lw_gd := zgin_3 (List.mem_of_getElem? (i := 0) rfl) rfl
theorem wd_t_477 : Cond.code yX5_setStep cX5_setStep 5 (some .boolean) ∈ lw_gd := zgin_2 (List.mem_of_getElem? (i := 237) rfl) rfl
theorem wd_t_487 : Cond.code yX5_dropSign cX5_dropSign 3 (some .boolean) ∈ lw_gd := zgin_3 (List.mem_of_getElem? (i := 7) rfl) rfl
theorem wd_t_494 : Cond.code yX5_staysSmall cX5_staysSmall 7 (some .boolean) ∈ lw_gd := zgin_3 (List.mem_of_getElem? (i := 14) rfl) rfl
theorem wd_t_506 : Cond.code yX5_setSystem cX5_setSystem 3 (some .boolean) ∈ lw_gd := zgin_3 (List.mem_of_getElem? (i := 26) rfl) rfl
theorem wd_t_739 : Cond.code yX5_systemOf cX5_systemOf 2 (some .int) ∈ lw_gd := zgin_4 (List.mem_of_getElem? (i := 19) rfl) rfl
theorem wd_t_522 : Cond.code yX5_hasSign cX5_hasSign 3 (some .boolean) ∈ lw_gd := zgin_3 (List.mem_of_getElem? (i := 42) rfl) rfl
theorem wd_t_527 : Cond.code yX5_worthOf cX5_worthOf 5 (some .int) ∈ lw_gd := zgin_3 (List.mem_of_getElem? (i := 47) rfl) rfl
theorem wd_t_760 : Cond.code yX5_mostOf cX5_mostOf 3 (some .int) ∈ lw_gd := zgin_4 (List.mem_of_getElem? (i := 40) rfl) rfl
theorem wd_t_518 : Cond.code yX5_countIn cX5_countIn 7 (some .int) ∈ lw_gd := zgin_3 (List.mem_of_getElem? (i := 38) rfl) rfl
theorem wd_t_323 : Cond.code yX6_init cX6_init 2 none ∈ lw_gd := zgin_2 (List.mem_of_getElem? (i := 83) rfl) rfl
theorem wd_t_1091 : Cond.code yX6_has cX6_has 2 (some .boolean) ∈ lw_gd := zgin_5 (List.mem_of_getElem? (i := 131) rfl) rfl
theorem wd_t_1299 : Cond.code yX6_size cX6_size 1 (some .int) ∈ lw_gd := zgin_6 (List.mem_of_getElem? (i := 99) rfl) rfl
theorem wd_t_1323 : Cond.code yX6_allShort cX6_allShort 1 (some .long) ∈ lw_gd := zgin_6 (List.mem_of_getElem? (i := 123) rfl) rfl
theorem wd_t_1295 : Cond.code yX6_inStore cX6_inStore 2 (some .int) ∈ lw_gd := zgin_6 (List.mem_of_getElem? (i := 95) rfl) rfl
theorem wd_t_1086 : Cond.code yX6_add cX6_add 4 (some .int) ∈ lw_gd := zgin_5 (List.mem_of_getElem? (i := 126) rfl) rfl
theorem wd_t_1099 : Cond.code yX6_setDays cX6_setDays 3 (some .boolean) ∈ lw_gd := zgin_5 (List.mem_of_getElem? (i := 139) rfl) rfl
theorem wd_t_1107 : Cond.code yX6_putInStore cX6_putInStore 3 (some .int) ∈ lw_gd := zgin_5 (List.mem_of_getElem? (i := 147) rfl) rfl
theorem wd_t_1117 : Cond.code yX6_runMonth cX6_runMonth 8 (some .int) ∈ lw_gd := zgin_5 (List.mem_of_getElem? (i := 157) rfl) rfl
theorem wd_t_1148 : Cond.code yX6_rationOf cX6_rationOf 6 (some .int) ∈ lw_gd := zgin_5 (List.mem_of_getElem? (i := 188) rfl) rfl
theorem wd_t_1121 : Cond.code yX6_learnFacts cX6_learnFacts 3 none ∈ lw_gd := zgin_5 (List.mem_of_getElem? (i := 161) rfl) rfl
theorem wd_t_277 : Cond.code yX7_init cX7_init 2 none ∈ lw_gd := zgin_2 (List.mem_of_getElem? (i := 37) rfl) rfl
theorem wd_t_865 : Cond.code yX7_lines cX7_lines 1 (some .int) ∈ lw_gd := zgin_4 (List.mem_of_getElem? (i := 145) rfl) rfl
theorem wd_t_1139 : Cond.code yX7_goodOf cX7_goodOf 2 (some .int) ∈ lw_gd := zgin_5 (List.mem_of_getElem? (i := 179) rfl) rfl
theorem wd_t_823 : Cond.code yX7_read cX7_read 2 (some .boolean) ∈ lw_gd := zgin_4 (List.mem_of_getElem? (i := 103) rfl) rfl
theorem wd_t_828 : Cond.code yX7_readGive cX7_readGive 1 (some .boolean) ∈ lw_gd := zgin_4 (List.mem_of_getElem? (i := 108) rfl) rfl
theorem wd_t_854 : Cond.code yX7_readWhen cX7_readWhen 5 (some .boolean) ∈ lw_gd := zgin_4 (List.mem_of_getElem? (i := 134) rfl) rfl
theorem wd_t_858 : Cond.code yX7_readCondition cX7_readCondition 4 (some .boolean) ∈ lw_gd := zgin_4 (List.mem_of_getElem? (i := 138) rfl) rfl
theorem wd_t_834 : Cond.code yX7_readSum cX7_readSum 5 (some .boolean) ∈ lw_gd := zgin_4 (List.mem_of_getElem? (i := 114) rfl) rfl
theorem wd_t_838 : Cond.code yX7_readUnit cX7_readUnit 2 (some .boolean) ∈ lw_gd := zgin_4 (List.mem_of_getElem? (i := 118) rfl) rfl
theorem wd_t_848 : Cond.code yX7_readDivisor cX7_readDivisor 1 (some .boolean) ∈ lw_gd := zgin_4 (List.mem_of_getElem? (i := 128) rfl) rfl
theorem wd_t_844 : Cond.code yX7_write cX7_write 2 none ∈ lw_gd := zgin_4 (List.mem_of_getElem? (i := 124) rfl) rfl
theorem wd_t_1126 : Cond.code yX7_amountOf cX7_amountOf 4 (some .int) ∈ lw_gd := zgin_5 (List.mem_of_getElem? (i := 166) rfl) rfl
theorem wd_t_1130 : Cond.code yX7_reckon cX7_reckon 8 (some .int) ∈ lw_gd := zgin_5 (List.mem_of_getElem? (i := 170) rfl) rfl
theorem wd_t_1133 : Cond.code yX7_joined cX7_joined 3 (some .int) ∈ lw_gd := zgin_5 (List.mem_of_getElem? (i := 173) rfl) rfl
theorem wd_t_227 : Cond.code yX8_init cX8_init 1 none ∈ lw_gd := zgin_1 (List.mem_of_getElem? (i := 227) rfl) rfl
theorem wd_t_970 : Cond.code yX8_isSealing cX8_isSealing 2 (some .boolean) ∈ lw_gd := zgin_5 (List.mem_of_getElem? (i := 10) rfl) rfl
theorem wd_t_1303 : Cond.code yX8_size cX8_size 1 (some .int) ∈ lw_gd := zgin_6 (List.mem_of_getElem? (i := 103) rfl) rfl
theorem wd_t_958 : Cond.code yX8_add cX8_add 1 (some .int) ∈ lw_gd := zgin_4 (List.mem_of_getElem? (i := 238) rfl) rfl
theorem wd_t_966 : Cond.code yX8_lay cX8_lay 3 (some .boolean) ∈ lw_gd := zgin_5 (List.mem_of_getElem? (i := 6) rfl) rfl
theorem wd_t_979 : Cond.code yX8_answer cX8_answer 3 (some .int) ∈ lw_gd := zgin_5 (List.mem_of_getElem? (i := 19) rfl) rfl
theorem wd_t_983 : Cond.code yX8_countOrders cX8_countOrders 5 (some .int) ∈ lw_gd := zgin_5 (List.mem_of_getElem? (i := 23) rfl) rfl
theorem wd_t_987 : Cond.code yX8_findFirst cX8_findFirst 4 (some .boolean) ∈ lw_gd := zgin_5 (List.mem_of_getElem? (i := 27) rfl) rfl
theorem wd_t_991 : Cond.code yX8_findRing cX8_findRing 3 (some .int) ∈ lw_gd := zgin_5 (List.mem_of_getElem? (i := 31) rfl) rfl
theorem wd_t_995 : Cond.code yX8_findWaysBack cX8_findWaysBack 5 none ∈ lw_gd := zgin_5 (List.mem_of_getElem? (i := 35) rfl) rfl
theorem wd_t_999 : Cond.code yX8_walkRing cX8_walkRing 5 none ∈ lw_gd := zgin_5 (List.mem_of_getElem? (i := 39) rfl) rfl
theorem wd_t_1012 : Cond.code yX8_compare cX8_compare 3 (some .int) ∈ lw_gd := zgin_5 (List.mem_of_getElem? (i := 52) rfl) rfl
theorem wd_t_1016 : Cond.code yX8_allUnder cX8_allUnder 5 (some .int) ∈ lw_gd := zgin_5 (List.mem_of_getElem? (i := 56) rfl) rfl
theorem wd_t_159 : Cond.code yX9_init cX9_init 2 none ∈ lw_gd := zgin_1 (List.mem_of_getElem? (i := 159) rfl) rfl
theorem wd_t_699 : Cond.code yX9_has cX9_has 2 (some .boolean) ∈ lw_gd := zgin_3 (List.mem_of_getElem? (i := 219) rfl) rfl
theorem wd_t_813 : Cond.code yX9_keep cX9_keep 6 none ∈ lw_gd := zgin_4 (List.mem_of_getElem? (i := 93) rfl) rfl
theorem wd_t_881 : Cond.code yX9_lineOf cX9_lineOf 5 (some .int) ∈ lw_gd := zgin_4 (List.mem_of_getElem? (i := 161) rfl) rfl
theorem wd_t_894 : Cond.code yX9_stockOf cX9_stockOf 10 (some .long) ∈ lw_gd := zgin_4 (List.mem_of_getElem? (i := 174) rfl) rfl
theorem wd_t_1319 : Cond.code yX9_ofAYear cX9_ofAYear 3 (some .int) ∈ lw_gd := zgin_6 (List.mem_of_getElem? (i := 119) rfl) rfl
theorem wd_t_54 : Cond.code yX10_init cX10_init 1 none ∈ lw_gd := zgin_1 (List.mem_of_getElem? (i := 54) rfl) rfl
theorem wd_t_539 : Cond.code yX10_append cX10_append 6 (some .int) ∈ lw_gd := zgin_3 (List.mem_of_getElem? (i := 59) rfl) rfl
theorem wd_t_543 : Cond.code yX10_appendNumber cX10_appendNumber 3 none ∈ lw_gd := zgin_3 (List.mem_of_getElem? (i := 63) rfl) rfl
theorem wd_t_551 : Cond.code yX10_cut cX10_cut 2 (some .boolean) ∈ lw_gd := zgin_3 (List.mem_of_getElem? (i := 71) rfl) rfl
theorem wd_t_560 : Cond.code yX10_split cX10_split 3 none ∈ lw_gd := zgin_3 (List.mem_of_getElem? (i := 80) rfl) rfl
theorem wd_t_695 : Cond.code yX10_addToken cX10_addToken 4 none ∈ lw_gd := zgin_3 (List.mem_of_getElem? (i := 215) rfl) rfl
theorem wd_t_564 : Cond.code yX10_sizeFrom cX10_sizeFrom 5 (some .int) ∈ lw_gd := zgin_3 (List.mem_of_getElem? (i := 84) rfl) rfl
theorem wd_t_574 : Cond.code yX10_kindOf cX10_kindOf 4 (some .int) ∈ lw_gd := zgin_3 (List.mem_of_getElem? (i := 94) rfl) rfl
theorem wd_t_691 : Cond.code yX10_valueOf cX10_valueOf 5 (some .int) ∈ lw_gd := zgin_3 (List.mem_of_getElem? (i := 211) rfl) rfl
theorem wd_t_578 : Cond.code yX10_wordAt cX10_wordAt 6 (some .int) ∈ lw_gd := zgin_3 (List.mem_of_getElem? (i := 98) rfl) rfl
theorem wd_t_631 : Cond.code yX10_standsAt cX10_standsAt 5 (some .boolean) ∈ lw_gd := zgin_3 (List.mem_of_getElem? (i := 151) rfl) rfl
theorem wd_t_567 : Cond.code yX10_isLetter cX10_isLetter 1 (some .boolean) ∈ lw_gd := zgin_3 (List.mem_of_getElem? (i := 87) rfl) rfl
theorem wd_t_570 : Cond.code yX10_isDigit cX10_isDigit 1 (some .boolean) ∈ lw_gd := zgin_3 (List.mem_of_getElem? (i := 90) rfl) rfl
theorem wd_t_708 : Cond.code yX10_kind cX10_kind 1 (some .int) ∈ lw_gd := zgin_3 (List.mem_of_getElem? (i := 228) rfl) rfl
theorem wd_t_730 : Cond.code yX10_value cX10_value 1 (some .int) ∈ lw_gd := zgin_4 (List.mem_of_getElem? (i := 10) rfl) rfl
theorem wd_t_755 : Cond.code yX10_signBehind cX10_signBehind 1 (some .int) ∈ lw_gd := zgin_4 (List.mem_of_getElem? (i := 35) rfl) rfl
theorem wd_t_720 : Cond.code yX10_move cX10_move 1 none ∈ lw_gd := zgin_4 (List.mem_of_getElem? (i := 0) rfl) rfl
theorem wd_t_724 : Cond.code yX10_take cX10_take 2 (some .boolean) ∈ lw_gd := zgin_4 (List.mem_of_getElem? (i := 4) rfl) rfl
theorem wd_t_716 : Cond.code yX10_fail cX10_fail 2 (some .boolean) ∈ lw_gd := zgin_3 (List.mem_of_getElem? (i := 236) rfl) rfl
theorem wd_t_873 : Cond.code yX10_faultOf cX10_faultOf 2 (some .int) ∈ lw_gd := zgin_4 (List.mem_of_getElem? (i := 153) rfl) rfl
theorem wd_t_26 : Cond.code yX11_init cX11_init 1 none ∈ lw_gd := zgin_1 (List.mem_of_getElem? (i := 26) rfl) rfl
theorem wd_t_473 : Cond.code yX11_step cX11_step 4 (some .boolean) ∈ lw_gd := zgin_2 (List.mem_of_getElem? (i := 233) rfl) rfl
theorem wd_t_502 : Cond.code yX11_good cX11_good 3 (some .boolean) ∈ lw_gd := zgin_3 (List.mem_of_getElem? (i := 22) rfl) rfl
theorem wd_t_514 : Cond.code yX11_written cX11_written 4 (some .int) ∈ lw_gd := zgin_3 (List.mem_of_getElem? (i := 34) rfl) rfl
theorem wd_t_531 : Cond.code yX11_year cX11_year 1 (some .int) ∈ lw_gd := zgin_3 (List.mem_of_getElem? (i := 51) rfl) rfl
theorem wd_t_535 : Cond.code yX11_feed cX11_feed 6 (some .int) ∈ lw_gd := zgin_3 (List.mem_of_getElem? (i := 55) rfl) rfl
theorem wd_t_547 : Cond.code yX11_end cX11_end 2 (some .boolean) ∈ lw_gd := zgin_3 (List.mem_of_getElem? (i := 67) rfl) rfl
theorem wd_t_556 : Cond.code yX11_tablet cX11_tablet 2 (some .int) ∈ lw_gd := zgin_3 (List.mem_of_getElem? (i := 76) rfl) rfl
theorem wd_t_819 : Cond.code yX11_rules cX11_rules 1 (some .int) ∈ lw_gd := zgin_4 (List.mem_of_getElem? (i := 99) rfl) rfl
theorem wd_t_869 : Cond.code yX11_fault cX11_fault 2 (some .int) ∈ lw_gd := zgin_4 (List.mem_of_getElem? (i := 149) rfl) rfl
theorem wd_t_877 : Cond.code yX11_line cX11_line 4 (some .int) ∈ lw_gd := zgin_4 (List.mem_of_getElem? (i := 157) rfl) rfl
theorem wd_t_885 : Cond.code yX11_stock cX11_stock 4 (some .long) ∈ lw_gd := zgin_4 (List.mem_of_getElem? (i := 165) rfl) rfl
theorem wd_t_898 : Cond.code yX11_weight cX11_weight 3 (some .boolean) ∈ lw_gd := zgin_4 (List.mem_of_getElem? (i := 178) rfl) rfl
theorem wd_t_910 : Cond.code yX11_mark cX11_mark 4 (some .boolean) ∈ lw_gd := zgin_4 (List.mem_of_getElem? (i := 190) rfl) rfl
theorem wd_t_921 : Cond.code yX11_tell cX11_tell 4 (some .boolean) ∈ lw_gd := zgin_4 (List.mem_of_getElem? (i := 201) rfl) rfl
theorem wd_t_929 : Cond.code yX11_ball cX11_ball 3 (some .int) ∈ lw_gd := zgin_4 (List.mem_of_getElem? (i := 209) rfl) rfl
theorem wd_t_954 : Cond.code yX11_seal cX11_seal 1 (some .int) ∈ lw_gd := zgin_4 (List.mem_of_getElem? (i := 234) rfl) rfl
theorem wd_t_962 : Cond.code yX11_over cX11_over 3 (some .boolean) ∈ lw_gd := zgin_5 (List.mem_of_getElem? (i := 2) rfl) rfl
theorem wd_t_975 : Cond.code yX11_order cX11_order 2 (some .int) ∈ lw_gd := zgin_5 (List.mem_of_getElem? (i := 15) rfl) rfl
theorem wd_t_1008 : Cond.code yX11_ahead cX11_ahead 3 (some .int) ∈ lw_gd := zgin_5 (List.mem_of_getElem? (i := 48) rfl) rfl
theorem wd_t_1020 : Cond.code yX11_fragment cX11_fragment 2 (some .int) ∈ lw_gd := zgin_5 (List.mem_of_getElem? (i := 60) rfl) rfl
theorem wd_t_1029 : Cond.code yX11_edge cX11_edge 5 (some .boolean) ∈ lw_gd := zgin_5 (List.mem_of_getElem? (i := 69) rfl) rfl
theorem wd_t_1037 : Cond.code yX11_row cX11_row 3 (some .int) ∈ lw_gd := zgin_5 (List.mem_of_getElem? (i := 77) rfl) rfl
theorem wd_t_1082 : Cond.code yX11_person cX11_person 4 (some .int) ∈ lw_gd := zgin_5 (List.mem_of_getElem? (i := 122) rfl) rfl
theorem wd_t_1095 : Cond.code yX11_works cX11_works 3 (some .boolean) ∈ lw_gd := zgin_5 (List.mem_of_getElem? (i := 135) rfl) rfl
theorem wd_t_1103 : Cond.code yX11_store cX11_store 3 (some .int) ∈ lw_gd := zgin_5 (List.mem_of_getElem? (i := 143) rfl) rfl
theorem wd_t_1113 : Cond.code yX11_month cX11_month 2 (some .int) ∈ lw_gd := zgin_5 (List.mem_of_getElem? (i := 153) rfl) rfl
theorem wd_t_1144 : Cond.code yX11_ration cX11_ration 4 (some .int) ∈ lw_gd := zgin_5 (List.mem_of_getElem? (i := 184) rfl) rfl
theorem wd_t_1152 : Cond.code yX11_book cX11_book 3 (some .boolean) ∈ lw_gd := zgin_5 (List.mem_of_getElem? (i := 192) rfl) rfl
theorem wd_t_1161 : Cond.code yX11_flock cX11_flock 4 (some .int) ∈ lw_gd := zgin_5 (List.mem_of_getElem? (i := 201) rfl) rfl
theorem wd_t_1172 : Cond.code yX11_found cX11_found 6 (some .boolean) ∈ lw_gd := zgin_5 (List.mem_of_getElem? (i := 212) rfl) rfl
theorem wd_t_1180 : Cond.code yX11_flockAt cX11_flockAt 5 (some .int) ∈ lw_gd := zgin_5 (List.mem_of_getElem? (i := 220) rfl) rfl
theorem wd_t_1213 : Cond.code yX11_interest cX11_interest 3 (some .boolean) ∈ lw_gd := zgin_6 (List.mem_of_getElem? (i := 13) rfl) rfl
theorem wd_t_1223 : Cond.code yX11_loan cX11_loan 4 (some .int) ∈ lw_gd := zgin_6 (List.mem_of_getElem? (i := 23) rfl) rfl
theorem wd_t_1233 : Cond.code yX11_pay cX11_pay 4 (some .boolean) ∈ lw_gd := zgin_6 (List.mem_of_getElem? (i := 33) rfl) rfl
theorem wd_t_1241 : Cond.code yX11_edict cX11_edict 2 (some .boolean) ∈ lw_gd := zgin_6 (List.mem_of_getElem? (i := 41) rfl) rfl
theorem wd_t_1250 : Cond.code yX11_owed cX11_owed 4 (some .long) ∈ lw_gd := zgin_6 (List.mem_of_getElem? (i := 50) rfl) rfl
theorem wd_t_1269 : Cond.code yX11_field cX11_field 7 (some .int) ∈ lw_gd := zgin_6 (List.mem_of_getElem? (i := 69) rfl) rfl
theorem wd_t_1291 : Cond.code yX11_look cX11_look 2 (some .long) ∈ lw_gd := zgin_6 (List.mem_of_getElem? (i := 91) rfl) rfl
theorem wd_t_483 : Cond.code yX11_within cX11_within 3 (some .boolean) ∈ lw_gd := zgin_3 (List.mem_of_getElem? (i := 3) rfl) rfl
theorem wd_t_509 : Cond.code yX11_isGood cX11_isGood 1 (some .boolean) ∈ lw_gd := zgin_3 (List.mem_of_getElem? (i := 29) rfl) rfl
theorem wd_t_889 : Cond.code yX11_isYear cX11_isYear 1 (some .boolean) ∈ lw_gd := zgin_4 (List.mem_of_getElem? (i := 169) rfl) rfl
theorem wd_t_1272 : Cond.code yX11_isSide cX11_isSide 1 (some .boolean) ∈ lw_gd := zgin_6 (List.mem_of_getElem? (i := 72) rfl) rfl
theorem wd_t_1286 : Cond.code yX11_quarter cX11_quarter 4 (some .int) ∈ lw_gd := zgin_6 (List.mem_of_getElem? (i := 86) rfl) rfl
theorem wd_t_1275 : Cond.code yX11_threeSided cX11_threeSided 6 (some .long) ∈ lw_gd := zgin_6 (List.mem_of_getElem? (i := 75) rfl) rfl
theorem wd_t_1278 : Cond.code yX11_rootOfProduct cX11_rootOfProduct 8 (some .long) ∈ lw_gd := zgin_6 (List.mem_of_getElem? (i := 78) rfl) rfl
theorem wd_t_1282 : Cond.code yX11_root cX11_root 8 (some .long) ∈ lw_gd := zgin_6 (List.mem_of_getElem? (i := 82) rfl) rfl
theorem wd_t_1332 : Cond.code yX12_init cX12_init 1 none ∈ lw_gd := zgin_6 (List.mem_of_getElem? (i := 132) rfl) rfl
theorem wd_t_1665 : Cond.code yX12_isIn cX12_isIn 4 (some .boolean) ∈ lw_gd := zgin_7 (List.mem_of_getElem? (i := 225) rfl) rfl
theorem wd_t_1661 : Cond.code yX12_isSystem cX12_isSystem 2 (some .boolean) ∈ lw_gd := zgin_7 (List.mem_of_getElem? (i := 221) rfl) rfl
theorem wd_t_1678 : Cond.code yX12_isGood cX12_isGood 2 (some .boolean) ∈ lw_gd := zgin_7 (List.mem_of_getElem? (i := 238) rfl) rfl
theorem wd_t_1817 : Cond.code yX12_isYear cX12_isYear 2 (some .boolean) ∈ lw_gd := zgin_8 (List.mem_of_getElem? (i := 137) rfl) rfl
theorem wd_t_1669 : Cond.code yX12_worthOf cX12_worthOf 6 (some .long) ∈ lw_gd := zgin_7 (List.mem_of_getElem? (i := 229) rfl) rfl
theorem wd_t_1657 : Cond.code yX12_step cX12_step 6 (some .boolean) ∈ lw_gd := zgin_7 (List.mem_of_getElem? (i := 217) rfl) rfl
theorem wd_t_1674 : Cond.code yX12_good cX12_good 3 (some .boolean) ∈ lw_gd := zgin_7 (List.mem_of_getElem? (i := 234) rfl) rfl
theorem wd_t_1682 : Cond.code yX12_written cX12_written 6 (some .int) ∈ lw_gd := zgin_8 (List.mem_of_getElem? (i := 2) rfl) rfl
theorem wd_t_1687 : Cond.code yX12_year cX12_year 1 (some .int) ∈ lw_gd := zgin_8 (List.mem_of_getElem? (i := 7) rfl) rfl
theorem wd_t_1695 : Cond.code yX12_puts cX12_puts 3 none ∈ lw_gd := zgin_8 (List.mem_of_getElem? (i := 15) rfl) rfl
theorem wd_t_1691 : Cond.code yX12_feed cX12_feed 6 (some .int) ∈ lw_gd := zgin_8 (List.mem_of_getElem? (i := 11) rfl) rfl
theorem wd_t_1699 : Cond.code yX12_end cX12_end 2 (some .boolean) ∈ lw_gd := zgin_8 (List.mem_of_getElem? (i := 19) rfl) rfl
theorem wd_t_1719 : Cond.code yX12_raw cX12_raw 2 (some .int) ∈ lw_gd := zgin_8 (List.mem_of_getElem? (i := 39) rfl) rfl
theorem wd_t_1723 : Cond.code yX12_isLetter cX12_isLetter 2 (some .boolean) ∈ lw_gd := zgin_8 (List.mem_of_getElem? (i := 43) rfl) rfl
theorem wd_t_1731 : Cond.code yX12_isDigit cX12_isDigit 2 (some .boolean) ∈ lw_gd := zgin_8 (List.mem_of_getElem? (i := 51) rfl) rfl
theorem wd_t_1735 : Cond.code yX12_isMarkSign cX12_isMarkSign 2 (some .boolean) ∈ lw_gd := zgin_8 (List.mem_of_getElem? (i := 55) rfl) rfl
theorem wd_t_1727 : Cond.code yX12_wordAt cX12_wordAt 6 (some .int) ∈ lw_gd := zgin_8 (List.mem_of_getElem? (i := 47) rfl) rfl
theorem wd_t_1715 : Cond.code yX12_next cX12_next 2 none ∈ lw_gd := zgin_8 (List.mem_of_getElem? (i := 35) rfl) rfl
theorem wd_t_1743 : Cond.code yX12_failsAt cX12_failsAt 3 (some .int) ∈ lw_gd := zgin_8 (List.mem_of_getElem? (i := 63) rfl) rfl
theorem wd_t_1739 : Cond.code yX12_fails cX12_fails 2 (some .int) ∈ lw_gd := zgin_8 (List.mem_of_getElem? (i := 59) rfl) rfl
theorem wd_t_1751 : Cond.code yX12_isWord cX12_isWord 2 (some .boolean) ∈ lw_gd := zgin_8 (List.mem_of_getElem? (i := 71) rfl) rfl
theorem wd_t_1759 : Cond.code yX12_isSign cX12_isSign 2 (some .boolean) ∈ lw_gd := zgin_8 (List.mem_of_getElem? (i := 79) rfl) rfl
theorem wd_t_1703 : Cond.code yX12_fault cX12_fault 2 (some .int) ∈ lw_gd := zgin_8 (List.mem_of_getElem? (i := 23) rfl) rfl
theorem wd_t_1763 : Cond.code yX12_readCount cX12_readCount 11 (some .int) ∈ lw_gd := zgin_8 (List.mem_of_getElem? (i := 83) rfl) rfl
theorem wd_t_1755 : Cond.code yX12_readNumeral cX12_readNumeral 3 (some .int) ∈ lw_gd := zgin_8 (List.mem_of_getElem? (i := 75) rfl) rfl
theorem wd_t_1747 : Cond.code yX12_readLine cX12_readLine 2 (some .int) ∈ lw_gd := zgin_8 (List.mem_of_getElem? (i := 67) rfl) rfl
theorem wd_t_1711 : Cond.code yX12_readTablet cX12_readTablet 2 (some .int) ∈ lw_gd := zgin_8 (List.mem_of_getElem? (i := 31) rfl) rfl
theorem wd_t_1793 : Cond.code yX12_signOf cX12_signOf 2 (some .int) ∈ lw_gd := zgin_8 (List.mem_of_getElem? (i := 113) rfl) rfl
theorem wd_t_1775 : Cond.code yX12_takesUnknowns cX12_takesUnknowns 4 none ∈ lw_gd := zgin_8 (List.mem_of_getElem? (i := 95) rfl) rfl
theorem wd_t_1785 : Cond.code yX12_mostOf cX12_mostOf 2 (some .int) ∈ lw_gd := zgin_8 (List.mem_of_getElem? (i := 105) rfl) rfl
theorem wd_t_1797 : Cond.code yX12_notes cX12_notes 3 none ∈ lw_gd := zgin_8 (List.mem_of_getElem? (i := 117) rfl) rfl
theorem wd_t_1789 : Cond.code yX12_fits cX12_fits 8 (some .boolean) ∈ lw_gd := zgin_8 (List.mem_of_getElem? (i := 109) rfl) rfl
theorem wd_t_1779 : Cond.code yX12_closedFills cX12_closedFills 6 (some .long) ∈ lw_gd := zgin_8 (List.mem_of_getElem? (i := 99) rfl) rfl
theorem wd_t_1801 : Cond.code yX12_openFills cX12_openFills 5 (some .long) ∈ lw_gd := zgin_8 (List.mem_of_getElem? (i := 121) rfl) rfl
theorem wd_t_1771 : Cond.code yX12_worksOut cX12_worksOut 5 none ∈ lw_gd := zgin_8 (List.mem_of_getElem? (i := 91) rfl) rfl
theorem wd_t_1767 : Cond.code yX12_blocks cX12_blocks 4 none ∈ lw_gd := zgin_8 (List.mem_of_getElem? (i := 87) rfl) rfl
theorem wd_t_1707 : Cond.code yX12_tablet cX12_tablet 8 (some .int) ∈ lw_gd := zgin_8 (List.mem_of_getElem? (i := 27) rfl) rfl
theorem wd_t_1809 : Cond.code yX12_line cX12_line 5 (some .int) ∈ lw_gd := zgin_8 (List.mem_of_getElem? (i := 129) rfl) rfl
theorem wd_t_1813 : Cond.code yX12_stock cX12_stock 9 (some .long) ∈ lw_gd := zgin_8 (List.mem_of_getElem? (i := 133) rfl) rfl
theorem wd_t_1834 : Cond.code yX12_isBall cX12_isBall 2 (some .boolean) ∈ lw_gd := zgin_8 (List.mem_of_getElem? (i := 154) rfl) rfl
theorem wd_t_1826 : Cond.code yX12_isKind cX12_isKind 2 (some .boolean) ∈ lw_gd := zgin_8 (List.mem_of_getElem? (i := 146) rfl) rfl
theorem wd_t_1822 : Cond.code yX12_weight cX12_weight 3 (some .boolean) ∈ lw_gd := zgin_8 (List.mem_of_getElem? (i := 142) rfl) rfl
theorem wd_t_1830 : Cond.code yX12_mark cX12_mark 4 (some .boolean) ∈ lw_gd := zgin_8 (List.mem_of_getElem? (i := 150) rfl) rfl
theorem wd_t_1838 : Cond.code yX12_tell cX12_tell 4 (some .boolean) ∈ lw_gd := zgin_8 (List.mem_of_getElem? (i := 158) rfl) rfl
theorem wd_t_1851 : Cond.code yX12_mayBe cX12_mayBe 5 (some .boolean) ∈ lw_gd := zgin_8 (List.mem_of_getElem? (i := 171) rfl) rfl
theorem wd_t_1855 : Cond.code yX12_notesBall cX12_notesBall 5 none ∈ lw_gd := zgin_8 (List.mem_of_getElem? (i := 175) rfl) rfl
theorem wd_t_1846 : Cond.code yX12_findsBall cX12_findsBall 5 none ∈ lw_gd := zgin_8 (List.mem_of_getElem? (i := 166) rfl) rfl
theorem wd_t_1842 : Cond.code yX12_ball cX12_ball 3 (some .int) ∈ lw_gd := zgin_8 (List.mem_of_getElem? (i := 162) rfl) rfl
theorem wd_t_1867 : Cond.code yX12_isSeal cX12_isSeal 2 (some .boolean) ∈ lw_gd := zgin_8 (List.mem_of_getElem? (i := 187) rfl) rfl
theorem wd_t_1859 : Cond.code yX12_seal cX12_seal 1 (some .int) ∈ lw_gd := zgin_8 (List.mem_of_getElem? (i := 179) rfl) rfl
theorem wd_t_1863 : Cond.code yX12_over cX12_over 3 (some .boolean) ∈ lw_gd := zgin_8 (List.mem_of_getElem? (i := 183) rfl) rfl
theorem wd_t_1875 : Cond.code yX12_orders cX12_orders 8 (some .int) ∈ lw_gd := zgin_8 (List.mem_of_getElem? (i := 195) rfl) rfl
theorem wd_t_1879 : Cond.code yX12_inOrder cX12_inOrder 5 (some .int) ∈ lw_gd := zgin_8 (List.mem_of_getElem? (i := 199) rfl) rfl
theorem wd_t_1891 : Cond.code yX12_nextOver cX12_nextOver 5 (some .int) ∈ lw_gd := zgin_8 (List.mem_of_getElem? (i := 211) rfl) rfl
theorem wd_t_1887 : Cond.code yX12_rings cX12_rings 7 (some .boolean) ∈ lw_gd := zgin_8 (List.mem_of_getElem? (i := 207) rfl) rfl
theorem wd_t_1883 : Cond.code yX12_ringMany cX12_ringMany 3 (some .int) ∈ lw_gd := zgin_8 (List.mem_of_getElem? (i := 203) rfl) rfl
theorem wd_t_1871 : Cond.code yX12_order cX12_order 4 (some .int) ∈ lw_gd := zgin_8 (List.mem_of_getElem? (i := 191) rfl) rfl
theorem wd_t_1895 : Cond.code yX12_ahead cX12_ahead 5 (some .int) ∈ lw_gd := zgin_8 (List.mem_of_getElem? (i := 215) rfl) rfl
theorem wd_t_1907 : Cond.code yX12_isFragment cX12_isFragment 2 (some .boolean) ∈ lw_gd := zgin_8 (List.mem_of_getElem? (i := 227) rfl) rfl
theorem wd_t_1899 : Cond.code yX12_fragment cX12_fragment 2 (some .int) ∈ lw_gd := zgin_8 (List.mem_of_getElem? (i := 219) rfl) rfl
theorem wd_t_1903 : Cond.code yX12_edge cX12_edge 5 (some .boolean) ∈ lw_gd := zgin_8 (List.mem_of_getElem? (i := 223) rfl) rfl
theorem wd_t_1924 : Cond.code yX12_gap cX12_gap 6 (some .int) ∈ lw_gd := zgin_9 (List.mem_of_getElem? (i := 4) rfl) rfl
theorem wd_t_1919 : Cond.code yX12_worksRow cX12_worksRow 8 none ∈ lw_gd := zgin_8 (List.mem_of_getElem? (i := 239) rfl) rfl
theorem wd_t_1915 : Cond.code yX12_ones cX12_ones 4 (some .int) ∈ lw_gd := zgin_8 (List.mem_of_getElem? (i := 235) rfl) rfl
theorem wd_t_1911 : Cond.code yX12_row cX12_row 6 (some .int) ∈ lw_gd := zgin_8 (List.mem_of_getElem? (i := 231) rfl) rfl
theorem wd_t_1928 : Cond.code yX12_inRow cX12_inRow 8 (some .int) ∈ lw_gd := zgin_9 (List.mem_of_getElem? (i := 8) rfl) rfl
theorem wd_t_1936 : Cond.code yX12_isPerson cX12_isPerson 2 (some .boolean) ∈ lw_gd := zgin_9 (List.mem_of_getElem? (i := 16) rfl) rfl
theorem wd_t_1932 : Cond.code yX12_person cX12_person 4 (some .int) ∈ lw_gd := zgin_9 (List.mem_of_getElem? (i := 12) rfl) rfl
theorem wd_t_1940 : Cond.code yX12_works cX12_works 3 (some .boolean) ∈ lw_gd := zgin_9 (List.mem_of_getElem? (i := 20) rfl) rfl
theorem wd_t_1968 : Cond.code yX12_emits cX12_emits 4 none ∈ lw_gd := zgin_9 (List.mem_of_getElem? (i := 48) rfl) rfl
theorem wd_t_1964 : Cond.code yX12_readUnit cX12_readUnit 2 (some .int) ∈ lw_gd := zgin_9 (List.mem_of_getElem? (i := 44) rfl) rfl
theorem wd_t_1960 : Cond.code yX12_readProduct cX12_readProduct 2 (some .int) ∈ lw_gd := zgin_9 (List.mem_of_getElem? (i := 40) rfl) rfl
theorem wd_t_1956 : Cond.code yX12_readSum cX12_readSum 2 (some .int) ∈ lw_gd := zgin_9 (List.mem_of_getElem? (i := 36) rfl) rfl
theorem wd_t_1980 : Cond.code yX12_readCompared cX12_readCompared 2 (some .int) ∈ lw_gd := zgin_9 (List.mem_of_getElem? (i := 60) rfl) rfl
theorem wd_t_1976 : Cond.code yX12_waits cX12_waits 2 none ∈ lw_gd := zgin_9 (List.mem_of_getElem? (i := 56) rfl) rfl
theorem wd_t_1984 : Cond.code yX12_settles cX12_settles 2 none ∈ lw_gd := zgin_9 (List.mem_of_getElem? (i := 64) rfl) rfl
theorem wd_t_1972 : Cond.code yX12_readAny cX12_readAny 4 (some .int) ∈ lw_gd := zgin_9 (List.mem_of_getElem? (i := 52) rfl) rfl
theorem wd_t_1952 : Cond.code yX12_readRule cX12_readRule 2 (some .int) ∈ lw_gd := zgin_9 (List.mem_of_getElem? (i := 32) rfl) rfl
theorem wd_t_1948 : Cond.code yX12_readRules cX12_readRules 2 (some .int) ∈ lw_gd := zgin_9 (List.mem_of_getElem? (i := 28) rfl) rfl
theorem wd_t_1944 : Cond.code yX12_rules cX12_rules 2 (some .int) ∈ lw_gd := zgin_9 (List.mem_of_getElem? (i := 24) rfl) rfl
theorem wd_t_1996 : Cond.code yX12_takesAsked cX12_takesAsked 4 none ∈ lw_gd := zgin_9 (List.mem_of_getElem? (i := 76) rfl) rfl
theorem wd_t_2008 : Cond.code yX12_twoOf cX12_twoOf 4 (some .int) ∈ lw_gd := zgin_9 (List.mem_of_getElem? (i := 88) rfl) rfl
theorem wd_t_2004 : Cond.code yX12_comesTo cX12_comesTo 5 (some .int) ∈ lw_gd := zgin_9 (List.mem_of_getElem? (i := 84) rfl) rfl
theorem wd_t_2000 : Cond.code yX12_givenBy cX12_givenBy 3 (some .int) ∈ lw_gd := zgin_9 (List.mem_of_getElem? (i := 80) rfl) rfl
theorem wd_t_1988 : Cond.code yX12_store cX12_store 3 (some .int) ∈ lw_gd := zgin_9 (List.mem_of_getElem? (i := 68) rfl) rfl
theorem wd_t_1992 : Cond.code yX12_month cX12_month 7 (some .int) ∈ lw_gd := zgin_9 (List.mem_of_getElem? (i := 72) rfl) rfl
theorem wd_t_2012 : Cond.code yX12_ration cX12_ration 6 (some .int) ∈ lw_gd := zgin_9 (List.mem_of_getElem? (i := 92) rfl) rfl
theorem wd_t_2024 : Cond.code yX12_isHerd cX12_isHerd 2 (some .boolean) ∈ lw_gd := zgin_9 (List.mem_of_getElem? (i := 104) rfl) rfl
theorem wd_t_2016 : Cond.code yX12_book cX12_book 3 (some .boolean) ∈ lw_gd := zgin_9 (List.mem_of_getElem? (i := 96) rfl) rfl
theorem wd_t_2020 : Cond.code yX12_flock cX12_flock 4 (some .int) ∈ lw_gd := zgin_9 (List.mem_of_getElem? (i := 100) rfl) rfl
theorem wd_t_2032 : Cond.code yX12_isFlock cX12_isFlock 2 (some .boolean) ∈ lw_gd := zgin_9 (List.mem_of_getElem? (i := 112) rfl) rfl
theorem wd_t_2028 : Cond.code yX12_found cX12_found 6 (some .boolean) ∈ lw_gd := zgin_9 (List.mem_of_getElem? (i := 108) rfl) rfl
theorem wd_t_2044 : Cond.code yX12_least cX12_least 3 (some .int) ∈ lw_gd := zgin_9 (List.mem_of_getElem? (i := 124) rfl) rfl
theorem wd_t_2040 : Cond.code yX12_agesByBook cX12_agesByBook 1 none ∈ lw_gd := zgin_9 (List.mem_of_getElem? (i := 120) rfl) rfl
theorem wd_t_2048 : Cond.code yX12_foundAt cX12_foundAt 5 (some .int) ∈ lw_gd := zgin_9 (List.mem_of_getElem? (i := 128) rfl) rfl
theorem wd_t_2052 : Cond.code yX12_over0 cX12_over0 2 (some .int) ∈ lw_gd := zgin_9 (List.mem_of_getElem? (i := 132) rfl) rfl
theorem wd_t_2036 : Cond.code yX12_flockAt cX12_flockAt 9 (some .int) ∈ lw_gd := zgin_9 (List.mem_of_getElem? (i := 116) rfl) rfl
theorem wd_t_2056 : Cond.code yX12_interest cX12_interest 3 (some .boolean) ∈ lw_gd := zgin_9 (List.mem_of_getElem? (i := 136) rfl) rfl
theorem wd_t_2060 : Cond.code yX12_loan cX12_loan 4 (some .int) ∈ lw_gd := zgin_9 (List.mem_of_getElem? (i := 140) rfl) rfl
theorem wd_t_2068 : Cond.code yX12_isLoan cX12_isLoan 2 (some .boolean) ∈ lw_gd := zgin_9 (List.mem_of_getElem? (i := 148) rfl) rfl
theorem wd_t_2064 : Cond.code yX12_pay cX12_pay 4 (some .boolean) ∈ lw_gd := zgin_9 (List.mem_of_getElem? (i := 144) rfl) rfl
theorem wd_t_2072 : Cond.code yX12_edict cX12_edict 2 (some .boolean) ∈ lw_gd := zgin_9 (List.mem_of_getElem? (i := 152) rfl) rfl
theorem wd_t_2080 : Cond.code yX12_paidIn cX12_paidIn 7 (some .long) ∈ lw_gd := zgin_9 (List.mem_of_getElem? (i := 160) rfl) rfl
theorem wd_t_2076 : Cond.code yX12_owed cX12_owed 8 (some .long) ∈ lw_gd := zgin_9 (List.mem_of_getElem? (i := 156) rfl) rfl
theorem wd_t_2098 : Cond.code yX12_root cX12_root 6 (some .long) ∈ lw_gd := zgin_9 (List.mem_of_getElem? (i := 178) rfl) rfl
theorem wd_t_2094 : Cond.code yX12_product cX12_product 9 (some .long) ∈ lw_gd := zgin_9 (List.mem_of_getElem? (i := 174) rfl) rfl
theorem wd_t_2090 : Cond.code yX12_isSide cX12_isSide 2 (some .boolean) ∈ lw_gd := zgin_9 (List.mem_of_getElem? (i := 170) rfl) rfl
theorem wd_t_2086 : Cond.code yX12_field cX12_field 11 (some .int) ∈ lw_gd := zgin_9 (List.mem_of_getElem? (i := 166) rfl) rfl
theorem wd_t_2103 : Cond.code yX12_look cX12_look 4 (some .long) ∈ lw_gd := zgin_9 (List.mem_of_getElem? (i := 183) rfl) rfl
theorem wd_t_1044 : Cond.code yJ6_bitCount_0f7a4 cJ6_bitCount_0f7a4 1 (some .int) ∈ lw_gd := zgin_5 (List.mem_of_getElem? (i := 84) rfl) rfl
theorem wd_t_21 : Cond.initialized RJ6 ∈ lw_gd := zgin_1 (List.mem_of_getElem? (i := 21) rfl) rfl
theorem wd_t_1002 : Cond.code yJ6_numberOfTrailingZeros_0f7a4 cJ6_numberOfTrailingZeros_0f7a4 2 (some .int) ∈ lw_gd := zgin_5 (List.mem_of_getElem? (i := 42) rfl) rfl
theorem wd_t_583 : Cond.code yJ0_length_8abf5 cJ0_length_8abf5 1 (some .int) ∈ lw_gd := zgin_3 (List.mem_of_getElem? (i := 103) rfl) rfl
theorem wd_t_15 : Cond.initialized RJ0 ∈ lw_gd := zgin_1 (List.mem_of_getElem? (i := 15) rfl) rfl
theorem wd_t_593 : Cond.code yJ0_charAt_5068e cJ0_charAt_5068e 2 (some .char) ∈ lw_gd := zgin_3 (List.mem_of_getElem? (i := 113) rfl) rfl
theorem wd_t_636 : Cond.code yJ0_indexOf_0f7a4 cJ0_indexOf_0f7a4 2 (some .int) ∈ lw_gd := zgin_3 (List.mem_of_getElem? (i := 156) rfl) rfl
theorem wd_t_640 : Cond.code yJ0_indexOf_7cf53 cJ0_indexOf_7cf53 3 (some .int) ∈ lw_gd := zgin_3 (List.mem_of_getElem? (i := 160) rfl) rfl
theorem wd_t_597 : Cond.code yJ0_isLatin1_aae02 cJ0_isLatin1_aae02 1 (some .boolean) ∈ lw_gd := zgin_3 (List.mem_of_getElem? (i := 117) rfl) rfl
theorem wd_t_587 : Cond.code yJ0_coder_7d493 cJ0_coder_7d493 1 (some .byte) ∈ lw_gd := zgin_3 (List.mem_of_getElem? (i := 107) rfl) rfl
theorem wd_t_603 : Cond.code yJ0_checkIndex_df160 cJ0_checkIndex_df160 2 none ∈ lw_gd := zgin_3 (List.mem_of_getElem? (i := 123) rfl) rfl
theorem wd_t_600 : Cond.code yJ1_charAt_3b067 cJ1_charAt_3b067 2 (some .char) ∈ lw_gd := zgin_3 (List.mem_of_getElem? (i := 120) rfl) rfl
theorem wd_t_16 : Cond.initialized RJ1 ∈ lw_gd := zgin_1 (List.mem_of_getElem? (i := 16) rfl) rfl
theorem wd_t_644 : Cond.code yJ1_indexOf_4cfef cJ1_indexOf_4cfef 4 (some .int) ∈ lw_gd := zgin_3 (List.mem_of_getElem? (i := 164) rfl) rfl
theorem wd_t_652 : Cond.code yJ1_indexOfChar_4cfef cJ1_indexOfChar_4cfef 6 (some .int) ∈ lw_gd := zgin_3 (List.mem_of_getElem? (i := 172) rfl) rfl
theorem wd_t_647 : Cond.code yJ1_canEncode_9a6ad cJ1_canEncode_9a6ad 1 (some .boolean) ∈ lw_gd := zgin_3 (List.mem_of_getElem? (i := 167) rfl) rfl
theorem wd_t_608 : Cond.code yJ3_checkIndex_8e157 cJ3_checkIndex_8e157 3 (some .int) ∈ lw_gd := zgin_3 (List.mem_of_getElem? (i := 128) rfl) rfl
theorem wd_t_17 : Cond.initialized RJ3 ∈ lw_gd := zgin_1 (List.mem_of_getElem? (i := 17) rfl) rfl
theorem zkw_0 : ∀ w ∈ u_ws RX0 TX0 11, w ∈ lw_gd := zuws (zlt1 (n := 10) (show u_lay RX0 TX0 10 ∈ lw_gd from wd_t_220) (zlt1 (n := 9) (show u_lay RX0 TX0 9 ∈ lw_gd from wd_t_218) (zlt1 (n := 8) (show u_lay RX0 TX0 8 ∈ lw_gd from wd_t_216) (zlt1 (n := 7) (show u_lay RX0 TX0 7 ∈ lw_gd from wd_t_214) (zlt1 (n := 6) (show u_lay RX0 TX0 6 ∈ lw_gd from wd_t_212) (zlt1 (n := 5) (show u_lay RX0 TX0 5 ∈ lw_gd from wd_t_210) (zlt1 (n := 4) (show u_lay RX0 TX0 4 ∈ lw_gd from wd_t_208) (zlt1 (n := 3) (show u_lay RX0 TX0 3 ∈ lw_gd from wd_t_206) (zlt1 (n := 2) (show u_lay RX0 TX0 2 ∈ lw_gd from wd_t_204) (zlt1 (n := 1) (show u_lay RX0 TX0 1 ∈ lw_gd from wd_t_202) (zlt1 (n := 0) (show u_lay RX0 TX0 0 ∈ lw_gd from wd_t_200) zlt0)))))))))))
theorem zk_0 : zCls 0 RX0 TX0 11 tyX0 := ⟨rfl, zkw_0, tyX0_ok, nmX0⟩
theorem zkw_1 : ∀ w ∈ u_ws RX1 TX1 18, w ∈ lw_gd := zuws (zlt1 (n := 17) (show u_lay RX1 TX1 17 ∈ lw_gd from wd_t_151) (zlt1 (n := 16) (show u_lay RX1 TX1 16 ∈ lw_gd from wd_t_149) (zlt1 (n := 15) (show u_lay RX1 TX1 15 ∈ lw_gd from wd_t_147) (zlt1 (n := 14) (show u_lay RX1 TX1 14 ∈ lw_gd from wd_t_145) (zlt1 (n := 13) (show u_lay RX1 TX1 13 ∈ lw_gd from wd_t_143) (zlt1 (n := 12) (show u_lay RX1 TX1 12 ∈ lw_gd from wd_t_141) (zlt1 (n := 11) (show u_lay RX1 TX1 11 ∈ lw_gd from wd_t_139) (zlt1 (n := 10) (show u_lay RX1 TX1 10 ∈ lw_gd from wd_t_137) (zlt1 (n := 9) (show u_lay RX1 TX1 9 ∈ lw_gd from wd_t_135) (zlt1 (n := 8) (show u_lay RX1 TX1 8 ∈ lw_gd from wd_t_133) (zlt1 (n := 7) (show u_lay RX1 TX1 7 ∈ lw_gd from wd_t_131) (zlt1 (n := 6) (show u_lay RX1 TX1 6 ∈ lw_gd from wd_t_129) (zlt1 (n := 5) (show u_lay RX1 TX1 5 ∈ lw_gd from wd_t_127) (zlt1 (n := 4) (show u_lay RX1 TX1 4 ∈ lw_gd from wd_t_125) (zlt1 (n := 3) (show u_lay RX1 TX1 3 ∈ lw_gd from wd_t_123) (zlt1 (n := 2) (show u_lay RX1 TX1 2 ∈ lw_gd from wd_t_121) (zlt1 (n := 1) (show u_lay RX1 TX1 1 ∈ lw_gd from wd_t_119) (zlt1 (n := 0) (show u_lay RX1 TX1 0 ∈ lw_gd from wd_t_117) zlt0))))))))))))))))))
theorem zk_1 : zCls 1 RX1 TX1 18 tyX1 := ⟨rfl, zkw_1, tyX1_ok, nmX1⟩
theorem zkw_2 : ∀ w ∈ u_ws RX2 TX2 11, w ∈ lw_gd := zuws (zlt1 (n := 10) (show u_lay RX2 TX2 10 ∈ lw_gd from wd_t_390) (zlt1 (n := 9) (show u_lay RX2 TX2 9 ∈ lw_gd from wd_t_388) (zlt1 (n := 8) (show u_lay RX2 TX2 8 ∈ lw_gd from wd_t_386) (zlt1 (n := 7) (show u_lay RX2 TX2 7 ∈ lw_gd from wd_t_384) (zlt1 (n := 6) (show u_lay RX2 TX2 6 ∈ lw_gd from wd_t_382) (zlt1 (n := 5) (show u_lay RX2 TX2 5 ∈ lw_gd from wd_t_380) (zlt1 (n := 4) (show u_lay RX2 TX2 4 ∈ lw_gd from wd_t_378) (zlt1 (n := 3) (show u_lay RX2 TX2 3 ∈ lw_gd from wd_t_376) (zlt1 (n := 2) (show u_lay RX2 TX2 2 ∈ lw_gd from wd_t_374) (zlt1 (n := 1) (show u_lay RX2 TX2 1 ∈ lw_gd from wd_t_372) (zlt1 (n := 0) (show u_lay RX2 TX2 0 ∈ lw_gd from wd_t_370) zlt0)))))))))))
theorem zk_2 : zCls 2 RX2 TX2 11 tyX2 := ⟨rfl, zkw_2, tyX2_ok, nmX2⟩
theorem zkw_3 : ∀ w ∈ u_ws RX3 TX3 6, w ∈ lw_gd := zuws (zlt1 (n := 5) (show u_lay RX3 TX3 5 ∈ lw_gd from wd_t_270) (zlt1 (n := 4) (show u_lay RX3 TX3 4 ∈ lw_gd from wd_t_268) (zlt1 (n := 3) (show u_lay RX3 TX3 3 ∈ lw_gd from wd_t_266) (zlt1 (n := 2) (show u_lay RX3 TX3 2 ∈ lw_gd from wd_t_264) (zlt1 (n := 1) (show u_lay RX3 TX3 1 ∈ lw_gd from wd_t_262) (zlt1 (n := 0) (show u_lay RX3 TX3 0 ∈ lw_gd from wd_t_260) zlt0))))))
theorem zk_3 : zCls 3 RX3 TX3 6 tyX3 := ⟨rfl, zkw_3, tyX3_ok, nmX3⟩
theorem zkw_4 : ∀ w ∈ u_ws RX4 TX4 11, w ∈ lw_gd := zuws (zlt1 (n := 10) (show u_lay RX4 TX4 10 ∈ lw_gd from wd_t_430) (zlt1 (n := 9) (show u_lay RX4 TX4 9 ∈ lw_gd from wd_t_428) (zlt1 (n := 8) (show u_lay RX4 TX4 8 ∈ lw_gd from wd_t_426) (zlt1 (n := 7) (show u_lay RX4 TX4 7 ∈ lw_gd from wd_t_424) (zlt1 (n := 6) (show u_lay RX4 TX4 6 ∈ lw_gd from wd_t_422) (zlt1 (n := 5) (show u_lay RX4 TX4 5 ∈ lw_gd from wd_t_420) (zlt1 (n := 4) (show u_lay RX4 TX4 4 ∈ lw_gd from wd_t_418) (zlt1 (n := 3) (show u_lay RX4 TX4 3 ∈ lw_gd from wd_t_416) (zlt1 (n := 2) (show u_lay RX4 TX4 2 ∈ lw_gd from wd_t_414) (zlt1 (n := 1) (show u_lay RX4 TX4 1 ∈ lw_gd from wd_t_412) (zlt1 (n := 0) (show u_lay RX4 TX4 0 ∈ lw_gd from wd_t_410) zlt0)))))))))))
theorem zk_4 : zCls 4 RX4 TX4 11 tyX4 := ⟨rfl, zkw_4, tyX4_ok, nmX4⟩
theorem zkw_5 : ∀ w ∈ u_ws RX5 TX5 3, w ∈ lw_gd := zuws (zlt1 (n := 2) (show u_lay RX5 TX5 2 ∈ lw_gd from wd_t_46) (zlt1 (n := 1) (show u_lay RX5 TX5 1 ∈ lw_gd from wd_t_44) (zlt1 (n := 0) (show u_lay RX5 TX5 0 ∈ lw_gd from wd_t_42) zlt0)))
theorem zk_5 : zCls 5 RX5 TX5 3 tyX5 := ⟨rfl, zkw_5, tyX5_ok, nmX5⟩
theorem zkw_6 : ∀ w ∈ u_ws RX6 TX6 9, w ∈ lw_gd := zuws (zlt1 (n := 8) (show u_lay RX6 TX6 8 ∈ lw_gd from wd_t_350) (zlt1 (n := 7) (show u_lay RX6 TX6 7 ∈ lw_gd from wd_t_348) (zlt1 (n := 6) (show u_lay RX6 TX6 6 ∈ lw_gd from wd_t_346) (zlt1 (n := 5) (show u_lay RX6 TX6 5 ∈ lw_gd from wd_t_344) (zlt1 (n := 4) (show u_lay RX6 TX6 4 ∈ lw_gd from wd_t_342) (zlt1 (n := 3) (show u_lay RX6 TX6 3 ∈ lw_gd from wd_t_340) (zlt1 (n := 2) (show u_lay RX6 TX6 2 ∈ lw_gd from wd_t_338) (zlt1 (n := 1) (show u_lay RX6 TX6 1 ∈ lw_gd from wd_t_336) (zlt1 (n := 0) (show u_lay RX6 TX6 0 ∈ lw_gd from wd_t_334) zlt0)))))))))
theorem zk_6 : zCls 6 RX6 TX6 9 tyX6 := ⟨rfl, zkw_6, tyX6_ok, nmX6⟩
theorem zkw_7 : ∀ w ∈ u_ws RX7 TX7 13, w ∈ lw_gd := zuws (zlt1 (n := 12) (show u_lay RX7 TX7 12 ∈ lw_gd from wd_t_316) (zlt1 (n := 11) (show u_lay RX7 TX7 11 ∈ lw_gd from wd_t_314) (zlt1 (n := 10) (show u_lay RX7 TX7 10 ∈ lw_gd from wd_t_312) (zlt1 (n := 9) (show u_lay RX7 TX7 9 ∈ lw_gd from wd_t_310) (zlt1 (n := 8) (show u_lay RX7 TX7 8 ∈ lw_gd from wd_t_308) (zlt1 (n := 7) (show u_lay RX7 TX7 7 ∈ lw_gd from wd_t_306) (zlt1 (n := 6) (show u_lay RX7 TX7 6 ∈ lw_gd from wd_t_304) (zlt1 (n := 5) (show u_lay RX7 TX7 5 ∈ lw_gd from wd_t_302) (zlt1 (n := 4) (show u_lay RX7 TX7 4 ∈ lw_gd from wd_t_300) (zlt1 (n := 3) (show u_lay RX7 TX7 3 ∈ lw_gd from wd_t_298) (zlt1 (n := 2) (show u_lay RX7 TX7 2 ∈ lw_gd from wd_t_296) (zlt1 (n := 1) (show u_lay RX7 TX7 1 ∈ lw_gd from wd_t_294) (zlt1 (n := 0) (show u_lay RX7 TX7 0 ∈ lw_gd from wd_t_292) zlt0)))))))))))))
theorem zk_7 : zCls 7 RX7 TX7 13 tyX7 := ⟨rfl, zkw_7, tyX7_ok, nmX7⟩
theorem zkw_8 : ∀ w ∈ u_ws RX8 TX8 6, w ∈ lw_gd := zuws (zlt1 (n := 5) (show u_lay RX8 TX8 5 ∈ lw_gd from wd_t_245) (zlt1 (n := 4) (show u_lay RX8 TX8 4 ∈ lw_gd from wd_t_243) (zlt1 (n := 3) (show u_lay RX8 TX8 3 ∈ lw_gd from wd_t_241) (zlt1 (n := 2) (show u_lay RX8 TX8 2 ∈ lw_gd from wd_t_239) (zlt1 (n := 1) (show u_lay RX8 TX8 1 ∈ lw_gd from wd_t_237) (zlt1 (n := 0) (show u_lay RX8 TX8 0 ∈ lw_gd from wd_t_235) zlt0))))))
theorem zk_8 : zCls 8 RX8 TX8 6 tyX8 := ⟨rfl, zkw_8, tyX8_ok, nmX8⟩
theorem zkw_9 : ∀ w ∈ u_ws RX9 TX9 7, w ∈ lw_gd := zuws (zlt1 (n := 6) (show u_lay RX9 TX9 6 ∈ lw_gd from wd_t_180) (zlt1 (n := 5) (show u_lay RX9 TX9 5 ∈ lw_gd from wd_t_178) (zlt1 (n := 4) (show u_lay RX9 TX9 4 ∈ lw_gd from wd_t_176) (zlt1 (n := 3) (show u_lay RX9 TX9 3 ∈ lw_gd from wd_t_174) (zlt1 (n := 2) (show u_lay RX9 TX9 2 ∈ lw_gd from wd_t_172) (zlt1 (n := 1) (show u_lay RX9 TX9 1 ∈ lw_gd from wd_t_170) (zlt1 (n := 0) (show u_lay RX9 TX9 0 ∈ lw_gd from wd_t_168) zlt0)))))))
theorem zk_9 : zCls 9 RX9 TX9 7 tyX9 := ⟨rfl, zkw_9, tyX9_ok, nmX9⟩
theorem zkw_10 : ∀ w ∈ u_ws RX10 TX10 9, w ∈ lw_gd := zuws (zlt1 (n := 8) (show u_lay RX10 TX10 8 ∈ lw_gd from wd_t_81) (zlt1 (n := 7) (show u_lay RX10 TX10 7 ∈ lw_gd from wd_t_79) (zlt1 (n := 6) (show u_lay RX10 TX10 6 ∈ lw_gd from wd_t_77) (zlt1 (n := 5) (show u_lay RX10 TX10 5 ∈ lw_gd from wd_t_75) (zlt1 (n := 4) (show u_lay RX10 TX10 4 ∈ lw_gd from wd_t_73) (zlt1 (n := 3) (show u_lay RX10 TX10 3 ∈ lw_gd from wd_t_71) (zlt1 (n := 2) (show u_lay RX10 TX10 2 ∈ lw_gd from wd_t_69) (zlt1 (n := 1) (show u_lay RX10 TX10 1 ∈ lw_gd from wd_t_67) (zlt1 (n := 0) (show u_lay RX10 TX10 0 ∈ lw_gd from wd_t_65) zlt0)))))))))
theorem zk_10 : zCls 10 RX10 TX10 9 tyX10 := ⟨rfl, zkw_10, tyX10_ok, nmX10⟩
theorem zkw_11 : ∀ w ∈ u_ws RX11 TX11 12, w ∈ lw_gd := zuws (zlt1 (n := 11) (show u_lay RX11 TX11 11 ∈ lw_gd from wd_t_467) (zlt1 (n := 10) (show u_lay RX11 TX11 10 ∈ lw_gd from wd_t_465) (zlt1 (n := 9) (show u_lay RX11 TX11 9 ∈ lw_gd from wd_t_463) (zlt1 (n := 8) (show u_lay RX11 TX11 8 ∈ lw_gd from wd_t_461) (zlt1 (n := 7) (show u_lay RX11 TX11 7 ∈ lw_gd from wd_t_459) (zlt1 (n := 6) (show u_lay RX11 TX11 6 ∈ lw_gd from wd_t_457) (zlt1 (n := 5) (show u_lay RX11 TX11 5 ∈ lw_gd from wd_t_455) (zlt1 (n := 4) (show u_lay RX11 TX11 4 ∈ lw_gd from wd_t_453) (zlt1 (n := 3) (show u_lay RX11 TX11 3 ∈ lw_gd from wd_t_451) (zlt1 (n := 2) (show u_lay RX11 TX11 2 ∈ lw_gd from wd_t_449) (zlt1 (n := 1) (show u_lay RX11 TX11 1 ∈ lw_gd from wd_t_447) (zlt1 (n := 0) (show u_lay RX11 TX11 0 ∈ lw_gd from wd_t_445) zlt0))))))))))))
theorem zk_11 : zCls 11 RX11 TX11 12 tyX11 := ⟨rfl, zkw_11, tyX11_ok, nmX11⟩
theorem zkw_12 : ∀ w ∈ u_ws RX12 TX12 106, w ∈ lw_gd := zuws (zlt1 (n := 105) (show u_lay RX12 TX12 105 ∈ lw_gd from wd_t_1650) (zlt1 (n := 104) (show u_lay RX12 TX12 104 ∈ lw_gd from wd_t_1648) (zlt1 (n := 103) (show u_lay RX12 TX12 103 ∈ lw_gd from wd_t_1646) (zlt1 (n := 102) (show u_lay RX12 TX12 102 ∈ lw_gd from wd_t_1644) (zlt1 (n := 101) (show u_lay RX12 TX12 101 ∈ lw_gd from wd_t_1642) (zlt1 (n := 100) (show u_lay RX12 TX12 100 ∈ lw_gd from wd_t_1640) (zlt1 (n := 99) (show u_lay RX12 TX12 99 ∈ lw_gd from wd_t_1638) (zlt1 (n := 98) (show u_lay RX12 TX12 98 ∈ lw_gd from wd_t_1636) (zlt1 (n := 97) (show u_lay RX12 TX12 97 ∈ lw_gd from wd_t_1634) (zlt1 (n := 96) (show u_lay RX12 TX12 96 ∈ lw_gd from wd_t_1632) (zlt1 (n := 95) (show u_lay RX12 TX12 95 ∈ lw_gd from wd_t_1630) (zlt1 (n := 94) (show u_lay RX12 TX12 94 ∈ lw_gd from wd_t_1628) (zlt1 (n := 93) (show u_lay RX12 TX12 93 ∈ lw_gd from wd_t_1626) (zlt1 (n := 92) (show u_lay RX12 TX12 92 ∈ lw_gd from wd_t_1624) (zlt1 (n := 91) (show u_lay RX12 TX12 91 ∈ lw_gd from wd_t_1622) (zlt1 (n := 90) (show u_lay RX12 TX12 90 ∈ lw_gd from wd_t_1620) (zlt1 (n := 89) (show u_lay RX12 TX12 89 ∈ lw_gd from wd_t_1618) (zlt1 (n := 88) (show u_lay RX12 TX12 88 ∈ lw_gd from wd_t_1616) (zlt1 (n := 87) (show u_lay RX12 TX12 87 ∈ lw_gd from wd_t_1614) (zlt1 (n := 86) (show u_lay RX12 TX12 86 ∈ lw_gd from wd_t_1612) (zlt1 (n := 85) (show u_lay RX12 TX12 85 ∈ lw_gd from wd_t_1610) (zlt1 (n := 84) (show u_lay RX12 TX12 84 ∈ lw_gd from wd_t_1608) (zlt1 (n := 83) (show u_lay RX12 TX12 83 ∈ lw_gd from wd_t_1606) (zlt1 (n := 82) (show u_lay RX12 TX12 82 ∈ lw_gd from wd_t_1604) (zlt1 (n := 81) (show u_lay RX12 TX12 81 ∈ lw_gd from wd_t_1602) (zlt1 (n := 80) (show u_lay RX12 TX12 80 ∈ lw_gd from wd_t_1600) (zlt1 (n := 79) (show u_lay RX12 TX12 79 ∈ lw_gd from wd_t_1598) (zlt1 (n := 78) (show u_lay RX12 TX12 78 ∈ lw_gd from wd_t_1596) (zlt1 (n := 77) (show u_lay RX12 TX12 77 ∈ lw_gd from wd_t_1594) (zlt1 (n := 76) (show u_lay RX12 TX12 76 ∈ lw_gd from wd_t_1592) (zlt1 (n := 75) (show u_lay RX12 TX12 75 ∈ lw_gd from wd_t_1590) (zlt1 (n := 74) (show u_lay RX12 TX12 74 ∈ lw_gd from wd_t_1588) (zlt1 (n := 73) (show u_lay RX12 TX12 73 ∈ lw_gd from wd_t_1586) (zlt1 (n := 72) (show u_lay RX12 TX12 72 ∈ lw_gd from wd_t_1584) (zlt1 (n := 71) (show u_lay RX12 TX12 71 ∈ lw_gd from wd_t_1582) (zlt1 (n := 70) (show u_lay RX12 TX12 70 ∈ lw_gd from wd_t_1580) (zlt1 (n := 69) (show u_lay RX12 TX12 69 ∈ lw_gd from wd_t_1578) (zlt1 (n := 68) (show u_lay RX12 TX12 68 ∈ lw_gd from wd_t_1576) (zlt1 (n := 67) (show u_lay RX12 TX12 67 ∈ lw_gd from wd_t_1574) (zlt1 (n := 66) (show u_lay RX12 TX12 66 ∈ lw_gd from wd_t_1572) (zlt1 (n := 65) (show u_lay RX12 TX12 65 ∈ lw_gd from wd_t_1570) (zlt1 (n := 64) (show u_lay RX12 TX12 64 ∈ lw_gd from wd_t_1568) (zlt1 (n := 63) (show u_lay RX12 TX12 63 ∈ lw_gd from wd_t_1566) (zlt1 (n := 62) (show u_lay RX12 TX12 62 ∈ lw_gd from wd_t_1564) (zlt1 (n := 61) (show u_lay RX12 TX12 61 ∈ lw_gd from wd_t_1562) (zlt1 (n := 60) (show u_lay RX12 TX12 60 ∈ lw_gd from wd_t_1560) (zlt1 (n := 59) (show u_lay RX12 TX12 59 ∈ lw_gd from wd_t_1558) (zlt1 (n := 58) (show u_lay RX12 TX12 58 ∈ lw_gd from wd_t_1556) (zlt1 (n := 57) (show u_lay RX12 TX12 57 ∈ lw_gd from wd_t_1554) (zlt1 (n := 56) (show u_lay RX12 TX12 56 ∈ lw_gd from wd_t_1552) (zlt1 (n := 55) (show u_lay RX12 TX12 55 ∈ lw_gd from wd_t_1550) (zlt1 (n := 54) (show u_lay RX12 TX12 54 ∈ lw_gd from wd_t_1548) (zlt1 (n := 53) (show u_lay RX12 TX12 53 ∈ lw_gd from wd_t_1546) (zlt1 (n := 52) (show u_lay RX12 TX12 52 ∈ lw_gd from wd_t_1544) (zlt1 (n := 51) (show u_lay RX12 TX12 51 ∈ lw_gd from wd_t_1542) (zlt1 (n := 50) (show u_lay RX12 TX12 50 ∈ lw_gd from wd_t_1540) (zlt1 (n := 49) (show u_lay RX12 TX12 49 ∈ lw_gd from wd_t_1538) (zlt1 (n := 48) (show u_lay RX12 TX12 48 ∈ lw_gd from wd_t_1536) (zlt1 (n := 47) (show u_lay RX12 TX12 47 ∈ lw_gd from wd_t_1534) (zlt1 (n := 46) (show u_lay RX12 TX12 46 ∈ lw_gd from wd_t_1532) (zlt1 (n := 45) (show u_lay RX12 TX12 45 ∈ lw_gd from wd_t_1530) (zlt1 (n := 44) (show u_lay RX12 TX12 44 ∈ lw_gd from wd_t_1528) (zlt1 (n := 43) (show u_lay RX12 TX12 43 ∈ lw_gd from wd_t_1526) (zlt1 (n := 42) (show u_lay RX12 TX12 42 ∈ lw_gd from wd_t_1524) (zlt1 (n := 41) (show u_lay RX12 TX12 41 ∈ lw_gd from wd_t_1522) (zlt1 (n := 40) (show u_lay RX12 TX12 40 ∈ lw_gd from wd_t_1520) (zlt1 (n := 39) (show u_lay RX12 TX12 39 ∈ lw_gd from wd_t_1518) (zlt1 (n := 38) (show u_lay RX12 TX12 38 ∈ lw_gd from wd_t_1516) (zlt1 (n := 37) (show u_lay RX12 TX12 37 ∈ lw_gd from wd_t_1514) (zlt1 (n := 36) (show u_lay RX12 TX12 36 ∈ lw_gd from wd_t_1512) (zlt1 (n := 35) (show u_lay RX12 TX12 35 ∈ lw_gd from wd_t_1510) (zlt1 (n := 34) (show u_lay RX12 TX12 34 ∈ lw_gd from wd_t_1508) (zlt1 (n := 33) (show u_lay RX12 TX12 33 ∈ lw_gd from wd_t_1506) (zlt1 (n := 32) (show u_lay RX12 TX12 32 ∈ lw_gd from wd_t_1504) (zlt1 (n := 31) (show u_lay RX12 TX12 31 ∈ lw_gd from wd_t_1502) (zlt1 (n := 30) (show u_lay RX12 TX12 30 ∈ lw_gd from wd_t_1500) (zlt1 (n := 29) (show u_lay RX12 TX12 29 ∈ lw_gd from wd_t_1498) (zlt1 (n := 28) (show u_lay RX12 TX12 28 ∈ lw_gd from wd_t_1496) (zlt1 (n := 27) (show u_lay RX12 TX12 27 ∈ lw_gd from wd_t_1494) (zlt1 (n := 26) (show u_lay RX12 TX12 26 ∈ lw_gd from wd_t_1492) (zlt1 (n := 25) (show u_lay RX12 TX12 25 ∈ lw_gd from wd_t_1490) (zlt1 (n := 24) (show u_lay RX12 TX12 24 ∈ lw_gd from wd_t_1488) (zlt1 (n := 23) (show u_lay RX12 TX12 23 ∈ lw_gd from wd_t_1486) (zlt1 (n := 22) (show u_lay RX12 TX12 22 ∈ lw_gd from wd_t_1484) (zlt1 (n := 21) (show u_lay RX12 TX12 21 ∈ lw_gd from wd_t_1482) (zlt1 (n := 20) (show u_lay RX12 TX12 20 ∈ lw_gd from wd_t_1480) (zlt1 (n := 19) (show u_lay RX12 TX12 19 ∈ lw_gd from wd_t_1478) (zlt1 (n := 18) (show u_lay RX12 TX12 18 ∈ lw_gd from wd_t_1476) (zlt1 (n := 17) (show u_lay RX12 TX12 17 ∈ lw_gd from wd_t_1474) (zlt1 (n := 16) (show u_lay RX12 TX12 16 ∈ lw_gd from wd_t_1472) (zlt1 (n := 15) (show u_lay RX12 TX12 15 ∈ lw_gd from wd_t_1470) (zlt1 (n := 14) (show u_lay RX12 TX12 14 ∈ lw_gd from wd_t_1468) (zlt1 (n := 13) (show u_lay RX12 TX12 13 ∈ lw_gd from wd_t_1466) (zlt1 (n := 12) (show u_lay RX12 TX12 12 ∈ lw_gd from wd_t_1464) (zlt1 (n := 11) (show u_lay RX12 TX12 11 ∈ lw_gd from wd_t_1462) (zlt1 (n := 10) (show u_lay RX12 TX12 10 ∈ lw_gd from wd_t_1460) (zlt1 (n := 9) (show u_lay RX12 TX12 9 ∈ lw_gd from wd_t_1458) (zlt1 (n := 8) (show u_lay RX12 TX12 8 ∈ lw_gd from wd_t_1456) (zlt1 (n := 7) (show u_lay RX12 TX12 7 ∈ lw_gd from wd_t_1454) (zlt1 (n := 6) (show u_lay RX12 TX12 6 ∈ lw_gd from wd_t_1452) (zlt1 (n := 5) (show u_lay RX12 TX12 5 ∈ lw_gd from wd_t_1450) (zlt1 (n := 4) (show u_lay RX12 TX12 4 ∈ lw_gd from wd_t_1448) (zlt1 (n := 3) (show u_lay RX12 TX12 3 ∈ lw_gd from wd_t_1446) (zlt1 (n := 2) (show u_lay RX12 TX12 2 ∈ lw_gd from wd_t_1444) (zlt1 (n := 1) (show u_lay RX12 TX12 1 ∈ lw_gd from wd_t_1442) (zlt1 (n := 0) (show u_lay RX12 TX12 0 ∈ lw_gd from wd_t_1440) zlt0))))))))))))))))))))))))))))))))))))))))))))))))))))))))))))))))))))))))))))))))))))))))))))))))))))))))))
theorem zk_12 : zCls 12 RX12 TX12 106 tyX12 := ⟨rfl, zkw_12, tyX12_ok, nmX12⟩
theorem zm_0 : zMth zI0 0 0 := ⟨wd_t_187, wd_t_6, by decide +kernel, by decide⟩
theorem zm_1 : zMth zI0 1 1 := ⟨wd_t_917, wd_t_6, by decide +kernel, by decide⟩
theorem zm_2 : zMth zI0 2 1 := ⟨wd_t_905, wd_t_6, by decide +kernel, by decide⟩
theorem zm_3 : zMth zI0 3 2 := ⟨wd_t_902, wd_t_6, by decide +kernel, by decide⟩
theorem zm_4 : zMth zI0 4 3 := ⟨wd_t_914, wd_t_6, by decide +kernel, by decide⟩
theorem zm_5 : zMth zI0 5 3 := ⟨wd_t_925, wd_t_6, by decide +kernel, by decide⟩
theorem zm_6 : zMth zI0 6 2 := ⟨wd_t_933, wd_t_6, by decide +kernel, by decide⟩
theorem zm_7 : zMth zI0 7 1 := ⟨wd_t_937, wd_t_6, by decide +kernel, by decide⟩
theorem zm_8 : zMth zI0 8 1 := ⟨wd_t_950, wd_t_6, by decide +kernel, by decide⟩
theorem zm_9 : zMth zI0 9 3 := ⟨wd_t_941, wd_t_6, by decide +kernel, by decide⟩
theorem zm_10 : zMth zI0 10 0 := ⟨wd_t_1327, wd_t_6, by decide +kernel, by decide⟩
theorem zm_11 : zMth zI0 11 2 := ⟨wd_t_89, wd_t_4, by decide +kernel, by decide⟩
theorem zm_12 : zMth zI0 12 0 := ⟨wd_t_704, wd_t_4, by decide +kernel, by decide⟩
theorem zm_13 : zMth zI0 13 0 := ⟨wd_t_712, wd_t_4, by decide +kernel, by decide⟩
theorem zm_14 : zMth zI0 14 2 := ⟨wd_t_735, wd_t_4, by decide +kernel, by decide⟩
theorem zm_15 : zMth zI0 15 0 := ⟨wd_t_769, wd_t_4, by decide +kernel, by decide⟩
theorem zm_16 : zMth zI0 16 2 := ⟨wd_t_773, wd_t_4, by decide +kernel, by decide⟩
theorem zm_17 : zMth zI0 17 2 := ⟨wd_t_743, wd_t_4, by decide +kernel, by decide⟩
theorem zm_18 : zMth zI0 18 1 := ⟨wd_t_747, wd_t_4, by decide +kernel, by decide⟩
theorem zm_19 : zMth zI0 19 3 := ⟨wd_t_751, wd_t_4, by decide +kernel, by decide⟩
theorem zm_20 : zMth zI0 20 3 := ⟨wd_t_765, wd_t_4, by decide +kernel, by decide⟩
theorem zm_21 : zMth zI0 21 1 := ⟨wd_t_777, wd_t_4, by decide +kernel, by decide⟩
theorem zm_22 : zMth zI0 22 3 := ⟨wd_t_787, wd_t_4, by decide +kernel, by decide⟩
theorem zm_23 : zMth zI0 23 2 := ⟨wd_t_791, wd_t_4, by decide +kernel, by decide⟩
theorem zm_24 : zMth zI0 24 4 := ⟨wd_t_801, wd_t_4, by decide +kernel, by decide⟩
theorem zm_25 : zMth zI0 25 3 := ⟨wd_t_797, wd_t_4, by decide +kernel, by decide⟩
theorem zm_26 : zMth zI0 26 1 := ⟨wd_t_781, wd_t_4, by decide +kernel, by decide⟩
theorem zm_27 : zMth zI0 27 1 := ⟨wd_t_809, wd_t_4, by decide +kernel, by decide⟩
theorem zm_28 : zMth zI0 28 0 := ⟨wd_t_357, wd_t_11, by decide +kernel, by decide⟩
theorem zm_29 : zMth zI0 29 3 := ⟨wd_t_1168, wd_t_11, by decide +kernel, by decide⟩
theorem zm_30 : zMth zI0 30 0 := ⟨wd_t_1311, wd_t_11, by decide +kernel, by decide⟩
theorem zm_31 : zMth zI0 31 2 := ⟨wd_t_1156, wd_t_11, by decide +kernel, by decide⟩
theorem zm_32 : zMth zI0 32 4 := ⟨wd_t_1165, wd_t_11, by decide +kernel, by decide⟩
theorem zm_33 : zMth zI0 33 6 := ⟨wd_t_1176, wd_t_11, by decide +kernel, by decide⟩
theorem zm_34 : zMth zI0 34 4 := ⟨wd_t_1184, wd_t_11, by decide +kernel, by decide⟩
theorem zm_35 : zMth zI0 35 0 := ⟨wd_t_1189, wd_t_11, by decide +kernel, by decide⟩
theorem zm_36 : zMth zI0 36 2 := ⟨wd_t_1192, wd_t_11, by decide +kernel, by decide⟩
theorem zm_37 : zMth zI0 37 1 := ⟨wd_t_1196, wd_t_11, by decide +kernel, by decide⟩
theorem zm_38 : zMth zI0 38 3 := ⟨wd_t_1202, wd_t_11, by decide +kernel, by decide⟩
theorem zm_39 : zMth zI0 39 1 := ⟨wd_t_1206, wd_t_11, by decide +kernel, by decide⟩
theorem zm_40 : zMth zI0 40 0 := ⟨wd_t_252, wd_t_8, by decide +kernel, by decide⟩
theorem zm_41 : zMth zI0 41 0 := ⟨wd_t_1307, wd_t_8, by decide +kernel, by decide⟩
theorem zm_42 : zMth zI0 42 1 := ⟨wd_t_1024, wd_t_8, by decide +kernel, by decide⟩
theorem zm_43 : zMth zI0 43 4 := ⟨wd_t_1033, wd_t_8, by decide +kernel, by decide⟩
theorem zm_44 : zMth zI0 44 2 := ⟨wd_t_1041, wd_t_8, by decide +kernel, by decide⟩
theorem zm_45 : zMth zI0 45 1 := ⟨wd_t_1051, wd_t_8, by decide +kernel, by decide⟩
theorem zm_46 : zMth zI0 46 3 := ⟨wd_t_1061, wd_t_8, by decide +kernel, by decide⟩
theorem zm_47 : zMth zI0 47 2 := ⟨wd_t_1056, wd_t_8, by decide +kernel, by decide⟩
theorem zm_48 : zMth zI0 48 1 := ⟨wd_t_1065, wd_t_8, by decide +kernel, by decide⟩
theorem zm_49 : zMth zI0 49 2 := ⟨wd_t_1078, wd_t_8, by decide +kernel, by decide⟩
theorem zm_50 : zMth zI0 50 3 := ⟨wd_t_1070, wd_t_8, by decide +kernel, by decide⟩
theorem zm_51 : zMth zI0 51 3 := ⟨wd_t_1074, wd_t_8, by decide +kernel, by decide⟩
theorem zm_52 : zMth zI0 52 0 := ⟨wd_t_397, wd_t_12, by decide +kernel, by decide⟩
theorem zm_53 : zMth zI0 53 0 := ⟨wd_t_1315, wd_t_12, by decide +kernel, by decide⟩
theorem zm_54 : zMth zI0 54 2 := ⟨wd_t_1217, wd_t_12, by decide +kernel, by decide⟩
theorem zm_55 : zMth zI0 55 3 := ⟨wd_t_1228, wd_t_12, by decide +kernel, by decide⟩
theorem zm_56 : zMth zI0 56 4 := ⟨wd_t_1237, wd_t_12, by decide +kernel, by decide⟩
theorem zm_57 : zMth zI0 57 2 := ⟨wd_t_1245, wd_t_12, by decide +kernel, by decide⟩
theorem zm_58 : zMth zI0 58 3 := ⟨wd_t_1254, wd_t_12, by decide +kernel, by decide⟩
theorem zm_59 : zMth zI0 59 3 := ⟨wd_t_1259, wd_t_12, by decide +kernel, by decide⟩
theorem zm_60 : zMth zI0 60 0 := ⟨wd_t_34, wd_t_2, by decide +kernel, by decide⟩
theorem zm_61 : zMth zI0 61 2 := ⟨wd_t_38, wd_t_2, by decide +kernel, by decide⟩
theorem zm_62 : zMth zI0 62 1 := ⟨wd_t_480, wd_t_2, by decide +kernel, by decide⟩
theorem zm_63 : zMth zI0 63 3 := ⟨wd_t_477, wd_t_2, by decide +kernel, by decide⟩
theorem zm_64 : zMth zI0 64 2 := ⟨wd_t_487, wd_t_2, by decide +kernel, by decide⟩
theorem zm_65 : zMth zI0 65 3 := ⟨wd_t_494, wd_t_2, by decide +kernel, by decide⟩
theorem zm_66 : zMth zI0 66 2 := ⟨wd_t_506, wd_t_2, by decide +kernel, by decide⟩
theorem zm_67 : zMth zI0 67 1 := ⟨wd_t_739, wd_t_2, by decide +kernel, by decide⟩
theorem zm_68 : zMth zI0 68 2 := ⟨wd_t_522, wd_t_2, by decide +kernel, by decide⟩
theorem zm_69 : zMth zI0 69 2 := ⟨wd_t_527, wd_t_2, by decide +kernel, by decide⟩
theorem zm_70 : zMth zI0 70 2 := ⟨wd_t_760, wd_t_2, by decide +kernel, by decide⟩
theorem zm_71 : zMth zI0 71 3 := ⟨wd_t_518, wd_t_2, by decide +kernel, by decide⟩
theorem zm_72 : zMth zI0 72 1 := ⟨wd_t_323, wd_t_10, by decide +kernel, by decide⟩
theorem zm_73 : zMth zI0 73 1 := ⟨wd_t_1091, wd_t_10, by decide +kernel, by decide⟩
theorem zm_74 : zMth zI0 74 0 := ⟨wd_t_1299, wd_t_10, by decide +kernel, by decide⟩
theorem zm_75 : zMth zI0 75 0 := ⟨wd_t_1323, wd_t_10, by decide +kernel, by decide⟩
theorem zm_76 : zMth zI0 76 1 := ⟨wd_t_1295, wd_t_10, by decide +kernel, by decide⟩
theorem zm_77 : zMth zI0 77 3 := ⟨wd_t_1086, wd_t_10, by decide +kernel, by decide⟩
theorem zm_78 : zMth zI0 78 2 := ⟨wd_t_1099, wd_t_10, by decide +kernel, by decide⟩
theorem zm_79 : zMth zI0 79 2 := ⟨wd_t_1107, wd_t_10, by decide +kernel, by decide⟩
theorem zm_80 : zMth zI0 80 1 := ⟨wd_t_1117, wd_t_10, by decide +kernel, by decide⟩
theorem zm_81 : zMth zI0 81 3 := ⟨wd_t_1148, wd_t_10, by decide +kernel, by decide⟩
theorem zm_82 : zMth zI0 82 2 := ⟨wd_t_1121, wd_t_10, by decide +kernel, by decide⟩
theorem zm_83 : zMth zI0 83 1 := ⟨wd_t_277, wd_t_9, by decide +kernel, by decide⟩
theorem zm_84 : zMth zI0 84 0 := ⟨wd_t_865, wd_t_9, by decide +kernel, by decide⟩
theorem zm_85 : zMth zI0 85 1 := ⟨wd_t_1139, wd_t_9, by decide +kernel, by decide⟩
theorem zm_86 : zMth zI0 86 0 := ⟨wd_t_823, wd_t_9, by decide +kernel, by decide⟩
theorem zm_87 : zMth zI0 87 0 := ⟨wd_t_828, wd_t_9, by decide +kernel, by decide⟩
theorem zm_88 : zMth zI0 88 1 := ⟨wd_t_854, wd_t_9, by decide +kernel, by decide⟩
theorem zm_89 : zMth zI0 89 1 := ⟨wd_t_858, wd_t_9, by decide +kernel, by decide⟩
theorem zm_90 : zMth zI0 90 0 := ⟨wd_t_834, wd_t_9, by decide +kernel, by decide⟩
theorem zm_91 : zMth zI0 91 0 := ⟨wd_t_838, wd_t_9, by decide +kernel, by decide⟩
theorem zm_92 : zMth zI0 92 0 := ⟨wd_t_848, wd_t_9, by decide +kernel, by decide⟩
theorem zm_93 : zMth zI0 93 1 := ⟨wd_t_844, wd_t_9, by decide +kernel, by decide⟩
theorem zm_94 : zMth zI0 94 2 := ⟨wd_t_1126, wd_t_9, by decide +kernel, by decide⟩
theorem zm_95 : zMth zI0 95 3 := ⟨wd_t_1130, wd_t_9, by decide +kernel, by decide⟩
theorem zm_96 : zMth zI0 96 3 := ⟨wd_t_1133, wd_t_9, by decide +kernel, by decide⟩
theorem zm_97 : zMth zI0 97 0 := ⟨wd_t_227, wd_t_7, by decide +kernel, by decide⟩
theorem zm_98 : zMth zI0 98 1 := ⟨wd_t_970, wd_t_7, by decide +kernel, by decide⟩
theorem zm_99 : zMth zI0 99 0 := ⟨wd_t_1303, wd_t_7, by decide +kernel, by decide⟩
theorem zm_100 : zMth zI0 100 0 := ⟨wd_t_958, wd_t_7, by decide +kernel, by decide⟩
theorem zm_101 : zMth zI0 101 2 := ⟨wd_t_966, wd_t_7, by decide +kernel, by decide⟩
theorem zm_102 : zMth zI0 102 1 := ⟨wd_t_979, wd_t_7, by decide +kernel, by decide⟩
theorem zm_103 : zMth zI0 103 0 := ⟨wd_t_983, wd_t_7, by decide +kernel, by decide⟩
theorem zm_104 : zMth zI0 104 0 := ⟨wd_t_987, wd_t_7, by decide +kernel, by decide⟩
theorem zm_105 : zMth zI0 105 0 := ⟨wd_t_991, wd_t_7, by decide +kernel, by decide⟩
theorem zm_106 : zMth zI0 106 2 := ⟨wd_t_995, wd_t_7, by decide +kernel, by decide⟩
theorem zm_107 : zMth zI0 107 2 := ⟨wd_t_999, wd_t_7, by decide +kernel, by decide⟩
theorem zm_108 : zMth zI0 108 2 := ⟨wd_t_1012, wd_t_7, by decide +kernel, by decide⟩
theorem zm_109 : zMth zI0 109 1 := ⟨wd_t_1016, wd_t_7, by decide +kernel, by decide⟩
theorem zm_110 : zMth zI0 110 0 := ⟨wd_t_159, wd_t_5, by decide +kernel, by decide⟩
theorem zm_111 : zMth zI0 111 1 := ⟨wd_t_699, wd_t_5, by decide +kernel, by decide⟩
theorem zm_112 : zMth zI0 112 3 := ⟨wd_t_813, wd_t_5, by decide +kernel, by decide⟩
theorem zm_113 : zMth zI0 113 3 := ⟨wd_t_881, wd_t_5, by decide +kernel, by decide⟩
theorem zm_114 : zMth zI0 114 3 := ⟨wd_t_894, wd_t_5, by decide +kernel, by decide⟩
theorem zm_115 : zMth zI0 115 0 := ⟨wd_t_1319, wd_t_5, by decide +kernel, by decide⟩
theorem zm_116 : zMth zI0 116 0 := ⟨wd_t_54, wd_t_3, by decide +kernel, by decide⟩
theorem zm_117 : zMth zI0 117 5 := ⟨wd_t_539, wd_t_3, by decide +kernel, by decide⟩
theorem zm_118 : zMth zI0 118 1 := ⟨wd_t_543, wd_t_3, by decide +kernel, by decide⟩
theorem zm_119 : zMth zI0 119 1 := ⟨wd_t_551, wd_t_3, by decide +kernel, by decide⟩
theorem zm_120 : zMth zI0 120 0 := ⟨wd_t_560, wd_t_3, by decide +kernel, by decide⟩
theorem zm_121 : zMth zI0 121 3 := ⟨wd_t_695, wd_t_3, by decide +kernel, by decide⟩
theorem zm_122 : zMth zI0 122 1 := ⟨wd_t_564, wd_t_3, by decide +kernel, by decide⟩
theorem zm_123 : zMth zI0 123 2 := ⟨wd_t_574, wd_t_3, by decide +kernel, by decide⟩
theorem zm_124 : zMth zI0 124 2 := ⟨wd_t_691, wd_t_3, by decide +kernel, by decide⟩
theorem zm_125 : zMth zI0 125 2 := ⟨wd_t_578, wd_t_3, by decide +kernel, by decide⟩
theorem zm_126 : zMth zI0 126 3 := ⟨wd_t_631, wd_t_3, by decide +kernel, by decide⟩
theorem zm_127 : zMth zI0 127 1 := ⟨wd_t_567, wd_t_3, by decide +kernel, by decide⟩
theorem zm_128 : zMth zI0 128 1 := ⟨wd_t_570, wd_t_3, by decide +kernel, by decide⟩
theorem zm_129 : zMth zI0 129 0 := ⟨wd_t_708, wd_t_3, by decide +kernel, by decide⟩
theorem zm_130 : zMth zI0 130 0 := ⟨wd_t_730, wd_t_3, by decide +kernel, by decide⟩
theorem zm_131 : zMth zI0 131 0 := ⟨wd_t_755, wd_t_3, by decide +kernel, by decide⟩
theorem zm_132 : zMth zI0 132 0 := ⟨wd_t_720, wd_t_3, by decide +kernel, by decide⟩
theorem zm_133 : zMth zI0 133 1 := ⟨wd_t_724, wd_t_3, by decide +kernel, by decide⟩
theorem zm_134 : zMth zI0 134 1 := ⟨wd_t_716, wd_t_3, by decide +kernel, by decide⟩
theorem zm_135 : zMth zI0 135 1 := ⟨wd_t_873, wd_t_3, by decide +kernel, by decide⟩
theorem zm_136 : zMth zI0 136 0 := ⟨wd_t_26, wd_t_1, by decide +kernel, by decide⟩
theorem zm_137 : zMth zI0 137 3 := ⟨wd_t_473, wd_t_1, by decide +kernel, by decide⟩
theorem zm_138 : zMth zI0 138 2 := ⟨wd_t_502, wd_t_1, by decide +kernel, by decide⟩
theorem zm_139 : zMth zI0 139 3 := ⟨wd_t_514, wd_t_1, by decide +kernel, by decide⟩
theorem zm_140 : zMth zI0 140 0 := ⟨wd_t_531, wd_t_1, by decide +kernel, by decide⟩
theorem zm_141 : zMth zI0 141 5 := ⟨wd_t_535, wd_t_1, by decide +kernel, by decide⟩
theorem zm_142 : zMth zI0 142 1 := ⟨wd_t_547, wd_t_1, by decide +kernel, by decide⟩
theorem zm_143 : zMth zI0 143 1 := ⟨wd_t_556, wd_t_1, by decide +kernel, by decide⟩
theorem zm_144 : zMth zI0 144 0 := ⟨wd_t_819, wd_t_1, by decide +kernel, by decide⟩
theorem zm_145 : zMth zI0 145 1 := ⟨wd_t_869, wd_t_1, by decide +kernel, by decide⟩
theorem zm_146 : zMth zI0 146 3 := ⟨wd_t_877, wd_t_1, by decide +kernel, by decide⟩
theorem zm_147 : zMth zI0 147 3 := ⟨wd_t_885, wd_t_1, by decide +kernel, by decide⟩
theorem zm_148 : zMth zI0 148 2 := ⟨wd_t_898, wd_t_1, by decide +kernel, by decide⟩
theorem zm_149 : zMth zI0 149 3 := ⟨wd_t_910, wd_t_1, by decide +kernel, by decide⟩
theorem zm_150 : zMth zI0 150 3 := ⟨wd_t_921, wd_t_1, by decide +kernel, by decide⟩
theorem zm_151 : zMth zI0 151 2 := ⟨wd_t_929, wd_t_1, by decide +kernel, by decide⟩
theorem zm_152 : zMth zI0 152 0 := ⟨wd_t_954, wd_t_1, by decide +kernel, by decide⟩
theorem zm_153 : zMth zI0 153 2 := ⟨wd_t_962, wd_t_1, by decide +kernel, by decide⟩
theorem zm_154 : zMth zI0 154 1 := ⟨wd_t_975, wd_t_1, by decide +kernel, by decide⟩
theorem zm_155 : zMth zI0 155 2 := ⟨wd_t_1008, wd_t_1, by decide +kernel, by decide⟩
theorem zm_156 : zMth zI0 156 1 := ⟨wd_t_1020, wd_t_1, by decide +kernel, by decide⟩
theorem zm_157 : zMth zI0 157 4 := ⟨wd_t_1029, wd_t_1, by decide +kernel, by decide⟩
theorem zm_158 : zMth zI0 158 2 := ⟨wd_t_1037, wd_t_1, by decide +kernel, by decide⟩
theorem zm_159 : zMth zI0 159 3 := ⟨wd_t_1082, wd_t_1, by decide +kernel, by decide⟩
theorem zm_160 : zMth zI0 160 2 := ⟨wd_t_1095, wd_t_1, by decide +kernel, by decide⟩
theorem zm_161 : zMth zI0 161 2 := ⟨wd_t_1103, wd_t_1, by decide +kernel, by decide⟩
theorem zm_162 : zMth zI0 162 1 := ⟨wd_t_1113, wd_t_1, by decide +kernel, by decide⟩
theorem zm_163 : zMth zI0 163 3 := ⟨wd_t_1144, wd_t_1, by decide +kernel, by decide⟩
theorem zm_164 : zMth zI0 164 2 := ⟨wd_t_1152, wd_t_1, by decide +kernel, by decide⟩
theorem zm_165 : zMth zI0 165 3 := ⟨wd_t_1161, wd_t_1, by decide +kernel, by decide⟩
theorem zm_166 : zMth zI0 166 5 := ⟨wd_t_1172, wd_t_1, by decide +kernel, by decide⟩
theorem zm_167 : zMth zI0 167 4 := ⟨wd_t_1180, wd_t_1, by decide +kernel, by decide⟩
theorem zm_168 : zMth zI0 168 2 := ⟨wd_t_1213, wd_t_1, by decide +kernel, by decide⟩
theorem zm_169 : zMth zI0 169 3 := ⟨wd_t_1223, wd_t_1, by decide +kernel, by decide⟩
theorem zm_170 : zMth zI0 170 3 := ⟨wd_t_1233, wd_t_1, by decide +kernel, by decide⟩
theorem zm_171 : zMth zI0 171 1 := ⟨wd_t_1241, wd_t_1, by decide +kernel, by decide⟩
theorem zm_172 : zMth zI0 172 3 := ⟨wd_t_1250, wd_t_1, by decide +kernel, by decide⟩
theorem zm_173 : zMth zI0 173 6 := ⟨wd_t_1269, wd_t_1, by decide +kernel, by decide⟩
theorem zm_174 : zMth zI0 174 1 := ⟨wd_t_1291, wd_t_1, by decide +kernel, by decide⟩
theorem zm_175 : zMth zI0 175 3 := ⟨wd_t_483, wd_t_1, by decide +kernel, by decide⟩
theorem zm_176 : zMth zI0 176 1 := ⟨wd_t_509, wd_t_1, by decide +kernel, by decide⟩
theorem zm_177 : zMth zI0 177 1 := ⟨wd_t_889, wd_t_1, by decide +kernel, by decide⟩
theorem zm_178 : zMth zI0 178 1 := ⟨wd_t_1272, wd_t_1, by decide +kernel, by decide⟩
theorem zm_179 : zMth zI0 179 2 := ⟨wd_t_1286, wd_t_1, by decide +kernel, by decide⟩
theorem zm_180 : zMth zI0 180 3 := ⟨wd_t_1275, wd_t_1, by decide +kernel, by decide⟩
theorem zm_181 : zMth zI0 181 4 := ⟨wd_t_1278, wd_t_1, by decide +kernel, by decide⟩
theorem zm_182 : zMth zI0 182 1 := ⟨wd_t_1282, wd_t_1, by decide +kernel, by decide⟩
theorem zm_183 : zMth zI0 183 0 := ⟨wd_t_1332, wd_t_13, by decide +kernel, by decide⟩
theorem zm_184 : zMth zI0 184 3 := ⟨wd_t_1665, wd_t_13, by decide +kernel, by decide⟩
theorem zm_185 : zMth zI0 185 1 := ⟨wd_t_1661, wd_t_13, by decide +kernel, by decide⟩
theorem zm_186 : zMth zI0 186 1 := ⟨wd_t_1678, wd_t_13, by decide +kernel, by decide⟩
theorem zm_187 : zMth zI0 187 1 := ⟨wd_t_1817, wd_t_13, by decide +kernel, by decide⟩
theorem zm_188 : zMth zI0 188 2 := ⟨wd_t_1669, wd_t_13, by decide +kernel, by decide⟩
theorem zm_189 : zMth zI0 189 3 := ⟨wd_t_1657, wd_t_13, by decide +kernel, by decide⟩
theorem zm_190 : zMth zI0 190 2 := ⟨wd_t_1674, wd_t_13, by decide +kernel, by decide⟩
theorem zm_191 : zMth zI0 191 3 := ⟨wd_t_1682, wd_t_13, by decide +kernel, by decide⟩
theorem zm_192 : zMth zI0 192 0 := ⟨wd_t_1687, wd_t_13, by decide +kernel, by decide⟩
theorem zm_193 : zMth zI0 193 1 := ⟨wd_t_1695, wd_t_13, by decide +kernel, by decide⟩
theorem zm_194 : zMth zI0 194 5 := ⟨wd_t_1691, wd_t_13, by decide +kernel, by decide⟩
theorem zm_195 : zMth zI0 195 1 := ⟨wd_t_1699, wd_t_13, by decide +kernel, by decide⟩
theorem zm_196 : zMth zI0 196 1 := ⟨wd_t_1719, wd_t_13, by decide +kernel, by decide⟩
theorem zm_197 : zMth zI0 197 1 := ⟨wd_t_1723, wd_t_13, by decide +kernel, by decide⟩
theorem zm_198 : zMth zI0 198 1 := ⟨wd_t_1731, wd_t_13, by decide +kernel, by decide⟩
theorem zm_199 : zMth zI0 199 1 := ⟨wd_t_1735, wd_t_13, by decide +kernel, by decide⟩
theorem zm_200 : zMth zI0 200 2 := ⟨wd_t_1727, wd_t_13, by decide +kernel, by decide⟩
theorem zm_201 : zMth zI0 201 0 := ⟨wd_t_1715, wd_t_13, by decide +kernel, by decide⟩
theorem zm_202 : zMth zI0 202 2 := ⟨wd_t_1743, wd_t_13, by decide +kernel, by decide⟩
theorem zm_203 : zMth zI0 203 1 := ⟨wd_t_1739, wd_t_13, by decide +kernel, by decide⟩
theorem zm_204 : zMth zI0 204 1 := ⟨wd_t_1751, wd_t_13, by decide +kernel, by decide⟩
theorem zm_205 : zMth zI0 205 1 := ⟨wd_t_1759, wd_t_13, by decide +kernel, by decide⟩
theorem zm_206 : zMth zI0 206 1 := ⟨wd_t_1703, wd_t_13, by decide +kernel, by decide⟩
theorem zm_207 : zMth zI0 207 2 := ⟨wd_t_1763, wd_t_13, by decide +kernel, by decide⟩
theorem zm_208 : zMth zI0 208 1 := ⟨wd_t_1755, wd_t_13, by decide +kernel, by decide⟩
theorem zm_209 : zMth zI0 209 1 := ⟨wd_t_1747, wd_t_13, by decide +kernel, by decide⟩
theorem zm_210 : zMth zI0 210 0 := ⟨wd_t_1711, wd_t_13, by decide +kernel, by decide⟩
theorem zm_211 : zMth zI0 211 1 := ⟨wd_t_1793, wd_t_13, by decide +kernel, by decide⟩
theorem zm_212 : zMth zI0 212 0 := ⟨wd_t_1775, wd_t_13, by decide +kernel, by decide⟩
theorem zm_213 : zMth zI0 213 1 := ⟨wd_t_1785, wd_t_13, by decide +kernel, by decide⟩
theorem zm_214 : zMth zI0 214 0 := ⟨wd_t_1797, wd_t_13, by decide +kernel, by decide⟩
theorem zm_215 : zMth zI0 215 3 := ⟨wd_t_1789, wd_t_13, by decide +kernel, by decide⟩
theorem zm_216 : zMth zI0 216 0 := ⟨wd_t_1779, wd_t_13, by decide +kernel, by decide⟩
theorem zm_217 : zMth zI0 217 0 := ⟨wd_t_1801, wd_t_13, by decide +kernel, by decide⟩
theorem zm_218 : zMth zI0 218 1 := ⟨wd_t_1771, wd_t_13, by decide +kernel, by decide⟩
theorem zm_219 : zMth zI0 219 1 := ⟨wd_t_1767, wd_t_13, by decide +kernel, by decide⟩
theorem zm_220 : zMth zI0 220 1 := ⟨wd_t_1707, wd_t_13, by decide +kernel, by decide⟩
theorem zm_221 : zMth zI0 221 3 := ⟨wd_t_1809, wd_t_13, by decide +kernel, by decide⟩
theorem zm_222 : zMth zI0 222 3 := ⟨wd_t_1813, wd_t_13, by decide +kernel, by decide⟩
theorem zm_223 : zMth zI0 223 1 := ⟨wd_t_1834, wd_t_13, by decide +kernel, by decide⟩
theorem zm_224 : zMth zI0 224 1 := ⟨wd_t_1826, wd_t_13, by decide +kernel, by decide⟩
theorem zm_225 : zMth zI0 225 2 := ⟨wd_t_1822, wd_t_13, by decide +kernel, by decide⟩
theorem zm_226 : zMth zI0 226 3 := ⟨wd_t_1830, wd_t_13, by decide +kernel, by decide⟩
theorem zm_227 : zMth zI0 227 3 := ⟨wd_t_1838, wd_t_13, by decide +kernel, by decide⟩
theorem zm_228 : zMth zI0 228 1 := ⟨wd_t_1851, wd_t_13, by decide +kernel, by decide⟩
theorem zm_229 : zMth zI0 229 1 := ⟨wd_t_1855, wd_t_13, by decide +kernel, by decide⟩
theorem zm_230 : zMth zI0 230 1 := ⟨wd_t_1846, wd_t_13, by decide +kernel, by decide⟩
theorem zm_231 : zMth zI0 231 2 := ⟨wd_t_1842, wd_t_13, by decide +kernel, by decide⟩
theorem zm_232 : zMth zI0 232 1 := ⟨wd_t_1867, wd_t_13, by decide +kernel, by decide⟩
theorem zm_233 : zMth zI0 233 0 := ⟨wd_t_1859, wd_t_13, by decide +kernel, by decide⟩
theorem zm_234 : zMth zI0 234 2 := ⟨wd_t_1863, wd_t_13, by decide +kernel, by decide⟩
theorem zm_235 : zMth zI0 235 2 := ⟨wd_t_1875, wd_t_13, by decide +kernel, by decide⟩
theorem zm_236 : zMth zI0 236 1 := ⟨wd_t_1879, wd_t_13, by decide +kernel, by decide⟩
theorem zm_237 : zMth zI0 237 3 := ⟨wd_t_1891, wd_t_13, by decide +kernel, by decide⟩
theorem zm_238 : zMth zI0 238 2 := ⟨wd_t_1887, wd_t_13, by decide +kernel, by decide⟩
theorem zm_239 : zMth zI0 239 0 := ⟨wd_t_1883, wd_t_13, by decide +kernel, by decide⟩
theorem zm_240 : zMth zI0 240 1 := ⟨wd_t_1871, wd_t_13, by decide +kernel, by decide⟩
theorem zm_241 : zMth zI0 241 2 := ⟨wd_t_1895, wd_t_13, by decide +kernel, by decide⟩
theorem zm_242 : zMth zI0 242 1 := ⟨wd_t_1907, wd_t_13, by decide +kernel, by decide⟩
theorem zm_243 : zMth zI0 243 1 := ⟨wd_t_1899, wd_t_13, by decide +kernel, by decide⟩
theorem zm_244 : zMth zI0 244 4 := ⟨wd_t_1903, wd_t_13, by decide +kernel, by decide⟩
theorem zm_245 : zMth zI0 245 2 := ⟨wd_t_1924, wd_t_13, by decide +kernel, by decide⟩
theorem zm_246 : zMth zI0 246 3 := ⟨wd_t_1919, wd_t_13, by decide +kernel, by decide⟩
theorem zm_247 : zMth zI0 247 1 := ⟨wd_t_1915, wd_t_13, by decide +kernel, by decide⟩
theorem zm_248 : zMth zI0 248 2 := ⟨wd_t_1911, wd_t_13, by decide +kernel, by decide⟩
theorem zm_249 : zMth zI0 249 3 := ⟨wd_t_1928, wd_t_13, by decide +kernel, by decide⟩
theorem zm_250 : zMth zI0 250 1 := ⟨wd_t_1936, wd_t_13, by decide +kernel, by decide⟩
theorem zm_251 : zMth zI0 251 3 := ⟨wd_t_1932, wd_t_13, by decide +kernel, by decide⟩
theorem zm_252 : zMth zI0 252 2 := ⟨wd_t_1940, wd_t_13, by decide +kernel, by decide⟩
theorem zm_253 : zMth zI0 253 2 := ⟨wd_t_1968, wd_t_13, by decide +kernel, by decide⟩
theorem zm_254 : zMth zI0 254 0 := ⟨wd_t_1964, wd_t_13, by decide +kernel, by decide⟩
theorem zm_255 : zMth zI0 255 0 := ⟨wd_t_1960, wd_t_13, by decide +kernel, by decide⟩
theorem zm_256 : zMth zI0 256 0 := ⟨wd_t_1956, wd_t_13, by decide +kernel, by decide⟩
theorem zm_257 : zMth zI0 257 0 := ⟨wd_t_1980, wd_t_13, by decide +kernel, by decide⟩
theorem zm_258 : zMth zI0 258 1 := ⟨wd_t_1976, wd_t_13, by decide +kernel, by decide⟩
theorem zm_259 : zMth zI0 259 1 := ⟨wd_t_1984, wd_t_13, by decide +kernel, by decide⟩
theorem zm_260 : zMth zI0 260 0 := ⟨wd_t_1972, wd_t_13, by decide +kernel, by decide⟩
theorem zm_261 : zMth zI0 261 1 := ⟨wd_t_1952, wd_t_13, by decide +kernel, by decide⟩
theorem zm_262 : zMth zI0 262 0 := ⟨wd_t_1948, wd_t_13, by decide +kernel, by decide⟩
theorem zm_263 : zMth zI0 263 0 := ⟨wd_t_1944, wd_t_13, by decide +kernel, by decide⟩
theorem zm_264 : zMth zI0 264 2 := ⟨wd_t_1996, wd_t_13, by decide +kernel, by decide⟩
theorem zm_265 : zMth zI0 265 3 := ⟨wd_t_2008, wd_t_13, by decide +kernel, by decide⟩
theorem zm_266 : zMth zI0 266 2 := ⟨wd_t_2004, wd_t_13, by decide +kernel, by decide⟩
theorem zm_267 : zMth zI0 267 1 := ⟨wd_t_2000, wd_t_13, by decide +kernel, by decide⟩
theorem zm_268 : zMth zI0 268 2 := ⟨wd_t_1988, wd_t_13, by decide +kernel, by decide⟩
theorem zm_269 : zMth zI0 269 1 := ⟨wd_t_1992, wd_t_13, by decide +kernel, by decide⟩
theorem zm_270 : zMth zI0 270 3 := ⟨wd_t_2012, wd_t_13, by decide +kernel, by decide⟩
theorem zm_271 : zMth zI0 271 1 := ⟨wd_t_2024, wd_t_13, by decide +kernel, by decide⟩
theorem zm_272 : zMth zI0 272 2 := ⟨wd_t_2016, wd_t_13, by decide +kernel, by decide⟩
theorem zm_273 : zMth zI0 273 3 := ⟨wd_t_2020, wd_t_13, by decide +kernel, by decide⟩
theorem zm_274 : zMth zI0 274 1 := ⟨wd_t_2032, wd_t_13, by decide +kernel, by decide⟩
theorem zm_275 : zMth zI0 275 5 := ⟨wd_t_2028, wd_t_13, by decide +kernel, by decide⟩
theorem zm_276 : zMth zI0 276 2 := ⟨wd_t_2044, wd_t_13, by decide +kernel, by decide⟩
theorem zm_277 : zMth zI0 277 0 := ⟨wd_t_2040, wd_t_13, by decide +kernel, by decide⟩
theorem zm_278 : zMth zI0 278 3 := ⟨wd_t_2048, wd_t_13, by decide +kernel, by decide⟩
theorem zm_279 : zMth zI0 279 1 := ⟨wd_t_2052, wd_t_13, by decide +kernel, by decide⟩
theorem zm_280 : zMth zI0 280 4 := ⟨wd_t_2036, wd_t_13, by decide +kernel, by decide⟩
theorem zm_281 : zMth zI0 281 2 := ⟨wd_t_2056, wd_t_13, by decide +kernel, by decide⟩
theorem zm_282 : zMth zI0 282 3 := ⟨wd_t_2060, wd_t_13, by decide +kernel, by decide⟩
theorem zm_283 : zMth zI0 283 1 := ⟨wd_t_2068, wd_t_13, by decide +kernel, by decide⟩
theorem zm_284 : zMth zI0 284 3 := ⟨wd_t_2064, wd_t_13, by decide +kernel, by decide⟩
theorem zm_285 : zMth zI0 285 1 := ⟨wd_t_2072, wd_t_13, by decide +kernel, by decide⟩
theorem zm_286 : zMth zI0 286 3 := ⟨wd_t_2080, wd_t_13, by decide +kernel, by decide⟩
theorem zm_287 : zMth zI0 287 3 := ⟨wd_t_2076, wd_t_13, by decide +kernel, by decide⟩
theorem zm_288 : zMth zI0 288 1 := ⟨wd_t_2098, wd_t_13, by decide +kernel, by decide⟩
theorem zm_289 : zMth zI0 289 4 := ⟨wd_t_2094, wd_t_13, by decide +kernel, by decide⟩
theorem zm_290 : zMth zI0 290 1 := ⟨wd_t_2090, wd_t_13, by decide +kernel, by decide⟩
theorem zm_291 : zMth zI0 291 6 := ⟨wd_t_2086, wd_t_13, by decide +kernel, by decide⟩
theorem zm_292 : zMth zI0 292 1 := ⟨wd_t_2103, wd_t_13, by decide +kernel, by decide⟩
theorem zm_293 : zMth zI0 293 1 := ⟨wd_t_1044, wd_t_21, by decide +kernel, by decide⟩
theorem zm_294 : zMth zI0 294 1 := ⟨wd_t_1002, wd_t_21, by decide +kernel, by decide⟩
theorem zm_295 : zMth zI0 295 0 := ⟨wd_t_583, wd_t_15, by decide +kernel, by decide⟩
theorem zm_296 : zMth zI0 296 1 := ⟨wd_t_593, wd_t_15, by decide +kernel, by decide⟩
theorem zm_297 : zMth zI0 297 1 := ⟨wd_t_636, wd_t_15, by decide +kernel, by decide⟩
theorem zm_298 : zMth zI0 298 2 := ⟨wd_t_640, wd_t_15, by decide +kernel, by decide⟩
theorem zm_299 : zMth zI0 299 0 := ⟨wd_t_597, wd_t_15, by decide +kernel, by decide⟩
theorem zm_300 : zMth zI0 300 0 := ⟨wd_t_587, wd_t_15, by decide +kernel, by decide⟩
theorem zm_301 : zMth zI0 301 2 := ⟨wd_t_603, wd_t_15, by decide +kernel, by decide⟩
theorem zm_302 : zMth zI0 302 2 := ⟨wd_t_600, wd_t_16, by decide +kernel, by decide⟩
theorem zm_303 : zMth zI0 303 4 := ⟨wd_t_644, wd_t_16, by decide +kernel, by decide⟩
theorem zm_304 : zMth zI0 304 4 := ⟨wd_t_652, wd_t_16, by decide +kernel, by decide⟩
theorem zm_305 : zMth zI0 305 1 := ⟨wd_t_647, wd_t_16, by decide +kernel, by decide⟩
theorem zm_306 : zMth zI0 306 3 := ⟨wd_t_608, wd_t_17, by decide +kernel, by decide⟩
