theorem wd15 : Cond.selects RX11 yX11_isPlace yX11_isPlace ∈ pv_T := pv_m 15 (by decide +kernel) (by decide +kernel)
theorem wd16 : Cond.selects RX11 yX11_isBlank yX11_isBlank ∈ pv_T := pv_m 16 (by decide +kernel) (by decide +kernel)
theorem wd25 : Cond.selects RX11 yX11_isDeed yX11_isDeed ∈ pv_T := pv_m 25 (by decide +kernel) (by decide +kernel)
theorem wd33 : Cond.selects RX11 yX11_areDeeds yX11_areDeeds ∈ pv_T := pv_m 33 (by decide +kernel) (by decide +kernel)
theorem wd34 : Cond.selects RX11 yX11_toldDeeds yX11_toldDeeds ∈ pv_T := pv_m 34 (by decide +kernel) (by decide +kernel)
theorem wd38 : Cond.selects RX11 yX11_refuseCover yX11_refuseCover ∈ pv_T := pv_m 38 (by decide +kernel) (by decide +kernel)
theorem wd55 : Cond.selects RX12 yX12_isBlank yX12_isBlank ∈ pv_T := pv_m 55 (by decide +kernel) (by decide +kernel)
theorem wd58 : Cond.selects RX12 yX12_types yX12_types ∈ pv_T := pv_m 58 (by decide +kernel) (by decide +kernel)
theorem wd86 : Cond.selects RX12 yX12_isAsked yX12_isAsked ∈ pv_T := pv_m 86 (by decide +kernel) (by decide +kernel)
theorem wd87 : Cond.selects RX12 yX12_isDeed yX12_isDeed ∈ pv_T := pv_m 87 (by decide +kernel) (by decide +kernel)
theorem wd96 : Cond.selects RX12 yX12_spreads yX12_spreads ∈ pv_T := pv_m 96 (by decide +kernel) (by decide +kernel)
theorem wd109 : Cond.selects RX12 yX12_areSet yX12_areSet ∈ pv_T := pv_m 109 (by decide +kernel) (by decide +kernel)
theorem wd123 : Cond.selects RX12 yX12_costAll yX12_costAll ∈ pv_T := pv_m 123 (by decide +kernel) (by decide +kernel)
theorem wd125 : Cond.initialized RX11 ∈ pv_T := pv_m 125 (by decide +kernel) (by decide +kernel)
theorem wd126 : Cond.initialized RX10 ∈ pv_T := pv_m 126 (by decide +kernel) (by decide +kernel)
theorem wd127 : Cond.initialized RX0 ∈ pv_T := pv_m 127 (by decide +kernel) (by decide +kernel)
theorem wd128 : Cond.initialized RX8 ∈ pv_T := pv_m 128 (by decide +kernel) (by decide +kernel)
theorem wd129 : Cond.initialized RJ9 ∈ pv_T := pv_m 129 (by decide +kernel) (by decide +kernel)
theorem wd130 : Cond.initialized RX6 ∈ pv_T := pv_m 130 (by decide +kernel) (by decide +kernel)
theorem wd131 : Cond.initialized RX7 ∈ pv_T := pv_m 131 (by decide +kernel) (by decide +kernel)
theorem wd132 : Cond.initialized RX1 ∈ pv_T := pv_m 132 (by decide +kernel) (by decide +kernel)
theorem wd133 : Cond.initialized RX4 ∈ pv_T := pv_m 133 (by decide +kernel) (by decide +kernel)
theorem wd134 : Cond.initialized RX2 ∈ pv_T := pv_m 134 (by decide +kernel) (by decide +kernel)
theorem wd135 : Cond.initialized RX5 ∈ pv_T := pv_m 135 (by decide +kernel) (by decide +kernel)
theorem wd136 : Cond.initialized RX9 ∈ pv_T := pv_m 136 (by decide +kernel) (by decide +kernel)
theorem wd137 : Cond.initialized RX12 ∈ pv_T := pv_m 137 (by decide +kernel) (by decide +kernel)
theorem wd145 : Cond.initialized RJ6 ∈ pv_T := pv_m 145 (by decide +kernel) (by decide +kernel)
theorem wd151 : Cond.code yX11_init cX11_init 2 none ∈ pv_T := pv_m 151 (by decide +kernel) (by decide +kernel)
theorem wd152 : Cond.methodLink RX11 1 objectInit ∈ pv_T := pv_m 152 (by decide +kernel) (by decide +kernel)
theorem wd153 : Cond.instanceMethod objectInit ∈ pv_T := pv_m 153 (by decide +kernel) (by decide +kernel)
theorem wd154 : Cond.code objectInit ⟨#[0xb1]⟩ 1 none ∈ pv_T := pv_m 154 (by decide +kernel) (by decide +kernel)
theorem wd155 : Cond.classLink RX11 7 RX10 ∈ pv_T := pv_m 155 (by decide +kernel) (by decide +kernel)
theorem wd156 : Cond.instantiable RX10 2 ∈ pv_T := pv_m 156 (by decide +kernel) (by decide +kernel)
theorem wd158 : Cond.instanceMethod yX10_init ∈ pv_T := pv_m 158 (by decide +kernel) (by decide +kernel)
theorem wd159 : Cond.code yX10_init cX10_init 1 none ∈ pv_T := pv_m 159 (by decide +kernel) (by decide +kernel)
theorem wd160 : Cond.methodLink RX10 3 objectInit ∈ pv_T := pv_m 160 (by decide +kernel) (by decide +kernel)
theorem wd161 : Cond.fieldLink RX10 9 "StrikeOut$Tape" "bytes" "[I" ∈ pv_T := pv_m 161 (by decide +kernel) (by decide +kernel)
theorem wd163 : Cond.fieldLink RX10 15 "StrikeOut$Tape" "size" "I" ∈ pv_T := pv_m 163 (by decide +kernel) (by decide +kernel)
theorem wd164 : Cond.fieldLink RX11 112 "StrikeOut$Tape" "size" "I" ∈ pv_T := pv_m 164 (by decide +kernel) (by decide +kernel)
theorem wd170 : Cond.arrayClass .int ∈ pv_T := pv_m 170 (by decide +kernel) (by decide +kernel)
theorem wd171 : Cond.classLink RX11 16 RX0 ∈ pv_T := pv_m 171 (by decide +kernel) (by decide +kernel)
theorem wd173 : Cond.instantiable RX0 4 ∈ pv_T := pv_m 173 (by decide +kernel) (by decide +kernel)
theorem wd175 : Cond.instanceMethod yX0_init ∈ pv_T := pv_m 175 (by decide +kernel) (by decide +kernel)
theorem wd176 : Cond.code yX0_init cX0_init 1 none ∈ pv_T := pv_m 176 (by decide +kernel) (by decide +kernel)
theorem wd177 : Cond.methodLink RX0 3 objectInit ∈ pv_T := pv_m 177 (by decide +kernel) (by decide +kernel)
theorem wd178 : Cond.classLink RX0 9 RX8 ∈ pv_T := pv_m 178 (by decide +kernel) (by decide +kernel)
theorem wd179 : Cond.instantiable RX8 2 ∈ pv_T := pv_m 179 (by decide +kernel) (by decide +kernel)
theorem wd180 : Cond.methodLink RX0 11 yX8_init ∈ pv_T := pv_m 180 (by decide +kernel) (by decide +kernel)
theorem wd181 : Cond.instanceMethod yX8_init ∈ pv_T := pv_m 181 (by decide +kernel) (by decide +kernel)
theorem wd182 : Cond.code yX8_init cX8_init 2 none ∈ pv_T := pv_m 182 (by decide +kernel) (by decide +kernel)
theorem wd183 : Cond.methodLink RX8 3 objectInit ∈ pv_T := pv_m 183 (by decide +kernel) (by decide +kernel)
theorem wd184 : Cond.methodLink RX8 15 yJ9_max_7cf53 ∈ pv_T := pv_m 184 (by decide +kernel) (by decide +kernel)
theorem wd185 : Cond.static yJ9_max_7cf53 ∈ pv_T := pv_m 185 (by decide +kernel) (by decide +kernel)
theorem wd186 : Cond.code yJ9_max_7cf53 cJ9_max_7cf53 2 (some .int) ∈ pv_T := pv_m 186 (by decide +kernel) (by decide +kernel)
theorem wd187 : Cond.fieldLink RX8 21 "StrikeOut$Row" "letters" "[I" ∈ pv_T := pv_m 187 (by decide +kernel) (by decide +kernel)
theorem wd193 : Cond.fieldLink RX8 9 "StrikeOut$Row" "size" "I" ∈ pv_T := pv_m 193 (by decide +kernel) (by decide +kernel)
theorem wd200 : Cond.fieldLink RX11 171 "StrikeOut$Row" "size" "I" ∈ pv_T := pv_m 200 (by decide +kernel) (by decide +kernel)
theorem wd207 : Cond.fieldLink RX0 14 "StrikeOut$Blank" "written" "LStrikeOut$Row;" ∈ pv_T := pv_m 207 (by decide +kernel) (by decide +kernel)
theorem wd209 : Cond.fieldLink RX0 20 "StrikeOut$Blank" "rest" "LStrikeOut$Row;" ∈ pv_T := pv_m 209 (by decide +kernel) (by decide +kernel)
theorem wd212 : Cond.fieldLink RX0 23 "StrikeOut$Blank" "own" "[I" ∈ pv_T := pv_m 212 (by decide +kernel) (by decide +kernel)
theorem wd213 : Cond.fieldLink RX0 27 "StrikeOut$Blank" "struck" "[Z" ∈ pv_T := pv_m 213 (by decide +kernel) (by decide +kernel)
theorem wd223 : Cond.arrayClass .boolean ∈ pv_T := pv_m 223 (by decide +kernel) (by decide +kernel)
theorem wd224 : Cond.classLink RX11 27 RX8 ∈ pv_T := pv_m 224 (by decide +kernel) (by decide +kernel)
theorem wd226 : Cond.methodLink RX11 33 yX8_init ∈ pv_T := pv_m 226 (by decide +kernel) (by decide +kernel)
theorem wd227 : Cond.classLink RX11 36 RX6 ∈ pv_T := pv_m 227 (by decide +kernel) (by decide +kernel)
theorem wd228 : Cond.instantiable RX6 12 ∈ pv_T := pv_m 228 (by decide +kernel) (by decide +kernel)
theorem wd230 : Cond.instanceMethod yX6_init ∈ pv_T := pv_m 230 (by decide +kernel) (by decide +kernel)
theorem wd231 : Cond.code yX6_init cX6_init 1 none ∈ pv_T := pv_m 231 (by decide +kernel) (by decide +kernel)
theorem wd232 : Cond.methodLink RX6 3 objectInit ∈ pv_T := pv_m 232 (by decide +kernel) (by decide +kernel)
theorem wd233 : Cond.fieldLink RX6 9 "StrikeOut$Law" "sign" "[I" ∈ pv_T := pv_m 233 (by decide +kernel) (by decide +kernel)
theorem wd234 : Cond.fieldLink RX6 15 "StrikeOut$Law" "operand" "[I" ∈ pv_T := pv_m 234 (by decide +kernel) (by decide +kernel)
theorem wd235 : Cond.fieldLink RX6 18 "StrikeOut$Law" "length" "I" ∈ pv_T := pv_m 235 (by decide +kernel) (by decide +kernel)
theorem wd236 : Cond.fieldLink RX6 22 "StrikeOut$Law" "kindOf" "[I" ∈ pv_T := pv_m 236 (by decide +kernel) (by decide +kernel)
theorem wd237 : Cond.fieldLink RX6 25 "StrikeOut$Law" "priceFrom" "[I" ∈ pv_T := pv_m 237 (by decide +kernel) (by decide +kernel)
theorem wd238 : Cond.fieldLink RX6 28 "StrikeOut$Law" "conditionFrom" "[I" ∈ pv_T := pv_m 238 (by decide +kernel) (by decide +kernel)
theorem wd239 : Cond.fieldLink RX6 31 "StrikeOut$Law" "endOf" "[I" ∈ pv_T := pv_m 239 (by decide +kernel) (by decide +kernel)
theorem wd240 : Cond.fieldLink RX6 34 "StrikeOut$Law" "clauses" "I" ∈ pv_T := pv_m 240 (by decide +kernel) (by decide +kernel)
theorem wd242 : Cond.fieldLink RX11 320 "StrikeOut$Law" "clauses" "I" ∈ pv_T := pv_m 242 (by decide +kernel) (by decide +kernel)
theorem wd243 : Cond.fieldLink RX6 37 "StrikeOut$Law" "seen" "[I" ∈ pv_T := pv_m 243 (by decide +kernel) (by decide +kernel)
theorem wd244 : Cond.fieldLink RX6 40 "StrikeOut$Law" "stack" "[I" ∈ pv_T := pv_m 244 (by decide +kernel) (by decide +kernel)
theorem wd245 : Cond.fieldLink RX6 43 "StrikeOut$Law" "height" "I" ∈ pv_T := pv_m 245 (by decide +kernel) (by decide +kernel)
theorem wd246 : Cond.fieldLink RX6 46 "StrikeOut$Law" "refused" "Z" ∈ pv_T := pv_m 246 (by decide +kernel) (by decide +kernel)
theorem wd272 : Cond.classLink RX11 43 RX7 ∈ pv_T := pv_m 272 (by decide +kernel) (by decide +kernel)
theorem wd273 : Cond.instantiable RX7 5 ∈ pv_T := pv_m 273 (by decide +kernel) (by decide +kernel)
theorem wd275 : Cond.instanceMethod yX7_init ∈ pv_T := pv_m 275 (by decide +kernel) (by decide +kernel)
theorem wd276 : Cond.code yX7_init cX7_init 1 none ∈ pv_T := pv_m 276 (by decide +kernel) (by decide +kernel)
theorem wd277 : Cond.methodLink RX7 3 objectInit ∈ pv_T := pv_m 277 (by decide +kernel) (by decide +kernel)
theorem wd278 : Cond.classLink RX7 15 RX6 ∈ pv_T := pv_m 278 (by decide +kernel) (by decide +kernel)
theorem wd280 : Cond.fieldLink RX7 9 "StrikeOut$LawReader" "text" "[I" ∈ pv_T := pv_m 280 (by decide +kernel) (by decide +kernel)
theorem wd281 : Cond.fieldLink RX7 18 "StrikeOut$LawReader" "into" "LStrikeOut$Law;" ∈ pv_T := pv_m 281 (by decide +kernel) (by decide +kernel)
theorem wd282 : Cond.fieldLink RX7 22 "StrikeOut$LawReader" "end" "I" ∈ pv_T := pv_m 282 (by decide +kernel) (by decide +kernel)
theorem wd283 : Cond.fieldLink RX7 26 "StrikeOut$LawReader" "at" "I" ∈ pv_T := pv_m 283 (by decide +kernel) (by decide +kernel)
theorem wd284 : Cond.fieldLink RX7 29 "StrikeOut$LawReader" "fault" "I" ∈ pv_T := pv_m 284 (by decide +kernel) (by decide +kernel)
theorem wd296 : Cond.classLink RX11 50 RX1 ∈ pv_T := pv_m 296 (by decide +kernel) (by decide +kernel)
theorem wd297 : Cond.instantiable RX1 7 ∈ pv_T := pv_m 297 (by decide +kernel) (by decide +kernel)
theorem wd299 : Cond.instanceMethod yX1_init ∈ pv_T := pv_m 299 (by decide +kernel) (by decide +kernel)
theorem wd300 : Cond.code yX1_init cX1_init 1 none ∈ pv_T := pv_m 300 (by decide +kernel) (by decide +kernel)
theorem wd301 : Cond.methodLink RX1 3 objectInit ∈ pv_T := pv_m 301 (by decide +kernel) (by decide +kernel)
theorem wd302 : Cond.fieldLink RX1 9 "StrikeOut$Book" "blankOf" "[I" ∈ pv_T := pv_m 302 (by decide +kernel) (by decide +kernel)
theorem wd303 : Cond.fieldLink RX1 15 "StrikeOut$Book" "clerkOf" "[I" ∈ pv_T := pv_m 303 (by decide +kernel) (by decide +kernel)
theorem wd304 : Cond.fieldLink RX1 18 "StrikeOut$Book" "dayOf" "[I" ∈ pv_T := pv_m 304 (by decide +kernel) (by decide +kernel)
theorem wd305 : Cond.fieldLink RX1 21 "StrikeOut$Book" "costOf" "[I" ∈ pv_T := pv_m 305 (by decide +kernel) (by decide +kernel)
theorem wd306 : Cond.fieldLink RX1 24 "StrikeOut$Book" "sizeOf" "[I" ∈ pv_T := pv_m 306 (by decide +kernel) (by decide +kernel)
theorem wd308 : Cond.fieldLink RX1 27 "StrikeOut$Book" "numbers" "[I" ∈ pv_T := pv_m 308 (by decide +kernel) (by decide +kernel)
theorem wd309 : Cond.fieldLink RX1 30 "StrikeOut$Book" "size" "I" ∈ pv_T := pv_m 309 (by decide +kernel) (by decide +kernel)
theorem wd310 : Cond.fieldLink RX11 323 "StrikeOut$Book" "size" "I" ∈ pv_T := pv_m 310 (by decide +kernel) (by decide +kernel)
theorem wd326 : Cond.classLink RX11 63 RX4 ∈ pv_T := pv_m 326 (by decide +kernel) (by decide +kernel)
theorem wd327 : Cond.instantiable RX4 2 ∈ pv_T := pv_m 327 (by decide +kernel) (by decide +kernel)
theorem wd329 : Cond.instanceMethod yX4_init ∈ pv_T := pv_m 329 (by decide +kernel) (by decide +kernel)
theorem wd330 : Cond.code yX4_init cX4_init 1 none ∈ pv_T := pv_m 330 (by decide +kernel) (by decide +kernel)
theorem wd331 : Cond.methodLink RX4 3 objectInit ∈ pv_T := pv_m 331 (by decide +kernel) (by decide +kernel)
theorem wd332 : Cond.fieldLink RX4 9 "StrikeOut$Fits" "few" "[I" ∈ pv_T := pv_m 332 (by decide +kernel) (by decide +kernel)
theorem wd333 : Cond.fieldLink RX4 15 "StrikeOut$Fits" "many" "[J" ∈ pv_T := pv_m 333 (by decide +kernel) (by decide +kernel)
theorem wd339 : Cond.arrayClass .long ∈ pv_T := pv_m 339 (by decide +kernel) (by decide +kernel)
theorem wd340 : Cond.classLink RX11 70 RX2 ∈ pv_T := pv_m 340 (by decide +kernel) (by decide +kernel)
theorem wd341 : Cond.instantiable RX2 4 ∈ pv_T := pv_m 341 (by decide +kernel) (by decide +kernel)
theorem wd343 : Cond.instanceMethod yX2_init ∈ pv_T := pv_m 343 (by decide +kernel) (by decide +kernel)
theorem wd344 : Cond.code yX2_init cX2_init 1 none ∈ pv_T := pv_m 344 (by decide +kernel) (by decide +kernel)
theorem wd345 : Cond.methodLink RX2 3 objectInit ∈ pv_T := pv_m 345 (by decide +kernel) (by decide +kernel)
theorem wd346 : Cond.fieldLink RX2 9 "StrikeOut$Choice" "free" "[Z" ∈ pv_T := pv_m 346 (by decide +kernel) (by decide +kernel)
theorem wd348 : Cond.fieldLink RX2 15 "StrikeOut$Choice" "price" "[I" ∈ pv_T := pv_m 348 (by decide +kernel) (by decide +kernel)
theorem wd350 : Cond.fieldLink RX2 19 "StrikeOut$Choice" "stays" "[I" ∈ pv_T := pv_m 350 (by decide +kernel) (by decide +kernel)
theorem wd352 : Cond.fieldLink RX2 22 "StrikeOut$Choice" "least" "[I" ∈ pv_T := pv_m 352 (by decide +kernel) (by decide +kernel)
theorem wd362 : Cond.classLink RX11 77 RX5 ∈ pv_T := pv_m 362 (by decide +kernel) (by decide +kernel)
theorem wd363 : Cond.instantiable RX5 3 ∈ pv_T := pv_m 363 (by decide +kernel) (by decide +kernel)
theorem wd365 : Cond.instanceMethod yX5_init ∈ pv_T := pv_m 365 (by decide +kernel) (by decide +kernel)
theorem wd366 : Cond.code yX5_init cX5_init 1 none ∈ pv_T := pv_m 366 (by decide +kernel) (by decide +kernel)
theorem wd367 : Cond.methodLink RX5 3 objectInit ∈ pv_T := pv_m 367 (by decide +kernel) (by decide +kernel)
theorem wd368 : Cond.classLink RX5 9 RX8 ∈ pv_T := pv_m 368 (by decide +kernel) (by decide +kernel)
theorem wd369 : Cond.methodLink RX5 11 yX8_init ∈ pv_T := pv_m 369 (by decide +kernel) (by decide +kernel)
theorem wd370 : Cond.fieldLink RX5 14 "StrikeOut$Hiding" "found" "LStrikeOut$Row;" ∈ pv_T := pv_m 370 (by decide +kernel) (by decide +kernel)
theorem wd372 : Cond.fieldLink RX5 20 "StrikeOut$Hiding" "solvedFor" "I" ∈ pv_T := pv_m 372 (by decide +kernel) (by decide +kernel)
theorem wd374 : Cond.fieldLink RX5 24 "StrikeOut$Hiding" "most" "[I" ∈ pv_T := pv_m 374 (by decide +kernel) (by decide +kernel)
theorem wd382 : Cond.classLink RX11 88 RX9 ∈ pv_T := pv_m 382 (by decide +kernel) (by decide +kernel)
theorem wd383 : Cond.instantiable RX9 5 ∈ pv_T := pv_m 383 (by decide +kernel) (by decide +kernel)
theorem wd385 : Cond.instanceMethod yX9_init ∈ pv_T := pv_m 385 (by decide +kernel) (by decide +kernel)
theorem wd386 : Cond.code yX9_init cX9_init 1 none ∈ pv_T := pv_m 386 (by decide +kernel) (by decide +kernel)
theorem wd387 : Cond.methodLink RX9 3 objectInit ∈ pv_T := pv_m 387 (by decide +kernel) (by decide +kernel)
theorem wd388 : Cond.fieldLink RX9 9 "StrikeOut$Sharing" "blankOf" "[I" ∈ pv_T := pv_m 388 (by decide +kernel) (by decide +kernel)
theorem wd390 : Cond.fieldLink RX9 15 "StrikeOut$Sharing" "served" "I" ∈ pv_T := pv_m 390 (by decide +kernel) (by decide +kernel)
theorem wd392 : Cond.fieldLink RX9 19 "StrikeOut$Sharing" "lost" "I" ∈ pv_T := pv_m 392 (by decide +kernel) (by decide +kernel)
theorem wd394 : Cond.fieldLink RX9 22 "StrikeOut$Sharing" "gain" "[I" ∈ pv_T := pv_m 394 (by decide +kernel) (by decide +kernel)
theorem wd395 : Cond.fieldLink RX9 25 "StrikeOut$Sharing" "best" "[I" ∈ pv_T := pv_m 395 (by decide +kernel) (by decide +kernel)
theorem wd407 : Cond.fieldLink RX11 10 "StrikeOut" "tape" "LStrikeOut$Tape;" ∈ pv_T := pv_m 407 (by decide +kernel) (by decide +kernel)
theorem wd408 : Cond.fieldLink RX11 18 "StrikeOut" "blanks" "[LStrikeOut$Blank;" ∈ pv_T := pv_m 408 (by decide +kernel) (by decide +kernel)
theorem wd409 : Cond.fieldLink RX11 23 "StrikeOut" "blankCount" "I" ∈ pv_T := pv_m 409 (by decide +kernel) (by decide +kernel)
theorem wd410 : Cond.fieldLink RX11 29 "StrikeOut" "deedRows" "[LStrikeOut$Row;" ∈ pv_T := pv_m 410 (by decide +kernel) (by decide +kernel)
theorem wd411 : Cond.fieldLink RX11 39 "StrikeOut" "law" "LStrikeOut$Law;" ∈ pv_T := pv_m 411 (by decide +kernel) (by decide +kernel)
theorem wd412 : Cond.fieldLink RX11 46 "StrikeOut" "reader" "LStrikeOut$LawReader;" ∈ pv_T := pv_m 412 (by decide +kernel) (by decide +kernel)
theorem wd413 : Cond.fieldLink RX11 53 "StrikeOut" "pages" "LStrikeOut$Book;" ∈ pv_T := pv_m 413 (by decide +kernel) (by decide +kernel)
theorem wd414 : Cond.fieldLink RX11 57 "StrikeOut" "today" "I" ∈ pv_T := pv_m 414 (by decide +kernel) (by decide +kernel)
theorem wd415 : Cond.fieldLink RX11 60 "StrikeOut" "drawn" "I" ∈ pv_T := pv_m 415 (by decide +kernel) (by decide +kernel)
theorem wd416 : Cond.fieldLink RX11 66 "StrikeOut" "fits" "LStrikeOut$Fits;" ∈ pv_T := pv_m 416 (by decide +kernel) (by decide +kernel)
theorem wd417 : Cond.fieldLink RX11 73 "StrikeOut" "choice" "LStrikeOut$Choice;" ∈ pv_T := pv_m 417 (by decide +kernel) (by decide +kernel)
theorem wd418 : Cond.fieldLink RX11 80 "StrikeOut" "hiding" "LStrikeOut$Hiding;" ∈ pv_T := pv_m 418 (by decide +kernel) (by decide +kernel)
theorem wd419 : Cond.fieldLink RX11 84 "StrikeOut" "cover" "LStrikeOut$Cover;" ∈ pv_T := pv_m 419 (by decide +kernel) (by decide +kernel)
theorem wd420 : Cond.fieldLink RX11 91 "StrikeOut" "sharing" "LStrikeOut$Sharing;" ∈ pv_T := pv_m 420 (by decide +kernel) (by decide +kernel)
theorem wd421 : Cond.fieldLink RX11 95 "StrikeOut" "parents" "[I" ∈ pv_T := pv_m 421 (by decide +kernel) (by decide +kernel)
theorem wd422 : Cond.fieldLink RX11 99 "StrikeOut" "longest" "[I" ∈ pv_T := pv_m 422 (by decide +kernel) (by decide +kernel)
theorem wd423 : Cond.fieldLink RX11 102 "StrikeOut" "chained" "[I" ∈ pv_T := pv_m 423 (by decide +kernel) (by decide +kernel)
theorem wd462 : Cond.code yX11_day cX11_day 2 (some .boolean) ∈ pv_T := pv_m 462 (by decide +kernel) (by decide +kernel)
theorem wd466 : Cond.code yX11_feed cX11_feed 6 (some .int) ∈ pv_T := pv_m 466 (by decide +kernel) (by decide +kernel)
theorem wd467 : Cond.methodLink RX11 105 yX10_hasRoom ∈ pv_T := pv_m 467 (by decide +kernel) (by decide +kernel)
theorem wd468 : Cond.instanceMethod yX10_hasRoom ∈ pv_T := pv_m 468 (by decide +kernel) (by decide +kernel)
theorem wd469 : Cond.selects RX10 yX10_hasRoom yX10_hasRoom ∈ pv_T := pv_m 469 (by decide +kernel) (by decide +kernel)
theorem wd470 : Cond.code yX10_hasRoom cX10_hasRoom 2 (some .boolean) ∈ pv_T := pv_m 470 (by decide +kernel) (by decide +kernel)
theorem wd471 : Cond.methodLink RX11 109 yX10_put ∈ pv_T := pv_m 471 (by decide +kernel) (by decide +kernel)
theorem wd472 : Cond.instanceMethod yX10_put ∈ pv_T := pv_m 472 (by decide +kernel) (by decide +kernel)
theorem wd473 : Cond.selects RX10 yX10_put yX10_put ∈ pv_T := pv_m 473 (by decide +kernel) (by decide +kernel)
theorem wd474 : Cond.code yX10_put cX10_put 3 none ∈ pv_T := pv_m 474 (by decide +kernel) (by decide +kernel)
theorem wd478 : Cond.code yX11_blank cX11_blank 3 (some .int) ∈ pv_T := pv_m 478 (by decide +kernel) (by decide +kernel)
theorem wd499 : Cond.code yX11_deed cX11_deed 4 (some .int) ∈ pv_T := pv_m 499 (by decide +kernel) (by decide +kernel)
theorem wd507 : Cond.code yX11_law cX11_law 3 (some .int) ∈ pv_T := pv_m 507 (by decide +kernel) (by decide +kernel)
theorem wd691 : Cond.arrayClass .byte ∈ pv_T := pv_m 691 (by decide +kernel) (by decide +kernel)
theorem wd695 : Cond.code yX11_left cX11_left 4 (some .int) ∈ pv_T := pv_m 695 (by decide +kernel) (by decide +kernel)
theorem wd696 : Cond.methodLink RX11 143 yX11_isPlace ∈ pv_T := pv_m 696 (by decide +kernel) (by decide +kernel)
theorem wd698 : Cond.instanceMethod yX11_isPlace ∈ pv_T := pv_m 698 (by decide +kernel) (by decide +kernel)
theorem wd699 : Cond.code yX11_isPlace cX11_isPlace 3 (some .boolean) ∈ pv_T := pv_m 699 (by decide +kernel) (by decide +kernel)
theorem wd700 : Cond.methodLink RX11 180 yX11_isBlank ∈ pv_T := pv_m 700 (by decide +kernel) (by decide +kernel)
theorem wd702 : Cond.instanceMethod yX11_isBlank ∈ pv_T := pv_m 702 (by decide +kernel) (by decide +kernel)
theorem wd703 : Cond.code yX11_isBlank cX11_isBlank 2 (some .boolean) ∈ pv_T := pv_m 703 (by decide +kernel) (by decide +kernel)
theorem wd715 : Cond.code yX11_may cX11_may 5 (some .int) ∈ pv_T := pv_m 715 (by decide +kernel) (by decide +kernel)
theorem wd772 : Cond.code yX11_strike cX11_strike 6 (some .int) ∈ pv_T := pv_m 772 (by decide +kernel) (by decide +kernel)
theorem wd797 : Cond.code yX11_back cX11_back 5 (some .int) ∈ pv_T := pv_m 797 (by decide +kernel) (by decide +kernel)
theorem wd798 : Cond.methodLink RX11 177 yX1_lastOf ∈ pv_T := pv_m 798 (by decide +kernel) (by decide +kernel)
theorem wd799 : Cond.instanceMethod yX1_lastOf ∈ pv_T := pv_m 799 (by decide +kernel) (by decide +kernel)
theorem wd800 : Cond.selects RX1 yX1_lastOf yX1_lastOf ∈ pv_T := pv_m 800 (by decide +kernel) (by decide +kernel)
theorem wd801 : Cond.code yX1_lastOf cX1_lastOf 3 (some .int) ∈ pv_T := pv_m 801 (by decide +kernel) (by decide +kernel)
theorem wd818 : Cond.code yX11_book cX11_book 3 (some .int) ∈ pv_T := pv_m 818 (by decide +kernel) (by decide +kernel)
theorem wd819 : Cond.methodLink RX11 197 yX1_tell ∈ pv_T := pv_m 819 (by decide +kernel) (by decide +kernel)
theorem wd820 : Cond.instanceMethod yX1_tell ∈ pv_T := pv_m 820 (by decide +kernel) (by decide +kernel)
theorem wd821 : Cond.selects RX1 yX1_tell yX1_tell ∈ pv_T := pv_m 821 (by decide +kernel) (by decide +kernel)
theorem wd822 : Cond.code yX1_tell cX1_tell 3 (some .int) ∈ pv_T := pv_m 822 (by decide +kernel) (by decide +kernel)
theorem wd827 : Cond.code yX11_ways cX11_ways 3 (some .long) ∈ pv_T := pv_m 827 (by decide +kernel) (by decide +kernel)
theorem wd828 : Cond.methodLink RX11 200 yX11_isDeed ∈ pv_T := pv_m 828 (by decide +kernel) (by decide +kernel)
theorem wd830 : Cond.instanceMethod yX11_isDeed ∈ pv_T := pv_m 830 (by decide +kernel) (by decide +kernel)
theorem wd831 : Cond.code yX11_isDeed cX11_isDeed 2 (some .boolean) ∈ pv_T := pv_m 831 (by decide +kernel) (by decide +kernel)
theorem wd832 : Cond.constantLong RX11 203 (-1) ∈ pv_T := pv_m 832 (by decide +kernel) (by decide +kernel)
theorem wd848 : Cond.code yX11_cheapest cX11_cheapest 6 (some .int) ∈ pv_T := pv_m 848 (by decide +kernel) (by decide +kernel)
theorem wd870 : Cond.code yX11_done cX11_done 8 (some .int) ∈ pv_T := pv_m 870 (by decide +kernel) (by decide +kernel)
theorem wd887 : Cond.code yX11_strokes cX11_strokes 5 (some .int) ∈ pv_T := pv_m 887 (by decide +kernel) (by decide +kernel)
theorem wd908 : Cond.code yX11_even cX11_even 4 (some .long) ∈ pv_T := pv_m 908 (by decide +kernel) (by decide +kernel)
theorem wd912 : Cond.code yX11_hidden cX11_hidden 5 (some .int) ∈ pv_T := pv_m 912 (by decide +kernel) (by decide +kernel)
theorem wd913 : Cond.methodLink RX11 230 yJ6_bitCount_0f7a4 ∈ pv_T := pv_m 913 (by decide +kernel) (by decide +kernel)
theorem wd914 : Cond.static yJ6_bitCount_0f7a4 ∈ pv_T := pv_m 914 (by decide +kernel) (by decide +kernel)
theorem wd915 : Cond.code yJ6_bitCount_0f7a4 cJ6_bitCount_0f7a4 1 (some .int) ∈ pv_T := pv_m 915 (by decide +kernel) (by decide +kernel)
theorem wd916 : Cond.constant RJ6 265 1431655765 ∈ pv_T := pv_m 916 (by decide +kernel) (by decide +kernel)
theorem wd917 : Cond.constant RJ6 266 858993459 ∈ pv_T := pv_m 917 (by decide +kernel) (by decide +kernel)
theorem wd918 : Cond.constant RJ6 267 252645135 ∈ pv_T := pv_m 918 (by decide +kernel) (by decide +kernel)
theorem wd919 : Cond.methodLink RX11 235 yX11_areDeeds ∈ pv_T := pv_m 919 (by decide +kernel) (by decide +kernel)
theorem wd921 : Cond.instanceMethod yX11_areDeeds ∈ pv_T := pv_m 921 (by decide +kernel) (by decide +kernel)
theorem wd922 : Cond.code yX11_areDeeds cX11_areDeeds 2 (some .boolean) ∈ pv_T := pv_m 922 (by decide +kernel) (by decide +kernel)
theorem wd923 : Cond.methodLink RX11 316 yX11_toldDeeds ∈ pv_T := pv_m 923 (by decide +kernel) (by decide +kernel)
theorem wd925 : Cond.instanceMethod yX11_toldDeeds ∈ pv_T := pv_m 925 (by decide +kernel) (by decide +kernel)
theorem wd926 : Cond.code yX11_toldDeeds cX11_toldDeeds 3 (some .int) ∈ pv_T := pv_m 926 (by decide +kernel) (by decide +kernel)
theorem wd958 : Cond.code yX11_shortest cX11_shortest 5 (some .int) ∈ pv_T := pv_m 958 (by decide +kernel) (by decide +kernel)
theorem wd959 : Cond.methodLink RX11 252 yX11_refuseCover ∈ pv_T := pv_m 959 (by decide +kernel) (by decide +kernel)
theorem wd961 : Cond.instanceMethod yX11_refuseCover ∈ pv_T := pv_m 961 (by decide +kernel) (by decide +kernel)
theorem wd962 : Cond.code yX11_refuseCover cX11_refuseCover 4 (some .int) ∈ pv_T := pv_m 962 (by decide +kernel) (by decide +kernel)
theorem wd1047 : Cond.code yX11_shortestMany cX11_shortestMany 3 (some .long) ∈ pv_T := pv_m 1047 (by decide +kernel) (by decide +kernel)
theorem wd1055 : Cond.code yX11_bound cX11_bound 6 (some .int) ∈ pv_T := pv_m 1055 (by decide +kernel) (by decide +kernel)
theorem wd1059 : Cond.code yX11_forged cX11_forged 3 (some .int) ∈ pv_T := pv_m 1059 (by decide +kernel) (by decide +kernel)
theorem wd1071 : Cond.code yX11_spare cX11_spare 7 (some .long) ∈ pv_T := pv_m 1071 (by decide +kernel) (by decide +kernel)
theorem wd1081 : Cond.code yX11_dayEnd cX11_dayEnd 3 (some .int) ∈ pv_T := pv_m 1081 (by decide +kernel) (by decide +kernel)
theorem wd1107 : Cond.code yX11_worth cX11_worth 6 (some .int) ∈ pv_T := pv_m 1107 (by decide +kernel) (by decide +kernel)
theorem wd1111 : Cond.code yX11_family cX11_family 7 (some .int) ∈ pv_T := pv_m 1111 (by decide +kernel) (by decide +kernel)
theorem wd1123 : Cond.code yX11_chain cX11_chain 4 (some .int) ∈ pv_T := pv_m 1123 (by decide +kernel) (by decide +kernel)
theorem wd1144 : Cond.code yX11_seed cX11_seed 2 (some .boolean) ∈ pv_T := pv_m 1144 (by decide +kernel) (by decide +kernel)
theorem wd1145 : Cond.constant RX11 311 65536 ∈ pv_T := pv_m 1145 (by decide +kernel) (by decide +kernel)
theorem wd1149 : Cond.code yX11_draw cX11_draw 7 (some .int) ∈ pv_T := pv_m 1149 (by decide +kernel) (by decide +kernel)
theorem wd1154 : Cond.code yX11_check cX11_check 5 (some .int) ∈ pv_T := pv_m 1154 (by decide +kernel) (by decide +kernel)
theorem wd1162 : Cond.code yX11_count cX11_count 2 (some .int) ∈ pv_T := pv_m 1162 (by decide +kernel) (by decide +kernel)
theorem wd1163 : Cond.methodLink RX11 324 yX1_costOfAll ∈ pv_T := pv_m 1163 (by decide +kernel) (by decide +kernel)
theorem wd1164 : Cond.instanceMethod yX1_costOfAll ∈ pv_T := pv_m 1164 (by decide +kernel) (by decide +kernel)
theorem wd1165 : Cond.selects RX1 yX1_costOfAll yX1_costOfAll ∈ pv_T := pv_m 1165 (by decide +kernel) (by decide +kernel)
theorem wd1166 : Cond.code yX1_costOfAll cX1_costOfAll 3 (some .int) ∈ pv_T := pv_m 1166 (by decide +kernel) (by decide +kernel)
theorem wd1171 : Cond.code yX12_init cX12_init 1 none ∈ pv_T := pv_m 1171 (by decide +kernel) (by decide +kernel)
theorem wd1172 : Cond.methodLink RX12 1 objectInit ∈ pv_T := pv_m 1172 (by decide +kernel) (by decide +kernel)
theorem wd1173 : Cond.fieldLink RX12 152 "StrikeOutModel" "blanks" "I" ∈ pv_T := pv_m 1173 (by decide +kernel) (by decide +kernel)
theorem wd1174 : Cond.fieldLink RX12 158 "StrikeOutModel" "now" "I" ∈ pv_T := pv_m 1174 (by decide +kernel) (by decide +kernel)
theorem wd1175 : Cond.fieldLink RX12 148 "StrikeOutModel" "x0" "I" ∈ pv_T := pv_m 1175 (by decide +kernel) (by decide +kernel)
theorem wd1176 : Cond.fieldLink RX12 306 "StrikeOutModel" "strokesMade" "I" ∈ pv_T := pv_m 1176 (by decide +kernel) (by decide +kernel)
theorem wd1177 : Cond.fieldLink RX12 155 "StrikeOutModel" "toldDeeds" "I" ∈ pv_T := pv_m 1177 (by decide +kernel) (by decide +kernel)
theorem wd1178 : Cond.fieldLink RX12 7 "StrikeOutModel" "blankLong" "[I" ∈ pv_T := pv_m 1178 (by decide +kernel) (by decide +kernel)
theorem wd1179 : Cond.fieldLink RX12 13 "StrikeOutModel" "letterOf" "[I" ∈ pv_T := pv_m 1179 (by decide +kernel) (by decide +kernel)
theorem wd1180 : Cond.fieldLink RX12 16 "StrikeOutModel" "deedLong" "[I" ∈ pv_T := pv_m 1180 (by decide +kernel) (by decide +kernel)
theorem wd1181 : Cond.fieldLink RX12 19 "StrikeOutModel" "deedLetter" "[I" ∈ pv_T := pv_m 1181 (by decide +kernel) (by decide +kernel)
theorem wd1182 : Cond.fieldLink RX12 22 "StrikeOutModel" "isStruck" "[Z" ∈ pv_T := pv_m 1182 (by decide +kernel) (by decide +kernel)
theorem wd1183 : Cond.fieldLink RX12 26 "StrikeOutModel" "tape" "[B" ∈ pv_T := pv_m 1183 (by decide +kernel) (by decide +kernel)
theorem wd1184 : Cond.fieldLink RX12 165 "StrikeOutModel" "taped" "I" ∈ pv_T := pv_m 1184 (by decide +kernel) (by decide +kernel)
theorem wd1193 : Cond.fieldLink RX12 277 "StrikeOutModel" "clauses" "I" ∈ pv_T := pv_m 1193 (by decide +kernel) (by decide +kernel)
theorem wd1194 : Cond.fieldLink RX12 30 "StrikeOutModel" "said" "[I" ∈ pv_T := pv_m 1194 (by decide +kernel) (by decide +kernel)
theorem wd1195 : Cond.fieldLink RX12 33 "StrikeOutModel" "waits" "[I" ∈ pv_T := pv_m 1195 (by decide +kernel) (by decide +kernel)
theorem wd1196 : Cond.fieldLink RX12 36 "StrikeOutModel" "saidLetter" "[I" ∈ pv_T := pv_m 1196 (by decide +kernel) (by decide +kernel)
theorem wd1197 : Cond.fieldLink RX12 39 "StrikeOutModel" "saidFrom" "[I" ∈ pv_T := pv_m 1197 (by decide +kernel) (by decide +kernel)
theorem wd1198 : Cond.fieldLink RX12 42 "StrikeOutModel" "saidHalf" "[I" ∈ pv_T := pv_m 1198 (by decide +kernel) (by decide +kernel)
theorem wd1199 : Cond.fieldLink RX12 45 "StrikeOutModel" "saidTo" "[I" ∈ pv_T := pv_m 1199 (by decide +kernel) (by decide +kernel)
theorem wd1200 : Cond.fieldLink RX12 48 "StrikeOutModel" "codes" "[I" ∈ pv_T := pv_m 1200 (by decide +kernel) (by decide +kernel)
theorem wd1201 : Cond.fieldLink RX12 51 "StrikeOutModel" "clauseOf" "[I" ∈ pv_T := pv_m 1201 (by decide +kernel) (by decide +kernel)
theorem wd1202 : Cond.fieldLink RX12 54 "StrikeOutModel" "codeFrom" "[I" ∈ pv_T := pv_m 1202 (by decide +kernel) (by decide +kernel)
theorem wd1203 : Cond.fieldLink RX12 57 "StrikeOutModel" "codeHalf" "[I" ∈ pv_T := pv_m 1203 (by decide +kernel) (by decide +kernel)
theorem wd1204 : Cond.fieldLink RX12 60 "StrikeOutModel" "codeTo" "[I" ∈ pv_T := pv_m 1204 (by decide +kernel) (by decide +kernel)
theorem wd1205 : Cond.fieldLink RX12 63 "StrikeOutModel" "stack" "[I" ∈ pv_T := pv_m 1205 (by decide +kernel) (by decide +kernel)
theorem wd1206 : Cond.fieldLink RX12 66 "StrikeOutModel" "facts" "[I" ∈ pv_T := pv_m 1206 (by decide +kernel) (by decide +kernel)
theorem wd1207 : Cond.fieldLink RX12 69 "StrikeOutModel" "strokeBlank" "[I" ∈ pv_T := pv_m 1207 (by decide +kernel) (by decide +kernel)
theorem wd1208 : Cond.fieldLink RX12 72 "StrikeOutModel" "strokeClerk" "[I" ∈ pv_T := pv_m 1208 (by decide +kernel) (by decide +kernel)
theorem wd1209 : Cond.fieldLink RX12 75 "StrikeOutModel" "strokeDay" "[I" ∈ pv_T := pv_m 1209 (by decide +kernel) (by decide +kernel)
theorem wd1210 : Cond.fieldLink RX12 78 "StrikeOutModel" "strokeCost" "[I" ∈ pv_T := pv_m 1210 (by decide +kernel) (by decide +kernel)
theorem wd1211 : Cond.fieldLink RX12 81 "StrikeOutModel" "strokeMany" "[I" ∈ pv_T := pv_m 1211 (by decide +kernel) (by decide +kernel)
theorem wd1212 : Cond.fieldLink RX12 84 "StrikeOutModel" "strokeNumber" "[I" ∈ pv_T := pv_m 1212 (by decide +kernel) (by decide +kernel)
theorem wd1215 : Cond.fieldLink RX12 87 "StrikeOutModel" "row" "[I" ∈ pv_T := pv_m 1215 (by decide +kernel) (by decide +kernel)
theorem wd1216 : Cond.fieldLink RX12 90 "StrikeOutModel" "deedRow" "[I" ∈ pv_T := pv_m 1216 (by decide +kernel) (by decide +kernel)
theorem wd1217 : Cond.fieldLink RX12 93 "StrikeOutModel" "waysFrom" "[J" ∈ pv_T := pv_m 1217 (by decide +kernel) (by decide +kernel)
theorem wd1218 : Cond.fieldLink RX12 97 "StrikeOutModel" "goesFor" "[I" ∈ pv_T := pv_m 1218 (by decide +kernel) (by decide +kernel)
theorem wd1219 : Cond.fieldLink RX12 100 "StrikeOutModel" "cheapFrom" "[I" ∈ pv_T := pv_m 1219 (by decide +kernel) (by decide +kernel)
theorem wd1220 : Cond.fieldLink RX12 103 "StrikeOutModel" "stays" "[I" ∈ pv_T := pv_m 1220 (by decide +kernel) (by decide +kernel)
theorem wd1221 : Cond.fieldLink RX12 106 "StrikeOutModel" "fewFrom" "[I" ∈ pv_T := pv_m 1221 (by decide +kernel) (by decide +kernel)
theorem wd1222 : Cond.fieldLink RX12 109 "StrikeOutModel" "evenFrom" "[J" ∈ pv_T := pv_m 1222 (by decide +kernel) (by decide +kernel)
theorem wd1224 : Cond.fieldLink RX12 112 "StrikeOutModel" "choice" "[I" ∈ pv_T := pv_m 1224 (by decide +kernel) (by decide +kernel)
theorem wd1225 : Cond.fieldLink RX12 115 "StrikeOutModel" "at0" "[I" ∈ pv_T := pv_m 1225 (by decide +kernel) (by decide +kernel)
theorem wd1226 : Cond.fieldLink RX12 118 "StrikeOutModel" "next0" "[I" ∈ pv_T := pv_m 1226 (by decide +kernel) (by decide +kernel)
theorem wd1227 : Cond.fieldLink RX12 121 "StrikeOutModel" "step" "[I" ∈ pv_T := pv_m 1227 (by decide +kernel) (by decide +kernel)
theorem wd1228 : Cond.fieldLink RX12 124 "StrikeOutModel" "hiddenFrom" "[I" ∈ pv_T := pv_m 1228 (by decide +kernel) (by decide +kernel)
theorem wd1229 : Cond.fieldLink RX12 127 "StrikeOutModel" "hiddenRow" "[I" ∈ pv_T := pv_m 1229 (by decide +kernel) (by decide +kernel)
theorem wd1230 : Cond.fieldLink RX12 130 "StrikeOutModel" "shortFrom" "[I" ∈ pv_T := pv_m 1230 (by decide +kernel) (by decide +kernel)
theorem wd1231 : Cond.fieldLink RX12 133 "StrikeOutModel" "shortWays" "[J" ∈ pv_T := pv_m 1231 (by decide +kernel) (by decide +kernel)
theorem wd1232 : Cond.fieldLink RX12 136 "StrikeOutModel" "mayCome" "[Z" ∈ pv_T := pv_m 1232 (by decide +kernel) (by decide +kernel)
theorem wd1233 : Cond.fieldLink RX12 139 "StrikeOutModel" "valueFrom" "[I" ∈ pv_T := pv_m 1233 (by decide +kernel) (by decide +kernel)
theorem wd1235 : Cond.fieldLink RX12 142 "StrikeOutModel" "follows" "[Z" ∈ pv_T := pv_m 1235 (by decide +kernel) (by decide +kernel)
theorem wd1236 : Cond.fieldLink RX12 145 "StrikeOutModel" "longFrom" "[I" ∈ pv_T := pv_m 1236 (by decide +kernel) (by decide +kernel)
theorem wd1369 : Cond.code yX12_day cX12_day 2 (some .boolean) ∈ pv_T := pv_m 1369 (by decide +kernel) (by decide +kernel)
theorem wd1370 : Cond.methodLink RX12 161 yX12_in ∈ pv_T := pv_m 1370 (by decide +kernel) (by decide +kernel)
theorem wd1371 : Cond.static yX12_in ∈ pv_T := pv_m 1371 (by decide +kernel) (by decide +kernel)
theorem wd1372 : Cond.code yX12_in cX12_in 3 (some .boolean) ∈ pv_T := pv_m 1372 (by decide +kernel) (by decide +kernel)
theorem wd1376 : Cond.code yX12_blank cX12_blank 3 (some .int) ∈ pv_T := pv_m 1376 (by decide +kernel) (by decide +kernel)
theorem wd1384 : Cond.code yX12_deed cX12_deed 4 (some .int) ∈ pv_T := pv_m 1384 (by decide +kernel) (by decide +kernel)
theorem wd1388 : Cond.code yX12_left cX12_left 5 (some .int) ∈ pv_T := pv_m 1388 (by decide +kernel) (by decide +kernel)
theorem wd1389 : Cond.methodLink RX12 172 yX12_isBlank ∈ pv_T := pv_m 1389 (by decide +kernel) (by decide +kernel)
theorem wd1391 : Cond.instanceMethod yX12_isBlank ∈ pv_T := pv_m 1391 (by decide +kernel) (by decide +kernel)
theorem wd1392 : Cond.code yX12_isBlank cX12_isBlank 2 (some .boolean) ∈ pv_T := pv_m 1392 (by decide +kernel) (by decide +kernel)
theorem wd1404 : Cond.code yX12_feed cX12_feed 6 (some .int) ∈ pv_T := pv_m 1404 (by decide +kernel) (by decide +kernel)
theorem wd1405 : Cond.methodLink RX12 183 yX12_types ∈ pv_T := pv_m 1405 (by decide +kernel) (by decide +kernel)
theorem wd1407 : Cond.instanceMethod yX12_types ∈ pv_T := pv_m 1407 (by decide +kernel) (by decide +kernel)
theorem wd1408 : Cond.code yX12_types cX12_types 3 none ∈ pv_T := pv_m 1408 (by decide +kernel) (by decide +kernel)
theorem wd1412 : Cond.code yX12_law cX12_law 4 (some .int) ∈ pv_T := pv_m 1412 (by decide +kernel) (by decide +kernel)
theorem wd1495 : Cond.code yX12_may cX12_may 5 (some .int) ∈ pv_T := pv_m 1495 (by decide +kernel) (by decide +kernel)
theorem wd1529 : Cond.code yX12_strike cX12_strike 7 (some .int) ∈ pv_T := pv_m 1529 (by decide +kernel) (by decide +kernel)
theorem wd1541 : Cond.code yX12_back cX12_back 5 (some .int) ∈ pv_T := pv_m 1541 (by decide +kernel) (by decide +kernel)
theorem wd1549 : Cond.code yX12_book cX12_book 3 (some .int) ∈ pv_T := pv_m 1549 (by decide +kernel) (by decide +kernel)
theorem wd1553 : Cond.code yX12_ways cX12_ways 5 (some .long) ∈ pv_T := pv_m 1553 (by decide +kernel) (by decide +kernel)
theorem wd1554 : Cond.methodLink RX12 329 yX12_isAsked ∈ pv_T := pv_m 1554 (by decide +kernel) (by decide +kernel)
theorem wd1556 : Cond.instanceMethod yX12_isAsked ∈ pv_T := pv_m 1556 (by decide +kernel) (by decide +kernel)
theorem wd1557 : Cond.code yX12_isAsked cX12_isAsked 3 (some .boolean) ∈ pv_T := pv_m 1557 (by decide +kernel) (by decide +kernel)
theorem wd1558 : Cond.methodLink RX12 326 yX12_isDeed ∈ pv_T := pv_m 1558 (by decide +kernel) (by decide +kernel)
theorem wd1560 : Cond.instanceMethod yX12_isDeed ∈ pv_T := pv_m 1560 (by decide +kernel) (by decide +kernel)
theorem wd1561 : Cond.code yX12_isDeed cX12_isDeed 2 (some .boolean) ∈ pv_T := pv_m 1561 (by decide +kernel) (by decide +kernel)
theorem wd1562 : Cond.constantLong RX12 332 (-1) ∈ pv_T := pv_m 1562 (by decide +kernel) (by decide +kernel)
theorem wd1574 : Cond.code yX12_cheapest cX12_cheapest 6 (some .int) ∈ pv_T := pv_m 1574 (by decide +kernel) (by decide +kernel)
theorem wd1598 : Cond.code yX12_done cX12_done 11 (some .int) ∈ pv_T := pv_m 1598 (by decide +kernel) (by decide +kernel)
theorem wd1606 : Cond.code yX12_strokes cX12_strokes 5 (some .int) ∈ pv_T := pv_m 1606 (by decide +kernel) (by decide +kernel)
theorem wd1617 : Cond.code yX12_even cX12_even 9 (some .long) ∈ pv_T := pv_m 1617 (by decide +kernel) (by decide +kernel)
theorem wd1621 : Cond.code yX12_hidden cX12_hidden 9 (some .int) ∈ pv_T := pv_m 1621 (by decide +kernel) (by decide +kernel)
theorem wd1622 : Cond.methodLink RX12 391 yX12_spreads ∈ pv_T := pv_m 1622 (by decide +kernel) (by decide +kernel)
theorem wd1624 : Cond.instanceMethod yX12_spreads ∈ pv_T := pv_m 1624 (by decide +kernel) (by decide +kernel)
theorem wd1625 : Cond.code yX12_spreads cX12_spreads 5 (some .boolean) ∈ pv_T := pv_m 1625 (by decide +kernel) (by decide +kernel)
theorem wd1626 : Cond.methodLink RX12 366 yX12_bits ∈ pv_T := pv_m 1626 (by decide +kernel) (by decide +kernel)
theorem wd1627 : Cond.static yX12_bits ∈ pv_T := pv_m 1627 (by decide +kernel) (by decide +kernel)
theorem wd1628 : Cond.code yX12_bits cX12_bits 3 (some .int) ∈ pv_T := pv_m 1628 (by decide +kernel) (by decide +kernel)
theorem wd1659 : Cond.code yX12_shortest cX12_shortest 7 (some .int) ∈ pv_T := pv_m 1659 (by decide +kernel) (by decide +kernel)
theorem wd1686 : Cond.code yX12_shortestMany cX12_shortestMany 2 (some .long) ∈ pv_T := pv_m 1686 (by decide +kernel) (by decide +kernel)
theorem wd1691 : Cond.code yX12_bound cX12_bound 5 (some .int) ∈ pv_T := pv_m 1691 (by decide +kernel) (by decide +kernel)
theorem wd1695 : Cond.code yX12_forged cX12_forged 3 (some .int) ∈ pv_T := pv_m 1695 (by decide +kernel) (by decide +kernel)
theorem wd1703 : Cond.code yX12_spare cX12_spare 6 (some .long) ∈ pv_T := pv_m 1703 (by decide +kernel) (by decide +kernel)
theorem wd1704 : Cond.methodLink RX12 420 yX12_areSet ∈ pv_T := pv_m 1704 (by decide +kernel) (by decide +kernel)
theorem wd1706 : Cond.instanceMethod yX12_areSet ∈ pv_T := pv_m 1706 (by decide +kernel) (by decide +kernel)
theorem wd1707 : Cond.code yX12_areSet cX12_areSet 2 (some .boolean) ∈ pv_T := pv_m 1707 (by decide +kernel) (by decide +kernel)
theorem wd1715 : Cond.code yX12_dayEnd cX12_dayEnd 3 (some .int) ∈ pv_T := pv_m 1715 (by decide +kernel) (by decide +kernel)
theorem wd1744 : Cond.code yX12_worth cX12_worth 6 (some .int) ∈ pv_T := pv_m 1744 (by decide +kernel) (by decide +kernel)
theorem wd1748 : Cond.code yX12_family cX12_family 7 (some .int) ∈ pv_T := pv_m 1748 (by decide +kernel) (by decide +kernel)
theorem wd1760 : Cond.code yX12_chain cX12_chain 8 (some .int) ∈ pv_T := pv_m 1760 (by decide +kernel) (by decide +kernel)
theorem wd1776 : Cond.code yX12_seed cX12_seed 2 (some .boolean) ∈ pv_T := pv_m 1776 (by decide +kernel) (by decide +kernel)
theorem wd1777 : Cond.constant RX12 463 65535 ∈ pv_T := pv_m 1777 (by decide +kernel) (by decide +kernel)
theorem wd1781 : Cond.code yX12_draw cX12_draw 7 (some .int) ∈ pv_T := pv_m 1781 (by decide +kernel) (by decide +kernel)
theorem wd1786 : Cond.code yX12_check cX12_check 4 (some .int) ∈ pv_T := pv_m 1786 (by decide +kernel) (by decide +kernel)
theorem wd1794 : Cond.code yX12_count cX12_count 2 (some .int) ∈ pv_T := pv_m 1794 (by decide +kernel) (by decide +kernel)
theorem wd1795 : Cond.methodLink RX12 468 yX12_costAll ∈ pv_T := pv_m 1795 (by decide +kernel) (by decide +kernel)
theorem wd1797 : Cond.instanceMethod yX12_costAll ∈ pv_T := pv_m 1797 (by decide +kernel) (by decide +kernel)
theorem wd1798 : Cond.code yX12_costAll cX12_costAll 3 (some .int) ∈ pv_T := pv_m 1798 (by decide +kernel) (by decide +kernel)
set_option maxRecDepth 100000 in
theorem FX0 : pv_F 0 RX0 TX0 4 tyX0 := ⟨rfl, fun w hw => List.mem_filter.mpr ⟨(by decide +kernel : ∀ w ∈ u_ws RX0 TX0 4, w ∈ lw_tbl) w hw, (by decide +kernel : ∀ w ∈ u_ws RX0 TX0 4, goodWord w = true) w hw⟩, tyX0_ok, nmX0⟩
theorem pv_dfX0 : ∀ j, j < 4 → defaultValue (tyX0 j) = vp_V [.null, .null, .null, .null] j := by decide +kernel
set_option maxRecDepth 100000 in
theorem FX1 : pv_F 1 RX1 TX1 7 tyX1 := ⟨rfl, fun w hw => List.mem_filter.mpr ⟨(by decide +kernel : ∀ w ∈ u_ws RX1 TX1 7, w ∈ lw_tbl) w hw, (by decide +kernel : ∀ w ∈ u_ws RX1 TX1 7, goodWord w = true) w hw⟩, tyX1_ok, nmX1⟩
theorem pv_dfX1 : ∀ j, j < 7 → defaultValue (tyX1 j) = vp_V [.null, .null, .null, .null, .null, .null, .int 0] j := by decide +kernel
set_option maxRecDepth 100000 in
theorem FX2 : pv_F 2 RX2 TX2 4 tyX2 := ⟨rfl, fun w hw => List.mem_filter.mpr ⟨(by decide +kernel : ∀ w ∈ u_ws RX2 TX2 4, w ∈ lw_tbl) w hw, (by decide +kernel : ∀ w ∈ u_ws RX2 TX2 4, goodWord w = true) w hw⟩, tyX2_ok, nmX2⟩
theorem pv_dfX2 : ∀ j, j < 4 → defaultValue (tyX2 j) = vp_V [.null, .null, .null, .null] j := by decide +kernel
set_option maxRecDepth 100000 in
theorem FX4 : pv_F 4 RX4 TX4 2 tyX4 := ⟨rfl, fun w hw => List.mem_filter.mpr ⟨(by decide +kernel : ∀ w ∈ u_ws RX4 TX4 2, w ∈ lw_tbl) w hw, (by decide +kernel : ∀ w ∈ u_ws RX4 TX4 2, goodWord w = true) w hw⟩, tyX4_ok, nmX4⟩
theorem pv_dfX4 : ∀ j, j < 2 → defaultValue (tyX4 j) = vp_V [.null, .null] j := by decide +kernel
set_option maxRecDepth 100000 in
theorem FX5 : pv_F 5 RX5 TX5 3 tyX5 := ⟨rfl, fun w hw => List.mem_filter.mpr ⟨(by decide +kernel : ∀ w ∈ u_ws RX5 TX5 3, w ∈ lw_tbl) w hw, (by decide +kernel : ∀ w ∈ u_ws RX5 TX5 3, goodWord w = true) w hw⟩, tyX5_ok, nmX5⟩
theorem pv_dfX5 : ∀ j, j < 3 → defaultValue (tyX5 j) = vp_V [.null, .int 0, .null] j := by decide +kernel
set_option maxRecDepth 100000 in
theorem FX6 : pv_F 6 RX6 TX6 12 tyX6 := ⟨rfl, fun w hw => List.mem_filter.mpr ⟨(by decide +kernel : ∀ w ∈ u_ws RX6 TX6 12, w ∈ lw_tbl) w hw, (by decide +kernel : ∀ w ∈ u_ws RX6 TX6 12, goodWord w = true) w hw⟩, tyX6_ok, nmX6⟩
theorem pv_dfX6 : ∀ j, j < 12 → defaultValue (tyX6 j) = vp_V [.null, .null, .int 0, .null, .null, .null, .null, .int 0, .null, .null, .int 0, .int 0] j := by decide +kernel
set_option maxRecDepth 100000 in
theorem FX7 : pv_F 7 RX7 TX7 5 tyX7 := ⟨rfl, fun w hw => List.mem_filter.mpr ⟨(by decide +kernel : ∀ w ∈ u_ws RX7 TX7 5, w ∈ lw_tbl) w hw, (by decide +kernel : ∀ w ∈ u_ws RX7 TX7 5, goodWord w = true) w hw⟩, tyX7_ok, nmX7⟩
theorem pv_dfX7 : ∀ j, j < 5 → defaultValue (tyX7 j) = vp_V [.null, .null, .int 0, .int 0, .int 0] j := by decide +kernel
set_option maxRecDepth 100000 in
theorem FX8 : pv_F 8 RX8 TX8 2 tyX8 := ⟨rfl, fun w hw => List.mem_filter.mpr ⟨(by decide +kernel : ∀ w ∈ u_ws RX8 TX8 2, w ∈ lw_tbl) w hw, (by decide +kernel : ∀ w ∈ u_ws RX8 TX8 2, goodWord w = true) w hw⟩, tyX8_ok, nmX8⟩
theorem pv_dfX8 : ∀ j, j < 2 → defaultValue (tyX8 j) = vp_V [.null, .int 0] j := by decide +kernel
set_option maxRecDepth 100000 in
theorem FX9 : pv_F 9 RX9 TX9 5 tyX9 := ⟨rfl, fun w hw => List.mem_filter.mpr ⟨(by decide +kernel : ∀ w ∈ u_ws RX9 TX9 5, w ∈ lw_tbl) w hw, (by decide +kernel : ∀ w ∈ u_ws RX9 TX9 5, goodWord w = true) w hw⟩, tyX9_ok, nmX9⟩
theorem pv_dfX9 : ∀ j, j < 5 → defaultValue (tyX9 j) = vp_V [.null, .int 0, .int 0, .null, .null] j := by decide +kernel
set_option maxRecDepth 100000 in
theorem FX10 : pv_F 10 RX10 TX10 2 tyX10 := ⟨rfl, fun w hw => List.mem_filter.mpr ⟨(by decide +kernel : ∀ w ∈ u_ws RX10 TX10 2, w ∈ lw_tbl) w hw, (by decide +kernel : ∀ w ∈ u_ws RX10 TX10 2, goodWord w = true) w hw⟩, tyX10_ok, nmX10⟩
theorem pv_dfX10 : ∀ j, j < 2 → defaultValue (tyX10 j) = vp_V [.null, .int 0] j := by decide +kernel
set_option maxRecDepth 100000 in
theorem FX11 : pv_F 11 RX11 TX11 17 tyX11 := ⟨rfl, fun w hw => List.mem_filter.mpr ⟨(by decide +kernel : ∀ w ∈ u_ws RX11 TX11 17, w ∈ lw_tbl) w hw, (by decide +kernel : ∀ w ∈ u_ws RX11 TX11 17, goodWord w = true) w hw⟩, tyX11_ok, nmX11⟩
theorem pv_dfX11 : ∀ j, j < 17 → defaultValue (tyX11 j) = vp_V [.null, .null, .int 0, .null, .null, .null, .null, .int 0, .int 0, .null, .null, .null, .null, .null, .null, .null, .null] j := by decide +kernel
set_option maxRecDepth 100000 in
theorem FX12 : pv_F 12 RX12 TX12 64 tyX12 := ⟨rfl, fun w hw => List.mem_filter.mpr ⟨(by decide +kernel : ∀ w ∈ u_ws RX12 TX12 64, w ∈ lw_tbl) w hw, (by decide +kernel : ∀ w ∈ u_ws RX12 TX12 64, goodWord w = true) w hw⟩, tyX12_ok, nmX12⟩
theorem pv_dfX12 : ∀ j, j < 64 → defaultValue (tyX12 j) = vp_V [.int 0, .int 0, .int 0, .int 0, .int 0, .null, .null, .null, .null, .null, .null, .int 0, .int 0, .int 0, .int 0, .int 0, .int 0, .int 0, .int 0, .int 0, .int 0, .null, .null, .null, .null, .null, .null, .null, .null, .null, .null, .null, .null, .null, .null, .null, .null, .null, .null, .null, .int 0, .int 0, .null, .null, .null, .null, .null, .null, .null, .null, .int 0, .null, .null, .null, .null, .null, .null, .null, .null, .null, .null, .int 0, .null, .null] j := by decide +kernel
abbrev mX11_init : pv_M := (RX11, "<init>", cX11_init, 2, none)
theorem YX11_init : pv_y yX11_init mX11_init 0 := ⟨wd151, wd125, by decide +kernel, by decide⟩
abbrev mX11_areDeeds : pv_M := (RX11, "areDeeds", cX11_areDeeds, 2, some .boolean)
theorem YX11_areDeeds : pv_y yX11_areDeeds mX11_areDeeds 1 := ⟨wd922, wd125, by decide +kernel, by decide⟩
abbrev mX11_back : pv_M := (RX11, "back", cX11_back, 5, some .int)
theorem YX11_back : pv_y yX11_back mX11_back 1 := ⟨wd797, wd125, by decide +kernel, by decide⟩
abbrev mX11_blank : pv_M := (RX11, "blank", cX11_blank, 3, some .int)
theorem YX11_blank : pv_y yX11_blank mX11_blank 1 := ⟨wd478, wd125, by decide +kernel, by decide⟩
abbrev mX11_book : pv_M := (RX11, "book", cX11_book, 3, some .int)
theorem YX11_book : pv_y yX11_book mX11_book 2 := ⟨wd818, wd125, by decide +kernel, by decide⟩
abbrev mX11_bound : pv_M := (RX11, "bound", cX11_bound, 6, some .int)
theorem YX11_bound : pv_y yX11_bound mX11_bound 1 := ⟨wd1055, wd125, by decide +kernel, by decide⟩
abbrev mX11_chain : pv_M := (RX11, "chain", cX11_chain, 4, some .int)
theorem YX11_chain : pv_y yX11_chain mX11_chain 2 := ⟨wd1123, wd125, by decide +kernel, by decide⟩
abbrev mX11_cheapest : pv_M := (RX11, "cheapest", cX11_cheapest, 6, some .int)
theorem YX11_cheapest : pv_y yX11_cheapest mX11_cheapest 4 := ⟨wd848, wd125, by decide +kernel, by decide⟩
abbrev mX11_check : pv_M := (RX11, "check", cX11_check, 5, some .int)
theorem YX11_check : pv_y yX11_check mX11_check 2 := ⟨wd1154, wd125, by decide +kernel, by decide⟩
abbrev mX11_count : pv_M := (RX11, "count", cX11_count, 2, some .int)
theorem YX11_count : pv_y yX11_count mX11_count 1 := ⟨wd1162, wd125, by decide +kernel, by decide⟩
abbrev mX11_day : pv_M := (RX11, "day", cX11_day, 2, some .boolean)
theorem YX11_day : pv_y yX11_day mX11_day 1 := ⟨wd462, wd125, by decide +kernel, by decide⟩
abbrev mX11_dayEnd : pv_M := (RX11, "dayEnd", cX11_dayEnd, 3, some .int)
theorem YX11_dayEnd : pv_y yX11_dayEnd mX11_dayEnd 2 := ⟨wd1081, wd125, by decide +kernel, by decide⟩
abbrev mX11_deed : pv_M := (RX11, "deed", cX11_deed, 4, some .int)
theorem YX11_deed : pv_y yX11_deed mX11_deed 2 := ⟨wd499, wd125, by decide +kernel, by decide⟩
abbrev mX11_done : pv_M := (RX11, "done", cX11_done, 8, some .int)
theorem YX11_done : pv_y yX11_done mX11_done 3 := ⟨wd870, wd125, by decide +kernel, by decide⟩
abbrev mX11_draw : pv_M := (RX11, "draw", cX11_draw, 7, some .int)
theorem YX11_draw : pv_y yX11_draw mX11_draw 2 := ⟨wd1149, wd125, by decide +kernel, by decide⟩
abbrev mX11_even : pv_M := (RX11, "even", cX11_even, 4, some .long)
theorem YX11_even : pv_y yX11_even mX11_even 3 := ⟨wd908, wd125, by decide +kernel, by decide⟩
abbrev mX11_family : pv_M := (RX11, "family", cX11_family, 7, some .int)
theorem YX11_family : pv_y yX11_family mX11_family 4 := ⟨wd1111, wd125, by decide +kernel, by decide⟩
abbrev mX11_feed : pv_M := (RX11, "feed", cX11_feed, 6, some .int)
theorem YX11_feed : pv_y yX11_feed mX11_feed 5 := ⟨wd466, wd125, by decide +kernel, by decide⟩
abbrev mX11_forged : pv_M := (RX11, "forged", cX11_forged, 3, some .int)
theorem YX11_forged : pv_y yX11_forged mX11_forged 1 := ⟨wd1059, wd125, by decide +kernel, by decide⟩
abbrev mX11_hidden : pv_M := (RX11, "hidden", cX11_hidden, 5, some .int)
theorem YX11_hidden : pv_y yX11_hidden mX11_hidden 2 := ⟨wd912, wd125, by decide +kernel, by decide⟩
abbrev mX11_isBlank : pv_M := (RX11, "isBlank", cX11_isBlank, 2, some .boolean)
theorem YX11_isBlank : pv_y yX11_isBlank mX11_isBlank 1 := ⟨wd703, wd125, by decide +kernel, by decide⟩
abbrev mX11_isDeed : pv_M := (RX11, "isDeed", cX11_isDeed, 2, some .boolean)
theorem YX11_isDeed : pv_y yX11_isDeed mX11_isDeed 1 := ⟨wd831, wd125, by decide +kernel, by decide⟩
abbrev mX11_isPlace : pv_M := (RX11, "isPlace", cX11_isPlace, 3, some .boolean)
theorem YX11_isPlace : pv_y yX11_isPlace mX11_isPlace 2 := ⟨wd699, wd125, by decide +kernel, by decide⟩
abbrev mX11_law : pv_M := (RX11, "law", cX11_law, 3, some .int)
theorem YX11_law : pv_y yX11_law mX11_law 1 := ⟨wd507, wd125, by decide +kernel, by decide⟩
abbrev mX11_left : pv_M := (RX11, "left", cX11_left, 4, some .int)
theorem YX11_left : pv_y yX11_left mX11_left 3 := ⟨wd695, wd125, by decide +kernel, by decide⟩
abbrev mX11_may : pv_M := (RX11, "may", cX11_may, 5, some .int)
theorem YX11_may : pv_y yX11_may mX11_may 4 := ⟨wd715, wd125, by decide +kernel, by decide⟩
abbrev mX11_refuseCover : pv_M := (RX11, "refuseCover", cX11_refuseCover, 4, some .int)
theorem YX11_refuseCover : pv_y yX11_refuseCover mX11_refuseCover 1 := ⟨wd962, wd125, by decide +kernel, by decide⟩
abbrev mX11_seed : pv_M := (RX11, "seed", cX11_seed, 2, some .boolean)
theorem YX11_seed : pv_y yX11_seed mX11_seed 1 := ⟨wd1144, wd125, by decide +kernel, by decide⟩
abbrev mX11_shortest : pv_M := (RX11, "shortest", cX11_shortest, 5, some .int)
theorem YX11_shortest : pv_y yX11_shortest mX11_shortest 2 := ⟨wd958, wd125, by decide +kernel, by decide⟩
abbrev mX11_shortestMany : pv_M := (RX11, "shortestMany", cX11_shortestMany, 3, some .long)
theorem YX11_shortestMany : pv_y yX11_shortestMany mX11_shortestMany 1 := ⟨wd1047, wd125, by decide +kernel, by decide⟩
abbrev mX11_spare : pv_M := (RX11, "spare", cX11_spare, 7, some .long)
theorem YX11_spare : pv_y yX11_spare mX11_spare 2 := ⟨wd1071, wd125, by decide +kernel, by decide⟩
abbrev mX11_strike : pv_M := (RX11, "strike", cX11_strike, 6, some .int)
theorem YX11_strike : pv_y yX11_strike mX11_strike 4 := ⟨wd772, wd125, by decide +kernel, by decide⟩
abbrev mX11_strokes : pv_M := (RX11, "strokes", cX11_strokes, 5, some .int)
theorem YX11_strokes : pv_y yX11_strokes mX11_strokes 3 := ⟨wd887, wd125, by decide +kernel, by decide⟩
abbrev mX11_toldDeeds : pv_M := (RX11, "toldDeeds", cX11_toldDeeds, 3, some .int)
theorem YX11_toldDeeds : pv_y yX11_toldDeeds mX11_toldDeeds 0 := ⟨wd926, wd125, by decide +kernel, by decide⟩
abbrev mX11_ways : pv_M := (RX11, "ways", cX11_ways, 3, some .long)
theorem YX11_ways : pv_y yX11_ways mX11_ways 2 := ⟨wd827, wd125, by decide +kernel, by decide⟩
abbrev mX11_worth : pv_M := (RX11, "worth", cX11_worth, 6, some .int)
theorem YX11_worth : pv_y yX11_worth mX11_worth 3 := ⟨wd1107, wd125, by decide +kernel, by decide⟩
abbrev mX0_init : pv_M := (RX0, "<init>", cX0_init, 1, none)
theorem YX0_init : pv_y yX0_init mX0_init 0 := ⟨wd176, wd127, by decide +kernel, by decide⟩
abbrev mX1_init : pv_M := (RX1, "<init>", cX1_init, 1, none)
theorem YX1_init : pv_y yX1_init mX1_init 0 := ⟨wd300, wd132, by decide +kernel, by decide⟩
abbrev mX1_costOfAll : pv_M := (RX1, "costOfAll", cX1_costOfAll, 3, some .int)
theorem YX1_costOfAll : pv_y yX1_costOfAll mX1_costOfAll 0 := ⟨wd1166, wd132, by decide +kernel, by decide⟩
abbrev mX1_lastOf : pv_M := (RX1, "lastOf", cX1_lastOf, 3, some .int)
theorem YX1_lastOf : pv_y yX1_lastOf mX1_lastOf 1 := ⟨wd801, wd132, by decide +kernel, by decide⟩
abbrev mX1_tell : pv_M := (RX1, "tell", cX1_tell, 3, some .int)
theorem YX1_tell : pv_y yX1_tell mX1_tell 2 := ⟨wd822, wd132, by decide +kernel, by decide⟩
abbrev mX2_init : pv_M := (RX2, "<init>", cX2_init, 1, none)
theorem YX2_init : pv_y yX2_init mX2_init 0 := ⟨wd344, wd134, by decide +kernel, by decide⟩
abbrev mX4_init : pv_M := (RX4, "<init>", cX4_init, 1, none)
theorem YX4_init : pv_y yX4_init mX4_init 0 := ⟨wd330, wd133, by decide +kernel, by decide⟩
abbrev mX5_init : pv_M := (RX5, "<init>", cX5_init, 1, none)
theorem YX5_init : pv_y yX5_init mX5_init 0 := ⟨wd366, wd135, by decide +kernel, by decide⟩
abbrev mX6_init : pv_M := (RX6, "<init>", cX6_init, 1, none)
theorem YX6_init : pv_y yX6_init mX6_init 0 := ⟨wd231, wd130, by decide +kernel, by decide⟩
abbrev mX7_init : pv_M := (RX7, "<init>", cX7_init, 1, none)
theorem YX7_init : pv_y yX7_init mX7_init 0 := ⟨wd276, wd131, by decide +kernel, by decide⟩
abbrev mX8_init : pv_M := (RX8, "<init>", cX8_init, 2, none)
theorem YX8_init : pv_y yX8_init mX8_init 1 := ⟨wd182, wd128, by decide +kernel, by decide⟩
abbrev mX9_init : pv_M := (RX9, "<init>", cX9_init, 1, none)
theorem YX9_init : pv_y yX9_init mX9_init 0 := ⟨wd386, wd136, by decide +kernel, by decide⟩
abbrev mX10_init : pv_M := (RX10, "<init>", cX10_init, 1, none)
theorem YX10_init : pv_y yX10_init mX10_init 0 := ⟨wd159, wd126, by decide +kernel, by decide⟩
abbrev mX10_hasRoom : pv_M := (RX10, "hasRoom", cX10_hasRoom, 2, some .boolean)
theorem YX10_hasRoom : pv_y yX10_hasRoom mX10_hasRoom 1 := ⟨wd470, wd126, by decide +kernel, by decide⟩
abbrev mX10_put : pv_M := (RX10, "put", cX10_put, 3, none)
theorem YX10_put : pv_y yX10_put mX10_put 1 := ⟨wd474, wd126, by decide +kernel, by decide⟩
abbrev mX12_init : pv_M := (RX12, "<init>", cX12_init, 1, none)
theorem YX12_init : pv_y yX12_init mX12_init 0 := ⟨wd1171, wd137, by decide +kernel, by decide⟩
abbrev mX12_areSet : pv_M := (RX12, "areSet", cX12_areSet, 2, some .boolean)
theorem YX12_areSet : pv_y yX12_areSet mX12_areSet 1 := ⟨wd1707, wd137, by decide +kernel, by decide⟩
abbrev mX12_back : pv_M := (RX12, "back", cX12_back, 5, some .int)
theorem YX12_back : pv_y yX12_back mX12_back 1 := ⟨wd1541, wd137, by decide +kernel, by decide⟩
abbrev mX12_bits : pv_M := (RX12, "bits", cX12_bits, 3, some .int)
theorem YX12_bits : pv_y yX12_bits mX12_bits 1 := ⟨wd1628, wd137, by decide +kernel, by decide⟩
abbrev mX12_blank : pv_M := (RX12, "blank", cX12_blank, 3, some .int)
theorem YX12_blank : pv_y yX12_blank mX12_blank 1 := ⟨wd1376, wd137, by decide +kernel, by decide⟩
abbrev mX12_book : pv_M := (RX12, "book", cX12_book, 3, some .int)
theorem YX12_book : pv_y yX12_book mX12_book 2 := ⟨wd1549, wd137, by decide +kernel, by decide⟩
abbrev mX12_bound : pv_M := (RX12, "bound", cX12_bound, 5, some .int)
theorem YX12_bound : pv_y yX12_bound mX12_bound 1 := ⟨wd1691, wd137, by decide +kernel, by decide⟩
abbrev mX12_chain : pv_M := (RX12, "chain", cX12_chain, 8, some .int)
theorem YX12_chain : pv_y yX12_chain mX12_chain 2 := ⟨wd1760, wd137, by decide +kernel, by decide⟩
abbrev mX12_cheapest : pv_M := (RX12, "cheapest", cX12_cheapest, 6, some .int)
theorem YX12_cheapest : pv_y yX12_cheapest mX12_cheapest 4 := ⟨wd1574, wd137, by decide +kernel, by decide⟩
abbrev mX12_check : pv_M := (RX12, "check", cX12_check, 4, some .int)
theorem YX12_check : pv_y yX12_check mX12_check 2 := ⟨wd1786, wd137, by decide +kernel, by decide⟩
abbrev mX12_costAll : pv_M := (RX12, "costAll", cX12_costAll, 3, some .int)
theorem YX12_costAll : pv_y yX12_costAll mX12_costAll 0 := ⟨wd1798, wd137, by decide +kernel, by decide⟩
abbrev mX12_count : pv_M := (RX12, "count", cX12_count, 2, some .int)
theorem YX12_count : pv_y yX12_count mX12_count 1 := ⟨wd1794, wd137, by decide +kernel, by decide⟩
abbrev mX12_day : pv_M := (RX12, "day", cX12_day, 2, some .boolean)
theorem YX12_day : pv_y yX12_day mX12_day 1 := ⟨wd1369, wd137, by decide +kernel, by decide⟩
abbrev mX12_dayEnd : pv_M := (RX12, "dayEnd", cX12_dayEnd, 3, some .int)
theorem YX12_dayEnd : pv_y yX12_dayEnd mX12_dayEnd 2 := ⟨wd1715, wd137, by decide +kernel, by decide⟩
abbrev mX12_deed : pv_M := (RX12, "deed", cX12_deed, 4, some .int)
theorem YX12_deed : pv_y yX12_deed mX12_deed 2 := ⟨wd1384, wd137, by decide +kernel, by decide⟩
abbrev mX12_done : pv_M := (RX12, "done", cX12_done, 11, some .int)
theorem YX12_done : pv_y yX12_done mX12_done 3 := ⟨wd1598, wd137, by decide +kernel, by decide⟩
abbrev mX12_draw : pv_M := (RX12, "draw", cX12_draw, 7, some .int)
theorem YX12_draw : pv_y yX12_draw mX12_draw 2 := ⟨wd1781, wd137, by decide +kernel, by decide⟩
abbrev mX12_even : pv_M := (RX12, "even", cX12_even, 9, some .long)
theorem YX12_even : pv_y yX12_even mX12_even 3 := ⟨wd1617, wd137, by decide +kernel, by decide⟩
abbrev mX12_family : pv_M := (RX12, "family", cX12_family, 7, some .int)
theorem YX12_family : pv_y yX12_family mX12_family 4 := ⟨wd1748, wd137, by decide +kernel, by decide⟩
abbrev mX12_feed : pv_M := (RX12, "feed", cX12_feed, 6, some .int)
theorem YX12_feed : pv_y yX12_feed mX12_feed 5 := ⟨wd1404, wd137, by decide +kernel, by decide⟩
abbrev mX12_forged : pv_M := (RX12, "forged", cX12_forged, 3, some .int)
theorem YX12_forged : pv_y yX12_forged mX12_forged 1 := ⟨wd1695, wd137, by decide +kernel, by decide⟩
abbrev mX12_hidden : pv_M := (RX12, "hidden", cX12_hidden, 9, some .int)
theorem YX12_hidden : pv_y yX12_hidden mX12_hidden 2 := ⟨wd1621, wd137, by decide +kernel, by decide⟩
abbrev mX12_in : pv_M := (RX12, "in", cX12_in, 3, some .boolean)
theorem YX12_in : pv_y yX12_in mX12_in 3 := ⟨wd1372, wd137, by decide +kernel, by decide⟩
abbrev mX12_isAsked : pv_M := (RX12, "isAsked", cX12_isAsked, 3, some .boolean)
theorem YX12_isAsked : pv_y yX12_isAsked mX12_isAsked 2 := ⟨wd1557, wd137, by decide +kernel, by decide⟩
abbrev mX12_isBlank : pv_M := (RX12, "isBlank", cX12_isBlank, 2, some .boolean)
theorem YX12_isBlank : pv_y yX12_isBlank mX12_isBlank 1 := ⟨wd1392, wd137, by decide +kernel, by decide⟩
abbrev mX12_isDeed : pv_M := (RX12, "isDeed", cX12_isDeed, 2, some .boolean)
theorem YX12_isDeed : pv_y yX12_isDeed mX12_isDeed 1 := ⟨wd1561, wd137, by decide +kernel, by decide⟩
abbrev mX12_law : pv_M := (RX12, "law", cX12_law, 4, some .int)
theorem YX12_law : pv_y yX12_law mX12_law 1 := ⟨wd1412, wd137, by decide +kernel, by decide⟩
abbrev mX12_left : pv_M := (RX12, "left", cX12_left, 5, some .int)
theorem YX12_left : pv_y yX12_left mX12_left 3 := ⟨wd1388, wd137, by decide +kernel, by decide⟩
abbrev mX12_may : pv_M := (RX12, "may", cX12_may, 5, some .int)
theorem YX12_may : pv_y yX12_may mX12_may 4 := ⟨wd1495, wd137, by decide +kernel, by decide⟩
abbrev mX12_seed : pv_M := (RX12, "seed", cX12_seed, 2, some .boolean)
theorem YX12_seed : pv_y yX12_seed mX12_seed 1 := ⟨wd1776, wd137, by decide +kernel, by decide⟩
abbrev mX12_shortest : pv_M := (RX12, "shortest", cX12_shortest, 7, some .int)
theorem YX12_shortest : pv_y yX12_shortest mX12_shortest 2 := ⟨wd1659, wd137, by decide +kernel, by decide⟩
abbrev mX12_shortestMany : pv_M := (RX12, "shortestMany", cX12_shortestMany, 2, some .long)
theorem YX12_shortestMany : pv_y yX12_shortestMany mX12_shortestMany 1 := ⟨wd1686, wd137, by decide +kernel, by decide⟩
abbrev mX12_spare : pv_M := (RX12, "spare", cX12_spare, 6, some .long)
theorem YX12_spare : pv_y yX12_spare mX12_spare 2 := ⟨wd1703, wd137, by decide +kernel, by decide⟩
abbrev mX12_spreads : pv_M := (RX12, "spreads", cX12_spreads, 5, some .boolean)
theorem YX12_spreads : pv_y yX12_spreads mX12_spreads 3 := ⟨wd1625, wd137, by decide +kernel, by decide⟩
abbrev mX12_strike : pv_M := (RX12, "strike", cX12_strike, 7, some .int)
theorem YX12_strike : pv_y yX12_strike mX12_strike 4 := ⟨wd1529, wd137, by decide +kernel, by decide⟩
abbrev mX12_strokes : pv_M := (RX12, "strokes", cX12_strokes, 5, some .int)
theorem YX12_strokes : pv_y yX12_strokes mX12_strokes 3 := ⟨wd1606, wd137, by decide +kernel, by decide⟩
abbrev mX12_types : pv_M := (RX12, "types", cX12_types, 3, none)
theorem YX12_types : pv_y yX12_types mX12_types 1 := ⟨wd1408, wd137, by decide +kernel, by decide⟩
abbrev mX12_ways : pv_M := (RX12, "ways", cX12_ways, 5, some .long)
theorem YX12_ways : pv_y yX12_ways mX12_ways 2 := ⟨wd1553, wd137, by decide +kernel, by decide⟩
abbrev mX12_worth : pv_M := (RX12, "worth", cX12_worth, 6, some .int)
theorem YX12_worth : pv_y yX12_worth mX12_worth 3 := ⟨wd1744, wd137, by decide +kernel, by decide⟩
abbrev mJ6_bitCount_0f7a4 : pv_M := (RJ6, "bitCount", cJ6_bitCount_0f7a4, 1, some .int)
theorem YJ6_bitCount_0f7a4 : pv_y yJ6_bitCount_0f7a4 mJ6_bitCount_0f7a4 1 := ⟨wd915, wd145, by decide +kernel, by decide⟩
theorem Wmmax : Cond.static Lib.Math.max.name ∈ pv_T ∧ Cond.initialized "java/lang/Math" ∈ pv_T ∧ Cond.code Lib.Math.max.name Lib.Math.max.code 2 (some .int) ∈ pv_T := ⟨wd185, wd129, wd186⟩
theorem dJ6_bitCount_0f7a4_0 : decode cJ6_bitCount_0f7a4 0 = .ok (.iload_n 0, 1) := by decide +kernel
theorem dJ6_bitCount_0f7a4_1 : decode cJ6_bitCount_0f7a4 1 = .ok (.iload_n 0, 1) := by decide +kernel
theorem dJ6_bitCount_0f7a4_2 : decode cJ6_bitCount_0f7a4 2 = .ok (.iconst 1, 1) := by decide +kernel
theorem dJ6_bitCount_0f7a4_3 : decode cJ6_bitCount_0f7a4 3 = .ok (.iushr, 1) := by decide +kernel
theorem dJ6_bitCount_0f7a4_4 : decode cJ6_bitCount_0f7a4 4 = .ok (.ldc_w 265, 3) := by decide +kernel
theorem dJ6_bitCount_0f7a4_7 : decode cJ6_bitCount_0f7a4 7 = .ok (.iand, 1) := by decide +kernel
theorem dJ6_bitCount_0f7a4_8 : decode cJ6_bitCount_0f7a4 8 = .ok (.isub, 1) := by decide +kernel
theorem dJ6_bitCount_0f7a4_9 : decode cJ6_bitCount_0f7a4 9 = .ok (.istore_n 0, 1) := by decide +kernel
theorem dJ6_bitCount_0f7a4_10 : decode cJ6_bitCount_0f7a4 10 = .ok (.iload_n 0, 1) := by decide +kernel
theorem dJ6_bitCount_0f7a4_11 : decode cJ6_bitCount_0f7a4 11 = .ok (.ldc_w 266, 3) := by decide +kernel
theorem dJ6_bitCount_0f7a4_14 : decode cJ6_bitCount_0f7a4 14 = .ok (.iand, 1) := by decide +kernel
theorem dJ6_bitCount_0f7a4_15 : decode cJ6_bitCount_0f7a4 15 = .ok (.iload_n 0, 1) := by decide +kernel
theorem dJ6_bitCount_0f7a4_16 : decode cJ6_bitCount_0f7a4 16 = .ok (.iconst 2, 1) := by decide +kernel
theorem dJ6_bitCount_0f7a4_17 : decode cJ6_bitCount_0f7a4 17 = .ok (.iushr, 1) := by decide +kernel
theorem dJ6_bitCount_0f7a4_18 : decode cJ6_bitCount_0f7a4 18 = .ok (.ldc_w 266, 3) := by decide +kernel
theorem dJ6_bitCount_0f7a4_21 : decode cJ6_bitCount_0f7a4 21 = .ok (.iand, 1) := by decide +kernel
theorem dJ6_bitCount_0f7a4_22 : decode cJ6_bitCount_0f7a4 22 = .ok (.iadd, 1) := by decide +kernel
theorem dJ6_bitCount_0f7a4_23 : decode cJ6_bitCount_0f7a4 23 = .ok (.istore_n 0, 1) := by decide +kernel
theorem dJ6_bitCount_0f7a4_24 : decode cJ6_bitCount_0f7a4 24 = .ok (.iload_n 0, 1) := by decide +kernel
theorem dJ6_bitCount_0f7a4_25 : decode cJ6_bitCount_0f7a4 25 = .ok (.iload_n 0, 1) := by decide +kernel
theorem dJ6_bitCount_0f7a4_26 : decode cJ6_bitCount_0f7a4 26 = .ok (.iconst 4, 1) := by decide +kernel
theorem dJ6_bitCount_0f7a4_27 : decode cJ6_bitCount_0f7a4 27 = .ok (.iushr, 1) := by decide +kernel
theorem dJ6_bitCount_0f7a4_28 : decode cJ6_bitCount_0f7a4 28 = .ok (.iadd, 1) := by decide +kernel
theorem dJ6_bitCount_0f7a4_29 : decode cJ6_bitCount_0f7a4 29 = .ok (.ldc_w 267, 3) := by decide +kernel
theorem dJ6_bitCount_0f7a4_32 : decode cJ6_bitCount_0f7a4 32 = .ok (.iand, 1) := by decide +kernel
theorem dJ6_bitCount_0f7a4_33 : decode cJ6_bitCount_0f7a4 33 = .ok (.istore_n 0, 1) := by decide +kernel
theorem dJ6_bitCount_0f7a4_34 : decode cJ6_bitCount_0f7a4 34 = .ok (.iload_n 0, 1) := by decide +kernel
theorem dJ6_bitCount_0f7a4_35 : decode cJ6_bitCount_0f7a4 35 = .ok (.iload_n 0, 1) := by decide +kernel
theorem dJ6_bitCount_0f7a4_36 : decode cJ6_bitCount_0f7a4 36 = .ok (.bipush 8, 2) := by decide +kernel
theorem dJ6_bitCount_0f7a4_38 : decode cJ6_bitCount_0f7a4 38 = .ok (.iushr, 1) := by decide +kernel
theorem dJ6_bitCount_0f7a4_39 : decode cJ6_bitCount_0f7a4 39 = .ok (.iadd, 1) := by decide +kernel
theorem dJ6_bitCount_0f7a4_40 : decode cJ6_bitCount_0f7a4 40 = .ok (.istore_n 0, 1) := by decide +kernel
theorem dJ6_bitCount_0f7a4_41 : decode cJ6_bitCount_0f7a4 41 = .ok (.iload_n 0, 1) := by decide +kernel
theorem dJ6_bitCount_0f7a4_42 : decode cJ6_bitCount_0f7a4 42 = .ok (.iload_n 0, 1) := by decide +kernel
theorem dJ6_bitCount_0f7a4_43 : decode cJ6_bitCount_0f7a4 43 = .ok (.bipush 16, 2) := by decide +kernel
theorem dJ6_bitCount_0f7a4_45 : decode cJ6_bitCount_0f7a4 45 = .ok (.iushr, 1) := by decide +kernel
theorem dJ6_bitCount_0f7a4_46 : decode cJ6_bitCount_0f7a4 46 = .ok (.iadd, 1) := by decide +kernel
theorem dJ6_bitCount_0f7a4_47 : decode cJ6_bitCount_0f7a4 47 = .ok (.istore_n 0, 1) := by decide +kernel
theorem dJ6_bitCount_0f7a4_48 : decode cJ6_bitCount_0f7a4 48 = .ok (.iload_n 0, 1) := by decide +kernel
theorem dJ6_bitCount_0f7a4_49 : decode cJ6_bitCount_0f7a4 49 = .ok (.bipush 63, 2) := by decide +kernel
theorem dJ6_bitCount_0f7a4_51 : decode cJ6_bitCount_0f7a4 51 = .ok (.iand, 1) := by decide +kernel
theorem dJ6_bitCount_0f7a4_52 : decode cJ6_bitCount_0f7a4 52 = .ok (.ireturn, 1) := by decide +kernel
theorem dX0_init_0 : decode cX0_init 0 = .ok (.aload_n 0, 1) := by decide +kernel
theorem dX0_init_1 : decode cX0_init 1 = .ok (.invokespecial 3, 3) := by decide +kernel
theorem dX0_init_4 : decode cX0_init 4 = .ok (.aload_n 0, 1) := by decide +kernel
theorem dX0_init_5 : decode cX0_init 5 = .ok (.new 9, 3) := by decide +kernel
theorem dX0_init_8 : decode cX0_init 8 = .ok (.dup, 1) := by decide +kernel
theorem dX0_init_9 : decode cX0_init 9 = .ok (.bipush 40, 2) := by decide +kernel
theorem dX0_init_11 : decode cX0_init 11 = .ok (.invokespecial 11, 3) := by decide +kernel
theorem dX0_init_14 : decode cX0_init 14 = .ok (.putfield 14, 3) := by decide +kernel
theorem dX0_init_17 : decode cX0_init 17 = .ok (.aload_n 0, 1) := by decide +kernel
theorem dX0_init_18 : decode cX0_init 18 = .ok (.new 9, 3) := by decide +kernel
theorem dX0_init_21 : decode cX0_init 21 = .ok (.dup, 1) := by decide +kernel
theorem dX0_init_22 : decode cX0_init 22 = .ok (.bipush 40, 2) := by decide +kernel
theorem dX0_init_24 : decode cX0_init 24 = .ok (.invokespecial 11, 3) := by decide +kernel
theorem dX0_init_27 : decode cX0_init 27 = .ok (.putfield 20, 3) := by decide +kernel
theorem dX0_init_30 : decode cX0_init 30 = .ok (.aload_n 0, 1) := by decide +kernel
theorem dX0_init_31 : decode cX0_init 31 = .ok (.bipush 40, 2) := by decide +kernel
theorem dX0_init_33 : decode cX0_init 33 = .ok (.newarray .int, 2) := by decide +kernel
theorem dX0_init_35 : decode cX0_init 35 = .ok (.putfield 23, 3) := by decide +kernel
theorem dX0_init_38 : decode cX0_init 38 = .ok (.aload_n 0, 1) := by decide +kernel
theorem dX0_init_39 : decode cX0_init 39 = .ok (.bipush 40, 2) := by decide +kernel
theorem dX0_init_41 : decode cX0_init 41 = .ok (.newarray .boolean, 2) := by decide +kernel
theorem dX0_init_43 : decode cX0_init 43 = .ok (.putfield 27, 3) := by decide +kernel
theorem dX0_init_46 : decode cX0_init 46 = .ok (.return_, 1) := by decide +kernel
theorem dX10_hasRoom_0 : decode cX10_hasRoom 0 = .ok (.aload_n 0, 1) := by decide +kernel
theorem dX10_hasRoom_1 : decode cX10_hasRoom 1 = .ok (.getfield 15, 3) := by decide +kernel
theorem dX10_hasRoom_4 : decode cX10_hasRoom 4 = .ok (.iload_n 1, 1) := by decide +kernel
theorem dX10_hasRoom_5 : decode cX10_hasRoom 5 = .ok (.iadd, 1) := by decide +kernel
theorem dX10_hasRoom_6 : decode cX10_hasRoom 6 = .ok (.sipush 200, 3) := by decide +kernel
theorem dX10_hasRoom_9 : decode cX10_hasRoom 9 = .ok (.if_icmp .gt 7, 3) := by decide +kernel
theorem dX10_hasRoom_12 : decode cX10_hasRoom 12 = .ok (.iconst 1, 1) := by decide +kernel
theorem dX10_hasRoom_13 : decode cX10_hasRoom 13 = .ok (.goto 4, 3) := by decide +kernel
theorem dX10_hasRoom_17 : decode cX10_hasRoom 17 = .ok (.ireturn, 1) := by decide +kernel
theorem dX10_init_0 : decode cX10_init 0 = .ok (.aload_n 0, 1) := by decide +kernel
theorem dX10_init_1 : decode cX10_init 1 = .ok (.invokespecial 3, 3) := by decide +kernel
theorem dX10_init_4 : decode cX10_init 4 = .ok (.aload_n 0, 1) := by decide +kernel
theorem dX10_init_5 : decode cX10_init 5 = .ok (.sipush 200, 3) := by decide +kernel
theorem dX10_init_8 : decode cX10_init 8 = .ok (.newarray .int, 2) := by decide +kernel
theorem dX10_init_10 : decode cX10_init 10 = .ok (.putfield 9, 3) := by decide +kernel
theorem dX10_init_13 : decode cX10_init 13 = .ok (.aload_n 0, 1) := by decide +kernel
theorem dX10_init_14 : decode cX10_init 14 = .ok (.iconst 0, 1) := by decide +kernel
theorem dX10_init_15 : decode cX10_init 15 = .ok (.putfield 15, 3) := by decide +kernel
theorem dX10_init_18 : decode cX10_init 18 = .ok (.return_, 1) := by decide +kernel
theorem dX10_put_0 : decode cX10_put 0 = .ok (.bipush 24, 2) := by decide +kernel
theorem dX10_put_2 : decode cX10_put 2 = .ok (.istore_n 2, 1) := by decide +kernel
theorem dX10_put_3 : decode cX10_put 3 = .ok (.iload_n 2, 1) := by decide +kernel
theorem dX10_put_4 : decode cX10_put 4 = .ok (.ifCond .lt 45, 3) := by decide +kernel
theorem dX10_put_7 : decode cX10_put 7 = .ok (.aload_n 0, 1) := by decide +kernel
theorem dX10_put_8 : decode cX10_put 8 = .ok (.getfield 15, 3) := by decide +kernel
theorem dX10_put_11 : decode cX10_put 11 = .ok (.sipush 200, 3) := by decide +kernel
theorem dX10_put_14 : decode cX10_put 14 = .ok (.if_icmp .ge 35, 3) := by decide +kernel
theorem dX10_put_17 : decode cX10_put 17 = .ok (.aload_n 0, 1) := by decide +kernel
theorem dX10_put_18 : decode cX10_put 18 = .ok (.getfield 9, 3) := by decide +kernel
theorem dX10_put_21 : decode cX10_put 21 = .ok (.aload_n 0, 1) := by decide +kernel
theorem dX10_put_22 : decode cX10_put 22 = .ok (.getfield 15, 3) := by decide +kernel
theorem dX10_put_25 : decode cX10_put 25 = .ok (.iload_n 1, 1) := by decide +kernel
theorem dX10_put_26 : decode cX10_put 26 = .ok (.iload_n 2, 1) := by decide +kernel
theorem dX10_put_27 : decode cX10_put 27 = .ok (.iushr, 1) := by decide +kernel
theorem dX10_put_28 : decode cX10_put 28 = .ok (.sipush 255, 3) := by decide +kernel
theorem dX10_put_31 : decode cX10_put 31 = .ok (.iand, 1) := by decide +kernel
theorem dX10_put_32 : decode cX10_put 32 = .ok (.iastore, 1) := by decide +kernel
theorem dX10_put_33 : decode cX10_put 33 = .ok (.aload_n 0, 1) := by decide +kernel
theorem dX10_put_34 : decode cX10_put 34 = .ok (.dup, 1) := by decide +kernel
theorem dX10_put_35 : decode cX10_put 35 = .ok (.getfield 15, 3) := by decide +kernel
theorem dX10_put_38 : decode cX10_put 38 = .ok (.iconst 1, 1) := by decide +kernel
theorem dX10_put_39 : decode cX10_put 39 = .ok (.iadd, 1) := by decide +kernel
theorem dX10_put_40 : decode cX10_put 40 = .ok (.putfield 15, 3) := by decide +kernel
theorem dX10_put_43 : decode cX10_put 43 = .ok (.iinc 2 (-8), 3) := by decide +kernel
theorem dX10_put_46 : decode cX10_put 46 = .ok (.goto (-43), 3) := by decide +kernel
theorem dX10_put_49 : decode cX10_put 49 = .ok (.return_, 1) := by decide +kernel
theorem dX11_areDeeds_0 : decode cX11_areDeeds 0 = .ok (.iload_n 1, 1) := by decide +kernel
theorem dX11_areDeeds_1 : decode cX11_areDeeds 1 = .ok (.aload_n 0, 1) := by decide +kernel
theorem dX11_areDeeds_2 : decode cX11_areDeeds 2 = .ok (.invokevirtual 316, 3) := by decide +kernel
theorem dX11_areDeeds_5 : decode cX11_areDeeds 5 = .ok (.iconst (-1), 1) := by decide +kernel
theorem dX11_areDeeds_6 : decode cX11_areDeeds 6 = .ok (.ixor, 1) := by decide +kernel
theorem dX11_areDeeds_7 : decode cX11_areDeeds 7 = .ok (.iand, 1) := by decide +kernel
theorem dX11_areDeeds_8 : decode cX11_areDeeds 8 = .ok (.ifCond .ne 7, 3) := by decide +kernel
theorem dX11_areDeeds_11 : decode cX11_areDeeds 11 = .ok (.iconst 1, 1) := by decide +kernel
theorem dX11_areDeeds_12 : decode cX11_areDeeds 12 = .ok (.goto 4, 3) := by decide +kernel
theorem dX11_areDeeds_15 : decode cX11_areDeeds 15 = .ok (.iconst 0, 1) := by decide +kernel
theorem dX11_areDeeds_16 : decode cX11_areDeeds 16 = .ok (.ireturn, 1) := by decide +kernel
theorem dX11_back_0 : decode cX11_back 0 = .ok (.aload_n 0, 1) := by decide +kernel
theorem dX11_back_1 : decode cX11_back 1 = .ok (.getfield 53, 3) := by decide +kernel
theorem dX11_back_4 : decode cX11_back 4 = .ok (.iload_n 1, 1) := by decide +kernel
theorem dX11_back_5 : decode cX11_back 5 = .ok (.invokevirtual 177, 3) := by decide +kernel
theorem dX11_back_8 : decode cX11_back 8 = .ok (.istore_n 2, 1) := by decide +kernel
theorem dX11_back_9 : decode cX11_back 9 = .ok (.aload_n 0, 1) := by decide +kernel
theorem dX11_back_10 : decode cX11_back 10 = .ok (.iload_n 1, 1) := by decide +kernel
theorem dX11_back_11 : decode cX11_back 11 = .ok (.invokevirtual 180, 3) := by decide +kernel
theorem dX11_back_14 : decode cX11_back 14 = .ok (.ifCond .eq 8, 3) := by decide +kernel
theorem dX11_back_22 : decode cX11_back 22 = .ok (.iconst (-1), 1) := by decide +kernel
theorem dX11_back_23 : decode cX11_back 23 = .ok (.ireturn, 1) := by decide +kernel
theorem dX11_blank_0 : decode cX11_blank 0 = .ok (.iload_n 1, 1) := by decide +kernel
theorem dX11_blank_1 : decode cX11_blank 1 = .ok (.iconst 1, 1) := by decide +kernel
theorem dX11_blank_2 : decode cX11_blank 2 = .ok (.if_icmp .lt 29, 3) := by decide +kernel
theorem dX11_blank_5 : decode cX11_blank 5 = .ok (.iload_n 1, 1) := by decide +kernel
theorem dX11_blank_6 : decode cX11_blank 6 = .ok (.bipush 40, 2) := by decide +kernel
theorem dX11_blank_8 : decode cX11_blank 8 = .ok (.if_icmp .gt 23, 3) := by decide +kernel
theorem dX11_blank_11 : decode cX11_blank 11 = .ok (.aload_n 0, 1) := by decide +kernel
theorem dX11_blank_12 : decode cX11_blank 12 = .ok (.getfield 23, 3) := by decide +kernel
theorem dX11_blank_15 : decode cX11_blank 15 = .ok (.bipush 8, 2) := by decide +kernel
theorem dX11_blank_17 : decode cX11_blank 17 = .ok (.if_icmp .ge 14, 3) := by decide +kernel
theorem dX11_blank_20 : decode cX11_blank 20 = .ok (.iload_n 1, 1) := by decide +kernel
theorem dX11_blank_21 : decode cX11_blank 21 = .ok (.aload_n 0, 1) := by decide +kernel
theorem dX11_blank_22 : decode cX11_blank 22 = .ok (.getfield 10, 3) := by decide +kernel
theorem dX11_blank_25 : decode cX11_blank 25 = .ok (.getfield 112, 3) := by decide +kernel
theorem dX11_blank_28 : decode cX11_blank 28 = .ok (.if_icmp .le 5, 3) := by decide +kernel
theorem dX11_blank_31 : decode cX11_blank 31 = .ok (.iconst (-1), 1) := by decide +kernel
theorem dX11_blank_32 : decode cX11_blank 32 = .ok (.ireturn, 1) := by decide +kernel
theorem dX11_book_0 : decode cX11_book 0 = .ok (.aload_n 0, 1) := by decide +kernel
theorem dX11_book_1 : decode cX11_book 1 = .ok (.getfield 53, 3) := by decide +kernel
theorem dX11_book_4 : decode cX11_book 4 = .ok (.iload_n 1, 1) := by decide +kernel
theorem dX11_book_5 : decode cX11_book 5 = .ok (.iload_n 2, 1) := by decide +kernel
theorem dX11_book_6 : decode cX11_book 6 = .ok (.invokevirtual 197, 3) := by decide +kernel
theorem dX11_book_9 : decode cX11_book 9 = .ok (.ireturn, 1) := by decide +kernel
theorem dX11_bound_0 : decode cX11_bound 0 = .ok (.aload_n 0, 1) := by decide +kernel
theorem dX11_bound_1 : decode cX11_bound 1 = .ok (.iload_n 1, 1) := by decide +kernel
theorem dX11_bound_2 : decode cX11_bound 2 = .ok (.invokevirtual 252, 3) := by decide +kernel
theorem dX11_bound_5 : decode cX11_bound 5 = .ok (.istore_n 2, 1) := by decide +kernel
theorem dX11_bound_6 : decode cX11_bound 6 = .ok (.iload_n 2, 1) := by decide +kernel
theorem dX11_bound_7 : decode cX11_bound 7 = .ok (.ifCond .eq 5, 3) := by decide +kernel
theorem dX11_bound_10 : decode cX11_bound 10 = .ok (.iload_n 2, 1) := by decide +kernel
theorem dX11_bound_11 : decode cX11_bound 11 = .ok (.ireturn, 1) := by decide +kernel
theorem dX11_chain_0 : decode cX11_chain 0 = .ok (.aload_n 0, 1) := by decide +kernel
theorem dX11_chain_1 : decode cX11_chain 1 = .ok (.iload_n 1, 1) := by decide +kernel
theorem dX11_chain_2 : decode cX11_chain 2 = .ok (.invokevirtual 180, 3) := by decide +kernel
theorem dX11_chain_5 : decode cX11_chain 5 = .ok (.ifCond .eq 8, 3) := by decide +kernel
theorem dX11_chain_13 : decode cX11_chain 13 = .ok (.iconst (-1), 1) := by decide +kernel
theorem dX11_chain_14 : decode cX11_chain 14 = .ok (.ireturn, 1) := by decide +kernel
theorem dX11_cheapest_0 : decode cX11_cheapest 0 = .ok (.aload_n 0, 1) := by decide +kernel
theorem dX11_cheapest_1 : decode cX11_cheapest 1 = .ok (.iload_n 1, 1) := by decide +kernel
theorem dX11_cheapest_2 : decode cX11_cheapest 2 = .ok (.invokevirtual 180, 3) := by decide +kernel
theorem dX11_cheapest_5 : decode cX11_cheapest 5 = .ok (.ifCond .eq 18, 3) := by decide +kernel
theorem dX11_cheapest_23 : decode cX11_cheapest 23 = .ok (.iconst (-1), 1) := by decide +kernel
theorem dX11_cheapest_24 : decode cX11_cheapest 24 = .ok (.ireturn, 1) := by decide +kernel
theorem dX11_check_0 : decode cX11_check 0 = .ok (.aload_n 0, 1) := by decide +kernel
theorem dX11_check_1 : decode cX11_check 1 = .ok (.iload_n 1, 1) := by decide +kernel
theorem dX11_check_2 : decode cX11_check 2 = .ok (.invokevirtual 180, 3) := by decide +kernel
theorem dX11_check_5 : decode cX11_check 5 = .ok (.ifCond .eq 20, 3) := by decide +kernel
theorem dX11_check_25 : decode cX11_check 25 = .ok (.bipush (-2), 2) := by decide +kernel
theorem dX11_check_27 : decode cX11_check 27 = .ok (.ireturn, 1) := by decide +kernel
theorem dX11_count_0 : decode cX11_count 0 = .ok (.iload_n 1, 1) := by decide +kernel
theorem dX11_count_1 : decode cX11_count 1 = .ok (.bipush 10, 2) := by decide +kernel
theorem dX11_count_3 : decode cX11_count 3 = .ok (.if_icmp .lt 40, 3) := by decide +kernel
theorem dX11_count_6 : decode cX11_count 6 = .ok (.iload_n 1, 1) := by decide +kernel
theorem dX11_count_7 : decode cX11_count 7 = .ok (.bipush 18, 2) := by decide +kernel
theorem dX11_count_9 : decode cX11_count 9 = .ok (.if_icmp .ge 34, 3) := by decide +kernel
theorem dX11_count_12 : decode cX11_count 12 = .ok (.aload_n 0, 1) := by decide +kernel
theorem dX11_count_13 : decode cX11_count 13 = .ok (.iload_n 1, 1) := by decide +kernel
theorem dX11_count_14 : decode cX11_count 14 = .ok (.bipush 10, 2) := by decide +kernel
theorem dX11_count_16 : decode cX11_count 16 = .ok (.isub, 1) := by decide +kernel
theorem dX11_count_17 : decode cX11_count 17 = .ok (.invokevirtual 180, 3) := by decide +kernel
theorem dX11_count_20 : decode cX11_count 20 = .ok (.ifCond .eq 21, 3) := by decide +kernel
theorem dX11_count_41 : decode cX11_count 41 = .ok (.iconst (-1), 1) := by decide +kernel
theorem dX11_count_42 : decode cX11_count 42 = .ok (.ireturn, 1) := by decide +kernel
theorem dX11_count_43 : decode cX11_count 43 = .ok (.iload_n 1, 1) := by decide +kernel
theorem dX11_count_44 : decode cX11_count 44 = .ok (.bipush 20, 2) := by decide +kernel
theorem dX11_count_46 : decode cX11_count 46 = .ok (.if_icmp .lt 22, 3) := by decide +kernel
theorem dX11_count_49 : decode cX11_count 49 = .ok (.iload_n 1, 1) := by decide +kernel
theorem dX11_count_50 : decode cX11_count 50 = .ok (.bipush 28, 2) := by decide +kernel
theorem dX11_count_52 : decode cX11_count 52 = .ok (.if_icmp .ge 16, 3) := by decide +kernel
theorem dX11_count_55 : decode cX11_count 55 = .ok (.aload_n 0, 1) := by decide +kernel
theorem dX11_count_56 : decode cX11_count 56 = .ok (.getfield 29, 3) := by decide +kernel
theorem dX11_count_59 : decode cX11_count 59 = .ok (.iload_n 1, 1) := by decide +kernel
theorem dX11_count_60 : decode cX11_count 60 = .ok (.bipush 20, 2) := by decide +kernel
theorem dX11_count_62 : decode cX11_count 62 = .ok (.isub, 1) := by decide +kernel
theorem dX11_count_63 : decode cX11_count 63 = .ok (.aaload, 1) := by decide +kernel
theorem dX11_count_64 : decode cX11_count 64 = .ok (.getfield 171, 3) := by decide +kernel
theorem dX11_count_67 : decode cX11_count 67 = .ok (.ireturn, 1) := by decide +kernel
theorem dX11_count_68 : decode cX11_count 68 = .ok (.iload_n 1, 1) := by decide +kernel
theorem dX11_count_69 : decode cX11_count 69 = .ok (.tableswitch 99 0 7 #[47, 52, 57, 65, 73, 78, 86, 91], 47) := by decide +kernel
theorem dX11_count_116 : decode cX11_count 116 = .ok (.aload_n 0, 1) := by decide +kernel
theorem dX11_count_117 : decode cX11_count 117 = .ok (.getfield 23, 3) := by decide +kernel
theorem dX11_count_120 : decode cX11_count 120 = .ok (.ireturn, 1) := by decide +kernel
theorem dX11_count_121 : decode cX11_count 121 = .ok (.aload_n 0, 1) := by decide +kernel
theorem dX11_count_122 : decode cX11_count 122 = .ok (.invokevirtual 316, 3) := by decide +kernel
theorem dX11_count_125 : decode cX11_count 125 = .ok (.ireturn, 1) := by decide +kernel
theorem dX11_count_126 : decode cX11_count 126 = .ok (.aload_n 0, 1) := by decide +kernel
theorem dX11_count_127 : decode cX11_count 127 = .ok (.getfield 39, 3) := by decide +kernel
theorem dX11_count_130 : decode cX11_count 130 = .ok (.getfield 320, 3) := by decide +kernel
theorem dX11_count_133 : decode cX11_count 133 = .ok (.ireturn, 1) := by decide +kernel
theorem dX11_count_134 : decode cX11_count 134 = .ok (.aload_n 0, 1) := by decide +kernel
theorem dX11_count_135 : decode cX11_count 135 = .ok (.getfield 10, 3) := by decide +kernel
theorem dX11_count_138 : decode cX11_count 138 = .ok (.getfield 112, 3) := by decide +kernel
theorem dX11_count_141 : decode cX11_count 141 = .ok (.ireturn, 1) := by decide +kernel
theorem dX11_count_142 : decode cX11_count 142 = .ok (.aload_n 0, 1) := by decide +kernel
theorem dX11_count_143 : decode cX11_count 143 = .ok (.getfield 57, 3) := by decide +kernel
theorem dX11_count_146 : decode cX11_count 146 = .ok (.ireturn, 1) := by decide +kernel
theorem dX11_count_147 : decode cX11_count 147 = .ok (.aload_n 0, 1) := by decide +kernel
theorem dX11_count_148 : decode cX11_count 148 = .ok (.getfield 53, 3) := by decide +kernel
theorem dX11_count_151 : decode cX11_count 151 = .ok (.getfield 323, 3) := by decide +kernel
theorem dX11_count_154 : decode cX11_count 154 = .ok (.ireturn, 1) := by decide +kernel
theorem dX11_count_155 : decode cX11_count 155 = .ok (.aload_n 0, 1) := by decide +kernel
theorem dX11_count_156 : decode cX11_count 156 = .ok (.getfield 60, 3) := by decide +kernel
theorem dX11_count_159 : decode cX11_count 159 = .ok (.ireturn, 1) := by decide +kernel
theorem dX11_count_160 : decode cX11_count 160 = .ok (.aload_n 0, 1) := by decide +kernel
theorem dX11_count_161 : decode cX11_count 161 = .ok (.getfield 53, 3) := by decide +kernel
theorem dX11_count_164 : decode cX11_count 164 = .ok (.invokevirtual 324, 3) := by decide +kernel
theorem dX11_count_167 : decode cX11_count 167 = .ok (.ireturn, 1) := by decide +kernel
theorem dX11_count_168 : decode cX11_count 168 = .ok (.iconst (-1), 1) := by decide +kernel
theorem dX11_count_169 : decode cX11_count 169 = .ok (.ireturn, 1) := by decide +kernel
theorem dX11_day_0 : decode cX11_day 0 = .ok (.iload_n 1, 1) := by decide +kernel
theorem dX11_day_1 : decode cX11_day 1 = .ok (.aload_n 0, 1) := by decide +kernel
theorem dX11_day_2 : decode cX11_day 2 = .ok (.getfield 57, 3) := by decide +kernel
theorem dX11_day_5 : decode cX11_day 5 = .ok (.if_icmp .lt 10, 3) := by decide +kernel
theorem dX11_day_8 : decode cX11_day 8 = .ok (.iload_n 1, 1) := by decide +kernel
theorem dX11_day_9 : decode cX11_day 9 = .ok (.sipush 1000, 3) := by decide +kernel
theorem dX11_day_12 : decode cX11_day 12 = .ok (.if_icmp .lt 5, 3) := by decide +kernel
theorem dX11_day_15 : decode cX11_day 15 = .ok (.iconst 0, 1) := by decide +kernel
theorem dX11_day_16 : decode cX11_day 16 = .ok (.ireturn, 1) := by decide +kernel
theorem dX11_day_17 : decode cX11_day 17 = .ok (.aload_n 0, 1) := by decide +kernel
theorem dX11_day_18 : decode cX11_day 18 = .ok (.iload_n 1, 1) := by decide +kernel
theorem dX11_day_19 : decode cX11_day 19 = .ok (.putfield 57, 3) := by decide +kernel
theorem dX11_day_22 : decode cX11_day 22 = .ok (.iconst 1, 1) := by decide +kernel
theorem dX11_day_23 : decode cX11_day 23 = .ok (.ireturn, 1) := by decide +kernel
theorem dX11_dayEnd_0 : decode cX11_dayEnd 0 = .ok (.aload_n 0, 1) := by decide +kernel
theorem dX11_dayEnd_1 : decode cX11_dayEnd 1 = .ok (.iload_n 1, 1) := by decide +kernel
theorem dX11_dayEnd_2 : decode cX11_dayEnd 2 = .ok (.invokevirtual 235, 3) := by decide +kernel
theorem dX11_dayEnd_5 : decode cX11_dayEnd 5 = .ok (.ifCond .eq 7, 3) := by decide +kernel
theorem dX11_dayEnd_8 : decode cX11_dayEnd 8 = .ok (.iload_n 1, 1) := by decide +kernel
theorem dX11_dayEnd_9 : decode cX11_dayEnd 9 = .ok (.ifCond .ne 5, 3) := by decide +kernel
theorem dX11_dayEnd_12 : decode cX11_dayEnd 12 = .ok (.iconst (-1), 1) := by decide +kernel
theorem dX11_dayEnd_13 : decode cX11_dayEnd 13 = .ok (.ireturn, 1) := by decide +kernel
theorem dX11_deed_0 : decode cX11_deed 0 = .ok (.iload_n 1, 1) := by decide +kernel
theorem dX11_deed_1 : decode cX11_deed 1 = .ok (.ifCond .lt 31, 3) := by decide +kernel
theorem dX11_deed_4 : decode cX11_deed 4 = .ok (.iload_n 1, 1) := by decide +kernel
theorem dX11_deed_5 : decode cX11_deed 5 = .ok (.bipush 8, 2) := by decide +kernel
theorem dX11_deed_7 : decode cX11_deed 7 = .ok (.if_icmp .ge 25, 3) := by decide +kernel
theorem dX11_deed_10 : decode cX11_deed 10 = .ok (.iload_n 2, 1) := by decide +kernel
theorem dX11_deed_11 : decode cX11_deed 11 = .ok (.iconst 1, 1) := by decide +kernel
theorem dX11_deed_12 : decode cX11_deed 12 = .ok (.if_icmp .lt 20, 3) := by decide +kernel
theorem dX11_deed_15 : decode cX11_deed 15 = .ok (.iload_n 2, 1) := by decide +kernel
theorem dX11_deed_16 : decode cX11_deed 16 = .ok (.bipush 16, 2) := by decide +kernel
theorem dX11_deed_18 : decode cX11_deed 18 = .ok (.if_icmp .gt 14, 3) := by decide +kernel
theorem dX11_deed_21 : decode cX11_deed 21 = .ok (.iload_n 2, 1) := by decide +kernel
theorem dX11_deed_22 : decode cX11_deed 22 = .ok (.aload_n 0, 1) := by decide +kernel
theorem dX11_deed_23 : decode cX11_deed 23 = .ok (.getfield 10, 3) := by decide +kernel
theorem dX11_deed_26 : decode cX11_deed 26 = .ok (.getfield 112, 3) := by decide +kernel
theorem dX11_deed_29 : decode cX11_deed 29 = .ok (.if_icmp .le 5, 3) := by decide +kernel
theorem dX11_deed_32 : decode cX11_deed 32 = .ok (.iconst (-1), 1) := by decide +kernel
theorem dX11_deed_33 : decode cX11_deed 33 = .ok (.ireturn, 1) := by decide +kernel
theorem dX11_done_0 : decode cX11_done 0 = .ok (.aload_n 0, 1) := by decide +kernel
theorem dX11_done_1 : decode cX11_done 1 = .ok (.iload_n 1, 1) := by decide +kernel
theorem dX11_done_2 : decode cX11_done 2 = .ok (.invokevirtual 180, 3) := by decide +kernel
theorem dX11_done_5 : decode cX11_done 5 = .ok (.ifCond .eq 18, 3) := by decide +kernel
theorem dX11_done_23 : decode cX11_done 23 = .ok (.iconst (-1), 1) := by decide +kernel
theorem dX11_done_24 : decode cX11_done 24 = .ok (.ireturn, 1) := by decide +kernel
theorem dX11_draw_0 : decode cX11_draw 0 = .ok (.aload_n 0, 1) := by decide +kernel
theorem dX11_draw_1 : decode cX11_draw 1 = .ok (.iload_n 1, 1) := by decide +kernel
theorem dX11_draw_2 : decode cX11_draw 2 = .ok (.invokevirtual 180, 3) := by decide +kernel
theorem dX11_draw_5 : decode cX11_draw 5 = .ok (.ifCond .eq 14, 3) := by decide +kernel
theorem dX11_draw_19 : decode cX11_draw 19 = .ok (.iconst (-1), 1) := by decide +kernel
theorem dX11_draw_20 : decode cX11_draw 20 = .ok (.ireturn, 1) := by decide +kernel
theorem dX11_even_0 : decode cX11_even 0 = .ok (.aload_n 0, 1) := by decide +kernel
theorem dX11_even_1 : decode cX11_even 1 = .ok (.iload_n 1, 1) := by decide +kernel
theorem dX11_even_2 : decode cX11_even 2 = .ok (.invokevirtual 180, 3) := by decide +kernel
theorem dX11_even_5 : decode cX11_even 5 = .ok (.ifCond .eq 18, 3) := by decide +kernel
theorem dX11_even_23 : decode cX11_even 23 = .ok (.ldc2_w 203, 3) := by decide +kernel
theorem dX11_even_26 : decode cX11_even 26 = .ok (.lreturn, 1) := by decide +kernel
theorem dX11_family_0 : decode cX11_family 0 = .ok (.aload_n 0, 1) := by decide +kernel
theorem dX11_family_1 : decode cX11_family 1 = .ok (.iload_n 1, 1) := by decide +kernel
theorem dX11_family_2 : decode cX11_family 2 = .ok (.invokevirtual 180, 3) := by decide +kernel
theorem dX11_family_5 : decode cX11_family 5 = .ok (.ifCond .eq 18, 3) := by decide +kernel
theorem dX11_family_23 : decode cX11_family 23 = .ok (.iconst (-1), 1) := by decide +kernel
theorem dX11_family_24 : decode cX11_family 24 = .ok (.ireturn, 1) := by decide +kernel
theorem dX11_feed_0 : decode cX11_feed 0 = .ok (.aload_n 0, 1) := by decide +kernel
theorem dX11_feed_1 : decode cX11_feed 1 = .ok (.getfield 10, 3) := by decide +kernel
theorem dX11_feed_4 : decode cX11_feed 4 = .ok (.bipush 20, 2) := by decide +kernel
theorem dX11_feed_6 : decode cX11_feed 6 = .ok (.invokevirtual 105, 3) := by decide +kernel
theorem dX11_feed_9 : decode cX11_feed 9 = .ok (.ifCond .ne 5, 3) := by decide +kernel
theorem dX11_feed_14 : decode cX11_feed 14 = .ok (.aload_n 0, 1) := by decide +kernel
theorem dX11_feed_15 : decode cX11_feed 15 = .ok (.getfield 10, 3) := by decide +kernel
theorem dX11_feed_18 : decode cX11_feed 18 = .ok (.iload_n 1, 1) := by decide +kernel
theorem dX11_feed_19 : decode cX11_feed 19 = .ok (.invokevirtual 109, 3) := by decide +kernel
theorem dX11_feed_22 : decode cX11_feed 22 = .ok (.aload_n 0, 1) := by decide +kernel
theorem dX11_feed_23 : decode cX11_feed 23 = .ok (.getfield 10, 3) := by decide +kernel
theorem dX11_feed_26 : decode cX11_feed 26 = .ok (.iload_n 2, 1) := by decide +kernel
theorem dX11_feed_27 : decode cX11_feed 27 = .ok (.invokevirtual 109, 3) := by decide +kernel
theorem dX11_feed_30 : decode cX11_feed 30 = .ok (.aload_n 0, 1) := by decide +kernel
theorem dX11_feed_31 : decode cX11_feed 31 = .ok (.getfield 10, 3) := by decide +kernel
theorem dX11_feed_34 : decode cX11_feed 34 = .ok (.iload_n 3, 1) := by decide +kernel
theorem dX11_feed_35 : decode cX11_feed 35 = .ok (.invokevirtual 109, 3) := by decide +kernel
theorem dX11_feed_38 : decode cX11_feed 38 = .ok (.aload_n 0, 1) := by decide +kernel
theorem dX11_feed_39 : decode cX11_feed 39 = .ok (.getfield 10, 3) := by decide +kernel
theorem dX11_feed_42 : decode cX11_feed 42 = .ok (.iload 4, 2) := by decide +kernel
theorem dX11_feed_44 : decode cX11_feed 44 = .ok (.invokevirtual 109, 3) := by decide +kernel
theorem dX11_feed_47 : decode cX11_feed 47 = .ok (.aload_n 0, 1) := by decide +kernel
theorem dX11_feed_48 : decode cX11_feed 48 = .ok (.getfield 10, 3) := by decide +kernel
theorem dX11_feed_51 : decode cX11_feed 51 = .ok (.iload 5, 2) := by decide +kernel
theorem dX11_feed_53 : decode cX11_feed 53 = .ok (.invokevirtual 109, 3) := by decide +kernel
theorem dX11_feed_56 : decode cX11_feed 56 = .ok (.aload_n 0, 1) := by decide +kernel
theorem dX11_feed_57 : decode cX11_feed 57 = .ok (.getfield 10, 3) := by decide +kernel
theorem dX11_feed_60 : decode cX11_feed 60 = .ok (.getfield 112, 3) := by decide +kernel
theorem dX11_feed_63 : decode cX11_feed 63 = .ok (.ireturn, 1) := by decide +kernel
theorem dX11_forged_0 : decode cX11_forged 0 = .ok (.aload_n 0, 1) := by decide +kernel
theorem dX11_forged_1 : decode cX11_forged 1 = .ok (.iload_n 1, 1) := by decide +kernel
theorem dX11_forged_2 : decode cX11_forged 2 = .ok (.invokevirtual 200, 3) := by decide +kernel
theorem dX11_forged_5 : decode cX11_forged 5 = .ok (.ifCond .ne 5, 3) := by decide +kernel
theorem dX11_forged_8 : decode cX11_forged 8 = .ok (.iconst (-1), 1) := by decide +kernel
theorem dX11_forged_9 : decode cX11_forged 9 = .ok (.ireturn, 1) := by decide +kernel
theorem dX11_hidden_0 : decode cX11_hidden 0 = .ok (.iload_n 1, 1) := by decide +kernel
theorem dX11_hidden_1 : decode cX11_hidden 1 = .ok (.invokestatic 230, 3) := by decide +kernel
theorem dX11_hidden_4 : decode cX11_hidden 4 = .ok (.istore_n 3, 1) := by decide +kernel
theorem dX11_hidden_5 : decode cX11_hidden 5 = .ok (.aload_n 0, 1) := by decide +kernel
theorem dX11_hidden_6 : decode cX11_hidden 6 = .ok (.iload_n 1, 1) := by decide +kernel
theorem dX11_hidden_7 : decode cX11_hidden 7 = .ok (.invokevirtual 235, 3) := by decide +kernel
theorem dX11_hidden_10 : decode cX11_hidden 10 = .ok (.ifCond .eq 18, 3) := by decide +kernel
theorem dX11_hidden_13 : decode cX11_hidden 13 = .ok (.iload_n 3, 1) := by decide +kernel
theorem dX11_hidden_14 : decode cX11_hidden 14 = .ok (.iconst 2, 1) := by decide +kernel
theorem dX11_hidden_15 : decode cX11_hidden 15 = .ok (.if_icmp .lt 13, 3) := by decide +kernel
theorem dX11_hidden_28 : decode cX11_hidden 28 = .ok (.iconst (-1), 1) := by decide +kernel
theorem dX11_hidden_29 : decode cX11_hidden 29 = .ok (.ireturn, 1) := by decide +kernel
theorem dX11_init_0 : decode cX11_init 0 = .ok (.aload_n 0, 1) := by decide +kernel
theorem dX11_init_1 : decode cX11_init 1 = .ok (.invokespecial 1, 3) := by decide +kernel
theorem dX11_init_4 : decode cX11_init 4 = .ok (.aload_n 0, 1) := by decide +kernel
theorem dX11_init_5 : decode cX11_init 5 = .ok (.new 7, 3) := by decide +kernel
theorem dX11_init_8 : decode cX11_init 8 = .ok (.dup, 1) := by decide +kernel
theorem dX11_init_9 : decode cX11_init 9 = .ok (.invokespecial 9, 3) := by decide +kernel
theorem dX11_init_12 : decode cX11_init 12 = .ok (.putfield 10, 3) := by decide +kernel
theorem dX11_init_15 : decode cX11_init 15 = .ok (.aload_n 0, 1) := by decide +kernel
theorem dX11_init_16 : decode cX11_init 16 = .ok (.bipush 8, 2) := by decide +kernel
theorem dX11_init_18 : decode cX11_init 18 = .ok (.anewarray 16, 3) := by decide +kernel
theorem dX11_init_21 : decode cX11_init 21 = .ok (.putfield 18, 3) := by decide +kernel
theorem dX11_init_24 : decode cX11_init 24 = .ok (.iconst 0, 1) := by decide +kernel
theorem dX11_init_25 : decode cX11_init 25 = .ok (.istore_n 1, 1) := by decide +kernel
theorem dX11_init_26 : decode cX11_init 26 = .ok (.iload_n 1, 1) := by decide +kernel
theorem dX11_init_27 : decode cX11_init 27 = .ok (.bipush 8, 2) := by decide +kernel
theorem dX11_init_29 : decode cX11_init 29 = .ok (.if_icmp .ge 22, 3) := by decide +kernel
theorem dX11_init_32 : decode cX11_init 32 = .ok (.aload_n 0, 1) := by decide +kernel
theorem dX11_init_33 : decode cX11_init 33 = .ok (.getfield 18, 3) := by decide +kernel
theorem dX11_init_36 : decode cX11_init 36 = .ok (.iload_n 1, 1) := by decide +kernel
theorem dX11_init_37 : decode cX11_init 37 = .ok (.new 16, 3) := by decide +kernel
theorem dX11_init_40 : decode cX11_init 40 = .ok (.dup, 1) := by decide +kernel
theorem dX11_init_41 : decode cX11_init 41 = .ok (.invokespecial 22, 3) := by decide +kernel
theorem dX11_init_44 : decode cX11_init 44 = .ok (.aastore, 1) := by decide +kernel
theorem dX11_init_45 : decode cX11_init 45 = .ok (.iinc 1 1, 3) := by decide +kernel
theorem dX11_init_48 : decode cX11_init 48 = .ok (.goto (-22), 3) := by decide +kernel
theorem dX11_init_51 : decode cX11_init 51 = .ok (.aload_n 0, 1) := by decide +kernel
theorem dX11_init_52 : decode cX11_init 52 = .ok (.iconst 0, 1) := by decide +kernel
theorem dX11_init_53 : decode cX11_init 53 = .ok (.putfield 23, 3) := by decide +kernel
theorem dX11_init_56 : decode cX11_init 56 = .ok (.aload_n 0, 1) := by decide +kernel
theorem dX11_init_57 : decode cX11_init 57 = .ok (.bipush 8, 2) := by decide +kernel
theorem dX11_init_59 : decode cX11_init 59 = .ok (.anewarray 27, 3) := by decide +kernel
theorem dX11_init_62 : decode cX11_init 62 = .ok (.putfield 29, 3) := by decide +kernel
theorem dX11_init_65 : decode cX11_init 65 = .ok (.iconst 0, 1) := by decide +kernel
theorem dX11_init_66 : decode cX11_init 66 = .ok (.istore_n 1, 1) := by decide +kernel
theorem dX11_init_67 : decode cX11_init 67 = .ok (.iload_n 1, 1) := by decide +kernel
theorem dX11_init_68 : decode cX11_init 68 = .ok (.bipush 8, 2) := by decide +kernel
theorem dX11_init_70 : decode cX11_init 70 = .ok (.if_icmp .ge 24, 3) := by decide +kernel
theorem dX11_init_73 : decode cX11_init 73 = .ok (.aload_n 0, 1) := by decide +kernel
theorem dX11_init_74 : decode cX11_init 74 = .ok (.getfield 29, 3) := by decide +kernel
theorem dX11_init_77 : decode cX11_init 77 = .ok (.iload_n 1, 1) := by decide +kernel
theorem dX11_init_78 : decode cX11_init 78 = .ok (.new 27, 3) := by decide +kernel
theorem dX11_init_81 : decode cX11_init 81 = .ok (.dup, 1) := by decide +kernel
theorem dX11_init_82 : decode cX11_init 82 = .ok (.bipush 16, 2) := by decide +kernel
theorem dX11_init_84 : decode cX11_init 84 = .ok (.invokespecial 33, 3) := by decide +kernel
theorem dX11_init_87 : decode cX11_init 87 = .ok (.aastore, 1) := by decide +kernel
theorem dX11_init_88 : decode cX11_init 88 = .ok (.iinc 1 1, 3) := by decide +kernel
theorem dX11_init_91 : decode cX11_init 91 = .ok (.goto (-24), 3) := by decide +kernel
theorem dX11_init_94 : decode cX11_init 94 = .ok (.aload_n 0, 1) := by decide +kernel
theorem dX11_init_95 : decode cX11_init 95 = .ok (.new 36, 3) := by decide +kernel
theorem dX11_init_98 : decode cX11_init 98 = .ok (.dup, 1) := by decide +kernel
theorem dX11_init_99 : decode cX11_init 99 = .ok (.invokespecial 38, 3) := by decide +kernel
theorem dX11_init_102 : decode cX11_init 102 = .ok (.putfield 39, 3) := by decide +kernel
theorem dX11_init_105 : decode cX11_init 105 = .ok (.aload_n 0, 1) := by decide +kernel
theorem dX11_init_106 : decode cX11_init 106 = .ok (.new 43, 3) := by decide +kernel
theorem dX11_init_109 : decode cX11_init 109 = .ok (.dup, 1) := by decide +kernel
theorem dX11_init_110 : decode cX11_init 110 = .ok (.invokespecial 45, 3) := by decide +kernel
theorem dX11_init_113 : decode cX11_init 113 = .ok (.putfield 46, 3) := by decide +kernel
theorem dX11_init_116 : decode cX11_init 116 = .ok (.aload_n 0, 1) := by decide +kernel
theorem dX11_init_117 : decode cX11_init 117 = .ok (.new 50, 3) := by decide +kernel
theorem dX11_init_120 : decode cX11_init 120 = .ok (.dup, 1) := by decide +kernel
theorem dX11_init_121 : decode cX11_init 121 = .ok (.invokespecial 52, 3) := by decide +kernel
theorem dX11_init_124 : decode cX11_init 124 = .ok (.putfield 53, 3) := by decide +kernel
theorem dX11_init_127 : decode cX11_init 127 = .ok (.aload_n 0, 1) := by decide +kernel
theorem dX11_init_128 : decode cX11_init 128 = .ok (.iconst 0, 1) := by decide +kernel
theorem dX11_init_129 : decode cX11_init 129 = .ok (.putfield 57, 3) := by decide +kernel
theorem dX11_init_132 : decode cX11_init 132 = .ok (.aload_n 0, 1) := by decide +kernel
theorem dX11_init_133 : decode cX11_init 133 = .ok (.iconst 1, 1) := by decide +kernel
theorem dX11_init_134 : decode cX11_init 134 = .ok (.putfield 60, 3) := by decide +kernel
theorem dX11_init_137 : decode cX11_init 137 = .ok (.aload_n 0, 1) := by decide +kernel
theorem dX11_init_138 : decode cX11_init 138 = .ok (.new 63, 3) := by decide +kernel
theorem dX11_init_141 : decode cX11_init 141 = .ok (.dup, 1) := by decide +kernel
theorem dX11_init_142 : decode cX11_init 142 = .ok (.invokespecial 65, 3) := by decide +kernel
theorem dX11_init_145 : decode cX11_init 145 = .ok (.putfield 66, 3) := by decide +kernel
theorem dX11_init_148 : decode cX11_init 148 = .ok (.aload_n 0, 1) := by decide +kernel
theorem dX11_init_149 : decode cX11_init 149 = .ok (.new 70, 3) := by decide +kernel
theorem dX11_init_152 : decode cX11_init 152 = .ok (.dup, 1) := by decide +kernel
theorem dX11_init_153 : decode cX11_init 153 = .ok (.invokespecial 72, 3) := by decide +kernel
theorem dX11_init_156 : decode cX11_init 156 = .ok (.putfield 73, 3) := by decide +kernel
theorem dX11_init_159 : decode cX11_init 159 = .ok (.aload_n 0, 1) := by decide +kernel
theorem dX11_init_160 : decode cX11_init 160 = .ok (.new 77, 3) := by decide +kernel
theorem dX11_init_163 : decode cX11_init 163 = .ok (.dup, 1) := by decide +kernel
theorem dX11_init_164 : decode cX11_init 164 = .ok (.invokespecial 79, 3) := by decide +kernel
theorem dX11_init_167 : decode cX11_init 167 = .ok (.putfield 80, 3) := by decide +kernel
theorem dX11_init_170 : decode cX11_init 170 = .ok (.aload_n 0, 1) := by decide +kernel
theorem dX11_init_171 : decode cX11_init 171 = .ok (.aconst_null, 1) := by decide +kernel
theorem dX11_init_172 : decode cX11_init 172 = .ok (.putfield 84, 3) := by decide +kernel
theorem dX11_init_175 : decode cX11_init 175 = .ok (.aload_n 0, 1) := by decide +kernel
theorem dX11_init_176 : decode cX11_init 176 = .ok (.new 88, 3) := by decide +kernel
theorem dX11_init_179 : decode cX11_init 179 = .ok (.dup, 1) := by decide +kernel
theorem dX11_init_180 : decode cX11_init 180 = .ok (.invokespecial 90, 3) := by decide +kernel
theorem dX11_init_183 : decode cX11_init 183 = .ok (.putfield 91, 3) := by decide +kernel
theorem dX11_init_186 : decode cX11_init 186 = .ok (.aload_n 0, 1) := by decide +kernel
theorem dX11_init_187 : decode cX11_init 187 = .ok (.bipush 8, 2) := by decide +kernel
theorem dX11_init_189 : decode cX11_init 189 = .ok (.newarray .int, 2) := by decide +kernel
theorem dX11_init_191 : decode cX11_init 191 = .ok (.putfield 95, 3) := by decide +kernel
theorem dX11_init_194 : decode cX11_init 194 = .ok (.aload_n 0, 1) := by decide +kernel
theorem dX11_init_195 : decode cX11_init 195 = .ok (.bipush 8, 2) := by decide +kernel
theorem dX11_init_197 : decode cX11_init 197 = .ok (.newarray .int, 2) := by decide +kernel
theorem dX11_init_199 : decode cX11_init 199 = .ok (.putfield 99, 3) := by decide +kernel
theorem dX11_init_202 : decode cX11_init 202 = .ok (.aload_n 0, 1) := by decide +kernel
theorem dX11_init_203 : decode cX11_init 203 = .ok (.bipush 8, 2) := by decide +kernel
theorem dX11_init_205 : decode cX11_init 205 = .ok (.newarray .int, 2) := by decide +kernel
theorem dX11_init_207 : decode cX11_init 207 = .ok (.putfield 102, 3) := by decide +kernel
theorem dX11_init_210 : decode cX11_init 210 = .ok (.return_, 1) := by decide +kernel
theorem dX11_isBlank_0 : decode cX11_isBlank 0 = .ok (.iload_n 1, 1) := by decide +kernel
theorem dX11_isBlank_1 : decode cX11_isBlank 1 = .ok (.ifCond .lt 15, 3) := by decide +kernel
theorem dX11_isBlank_4 : decode cX11_isBlank 4 = .ok (.iload_n 1, 1) := by decide +kernel
theorem dX11_isBlank_5 : decode cX11_isBlank 5 = .ok (.aload_n 0, 1) := by decide +kernel
theorem dX11_isBlank_6 : decode cX11_isBlank 6 = .ok (.getfield 23, 3) := by decide +kernel
theorem dX11_isBlank_9 : decode cX11_isBlank 9 = .ok (.if_icmp .ge 7, 3) := by decide +kernel
theorem dX11_isBlank_16 : decode cX11_isBlank 16 = .ok (.iconst 0, 1) := by decide +kernel
theorem dX11_isBlank_17 : decode cX11_isBlank 17 = .ok (.ireturn, 1) := by decide +kernel
theorem dX11_isDeed_0 : decode cX11_isDeed 0 = .ok (.iload_n 1, 1) := by decide +kernel
theorem dX11_isDeed_1 : decode cX11_isDeed 1 = .ok (.ifCond .lt 25, 3) := by decide +kernel
theorem dX11_isDeed_4 : decode cX11_isDeed 4 = .ok (.iload_n 1, 1) := by decide +kernel
theorem dX11_isDeed_5 : decode cX11_isDeed 5 = .ok (.bipush 8, 2) := by decide +kernel
theorem dX11_isDeed_7 : decode cX11_isDeed 7 = .ok (.if_icmp .ge 19, 3) := by decide +kernel
theorem dX11_isDeed_10 : decode cX11_isDeed 10 = .ok (.aload_n 0, 1) := by decide +kernel
theorem dX11_isDeed_11 : decode cX11_isDeed 11 = .ok (.getfield 29, 3) := by decide +kernel
theorem dX11_isDeed_14 : decode cX11_isDeed 14 = .ok (.iload_n 1, 1) := by decide +kernel
theorem dX11_isDeed_15 : decode cX11_isDeed 15 = .ok (.aaload, 1) := by decide +kernel
theorem dX11_isDeed_16 : decode cX11_isDeed 16 = .ok (.getfield 171, 3) := by decide +kernel
theorem dX11_isDeed_19 : decode cX11_isDeed 19 = .ok (.ifCond .le 7, 3) := by decide +kernel
theorem dX11_isDeed_26 : decode cX11_isDeed 26 = .ok (.iconst 0, 1) := by decide +kernel
theorem dX11_isDeed_27 : decode cX11_isDeed 27 = .ok (.ireturn, 1) := by decide +kernel
theorem dX11_isPlace_0 : decode cX11_isPlace 0 = .ok (.aload_n 0, 1) := by decide +kernel
theorem dX11_isPlace_1 : decode cX11_isPlace 1 = .ok (.iload_n 1, 1) := by decide +kernel
theorem dX11_isPlace_2 : decode cX11_isPlace 2 = .ok (.invokevirtual 180, 3) := by decide +kernel
theorem dX11_isPlace_5 : decode cX11_isPlace 5 = .ok (.ifCond .eq 27, 3) := by decide +kernel
theorem dX11_isPlace_32 : decode cX11_isPlace 32 = .ok (.iconst 0, 1) := by decide +kernel
theorem dX11_isPlace_33 : decode cX11_isPlace 33 = .ok (.ireturn, 1) := by decide +kernel
theorem dX11_law_0 : decode cX11_law 0 = .ok (.iload_n 1, 1) := by decide +kernel
theorem dX11_law_1 : decode cX11_law 1 = .ok (.iconst 1, 1) := by decide +kernel
theorem dX11_law_2 : decode cX11_law 2 = .ok (.if_icmp .lt 21, 3) := by decide +kernel
theorem dX11_law_5 : decode cX11_law 5 = .ok (.iload_n 1, 1) := by decide +kernel
theorem dX11_law_6 : decode cX11_law 6 = .ok (.sipush 160, 3) := by decide +kernel
theorem dX11_law_9 : decode cX11_law 9 = .ok (.if_icmp .gt 14, 3) := by decide +kernel
theorem dX11_law_12 : decode cX11_law 12 = .ok (.iload_n 1, 1) := by decide +kernel
theorem dX11_law_13 : decode cX11_law 13 = .ok (.aload_n 0, 1) := by decide +kernel
theorem dX11_law_14 : decode cX11_law 14 = .ok (.getfield 10, 3) := by decide +kernel
theorem dX11_law_17 : decode cX11_law 17 = .ok (.getfield 112, 3) := by decide +kernel
theorem dX11_law_20 : decode cX11_law 20 = .ok (.if_icmp .le 5, 3) := by decide +kernel
theorem dX11_law_23 : decode cX11_law 23 = .ok (.iconst (-1), 1) := by decide +kernel
theorem dX11_law_24 : decode cX11_law 24 = .ok (.ireturn, 1) := by decide +kernel
theorem dX11_left_0 : decode cX11_left 0 = .ok (.aload_n 0, 1) := by decide +kernel
theorem dX11_left_1 : decode cX11_left 1 = .ok (.iload_n 1, 1) := by decide +kernel
theorem dX11_left_2 : decode cX11_left 2 = .ok (.iload_n 2, 1) := by decide +kernel
theorem dX11_left_3 : decode cX11_left 3 = .ok (.invokevirtual 143, 3) := by decide +kernel
theorem dX11_left_6 : decode cX11_left 6 = .ok (.ifCond .ne 5, 3) := by decide +kernel
theorem dX11_left_9 : decode cX11_left 9 = .ok (.iconst (-1), 1) := by decide +kernel
theorem dX11_left_10 : decode cX11_left 10 = .ok (.ireturn, 1) := by decide +kernel
theorem dX11_may_0 : decode cX11_may 0 = .ok (.aload_n 0, 1) := by decide +kernel
theorem dX11_may_1 : decode cX11_may 1 = .ok (.iload_n 1, 1) := by decide +kernel
theorem dX11_may_2 : decode cX11_may 2 = .ok (.iload_n 2, 1) := by decide +kernel
theorem dX11_may_3 : decode cX11_may 3 = .ok (.invokevirtual 143, 3) := by decide +kernel
theorem dX11_may_6 : decode cX11_may 6 = .ok (.ifCond .eq 21, 3) := by decide +kernel
theorem dX11_may_27 : decode cX11_may 27 = .ok (.iconst (-1), 1) := by decide +kernel
theorem dX11_may_28 : decode cX11_may 28 = .ok (.ireturn, 1) := by decide +kernel
theorem dX11_refuseCover_0 : decode cX11_refuseCover 0 = .ok (.iload_n 1, 1) := by decide +kernel
theorem dX11_refuseCover_1 : decode cX11_refuseCover 1 = .ok (.invokestatic 230, 3) := by decide +kernel
theorem dX11_refuseCover_4 : decode cX11_refuseCover 4 = .ok (.istore_n 2, 1) := by decide +kernel
theorem dX11_refuseCover_5 : decode cX11_refuseCover 5 = .ok (.aload_n 0, 1) := by decide +kernel
theorem dX11_refuseCover_6 : decode cX11_refuseCover 6 = .ok (.iload_n 1, 1) := by decide +kernel
theorem dX11_refuseCover_7 : decode cX11_refuseCover 7 = .ok (.invokevirtual 235, 3) := by decide +kernel
theorem dX11_refuseCover_10 : decode cX11_refuseCover 10 = .ok (.ifCond .eq 13, 3) := by decide +kernel
theorem dX11_refuseCover_13 : decode cX11_refuseCover 13 = .ok (.iload_n 2, 1) := by decide +kernel
theorem dX11_refuseCover_14 : decode cX11_refuseCover 14 = .ok (.iconst 2, 1) := by decide +kernel
theorem dX11_refuseCover_15 : decode cX11_refuseCover 15 = .ok (.if_icmp .lt 8, 3) := by decide +kernel
theorem dX11_refuseCover_23 : decode cX11_refuseCover 23 = .ok (.iconst (-1), 1) := by decide +kernel
theorem dX11_refuseCover_24 : decode cX11_refuseCover 24 = .ok (.ireturn, 1) := by decide +kernel
theorem dX11_seed_0 : decode cX11_seed 0 = .ok (.iload_n 1, 1) := by decide +kernel
theorem dX11_seed_1 : decode cX11_seed 1 = .ok (.ifCond .lt 10, 3) := by decide +kernel
theorem dX11_seed_4 : decode cX11_seed 4 = .ok (.iload_n 1, 1) := by decide +kernel
theorem dX11_seed_5 : decode cX11_seed 5 = .ok (.ldc_w 311, 3) := by decide +kernel
theorem dX11_seed_8 : decode cX11_seed 8 = .ok (.if_icmp .lt 5, 3) := by decide +kernel
theorem dX11_seed_11 : decode cX11_seed 11 = .ok (.iconst 0, 1) := by decide +kernel
theorem dX11_seed_12 : decode cX11_seed 12 = .ok (.ireturn, 1) := by decide +kernel
theorem dX11_seed_13 : decode cX11_seed 13 = .ok (.aload_n 0, 1) := by decide +kernel
theorem dX11_seed_14 : decode cX11_seed 14 = .ok (.iload_n 1, 1) := by decide +kernel
theorem dX11_seed_15 : decode cX11_seed 15 = .ok (.putfield 60, 3) := by decide +kernel
theorem dX11_seed_18 : decode cX11_seed 18 = .ok (.iconst 1, 1) := by decide +kernel
theorem dX11_seed_19 : decode cX11_seed 19 = .ok (.ireturn, 1) := by decide +kernel
theorem dX11_shortest_0 : decode cX11_shortest 0 = .ok (.iload_n 2, 1) := by decide +kernel
theorem dX11_shortest_1 : decode cX11_shortest 1 = .ok (.iconst (-1), 1) := by decide +kernel
theorem dX11_shortest_2 : decode cX11_shortest 2 = .ok (.if_icmp .ge 5, 3) := by decide +kernel
theorem dX11_shortest_5 : decode cX11_shortest 5 = .ok (.iconst (-1), 1) := by decide +kernel
theorem dX11_shortest_6 : decode cX11_shortest 6 = .ok (.ireturn, 1) := by decide +kernel
theorem dX11_shortest_7 : decode cX11_shortest 7 = .ok (.aload_n 0, 1) := by decide +kernel
theorem dX11_shortest_8 : decode cX11_shortest 8 = .ok (.iload_n 1, 1) := by decide +kernel
theorem dX11_shortest_9 : decode cX11_shortest 9 = .ok (.invokevirtual 252, 3) := by decide +kernel
theorem dX11_shortest_12 : decode cX11_shortest 12 = .ok (.istore_n 3, 1) := by decide +kernel
theorem dX11_shortest_13 : decode cX11_shortest 13 = .ok (.iload_n 3, 1) := by decide +kernel
theorem dX11_shortest_14 : decode cX11_shortest 14 = .ok (.ifCond .eq 5, 3) := by decide +kernel
theorem dX11_shortest_17 : decode cX11_shortest 17 = .ok (.iload_n 3, 1) := by decide +kernel
theorem dX11_shortest_18 : decode cX11_shortest 18 = .ok (.ireturn, 1) := by decide +kernel
theorem dX11_shortestMany_0 : decode cX11_shortestMany 0 = .ok (.aload_n 0, 1) := by decide +kernel
theorem dX11_shortestMany_1 : decode cX11_shortestMany 1 = .ok (.iload_n 1, 1) := by decide +kernel
theorem dX11_shortestMany_2 : decode cX11_shortestMany 2 = .ok (.invokevirtual 252, 3) := by decide +kernel
theorem dX11_shortestMany_5 : decode cX11_shortestMany 5 = .ok (.istore_n 2, 1) := by decide +kernel
theorem dX11_shortestMany_6 : decode cX11_shortestMany 6 = .ok (.iload_n 2, 1) := by decide +kernel
theorem dX11_shortestMany_7 : decode cX11_shortestMany 7 = .ok (.ifCond .eq 6, 3) := by decide +kernel
theorem dX11_shortestMany_10 : decode cX11_shortestMany 10 = .ok (.iload_n 2, 1) := by decide +kernel
theorem dX11_shortestMany_11 : decode cX11_shortestMany 11 = .ok (.i2l, 1) := by decide +kernel
theorem dX11_shortestMany_12 : decode cX11_shortestMany 12 = .ok (.lreturn, 1) := by decide +kernel
theorem dX11_spare_0 : decode cX11_spare 0 = .ok (.aload_n 0, 1) := by decide +kernel
theorem dX11_spare_1 : decode cX11_spare 1 = .ok (.iload_n 1, 1) := by decide +kernel
theorem dX11_spare_2 : decode cX11_spare 2 = .ok (.invokevirtual 180, 3) := by decide +kernel
theorem dX11_spare_5 : decode cX11_spare 5 = .ok (.ifCond .eq 11, 3) := by decide +kernel
theorem dX11_spare_16 : decode cX11_spare 16 = .ok (.ldc2_w 203, 3) := by decide +kernel
theorem dX11_spare_19 : decode cX11_spare 19 = .ok (.lreturn, 1) := by decide +kernel
theorem dX11_strike_0 : decode cX11_strike 0 = .ok (.aload_n 0, 1) := by decide +kernel
theorem dX11_strike_1 : decode cX11_strike 1 = .ok (.iload_n 1, 1) := by decide +kernel
theorem dX11_strike_2 : decode cX11_strike 2 = .ok (.iload_n 2, 1) := by decide +kernel
theorem dX11_strike_3 : decode cX11_strike 3 = .ok (.invokevirtual 143, 3) := by decide +kernel
theorem dX11_strike_6 : decode cX11_strike 6 = .ok (.ifCond .eq 22, 3) := by decide +kernel
theorem dX11_strike_28 : decode cX11_strike 28 = .ok (.iconst (-1), 1) := by decide +kernel
theorem dX11_strike_29 : decode cX11_strike 29 = .ok (.ireturn, 1) := by decide +kernel
theorem dX11_strokes_0 : decode cX11_strokes 0 = .ok (.aload_n 0, 1) := by decide +kernel
theorem dX11_strokes_1 : decode cX11_strokes 1 = .ok (.iload_n 1, 1) := by decide +kernel
theorem dX11_strokes_2 : decode cX11_strokes 2 = .ok (.invokevirtual 180, 3) := by decide +kernel
theorem dX11_strokes_5 : decode cX11_strokes 5 = .ok (.ifCond .eq 18, 3) := by decide +kernel
theorem dX11_strokes_23 : decode cX11_strokes 23 = .ok (.iconst (-1), 1) := by decide +kernel
theorem dX11_strokes_24 : decode cX11_strokes 24 = .ok (.ireturn, 1) := by decide +kernel
theorem dX11_toldDeeds_0 : decode cX11_toldDeeds 0 = .ok (.iconst 0, 1) := by decide +kernel
theorem dX11_toldDeeds_1 : decode cX11_toldDeeds 1 = .ok (.istore_n 1, 1) := by decide +kernel
theorem dX11_toldDeeds_2 : decode cX11_toldDeeds 2 = .ok (.iconst 0, 1) := by decide +kernel
theorem dX11_toldDeeds_3 : decode cX11_toldDeeds 3 = .ok (.istore_n 2, 1) := by decide +kernel
theorem dX11_toldDeeds_4 : decode cX11_toldDeeds 4 = .ok (.iload_n 2, 1) := by decide +kernel
theorem dX11_toldDeeds_5 : decode cX11_toldDeeds 5 = .ok (.bipush 8, 2) := by decide +kernel
theorem dX11_toldDeeds_7 : decode cX11_toldDeeds 7 = .ok (.if_icmp .ge 23, 3) := by decide +kernel
theorem dX11_toldDeeds_10 : decode cX11_toldDeeds 10 = .ok (.aload_n 0, 1) := by decide +kernel
theorem dX11_toldDeeds_11 : decode cX11_toldDeeds 11 = .ok (.iload_n 2, 1) := by decide +kernel
theorem dX11_toldDeeds_12 : decode cX11_toldDeeds 12 = .ok (.invokevirtual 200, 3) := by decide +kernel
theorem dX11_toldDeeds_15 : decode cX11_toldDeeds 15 = .ok (.ifCond .eq 9, 3) := by decide +kernel
theorem dX11_toldDeeds_24 : decode cX11_toldDeeds 24 = .ok (.iinc 2 1, 3) := by decide +kernel
theorem dX11_toldDeeds_27 : decode cX11_toldDeeds 27 = .ok (.goto (-23), 3) := by decide +kernel
theorem dX11_toldDeeds_30 : decode cX11_toldDeeds 30 = .ok (.iload_n 1, 1) := by decide +kernel
theorem dX11_toldDeeds_31 : decode cX11_toldDeeds 31 = .ok (.ireturn, 1) := by decide +kernel
theorem dX11_ways_0 : decode cX11_ways 0 = .ok (.aload_n 0, 1) := by decide +kernel
theorem dX11_ways_1 : decode cX11_ways 1 = .ok (.iload_n 1, 1) := by decide +kernel
theorem dX11_ways_2 : decode cX11_ways 2 = .ok (.invokevirtual 180, 3) := by decide +kernel
theorem dX11_ways_5 : decode cX11_ways 5 = .ok (.ifCond .eq 11, 3) := by decide +kernel
theorem dX11_ways_16 : decode cX11_ways 16 = .ok (.ldc2_w 203, 3) := by decide +kernel
theorem dX11_ways_19 : decode cX11_ways 19 = .ok (.lreturn, 1) := by decide +kernel
theorem dX11_worth_0 : decode cX11_worth 0 = .ok (.aload_n 0, 1) := by decide +kernel
theorem dX11_worth_1 : decode cX11_worth 1 = .ok (.iload_n 1, 1) := by decide +kernel
theorem dX11_worth_2 : decode cX11_worth 2 = .ok (.invokevirtual 180, 3) := by decide +kernel
theorem dX11_worth_5 : decode cX11_worth 5 = .ok (.ifCond .eq 20, 3) := by decide +kernel
theorem dX11_worth_25 : decode cX11_worth 25 = .ok (.sipush (-1000), 3) := by decide +kernel
theorem dX11_worth_28 : decode cX11_worth 28 = .ok (.ireturn, 1) := by decide +kernel
theorem dX12_areSet_0 : decode cX12_areSet 0 = .ok (.iload_n 1, 1) := by decide +kernel
theorem dX12_areSet_1 : decode cX12_areSet 1 = .ok (.iconst 0, 1) := by decide +kernel
theorem dX12_areSet_2 : decode cX12_areSet 2 = .ok (.sipush 255, 3) := by decide +kernel
theorem dX12_areSet_5 : decode cX12_areSet 5 = .ok (.invokestatic 161, 3) := by decide +kernel
theorem dX12_areSet_8 : decode cX12_areSet 8 = .ok (.ifCond .eq 18, 3) := by decide +kernel
theorem dX12_areSet_11 : decode cX12_areSet 11 = .ok (.iload_n 1, 1) := by decide +kernel
theorem dX12_areSet_12 : decode cX12_areSet 12 = .ok (.aload_n 0, 1) := by decide +kernel
theorem dX12_areSet_13 : decode cX12_areSet 13 = .ok (.getfield 155, 3) := by decide +kernel
theorem dX12_areSet_16 : decode cX12_areSet 16 = .ok (.iconst (-1), 1) := by decide +kernel
theorem dX12_areSet_17 : decode cX12_areSet 17 = .ok (.ixor, 1) := by decide +kernel
theorem dX12_areSet_18 : decode cX12_areSet 18 = .ok (.iand, 1) := by decide +kernel
theorem dX12_areSet_19 : decode cX12_areSet 19 = .ok (.ifCond .ne 7, 3) := by decide +kernel
theorem dX12_areSet_22 : decode cX12_areSet 22 = .ok (.iconst 1, 1) := by decide +kernel
theorem dX12_areSet_23 : decode cX12_areSet 23 = .ok (.goto 4, 3) := by decide +kernel
theorem dX12_areSet_26 : decode cX12_areSet 26 = .ok (.iconst 0, 1) := by decide +kernel
theorem dX12_areSet_27 : decode cX12_areSet 27 = .ok (.ireturn, 1) := by decide +kernel
theorem dX12_back_0 : decode cX12_back 0 = .ok (.aload_n 0, 1) := by decide +kernel
theorem dX12_back_1 : decode cX12_back 1 = .ok (.iload_n 1, 1) := by decide +kernel
theorem dX12_back_2 : decode cX12_back 2 = .ok (.invokevirtual 172, 3) := by decide +kernel
theorem dX12_back_5 : decode cX12_back 5 = .ok (.ifCond .ne 5, 3) := by decide +kernel
theorem dX12_back_8 : decode cX12_back 8 = .ok (.iconst (-1), 1) := by decide +kernel
theorem dX12_back_9 : decode cX12_back 9 = .ok (.ireturn, 1) := by decide +kernel
theorem dX12_bits_0 : decode cX12_bits 0 = .ok (.iconst 0, 1) := by decide +kernel
theorem dX12_bits_1 : decode cX12_bits 1 = .ok (.istore_n 1, 1) := by decide +kernel
theorem dX12_bits_2 : decode cX12_bits 2 = .ok (.iconst 0, 1) := by decide +kernel
theorem dX12_bits_3 : decode cX12_bits 3 = .ok (.istore_n 2, 1) := by decide +kernel
theorem dX12_bits_4 : decode cX12_bits 4 = .ok (.iload_n 2, 1) := by decide +kernel
theorem dX12_bits_5 : decode cX12_bits 5 = .ok (.bipush 8, 2) := by decide +kernel
theorem dX12_bits_7 : decode cX12_bits 7 = .ok (.if_icmp .ge 17, 3) := by decide +kernel
theorem dX12_bits_10 : decode cX12_bits 10 = .ok (.iload_n 1, 1) := by decide +kernel
theorem dX12_bits_11 : decode cX12_bits 11 = .ok (.iload_n 0, 1) := by decide +kernel
theorem dX12_bits_12 : decode cX12_bits 12 = .ok (.iload_n 2, 1) := by decide +kernel
theorem dX12_bits_13 : decode cX12_bits 13 = .ok (.ishr, 1) := by decide +kernel
theorem dX12_bits_14 : decode cX12_bits 14 = .ok (.iconst 1, 1) := by decide +kernel
theorem dX12_bits_15 : decode cX12_bits 15 = .ok (.iand, 1) := by decide +kernel
theorem dX12_bits_16 : decode cX12_bits 16 = .ok (.iadd, 1) := by decide +kernel
theorem dX12_bits_17 : decode cX12_bits 17 = .ok (.istore_n 1, 1) := by decide +kernel
theorem dX12_bits_18 : decode cX12_bits 18 = .ok (.iinc 2 1, 3) := by decide +kernel
theorem dX12_bits_21 : decode cX12_bits 21 = .ok (.goto (-17), 3) := by decide +kernel
theorem dX12_bits_24 : decode cX12_bits 24 = .ok (.iload_n 1, 1) := by decide +kernel
theorem dX12_bits_25 : decode cX12_bits 25 = .ok (.ireturn, 1) := by decide +kernel
theorem dX12_blank_0 : decode cX12_blank 0 = .ok (.iload_n 1, 1) := by decide +kernel
theorem dX12_blank_1 : decode cX12_blank 1 = .ok (.iconst 1, 1) := by decide +kernel
theorem dX12_blank_2 : decode cX12_blank 2 = .ok (.bipush 40, 2) := by decide +kernel
theorem dX12_blank_4 : decode cX12_blank 4 = .ok (.invokestatic 161, 3) := by decide +kernel
theorem dX12_blank_7 : decode cX12_blank 7 = .ok (.ifCond .eq 20, 3) := by decide +kernel
theorem dX12_blank_10 : decode cX12_blank 10 = .ok (.aload_n 0, 1) := by decide +kernel
theorem dX12_blank_11 : decode cX12_blank 11 = .ok (.getfield 152, 3) := by decide +kernel
theorem dX12_blank_14 : decode cX12_blank 14 = .ok (.bipush 8, 2) := by decide +kernel
theorem dX12_blank_16 : decode cX12_blank 16 = .ok (.if_icmp .eq 11, 3) := by decide +kernel
theorem dX12_blank_19 : decode cX12_blank 19 = .ok (.iload_n 1, 1) := by decide +kernel
theorem dX12_blank_20 : decode cX12_blank 20 = .ok (.aload_n 0, 1) := by decide +kernel
theorem dX12_blank_21 : decode cX12_blank 21 = .ok (.getfield 165, 3) := by decide +kernel
theorem dX12_blank_24 : decode cX12_blank 24 = .ok (.if_icmp .le 5, 3) := by decide +kernel
theorem dX12_blank_27 : decode cX12_blank 27 = .ok (.iconst (-1), 1) := by decide +kernel
theorem dX12_blank_28 : decode cX12_blank 28 = .ok (.ireturn, 1) := by decide +kernel
theorem dX12_book_0 : decode cX12_book 0 = .ok (.iload_n 1, 1) := by decide +kernel
theorem dX12_book_1 : decode cX12_book 1 = .ok (.ifCond .lt 11, 3) := by decide +kernel
theorem dX12_book_4 : decode cX12_book 4 = .ok (.iload_n 1, 1) := by decide +kernel
theorem dX12_book_5 : decode cX12_book 5 = .ok (.aload_n 0, 1) := by decide +kernel
theorem dX12_book_6 : decode cX12_book 6 = .ok (.getfield 306, 3) := by decide +kernel
theorem dX12_book_9 : decode cX12_book 9 = .ok (.if_icmp .lt 7, 3) := by decide +kernel
theorem dX12_book_12 : decode cX12_book 12 = .ok (.sipush (-1000), 3) := by decide +kernel
theorem dX12_book_15 : decode cX12_book 15 = .ok (.ireturn, 1) := by decide +kernel
theorem dX12_bound_0 : decode cX12_bound 0 = .ok (.aload_n 0, 1) := by decide +kernel
theorem dX12_bound_1 : decode cX12_bound 1 = .ok (.iload_n 1, 1) := by decide +kernel
theorem dX12_bound_2 : decode cX12_bound 2 = .ok (.iconst 2, 1) := by decide +kernel
theorem dX12_bound_3 : decode cX12_bound 3 = .ok (.iconst 4, 1) := by decide +kernel
theorem dX12_bound_4 : decode cX12_bound 4 = .ok (.invokevirtual 391, 3) := by decide +kernel
theorem dX12_bound_7 : decode cX12_bound 7 = .ok (.ifCond .ne 5, 3) := by decide +kernel
theorem dX12_bound_10 : decode cX12_bound 10 = .ok (.iconst (-1), 1) := by decide +kernel
theorem dX12_bound_11 : decode cX12_bound 11 = .ok (.ireturn, 1) := by decide +kernel
theorem dX12_chain_0 : decode cX12_chain 0 = .ok (.aload_n 0, 1) := by decide +kernel
theorem dX12_chain_1 : decode cX12_chain 1 = .ok (.iload_n 1, 1) := by decide +kernel
theorem dX12_chain_2 : decode cX12_chain 2 = .ok (.invokevirtual 172, 3) := by decide +kernel
theorem dX12_chain_5 : decode cX12_chain 5 = .ok (.ifCond .eq 8, 3) := by decide +kernel
theorem dX12_chain_13 : decode cX12_chain 13 = .ok (.iconst (-1), 1) := by decide +kernel
theorem dX12_chain_14 : decode cX12_chain 14 = .ok (.ireturn, 1) := by decide +kernel
theorem dX12_cheapest_0 : decode cX12_cheapest 0 = .ok (.aload_n 0, 1) := by decide +kernel
theorem dX12_cheapest_1 : decode cX12_cheapest 1 = .ok (.iload_n 1, 1) := by decide +kernel
theorem dX12_cheapest_2 : decode cX12_cheapest 2 = .ok (.iload_n 2, 1) := by decide +kernel
theorem dX12_cheapest_3 : decode cX12_cheapest 3 = .ok (.invokevirtual 329, 3) := by decide +kernel
theorem dX12_cheapest_6 : decode cX12_cheapest 6 = .ok (.ifCond .eq 27, 3) := by decide +kernel
theorem dX12_cheapest_33 : decode cX12_cheapest 33 = .ok (.iconst (-1), 1) := by decide +kernel
theorem dX12_cheapest_34 : decode cX12_cheapest 34 = .ok (.ireturn, 1) := by decide +kernel
theorem dX12_check_0 : decode cX12_check 0 = .ok (.aload_n 0, 1) := by decide +kernel
theorem dX12_check_1 : decode cX12_check 1 = .ok (.iload_n 1, 1) := by decide +kernel
theorem dX12_check_2 : decode cX12_check 2 = .ok (.invokevirtual 172, 3) := by decide +kernel
theorem dX12_check_5 : decode cX12_check 5 = .ok (.ifCond .eq 17, 3) := by decide +kernel
theorem dX12_check_22 : decode cX12_check 22 = .ok (.bipush (-2), 2) := by decide +kernel
theorem dX12_check_24 : decode cX12_check 24 = .ok (.ireturn, 1) := by decide +kernel
theorem dX12_costAll_0 : decode cX12_costAll 0 = .ok (.iconst 0, 1) := by decide +kernel
theorem dX12_costAll_1 : decode cX12_costAll 1 = .ok (.istore_n 1, 1) := by decide +kernel
theorem dX12_costAll_2 : decode cX12_costAll 2 = .ok (.iconst 0, 1) := by decide +kernel
theorem dX12_costAll_3 : decode cX12_costAll 3 = .ok (.istore_n 2, 1) := by decide +kernel
theorem dX12_costAll_4 : decode cX12_costAll 4 = .ok (.iload_n 2, 1) := by decide +kernel
theorem dX12_costAll_5 : decode cX12_costAll 5 = .ok (.aload_n 0, 1) := by decide +kernel
theorem dX12_costAll_6 : decode cX12_costAll 6 = .ok (.getfield 306, 3) := by decide +kernel
theorem dX12_costAll_9 : decode cX12_costAll 9 = .ok (.if_icmp .ge 18, 3) := by decide +kernel
theorem dX12_costAll_27 : decode cX12_costAll 27 = .ok (.iload_n 1, 1) := by decide +kernel
theorem dX12_costAll_28 : decode cX12_costAll 28 = .ok (.ireturn, 1) := by decide +kernel
theorem dX12_count_0 : decode cX12_count 0 = .ok (.iload_n 1, 1) := by decide +kernel
theorem dX12_count_1 : decode cX12_count 1 = .ok (.tableswitch 87 0 7 #[47, 52, 57, 62, 67, 72, 77, 82], 47) := by decide +kernel
theorem dX12_count_48 : decode cX12_count 48 = .ok (.aload_n 0, 1) := by decide +kernel
theorem dX12_count_49 : decode cX12_count 49 = .ok (.getfield 152, 3) := by decide +kernel
theorem dX12_count_52 : decode cX12_count 52 = .ok (.ireturn, 1) := by decide +kernel
theorem dX12_count_53 : decode cX12_count 53 = .ok (.aload_n 0, 1) := by decide +kernel
theorem dX12_count_54 : decode cX12_count 54 = .ok (.getfield 155, 3) := by decide +kernel
theorem dX12_count_57 : decode cX12_count 57 = .ok (.ireturn, 1) := by decide +kernel
theorem dX12_count_58 : decode cX12_count 58 = .ok (.aload_n 0, 1) := by decide +kernel
theorem dX12_count_59 : decode cX12_count 59 = .ok (.getfield 277, 3) := by decide +kernel
theorem dX12_count_62 : decode cX12_count 62 = .ok (.ireturn, 1) := by decide +kernel
theorem dX12_count_63 : decode cX12_count 63 = .ok (.aload_n 0, 1) := by decide +kernel
theorem dX12_count_64 : decode cX12_count 64 = .ok (.getfield 165, 3) := by decide +kernel
theorem dX12_count_67 : decode cX12_count 67 = .ok (.ireturn, 1) := by decide +kernel
theorem dX12_count_68 : decode cX12_count 68 = .ok (.aload_n 0, 1) := by decide +kernel
theorem dX12_count_69 : decode cX12_count 69 = .ok (.getfield 158, 3) := by decide +kernel
theorem dX12_count_72 : decode cX12_count 72 = .ok (.ireturn, 1) := by decide +kernel
theorem dX12_count_73 : decode cX12_count 73 = .ok (.aload_n 0, 1) := by decide +kernel
theorem dX12_count_74 : decode cX12_count 74 = .ok (.getfield 306, 3) := by decide +kernel
theorem dX12_count_77 : decode cX12_count 77 = .ok (.ireturn, 1) := by decide +kernel
theorem dX12_count_78 : decode cX12_count 78 = .ok (.aload_n 0, 1) := by decide +kernel
theorem dX12_count_79 : decode cX12_count 79 = .ok (.getfield 148, 3) := by decide +kernel
theorem dX12_count_82 : decode cX12_count 82 = .ok (.ireturn, 1) := by decide +kernel
theorem dX12_count_83 : decode cX12_count 83 = .ok (.aload_n 0, 1) := by decide +kernel
theorem dX12_count_84 : decode cX12_count 84 = .ok (.invokevirtual 468, 3) := by decide +kernel
theorem dX12_count_87 : decode cX12_count 87 = .ok (.ireturn, 1) := by decide +kernel
theorem dX12_count_88 : decode cX12_count 88 = .ok (.iload_n 1, 1) := by decide +kernel
theorem dX12_count_89 : decode cX12_count 89 = .ok (.bipush 10, 2) := by decide +kernel
theorem dX12_count_91 : decode cX12_count 91 = .ok (.bipush 9, 2) := by decide +kernel
theorem dX12_count_93 : decode cX12_count 93 = .ok (.aload_n 0, 1) := by decide +kernel
theorem dX12_count_94 : decode cX12_count 94 = .ok (.getfield 152, 3) := by decide +kernel
theorem dX12_count_97 : decode cX12_count 97 = .ok (.iadd, 1) := by decide +kernel
theorem dX12_count_98 : decode cX12_count 98 = .ok (.invokestatic 161, 3) := by decide +kernel
theorem dX12_count_101 : decode cX12_count 101 = .ok (.ifCond .eq 12, 3) := by decide +kernel
theorem dX12_count_113 : decode cX12_count 113 = .ok (.iload_n 1, 1) := by decide +kernel
theorem dX12_count_114 : decode cX12_count 114 = .ok (.bipush 20, 2) := by decide +kernel
theorem dX12_count_116 : decode cX12_count 116 = .ok (.bipush 27, 2) := by decide +kernel
theorem dX12_count_118 : decode cX12_count 118 = .ok (.invokestatic 161, 3) := by decide +kernel
theorem dX12_count_121 : decode cX12_count 121 = .ok (.ifCond .eq 15, 3) := by decide +kernel
theorem dX12_count_124 : decode cX12_count 124 = .ok (.aload_n 0, 1) := by decide +kernel
theorem dX12_count_125 : decode cX12_count 125 = .ok (.getfield 16, 3) := by decide +kernel
theorem dX12_count_128 : decode cX12_count 128 = .ok (.iload_n 1, 1) := by decide +kernel
theorem dX12_count_129 : decode cX12_count 129 = .ok (.bipush 20, 2) := by decide +kernel
theorem dX12_count_131 : decode cX12_count 131 = .ok (.isub, 1) := by decide +kernel
theorem dX12_count_132 : decode cX12_count 132 = .ok (.iaload, 1) := by decide +kernel
theorem dX12_count_133 : decode cX12_count 133 = .ok (.goto 4, 3) := by decide +kernel
theorem dX12_count_136 : decode cX12_count 136 = .ok (.iconst (-1), 1) := by decide +kernel
theorem dX12_count_137 : decode cX12_count 137 = .ok (.ireturn, 1) := by decide +kernel
theorem dX12_day_0 : decode cX12_day 0 = .ok (.iload_n 1, 1) := by decide +kernel
theorem dX12_day_1 : decode cX12_day 1 = .ok (.aload_n 0, 1) := by decide +kernel
theorem dX12_day_2 : decode cX12_day 2 = .ok (.getfield 158, 3) := by decide +kernel
theorem dX12_day_5 : decode cX12_day 5 = .ok (.sipush 999, 3) := by decide +kernel
theorem dX12_day_8 : decode cX12_day 8 = .ok (.invokestatic 161, 3) := by decide +kernel
theorem dX12_day_11 : decode cX12_day 11 = .ok (.ifCond .ne 5, 3) := by decide +kernel
theorem dX12_day_14 : decode cX12_day 14 = .ok (.iconst 0, 1) := by decide +kernel
theorem dX12_day_15 : decode cX12_day 15 = .ok (.ireturn, 1) := by decide +kernel
theorem dX12_day_16 : decode cX12_day 16 = .ok (.aload_n 0, 1) := by decide +kernel
theorem dX12_day_17 : decode cX12_day 17 = .ok (.iload_n 1, 1) := by decide +kernel
theorem dX12_day_18 : decode cX12_day 18 = .ok (.putfield 158, 3) := by decide +kernel
theorem dX12_day_21 : decode cX12_day 21 = .ok (.iconst 1, 1) := by decide +kernel
theorem dX12_day_22 : decode cX12_day 22 = .ok (.ireturn, 1) := by decide +kernel
theorem dX12_dayEnd_0 : decode cX12_dayEnd 0 = .ok (.aload_n 0, 1) := by decide +kernel
theorem dX12_dayEnd_1 : decode cX12_dayEnd 1 = .ok (.iload_n 1, 1) := by decide +kernel
theorem dX12_dayEnd_2 : decode cX12_dayEnd 2 = .ok (.invokevirtual 420, 3) := by decide +kernel
theorem dX12_dayEnd_5 : decode cX12_dayEnd 5 = .ok (.ifCond .eq 23, 3) := by decide +kernel
theorem dX12_dayEnd_8 : decode cX12_dayEnd 8 = .ok (.iload_n 1, 1) := by decide +kernel
theorem dX12_dayEnd_9 : decode cX12_dayEnd 9 = .ok (.ifCond .eq 19, 3) := by decide +kernel
theorem dX12_dayEnd_28 : decode cX12_dayEnd 28 = .ok (.iconst (-1), 1) := by decide +kernel
theorem dX12_dayEnd_29 : decode cX12_dayEnd 29 = .ok (.ireturn, 1) := by decide +kernel
theorem dX12_deed_0 : decode cX12_deed 0 = .ok (.iload_n 1, 1) := by decide +kernel
theorem dX12_deed_1 : decode cX12_deed 1 = .ok (.iconst 0, 1) := by decide +kernel
theorem dX12_deed_2 : decode cX12_deed 2 = .ok (.bipush 7, 2) := by decide +kernel
theorem dX12_deed_4 : decode cX12_deed 4 = .ok (.invokestatic 161, 3) := by decide +kernel
theorem dX12_deed_7 : decode cX12_deed 7 = .ok (.ifCond .eq 21, 3) := by decide +kernel
theorem dX12_deed_10 : decode cX12_deed 10 = .ok (.iload_n 2, 1) := by decide +kernel
theorem dX12_deed_11 : decode cX12_deed 11 = .ok (.iconst 1, 1) := by decide +kernel
theorem dX12_deed_12 : decode cX12_deed 12 = .ok (.bipush 16, 2) := by decide +kernel
theorem dX12_deed_14 : decode cX12_deed 14 = .ok (.invokestatic 161, 3) := by decide +kernel
theorem dX12_deed_17 : decode cX12_deed 17 = .ok (.ifCond .eq 11, 3) := by decide +kernel
theorem dX12_deed_20 : decode cX12_deed 20 = .ok (.iload_n 2, 1) := by decide +kernel
theorem dX12_deed_21 : decode cX12_deed 21 = .ok (.aload_n 0, 1) := by decide +kernel
theorem dX12_deed_22 : decode cX12_deed 22 = .ok (.getfield 165, 3) := by decide +kernel
theorem dX12_deed_25 : decode cX12_deed 25 = .ok (.if_icmp .le 5, 3) := by decide +kernel
theorem dX12_deed_28 : decode cX12_deed 28 = .ok (.iconst (-1), 1) := by decide +kernel
theorem dX12_deed_29 : decode cX12_deed 29 = .ok (.ireturn, 1) := by decide +kernel
theorem dX12_done_0 : decode cX12_done 0 = .ok (.aload_n 0, 1) := by decide +kernel
theorem dX12_done_1 : decode cX12_done 1 = .ok (.iload_n 1, 1) := by decide +kernel
theorem dX12_done_2 : decode cX12_done 2 = .ok (.iload_n 2, 1) := by decide +kernel
theorem dX12_done_3 : decode cX12_done 3 = .ok (.invokevirtual 329, 3) := by decide +kernel
theorem dX12_done_6 : decode cX12_done 6 = .ok (.ifCond .eq 10, 3) := by decide +kernel
theorem dX12_done_16 : decode cX12_done 16 = .ok (.iconst (-1), 1) := by decide +kernel
theorem dX12_done_17 : decode cX12_done 17 = .ok (.ireturn, 1) := by decide +kernel
theorem dX12_draw_0 : decode cX12_draw 0 = .ok (.aload_n 0, 1) := by decide +kernel
theorem dX12_draw_1 : decode cX12_draw 1 = .ok (.iload_n 1, 1) := by decide +kernel
theorem dX12_draw_2 : decode cX12_draw 2 = .ok (.invokevirtual 172, 3) := by decide +kernel
theorem dX12_draw_5 : decode cX12_draw 5 = .ok (.ifCond .eq 13, 3) := by decide +kernel
theorem dX12_draw_18 : decode cX12_draw 18 = .ok (.iconst (-1), 1) := by decide +kernel
theorem dX12_draw_19 : decode cX12_draw 19 = .ok (.ireturn, 1) := by decide +kernel
theorem dX12_even_0 : decode cX12_even 0 = .ok (.aload_n 0, 1) := by decide +kernel
theorem dX12_even_1 : decode cX12_even 1 = .ok (.iload_n 1, 1) := by decide +kernel
theorem dX12_even_2 : decode cX12_even 2 = .ok (.iload_n 2, 1) := by decide +kernel
theorem dX12_even_3 : decode cX12_even 3 = .ok (.invokevirtual 329, 3) := by decide +kernel
theorem dX12_even_6 : decode cX12_even 6 = .ok (.ifCond .eq 13, 3) := by decide +kernel
theorem dX12_even_19 : decode cX12_even 19 = .ok (.ldc2_w 332, 3) := by decide +kernel
theorem dX12_even_22 : decode cX12_even 22 = .ok (.lreturn, 1) := by decide +kernel
theorem dX12_family_0 : decode cX12_family 0 = .ok (.aload_n 0, 1) := by decide +kernel
theorem dX12_family_1 : decode cX12_family 1 = .ok (.iload_n 1, 1) := by decide +kernel
theorem dX12_family_2 : decode cX12_family 2 = .ok (.invokevirtual 172, 3) := by decide +kernel
theorem dX12_family_5 : decode cX12_family 5 = .ok (.ifCond .eq 36, 3) := by decide +kernel
theorem dX12_family_41 : decode cX12_family 41 = .ok (.iconst (-1), 1) := by decide +kernel
theorem dX12_family_42 : decode cX12_family 42 = .ok (.ireturn, 1) := by decide +kernel
theorem dX12_feed_0 : decode cX12_feed 0 = .ok (.aload_n 0, 1) := by decide +kernel
theorem dX12_feed_1 : decode cX12_feed 1 = .ok (.getfield 165, 3) := by decide +kernel
theorem dX12_feed_4 : decode cX12_feed 4 = .ok (.bipush 20, 2) := by decide +kernel
theorem dX12_feed_6 : decode cX12_feed 6 = .ok (.iadd, 1) := by decide +kernel
theorem dX12_feed_7 : decode cX12_feed 7 = .ok (.sipush 200, 3) := by decide +kernel
theorem dX12_feed_10 : decode cX12_feed 10 = .ok (.if_icmp .le 5, 3) := by decide +kernel
theorem dX12_feed_15 : decode cX12_feed 15 = .ok (.aload_n 0, 1) := by decide +kernel
theorem dX12_feed_16 : decode cX12_feed 16 = .ok (.iload_n 1, 1) := by decide +kernel
theorem dX12_feed_17 : decode cX12_feed 17 = .ok (.invokevirtual 183, 3) := by decide +kernel
theorem dX12_feed_20 : decode cX12_feed 20 = .ok (.aload_n 0, 1) := by decide +kernel
theorem dX12_feed_21 : decode cX12_feed 21 = .ok (.iload_n 2, 1) := by decide +kernel
theorem dX12_feed_22 : decode cX12_feed 22 = .ok (.invokevirtual 183, 3) := by decide +kernel
theorem dX12_feed_25 : decode cX12_feed 25 = .ok (.aload_n 0, 1) := by decide +kernel
theorem dX12_feed_26 : decode cX12_feed 26 = .ok (.iload_n 3, 1) := by decide +kernel
theorem dX12_feed_27 : decode cX12_feed 27 = .ok (.invokevirtual 183, 3) := by decide +kernel
theorem dX12_feed_30 : decode cX12_feed 30 = .ok (.aload_n 0, 1) := by decide +kernel
theorem dX12_feed_31 : decode cX12_feed 31 = .ok (.iload 4, 2) := by decide +kernel
theorem dX12_feed_33 : decode cX12_feed 33 = .ok (.invokevirtual 183, 3) := by decide +kernel
theorem dX12_feed_36 : decode cX12_feed 36 = .ok (.aload_n 0, 1) := by decide +kernel
theorem dX12_feed_37 : decode cX12_feed 37 = .ok (.iload 5, 2) := by decide +kernel
theorem dX12_feed_39 : decode cX12_feed 39 = .ok (.invokevirtual 183, 3) := by decide +kernel
theorem dX12_feed_42 : decode cX12_feed 42 = .ok (.aload_n 0, 1) := by decide +kernel
theorem dX12_feed_43 : decode cX12_feed 43 = .ok (.getfield 165, 3) := by decide +kernel
theorem dX12_feed_46 : decode cX12_feed 46 = .ok (.ireturn, 1) := by decide +kernel
theorem dX12_forged_0 : decode cX12_forged 0 = .ok (.aload_n 0, 1) := by decide +kernel
theorem dX12_forged_1 : decode cX12_forged 1 = .ok (.iload_n 1, 1) := by decide +kernel
theorem dX12_forged_2 : decode cX12_forged 2 = .ok (.invokevirtual 326, 3) := by decide +kernel
theorem dX12_forged_5 : decode cX12_forged 5 = .ok (.ifCond .ne 5, 3) := by decide +kernel
theorem dX12_forged_8 : decode cX12_forged 8 = .ok (.iconst (-1), 1) := by decide +kernel
theorem dX12_forged_9 : decode cX12_forged 9 = .ok (.ireturn, 1) := by decide +kernel
theorem dX12_hidden_0 : decode cX12_hidden 0 = .ok (.aload_n 0, 1) := by decide +kernel
theorem dX12_hidden_1 : decode cX12_hidden 1 = .ok (.iload_n 1, 1) := by decide +kernel
theorem dX12_hidden_2 : decode cX12_hidden 2 = .ok (.iconst 2, 1) := by decide +kernel
theorem dX12_hidden_3 : decode cX12_hidden 3 = .ok (.iconst 3, 1) := by decide +kernel
theorem dX12_hidden_4 : decode cX12_hidden 4 = .ok (.invokevirtual 391, 3) := by decide +kernel
theorem dX12_hidden_7 : decode cX12_hidden 7 = .ok (.ifCond .ne 5, 3) := by decide +kernel
theorem dX12_hidden_10 : decode cX12_hidden 10 = .ok (.iconst (-1), 1) := by decide +kernel
theorem dX12_hidden_11 : decode cX12_hidden 11 = .ok (.ireturn, 1) := by decide +kernel
theorem dX12_in_0 : decode cX12_in 0 = .ok (.iload_n 0, 1) := by decide +kernel
theorem dX12_in_1 : decode cX12_in 1 = .ok (.iload_n 1, 1) := by decide +kernel
theorem dX12_in_2 : decode cX12_in 2 = .ok (.if_icmp .lt 12, 3) := by decide +kernel
theorem dX12_in_5 : decode cX12_in 5 = .ok (.iload_n 0, 1) := by decide +kernel
theorem dX12_in_6 : decode cX12_in 6 = .ok (.iload_n 2, 1) := by decide +kernel
theorem dX12_in_7 : decode cX12_in 7 = .ok (.if_icmp .gt 7, 3) := by decide +kernel
theorem dX12_in_10 : decode cX12_in 10 = .ok (.iconst 1, 1) := by decide +kernel
theorem dX12_in_11 : decode cX12_in 11 = .ok (.goto 4, 3) := by decide +kernel
theorem dX12_in_14 : decode cX12_in 14 = .ok (.iconst 0, 1) := by decide +kernel
theorem dX12_in_15 : decode cX12_in 15 = .ok (.ireturn, 1) := by decide +kernel
theorem dX12_init_0 : decode cX12_init 0 = .ok (.aload_n 0, 1) := by decide +kernel
theorem dX12_init_1 : decode cX12_init 1 = .ok (.invokespecial 1, 3) := by decide +kernel
theorem dX12_init_4 : decode cX12_init 4 = .ok (.aload_n 0, 1) := by decide +kernel
theorem dX12_init_5 : decode cX12_init 5 = .ok (.bipush 8, 2) := by decide +kernel
theorem dX12_init_7 : decode cX12_init 7 = .ok (.newarray .int, 2) := by decide +kernel
theorem dX12_init_9 : decode cX12_init 9 = .ok (.putfield 7, 3) := by decide +kernel
theorem dX12_init_12 : decode cX12_init 12 = .ok (.aload_n 0, 1) := by decide +kernel
theorem dX12_init_13 : decode cX12_init 13 = .ok (.sipush 320, 3) := by decide +kernel
theorem dX12_init_16 : decode cX12_init 16 = .ok (.newarray .int, 2) := by decide +kernel
theorem dX12_init_18 : decode cX12_init 18 = .ok (.putfield 13, 3) := by decide +kernel
theorem dX12_init_21 : decode cX12_init 21 = .ok (.aload_n 0, 1) := by decide +kernel
theorem dX12_init_22 : decode cX12_init 22 = .ok (.bipush 8, 2) := by decide +kernel
theorem dX12_init_24 : decode cX12_init 24 = .ok (.newarray .int, 2) := by decide +kernel
theorem dX12_init_26 : decode cX12_init 26 = .ok (.putfield 16, 3) := by decide +kernel
theorem dX12_init_29 : decode cX12_init 29 = .ok (.aload_n 0, 1) := by decide +kernel
theorem dX12_init_30 : decode cX12_init 30 = .ok (.sipush 128, 3) := by decide +kernel
theorem dX12_init_33 : decode cX12_init 33 = .ok (.newarray .int, 2) := by decide +kernel
theorem dX12_init_35 : decode cX12_init 35 = .ok (.putfield 19, 3) := by decide +kernel
theorem dX12_init_38 : decode cX12_init 38 = .ok (.aload_n 0, 1) := by decide +kernel
theorem dX12_init_39 : decode cX12_init 39 = .ok (.sipush 320, 3) := by decide +kernel
theorem dX12_init_42 : decode cX12_init 42 = .ok (.newarray .boolean, 2) := by decide +kernel
theorem dX12_init_44 : decode cX12_init 44 = .ok (.putfield 22, 3) := by decide +kernel
theorem dX12_init_47 : decode cX12_init 47 = .ok (.aload_n 0, 1) := by decide +kernel
theorem dX12_init_48 : decode cX12_init 48 = .ok (.sipush 200, 3) := by decide +kernel
theorem dX12_init_51 : decode cX12_init 51 = .ok (.newarray .byte, 2) := by decide +kernel
theorem dX12_init_53 : decode cX12_init 53 = .ok (.putfield 26, 3) := by decide +kernel
theorem dX12_init_56 : decode cX12_init 56 = .ok (.aload_n 0, 1) := by decide +kernel
theorem dX12_init_57 : decode cX12_init 57 = .ok (.sipush 180, 3) := by decide +kernel
theorem dX12_init_60 : decode cX12_init 60 = .ok (.newarray .int, 2) := by decide +kernel
theorem dX12_init_62 : decode cX12_init 62 = .ok (.putfield 30, 3) := by decide +kernel
theorem dX12_init_65 : decode cX12_init 65 = .ok (.aload_n 0, 1) := by decide +kernel
theorem dX12_init_66 : decode cX12_init 66 = .ok (.sipush 180, 3) := by decide +kernel
theorem dX12_init_69 : decode cX12_init 69 = .ok (.newarray .int, 2) := by decide +kernel
theorem dX12_init_71 : decode cX12_init 71 = .ok (.putfield 33, 3) := by decide +kernel
theorem dX12_init_74 : decode cX12_init 74 = .ok (.aload_n 0, 1) := by decide +kernel
theorem dX12_init_75 : decode cX12_init 75 = .ok (.bipush 12, 2) := by decide +kernel
theorem dX12_init_77 : decode cX12_init 77 = .ok (.newarray .int, 2) := by decide +kernel
theorem dX12_init_79 : decode cX12_init 79 = .ok (.putfield 36, 3) := by decide +kernel
theorem dX12_init_82 : decode cX12_init 82 = .ok (.aload_n 0, 1) := by decide +kernel
theorem dX12_init_83 : decode cX12_init 83 = .ok (.bipush 12, 2) := by decide +kernel
theorem dX12_init_85 : decode cX12_init 85 = .ok (.newarray .int, 2) := by decide +kernel
theorem dX12_init_87 : decode cX12_init 87 = .ok (.putfield 39, 3) := by decide +kernel
theorem dX12_init_90 : decode cX12_init 90 = .ok (.aload_n 0, 1) := by decide +kernel
theorem dX12_init_91 : decode cX12_init 91 = .ok (.bipush 12, 2) := by decide +kernel
theorem dX12_init_93 : decode cX12_init 93 = .ok (.newarray .int, 2) := by decide +kernel
theorem dX12_init_95 : decode cX12_init 95 = .ok (.putfield 42, 3) := by decide +kernel
theorem dX12_init_98 : decode cX12_init 98 = .ok (.aload_n 0, 1) := by decide +kernel
theorem dX12_init_99 : decode cX12_init 99 = .ok (.bipush 12, 2) := by decide +kernel
theorem dX12_init_101 : decode cX12_init 101 = .ok (.newarray .int, 2) := by decide +kernel
theorem dX12_init_103 : decode cX12_init 103 = .ok (.putfield 45, 3) := by decide +kernel
theorem dX12_init_106 : decode cX12_init 106 = .ok (.aload_n 0, 1) := by decide +kernel
theorem dX12_init_107 : decode cX12_init 107 = .ok (.sipush 180, 3) := by decide +kernel
theorem dX12_init_110 : decode cX12_init 110 = .ok (.newarray .int, 2) := by decide +kernel
theorem dX12_init_112 : decode cX12_init 112 = .ok (.putfield 48, 3) := by decide +kernel
theorem dX12_init_115 : decode cX12_init 115 = .ok (.aload_n 0, 1) := by decide +kernel
theorem dX12_init_116 : decode cX12_init 116 = .ok (.bipush 12, 2) := by decide +kernel
theorem dX12_init_118 : decode cX12_init 118 = .ok (.newarray .int, 2) := by decide +kernel
theorem dX12_init_120 : decode cX12_init 120 = .ok (.putfield 51, 3) := by decide +kernel
theorem dX12_init_123 : decode cX12_init 123 = .ok (.aload_n 0, 1) := by decide +kernel
theorem dX12_init_124 : decode cX12_init 124 = .ok (.bipush 12, 2) := by decide +kernel
theorem dX12_init_126 : decode cX12_init 126 = .ok (.newarray .int, 2) := by decide +kernel
theorem dX12_init_128 : decode cX12_init 128 = .ok (.putfield 54, 3) := by decide +kernel
theorem dX12_init_131 : decode cX12_init 131 = .ok (.aload_n 0, 1) := by decide +kernel
theorem dX12_init_132 : decode cX12_init 132 = .ok (.bipush 12, 2) := by decide +kernel
theorem dX12_init_134 : decode cX12_init 134 = .ok (.newarray .int, 2) := by decide +kernel
theorem dX12_init_136 : decode cX12_init 136 = .ok (.putfield 57, 3) := by decide +kernel
theorem dX12_init_139 : decode cX12_init 139 = .ok (.aload_n 0, 1) := by decide +kernel
theorem dX12_init_140 : decode cX12_init 140 = .ok (.bipush 12, 2) := by decide +kernel
theorem dX12_init_142 : decode cX12_init 142 = .ok (.newarray .int, 2) := by decide +kernel
theorem dX12_init_144 : decode cX12_init 144 = .ok (.putfield 60, 3) := by decide +kernel
theorem dX12_init_147 : decode cX12_init 147 = .ok (.aload_n 0, 1) := by decide +kernel
theorem dX12_init_148 : decode cX12_init 148 = .ok (.sipush 180, 3) := by decide +kernel
theorem dX12_init_151 : decode cX12_init 151 = .ok (.newarray .int, 2) := by decide +kernel
theorem dX12_init_153 : decode cX12_init 153 = .ok (.putfield 63, 3) := by decide +kernel
theorem dX12_init_156 : decode cX12_init 156 = .ok (.aload_n 0, 1) := by decide +kernel
theorem dX12_init_157 : decode cX12_init 157 = .ok (.bipush 10, 2) := by decide +kernel
theorem dX12_init_159 : decode cX12_init 159 = .ok (.newarray .int, 2) := by decide +kernel
theorem dX12_init_161 : decode cX12_init 161 = .ok (.putfield 66, 3) := by decide +kernel
theorem dX12_init_164 : decode cX12_init 164 = .ok (.aload_n 0, 1) := by decide +kernel
theorem dX12_init_165 : decode cX12_init 165 = .ok (.bipush 60, 2) := by decide +kernel
theorem dX12_init_167 : decode cX12_init 167 = .ok (.newarray .int, 2) := by decide +kernel
theorem dX12_init_169 : decode cX12_init 169 = .ok (.putfield 69, 3) := by decide +kernel
theorem dX12_init_172 : decode cX12_init 172 = .ok (.aload_n 0, 1) := by decide +kernel
theorem dX12_init_173 : decode cX12_init 173 = .ok (.bipush 60, 2) := by decide +kernel
theorem dX12_init_175 : decode cX12_init 175 = .ok (.newarray .int, 2) := by decide +kernel
theorem dX12_init_177 : decode cX12_init 177 = .ok (.putfield 72, 3) := by decide +kernel
theorem dX12_init_180 : decode cX12_init 180 = .ok (.aload_n 0, 1) := by decide +kernel
theorem dX12_init_181 : decode cX12_init 181 = .ok (.bipush 60, 2) := by decide +kernel
theorem dX12_init_183 : decode cX12_init 183 = .ok (.newarray .int, 2) := by decide +kernel
theorem dX12_init_185 : decode cX12_init 185 = .ok (.putfield 75, 3) := by decide +kernel
theorem dX12_init_188 : decode cX12_init 188 = .ok (.aload_n 0, 1) := by decide +kernel
theorem dX12_init_189 : decode cX12_init 189 = .ok (.bipush 60, 2) := by decide +kernel
theorem dX12_init_191 : decode cX12_init 191 = .ok (.newarray .int, 2) := by decide +kernel
theorem dX12_init_193 : decode cX12_init 193 = .ok (.putfield 78, 3) := by decide +kernel
theorem dX12_init_196 : decode cX12_init 196 = .ok (.aload_n 0, 1) := by decide +kernel
theorem dX12_init_197 : decode cX12_init 197 = .ok (.bipush 60, 2) := by decide +kernel
theorem dX12_init_199 : decode cX12_init 199 = .ok (.newarray .int, 2) := by decide +kernel
theorem dX12_init_201 : decode cX12_init 201 = .ok (.putfield 81, 3) := by decide +kernel
theorem dX12_init_204 : decode cX12_init 204 = .ok (.aload_n 0, 1) := by decide +kernel
theorem dX12_init_205 : decode cX12_init 205 = .ok (.sipush 540, 3) := by decide +kernel
theorem dX12_init_208 : decode cX12_init 208 = .ok (.newarray .int, 2) := by decide +kernel
theorem dX12_init_210 : decode cX12_init 210 = .ok (.putfield 84, 3) := by decide +kernel
theorem dX12_init_213 : decode cX12_init 213 = .ok (.aload_n 0, 1) := by decide +kernel
theorem dX12_init_214 : decode cX12_init 214 = .ok (.bipush 40, 2) := by decide +kernel
theorem dX12_init_216 : decode cX12_init 216 = .ok (.newarray .int, 2) := by decide +kernel
theorem dX12_init_218 : decode cX12_init 218 = .ok (.putfield 87, 3) := by decide +kernel
theorem dX12_init_221 : decode cX12_init 221 = .ok (.aload_n 0, 1) := by decide +kernel
theorem dX12_init_222 : decode cX12_init 222 = .ok (.bipush 16, 2) := by decide +kernel
theorem dX12_init_224 : decode cX12_init 224 = .ok (.newarray .int, 2) := by decide +kernel
theorem dX12_init_226 : decode cX12_init 226 = .ok (.putfield 90, 3) := by decide +kernel
theorem dX12_init_229 : decode cX12_init 229 = .ok (.aload_n 0, 1) := by decide +kernel
theorem dX12_init_230 : decode cX12_init 230 = .ok (.bipush 17, 2) := by decide +kernel
theorem dX12_init_232 : decode cX12_init 232 = .ok (.newarray .long, 2) := by decide +kernel
theorem dX12_init_234 : decode cX12_init 234 = .ok (.putfield 93, 3) := by decide +kernel
theorem dX12_init_237 : decode cX12_init 237 = .ok (.aload_n 0, 1) := by decide +kernel
theorem dX12_init_238 : decode cX12_init 238 = .ok (.bipush 40, 2) := by decide +kernel
theorem dX12_init_240 : decode cX12_init 240 = .ok (.newarray .int, 2) := by decide +kernel
theorem dX12_init_242 : decode cX12_init 242 = .ok (.putfield 97, 3) := by decide +kernel
theorem dX12_init_245 : decode cX12_init 245 = .ok (.aload_n 0, 1) := by decide +kernel
theorem dX12_init_246 : decode cX12_init 246 = .ok (.sipush 697, 3) := by decide +kernel
theorem dX12_init_249 : decode cX12_init 249 = .ok (.newarray .int, 2) := by decide +kernel
theorem dX12_init_251 : decode cX12_init 251 = .ok (.putfield 100, 3) := by decide +kernel
theorem dX12_init_254 : decode cX12_init 254 = .ok (.aload_n 0, 1) := by decide +kernel
theorem dX12_init_255 : decode cX12_init 255 = .ok (.bipush 16, 2) := by decide +kernel
theorem dX12_init_257 : decode cX12_init 257 = .ok (.newarray .int, 2) := by decide +kernel
theorem dX12_init_259 : decode cX12_init 259 = .ok (.putfield 103, 3) := by decide +kernel
theorem dX12_init_262 : decode cX12_init 262 = .ok (.aload_n 0, 1) := by decide +kernel
theorem dX12_init_263 : decode cX12_init 263 = .ok (.sipush 697, 3) := by decide +kernel
theorem dX12_init_266 : decode cX12_init 266 = .ok (.newarray .int, 2) := by decide +kernel
theorem dX12_init_268 : decode cX12_init 268 = .ok (.putfield 106, 3) := by decide +kernel
theorem dX12_init_271 : decode cX12_init 271 = .ok (.aload_n 0, 1) := by decide +kernel
theorem dX12_init_272 : decode cX12_init 272 = .ok (.sipush 697, 3) := by decide +kernel
theorem dX12_init_275 : decode cX12_init 275 = .ok (.newarray .long, 2) := by decide +kernel
theorem dX12_init_277 : decode cX12_init 277 = .ok (.putfield 109, 3) := by decide +kernel
theorem dX12_init_280 : decode cX12_init 280 = .ok (.aload_n 0, 1) := by decide +kernel
theorem dX12_init_281 : decode cX12_init 281 = .ok (.iconst 4, 1) := by decide +kernel
theorem dX12_init_282 : decode cX12_init 282 = .ok (.newarray .int, 2) := by decide +kernel
theorem dX12_init_284 : decode cX12_init 284 = .ok (.putfield 112, 3) := by decide +kernel
theorem dX12_init_287 : decode cX12_init 287 = .ok (.aload_n 0, 1) := by decide +kernel
theorem dX12_init_288 : decode cX12_init 288 = .ok (.iconst 4, 1) := by decide +kernel
theorem dX12_init_289 : decode cX12_init 289 = .ok (.newarray .int, 2) := by decide +kernel
theorem dX12_init_291 : decode cX12_init 291 = .ok (.putfield 115, 3) := by decide +kernel
theorem dX12_init_294 : decode cX12_init 294 = .ok (.aload_n 0, 1) := by decide +kernel
theorem dX12_init_295 : decode cX12_init 295 = .ok (.iconst 4, 1) := by decide +kernel
theorem dX12_init_296 : decode cX12_init 296 = .ok (.newarray .int, 2) := by decide +kernel
theorem dX12_init_298 : decode cX12_init 298 = .ok (.putfield 118, 3) := by decide +kernel
theorem dX12_init_301 : decode cX12_init 301 = .ok (.aload_n 0, 1) := by decide +kernel
theorem dX12_init_302 : decode cX12_init 302 = .ok (.iconst 4, 1) := by decide +kernel
theorem dX12_init_303 : decode cX12_init 303 = .ok (.newarray .int, 2) := by decide +kernel
theorem dX12_init_305 : decode cX12_init 305 = .ok (.putfield 121, 3) := by decide +kernel
theorem dX12_init_308 : decode cX12_init 308 = .ok (.aload_n 0, 1) := by decide +kernel
theorem dX12_init_309 : decode cX12_init 309 = .ok (.sipush 4913, 3) := by decide +kernel
theorem dX12_init_312 : decode cX12_init 312 = .ok (.newarray .int, 2) := by decide +kernel
theorem dX12_init_314 : decode cX12_init 314 = .ok (.putfield 124, 3) := by decide +kernel
theorem dX12_init_317 : decode cX12_init 317 = .ok (.aload_n 0, 1) := by decide +kernel
theorem dX12_init_318 : decode cX12_init 318 = .ok (.bipush 16, 2) := by decide +kernel
theorem dX12_init_320 : decode cX12_init 320 = .ok (.newarray .int, 2) := by decide +kernel
theorem dX12_init_322 : decode cX12_init 322 = .ok (.putfield 127, 3) := by decide +kernel
theorem dX12_init_325 : decode cX12_init 325 = .ok (.aload_n 0, 1) := by decide +kernel
theorem dX12_init_326 : decode cX12_init 326 = .ok (.sipush 28561, 3) := by decide +kernel
theorem dX12_init_329 : decode cX12_init 329 = .ok (.newarray .int, 2) := by decide +kernel
theorem dX12_init_331 : decode cX12_init 331 = .ok (.putfield 130, 3) := by decide +kernel
theorem dX12_init_334 : decode cX12_init 334 = .ok (.aload_n 0, 1) := by decide +kernel
theorem dX12_init_335 : decode cX12_init 335 = .ok (.sipush 28561, 3) := by decide +kernel
theorem dX12_init_338 : decode cX12_init 338 = .ok (.newarray .long, 2) := by decide +kernel
theorem dX12_init_340 : decode cX12_init 340 = .ok (.putfield 133, 3) := by decide +kernel
theorem dX12_init_343 : decode cX12_init 343 = .ok (.aload_n 0, 1) := by decide +kernel
theorem dX12_init_344 : decode cX12_init 344 = .ok (.bipush 64, 2) := by decide +kernel
theorem dX12_init_346 : decode cX12_init 346 = .ok (.newarray .boolean, 2) := by decide +kernel
theorem dX12_init_348 : decode cX12_init 348 = .ok (.putfield 136, 3) := by decide +kernel
theorem dX12_init_351 : decode cX12_init 351 = .ok (.aload_n 0, 1) := by decide +kernel
theorem dX12_init_352 : decode cX12_init 352 = .ok (.sipush 2304, 3) := by decide +kernel
theorem dX12_init_355 : decode cX12_init 355 = .ok (.newarray .int, 2) := by decide +kernel
theorem dX12_init_357 : decode cX12_init 357 = .ok (.putfield 139, 3) := by decide +kernel
theorem dX12_init_360 : decode cX12_init 360 = .ok (.aload_n 0, 1) := by decide +kernel
theorem dX12_init_361 : decode cX12_init 361 = .ok (.bipush 72, 2) := by decide +kernel
theorem dX12_init_363 : decode cX12_init 363 = .ok (.newarray .boolean, 2) := by decide +kernel
theorem dX12_init_365 : decode cX12_init 365 = .ok (.putfield 142, 3) := by decide +kernel
theorem dX12_init_368 : decode cX12_init 368 = .ok (.aload_n 0, 1) := by decide +kernel
theorem dX12_init_369 : decode cX12_init 369 = .ok (.sipush 2304, 3) := by decide +kernel
theorem dX12_init_372 : decode cX12_init 372 = .ok (.newarray .int, 2) := by decide +kernel
theorem dX12_init_374 : decode cX12_init 374 = .ok (.putfield 145, 3) := by decide +kernel
theorem dX12_init_377 : decode cX12_init 377 = .ok (.aload_n 0, 1) := by decide +kernel
theorem dX12_init_378 : decode cX12_init 378 = .ok (.iconst 1, 1) := by decide +kernel
theorem dX12_init_379 : decode cX12_init 379 = .ok (.putfield 148, 3) := by decide +kernel
theorem dX12_init_382 : decode cX12_init 382 = .ok (.return_, 1) := by decide +kernel
theorem dX12_isAsked_0 : decode cX12_isAsked 0 = .ok (.aload_n 0, 1) := by decide +kernel
theorem dX12_isAsked_1 : decode cX12_isAsked 1 = .ok (.iload_n 1, 1) := by decide +kernel
theorem dX12_isAsked_2 : decode cX12_isAsked 2 = .ok (.invokevirtual 172, 3) := by decide +kernel
theorem dX12_isAsked_5 : decode cX12_isAsked 5 = .ok (.ifCond .eq 15, 3) := by decide +kernel
theorem dX12_isAsked_20 : decode cX12_isAsked 20 = .ok (.iconst 0, 1) := by decide +kernel
theorem dX12_isAsked_21 : decode cX12_isAsked 21 = .ok (.ireturn, 1) := by decide +kernel
theorem dX12_isBlank_0 : decode cX12_isBlank 0 = .ok (.iload_n 1, 1) := by decide +kernel
theorem dX12_isBlank_1 : decode cX12_isBlank 1 = .ok (.ifCond .lt 15, 3) := by decide +kernel
theorem dX12_isBlank_4 : decode cX12_isBlank 4 = .ok (.iload_n 1, 1) := by decide +kernel
theorem dX12_isBlank_5 : decode cX12_isBlank 5 = .ok (.aload_n 0, 1) := by decide +kernel
theorem dX12_isBlank_6 : decode cX12_isBlank 6 = .ok (.getfield 152, 3) := by decide +kernel
theorem dX12_isBlank_9 : decode cX12_isBlank 9 = .ok (.if_icmp .ge 7, 3) := by decide +kernel
theorem dX12_isBlank_16 : decode cX12_isBlank 16 = .ok (.iconst 0, 1) := by decide +kernel
theorem dX12_isBlank_17 : decode cX12_isBlank 17 = .ok (.ireturn, 1) := by decide +kernel
theorem dX12_isDeed_0 : decode cX12_isDeed 0 = .ok (.iload_n 1, 1) := by decide +kernel
theorem dX12_isDeed_1 : decode cX12_isDeed 1 = .ok (.ifCond .lt 25, 3) := by decide +kernel
theorem dX12_isDeed_4 : decode cX12_isDeed 4 = .ok (.iload_n 1, 1) := by decide +kernel
theorem dX12_isDeed_5 : decode cX12_isDeed 5 = .ok (.bipush 8, 2) := by decide +kernel
theorem dX12_isDeed_7 : decode cX12_isDeed 7 = .ok (.if_icmp .ge 19, 3) := by decide +kernel
theorem dX12_isDeed_10 : decode cX12_isDeed 10 = .ok (.aload_n 0, 1) := by decide +kernel
theorem dX12_isDeed_11 : decode cX12_isDeed 11 = .ok (.getfield 155, 3) := by decide +kernel
theorem dX12_isDeed_14 : decode cX12_isDeed 14 = .ok (.iload_n 1, 1) := by decide +kernel
theorem dX12_isDeed_15 : decode cX12_isDeed 15 = .ok (.ishr, 1) := by decide +kernel
theorem dX12_isDeed_16 : decode cX12_isDeed 16 = .ok (.iconst 1, 1) := by decide +kernel
theorem dX12_isDeed_17 : decode cX12_isDeed 17 = .ok (.iand, 1) := by decide +kernel
theorem dX12_isDeed_18 : decode cX12_isDeed 18 = .ok (.iconst 1, 1) := by decide +kernel
theorem dX12_isDeed_19 : decode cX12_isDeed 19 = .ok (.if_icmp .ne 7, 3) := by decide +kernel
theorem dX12_isDeed_26 : decode cX12_isDeed 26 = .ok (.iconst 0, 1) := by decide +kernel
theorem dX12_isDeed_27 : decode cX12_isDeed 27 = .ok (.ireturn, 1) := by decide +kernel
theorem dX12_law_0 : decode cX12_law 0 = .ok (.iload_n 1, 1) := by decide +kernel
theorem dX12_law_1 : decode cX12_law 1 = .ok (.iconst 1, 1) := by decide +kernel
theorem dX12_law_2 : decode cX12_law 2 = .ok (.sipush 160, 3) := by decide +kernel
theorem dX12_law_5 : decode cX12_law 5 = .ok (.invokestatic 161, 3) := by decide +kernel
theorem dX12_law_8 : decode cX12_law 8 = .ok (.ifCond .eq 11, 3) := by decide +kernel
theorem dX12_law_11 : decode cX12_law 11 = .ok (.iload_n 1, 1) := by decide +kernel
theorem dX12_law_12 : decode cX12_law 12 = .ok (.aload_n 0, 1) := by decide +kernel
theorem dX12_law_13 : decode cX12_law 13 = .ok (.getfield 165, 3) := by decide +kernel
theorem dX12_law_16 : decode cX12_law 16 = .ok (.if_icmp .le 5, 3) := by decide +kernel
theorem dX12_law_19 : decode cX12_law 19 = .ok (.iconst (-1), 1) := by decide +kernel
theorem dX12_law_20 : decode cX12_law 20 = .ok (.ireturn, 1) := by decide +kernel
theorem dX12_left_0 : decode cX12_left 0 = .ok (.aload_n 0, 1) := by decide +kernel
theorem dX12_left_1 : decode cX12_left 1 = .ok (.iload_n 1, 1) := by decide +kernel
theorem dX12_left_2 : decode cX12_left 2 = .ok (.invokevirtual 172, 3) := by decide +kernel
theorem dX12_left_5 : decode cX12_left 5 = .ok (.ifCond .eq 25, 3) := by decide +kernel
theorem dX12_left_30 : decode cX12_left 30 = .ok (.iconst (-1), 1) := by decide +kernel
theorem dX12_left_31 : decode cX12_left 31 = .ok (.ireturn, 1) := by decide +kernel
theorem dX12_may_0 : decode cX12_may 0 = .ok (.aload_n 0, 1) := by decide +kernel
theorem dX12_may_1 : decode cX12_may 1 = .ok (.iload_n 1, 1) := by decide +kernel
theorem dX12_may_2 : decode cX12_may 2 = .ok (.invokevirtual 172, 3) := by decide +kernel
theorem dX12_may_5 : decode cX12_may 5 = .ok (.ifCond .eq 33, 3) := by decide +kernel
theorem dX12_may_38 : decode cX12_may 38 = .ok (.iconst (-1), 1) := by decide +kernel
theorem dX12_may_39 : decode cX12_may 39 = .ok (.ireturn, 1) := by decide +kernel
theorem dX12_seed_0 : decode cX12_seed 0 = .ok (.iload_n 1, 1) := by decide +kernel
theorem dX12_seed_1 : decode cX12_seed 1 = .ok (.iconst 0, 1) := by decide +kernel
theorem dX12_seed_2 : decode cX12_seed 2 = .ok (.ldc_w 463, 3) := by decide +kernel
theorem dX12_seed_5 : decode cX12_seed 5 = .ok (.invokestatic 161, 3) := by decide +kernel
theorem dX12_seed_8 : decode cX12_seed 8 = .ok (.ifCond .ne 5, 3) := by decide +kernel
theorem dX12_seed_11 : decode cX12_seed 11 = .ok (.iconst 0, 1) := by decide +kernel
theorem dX12_seed_12 : decode cX12_seed 12 = .ok (.ireturn, 1) := by decide +kernel
theorem dX12_seed_13 : decode cX12_seed 13 = .ok (.aload_n 0, 1) := by decide +kernel
theorem dX12_seed_14 : decode cX12_seed 14 = .ok (.iload_n 1, 1) := by decide +kernel
theorem dX12_seed_15 : decode cX12_seed 15 = .ok (.putfield 148, 3) := by decide +kernel
theorem dX12_seed_18 : decode cX12_seed 18 = .ok (.iconst 1, 1) := by decide +kernel
theorem dX12_seed_19 : decode cX12_seed 19 = .ok (.ireturn, 1) := by decide +kernel
theorem dX12_shortest_0 : decode cX12_shortest 0 = .ok (.aload_n 0, 1) := by decide +kernel
theorem dX12_shortest_1 : decode cX12_shortest 1 = .ok (.iload_n 1, 1) := by decide +kernel
theorem dX12_shortest_2 : decode cX12_shortest 2 = .ok (.iconst 2, 1) := by decide +kernel
theorem dX12_shortest_3 : decode cX12_shortest 3 = .ok (.iconst 4, 1) := by decide +kernel
theorem dX12_shortest_4 : decode cX12_shortest 4 = .ok (.invokevirtual 391, 3) := by decide +kernel
theorem dX12_shortest_7 : decode cX12_shortest 7 = .ok (.ifCond .eq 8, 3) := by decide +kernel
theorem dX12_shortest_15 : decode cX12_shortest 15 = .ok (.iconst (-1), 1) := by decide +kernel
theorem dX12_shortest_16 : decode cX12_shortest 16 = .ok (.ireturn, 1) := by decide +kernel
theorem dX12_shortestMany_0 : decode cX12_shortestMany 0 = .ok (.aload_n 0, 1) := by decide +kernel
theorem dX12_shortestMany_1 : decode cX12_shortestMany 1 = .ok (.iload_n 1, 1) := by decide +kernel
theorem dX12_shortestMany_2 : decode cX12_shortestMany 2 = .ok (.iconst 2, 1) := by decide +kernel
theorem dX12_shortestMany_3 : decode cX12_shortestMany 3 = .ok (.iconst 4, 1) := by decide +kernel
theorem dX12_shortestMany_4 : decode cX12_shortestMany 4 = .ok (.invokevirtual 391, 3) := by decide +kernel
theorem dX12_shortestMany_7 : decode cX12_shortestMany 7 = .ok (.ifCond .ne 7, 3) := by decide +kernel
theorem dX12_shortestMany_10 : decode cX12_shortestMany 10 = .ok (.ldc2_w 332, 3) := by decide +kernel
theorem dX12_shortestMany_13 : decode cX12_shortestMany 13 = .ok (.lreturn, 1) := by decide +kernel
theorem dX12_spare_0 : decode cX12_spare 0 = .ok (.aload_n 0, 1) := by decide +kernel
theorem dX12_spare_1 : decode cX12_spare 1 = .ok (.iload_n 1, 1) := by decide +kernel
theorem dX12_spare_2 : decode cX12_spare 2 = .ok (.invokevirtual 172, 3) := by decide +kernel
theorem dX12_spare_5 : decode cX12_spare 5 = .ok (.ifCond .eq 15, 3) := by decide +kernel
theorem dX12_spare_20 : decode cX12_spare 20 = .ok (.ldc2_w 332, 3) := by decide +kernel
theorem dX12_spare_23 : decode cX12_spare 23 = .ok (.lreturn, 1) := by decide +kernel
theorem dX12_spreads_0 : decode cX12_spreads 0 = .ok (.iload_n 1, 1) := by decide +kernel
theorem dX12_spreads_1 : decode cX12_spreads 1 = .ok (.iconst 0, 1) := by decide +kernel
theorem dX12_spreads_2 : decode cX12_spreads 2 = .ok (.sipush 255, 3) := by decide +kernel
theorem dX12_spreads_5 : decode cX12_spreads 5 = .ok (.invokestatic 161, 3) := by decide +kernel
theorem dX12_spreads_8 : decode cX12_spreads 8 = .ok (.ifCond .eq 30, 3) := by decide +kernel
theorem dX12_spreads_11 : decode cX12_spreads 11 = .ok (.iload_n 1, 1) := by decide +kernel
theorem dX12_spreads_12 : decode cX12_spreads 12 = .ok (.aload_n 0, 1) := by decide +kernel
theorem dX12_spreads_13 : decode cX12_spreads 13 = .ok (.getfield 155, 3) := by decide +kernel
theorem dX12_spreads_16 : decode cX12_spreads 16 = .ok (.iconst (-1), 1) := by decide +kernel
theorem dX12_spreads_17 : decode cX12_spreads 17 = .ok (.ixor, 1) := by decide +kernel
theorem dX12_spreads_18 : decode cX12_spreads 18 = .ok (.iand, 1) := by decide +kernel
theorem dX12_spreads_19 : decode cX12_spreads 19 = .ok (.ifCond .ne 19, 3) := by decide +kernel
theorem dX12_spreads_22 : decode cX12_spreads 22 = .ok (.iload_n 1, 1) := by decide +kernel
theorem dX12_spreads_23 : decode cX12_spreads 23 = .ok (.invokestatic 366, 3) := by decide +kernel
theorem dX12_spreads_26 : decode cX12_spreads 26 = .ok (.iload_n 2, 1) := by decide +kernel
theorem dX12_spreads_27 : decode cX12_spreads 27 = .ok (.if_icmp .lt 11, 3) := by decide +kernel
theorem dX12_spreads_38 : decode cX12_spreads 38 = .ok (.iconst 0, 1) := by decide +kernel
theorem dX12_spreads_39 : decode cX12_spreads 39 = .ok (.ireturn, 1) := by decide +kernel
theorem dX12_strike_0 : decode cX12_strike 0 = .ok (.aload_n 0, 1) := by decide +kernel
theorem dX12_strike_1 : decode cX12_strike 1 = .ok (.iload_n 1, 1) := by decide +kernel
theorem dX12_strike_2 : decode cX12_strike 2 = .ok (.invokevirtual 172, 3) := by decide +kernel
theorem dX12_strike_5 : decode cX12_strike 5 = .ok (.ifCond .eq 36, 3) := by decide +kernel
theorem dX12_strike_41 : decode cX12_strike 41 = .ok (.iconst (-1), 1) := by decide +kernel
theorem dX12_strike_42 : decode cX12_strike 42 = .ok (.ireturn, 1) := by decide +kernel
theorem dX12_strokes_0 : decode cX12_strokes 0 = .ok (.aload_n 0, 1) := by decide +kernel
theorem dX12_strokes_1 : decode cX12_strokes 1 = .ok (.iload_n 1, 1) := by decide +kernel
theorem dX12_strokes_2 : decode cX12_strokes 2 = .ok (.iload_n 2, 1) := by decide +kernel
theorem dX12_strokes_3 : decode cX12_strokes 3 = .ok (.invokevirtual 329, 3) := by decide +kernel
theorem dX12_strokes_6 : decode cX12_strokes 6 = .ok (.ifCond .eq 13, 3) := by decide +kernel
theorem dX12_strokes_19 : decode cX12_strokes 19 = .ok (.iconst (-1), 1) := by decide +kernel
theorem dX12_strokes_20 : decode cX12_strokes 20 = .ok (.ireturn, 1) := by decide +kernel
theorem dX12_types_0 : decode cX12_types 0 = .ok (.iconst 3, 1) := by decide +kernel
theorem dX12_types_1 : decode cX12_types 1 = .ok (.istore_n 2, 1) := by decide +kernel
theorem dX12_types_2 : decode cX12_types 2 = .ok (.iload_n 2, 1) := by decide +kernel
theorem dX12_types_3 : decode cX12_types 3 = .ok (.ifCond .lt 35, 3) := by decide +kernel
theorem dX12_types_6 : decode cX12_types 6 = .ok (.aload_n 0, 1) := by decide +kernel
theorem dX12_types_7 : decode cX12_types 7 = .ok (.getfield 26, 3) := by decide +kernel
theorem dX12_types_10 : decode cX12_types 10 = .ok (.aload_n 0, 1) := by decide +kernel
theorem dX12_types_11 : decode cX12_types 11 = .ok (.getfield 165, 3) := by decide +kernel
theorem dX12_types_14 : decode cX12_types 14 = .ok (.iload_n 1, 1) := by decide +kernel
theorem dX12_types_15 : decode cX12_types 15 = .ok (.bipush 8, 2) := by decide +kernel
theorem dX12_types_17 : decode cX12_types 17 = .ok (.iload_n 2, 1) := by decide +kernel
theorem dX12_types_18 : decode cX12_types 18 = .ok (.imul, 1) := by decide +kernel
theorem dX12_types_19 : decode cX12_types 19 = .ok (.ishr, 1) := by decide +kernel
theorem dX12_types_20 : decode cX12_types 20 = .ok (.i2b, 1) := by decide +kernel
theorem dX12_types_21 : decode cX12_types 21 = .ok (.bastore, 1) := by decide +kernel
theorem dX12_types_22 : decode cX12_types 22 = .ok (.aload_n 0, 1) := by decide +kernel
theorem dX12_types_23 : decode cX12_types 23 = .ok (.aload_n 0, 1) := by decide +kernel
theorem dX12_types_24 : decode cX12_types 24 = .ok (.getfield 165, 3) := by decide +kernel
theorem dX12_types_27 : decode cX12_types 27 = .ok (.iconst 1, 1) := by decide +kernel
theorem dX12_types_28 : decode cX12_types 28 = .ok (.iadd, 1) := by decide +kernel
theorem dX12_types_29 : decode cX12_types 29 = .ok (.putfield 165, 3) := by decide +kernel
theorem dX12_types_32 : decode cX12_types 32 = .ok (.iinc 2 (-1), 3) := by decide +kernel
theorem dX12_types_35 : decode cX12_types 35 = .ok (.goto (-33), 3) := by decide +kernel
theorem dX12_types_38 : decode cX12_types 38 = .ok (.return_, 1) := by decide +kernel
theorem dX12_ways_0 : decode cX12_ways 0 = .ok (.aload_n 0, 1) := by decide +kernel
theorem dX12_ways_1 : decode cX12_ways 1 = .ok (.iload_n 1, 1) := by decide +kernel
theorem dX12_ways_2 : decode cX12_ways 2 = .ok (.iload_n 2, 1) := by decide +kernel
theorem dX12_ways_3 : decode cX12_ways 3 = .ok (.invokevirtual 329, 3) := by decide +kernel
theorem dX12_ways_6 : decode cX12_ways 6 = .ok (.ifCond .ne 7, 3) := by decide +kernel
theorem dX12_ways_9 : decode cX12_ways 9 = .ok (.ldc2_w 332, 3) := by decide +kernel
theorem dX12_ways_12 : decode cX12_ways 12 = .ok (.lreturn, 1) := by decide +kernel
theorem dX12_worth_0 : decode cX12_worth 0 = .ok (.aload_n 0, 1) := by decide +kernel
theorem dX12_worth_1 : decode cX12_worth 1 = .ok (.iload_n 1, 1) := by decide +kernel
theorem dX12_worth_2 : decode cX12_worth 2 = .ok (.invokevirtual 172, 3) := by decide +kernel
theorem dX12_worth_5 : decode cX12_worth 5 = .ok (.ifCond .eq 24, 3) := by decide +kernel
theorem dX12_worth_29 : decode cX12_worth 29 = .ok (.sipush (-1000), 3) := by decide +kernel
theorem dX12_worth_32 : decode cX12_worth 32 = .ok (.ireturn, 1) := by decide +kernel
theorem dX1_costOfAll_0 : decode cX1_costOfAll 0 = .ok (.iconst 0, 1) := by decide +kernel
theorem dX1_costOfAll_1 : decode cX1_costOfAll 1 = .ok (.istore_n 1, 1) := by decide +kernel
theorem dX1_costOfAll_2 : decode cX1_costOfAll 2 = .ok (.iconst 0, 1) := by decide +kernel
theorem dX1_costOfAll_3 : decode cX1_costOfAll 3 = .ok (.istore_n 2, 1) := by decide +kernel
theorem dX1_costOfAll_4 : decode cX1_costOfAll 4 = .ok (.iload_n 2, 1) := by decide +kernel
theorem dX1_costOfAll_5 : decode cX1_costOfAll 5 = .ok (.aload_n 0, 1) := by decide +kernel
theorem dX1_costOfAll_6 : decode cX1_costOfAll 6 = .ok (.getfield 30, 3) := by decide +kernel
theorem dX1_costOfAll_9 : decode cX1_costOfAll 9 = .ok (.if_icmp .ge 18, 3) := by decide +kernel
theorem dX1_costOfAll_27 : decode cX1_costOfAll 27 = .ok (.iload_n 1, 1) := by decide +kernel
theorem dX1_costOfAll_28 : decode cX1_costOfAll 28 = .ok (.ireturn, 1) := by decide +kernel
theorem dX1_init_0 : decode cX1_init 0 = .ok (.aload_n 0, 1) := by decide +kernel
theorem dX1_init_1 : decode cX1_init 1 = .ok (.invokespecial 3, 3) := by decide +kernel
theorem dX1_init_4 : decode cX1_init 4 = .ok (.aload_n 0, 1) := by decide +kernel
theorem dX1_init_5 : decode cX1_init 5 = .ok (.bipush 60, 2) := by decide +kernel
theorem dX1_init_7 : decode cX1_init 7 = .ok (.newarray .int, 2) := by decide +kernel
theorem dX1_init_9 : decode cX1_init 9 = .ok (.putfield 9, 3) := by decide +kernel
theorem dX1_init_12 : decode cX1_init 12 = .ok (.aload_n 0, 1) := by decide +kernel
theorem dX1_init_13 : decode cX1_init 13 = .ok (.bipush 60, 2) := by decide +kernel
theorem dX1_init_15 : decode cX1_init 15 = .ok (.newarray .int, 2) := by decide +kernel
theorem dX1_init_17 : decode cX1_init 17 = .ok (.putfield 15, 3) := by decide +kernel
theorem dX1_init_20 : decode cX1_init 20 = .ok (.aload_n 0, 1) := by decide +kernel
theorem dX1_init_21 : decode cX1_init 21 = .ok (.bipush 60, 2) := by decide +kernel
theorem dX1_init_23 : decode cX1_init 23 = .ok (.newarray .int, 2) := by decide +kernel
theorem dX1_init_25 : decode cX1_init 25 = .ok (.putfield 18, 3) := by decide +kernel
theorem dX1_init_28 : decode cX1_init 28 = .ok (.aload_n 0, 1) := by decide +kernel
theorem dX1_init_29 : decode cX1_init 29 = .ok (.bipush 60, 2) := by decide +kernel
theorem dX1_init_31 : decode cX1_init 31 = .ok (.newarray .int, 2) := by decide +kernel
theorem dX1_init_33 : decode cX1_init 33 = .ok (.putfield 21, 3) := by decide +kernel
theorem dX1_init_36 : decode cX1_init 36 = .ok (.aload_n 0, 1) := by decide +kernel
theorem dX1_init_37 : decode cX1_init 37 = .ok (.bipush 60, 2) := by decide +kernel
theorem dX1_init_39 : decode cX1_init 39 = .ok (.newarray .int, 2) := by decide +kernel
theorem dX1_init_41 : decode cX1_init 41 = .ok (.putfield 24, 3) := by decide +kernel
theorem dX1_init_44 : decode cX1_init 44 = .ok (.aload_n 0, 1) := by decide +kernel
theorem dX1_init_45 : decode cX1_init 45 = .ok (.sipush 540, 3) := by decide +kernel
theorem dX1_init_48 : decode cX1_init 48 = .ok (.newarray .int, 2) := by decide +kernel
theorem dX1_init_50 : decode cX1_init 50 = .ok (.putfield 27, 3) := by decide +kernel
theorem dX1_init_53 : decode cX1_init 53 = .ok (.aload_n 0, 1) := by decide +kernel
theorem dX1_init_54 : decode cX1_init 54 = .ok (.iconst 0, 1) := by decide +kernel
theorem dX1_init_55 : decode cX1_init 55 = .ok (.putfield 30, 3) := by decide +kernel
theorem dX1_init_58 : decode cX1_init 58 = .ok (.return_, 1) := by decide +kernel
theorem dX1_lastOf_0 : decode cX1_lastOf 0 = .ok (.aload_n 0, 1) := by decide +kernel
theorem dX1_lastOf_1 : decode cX1_lastOf 1 = .ok (.getfield 30, 3) := by decide +kernel
theorem dX1_lastOf_4 : decode cX1_lastOf 4 = .ok (.iconst 1, 1) := by decide +kernel
theorem dX1_lastOf_5 : decode cX1_lastOf 5 = .ok (.isub, 1) := by decide +kernel
theorem dX1_lastOf_6 : decode cX1_lastOf 6 = .ok (.istore_n 2, 1) := by decide +kernel
theorem dX1_lastOf_7 : decode cX1_lastOf 7 = .ok (.iload_n 2, 1) := by decide +kernel
theorem dX1_lastOf_8 : decode cX1_lastOf 8 = .ok (.ifCond .lt 21, 3) := by decide +kernel
theorem dX1_lastOf_29 : decode cX1_lastOf 29 = .ok (.iconst (-1), 1) := by decide +kernel
theorem dX1_lastOf_30 : decode cX1_lastOf 30 = .ok (.ireturn, 1) := by decide +kernel
theorem dX1_tell_0 : decode cX1_tell 0 = .ok (.iload_n 1, 1) := by decide +kernel
theorem dX1_tell_1 : decode cX1_tell 1 = .ok (.ifCond .lt 11, 3) := by decide +kernel
theorem dX1_tell_4 : decode cX1_tell 4 = .ok (.iload_n 1, 1) := by decide +kernel
theorem dX1_tell_5 : decode cX1_tell 5 = .ok (.aload_n 0, 1) := by decide +kernel
theorem dX1_tell_6 : decode cX1_tell 6 = .ok (.getfield 30, 3) := by decide +kernel
theorem dX1_tell_9 : decode cX1_tell 9 = .ok (.if_icmp .lt 7, 3) := by decide +kernel
theorem dX1_tell_12 : decode cX1_tell 12 = .ok (.sipush (-1000), 3) := by decide +kernel
theorem dX1_tell_15 : decode cX1_tell 15 = .ok (.ireturn, 1) := by decide +kernel
theorem dX2_init_0 : decode cX2_init 0 = .ok (.aload_n 0, 1) := by decide +kernel
theorem dX2_init_1 : decode cX2_init 1 = .ok (.invokespecial 3, 3) := by decide +kernel
theorem dX2_init_4 : decode cX2_init 4 = .ok (.aload_n 0, 1) := by decide +kernel
theorem dX2_init_5 : decode cX2_init 5 = .ok (.bipush 40, 2) := by decide +kernel
theorem dX2_init_7 : decode cX2_init 7 = .ok (.newarray .boolean, 2) := by decide +kernel
theorem dX2_init_9 : decode cX2_init 9 = .ok (.putfield 9, 3) := by decide +kernel
theorem dX2_init_12 : decode cX2_init 12 = .ok (.aload_n 0, 1) := by decide +kernel
theorem dX2_init_13 : decode cX2_init 13 = .ok (.bipush 40, 2) := by decide +kernel
theorem dX2_init_15 : decode cX2_init 15 = .ok (.newarray .int, 2) := by decide +kernel
theorem dX2_init_17 : decode cX2_init 17 = .ok (.putfield 15, 3) := by decide +kernel
theorem dX2_init_20 : decode cX2_init 20 = .ok (.aload_n 0, 1) := by decide +kernel
theorem dX2_init_21 : decode cX2_init 21 = .ok (.bipush 16, 2) := by decide +kernel
theorem dX2_init_23 : decode cX2_init 23 = .ok (.newarray .int, 2) := by decide +kernel
theorem dX2_init_25 : decode cX2_init 25 = .ok (.putfield 19, 3) := by decide +kernel
theorem dX2_init_28 : decode cX2_init 28 = .ok (.aload_n 0, 1) := by decide +kernel
theorem dX2_init_29 : decode cX2_init 29 = .ok (.sipush 697, 3) := by decide +kernel
theorem dX2_init_32 : decode cX2_init 32 = .ok (.newarray .int, 2) := by decide +kernel
theorem dX2_init_34 : decode cX2_init 34 = .ok (.putfield 22, 3) := by decide +kernel
theorem dX2_init_37 : decode cX2_init 37 = .ok (.return_, 1) := by decide +kernel
theorem dX4_init_0 : decode cX4_init 0 = .ok (.aload_n 0, 1) := by decide +kernel
theorem dX4_init_1 : decode cX4_init 1 = .ok (.invokespecial 3, 3) := by decide +kernel
theorem dX4_init_4 : decode cX4_init 4 = .ok (.aload_n 0, 1) := by decide +kernel
theorem dX4_init_5 : decode cX4_init 5 = .ok (.bipush 41, 2) := by decide +kernel
theorem dX4_init_7 : decode cX4_init 7 = .ok (.newarray .int, 2) := by decide +kernel
theorem dX4_init_9 : decode cX4_init 9 = .ok (.putfield 9, 3) := by decide +kernel
theorem dX4_init_12 : decode cX4_init 12 = .ok (.aload_n 0, 1) := by decide +kernel
theorem dX4_init_13 : decode cX4_init 13 = .ok (.bipush 41, 2) := by decide +kernel
theorem dX4_init_15 : decode cX4_init 15 = .ok (.newarray .long, 2) := by decide +kernel
theorem dX4_init_17 : decode cX4_init 17 = .ok (.putfield 15, 3) := by decide +kernel
theorem dX4_init_20 : decode cX4_init 20 = .ok (.return_, 1) := by decide +kernel
theorem dX5_init_0 : decode cX5_init 0 = .ok (.aload_n 0, 1) := by decide +kernel
theorem dX5_init_1 : decode cX5_init 1 = .ok (.invokespecial 3, 3) := by decide +kernel
theorem dX5_init_4 : decode cX5_init 4 = .ok (.aload_n 0, 1) := by decide +kernel
theorem dX5_init_5 : decode cX5_init 5 = .ok (.new 9, 3) := by decide +kernel
theorem dX5_init_8 : decode cX5_init 8 = .ok (.dup, 1) := by decide +kernel
theorem dX5_init_9 : decode cX5_init 9 = .ok (.bipush 16, 2) := by decide +kernel
theorem dX5_init_11 : decode cX5_init 11 = .ok (.invokespecial 11, 3) := by decide +kernel
theorem dX5_init_14 : decode cX5_init 14 = .ok (.putfield 14, 3) := by decide +kernel
theorem dX5_init_17 : decode cX5_init 17 = .ok (.aload_n 0, 1) := by decide +kernel
theorem dX5_init_18 : decode cX5_init 18 = .ok (.iconst 0, 1) := by decide +kernel
theorem dX5_init_19 : decode cX5_init 19 = .ok (.putfield 20, 3) := by decide +kernel
theorem dX5_init_22 : decode cX5_init 22 = .ok (.aload_n 0, 1) := by decide +kernel
theorem dX5_init_23 : decode cX5_init 23 = .ok (.sipush 4913, 3) := by decide +kernel
theorem dX5_init_26 : decode cX5_init 26 = .ok (.newarray .int, 2) := by decide +kernel
theorem dX5_init_28 : decode cX5_init 28 = .ok (.putfield 24, 3) := by decide +kernel
theorem dX5_init_31 : decode cX5_init 31 = .ok (.return_, 1) := by decide +kernel
theorem dX6_init_0 : decode cX6_init 0 = .ok (.aload_n 0, 1) := by decide +kernel
theorem dX6_init_1 : decode cX6_init 1 = .ok (.invokespecial 3, 3) := by decide +kernel
theorem dX6_init_4 : decode cX6_init 4 = .ok (.aload_n 0, 1) := by decide +kernel
theorem dX6_init_5 : decode cX6_init 5 = .ok (.sipush 160, 3) := by decide +kernel
theorem dX6_init_8 : decode cX6_init 8 = .ok (.newarray .int, 2) := by decide +kernel
theorem dX6_init_10 : decode cX6_init 10 = .ok (.putfield 9, 3) := by decide +kernel
theorem dX6_init_13 : decode cX6_init 13 = .ok (.aload_n 0, 1) := by decide +kernel
theorem dX6_init_14 : decode cX6_init 14 = .ok (.sipush 160, 3) := by decide +kernel
theorem dX6_init_17 : decode cX6_init 17 = .ok (.newarray .int, 2) := by decide +kernel
theorem dX6_init_19 : decode cX6_init 19 = .ok (.putfield 15, 3) := by decide +kernel
theorem dX6_init_22 : decode cX6_init 22 = .ok (.aload_n 0, 1) := by decide +kernel
theorem dX6_init_23 : decode cX6_init 23 = .ok (.iconst 0, 1) := by decide +kernel
theorem dX6_init_24 : decode cX6_init 24 = .ok (.putfield 18, 3) := by decide +kernel
theorem dX6_init_27 : decode cX6_init 27 = .ok (.aload_n 0, 1) := by decide +kernel
theorem dX6_init_28 : decode cX6_init 28 = .ok (.bipush 12, 2) := by decide +kernel
theorem dX6_init_30 : decode cX6_init 30 = .ok (.newarray .int, 2) := by decide +kernel
theorem dX6_init_32 : decode cX6_init 32 = .ok (.putfield 22, 3) := by decide +kernel
theorem dX6_init_35 : decode cX6_init 35 = .ok (.aload_n 0, 1) := by decide +kernel
theorem dX6_init_36 : decode cX6_init 36 = .ok (.bipush 12, 2) := by decide +kernel
theorem dX6_init_38 : decode cX6_init 38 = .ok (.newarray .int, 2) := by decide +kernel
theorem dX6_init_40 : decode cX6_init 40 = .ok (.putfield 25, 3) := by decide +kernel
theorem dX6_init_43 : decode cX6_init 43 = .ok (.aload_n 0, 1) := by decide +kernel
theorem dX6_init_44 : decode cX6_init 44 = .ok (.bipush 12, 2) := by decide +kernel
theorem dX6_init_46 : decode cX6_init 46 = .ok (.newarray .int, 2) := by decide +kernel
theorem dX6_init_48 : decode cX6_init 48 = .ok (.putfield 28, 3) := by decide +kernel
theorem dX6_init_51 : decode cX6_init 51 = .ok (.aload_n 0, 1) := by decide +kernel
theorem dX6_init_52 : decode cX6_init 52 = .ok (.bipush 12, 2) := by decide +kernel
theorem dX6_init_54 : decode cX6_init 54 = .ok (.newarray .int, 2) := by decide +kernel
theorem dX6_init_56 : decode cX6_init 56 = .ok (.putfield 31, 3) := by decide +kernel
theorem dX6_init_59 : decode cX6_init 59 = .ok (.aload_n 0, 1) := by decide +kernel
theorem dX6_init_60 : decode cX6_init 60 = .ok (.iconst 0, 1) := by decide +kernel
theorem dX6_init_61 : decode cX6_init 61 = .ok (.putfield 34, 3) := by decide +kernel
theorem dX6_init_64 : decode cX6_init 64 = .ok (.aload_n 0, 1) := by decide +kernel
theorem dX6_init_65 : decode cX6_init 65 = .ok (.bipush 10, 2) := by decide +kernel
theorem dX6_init_67 : decode cX6_init 67 = .ok (.newarray .int, 2) := by decide +kernel
theorem dX6_init_69 : decode cX6_init 69 = .ok (.putfield 37, 3) := by decide +kernel
theorem dX6_init_72 : decode cX6_init 72 = .ok (.aload_n 0, 1) := by decide +kernel
theorem dX6_init_73 : decode cX6_init 73 = .ok (.bipush 32, 2) := by decide +kernel
theorem dX6_init_75 : decode cX6_init 75 = .ok (.newarray .int, 2) := by decide +kernel
theorem dX6_init_77 : decode cX6_init 77 = .ok (.putfield 40, 3) := by decide +kernel
theorem dX6_init_80 : decode cX6_init 80 = .ok (.aload_n 0, 1) := by decide +kernel
theorem dX6_init_81 : decode cX6_init 81 = .ok (.iconst 0, 1) := by decide +kernel
theorem dX6_init_82 : decode cX6_init 82 = .ok (.putfield 43, 3) := by decide +kernel
theorem dX6_init_85 : decode cX6_init 85 = .ok (.aload_n 0, 1) := by decide +kernel
theorem dX6_init_86 : decode cX6_init 86 = .ok (.iconst 0, 1) := by decide +kernel
theorem dX6_init_87 : decode cX6_init 87 = .ok (.putfield 46, 3) := by decide +kernel
theorem dX6_init_90 : decode cX6_init 90 = .ok (.return_, 1) := by decide +kernel
theorem dX7_init_0 : decode cX7_init 0 = .ok (.aload_n 0, 1) := by decide +kernel
theorem dX7_init_1 : decode cX7_init 1 = .ok (.invokespecial 3, 3) := by decide +kernel
theorem dX7_init_4 : decode cX7_init 4 = .ok (.aload_n 0, 1) := by decide +kernel
theorem dX7_init_5 : decode cX7_init 5 = .ok (.sipush 160, 3) := by decide +kernel
theorem dX7_init_8 : decode cX7_init 8 = .ok (.newarray .int, 2) := by decide +kernel
theorem dX7_init_10 : decode cX7_init 10 = .ok (.putfield 9, 3) := by decide +kernel
theorem dX7_init_13 : decode cX7_init 13 = .ok (.aload_n 0, 1) := by decide +kernel
theorem dX7_init_14 : decode cX7_init 14 = .ok (.new 15, 3) := by decide +kernel
theorem dX7_init_17 : decode cX7_init 17 = .ok (.dup, 1) := by decide +kernel
theorem dX7_init_18 : decode cX7_init 18 = .ok (.invokespecial 17, 3) := by decide +kernel
theorem dX7_init_21 : decode cX7_init 21 = .ok (.putfield 18, 3) := by decide +kernel
theorem dX7_init_24 : decode cX7_init 24 = .ok (.aload_n 0, 1) := by decide +kernel
theorem dX7_init_25 : decode cX7_init 25 = .ok (.iconst 0, 1) := by decide +kernel
theorem dX7_init_26 : decode cX7_init 26 = .ok (.putfield 22, 3) := by decide +kernel
theorem dX7_init_29 : decode cX7_init 29 = .ok (.aload_n 0, 1) := by decide +kernel
theorem dX7_init_30 : decode cX7_init 30 = .ok (.iconst 0, 1) := by decide +kernel
theorem dX7_init_31 : decode cX7_init 31 = .ok (.putfield 26, 3) := by decide +kernel
theorem dX7_init_34 : decode cX7_init 34 = .ok (.aload_n 0, 1) := by decide +kernel
theorem dX7_init_35 : decode cX7_init 35 = .ok (.iconst 0, 1) := by decide +kernel
theorem dX7_init_36 : decode cX7_init 36 = .ok (.putfield 29, 3) := by decide +kernel
theorem dX7_init_39 : decode cX7_init 39 = .ok (.return_, 1) := by decide +kernel
theorem dX8_init_0 : decode cX8_init 0 = .ok (.aload_n 0, 1) := by decide +kernel
theorem dX8_init_1 : decode cX8_init 1 = .ok (.invokespecial 3, 3) := by decide +kernel
theorem dX8_init_4 : decode cX8_init 4 = .ok (.aload_n 0, 1) := by decide +kernel
theorem dX8_init_5 : decode cX8_init 5 = .ok (.iconst 0, 1) := by decide +kernel
theorem dX8_init_6 : decode cX8_init 6 = .ok (.putfield 9, 3) := by decide +kernel
theorem dX8_init_9 : decode cX8_init 9 = .ok (.aload_n 0, 1) := by decide +kernel
theorem dX8_init_10 : decode cX8_init 10 = .ok (.iload_n 1, 1) := by decide +kernel
theorem dX8_init_11 : decode cX8_init 11 = .ok (.iconst 0, 1) := by decide +kernel
theorem dX8_init_12 : decode cX8_init 12 = .ok (.invokestatic 15, 3) := by decide +kernel
theorem dX8_init_15 : decode cX8_init 15 = .ok (.newarray .int, 2) := by decide +kernel
theorem dX8_init_17 : decode cX8_init 17 = .ok (.putfield 21, 3) := by decide +kernel
theorem dX8_init_20 : decode cX8_init 20 = .ok (.return_, 1) := by decide +kernel
theorem dX9_init_0 : decode cX9_init 0 = .ok (.aload_n 0, 1) := by decide +kernel
theorem dX9_init_1 : decode cX9_init 1 = .ok (.invokespecial 3, 3) := by decide +kernel
theorem dX9_init_4 : decode cX9_init 4 = .ok (.aload_n 0, 1) := by decide +kernel
theorem dX9_init_5 : decode cX9_init 5 = .ok (.bipush 8, 2) := by decide +kernel
theorem dX9_init_7 : decode cX9_init 7 = .ok (.newarray .int, 2) := by decide +kernel
theorem dX9_init_9 : decode cX9_init 9 = .ok (.putfield 9, 3) := by decide +kernel
theorem dX9_init_12 : decode cX9_init 12 = .ok (.aload_n 0, 1) := by decide +kernel
theorem dX9_init_13 : decode cX9_init 13 = .ok (.iconst 0, 1) := by decide +kernel
theorem dX9_init_14 : decode cX9_init 14 = .ok (.putfield 15, 3) := by decide +kernel
theorem dX9_init_17 : decode cX9_init 17 = .ok (.aload_n 0, 1) := by decide +kernel
theorem dX9_init_18 : decode cX9_init 18 = .ok (.iconst 0, 1) := by decide +kernel
theorem dX9_init_19 : decode cX9_init 19 = .ok (.putfield 19, 3) := by decide +kernel
theorem dX9_init_22 : decode cX9_init 22 = .ok (.aload_n 0, 1) := by decide +kernel
theorem dX9_init_23 : decode cX9_init 23 = .ok (.bipush 64, 2) := by decide +kernel
theorem dX9_init_25 : decode cX9_init 25 = .ok (.newarray .int, 2) := by decide +kernel
theorem dX9_init_27 : decode cX9_init 27 = .ok (.putfield 22, 3) := by decide +kernel
theorem dX9_init_30 : decode cX9_init 30 = .ok (.aload_n 0, 1) := by decide +kernel
theorem dX9_init_31 : decode cX9_init 31 = .ok (.sipush 2304, 3) := by decide +kernel
theorem dX9_init_34 : decode cX9_init 34 = .ok (.newarray .int, 2) := by decide +kernel
theorem dX9_init_36 : decode cX9_init 36 = .ok (.putfield 25, 3) := by decide +kernel
theorem dX9_init_39 : decode cX9_init 39 = .ok (.return_, 1) := by decide +kernel
