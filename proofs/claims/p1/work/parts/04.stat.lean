abbrev mL_law : pv_M := (RL, "law", cL_law, 4, some .boolean)
theorem wd15 : Cond.selects RX11 yX11_isPlace yX11_isPlace ∈ pv_T := pv_m 15 (by decide +kernel) (by decide +kernel)
theorem wd16 : Cond.selects RX11 yX11_isBlank yX11_isBlank ∈ pv_T := pv_m 16 (by decide +kernel) (by decide +kernel)
theorem wd25 : Cond.selects RX11 yX11_isDeed yX11_isDeed ∈ pv_T := pv_m 25 (by decide +kernel) (by decide +kernel)
theorem wd33 : Cond.selects RX11 yX11_areDeeds yX11_areDeeds ∈ pv_T := pv_m 33 (by decide +kernel) (by decide +kernel)
theorem wd34 : Cond.selects RX11 yX11_toldDeeds yX11_toldDeeds ∈ pv_T := pv_m 34 (by decide +kernel) (by decide +kernel)
theorem wd38 : Cond.selects RX11 yX11_refuseCover yX11_refuseCover ∈ pv_T := pv_m 38 (by decide +kernel) (by decide +kernel)
theorem wd55 : Cond.selects RX12 yX12_isBlank yX12_isBlank ∈ pv_T := pv_m 55 (by decide +kernel) (by decide +kernel)
theorem wd58 : Cond.selects RX12 yX12_types yX12_types ∈ pv_T := pv_m 58 (by decide +kernel) (by decide +kernel)
theorem wd86 : Cond.selects RX12 yX12_isAsked yX12_isAsked ∈ pv_T := pv_m 86 (by decide +kernel) (by decide +kernel)
theorem wd87 : Cond.selects RX12 yX12_isDeed yX12_isDeed ∈ pv_T := pv_m 87 (by decide +kernel) (by decide +kernel)
theorem wd96 : Cond.selects RX12 yX12_spreads yX12_spreads ∈ pv_T := pv_m 96 (by decide +kernel) (by decide +kernel)
theorem wd109 : Cond.selects RX12 yX12_areSet yX12_areSet ∈ pv_T := pv_m 109 (by decide +kernel) (by decide +kernel)
theorem wd123 : Cond.selects RX12 yX12_costAll yX12_costAll ∈ pv_T := pv_m 123 (by decide +kernel) (by decide +kernel)
theorem wd125 : Cond.initialized RX11 ∈ pv_T := pv_m 125 (by decide +kernel) (by decide +kernel)
theorem wd126 : Cond.initialized RX10 ∈ pv_T := pv_m 126 (by decide +kernel) (by decide +kernel)
theorem wd127 : Cond.initialized RX0 ∈ pv_T := pv_m 127 (by decide +kernel) (by decide +kernel)
theorem wd128 : Cond.initialized RX8 ∈ pv_T := pv_m 128 (by decide +kernel) (by decide +kernel)
theorem wd129 : Cond.initialized RJ9 ∈ pv_T := pv_m 129 (by decide +kernel) (by decide +kernel)
theorem wd130 : Cond.initialized RX6 ∈ pv_T := pv_m 130 (by decide +kernel) (by decide +kernel)
theorem wd131 : Cond.initialized RX7 ∈ pv_T := pv_m 131 (by decide +kernel) (by decide +kernel)
theorem wd132 : Cond.initialized RX1 ∈ pv_T := pv_m 132 (by decide +kernel) (by decide +kernel)
theorem wd133 : Cond.initialized RX4 ∈ pv_T := pv_m 133 (by decide +kernel) (by decide +kernel)
theorem wd134 : Cond.initialized RX2 ∈ pv_T := pv_m 134 (by decide +kernel) (by decide +kernel)
theorem wd135 : Cond.initialized RX5 ∈ pv_T := pv_m 135 (by decide +kernel) (by decide +kernel)
theorem wd136 : Cond.initialized RX9 ∈ pv_T := pv_m 136 (by decide +kernel) (by decide +kernel)
theorem wd137 : Cond.initialized RX12 ∈ pv_T := pv_m 137 (by decide +kernel) (by decide +kernel)
theorem wd145 : Cond.initialized RJ6 ∈ pv_T := pv_m 145 (by decide +kernel) (by decide +kernel)
theorem wd147 : Cond.classLink RL 7 RX11 ∈ pv_T := pv_m 147 (by decide +kernel) (by decide +kernel)
theorem wd148 : Cond.instantiable RX11 17 ∈ pv_T := pv_m 148 (by decide +kernel) (by decide +kernel)
theorem wd149 : Cond.methodLink RL 9 yX11_init ∈ pv_T := pv_m 149 (by decide +kernel) (by decide +kernel)
theorem wd150 : Cond.instanceMethod yX11_init ∈ pv_T := pv_m 150 (by decide +kernel) (by decide +kernel)
theorem wd151 : Cond.code yX11_init cX11_init 2 none ∈ pv_T := pv_m 151 (by decide +kernel) (by decide +kernel)
theorem wd152 : Cond.methodLink RX11 1 objectInit ∈ pv_T := pv_m 152 (by decide +kernel) (by decide +kernel)
theorem wd153 : Cond.instanceMethod objectInit ∈ pv_T := pv_m 153 (by decide +kernel) (by decide +kernel)
theorem wd154 : Cond.code objectInit ⟨#[0xb1]⟩ 1 none ∈ pv_T := pv_m 154 (by decide +kernel) (by decide +kernel)
theorem wd155 : Cond.classLink RX11 7 RX10 ∈ pv_T := pv_m 155 (by decide +kernel) (by decide +kernel)
theorem wd156 : Cond.instantiable RX10 2 ∈ pv_T := pv_m 156 (by decide +kernel) (by decide +kernel)
theorem wd158 : Cond.instanceMethod yX10_init ∈ pv_T := pv_m 158 (by decide +kernel) (by decide +kernel)
theorem wd159 : Cond.code yX10_init cX10_init 1 none ∈ pv_T := pv_m 159 (by decide +kernel) (by decide +kernel)
theorem wd160 : Cond.methodLink RX10 3 objectInit ∈ pv_T := pv_m 160 (by decide +kernel) (by decide +kernel)
theorem wd161 : Cond.fieldLink RX10 9 "StrikeOut$Tape" "bytes" "[I" ∈ pv_T := pv_m 161 (by decide +kernel) (by decide +kernel)
theorem wd163 : Cond.fieldLink RX10 15 "StrikeOut$Tape" "size" "I" ∈ pv_T := pv_m 163 (by decide +kernel) (by decide +kernel)
theorem wd164 : Cond.fieldLink RX11 112 "StrikeOut$Tape" "size" "I" ∈ pv_T := pv_m 164 (by decide +kernel) (by decide +kernel)
theorem wd170 : Cond.arrayClass .int ∈ pv_T := pv_m 170 (by decide +kernel) (by decide +kernel)
theorem wd171 : Cond.classLink RX11 16 RX0 ∈ pv_T := pv_m 171 (by decide +kernel) (by decide +kernel)
theorem wd173 : Cond.instantiable RX0 4 ∈ pv_T := pv_m 173 (by decide +kernel) (by decide +kernel)
theorem wd175 : Cond.instanceMethod yX0_init ∈ pv_T := pv_m 175 (by decide +kernel) (by decide +kernel)
theorem wd176 : Cond.code yX0_init cX0_init 1 none ∈ pv_T := pv_m 176 (by decide +kernel) (by decide +kernel)
theorem wd177 : Cond.methodLink RX0 3 objectInit ∈ pv_T := pv_m 177 (by decide +kernel) (by decide +kernel)
theorem wd178 : Cond.classLink RX0 9 RX8 ∈ pv_T := pv_m 178 (by decide +kernel) (by decide +kernel)
theorem wd179 : Cond.instantiable RX8 2 ∈ pv_T := pv_m 179 (by decide +kernel) (by decide +kernel)
theorem wd180 : Cond.methodLink RX0 11 yX8_init ∈ pv_T := pv_m 180 (by decide +kernel) (by decide +kernel)
theorem wd181 : Cond.instanceMethod yX8_init ∈ pv_T := pv_m 181 (by decide +kernel) (by decide +kernel)
theorem wd182 : Cond.code yX8_init cX8_init 2 none ∈ pv_T := pv_m 182 (by decide +kernel) (by decide +kernel)
theorem wd183 : Cond.methodLink RX8 3 objectInit ∈ pv_T := pv_m 183 (by decide +kernel) (by decide +kernel)
theorem wd184 : Cond.methodLink RX8 15 yJ9_max_7cf53 ∈ pv_T := pv_m 184 (by decide +kernel) (by decide +kernel)
theorem wd185 : Cond.static yJ9_max_7cf53 ∈ pv_T := pv_m 185 (by decide +kernel) (by decide +kernel)
theorem wd186 : Cond.code yJ9_max_7cf53 cJ9_max_7cf53 2 (some .int) ∈ pv_T := pv_m 186 (by decide +kernel) (by decide +kernel)
theorem wd187 : Cond.fieldLink RX8 21 "StrikeOut$Row" "letters" "[I" ∈ pv_T := pv_m 187 (by decide +kernel) (by decide +kernel)
theorem wd193 : Cond.fieldLink RX8 9 "StrikeOut$Row" "size" "I" ∈ pv_T := pv_m 193 (by decide +kernel) (by decide +kernel)
theorem wd200 : Cond.fieldLink RX11 171 "StrikeOut$Row" "size" "I" ∈ pv_T := pv_m 200 (by decide +kernel) (by decide +kernel)
theorem wd207 : Cond.fieldLink RX0 14 "StrikeOut$Blank" "written" "LStrikeOut$Row;" ∈ pv_T := pv_m 207 (by decide +kernel) (by decide +kernel)
theorem wd209 : Cond.fieldLink RX0 20 "StrikeOut$Blank" "rest" "LStrikeOut$Row;" ∈ pv_T := pv_m 209 (by decide +kernel) (by decide +kernel)
theorem wd212 : Cond.fieldLink RX0 23 "StrikeOut$Blank" "own" "[I" ∈ pv_T := pv_m 212 (by decide +kernel) (by decide +kernel)
theorem wd213 : Cond.fieldLink RX0 27 "StrikeOut$Blank" "struck" "[Z" ∈ pv_T := pv_m 213 (by decide +kernel) (by decide +kernel)
theorem wd223 : Cond.arrayClass .boolean ∈ pv_T := pv_m 223 (by decide +kernel) (by decide +kernel)
theorem wd224 : Cond.classLink RX11 27 RX8 ∈ pv_T := pv_m 224 (by decide +kernel) (by decide +kernel)
theorem wd226 : Cond.methodLink RX11 33 yX8_init ∈ pv_T := pv_m 226 (by decide +kernel) (by decide +kernel)
theorem wd227 : Cond.classLink RX11 36 RX6 ∈ pv_T := pv_m 227 (by decide +kernel) (by decide +kernel)
theorem wd228 : Cond.instantiable RX6 12 ∈ pv_T := pv_m 228 (by decide +kernel) (by decide +kernel)
theorem wd230 : Cond.instanceMethod yX6_init ∈ pv_T := pv_m 230 (by decide +kernel) (by decide +kernel)
theorem wd231 : Cond.code yX6_init cX6_init 1 none ∈ pv_T := pv_m 231 (by decide +kernel) (by decide +kernel)
theorem wd232 : Cond.methodLink RX6 3 objectInit ∈ pv_T := pv_m 232 (by decide +kernel) (by decide +kernel)
theorem wd233 : Cond.fieldLink RX6 9 "StrikeOut$Law" "sign" "[I" ∈ pv_T := pv_m 233 (by decide +kernel) (by decide +kernel)
theorem wd234 : Cond.fieldLink RX6 15 "StrikeOut$Law" "operand" "[I" ∈ pv_T := pv_m 234 (by decide +kernel) (by decide +kernel)
theorem wd235 : Cond.fieldLink RX6 18 "StrikeOut$Law" "length" "I" ∈ pv_T := pv_m 235 (by decide +kernel) (by decide +kernel)
theorem wd236 : Cond.fieldLink RX6 22 "StrikeOut$Law" "kindOf" "[I" ∈ pv_T := pv_m 236 (by decide +kernel) (by decide +kernel)
theorem wd237 : Cond.fieldLink RX6 25 "StrikeOut$Law" "priceFrom" "[I" ∈ pv_T := pv_m 237 (by decide +kernel) (by decide +kernel)
theorem wd238 : Cond.fieldLink RX6 28 "StrikeOut$Law" "conditionFrom" "[I" ∈ pv_T := pv_m 238 (by decide +kernel) (by decide +kernel)
theorem wd239 : Cond.fieldLink RX6 31 "StrikeOut$Law" "endOf" "[I" ∈ pv_T := pv_m 239 (by decide +kernel) (by decide +kernel)
theorem wd240 : Cond.fieldLink RX6 34 "StrikeOut$Law" "clauses" "I" ∈ pv_T := pv_m 240 (by decide +kernel) (by decide +kernel)
theorem wd242 : Cond.fieldLink RX11 320 "StrikeOut$Law" "clauses" "I" ∈ pv_T := pv_m 242 (by decide +kernel) (by decide +kernel)
theorem wd243 : Cond.fieldLink RX6 37 "StrikeOut$Law" "seen" "[I" ∈ pv_T := pv_m 243 (by decide +kernel) (by decide +kernel)
theorem wd244 : Cond.fieldLink RX6 40 "StrikeOut$Law" "stack" "[I" ∈ pv_T := pv_m 244 (by decide +kernel) (by decide +kernel)
theorem wd245 : Cond.fieldLink RX6 43 "StrikeOut$Law" "height" "I" ∈ pv_T := pv_m 245 (by decide +kernel) (by decide +kernel)
theorem wd246 : Cond.fieldLink RX6 46 "StrikeOut$Law" "refused" "Z" ∈ pv_T := pv_m 246 (by decide +kernel) (by decide +kernel)
theorem wd272 : Cond.classLink RX11 43 RX7 ∈ pv_T := pv_m 272 (by decide +kernel) (by decide +kernel)
theorem wd273 : Cond.instantiable RX7 5 ∈ pv_T := pv_m 273 (by decide +kernel) (by decide +kernel)
theorem wd275 : Cond.instanceMethod yX7_init ∈ pv_T := pv_m 275 (by decide +kernel) (by decide +kernel)
theorem wd276 : Cond.code yX7_init cX7_init 1 none ∈ pv_T := pv_m 276 (by decide +kernel) (by decide +kernel)
theorem wd277 : Cond.methodLink RX7 3 objectInit ∈ pv_T := pv_m 277 (by decide +kernel) (by decide +kernel)
theorem wd278 : Cond.classLink RX7 15 RX6 ∈ pv_T := pv_m 278 (by decide +kernel) (by decide +kernel)
theorem wd280 : Cond.fieldLink RX7 9 "StrikeOut$LawReader" "text" "[I" ∈ pv_T := pv_m 280 (by decide +kernel) (by decide +kernel)
theorem wd281 : Cond.fieldLink RX7 18 "StrikeOut$LawReader" "into" "LStrikeOut$Law;" ∈ pv_T := pv_m 281 (by decide +kernel) (by decide +kernel)
theorem wd282 : Cond.fieldLink RX7 22 "StrikeOut$LawReader" "end" "I" ∈ pv_T := pv_m 282 (by decide +kernel) (by decide +kernel)
theorem wd283 : Cond.fieldLink RX7 26 "StrikeOut$LawReader" "at" "I" ∈ pv_T := pv_m 283 (by decide +kernel) (by decide +kernel)
theorem wd284 : Cond.fieldLink RX7 29 "StrikeOut$LawReader" "fault" "I" ∈ pv_T := pv_m 284 (by decide +kernel) (by decide +kernel)
theorem wd296 : Cond.classLink RX11 50 RX1 ∈ pv_T := pv_m 296 (by decide +kernel) (by decide +kernel)
theorem wd297 : Cond.instantiable RX1 7 ∈ pv_T := pv_m 297 (by decide +kernel) (by decide +kernel)
theorem wd299 : Cond.instanceMethod yX1_init ∈ pv_T := pv_m 299 (by decide +kernel) (by decide +kernel)
theorem wd300 : Cond.code yX1_init cX1_init 1 none ∈ pv_T := pv_m 300 (by decide +kernel) (by decide +kernel)
theorem wd301 : Cond.methodLink RX1 3 objectInit ∈ pv_T := pv_m 301 (by decide +kernel) (by decide +kernel)
theorem wd302 : Cond.fieldLink RX1 9 "StrikeOut$Book" "blankOf" "[I" ∈ pv_T := pv_m 302 (by decide +kernel) (by decide +kernel)
theorem wd303 : Cond.fieldLink RX1 15 "StrikeOut$Book" "clerkOf" "[I" ∈ pv_T := pv_m 303 (by decide +kernel) (by decide +kernel)
theorem wd304 : Cond.fieldLink RX1 18 "StrikeOut$Book" "dayOf" "[I" ∈ pv_T := pv_m 304 (by decide +kernel) (by decide +kernel)
theorem wd305 : Cond.fieldLink RX1 21 "StrikeOut$Book" "costOf" "[I" ∈ pv_T := pv_m 305 (by decide +kernel) (by decide +kernel)
theorem wd306 : Cond.fieldLink RX1 24 "StrikeOut$Book" "sizeOf" "[I" ∈ pv_T := pv_m 306 (by decide +kernel) (by decide +kernel)
theorem wd308 : Cond.fieldLink RX1 27 "StrikeOut$Book" "numbers" "[I" ∈ pv_T := pv_m 308 (by decide +kernel) (by decide +kernel)
theorem wd309 : Cond.fieldLink RX1 30 "StrikeOut$Book" "size" "I" ∈ pv_T := pv_m 309 (by decide +kernel) (by decide +kernel)
theorem wd310 : Cond.fieldLink RX11 323 "StrikeOut$Book" "size" "I" ∈ pv_T := pv_m 310 (by decide +kernel) (by decide +kernel)
theorem wd326 : Cond.classLink RX11 63 RX4 ∈ pv_T := pv_m 326 (by decide +kernel) (by decide +kernel)
theorem wd327 : Cond.instantiable RX4 2 ∈ pv_T := pv_m 327 (by decide +kernel) (by decide +kernel)
theorem wd329 : Cond.instanceMethod yX4_init ∈ pv_T := pv_m 329 (by decide +kernel) (by decide +kernel)
theorem wd330 : Cond.code yX4_init cX4_init 1 none ∈ pv_T := pv_m 330 (by decide +kernel) (by decide +kernel)
theorem wd331 : Cond.methodLink RX4 3 objectInit ∈ pv_T := pv_m 331 (by decide +kernel) (by decide +kernel)
theorem wd332 : Cond.fieldLink RX4 9 "StrikeOut$Fits" "few" "[I" ∈ pv_T := pv_m 332 (by decide +kernel) (by decide +kernel)
theorem wd333 : Cond.fieldLink RX4 15 "StrikeOut$Fits" "many" "[J" ∈ pv_T := pv_m 333 (by decide +kernel) (by decide +kernel)
theorem wd339 : Cond.arrayClass .long ∈ pv_T := pv_m 339 (by decide +kernel) (by decide +kernel)
theorem wd340 : Cond.classLink RX11 70 RX2 ∈ pv_T := pv_m 340 (by decide +kernel) (by decide +kernel)
theorem wd341 : Cond.instantiable RX2 4 ∈ pv_T := pv_m 341 (by decide +kernel) (by decide +kernel)
theorem wd343 : Cond.instanceMethod yX2_init ∈ pv_T := pv_m 343 (by decide +kernel) (by decide +kernel)
theorem wd344 : Cond.code yX2_init cX2_init 1 none ∈ pv_T := pv_m 344 (by decide +kernel) (by decide +kernel)
theorem wd345 : Cond.methodLink RX2 3 objectInit ∈ pv_T := pv_m 345 (by decide +kernel) (by decide +kernel)
theorem wd346 : Cond.fieldLink RX2 9 "StrikeOut$Choice" "free" "[Z" ∈ pv_T := pv_m 346 (by decide +kernel) (by decide +kernel)
theorem wd348 : Cond.fieldLink RX2 15 "StrikeOut$Choice" "price" "[I" ∈ pv_T := pv_m 348 (by decide +kernel) (by decide +kernel)
theorem wd350 : Cond.fieldLink RX2 19 "StrikeOut$Choice" "stays" "[I" ∈ pv_T := pv_m 350 (by decide +kernel) (by decide +kernel)
theorem wd352 : Cond.fieldLink RX2 22 "StrikeOut$Choice" "least" "[I" ∈ pv_T := pv_m 352 (by decide +kernel) (by decide +kernel)
theorem wd362 : Cond.classLink RX11 77 RX5 ∈ pv_T := pv_m 362 (by decide +kernel) (by decide +kernel)
theorem wd363 : Cond.instantiable RX5 3 ∈ pv_T := pv_m 363 (by decide +kernel) (by decide +kernel)
theorem wd365 : Cond.instanceMethod yX5_init ∈ pv_T := pv_m 365 (by decide +kernel) (by decide +kernel)
theorem wd366 : Cond.code yX5_init cX5_init 1 none ∈ pv_T := pv_m 366 (by decide +kernel) (by decide +kernel)
theorem wd367 : Cond.methodLink RX5 3 objectInit ∈ pv_T := pv_m 367 (by decide +kernel) (by decide +kernel)
theorem wd368 : Cond.classLink RX5 9 RX8 ∈ pv_T := pv_m 368 (by decide +kernel) (by decide +kernel)
theorem wd369 : Cond.methodLink RX5 11 yX8_init ∈ pv_T := pv_m 369 (by decide +kernel) (by decide +kernel)
theorem wd370 : Cond.fieldLink RX5 14 "StrikeOut$Hiding" "found" "LStrikeOut$Row;" ∈ pv_T := pv_m 370 (by decide +kernel) (by decide +kernel)
theorem wd372 : Cond.fieldLink RX5 20 "StrikeOut$Hiding" "solvedFor" "I" ∈ pv_T := pv_m 372 (by decide +kernel) (by decide +kernel)
theorem wd374 : Cond.fieldLink RX5 24 "StrikeOut$Hiding" "most" "[I" ∈ pv_T := pv_m 374 (by decide +kernel) (by decide +kernel)
theorem wd382 : Cond.classLink RX11 88 RX9 ∈ pv_T := pv_m 382 (by decide +kernel) (by decide +kernel)
theorem wd383 : Cond.instantiable RX9 5 ∈ pv_T := pv_m 383 (by decide +kernel) (by decide +kernel)
theorem wd385 : Cond.instanceMethod yX9_init ∈ pv_T := pv_m 385 (by decide +kernel) (by decide +kernel)
theorem wd386 : Cond.code yX9_init cX9_init 1 none ∈ pv_T := pv_m 386 (by decide +kernel) (by decide +kernel)
theorem wd387 : Cond.methodLink RX9 3 objectInit ∈ pv_T := pv_m 387 (by decide +kernel) (by decide +kernel)
theorem wd388 : Cond.fieldLink RX9 9 "StrikeOut$Sharing" "blankOf" "[I" ∈ pv_T := pv_m 388 (by decide +kernel) (by decide +kernel)
theorem wd390 : Cond.fieldLink RX9 15 "StrikeOut$Sharing" "served" "I" ∈ pv_T := pv_m 390 (by decide +kernel) (by decide +kernel)
theorem wd392 : Cond.fieldLink RX9 19 "StrikeOut$Sharing" "lost" "I" ∈ pv_T := pv_m 392 (by decide +kernel) (by decide +kernel)
theorem wd394 : Cond.fieldLink RX9 22 "StrikeOut$Sharing" "gain" "[I" ∈ pv_T := pv_m 394 (by decide +kernel) (by decide +kernel)
theorem wd395 : Cond.fieldLink RX9 25 "StrikeOut$Sharing" "best" "[I" ∈ pv_T := pv_m 395 (by decide +kernel) (by decide +kernel)
theorem wd407 : Cond.fieldLink RX11 10 "StrikeOut" "tape" "LStrikeOut$Tape;" ∈ pv_T := pv_m 407 (by decide +kernel) (by decide +kernel)
theorem wd408 : Cond.fieldLink RX11 18 "StrikeOut" "blanks" "[LStrikeOut$Blank;" ∈ pv_T := pv_m 408 (by decide +kernel) (by decide +kernel)
theorem wd409 : Cond.fieldLink RX11 23 "StrikeOut" "blankCount" "I" ∈ pv_T := pv_m 409 (by decide +kernel) (by decide +kernel)
theorem wd410 : Cond.fieldLink RX11 29 "StrikeOut" "deedRows" "[LStrikeOut$Row;" ∈ pv_T := pv_m 410 (by decide +kernel) (by decide +kernel)
theorem wd411 : Cond.fieldLink RX11 39 "StrikeOut" "law" "LStrikeOut$Law;" ∈ pv_T := pv_m 411 (by decide +kernel) (by decide +kernel)
theorem wd412 : Cond.fieldLink RX11 46 "StrikeOut" "reader" "LStrikeOut$LawReader;" ∈ pv_T := pv_m 412 (by decide +kernel) (by decide +kernel)
theorem wd413 : Cond.fieldLink RX11 53 "StrikeOut" "pages" "LStrikeOut$Book;" ∈ pv_T := pv_m 413 (by decide +kernel) (by decide +kernel)
theorem wd414 : Cond.fieldLink RX11 57 "StrikeOut" "today" "I" ∈ pv_T := pv_m 414 (by decide +kernel) (by decide +kernel)
theorem wd415 : Cond.fieldLink RX11 60 "StrikeOut" "drawn" "I" ∈ pv_T := pv_m 415 (by decide +kernel) (by decide +kernel)
theorem wd416 : Cond.fieldLink RX11 66 "StrikeOut" "fits" "LStrikeOut$Fits;" ∈ pv_T := pv_m 416 (by decide +kernel) (by decide +kernel)
theorem wd417 : Cond.fieldLink RX11 73 "StrikeOut" "choice" "LStrikeOut$Choice;" ∈ pv_T := pv_m 417 (by decide +kernel) (by decide +kernel)
theorem wd418 : Cond.fieldLink RX11 80 "StrikeOut" "hiding" "LStrikeOut$Hiding;" ∈ pv_T := pv_m 418 (by decide +kernel) (by decide +kernel)
theorem wd419 : Cond.fieldLink RX11 84 "StrikeOut" "cover" "LStrikeOut$Cover;" ∈ pv_T := pv_m 419 (by decide +kernel) (by decide +kernel)
theorem wd420 : Cond.fieldLink RX11 91 "StrikeOut" "sharing" "LStrikeOut$Sharing;" ∈ pv_T := pv_m 420 (by decide +kernel) (by decide +kernel)
theorem wd421 : Cond.fieldLink RX11 95 "StrikeOut" "parents" "[I" ∈ pv_T := pv_m 421 (by decide +kernel) (by decide +kernel)
theorem wd422 : Cond.fieldLink RX11 99 "StrikeOut" "longest" "[I" ∈ pv_T := pv_m 422 (by decide +kernel) (by decide +kernel)
theorem wd423 : Cond.fieldLink RX11 102 "StrikeOut" "chained" "[I" ∈ pv_T := pv_m 423 (by decide +kernel) (by decide +kernel)
theorem wd459 : Cond.methodLink RL 13 yX11_day ∈ pv_T := pv_m 459 (by decide +kernel) (by decide +kernel)
theorem wd460 : Cond.instanceMethod yX11_day ∈ pv_T := pv_m 460 (by decide +kernel) (by decide +kernel)
theorem wd461 : Cond.selects RX11 yX11_day yX11_day ∈ pv_T := pv_m 461 (by decide +kernel) (by decide +kernel)
theorem wd462 : Cond.code yX11_day cX11_day 2 (some .boolean) ∈ pv_T := pv_m 462 (by decide +kernel) (by decide +kernel)
theorem wd463 : Cond.methodLink RL 18 yX11_feed ∈ pv_T := pv_m 463 (by decide +kernel) (by decide +kernel)
theorem wd464 : Cond.instanceMethod yX11_feed ∈ pv_T := pv_m 464 (by decide +kernel) (by decide +kernel)
theorem wd465 : Cond.selects RX11 yX11_feed yX11_feed ∈ pv_T := pv_m 465 (by decide +kernel) (by decide +kernel)
theorem wd466 : Cond.code yX11_feed cX11_feed 6 (some .int) ∈ pv_T := pv_m 466 (by decide +kernel) (by decide +kernel)
theorem wd467 : Cond.methodLink RX11 105 yX10_hasRoom ∈ pv_T := pv_m 467 (by decide +kernel) (by decide +kernel)
theorem wd468 : Cond.instanceMethod yX10_hasRoom ∈ pv_T := pv_m 468 (by decide +kernel) (by decide +kernel)
theorem wd469 : Cond.selects RX10 yX10_hasRoom yX10_hasRoom ∈ pv_T := pv_m 469 (by decide +kernel) (by decide +kernel)
theorem wd470 : Cond.code yX10_hasRoom cX10_hasRoom 2 (some .boolean) ∈ pv_T := pv_m 470 (by decide +kernel) (by decide +kernel)
theorem wd471 : Cond.methodLink RX11 109 yX10_put ∈ pv_T := pv_m 471 (by decide +kernel) (by decide +kernel)
theorem wd472 : Cond.instanceMethod yX10_put ∈ pv_T := pv_m 472 (by decide +kernel) (by decide +kernel)
theorem wd473 : Cond.selects RX10 yX10_put yX10_put ∈ pv_T := pv_m 473 (by decide +kernel) (by decide +kernel)
theorem wd474 : Cond.code yX10_put cX10_put 3 none ∈ pv_T := pv_m 474 (by decide +kernel) (by decide +kernel)
theorem wd475 : Cond.methodLink RL 23 yX11_blank ∈ pv_T := pv_m 475 (by decide +kernel) (by decide +kernel)
theorem wd476 : Cond.instanceMethod yX11_blank ∈ pv_T := pv_m 476 (by decide +kernel) (by decide +kernel)
theorem wd477 : Cond.selects RX11 yX11_blank yX11_blank ∈ pv_T := pv_m 477 (by decide +kernel) (by decide +kernel)
theorem wd478 : Cond.code yX11_blank cX11_blank 3 (some .int) ∈ pv_T := pv_m 478 (by decide +kernel) (by decide +kernel)
theorem wd496 : Cond.methodLink RL 28 yX11_deed ∈ pv_T := pv_m 496 (by decide +kernel) (by decide +kernel)
theorem wd497 : Cond.instanceMethod yX11_deed ∈ pv_T := pv_m 497 (by decide +kernel) (by decide +kernel)
theorem wd498 : Cond.selects RX11 yX11_deed yX11_deed ∈ pv_T := pv_m 498 (by decide +kernel) (by decide +kernel)
theorem wd499 : Cond.code yX11_deed cX11_deed 4 (some .int) ∈ pv_T := pv_m 499 (by decide +kernel) (by decide +kernel)
theorem wd504 : Cond.methodLink RL 33 yX11_law ∈ pv_T := pv_m 504 (by decide +kernel) (by decide +kernel)
theorem wd505 : Cond.instanceMethod yX11_law ∈ pv_T := pv_m 505 (by decide +kernel) (by decide +kernel)
theorem wd506 : Cond.selects RX11 yX11_law yX11_law ∈ pv_T := pv_m 506 (by decide +kernel) (by decide +kernel)
theorem wd507 : Cond.code yX11_law cX11_law 3 (some .int) ∈ pv_T := pv_m 507 (by decide +kernel) (by decide +kernel)
theorem wd691 : Cond.arrayClass .byte ∈ pv_T := pv_m 691 (by decide +kernel) (by decide +kernel)
theorem wd692 : Cond.methodLink RL 37 yX11_left ∈ pv_T := pv_m 692 (by decide +kernel) (by decide +kernel)
theorem wd693 : Cond.instanceMethod yX11_left ∈ pv_T := pv_m 693 (by decide +kernel) (by decide +kernel)
theorem wd694 : Cond.selects RX11 yX11_left yX11_left ∈ pv_T := pv_m 694 (by decide +kernel) (by decide +kernel)
theorem wd695 : Cond.code yX11_left cX11_left 4 (some .int) ∈ pv_T := pv_m 695 (by decide +kernel) (by decide +kernel)
theorem wd696 : Cond.methodLink RX11 143 yX11_isPlace ∈ pv_T := pv_m 696 (by decide +kernel) (by decide +kernel)
theorem wd698 : Cond.instanceMethod yX11_isPlace ∈ pv_T := pv_m 698 (by decide +kernel) (by decide +kernel)
theorem wd699 : Cond.code yX11_isPlace cX11_isPlace 3 (some .boolean) ∈ pv_T := pv_m 699 (by decide +kernel) (by decide +kernel)
theorem wd700 : Cond.methodLink RX11 180 yX11_isBlank ∈ pv_T := pv_m 700 (by decide +kernel) (by decide +kernel)
theorem wd702 : Cond.instanceMethod yX11_isBlank ∈ pv_T := pv_m 702 (by decide +kernel) (by decide +kernel)
theorem wd703 : Cond.code yX11_isBlank cX11_isBlank 2 (some .boolean) ∈ pv_T := pv_m 703 (by decide +kernel) (by decide +kernel)
theorem wd712 : Cond.methodLink RL 42 yX11_may ∈ pv_T := pv_m 712 (by decide +kernel) (by decide +kernel)
theorem wd713 : Cond.instanceMethod yX11_may ∈ pv_T := pv_m 713 (by decide +kernel) (by decide +kernel)
theorem wd714 : Cond.selects RX11 yX11_may yX11_may ∈ pv_T := pv_m 714 (by decide +kernel) (by decide +kernel)
theorem wd715 : Cond.code yX11_may cX11_may 5 (some .int) ∈ pv_T := pv_m 715 (by decide +kernel) (by decide +kernel)
theorem wd769 : Cond.methodLink RL 47 yX11_strike ∈ pv_T := pv_m 769 (by decide +kernel) (by decide +kernel)
theorem wd770 : Cond.instanceMethod yX11_strike ∈ pv_T := pv_m 770 (by decide +kernel) (by decide +kernel)
theorem wd771 : Cond.selects RX11 yX11_strike yX11_strike ∈ pv_T := pv_m 771 (by decide +kernel) (by decide +kernel)
theorem wd772 : Cond.code yX11_strike cX11_strike 6 (some .int) ∈ pv_T := pv_m 772 (by decide +kernel) (by decide +kernel)
theorem wd794 : Cond.methodLink RL 51 yX11_back ∈ pv_T := pv_m 794 (by decide +kernel) (by decide +kernel)
theorem wd795 : Cond.instanceMethod yX11_back ∈ pv_T := pv_m 795 (by decide +kernel) (by decide +kernel)
theorem wd796 : Cond.selects RX11 yX11_back yX11_back ∈ pv_T := pv_m 796 (by decide +kernel) (by decide +kernel)
theorem wd797 : Cond.code yX11_back cX11_back 5 (some .int) ∈ pv_T := pv_m 797 (by decide +kernel) (by decide +kernel)
theorem wd798 : Cond.methodLink RX11 177 yX1_lastOf ∈ pv_T := pv_m 798 (by decide +kernel) (by decide +kernel)
theorem wd799 : Cond.instanceMethod yX1_lastOf ∈ pv_T := pv_m 799 (by decide +kernel) (by decide +kernel)
theorem wd800 : Cond.selects RX1 yX1_lastOf yX1_lastOf ∈ pv_T := pv_m 800 (by decide +kernel) (by decide +kernel)
theorem wd801 : Cond.code yX1_lastOf cX1_lastOf 3 (some .int) ∈ pv_T := pv_m 801 (by decide +kernel) (by decide +kernel)
theorem wd815 : Cond.methodLink RL 55 yX11_book ∈ pv_T := pv_m 815 (by decide +kernel) (by decide +kernel)
theorem wd816 : Cond.instanceMethod yX11_book ∈ pv_T := pv_m 816 (by decide +kernel) (by decide +kernel)
theorem wd817 : Cond.selects RX11 yX11_book yX11_book ∈ pv_T := pv_m 817 (by decide +kernel) (by decide +kernel)
theorem wd818 : Cond.code yX11_book cX11_book 3 (some .int) ∈ pv_T := pv_m 818 (by decide +kernel) (by decide +kernel)
theorem wd819 : Cond.methodLink RX11 197 yX1_tell ∈ pv_T := pv_m 819 (by decide +kernel) (by decide +kernel)
theorem wd820 : Cond.instanceMethod yX1_tell ∈ pv_T := pv_m 820 (by decide +kernel) (by decide +kernel)
theorem wd821 : Cond.selects RX1 yX1_tell yX1_tell ∈ pv_T := pv_m 821 (by decide +kernel) (by decide +kernel)
theorem wd822 : Cond.code yX1_tell cX1_tell 3 (some .int) ∈ pv_T := pv_m 822 (by decide +kernel) (by decide +kernel)
theorem wd824 : Cond.methodLink RL 59 yX11_ways ∈ pv_T := pv_m 824 (by decide +kernel) (by decide +kernel)
theorem wd825 : Cond.instanceMethod yX11_ways ∈ pv_T := pv_m 825 (by decide +kernel) (by decide +kernel)
theorem wd826 : Cond.selects RX11 yX11_ways yX11_ways ∈ pv_T := pv_m 826 (by decide +kernel) (by decide +kernel)
theorem wd827 : Cond.code yX11_ways cX11_ways 3 (some .long) ∈ pv_T := pv_m 827 (by decide +kernel) (by decide +kernel)
theorem wd828 : Cond.methodLink RX11 200 yX11_isDeed ∈ pv_T := pv_m 828 (by decide +kernel) (by decide +kernel)
theorem wd830 : Cond.instanceMethod yX11_isDeed ∈ pv_T := pv_m 830 (by decide +kernel) (by decide +kernel)
theorem wd831 : Cond.code yX11_isDeed cX11_isDeed 2 (some .boolean) ∈ pv_T := pv_m 831 (by decide +kernel) (by decide +kernel)
theorem wd832 : Cond.constantLong RX11 203 (-1) ∈ pv_T := pv_m 832 (by decide +kernel) (by decide +kernel)
theorem wd845 : Cond.methodLink RL 64 yX11_cheapest ∈ pv_T := pv_m 845 (by decide +kernel) (by decide +kernel)
theorem wd846 : Cond.instanceMethod yX11_cheapest ∈ pv_T := pv_m 846 (by decide +kernel) (by decide +kernel)
theorem wd847 : Cond.selects RX11 yX11_cheapest yX11_cheapest ∈ pv_T := pv_m 847 (by decide +kernel) (by decide +kernel)
theorem wd848 : Cond.code yX11_cheapest cX11_cheapest 6 (some .int) ∈ pv_T := pv_m 848 (by decide +kernel) (by decide +kernel)
theorem wd867 : Cond.methodLink RL 68 yX11_done ∈ pv_T := pv_m 867 (by decide +kernel) (by decide +kernel)
theorem wd868 : Cond.instanceMethod yX11_done ∈ pv_T := pv_m 868 (by decide +kernel) (by decide +kernel)
theorem wd869 : Cond.selects RX11 yX11_done yX11_done ∈ pv_T := pv_m 869 (by decide +kernel) (by decide +kernel)
theorem wd870 : Cond.code yX11_done cX11_done 8 (some .int) ∈ pv_T := pv_m 870 (by decide +kernel) (by decide +kernel)
theorem wd884 : Cond.methodLink RL 72 yX11_strokes ∈ pv_T := pv_m 884 (by decide +kernel) (by decide +kernel)
theorem wd885 : Cond.instanceMethod yX11_strokes ∈ pv_T := pv_m 885 (by decide +kernel) (by decide +kernel)
theorem wd886 : Cond.selects RX11 yX11_strokes yX11_strokes ∈ pv_T := pv_m 886 (by decide +kernel) (by decide +kernel)
theorem wd887 : Cond.code yX11_strokes cX11_strokes 5 (some .int) ∈ pv_T := pv_m 887 (by decide +kernel) (by decide +kernel)
theorem wd905 : Cond.methodLink RL 76 yX11_even ∈ pv_T := pv_m 905 (by decide +kernel) (by decide +kernel)
theorem wd906 : Cond.instanceMethod yX11_even ∈ pv_T := pv_m 906 (by decide +kernel) (by decide +kernel)
theorem wd907 : Cond.selects RX11 yX11_even yX11_even ∈ pv_T := pv_m 907 (by decide +kernel) (by decide +kernel)
theorem wd908 : Cond.code yX11_even cX11_even 4 (some .long) ∈ pv_T := pv_m 908 (by decide +kernel) (by decide +kernel)
theorem wd909 : Cond.methodLink RL 81 yX11_hidden ∈ pv_T := pv_m 909 (by decide +kernel) (by decide +kernel)
theorem wd910 : Cond.instanceMethod yX11_hidden ∈ pv_T := pv_m 910 (by decide +kernel) (by decide +kernel)
theorem wd911 : Cond.selects RX11 yX11_hidden yX11_hidden ∈ pv_T := pv_m 911 (by decide +kernel) (by decide +kernel)
theorem wd912 : Cond.code yX11_hidden cX11_hidden 5 (some .int) ∈ pv_T := pv_m 912 (by decide +kernel) (by decide +kernel)
theorem wd913 : Cond.methodLink RX11 230 yJ6_bitCount_0f7a4 ∈ pv_T := pv_m 913 (by decide +kernel) (by decide +kernel)
theorem wd914 : Cond.static yJ6_bitCount_0f7a4 ∈ pv_T := pv_m 914 (by decide +kernel) (by decide +kernel)
theorem wd915 : Cond.code yJ6_bitCount_0f7a4 cJ6_bitCount_0f7a4 1 (some .int) ∈ pv_T := pv_m 915 (by decide +kernel) (by decide +kernel)
theorem wd916 : Cond.constant RJ6 265 1431655765 ∈ pv_T := pv_m 916 (by decide +kernel) (by decide +kernel)
theorem wd917 : Cond.constant RJ6 266 858993459 ∈ pv_T := pv_m 917 (by decide +kernel) (by decide +kernel)
theorem wd918 : Cond.constant RJ6 267 252645135 ∈ pv_T := pv_m 918 (by decide +kernel) (by decide +kernel)
theorem wd919 : Cond.methodLink RX11 235 yX11_areDeeds ∈ pv_T := pv_m 919 (by decide +kernel) (by decide +kernel)
theorem wd921 : Cond.instanceMethod yX11_areDeeds ∈ pv_T := pv_m 921 (by decide +kernel) (by decide +kernel)
theorem wd922 : Cond.code yX11_areDeeds cX11_areDeeds 2 (some .boolean) ∈ pv_T := pv_m 922 (by decide +kernel) (by decide +kernel)
theorem wd923 : Cond.methodLink RX11 316 yX11_toldDeeds ∈ pv_T := pv_m 923 (by decide +kernel) (by decide +kernel)
theorem wd925 : Cond.instanceMethod yX11_toldDeeds ∈ pv_T := pv_m 925 (by decide +kernel) (by decide +kernel)
theorem wd926 : Cond.code yX11_toldDeeds cX11_toldDeeds 3 (some .int) ∈ pv_T := pv_m 926 (by decide +kernel) (by decide +kernel)
theorem wd955 : Cond.methodLink RL 85 yX11_shortest ∈ pv_T := pv_m 955 (by decide +kernel) (by decide +kernel)
theorem wd956 : Cond.instanceMethod yX11_shortest ∈ pv_T := pv_m 956 (by decide +kernel) (by decide +kernel)
theorem wd957 : Cond.selects RX11 yX11_shortest yX11_shortest ∈ pv_T := pv_m 957 (by decide +kernel) (by decide +kernel)
theorem wd958 : Cond.code yX11_shortest cX11_shortest 5 (some .int) ∈ pv_T := pv_m 958 (by decide +kernel) (by decide +kernel)
theorem wd959 : Cond.methodLink RX11 252 yX11_refuseCover ∈ pv_T := pv_m 959 (by decide +kernel) (by decide +kernel)
theorem wd961 : Cond.instanceMethod yX11_refuseCover ∈ pv_T := pv_m 961 (by decide +kernel) (by decide +kernel)
theorem wd962 : Cond.code yX11_refuseCover cX11_refuseCover 4 (some .int) ∈ pv_T := pv_m 962 (by decide +kernel) (by decide +kernel)
theorem wd1044 : Cond.methodLink RL 89 yX11_shortestMany ∈ pv_T := pv_m 1044 (by decide +kernel) (by decide +kernel)
theorem wd1045 : Cond.instanceMethod yX11_shortestMany ∈ pv_T := pv_m 1045 (by decide +kernel) (by decide +kernel)
theorem wd1046 : Cond.selects RX11 yX11_shortestMany yX11_shortestMany ∈ pv_T := pv_m 1046 (by decide +kernel) (by decide +kernel)
theorem wd1047 : Cond.code yX11_shortestMany cX11_shortestMany 3 (some .long) ∈ pv_T := pv_m 1047 (by decide +kernel) (by decide +kernel)
theorem wd1052 : Cond.methodLink RL 94 yX11_bound ∈ pv_T := pv_m 1052 (by decide +kernel) (by decide +kernel)
theorem wd1053 : Cond.instanceMethod yX11_bound ∈ pv_T := pv_m 1053 (by decide +kernel) (by decide +kernel)
theorem wd1054 : Cond.selects RX11 yX11_bound yX11_bound ∈ pv_T := pv_m 1054 (by decide +kernel) (by decide +kernel)
theorem wd1055 : Cond.code yX11_bound cX11_bound 6 (some .int) ∈ pv_T := pv_m 1055 (by decide +kernel) (by decide +kernel)
theorem wd1056 : Cond.methodLink RL 98 yX11_forged ∈ pv_T := pv_m 1056 (by decide +kernel) (by decide +kernel)
theorem wd1057 : Cond.instanceMethod yX11_forged ∈ pv_T := pv_m 1057 (by decide +kernel) (by decide +kernel)
theorem wd1058 : Cond.selects RX11 yX11_forged yX11_forged ∈ pv_T := pv_m 1058 (by decide +kernel) (by decide +kernel)
theorem wd1059 : Cond.code yX11_forged cX11_forged 3 (some .int) ∈ pv_T := pv_m 1059 (by decide +kernel) (by decide +kernel)
theorem wd1068 : Cond.methodLink RL 102 yX11_spare ∈ pv_T := pv_m 1068 (by decide +kernel) (by decide +kernel)
theorem wd1069 : Cond.instanceMethod yX11_spare ∈ pv_T := pv_m 1069 (by decide +kernel) (by decide +kernel)
theorem wd1070 : Cond.selects RX11 yX11_spare yX11_spare ∈ pv_T := pv_m 1070 (by decide +kernel) (by decide +kernel)
theorem wd1071 : Cond.code yX11_spare cX11_spare 7 (some .long) ∈ pv_T := pv_m 1071 (by decide +kernel) (by decide +kernel)
theorem wd1078 : Cond.methodLink RL 106 yX11_dayEnd ∈ pv_T := pv_m 1078 (by decide +kernel) (by decide +kernel)
theorem wd1079 : Cond.instanceMethod yX11_dayEnd ∈ pv_T := pv_m 1079 (by decide +kernel) (by decide +kernel)
theorem wd1080 : Cond.selects RX11 yX11_dayEnd yX11_dayEnd ∈ pv_T := pv_m 1080 (by decide +kernel) (by decide +kernel)
theorem wd1081 : Cond.code yX11_dayEnd cX11_dayEnd 3 (some .int) ∈ pv_T := pv_m 1081 (by decide +kernel) (by decide +kernel)
theorem wd1104 : Cond.methodLink RL 110 yX11_worth ∈ pv_T := pv_m 1104 (by decide +kernel) (by decide +kernel)
theorem wd1105 : Cond.instanceMethod yX11_worth ∈ pv_T := pv_m 1105 (by decide +kernel) (by decide +kernel)
theorem wd1106 : Cond.selects RX11 yX11_worth yX11_worth ∈ pv_T := pv_m 1106 (by decide +kernel) (by decide +kernel)
theorem wd1107 : Cond.code yX11_worth cX11_worth 6 (some .int) ∈ pv_T := pv_m 1107 (by decide +kernel) (by decide +kernel)
theorem wd1108 : Cond.methodLink RL 114 yX11_family ∈ pv_T := pv_m 1108 (by decide +kernel) (by decide +kernel)
theorem wd1109 : Cond.instanceMethod yX11_family ∈ pv_T := pv_m 1109 (by decide +kernel) (by decide +kernel)
theorem wd1110 : Cond.selects RX11 yX11_family yX11_family ∈ pv_T := pv_m 1110 (by decide +kernel) (by decide +kernel)
theorem wd1111 : Cond.code yX11_family cX11_family 7 (some .int) ∈ pv_T := pv_m 1111 (by decide +kernel) (by decide +kernel)
theorem wd1120 : Cond.methodLink RL 118 yX11_chain ∈ pv_T := pv_m 1120 (by decide +kernel) (by decide +kernel)
theorem wd1121 : Cond.instanceMethod yX11_chain ∈ pv_T := pv_m 1121 (by decide +kernel) (by decide +kernel)
theorem wd1122 : Cond.selects RX11 yX11_chain yX11_chain ∈ pv_T := pv_m 1122 (by decide +kernel) (by decide +kernel)
theorem wd1123 : Cond.code yX11_chain cX11_chain 4 (some .int) ∈ pv_T := pv_m 1123 (by decide +kernel) (by decide +kernel)
theorem wd1141 : Cond.methodLink RL 122 yX11_seed ∈ pv_T := pv_m 1141 (by decide +kernel) (by decide +kernel)
theorem wd1142 : Cond.instanceMethod yX11_seed ∈ pv_T := pv_m 1142 (by decide +kernel) (by decide +kernel)
theorem wd1143 : Cond.selects RX11 yX11_seed yX11_seed ∈ pv_T := pv_m 1143 (by decide +kernel) (by decide +kernel)
theorem wd1144 : Cond.code yX11_seed cX11_seed 2 (some .boolean) ∈ pv_T := pv_m 1144 (by decide +kernel) (by decide +kernel)
theorem wd1145 : Cond.constant RX11 311 65536 ∈ pv_T := pv_m 1145 (by decide +kernel) (by decide +kernel)
theorem wd1146 : Cond.methodLink RL 126 yX11_draw ∈ pv_T := pv_m 1146 (by decide +kernel) (by decide +kernel)
theorem wd1147 : Cond.instanceMethod yX11_draw ∈ pv_T := pv_m 1147 (by decide +kernel) (by decide +kernel)
theorem wd1148 : Cond.selects RX11 yX11_draw yX11_draw ∈ pv_T := pv_m 1148 (by decide +kernel) (by decide +kernel)
theorem wd1149 : Cond.code yX11_draw cX11_draw 7 (some .int) ∈ pv_T := pv_m 1149 (by decide +kernel) (by decide +kernel)
theorem wd1151 : Cond.methodLink RL 130 yX11_check ∈ pv_T := pv_m 1151 (by decide +kernel) (by decide +kernel)
theorem wd1152 : Cond.instanceMethod yX11_check ∈ pv_T := pv_m 1152 (by decide +kernel) (by decide +kernel)
theorem wd1153 : Cond.selects RX11 yX11_check yX11_check ∈ pv_T := pv_m 1153 (by decide +kernel) (by decide +kernel)
theorem wd1154 : Cond.code yX11_check cX11_check 5 (some .int) ∈ pv_T := pv_m 1154 (by decide +kernel) (by decide +kernel)
theorem wd1159 : Cond.methodLink RL 134 yX11_count ∈ pv_T := pv_m 1159 (by decide +kernel) (by decide +kernel)
theorem wd1160 : Cond.instanceMethod yX11_count ∈ pv_T := pv_m 1160 (by decide +kernel) (by decide +kernel)
theorem wd1161 : Cond.selects RX11 yX11_count yX11_count ∈ pv_T := pv_m 1161 (by decide +kernel) (by decide +kernel)
theorem wd1162 : Cond.code yX11_count cX11_count 2 (some .int) ∈ pv_T := pv_m 1162 (by decide +kernel) (by decide +kernel)
theorem wd1163 : Cond.methodLink RX11 324 yX1_costOfAll ∈ pv_T := pv_m 1163 (by decide +kernel) (by decide +kernel)
theorem wd1164 : Cond.instanceMethod yX1_costOfAll ∈ pv_T := pv_m 1164 (by decide +kernel) (by decide +kernel)
theorem wd1165 : Cond.selects RX1 yX1_costOfAll yX1_costOfAll ∈ pv_T := pv_m 1165 (by decide +kernel) (by decide +kernel)
theorem wd1166 : Cond.code yX1_costOfAll cX1_costOfAll 3 (some .int) ∈ pv_T := pv_m 1166 (by decide +kernel) (by decide +kernel)
theorem wd1167 : Cond.classLink RL 10 RX12 ∈ pv_T := pv_m 1167 (by decide +kernel) (by decide +kernel)
theorem wd1168 : Cond.instantiable RX12 64 ∈ pv_T := pv_m 1168 (by decide +kernel) (by decide +kernel)
theorem wd1169 : Cond.methodLink RL 12 yX12_init ∈ pv_T := pv_m 1169 (by decide +kernel) (by decide +kernel)
theorem wd1170 : Cond.instanceMethod yX12_init ∈ pv_T := pv_m 1170 (by decide +kernel) (by decide +kernel)
theorem wd1171 : Cond.code yX12_init cX12_init 1 none ∈ pv_T := pv_m 1171 (by decide +kernel) (by decide +kernel)
theorem wd1172 : Cond.methodLink RX12 1 objectInit ∈ pv_T := pv_m 1172 (by decide +kernel) (by decide +kernel)
theorem wd1173 : Cond.fieldLink RX12 152 "StrikeOutModel" "blanks" "I" ∈ pv_T := pv_m 1173 (by decide +kernel) (by decide +kernel)
theorem wd1174 : Cond.fieldLink RX12 158 "StrikeOutModel" "now" "I" ∈ pv_T := pv_m 1174 (by decide +kernel) (by decide +kernel)
theorem wd1175 : Cond.fieldLink RX12 148 "StrikeOutModel" "x0" "I" ∈ pv_T := pv_m 1175 (by decide +kernel) (by decide +kernel)
theorem wd1176 : Cond.fieldLink RX12 306 "StrikeOutModel" "strokesMade" "I" ∈ pv_T := pv_m 1176 (by decide +kernel) (by decide +kernel)
theorem wd1177 : Cond.fieldLink RX12 155 "StrikeOutModel" "toldDeeds" "I" ∈ pv_T := pv_m 1177 (by decide +kernel) (by decide +kernel)
theorem wd1178 : Cond.fieldLink RX12 7 "StrikeOutModel" "blankLong" "[I" ∈ pv_T := pv_m 1178 (by decide +kernel) (by decide +kernel)
theorem wd1179 : Cond.fieldLink RX12 13 "StrikeOutModel" "letterOf" "[I" ∈ pv_T := pv_m 1179 (by decide +kernel) (by decide +kernel)
theorem wd1180 : Cond.fieldLink RX12 16 "StrikeOutModel" "deedLong" "[I" ∈ pv_T := pv_m 1180 (by decide +kernel) (by decide +kernel)
theorem wd1181 : Cond.fieldLink RX12 19 "StrikeOutModel" "deedLetter" "[I" ∈ pv_T := pv_m 1181 (by decide +kernel) (by decide +kernel)
theorem wd1182 : Cond.fieldLink RX12 22 "StrikeOutModel" "isStruck" "[Z" ∈ pv_T := pv_m 1182 (by decide +kernel) (by decide +kernel)
theorem wd1183 : Cond.fieldLink RX12 26 "StrikeOutModel" "tape" "[B" ∈ pv_T := pv_m 1183 (by decide +kernel) (by decide +kernel)
theorem wd1184 : Cond.fieldLink RX12 165 "StrikeOutModel" "taped" "I" ∈ pv_T := pv_m 1184 (by decide +kernel) (by decide +kernel)
theorem wd1193 : Cond.fieldLink RX12 277 "StrikeOutModel" "clauses" "I" ∈ pv_T := pv_m 1193 (by decide +kernel) (by decide +kernel)
theorem wd1194 : Cond.fieldLink RX12 30 "StrikeOutModel" "said" "[I" ∈ pv_T := pv_m 1194 (by decide +kernel) (by decide +kernel)
theorem wd1195 : Cond.fieldLink RX12 33 "StrikeOutModel" "waits" "[I" ∈ pv_T := pv_m 1195 (by decide +kernel) (by decide +kernel)
theorem wd1196 : Cond.fieldLink RX12 36 "StrikeOutModel" "saidLetter" "[I" ∈ pv_T := pv_m 1196 (by decide +kernel) (by decide +kernel)
theorem wd1197 : Cond.fieldLink RX12 39 "StrikeOutModel" "saidFrom" "[I" ∈ pv_T := pv_m 1197 (by decide +kernel) (by decide +kernel)
theorem wd1198 : Cond.fieldLink RX12 42 "StrikeOutModel" "saidHalf" "[I" ∈ pv_T := pv_m 1198 (by decide +kernel) (by decide +kernel)
theorem wd1199 : Cond.fieldLink RX12 45 "StrikeOutModel" "saidTo" "[I" ∈ pv_T := pv_m 1199 (by decide +kernel) (by decide +kernel)
theorem wd1200 : Cond.fieldLink RX12 48 "StrikeOutModel" "codes" "[I" ∈ pv_T := pv_m 1200 (by decide +kernel) (by decide +kernel)
theorem wd1201 : Cond.fieldLink RX12 51 "StrikeOutModel" "clauseOf" "[I" ∈ pv_T := pv_m 1201 (by decide +kernel) (by decide +kernel)
theorem wd1202 : Cond.fieldLink RX12 54 "StrikeOutModel" "codeFrom" "[I" ∈ pv_T := pv_m 1202 (by decide +kernel) (by decide +kernel)
theorem wd1203 : Cond.fieldLink RX12 57 "StrikeOutModel" "codeHalf" "[I" ∈ pv_T := pv_m 1203 (by decide +kernel) (by decide +kernel)
theorem wd1204 : Cond.fieldLink RX12 60 "StrikeOutModel" "codeTo" "[I" ∈ pv_T := pv_m 1204 (by decide +kernel) (by decide +kernel)
theorem wd1205 : Cond.fieldLink RX12 63 "StrikeOutModel" "stack" "[I" ∈ pv_T := pv_m 1205 (by decide +kernel) (by decide +kernel)
theorem wd1206 : Cond.fieldLink RX12 66 "StrikeOutModel" "facts" "[I" ∈ pv_T := pv_m 1206 (by decide +kernel) (by decide +kernel)
theorem wd1207 : Cond.fieldLink RX12 69 "StrikeOutModel" "strokeBlank" "[I" ∈ pv_T := pv_m 1207 (by decide +kernel) (by decide +kernel)
theorem wd1208 : Cond.fieldLink RX12 72 "StrikeOutModel" "strokeClerk" "[I" ∈ pv_T := pv_m 1208 (by decide +kernel) (by decide +kernel)
theorem wd1209 : Cond.fieldLink RX12 75 "StrikeOutModel" "strokeDay" "[I" ∈ pv_T := pv_m 1209 (by decide +kernel) (by decide +kernel)
theorem wd1210 : Cond.fieldLink RX12 78 "StrikeOutModel" "strokeCost" "[I" ∈ pv_T := pv_m 1210 (by decide +kernel) (by decide +kernel)
theorem wd1211 : Cond.fieldLink RX12 81 "StrikeOutModel" "strokeMany" "[I" ∈ pv_T := pv_m 1211 (by decide +kernel) (by decide +kernel)
theorem wd1212 : Cond.fieldLink RX12 84 "StrikeOutModel" "strokeNumber" "[I" ∈ pv_T := pv_m 1212 (by decide +kernel) (by decide +kernel)
theorem wd1215 : Cond.fieldLink RX12 87 "StrikeOutModel" "row" "[I" ∈ pv_T := pv_m 1215 (by decide +kernel) (by decide +kernel)
theorem wd1216 : Cond.fieldLink RX12 90 "StrikeOutModel" "deedRow" "[I" ∈ pv_T := pv_m 1216 (by decide +kernel) (by decide +kernel)
theorem wd1217 : Cond.fieldLink RX12 93 "StrikeOutModel" "waysFrom" "[J" ∈ pv_T := pv_m 1217 (by decide +kernel) (by decide +kernel)
theorem wd1218 : Cond.fieldLink RX12 97 "StrikeOutModel" "goesFor" "[I" ∈ pv_T := pv_m 1218 (by decide +kernel) (by decide +kernel)
theorem wd1219 : Cond.fieldLink RX12 100 "StrikeOutModel" "cheapFrom" "[I" ∈ pv_T := pv_m 1219 (by decide +kernel) (by decide +kernel)
theorem wd1220 : Cond.fieldLink RX12 103 "StrikeOutModel" "stays" "[I" ∈ pv_T := pv_m 1220 (by decide +kernel) (by decide +kernel)
theorem wd1221 : Cond.fieldLink RX12 106 "StrikeOutModel" "fewFrom" "[I" ∈ pv_T := pv_m 1221 (by decide +kernel) (by decide +kernel)
theorem wd1222 : Cond.fieldLink RX12 109 "StrikeOutModel" "evenFrom" "[J" ∈ pv_T := pv_m 1222 (by decide +kernel) (by decide +kernel)
theorem wd1224 : Cond.fieldLink RX12 112 "StrikeOutModel" "choice" "[I" ∈ pv_T := pv_m 1224 (by decide +kernel) (by decide +kernel)
theorem wd1225 : Cond.fieldLink RX12 115 "StrikeOutModel" "at0" "[I" ∈ pv_T := pv_m 1225 (by decide +kernel) (by decide +kernel)
theorem wd1226 : Cond.fieldLink RX12 118 "StrikeOutModel" "next0" "[I" ∈ pv_T := pv_m 1226 (by decide +kernel) (by decide +kernel)
theorem wd1227 : Cond.fieldLink RX12 121 "StrikeOutModel" "step" "[I" ∈ pv_T := pv_m 1227 (by decide +kernel) (by decide +kernel)
theorem wd1228 : Cond.fieldLink RX12 124 "StrikeOutModel" "hiddenFrom" "[I" ∈ pv_T := pv_m 1228 (by decide +kernel) (by decide +kernel)
theorem wd1229 : Cond.fieldLink RX12 127 "StrikeOutModel" "hiddenRow" "[I" ∈ pv_T := pv_m 1229 (by decide +kernel) (by decide +kernel)
theorem wd1230 : Cond.fieldLink RX12 130 "StrikeOutModel" "shortFrom" "[I" ∈ pv_T := pv_m 1230 (by decide +kernel) (by decide +kernel)
theorem wd1231 : Cond.fieldLink RX12 133 "StrikeOutModel" "shortWays" "[J" ∈ pv_T := pv_m 1231 (by decide +kernel) (by decide +kernel)
theorem wd1232 : Cond.fieldLink RX12 136 "StrikeOutModel" "mayCome" "[Z" ∈ pv_T := pv_m 1232 (by decide +kernel) (by decide +kernel)
theorem wd1233 : Cond.fieldLink RX12 139 "StrikeOutModel" "valueFrom" "[I" ∈ pv_T := pv_m 1233 (by decide +kernel) (by decide +kernel)
theorem wd1235 : Cond.fieldLink RX12 142 "StrikeOutModel" "follows" "[Z" ∈ pv_T := pv_m 1235 (by decide +kernel) (by decide +kernel)
theorem wd1236 : Cond.fieldLink RX12 145 "StrikeOutModel" "longFrom" "[I" ∈ pv_T := pv_m 1236 (by decide +kernel) (by decide +kernel)
theorem wd1366 : Cond.methodLink RL 17 yX12_day ∈ pv_T := pv_m 1366 (by decide +kernel) (by decide +kernel)
theorem wd1367 : Cond.instanceMethod yX12_day ∈ pv_T := pv_m 1367 (by decide +kernel) (by decide +kernel)
theorem wd1368 : Cond.selects RX12 yX12_day yX12_day ∈ pv_T := pv_m 1368 (by decide +kernel) (by decide +kernel)
theorem wd1369 : Cond.code yX12_day cX12_day 2 (some .boolean) ∈ pv_T := pv_m 1369 (by decide +kernel) (by decide +kernel)
theorem wd1370 : Cond.methodLink RX12 161 yX12_in ∈ pv_T := pv_m 1370 (by decide +kernel) (by decide +kernel)
theorem wd1371 : Cond.static yX12_in ∈ pv_T := pv_m 1371 (by decide +kernel) (by decide +kernel)
theorem wd1372 : Cond.code yX12_in cX12_in 3 (some .boolean) ∈ pv_T := pv_m 1372 (by decide +kernel) (by decide +kernel)
theorem wd1373 : Cond.methodLink RL 27 yX12_blank ∈ pv_T := pv_m 1373 (by decide +kernel) (by decide +kernel)
theorem wd1374 : Cond.instanceMethod yX12_blank ∈ pv_T := pv_m 1374 (by decide +kernel) (by decide +kernel)
theorem wd1375 : Cond.selects RX12 yX12_blank yX12_blank ∈ pv_T := pv_m 1375 (by decide +kernel) (by decide +kernel)
theorem wd1376 : Cond.code yX12_blank cX12_blank 3 (some .int) ∈ pv_T := pv_m 1376 (by decide +kernel) (by decide +kernel)
theorem wd1381 : Cond.methodLink RL 32 yX12_deed ∈ pv_T := pv_m 1381 (by decide +kernel) (by decide +kernel)
theorem wd1382 : Cond.instanceMethod yX12_deed ∈ pv_T := pv_m 1382 (by decide +kernel) (by decide +kernel)
theorem wd1383 : Cond.selects RX12 yX12_deed yX12_deed ∈ pv_T := pv_m 1383 (by decide +kernel) (by decide +kernel)
theorem wd1384 : Cond.code yX12_deed cX12_deed 4 (some .int) ∈ pv_T := pv_m 1384 (by decide +kernel) (by decide +kernel)
theorem wd1385 : Cond.methodLink RL 41 yX12_left ∈ pv_T := pv_m 1385 (by decide +kernel) (by decide +kernel)
theorem wd1386 : Cond.instanceMethod yX12_left ∈ pv_T := pv_m 1386 (by decide +kernel) (by decide +kernel)
theorem wd1387 : Cond.selects RX12 yX12_left yX12_left ∈ pv_T := pv_m 1387 (by decide +kernel) (by decide +kernel)
theorem wd1388 : Cond.code yX12_left cX12_left 5 (some .int) ∈ pv_T := pv_m 1388 (by decide +kernel) (by decide +kernel)
theorem wd1389 : Cond.methodLink RX12 172 yX12_isBlank ∈ pv_T := pv_m 1389 (by decide +kernel) (by decide +kernel)
theorem wd1391 : Cond.instanceMethod yX12_isBlank ∈ pv_T := pv_m 1391 (by decide +kernel) (by decide +kernel)
theorem wd1392 : Cond.code yX12_isBlank cX12_isBlank 2 (some .boolean) ∈ pv_T := pv_m 1392 (by decide +kernel) (by decide +kernel)
theorem wd1401 : Cond.methodLink RL 22 yX12_feed ∈ pv_T := pv_m 1401 (by decide +kernel) (by decide +kernel)
theorem wd1402 : Cond.instanceMethod yX12_feed ∈ pv_T := pv_m 1402 (by decide +kernel) (by decide +kernel)
theorem wd1403 : Cond.selects RX12 yX12_feed yX12_feed ∈ pv_T := pv_m 1403 (by decide +kernel) (by decide +kernel)
theorem wd1404 : Cond.code yX12_feed cX12_feed 6 (some .int) ∈ pv_T := pv_m 1404 (by decide +kernel) (by decide +kernel)
theorem wd1405 : Cond.methodLink RX12 183 yX12_types ∈ pv_T := pv_m 1405 (by decide +kernel) (by decide +kernel)
theorem wd1407 : Cond.instanceMethod yX12_types ∈ pv_T := pv_m 1407 (by decide +kernel) (by decide +kernel)
theorem wd1408 : Cond.code yX12_types cX12_types 3 none ∈ pv_T := pv_m 1408 (by decide +kernel) (by decide +kernel)
theorem wd1409 : Cond.methodLink RL 36 yX12_law ∈ pv_T := pv_m 1409 (by decide +kernel) (by decide +kernel)
theorem wd1410 : Cond.instanceMethod yX12_law ∈ pv_T := pv_m 1410 (by decide +kernel) (by decide +kernel)
theorem wd1411 : Cond.selects RX12 yX12_law yX12_law ∈ pv_T := pv_m 1411 (by decide +kernel) (by decide +kernel)
theorem wd1412 : Cond.code yX12_law cX12_law 4 (some .int) ∈ pv_T := pv_m 1412 (by decide +kernel) (by decide +kernel)
theorem wd1492 : Cond.methodLink RL 46 yX12_may ∈ pv_T := pv_m 1492 (by decide +kernel) (by decide +kernel)
theorem wd1493 : Cond.instanceMethod yX12_may ∈ pv_T := pv_m 1493 (by decide +kernel) (by decide +kernel)
theorem wd1494 : Cond.selects RX12 yX12_may yX12_may ∈ pv_T := pv_m 1494 (by decide +kernel) (by decide +kernel)
theorem wd1495 : Cond.code yX12_may cX12_may 5 (some .int) ∈ pv_T := pv_m 1495 (by decide +kernel) (by decide +kernel)
theorem wd1526 : Cond.methodLink RL 50 yX12_strike ∈ pv_T := pv_m 1526 (by decide +kernel) (by decide +kernel)
theorem wd1527 : Cond.instanceMethod yX12_strike ∈ pv_T := pv_m 1527 (by decide +kernel) (by decide +kernel)
theorem wd1528 : Cond.selects RX12 yX12_strike yX12_strike ∈ pv_T := pv_m 1528 (by decide +kernel) (by decide +kernel)
theorem wd1529 : Cond.code yX12_strike cX12_strike 7 (some .int) ∈ pv_T := pv_m 1529 (by decide +kernel) (by decide +kernel)
theorem wd1538 : Cond.methodLink RL 54 yX12_back ∈ pv_T := pv_m 1538 (by decide +kernel) (by decide +kernel)
theorem wd1539 : Cond.instanceMethod yX12_back ∈ pv_T := pv_m 1539 (by decide +kernel) (by decide +kernel)
theorem wd1540 : Cond.selects RX12 yX12_back yX12_back ∈ pv_T := pv_m 1540 (by decide +kernel) (by decide +kernel)
theorem wd1541 : Cond.code yX12_back cX12_back 5 (some .int) ∈ pv_T := pv_m 1541 (by decide +kernel) (by decide +kernel)
theorem wd1546 : Cond.methodLink RL 58 yX12_book ∈ pv_T := pv_m 1546 (by decide +kernel) (by decide +kernel)
theorem wd1547 : Cond.instanceMethod yX12_book ∈ pv_T := pv_m 1547 (by decide +kernel) (by decide +kernel)
theorem wd1548 : Cond.selects RX12 yX12_book yX12_book ∈ pv_T := pv_m 1548 (by decide +kernel) (by decide +kernel)
theorem wd1549 : Cond.code yX12_book cX12_book 3 (some .int) ∈ pv_T := pv_m 1549 (by decide +kernel) (by decide +kernel)
theorem wd1550 : Cond.methodLink RL 63 yX12_ways ∈ pv_T := pv_m 1550 (by decide +kernel) (by decide +kernel)
theorem wd1551 : Cond.instanceMethod yX12_ways ∈ pv_T := pv_m 1551 (by decide +kernel) (by decide +kernel)
theorem wd1552 : Cond.selects RX12 yX12_ways yX12_ways ∈ pv_T := pv_m 1552 (by decide +kernel) (by decide +kernel)
theorem wd1553 : Cond.code yX12_ways cX12_ways 5 (some .long) ∈ pv_T := pv_m 1553 (by decide +kernel) (by decide +kernel)
theorem wd1554 : Cond.methodLink RX12 329 yX12_isAsked ∈ pv_T := pv_m 1554 (by decide +kernel) (by decide +kernel)
theorem wd1556 : Cond.instanceMethod yX12_isAsked ∈ pv_T := pv_m 1556 (by decide +kernel) (by decide +kernel)
theorem wd1557 : Cond.code yX12_isAsked cX12_isAsked 3 (some .boolean) ∈ pv_T := pv_m 1557 (by decide +kernel) (by decide +kernel)
theorem wd1558 : Cond.methodLink RX12 326 yX12_isDeed ∈ pv_T := pv_m 1558 (by decide +kernel) (by decide +kernel)
theorem wd1560 : Cond.instanceMethod yX12_isDeed ∈ pv_T := pv_m 1560 (by decide +kernel) (by decide +kernel)
theorem wd1561 : Cond.code yX12_isDeed cX12_isDeed 2 (some .boolean) ∈ pv_T := pv_m 1561 (by decide +kernel) (by decide +kernel)
theorem wd1562 : Cond.constantLong RX12 332 (-1) ∈ pv_T := pv_m 1562 (by decide +kernel) (by decide +kernel)
theorem wd1571 : Cond.methodLink RL 67 yX12_cheapest ∈ pv_T := pv_m 1571 (by decide +kernel) (by decide +kernel)
theorem wd1572 : Cond.instanceMethod yX12_cheapest ∈ pv_T := pv_m 1572 (by decide +kernel) (by decide +kernel)
theorem wd1573 : Cond.selects RX12 yX12_cheapest yX12_cheapest ∈ pv_T := pv_m 1573 (by decide +kernel) (by decide +kernel)
theorem wd1574 : Cond.code yX12_cheapest cX12_cheapest 6 (some .int) ∈ pv_T := pv_m 1574 (by decide +kernel) (by decide +kernel)
theorem wd1595 : Cond.methodLink RL 71 yX12_done ∈ pv_T := pv_m 1595 (by decide +kernel) (by decide +kernel)
theorem wd1596 : Cond.instanceMethod yX12_done ∈ pv_T := pv_m 1596 (by decide +kernel) (by decide +kernel)
theorem wd1597 : Cond.selects RX12 yX12_done yX12_done ∈ pv_T := pv_m 1597 (by decide +kernel) (by decide +kernel)
theorem wd1598 : Cond.code yX12_done cX12_done 11 (some .int) ∈ pv_T := pv_m 1598 (by decide +kernel) (by decide +kernel)
theorem wd1603 : Cond.methodLink RL 75 yX12_strokes ∈ pv_T := pv_m 1603 (by decide +kernel) (by decide +kernel)
theorem wd1604 : Cond.instanceMethod yX12_strokes ∈ pv_T := pv_m 1604 (by decide +kernel) (by decide +kernel)
theorem wd1605 : Cond.selects RX12 yX12_strokes yX12_strokes ∈ pv_T := pv_m 1605 (by decide +kernel) (by decide +kernel)
theorem wd1606 : Cond.code yX12_strokes cX12_strokes 5 (some .int) ∈ pv_T := pv_m 1606 (by decide +kernel) (by decide +kernel)
theorem wd1614 : Cond.methodLink RL 80 yX12_even ∈ pv_T := pv_m 1614 (by decide +kernel) (by decide +kernel)
theorem wd1615 : Cond.instanceMethod yX12_even ∈ pv_T := pv_m 1615 (by decide +kernel) (by decide +kernel)
theorem wd1616 : Cond.selects RX12 yX12_even yX12_even ∈ pv_T := pv_m 1616 (by decide +kernel) (by decide +kernel)
theorem wd1617 : Cond.code yX12_even cX12_even 9 (some .long) ∈ pv_T := pv_m 1617 (by decide +kernel) (by decide +kernel)
theorem wd1618 : Cond.methodLink RL 84 yX12_hidden ∈ pv_T := pv_m 1618 (by decide +kernel) (by decide +kernel)
theorem wd1619 : Cond.instanceMethod yX12_hidden ∈ pv_T := pv_m 1619 (by decide +kernel) (by decide +kernel)
theorem wd1620 : Cond.selects RX12 yX12_hidden yX12_hidden ∈ pv_T := pv_m 1620 (by decide +kernel) (by decide +kernel)
theorem wd1621 : Cond.code yX12_hidden cX12_hidden 9 (some .int) ∈ pv_T := pv_m 1621 (by decide +kernel) (by decide +kernel)
theorem wd1622 : Cond.methodLink RX12 391 yX12_spreads ∈ pv_T := pv_m 1622 (by decide +kernel) (by decide +kernel)
theorem wd1624 : Cond.instanceMethod yX12_spreads ∈ pv_T := pv_m 1624 (by decide +kernel) (by decide +kernel)
theorem wd1625 : Cond.code yX12_spreads cX12_spreads 5 (some .boolean) ∈ pv_T := pv_m 1625 (by decide +kernel) (by decide +kernel)
theorem wd1626 : Cond.methodLink RX12 366 yX12_bits ∈ pv_T := pv_m 1626 (by decide +kernel) (by decide +kernel)
theorem wd1627 : Cond.static yX12_bits ∈ pv_T := pv_m 1627 (by decide +kernel) (by decide +kernel)
theorem wd1628 : Cond.code yX12_bits cX12_bits 3 (some .int) ∈ pv_T := pv_m 1628 (by decide +kernel) (by decide +kernel)
theorem wd1656 : Cond.methodLink RL 88 yX12_shortest ∈ pv_T := pv_m 1656 (by decide +kernel) (by decide +kernel)
theorem wd1657 : Cond.instanceMethod yX12_shortest ∈ pv_T := pv_m 1657 (by decide +kernel) (by decide +kernel)
theorem wd1658 : Cond.selects RX12 yX12_shortest yX12_shortest ∈ pv_T := pv_m 1658 (by decide +kernel) (by decide +kernel)
theorem wd1659 : Cond.code yX12_shortest cX12_shortest 7 (some .int) ∈ pv_T := pv_m 1659 (by decide +kernel) (by decide +kernel)
theorem wd1683 : Cond.methodLink RL 93 yX12_shortestMany ∈ pv_T := pv_m 1683 (by decide +kernel) (by decide +kernel)
theorem wd1684 : Cond.instanceMethod yX12_shortestMany ∈ pv_T := pv_m 1684 (by decide +kernel) (by decide +kernel)
theorem wd1685 : Cond.selects RX12 yX12_shortestMany yX12_shortestMany ∈ pv_T := pv_m 1685 (by decide +kernel) (by decide +kernel)
theorem wd1686 : Cond.code yX12_shortestMany cX12_shortestMany 2 (some .long) ∈ pv_T := pv_m 1686 (by decide +kernel) (by decide +kernel)
theorem wd1688 : Cond.methodLink RL 97 yX12_bound ∈ pv_T := pv_m 1688 (by decide +kernel) (by decide +kernel)
theorem wd1689 : Cond.instanceMethod yX12_bound ∈ pv_T := pv_m 1689 (by decide +kernel) (by decide +kernel)
theorem wd1690 : Cond.selects RX12 yX12_bound yX12_bound ∈ pv_T := pv_m 1690 (by decide +kernel) (by decide +kernel)
theorem wd1691 : Cond.code yX12_bound cX12_bound 5 (some .int) ∈ pv_T := pv_m 1691 (by decide +kernel) (by decide +kernel)
theorem wd1692 : Cond.methodLink RL 101 yX12_forged ∈ pv_T := pv_m 1692 (by decide +kernel) (by decide +kernel)
theorem wd1693 : Cond.instanceMethod yX12_forged ∈ pv_T := pv_m 1693 (by decide +kernel) (by decide +kernel)
theorem wd1694 : Cond.selects RX12 yX12_forged yX12_forged ∈ pv_T := pv_m 1694 (by decide +kernel) (by decide +kernel)
theorem wd1695 : Cond.code yX12_forged cX12_forged 3 (some .int) ∈ pv_T := pv_m 1695 (by decide +kernel) (by decide +kernel)
theorem wd1700 : Cond.methodLink RL 105 yX12_spare ∈ pv_T := pv_m 1700 (by decide +kernel) (by decide +kernel)
theorem wd1701 : Cond.instanceMethod yX12_spare ∈ pv_T := pv_m 1701 (by decide +kernel) (by decide +kernel)
theorem wd1702 : Cond.selects RX12 yX12_spare yX12_spare ∈ pv_T := pv_m 1702 (by decide +kernel) (by decide +kernel)
theorem wd1703 : Cond.code yX12_spare cX12_spare 6 (some .long) ∈ pv_T := pv_m 1703 (by decide +kernel) (by decide +kernel)
theorem wd1704 : Cond.methodLink RX12 420 yX12_areSet ∈ pv_T := pv_m 1704 (by decide +kernel) (by decide +kernel)
theorem wd1706 : Cond.instanceMethod yX12_areSet ∈ pv_T := pv_m 1706 (by decide +kernel) (by decide +kernel)
theorem wd1707 : Cond.code yX12_areSet cX12_areSet 2 (some .boolean) ∈ pv_T := pv_m 1707 (by decide +kernel) (by decide +kernel)
theorem wd1712 : Cond.methodLink RL 109 yX12_dayEnd ∈ pv_T := pv_m 1712 (by decide +kernel) (by decide +kernel)
theorem wd1713 : Cond.instanceMethod yX12_dayEnd ∈ pv_T := pv_m 1713 (by decide +kernel) (by decide +kernel)
theorem wd1714 : Cond.selects RX12 yX12_dayEnd yX12_dayEnd ∈ pv_T := pv_m 1714 (by decide +kernel) (by decide +kernel)
theorem wd1715 : Cond.code yX12_dayEnd cX12_dayEnd 3 (some .int) ∈ pv_T := pv_m 1715 (by decide +kernel) (by decide +kernel)
theorem wd1741 : Cond.methodLink RL 113 yX12_worth ∈ pv_T := pv_m 1741 (by decide +kernel) (by decide +kernel)
theorem wd1742 : Cond.instanceMethod yX12_worth ∈ pv_T := pv_m 1742 (by decide +kernel) (by decide +kernel)
theorem wd1743 : Cond.selects RX12 yX12_worth yX12_worth ∈ pv_T := pv_m 1743 (by decide +kernel) (by decide +kernel)
theorem wd1744 : Cond.code yX12_worth cX12_worth 6 (some .int) ∈ pv_T := pv_m 1744 (by decide +kernel) (by decide +kernel)
theorem wd1745 : Cond.methodLink RL 117 yX12_family ∈ pv_T := pv_m 1745 (by decide +kernel) (by decide +kernel)
theorem wd1746 : Cond.instanceMethod yX12_family ∈ pv_T := pv_m 1746 (by decide +kernel) (by decide +kernel)
theorem wd1747 : Cond.selects RX12 yX12_family yX12_family ∈ pv_T := pv_m 1747 (by decide +kernel) (by decide +kernel)
theorem wd1748 : Cond.code yX12_family cX12_family 7 (some .int) ∈ pv_T := pv_m 1748 (by decide +kernel) (by decide +kernel)
theorem wd1757 : Cond.methodLink RL 121 yX12_chain ∈ pv_T := pv_m 1757 (by decide +kernel) (by decide +kernel)
theorem wd1758 : Cond.instanceMethod yX12_chain ∈ pv_T := pv_m 1758 (by decide +kernel) (by decide +kernel)
theorem wd1759 : Cond.selects RX12 yX12_chain yX12_chain ∈ pv_T := pv_m 1759 (by decide +kernel) (by decide +kernel)
theorem wd1760 : Cond.code yX12_chain cX12_chain 8 (some .int) ∈ pv_T := pv_m 1760 (by decide +kernel) (by decide +kernel)
theorem wd1773 : Cond.methodLink RL 125 yX12_seed ∈ pv_T := pv_m 1773 (by decide +kernel) (by decide +kernel)
theorem wd1774 : Cond.instanceMethod yX12_seed ∈ pv_T := pv_m 1774 (by decide +kernel) (by decide +kernel)
theorem wd1775 : Cond.selects RX12 yX12_seed yX12_seed ∈ pv_T := pv_m 1775 (by decide +kernel) (by decide +kernel)
theorem wd1776 : Cond.code yX12_seed cX12_seed 2 (some .boolean) ∈ pv_T := pv_m 1776 (by decide +kernel) (by decide +kernel)
theorem wd1777 : Cond.constant RX12 463 65535 ∈ pv_T := pv_m 1777 (by decide +kernel) (by decide +kernel)
theorem wd1778 : Cond.methodLink RL 129 yX12_draw ∈ pv_T := pv_m 1778 (by decide +kernel) (by decide +kernel)
theorem wd1779 : Cond.instanceMethod yX12_draw ∈ pv_T := pv_m 1779 (by decide +kernel) (by decide +kernel)
theorem wd1780 : Cond.selects RX12 yX12_draw yX12_draw ∈ pv_T := pv_m 1780 (by decide +kernel) (by decide +kernel)
theorem wd1781 : Cond.code yX12_draw cX12_draw 7 (some .int) ∈ pv_T := pv_m 1781 (by decide +kernel) (by decide +kernel)
theorem wd1783 : Cond.methodLink RL 133 yX12_check ∈ pv_T := pv_m 1783 (by decide +kernel) (by decide +kernel)
theorem wd1784 : Cond.instanceMethod yX12_check ∈ pv_T := pv_m 1784 (by decide +kernel) (by decide +kernel)
theorem wd1785 : Cond.selects RX12 yX12_check yX12_check ∈ pv_T := pv_m 1785 (by decide +kernel) (by decide +kernel)
theorem wd1786 : Cond.code yX12_check cX12_check 4 (some .int) ∈ pv_T := pv_m 1786 (by decide +kernel) (by decide +kernel)
theorem wd1791 : Cond.methodLink RL 137 yX12_count ∈ pv_T := pv_m 1791 (by decide +kernel) (by decide +kernel)
theorem wd1792 : Cond.instanceMethod yX12_count ∈ pv_T := pv_m 1792 (by decide +kernel) (by decide +kernel)
theorem wd1793 : Cond.selects RX12 yX12_count yX12_count ∈ pv_T := pv_m 1793 (by decide +kernel) (by decide +kernel)
theorem wd1794 : Cond.code yX12_count cX12_count 2 (some .int) ∈ pv_T := pv_m 1794 (by decide +kernel) (by decide +kernel)
theorem wd1795 : Cond.methodLink RX12 468 yX12_costAll ∈ pv_T := pv_m 1795 (by decide +kernel) (by decide +kernel)
theorem wd1797 : Cond.instanceMethod yX12_costAll ∈ pv_T := pv_m 1797 (by decide +kernel) (by decide +kernel)
theorem wd1798 : Cond.code yX12_costAll cX12_costAll 3 (some .int) ∈ pv_T := pv_m 1798 (by decide +kernel) (by decide +kernel)
set_option maxRecDepth 100000 in
theorem FX0 : pv_F 0 RX0 TX0 4 tyX0 := ⟨rfl, fun w hw => List.mem_filter.mpr ⟨(by decide +kernel : ∀ w ∈ u_ws RX0 TX0 4, w ∈ lw_tbl) w hw, (by decide +kernel : ∀ w ∈ u_ws RX0 TX0 4, goodWord w = true) w hw⟩, tyX0_ok, nmX0⟩
set_option maxRecDepth 100000 in
theorem FX1 : pv_F 1 RX1 TX1 7 tyX1 := ⟨rfl, fun w hw => List.mem_filter.mpr ⟨(by decide +kernel : ∀ w ∈ u_ws RX1 TX1 7, w ∈ lw_tbl) w hw, (by decide +kernel : ∀ w ∈ u_ws RX1 TX1 7, goodWord w = true) w hw⟩, tyX1_ok, nmX1⟩
set_option maxRecDepth 100000 in
theorem FX2 : pv_F 2 RX2 TX2 4 tyX2 := ⟨rfl, fun w hw => List.mem_filter.mpr ⟨(by decide +kernel : ∀ w ∈ u_ws RX2 TX2 4, w ∈ lw_tbl) w hw, (by decide +kernel : ∀ w ∈ u_ws RX2 TX2 4, goodWord w = true) w hw⟩, tyX2_ok, nmX2⟩
set_option maxRecDepth 100000 in
theorem FX4 : pv_F 4 RX4 TX4 2 tyX4 := ⟨rfl, fun w hw => List.mem_filter.mpr ⟨(by decide +kernel : ∀ w ∈ u_ws RX4 TX4 2, w ∈ lw_tbl) w hw, (by decide +kernel : ∀ w ∈ u_ws RX4 TX4 2, goodWord w = true) w hw⟩, tyX4_ok, nmX4⟩
set_option maxRecDepth 100000 in
theorem FX5 : pv_F 5 RX5 TX5 3 tyX5 := ⟨rfl, fun w hw => List.mem_filter.mpr ⟨(by decide +kernel : ∀ w ∈ u_ws RX5 TX5 3, w ∈ lw_tbl) w hw, (by decide +kernel : ∀ w ∈ u_ws RX5 TX5 3, goodWord w = true) w hw⟩, tyX5_ok, nmX5⟩
set_option maxRecDepth 100000 in
theorem FX6 : pv_F 6 RX6 TX6 12 tyX6 := ⟨rfl, fun w hw => List.mem_filter.mpr ⟨(by decide +kernel : ∀ w ∈ u_ws RX6 TX6 12, w ∈ lw_tbl) w hw, (by decide +kernel : ∀ w ∈ u_ws RX6 TX6 12, goodWord w = true) w hw⟩, tyX6_ok, nmX6⟩
set_option maxRecDepth 100000 in
theorem FX7 : pv_F 7 RX7 TX7 5 tyX7 := ⟨rfl, fun w hw => List.mem_filter.mpr ⟨(by decide +kernel : ∀ w ∈ u_ws RX7 TX7 5, w ∈ lw_tbl) w hw, (by decide +kernel : ∀ w ∈ u_ws RX7 TX7 5, goodWord w = true) w hw⟩, tyX7_ok, nmX7⟩
set_option maxRecDepth 100000 in
theorem FX8 : pv_F 8 RX8 TX8 2 tyX8 := ⟨rfl, fun w hw => List.mem_filter.mpr ⟨(by decide +kernel : ∀ w ∈ u_ws RX8 TX8 2, w ∈ lw_tbl) w hw, (by decide +kernel : ∀ w ∈ u_ws RX8 TX8 2, goodWord w = true) w hw⟩, tyX8_ok, nmX8⟩
set_option maxRecDepth 100000 in
theorem FX9 : pv_F 9 RX9 TX9 5 tyX9 := ⟨rfl, fun w hw => List.mem_filter.mpr ⟨(by decide +kernel : ∀ w ∈ u_ws RX9 TX9 5, w ∈ lw_tbl) w hw, (by decide +kernel : ∀ w ∈ u_ws RX9 TX9 5, goodWord w = true) w hw⟩, tyX9_ok, nmX9⟩
set_option maxRecDepth 100000 in
theorem FX10 : pv_F 10 RX10 TX10 2 tyX10 := ⟨rfl, fun w hw => List.mem_filter.mpr ⟨(by decide +kernel : ∀ w ∈ u_ws RX10 TX10 2, w ∈ lw_tbl) w hw, (by decide +kernel : ∀ w ∈ u_ws RX10 TX10 2, goodWord w = true) w hw⟩, tyX10_ok, nmX10⟩
set_option maxRecDepth 100000 in
theorem FX11 : pv_F 11 RX11 TX11 17 tyX11 := ⟨rfl, fun w hw => List.mem_filter.mpr ⟨(by decide +kernel : ∀ w ∈ u_ws RX11 TX11 17, w ∈ lw_tbl) w hw, (by decide +kernel : ∀ w ∈ u_ws RX11 TX11 17, goodWord w = true) w hw⟩, tyX11_ok, nmX11⟩
set_option maxRecDepth 100000 in
theorem FX12 : pv_F 12 RX12 TX12 64 tyX12 := ⟨rfl, fun w hw => List.mem_filter.mpr ⟨(by decide +kernel : ∀ w ∈ u_ws RX12 TX12 64, w ∈ lw_tbl) w hw, (by decide +kernel : ∀ w ∈ u_ws RX12 TX12 64, goodWord w = true) w hw⟩, tyX12_ok, nmX12⟩
abbrev mX11_init : pv_M := (RX11, "<init>", cX11_init, 2, none)
theorem YX11_init : pv_y yX11_init mX11_init 0 := ⟨wd151, wd125, by decide +kernel, by decide⟩
abbrev mX11_areDeeds : pv_M := (RX11, "areDeeds", cX11_areDeeds, 2, some .boolean)
theorem YX11_areDeeds : pv_y yX11_areDeeds mX11_areDeeds 1 := ⟨wd922, wd125, by decide +kernel, by decide⟩
abbrev mX11_back : pv_M := (RX11, "back", cX11_back, 5, some .int)
theorem YX11_back : pv_y yX11_back mX11_back 1 := ⟨wd797, wd125, by decide +kernel, by decide⟩
abbrev mX11_blank : pv_M := (RX11, "blank", cX11_blank, 3, some .int)
theorem YX11_blank : pv_y yX11_blank mX11_blank 1 := ⟨wd478, wd125, by decide +kernel, by decide⟩
abbrev mX11_book : pv_M := (RX11, "book", cX11_book, 3, some .int)
theorem YX11_book : pv_y yX11_book mX11_book 2 := ⟨wd818, wd125, by decide +kernel, by decide⟩
abbrev mX11_bound : pv_M := (RX11, "bound", cX11_bound, 6, some .int)
theorem YX11_bound : pv_y yX11_bound mX11_bound 1 := ⟨wd1055, wd125, by decide +kernel, by decide⟩
abbrev mX11_chain : pv_M := (RX11, "chain", cX11_chain, 4, some .int)
theorem YX11_chain : pv_y yX11_chain mX11_chain 2 := ⟨wd1123, wd125, by decide +kernel, by decide⟩
abbrev mX11_cheapest : pv_M := (RX11, "cheapest", cX11_cheapest, 6, some .int)
theorem YX11_cheapest : pv_y yX11_cheapest mX11_cheapest 4 := ⟨wd848, wd125, by decide +kernel, by decide⟩
abbrev mX11_check : pv_M := (RX11, "check", cX11_check, 5, some .int)
theorem YX11_check : pv_y yX11_check mX11_check 2 := ⟨wd1154, wd125, by decide +kernel, by decide⟩
abbrev mX11_count : pv_M := (RX11, "count", cX11_count, 2, some .int)
theorem YX11_count : pv_y yX11_count mX11_count 1 := ⟨wd1162, wd125, by decide +kernel, by decide⟩
abbrev mX11_day : pv_M := (RX11, "day", cX11_day, 2, some .boolean)
theorem YX11_day : pv_y yX11_day mX11_day 1 := ⟨wd462, wd125, by decide +kernel, by decide⟩
abbrev mX11_dayEnd : pv_M := (RX11, "dayEnd", cX11_dayEnd, 3, some .int)
theorem YX11_dayEnd : pv_y yX11_dayEnd mX11_dayEnd 2 := ⟨wd1081, wd125, by decide +kernel, by decide⟩
abbrev mX11_deed : pv_M := (RX11, "deed", cX11_deed, 4, some .int)
theorem YX11_deed : pv_y yX11_deed mX11_deed 2 := ⟨wd499, wd125, by decide +kernel, by decide⟩
abbrev mX11_done : pv_M := (RX11, "done", cX11_done, 8, some .int)
theorem YX11_done : pv_y yX11_done mX11_done 3 := ⟨wd870, wd125, by decide +kernel, by decide⟩
abbrev mX11_draw : pv_M := (RX11, "draw", cX11_draw, 7, some .int)
theorem YX11_draw : pv_y yX11_draw mX11_draw 2 := ⟨wd1149, wd125, by decide +kernel, by decide⟩
abbrev mX11_even : pv_M := (RX11, "even", cX11_even, 4, some .long)
theorem YX11_even : pv_y yX11_even mX11_even 3 := ⟨wd908, wd125, by decide +kernel, by decide⟩
abbrev mX11_family : pv_M := (RX11, "family", cX11_family, 7, some .int)
theorem YX11_family : pv_y yX11_family mX11_family 4 := ⟨wd1111, wd125, by decide +kernel, by decide⟩
abbrev mX11_feed : pv_M := (RX11, "feed", cX11_feed, 6, some .int)
theorem YX11_feed : pv_y yX11_feed mX11_feed 5 := ⟨wd466, wd125, by decide +kernel, by decide⟩
abbrev mX11_forged : pv_M := (RX11, "forged", cX11_forged, 3, some .int)
theorem YX11_forged : pv_y yX11_forged mX11_forged 1 := ⟨wd1059, wd125, by decide +kernel, by decide⟩
abbrev mX11_hidden : pv_M := (RX11, "hidden", cX11_hidden, 5, some .int)
theorem YX11_hidden : pv_y yX11_hidden mX11_hidden 2 := ⟨wd912, wd125, by decide +kernel, by decide⟩
abbrev mX11_isBlank : pv_M := (RX11, "isBlank", cX11_isBlank, 2, some .boolean)
theorem YX11_isBlank : pv_y yX11_isBlank mX11_isBlank 1 := ⟨wd703, wd125, by decide +kernel, by decide⟩
abbrev mX11_isDeed : pv_M := (RX11, "isDeed", cX11_isDeed, 2, some .boolean)
theorem YX11_isDeed : pv_y yX11_isDeed mX11_isDeed 1 := ⟨wd831, wd125, by decide +kernel, by decide⟩
abbrev mX11_isPlace : pv_M := (RX11, "isPlace", cX11_isPlace, 3, some .boolean)
theorem YX11_isPlace : pv_y yX11_isPlace mX11_isPlace 2 := ⟨wd699, wd125, by decide +kernel, by decide⟩
abbrev mX11_law : pv_M := (RX11, "law", cX11_law, 3, some .int)
theorem YX11_law : pv_y yX11_law mX11_law 1 := ⟨wd507, wd125, by decide +kernel, by decide⟩
abbrev mX11_left : pv_M := (RX11, "left", cX11_left, 4, some .int)
theorem YX11_left : pv_y yX11_left mX11_left 3 := ⟨wd695, wd125, by decide +kernel, by decide⟩
abbrev mX11_may : pv_M := (RX11, "may", cX11_may, 5, some .int)
theorem YX11_may : pv_y yX11_may mX11_may 4 := ⟨wd715, wd125, by decide +kernel, by decide⟩
abbrev mX11_refuseCover : pv_M := (RX11, "refuseCover", cX11_refuseCover, 4, some .int)
theorem YX11_refuseCover : pv_y yX11_refuseCover mX11_refuseCover 1 := ⟨wd962, wd125, by decide +kernel, by decide⟩
abbrev mX11_seed : pv_M := (RX11, "seed", cX11_seed, 2, some .boolean)
theorem YX11_seed : pv_y yX11_seed mX11_seed 1 := ⟨wd1144, wd125, by decide +kernel, by decide⟩
abbrev mX11_shortest : pv_M := (RX11, "shortest", cX11_shortest, 5, some .int)
theorem YX11_shortest : pv_y yX11_shortest mX11_shortest 2 := ⟨wd958, wd125, by decide +kernel, by decide⟩
abbrev mX11_shortestMany : pv_M := (RX11, "shortestMany", cX11_shortestMany, 3, some .long)
theorem YX11_shortestMany : pv_y yX11_shortestMany mX11_shortestMany 1 := ⟨wd1047, wd125, by decide +kernel, by decide⟩
abbrev mX11_spare : pv_M := (RX11, "spare", cX11_spare, 7, some .long)
theorem YX11_spare : pv_y yX11_spare mX11_spare 2 := ⟨wd1071, wd125, by decide +kernel, by decide⟩
abbrev mX11_strike : pv_M := (RX11, "strike", cX11_strike, 6, some .int)
theorem YX11_strike : pv_y yX11_strike mX11_strike 4 := ⟨wd772, wd125, by decide +kernel, by decide⟩
abbrev mX11_strokes : pv_M := (RX11, "strokes", cX11_strokes, 5, some .int)
theorem YX11_strokes : pv_y yX11_strokes mX11_strokes 3 := ⟨wd887, wd125, by decide +kernel, by decide⟩
abbrev mX11_toldDeeds : pv_M := (RX11, "toldDeeds", cX11_toldDeeds, 3, some .int)
theorem YX11_toldDeeds : pv_y yX11_toldDeeds mX11_toldDeeds 0 := ⟨wd926, wd125, by decide +kernel, by decide⟩
abbrev mX11_ways : pv_M := (RX11, "ways", cX11_ways, 3, some .long)
theorem YX11_ways : pv_y yX11_ways mX11_ways 2 := ⟨wd827, wd125, by decide +kernel, by decide⟩
abbrev mX11_worth : pv_M := (RX11, "worth", cX11_worth, 6, some .int)
theorem YX11_worth : pv_y yX11_worth mX11_worth 3 := ⟨wd1107, wd125, by decide +kernel, by decide⟩
abbrev mX0_init : pv_M := (RX0, "<init>", cX0_init, 1, none)
theorem YX0_init : pv_y yX0_init mX0_init 0 := ⟨wd176, wd127, by decide +kernel, by decide⟩
abbrev mX1_init : pv_M := (RX1, "<init>", cX1_init, 1, none)
theorem YX1_init : pv_y yX1_init mX1_init 0 := ⟨wd300, wd132, by decide +kernel, by decide⟩
abbrev mX1_costOfAll : pv_M := (RX1, "costOfAll", cX1_costOfAll, 3, some .int)
theorem YX1_costOfAll : pv_y yX1_costOfAll mX1_costOfAll 0 := ⟨wd1166, wd132, by decide +kernel, by decide⟩
abbrev mX1_lastOf : pv_M := (RX1, "lastOf", cX1_lastOf, 3, some .int)
theorem YX1_lastOf : pv_y yX1_lastOf mX1_lastOf 1 := ⟨wd801, wd132, by decide +kernel, by decide⟩
abbrev mX1_tell : pv_M := (RX1, "tell", cX1_tell, 3, some .int)
theorem YX1_tell : pv_y yX1_tell mX1_tell 2 := ⟨wd822, wd132, by decide +kernel, by decide⟩
abbrev mX2_init : pv_M := (RX2, "<init>", cX2_init, 1, none)
theorem YX2_init : pv_y yX2_init mX2_init 0 := ⟨wd344, wd134, by decide +kernel, by decide⟩
abbrev mX4_init : pv_M := (RX4, "<init>", cX4_init, 1, none)
theorem YX4_init : pv_y yX4_init mX4_init 0 := ⟨wd330, wd133, by decide +kernel, by decide⟩
abbrev mX5_init : pv_M := (RX5, "<init>", cX5_init, 1, none)
theorem YX5_init : pv_y yX5_init mX5_init 0 := ⟨wd366, wd135, by decide +kernel, by decide⟩
abbrev mX6_init : pv_M := (RX6, "<init>", cX6_init, 1, none)
theorem YX6_init : pv_y yX6_init mX6_init 0 := ⟨wd231, wd130, by decide +kernel, by decide⟩
abbrev mX7_init : pv_M := (RX7, "<init>", cX7_init, 1, none)
theorem YX7_init : pv_y yX7_init mX7_init 0 := ⟨wd276, wd131, by decide +kernel, by decide⟩
abbrev mX8_init : pv_M := (RX8, "<init>", cX8_init, 2, none)
theorem YX8_init : pv_y yX8_init mX8_init 1 := ⟨wd182, wd128, by decide +kernel, by decide⟩
abbrev mX9_init : pv_M := (RX9, "<init>", cX9_init, 1, none)
theorem YX9_init : pv_y yX9_init mX9_init 0 := ⟨wd386, wd136, by decide +kernel, by decide⟩
abbrev mX10_init : pv_M := (RX10, "<init>", cX10_init, 1, none)
theorem YX10_init : pv_y yX10_init mX10_init 0 := ⟨wd159, wd126, by decide +kernel, by decide⟩
abbrev mX10_hasRoom : pv_M := (RX10, "hasRoom", cX10_hasRoom, 2, some .boolean)
theorem YX10_hasRoom : pv_y yX10_hasRoom mX10_hasRoom 1 := ⟨wd470, wd126, by decide +kernel, by decide⟩
abbrev mX10_put : pv_M := (RX10, "put", cX10_put, 3, none)
theorem YX10_put : pv_y yX10_put mX10_put 1 := ⟨wd474, wd126, by decide +kernel, by decide⟩
abbrev mX12_init : pv_M := (RX12, "<init>", cX12_init, 1, none)
theorem YX12_init : pv_y yX12_init mX12_init 0 := ⟨wd1171, wd137, by decide +kernel, by decide⟩
abbrev mX12_areSet : pv_M := (RX12, "areSet", cX12_areSet, 2, some .boolean)
theorem YX12_areSet : pv_y yX12_areSet mX12_areSet 1 := ⟨wd1707, wd137, by decide +kernel, by decide⟩
abbrev mX12_back : pv_M := (RX12, "back", cX12_back, 5, some .int)
theorem YX12_back : pv_y yX12_back mX12_back 1 := ⟨wd1541, wd137, by decide +kernel, by decide⟩
abbrev mX12_bits : pv_M := (RX12, "bits", cX12_bits, 3, some .int)
theorem YX12_bits : pv_y yX12_bits mX12_bits 1 := ⟨wd1628, wd137, by decide +kernel, by decide⟩
abbrev mX12_blank : pv_M := (RX12, "blank", cX12_blank, 3, some .int)
theorem YX12_blank : pv_y yX12_blank mX12_blank 1 := ⟨wd1376, wd137, by decide +kernel, by decide⟩
abbrev mX12_book : pv_M := (RX12, "book", cX12_book, 3, some .int)
theorem YX12_book : pv_y yX12_book mX12_book 2 := ⟨wd1549, wd137, by decide +kernel, by decide⟩
abbrev mX12_bound : pv_M := (RX12, "bound", cX12_bound, 5, some .int)
theorem YX12_bound : pv_y yX12_bound mX12_bound 1 := ⟨wd1691, wd137, by decide +kernel, by decide⟩
abbrev mX12_chain : pv_M := (RX12, "chain", cX12_chain, 8, some .int)
theorem YX12_chain : pv_y yX12_chain mX12_chain 2 := ⟨wd1760, wd137, by decide +kernel, by decide⟩
abbrev mX12_cheapest : pv_M := (RX12, "cheapest", cX12_cheapest, 6, some .int)
theorem YX12_cheapest : pv_y yX12_cheapest mX12_cheapest 4 := ⟨wd1574, wd137, by decide +kernel, by decide⟩
abbrev mX12_check : pv_M := (RX12, "check", cX12_check, 4, some .int)
theorem YX12_check : pv_y yX12_check mX12_check 2 := ⟨wd1786, wd137, by decide +kernel, by decide⟩
abbrev mX12_costAll : pv_M := (RX12, "costAll", cX12_costAll, 3, some .int)
theorem YX12_costAll : pv_y yX12_costAll mX12_costAll 0 := ⟨wd1798, wd137, by decide +kernel, by decide⟩
abbrev mX12_count : pv_M := (RX12, "count", cX12_count, 2, some .int)
theorem YX12_count : pv_y yX12_count mX12_count 1 := ⟨wd1794, wd137, by decide +kernel, by decide⟩
abbrev mX12_day : pv_M := (RX12, "day", cX12_day, 2, some .boolean)
theorem YX12_day : pv_y yX12_day mX12_day 1 := ⟨wd1369, wd137, by decide +kernel, by decide⟩
abbrev mX12_dayEnd : pv_M := (RX12, "dayEnd", cX12_dayEnd, 3, some .int)
theorem YX12_dayEnd : pv_y yX12_dayEnd mX12_dayEnd 2 := ⟨wd1715, wd137, by decide +kernel, by decide⟩
abbrev mX12_deed : pv_M := (RX12, "deed", cX12_deed, 4, some .int)
theorem YX12_deed : pv_y yX12_deed mX12_deed 2 := ⟨wd1384, wd137, by decide +kernel, by decide⟩
abbrev mX12_done : pv_M := (RX12, "done", cX12_done, 11, some .int)
theorem YX12_done : pv_y yX12_done mX12_done 3 := ⟨wd1598, wd137, by decide +kernel, by decide⟩
abbrev mX12_draw : pv_M := (RX12, "draw", cX12_draw, 7, some .int)
theorem YX12_draw : pv_y yX12_draw mX12_draw 2 := ⟨wd1781, wd137, by decide +kernel, by decide⟩
abbrev mX12_even : pv_M := (RX12, "even", cX12_even, 9, some .long)
theorem YX12_even : pv_y yX12_even mX12_even 3 := ⟨wd1617, wd137, by decide +kernel, by decide⟩
abbrev mX12_family : pv_M := (RX12, "family", cX12_family, 7, some .int)
theorem YX12_family : pv_y yX12_family mX12_family 4 := ⟨wd1748, wd137, by decide +kernel, by decide⟩
abbrev mX12_feed : pv_M := (RX12, "feed", cX12_feed, 6, some .int)
theorem YX12_feed : pv_y yX12_feed mX12_feed 5 := ⟨wd1404, wd137, by decide +kernel, by decide⟩
abbrev mX12_forged : pv_M := (RX12, "forged", cX12_forged, 3, some .int)
theorem YX12_forged : pv_y yX12_forged mX12_forged 1 := ⟨wd1695, wd137, by decide +kernel, by decide⟩
abbrev mX12_hidden : pv_M := (RX12, "hidden", cX12_hidden, 9, some .int)
theorem YX12_hidden : pv_y yX12_hidden mX12_hidden 2 := ⟨wd1621, wd137, by decide +kernel, by decide⟩
abbrev mX12_in : pv_M := (RX12, "in", cX12_in, 3, some .boolean)
theorem YX12_in : pv_y yX12_in mX12_in 3 := ⟨wd1372, wd137, by decide +kernel, by decide⟩
abbrev mX12_isAsked : pv_M := (RX12, "isAsked", cX12_isAsked, 3, some .boolean)
theorem YX12_isAsked : pv_y yX12_isAsked mX12_isAsked 2 := ⟨wd1557, wd137, by decide +kernel, by decide⟩
abbrev mX12_isBlank : pv_M := (RX12, "isBlank", cX12_isBlank, 2, some .boolean)
theorem YX12_isBlank : pv_y yX12_isBlank mX12_isBlank 1 := ⟨wd1392, wd137, by decide +kernel, by decide⟩
abbrev mX12_isDeed : pv_M := (RX12, "isDeed", cX12_isDeed, 2, some .boolean)
theorem YX12_isDeed : pv_y yX12_isDeed mX12_isDeed 1 := ⟨wd1561, wd137, by decide +kernel, by decide⟩
abbrev mX12_law : pv_M := (RX12, "law", cX12_law, 4, some .int)
theorem YX12_law : pv_y yX12_law mX12_law 1 := ⟨wd1412, wd137, by decide +kernel, by decide⟩
abbrev mX12_left : pv_M := (RX12, "left", cX12_left, 5, some .int)
theorem YX12_left : pv_y yX12_left mX12_left 3 := ⟨wd1388, wd137, by decide +kernel, by decide⟩
abbrev mX12_may : pv_M := (RX12, "may", cX12_may, 5, some .int)
theorem YX12_may : pv_y yX12_may mX12_may 4 := ⟨wd1495, wd137, by decide +kernel, by decide⟩
abbrev mX12_seed : pv_M := (RX12, "seed", cX12_seed, 2, some .boolean)
theorem YX12_seed : pv_y yX12_seed mX12_seed 1 := ⟨wd1776, wd137, by decide +kernel, by decide⟩
abbrev mX12_shortest : pv_M := (RX12, "shortest", cX12_shortest, 7, some .int)
theorem YX12_shortest : pv_y yX12_shortest mX12_shortest 2 := ⟨wd1659, wd137, by decide +kernel, by decide⟩
abbrev mX12_shortestMany : pv_M := (RX12, "shortestMany", cX12_shortestMany, 2, some .long)
theorem YX12_shortestMany : pv_y yX12_shortestMany mX12_shortestMany 1 := ⟨wd1686, wd137, by decide +kernel, by decide⟩
abbrev mX12_spare : pv_M := (RX12, "spare", cX12_spare, 6, some .long)
theorem YX12_spare : pv_y yX12_spare mX12_spare 2 := ⟨wd1703, wd137, by decide +kernel, by decide⟩
abbrev mX12_spreads : pv_M := (RX12, "spreads", cX12_spreads, 5, some .boolean)
theorem YX12_spreads : pv_y yX12_spreads mX12_spreads 3 := ⟨wd1625, wd137, by decide +kernel, by decide⟩
abbrev mX12_strike : pv_M := (RX12, "strike", cX12_strike, 7, some .int)
theorem YX12_strike : pv_y yX12_strike mX12_strike 4 := ⟨wd1529, wd137, by decide +kernel, by decide⟩
abbrev mX12_strokes : pv_M := (RX12, "strokes", cX12_strokes, 5, some .int)
theorem YX12_strokes : pv_y yX12_strokes mX12_strokes 3 := ⟨wd1606, wd137, by decide +kernel, by decide⟩
abbrev mX12_types : pv_M := (RX12, "types", cX12_types, 3, none)
theorem YX12_types : pv_y yX12_types mX12_types 1 := ⟨wd1408, wd137, by decide +kernel, by decide⟩
abbrev mX12_ways : pv_M := (RX12, "ways", cX12_ways, 5, some .long)
theorem YX12_ways : pv_y yX12_ways mX12_ways 2 := ⟨wd1553, wd137, by decide +kernel, by decide⟩
abbrev mX12_worth : pv_M := (RX12, "worth", cX12_worth, 6, some .int)
theorem YX12_worth : pv_y yX12_worth mX12_worth 3 := ⟨wd1744, wd137, by decide +kernel, by decide⟩
abbrev mJ6_bitCount_0f7a4 : pv_M := (RJ6, "bitCount", cJ6_bitCount_0f7a4, 1, some .int)
theorem YJ6_bitCount_0f7a4 : pv_y yJ6_bitCount_0f7a4 mJ6_bitCount_0f7a4 1 := ⟨wd915, wd145, by decide +kernel, by decide⟩
theorem Wmmax : Cond.static Lib.Math.max.name ∈ pv_T ∧ Cond.initialized "java/lang/Math" ∈ pv_T ∧ Cond.code Lib.Math.max.name Lib.Math.max.code 2 (some .int) ∈ pv_T := ⟨wd185, wd129, wd186⟩
theorem dJ6_bitCount_0f7a4_0 : decode cJ6_bitCount_0f7a4 0 = .ok (.iload_n 0, 1) := by decide +kernel
theorem dJ6_bitCount_0f7a4_1 : decode cJ6_bitCount_0f7a4 1 = .ok (.iload_n 0, 1) := by decide +kernel
theorem dJ6_bitCount_0f7a4_2 : decode cJ6_bitCount_0f7a4 2 = .ok (.iconst 1, 1) := by decide +kernel
theorem dJ6_bitCount_0f7a4_3 : decode cJ6_bitCount_0f7a4 3 = .ok (.iushr, 1) := by decide +kernel
theorem dJ6_bitCount_0f7a4_4 : decode cJ6_bitCount_0f7a4 4 = .ok (.ldc_w 265, 3) := by decide +kernel
theorem dJ6_bitCount_0f7a4_7 : decode cJ6_bitCount_0f7a4 7 = .ok (.iand, 1) := by decide +kernel
theorem dJ6_bitCount_0f7a4_8 : decode cJ6_bitCount_0f7a4 8 = .ok (.isub, 1) := by decide +kernel
theorem dJ6_bitCount_0f7a4_9 : decode cJ6_bitCount_0f7a4 9 = .ok (.istore_n 0, 1) := by decide +kernel
theorem dJ6_bitCount_0f7a4_10 : decode cJ6_bitCount_0f7a4 10 = .ok (.iload_n 0, 1) := by decide +kernel
theorem dJ6_bitCount_0f7a4_11 : decode cJ6_bitCount_0f7a4 11 = .ok (.ldc_w 266, 3) := by decide +kernel
theorem dJ6_bitCount_0f7a4_14 : decode cJ6_bitCount_0f7a4 14 = .ok (.iand, 1) := by decide +kernel
theorem dJ6_bitCount_0f7a4_15 : decode cJ6_bitCount_0f7a4 15 = .ok (.iload_n 0, 1) := by decide +kernel
theorem dJ6_bitCount_0f7a4_16 : decode cJ6_bitCount_0f7a4 16 = .ok (.iconst 2, 1) := by decide +kernel
theorem dJ6_bitCount_0f7a4_17 : decode cJ6_bitCount_0f7a4 17 = .ok (.iushr, 1) := by decide +kernel
theorem dJ6_bitCount_0f7a4_18 : decode cJ6_bitCount_0f7a4 18 = .ok (.ldc_w 266, 3) := by decide +kernel
theorem dJ6_bitCount_0f7a4_21 : decode cJ6_bitCount_0f7a4 21 = .ok (.iand, 1) := by decide +kernel
theorem dJ6_bitCount_0f7a4_22 : decode cJ6_bitCount_0f7a4 22 = .ok (.iadd, 1) := by decide +kernel
theorem dJ6_bitCount_0f7a4_23 : decode cJ6_bitCount_0f7a4 23 = .ok (.istore_n 0, 1) := by decide +kernel
theorem dJ6_bitCount_0f7a4_24 : decode cJ6_bitCount_0f7a4 24 = .ok (.iload_n 0, 1) := by decide +kernel
theorem dJ6_bitCount_0f7a4_25 : decode cJ6_bitCount_0f7a4 25 = .ok (.iload_n 0, 1) := by decide +kernel
theorem dJ6_bitCount_0f7a4_26 : decode cJ6_bitCount_0f7a4 26 = .ok (.iconst 4, 1) := by decide +kernel
theorem dJ6_bitCount_0f7a4_27 : decode cJ6_bitCount_0f7a4 27 = .ok (.iushr, 1) := by decide +kernel
theorem dJ6_bitCount_0f7a4_28 : decode cJ6_bitCount_0f7a4 28 = .ok (.iadd, 1) := by decide +kernel
theorem dJ6_bitCount_0f7a4_29 : decode cJ6_bitCount_0f7a4 29 = .ok (.ldc_w 267, 3) := by decide +kernel
theorem dJ6_bitCount_0f7a4_32 : decode cJ6_bitCount_0f7a4 32 = .ok (.iand, 1) := by decide +kernel
theorem dJ6_bitCount_0f7a4_33 : decode cJ6_bitCount_0f7a4 33 = .ok (.istore_n 0, 1) := by decide +kernel
theorem dJ6_bitCount_0f7a4_34 : decode cJ6_bitCount_0f7a4 34 = .ok (.iload_n 0, 1) := by decide +kernel
theorem dJ6_bitCount_0f7a4_35 : decode cJ6_bitCount_0f7a4 35 = .ok (.iload_n 0, 1) := by decide +kernel
theorem dJ6_bitCount_0f7a4_36 : decode cJ6_bitCount_0f7a4 36 = .ok (.bipush 8, 2) := by decide +kernel
theorem dJ6_bitCount_0f7a4_38 : decode cJ6_bitCount_0f7a4 38 = .ok (.iushr, 1) := by decide +kernel
theorem dJ6_bitCount_0f7a4_39 : decode cJ6_bitCount_0f7a4 39 = .ok (.iadd, 1) := by decide +kernel
theorem dJ6_bitCount_0f7a4_40 : decode cJ6_bitCount_0f7a4 40 = .ok (.istore_n 0, 1) := by decide +kernel
theorem dJ6_bitCount_0f7a4_41 : decode cJ6_bitCount_0f7a4 41 = .ok (.iload_n 0, 1) := by decide +kernel
theorem dJ6_bitCount_0f7a4_42 : decode cJ6_bitCount_0f7a4 42 = .ok (.iload_n 0, 1) := by decide +kernel
theorem dJ6_bitCount_0f7a4_43 : decode cJ6_bitCount_0f7a4 43 = .ok (.bipush 16, 2) := by decide +kernel
theorem dJ6_bitCount_0f7a4_45 : decode cJ6_bitCount_0f7a4 45 = .ok (.iushr, 1) := by decide +kernel
theorem dJ6_bitCount_0f7a4_46 : decode cJ6_bitCount_0f7a4 46 = .ok (.iadd, 1) := by decide +kernel
theorem dJ6_bitCount_0f7a4_47 : decode cJ6_bitCount_0f7a4 47 = .ok (.istore_n 0, 1) := by decide +kernel
theorem dJ6_bitCount_0f7a4_48 : decode cJ6_bitCount_0f7a4 48 = .ok (.iload_n 0, 1) := by decide +kernel
theorem dJ6_bitCount_0f7a4_49 : decode cJ6_bitCount_0f7a4 49 = .ok (.bipush 63, 2) := by decide +kernel
theorem dJ6_bitCount_0f7a4_51 : decode cJ6_bitCount_0f7a4 51 = .ok (.iand, 1) := by decide +kernel
theorem dJ6_bitCount_0f7a4_52 : decode cJ6_bitCount_0f7a4 52 = .ok (.ireturn, 1) := by decide +kernel
theorem dL_law_0 : decode cL_law 0 = .ok (.new 7, 3) := by decide +kernel
theorem dL_law_3 : decode cL_law 3 = .ok (.dup, 1) := by decide +kernel
theorem dL_law_4 : decode cL_law 4 = .ok (.invokespecial 9, 3) := by decide +kernel
theorem dL_law_7 : decode cL_law 7 = .ok (.astore_n 1, 1) := by decide +kernel
theorem dL_law_8 : decode cL_law 8 = .ok (.new 10, 3) := by decide +kernel
theorem dL_law_11 : decode cL_law 11 = .ok (.dup, 1) := by decide +kernel
theorem dL_law_12 : decode cL_law 12 = .ok (.invokespecial 12, 3) := by decide +kernel
theorem dL_law_15 : decode cL_law 15 = .ok (.astore_n 2, 1) := by decide +kernel
theorem dL_law_16 : decode cL_law 16 = .ok (.iconst 0, 1) := by decide +kernel
theorem dL_law_17 : decode cL_law 17 = .ok (.istore_n 3, 1) := by decide +kernel
theorem dL_law_18 : decode cL_law 18 = .ok (.iload_n 3, 1) := by decide +kernel
theorem dL_law_19 : decode cL_law 19 = .ok (.aload_n 0, 1) := by decide +kernel
theorem dL_law_20 : decode cL_law 20 = .ok (.arraylength, 1) := by decide +kernel
theorem dL_law_21 : decode cL_law 21 = .ok (.bipush 6, 2) := by decide +kernel
theorem dL_law_23 : decode cL_law 23 = .ok (.isub, 1) := by decide +kernel
theorem dL_law_24 : decode cL_law 24 = .ok (.if_icmp .gt 1177, 3) := by decide +kernel
theorem dL_law_27 : decode cL_law 27 = .ok (.aload_n 0, 1) := by decide +kernel
theorem dL_law_28 : decode cL_law 28 = .ok (.iload_n 3, 1) := by decide +kernel
theorem dL_law_29 : decode cL_law 29 = .ok (.iaload, 1) := by decide +kernel
theorem dL_law_30 : decode cL_law 30 = .ok (.bipush 31, 2) := by decide +kernel
theorem dL_law_32 : decode cL_law 32 = .ok (.iand, 1) := by decide +kernel
theorem dL_law_33 : decode cL_law 33 = .ok (.tableswitch 1162 0 28 #[131, 154, 217, 240, 273, 296, 339, 392, 445, 468, 501, 535, 588, 631, 674, 718, 751, 784, 808, 831, 854, 888, 921, 964, 1017, 1050, 1073, 1106, 1139], 131) := by decide +kernel
theorem dL_law_164 : decode cL_law 164 = .ok (.aload_n 1, 1) := by decide +kernel
theorem dL_law_165 : decode cL_law 165 = .ok (.aload_n 0, 1) := by decide +kernel
theorem dL_law_166 : decode cL_law 166 = .ok (.iload_n 3, 1) := by decide +kernel
theorem dL_law_167 : decode cL_law 167 = .ok (.iconst 1, 1) := by decide +kernel
theorem dL_law_168 : decode cL_law 168 = .ok (.iadd, 1) := by decide +kernel
theorem dL_law_169 : decode cL_law 169 = .ok (.iaload, 1) := by decide +kernel
theorem dL_law_170 : decode cL_law 170 = .ok (.invokevirtual 13, 3) := by decide +kernel
theorem dL_law_173 : decode cL_law 173 = .ok (.aload_n 2, 1) := by decide +kernel
theorem dL_law_174 : decode cL_law 174 = .ok (.aload_n 0, 1) := by decide +kernel
theorem dL_law_175 : decode cL_law 175 = .ok (.iload_n 3, 1) := by decide +kernel
theorem dL_law_176 : decode cL_law 176 = .ok (.iconst 1, 1) := by decide +kernel
theorem dL_law_177 : decode cL_law 177 = .ok (.iadd, 1) := by decide +kernel
theorem dL_law_178 : decode cL_law 178 = .ok (.iaload, 1) := by decide +kernel
theorem dL_law_179 : decode cL_law 179 = .ok (.invokevirtual 17, 3) := by decide +kernel
theorem dL_law_182 : decode cL_law 182 = .ok (.if_icmp .eq 1013, 3) := by decide +kernel
theorem dL_law_187 : decode cL_law 187 = .ok (.aload_n 1, 1) := by decide +kernel
theorem dL_law_188 : decode cL_law 188 = .ok (.aload_n 0, 1) := by decide +kernel
theorem dL_law_189 : decode cL_law 189 = .ok (.iload_n 3, 1) := by decide +kernel
theorem dL_law_190 : decode cL_law 190 = .ok (.iconst 1, 1) := by decide +kernel
theorem dL_law_191 : decode cL_law 191 = .ok (.iadd, 1) := by decide +kernel
theorem dL_law_192 : decode cL_law 192 = .ok (.iaload, 1) := by decide +kernel
theorem dL_law_193 : decode cL_law 193 = .ok (.aload_n 0, 1) := by decide +kernel
theorem dL_law_194 : decode cL_law 194 = .ok (.iload_n 3, 1) := by decide +kernel
theorem dL_law_195 : decode cL_law 195 = .ok (.iconst 2, 1) := by decide +kernel
theorem dL_law_196 : decode cL_law 196 = .ok (.iadd, 1) := by decide +kernel
theorem dL_law_197 : decode cL_law 197 = .ok (.iaload, 1) := by decide +kernel
theorem dL_law_198 : decode cL_law 198 = .ok (.aload_n 0, 1) := by decide +kernel
theorem dL_law_199 : decode cL_law 199 = .ok (.iload_n 3, 1) := by decide +kernel
theorem dL_law_200 : decode cL_law 200 = .ok (.iconst 3, 1) := by decide +kernel
theorem dL_law_201 : decode cL_law 201 = .ok (.iadd, 1) := by decide +kernel
theorem dL_law_202 : decode cL_law 202 = .ok (.iaload, 1) := by decide +kernel
theorem dL_law_203 : decode cL_law 203 = .ok (.aload_n 0, 1) := by decide +kernel
theorem dL_law_204 : decode cL_law 204 = .ok (.iload_n 3, 1) := by decide +kernel
theorem dL_law_205 : decode cL_law 205 = .ok (.iconst 4, 1) := by decide +kernel
theorem dL_law_206 : decode cL_law 206 = .ok (.iadd, 1) := by decide +kernel
theorem dL_law_207 : decode cL_law 207 = .ok (.iaload, 1) := by decide +kernel
theorem dL_law_208 : decode cL_law 208 = .ok (.aload_n 0, 1) := by decide +kernel
theorem dL_law_209 : decode cL_law 209 = .ok (.iload_n 3, 1) := by decide +kernel
theorem dL_law_210 : decode cL_law 210 = .ok (.iconst 5, 1) := by decide +kernel
theorem dL_law_211 : decode cL_law 211 = .ok (.iadd, 1) := by decide +kernel
theorem dL_law_212 : decode cL_law 212 = .ok (.iaload, 1) := by decide +kernel
theorem dL_law_213 : decode cL_law 213 = .ok (.invokevirtual 18, 3) := by decide +kernel
theorem dL_law_216 : decode cL_law 216 = .ok (.aload_n 2, 1) := by decide +kernel
theorem dL_law_217 : decode cL_law 217 = .ok (.aload_n 0, 1) := by decide +kernel
theorem dL_law_218 : decode cL_law 218 = .ok (.iload_n 3, 1) := by decide +kernel
theorem dL_law_219 : decode cL_law 219 = .ok (.iconst 1, 1) := by decide +kernel
theorem dL_law_220 : decode cL_law 220 = .ok (.iadd, 1) := by decide +kernel
theorem dL_law_221 : decode cL_law 221 = .ok (.iaload, 1) := by decide +kernel
theorem dL_law_222 : decode cL_law 222 = .ok (.aload_n 0, 1) := by decide +kernel
theorem dL_law_223 : decode cL_law 223 = .ok (.iload_n 3, 1) := by decide +kernel
theorem dL_law_224 : decode cL_law 224 = .ok (.iconst 2, 1) := by decide +kernel
theorem dL_law_225 : decode cL_law 225 = .ok (.iadd, 1) := by decide +kernel
theorem dL_law_226 : decode cL_law 226 = .ok (.iaload, 1) := by decide +kernel
theorem dL_law_227 : decode cL_law 227 = .ok (.aload_n 0, 1) := by decide +kernel
theorem dL_law_228 : decode cL_law 228 = .ok (.iload_n 3, 1) := by decide +kernel
theorem dL_law_229 : decode cL_law 229 = .ok (.iconst 3, 1) := by decide +kernel
theorem dL_law_230 : decode cL_law 230 = .ok (.iadd, 1) := by decide +kernel
theorem dL_law_231 : decode cL_law 231 = .ok (.iaload, 1) := by decide +kernel
theorem dL_law_232 : decode cL_law 232 = .ok (.aload_n 0, 1) := by decide +kernel
theorem dL_law_233 : decode cL_law 233 = .ok (.iload_n 3, 1) := by decide +kernel
theorem dL_law_234 : decode cL_law 234 = .ok (.iconst 4, 1) := by decide +kernel
theorem dL_law_235 : decode cL_law 235 = .ok (.iadd, 1) := by decide +kernel
theorem dL_law_236 : decode cL_law 236 = .ok (.iaload, 1) := by decide +kernel
theorem dL_law_237 : decode cL_law 237 = .ok (.aload_n 0, 1) := by decide +kernel
theorem dL_law_238 : decode cL_law 238 = .ok (.iload_n 3, 1) := by decide +kernel
theorem dL_law_239 : decode cL_law 239 = .ok (.iconst 5, 1) := by decide +kernel
theorem dL_law_240 : decode cL_law 240 = .ok (.iadd, 1) := by decide +kernel
theorem dL_law_241 : decode cL_law 241 = .ok (.iaload, 1) := by decide +kernel
theorem dL_law_242 : decode cL_law 242 = .ok (.invokevirtual 22, 3) := by decide +kernel
theorem dL_law_245 : decode cL_law 245 = .ok (.if_icmp .eq 950, 3) := by decide +kernel
theorem dL_law_250 : decode cL_law 250 = .ok (.aload_n 1, 1) := by decide +kernel
theorem dL_law_251 : decode cL_law 251 = .ok (.aload_n 0, 1) := by decide +kernel
theorem dL_law_252 : decode cL_law 252 = .ok (.iload_n 3, 1) := by decide +kernel
theorem dL_law_253 : decode cL_law 253 = .ok (.iconst 1, 1) := by decide +kernel
theorem dL_law_254 : decode cL_law 254 = .ok (.iadd, 1) := by decide +kernel
theorem dL_law_255 : decode cL_law 255 = .ok (.iaload, 1) := by decide +kernel
theorem dL_law_256 : decode cL_law 256 = .ok (.invokevirtual 23, 3) := by decide +kernel
theorem dL_law_259 : decode cL_law 259 = .ok (.aload_n 2, 1) := by decide +kernel
theorem dL_law_260 : decode cL_law 260 = .ok (.aload_n 0, 1) := by decide +kernel
theorem dL_law_261 : decode cL_law 261 = .ok (.iload_n 3, 1) := by decide +kernel
theorem dL_law_262 : decode cL_law 262 = .ok (.iconst 1, 1) := by decide +kernel
theorem dL_law_263 : decode cL_law 263 = .ok (.iadd, 1) := by decide +kernel
theorem dL_law_264 : decode cL_law 264 = .ok (.iaload, 1) := by decide +kernel
theorem dL_law_265 : decode cL_law 265 = .ok (.invokevirtual 27, 3) := by decide +kernel
theorem dL_law_268 : decode cL_law 268 = .ok (.if_icmp .eq 927, 3) := by decide +kernel
theorem dL_law_273 : decode cL_law 273 = .ok (.aload_n 1, 1) := by decide +kernel
theorem dL_law_274 : decode cL_law 274 = .ok (.aload_n 0, 1) := by decide +kernel
theorem dL_law_275 : decode cL_law 275 = .ok (.iload_n 3, 1) := by decide +kernel
theorem dL_law_276 : decode cL_law 276 = .ok (.iconst 1, 1) := by decide +kernel
theorem dL_law_277 : decode cL_law 277 = .ok (.iadd, 1) := by decide +kernel
theorem dL_law_278 : decode cL_law 278 = .ok (.iaload, 1) := by decide +kernel
theorem dL_law_279 : decode cL_law 279 = .ok (.aload_n 0, 1) := by decide +kernel
theorem dL_law_280 : decode cL_law 280 = .ok (.iload_n 3, 1) := by decide +kernel
theorem dL_law_281 : decode cL_law 281 = .ok (.iconst 2, 1) := by decide +kernel
theorem dL_law_282 : decode cL_law 282 = .ok (.iadd, 1) := by decide +kernel
theorem dL_law_283 : decode cL_law 283 = .ok (.iaload, 1) := by decide +kernel
theorem dL_law_284 : decode cL_law 284 = .ok (.invokevirtual 28, 3) := by decide +kernel
theorem dL_law_287 : decode cL_law 287 = .ok (.aload_n 2, 1) := by decide +kernel
theorem dL_law_288 : decode cL_law 288 = .ok (.aload_n 0, 1) := by decide +kernel
theorem dL_law_289 : decode cL_law 289 = .ok (.iload_n 3, 1) := by decide +kernel
theorem dL_law_290 : decode cL_law 290 = .ok (.iconst 1, 1) := by decide +kernel
theorem dL_law_291 : decode cL_law 291 = .ok (.iadd, 1) := by decide +kernel
theorem dL_law_292 : decode cL_law 292 = .ok (.iaload, 1) := by decide +kernel
theorem dL_law_293 : decode cL_law 293 = .ok (.aload_n 0, 1) := by decide +kernel
theorem dL_law_294 : decode cL_law 294 = .ok (.iload_n 3, 1) := by decide +kernel
theorem dL_law_295 : decode cL_law 295 = .ok (.iconst 2, 1) := by decide +kernel
theorem dL_law_296 : decode cL_law 296 = .ok (.iadd, 1) := by decide +kernel
theorem dL_law_297 : decode cL_law 297 = .ok (.iaload, 1) := by decide +kernel
theorem dL_law_298 : decode cL_law 298 = .ok (.invokevirtual 32, 3) := by decide +kernel
theorem dL_law_301 : decode cL_law 301 = .ok (.if_icmp .eq 894, 3) := by decide +kernel
theorem dL_law_306 : decode cL_law 306 = .ok (.aload_n 1, 1) := by decide +kernel
theorem dL_law_307 : decode cL_law 307 = .ok (.aload_n 0, 1) := by decide +kernel
theorem dL_law_308 : decode cL_law 308 = .ok (.iload_n 3, 1) := by decide +kernel
theorem dL_law_309 : decode cL_law 309 = .ok (.iconst 1, 1) := by decide +kernel
theorem dL_law_310 : decode cL_law 310 = .ok (.iadd, 1) := by decide +kernel
theorem dL_law_311 : decode cL_law 311 = .ok (.iaload, 1) := by decide +kernel
theorem dL_law_312 : decode cL_law 312 = .ok (.invokevirtual 33, 3) := by decide +kernel
theorem dL_law_315 : decode cL_law 315 = .ok (.aload_n 2, 1) := by decide +kernel
theorem dL_law_316 : decode cL_law 316 = .ok (.aload_n 0, 1) := by decide +kernel
theorem dL_law_317 : decode cL_law 317 = .ok (.iload_n 3, 1) := by decide +kernel
theorem dL_law_318 : decode cL_law 318 = .ok (.iconst 1, 1) := by decide +kernel
theorem dL_law_319 : decode cL_law 319 = .ok (.iadd, 1) := by decide +kernel
theorem dL_law_320 : decode cL_law 320 = .ok (.iaload, 1) := by decide +kernel
theorem dL_law_321 : decode cL_law 321 = .ok (.invokevirtual 36, 3) := by decide +kernel
theorem dL_law_324 : decode cL_law 324 = .ok (.if_icmp .eq 871, 3) := by decide +kernel
theorem dL_law_329 : decode cL_law 329 = .ok (.aload_n 1, 1) := by decide +kernel
theorem dL_law_330 : decode cL_law 330 = .ok (.aload_n 0, 1) := by decide +kernel
theorem dL_law_331 : decode cL_law 331 = .ok (.iload_n 3, 1) := by decide +kernel
theorem dL_law_332 : decode cL_law 332 = .ok (.iconst 1, 1) := by decide +kernel
theorem dL_law_333 : decode cL_law 333 = .ok (.iadd, 1) := by decide +kernel
theorem dL_law_334 : decode cL_law 334 = .ok (.iaload, 1) := by decide +kernel
theorem dL_law_335 : decode cL_law 335 = .ok (.aload_n 0, 1) := by decide +kernel
theorem dL_law_336 : decode cL_law 336 = .ok (.iload_n 3, 1) := by decide +kernel
theorem dL_law_337 : decode cL_law 337 = .ok (.iconst 2, 1) := by decide +kernel
theorem dL_law_338 : decode cL_law 338 = .ok (.iadd, 1) := by decide +kernel
theorem dL_law_339 : decode cL_law 339 = .ok (.iaload, 1) := by decide +kernel
theorem dL_law_340 : decode cL_law 340 = .ok (.aload_n 0, 1) := by decide +kernel
theorem dL_law_341 : decode cL_law 341 = .ok (.iload_n 3, 1) := by decide +kernel
theorem dL_law_342 : decode cL_law 342 = .ok (.iconst 3, 1) := by decide +kernel
theorem dL_law_343 : decode cL_law 343 = .ok (.iadd, 1) := by decide +kernel
theorem dL_law_344 : decode cL_law 344 = .ok (.iaload, 1) := by decide +kernel
theorem dL_law_345 : decode cL_law 345 = .ok (.invokevirtual 37, 3) := by decide +kernel
theorem dL_law_348 : decode cL_law 348 = .ok (.aload_n 2, 1) := by decide +kernel
theorem dL_law_349 : decode cL_law 349 = .ok (.aload_n 0, 1) := by decide +kernel
theorem dL_law_350 : decode cL_law 350 = .ok (.iload_n 3, 1) := by decide +kernel
theorem dL_law_351 : decode cL_law 351 = .ok (.iconst 1, 1) := by decide +kernel
theorem dL_law_352 : decode cL_law 352 = .ok (.iadd, 1) := by decide +kernel
theorem dL_law_353 : decode cL_law 353 = .ok (.iaload, 1) := by decide +kernel
theorem dL_law_354 : decode cL_law 354 = .ok (.aload_n 0, 1) := by decide +kernel
theorem dL_law_355 : decode cL_law 355 = .ok (.iload_n 3, 1) := by decide +kernel
theorem dL_law_356 : decode cL_law 356 = .ok (.iconst 2, 1) := by decide +kernel
theorem dL_law_357 : decode cL_law 357 = .ok (.iadd, 1) := by decide +kernel
theorem dL_law_358 : decode cL_law 358 = .ok (.iaload, 1) := by decide +kernel
theorem dL_law_359 : decode cL_law 359 = .ok (.aload_n 0, 1) := by decide +kernel
theorem dL_law_360 : decode cL_law 360 = .ok (.iload_n 3, 1) := by decide +kernel
theorem dL_law_361 : decode cL_law 361 = .ok (.iconst 3, 1) := by decide +kernel
theorem dL_law_362 : decode cL_law 362 = .ok (.iadd, 1) := by decide +kernel
theorem dL_law_363 : decode cL_law 363 = .ok (.iaload, 1) := by decide +kernel
theorem dL_law_364 : decode cL_law 364 = .ok (.invokevirtual 41, 3) := by decide +kernel
theorem dL_law_367 : decode cL_law 367 = .ok (.if_icmp .eq 828, 3) := by decide +kernel
theorem dL_law_372 : decode cL_law 372 = .ok (.aload_n 1, 1) := by decide +kernel
theorem dL_law_373 : decode cL_law 373 = .ok (.aload_n 0, 1) := by decide +kernel
theorem dL_law_374 : decode cL_law 374 = .ok (.iload_n 3, 1) := by decide +kernel
theorem dL_law_375 : decode cL_law 375 = .ok (.iconst 1, 1) := by decide +kernel
theorem dL_law_376 : decode cL_law 376 = .ok (.iadd, 1) := by decide +kernel
theorem dL_law_377 : decode cL_law 377 = .ok (.iaload, 1) := by decide +kernel
theorem dL_law_378 : decode cL_law 378 = .ok (.aload_n 0, 1) := by decide +kernel
theorem dL_law_379 : decode cL_law 379 = .ok (.iload_n 3, 1) := by decide +kernel
theorem dL_law_380 : decode cL_law 380 = .ok (.iconst 2, 1) := by decide +kernel
theorem dL_law_381 : decode cL_law 381 = .ok (.iadd, 1) := by decide +kernel
theorem dL_law_382 : decode cL_law 382 = .ok (.iaload, 1) := by decide +kernel
theorem dL_law_383 : decode cL_law 383 = .ok (.aload_n 0, 1) := by decide +kernel
theorem dL_law_384 : decode cL_law 384 = .ok (.iload_n 3, 1) := by decide +kernel
theorem dL_law_385 : decode cL_law 385 = .ok (.iconst 3, 1) := by decide +kernel
theorem dL_law_386 : decode cL_law 386 = .ok (.iadd, 1) := by decide +kernel
theorem dL_law_387 : decode cL_law 387 = .ok (.iaload, 1) := by decide +kernel
theorem dL_law_388 : decode cL_law 388 = .ok (.aload_n 0, 1) := by decide +kernel
theorem dL_law_389 : decode cL_law 389 = .ok (.iload_n 3, 1) := by decide +kernel
theorem dL_law_390 : decode cL_law 390 = .ok (.iconst 4, 1) := by decide +kernel
theorem dL_law_391 : decode cL_law 391 = .ok (.iadd, 1) := by decide +kernel
theorem dL_law_392 : decode cL_law 392 = .ok (.iaload, 1) := by decide +kernel
theorem dL_law_393 : decode cL_law 393 = .ok (.invokevirtual 42, 3) := by decide +kernel
theorem dL_law_396 : decode cL_law 396 = .ok (.aload_n 2, 1) := by decide +kernel
theorem dL_law_397 : decode cL_law 397 = .ok (.aload_n 0, 1) := by decide +kernel
theorem dL_law_398 : decode cL_law 398 = .ok (.iload_n 3, 1) := by decide +kernel
theorem dL_law_399 : decode cL_law 399 = .ok (.iconst 1, 1) := by decide +kernel
theorem dL_law_400 : decode cL_law 400 = .ok (.iadd, 1) := by decide +kernel
theorem dL_law_401 : decode cL_law 401 = .ok (.iaload, 1) := by decide +kernel
theorem dL_law_402 : decode cL_law 402 = .ok (.aload_n 0, 1) := by decide +kernel
theorem dL_law_403 : decode cL_law 403 = .ok (.iload_n 3, 1) := by decide +kernel
theorem dL_law_404 : decode cL_law 404 = .ok (.iconst 2, 1) := by decide +kernel
theorem dL_law_405 : decode cL_law 405 = .ok (.iadd, 1) := by decide +kernel
theorem dL_law_406 : decode cL_law 406 = .ok (.iaload, 1) := by decide +kernel
theorem dL_law_407 : decode cL_law 407 = .ok (.aload_n 0, 1) := by decide +kernel
theorem dL_law_408 : decode cL_law 408 = .ok (.iload_n 3, 1) := by decide +kernel
theorem dL_law_409 : decode cL_law 409 = .ok (.iconst 3, 1) := by decide +kernel
theorem dL_law_410 : decode cL_law 410 = .ok (.iadd, 1) := by decide +kernel
theorem dL_law_411 : decode cL_law 411 = .ok (.iaload, 1) := by decide +kernel
theorem dL_law_412 : decode cL_law 412 = .ok (.aload_n 0, 1) := by decide +kernel
theorem dL_law_413 : decode cL_law 413 = .ok (.iload_n 3, 1) := by decide +kernel
theorem dL_law_414 : decode cL_law 414 = .ok (.iconst 4, 1) := by decide +kernel
theorem dL_law_415 : decode cL_law 415 = .ok (.iadd, 1) := by decide +kernel
theorem dL_law_416 : decode cL_law 416 = .ok (.iaload, 1) := by decide +kernel
theorem dL_law_417 : decode cL_law 417 = .ok (.invokevirtual 46, 3) := by decide +kernel
theorem dL_law_420 : decode cL_law 420 = .ok (.if_icmp .eq 775, 3) := by decide +kernel
theorem dL_law_425 : decode cL_law 425 = .ok (.aload_n 1, 1) := by decide +kernel
theorem dL_law_426 : decode cL_law 426 = .ok (.aload_n 0, 1) := by decide +kernel
theorem dL_law_427 : decode cL_law 427 = .ok (.iload_n 3, 1) := by decide +kernel
theorem dL_law_428 : decode cL_law 428 = .ok (.iconst 1, 1) := by decide +kernel
theorem dL_law_429 : decode cL_law 429 = .ok (.iadd, 1) := by decide +kernel
theorem dL_law_430 : decode cL_law 430 = .ok (.iaload, 1) := by decide +kernel
theorem dL_law_431 : decode cL_law 431 = .ok (.aload_n 0, 1) := by decide +kernel
theorem dL_law_432 : decode cL_law 432 = .ok (.iload_n 3, 1) := by decide +kernel
theorem dL_law_433 : decode cL_law 433 = .ok (.iconst 2, 1) := by decide +kernel
theorem dL_law_434 : decode cL_law 434 = .ok (.iadd, 1) := by decide +kernel
theorem dL_law_435 : decode cL_law 435 = .ok (.iaload, 1) := by decide +kernel
theorem dL_law_436 : decode cL_law 436 = .ok (.aload_n 0, 1) := by decide +kernel
theorem dL_law_437 : decode cL_law 437 = .ok (.iload_n 3, 1) := by decide +kernel
theorem dL_law_438 : decode cL_law 438 = .ok (.iconst 3, 1) := by decide +kernel
theorem dL_law_439 : decode cL_law 439 = .ok (.iadd, 1) := by decide +kernel
theorem dL_law_440 : decode cL_law 440 = .ok (.iaload, 1) := by decide +kernel
theorem dL_law_441 : decode cL_law 441 = .ok (.aload_n 0, 1) := by decide +kernel
theorem dL_law_442 : decode cL_law 442 = .ok (.iload_n 3, 1) := by decide +kernel
theorem dL_law_443 : decode cL_law 443 = .ok (.iconst 4, 1) := by decide +kernel
theorem dL_law_444 : decode cL_law 444 = .ok (.iadd, 1) := by decide +kernel
theorem dL_law_445 : decode cL_law 445 = .ok (.iaload, 1) := by decide +kernel
theorem dL_law_446 : decode cL_law 446 = .ok (.invokevirtual 47, 3) := by decide +kernel
theorem dL_law_449 : decode cL_law 449 = .ok (.aload_n 2, 1) := by decide +kernel
theorem dL_law_450 : decode cL_law 450 = .ok (.aload_n 0, 1) := by decide +kernel
theorem dL_law_451 : decode cL_law 451 = .ok (.iload_n 3, 1) := by decide +kernel
theorem dL_law_452 : decode cL_law 452 = .ok (.iconst 1, 1) := by decide +kernel
theorem dL_law_453 : decode cL_law 453 = .ok (.iadd, 1) := by decide +kernel
theorem dL_law_454 : decode cL_law 454 = .ok (.iaload, 1) := by decide +kernel
theorem dL_law_455 : decode cL_law 455 = .ok (.aload_n 0, 1) := by decide +kernel
theorem dL_law_456 : decode cL_law 456 = .ok (.iload_n 3, 1) := by decide +kernel
theorem dL_law_457 : decode cL_law 457 = .ok (.iconst 2, 1) := by decide +kernel
theorem dL_law_458 : decode cL_law 458 = .ok (.iadd, 1) := by decide +kernel
theorem dL_law_459 : decode cL_law 459 = .ok (.iaload, 1) := by decide +kernel
theorem dL_law_460 : decode cL_law 460 = .ok (.aload_n 0, 1) := by decide +kernel
theorem dL_law_461 : decode cL_law 461 = .ok (.iload_n 3, 1) := by decide +kernel
theorem dL_law_462 : decode cL_law 462 = .ok (.iconst 3, 1) := by decide +kernel
theorem dL_law_463 : decode cL_law 463 = .ok (.iadd, 1) := by decide +kernel
theorem dL_law_464 : decode cL_law 464 = .ok (.iaload, 1) := by decide +kernel
theorem dL_law_465 : decode cL_law 465 = .ok (.aload_n 0, 1) := by decide +kernel
theorem dL_law_466 : decode cL_law 466 = .ok (.iload_n 3, 1) := by decide +kernel
theorem dL_law_467 : decode cL_law 467 = .ok (.iconst 4, 1) := by decide +kernel
theorem dL_law_468 : decode cL_law 468 = .ok (.iadd, 1) := by decide +kernel
theorem dL_law_469 : decode cL_law 469 = .ok (.iaload, 1) := by decide +kernel
theorem dL_law_470 : decode cL_law 470 = .ok (.invokevirtual 50, 3) := by decide +kernel
theorem dL_law_473 : decode cL_law 473 = .ok (.if_icmp .eq 722, 3) := by decide +kernel
theorem dL_law_478 : decode cL_law 478 = .ok (.aload_n 1, 1) := by decide +kernel
theorem dL_law_479 : decode cL_law 479 = .ok (.aload_n 0, 1) := by decide +kernel
theorem dL_law_480 : decode cL_law 480 = .ok (.iload_n 3, 1) := by decide +kernel
theorem dL_law_481 : decode cL_law 481 = .ok (.iconst 1, 1) := by decide +kernel
theorem dL_law_482 : decode cL_law 482 = .ok (.iadd, 1) := by decide +kernel
theorem dL_law_483 : decode cL_law 483 = .ok (.iaload, 1) := by decide +kernel
theorem dL_law_484 : decode cL_law 484 = .ok (.invokevirtual 51, 3) := by decide +kernel
theorem dL_law_487 : decode cL_law 487 = .ok (.aload_n 2, 1) := by decide +kernel
theorem dL_law_488 : decode cL_law 488 = .ok (.aload_n 0, 1) := by decide +kernel
theorem dL_law_489 : decode cL_law 489 = .ok (.iload_n 3, 1) := by decide +kernel
theorem dL_law_490 : decode cL_law 490 = .ok (.iconst 1, 1) := by decide +kernel
theorem dL_law_491 : decode cL_law 491 = .ok (.iadd, 1) := by decide +kernel
theorem dL_law_492 : decode cL_law 492 = .ok (.iaload, 1) := by decide +kernel
theorem dL_law_493 : decode cL_law 493 = .ok (.invokevirtual 54, 3) := by decide +kernel
theorem dL_law_496 : decode cL_law 496 = .ok (.if_icmp .eq 699, 3) := by decide +kernel
theorem dL_law_501 : decode cL_law 501 = .ok (.aload_n 1, 1) := by decide +kernel
theorem dL_law_502 : decode cL_law 502 = .ok (.aload_n 0, 1) := by decide +kernel
theorem dL_law_503 : decode cL_law 503 = .ok (.iload_n 3, 1) := by decide +kernel
theorem dL_law_504 : decode cL_law 504 = .ok (.iconst 1, 1) := by decide +kernel
theorem dL_law_505 : decode cL_law 505 = .ok (.iadd, 1) := by decide +kernel
theorem dL_law_506 : decode cL_law 506 = .ok (.iaload, 1) := by decide +kernel
theorem dL_law_507 : decode cL_law 507 = .ok (.aload_n 0, 1) := by decide +kernel
theorem dL_law_508 : decode cL_law 508 = .ok (.iload_n 3, 1) := by decide +kernel
theorem dL_law_509 : decode cL_law 509 = .ok (.iconst 2, 1) := by decide +kernel
theorem dL_law_510 : decode cL_law 510 = .ok (.iadd, 1) := by decide +kernel
theorem dL_law_511 : decode cL_law 511 = .ok (.iaload, 1) := by decide +kernel
theorem dL_law_512 : decode cL_law 512 = .ok (.invokevirtual 55, 3) := by decide +kernel
theorem dL_law_515 : decode cL_law 515 = .ok (.aload_n 2, 1) := by decide +kernel
theorem dL_law_516 : decode cL_law 516 = .ok (.aload_n 0, 1) := by decide +kernel
theorem dL_law_517 : decode cL_law 517 = .ok (.iload_n 3, 1) := by decide +kernel
theorem dL_law_518 : decode cL_law 518 = .ok (.iconst 1, 1) := by decide +kernel
theorem dL_law_519 : decode cL_law 519 = .ok (.iadd, 1) := by decide +kernel
theorem dL_law_520 : decode cL_law 520 = .ok (.iaload, 1) := by decide +kernel
theorem dL_law_521 : decode cL_law 521 = .ok (.aload_n 0, 1) := by decide +kernel
theorem dL_law_522 : decode cL_law 522 = .ok (.iload_n 3, 1) := by decide +kernel
theorem dL_law_523 : decode cL_law 523 = .ok (.iconst 2, 1) := by decide +kernel
theorem dL_law_524 : decode cL_law 524 = .ok (.iadd, 1) := by decide +kernel
theorem dL_law_525 : decode cL_law 525 = .ok (.iaload, 1) := by decide +kernel
theorem dL_law_526 : decode cL_law 526 = .ok (.invokevirtual 58, 3) := by decide +kernel
theorem dL_law_529 : decode cL_law 529 = .ok (.if_icmp .eq 666, 3) := by decide +kernel
theorem dL_law_534 : decode cL_law 534 = .ok (.aload_n 1, 1) := by decide +kernel
theorem dL_law_535 : decode cL_law 535 = .ok (.aload_n 0, 1) := by decide +kernel
theorem dL_law_536 : decode cL_law 536 = .ok (.iload_n 3, 1) := by decide +kernel
theorem dL_law_537 : decode cL_law 537 = .ok (.iconst 1, 1) := by decide +kernel
theorem dL_law_538 : decode cL_law 538 = .ok (.iadd, 1) := by decide +kernel
theorem dL_law_539 : decode cL_law 539 = .ok (.iaload, 1) := by decide +kernel
theorem dL_law_540 : decode cL_law 540 = .ok (.aload_n 0, 1) := by decide +kernel
theorem dL_law_541 : decode cL_law 541 = .ok (.iload_n 3, 1) := by decide +kernel
theorem dL_law_542 : decode cL_law 542 = .ok (.iconst 2, 1) := by decide +kernel
theorem dL_law_543 : decode cL_law 543 = .ok (.iadd, 1) := by decide +kernel
theorem dL_law_544 : decode cL_law 544 = .ok (.iaload, 1) := by decide +kernel
theorem dL_law_545 : decode cL_law 545 = .ok (.invokevirtual 59, 3) := by decide +kernel
theorem dL_law_548 : decode cL_law 548 = .ok (.aload_n 2, 1) := by decide +kernel
theorem dL_law_549 : decode cL_law 549 = .ok (.aload_n 0, 1) := by decide +kernel
theorem dL_law_550 : decode cL_law 550 = .ok (.iload_n 3, 1) := by decide +kernel
theorem dL_law_551 : decode cL_law 551 = .ok (.iconst 1, 1) := by decide +kernel
theorem dL_law_552 : decode cL_law 552 = .ok (.iadd, 1) := by decide +kernel
theorem dL_law_553 : decode cL_law 553 = .ok (.iaload, 1) := by decide +kernel
theorem dL_law_554 : decode cL_law 554 = .ok (.aload_n 0, 1) := by decide +kernel
theorem dL_law_555 : decode cL_law 555 = .ok (.iload_n 3, 1) := by decide +kernel
theorem dL_law_556 : decode cL_law 556 = .ok (.iconst 2, 1) := by decide +kernel
theorem dL_law_557 : decode cL_law 557 = .ok (.iadd, 1) := by decide +kernel
theorem dL_law_558 : decode cL_law 558 = .ok (.iaload, 1) := by decide +kernel
theorem dL_law_559 : decode cL_law 559 = .ok (.invokevirtual 63, 3) := by decide +kernel
theorem dL_law_562 : decode cL_law 562 = .ok (.lcmp, 1) := by decide +kernel
theorem dL_law_563 : decode cL_law 563 = .ok (.ifCond .eq 632, 3) := by decide +kernel
theorem dL_law_568 : decode cL_law 568 = .ok (.aload_n 1, 1) := by decide +kernel
theorem dL_law_569 : decode cL_law 569 = .ok (.aload_n 0, 1) := by decide +kernel
theorem dL_law_570 : decode cL_law 570 = .ok (.iload_n 3, 1) := by decide +kernel
theorem dL_law_571 : decode cL_law 571 = .ok (.iconst 1, 1) := by decide +kernel
theorem dL_law_572 : decode cL_law 572 = .ok (.iadd, 1) := by decide +kernel
theorem dL_law_573 : decode cL_law 573 = .ok (.iaload, 1) := by decide +kernel
theorem dL_law_574 : decode cL_law 574 = .ok (.aload_n 0, 1) := by decide +kernel
theorem dL_law_575 : decode cL_law 575 = .ok (.iload_n 3, 1) := by decide +kernel
theorem dL_law_576 : decode cL_law 576 = .ok (.iconst 2, 1) := by decide +kernel
theorem dL_law_577 : decode cL_law 577 = .ok (.iadd, 1) := by decide +kernel
theorem dL_law_578 : decode cL_law 578 = .ok (.iaload, 1) := by decide +kernel
theorem dL_law_579 : decode cL_law 579 = .ok (.aload_n 0, 1) := by decide +kernel
theorem dL_law_580 : decode cL_law 580 = .ok (.iload_n 3, 1) := by decide +kernel
theorem dL_law_581 : decode cL_law 581 = .ok (.iconst 3, 1) := by decide +kernel
theorem dL_law_582 : decode cL_law 582 = .ok (.iadd, 1) := by decide +kernel
theorem dL_law_583 : decode cL_law 583 = .ok (.iaload, 1) := by decide +kernel
theorem dL_law_584 : decode cL_law 584 = .ok (.aload_n 0, 1) := by decide +kernel
theorem dL_law_585 : decode cL_law 585 = .ok (.iload_n 3, 1) := by decide +kernel
theorem dL_law_586 : decode cL_law 586 = .ok (.iconst 4, 1) := by decide +kernel
theorem dL_law_587 : decode cL_law 587 = .ok (.iadd, 1) := by decide +kernel
theorem dL_law_588 : decode cL_law 588 = .ok (.iaload, 1) := by decide +kernel
theorem dL_law_589 : decode cL_law 589 = .ok (.invokevirtual 64, 3) := by decide +kernel
theorem dL_law_592 : decode cL_law 592 = .ok (.aload_n 2, 1) := by decide +kernel
theorem dL_law_593 : decode cL_law 593 = .ok (.aload_n 0, 1) := by decide +kernel
theorem dL_law_594 : decode cL_law 594 = .ok (.iload_n 3, 1) := by decide +kernel
theorem dL_law_595 : decode cL_law 595 = .ok (.iconst 1, 1) := by decide +kernel
theorem dL_law_596 : decode cL_law 596 = .ok (.iadd, 1) := by decide +kernel
theorem dL_law_597 : decode cL_law 597 = .ok (.iaload, 1) := by decide +kernel
theorem dL_law_598 : decode cL_law 598 = .ok (.aload_n 0, 1) := by decide +kernel
theorem dL_law_599 : decode cL_law 599 = .ok (.iload_n 3, 1) := by decide +kernel
theorem dL_law_600 : decode cL_law 600 = .ok (.iconst 2, 1) := by decide +kernel
theorem dL_law_601 : decode cL_law 601 = .ok (.iadd, 1) := by decide +kernel
theorem dL_law_602 : decode cL_law 602 = .ok (.iaload, 1) := by decide +kernel
theorem dL_law_603 : decode cL_law 603 = .ok (.aload_n 0, 1) := by decide +kernel
theorem dL_law_604 : decode cL_law 604 = .ok (.iload_n 3, 1) := by decide +kernel
theorem dL_law_605 : decode cL_law 605 = .ok (.iconst 3, 1) := by decide +kernel
theorem dL_law_606 : decode cL_law 606 = .ok (.iadd, 1) := by decide +kernel
theorem dL_law_607 : decode cL_law 607 = .ok (.iaload, 1) := by decide +kernel
theorem dL_law_608 : decode cL_law 608 = .ok (.aload_n 0, 1) := by decide +kernel
theorem dL_law_609 : decode cL_law 609 = .ok (.iload_n 3, 1) := by decide +kernel
theorem dL_law_610 : decode cL_law 610 = .ok (.iconst 4, 1) := by decide +kernel
theorem dL_law_611 : decode cL_law 611 = .ok (.iadd, 1) := by decide +kernel
theorem dL_law_612 : decode cL_law 612 = .ok (.iaload, 1) := by decide +kernel
theorem dL_law_613 : decode cL_law 613 = .ok (.invokevirtual 67, 3) := by decide +kernel
theorem dL_law_616 : decode cL_law 616 = .ok (.if_icmp .eq 579, 3) := by decide +kernel
theorem dL_law_621 : decode cL_law 621 = .ok (.aload_n 1, 1) := by decide +kernel
theorem dL_law_622 : decode cL_law 622 = .ok (.aload_n 0, 1) := by decide +kernel
theorem dL_law_623 : decode cL_law 623 = .ok (.iload_n 3, 1) := by decide +kernel
theorem dL_law_624 : decode cL_law 624 = .ok (.iconst 1, 1) := by decide +kernel
theorem dL_law_625 : decode cL_law 625 = .ok (.iadd, 1) := by decide +kernel
theorem dL_law_626 : decode cL_law 626 = .ok (.iaload, 1) := by decide +kernel
theorem dL_law_627 : decode cL_law 627 = .ok (.aload_n 0, 1) := by decide +kernel
theorem dL_law_628 : decode cL_law 628 = .ok (.iload_n 3, 1) := by decide +kernel
theorem dL_law_629 : decode cL_law 629 = .ok (.iconst 2, 1) := by decide +kernel
theorem dL_law_630 : decode cL_law 630 = .ok (.iadd, 1) := by decide +kernel
theorem dL_law_631 : decode cL_law 631 = .ok (.iaload, 1) := by decide +kernel
theorem dL_law_632 : decode cL_law 632 = .ok (.aload_n 0, 1) := by decide +kernel
theorem dL_law_633 : decode cL_law 633 = .ok (.iload_n 3, 1) := by decide +kernel
theorem dL_law_634 : decode cL_law 634 = .ok (.iconst 3, 1) := by decide +kernel
theorem dL_law_635 : decode cL_law 635 = .ok (.iadd, 1) := by decide +kernel
theorem dL_law_636 : decode cL_law 636 = .ok (.iaload, 1) := by decide +kernel
theorem dL_law_637 : decode cL_law 637 = .ok (.invokevirtual 68, 3) := by decide +kernel
theorem dL_law_640 : decode cL_law 640 = .ok (.aload_n 2, 1) := by decide +kernel
theorem dL_law_641 : decode cL_law 641 = .ok (.aload_n 0, 1) := by decide +kernel
theorem dL_law_642 : decode cL_law 642 = .ok (.iload_n 3, 1) := by decide +kernel
theorem dL_law_643 : decode cL_law 643 = .ok (.iconst 1, 1) := by decide +kernel
theorem dL_law_644 : decode cL_law 644 = .ok (.iadd, 1) := by decide +kernel
theorem dL_law_645 : decode cL_law 645 = .ok (.iaload, 1) := by decide +kernel
theorem dL_law_646 : decode cL_law 646 = .ok (.aload_n 0, 1) := by decide +kernel
theorem dL_law_647 : decode cL_law 647 = .ok (.iload_n 3, 1) := by decide +kernel
theorem dL_law_648 : decode cL_law 648 = .ok (.iconst 2, 1) := by decide +kernel
theorem dL_law_649 : decode cL_law 649 = .ok (.iadd, 1) := by decide +kernel
theorem dL_law_650 : decode cL_law 650 = .ok (.iaload, 1) := by decide +kernel
theorem dL_law_651 : decode cL_law 651 = .ok (.aload_n 0, 1) := by decide +kernel
theorem dL_law_652 : decode cL_law 652 = .ok (.iload_n 3, 1) := by decide +kernel
theorem dL_law_653 : decode cL_law 653 = .ok (.iconst 3, 1) := by decide +kernel
theorem dL_law_654 : decode cL_law 654 = .ok (.iadd, 1) := by decide +kernel
theorem dL_law_655 : decode cL_law 655 = .ok (.iaload, 1) := by decide +kernel
theorem dL_law_656 : decode cL_law 656 = .ok (.invokevirtual 71, 3) := by decide +kernel
theorem dL_law_659 : decode cL_law 659 = .ok (.if_icmp .eq 536, 3) := by decide +kernel
theorem dL_law_664 : decode cL_law 664 = .ok (.aload_n 1, 1) := by decide +kernel
theorem dL_law_665 : decode cL_law 665 = .ok (.aload_n 0, 1) := by decide +kernel
theorem dL_law_666 : decode cL_law 666 = .ok (.iload_n 3, 1) := by decide +kernel
theorem dL_law_667 : decode cL_law 667 = .ok (.iconst 1, 1) := by decide +kernel
theorem dL_law_668 : decode cL_law 668 = .ok (.iadd, 1) := by decide +kernel
theorem dL_law_669 : decode cL_law 669 = .ok (.iaload, 1) := by decide +kernel
theorem dL_law_670 : decode cL_law 670 = .ok (.aload_n 0, 1) := by decide +kernel
theorem dL_law_671 : decode cL_law 671 = .ok (.iload_n 3, 1) := by decide +kernel
theorem dL_law_672 : decode cL_law 672 = .ok (.iconst 2, 1) := by decide +kernel
theorem dL_law_673 : decode cL_law 673 = .ok (.iadd, 1) := by decide +kernel
theorem dL_law_674 : decode cL_law 674 = .ok (.iaload, 1) := by decide +kernel
theorem dL_law_675 : decode cL_law 675 = .ok (.aload_n 0, 1) := by decide +kernel
theorem dL_law_676 : decode cL_law 676 = .ok (.iload_n 3, 1) := by decide +kernel
theorem dL_law_677 : decode cL_law 677 = .ok (.iconst 3, 1) := by decide +kernel
theorem dL_law_678 : decode cL_law 678 = .ok (.iadd, 1) := by decide +kernel
theorem dL_law_679 : decode cL_law 679 = .ok (.iaload, 1) := by decide +kernel
theorem dL_law_680 : decode cL_law 680 = .ok (.invokevirtual 72, 3) := by decide +kernel
theorem dL_law_683 : decode cL_law 683 = .ok (.aload_n 2, 1) := by decide +kernel
theorem dL_law_684 : decode cL_law 684 = .ok (.aload_n 0, 1) := by decide +kernel
theorem dL_law_685 : decode cL_law 685 = .ok (.iload_n 3, 1) := by decide +kernel
theorem dL_law_686 : decode cL_law 686 = .ok (.iconst 1, 1) := by decide +kernel
theorem dL_law_687 : decode cL_law 687 = .ok (.iadd, 1) := by decide +kernel
theorem dL_law_688 : decode cL_law 688 = .ok (.iaload, 1) := by decide +kernel
theorem dL_law_689 : decode cL_law 689 = .ok (.aload_n 0, 1) := by decide +kernel
theorem dL_law_690 : decode cL_law 690 = .ok (.iload_n 3, 1) := by decide +kernel
theorem dL_law_691 : decode cL_law 691 = .ok (.iconst 2, 1) := by decide +kernel
theorem dL_law_692 : decode cL_law 692 = .ok (.iadd, 1) := by decide +kernel
theorem dL_law_693 : decode cL_law 693 = .ok (.iaload, 1) := by decide +kernel
theorem dL_law_694 : decode cL_law 694 = .ok (.aload_n 0, 1) := by decide +kernel
theorem dL_law_695 : decode cL_law 695 = .ok (.iload_n 3, 1) := by decide +kernel
theorem dL_law_696 : decode cL_law 696 = .ok (.iconst 3, 1) := by decide +kernel
theorem dL_law_697 : decode cL_law 697 = .ok (.iadd, 1) := by decide +kernel
theorem dL_law_698 : decode cL_law 698 = .ok (.iaload, 1) := by decide +kernel
theorem dL_law_699 : decode cL_law 699 = .ok (.invokevirtual 75, 3) := by decide +kernel
theorem dL_law_702 : decode cL_law 702 = .ok (.if_icmp .eq 493, 3) := by decide +kernel
theorem dL_law_707 : decode cL_law 707 = .ok (.aload_n 1, 1) := by decide +kernel
theorem dL_law_708 : decode cL_law 708 = .ok (.aload_n 0, 1) := by decide +kernel
theorem dL_law_709 : decode cL_law 709 = .ok (.iload_n 3, 1) := by decide +kernel
theorem dL_law_710 : decode cL_law 710 = .ok (.iconst 1, 1) := by decide +kernel
theorem dL_law_711 : decode cL_law 711 = .ok (.iadd, 1) := by decide +kernel
theorem dL_law_712 : decode cL_law 712 = .ok (.iaload, 1) := by decide +kernel
theorem dL_law_713 : decode cL_law 713 = .ok (.aload_n 0, 1) := by decide +kernel
theorem dL_law_714 : decode cL_law 714 = .ok (.iload_n 3, 1) := by decide +kernel
theorem dL_law_715 : decode cL_law 715 = .ok (.iconst 2, 1) := by decide +kernel
theorem dL_law_716 : decode cL_law 716 = .ok (.iadd, 1) := by decide +kernel
theorem dL_law_717 : decode cL_law 717 = .ok (.iaload, 1) := by decide +kernel
theorem dL_law_718 : decode cL_law 718 = .ok (.aload_n 0, 1) := by decide +kernel
theorem dL_law_719 : decode cL_law 719 = .ok (.iload_n 3, 1) := by decide +kernel
theorem dL_law_720 : decode cL_law 720 = .ok (.iconst 3, 1) := by decide +kernel
theorem dL_law_721 : decode cL_law 721 = .ok (.iadd, 1) := by decide +kernel
theorem dL_law_722 : decode cL_law 722 = .ok (.iaload, 1) := by decide +kernel
theorem dL_law_723 : decode cL_law 723 = .ok (.invokevirtual 76, 3) := by decide +kernel
theorem dL_law_726 : decode cL_law 726 = .ok (.aload_n 2, 1) := by decide +kernel
theorem dL_law_727 : decode cL_law 727 = .ok (.aload_n 0, 1) := by decide +kernel
theorem dL_law_728 : decode cL_law 728 = .ok (.iload_n 3, 1) := by decide +kernel
theorem dL_law_729 : decode cL_law 729 = .ok (.iconst 1, 1) := by decide +kernel
theorem dL_law_730 : decode cL_law 730 = .ok (.iadd, 1) := by decide +kernel
theorem dL_law_731 : decode cL_law 731 = .ok (.iaload, 1) := by decide +kernel
theorem dL_law_732 : decode cL_law 732 = .ok (.aload_n 0, 1) := by decide +kernel
theorem dL_law_733 : decode cL_law 733 = .ok (.iload_n 3, 1) := by decide +kernel
theorem dL_law_734 : decode cL_law 734 = .ok (.iconst 2, 1) := by decide +kernel
theorem dL_law_735 : decode cL_law 735 = .ok (.iadd, 1) := by decide +kernel
theorem dL_law_736 : decode cL_law 736 = .ok (.iaload, 1) := by decide +kernel
theorem dL_law_737 : decode cL_law 737 = .ok (.aload_n 0, 1) := by decide +kernel
theorem dL_law_738 : decode cL_law 738 = .ok (.iload_n 3, 1) := by decide +kernel
theorem dL_law_739 : decode cL_law 739 = .ok (.iconst 3, 1) := by decide +kernel
theorem dL_law_740 : decode cL_law 740 = .ok (.iadd, 1) := by decide +kernel
theorem dL_law_741 : decode cL_law 741 = .ok (.iaload, 1) := by decide +kernel
theorem dL_law_742 : decode cL_law 742 = .ok (.invokevirtual 80, 3) := by decide +kernel
theorem dL_law_745 : decode cL_law 745 = .ok (.lcmp, 1) := by decide +kernel
theorem dL_law_746 : decode cL_law 746 = .ok (.ifCond .eq 449, 3) := by decide +kernel
theorem dL_law_751 : decode cL_law 751 = .ok (.aload_n 1, 1) := by decide +kernel
theorem dL_law_752 : decode cL_law 752 = .ok (.aload_n 0, 1) := by decide +kernel
theorem dL_law_753 : decode cL_law 753 = .ok (.iload_n 3, 1) := by decide +kernel
theorem dL_law_754 : decode cL_law 754 = .ok (.iconst 1, 1) := by decide +kernel
theorem dL_law_755 : decode cL_law 755 = .ok (.iadd, 1) := by decide +kernel
theorem dL_law_756 : decode cL_law 756 = .ok (.iaload, 1) := by decide +kernel
theorem dL_law_757 : decode cL_law 757 = .ok (.aload_n 0, 1) := by decide +kernel
theorem dL_law_758 : decode cL_law 758 = .ok (.iload_n 3, 1) := by decide +kernel
theorem dL_law_759 : decode cL_law 759 = .ok (.iconst 2, 1) := by decide +kernel
theorem dL_law_760 : decode cL_law 760 = .ok (.iadd, 1) := by decide +kernel
theorem dL_law_761 : decode cL_law 761 = .ok (.iaload, 1) := by decide +kernel
theorem dL_law_762 : decode cL_law 762 = .ok (.invokevirtual 81, 3) := by decide +kernel
theorem dL_law_765 : decode cL_law 765 = .ok (.aload_n 2, 1) := by decide +kernel
theorem dL_law_766 : decode cL_law 766 = .ok (.aload_n 0, 1) := by decide +kernel
theorem dL_law_767 : decode cL_law 767 = .ok (.iload_n 3, 1) := by decide +kernel
theorem dL_law_768 : decode cL_law 768 = .ok (.iconst 1, 1) := by decide +kernel
theorem dL_law_769 : decode cL_law 769 = .ok (.iadd, 1) := by decide +kernel
theorem dL_law_770 : decode cL_law 770 = .ok (.iaload, 1) := by decide +kernel
theorem dL_law_771 : decode cL_law 771 = .ok (.aload_n 0, 1) := by decide +kernel
theorem dL_law_772 : decode cL_law 772 = .ok (.iload_n 3, 1) := by decide +kernel
theorem dL_law_773 : decode cL_law 773 = .ok (.iconst 2, 1) := by decide +kernel
theorem dL_law_774 : decode cL_law 774 = .ok (.iadd, 1) := by decide +kernel
theorem dL_law_775 : decode cL_law 775 = .ok (.iaload, 1) := by decide +kernel
theorem dL_law_776 : decode cL_law 776 = .ok (.invokevirtual 84, 3) := by decide +kernel
theorem dL_law_779 : decode cL_law 779 = .ok (.if_icmp .eq 416, 3) := by decide +kernel
theorem dL_law_784 : decode cL_law 784 = .ok (.aload_n 1, 1) := by decide +kernel
theorem dL_law_785 : decode cL_law 785 = .ok (.aload_n 0, 1) := by decide +kernel
theorem dL_law_786 : decode cL_law 786 = .ok (.iload_n 3, 1) := by decide +kernel
theorem dL_law_787 : decode cL_law 787 = .ok (.iconst 1, 1) := by decide +kernel
theorem dL_law_788 : decode cL_law 788 = .ok (.iadd, 1) := by decide +kernel
theorem dL_law_789 : decode cL_law 789 = .ok (.iaload, 1) := by decide +kernel
theorem dL_law_790 : decode cL_law 790 = .ok (.aload_n 0, 1) := by decide +kernel
theorem dL_law_791 : decode cL_law 791 = .ok (.iload_n 3, 1) := by decide +kernel
theorem dL_law_792 : decode cL_law 792 = .ok (.iconst 2, 1) := by decide +kernel
theorem dL_law_793 : decode cL_law 793 = .ok (.iadd, 1) := by decide +kernel
theorem dL_law_794 : decode cL_law 794 = .ok (.iaload, 1) := by decide +kernel
theorem dL_law_795 : decode cL_law 795 = .ok (.invokevirtual 85, 3) := by decide +kernel
theorem dL_law_798 : decode cL_law 798 = .ok (.aload_n 2, 1) := by decide +kernel
theorem dL_law_799 : decode cL_law 799 = .ok (.aload_n 0, 1) := by decide +kernel
theorem dL_law_800 : decode cL_law 800 = .ok (.iload_n 3, 1) := by decide +kernel
theorem dL_law_801 : decode cL_law 801 = .ok (.iconst 1, 1) := by decide +kernel
theorem dL_law_802 : decode cL_law 802 = .ok (.iadd, 1) := by decide +kernel
theorem dL_law_803 : decode cL_law 803 = .ok (.iaload, 1) := by decide +kernel
theorem dL_law_804 : decode cL_law 804 = .ok (.aload_n 0, 1) := by decide +kernel
theorem dL_law_805 : decode cL_law 805 = .ok (.iload_n 3, 1) := by decide +kernel
theorem dL_law_806 : decode cL_law 806 = .ok (.iconst 2, 1) := by decide +kernel
theorem dL_law_807 : decode cL_law 807 = .ok (.iadd, 1) := by decide +kernel
theorem dL_law_808 : decode cL_law 808 = .ok (.iaload, 1) := by decide +kernel
theorem dL_law_809 : decode cL_law 809 = .ok (.invokevirtual 88, 3) := by decide +kernel
theorem dL_law_812 : decode cL_law 812 = .ok (.if_icmp .eq 383, 3) := by decide +kernel
theorem dL_law_817 : decode cL_law 817 = .ok (.aload_n 1, 1) := by decide +kernel
theorem dL_law_818 : decode cL_law 818 = .ok (.aload_n 0, 1) := by decide +kernel
theorem dL_law_819 : decode cL_law 819 = .ok (.iload_n 3, 1) := by decide +kernel
theorem dL_law_820 : decode cL_law 820 = .ok (.iconst 1, 1) := by decide +kernel
theorem dL_law_821 : decode cL_law 821 = .ok (.iadd, 1) := by decide +kernel
theorem dL_law_822 : decode cL_law 822 = .ok (.iaload, 1) := by decide +kernel
theorem dL_law_823 : decode cL_law 823 = .ok (.invokevirtual 89, 3) := by decide +kernel
theorem dL_law_826 : decode cL_law 826 = .ok (.aload_n 2, 1) := by decide +kernel
theorem dL_law_827 : decode cL_law 827 = .ok (.aload_n 0, 1) := by decide +kernel
theorem dL_law_828 : decode cL_law 828 = .ok (.iload_n 3, 1) := by decide +kernel
theorem dL_law_829 : decode cL_law 829 = .ok (.iconst 1, 1) := by decide +kernel
theorem dL_law_830 : decode cL_law 830 = .ok (.iadd, 1) := by decide +kernel
theorem dL_law_831 : decode cL_law 831 = .ok (.iaload, 1) := by decide +kernel
theorem dL_law_832 : decode cL_law 832 = .ok (.invokevirtual 93, 3) := by decide +kernel
theorem dL_law_835 : decode cL_law 835 = .ok (.lcmp, 1) := by decide +kernel
theorem dL_law_836 : decode cL_law 836 = .ok (.ifCond .eq 359, 3) := by decide +kernel
theorem dL_law_841 : decode cL_law 841 = .ok (.aload_n 1, 1) := by decide +kernel
theorem dL_law_842 : decode cL_law 842 = .ok (.aload_n 0, 1) := by decide +kernel
theorem dL_law_843 : decode cL_law 843 = .ok (.iload_n 3, 1) := by decide +kernel
theorem dL_law_844 : decode cL_law 844 = .ok (.iconst 1, 1) := by decide +kernel
theorem dL_law_845 : decode cL_law 845 = .ok (.iadd, 1) := by decide +kernel
theorem dL_law_846 : decode cL_law 846 = .ok (.iaload, 1) := by decide +kernel
theorem dL_law_847 : decode cL_law 847 = .ok (.invokevirtual 94, 3) := by decide +kernel
theorem dL_law_850 : decode cL_law 850 = .ok (.aload_n 2, 1) := by decide +kernel
theorem dL_law_851 : decode cL_law 851 = .ok (.aload_n 0, 1) := by decide +kernel
theorem dL_law_852 : decode cL_law 852 = .ok (.iload_n 3, 1) := by decide +kernel
theorem dL_law_853 : decode cL_law 853 = .ok (.iconst 1, 1) := by decide +kernel
theorem dL_law_854 : decode cL_law 854 = .ok (.iadd, 1) := by decide +kernel
theorem dL_law_855 : decode cL_law 855 = .ok (.iaload, 1) := by decide +kernel
theorem dL_law_856 : decode cL_law 856 = .ok (.invokevirtual 97, 3) := by decide +kernel
theorem dL_law_859 : decode cL_law 859 = .ok (.if_icmp .eq 336, 3) := by decide +kernel
theorem dL_law_864 : decode cL_law 864 = .ok (.aload_n 1, 1) := by decide +kernel
theorem dL_law_865 : decode cL_law 865 = .ok (.aload_n 0, 1) := by decide +kernel
theorem dL_law_866 : decode cL_law 866 = .ok (.iload_n 3, 1) := by decide +kernel
theorem dL_law_867 : decode cL_law 867 = .ok (.iconst 1, 1) := by decide +kernel
theorem dL_law_868 : decode cL_law 868 = .ok (.iadd, 1) := by decide +kernel
theorem dL_law_869 : decode cL_law 869 = .ok (.iaload, 1) := by decide +kernel
theorem dL_law_870 : decode cL_law 870 = .ok (.invokevirtual 98, 3) := by decide +kernel
theorem dL_law_873 : decode cL_law 873 = .ok (.aload_n 2, 1) := by decide +kernel
theorem dL_law_874 : decode cL_law 874 = .ok (.aload_n 0, 1) := by decide +kernel
theorem dL_law_875 : decode cL_law 875 = .ok (.iload_n 3, 1) := by decide +kernel
theorem dL_law_876 : decode cL_law 876 = .ok (.iconst 1, 1) := by decide +kernel
theorem dL_law_877 : decode cL_law 877 = .ok (.iadd, 1) := by decide +kernel
theorem dL_law_878 : decode cL_law 878 = .ok (.iaload, 1) := by decide +kernel
theorem dL_law_879 : decode cL_law 879 = .ok (.invokevirtual 101, 3) := by decide +kernel
theorem dL_law_882 : decode cL_law 882 = .ok (.if_icmp .eq 313, 3) := by decide +kernel
theorem dL_law_887 : decode cL_law 887 = .ok (.aload_n 1, 1) := by decide +kernel
theorem dL_law_888 : decode cL_law 888 = .ok (.aload_n 0, 1) := by decide +kernel
theorem dL_law_889 : decode cL_law 889 = .ok (.iload_n 3, 1) := by decide +kernel
theorem dL_law_890 : decode cL_law 890 = .ok (.iconst 1, 1) := by decide +kernel
theorem dL_law_891 : decode cL_law 891 = .ok (.iadd, 1) := by decide +kernel
theorem dL_law_892 : decode cL_law 892 = .ok (.iaload, 1) := by decide +kernel
theorem dL_law_893 : decode cL_law 893 = .ok (.aload_n 0, 1) := by decide +kernel
theorem dL_law_894 : decode cL_law 894 = .ok (.iload_n 3, 1) := by decide +kernel
theorem dL_law_895 : decode cL_law 895 = .ok (.iconst 2, 1) := by decide +kernel
theorem dL_law_896 : decode cL_law 896 = .ok (.iadd, 1) := by decide +kernel
theorem dL_law_897 : decode cL_law 897 = .ok (.iaload, 1) := by decide +kernel
theorem dL_law_898 : decode cL_law 898 = .ok (.invokevirtual 102, 3) := by decide +kernel
theorem dL_law_901 : decode cL_law 901 = .ok (.aload_n 2, 1) := by decide +kernel
theorem dL_law_902 : decode cL_law 902 = .ok (.aload_n 0, 1) := by decide +kernel
theorem dL_law_903 : decode cL_law 903 = .ok (.iload_n 3, 1) := by decide +kernel
theorem dL_law_904 : decode cL_law 904 = .ok (.iconst 1, 1) := by decide +kernel
theorem dL_law_905 : decode cL_law 905 = .ok (.iadd, 1) := by decide +kernel
theorem dL_law_906 : decode cL_law 906 = .ok (.iaload, 1) := by decide +kernel
theorem dL_law_907 : decode cL_law 907 = .ok (.aload_n 0, 1) := by decide +kernel
theorem dL_law_908 : decode cL_law 908 = .ok (.iload_n 3, 1) := by decide +kernel
theorem dL_law_909 : decode cL_law 909 = .ok (.iconst 2, 1) := by decide +kernel
theorem dL_law_910 : decode cL_law 910 = .ok (.iadd, 1) := by decide +kernel
theorem dL_law_911 : decode cL_law 911 = .ok (.iaload, 1) := by decide +kernel
theorem dL_law_912 : decode cL_law 912 = .ok (.invokevirtual 105, 3) := by decide +kernel
theorem dL_law_915 : decode cL_law 915 = .ok (.lcmp, 1) := by decide +kernel
theorem dL_law_916 : decode cL_law 916 = .ok (.ifCond .eq 279, 3) := by decide +kernel
theorem dL_law_921 : decode cL_law 921 = .ok (.aload_n 1, 1) := by decide +kernel
theorem dL_law_922 : decode cL_law 922 = .ok (.aload_n 0, 1) := by decide +kernel
theorem dL_law_923 : decode cL_law 923 = .ok (.iload_n 3, 1) := by decide +kernel
theorem dL_law_924 : decode cL_law 924 = .ok (.iconst 1, 1) := by decide +kernel
theorem dL_law_925 : decode cL_law 925 = .ok (.iadd, 1) := by decide +kernel
theorem dL_law_926 : decode cL_law 926 = .ok (.iaload, 1) := by decide +kernel
theorem dL_law_927 : decode cL_law 927 = .ok (.aload_n 0, 1) := by decide +kernel
theorem dL_law_928 : decode cL_law 928 = .ok (.iload_n 3, 1) := by decide +kernel
theorem dL_law_929 : decode cL_law 929 = .ok (.iconst 2, 1) := by decide +kernel
theorem dL_law_930 : decode cL_law 930 = .ok (.iadd, 1) := by decide +kernel
theorem dL_law_931 : decode cL_law 931 = .ok (.iaload, 1) := by decide +kernel
theorem dL_law_932 : decode cL_law 932 = .ok (.invokevirtual 106, 3) := by decide +kernel
theorem dL_law_935 : decode cL_law 935 = .ok (.aload_n 2, 1) := by decide +kernel
theorem dL_law_936 : decode cL_law 936 = .ok (.aload_n 0, 1) := by decide +kernel
theorem dL_law_937 : decode cL_law 937 = .ok (.iload_n 3, 1) := by decide +kernel
theorem dL_law_938 : decode cL_law 938 = .ok (.iconst 1, 1) := by decide +kernel
theorem dL_law_939 : decode cL_law 939 = .ok (.iadd, 1) := by decide +kernel
theorem dL_law_940 : decode cL_law 940 = .ok (.iaload, 1) := by decide +kernel
theorem dL_law_941 : decode cL_law 941 = .ok (.aload_n 0, 1) := by decide +kernel
theorem dL_law_942 : decode cL_law 942 = .ok (.iload_n 3, 1) := by decide +kernel
theorem dL_law_943 : decode cL_law 943 = .ok (.iconst 2, 1) := by decide +kernel
theorem dL_law_944 : decode cL_law 944 = .ok (.iadd, 1) := by decide +kernel
theorem dL_law_945 : decode cL_law 945 = .ok (.iaload, 1) := by decide +kernel
theorem dL_law_946 : decode cL_law 946 = .ok (.invokevirtual 109, 3) := by decide +kernel
theorem dL_law_949 : decode cL_law 949 = .ok (.if_icmp .eq 246, 3) := by decide +kernel
theorem dL_law_954 : decode cL_law 954 = .ok (.aload_n 1, 1) := by decide +kernel
theorem dL_law_955 : decode cL_law 955 = .ok (.aload_n 0, 1) := by decide +kernel
theorem dL_law_956 : decode cL_law 956 = .ok (.iload_n 3, 1) := by decide +kernel
theorem dL_law_957 : decode cL_law 957 = .ok (.iconst 1, 1) := by decide +kernel
theorem dL_law_958 : decode cL_law 958 = .ok (.iadd, 1) := by decide +kernel
theorem dL_law_959 : decode cL_law 959 = .ok (.iaload, 1) := by decide +kernel
theorem dL_law_960 : decode cL_law 960 = .ok (.aload_n 0, 1) := by decide +kernel
theorem dL_law_961 : decode cL_law 961 = .ok (.iload_n 3, 1) := by decide +kernel
theorem dL_law_962 : decode cL_law 962 = .ok (.iconst 2, 1) := by decide +kernel
theorem dL_law_963 : decode cL_law 963 = .ok (.iadd, 1) := by decide +kernel
theorem dL_law_964 : decode cL_law 964 = .ok (.iaload, 1) := by decide +kernel
theorem dL_law_965 : decode cL_law 965 = .ok (.aload_n 0, 1) := by decide +kernel
theorem dL_law_966 : decode cL_law 966 = .ok (.iload_n 3, 1) := by decide +kernel
theorem dL_law_967 : decode cL_law 967 = .ok (.iconst 3, 1) := by decide +kernel
theorem dL_law_968 : decode cL_law 968 = .ok (.iadd, 1) := by decide +kernel
theorem dL_law_969 : decode cL_law 969 = .ok (.iaload, 1) := by decide +kernel
theorem dL_law_970 : decode cL_law 970 = .ok (.invokevirtual 110, 3) := by decide +kernel
theorem dL_law_973 : decode cL_law 973 = .ok (.aload_n 2, 1) := by decide +kernel
theorem dL_law_974 : decode cL_law 974 = .ok (.aload_n 0, 1) := by decide +kernel
theorem dL_law_975 : decode cL_law 975 = .ok (.iload_n 3, 1) := by decide +kernel
theorem dL_law_976 : decode cL_law 976 = .ok (.iconst 1, 1) := by decide +kernel
theorem dL_law_977 : decode cL_law 977 = .ok (.iadd, 1) := by decide +kernel
theorem dL_law_978 : decode cL_law 978 = .ok (.iaload, 1) := by decide +kernel
theorem dL_law_979 : decode cL_law 979 = .ok (.aload_n 0, 1) := by decide +kernel
theorem dL_law_980 : decode cL_law 980 = .ok (.iload_n 3, 1) := by decide +kernel
theorem dL_law_981 : decode cL_law 981 = .ok (.iconst 2, 1) := by decide +kernel
theorem dL_law_982 : decode cL_law 982 = .ok (.iadd, 1) := by decide +kernel
theorem dL_law_983 : decode cL_law 983 = .ok (.iaload, 1) := by decide +kernel
theorem dL_law_984 : decode cL_law 984 = .ok (.aload_n 0, 1) := by decide +kernel
theorem dL_law_985 : decode cL_law 985 = .ok (.iload_n 3, 1) := by decide +kernel
theorem dL_law_986 : decode cL_law 986 = .ok (.iconst 3, 1) := by decide +kernel
theorem dL_law_987 : decode cL_law 987 = .ok (.iadd, 1) := by decide +kernel
theorem dL_law_988 : decode cL_law 988 = .ok (.iaload, 1) := by decide +kernel
theorem dL_law_989 : decode cL_law 989 = .ok (.invokevirtual 113, 3) := by decide +kernel
theorem dL_law_992 : decode cL_law 992 = .ok (.if_icmp .eq 203, 3) := by decide +kernel
theorem dL_law_997 : decode cL_law 997 = .ok (.aload_n 1, 1) := by decide +kernel
theorem dL_law_998 : decode cL_law 998 = .ok (.aload_n 0, 1) := by decide +kernel
theorem dL_law_999 : decode cL_law 999 = .ok (.iload_n 3, 1) := by decide +kernel
theorem dL_law_1000 : decode cL_law 1000 = .ok (.iconst 1, 1) := by decide +kernel
theorem dL_law_1001 : decode cL_law 1001 = .ok (.iadd, 1) := by decide +kernel
theorem dL_law_1002 : decode cL_law 1002 = .ok (.iaload, 1) := by decide +kernel
theorem dL_law_1003 : decode cL_law 1003 = .ok (.aload_n 0, 1) := by decide +kernel
theorem dL_law_1004 : decode cL_law 1004 = .ok (.iload_n 3, 1) := by decide +kernel
theorem dL_law_1005 : decode cL_law 1005 = .ok (.iconst 2, 1) := by decide +kernel
theorem dL_law_1006 : decode cL_law 1006 = .ok (.iadd, 1) := by decide +kernel
theorem dL_law_1007 : decode cL_law 1007 = .ok (.iaload, 1) := by decide +kernel
theorem dL_law_1008 : decode cL_law 1008 = .ok (.aload_n 0, 1) := by decide +kernel
theorem dL_law_1009 : decode cL_law 1009 = .ok (.iload_n 3, 1) := by decide +kernel
theorem dL_law_1010 : decode cL_law 1010 = .ok (.iconst 3, 1) := by decide +kernel
theorem dL_law_1011 : decode cL_law 1011 = .ok (.iadd, 1) := by decide +kernel
theorem dL_law_1012 : decode cL_law 1012 = .ok (.iaload, 1) := by decide +kernel
theorem dL_law_1013 : decode cL_law 1013 = .ok (.aload_n 0, 1) := by decide +kernel
theorem dL_law_1014 : decode cL_law 1014 = .ok (.iload_n 3, 1) := by decide +kernel
theorem dL_law_1015 : decode cL_law 1015 = .ok (.iconst 4, 1) := by decide +kernel
theorem dL_law_1016 : decode cL_law 1016 = .ok (.iadd, 1) := by decide +kernel
theorem dL_law_1017 : decode cL_law 1017 = .ok (.iaload, 1) := by decide +kernel
theorem dL_law_1018 : decode cL_law 1018 = .ok (.invokevirtual 114, 3) := by decide +kernel
theorem dL_law_1021 : decode cL_law 1021 = .ok (.aload_n 2, 1) := by decide +kernel
theorem dL_law_1022 : decode cL_law 1022 = .ok (.aload_n 0, 1) := by decide +kernel
theorem dL_law_1023 : decode cL_law 1023 = .ok (.iload_n 3, 1) := by decide +kernel
theorem dL_law_1024 : decode cL_law 1024 = .ok (.iconst 1, 1) := by decide +kernel
theorem dL_law_1025 : decode cL_law 1025 = .ok (.iadd, 1) := by decide +kernel
theorem dL_law_1026 : decode cL_law 1026 = .ok (.iaload, 1) := by decide +kernel
theorem dL_law_1027 : decode cL_law 1027 = .ok (.aload_n 0, 1) := by decide +kernel
theorem dL_law_1028 : decode cL_law 1028 = .ok (.iload_n 3, 1) := by decide +kernel
theorem dL_law_1029 : decode cL_law 1029 = .ok (.iconst 2, 1) := by decide +kernel
theorem dL_law_1030 : decode cL_law 1030 = .ok (.iadd, 1) := by decide +kernel
theorem dL_law_1031 : decode cL_law 1031 = .ok (.iaload, 1) := by decide +kernel
theorem dL_law_1032 : decode cL_law 1032 = .ok (.aload_n 0, 1) := by decide +kernel
theorem dL_law_1033 : decode cL_law 1033 = .ok (.iload_n 3, 1) := by decide +kernel
theorem dL_law_1034 : decode cL_law 1034 = .ok (.iconst 3, 1) := by decide +kernel
theorem dL_law_1035 : decode cL_law 1035 = .ok (.iadd, 1) := by decide +kernel
theorem dL_law_1036 : decode cL_law 1036 = .ok (.iaload, 1) := by decide +kernel
theorem dL_law_1037 : decode cL_law 1037 = .ok (.aload_n 0, 1) := by decide +kernel
theorem dL_law_1038 : decode cL_law 1038 = .ok (.iload_n 3, 1) := by decide +kernel
theorem dL_law_1039 : decode cL_law 1039 = .ok (.iconst 4, 1) := by decide +kernel
theorem dL_law_1040 : decode cL_law 1040 = .ok (.iadd, 1) := by decide +kernel
theorem dL_law_1041 : decode cL_law 1041 = .ok (.iaload, 1) := by decide +kernel
theorem dL_law_1042 : decode cL_law 1042 = .ok (.invokevirtual 117, 3) := by decide +kernel
theorem dL_law_1045 : decode cL_law 1045 = .ok (.if_icmp .eq 150, 3) := by decide +kernel
theorem dL_law_1050 : decode cL_law 1050 = .ok (.aload_n 1, 1) := by decide +kernel
theorem dL_law_1051 : decode cL_law 1051 = .ok (.aload_n 0, 1) := by decide +kernel
theorem dL_law_1052 : decode cL_law 1052 = .ok (.iload_n 3, 1) := by decide +kernel
theorem dL_law_1053 : decode cL_law 1053 = .ok (.iconst 1, 1) := by decide +kernel
theorem dL_law_1054 : decode cL_law 1054 = .ok (.iadd, 1) := by decide +kernel
theorem dL_law_1055 : decode cL_law 1055 = .ok (.iaload, 1) := by decide +kernel
theorem dL_law_1056 : decode cL_law 1056 = .ok (.aload_n 0, 1) := by decide +kernel
theorem dL_law_1057 : decode cL_law 1057 = .ok (.iload_n 3, 1) := by decide +kernel
theorem dL_law_1058 : decode cL_law 1058 = .ok (.iconst 2, 1) := by decide +kernel
theorem dL_law_1059 : decode cL_law 1059 = .ok (.iadd, 1) := by decide +kernel
theorem dL_law_1060 : decode cL_law 1060 = .ok (.iaload, 1) := by decide +kernel
theorem dL_law_1061 : decode cL_law 1061 = .ok (.invokevirtual 118, 3) := by decide +kernel
theorem dL_law_1064 : decode cL_law 1064 = .ok (.aload_n 2, 1) := by decide +kernel
theorem dL_law_1065 : decode cL_law 1065 = .ok (.aload_n 0, 1) := by decide +kernel
theorem dL_law_1066 : decode cL_law 1066 = .ok (.iload_n 3, 1) := by decide +kernel
theorem dL_law_1067 : decode cL_law 1067 = .ok (.iconst 1, 1) := by decide +kernel
theorem dL_law_1068 : decode cL_law 1068 = .ok (.iadd, 1) := by decide +kernel
theorem dL_law_1069 : decode cL_law 1069 = .ok (.iaload, 1) := by decide +kernel
theorem dL_law_1070 : decode cL_law 1070 = .ok (.aload_n 0, 1) := by decide +kernel
theorem dL_law_1071 : decode cL_law 1071 = .ok (.iload_n 3, 1) := by decide +kernel
theorem dL_law_1072 : decode cL_law 1072 = .ok (.iconst 2, 1) := by decide +kernel
theorem dL_law_1073 : decode cL_law 1073 = .ok (.iadd, 1) := by decide +kernel
theorem dL_law_1074 : decode cL_law 1074 = .ok (.iaload, 1) := by decide +kernel
theorem dL_law_1075 : decode cL_law 1075 = .ok (.invokevirtual 121, 3) := by decide +kernel
theorem dL_law_1078 : decode cL_law 1078 = .ok (.if_icmp .eq 117, 3) := by decide +kernel
theorem dL_law_1083 : decode cL_law 1083 = .ok (.aload_n 1, 1) := by decide +kernel
theorem dL_law_1084 : decode cL_law 1084 = .ok (.aload_n 0, 1) := by decide +kernel
theorem dL_law_1085 : decode cL_law 1085 = .ok (.iload_n 3, 1) := by decide +kernel
theorem dL_law_1086 : decode cL_law 1086 = .ok (.iconst 1, 1) := by decide +kernel
theorem dL_law_1087 : decode cL_law 1087 = .ok (.iadd, 1) := by decide +kernel
theorem dL_law_1088 : decode cL_law 1088 = .ok (.iaload, 1) := by decide +kernel
theorem dL_law_1089 : decode cL_law 1089 = .ok (.invokevirtual 122, 3) := by decide +kernel
theorem dL_law_1092 : decode cL_law 1092 = .ok (.aload_n 2, 1) := by decide +kernel
theorem dL_law_1093 : decode cL_law 1093 = .ok (.aload_n 0, 1) := by decide +kernel
theorem dL_law_1094 : decode cL_law 1094 = .ok (.iload_n 3, 1) := by decide +kernel
theorem dL_law_1095 : decode cL_law 1095 = .ok (.iconst 1, 1) := by decide +kernel
theorem dL_law_1096 : decode cL_law 1096 = .ok (.iadd, 1) := by decide +kernel
theorem dL_law_1097 : decode cL_law 1097 = .ok (.iaload, 1) := by decide +kernel
theorem dL_law_1098 : decode cL_law 1098 = .ok (.invokevirtual 125, 3) := by decide +kernel
theorem dL_law_1101 : decode cL_law 1101 = .ok (.if_icmp .eq 94, 3) := by decide +kernel
theorem dL_law_1106 : decode cL_law 1106 = .ok (.aload_n 1, 1) := by decide +kernel
theorem dL_law_1107 : decode cL_law 1107 = .ok (.aload_n 0, 1) := by decide +kernel
theorem dL_law_1108 : decode cL_law 1108 = .ok (.iload_n 3, 1) := by decide +kernel
theorem dL_law_1109 : decode cL_law 1109 = .ok (.iconst 1, 1) := by decide +kernel
theorem dL_law_1110 : decode cL_law 1110 = .ok (.iadd, 1) := by decide +kernel
theorem dL_law_1111 : decode cL_law 1111 = .ok (.iaload, 1) := by decide +kernel
theorem dL_law_1112 : decode cL_law 1112 = .ok (.aload_n 0, 1) := by decide +kernel
theorem dL_law_1113 : decode cL_law 1113 = .ok (.iload_n 3, 1) := by decide +kernel
theorem dL_law_1114 : decode cL_law 1114 = .ok (.iconst 2, 1) := by decide +kernel
theorem dL_law_1115 : decode cL_law 1115 = .ok (.iadd, 1) := by decide +kernel
theorem dL_law_1116 : decode cL_law 1116 = .ok (.iaload, 1) := by decide +kernel
theorem dL_law_1117 : decode cL_law 1117 = .ok (.invokevirtual 126, 3) := by decide +kernel
theorem dL_law_1120 : decode cL_law 1120 = .ok (.aload_n 2, 1) := by decide +kernel
theorem dL_law_1121 : decode cL_law 1121 = .ok (.aload_n 0, 1) := by decide +kernel
theorem dL_law_1122 : decode cL_law 1122 = .ok (.iload_n 3, 1) := by decide +kernel
theorem dL_law_1123 : decode cL_law 1123 = .ok (.iconst 1, 1) := by decide +kernel
theorem dL_law_1124 : decode cL_law 1124 = .ok (.iadd, 1) := by decide +kernel
theorem dL_law_1125 : decode cL_law 1125 = .ok (.iaload, 1) := by decide +kernel
theorem dL_law_1126 : decode cL_law 1126 = .ok (.aload_n 0, 1) := by decide +kernel
theorem dL_law_1127 : decode cL_law 1127 = .ok (.iload_n 3, 1) := by decide +kernel
theorem dL_law_1128 : decode cL_law 1128 = .ok (.iconst 2, 1) := by decide +kernel
theorem dL_law_1129 : decode cL_law 1129 = .ok (.iadd, 1) := by decide +kernel
theorem dL_law_1130 : decode cL_law 1130 = .ok (.iaload, 1) := by decide +kernel
theorem dL_law_1131 : decode cL_law 1131 = .ok (.invokevirtual 129, 3) := by decide +kernel
theorem dL_law_1134 : decode cL_law 1134 = .ok (.if_icmp .eq 61, 3) := by decide +kernel
theorem dL_law_1139 : decode cL_law 1139 = .ok (.aload_n 1, 1) := by decide +kernel
theorem dL_law_1140 : decode cL_law 1140 = .ok (.aload_n 0, 1) := by decide +kernel
theorem dL_law_1141 : decode cL_law 1141 = .ok (.iload_n 3, 1) := by decide +kernel
theorem dL_law_1142 : decode cL_law 1142 = .ok (.iconst 1, 1) := by decide +kernel
theorem dL_law_1143 : decode cL_law 1143 = .ok (.iadd, 1) := by decide +kernel
theorem dL_law_1144 : decode cL_law 1144 = .ok (.iaload, 1) := by decide +kernel
theorem dL_law_1145 : decode cL_law 1145 = .ok (.aload_n 0, 1) := by decide +kernel
theorem dL_law_1146 : decode cL_law 1146 = .ok (.iload_n 3, 1) := by decide +kernel
theorem dL_law_1147 : decode cL_law 1147 = .ok (.iconst 2, 1) := by decide +kernel
theorem dL_law_1148 : decode cL_law 1148 = .ok (.iadd, 1) := by decide +kernel
theorem dL_law_1149 : decode cL_law 1149 = .ok (.iaload, 1) := by decide +kernel
theorem dL_law_1150 : decode cL_law 1150 = .ok (.invokevirtual 130, 3) := by decide +kernel
theorem dL_law_1153 : decode cL_law 1153 = .ok (.aload_n 2, 1) := by decide +kernel
theorem dL_law_1154 : decode cL_law 1154 = .ok (.aload_n 0, 1) := by decide +kernel
theorem dL_law_1155 : decode cL_law 1155 = .ok (.iload_n 3, 1) := by decide +kernel
theorem dL_law_1156 : decode cL_law 1156 = .ok (.iconst 1, 1) := by decide +kernel
theorem dL_law_1157 : decode cL_law 1157 = .ok (.iadd, 1) := by decide +kernel
theorem dL_law_1158 : decode cL_law 1158 = .ok (.iaload, 1) := by decide +kernel
theorem dL_law_1159 : decode cL_law 1159 = .ok (.aload_n 0, 1) := by decide +kernel
theorem dL_law_1160 : decode cL_law 1160 = .ok (.iload_n 3, 1) := by decide +kernel
theorem dL_law_1161 : decode cL_law 1161 = .ok (.iconst 2, 1) := by decide +kernel
theorem dL_law_1162 : decode cL_law 1162 = .ok (.iadd, 1) := by decide +kernel
theorem dL_law_1163 : decode cL_law 1163 = .ok (.iaload, 1) := by decide +kernel
theorem dL_law_1164 : decode cL_law 1164 = .ok (.invokevirtual 133, 3) := by decide +kernel
theorem dL_law_1167 : decode cL_law 1167 = .ok (.if_icmp .eq 28, 3) := by decide +kernel
theorem dL_law_1172 : decode cL_law 1172 = .ok (.aload_n 1, 1) := by decide +kernel
theorem dL_law_1173 : decode cL_law 1173 = .ok (.aload_n 0, 1) := by decide +kernel
theorem dL_law_1174 : decode cL_law 1174 = .ok (.iload_n 3, 1) := by decide +kernel
theorem dL_law_1175 : decode cL_law 1175 = .ok (.iconst 1, 1) := by decide +kernel
theorem dL_law_1176 : decode cL_law 1176 = .ok (.iadd, 1) := by decide +kernel
theorem dL_law_1177 : decode cL_law 1177 = .ok (.iaload, 1) := by decide +kernel
theorem dL_law_1178 : decode cL_law 1178 = .ok (.invokevirtual 134, 3) := by decide +kernel
theorem dL_law_1181 : decode cL_law 1181 = .ok (.aload_n 2, 1) := by decide +kernel
theorem dL_law_1182 : decode cL_law 1182 = .ok (.aload_n 0, 1) := by decide +kernel
theorem dL_law_1183 : decode cL_law 1183 = .ok (.iload_n 3, 1) := by decide +kernel
theorem dL_law_1184 : decode cL_law 1184 = .ok (.iconst 1, 1) := by decide +kernel
theorem dL_law_1185 : decode cL_law 1185 = .ok (.iadd, 1) := by decide +kernel
theorem dL_law_1186 : decode cL_law 1186 = .ok (.iaload, 1) := by decide +kernel
theorem dL_law_1187 : decode cL_law 1187 = .ok (.invokevirtual 137, 3) := by decide +kernel
theorem dL_law_1190 : decode cL_law 1190 = .ok (.if_icmp .eq 5, 3) := by decide +kernel
theorem dL_law_1195 : decode cL_law 1195 = .ok (.iinc 3 6, 3) := by decide +kernel
theorem dL_law_1198 : decode cL_law 1198 = .ok (.goto (-1180), 3) := by decide +kernel
theorem dL_law_1201 : decode cL_law 1201 = .ok (.iconst 1, 1) := by decide +kernel
theorem dL_law_1202 : decode cL_law 1202 = .ok (.ireturn, 1) := by decide +kernel
theorem dX0_init_0 : decode cX0_init 0 = .ok (.aload_n 0, 1) := by decide +kernel
theorem dX0_init_1 : decode cX0_init 1 = .ok (.invokespecial 3, 3) := by decide +kernel
theorem dX0_init_4 : decode cX0_init 4 = .ok (.aload_n 0, 1) := by decide +kernel
theorem dX0_init_5 : decode cX0_init 5 = .ok (.new 9, 3) := by decide +kernel
theorem dX0_init_8 : decode cX0_init 8 = .ok (.dup, 1) := by decide +kernel
theorem dX0_init_9 : decode cX0_init 9 = .ok (.bipush 40, 2) := by decide +kernel
theorem dX0_init_11 : decode cX0_init 11 = .ok (.invokespecial 11, 3) := by decide +kernel
theorem dX0_init_14 : decode cX0_init 14 = .ok (.putfield 14, 3) := by decide +kernel
theorem dX0_init_17 : decode cX0_init 17 = .ok (.aload_n 0, 1) := by decide +kernel
theorem dX0_init_18 : decode cX0_init 18 = .ok (.new 9, 3) := by decide +kernel
theorem dX0_init_21 : decode cX0_init 21 = .ok (.dup, 1) := by decide +kernel
theorem dX0_init_22 : decode cX0_init 22 = .ok (.bipush 40, 2) := by decide +kernel
theorem dX0_init_24 : decode cX0_init 24 = .ok (.invokespecial 11, 3) := by decide +kernel
theorem dX0_init_27 : decode cX0_init 27 = .ok (.putfield 20, 3) := by decide +kernel
theorem dX0_init_30 : decode cX0_init 30 = .ok (.aload_n 0, 1) := by decide +kernel
theorem dX0_init_31 : decode cX0_init 31 = .ok (.bipush 40, 2) := by decide +kernel
theorem dX0_init_33 : decode cX0_init 33 = .ok (.newarray .int, 2) := by decide +kernel
theorem dX0_init_35 : decode cX0_init 35 = .ok (.putfield 23, 3) := by decide +kernel
theorem dX0_init_38 : decode cX0_init 38 = .ok (.aload_n 0, 1) := by decide +kernel
theorem dX0_init_39 : decode cX0_init 39 = .ok (.bipush 40, 2) := by decide +kernel
theorem dX0_init_41 : decode cX0_init 41 = .ok (.newarray .boolean, 2) := by decide +kernel
theorem dX0_init_43 : decode cX0_init 43 = .ok (.putfield 27, 3) := by decide +kernel
theorem dX0_init_46 : decode cX0_init 46 = .ok (.return_, 1) := by decide +kernel
theorem dX10_hasRoom_0 : decode cX10_hasRoom 0 = .ok (.aload_n 0, 1) := by decide +kernel
theorem dX10_hasRoom_1 : decode cX10_hasRoom 1 = .ok (.getfield 15, 3) := by decide +kernel
theorem dX10_hasRoom_4 : decode cX10_hasRoom 4 = .ok (.iload_n 1, 1) := by decide +kernel
theorem dX10_hasRoom_5 : decode cX10_hasRoom 5 = .ok (.iadd, 1) := by decide +kernel
theorem dX10_hasRoom_6 : decode cX10_hasRoom 6 = .ok (.sipush 200, 3) := by decide +kernel
theorem dX10_hasRoom_9 : decode cX10_hasRoom 9 = .ok (.if_icmp .gt 7, 3) := by decide +kernel
theorem dX10_hasRoom_12 : decode cX10_hasRoom 12 = .ok (.iconst 1, 1) := by decide +kernel
theorem dX10_hasRoom_13 : decode cX10_hasRoom 13 = .ok (.goto 4, 3) := by decide +kernel
theorem dX10_hasRoom_17 : decode cX10_hasRoom 17 = .ok (.ireturn, 1) := by decide +kernel
theorem dX10_init_0 : decode cX10_init 0 = .ok (.aload_n 0, 1) := by decide +kernel
theorem dX10_init_1 : decode cX10_init 1 = .ok (.invokespecial 3, 3) := by decide +kernel
theorem dX10_init_4 : decode cX10_init 4 = .ok (.aload_n 0, 1) := by decide +kernel
theorem dX10_init_5 : decode cX10_init 5 = .ok (.sipush 200, 3) := by decide +kernel
theorem dX10_init_8 : decode cX10_init 8 = .ok (.newarray .int, 2) := by decide +kernel
theorem dX10_init_10 : decode cX10_init 10 = .ok (.putfield 9, 3) := by decide +kernel
theorem dX10_init_13 : decode cX10_init 13 = .ok (.aload_n 0, 1) := by decide +kernel
theorem dX10_init_14 : decode cX10_init 14 = .ok (.iconst 0, 1) := by decide +kernel
theorem dX10_init_15 : decode cX10_init 15 = .ok (.putfield 15, 3) := by decide +kernel
theorem dX10_init_18 : decode cX10_init 18 = .ok (.return_, 1) := by decide +kernel
theorem dX10_put_0 : decode cX10_put 0 = .ok (.bipush 24, 2) := by decide +kernel
theorem dX10_put_2 : decode cX10_put 2 = .ok (.istore_n 2, 1) := by decide +kernel
theorem dX10_put_3 : decode cX10_put 3 = .ok (.iload_n 2, 1) := by decide +kernel
theorem dX10_put_4 : decode cX10_put 4 = .ok (.ifCond .lt 45, 3) := by decide +kernel
theorem dX10_put_7 : decode cX10_put 7 = .ok (.aload_n 0, 1) := by decide +kernel
theorem dX10_put_8 : decode cX10_put 8 = .ok (.getfield 15, 3) := by decide +kernel
theorem dX10_put_11 : decode cX10_put 11 = .ok (.sipush 200, 3) := by decide +kernel
theorem dX10_put_14 : decode cX10_put 14 = .ok (.if_icmp .ge 35, 3) := by decide +kernel
theorem dX10_put_17 : decode cX10_put 17 = .ok (.aload_n 0, 1) := by decide +kernel
theorem dX10_put_18 : decode cX10_put 18 = .ok (.getfield 9, 3) := by decide +kernel
theorem dX10_put_21 : decode cX10_put 21 = .ok (.aload_n 0, 1) := by decide +kernel
theorem dX10_put_22 : decode cX10_put 22 = .ok (.getfield 15, 3) := by decide +kernel
theorem dX10_put_25 : decode cX10_put 25 = .ok (.iload_n 1, 1) := by decide +kernel
theorem dX10_put_26 : decode cX10_put 26 = .ok (.iload_n 2, 1) := by decide +kernel
theorem dX10_put_27 : decode cX10_put 27 = .ok (.iushr, 1) := by decide +kernel
theorem dX10_put_28 : decode cX10_put 28 = .ok (.sipush 255, 3) := by decide +kernel
theorem dX10_put_31 : decode cX10_put 31 = .ok (.iand, 1) := by decide +kernel
theorem dX10_put_32 : decode cX10_put 32 = .ok (.iastore, 1) := by decide +kernel
theorem dX10_put_33 : decode cX10_put 33 = .ok (.aload_n 0, 1) := by decide +kernel
theorem dX10_put_34 : decode cX10_put 34 = .ok (.dup, 1) := by decide +kernel
theorem dX10_put_35 : decode cX10_put 35 = .ok (.getfield 15, 3) := by decide +kernel
theorem dX10_put_38 : decode cX10_put 38 = .ok (.iconst 1, 1) := by decide +kernel
theorem dX10_put_39 : decode cX10_put 39 = .ok (.iadd, 1) := by decide +kernel
theorem dX10_put_40 : decode cX10_put 40 = .ok (.putfield 15, 3) := by decide +kernel
theorem dX10_put_43 : decode cX10_put 43 = .ok (.iinc 2 (-8), 3) := by decide +kernel
theorem dX10_put_46 : decode cX10_put 46 = .ok (.goto (-43), 3) := by decide +kernel
theorem dX10_put_49 : decode cX10_put 49 = .ok (.return_, 1) := by decide +kernel
theorem dX11_areDeeds_0 : decode cX11_areDeeds 0 = .ok (.iload_n 1, 1) := by decide +kernel
theorem dX11_areDeeds_1 : decode cX11_areDeeds 1 = .ok (.aload_n 0, 1) := by decide +kernel
theorem dX11_areDeeds_2 : decode cX11_areDeeds 2 = .ok (.invokevirtual 316, 3) := by decide +kernel
theorem dX11_areDeeds_5 : decode cX11_areDeeds 5 = .ok (.iconst (-1), 1) := by decide +kernel
theorem dX11_areDeeds_6 : decode cX11_areDeeds 6 = .ok (.ixor, 1) := by decide +kernel
theorem dX11_areDeeds_7 : decode cX11_areDeeds 7 = .ok (.iand, 1) := by decide +kernel
theorem dX11_areDeeds_8 : decode cX11_areDeeds 8 = .ok (.ifCond .ne 7, 3) := by decide +kernel
theorem dX11_areDeeds_11 : decode cX11_areDeeds 11 = .ok (.iconst 1, 1) := by decide +kernel
theorem dX11_areDeeds_12 : decode cX11_areDeeds 12 = .ok (.goto 4, 3) := by decide +kernel
theorem dX11_areDeeds_15 : decode cX11_areDeeds 15 = .ok (.iconst 0, 1) := by decide +kernel
theorem dX11_areDeeds_16 : decode cX11_areDeeds 16 = .ok (.ireturn, 1) := by decide +kernel
theorem dX11_back_0 : decode cX11_back 0 = .ok (.aload_n 0, 1) := by decide +kernel
theorem dX11_back_1 : decode cX11_back 1 = .ok (.getfield 53, 3) := by decide +kernel
theorem dX11_back_4 : decode cX11_back 4 = .ok (.iload_n 1, 1) := by decide +kernel
theorem dX11_back_5 : decode cX11_back 5 = .ok (.invokevirtual 177, 3) := by decide +kernel
theorem dX11_back_8 : decode cX11_back 8 = .ok (.istore_n 2, 1) := by decide +kernel
theorem dX11_back_9 : decode cX11_back 9 = .ok (.aload_n 0, 1) := by decide +kernel
theorem dX11_back_10 : decode cX11_back 10 = .ok (.iload_n 1, 1) := by decide +kernel
theorem dX11_back_11 : decode cX11_back 11 = .ok (.invokevirtual 180, 3) := by decide +kernel
theorem dX11_back_14 : decode cX11_back 14 = .ok (.ifCond .eq 8, 3) := by decide +kernel
theorem dX11_back_22 : decode cX11_back 22 = .ok (.iconst (-1), 1) := by decide +kernel
theorem dX11_back_23 : decode cX11_back 23 = .ok (.ireturn, 1) := by decide +kernel
theorem dX11_blank_0 : decode cX11_blank 0 = .ok (.iload_n 1, 1) := by decide +kernel
theorem dX11_blank_1 : decode cX11_blank 1 = .ok (.iconst 1, 1) := by decide +kernel
theorem dX11_blank_2 : decode cX11_blank 2 = .ok (.if_icmp .lt 29, 3) := by decide +kernel
theorem dX11_blank_5 : decode cX11_blank 5 = .ok (.iload_n 1, 1) := by decide +kernel
theorem dX11_blank_6 : decode cX11_blank 6 = .ok (.bipush 40, 2) := by decide +kernel
theorem dX11_blank_8 : decode cX11_blank 8 = .ok (.if_icmp .gt 23, 3) := by decide +kernel
theorem dX11_blank_11 : decode cX11_blank 11 = .ok (.aload_n 0, 1) := by decide +kernel
theorem dX11_blank_12 : decode cX11_blank 12 = .ok (.getfield 23, 3) := by decide +kernel
theorem dX11_blank_15 : decode cX11_blank 15 = .ok (.bipush 8, 2) := by decide +kernel
theorem dX11_blank_17 : decode cX11_blank 17 = .ok (.if_icmp .ge 14, 3) := by decide +kernel
theorem dX11_blank_20 : decode cX11_blank 20 = .ok (.iload_n 1, 1) := by decide +kernel
theorem dX11_blank_21 : decode cX11_blank 21 = .ok (.aload_n 0, 1) := by decide +kernel
theorem dX11_blank_22 : decode cX11_blank 22 = .ok (.getfield 10, 3) := by decide +kernel
theorem dX11_blank_25 : decode cX11_blank 25 = .ok (.getfield 112, 3) := by decide +kernel
theorem dX11_blank_28 : decode cX11_blank 28 = .ok (.if_icmp .le 5, 3) := by decide +kernel
theorem dX11_blank_31 : decode cX11_blank 31 = .ok (.iconst (-1), 1) := by decide +kernel
theorem dX11_blank_32 : decode cX11_blank 32 = .ok (.ireturn, 1) := by decide +kernel
theorem dX11_book_0 : decode cX11_book 0 = .ok (.aload_n 0, 1) := by decide +kernel
theorem dX11_book_1 : decode cX11_book 1 = .ok (.getfield 53, 3) := by decide +kernel
theorem dX11_book_4 : decode cX11_book 4 = .ok (.iload_n 1, 1) := by decide +kernel
theorem dX11_book_5 : decode cX11_book 5 = .ok (.iload_n 2, 1) := by decide +kernel
theorem dX11_book_6 : decode cX11_book 6 = .ok (.invokevirtual 197, 3) := by decide +kernel
theorem dX11_book_9 : decode cX11_book 9 = .ok (.ireturn, 1) := by decide +kernel
theorem dX11_bound_0 : decode cX11_bound 0 = .ok (.aload_n 0, 1) := by decide +kernel
theorem dX11_bound_1 : decode cX11_bound 1 = .ok (.iload_n 1, 1) := by decide +kernel
theorem dX11_bound_2 : decode cX11_bound 2 = .ok (.invokevirtual 252, 3) := by decide +kernel
theorem dX11_bound_5 : decode cX11_bound 5 = .ok (.istore_n 2, 1) := by decide +kernel
theorem dX11_bound_6 : decode cX11_bound 6 = .ok (.iload_n 2, 1) := by decide +kernel
theorem dX11_bound_7 : decode cX11_bound 7 = .ok (.ifCond .eq 5, 3) := by decide +kernel
theorem dX11_bound_10 : decode cX11_bound 10 = .ok (.iload_n 2, 1) := by decide +kernel
theorem dX11_bound_11 : decode cX11_bound 11 = .ok (.ireturn, 1) := by decide +kernel
theorem dX11_chain_0 : decode cX11_chain 0 = .ok (.aload_n 0, 1) := by decide +kernel
theorem dX11_chain_1 : decode cX11_chain 1 = .ok (.iload_n 1, 1) := by decide +kernel
theorem dX11_chain_2 : decode cX11_chain 2 = .ok (.invokevirtual 180, 3) := by decide +kernel
theorem dX11_chain_5 : decode cX11_chain 5 = .ok (.ifCond .eq 8, 3) := by decide +kernel
theorem dX11_chain_13 : decode cX11_chain 13 = .ok (.iconst (-1), 1) := by decide +kernel
theorem dX11_chain_14 : decode cX11_chain 14 = .ok (.ireturn, 1) := by decide +kernel
theorem dX11_cheapest_0 : decode cX11_cheapest 0 = .ok (.aload_n 0, 1) := by decide +kernel
theorem dX11_cheapest_1 : decode cX11_cheapest 1 = .ok (.iload_n 1, 1) := by decide +kernel
theorem dX11_cheapest_2 : decode cX11_cheapest 2 = .ok (.invokevirtual 180, 3) := by decide +kernel
theorem dX11_cheapest_5 : decode cX11_cheapest 5 = .ok (.ifCond .eq 18, 3) := by decide +kernel
theorem dX11_cheapest_23 : decode cX11_cheapest 23 = .ok (.iconst (-1), 1) := by decide +kernel
theorem dX11_cheapest_24 : decode cX11_cheapest 24 = .ok (.ireturn, 1) := by decide +kernel
theorem dX11_check_0 : decode cX11_check 0 = .ok (.aload_n 0, 1) := by decide +kernel
theorem dX11_check_1 : decode cX11_check 1 = .ok (.iload_n 1, 1) := by decide +kernel
theorem dX11_check_2 : decode cX11_check 2 = .ok (.invokevirtual 180, 3) := by decide +kernel
theorem dX11_check_5 : decode cX11_check 5 = .ok (.ifCond .eq 20, 3) := by decide +kernel
theorem dX11_check_25 : decode cX11_check 25 = .ok (.bipush (-2), 2) := by decide +kernel
theorem dX11_check_27 : decode cX11_check 27 = .ok (.ireturn, 1) := by decide +kernel
theorem dX11_count_0 : decode cX11_count 0 = .ok (.iload_n 1, 1) := by decide +kernel
theorem dX11_count_1 : decode cX11_count 1 = .ok (.bipush 10, 2) := by decide +kernel
theorem dX11_count_3 : decode cX11_count 3 = .ok (.if_icmp .lt 40, 3) := by decide +kernel
theorem dX11_count_6 : decode cX11_count 6 = .ok (.iload_n 1, 1) := by decide +kernel
theorem dX11_count_7 : decode cX11_count 7 = .ok (.bipush 18, 2) := by decide +kernel
theorem dX11_count_9 : decode cX11_count 9 = .ok (.if_icmp .ge 34, 3) := by decide +kernel
theorem dX11_count_12 : decode cX11_count 12 = .ok (.aload_n 0, 1) := by decide +kernel
theorem dX11_count_13 : decode cX11_count 13 = .ok (.iload_n 1, 1) := by decide +kernel
theorem dX11_count_14 : decode cX11_count 14 = .ok (.bipush 10, 2) := by decide +kernel
theorem dX11_count_16 : decode cX11_count 16 = .ok (.isub, 1) := by decide +kernel
theorem dX11_count_17 : decode cX11_count 17 = .ok (.invokevirtual 180, 3) := by decide +kernel
theorem dX11_count_20 : decode cX11_count 20 = .ok (.ifCond .eq 21, 3) := by decide +kernel
theorem dX11_count_41 : decode cX11_count 41 = .ok (.iconst (-1), 1) := by decide +kernel
theorem dX11_count_42 : decode cX11_count 42 = .ok (.ireturn, 1) := by decide +kernel
theorem dX11_count_43 : decode cX11_count 43 = .ok (.iload_n 1, 1) := by decide +kernel
theorem dX11_count_44 : decode cX11_count 44 = .ok (.bipush 20, 2) := by decide +kernel
theorem dX11_count_46 : decode cX11_count 46 = .ok (.if_icmp .lt 22, 3) := by decide +kernel
theorem dX11_count_49 : decode cX11_count 49 = .ok (.iload_n 1, 1) := by decide +kernel
theorem dX11_count_50 : decode cX11_count 50 = .ok (.bipush 28, 2) := by decide +kernel
theorem dX11_count_52 : decode cX11_count 52 = .ok (.if_icmp .ge 16, 3) := by decide +kernel
theorem dX11_count_55 : decode cX11_count 55 = .ok (.aload_n 0, 1) := by decide +kernel
theorem dX11_count_56 : decode cX11_count 56 = .ok (.getfield 29, 3) := by decide +kernel
theorem dX11_count_59 : decode cX11_count 59 = .ok (.iload_n 1, 1) := by decide +kernel
theorem dX11_count_60 : decode cX11_count 60 = .ok (.bipush 20, 2) := by decide +kernel
theorem dX11_count_62 : decode cX11_count 62 = .ok (.isub, 1) := by decide +kernel
theorem dX11_count_63 : decode cX11_count 63 = .ok (.aaload, 1) := by decide +kernel
theorem dX11_count_64 : decode cX11_count 64 = .ok (.getfield 171, 3) := by decide +kernel
theorem dX11_count_67 : decode cX11_count 67 = .ok (.ireturn, 1) := by decide +kernel
theorem dX11_count_68 : decode cX11_count 68 = .ok (.iload_n 1, 1) := by decide +kernel
theorem dX11_count_69 : decode cX11_count 69 = .ok (.tableswitch 99 0 7 #[47, 52, 57, 65, 73, 78, 86, 91], 47) := by decide +kernel
theorem dX11_count_116 : decode cX11_count 116 = .ok (.aload_n 0, 1) := by decide +kernel
theorem dX11_count_117 : decode cX11_count 117 = .ok (.getfield 23, 3) := by decide +kernel
theorem dX11_count_120 : decode cX11_count 120 = .ok (.ireturn, 1) := by decide +kernel
theorem dX11_count_121 : decode cX11_count 121 = .ok (.aload_n 0, 1) := by decide +kernel
theorem dX11_count_122 : decode cX11_count 122 = .ok (.invokevirtual 316, 3) := by decide +kernel
theorem dX11_count_125 : decode cX11_count 125 = .ok (.ireturn, 1) := by decide +kernel
theorem dX11_count_126 : decode cX11_count 126 = .ok (.aload_n 0, 1) := by decide +kernel
theorem dX11_count_127 : decode cX11_count 127 = .ok (.getfield 39, 3) := by decide +kernel
theorem dX11_count_130 : decode cX11_count 130 = .ok (.getfield 320, 3) := by decide +kernel
theorem dX11_count_133 : decode cX11_count 133 = .ok (.ireturn, 1) := by decide +kernel
theorem dX11_count_134 : decode cX11_count 134 = .ok (.aload_n 0, 1) := by decide +kernel
theorem dX11_count_135 : decode cX11_count 135 = .ok (.getfield 10, 3) := by decide +kernel
theorem dX11_count_138 : decode cX11_count 138 = .ok (.getfield 112, 3) := by decide +kernel
theorem dX11_count_141 : decode cX11_count 141 = .ok (.ireturn, 1) := by decide +kernel
theorem dX11_count_142 : decode cX11_count 142 = .ok (.aload_n 0, 1) := by decide +kernel
theorem dX11_count_143 : decode cX11_count 143 = .ok (.getfield 57, 3) := by decide +kernel
theorem dX11_count_146 : decode cX11_count 146 = .ok (.ireturn, 1) := by decide +kernel
theorem dX11_count_147 : decode cX11_count 147 = .ok (.aload_n 0, 1) := by decide +kernel
theorem dX11_count_148 : decode cX11_count 148 = .ok (.getfield 53, 3) := by decide +kernel
theorem dX11_count_151 : decode cX11_count 151 = .ok (.getfield 323, 3) := by decide +kernel
theorem dX11_count_154 : decode cX11_count 154 = .ok (.ireturn, 1) := by decide +kernel
theorem dX11_count_155 : decode cX11_count 155 = .ok (.aload_n 0, 1) := by decide +kernel
theorem dX11_count_156 : decode cX11_count 156 = .ok (.getfield 60, 3) := by decide +kernel
theorem dX11_count_159 : decode cX11_count 159 = .ok (.ireturn, 1) := by decide +kernel
theorem dX11_count_160 : decode cX11_count 160 = .ok (.aload_n 0, 1) := by decide +kernel
theorem dX11_count_161 : decode cX11_count 161 = .ok (.getfield 53, 3) := by decide +kernel
theorem dX11_count_164 : decode cX11_count 164 = .ok (.invokevirtual 324, 3) := by decide +kernel
theorem dX11_count_167 : decode cX11_count 167 = .ok (.ireturn, 1) := by decide +kernel
theorem dX11_count_168 : decode cX11_count 168 = .ok (.iconst (-1), 1) := by decide +kernel
theorem dX11_count_169 : decode cX11_count 169 = .ok (.ireturn, 1) := by decide +kernel
theorem dX11_day_0 : decode cX11_day 0 = .ok (.iload_n 1, 1) := by decide +kernel
theorem dX11_day_1 : decode cX11_day 1 = .ok (.aload_n 0, 1) := by decide +kernel
theorem dX11_day_2 : decode cX11_day 2 = .ok (.getfield 57, 3) := by decide +kernel
theorem dX11_day_5 : decode cX11_day 5 = .ok (.if_icmp .lt 10, 3) := by decide +kernel
theorem dX11_day_8 : decode cX11_day 8 = .ok (.iload_n 1, 1) := by decide +kernel
theorem dX11_day_9 : decode cX11_day 9 = .ok (.sipush 1000, 3) := by decide +kernel
theorem dX11_day_12 : decode cX11_day 12 = .ok (.if_icmp .lt 5, 3) := by decide +kernel
theorem dX11_day_15 : decode cX11_day 15 = .ok (.iconst 0, 1) := by decide +kernel
theorem dX11_day_16 : decode cX11_day 16 = .ok (.ireturn, 1) := by decide +kernel
theorem dX11_day_17 : decode cX11_day 17 = .ok (.aload_n 0, 1) := by decide +kernel
theorem dX11_day_18 : decode cX11_day 18 = .ok (.iload_n 1, 1) := by decide +kernel
theorem dX11_day_19 : decode cX11_day 19 = .ok (.putfield 57, 3) := by decide +kernel
theorem dX11_day_22 : decode cX11_day 22 = .ok (.iconst 1, 1) := by decide +kernel
theorem dX11_day_23 : decode cX11_day 23 = .ok (.ireturn, 1) := by decide +kernel
theorem dX11_dayEnd_0 : decode cX11_dayEnd 0 = .ok (.aload_n 0, 1) := by decide +kernel
theorem dX11_dayEnd_1 : decode cX11_dayEnd 1 = .ok (.iload_n 1, 1) := by decide +kernel
theorem dX11_dayEnd_2 : decode cX11_dayEnd 2 = .ok (.invokevirtual 235, 3) := by decide +kernel
theorem dX11_dayEnd_5 : decode cX11_dayEnd 5 = .ok (.ifCond .eq 7, 3) := by decide +kernel
theorem dX11_dayEnd_8 : decode cX11_dayEnd 8 = .ok (.iload_n 1, 1) := by decide +kernel
theorem dX11_dayEnd_9 : decode cX11_dayEnd 9 = .ok (.ifCond .ne 5, 3) := by decide +kernel
theorem dX11_dayEnd_12 : decode cX11_dayEnd 12 = .ok (.iconst (-1), 1) := by decide +kernel
theorem dX11_dayEnd_13 : decode cX11_dayEnd 13 = .ok (.ireturn, 1) := by decide +kernel
theorem dX11_deed_0 : decode cX11_deed 0 = .ok (.iload_n 1, 1) := by decide +kernel
theorem dX11_deed_1 : decode cX11_deed 1 = .ok (.ifCond .lt 31, 3) := by decide +kernel
theorem dX11_deed_4 : decode cX11_deed 4 = .ok (.iload_n 1, 1) := by decide +kernel
theorem dX11_deed_5 : decode cX11_deed 5 = .ok (.bipush 8, 2) := by decide +kernel
theorem dX11_deed_7 : decode cX11_deed 7 = .ok (.if_icmp .ge 25, 3) := by decide +kernel
theorem dX11_deed_10 : decode cX11_deed 10 = .ok (.iload_n 2, 1) := by decide +kernel
theorem dX11_deed_11 : decode cX11_deed 11 = .ok (.iconst 1, 1) := by decide +kernel
theorem dX11_deed_12 : decode cX11_deed 12 = .ok (.if_icmp .lt 20, 3) := by decide +kernel
theorem dX11_deed_15 : decode cX11_deed 15 = .ok (.iload_n 2, 1) := by decide +kernel
theorem dX11_deed_16 : decode cX11_deed 16 = .ok (.bipush 16, 2) := by decide +kernel
theorem dX11_deed_18 : decode cX11_deed 18 = .ok (.if_icmp .gt 14, 3) := by decide +kernel
theorem dX11_deed_21 : decode cX11_deed 21 = .ok (.iload_n 2, 1) := by decide +kernel
theorem dX11_deed_22 : decode cX11_deed 22 = .ok (.aload_n 0, 1) := by decide +kernel
theorem dX11_deed_23 : decode cX11_deed 23 = .ok (.getfield 10, 3) := by decide +kernel
theorem dX11_deed_26 : decode cX11_deed 26 = .ok (.getfield 112, 3) := by decide +kernel
theorem dX11_deed_29 : decode cX11_deed 29 = .ok (.if_icmp .le 5, 3) := by decide +kernel
theorem dX11_deed_32 : decode cX11_deed 32 = .ok (.iconst (-1), 1) := by decide +kernel
theorem dX11_deed_33 : decode cX11_deed 33 = .ok (.ireturn, 1) := by decide +kernel
theorem dX11_done_0 : decode cX11_done 0 = .ok (.aload_n 0, 1) := by decide +kernel
theorem dX11_done_1 : decode cX11_done 1 = .ok (.iload_n 1, 1) := by decide +kernel
theorem dX11_done_2 : decode cX11_done 2 = .ok (.invokevirtual 180, 3) := by decide +kernel
theorem dX11_done_5 : decode cX11_done 5 = .ok (.ifCond .eq 18, 3) := by decide +kernel
theorem dX11_done_23 : decode cX11_done 23 = .ok (.iconst (-1), 1) := by decide +kernel
theorem dX11_done_24 : decode cX11_done 24 = .ok (.ireturn, 1) := by decide +kernel
theorem dX11_draw_0 : decode cX11_draw 0 = .ok (.aload_n 0, 1) := by decide +kernel
theorem dX11_draw_1 : decode cX11_draw 1 = .ok (.iload_n 1, 1) := by decide +kernel
theorem dX11_draw_2 : decode cX11_draw 2 = .ok (.invokevirtual 180, 3) := by decide +kernel
theorem dX11_draw_5 : decode cX11_draw 5 = .ok (.ifCond .eq 14, 3) := by decide +kernel
theorem dX11_draw_19 : decode cX11_draw 19 = .ok (.iconst (-1), 1) := by decide +kernel
theorem dX11_draw_20 : decode cX11_draw 20 = .ok (.ireturn, 1) := by decide +kernel
theorem dX11_even_0 : decode cX11_even 0 = .ok (.aload_n 0, 1) := by decide +kernel
theorem dX11_even_1 : decode cX11_even 1 = .ok (.iload_n 1, 1) := by decide +kernel
theorem dX11_even_2 : decode cX11_even 2 = .ok (.invokevirtual 180, 3) := by decide +kernel
theorem dX11_even_5 : decode cX11_even 5 = .ok (.ifCond .eq 18, 3) := by decide +kernel
theorem dX11_even_23 : decode cX11_even 23 = .ok (.ldc2_w 203, 3) := by decide +kernel
theorem dX11_even_26 : decode cX11_even 26 = .ok (.lreturn, 1) := by decide +kernel
theorem dX11_family_0 : decode cX11_family 0 = .ok (.aload_n 0, 1) := by decide +kernel
theorem dX11_family_1 : decode cX11_family 1 = .ok (.iload_n 1, 1) := by decide +kernel
theorem dX11_family_2 : decode cX11_family 2 = .ok (.invokevirtual 180, 3) := by decide +kernel
theorem dX11_family_5 : decode cX11_family 5 = .ok (.ifCond .eq 18, 3) := by decide +kernel
theorem dX11_family_23 : decode cX11_family 23 = .ok (.iconst (-1), 1) := by decide +kernel
theorem dX11_family_24 : decode cX11_family 24 = .ok (.ireturn, 1) := by decide +kernel
theorem dX11_feed_0 : decode cX11_feed 0 = .ok (.aload_n 0, 1) := by decide +kernel
theorem dX11_feed_1 : decode cX11_feed 1 = .ok (.getfield 10, 3) := by decide +kernel
theorem dX11_feed_4 : decode cX11_feed 4 = .ok (.bipush 20, 2) := by decide +kernel
theorem dX11_feed_6 : decode cX11_feed 6 = .ok (.invokevirtual 105, 3) := by decide +kernel
theorem dX11_feed_9 : decode cX11_feed 9 = .ok (.ifCond .ne 5, 3) := by decide +kernel
theorem dX11_feed_14 : decode cX11_feed 14 = .ok (.aload_n 0, 1) := by decide +kernel
theorem dX11_feed_15 : decode cX11_feed 15 = .ok (.getfield 10, 3) := by decide +kernel
theorem dX11_feed_18 : decode cX11_feed 18 = .ok (.iload_n 1, 1) := by decide +kernel
theorem dX11_feed_19 : decode cX11_feed 19 = .ok (.invokevirtual 109, 3) := by decide +kernel
theorem dX11_feed_22 : decode cX11_feed 22 = .ok (.aload_n 0, 1) := by decide +kernel
theorem dX11_feed_23 : decode cX11_feed 23 = .ok (.getfield 10, 3) := by decide +kernel
theorem dX11_feed_26 : decode cX11_feed 26 = .ok (.iload_n 2, 1) := by decide +kernel
theorem dX11_feed_27 : decode cX11_feed 27 = .ok (.invokevirtual 109, 3) := by decide +kernel
theorem dX11_feed_30 : decode cX11_feed 30 = .ok (.aload_n 0, 1) := by decide +kernel
theorem dX11_feed_31 : decode cX11_feed 31 = .ok (.getfield 10, 3) := by decide +kernel
theorem dX11_feed_34 : decode cX11_feed 34 = .ok (.iload_n 3, 1) := by decide +kernel
theorem dX11_feed_35 : decode cX11_feed 35 = .ok (.invokevirtual 109, 3) := by decide +kernel
theorem dX11_feed_38 : decode cX11_feed 38 = .ok (.aload_n 0, 1) := by decide +kernel
theorem dX11_feed_39 : decode cX11_feed 39 = .ok (.getfield 10, 3) := by decide +kernel
theorem dX11_feed_42 : decode cX11_feed 42 = .ok (.iload 4, 2) := by decide +kernel
theorem dX11_feed_44 : decode cX11_feed 44 = .ok (.invokevirtual 109, 3) := by decide +kernel
theorem dX11_feed_47 : decode cX11_feed 47 = .ok (.aload_n 0, 1) := by decide +kernel
theorem dX11_feed_48 : decode cX11_feed 48 = .ok (.getfield 10, 3) := by decide +kernel
theorem dX11_feed_51 : decode cX11_feed 51 = .ok (.iload 5, 2) := by decide +kernel
theorem dX11_feed_53 : decode cX11_feed 53 = .ok (.invokevirtual 109, 3) := by decide +kernel
theorem dX11_feed_56 : decode cX11_feed 56 = .ok (.aload_n 0, 1) := by decide +kernel
theorem dX11_feed_57 : decode cX11_feed 57 = .ok (.getfield 10, 3) := by decide +kernel
theorem dX11_feed_60 : decode cX11_feed 60 = .ok (.getfield 112, 3) := by decide +kernel
theorem dX11_feed_63 : decode cX11_feed 63 = .ok (.ireturn, 1) := by decide +kernel
theorem dX11_forged_0 : decode cX11_forged 0 = .ok (.aload_n 0, 1) := by decide +kernel
theorem dX11_forged_1 : decode cX11_forged 1 = .ok (.iload_n 1, 1) := by decide +kernel
theorem dX11_forged_2 : decode cX11_forged 2 = .ok (.invokevirtual 200, 3) := by decide +kernel
theorem dX11_forged_5 : decode cX11_forged 5 = .ok (.ifCond .ne 5, 3) := by decide +kernel
theorem dX11_forged_8 : decode cX11_forged 8 = .ok (.iconst (-1), 1) := by decide +kernel
theorem dX11_forged_9 : decode cX11_forged 9 = .ok (.ireturn, 1) := by decide +kernel
theorem dX11_hidden_0 : decode cX11_hidden 0 = .ok (.iload_n 1, 1) := by decide +kernel
theorem dX11_hidden_1 : decode cX11_hidden 1 = .ok (.invokestatic 230, 3) := by decide +kernel
theorem dX11_hidden_4 : decode cX11_hidden 4 = .ok (.istore_n 3, 1) := by decide +kernel
theorem dX11_hidden_5 : decode cX11_hidden 5 = .ok (.aload_n 0, 1) := by decide +kernel
theorem dX11_hidden_6 : decode cX11_hidden 6 = .ok (.iload_n 1, 1) := by decide +kernel
theorem dX11_hidden_7 : decode cX11_hidden 7 = .ok (.invokevirtual 235, 3) := by decide +kernel
theorem dX11_hidden_10 : decode cX11_hidden 10 = .ok (.ifCond .eq 18, 3) := by decide +kernel
theorem dX11_hidden_13 : decode cX11_hidden 13 = .ok (.iload_n 3, 1) := by decide +kernel
theorem dX11_hidden_14 : decode cX11_hidden 14 = .ok (.iconst 2, 1) := by decide +kernel
theorem dX11_hidden_15 : decode cX11_hidden 15 = .ok (.if_icmp .lt 13, 3) := by decide +kernel
theorem dX11_hidden_28 : decode cX11_hidden 28 = .ok (.iconst (-1), 1) := by decide +kernel
theorem dX11_hidden_29 : decode cX11_hidden 29 = .ok (.ireturn, 1) := by decide +kernel
theorem dX11_init_0 : decode cX11_init 0 = .ok (.aload_n 0, 1) := by decide +kernel
theorem dX11_init_1 : decode cX11_init 1 = .ok (.invokespecial 1, 3) := by decide +kernel
theorem dX11_init_4 : decode cX11_init 4 = .ok (.aload_n 0, 1) := by decide +kernel
theorem dX11_init_5 : decode cX11_init 5 = .ok (.new 7, 3) := by decide +kernel
theorem dX11_init_8 : decode cX11_init 8 = .ok (.dup, 1) := by decide +kernel
theorem dX11_init_9 : decode cX11_init 9 = .ok (.invokespecial 9, 3) := by decide +kernel
theorem dX11_init_12 : decode cX11_init 12 = .ok (.putfield 10, 3) := by decide +kernel
theorem dX11_init_15 : decode cX11_init 15 = .ok (.aload_n 0, 1) := by decide +kernel
theorem dX11_init_16 : decode cX11_init 16 = .ok (.bipush 8, 2) := by decide +kernel
theorem dX11_init_18 : decode cX11_init 18 = .ok (.anewarray 16, 3) := by decide +kernel
theorem dX11_init_21 : decode cX11_init 21 = .ok (.putfield 18, 3) := by decide +kernel
theorem dX11_init_24 : decode cX11_init 24 = .ok (.iconst 0, 1) := by decide +kernel
theorem dX11_init_25 : decode cX11_init 25 = .ok (.istore_n 1, 1) := by decide +kernel
theorem dX11_init_26 : decode cX11_init 26 = .ok (.iload_n 1, 1) := by decide +kernel
theorem dX11_init_27 : decode cX11_init 27 = .ok (.bipush 8, 2) := by decide +kernel
theorem dX11_init_29 : decode cX11_init 29 = .ok (.if_icmp .ge 22, 3) := by decide +kernel
theorem dX11_init_32 : decode cX11_init 32 = .ok (.aload_n 0, 1) := by decide +kernel
theorem dX11_init_33 : decode cX11_init 33 = .ok (.getfield 18, 3) := by decide +kernel
theorem dX11_init_36 : decode cX11_init 36 = .ok (.iload_n 1, 1) := by decide +kernel
theorem dX11_init_37 : decode cX11_init 37 = .ok (.new 16, 3) := by decide +kernel
theorem dX11_init_40 : decode cX11_init 40 = .ok (.dup, 1) := by decide +kernel
theorem dX11_init_41 : decode cX11_init 41 = .ok (.invokespecial 22, 3) := by decide +kernel
theorem dX11_init_44 : decode cX11_init 44 = .ok (.aastore, 1) := by decide +kernel
theorem dX11_init_45 : decode cX11_init 45 = .ok (.iinc 1 1, 3) := by decide +kernel
theorem dX11_init_48 : decode cX11_init 48 = .ok (.goto (-22), 3) := by decide +kernel
theorem dX11_init_51 : decode cX11_init 51 = .ok (.aload_n 0, 1) := by decide +kernel
theorem dX11_init_52 : decode cX11_init 52 = .ok (.iconst 0, 1) := by decide +kernel
theorem dX11_init_53 : decode cX11_init 53 = .ok (.putfield 23, 3) := by decide +kernel
theorem dX11_init_56 : decode cX11_init 56 = .ok (.aload_n 0, 1) := by decide +kernel
theorem dX11_init_57 : decode cX11_init 57 = .ok (.bipush 8, 2) := by decide +kernel
theorem dX11_init_59 : decode cX11_init 59 = .ok (.anewarray 27, 3) := by decide +kernel
theorem dX11_init_62 : decode cX11_init 62 = .ok (.putfield 29, 3) := by decide +kernel
theorem dX11_init_65 : decode cX11_init 65 = .ok (.iconst 0, 1) := by decide +kernel
theorem dX11_init_66 : decode cX11_init 66 = .ok (.istore_n 1, 1) := by decide +kernel
theorem dX11_init_67 : decode cX11_init 67 = .ok (.iload_n 1, 1) := by decide +kernel
theorem dX11_init_68 : decode cX11_init 68 = .ok (.bipush 8, 2) := by decide +kernel
theorem dX11_init_70 : decode cX11_init 70 = .ok (.if_icmp .ge 24, 3) := by decide +kernel
theorem dX11_init_73 : decode cX11_init 73 = .ok (.aload_n 0, 1) := by decide +kernel
theorem dX11_init_74 : decode cX11_init 74 = .ok (.getfield 29, 3) := by decide +kernel
theorem dX11_init_77 : decode cX11_init 77 = .ok (.iload_n 1, 1) := by decide +kernel
theorem dX11_init_78 : decode cX11_init 78 = .ok (.new 27, 3) := by decide +kernel
theorem dX11_init_81 : decode cX11_init 81 = .ok (.dup, 1) := by decide +kernel
theorem dX11_init_82 : decode cX11_init 82 = .ok (.bipush 16, 2) := by decide +kernel
theorem dX11_init_84 : decode cX11_init 84 = .ok (.invokespecial 33, 3) := by decide +kernel
theorem dX11_init_87 : decode cX11_init 87 = .ok (.aastore, 1) := by decide +kernel
theorem dX11_init_88 : decode cX11_init 88 = .ok (.iinc 1 1, 3) := by decide +kernel
theorem dX11_init_91 : decode cX11_init 91 = .ok (.goto (-24), 3) := by decide +kernel
theorem dX11_init_94 : decode cX11_init 94 = .ok (.aload_n 0, 1) := by decide +kernel
theorem dX11_init_95 : decode cX11_init 95 = .ok (.new 36, 3) := by decide +kernel
theorem dX11_init_98 : decode cX11_init 98 = .ok (.dup, 1) := by decide +kernel
theorem dX11_init_99 : decode cX11_init 99 = .ok (.invokespecial 38, 3) := by decide +kernel
theorem dX11_init_102 : decode cX11_init 102 = .ok (.putfield 39, 3) := by decide +kernel
theorem dX11_init_105 : decode cX11_init 105 = .ok (.aload_n 0, 1) := by decide +kernel
theorem dX11_init_106 : decode cX11_init 106 = .ok (.new 43, 3) := by decide +kernel
theorem dX11_init_109 : decode cX11_init 109 = .ok (.dup, 1) := by decide +kernel
theorem dX11_init_110 : decode cX11_init 110 = .ok (.invokespecial 45, 3) := by decide +kernel
theorem dX11_init_113 : decode cX11_init 113 = .ok (.putfield 46, 3) := by decide +kernel
theorem dX11_init_116 : decode cX11_init 116 = .ok (.aload_n 0, 1) := by decide +kernel
theorem dX11_init_117 : decode cX11_init 117 = .ok (.new 50, 3) := by decide +kernel
theorem dX11_init_120 : decode cX11_init 120 = .ok (.dup, 1) := by decide +kernel
theorem dX11_init_121 : decode cX11_init 121 = .ok (.invokespecial 52, 3) := by decide +kernel
theorem dX11_init_124 : decode cX11_init 124 = .ok (.putfield 53, 3) := by decide +kernel
theorem dX11_init_127 : decode cX11_init 127 = .ok (.aload_n 0, 1) := by decide +kernel
theorem dX11_init_128 : decode cX11_init 128 = .ok (.iconst 0, 1) := by decide +kernel
theorem dX11_init_129 : decode cX11_init 129 = .ok (.putfield 57, 3) := by decide +kernel
theorem dX11_init_132 : decode cX11_init 132 = .ok (.aload_n 0, 1) := by decide +kernel
theorem dX11_init_133 : decode cX11_init 133 = .ok (.iconst 1, 1) := by decide +kernel
theorem dX11_init_134 : decode cX11_init 134 = .ok (.putfield 60, 3) := by decide +kernel
theorem dX11_init_137 : decode cX11_init 137 = .ok (.aload_n 0, 1) := by decide +kernel
theorem dX11_init_138 : decode cX11_init 138 = .ok (.new 63, 3) := by decide +kernel
theorem dX11_init_141 : decode cX11_init 141 = .ok (.dup, 1) := by decide +kernel
theorem dX11_init_142 : decode cX11_init 142 = .ok (.invokespecial 65, 3) := by decide +kernel
theorem dX11_init_145 : decode cX11_init 145 = .ok (.putfield 66, 3) := by decide +kernel
theorem dX11_init_148 : decode cX11_init 148 = .ok (.aload_n 0, 1) := by decide +kernel
theorem dX11_init_149 : decode cX11_init 149 = .ok (.new 70, 3) := by decide +kernel
theorem dX11_init_152 : decode cX11_init 152 = .ok (.dup, 1) := by decide +kernel
theorem dX11_init_153 : decode cX11_init 153 = .ok (.invokespecial 72, 3) := by decide +kernel
theorem dX11_init_156 : decode cX11_init 156 = .ok (.putfield 73, 3) := by decide +kernel
theorem dX11_init_159 : decode cX11_init 159 = .ok (.aload_n 0, 1) := by decide +kernel
theorem dX11_init_160 : decode cX11_init 160 = .ok (.new 77, 3) := by decide +kernel
theorem dX11_init_163 : decode cX11_init 163 = .ok (.dup, 1) := by decide +kernel
theorem dX11_init_164 : decode cX11_init 164 = .ok (.invokespecial 79, 3) := by decide +kernel
theorem dX11_init_167 : decode cX11_init 167 = .ok (.putfield 80, 3) := by decide +kernel
theorem dX11_init_170 : decode cX11_init 170 = .ok (.aload_n 0, 1) := by decide +kernel
theorem dX11_init_171 : decode cX11_init 171 = .ok (.aconst_null, 1) := by decide +kernel
theorem dX11_init_172 : decode cX11_init 172 = .ok (.putfield 84, 3) := by decide +kernel
theorem dX11_init_175 : decode cX11_init 175 = .ok (.aload_n 0, 1) := by decide +kernel
theorem dX11_init_176 : decode cX11_init 176 = .ok (.new 88, 3) := by decide +kernel
theorem dX11_init_179 : decode cX11_init 179 = .ok (.dup, 1) := by decide +kernel
theorem dX11_init_180 : decode cX11_init 180 = .ok (.invokespecial 90, 3) := by decide +kernel
theorem dX11_init_183 : decode cX11_init 183 = .ok (.putfield 91, 3) := by decide +kernel
theorem dX11_init_186 : decode cX11_init 186 = .ok (.aload_n 0, 1) := by decide +kernel
theorem dX11_init_187 : decode cX11_init 187 = .ok (.bipush 8, 2) := by decide +kernel
theorem dX11_init_189 : decode cX11_init 189 = .ok (.newarray .int, 2) := by decide +kernel
theorem dX11_init_191 : decode cX11_init 191 = .ok (.putfield 95, 3) := by decide +kernel
theorem dX11_init_194 : decode cX11_init 194 = .ok (.aload_n 0, 1) := by decide +kernel
theorem dX11_init_195 : decode cX11_init 195 = .ok (.bipush 8, 2) := by decide +kernel
theorem dX11_init_197 : decode cX11_init 197 = .ok (.newarray .int, 2) := by decide +kernel
theorem dX11_init_199 : decode cX11_init 199 = .ok (.putfield 99, 3) := by decide +kernel
theorem dX11_init_202 : decode cX11_init 202 = .ok (.aload_n 0, 1) := by decide +kernel
theorem dX11_init_203 : decode cX11_init 203 = .ok (.bipush 8, 2) := by decide +kernel
theorem dX11_init_205 : decode cX11_init 205 = .ok (.newarray .int, 2) := by decide +kernel
theorem dX11_init_207 : decode cX11_init 207 = .ok (.putfield 102, 3) := by decide +kernel
theorem dX11_init_210 : decode cX11_init 210 = .ok (.return_, 1) := by decide +kernel
theorem dX11_isBlank_0 : decode cX11_isBlank 0 = .ok (.iload_n 1, 1) := by decide +kernel
theorem dX11_isBlank_1 : decode cX11_isBlank 1 = .ok (.ifCond .lt 15, 3) := by decide +kernel
theorem dX11_isBlank_4 : decode cX11_isBlank 4 = .ok (.iload_n 1, 1) := by decide +kernel
theorem dX11_isBlank_5 : decode cX11_isBlank 5 = .ok (.aload_n 0, 1) := by decide +kernel
theorem dX11_isBlank_6 : decode cX11_isBlank 6 = .ok (.getfield 23, 3) := by decide +kernel
theorem dX11_isBlank_9 : decode cX11_isBlank 9 = .ok (.if_icmp .ge 7, 3) := by decide +kernel
theorem dX11_isBlank_16 : decode cX11_isBlank 16 = .ok (.iconst 0, 1) := by decide +kernel
theorem dX11_isBlank_17 : decode cX11_isBlank 17 = .ok (.ireturn, 1) := by decide +kernel
theorem dX11_isDeed_0 : decode cX11_isDeed 0 = .ok (.iload_n 1, 1) := by decide +kernel
theorem dX11_isDeed_1 : decode cX11_isDeed 1 = .ok (.ifCond .lt 25, 3) := by decide +kernel
theorem dX11_isDeed_4 : decode cX11_isDeed 4 = .ok (.iload_n 1, 1) := by decide +kernel
theorem dX11_isDeed_5 : decode cX11_isDeed 5 = .ok (.bipush 8, 2) := by decide +kernel
theorem dX11_isDeed_7 : decode cX11_isDeed 7 = .ok (.if_icmp .ge 19, 3) := by decide +kernel
theorem dX11_isDeed_10 : decode cX11_isDeed 10 = .ok (.aload_n 0, 1) := by decide +kernel
theorem dX11_isDeed_11 : decode cX11_isDeed 11 = .ok (.getfield 29, 3) := by decide +kernel
theorem dX11_isDeed_14 : decode cX11_isDeed 14 = .ok (.iload_n 1, 1) := by decide +kernel
theorem dX11_isDeed_15 : decode cX11_isDeed 15 = .ok (.aaload, 1) := by decide +kernel
theorem dX11_isDeed_16 : decode cX11_isDeed 16 = .ok (.getfield 171, 3) := by decide +kernel
theorem dX11_isDeed_19 : decode cX11_isDeed 19 = .ok (.ifCond .le 7, 3) := by decide +kernel
theorem dX11_isDeed_26 : decode cX11_isDeed 26 = .ok (.iconst 0, 1) := by decide +kernel
theorem dX11_isDeed_27 : decode cX11_isDeed 27 = .ok (.ireturn, 1) := by decide +kernel
theorem dX11_isPlace_0 : decode cX11_isPlace 0 = .ok (.aload_n 0, 1) := by decide +kernel
theorem dX11_isPlace_1 : decode cX11_isPlace 1 = .ok (.iload_n 1, 1) := by decide +kernel
theorem dX11_isPlace_2 : decode cX11_isPlace 2 = .ok (.invokevirtual 180, 3) := by decide +kernel
theorem dX11_isPlace_5 : decode cX11_isPlace 5 = .ok (.ifCond .eq 27, 3) := by decide +kernel
theorem dX11_isPlace_32 : decode cX11_isPlace 32 = .ok (.iconst 0, 1) := by decide +kernel
theorem dX11_isPlace_33 : decode cX11_isPlace 33 = .ok (.ireturn, 1) := by decide +kernel
theorem dX11_law_0 : decode cX11_law 0 = .ok (.iload_n 1, 1) := by decide +kernel
theorem dX11_law_1 : decode cX11_law 1 = .ok (.iconst 1, 1) := by decide +kernel
theorem dX11_law_2 : decode cX11_law 2 = .ok (.if_icmp .lt 21, 3) := by decide +kernel
theorem dX11_law_5 : decode cX11_law 5 = .ok (.iload_n 1, 1) := by decide +kernel
theorem dX11_law_6 : decode cX11_law 6 = .ok (.sipush 160, 3) := by decide +kernel
theorem dX11_law_9 : decode cX11_law 9 = .ok (.if_icmp .gt 14, 3) := by decide +kernel
theorem dX11_law_12 : decode cX11_law 12 = .ok (.iload_n 1, 1) := by decide +kernel
theorem dX11_law_13 : decode cX11_law 13 = .ok (.aload_n 0, 1) := by decide +kernel
theorem dX11_law_14 : decode cX11_law 14 = .ok (.getfield 10, 3) := by decide +kernel
theorem dX11_law_17 : decode cX11_law 17 = .ok (.getfield 112, 3) := by decide +kernel
theorem dX11_law_20 : decode cX11_law 20 = .ok (.if_icmp .le 5, 3) := by decide +kernel
theorem dX11_law_23 : decode cX11_law 23 = .ok (.iconst (-1), 1) := by decide +kernel
theorem dX11_law_24 : decode cX11_law 24 = .ok (.ireturn, 1) := by decide +kernel
theorem dX11_left_0 : decode cX11_left 0 = .ok (.aload_n 0, 1) := by decide +kernel
theorem dX11_left_1 : decode cX11_left 1 = .ok (.iload_n 1, 1) := by decide +kernel
theorem dX11_left_2 : decode cX11_left 2 = .ok (.iload_n 2, 1) := by decide +kernel
theorem dX11_left_3 : decode cX11_left 3 = .ok (.invokevirtual 143, 3) := by decide +kernel
theorem dX11_left_6 : decode cX11_left 6 = .ok (.ifCond .ne 5, 3) := by decide +kernel
theorem dX11_left_9 : decode cX11_left 9 = .ok (.iconst (-1), 1) := by decide +kernel
theorem dX11_left_10 : decode cX11_left 10 = .ok (.ireturn, 1) := by decide +kernel
theorem dX11_may_0 : decode cX11_may 0 = .ok (.aload_n 0, 1) := by decide +kernel
theorem dX11_may_1 : decode cX11_may 1 = .ok (.iload_n 1, 1) := by decide +kernel
theorem dX11_may_2 : decode cX11_may 2 = .ok (.iload_n 2, 1) := by decide +kernel
theorem dX11_may_3 : decode cX11_may 3 = .ok (.invokevirtual 143, 3) := by decide +kernel
theorem dX11_may_6 : decode cX11_may 6 = .ok (.ifCond .eq 21, 3) := by decide +kernel
theorem dX11_may_27 : decode cX11_may 27 = .ok (.iconst (-1), 1) := by decide +kernel
theorem dX11_may_28 : decode cX11_may 28 = .ok (.ireturn, 1) := by decide +kernel
theorem dX11_refuseCover_0 : decode cX11_refuseCover 0 = .ok (.iload_n 1, 1) := by decide +kernel
theorem dX11_refuseCover_1 : decode cX11_refuseCover 1 = .ok (.invokestatic 230, 3) := by decide +kernel
theorem dX11_refuseCover_4 : decode cX11_refuseCover 4 = .ok (.istore_n 2, 1) := by decide +kernel
theorem dX11_refuseCover_5 : decode cX11_refuseCover 5 = .ok (.aload_n 0, 1) := by decide +kernel
theorem dX11_refuseCover_6 : decode cX11_refuseCover 6 = .ok (.iload_n 1, 1) := by decide +kernel
theorem dX11_refuseCover_7 : decode cX11_refuseCover 7 = .ok (.invokevirtual 235, 3) := by decide +kernel
theorem dX11_refuseCover_10 : decode cX11_refuseCover 10 = .ok (.ifCond .eq 13, 3) := by decide +kernel
theorem dX11_refuseCover_13 : decode cX11_refuseCover 13 = .ok (.iload_n 2, 1) := by decide +kernel
theorem dX11_refuseCover_14 : decode cX11_refuseCover 14 = .ok (.iconst 2, 1) := by decide +kernel
theorem dX11_refuseCover_15 : decode cX11_refuseCover 15 = .ok (.if_icmp .lt 8, 3) := by decide +kernel
theorem dX11_refuseCover_23 : decode cX11_refuseCover 23 = .ok (.iconst (-1), 1) := by decide +kernel
theorem dX11_refuseCover_24 : decode cX11_refuseCover 24 = .ok (.ireturn, 1) := by decide +kernel
theorem dX11_seed_0 : decode cX11_seed 0 = .ok (.iload_n 1, 1) := by decide +kernel
theorem dX11_seed_1 : decode cX11_seed 1 = .ok (.ifCond .lt 10, 3) := by decide +kernel
theorem dX11_seed_4 : decode cX11_seed 4 = .ok (.iload_n 1, 1) := by decide +kernel
theorem dX11_seed_5 : decode cX11_seed 5 = .ok (.ldc_w 311, 3) := by decide +kernel
theorem dX11_seed_8 : decode cX11_seed 8 = .ok (.if_icmp .lt 5, 3) := by decide +kernel
theorem dX11_seed_11 : decode cX11_seed 11 = .ok (.iconst 0, 1) := by decide +kernel
theorem dX11_seed_12 : decode cX11_seed 12 = .ok (.ireturn, 1) := by decide +kernel
theorem dX11_seed_13 : decode cX11_seed 13 = .ok (.aload_n 0, 1) := by decide +kernel
theorem dX11_seed_14 : decode cX11_seed 14 = .ok (.iload_n 1, 1) := by decide +kernel
theorem dX11_seed_15 : decode cX11_seed 15 = .ok (.putfield 60, 3) := by decide +kernel
theorem dX11_seed_18 : decode cX11_seed 18 = .ok (.iconst 1, 1) := by decide +kernel
theorem dX11_seed_19 : decode cX11_seed 19 = .ok (.ireturn, 1) := by decide +kernel
theorem dX11_shortest_0 : decode cX11_shortest 0 = .ok (.iload_n 2, 1) := by decide +kernel
theorem dX11_shortest_1 : decode cX11_shortest 1 = .ok (.iconst (-1), 1) := by decide +kernel
theorem dX11_shortest_2 : decode cX11_shortest 2 = .ok (.if_icmp .ge 5, 3) := by decide +kernel
theorem dX11_shortest_5 : decode cX11_shortest 5 = .ok (.iconst (-1), 1) := by decide +kernel
theorem dX11_shortest_6 : decode cX11_shortest 6 = .ok (.ireturn, 1) := by decide +kernel
theorem dX11_shortest_7 : decode cX11_shortest 7 = .ok (.aload_n 0, 1) := by decide +kernel
theorem dX11_shortest_8 : decode cX11_shortest 8 = .ok (.iload_n 1, 1) := by decide +kernel
theorem dX11_shortest_9 : decode cX11_shortest 9 = .ok (.invokevirtual 252, 3) := by decide +kernel
theorem dX11_shortest_12 : decode cX11_shortest 12 = .ok (.istore_n 3, 1) := by decide +kernel
theorem dX11_shortest_13 : decode cX11_shortest 13 = .ok (.iload_n 3, 1) := by decide +kernel
theorem dX11_shortest_14 : decode cX11_shortest 14 = .ok (.ifCond .eq 5, 3) := by decide +kernel
theorem dX11_shortest_17 : decode cX11_shortest 17 = .ok (.iload_n 3, 1) := by decide +kernel
theorem dX11_shortest_18 : decode cX11_shortest 18 = .ok (.ireturn, 1) := by decide +kernel
theorem dX11_shortestMany_0 : decode cX11_shortestMany 0 = .ok (.aload_n 0, 1) := by decide +kernel
theorem dX11_shortestMany_1 : decode cX11_shortestMany 1 = .ok (.iload_n 1, 1) := by decide +kernel
theorem dX11_shortestMany_2 : decode cX11_shortestMany 2 = .ok (.invokevirtual 252, 3) := by decide +kernel
theorem dX11_shortestMany_5 : decode cX11_shortestMany 5 = .ok (.istore_n 2, 1) := by decide +kernel
theorem dX11_shortestMany_6 : decode cX11_shortestMany 6 = .ok (.iload_n 2, 1) := by decide +kernel
theorem dX11_shortestMany_7 : decode cX11_shortestMany 7 = .ok (.ifCond .eq 6, 3) := by decide +kernel
theorem dX11_shortestMany_10 : decode cX11_shortestMany 10 = .ok (.iload_n 2, 1) := by decide +kernel
theorem dX11_shortestMany_11 : decode cX11_shortestMany 11 = .ok (.i2l, 1) := by decide +kernel
theorem dX11_shortestMany_12 : decode cX11_shortestMany 12 = .ok (.lreturn, 1) := by decide +kernel
theorem dX11_spare_0 : decode cX11_spare 0 = .ok (.aload_n 0, 1) := by decide +kernel
theorem dX11_spare_1 : decode cX11_spare 1 = .ok (.iload_n 1, 1) := by decide +kernel
theorem dX11_spare_2 : decode cX11_spare 2 = .ok (.invokevirtual 180, 3) := by decide +kernel
theorem dX11_spare_5 : decode cX11_spare 5 = .ok (.ifCond .eq 11, 3) := by decide +kernel
theorem dX11_spare_16 : decode cX11_spare 16 = .ok (.ldc2_w 203, 3) := by decide +kernel
theorem dX11_spare_19 : decode cX11_spare 19 = .ok (.lreturn, 1) := by decide +kernel
theorem dX11_strike_0 : decode cX11_strike 0 = .ok (.aload_n 0, 1) := by decide +kernel
theorem dX11_strike_1 : decode cX11_strike 1 = .ok (.iload_n 1, 1) := by decide +kernel
theorem dX11_strike_2 : decode cX11_strike 2 = .ok (.iload_n 2, 1) := by decide +kernel
theorem dX11_strike_3 : decode cX11_strike 3 = .ok (.invokevirtual 143, 3) := by decide +kernel
theorem dX11_strike_6 : decode cX11_strike 6 = .ok (.ifCond .eq 22, 3) := by decide +kernel
theorem dX11_strike_28 : decode cX11_strike 28 = .ok (.iconst (-1), 1) := by decide +kernel
theorem dX11_strike_29 : decode cX11_strike 29 = .ok (.ireturn, 1) := by decide +kernel
theorem dX11_strokes_0 : decode cX11_strokes 0 = .ok (.aload_n 0, 1) := by decide +kernel
theorem dX11_strokes_1 : decode cX11_strokes 1 = .ok (.iload_n 1, 1) := by decide +kernel
theorem dX11_strokes_2 : decode cX11_strokes 2 = .ok (.invokevirtual 180, 3) := by decide +kernel
theorem dX11_strokes_5 : decode cX11_strokes 5 = .ok (.ifCond .eq 18, 3) := by decide +kernel
theorem dX11_strokes_23 : decode cX11_strokes 23 = .ok (.iconst (-1), 1) := by decide +kernel
theorem dX11_strokes_24 : decode cX11_strokes 24 = .ok (.ireturn, 1) := by decide +kernel
theorem dX11_toldDeeds_0 : decode cX11_toldDeeds 0 = .ok (.iconst 0, 1) := by decide +kernel
theorem dX11_toldDeeds_1 : decode cX11_toldDeeds 1 = .ok (.istore_n 1, 1) := by decide +kernel
theorem dX11_toldDeeds_2 : decode cX11_toldDeeds 2 = .ok (.iconst 0, 1) := by decide +kernel
theorem dX11_toldDeeds_3 : decode cX11_toldDeeds 3 = .ok (.istore_n 2, 1) := by decide +kernel
theorem dX11_toldDeeds_4 : decode cX11_toldDeeds 4 = .ok (.iload_n 2, 1) := by decide +kernel
theorem dX11_toldDeeds_5 : decode cX11_toldDeeds 5 = .ok (.bipush 8, 2) := by decide +kernel
theorem dX11_toldDeeds_7 : decode cX11_toldDeeds 7 = .ok (.if_icmp .ge 23, 3) := by decide +kernel
theorem dX11_toldDeeds_10 : decode cX11_toldDeeds 10 = .ok (.aload_n 0, 1) := by decide +kernel
theorem dX11_toldDeeds_11 : decode cX11_toldDeeds 11 = .ok (.iload_n 2, 1) := by decide +kernel
theorem dX11_toldDeeds_12 : decode cX11_toldDeeds 12 = .ok (.invokevirtual 200, 3) := by decide +kernel
theorem dX11_toldDeeds_15 : decode cX11_toldDeeds 15 = .ok (.ifCond .eq 9, 3) := by decide +kernel
theorem dX11_toldDeeds_24 : decode cX11_toldDeeds 24 = .ok (.iinc 2 1, 3) := by decide +kernel
theorem dX11_toldDeeds_27 : decode cX11_toldDeeds 27 = .ok (.goto (-23), 3) := by decide +kernel
theorem dX11_toldDeeds_30 : decode cX11_toldDeeds 30 = .ok (.iload_n 1, 1) := by decide +kernel
theorem dX11_toldDeeds_31 : decode cX11_toldDeeds 31 = .ok (.ireturn, 1) := by decide +kernel
theorem dX11_ways_0 : decode cX11_ways 0 = .ok (.aload_n 0, 1) := by decide +kernel
theorem dX11_ways_1 : decode cX11_ways 1 = .ok (.iload_n 1, 1) := by decide +kernel
theorem dX11_ways_2 : decode cX11_ways 2 = .ok (.invokevirtual 180, 3) := by decide +kernel
theorem dX11_ways_5 : decode cX11_ways 5 = .ok (.ifCond .eq 11, 3) := by decide +kernel
theorem dX11_ways_16 : decode cX11_ways 16 = .ok (.ldc2_w 203, 3) := by decide +kernel
theorem dX11_ways_19 : decode cX11_ways 19 = .ok (.lreturn, 1) := by decide +kernel
theorem dX11_worth_0 : decode cX11_worth 0 = .ok (.aload_n 0, 1) := by decide +kernel
theorem dX11_worth_1 : decode cX11_worth 1 = .ok (.iload_n 1, 1) := by decide +kernel
theorem dX11_worth_2 : decode cX11_worth 2 = .ok (.invokevirtual 180, 3) := by decide +kernel
theorem dX11_worth_5 : decode cX11_worth 5 = .ok (.ifCond .eq 20, 3) := by decide +kernel
theorem dX11_worth_25 : decode cX11_worth 25 = .ok (.sipush (-1000), 3) := by decide +kernel
theorem dX11_worth_28 : decode cX11_worth 28 = .ok (.ireturn, 1) := by decide +kernel
theorem dX12_areSet_0 : decode cX12_areSet 0 = .ok (.iload_n 1, 1) := by decide +kernel
theorem dX12_areSet_1 : decode cX12_areSet 1 = .ok (.iconst 0, 1) := by decide +kernel
theorem dX12_areSet_2 : decode cX12_areSet 2 = .ok (.sipush 255, 3) := by decide +kernel
theorem dX12_areSet_5 : decode cX12_areSet 5 = .ok (.invokestatic 161, 3) := by decide +kernel
theorem dX12_areSet_8 : decode cX12_areSet 8 = .ok (.ifCond .eq 18, 3) := by decide +kernel
theorem dX12_areSet_11 : decode cX12_areSet 11 = .ok (.iload_n 1, 1) := by decide +kernel
theorem dX12_areSet_12 : decode cX12_areSet 12 = .ok (.aload_n 0, 1) := by decide +kernel
theorem dX12_areSet_13 : decode cX12_areSet 13 = .ok (.getfield 155, 3) := by decide +kernel
theorem dX12_areSet_16 : decode cX12_areSet 16 = .ok (.iconst (-1), 1) := by decide +kernel
theorem dX12_areSet_17 : decode cX12_areSet 17 = .ok (.ixor, 1) := by decide +kernel
theorem dX12_areSet_18 : decode cX12_areSet 18 = .ok (.iand, 1) := by decide +kernel
theorem dX12_areSet_19 : decode cX12_areSet 19 = .ok (.ifCond .ne 7, 3) := by decide +kernel
theorem dX12_areSet_22 : decode cX12_areSet 22 = .ok (.iconst 1, 1) := by decide +kernel
theorem dX12_areSet_23 : decode cX12_areSet 23 = .ok (.goto 4, 3) := by decide +kernel
theorem dX12_areSet_26 : decode cX12_areSet 26 = .ok (.iconst 0, 1) := by decide +kernel
theorem dX12_areSet_27 : decode cX12_areSet 27 = .ok (.ireturn, 1) := by decide +kernel
theorem dX12_back_0 : decode cX12_back 0 = .ok (.aload_n 0, 1) := by decide +kernel
theorem dX12_back_1 : decode cX12_back 1 = .ok (.iload_n 1, 1) := by decide +kernel
theorem dX12_back_2 : decode cX12_back 2 = .ok (.invokevirtual 172, 3) := by decide +kernel
theorem dX12_back_5 : decode cX12_back 5 = .ok (.ifCond .ne 5, 3) := by decide +kernel
theorem dX12_back_8 : decode cX12_back 8 = .ok (.iconst (-1), 1) := by decide +kernel
theorem dX12_back_9 : decode cX12_back 9 = .ok (.ireturn, 1) := by decide +kernel
theorem dX12_bits_0 : decode cX12_bits 0 = .ok (.iconst 0, 1) := by decide +kernel
theorem dX12_bits_1 : decode cX12_bits 1 = .ok (.istore_n 1, 1) := by decide +kernel
theorem dX12_bits_2 : decode cX12_bits 2 = .ok (.iconst 0, 1) := by decide +kernel
theorem dX12_bits_3 : decode cX12_bits 3 = .ok (.istore_n 2, 1) := by decide +kernel
theorem dX12_bits_4 : decode cX12_bits 4 = .ok (.iload_n 2, 1) := by decide +kernel
theorem dX12_bits_5 : decode cX12_bits 5 = .ok (.bipush 8, 2) := by decide +kernel
theorem dX12_bits_7 : decode cX12_bits 7 = .ok (.if_icmp .ge 17, 3) := by decide +kernel
theorem dX12_bits_10 : decode cX12_bits 10 = .ok (.iload_n 1, 1) := by decide +kernel
theorem dX12_bits_11 : decode cX12_bits 11 = .ok (.iload_n 0, 1) := by decide +kernel
theorem dX12_bits_12 : decode cX12_bits 12 = .ok (.iload_n 2, 1) := by decide +kernel
theorem dX12_bits_13 : decode cX12_bits 13 = .ok (.ishr, 1) := by decide +kernel
theorem dX12_bits_14 : decode cX12_bits 14 = .ok (.iconst 1, 1) := by decide +kernel
theorem dX12_bits_15 : decode cX12_bits 15 = .ok (.iand, 1) := by decide +kernel
theorem dX12_bits_16 : decode cX12_bits 16 = .ok (.iadd, 1) := by decide +kernel
theorem dX12_bits_17 : decode cX12_bits 17 = .ok (.istore_n 1, 1) := by decide +kernel
theorem dX12_bits_18 : decode cX12_bits 18 = .ok (.iinc 2 1, 3) := by decide +kernel
theorem dX12_bits_21 : decode cX12_bits 21 = .ok (.goto (-17), 3) := by decide +kernel
theorem dX12_bits_24 : decode cX12_bits 24 = .ok (.iload_n 1, 1) := by decide +kernel
theorem dX12_bits_25 : decode cX12_bits 25 = .ok (.ireturn, 1) := by decide +kernel
theorem dX12_blank_0 : decode cX12_blank 0 = .ok (.iload_n 1, 1) := by decide +kernel
theorem dX12_blank_1 : decode cX12_blank 1 = .ok (.iconst 1, 1) := by decide +kernel
theorem dX12_blank_2 : decode cX12_blank 2 = .ok (.bipush 40, 2) := by decide +kernel
theorem dX12_blank_4 : decode cX12_blank 4 = .ok (.invokestatic 161, 3) := by decide +kernel
theorem dX12_blank_7 : decode cX12_blank 7 = .ok (.ifCond .eq 20, 3) := by decide +kernel
theorem dX12_blank_10 : decode cX12_blank 10 = .ok (.aload_n 0, 1) := by decide +kernel
theorem dX12_blank_11 : decode cX12_blank 11 = .ok (.getfield 152, 3) := by decide +kernel
theorem dX12_blank_14 : decode cX12_blank 14 = .ok (.bipush 8, 2) := by decide +kernel
theorem dX12_blank_16 : decode cX12_blank 16 = .ok (.if_icmp .eq 11, 3) := by decide +kernel
theorem dX12_blank_19 : decode cX12_blank 19 = .ok (.iload_n 1, 1) := by decide +kernel
theorem dX12_blank_20 : decode cX12_blank 20 = .ok (.aload_n 0, 1) := by decide +kernel
theorem dX12_blank_21 : decode cX12_blank 21 = .ok (.getfield 165, 3) := by decide +kernel
theorem dX12_blank_24 : decode cX12_blank 24 = .ok (.if_icmp .le 5, 3) := by decide +kernel
theorem dX12_blank_27 : decode cX12_blank 27 = .ok (.iconst (-1), 1) := by decide +kernel
theorem dX12_blank_28 : decode cX12_blank 28 = .ok (.ireturn, 1) := by decide +kernel
theorem dX12_book_0 : decode cX12_book 0 = .ok (.iload_n 1, 1) := by decide +kernel
theorem dX12_book_1 : decode cX12_book 1 = .ok (.ifCond .lt 11, 3) := by decide +kernel
theorem dX12_book_4 : decode cX12_book 4 = .ok (.iload_n 1, 1) := by decide +kernel
theorem dX12_book_5 : decode cX12_book 5 = .ok (.aload_n 0, 1) := by decide +kernel
theorem dX12_book_6 : decode cX12_book 6 = .ok (.getfield 306, 3) := by decide +kernel
theorem dX12_book_9 : decode cX12_book 9 = .ok (.if_icmp .lt 7, 3) := by decide +kernel
theorem dX12_book_12 : decode cX12_book 12 = .ok (.sipush (-1000), 3) := by decide +kernel
theorem dX12_book_15 : decode cX12_book 15 = .ok (.ireturn, 1) := by decide +kernel
theorem dX12_bound_0 : decode cX12_bound 0 = .ok (.aload_n 0, 1) := by decide +kernel
theorem dX12_bound_1 : decode cX12_bound 1 = .ok (.iload_n 1, 1) := by decide +kernel
theorem dX12_bound_2 : decode cX12_bound 2 = .ok (.iconst 2, 1) := by decide +kernel
theorem dX12_bound_3 : decode cX12_bound 3 = .ok (.iconst 4, 1) := by decide +kernel
theorem dX12_bound_4 : decode cX12_bound 4 = .ok (.invokevirtual 391, 3) := by decide +kernel
theorem dX12_bound_7 : decode cX12_bound 7 = .ok (.ifCond .ne 5, 3) := by decide +kernel
theorem dX12_bound_10 : decode cX12_bound 10 = .ok (.iconst (-1), 1) := by decide +kernel
theorem dX12_bound_11 : decode cX12_bound 11 = .ok (.ireturn, 1) := by decide +kernel
theorem dX12_chain_0 : decode cX12_chain 0 = .ok (.aload_n 0, 1) := by decide +kernel
theorem dX12_chain_1 : decode cX12_chain 1 = .ok (.iload_n 1, 1) := by decide +kernel
theorem dX12_chain_2 : decode cX12_chain 2 = .ok (.invokevirtual 172, 3) := by decide +kernel
theorem dX12_chain_5 : decode cX12_chain 5 = .ok (.ifCond .eq 8, 3) := by decide +kernel
theorem dX12_chain_13 : decode cX12_chain 13 = .ok (.iconst (-1), 1) := by decide +kernel
theorem dX12_chain_14 : decode cX12_chain 14 = .ok (.ireturn, 1) := by decide +kernel
theorem dX12_cheapest_0 : decode cX12_cheapest 0 = .ok (.aload_n 0, 1) := by decide +kernel
theorem dX12_cheapest_1 : decode cX12_cheapest 1 = .ok (.iload_n 1, 1) := by decide +kernel
theorem dX12_cheapest_2 : decode cX12_cheapest 2 = .ok (.iload_n 2, 1) := by decide +kernel
theorem dX12_cheapest_3 : decode cX12_cheapest 3 = .ok (.invokevirtual 329, 3) := by decide +kernel
theorem dX12_cheapest_6 : decode cX12_cheapest 6 = .ok (.ifCond .eq 27, 3) := by decide +kernel
theorem dX12_cheapest_33 : decode cX12_cheapest 33 = .ok (.iconst (-1), 1) := by decide +kernel
theorem dX12_cheapest_34 : decode cX12_cheapest 34 = .ok (.ireturn, 1) := by decide +kernel
theorem dX12_check_0 : decode cX12_check 0 = .ok (.aload_n 0, 1) := by decide +kernel
theorem dX12_check_1 : decode cX12_check 1 = .ok (.iload_n 1, 1) := by decide +kernel
theorem dX12_check_2 : decode cX12_check 2 = .ok (.invokevirtual 172, 3) := by decide +kernel
theorem dX12_check_5 : decode cX12_check 5 = .ok (.ifCond .eq 17, 3) := by decide +kernel
theorem dX12_check_22 : decode cX12_check 22 = .ok (.bipush (-2), 2) := by decide +kernel
theorem dX12_check_24 : decode cX12_check 24 = .ok (.ireturn, 1) := by decide +kernel
theorem dX12_costAll_0 : decode cX12_costAll 0 = .ok (.iconst 0, 1) := by decide +kernel
theorem dX12_costAll_1 : decode cX12_costAll 1 = .ok (.istore_n 1, 1) := by decide +kernel
theorem dX12_costAll_2 : decode cX12_costAll 2 = .ok (.iconst 0, 1) := by decide +kernel
theorem dX12_costAll_3 : decode cX12_costAll 3 = .ok (.istore_n 2, 1) := by decide +kernel
theorem dX12_costAll_4 : decode cX12_costAll 4 = .ok (.iload_n 2, 1) := by decide +kernel
theorem dX12_costAll_5 : decode cX12_costAll 5 = .ok (.aload_n 0, 1) := by decide +kernel
theorem dX12_costAll_6 : decode cX12_costAll 6 = .ok (.getfield 306, 3) := by decide +kernel
theorem dX12_costAll_9 : decode cX12_costAll 9 = .ok (.if_icmp .ge 18, 3) := by decide +kernel
theorem dX12_costAll_27 : decode cX12_costAll 27 = .ok (.iload_n 1, 1) := by decide +kernel
theorem dX12_costAll_28 : decode cX12_costAll 28 = .ok (.ireturn, 1) := by decide +kernel
theorem dX12_count_0 : decode cX12_count 0 = .ok (.iload_n 1, 1) := by decide +kernel
theorem dX12_count_1 : decode cX12_count 1 = .ok (.tableswitch 87 0 7 #[47, 52, 57, 62, 67, 72, 77, 82], 47) := by decide +kernel
theorem dX12_count_48 : decode cX12_count 48 = .ok (.aload_n 0, 1) := by decide +kernel
theorem dX12_count_49 : decode cX12_count 49 = .ok (.getfield 152, 3) := by decide +kernel
theorem dX12_count_52 : decode cX12_count 52 = .ok (.ireturn, 1) := by decide +kernel
theorem dX12_count_53 : decode cX12_count 53 = .ok (.aload_n 0, 1) := by decide +kernel
theorem dX12_count_54 : decode cX12_count 54 = .ok (.getfield 155, 3) := by decide +kernel
theorem dX12_count_57 : decode cX12_count 57 = .ok (.ireturn, 1) := by decide +kernel
theorem dX12_count_58 : decode cX12_count 58 = .ok (.aload_n 0, 1) := by decide +kernel
theorem dX12_count_59 : decode cX12_count 59 = .ok (.getfield 277, 3) := by decide +kernel
theorem dX12_count_62 : decode cX12_count 62 = .ok (.ireturn, 1) := by decide +kernel
theorem dX12_count_63 : decode cX12_count 63 = .ok (.aload_n 0, 1) := by decide +kernel
theorem dX12_count_64 : decode cX12_count 64 = .ok (.getfield 165, 3) := by decide +kernel
theorem dX12_count_67 : decode cX12_count 67 = .ok (.ireturn, 1) := by decide +kernel
theorem dX12_count_68 : decode cX12_count 68 = .ok (.aload_n 0, 1) := by decide +kernel
theorem dX12_count_69 : decode cX12_count 69 = .ok (.getfield 158, 3) := by decide +kernel
theorem dX12_count_72 : decode cX12_count 72 = .ok (.ireturn, 1) := by decide +kernel
theorem dX12_count_73 : decode cX12_count 73 = .ok (.aload_n 0, 1) := by decide +kernel
theorem dX12_count_74 : decode cX12_count 74 = .ok (.getfield 306, 3) := by decide +kernel
theorem dX12_count_77 : decode cX12_count 77 = .ok (.ireturn, 1) := by decide +kernel
theorem dX12_count_78 : decode cX12_count 78 = .ok (.aload_n 0, 1) := by decide +kernel
theorem dX12_count_79 : decode cX12_count 79 = .ok (.getfield 148, 3) := by decide +kernel
theorem dX12_count_82 : decode cX12_count 82 = .ok (.ireturn, 1) := by decide +kernel
theorem dX12_count_83 : decode cX12_count 83 = .ok (.aload_n 0, 1) := by decide +kernel
theorem dX12_count_84 : decode cX12_count 84 = .ok (.invokevirtual 468, 3) := by decide +kernel
theorem dX12_count_87 : decode cX12_count 87 = .ok (.ireturn, 1) := by decide +kernel
theorem dX12_count_88 : decode cX12_count 88 = .ok (.iload_n 1, 1) := by decide +kernel
theorem dX12_count_89 : decode cX12_count 89 = .ok (.bipush 10, 2) := by decide +kernel
theorem dX12_count_91 : decode cX12_count 91 = .ok (.bipush 9, 2) := by decide +kernel
theorem dX12_count_93 : decode cX12_count 93 = .ok (.aload_n 0, 1) := by decide +kernel
theorem dX12_count_94 : decode cX12_count 94 = .ok (.getfield 152, 3) := by decide +kernel
theorem dX12_count_97 : decode cX12_count 97 = .ok (.iadd, 1) := by decide +kernel
theorem dX12_count_98 : decode cX12_count 98 = .ok (.invokestatic 161, 3) := by decide +kernel
theorem dX12_count_101 : decode cX12_count 101 = .ok (.ifCond .eq 12, 3) := by decide +kernel
theorem dX12_count_113 : decode cX12_count 113 = .ok (.iload_n 1, 1) := by decide +kernel
theorem dX12_count_114 : decode cX12_count 114 = .ok (.bipush 20, 2) := by decide +kernel
theorem dX12_count_116 : decode cX12_count 116 = .ok (.bipush 27, 2) := by decide +kernel
theorem dX12_count_118 : decode cX12_count 118 = .ok (.invokestatic 161, 3) := by decide +kernel
theorem dX12_count_121 : decode cX12_count 121 = .ok (.ifCond .eq 15, 3) := by decide +kernel
theorem dX12_count_124 : decode cX12_count 124 = .ok (.aload_n 0, 1) := by decide +kernel
theorem dX12_count_125 : decode cX12_count 125 = .ok (.getfield 16, 3) := by decide +kernel
theorem dX12_count_128 : decode cX12_count 128 = .ok (.iload_n 1, 1) := by decide +kernel
theorem dX12_count_129 : decode cX12_count 129 = .ok (.bipush 20, 2) := by decide +kernel
theorem dX12_count_131 : decode cX12_count 131 = .ok (.isub, 1) := by decide +kernel
theorem dX12_count_132 : decode cX12_count 132 = .ok (.iaload, 1) := by decide +kernel
theorem dX12_count_133 : decode cX12_count 133 = .ok (.goto 4, 3) := by decide +kernel
theorem dX12_count_136 : decode cX12_count 136 = .ok (.iconst (-1), 1) := by decide +kernel
theorem dX12_count_137 : decode cX12_count 137 = .ok (.ireturn, 1) := by decide +kernel
theorem dX12_day_0 : decode cX12_day 0 = .ok (.iload_n 1, 1) := by decide +kernel
theorem dX12_day_1 : decode cX12_day 1 = .ok (.aload_n 0, 1) := by decide +kernel
theorem dX12_day_2 : decode cX12_day 2 = .ok (.getfield 158, 3) := by decide +kernel
theorem dX12_day_5 : decode cX12_day 5 = .ok (.sipush 999, 3) := by decide +kernel
theorem dX12_day_8 : decode cX12_day 8 = .ok (.invokestatic 161, 3) := by decide +kernel
theorem dX12_day_11 : decode cX12_day 11 = .ok (.ifCond .ne 5, 3) := by decide +kernel
theorem dX12_day_14 : decode cX12_day 14 = .ok (.iconst 0, 1) := by decide +kernel
theorem dX12_day_15 : decode cX12_day 15 = .ok (.ireturn, 1) := by decide +kernel
theorem dX12_day_16 : decode cX12_day 16 = .ok (.aload_n 0, 1) := by decide +kernel
theorem dX12_day_17 : decode cX12_day 17 = .ok (.iload_n 1, 1) := by decide +kernel
theorem dX12_day_18 : decode cX12_day 18 = .ok (.putfield 158, 3) := by decide +kernel
theorem dX12_day_21 : decode cX12_day 21 = .ok (.iconst 1, 1) := by decide +kernel
theorem dX12_day_22 : decode cX12_day 22 = .ok (.ireturn, 1) := by decide +kernel
theorem dX12_dayEnd_0 : decode cX12_dayEnd 0 = .ok (.aload_n 0, 1) := by decide +kernel
theorem dX12_dayEnd_1 : decode cX12_dayEnd 1 = .ok (.iload_n 1, 1) := by decide +kernel
theorem dX12_dayEnd_2 : decode cX12_dayEnd 2 = .ok (.invokevirtual 420, 3) := by decide +kernel
theorem dX12_dayEnd_5 : decode cX12_dayEnd 5 = .ok (.ifCond .eq 23, 3) := by decide +kernel
theorem dX12_dayEnd_8 : decode cX12_dayEnd 8 = .ok (.iload_n 1, 1) := by decide +kernel
theorem dX12_dayEnd_9 : decode cX12_dayEnd 9 = .ok (.ifCond .eq 19, 3) := by decide +kernel
theorem dX12_dayEnd_28 : decode cX12_dayEnd 28 = .ok (.iconst (-1), 1) := by decide +kernel
theorem dX12_dayEnd_29 : decode cX12_dayEnd 29 = .ok (.ireturn, 1) := by decide +kernel
theorem dX12_deed_0 : decode cX12_deed 0 = .ok (.iload_n 1, 1) := by decide +kernel
theorem dX12_deed_1 : decode cX12_deed 1 = .ok (.iconst 0, 1) := by decide +kernel
theorem dX12_deed_2 : decode cX12_deed 2 = .ok (.bipush 7, 2) := by decide +kernel
theorem dX12_deed_4 : decode cX12_deed 4 = .ok (.invokestatic 161, 3) := by decide +kernel
theorem dX12_deed_7 : decode cX12_deed 7 = .ok (.ifCond .eq 21, 3) := by decide +kernel
theorem dX12_deed_10 : decode cX12_deed 10 = .ok (.iload_n 2, 1) := by decide +kernel
theorem dX12_deed_11 : decode cX12_deed 11 = .ok (.iconst 1, 1) := by decide +kernel
theorem dX12_deed_12 : decode cX12_deed 12 = .ok (.bipush 16, 2) := by decide +kernel
theorem dX12_deed_14 : decode cX12_deed 14 = .ok (.invokestatic 161, 3) := by decide +kernel
theorem dX12_deed_17 : decode cX12_deed 17 = .ok (.ifCond .eq 11, 3) := by decide +kernel
theorem dX12_deed_20 : decode cX12_deed 20 = .ok (.iload_n 2, 1) := by decide +kernel
theorem dX12_deed_21 : decode cX12_deed 21 = .ok (.aload_n 0, 1) := by decide +kernel
theorem dX12_deed_22 : decode cX12_deed 22 = .ok (.getfield 165, 3) := by decide +kernel
theorem dX12_deed_25 : decode cX12_deed 25 = .ok (.if_icmp .le 5, 3) := by decide +kernel
theorem dX12_deed_28 : decode cX12_deed 28 = .ok (.iconst (-1), 1) := by decide +kernel
theorem dX12_deed_29 : decode cX12_deed 29 = .ok (.ireturn, 1) := by decide +kernel
theorem dX12_done_0 : decode cX12_done 0 = .ok (.aload_n 0, 1) := by decide +kernel
theorem dX12_done_1 : decode cX12_done 1 = .ok (.iload_n 1, 1) := by decide +kernel
theorem dX12_done_2 : decode cX12_done 2 = .ok (.iload_n 2, 1) := by decide +kernel
theorem dX12_done_3 : decode cX12_done 3 = .ok (.invokevirtual 329, 3) := by decide +kernel
theorem dX12_done_6 : decode cX12_done 6 = .ok (.ifCond .eq 10, 3) := by decide +kernel
theorem dX12_done_16 : decode cX12_done 16 = .ok (.iconst (-1), 1) := by decide +kernel
theorem dX12_done_17 : decode cX12_done 17 = .ok (.ireturn, 1) := by decide +kernel
theorem dX12_draw_0 : decode cX12_draw 0 = .ok (.aload_n 0, 1) := by decide +kernel
theorem dX12_draw_1 : decode cX12_draw 1 = .ok (.iload_n 1, 1) := by decide +kernel
theorem dX12_draw_2 : decode cX12_draw 2 = .ok (.invokevirtual 172, 3) := by decide +kernel
theorem dX12_draw_5 : decode cX12_draw 5 = .ok (.ifCond .eq 13, 3) := by decide +kernel
theorem dX12_draw_18 : decode cX12_draw 18 = .ok (.iconst (-1), 1) := by decide +kernel
theorem dX12_draw_19 : decode cX12_draw 19 = .ok (.ireturn, 1) := by decide +kernel
theorem dX12_even_0 : decode cX12_even 0 = .ok (.aload_n 0, 1) := by decide +kernel
theorem dX12_even_1 : decode cX12_even 1 = .ok (.iload_n 1, 1) := by decide +kernel
theorem dX12_even_2 : decode cX12_even 2 = .ok (.iload_n 2, 1) := by decide +kernel
theorem dX12_even_3 : decode cX12_even 3 = .ok (.invokevirtual 329, 3) := by decide +kernel
theorem dX12_even_6 : decode cX12_even 6 = .ok (.ifCond .eq 13, 3) := by decide +kernel
theorem dX12_even_19 : decode cX12_even 19 = .ok (.ldc2_w 332, 3) := by decide +kernel
theorem dX12_even_22 : decode cX12_even 22 = .ok (.lreturn, 1) := by decide +kernel
theorem dX12_family_0 : decode cX12_family 0 = .ok (.aload_n 0, 1) := by decide +kernel
theorem dX12_family_1 : decode cX12_family 1 = .ok (.iload_n 1, 1) := by decide +kernel
theorem dX12_family_2 : decode cX12_family 2 = .ok (.invokevirtual 172, 3) := by decide +kernel
theorem dX12_family_5 : decode cX12_family 5 = .ok (.ifCond .eq 36, 3) := by decide +kernel
theorem dX12_family_41 : decode cX12_family 41 = .ok (.iconst (-1), 1) := by decide +kernel
theorem dX12_family_42 : decode cX12_family 42 = .ok (.ireturn, 1) := by decide +kernel
theorem dX12_feed_0 : decode cX12_feed 0 = .ok (.aload_n 0, 1) := by decide +kernel
theorem dX12_feed_1 : decode cX12_feed 1 = .ok (.getfield 165, 3) := by decide +kernel
theorem dX12_feed_4 : decode cX12_feed 4 = .ok (.bipush 20, 2) := by decide +kernel
theorem dX12_feed_6 : decode cX12_feed 6 = .ok (.iadd, 1) := by decide +kernel
theorem dX12_feed_7 : decode cX12_feed 7 = .ok (.sipush 200, 3) := by decide +kernel
theorem dX12_feed_10 : decode cX12_feed 10 = .ok (.if_icmp .le 5, 3) := by decide +kernel
theorem dX12_feed_15 : decode cX12_feed 15 = .ok (.aload_n 0, 1) := by decide +kernel
theorem dX12_feed_16 : decode cX12_feed 16 = .ok (.iload_n 1, 1) := by decide +kernel
theorem dX12_feed_17 : decode cX12_feed 17 = .ok (.invokevirtual 183, 3) := by decide +kernel
theorem dX12_feed_20 : decode cX12_feed 20 = .ok (.aload_n 0, 1) := by decide +kernel
theorem dX12_feed_21 : decode cX12_feed 21 = .ok (.iload_n 2, 1) := by decide +kernel
theorem dX12_feed_22 : decode cX12_feed 22 = .ok (.invokevirtual 183, 3) := by decide +kernel
theorem dX12_feed_25 : decode cX12_feed 25 = .ok (.aload_n 0, 1) := by decide +kernel
theorem dX12_feed_26 : decode cX12_feed 26 = .ok (.iload_n 3, 1) := by decide +kernel
theorem dX12_feed_27 : decode cX12_feed 27 = .ok (.invokevirtual 183, 3) := by decide +kernel
theorem dX12_feed_30 : decode cX12_feed 30 = .ok (.aload_n 0, 1) := by decide +kernel
theorem dX12_feed_31 : decode cX12_feed 31 = .ok (.iload 4, 2) := by decide +kernel
theorem dX12_feed_33 : decode cX12_feed 33 = .ok (.invokevirtual 183, 3) := by decide +kernel
theorem dX12_feed_36 : decode cX12_feed 36 = .ok (.aload_n 0, 1) := by decide +kernel
theorem dX12_feed_37 : decode cX12_feed 37 = .ok (.iload 5, 2) := by decide +kernel
theorem dX12_feed_39 : decode cX12_feed 39 = .ok (.invokevirtual 183, 3) := by decide +kernel
theorem dX12_feed_42 : decode cX12_feed 42 = .ok (.aload_n 0, 1) := by decide +kernel
theorem dX12_feed_43 : decode cX12_feed 43 = .ok (.getfield 165, 3) := by decide +kernel
theorem dX12_feed_46 : decode cX12_feed 46 = .ok (.ireturn, 1) := by decide +kernel
theorem dX12_forged_0 : decode cX12_forged 0 = .ok (.aload_n 0, 1) := by decide +kernel
theorem dX12_forged_1 : decode cX12_forged 1 = .ok (.iload_n 1, 1) := by decide +kernel
theorem dX12_forged_2 : decode cX12_forged 2 = .ok (.invokevirtual 326, 3) := by decide +kernel
theorem dX12_forged_5 : decode cX12_forged 5 = .ok (.ifCond .ne 5, 3) := by decide +kernel
theorem dX12_forged_8 : decode cX12_forged 8 = .ok (.iconst (-1), 1) := by decide +kernel
theorem dX12_forged_9 : decode cX12_forged 9 = .ok (.ireturn, 1) := by decide +kernel
theorem dX12_hidden_0 : decode cX12_hidden 0 = .ok (.aload_n 0, 1) := by decide +kernel
theorem dX12_hidden_1 : decode cX12_hidden 1 = .ok (.iload_n 1, 1) := by decide +kernel
theorem dX12_hidden_2 : decode cX12_hidden 2 = .ok (.iconst 2, 1) := by decide +kernel
theorem dX12_hidden_3 : decode cX12_hidden 3 = .ok (.iconst 3, 1) := by decide +kernel
theorem dX12_hidden_4 : decode cX12_hidden 4 = .ok (.invokevirtual 391, 3) := by decide +kernel
theorem dX12_hidden_7 : decode cX12_hidden 7 = .ok (.ifCond .ne 5, 3) := by decide +kernel
theorem dX12_hidden_10 : decode cX12_hidden 10 = .ok (.iconst (-1), 1) := by decide +kernel
theorem dX12_hidden_11 : decode cX12_hidden 11 = .ok (.ireturn, 1) := by decide +kernel
theorem dX12_in_0 : decode cX12_in 0 = .ok (.iload_n 0, 1) := by decide +kernel
theorem dX12_in_1 : decode cX12_in 1 = .ok (.iload_n 1, 1) := by decide +kernel
theorem dX12_in_2 : decode cX12_in 2 = .ok (.if_icmp .lt 12, 3) := by decide +kernel
theorem dX12_in_5 : decode cX12_in 5 = .ok (.iload_n 0, 1) := by decide +kernel
theorem dX12_in_6 : decode cX12_in 6 = .ok (.iload_n 2, 1) := by decide +kernel
theorem dX12_in_7 : decode cX12_in 7 = .ok (.if_icmp .gt 7, 3) := by decide +kernel
theorem dX12_in_10 : decode cX12_in 10 = .ok (.iconst 1, 1) := by decide +kernel
theorem dX12_in_11 : decode cX12_in 11 = .ok (.goto 4, 3) := by decide +kernel
theorem dX12_in_14 : decode cX12_in 14 = .ok (.iconst 0, 1) := by decide +kernel
theorem dX12_in_15 : decode cX12_in 15 = .ok (.ireturn, 1) := by decide +kernel
theorem dX12_init_0 : decode cX12_init 0 = .ok (.aload_n 0, 1) := by decide +kernel
theorem dX12_init_1 : decode cX12_init 1 = .ok (.invokespecial 1, 3) := by decide +kernel
theorem dX12_init_4 : decode cX12_init 4 = .ok (.aload_n 0, 1) := by decide +kernel
theorem dX12_init_5 : decode cX12_init 5 = .ok (.bipush 8, 2) := by decide +kernel
theorem dX12_init_7 : decode cX12_init 7 = .ok (.newarray .int, 2) := by decide +kernel
theorem dX12_init_9 : decode cX12_init 9 = .ok (.putfield 7, 3) := by decide +kernel
theorem dX12_init_12 : decode cX12_init 12 = .ok (.aload_n 0, 1) := by decide +kernel
theorem dX12_init_13 : decode cX12_init 13 = .ok (.sipush 320, 3) := by decide +kernel
theorem dX12_init_16 : decode cX12_init 16 = .ok (.newarray .int, 2) := by decide +kernel
theorem dX12_init_18 : decode cX12_init 18 = .ok (.putfield 13, 3) := by decide +kernel
theorem dX12_init_21 : decode cX12_init 21 = .ok (.aload_n 0, 1) := by decide +kernel
theorem dX12_init_22 : decode cX12_init 22 = .ok (.bipush 8, 2) := by decide +kernel
theorem dX12_init_24 : decode cX12_init 24 = .ok (.newarray .int, 2) := by decide +kernel
theorem dX12_init_26 : decode cX12_init 26 = .ok (.putfield 16, 3) := by decide +kernel
theorem dX12_init_29 : decode cX12_init 29 = .ok (.aload_n 0, 1) := by decide +kernel
theorem dX12_init_30 : decode cX12_init 30 = .ok (.sipush 128, 3) := by decide +kernel
theorem dX12_init_33 : decode cX12_init 33 = .ok (.newarray .int, 2) := by decide +kernel
theorem dX12_init_35 : decode cX12_init 35 = .ok (.putfield 19, 3) := by decide +kernel
theorem dX12_init_38 : decode cX12_init 38 = .ok (.aload_n 0, 1) := by decide +kernel
theorem dX12_init_39 : decode cX12_init 39 = .ok (.sipush 320, 3) := by decide +kernel
theorem dX12_init_42 : decode cX12_init 42 = .ok (.newarray .boolean, 2) := by decide +kernel
theorem dX12_init_44 : decode cX12_init 44 = .ok (.putfield 22, 3) := by decide +kernel
theorem dX12_init_47 : decode cX12_init 47 = .ok (.aload_n 0, 1) := by decide +kernel
theorem dX12_init_48 : decode cX12_init 48 = .ok (.sipush 200, 3) := by decide +kernel
theorem dX12_init_51 : decode cX12_init 51 = .ok (.newarray .byte, 2) := by decide +kernel
theorem dX12_init_53 : decode cX12_init 53 = .ok (.putfield 26, 3) := by decide +kernel
theorem dX12_init_56 : decode cX12_init 56 = .ok (.aload_n 0, 1) := by decide +kernel
theorem dX12_init_57 : decode cX12_init 57 = .ok (.sipush 180, 3) := by decide +kernel
theorem dX12_init_60 : decode cX12_init 60 = .ok (.newarray .int, 2) := by decide +kernel
theorem dX12_init_62 : decode cX12_init 62 = .ok (.putfield 30, 3) := by decide +kernel
theorem dX12_init_65 : decode cX12_init 65 = .ok (.aload_n 0, 1) := by decide +kernel
theorem dX12_init_66 : decode cX12_init 66 = .ok (.sipush 180, 3) := by decide +kernel
theorem dX12_init_69 : decode cX12_init 69 = .ok (.newarray .int, 2) := by decide +kernel
theorem dX12_init_71 : decode cX12_init 71 = .ok (.putfield 33, 3) := by decide +kernel
theorem dX12_init_74 : decode cX12_init 74 = .ok (.aload_n 0, 1) := by decide +kernel
theorem dX12_init_75 : decode cX12_init 75 = .ok (.bipush 12, 2) := by decide +kernel
theorem dX12_init_77 : decode cX12_init 77 = .ok (.newarray .int, 2) := by decide +kernel
theorem dX12_init_79 : decode cX12_init 79 = .ok (.putfield 36, 3) := by decide +kernel
theorem dX12_init_82 : decode cX12_init 82 = .ok (.aload_n 0, 1) := by decide +kernel
theorem dX12_init_83 : decode cX12_init 83 = .ok (.bipush 12, 2) := by decide +kernel
theorem dX12_init_85 : decode cX12_init 85 = .ok (.newarray .int, 2) := by decide +kernel
theorem dX12_init_87 : decode cX12_init 87 = .ok (.putfield 39, 3) := by decide +kernel
theorem dX12_init_90 : decode cX12_init 90 = .ok (.aload_n 0, 1) := by decide +kernel
theorem dX12_init_91 : decode cX12_init 91 = .ok (.bipush 12, 2) := by decide +kernel
theorem dX12_init_93 : decode cX12_init 93 = .ok (.newarray .int, 2) := by decide +kernel
theorem dX12_init_95 : decode cX12_init 95 = .ok (.putfield 42, 3) := by decide +kernel
theorem dX12_init_98 : decode cX12_init 98 = .ok (.aload_n 0, 1) := by decide +kernel
theorem dX12_init_99 : decode cX12_init 99 = .ok (.bipush 12, 2) := by decide +kernel
theorem dX12_init_101 : decode cX12_init 101 = .ok (.newarray .int, 2) := by decide +kernel
theorem dX12_init_103 : decode cX12_init 103 = .ok (.putfield 45, 3) := by decide +kernel
theorem dX12_init_106 : decode cX12_init 106 = .ok (.aload_n 0, 1) := by decide +kernel
theorem dX12_init_107 : decode cX12_init 107 = .ok (.sipush 180, 3) := by decide +kernel
theorem dX12_init_110 : decode cX12_init 110 = .ok (.newarray .int, 2) := by decide +kernel
theorem dX12_init_112 : decode cX12_init 112 = .ok (.putfield 48, 3) := by decide +kernel
theorem dX12_init_115 : decode cX12_init 115 = .ok (.aload_n 0, 1) := by decide +kernel
theorem dX12_init_116 : decode cX12_init 116 = .ok (.bipush 12, 2) := by decide +kernel
theorem dX12_init_118 : decode cX12_init 118 = .ok (.newarray .int, 2) := by decide +kernel
theorem dX12_init_120 : decode cX12_init 120 = .ok (.putfield 51, 3) := by decide +kernel
theorem dX12_init_123 : decode cX12_init 123 = .ok (.aload_n 0, 1) := by decide +kernel
theorem dX12_init_124 : decode cX12_init 124 = .ok (.bipush 12, 2) := by decide +kernel
theorem dX12_init_126 : decode cX12_init 126 = .ok (.newarray .int, 2) := by decide +kernel
theorem dX12_init_128 : decode cX12_init 128 = .ok (.putfield 54, 3) := by decide +kernel
theorem dX12_init_131 : decode cX12_init 131 = .ok (.aload_n 0, 1) := by decide +kernel
theorem dX12_init_132 : decode cX12_init 132 = .ok (.bipush 12, 2) := by decide +kernel
theorem dX12_init_134 : decode cX12_init 134 = .ok (.newarray .int, 2) := by decide +kernel
theorem dX12_init_136 : decode cX12_init 136 = .ok (.putfield 57, 3) := by decide +kernel
theorem dX12_init_139 : decode cX12_init 139 = .ok (.aload_n 0, 1) := by decide +kernel
theorem dX12_init_140 : decode cX12_init 140 = .ok (.bipush 12, 2) := by decide +kernel
theorem dX12_init_142 : decode cX12_init 142 = .ok (.newarray .int, 2) := by decide +kernel
theorem dX12_init_144 : decode cX12_init 144 = .ok (.putfield 60, 3) := by decide +kernel
theorem dX12_init_147 : decode cX12_init 147 = .ok (.aload_n 0, 1) := by decide +kernel
theorem dX12_init_148 : decode cX12_init 148 = .ok (.sipush 180, 3) := by decide +kernel
theorem dX12_init_151 : decode cX12_init 151 = .ok (.newarray .int, 2) := by decide +kernel
theorem dX12_init_153 : decode cX12_init 153 = .ok (.putfield 63, 3) := by decide +kernel
theorem dX12_init_156 : decode cX12_init 156 = .ok (.aload_n 0, 1) := by decide +kernel
theorem dX12_init_157 : decode cX12_init 157 = .ok (.bipush 10, 2) := by decide +kernel
theorem dX12_init_159 : decode cX12_init 159 = .ok (.newarray .int, 2) := by decide +kernel
theorem dX12_init_161 : decode cX12_init 161 = .ok (.putfield 66, 3) := by decide +kernel
theorem dX12_init_164 : decode cX12_init 164 = .ok (.aload_n 0, 1) := by decide +kernel
theorem dX12_init_165 : decode cX12_init 165 = .ok (.bipush 60, 2) := by decide +kernel
theorem dX12_init_167 : decode cX12_init 167 = .ok (.newarray .int, 2) := by decide +kernel
theorem dX12_init_169 : decode cX12_init 169 = .ok (.putfield 69, 3) := by decide +kernel
theorem dX12_init_172 : decode cX12_init 172 = .ok (.aload_n 0, 1) := by decide +kernel
theorem dX12_init_173 : decode cX12_init 173 = .ok (.bipush 60, 2) := by decide +kernel
theorem dX12_init_175 : decode cX12_init 175 = .ok (.newarray .int, 2) := by decide +kernel
theorem dX12_init_177 : decode cX12_init 177 = .ok (.putfield 72, 3) := by decide +kernel
theorem dX12_init_180 : decode cX12_init 180 = .ok (.aload_n 0, 1) := by decide +kernel
theorem dX12_init_181 : decode cX12_init 181 = .ok (.bipush 60, 2) := by decide +kernel
theorem dX12_init_183 : decode cX12_init 183 = .ok (.newarray .int, 2) := by decide +kernel
theorem dX12_init_185 : decode cX12_init 185 = .ok (.putfield 75, 3) := by decide +kernel
theorem dX12_init_188 : decode cX12_init 188 = .ok (.aload_n 0, 1) := by decide +kernel
theorem dX12_init_189 : decode cX12_init 189 = .ok (.bipush 60, 2) := by decide +kernel
theorem dX12_init_191 : decode cX12_init 191 = .ok (.newarray .int, 2) := by decide +kernel
theorem dX12_init_193 : decode cX12_init 193 = .ok (.putfield 78, 3) := by decide +kernel
theorem dX12_init_196 : decode cX12_init 196 = .ok (.aload_n 0, 1) := by decide +kernel
theorem dX12_init_197 : decode cX12_init 197 = .ok (.bipush 60, 2) := by decide +kernel
theorem dX12_init_199 : decode cX12_init 199 = .ok (.newarray .int, 2) := by decide +kernel
theorem dX12_init_201 : decode cX12_init 201 = .ok (.putfield 81, 3) := by decide +kernel
theorem dX12_init_204 : decode cX12_init 204 = .ok (.aload_n 0, 1) := by decide +kernel
theorem dX12_init_205 : decode cX12_init 205 = .ok (.sipush 540, 3) := by decide +kernel
theorem dX12_init_208 : decode cX12_init 208 = .ok (.newarray .int, 2) := by decide +kernel
theorem dX12_init_210 : decode cX12_init 210 = .ok (.putfield 84, 3) := by decide +kernel
theorem dX12_init_213 : decode cX12_init 213 = .ok (.aload_n 0, 1) := by decide +kernel
theorem dX12_init_214 : decode cX12_init 214 = .ok (.bipush 40, 2) := by decide +kernel
theorem dX12_init_216 : decode cX12_init 216 = .ok (.newarray .int, 2) := by decide +kernel
theorem dX12_init_218 : decode cX12_init 218 = .ok (.putfield 87, 3) := by decide +kernel
theorem dX12_init_221 : decode cX12_init 221 = .ok (.aload_n 0, 1) := by decide +kernel
theorem dX12_init_222 : decode cX12_init 222 = .ok (.bipush 16, 2) := by decide +kernel
theorem dX12_init_224 : decode cX12_init 224 = .ok (.newarray .int, 2) := by decide +kernel
theorem dX12_init_226 : decode cX12_init 226 = .ok (.putfield 90, 3) := by decide +kernel
theorem dX12_init_229 : decode cX12_init 229 = .ok (.aload_n 0, 1) := by decide +kernel
theorem dX12_init_230 : decode cX12_init 230 = .ok (.bipush 17, 2) := by decide +kernel
theorem dX12_init_232 : decode cX12_init 232 = .ok (.newarray .long, 2) := by decide +kernel
theorem dX12_init_234 : decode cX12_init 234 = .ok (.putfield 93, 3) := by decide +kernel
theorem dX12_init_237 : decode cX12_init 237 = .ok (.aload_n 0, 1) := by decide +kernel
theorem dX12_init_238 : decode cX12_init 238 = .ok (.bipush 40, 2) := by decide +kernel
theorem dX12_init_240 : decode cX12_init 240 = .ok (.newarray .int, 2) := by decide +kernel
theorem dX12_init_242 : decode cX12_init 242 = .ok (.putfield 97, 3) := by decide +kernel
theorem dX12_init_245 : decode cX12_init 245 = .ok (.aload_n 0, 1) := by decide +kernel
theorem dX12_init_246 : decode cX12_init 246 = .ok (.sipush 697, 3) := by decide +kernel
theorem dX12_init_249 : decode cX12_init 249 = .ok (.newarray .int, 2) := by decide +kernel
theorem dX12_init_251 : decode cX12_init 251 = .ok (.putfield 100, 3) := by decide +kernel
theorem dX12_init_254 : decode cX12_init 254 = .ok (.aload_n 0, 1) := by decide +kernel
theorem dX12_init_255 : decode cX12_init 255 = .ok (.bipush 16, 2) := by decide +kernel
theorem dX12_init_257 : decode cX12_init 257 = .ok (.newarray .int, 2) := by decide +kernel
theorem dX12_init_259 : decode cX12_init 259 = .ok (.putfield 103, 3) := by decide +kernel
theorem dX12_init_262 : decode cX12_init 262 = .ok (.aload_n 0, 1) := by decide +kernel
theorem dX12_init_263 : decode cX12_init 263 = .ok (.sipush 697, 3) := by decide +kernel
theorem dX12_init_266 : decode cX12_init 266 = .ok (.newarray .int, 2) := by decide +kernel
theorem dX12_init_268 : decode cX12_init 268 = .ok (.putfield 106, 3) := by decide +kernel
theorem dX12_init_271 : decode cX12_init 271 = .ok (.aload_n 0, 1) := by decide +kernel
theorem dX12_init_272 : decode cX12_init 272 = .ok (.sipush 697, 3) := by decide +kernel
theorem dX12_init_275 : decode cX12_init 275 = .ok (.newarray .long, 2) := by decide +kernel
theorem dX12_init_277 : decode cX12_init 277 = .ok (.putfield 109, 3) := by decide +kernel
theorem dX12_init_280 : decode cX12_init 280 = .ok (.aload_n 0, 1) := by decide +kernel
theorem dX12_init_281 : decode cX12_init 281 = .ok (.iconst 4, 1) := by decide +kernel
theorem dX12_init_282 : decode cX12_init 282 = .ok (.newarray .int, 2) := by decide +kernel
theorem dX12_init_284 : decode cX12_init 284 = .ok (.putfield 112, 3) := by decide +kernel
theorem dX12_init_287 : decode cX12_init 287 = .ok (.aload_n 0, 1) := by decide +kernel
theorem dX12_init_288 : decode cX12_init 288 = .ok (.iconst 4, 1) := by decide +kernel
theorem dX12_init_289 : decode cX12_init 289 = .ok (.newarray .int, 2) := by decide +kernel
theorem dX12_init_291 : decode cX12_init 291 = .ok (.putfield 115, 3) := by decide +kernel
theorem dX12_init_294 : decode cX12_init 294 = .ok (.aload_n 0, 1) := by decide +kernel
theorem dX12_init_295 : decode cX12_init 295 = .ok (.iconst 4, 1) := by decide +kernel
theorem dX12_init_296 : decode cX12_init 296 = .ok (.newarray .int, 2) := by decide +kernel
theorem dX12_init_298 : decode cX12_init 298 = .ok (.putfield 118, 3) := by decide +kernel
theorem dX12_init_301 : decode cX12_init 301 = .ok (.aload_n 0, 1) := by decide +kernel
theorem dX12_init_302 : decode cX12_init 302 = .ok (.iconst 4, 1) := by decide +kernel
theorem dX12_init_303 : decode cX12_init 303 = .ok (.newarray .int, 2) := by decide +kernel
theorem dX12_init_305 : decode cX12_init 305 = .ok (.putfield 121, 3) := by decide +kernel
theorem dX12_init_308 : decode cX12_init 308 = .ok (.aload_n 0, 1) := by decide +kernel
theorem dX12_init_309 : decode cX12_init 309 = .ok (.sipush 4913, 3) := by decide +kernel
theorem dX12_init_312 : decode cX12_init 312 = .ok (.newarray .int, 2) := by decide +kernel
theorem dX12_init_314 : decode cX12_init 314 = .ok (.putfield 124, 3) := by decide +kernel
theorem dX12_init_317 : decode cX12_init 317 = .ok (.aload_n 0, 1) := by decide +kernel
theorem dX12_init_318 : decode cX12_init 318 = .ok (.bipush 16, 2) := by decide +kernel
theorem dX12_init_320 : decode cX12_init 320 = .ok (.newarray .int, 2) := by decide +kernel
theorem dX12_init_322 : decode cX12_init 322 = .ok (.putfield 127, 3) := by decide +kernel
theorem dX12_init_325 : decode cX12_init 325 = .ok (.aload_n 0, 1) := by decide +kernel
theorem dX12_init_326 : decode cX12_init 326 = .ok (.sipush 28561, 3) := by decide +kernel
theorem dX12_init_329 : decode cX12_init 329 = .ok (.newarray .int, 2) := by decide +kernel
theorem dX12_init_331 : decode cX12_init 331 = .ok (.putfield 130, 3) := by decide +kernel
theorem dX12_init_334 : decode cX12_init 334 = .ok (.aload_n 0, 1) := by decide +kernel
theorem dX12_init_335 : decode cX12_init 335 = .ok (.sipush 28561, 3) := by decide +kernel
theorem dX12_init_338 : decode cX12_init 338 = .ok (.newarray .long, 2) := by decide +kernel
theorem dX12_init_340 : decode cX12_init 340 = .ok (.putfield 133, 3) := by decide +kernel
theorem dX12_init_343 : decode cX12_init 343 = .ok (.aload_n 0, 1) := by decide +kernel
theorem dX12_init_344 : decode cX12_init 344 = .ok (.bipush 64, 2) := by decide +kernel
theorem dX12_init_346 : decode cX12_init 346 = .ok (.newarray .boolean, 2) := by decide +kernel
theorem dX12_init_348 : decode cX12_init 348 = .ok (.putfield 136, 3) := by decide +kernel
theorem dX12_init_351 : decode cX12_init 351 = .ok (.aload_n 0, 1) := by decide +kernel
theorem dX12_init_352 : decode cX12_init 352 = .ok (.sipush 2304, 3) := by decide +kernel
theorem dX12_init_355 : decode cX12_init 355 = .ok (.newarray .int, 2) := by decide +kernel
theorem dX12_init_357 : decode cX12_init 357 = .ok (.putfield 139, 3) := by decide +kernel
theorem dX12_init_360 : decode cX12_init 360 = .ok (.aload_n 0, 1) := by decide +kernel
theorem dX12_init_361 : decode cX12_init 361 = .ok (.bipush 72, 2) := by decide +kernel
theorem dX12_init_363 : decode cX12_init 363 = .ok (.newarray .boolean, 2) := by decide +kernel
theorem dX12_init_365 : decode cX12_init 365 = .ok (.putfield 142, 3) := by decide +kernel
theorem dX12_init_368 : decode cX12_init 368 = .ok (.aload_n 0, 1) := by decide +kernel
theorem dX12_init_369 : decode cX12_init 369 = .ok (.sipush 2304, 3) := by decide +kernel
theorem dX12_init_372 : decode cX12_init 372 = .ok (.newarray .int, 2) := by decide +kernel
theorem dX12_init_374 : decode cX12_init 374 = .ok (.putfield 145, 3) := by decide +kernel
theorem dX12_init_377 : decode cX12_init 377 = .ok (.aload_n 0, 1) := by decide +kernel
theorem dX12_init_378 : decode cX12_init 378 = .ok (.iconst 1, 1) := by decide +kernel
theorem dX12_init_379 : decode cX12_init 379 = .ok (.putfield 148, 3) := by decide +kernel
theorem dX12_init_382 : decode cX12_init 382 = .ok (.return_, 1) := by decide +kernel
theorem dX12_isAsked_0 : decode cX12_isAsked 0 = .ok (.aload_n 0, 1) := by decide +kernel
theorem dX12_isAsked_1 : decode cX12_isAsked 1 = .ok (.iload_n 1, 1) := by decide +kernel
theorem dX12_isAsked_2 : decode cX12_isAsked 2 = .ok (.invokevirtual 172, 3) := by decide +kernel
theorem dX12_isAsked_5 : decode cX12_isAsked 5 = .ok (.ifCond .eq 15, 3) := by decide +kernel
theorem dX12_isAsked_20 : decode cX12_isAsked 20 = .ok (.iconst 0, 1) := by decide +kernel
theorem dX12_isAsked_21 : decode cX12_isAsked 21 = .ok (.ireturn, 1) := by decide +kernel
theorem dX12_isBlank_0 : decode cX12_isBlank 0 = .ok (.iload_n 1, 1) := by decide +kernel
theorem dX12_isBlank_1 : decode cX12_isBlank 1 = .ok (.ifCond .lt 15, 3) := by decide +kernel
theorem dX12_isBlank_4 : decode cX12_isBlank 4 = .ok (.iload_n 1, 1) := by decide +kernel
theorem dX12_isBlank_5 : decode cX12_isBlank 5 = .ok (.aload_n 0, 1) := by decide +kernel
theorem dX12_isBlank_6 : decode cX12_isBlank 6 = .ok (.getfield 152, 3) := by decide +kernel
theorem dX12_isBlank_9 : decode cX12_isBlank 9 = .ok (.if_icmp .ge 7, 3) := by decide +kernel
theorem dX12_isBlank_16 : decode cX12_isBlank 16 = .ok (.iconst 0, 1) := by decide +kernel
theorem dX12_isBlank_17 : decode cX12_isBlank 17 = .ok (.ireturn, 1) := by decide +kernel
theorem dX12_isDeed_0 : decode cX12_isDeed 0 = .ok (.iload_n 1, 1) := by decide +kernel
theorem dX12_isDeed_1 : decode cX12_isDeed 1 = .ok (.ifCond .lt 25, 3) := by decide +kernel
theorem dX12_isDeed_4 : decode cX12_isDeed 4 = .ok (.iload_n 1, 1) := by decide +kernel
theorem dX12_isDeed_5 : decode cX12_isDeed 5 = .ok (.bipush 8, 2) := by decide +kernel
theorem dX12_isDeed_7 : decode cX12_isDeed 7 = .ok (.if_icmp .ge 19, 3) := by decide +kernel
theorem dX12_isDeed_10 : decode cX12_isDeed 10 = .ok (.aload_n 0, 1) := by decide +kernel
theorem dX12_isDeed_11 : decode cX12_isDeed 11 = .ok (.getfield 155, 3) := by decide +kernel
theorem dX12_isDeed_14 : decode cX12_isDeed 14 = .ok (.iload_n 1, 1) := by decide +kernel
theorem dX12_isDeed_15 : decode cX12_isDeed 15 = .ok (.ishr, 1) := by decide +kernel
theorem dX12_isDeed_16 : decode cX12_isDeed 16 = .ok (.iconst 1, 1) := by decide +kernel
theorem dX12_isDeed_17 : decode cX12_isDeed 17 = .ok (.iand, 1) := by decide +kernel
theorem dX12_isDeed_18 : decode cX12_isDeed 18 = .ok (.iconst 1, 1) := by decide +kernel
theorem dX12_isDeed_19 : decode cX12_isDeed 19 = .ok (.if_icmp .ne 7, 3) := by decide +kernel
theorem dX12_isDeed_26 : decode cX12_isDeed 26 = .ok (.iconst 0, 1) := by decide +kernel
theorem dX12_isDeed_27 : decode cX12_isDeed 27 = .ok (.ireturn, 1) := by decide +kernel
theorem dX12_law_0 : decode cX12_law 0 = .ok (.iload_n 1, 1) := by decide +kernel
theorem dX12_law_1 : decode cX12_law 1 = .ok (.iconst 1, 1) := by decide +kernel
theorem dX12_law_2 : decode cX12_law 2 = .ok (.sipush 160, 3) := by decide +kernel
theorem dX12_law_5 : decode cX12_law 5 = .ok (.invokestatic 161, 3) := by decide +kernel
theorem dX12_law_8 : decode cX12_law 8 = .ok (.ifCond .eq 11, 3) := by decide +kernel
theorem dX12_law_11 : decode cX12_law 11 = .ok (.iload_n 1, 1) := by decide +kernel
theorem dX12_law_12 : decode cX12_law 12 = .ok (.aload_n 0, 1) := by decide +kernel
theorem dX12_law_13 : decode cX12_law 13 = .ok (.getfield 165, 3) := by decide +kernel
theorem dX12_law_16 : decode cX12_law 16 = .ok (.if_icmp .le 5, 3) := by decide +kernel
theorem dX12_law_19 : decode cX12_law 19 = .ok (.iconst (-1), 1) := by decide +kernel
theorem dX12_law_20 : decode cX12_law 20 = .ok (.ireturn, 1) := by decide +kernel
theorem dX12_left_0 : decode cX12_left 0 = .ok (.aload_n 0, 1) := by decide +kernel
theorem dX12_left_1 : decode cX12_left 1 = .ok (.iload_n 1, 1) := by decide +kernel
theorem dX12_left_2 : decode cX12_left 2 = .ok (.invokevirtual 172, 3) := by decide +kernel
theorem dX12_left_5 : decode cX12_left 5 = .ok (.ifCond .eq 25, 3) := by decide +kernel
theorem dX12_left_30 : decode cX12_left 30 = .ok (.iconst (-1), 1) := by decide +kernel
theorem dX12_left_31 : decode cX12_left 31 = .ok (.ireturn, 1) := by decide +kernel
theorem dX12_may_0 : decode cX12_may 0 = .ok (.aload_n 0, 1) := by decide +kernel
theorem dX12_may_1 : decode cX12_may 1 = .ok (.iload_n 1, 1) := by decide +kernel
theorem dX12_may_2 : decode cX12_may 2 = .ok (.invokevirtual 172, 3) := by decide +kernel
theorem dX12_may_5 : decode cX12_may 5 = .ok (.ifCond .eq 33, 3) := by decide +kernel
theorem dX12_may_38 : decode cX12_may 38 = .ok (.iconst (-1), 1) := by decide +kernel
theorem dX12_may_39 : decode cX12_may 39 = .ok (.ireturn, 1) := by decide +kernel
theorem dX12_seed_0 : decode cX12_seed 0 = .ok (.iload_n 1, 1) := by decide +kernel
theorem dX12_seed_1 : decode cX12_seed 1 = .ok (.iconst 0, 1) := by decide +kernel
theorem dX12_seed_2 : decode cX12_seed 2 = .ok (.ldc_w 463, 3) := by decide +kernel
theorem dX12_seed_5 : decode cX12_seed 5 = .ok (.invokestatic 161, 3) := by decide +kernel
theorem dX12_seed_8 : decode cX12_seed 8 = .ok (.ifCond .ne 5, 3) := by decide +kernel
theorem dX12_seed_11 : decode cX12_seed 11 = .ok (.iconst 0, 1) := by decide +kernel
theorem dX12_seed_12 : decode cX12_seed 12 = .ok (.ireturn, 1) := by decide +kernel
theorem dX12_seed_13 : decode cX12_seed 13 = .ok (.aload_n 0, 1) := by decide +kernel
theorem dX12_seed_14 : decode cX12_seed 14 = .ok (.iload_n 1, 1) := by decide +kernel
theorem dX12_seed_15 : decode cX12_seed 15 = .ok (.putfield 148, 3) := by decide +kernel
theorem dX12_seed_18 : decode cX12_seed 18 = .ok (.iconst 1, 1) := by decide +kernel
theorem dX12_seed_19 : decode cX12_seed 19 = .ok (.ireturn, 1) := by decide +kernel
theorem dX12_shortest_0 : decode cX12_shortest 0 = .ok (.aload_n 0, 1) := by decide +kernel
theorem dX12_shortest_1 : decode cX12_shortest 1 = .ok (.iload_n 1, 1) := by decide +kernel
theorem dX12_shortest_2 : decode cX12_shortest 2 = .ok (.iconst 2, 1) := by decide +kernel
theorem dX12_shortest_3 : decode cX12_shortest 3 = .ok (.iconst 4, 1) := by decide +kernel
theorem dX12_shortest_4 : decode cX12_shortest 4 = .ok (.invokevirtual 391, 3) := by decide +kernel
theorem dX12_shortest_7 : decode cX12_shortest 7 = .ok (.ifCond .eq 8, 3) := by decide +kernel
theorem dX12_shortest_15 : decode cX12_shortest 15 = .ok (.iconst (-1), 1) := by decide +kernel
theorem dX12_shortest_16 : decode cX12_shortest 16 = .ok (.ireturn, 1) := by decide +kernel
theorem dX12_shortestMany_0 : decode cX12_shortestMany 0 = .ok (.aload_n 0, 1) := by decide +kernel
theorem dX12_shortestMany_1 : decode cX12_shortestMany 1 = .ok (.iload_n 1, 1) := by decide +kernel
theorem dX12_shortestMany_2 : decode cX12_shortestMany 2 = .ok (.iconst 2, 1) := by decide +kernel
theorem dX12_shortestMany_3 : decode cX12_shortestMany 3 = .ok (.iconst 4, 1) := by decide +kernel
theorem dX12_shortestMany_4 : decode cX12_shortestMany 4 = .ok (.invokevirtual 391, 3) := by decide +kernel
theorem dX12_shortestMany_7 : decode cX12_shortestMany 7 = .ok (.ifCond .ne 7, 3) := by decide +kernel
theorem dX12_shortestMany_10 : decode cX12_shortestMany 10 = .ok (.ldc2_w 332, 3) := by decide +kernel
theorem dX12_shortestMany_13 : decode cX12_shortestMany 13 = .ok (.lreturn, 1) := by decide +kernel
theorem dX12_spare_0 : decode cX12_spare 0 = .ok (.aload_n 0, 1) := by decide +kernel
theorem dX12_spare_1 : decode cX12_spare 1 = .ok (.iload_n 1, 1) := by decide +kernel
theorem dX12_spare_2 : decode cX12_spare 2 = .ok (.invokevirtual 172, 3) := by decide +kernel
theorem dX12_spare_5 : decode cX12_spare 5 = .ok (.ifCond .eq 15, 3) := by decide +kernel
theorem dX12_spare_20 : decode cX12_spare 20 = .ok (.ldc2_w 332, 3) := by decide +kernel
theorem dX12_spare_23 : decode cX12_spare 23 = .ok (.lreturn, 1) := by decide +kernel
theorem dX12_spreads_0 : decode cX12_spreads 0 = .ok (.iload_n 1, 1) := by decide +kernel
theorem dX12_spreads_1 : decode cX12_spreads 1 = .ok (.iconst 0, 1) := by decide +kernel
theorem dX12_spreads_2 : decode cX12_spreads 2 = .ok (.sipush 255, 3) := by decide +kernel
theorem dX12_spreads_5 : decode cX12_spreads 5 = .ok (.invokestatic 161, 3) := by decide +kernel
theorem dX12_spreads_8 : decode cX12_spreads 8 = .ok (.ifCond .eq 30, 3) := by decide +kernel
theorem dX12_spreads_11 : decode cX12_spreads 11 = .ok (.iload_n 1, 1) := by decide +kernel
theorem dX12_spreads_12 : decode cX12_spreads 12 = .ok (.aload_n 0, 1) := by decide +kernel
theorem dX12_spreads_13 : decode cX12_spreads 13 = .ok (.getfield 155, 3) := by decide +kernel
theorem dX12_spreads_16 : decode cX12_spreads 16 = .ok (.iconst (-1), 1) := by decide +kernel
theorem dX12_spreads_17 : decode cX12_spreads 17 = .ok (.ixor, 1) := by decide +kernel
theorem dX12_spreads_18 : decode cX12_spreads 18 = .ok (.iand, 1) := by decide +kernel
theorem dX12_spreads_19 : decode cX12_spreads 19 = .ok (.ifCond .ne 19, 3) := by decide +kernel
theorem dX12_spreads_22 : decode cX12_spreads 22 = .ok (.iload_n 1, 1) := by decide +kernel
theorem dX12_spreads_23 : decode cX12_spreads 23 = .ok (.invokestatic 366, 3) := by decide +kernel
theorem dX12_spreads_26 : decode cX12_spreads 26 = .ok (.iload_n 2, 1) := by decide +kernel
theorem dX12_spreads_27 : decode cX12_spreads 27 = .ok (.if_icmp .lt 11, 3) := by decide +kernel
theorem dX12_spreads_38 : decode cX12_spreads 38 = .ok (.iconst 0, 1) := by decide +kernel
theorem dX12_spreads_39 : decode cX12_spreads 39 = .ok (.ireturn, 1) := by decide +kernel
theorem dX12_strike_0 : decode cX12_strike 0 = .ok (.aload_n 0, 1) := by decide +kernel
theorem dX12_strike_1 : decode cX12_strike 1 = .ok (.iload_n 1, 1) := by decide +kernel
theorem dX12_strike_2 : decode cX12_strike 2 = .ok (.invokevirtual 172, 3) := by decide +kernel
theorem dX12_strike_5 : decode cX12_strike 5 = .ok (.ifCond .eq 36, 3) := by decide +kernel
theorem dX12_strike_41 : decode cX12_strike 41 = .ok (.iconst (-1), 1) := by decide +kernel
theorem dX12_strike_42 : decode cX12_strike 42 = .ok (.ireturn, 1) := by decide +kernel
theorem dX12_strokes_0 : decode cX12_strokes 0 = .ok (.aload_n 0, 1) := by decide +kernel
theorem dX12_strokes_1 : decode cX12_strokes 1 = .ok (.iload_n 1, 1) := by decide +kernel
theorem dX12_strokes_2 : decode cX12_strokes 2 = .ok (.iload_n 2, 1) := by decide +kernel
theorem dX12_strokes_3 : decode cX12_strokes 3 = .ok (.invokevirtual 329, 3) := by decide +kernel
theorem dX12_strokes_6 : decode cX12_strokes 6 = .ok (.ifCond .eq 13, 3) := by decide +kernel
theorem dX12_strokes_19 : decode cX12_strokes 19 = .ok (.iconst (-1), 1) := by decide +kernel
theorem dX12_strokes_20 : decode cX12_strokes 20 = .ok (.ireturn, 1) := by decide +kernel
theorem dX12_types_0 : decode cX12_types 0 = .ok (.iconst 3, 1) := by decide +kernel
theorem dX12_types_1 : decode cX12_types 1 = .ok (.istore_n 2, 1) := by decide +kernel
theorem dX12_types_2 : decode cX12_types 2 = .ok (.iload_n 2, 1) := by decide +kernel
theorem dX12_types_3 : decode cX12_types 3 = .ok (.ifCond .lt 35, 3) := by decide +kernel
theorem dX12_types_6 : decode cX12_types 6 = .ok (.aload_n 0, 1) := by decide +kernel
theorem dX12_types_7 : decode cX12_types 7 = .ok (.getfield 26, 3) := by decide +kernel
theorem dX12_types_10 : decode cX12_types 10 = .ok (.aload_n 0, 1) := by decide +kernel
theorem dX12_types_11 : decode cX12_types 11 = .ok (.getfield 165, 3) := by decide +kernel
theorem dX12_types_14 : decode cX12_types 14 = .ok (.iload_n 1, 1) := by decide +kernel
theorem dX12_types_15 : decode cX12_types 15 = .ok (.bipush 8, 2) := by decide +kernel
theorem dX12_types_17 : decode cX12_types 17 = .ok (.iload_n 2, 1) := by decide +kernel
theorem dX12_types_18 : decode cX12_types 18 = .ok (.imul, 1) := by decide +kernel
theorem dX12_types_19 : decode cX12_types 19 = .ok (.ishr, 1) := by decide +kernel
theorem dX12_types_20 : decode cX12_types 20 = .ok (.i2b, 1) := by decide +kernel
theorem dX12_types_21 : decode cX12_types 21 = .ok (.bastore, 1) := by decide +kernel
theorem dX12_types_22 : decode cX12_types 22 = .ok (.aload_n 0, 1) := by decide +kernel
theorem dX12_types_23 : decode cX12_types 23 = .ok (.aload_n 0, 1) := by decide +kernel
theorem dX12_types_24 : decode cX12_types 24 = .ok (.getfield 165, 3) := by decide +kernel
theorem dX12_types_27 : decode cX12_types 27 = .ok (.iconst 1, 1) := by decide +kernel
theorem dX12_types_28 : decode cX12_types 28 = .ok (.iadd, 1) := by decide +kernel
theorem dX12_types_29 : decode cX12_types 29 = .ok (.putfield 165, 3) := by decide +kernel
theorem dX12_types_32 : decode cX12_types 32 = .ok (.iinc 2 (-1), 3) := by decide +kernel
theorem dX12_types_35 : decode cX12_types 35 = .ok (.goto (-33), 3) := by decide +kernel
theorem dX12_types_38 : decode cX12_types 38 = .ok (.return_, 1) := by decide +kernel
theorem dX12_ways_0 : decode cX12_ways 0 = .ok (.aload_n 0, 1) := by decide +kernel
theorem dX12_ways_1 : decode cX12_ways 1 = .ok (.iload_n 1, 1) := by decide +kernel
theorem dX12_ways_2 : decode cX12_ways 2 = .ok (.iload_n 2, 1) := by decide +kernel
theorem dX12_ways_3 : decode cX12_ways 3 = .ok (.invokevirtual 329, 3) := by decide +kernel
theorem dX12_ways_6 : decode cX12_ways 6 = .ok (.ifCond .ne 7, 3) := by decide +kernel
theorem dX12_ways_9 : decode cX12_ways 9 = .ok (.ldc2_w 332, 3) := by decide +kernel
theorem dX12_ways_12 : decode cX12_ways 12 = .ok (.lreturn, 1) := by decide +kernel
theorem dX12_worth_0 : decode cX12_worth 0 = .ok (.aload_n 0, 1) := by decide +kernel
theorem dX12_worth_1 : decode cX12_worth 1 = .ok (.iload_n 1, 1) := by decide +kernel
theorem dX12_worth_2 : decode cX12_worth 2 = .ok (.invokevirtual 172, 3) := by decide +kernel
theorem dX12_worth_5 : decode cX12_worth 5 = .ok (.ifCond .eq 24, 3) := by decide +kernel
theorem dX12_worth_29 : decode cX12_worth 29 = .ok (.sipush (-1000), 3) := by decide +kernel
theorem dX12_worth_32 : decode cX12_worth 32 = .ok (.ireturn, 1) := by decide +kernel
theorem dX1_costOfAll_0 : decode cX1_costOfAll 0 = .ok (.iconst 0, 1) := by decide +kernel
theorem dX1_costOfAll_1 : decode cX1_costOfAll 1 = .ok (.istore_n 1, 1) := by decide +kernel
theorem dX1_costOfAll_2 : decode cX1_costOfAll 2 = .ok (.iconst 0, 1) := by decide +kernel
theorem dX1_costOfAll_3 : decode cX1_costOfAll 3 = .ok (.istore_n 2, 1) := by decide +kernel
theorem dX1_costOfAll_4 : decode cX1_costOfAll 4 = .ok (.iload_n 2, 1) := by decide +kernel
theorem dX1_costOfAll_5 : decode cX1_costOfAll 5 = .ok (.aload_n 0, 1) := by decide +kernel
theorem dX1_costOfAll_6 : decode cX1_costOfAll 6 = .ok (.getfield 30, 3) := by decide +kernel
theorem dX1_costOfAll_9 : decode cX1_costOfAll 9 = .ok (.if_icmp .ge 18, 3) := by decide +kernel
theorem dX1_costOfAll_27 : decode cX1_costOfAll 27 = .ok (.iload_n 1, 1) := by decide +kernel
theorem dX1_costOfAll_28 : decode cX1_costOfAll 28 = .ok (.ireturn, 1) := by decide +kernel
theorem dX1_init_0 : decode cX1_init 0 = .ok (.aload_n 0, 1) := by decide +kernel
theorem dX1_init_1 : decode cX1_init 1 = .ok (.invokespecial 3, 3) := by decide +kernel
theorem dX1_init_4 : decode cX1_init 4 = .ok (.aload_n 0, 1) := by decide +kernel
theorem dX1_init_5 : decode cX1_init 5 = .ok (.bipush 60, 2) := by decide +kernel
theorem dX1_init_7 : decode cX1_init 7 = .ok (.newarray .int, 2) := by decide +kernel
theorem dX1_init_9 : decode cX1_init 9 = .ok (.putfield 9, 3) := by decide +kernel
theorem dX1_init_12 : decode cX1_init 12 = .ok (.aload_n 0, 1) := by decide +kernel
theorem dX1_init_13 : decode cX1_init 13 = .ok (.bipush 60, 2) := by decide +kernel
theorem dX1_init_15 : decode cX1_init 15 = .ok (.newarray .int, 2) := by decide +kernel
theorem dX1_init_17 : decode cX1_init 17 = .ok (.putfield 15, 3) := by decide +kernel
theorem dX1_init_20 : decode cX1_init 20 = .ok (.aload_n 0, 1) := by decide +kernel
theorem dX1_init_21 : decode cX1_init 21 = .ok (.bipush 60, 2) := by decide +kernel
theorem dX1_init_23 : decode cX1_init 23 = .ok (.newarray .int, 2) := by decide +kernel
theorem dX1_init_25 : decode cX1_init 25 = .ok (.putfield 18, 3) := by decide +kernel
theorem dX1_init_28 : decode cX1_init 28 = .ok (.aload_n 0, 1) := by decide +kernel
theorem dX1_init_29 : decode cX1_init 29 = .ok (.bipush 60, 2) := by decide +kernel
theorem dX1_init_31 : decode cX1_init 31 = .ok (.newarray .int, 2) := by decide +kernel
theorem dX1_init_33 : decode cX1_init 33 = .ok (.putfield 21, 3) := by decide +kernel
theorem dX1_init_36 : decode cX1_init 36 = .ok (.aload_n 0, 1) := by decide +kernel
theorem dX1_init_37 : decode cX1_init 37 = .ok (.bipush 60, 2) := by decide +kernel
theorem dX1_init_39 : decode cX1_init 39 = .ok (.newarray .int, 2) := by decide +kernel
theorem dX1_init_41 : decode cX1_init 41 = .ok (.putfield 24, 3) := by decide +kernel
theorem dX1_init_44 : decode cX1_init 44 = .ok (.aload_n 0, 1) := by decide +kernel
theorem dX1_init_45 : decode cX1_init 45 = .ok (.sipush 540, 3) := by decide +kernel
theorem dX1_init_48 : decode cX1_init 48 = .ok (.newarray .int, 2) := by decide +kernel
theorem dX1_init_50 : decode cX1_init 50 = .ok (.putfield 27, 3) := by decide +kernel
theorem dX1_init_53 : decode cX1_init 53 = .ok (.aload_n 0, 1) := by decide +kernel
theorem dX1_init_54 : decode cX1_init 54 = .ok (.iconst 0, 1) := by decide +kernel
theorem dX1_init_55 : decode cX1_init 55 = .ok (.putfield 30, 3) := by decide +kernel
theorem dX1_init_58 : decode cX1_init 58 = .ok (.return_, 1) := by decide +kernel
theorem dX1_lastOf_0 : decode cX1_lastOf 0 = .ok (.aload_n 0, 1) := by decide +kernel
theorem dX1_lastOf_1 : decode cX1_lastOf 1 = .ok (.getfield 30, 3) := by decide +kernel
theorem dX1_lastOf_4 : decode cX1_lastOf 4 = .ok (.iconst 1, 1) := by decide +kernel
theorem dX1_lastOf_5 : decode cX1_lastOf 5 = .ok (.isub, 1) := by decide +kernel
theorem dX1_lastOf_6 : decode cX1_lastOf 6 = .ok (.istore_n 2, 1) := by decide +kernel
theorem dX1_lastOf_7 : decode cX1_lastOf 7 = .ok (.iload_n 2, 1) := by decide +kernel
theorem dX1_lastOf_8 : decode cX1_lastOf 8 = .ok (.ifCond .lt 21, 3) := by decide +kernel
theorem dX1_lastOf_29 : decode cX1_lastOf 29 = .ok (.iconst (-1), 1) := by decide +kernel
theorem dX1_lastOf_30 : decode cX1_lastOf 30 = .ok (.ireturn, 1) := by decide +kernel
theorem dX1_tell_0 : decode cX1_tell 0 = .ok (.iload_n 1, 1) := by decide +kernel
theorem dX1_tell_1 : decode cX1_tell 1 = .ok (.ifCond .lt 11, 3) := by decide +kernel
theorem dX1_tell_4 : decode cX1_tell 4 = .ok (.iload_n 1, 1) := by decide +kernel
theorem dX1_tell_5 : decode cX1_tell 5 = .ok (.aload_n 0, 1) := by decide +kernel
theorem dX1_tell_6 : decode cX1_tell 6 = .ok (.getfield 30, 3) := by decide +kernel
theorem dX1_tell_9 : decode cX1_tell 9 = .ok (.if_icmp .lt 7, 3) := by decide +kernel
theorem dX1_tell_12 : decode cX1_tell 12 = .ok (.sipush (-1000), 3) := by decide +kernel
theorem dX1_tell_15 : decode cX1_tell 15 = .ok (.ireturn, 1) := by decide +kernel
theorem dX2_init_0 : decode cX2_init 0 = .ok (.aload_n 0, 1) := by decide +kernel
theorem dX2_init_1 : decode cX2_init 1 = .ok (.invokespecial 3, 3) := by decide +kernel
theorem dX2_init_4 : decode cX2_init 4 = .ok (.aload_n 0, 1) := by decide +kernel
theorem dX2_init_5 : decode cX2_init 5 = .ok (.bipush 40, 2) := by decide +kernel
theorem dX2_init_7 : decode cX2_init 7 = .ok (.newarray .boolean, 2) := by decide +kernel
theorem dX2_init_9 : decode cX2_init 9 = .ok (.putfield 9, 3) := by decide +kernel
theorem dX2_init_12 : decode cX2_init 12 = .ok (.aload_n 0, 1) := by decide +kernel
theorem dX2_init_13 : decode cX2_init 13 = .ok (.bipush 40, 2) := by decide +kernel
theorem dX2_init_15 : decode cX2_init 15 = .ok (.newarray .int, 2) := by decide +kernel
theorem dX2_init_17 : decode cX2_init 17 = .ok (.putfield 15, 3) := by decide +kernel
theorem dX2_init_20 : decode cX2_init 20 = .ok (.aload_n 0, 1) := by decide +kernel
theorem dX2_init_21 : decode cX2_init 21 = .ok (.bipush 16, 2) := by decide +kernel
theorem dX2_init_23 : decode cX2_init 23 = .ok (.newarray .int, 2) := by decide +kernel
theorem dX2_init_25 : decode cX2_init 25 = .ok (.putfield 19, 3) := by decide +kernel
theorem dX2_init_28 : decode cX2_init 28 = .ok (.aload_n 0, 1) := by decide +kernel
theorem dX2_init_29 : decode cX2_init 29 = .ok (.sipush 697, 3) := by decide +kernel
theorem dX2_init_32 : decode cX2_init 32 = .ok (.newarray .int, 2) := by decide +kernel
theorem dX2_init_34 : decode cX2_init 34 = .ok (.putfield 22, 3) := by decide +kernel
theorem dX2_init_37 : decode cX2_init 37 = .ok (.return_, 1) := by decide +kernel
theorem dX4_init_0 : decode cX4_init 0 = .ok (.aload_n 0, 1) := by decide +kernel
theorem dX4_init_1 : decode cX4_init 1 = .ok (.invokespecial 3, 3) := by decide +kernel
theorem dX4_init_4 : decode cX4_init 4 = .ok (.aload_n 0, 1) := by decide +kernel
theorem dX4_init_5 : decode cX4_init 5 = .ok (.bipush 41, 2) := by decide +kernel
theorem dX4_init_7 : decode cX4_init 7 = .ok (.newarray .int, 2) := by decide +kernel
theorem dX4_init_9 : decode cX4_init 9 = .ok (.putfield 9, 3) := by decide +kernel
theorem dX4_init_12 : decode cX4_init 12 = .ok (.aload_n 0, 1) := by decide +kernel
theorem dX4_init_13 : decode cX4_init 13 = .ok (.bipush 41, 2) := by decide +kernel
theorem dX4_init_15 : decode cX4_init 15 = .ok (.newarray .long, 2) := by decide +kernel
theorem dX4_init_17 : decode cX4_init 17 = .ok (.putfield 15, 3) := by decide +kernel
theorem dX4_init_20 : decode cX4_init 20 = .ok (.return_, 1) := by decide +kernel
theorem dX5_init_0 : decode cX5_init 0 = .ok (.aload_n 0, 1) := by decide +kernel
theorem dX5_init_1 : decode cX5_init 1 = .ok (.invokespecial 3, 3) := by decide +kernel
theorem dX5_init_4 : decode cX5_init 4 = .ok (.aload_n 0, 1) := by decide +kernel
theorem dX5_init_5 : decode cX5_init 5 = .ok (.new 9, 3) := by decide +kernel
theorem dX5_init_8 : decode cX5_init 8 = .ok (.dup, 1) := by decide +kernel
theorem dX5_init_9 : decode cX5_init 9 = .ok (.bipush 16, 2) := by decide +kernel
theorem dX5_init_11 : decode cX5_init 11 = .ok (.invokespecial 11, 3) := by decide +kernel
theorem dX5_init_14 : decode cX5_init 14 = .ok (.putfield 14, 3) := by decide +kernel
theorem dX5_init_17 : decode cX5_init 17 = .ok (.aload_n 0, 1) := by decide +kernel
theorem dX5_init_18 : decode cX5_init 18 = .ok (.iconst 0, 1) := by decide +kernel
theorem dX5_init_19 : decode cX5_init 19 = .ok (.putfield 20, 3) := by decide +kernel
theorem dX5_init_22 : decode cX5_init 22 = .ok (.aload_n 0, 1) := by decide +kernel
theorem dX5_init_23 : decode cX5_init 23 = .ok (.sipush 4913, 3) := by decide +kernel
theorem dX5_init_26 : decode cX5_init 26 = .ok (.newarray .int, 2) := by decide +kernel
theorem dX5_init_28 : decode cX5_init 28 = .ok (.putfield 24, 3) := by decide +kernel
theorem dX5_init_31 : decode cX5_init 31 = .ok (.return_, 1) := by decide +kernel
theorem dX6_init_0 : decode cX6_init 0 = .ok (.aload_n 0, 1) := by decide +kernel
theorem dX6_init_1 : decode cX6_init 1 = .ok (.invokespecial 3, 3) := by decide +kernel
theorem dX6_init_4 : decode cX6_init 4 = .ok (.aload_n 0, 1) := by decide +kernel
theorem dX6_init_5 : decode cX6_init 5 = .ok (.sipush 160, 3) := by decide +kernel
theorem dX6_init_8 : decode cX6_init 8 = .ok (.newarray .int, 2) := by decide +kernel
theorem dX6_init_10 : decode cX6_init 10 = .ok (.putfield 9, 3) := by decide +kernel
theorem dX6_init_13 : decode cX6_init 13 = .ok (.aload_n 0, 1) := by decide +kernel
theorem dX6_init_14 : decode cX6_init 14 = .ok (.sipush 160, 3) := by decide +kernel
theorem dX6_init_17 : decode cX6_init 17 = .ok (.newarray .int, 2) := by decide +kernel
theorem dX6_init_19 : decode cX6_init 19 = .ok (.putfield 15, 3) := by decide +kernel
theorem dX6_init_22 : decode cX6_init 22 = .ok (.aload_n 0, 1) := by decide +kernel
theorem dX6_init_23 : decode cX6_init 23 = .ok (.iconst 0, 1) := by decide +kernel
theorem dX6_init_24 : decode cX6_init 24 = .ok (.putfield 18, 3) := by decide +kernel
theorem dX6_init_27 : decode cX6_init 27 = .ok (.aload_n 0, 1) := by decide +kernel
theorem dX6_init_28 : decode cX6_init 28 = .ok (.bipush 12, 2) := by decide +kernel
theorem dX6_init_30 : decode cX6_init 30 = .ok (.newarray .int, 2) := by decide +kernel
theorem dX6_init_32 : decode cX6_init 32 = .ok (.putfield 22, 3) := by decide +kernel
theorem dX6_init_35 : decode cX6_init 35 = .ok (.aload_n 0, 1) := by decide +kernel
theorem dX6_init_36 : decode cX6_init 36 = .ok (.bipush 12, 2) := by decide +kernel
theorem dX6_init_38 : decode cX6_init 38 = .ok (.newarray .int, 2) := by decide +kernel
theorem dX6_init_40 : decode cX6_init 40 = .ok (.putfield 25, 3) := by decide +kernel
theorem dX6_init_43 : decode cX6_init 43 = .ok (.aload_n 0, 1) := by decide +kernel
theorem dX6_init_44 : decode cX6_init 44 = .ok (.bipush 12, 2) := by decide +kernel
theorem dX6_init_46 : decode cX6_init 46 = .ok (.newarray .int, 2) := by decide +kernel
theorem dX6_init_48 : decode cX6_init 48 = .ok (.putfield 28, 3) := by decide +kernel
theorem dX6_init_51 : decode cX6_init 51 = .ok (.aload_n 0, 1) := by decide +kernel
theorem dX6_init_52 : decode cX6_init 52 = .ok (.bipush 12, 2) := by decide +kernel
theorem dX6_init_54 : decode cX6_init 54 = .ok (.newarray .int, 2) := by decide +kernel
theorem dX6_init_56 : decode cX6_init 56 = .ok (.putfield 31, 3) := by decide +kernel
theorem dX6_init_59 : decode cX6_init 59 = .ok (.aload_n 0, 1) := by decide +kernel
theorem dX6_init_60 : decode cX6_init 60 = .ok (.iconst 0, 1) := by decide +kernel
theorem dX6_init_61 : decode cX6_init 61 = .ok (.putfield 34, 3) := by decide +kernel
theorem dX6_init_64 : decode cX6_init 64 = .ok (.aload_n 0, 1) := by decide +kernel
theorem dX6_init_65 : decode cX6_init 65 = .ok (.bipush 10, 2) := by decide +kernel
theorem dX6_init_67 : decode cX6_init 67 = .ok (.newarray .int, 2) := by decide +kernel
theorem dX6_init_69 : decode cX6_init 69 = .ok (.putfield 37, 3) := by decide +kernel
theorem dX6_init_72 : decode cX6_init 72 = .ok (.aload_n 0, 1) := by decide +kernel
theorem dX6_init_73 : decode cX6_init 73 = .ok (.bipush 32, 2) := by decide +kernel
theorem dX6_init_75 : decode cX6_init 75 = .ok (.newarray .int, 2) := by decide +kernel
theorem dX6_init_77 : decode cX6_init 77 = .ok (.putfield 40, 3) := by decide +kernel
theorem dX6_init_80 : decode cX6_init 80 = .ok (.aload_n 0, 1) := by decide +kernel
theorem dX6_init_81 : decode cX6_init 81 = .ok (.iconst 0, 1) := by decide +kernel
theorem dX6_init_82 : decode cX6_init 82 = .ok (.putfield 43, 3) := by decide +kernel
theorem dX6_init_85 : decode cX6_init 85 = .ok (.aload_n 0, 1) := by decide +kernel
theorem dX6_init_86 : decode cX6_init 86 = .ok (.iconst 0, 1) := by decide +kernel
theorem dX6_init_87 : decode cX6_init 87 = .ok (.putfield 46, 3) := by decide +kernel
theorem dX6_init_90 : decode cX6_init 90 = .ok (.return_, 1) := by decide +kernel
theorem dX7_init_0 : decode cX7_init 0 = .ok (.aload_n 0, 1) := by decide +kernel
theorem dX7_init_1 : decode cX7_init 1 = .ok (.invokespecial 3, 3) := by decide +kernel
theorem dX7_init_4 : decode cX7_init 4 = .ok (.aload_n 0, 1) := by decide +kernel
theorem dX7_init_5 : decode cX7_init 5 = .ok (.sipush 160, 3) := by decide +kernel
theorem dX7_init_8 : decode cX7_init 8 = .ok (.newarray .int, 2) := by decide +kernel
theorem dX7_init_10 : decode cX7_init 10 = .ok (.putfield 9, 3) := by decide +kernel
theorem dX7_init_13 : decode cX7_init 13 = .ok (.aload_n 0, 1) := by decide +kernel
theorem dX7_init_14 : decode cX7_init 14 = .ok (.new 15, 3) := by decide +kernel
theorem dX7_init_17 : decode cX7_init 17 = .ok (.dup, 1) := by decide +kernel
theorem dX7_init_18 : decode cX7_init 18 = .ok (.invokespecial 17, 3) := by decide +kernel
theorem dX7_init_21 : decode cX7_init 21 = .ok (.putfield 18, 3) := by decide +kernel
theorem dX7_init_24 : decode cX7_init 24 = .ok (.aload_n 0, 1) := by decide +kernel
theorem dX7_init_25 : decode cX7_init 25 = .ok (.iconst 0, 1) := by decide +kernel
theorem dX7_init_26 : decode cX7_init 26 = .ok (.putfield 22, 3) := by decide +kernel
theorem dX7_init_29 : decode cX7_init 29 = .ok (.aload_n 0, 1) := by decide +kernel
theorem dX7_init_30 : decode cX7_init 30 = .ok (.iconst 0, 1) := by decide +kernel
theorem dX7_init_31 : decode cX7_init 31 = .ok (.putfield 26, 3) := by decide +kernel
theorem dX7_init_34 : decode cX7_init 34 = .ok (.aload_n 0, 1) := by decide +kernel
theorem dX7_init_35 : decode cX7_init 35 = .ok (.iconst 0, 1) := by decide +kernel
theorem dX7_init_36 : decode cX7_init 36 = .ok (.putfield 29, 3) := by decide +kernel
theorem dX7_init_39 : decode cX7_init 39 = .ok (.return_, 1) := by decide +kernel
theorem dX8_init_0 : decode cX8_init 0 = .ok (.aload_n 0, 1) := by decide +kernel
theorem dX8_init_1 : decode cX8_init 1 = .ok (.invokespecial 3, 3) := by decide +kernel
theorem dX8_init_4 : decode cX8_init 4 = .ok (.aload_n 0, 1) := by decide +kernel
theorem dX8_init_5 : decode cX8_init 5 = .ok (.iconst 0, 1) := by decide +kernel
theorem dX8_init_6 : decode cX8_init 6 = .ok (.putfield 9, 3) := by decide +kernel
theorem dX8_init_9 : decode cX8_init 9 = .ok (.aload_n 0, 1) := by decide +kernel
theorem dX8_init_10 : decode cX8_init 10 = .ok (.iload_n 1, 1) := by decide +kernel
theorem dX8_init_11 : decode cX8_init 11 = .ok (.iconst 0, 1) := by decide +kernel
theorem dX8_init_12 : decode cX8_init 12 = .ok (.invokestatic 15, 3) := by decide +kernel
theorem dX8_init_15 : decode cX8_init 15 = .ok (.newarray .int, 2) := by decide +kernel
theorem dX8_init_17 : decode cX8_init 17 = .ok (.putfield 21, 3) := by decide +kernel
theorem dX8_init_20 : decode cX8_init 20 = .ok (.return_, 1) := by decide +kernel
theorem dX9_init_0 : decode cX9_init 0 = .ok (.aload_n 0, 1) := by decide +kernel
theorem dX9_init_1 : decode cX9_init 1 = .ok (.invokespecial 3, 3) := by decide +kernel
theorem dX9_init_4 : decode cX9_init 4 = .ok (.aload_n 0, 1) := by decide +kernel
theorem dX9_init_5 : decode cX9_init 5 = .ok (.bipush 8, 2) := by decide +kernel
theorem dX9_init_7 : decode cX9_init 7 = .ok (.newarray .int, 2) := by decide +kernel
theorem dX9_init_9 : decode cX9_init 9 = .ok (.putfield 9, 3) := by decide +kernel
theorem dX9_init_12 : decode cX9_init 12 = .ok (.aload_n 0, 1) := by decide +kernel
theorem dX9_init_13 : decode cX9_init 13 = .ok (.iconst 0, 1) := by decide +kernel
theorem dX9_init_14 : decode cX9_init 14 = .ok (.putfield 15, 3) := by decide +kernel
theorem dX9_init_17 : decode cX9_init 17 = .ok (.aload_n 0, 1) := by decide +kernel
theorem dX9_init_18 : decode cX9_init 18 = .ok (.iconst 0, 1) := by decide +kernel
theorem dX9_init_19 : decode cX9_init 19 = .ok (.putfield 19, 3) := by decide +kernel
theorem dX9_init_22 : decode cX9_init 22 = .ok (.aload_n 0, 1) := by decide +kernel
theorem dX9_init_23 : decode cX9_init 23 = .ok (.bipush 64, 2) := by decide +kernel
theorem dX9_init_25 : decode cX9_init 25 = .ok (.newarray .int, 2) := by decide +kernel
theorem dX9_init_27 : decode cX9_init 27 = .ok (.putfield 22, 3) := by decide +kernel
theorem dX9_init_30 : decode cX9_init 30 = .ok (.aload_n 0, 1) := by decide +kernel
theorem dX9_init_31 : decode cX9_init 31 = .ok (.sipush 2304, 3) := by decide +kernel
theorem dX9_init_34 : decode cX9_init 34 = .ok (.newarray .int, 2) := by decide +kernel
theorem dX9_init_36 : decode cX9_init 36 = .ok (.putfield 25, 3) := by decide +kernel
theorem dX9_init_39 : decode cX9_init 39 = .ok (.return_, 1) := by decide +kernel
