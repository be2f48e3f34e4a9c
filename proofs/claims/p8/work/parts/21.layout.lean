/-! the layout: the cells of the class (0 to 122) and of the reference (123 to 168) as their constructors leave them: written by wip/gen/layout.py -/
abbrev ds0 : List (Option (Nat ⊕ Nat)) := [some (.inl 1), some (.inl 3), none, some (.inl 60), some (.inr 1), some (.inl 86), some (.inl 97), none, none, some (.inl 104), some (.inl 107), some (.inl 112), some (.inr 2), some (.inl 116), some (.inl 120), some (.inl 121), some (.inl 122)]
abbrev ds1 : List (Option (Nat ⊕ Nat)) := [some (.inl 2), none]
abbrev ds4 : List (Option (Nat ⊕ Nat)) := [some (.inl 5), some (.inl 7), some (.inl 9), some (.inl 10)]
abbrev ds5 : List (Option (Nat ⊕ Nat)) := [some (.inl 6), none]
abbrev ds7 : List (Option (Nat ⊕ Nat)) := [some (.inl 8), none]
abbrev ds11 : List (Option (Nat ⊕ Nat)) := [some (.inl 12), some (.inl 14), some (.inl 16), some (.inl 17)]
abbrev ds12 : List (Option (Nat ⊕ Nat)) := [some (.inl 13), none]
abbrev ds14 : List (Option (Nat ⊕ Nat)) := [some (.inl 15), none]
abbrev ds18 : List (Option (Nat ⊕ Nat)) := [some (.inl 19), some (.inl 21), some (.inl 23), some (.inl 24)]
abbrev ds19 : List (Option (Nat ⊕ Nat)) := [some (.inl 20), none]
abbrev ds21 : List (Option (Nat ⊕ Nat)) := [some (.inl 22), none]
abbrev ds25 : List (Option (Nat ⊕ Nat)) := [some (.inl 26), some (.inl 28), some (.inl 30), some (.inl 31)]
abbrev ds26 : List (Option (Nat ⊕ Nat)) := [some (.inl 27), none]
abbrev ds28 : List (Option (Nat ⊕ Nat)) := [some (.inl 29), none]
abbrev ds32 : List (Option (Nat ⊕ Nat)) := [some (.inl 33), some (.inl 35), some (.inl 37), some (.inl 38)]
abbrev ds33 : List (Option (Nat ⊕ Nat)) := [some (.inl 34), none]
abbrev ds35 : List (Option (Nat ⊕ Nat)) := [some (.inl 36), none]
abbrev ds39 : List (Option (Nat ⊕ Nat)) := [some (.inl 40), some (.inl 42), some (.inl 44), some (.inl 45)]
abbrev ds40 : List (Option (Nat ⊕ Nat)) := [some (.inl 41), none]
abbrev ds42 : List (Option (Nat ⊕ Nat)) := [some (.inl 43), none]
abbrev ds46 : List (Option (Nat ⊕ Nat)) := [some (.inl 47), some (.inl 49), some (.inl 51), some (.inl 52)]
abbrev ds47 : List (Option (Nat ⊕ Nat)) := [some (.inl 48), none]
abbrev ds49 : List (Option (Nat ⊕ Nat)) := [some (.inl 50), none]
abbrev ds53 : List (Option (Nat ⊕ Nat)) := [some (.inl 54), some (.inl 56), some (.inl 58), some (.inl 59)]
abbrev ds54 : List (Option (Nat ⊕ Nat)) := [some (.inl 55), none]
abbrev ds56 : List (Option (Nat ⊕ Nat)) := [some (.inl 57), none]
abbrev ds61 : List (Option (Nat ⊕ Nat)) := [some (.inl 62), none]
abbrev ds63 : List (Option (Nat ⊕ Nat)) := [some (.inl 64), none]
abbrev ds65 : List (Option (Nat ⊕ Nat)) := [some (.inl 66), none]
abbrev ds67 : List (Option (Nat ⊕ Nat)) := [some (.inl 68), none]
abbrev ds69 : List (Option (Nat ⊕ Nat)) := [some (.inl 70), none]
abbrev ds71 : List (Option (Nat ⊕ Nat)) := [some (.inl 72), none]
abbrev ds73 : List (Option (Nat ⊕ Nat)) := [some (.inl 74), none]
abbrev ds75 : List (Option (Nat ⊕ Nat)) := [some (.inl 76), none]
abbrev ds77 : List (Option (Nat ⊕ Nat)) := [some (.inl 78), some (.inl 79), none, some (.inl 80), some (.inl 81), some (.inl 82), some (.inl 83), none, some (.inl 84), some (.inl 85), none, none]
abbrev ds86 : List (Option (Nat ⊕ Nat)) := [some (.inl 87), some (.inr 3), none, none, none]
abbrev ds88 : List (Option (Nat ⊕ Nat)) := [some (.inl 89), some (.inl 90), none, some (.inl 91), some (.inl 92), some (.inl 93), some (.inl 94), none, some (.inl 95), some (.inl 96), none, none]
abbrev ds97 : List (Option (Nat ⊕ Nat)) := [some (.inl 98), some (.inl 99), some (.inl 100), some (.inl 101), some (.inl 102), some (.inl 103), none]
abbrev ds104 : List (Option (Nat ⊕ Nat)) := [some (.inl 105), some (.inl 106)]
abbrev ds107 : List (Option (Nat ⊕ Nat)) := [some (.inl 108), some (.inl 109), some (.inl 110), some (.inl 111)]
abbrev ds112 : List (Option (Nat ⊕ Nat)) := [some (.inl 113), none, some (.inl 115)]
abbrev ds113 : List (Option (Nat ⊕ Nat)) := [some (.inl 114), none]
abbrev ds116 : List (Option (Nat ⊕ Nat)) := [some (.inl 117), none, none, some (.inl 118), some (.inl 119)]
abbrev ds123 : List (Option (Nat ⊕ Nat)) := [none, none, none, none, none, some (.inl 124), some (.inl 125), some (.inl 126), some (.inl 127), some (.inl 128), some (.inl 129), none, none, none, none, none, none, none, none, none, none, some (.inl 130), some (.inl 131), some (.inl 132), some (.inl 133), some (.inl 134), some (.inl 135), some (.inl 136), some (.inl 137), some (.inl 138), some (.inl 139), some (.inl 140), some (.inl 141), some (.inl 142), some (.inl 143), some (.inl 144), some (.inl 145), some (.inl 146), some (.inl 147), some (.inl 148), none, none, some (.inl 149), some (.inl 150), some (.inl 151), some (.inl 152), some (.inl 153), some (.inl 154), some (.inl 155), some (.inl 156), none, some (.inl 157), some (.inl 158), some (.inl 159), some (.inl 160), some (.inl 161), some (.inl 162), some (.inl 163), some (.inl 164), some (.inl 165), some (.inl 166), none, some (.inl 167), some (.inl 168)]
def TL : List mv_T := [.inr (11, ds0), .inr (10, ds1), .inl (0, 200), .inl (4, 8), .inr (0, ds4), .inr (8, ds5), .inl (0, 40), .inr (8, ds7), .inl (0, 40), .inl (0, 40), .inl (1, 40), .inr (0, ds11), .inr (8, ds12), .inl (0, 40), .inr (8, ds14), .inl (0, 40), .inl (0, 40), .inl (1, 40), .inr (0, ds18), .inr (8, ds19), .inl (0, 40), .inr (8, ds21), .inl (0, 40), .inl (0, 40), .inl (1, 40), .inr (0, ds25), .inr (8, ds26), .inl (0, 40), .inr (8, ds28), .inl (0, 40), .inl (0, 40), .inl (1, 40), .inr (0, ds32), .inr (8, ds33), .inl (0, 40), .inr (8, ds35), .inl (0, 40), .inl (0, 40), .inl (1, 40), .inr (0, ds39), .inr (8, ds40), .inl (0, 40), .inr (8, ds42), .inl (0, 40), .inl (0, 40), .inl (1, 40), .inr (0, ds46), .inr (8, ds47), .inl (0, 40), .inr (8, ds49), .inl (0, 40), .inl (0, 40), .inl (1, 40), .inr (0, ds53), .inr (8, ds54), .inl (0, 40), .inr (8, ds56), .inl (0, 40), .inl (0, 40), .inl (1, 40), .inl (5, 8), .inr (8, ds61), .inl (0, 16), .inr (8, ds63), .inl (0, 16), .inr (8, ds65), .inl (0, 16), .inr (8, ds67), .inl (0, 16), .inr (8, ds69), .inl (0, 16), .inr (8, ds71), .inl (0, 16), .inr (8, ds73), .inl (0, 16), .inr (8, ds75), .inl (0, 16), .inr (6, ds77), .inl (0, 160), .inl (0, 160), .inl (0, 12), .inl (0, 12), .inl (0, 12), .inl (0, 12), .inl (0, 10), .inl (0, 32), .inr (7, ds86), .inl (0, 160), .inr (6, ds88), .inl (0, 160), .inl (0, 160), .inl (0, 12), .inl (0, 12), .inl (0, 12), .inl (0, 12), .inl (0, 10), .inl (0, 32), .inr (1, ds97), .inl (0, 60), .inl (0, 60), .inl (0, 60), .inl (0, 60), .inl (0, 60), .inl (0, 540), .inr (4, ds104), .inl (0, 41), .inl (2, 41), .inr (2, ds107), .inl (1, 40), .inl (0, 40), .inl (0, 16), .inl (0, 697), .inr (5, ds112), .inr (8, ds113), .inl (0, 16), .inl (0, 4913), .inr (9, ds116), .inl (0, 8), .inl (0, 64), .inl (0, 2304), .inl (0, 8), .inl (0, 8), .inl (0, 8), .inr (12, ds123), .inl (0, 8), .inl (0, 320), .inl (0, 8), .inl (0, 128), .inl (1, 320), .inl (3, 200), .inl (0, 180), .inl (0, 180), .inl (0, 12), .inl (0, 12), .inl (0, 12), .inl (0, 12), .inl (0, 180), .inl (0, 12), .inl (0, 12), .inl (0, 12), .inl (0, 12), .inl (0, 180), .inl (0, 10), .inl (0, 60), .inl (0, 60), .inl (0, 60), .inl (0, 60), .inl (0, 60), .inl (0, 540), .inl (0, 40), .inl (0, 16), .inl (2, 17), .inl (0, 40), .inl (0, 697), .inl (0, 16), .inl (0, 697), .inl (2, 697), .inl (0, 4), .inl (0, 4), .inl (0, 4), .inl (0, 4), .inl (0, 4913), .inl (0, 16), .inl (0, 28561), .inl (2, 28561), .inl (1, 64), .inl (0, 2304), .inl (1, 72), .inl (0, 2304)]
/-- a layout that begins so -/
def TX (T : List mv_T) : Prop := ∀ (a : Nat) (t : mv_T), TL[a]? = some t → T[a]? = some t
theorem tl0 {T : List mv_T} (h : TX T) : T[0]? = some (.inr (11, ds0)) := h 0 _ rfl
theorem tl1 {T : List mv_T} (h : TX T) : T[1]? = some (.inr (10, ds1)) := h 1 _ rfl
theorem tl2 {T : List mv_T} (h : TX T) : T[2]? = some (.inl (0, 200)) := h 2 _ rfl
theorem tl3 {T : List mv_T} (h : TX T) : T[3]? = some (.inl (4, 8)) := h 3 _ rfl
theorem tl4 {T : List mv_T} (h : TX T) : T[4]? = some (.inr (0, ds4)) := h 4 _ rfl
theorem tl5 {T : List mv_T} (h : TX T) : T[5]? = some (.inr (8, ds5)) := h 5 _ rfl
theorem tl6 {T : List mv_T} (h : TX T) : T[6]? = some (.inl (0, 40)) := h 6 _ rfl
theorem tl7 {T : List mv_T} (h : TX T) : T[7]? = some (.inr (8, ds7)) := h 7 _ rfl
theorem tl8 {T : List mv_T} (h : TX T) : T[8]? = some (.inl (0, 40)) := h 8 _ rfl
theorem tl9 {T : List mv_T} (h : TX T) : T[9]? = some (.inl (0, 40)) := h 9 _ rfl
theorem tl10 {T : List mv_T} (h : TX T) : T[10]? = some (.inl (1, 40)) := h 10 _ rfl
theorem tl11 {T : List mv_T} (h : TX T) : T[11]? = some (.inr (0, ds11)) := h 11 _ rfl
theorem tl12 {T : List mv_T} (h : TX T) : T[12]? = some (.inr (8, ds12)) := h 12 _ rfl
theorem tl13 {T : List mv_T} (h : TX T) : T[13]? = some (.inl (0, 40)) := h 13 _ rfl
theorem tl14 {T : List mv_T} (h : TX T) : T[14]? = some (.inr (8, ds14)) := h 14 _ rfl
theorem tl15 {T : List mv_T} (h : TX T) : T[15]? = some (.inl (0, 40)) := h 15 _ rfl
theorem tl16 {T : List mv_T} (h : TX T) : T[16]? = some (.inl (0, 40)) := h 16 _ rfl
theorem tl17 {T : List mv_T} (h : TX T) : T[17]? = some (.inl (1, 40)) := h 17 _ rfl
theorem tl18 {T : List mv_T} (h : TX T) : T[18]? = some (.inr (0, ds18)) := h 18 _ rfl
theorem tl19 {T : List mv_T} (h : TX T) : T[19]? = some (.inr (8, ds19)) := h 19 _ rfl
theorem tl20 {T : List mv_T} (h : TX T) : T[20]? = some (.inl (0, 40)) := h 20 _ rfl
theorem tl21 {T : List mv_T} (h : TX T) : T[21]? = some (.inr (8, ds21)) := h 21 _ rfl
theorem tl22 {T : List mv_T} (h : TX T) : T[22]? = some (.inl (0, 40)) := h 22 _ rfl
theorem tl23 {T : List mv_T} (h : TX T) : T[23]? = some (.inl (0, 40)) := h 23 _ rfl
theorem tl24 {T : List mv_T} (h : TX T) : T[24]? = some (.inl (1, 40)) := h 24 _ rfl
theorem tl25 {T : List mv_T} (h : TX T) : T[25]? = some (.inr (0, ds25)) := h 25 _ rfl
theorem tl26 {T : List mv_T} (h : TX T) : T[26]? = some (.inr (8, ds26)) := h 26 _ rfl
theorem tl27 {T : List mv_T} (h : TX T) : T[27]? = some (.inl (0, 40)) := h 27 _ rfl
theorem tl28 {T : List mv_T} (h : TX T) : T[28]? = some (.inr (8, ds28)) := h 28 _ rfl
theorem tl29 {T : List mv_T} (h : TX T) : T[29]? = some (.inl (0, 40)) := h 29 _ rfl
theorem tl30 {T : List mv_T} (h : TX T) : T[30]? = some (.inl (0, 40)) := h 30 _ rfl
theorem tl31 {T : List mv_T} (h : TX T) : T[31]? = some (.inl (1, 40)) := h 31 _ rfl
theorem tl32 {T : List mv_T} (h : TX T) : T[32]? = some (.inr (0, ds32)) := h 32 _ rfl
theorem tl33 {T : List mv_T} (h : TX T) : T[33]? = some (.inr (8, ds33)) := h 33 _ rfl
theorem tl34 {T : List mv_T} (h : TX T) : T[34]? = some (.inl (0, 40)) := h 34 _ rfl
theorem tl35 {T : List mv_T} (h : TX T) : T[35]? = some (.inr (8, ds35)) := h 35 _ rfl
theorem tl36 {T : List mv_T} (h : TX T) : T[36]? = some (.inl (0, 40)) := h 36 _ rfl
theorem tl37 {T : List mv_T} (h : TX T) : T[37]? = some (.inl (0, 40)) := h 37 _ rfl
theorem tl38 {T : List mv_T} (h : TX T) : T[38]? = some (.inl (1, 40)) := h 38 _ rfl
theorem tl39 {T : List mv_T} (h : TX T) : T[39]? = some (.inr (0, ds39)) := h 39 _ rfl
theorem tl40 {T : List mv_T} (h : TX T) : T[40]? = some (.inr (8, ds40)) := h 40 _ rfl
theorem tl41 {T : List mv_T} (h : TX T) : T[41]? = some (.inl (0, 40)) := h 41 _ rfl
theorem tl42 {T : List mv_T} (h : TX T) : T[42]? = some (.inr (8, ds42)) := h 42 _ rfl
theorem tl43 {T : List mv_T} (h : TX T) : T[43]? = some (.inl (0, 40)) := h 43 _ rfl
theorem tl44 {T : List mv_T} (h : TX T) : T[44]? = some (.inl (0, 40)) := h 44 _ rfl
theorem tl45 {T : List mv_T} (h : TX T) : T[45]? = some (.inl (1, 40)) := h 45 _ rfl
theorem tl46 {T : List mv_T} (h : TX T) : T[46]? = some (.inr (0, ds46)) := h 46 _ rfl
theorem tl47 {T : List mv_T} (h : TX T) : T[47]? = some (.inr (8, ds47)) := h 47 _ rfl
theorem tl48 {T : List mv_T} (h : TX T) : T[48]? = some (.inl (0, 40)) := h 48 _ rfl
theorem tl49 {T : List mv_T} (h : TX T) : T[49]? = some (.inr (8, ds49)) := h 49 _ rfl
theorem tl50 {T : List mv_T} (h : TX T) : T[50]? = some (.inl (0, 40)) := h 50 _ rfl
theorem tl51 {T : List mv_T} (h : TX T) : T[51]? = some (.inl (0, 40)) := h 51 _ rfl
theorem tl52 {T : List mv_T} (h : TX T) : T[52]? = some (.inl (1, 40)) := h 52 _ rfl
theorem tl53 {T : List mv_T} (h : TX T) : T[53]? = some (.inr (0, ds53)) := h 53 _ rfl
theorem tl54 {T : List mv_T} (h : TX T) : T[54]? = some (.inr (8, ds54)) := h 54 _ rfl
theorem tl55 {T : List mv_T} (h : TX T) : T[55]? = some (.inl (0, 40)) := h 55 _ rfl
theorem tl56 {T : List mv_T} (h : TX T) : T[56]? = some (.inr (8, ds56)) := h 56 _ rfl
theorem tl57 {T : List mv_T} (h : TX T) : T[57]? = some (.inl (0, 40)) := h 57 _ rfl
theorem tl58 {T : List mv_T} (h : TX T) : T[58]? = some (.inl (0, 40)) := h 58 _ rfl
theorem tl59 {T : List mv_T} (h : TX T) : T[59]? = some (.inl (1, 40)) := h 59 _ rfl
theorem tl60 {T : List mv_T} (h : TX T) : T[60]? = some (.inl (5, 8)) := h 60 _ rfl
theorem tl61 {T : List mv_T} (h : TX T) : T[61]? = some (.inr (8, ds61)) := h 61 _ rfl
theorem tl62 {T : List mv_T} (h : TX T) : T[62]? = some (.inl (0, 16)) := h 62 _ rfl
theorem tl63 {T : List mv_T} (h : TX T) : T[63]? = some (.inr (8, ds63)) := h 63 _ rfl
theorem tl64 {T : List mv_T} (h : TX T) : T[64]? = some (.inl (0, 16)) := h 64 _ rfl
theorem tl65 {T : List mv_T} (h : TX T) : T[65]? = some (.inr (8, ds65)) := h 65 _ rfl
theorem tl66 {T : List mv_T} (h : TX T) : T[66]? = some (.inl (0, 16)) := h 66 _ rfl
theorem tl67 {T : List mv_T} (h : TX T) : T[67]? = some (.inr (8, ds67)) := h 67 _ rfl
theorem tl68 {T : List mv_T} (h : TX T) : T[68]? = some (.inl (0, 16)) := h 68 _ rfl
theorem tl69 {T : List mv_T} (h : TX T) : T[69]? = some (.inr (8, ds69)) := h 69 _ rfl
theorem tl70 {T : List mv_T} (h : TX T) : T[70]? = some (.inl (0, 16)) := h 70 _ rfl
theorem tl71 {T : List mv_T} (h : TX T) : T[71]? = some (.inr (8, ds71)) := h 71 _ rfl
theorem tl72 {T : List mv_T} (h : TX T) : T[72]? = some (.inl (0, 16)) := h 72 _ rfl
theorem tl73 {T : List mv_T} (h : TX T) : T[73]? = some (.inr (8, ds73)) := h 73 _ rfl
theorem tl74 {T : List mv_T} (h : TX T) : T[74]? = some (.inl (0, 16)) := h 74 _ rfl
theorem tl75 {T : List mv_T} (h : TX T) : T[75]? = some (.inr (8, ds75)) := h 75 _ rfl
theorem tl76 {T : List mv_T} (h : TX T) : T[76]? = some (.inl (0, 16)) := h 76 _ rfl
theorem tl77 {T : List mv_T} (h : TX T) : T[77]? = some (.inr (6, ds77)) := h 77 _ rfl
theorem tl78 {T : List mv_T} (h : TX T) : T[78]? = some (.inl (0, 160)) := h 78 _ rfl
theorem tl79 {T : List mv_T} (h : TX T) : T[79]? = some (.inl (0, 160)) := h 79 _ rfl
theorem tl80 {T : List mv_T} (h : TX T) : T[80]? = some (.inl (0, 12)) := h 80 _ rfl
theorem tl81 {T : List mv_T} (h : TX T) : T[81]? = some (.inl (0, 12)) := h 81 _ rfl
theorem tl82 {T : List mv_T} (h : TX T) : T[82]? = some (.inl (0, 12)) := h 82 _ rfl
theorem tl83 {T : List mv_T} (h : TX T) : T[83]? = some (.inl (0, 12)) := h 83 _ rfl
theorem tl84 {T : List mv_T} (h : TX T) : T[84]? = some (.inl (0, 10)) := h 84 _ rfl
theorem tl85 {T : List mv_T} (h : TX T) : T[85]? = some (.inl (0, 32)) := h 85 _ rfl
theorem tl86 {T : List mv_T} (h : TX T) : T[86]? = some (.inr (7, ds86)) := h 86 _ rfl
theorem tl87 {T : List mv_T} (h : TX T) : T[87]? = some (.inl (0, 160)) := h 87 _ rfl
theorem tl88 {T : List mv_T} (h : TX T) : T[88]? = some (.inr (6, ds88)) := h 88 _ rfl
theorem tl89 {T : List mv_T} (h : TX T) : T[89]? = some (.inl (0, 160)) := h 89 _ rfl
theorem tl90 {T : List mv_T} (h : TX T) : T[90]? = some (.inl (0, 160)) := h 90 _ rfl
theorem tl91 {T : List mv_T} (h : TX T) : T[91]? = some (.inl (0, 12)) := h 91 _ rfl
theorem tl92 {T : List mv_T} (h : TX T) : T[92]? = some (.inl (0, 12)) := h 92 _ rfl
theorem tl93 {T : List mv_T} (h : TX T) : T[93]? = some (.inl (0, 12)) := h 93 _ rfl
theorem tl94 {T : List mv_T} (h : TX T) : T[94]? = some (.inl (0, 12)) := h 94 _ rfl
theorem tl95 {T : List mv_T} (h : TX T) : T[95]? = some (.inl (0, 10)) := h 95 _ rfl
theorem tl96 {T : List mv_T} (h : TX T) : T[96]? = some (.inl (0, 32)) := h 96 _ rfl
theorem tl97 {T : List mv_T} (h : TX T) : T[97]? = some (.inr (1, ds97)) := h 97 _ rfl
theorem tl98 {T : List mv_T} (h : TX T) : T[98]? = some (.inl (0, 60)) := h 98 _ rfl
theorem tl99 {T : List mv_T} (h : TX T) : T[99]? = some (.inl (0, 60)) := h 99 _ rfl
theorem tl100 {T : List mv_T} (h : TX T) : T[100]? = some (.inl (0, 60)) := h 100 _ rfl
theorem tl101 {T : List mv_T} (h : TX T) : T[101]? = some (.inl (0, 60)) := h 101 _ rfl
theorem tl102 {T : List mv_T} (h : TX T) : T[102]? = some (.inl (0, 60)) := h 102 _ rfl
theorem tl103 {T : List mv_T} (h : TX T) : T[103]? = some (.inl (0, 540)) := h 103 _ rfl
theorem tl104 {T : List mv_T} (h : TX T) : T[104]? = some (.inr (4, ds104)) := h 104 _ rfl
theorem tl105 {T : List mv_T} (h : TX T) : T[105]? = some (.inl (0, 41)) := h 105 _ rfl
theorem tl106 {T : List mv_T} (h : TX T) : T[106]? = some (.inl (2, 41)) := h 106 _ rfl
theorem tl107 {T : List mv_T} (h : TX T) : T[107]? = some (.inr (2, ds107)) := h 107 _ rfl
theorem tl108 {T : List mv_T} (h : TX T) : T[108]? = some (.inl (1, 40)) := h 108 _ rfl
theorem tl109 {T : List mv_T} (h : TX T) : T[109]? = some (.inl (0, 40)) := h 109 _ rfl
theorem tl110 {T : List mv_T} (h : TX T) : T[110]? = some (.inl (0, 16)) := h 110 _ rfl
theorem tl111 {T : List mv_T} (h : TX T) : T[111]? = some (.inl (0, 697)) := h 111 _ rfl
theorem tl112 {T : List mv_T} (h : TX T) : T[112]? = some (.inr (5, ds112)) := h 112 _ rfl
theorem tl113 {T : List mv_T} (h : TX T) : T[113]? = some (.inr (8, ds113)) := h 113 _ rfl
theorem tl114 {T : List mv_T} (h : TX T) : T[114]? = some (.inl (0, 16)) := h 114 _ rfl
theorem tl115 {T : List mv_T} (h : TX T) : T[115]? = some (.inl (0, 4913)) := h 115 _ rfl
theorem tl116 {T : List mv_T} (h : TX T) : T[116]? = some (.inr (9, ds116)) := h 116 _ rfl
theorem tl117 {T : List mv_T} (h : TX T) : T[117]? = some (.inl (0, 8)) := h 117 _ rfl
theorem tl118 {T : List mv_T} (h : TX T) : T[118]? = some (.inl (0, 64)) := h 118 _ rfl
theorem tl119 {T : List mv_T} (h : TX T) : T[119]? = some (.inl (0, 2304)) := h 119 _ rfl
theorem tl120 {T : List mv_T} (h : TX T) : T[120]? = some (.inl (0, 8)) := h 120 _ rfl
theorem tl121 {T : List mv_T} (h : TX T) : T[121]? = some (.inl (0, 8)) := h 121 _ rfl
theorem tl122 {T : List mv_T} (h : TX T) : T[122]? = some (.inl (0, 8)) := h 122 _ rfl
theorem tl123 {T : List mv_T} (h : TX T) : T[123]? = some (.inr (12, ds123)) := h 123 _ rfl
theorem tl124 {T : List mv_T} (h : TX T) : T[124]? = some (.inl (0, 8)) := h 124 _ rfl
theorem tl125 {T : List mv_T} (h : TX T) : T[125]? = some (.inl (0, 320)) := h 125 _ rfl
theorem tl126 {T : List mv_T} (h : TX T) : T[126]? = some (.inl (0, 8)) := h 126 _ rfl
theorem tl127 {T : List mv_T} (h : TX T) : T[127]? = some (.inl (0, 128)) := h 127 _ rfl
theorem tl128 {T : List mv_T} (h : TX T) : T[128]? = some (.inl (1, 320)) := h 128 _ rfl
theorem tl129 {T : List mv_T} (h : TX T) : T[129]? = some (.inl (3, 200)) := h 129 _ rfl
theorem tl130 {T : List mv_T} (h : TX T) : T[130]? = some (.inl (0, 180)) := h 130 _ rfl
theorem tl131 {T : List mv_T} (h : TX T) : T[131]? = some (.inl (0, 180)) := h 131 _ rfl
theorem tl132 {T : List mv_T} (h : TX T) : T[132]? = some (.inl (0, 12)) := h 132 _ rfl
theorem tl133 {T : List mv_T} (h : TX T) : T[133]? = some (.inl (0, 12)) := h 133 _ rfl
theorem tl134 {T : List mv_T} (h : TX T) : T[134]? = some (.inl (0, 12)) := h 134 _ rfl
theorem tl135 {T : List mv_T} (h : TX T) : T[135]? = some (.inl (0, 12)) := h 135 _ rfl
theorem tl136 {T : List mv_T} (h : TX T) : T[136]? = some (.inl (0, 180)) := h 136 _ rfl
theorem tl137 {T : List mv_T} (h : TX T) : T[137]? = some (.inl (0, 12)) := h 137 _ rfl
theorem tl138 {T : List mv_T} (h : TX T) : T[138]? = some (.inl (0, 12)) := h 138 _ rfl
theorem tl139 {T : List mv_T} (h : TX T) : T[139]? = some (.inl (0, 12)) := h 139 _ rfl
theorem tl140 {T : List mv_T} (h : TX T) : T[140]? = some (.inl (0, 12)) := h 140 _ rfl
theorem tl141 {T : List mv_T} (h : TX T) : T[141]? = some (.inl (0, 180)) := h 141 _ rfl
theorem tl142 {T : List mv_T} (h : TX T) : T[142]? = some (.inl (0, 10)) := h 142 _ rfl
theorem tl143 {T : List mv_T} (h : TX T) : T[143]? = some (.inl (0, 60)) := h 143 _ rfl
theorem tl144 {T : List mv_T} (h : TX T) : T[144]? = some (.inl (0, 60)) := h 144 _ rfl
theorem tl145 {T : List mv_T} (h : TX T) : T[145]? = some (.inl (0, 60)) := h 145 _ rfl
theorem tl146 {T : List mv_T} (h : TX T) : T[146]? = some (.inl (0, 60)) := h 146 _ rfl
theorem tl147 {T : List mv_T} (h : TX T) : T[147]? = some (.inl (0, 60)) := h 147 _ rfl
theorem tl148 {T : List mv_T} (h : TX T) : T[148]? = some (.inl (0, 540)) := h 148 _ rfl
theorem tl149 {T : List mv_T} (h : TX T) : T[149]? = some (.inl (0, 40)) := h 149 _ rfl
theorem tl150 {T : List mv_T} (h : TX T) : T[150]? = some (.inl (0, 16)) := h 150 _ rfl
theorem tl151 {T : List mv_T} (h : TX T) : T[151]? = some (.inl (2, 17)) := h 151 _ rfl
theorem tl152 {T : List mv_T} (h : TX T) : T[152]? = some (.inl (0, 40)) := h 152 _ rfl
theorem tl153 {T : List mv_T} (h : TX T) : T[153]? = some (.inl (0, 697)) := h 153 _ rfl
theorem tl154 {T : List mv_T} (h : TX T) : T[154]? = some (.inl (0, 16)) := h 154 _ rfl
theorem tl155 {T : List mv_T} (h : TX T) : T[155]? = some (.inl (0, 697)) := h 155 _ rfl
theorem tl156 {T : List mv_T} (h : TX T) : T[156]? = some (.inl (2, 697)) := h 156 _ rfl
theorem tl157 {T : List mv_T} (h : TX T) : T[157]? = some (.inl (0, 4)) := h 157 _ rfl
theorem tl158 {T : List mv_T} (h : TX T) : T[158]? = some (.inl (0, 4)) := h 158 _ rfl
theorem tl159 {T : List mv_T} (h : TX T) : T[159]? = some (.inl (0, 4)) := h 159 _ rfl
theorem tl160 {T : List mv_T} (h : TX T) : T[160]? = some (.inl (0, 4)) := h 160 _ rfl
theorem tl161 {T : List mv_T} (h : TX T) : T[161]? = some (.inl (0, 4913)) := h 161 _ rfl
theorem tl162 {T : List mv_T} (h : TX T) : T[162]? = some (.inl (0, 16)) := h 162 _ rfl
theorem tl163 {T : List mv_T} (h : TX T) : T[163]? = some (.inl (0, 28561)) := h 163 _ rfl
theorem tl164 {T : List mv_T} (h : TX T) : T[164]? = some (.inl (2, 28561)) := h 164 _ rfl
theorem tl165 {T : List mv_T} (h : TX T) : T[165]? = some (.inl (1, 64)) := h 165 _ rfl
theorem tl166 {T : List mv_T} (h : TX T) : T[166]? = some (.inl (0, 2304)) := h 166 _ rfl
theorem tl167 {T : List mv_T} (h : TX T) : T[167]? = some (.inl (1, 72)) := h 167 _ rfl
theorem tl168 {T : List mv_T} (h : TX T) : T[168]? = some (.inl (0, 2304)) := h 168 _ rfl
