theorem wd55 : Cond.selects RX12 yX12_isBlank yX12_isBlank ∈ pv_T := pv_m 55 (by decide +kernel) (by decide +kernel)
theorem wd56 : Cond.selects RX12 yX12_leftMany yX12_leftMany ∈ pv_T := pv_m 56 (by decide +kernel) (by decide +kernel)
theorem wd86 : Cond.selects RX12 yX12_isAsked yX12_isAsked ∈ pv_T := pv_m 86 (by decide +kernel) (by decide +kernel)
theorem wd87 : Cond.selects RX12 yX12_isDeed yX12_isDeed ∈ pv_T := pv_m 87 (by decide +kernel) (by decide +kernel)
theorem wd88 : Cond.selects RX12 yX12_laysBlank yX12_laysBlank ∈ pv_T := pv_m 88 (by decide +kernel) (by decide +kernel)
theorem wd89 : Cond.selects RX12 yX12_laysDeed yX12_laysDeed ∈ pv_T := pv_m 89 (by decide +kernel) (by decide +kernel)
theorem wd95 : Cond.selects RX12 yX12_fewestStrokes yX12_fewestStrokes ∈ pv_T := pv_m 95 (by decide +kernel) (by decide +kernel)
theorem wd98 : Cond.selects RX12 yX12_longOf yX12_longOf ∈ pv_T := pv_m 98 (by decide +kernel) (by decide +kernel)
theorem wd101 : Cond.selects RX12 yX12_letterAt yX12_letterAt ∈ pv_T := pv_m 101 (by decide +kernel) (by decide +kernel)
theorem wd108 : Cond.selects RX12 yX12_comesWithout yX12_comesWithout ∈ pv_T := pv_m 108 (by decide +kernel) (by decide +kernel)
theorem wd109 : Cond.selects RX12 yX12_areSet yX12_areSet ∈ pv_T := pv_m 109 (by decide +kernel) (by decide +kernel)
theorem wd111 : Cond.selects RX12 yX12_laysEnd yX12_laysEnd ∈ pv_T := pv_m 111 (by decide +kernel) (by decide +kernel)
theorem wd112 : Cond.selects RX12 yX12_laysComes yX12_laysComes ∈ pv_T := pv_m 112 (by decide +kernel) (by decide +kernel)
theorem wd113 : Cond.selects RX12 yX12_valueBy yX12_valueBy ∈ pv_T := pv_m 113 (by decide +kernel) (by decide +kernel)
theorem wd114 : Cond.selects RX12 yX12_manyOf yX12_manyOf ∈ pv_T := pv_m 114 (by decide +kernel) (by decide +kernel)
theorem wd115 : Cond.selects RX12 yX12_lostOf yX12_lostOf ∈ pv_T := pv_m 115 (by decide +kernel) (by decide +kernel)
theorem wd118 : Cond.selects RX12 yX12_laysParent yX12_laysParent ∈ pv_T := pv_m 118 (by decide +kernel) (by decide +kernel)
theorem wd121 : Cond.selects RX12 yX12_longBy yX12_longBy ∈ pv_T := pv_m 121 (by decide +kernel) (by decide +kernel)
theorem wd137 : Cond.initialized RX12 ∈ pv_T := pv_m 137 (by decide +kernel) (by decide +kernel)
theorem wd1173 : Cond.fieldLink RX12 152 "StrikeOutModel" "blanks" "I" ∈ pv_T := pv_m 1173 (by decide +kernel) (by decide +kernel)
theorem wd1174 : Cond.fieldLink RX12 158 "StrikeOutModel" "now" "I" ∈ pv_T := pv_m 1174 (by decide +kernel) (by decide +kernel)
theorem wd1175 : Cond.fieldLink RX12 148 "StrikeOutModel" "x0" "I" ∈ pv_T := pv_m 1175 (by decide +kernel) (by decide +kernel)
theorem wd1176 : Cond.fieldLink RX12 306 "StrikeOutModel" "strokesMade" "I" ∈ pv_T := pv_m 1176 (by decide +kernel) (by decide +kernel)
theorem wd1177 : Cond.fieldLink RX12 155 "StrikeOutModel" "toldDeeds" "I" ∈ pv_T := pv_m 1177 (by decide +kernel) (by decide +kernel)
theorem wd1178 : Cond.fieldLink RX12 7 "StrikeOutModel" "blankLong" "[I" ∈ pv_T := pv_m 1178 (by decide +kernel) (by decide +kernel)
theorem wd1179 : Cond.fieldLink RX12 13 "StrikeOutModel" "letterOf" "[I" ∈ pv_T := pv_m 1179 (by decide +kernel) (by decide +kernel)
theorem wd1180 : Cond.fieldLink RX12 16 "StrikeOutModel" "deedLong" "[I" ∈ pv_T := pv_m 1180 (by decide +kernel) (by decide +kernel)
theorem wd1181 : Cond.fieldLink RX12 19 "StrikeOutModel" "deedLetter" "[I" ∈ pv_T := pv_m 1181 (by decide +kernel) (by decide +kernel)
theorem wd1182 : Cond.fieldLink RX12 22 "StrikeOutModel" "isStruck" "[Z" ∈ pv_T := pv_m 1182 (by decide +kernel) (by decide +kernel)
theorem wd1207 : Cond.fieldLink RX12 69 "StrikeOutModel" "strokeBlank" "[I" ∈ pv_T := pv_m 1207 (by decide +kernel) (by decide +kernel)
theorem wd1208 : Cond.fieldLink RX12 72 "StrikeOutModel" "strokeClerk" "[I" ∈ pv_T := pv_m 1208 (by decide +kernel) (by decide +kernel)
theorem wd1209 : Cond.fieldLink RX12 75 "StrikeOutModel" "strokeDay" "[I" ∈ pv_T := pv_m 1209 (by decide +kernel) (by decide +kernel)
theorem wd1210 : Cond.fieldLink RX12 78 "StrikeOutModel" "strokeCost" "[I" ∈ pv_T := pv_m 1210 (by decide +kernel) (by decide +kernel)
theorem wd1211 : Cond.fieldLink RX12 81 "StrikeOutModel" "strokeMany" "[I" ∈ pv_T := pv_m 1211 (by decide +kernel) (by decide +kernel)
theorem wd1213 : Cond.fieldLink RX12 320 "StrikeOutModel" "long0" "I" ∈ pv_T := pv_m 1213 (by decide +kernel) (by decide +kernel)
theorem wd1214 : Cond.fieldLink RX12 323 "StrikeOutModel" "long1" "I" ∈ pv_T := pv_m 1214 (by decide +kernel) (by decide +kernel)
theorem wd1215 : Cond.fieldLink RX12 87 "StrikeOutModel" "row" "[I" ∈ pv_T := pv_m 1215 (by decide +kernel) (by decide +kernel)
theorem wd1216 : Cond.fieldLink RX12 90 "StrikeOutModel" "deedRow" "[I" ∈ pv_T := pv_m 1216 (by decide +kernel) (by decide +kernel)
theorem wd1217 : Cond.fieldLink RX12 93 "StrikeOutModel" "waysFrom" "[J" ∈ pv_T := pv_m 1217 (by decide +kernel) (by decide +kernel)
theorem wd1218 : Cond.fieldLink RX12 97 "StrikeOutModel" "goesFor" "[I" ∈ pv_T := pv_m 1218 (by decide +kernel) (by decide +kernel)
theorem wd1219 : Cond.fieldLink RX12 100 "StrikeOutModel" "cheapFrom" "[I" ∈ pv_T := pv_m 1219 (by decide +kernel) (by decide +kernel)
theorem wd1220 : Cond.fieldLink RX12 103 "StrikeOutModel" "stays" "[I" ∈ pv_T := pv_m 1220 (by decide +kernel) (by decide +kernel)
theorem wd1221 : Cond.fieldLink RX12 106 "StrikeOutModel" "fewFrom" "[I" ∈ pv_T := pv_m 1221 (by decide +kernel) (by decide +kernel)
theorem wd1223 : Cond.fieldLink RX12 369 "StrikeOutModel" "chosen" "I" ∈ pv_T := pv_m 1223 (by decide +kernel) (by decide +kernel)
theorem wd1224 : Cond.fieldLink RX12 112 "StrikeOutModel" "choice" "[I" ∈ pv_T := pv_m 1224 (by decide +kernel) (by decide +kernel)
theorem wd1232 : Cond.fieldLink RX12 136 "StrikeOutModel" "mayCome" "[Z" ∈ pv_T := pv_m 1232 (by decide +kernel) (by decide +kernel)
theorem wd1233 : Cond.fieldLink RX12 139 "StrikeOutModel" "valueFrom" "[I" ∈ pv_T := pv_m 1233 (by decide +kernel) (by decide +kernel)
theorem wd1234 : Cond.fieldLink RX12 445 "StrikeOutModel" "parentStrokes" "I" ∈ pv_T := pv_m 1234 (by decide +kernel) (by decide +kernel)
theorem wd1235 : Cond.fieldLink RX12 142 "StrikeOutModel" "follows" "[Z" ∈ pv_T := pv_m 1235 (by decide +kernel) (by decide +kernel)
theorem wd1236 : Cond.fieldLink RX12 145 "StrikeOutModel" "longFrom" "[I" ∈ pv_T := pv_m 1236 (by decide +kernel) (by decide +kernel)
theorem wd1370 : Cond.methodLink RX12 161 yX12_in ∈ pv_T := pv_m 1370 (by decide +kernel) (by decide +kernel)
theorem wd1371 : Cond.static yX12_in ∈ pv_T := pv_m 1371 (by decide +kernel) (by decide +kernel)
theorem wd1372 : Cond.code yX12_in cX12_in 3 (some .boolean) ∈ pv_T := pv_m 1372 (by decide +kernel) (by decide +kernel)
theorem wd1389 : Cond.methodLink RX12 172 yX12_isBlank ∈ pv_T := pv_m 1389 (by decide +kernel) (by decide +kernel)
theorem wd1391 : Cond.instanceMethod yX12_isBlank ∈ pv_T := pv_m 1391 (by decide +kernel) (by decide +kernel)
theorem wd1392 : Cond.code yX12_isBlank cX12_isBlank 2 (some .boolean) ∈ pv_T := pv_m 1392 (by decide +kernel) (by decide +kernel)
theorem wd1393 : Cond.methodLink RX12 175 yX12_leftMany ∈ pv_T := pv_m 1393 (by decide +kernel) (by decide +kernel)
theorem wd1395 : Cond.instanceMethod yX12_leftMany ∈ pv_T := pv_m 1395 (by decide +kernel) (by decide +kernel)
theorem wd1396 : Cond.code yX12_leftMany cX12_leftMany 4 (some .int) ∈ pv_T := pv_m 1396 (by decide +kernel) (by decide +kernel)
theorem wd1498 : Cond.code yX12_isClerk cX12_isClerk 1 (some .boolean) ∈ pv_T := pv_m 1498 (by decide +kernel) (by decide +kernel)
theorem wd1510 : Cond.code yX12_howOften cX12_howOften 5 (some .int) ∈ pv_T := pv_m 1510 (by decide +kernel) (by decide +kernel)
theorem wd1514 : Cond.code yX12_isStruckAt cX12_isStruckAt 3 (some .boolean) ∈ pv_T := pv_m 1514 (by decide +kernel) (by decide +kernel)
theorem wd1537 : Cond.code yX12_writes cX12_writes 5 none ∈ pv_T := pv_m 1537 (by decide +kernel) (by decide +kernel)
theorem wd1553 : Cond.code yX12_ways cX12_ways 5 (some .long) ∈ pv_T := pv_m 1553 (by decide +kernel) (by decide +kernel)
theorem wd1554 : Cond.methodLink RX12 329 yX12_isAsked ∈ pv_T := pv_m 1554 (by decide +kernel) (by decide +kernel)
theorem wd1556 : Cond.instanceMethod yX12_isAsked ∈ pv_T := pv_m 1556 (by decide +kernel) (by decide +kernel)
theorem wd1557 : Cond.code yX12_isAsked cX12_isAsked 3 (some .boolean) ∈ pv_T := pv_m 1557 (by decide +kernel) (by decide +kernel)
theorem wd1558 : Cond.methodLink RX12 326 yX12_isDeed ∈ pv_T := pv_m 1558 (by decide +kernel) (by decide +kernel)
theorem wd1560 : Cond.instanceMethod yX12_isDeed ∈ pv_T := pv_m 1560 (by decide +kernel) (by decide +kernel)
theorem wd1561 : Cond.code yX12_isDeed cX12_isDeed 2 (some .boolean) ∈ pv_T := pv_m 1561 (by decide +kernel) (by decide +kernel)
theorem wd1562 : Cond.constantLong RX12 332 (-1) ∈ pv_T := pv_m 1562 (by decide +kernel) (by decide +kernel)
theorem wd1563 : Cond.methodLink RX12 334 yX12_laysBlank ∈ pv_T := pv_m 1563 (by decide +kernel) (by decide +kernel)
theorem wd1565 : Cond.instanceMethod yX12_laysBlank ∈ pv_T := pv_m 1565 (by decide +kernel) (by decide +kernel)
theorem wd1566 : Cond.code yX12_laysBlank cX12_laysBlank 4 none ∈ pv_T := pv_m 1566 (by decide +kernel) (by decide +kernel)
theorem wd1567 : Cond.methodLink RX12 338 yX12_laysDeed ∈ pv_T := pv_m 1567 (by decide +kernel) (by decide +kernel)
theorem wd1569 : Cond.instanceMethod yX12_laysDeed ∈ pv_T := pv_m 1569 (by decide +kernel) (by decide +kernel)
theorem wd1570 : Cond.code yX12_laysDeed cX12_laysDeed 3 none ∈ pv_T := pv_m 1570 (by decide +kernel) (by decide +kernel)
theorem wd1583 : Cond.constant RX12 341 1000000000 ∈ pv_T := pv_m 1583 (by decide +kernel) (by decide +kernel)
theorem wd1587 : Cond.code yX12_laysCheap cX12_laysCheap 4 none ∈ pv_T := pv_m 1587 (by decide +kernel) (by decide +kernel)
theorem wd1588 : Cond.methodLink RX12 342 yX12_sum ∈ pv_T := pv_m 1588 (by decide +kernel) (by decide +kernel)
theorem wd1589 : Cond.static yX12_sum ∈ pv_T := pv_m 1589 (by decide +kernel) (by decide +kernel)
theorem wd1590 : Cond.code yX12_sum cX12_sum 2 (some .int) ∈ pv_T := pv_m 1590 (by decide +kernel) (by decide +kernel)
theorem wd1594 : Cond.code yX12_laysStays cX12_laysStays 3 none ∈ pv_T := pv_m 1594 (by decide +kernel) (by decide +kernel)
theorem wd1606 : Cond.code yX12_strokes cX12_strokes 5 (some .int) ∈ pv_T := pv_m 1606 (by decide +kernel) (by decide +kernel)
theorem wd1607 : Cond.methodLink RX12 363 yX12_fewestStrokes ∈ pv_T := pv_m 1607 (by decide +kernel) (by decide +kernel)
theorem wd1609 : Cond.instanceMethod yX12_fewestStrokes ∈ pv_T := pv_m 1609 (by decide +kernel) (by decide +kernel)
theorem wd1610 : Cond.code yX12_fewestStrokes cX12_fewestStrokes 6 (some .int) ∈ pv_T := pv_m 1610 (by decide +kernel) (by decide +kernel)
theorem wd1611 : Cond.methodLink RX12 360 yX12_least ∈ pv_T := pv_m 1611 (by decide +kernel) (by decide +kernel)
theorem wd1612 : Cond.static yX12_least ∈ pv_T := pv_m 1612 (by decide +kernel) (by decide +kernel)
theorem wd1613 : Cond.code yX12_least cX12_least 2 (some .int) ∈ pv_T := pv_m 1613 (by decide +kernel) (by decide +kernel)
theorem wd1628 : Cond.code yX12_bits cX12_bits 3 (some .int) ∈ pv_T := pv_m 1628 (by decide +kernel) (by decide +kernel)
theorem wd1633 : Cond.methodLink RX12 372 yX12_longOf ∈ pv_T := pv_m 1633 (by decide +kernel) (by decide +kernel)
theorem wd1635 : Cond.instanceMethod yX12_longOf ∈ pv_T := pv_m 1635 (by decide +kernel) (by decide +kernel)
theorem wd1636 : Cond.code yX12_longOf cX12_longOf 2 (some .int) ∈ pv_T := pv_m 1636 (by decide +kernel) (by decide +kernel)
theorem wd1644 : Cond.code yX12_nextOf cX12_nextOf 5 (some .int) ∈ pv_T := pv_m 1644 (by decide +kernel) (by decide +kernel)
theorem wd1645 : Cond.methodLink RX12 375 yX12_letterAt ∈ pv_T := pv_m 1645 (by decide +kernel) (by decide +kernel)
theorem wd1647 : Cond.instanceMethod yX12_letterAt ∈ pv_T := pv_m 1647 (by decide +kernel) (by decide +kernel)
theorem wd1648 : Cond.code yX12_letterAt cX12_letterAt 3 (some .int) ∈ pv_T := pv_m 1648 (by decide +kernel) (by decide +kernel)
theorem wd1651 : Cond.code yX12_behind cX12_behind 3 (some .int) ∈ pv_T := pv_m 1651 (by decide +kernel) (by decide +kernel)
theorem wd1655 : Cond.code yX12_hiddenAt cX12_hiddenAt 4 (some .int) ∈ pv_T := pv_m 1655 (by decide +kernel) (by decide +kernel)
theorem wd1663 : Cond.code yX12_isTooLong cX12_isTooLong 2 (some .boolean) ∈ pv_T := pv_m 1663 (by decide +kernel) (by decide +kernel)
theorem wd1682 : Cond.code yX12_shortAt cX12_shortAt 4 (some .int) ∈ pv_T := pv_m 1682 (by decide +kernel) (by decide +kernel)
theorem wd1695 : Cond.code yX12_forged cX12_forged 3 (some .int) ∈ pv_T := pv_m 1695 (by decide +kernel) (by decide +kernel)
theorem wd1696 : Cond.methodLink RX12 417 yX12_comesWithout ∈ pv_T := pv_m 1696 (by decide +kernel) (by decide +kernel)
theorem wd1698 : Cond.instanceMethod yX12_comesWithout ∈ pv_T := pv_m 1698 (by decide +kernel) (by decide +kernel)
theorem wd1699 : Cond.code yX12_comesWithout cX12_comesWithout 4 (some .boolean) ∈ pv_T := pv_m 1699 (by decide +kernel) (by decide +kernel)
theorem wd1704 : Cond.methodLink RX12 420 yX12_areSet ∈ pv_T := pv_m 1704 (by decide +kernel) (by decide +kernel)
theorem wd1706 : Cond.instanceMethod yX12_areSet ∈ pv_T := pv_m 1706 (by decide +kernel) (by decide +kernel)
theorem wd1707 : Cond.code yX12_areSet cX12_areSet 2 (some .boolean) ∈ pv_T := pv_m 1707 (by decide +kernel) (by decide +kernel)
theorem wd1711 : Cond.code yX12_comeAll cX12_comeAll 4 (some .boolean) ∈ pv_T := pv_m 1711 (by decide +kernel) (by decide +kernel)
theorem wd1716 : Cond.methodLink RX12 436 yX12_laysEnd ∈ pv_T := pv_m 1716 (by decide +kernel) (by decide +kernel)
theorem wd1718 : Cond.instanceMethod yX12_laysEnd ∈ pv_T := pv_m 1718 (by decide +kernel) (by decide +kernel)
theorem wd1719 : Cond.code yX12_laysEnd cX12_laysEnd 6 none ∈ pv_T := pv_m 1719 (by decide +kernel) (by decide +kernel)
theorem wd1720 : Cond.methodLink RX12 427 yX12_laysComes ∈ pv_T := pv_m 1720 (by decide +kernel) (by decide +kernel)
theorem wd1722 : Cond.instanceMethod yX12_laysComes ∈ pv_T := pv_m 1722 (by decide +kernel) (by decide +kernel)
theorem wd1723 : Cond.code yX12_laysComes cX12_laysComes 3 none ∈ pv_T := pv_m 1723 (by decide +kernel) (by decide +kernel)
theorem wd1724 : Cond.methodLink RX12 430 yX12_valueBy ∈ pv_T := pv_m 1724 (by decide +kernel) (by decide +kernel)
theorem wd1726 : Cond.instanceMethod yX12_valueBy ∈ pv_T := pv_m 1726 (by decide +kernel) (by decide +kernel)
theorem wd1727 : Cond.code yX12_valueBy cX12_valueBy 4 (some .int) ∈ pv_T := pv_m 1727 (by decide +kernel) (by decide +kernel)
theorem wd1728 : Cond.constant RX12 426 (-1000000000) ∈ pv_T := pv_m 1728 (by decide +kernel) (by decide +kernel)
theorem wd1729 : Cond.methodLink RX12 433 yX12_manyOf ∈ pv_T := pv_m 1729 (by decide +kernel) (by decide +kernel)
theorem wd1731 : Cond.instanceMethod yX12_manyOf ∈ pv_T := pv_m 1731 (by decide +kernel) (by decide +kernel)
theorem wd1732 : Cond.code yX12_manyOf cX12_manyOf 2 (some .int) ∈ pv_T := pv_m 1732 (by decide +kernel) (by decide +kernel)
theorem wd1733 : Cond.methodLink RX12 439 yX12_lostOf ∈ pv_T := pv_m 1733 (by decide +kernel) (by decide +kernel)
theorem wd1735 : Cond.instanceMethod yX12_lostOf ∈ pv_T := pv_m 1735 (by decide +kernel) (by decide +kernel)
theorem wd1736 : Cond.code yX12_lostOf cX12_lostOf 2 (some .int) ∈ pv_T := pv_m 1736 (by decide +kernel) (by decide +kernel)
theorem wd1744 : Cond.code yX12_worth cX12_worth 6 (some .int) ∈ pv_T := pv_m 1744 (by decide +kernel) (by decide +kernel)
theorem wd1752 : Cond.code yX12_parentOf cX12_parentOf 8 (some .int) ∈ pv_T := pv_m 1752 (by decide +kernel) (by decide +kernel)
theorem wd1753 : Cond.methodLink RX12 448 yX12_laysParent ∈ pv_T := pv_m 1753 (by decide +kernel) (by decide +kernel)
theorem wd1755 : Cond.instanceMethod yX12_laysParent ∈ pv_T := pv_m 1755 (by decide +kernel) (by decide +kernel)
theorem wd1756 : Cond.code yX12_laysParent cX12_laysParent 3 none ∈ pv_T := pv_m 1756 (by decide +kernel) (by decide +kernel)
theorem wd1764 : Cond.code yX12_laysFollows cX12_laysFollows 4 none ∈ pv_T := pv_m 1764 (by decide +kernel) (by decide +kernel)
theorem wd1768 : Cond.code yX12_laysLong cX12_laysLong 5 none ∈ pv_T := pv_m 1768 (by decide +kernel) (by decide +kernel)
theorem wd1769 : Cond.methodLink RX12 454 yX12_longBy ∈ pv_T := pv_m 1769 (by decide +kernel) (by decide +kernel)
theorem wd1771 : Cond.instanceMethod yX12_longBy ∈ pv_T := pv_m 1771 (by decide +kernel) (by decide +kernel)
theorem wd1772 : Cond.code yX12_longBy cX12_longBy 4 (some .int) ∈ pv_T := pv_m 1772 (by decide +kernel) (by decide +kernel)
theorem wd1776 : Cond.code yX12_seed cX12_seed 2 (some .boolean) ∈ pv_T := pv_m 1776 (by decide +kernel) (by decide +kernel)
theorem wd1777 : Cond.constant RX12 463 65535 ∈ pv_T := pv_m 1777 (by decide +kernel) (by decide +kernel)
set_option maxRecDepth 100000 in
theorem FX12 : pv_F 12 RX12 TX12 64 tyX12 := ⟨rfl, fun w hw => List.mem_filter.mpr ⟨(by decide +kernel : ∀ w ∈ u_ws RX12 TX12 64, w ∈ lw_tbl) w hw, (by decide +kernel : ∀ w ∈ u_ws RX12 TX12 64, goodWord w = true) w hw⟩, tyX12_ok, nmX12⟩
abbrev mX12_areSet : pv_M := (RX12, "areSet", cX12_areSet, 2, some .boolean)
theorem YX12_areSet : pv_y yX12_areSet mX12_areSet 1 := ⟨wd1707, wd137, by decide +kernel, by decide⟩
abbrev mX12_behind : pv_M := (RX12, "behind", cX12_behind, 3, some .int)
theorem YX12_behind : pv_y yX12_behind mX12_behind 3 := ⟨wd1651, wd137, by decide +kernel, by decide⟩
abbrev mX12_bits : pv_M := (RX12, "bits", cX12_bits, 3, some .int)
theorem YX12_bits : pv_y yX12_bits mX12_bits 1 := ⟨wd1628, wd137, by decide +kernel, by decide⟩
abbrev mX12_comeAll : pv_M := (RX12, "comeAll", cX12_comeAll, 4, some .boolean)
theorem YX12_comeAll : pv_y yX12_comeAll mX12_comeAll 2 := ⟨wd1711, wd137, by decide +kernel, by decide⟩
abbrev mX12_comesWithout : pv_M := (RX12, "comesWithout", cX12_comesWithout, 4, some .boolean)
theorem YX12_comesWithout : pv_y yX12_comesWithout mX12_comesWithout 1 := ⟨wd1699, wd137, by decide +kernel, by decide⟩
abbrev mX12_fewestStrokes : pv_M := (RX12, "fewestStrokes", cX12_fewestStrokes, 6, some .int)
theorem YX12_fewestStrokes : pv_y yX12_fewestStrokes mX12_fewestStrokes 1 := ⟨wd1610, wd137, by decide +kernel, by decide⟩
abbrev mX12_forged : pv_M := (RX12, "forged", cX12_forged, 3, some .int)
theorem YX12_forged : pv_y yX12_forged mX12_forged 1 := ⟨wd1695, wd137, by decide +kernel, by decide⟩
abbrev mX12_hiddenAt : pv_M := (RX12, "hiddenAt", cX12_hiddenAt, 4, some .int)
theorem YX12_hiddenAt : pv_y yX12_hiddenAt mX12_hiddenAt 3 := ⟨wd1655, wd137, by decide +kernel, by decide⟩
abbrev mX12_howOften : pv_M := (RX12, "howOften", cX12_howOften, 5, some .int)
theorem YX12_howOften : pv_y yX12_howOften mX12_howOften 2 := ⟨wd1510, wd137, by decide +kernel, by decide⟩
abbrev mX12_in : pv_M := (RX12, "in", cX12_in, 3, some .boolean)
theorem YX12_in : pv_y yX12_in mX12_in 3 := ⟨wd1372, wd137, by decide +kernel, by decide⟩
abbrev mX12_isAsked : pv_M := (RX12, "isAsked", cX12_isAsked, 3, some .boolean)
theorem YX12_isAsked : pv_y yX12_isAsked mX12_isAsked 2 := ⟨wd1557, wd137, by decide +kernel, by decide⟩
abbrev mX12_isBlank : pv_M := (RX12, "isBlank", cX12_isBlank, 2, some .boolean)
theorem YX12_isBlank : pv_y yX12_isBlank mX12_isBlank 1 := ⟨wd1392, wd137, by decide +kernel, by decide⟩
abbrev mX12_isClerk : pv_M := (RX12, "isClerk", cX12_isClerk, 1, some .boolean)
theorem YX12_isClerk : pv_y yX12_isClerk mX12_isClerk 1 := ⟨wd1498, wd137, by decide +kernel, by decide⟩
abbrev mX12_isDeed : pv_M := (RX12, "isDeed", cX12_isDeed, 2, some .boolean)
theorem YX12_isDeed : pv_y yX12_isDeed mX12_isDeed 1 := ⟨wd1561, wd137, by decide +kernel, by decide⟩
abbrev mX12_isStruckAt : pv_M := (RX12, "isStruckAt", cX12_isStruckAt, 3, some .boolean)
theorem YX12_isStruckAt : pv_y yX12_isStruckAt mX12_isStruckAt 2 := ⟨wd1514, wd137, by decide +kernel, by decide⟩
abbrev mX12_isTooLong : pv_M := (RX12, "isTooLong", cX12_isTooLong, 2, some .boolean)
theorem YX12_isTooLong : pv_y yX12_isTooLong mX12_isTooLong 0 := ⟨wd1663, wd137, by decide +kernel, by decide⟩
abbrev mX12_laysBlank : pv_M := (RX12, "laysBlank", cX12_laysBlank, 4, none)
theorem YX12_laysBlank : pv_y yX12_laysBlank mX12_laysBlank 2 := ⟨wd1566, wd137, by decide +kernel, by decide⟩
abbrev mX12_laysCheap : pv_M := (RX12, "laysCheap", cX12_laysCheap, 4, none)
theorem YX12_laysCheap : pv_y yX12_laysCheap mX12_laysCheap 0 := ⟨wd1587, wd137, by decide +kernel, by decide⟩
abbrev mX12_laysComes : pv_M := (RX12, "laysComes", cX12_laysComes, 3, none)
theorem YX12_laysComes : pv_y yX12_laysComes mX12_laysComes 0 := ⟨wd1723, wd137, by decide +kernel, by decide⟩
abbrev mX12_laysDeed : pv_M := (RX12, "laysDeed", cX12_laysDeed, 3, none)
theorem YX12_laysDeed : pv_y yX12_laysDeed mX12_laysDeed 1 := ⟨wd1570, wd137, by decide +kernel, by decide⟩
abbrev mX12_laysEnd : pv_M := (RX12, "laysEnd", cX12_laysEnd, 6, none)
theorem YX12_laysEnd : pv_y yX12_laysEnd mX12_laysEnd 1 := ⟨wd1719, wd137, by decide +kernel, by decide⟩
abbrev mX12_laysFollows : pv_M := (RX12, "laysFollows", cX12_laysFollows, 4, none)
theorem YX12_laysFollows : pv_y yX12_laysFollows mX12_laysFollows 1 := ⟨wd1764, wd137, by decide +kernel, by decide⟩
abbrev mX12_laysLong : pv_M := (RX12, "laysLong", cX12_laysLong, 5, none)
theorem YX12_laysLong : pv_y yX12_laysLong mX12_laysLong 0 := ⟨wd1768, wd137, by decide +kernel, by decide⟩
abbrev mX12_laysParent : pv_M := (RX12, "laysParent", cX12_laysParent, 3, none)
theorem YX12_laysParent : pv_y yX12_laysParent mX12_laysParent 1 := ⟨wd1756, wd137, by decide +kernel, by decide⟩
abbrev mX12_laysStays : pv_M := (RX12, "laysStays", cX12_laysStays, 3, none)
theorem YX12_laysStays : pv_y yX12_laysStays mX12_laysStays 0 := ⟨wd1594, wd137, by decide +kernel, by decide⟩
abbrev mX12_least : pv_M := (RX12, "least", cX12_least, 2, some .int)
theorem YX12_least : pv_y yX12_least mX12_least 2 := ⟨wd1613, wd137, by decide +kernel, by decide⟩
abbrev mX12_leftMany : pv_M := (RX12, "leftMany", cX12_leftMany, 4, some .int)
theorem YX12_leftMany : pv_y yX12_leftMany mX12_leftMany 1 := ⟨wd1396, wd137, by decide +kernel, by decide⟩
abbrev mX12_letterAt : pv_M := (RX12, "letterAt", cX12_letterAt, 3, some .int)
theorem YX12_letterAt : pv_y yX12_letterAt mX12_letterAt 2 := ⟨wd1648, wd137, by decide +kernel, by decide⟩
abbrev mX12_longBy : pv_M := (RX12, "longBy", cX12_longBy, 4, some .int)
theorem YX12_longBy : pv_y yX12_longBy mX12_longBy 3 := ⟨wd1772, wd137, by decide +kernel, by decide⟩
abbrev mX12_longOf : pv_M := (RX12, "longOf", cX12_longOf, 2, some .int)
theorem YX12_longOf : pv_y yX12_longOf mX12_longOf 1 := ⟨wd1636, wd137, by decide +kernel, by decide⟩
abbrev mX12_lostOf : pv_M := (RX12, "lostOf", cX12_lostOf, 2, some .int)
theorem YX12_lostOf : pv_y yX12_lostOf mX12_lostOf 1 := ⟨wd1736, wd137, by decide +kernel, by decide⟩
abbrev mX12_manyOf : pv_M := (RX12, "manyOf", cX12_manyOf, 2, some .int)
theorem YX12_manyOf : pv_y yX12_manyOf mX12_manyOf 1 := ⟨wd1732, wd137, by decide +kernel, by decide⟩
abbrev mX12_nextOf : pv_M := (RX12, "nextOf", cX12_nextOf, 5, some .int)
theorem YX12_nextOf : pv_y yX12_nextOf mX12_nextOf 3 := ⟨wd1644, wd137, by decide +kernel, by decide⟩
abbrev mX12_parentOf : pv_M := (RX12, "parentOf", cX12_parentOf, 8, some .int)
theorem YX12_parentOf : pv_y yX12_parentOf mX12_parentOf 4 := ⟨wd1752, wd137, by decide +kernel, by decide⟩
abbrev mX12_seed : pv_M := (RX12, "seed", cX12_seed, 2, some .boolean)
theorem YX12_seed : pv_y yX12_seed mX12_seed 1 := ⟨wd1776, wd137, by decide +kernel, by decide⟩
abbrev mX12_shortAt : pv_M := (RX12, "shortAt", cX12_shortAt, 4, some .int)
theorem YX12_shortAt : pv_y yX12_shortAt mX12_shortAt 4 := ⟨wd1682, wd137, by decide +kernel, by decide⟩
abbrev mX12_strokes : pv_M := (RX12, "strokes", cX12_strokes, 5, some .int)
theorem YX12_strokes : pv_y yX12_strokes mX12_strokes 3 := ⟨wd1606, wd137, by decide +kernel, by decide⟩
abbrev mX12_sum : pv_M := (RX12, "sum", cX12_sum, 2, some .int)
theorem YX12_sum : pv_y yX12_sum mX12_sum 2 := ⟨wd1590, wd137, by decide +kernel, by decide⟩
abbrev mX12_valueBy : pv_M := (RX12, "valueBy", cX12_valueBy, 4, some .int)
theorem YX12_valueBy : pv_y yX12_valueBy mX12_valueBy 3 := ⟨wd1727, wd137, by decide +kernel, by decide⟩
abbrev mX12_ways : pv_M := (RX12, "ways", cX12_ways, 5, some .long)
theorem YX12_ways : pv_y yX12_ways mX12_ways 2 := ⟨wd1553, wd137, by decide +kernel, by decide⟩
abbrev mX12_worth : pv_M := (RX12, "worth", cX12_worth, 6, some .int)
theorem YX12_worth : pv_y yX12_worth mX12_worth 3 := ⟨wd1744, wd137, by decide +kernel, by decide⟩
abbrev mX12_writes : pv_M := (RX12, "writes", cX12_writes, 5, none)
theorem YX12_writes : pv_y yX12_writes mX12_writes 4 := ⟨wd1537, wd137, by decide +kernel, by decide⟩
theorem dX12_areSet_0 : decode cX12_areSet 0 = .ok (.iload_n 1, 1) := by decide +kernel
theorem dX12_areSet_1 : decode cX12_areSet 1 = .ok (.iconst 0, 1) := by decide +kernel
theorem dX12_areSet_2 : decode cX12_areSet 2 = .ok (.sipush 255, 3) := by decide +kernel
theorem dX12_areSet_5 : decode cX12_areSet 5 = .ok (.invokestatic 161, 3) := by decide +kernel
theorem dX12_areSet_8 : decode cX12_areSet 8 = .ok (.ifCond .eq 18, 3) := by decide +kernel
theorem dX12_areSet_11 : decode cX12_areSet 11 = .ok (.iload_n 1, 1) := by decide +kernel
theorem dX12_areSet_12 : decode cX12_areSet 12 = .ok (.aload_n 0, 1) := by decide +kernel
theorem dX12_areSet_13 : decode cX12_areSet 13 = .ok (.getfield 155, 3) := by decide +kernel
theorem dX12_areSet_16 : decode cX12_areSet 16 = .ok (.iconst (-1), 1) := by decide +kernel
theorem dX12_areSet_17 : decode cX12_areSet 17 = .ok (.ixor, 1) := by decide +kernel
theorem dX12_areSet_18 : decode cX12_areSet 18 = .ok (.iand, 1) := by decide +kernel
theorem dX12_areSet_19 : decode cX12_areSet 19 = .ok (.ifCond .ne 7, 3) := by decide +kernel
theorem dX12_areSet_22 : decode cX12_areSet 22 = .ok (.iconst 1, 1) := by decide +kernel
theorem dX12_areSet_23 : decode cX12_areSet 23 = .ok (.goto 4, 3) := by decide +kernel
theorem dX12_areSet_26 : decode cX12_areSet 26 = .ok (.iconst 0, 1) := by decide +kernel
theorem dX12_areSet_27 : decode cX12_areSet 27 = .ok (.ireturn, 1) := by decide +kernel
theorem dX12_behind_0 : decode cX12_behind 0 = .ok (.iload_n 0, 1) := by decide +kernel
theorem dX12_behind_1 : decode cX12_behind 1 = .ok (.iload_n 1, 1) := by decide +kernel
theorem dX12_behind_2 : decode cX12_behind 2 = .ok (.if_icmp .ge 9, 3) := by decide +kernel
theorem dX12_behind_5 : decode cX12_behind 5 = .ok (.iload_n 2, 1) := by decide +kernel
theorem dX12_behind_6 : decode cX12_behind 6 = .ok (.iconst 1, 1) := by decide +kernel
theorem dX12_behind_7 : decode cX12_behind 7 = .ok (.iadd, 1) := by decide +kernel
theorem dX12_behind_8 : decode cX12_behind 8 = .ok (.goto 4, 3) := by decide +kernel
theorem dX12_behind_11 : decode cX12_behind 11 = .ok (.iconst 0, 1) := by decide +kernel
theorem dX12_behind_12 : decode cX12_behind 12 = .ok (.ireturn, 1) := by decide +kernel
theorem dX12_bits_0 : decode cX12_bits 0 = .ok (.iconst 0, 1) := by decide +kernel
theorem dX12_bits_1 : decode cX12_bits 1 = .ok (.istore_n 1, 1) := by decide +kernel
theorem dX12_bits_2 : decode cX12_bits 2 = .ok (.iconst 0, 1) := by decide +kernel
theorem dX12_bits_3 : decode cX12_bits 3 = .ok (.istore_n 2, 1) := by decide +kernel
theorem dX12_bits_4 : decode cX12_bits 4 = .ok (.iload_n 2, 1) := by decide +kernel
theorem dX12_bits_5 : decode cX12_bits 5 = .ok (.bipush 8, 2) := by decide +kernel
theorem dX12_bits_7 : decode cX12_bits 7 = .ok (.if_icmp .ge 17, 3) := by decide +kernel
theorem dX12_bits_10 : decode cX12_bits 10 = .ok (.iload_n 1, 1) := by decide +kernel
theorem dX12_bits_11 : decode cX12_bits 11 = .ok (.iload_n 0, 1) := by decide +kernel
theorem dX12_bits_12 : decode cX12_bits 12 = .ok (.iload_n 2, 1) := by decide +kernel
theorem dX12_bits_13 : decode cX12_bits 13 = .ok (.ishr, 1) := by decide +kernel
theorem dX12_bits_14 : decode cX12_bits 14 = .ok (.iconst 1, 1) := by decide +kernel
theorem dX12_bits_15 : decode cX12_bits 15 = .ok (.iand, 1) := by decide +kernel
theorem dX12_bits_16 : decode cX12_bits 16 = .ok (.iadd, 1) := by decide +kernel
theorem dX12_bits_17 : decode cX12_bits 17 = .ok (.istore_n 1, 1) := by decide +kernel
theorem dX12_bits_18 : decode cX12_bits 18 = .ok (.iinc 2 1, 3) := by decide +kernel
theorem dX12_bits_21 : decode cX12_bits 21 = .ok (.goto (-17), 3) := by decide +kernel
theorem dX12_bits_24 : decode cX12_bits 24 = .ok (.iload_n 1, 1) := by decide +kernel
theorem dX12_bits_25 : decode cX12_bits 25 = .ok (.ireturn, 1) := by decide +kernel
theorem dX12_comeAll_0 : decode cX12_comeAll 0 = .ok (.iconst 0, 1) := by decide +kernel
theorem dX12_comeAll_1 : decode cX12_comeAll 1 = .ok (.istore_n 3, 1) := by decide +kernel
theorem dX12_comeAll_2 : decode cX12_comeAll 2 = .ok (.iload_n 3, 1) := by decide +kernel
theorem dX12_comeAll_3 : decode cX12_comeAll 3 = .ok (.bipush 8, 2) := by decide +kernel
theorem dX12_comeAll_5 : decode cX12_comeAll 5 = .ok (.if_icmp .ge 35, 3) := by decide +kernel
theorem dX12_comeAll_8 : decode cX12_comeAll 8 = .ok (.iload_n 1, 1) := by decide +kernel
theorem dX12_comeAll_9 : decode cX12_comeAll 9 = .ok (.iload_n 3, 1) := by decide +kernel
theorem dX12_comeAll_10 : decode cX12_comeAll 10 = .ok (.ishr, 1) := by decide +kernel
theorem dX12_comeAll_11 : decode cX12_comeAll 11 = .ok (.iconst 1, 1) := by decide +kernel
theorem dX12_comeAll_12 : decode cX12_comeAll 12 = .ok (.iand, 1) := by decide +kernel
theorem dX12_comeAll_13 : decode cX12_comeAll 13 = .ok (.ifCond .ne 6, 3) := by decide +kernel
theorem dX12_comeAll_16 : decode cX12_comeAll 16 = .ok (.goto 18, 3) := by decide +kernel
theorem dX12_comeAll_19 : decode cX12_comeAll 19 = .ok (.aload_n 0, 1) := by decide +kernel
theorem dX12_comeAll_20 : decode cX12_comeAll 20 = .ok (.iload_n 3, 1) := by decide +kernel
theorem dX12_comeAll_21 : decode cX12_comeAll 21 = .ok (.invokevirtual 338, 3) := by decide +kernel
theorem dX12_comeAll_24 : decode cX12_comeAll 24 = .ok (.aload_n 0, 1) := by decide +kernel
theorem dX12_comeAll_25 : decode cX12_comeAll 25 = .ok (.iload_n 2, 1) := by decide +kernel
theorem dX12_comeAll_26 : decode cX12_comeAll 26 = .ok (.invokevirtual 417, 3) := by decide +kernel
theorem dX12_comeAll_29 : decode cX12_comeAll 29 = .ok (.ifCond .ne 5, 3) := by decide +kernel
theorem dX12_comeAll_32 : decode cX12_comeAll 32 = .ok (.iconst 0, 1) := by decide +kernel
theorem dX12_comeAll_33 : decode cX12_comeAll 33 = .ok (.ireturn, 1) := by decide +kernel
theorem dX12_comeAll_34 : decode cX12_comeAll 34 = .ok (.iinc 3 1, 3) := by decide +kernel
theorem dX12_comeAll_37 : decode cX12_comeAll 37 = .ok (.goto (-35), 3) := by decide +kernel
theorem dX12_comeAll_40 : decode cX12_comeAll 40 = .ok (.iconst 1, 1) := by decide +kernel
theorem dX12_comeAll_41 : decode cX12_comeAll 41 = .ok (.ireturn, 1) := by decide +kernel
theorem dX12_comesWithout_0 : decode cX12_comesWithout 0 = .ok (.iconst 0, 1) := by decide +kernel
theorem dX12_comesWithout_1 : decode cX12_comesWithout 1 = .ok (.istore_n 2, 1) := by decide +kernel
theorem dX12_comesWithout_2 : decode cX12_comesWithout 2 = .ok (.iconst 0, 1) := by decide +kernel
theorem dX12_comesWithout_3 : decode cX12_comesWithout 3 = .ok (.istore_n 3, 1) := by decide +kernel
theorem dX12_comesWithout_4 : decode cX12_comesWithout 4 = .ok (.iload_n 3, 1) := by decide +kernel
theorem dX12_comesWithout_5 : decode cX12_comesWithout 5 = .ok (.aload_n 0, 1) := by decide +kernel
theorem dX12_comesWithout_6 : decode cX12_comesWithout 6 = .ok (.getfield 320, 3) := by decide +kernel
theorem dX12_comesWithout_9 : decode cX12_comesWithout 9 = .ok (.if_icmp .ge 41, 3) := by decide +kernel
theorem dX12_comesWithout_12 : decode cX12_comesWithout 12 = .ok (.iload_n 2, 1) := by decide +kernel
theorem dX12_comesWithout_13 : decode cX12_comesWithout 13 = .ok (.aload_n 0, 1) := by decide +kernel
theorem dX12_comesWithout_14 : decode cX12_comesWithout 14 = .ok (.getfield 323, 3) := by decide +kernel
theorem dX12_comesWithout_17 : decode cX12_comesWithout 17 = .ok (.if_icmp .ge 33, 3) := by decide +kernel
theorem dX12_comesWithout_20 : decode cX12_comesWithout 20 = .ok (.iload_n 3, 1) := by decide +kernel
theorem dX12_comesWithout_21 : decode cX12_comesWithout 21 = .ok (.iload_n 1, 1) := by decide +kernel
theorem dX12_comesWithout_22 : decode cX12_comesWithout 22 = .ok (.if_icmp .eq 22, 3) := by decide +kernel
theorem dX12_comesWithout_25 : decode cX12_comesWithout 25 = .ok (.aload_n 0, 1) := by decide +kernel
theorem dX12_comesWithout_26 : decode cX12_comesWithout 26 = .ok (.getfield 87, 3) := by decide +kernel
theorem dX12_comesWithout_29 : decode cX12_comesWithout 29 = .ok (.iload_n 3, 1) := by decide +kernel
theorem dX12_comesWithout_30 : decode cX12_comesWithout 30 = .ok (.iaload, 1) := by decide +kernel
theorem dX12_comesWithout_31 : decode cX12_comesWithout 31 = .ok (.aload_n 0, 1) := by decide +kernel
theorem dX12_comesWithout_32 : decode cX12_comesWithout 32 = .ok (.getfield 90, 3) := by decide +kernel
theorem dX12_comesWithout_35 : decode cX12_comesWithout 35 = .ok (.iload_n 2, 1) := by decide +kernel
theorem dX12_comesWithout_36 : decode cX12_comesWithout 36 = .ok (.iaload, 1) := by decide +kernel
theorem dX12_comesWithout_37 : decode cX12_comesWithout 37 = .ok (.if_icmp .ne 7, 3) := by decide +kernel
theorem dX12_comesWithout_40 : decode cX12_comesWithout 40 = .ok (.iload_n 2, 1) := by decide +kernel
theorem dX12_comesWithout_41 : decode cX12_comesWithout 41 = .ok (.iconst 1, 1) := by decide +kernel
theorem dX12_comesWithout_42 : decode cX12_comesWithout 42 = .ok (.iadd, 1) := by decide +kernel
theorem dX12_comesWithout_43 : decode cX12_comesWithout 43 = .ok (.istore_n 2, 1) := by decide +kernel
theorem dX12_comesWithout_44 : decode cX12_comesWithout 44 = .ok (.iinc 3 1, 3) := by decide +kernel
theorem dX12_comesWithout_47 : decode cX12_comesWithout 47 = .ok (.goto (-43), 3) := by decide +kernel
theorem dX12_comesWithout_50 : decode cX12_comesWithout 50 = .ok (.iload_n 2, 1) := by decide +kernel
theorem dX12_comesWithout_51 : decode cX12_comesWithout 51 = .ok (.aload_n 0, 1) := by decide +kernel
theorem dX12_comesWithout_52 : decode cX12_comesWithout 52 = .ok (.getfield 323, 3) := by decide +kernel
theorem dX12_comesWithout_55 : decode cX12_comesWithout 55 = .ok (.if_icmp .ne 7, 3) := by decide +kernel
theorem dX12_comesWithout_58 : decode cX12_comesWithout 58 = .ok (.iconst 1, 1) := by decide +kernel
theorem dX12_comesWithout_59 : decode cX12_comesWithout 59 = .ok (.goto 4, 3) := by decide +kernel
theorem dX12_comesWithout_62 : decode cX12_comesWithout 62 = .ok (.iconst 0, 1) := by decide +kernel
theorem dX12_comesWithout_63 : decode cX12_comesWithout 63 = .ok (.ireturn, 1) := by decide +kernel
theorem dX12_fewestStrokes_0 : decode cX12_fewestStrokes 0 = .ok (.iconst 0, 1) := by decide +kernel
theorem dX12_fewestStrokes_1 : decode cX12_fewestStrokes 1 = .ok (.istore_n 2, 1) := by decide +kernel
theorem dX12_fewestStrokes_2 : decode cX12_fewestStrokes 2 = .ok (.iload_n 2, 1) := by decide +kernel
theorem dX12_fewestStrokes_3 : decode cX12_fewestStrokes 3 = .ok (.aload_n 0, 1) := by decide +kernel
theorem dX12_fewestStrokes_4 : decode cX12_fewestStrokes 4 = .ok (.getfield 323, 3) := by decide +kernel
theorem dX12_fewestStrokes_7 : decode cX12_fewestStrokes 7 = .ok (.if_icmp .gt 133, 3) := by decide +kernel
theorem dX12_fewestStrokes_10 : decode cX12_fewestStrokes 10 = .ok (.iconst 0, 1) := by decide +kernel
theorem dX12_fewestStrokes_11 : decode cX12_fewestStrokes 11 = .ok (.istore_n 3, 1) := by decide +kernel
theorem dX12_fewestStrokes_12 : decode cX12_fewestStrokes 12 = .ok (.iload_n 3, 1) := by decide +kernel
theorem dX12_fewestStrokes_13 : decode cX12_fewestStrokes 13 = .ok (.aload_n 0, 1) := by decide +kernel
theorem dX12_fewestStrokes_14 : decode cX12_fewestStrokes 14 = .ok (.getfield 320, 3) := by decide +kernel
theorem dX12_fewestStrokes_17 : decode cX12_fewestStrokes 17 = .ok (.if_icmp .gt 117, 3) := by decide +kernel
theorem dX12_fewestStrokes_20 : decode cX12_fewestStrokes 20 = .ok (.iload_n 2, 1) := by decide +kernel
theorem dX12_fewestStrokes_21 : decode cX12_fewestStrokes 21 = .ok (.ifCond .ne 11, 3) := by decide +kernel
theorem dX12_fewestStrokes_24 : decode cX12_fewestStrokes 24 = .ok (.iload_n 3, 1) := by decide +kernel
theorem dX12_fewestStrokes_25 : decode cX12_fewestStrokes 25 = .ok (.ifCond .ne 7, 3) := by decide +kernel
theorem dX12_fewestStrokes_28 : decode cX12_fewestStrokes 28 = .ok (.iconst 0, 1) := by decide +kernel
theorem dX12_fewestStrokes_29 : decode cX12_fewestStrokes 29 = .ok (.goto 6, 3) := by decide +kernel
theorem dX12_fewestStrokes_32 : decode cX12_fewestStrokes 32 = .ok (.ldc_w 341, 3) := by decide +kernel
theorem dX12_fewestStrokes_35 : decode cX12_fewestStrokes 35 = .ok (.istore 4, 2) := by decide +kernel
theorem dX12_fewestStrokes_37 : decode cX12_fewestStrokes 37 = .ok (.iload_n 2, 1) := by decide +kernel
theorem dX12_fewestStrokes_38 : decode cX12_fewestStrokes 38 = .ok (.ifCond .le 77, 3) := by decide +kernel
theorem dX12_fewestStrokes_41 : decode cX12_fewestStrokes 41 = .ok (.iload_n 3, 1) := by decide +kernel
theorem dX12_fewestStrokes_42 : decode cX12_fewestStrokes 42 = .ok (.ifCond .le 73, 3) := by decide +kernel
theorem dX12_fewestStrokes_45 : decode cX12_fewestStrokes 45 = .ok (.aload_n 0, 1) := by decide +kernel
theorem dX12_fewestStrokes_46 : decode cX12_fewestStrokes 46 = .ok (.getfield 87, 3) := by decide +kernel
theorem dX12_fewestStrokes_49 : decode cX12_fewestStrokes 49 = .ok (.iload_n 3, 1) := by decide +kernel
theorem dX12_fewestStrokes_50 : decode cX12_fewestStrokes 50 = .ok (.iconst 1, 1) := by decide +kernel
theorem dX12_fewestStrokes_51 : decode cX12_fewestStrokes 51 = .ok (.isub, 1) := by decide +kernel
theorem dX12_fewestStrokes_52 : decode cX12_fewestStrokes 52 = .ok (.iaload, 1) := by decide +kernel
theorem dX12_fewestStrokes_53 : decode cX12_fewestStrokes 53 = .ok (.aload_n 0, 1) := by decide +kernel
theorem dX12_fewestStrokes_54 : decode cX12_fewestStrokes 54 = .ok (.getfield 90, 3) := by decide +kernel
theorem dX12_fewestStrokes_57 : decode cX12_fewestStrokes 57 = .ok (.iload_n 2, 1) := by decide +kernel
theorem dX12_fewestStrokes_58 : decode cX12_fewestStrokes 58 = .ok (.iconst 1, 1) := by decide +kernel
theorem dX12_fewestStrokes_59 : decode cX12_fewestStrokes 59 = .ok (.isub, 1) := by decide +kernel
theorem dX12_fewestStrokes_60 : decode cX12_fewestStrokes 60 = .ok (.iaload, 1) := by decide +kernel
theorem dX12_fewestStrokes_61 : decode cX12_fewestStrokes 61 = .ok (.if_icmp .ne 54, 3) := by decide +kernel
theorem dX12_fewestStrokes_64 : decode cX12_fewestStrokes 64 = .ok (.iconst 0, 1) := by decide +kernel
theorem dX12_fewestStrokes_65 : decode cX12_fewestStrokes 65 = .ok (.istore 5, 2) := by decide +kernel
theorem dX12_fewestStrokes_67 : decode cX12_fewestStrokes 67 = .ok (.iload 5, 2) := by decide +kernel
theorem dX12_fewestStrokes_69 : decode cX12_fewestStrokes 69 = .ok (.iload_n 3, 1) := by decide +kernel
theorem dX12_fewestStrokes_70 : decode cX12_fewestStrokes 70 = .ok (.if_icmp .ge 45, 3) := by decide +kernel
theorem dX12_fewestStrokes_73 : decode cX12_fewestStrokes 73 = .ok (.iload 4, 2) := by decide +kernel
theorem dX12_fewestStrokes_75 : decode cX12_fewestStrokes 75 = .ok (.aload_n 0, 1) := by decide +kernel
theorem dX12_fewestStrokes_76 : decode cX12_fewestStrokes 76 = .ok (.getfield 106, 3) := by decide +kernel
theorem dX12_fewestStrokes_79 : decode cX12_fewestStrokes 79 = .ok (.bipush 17, 2) := by decide +kernel
theorem dX12_fewestStrokes_81 : decode cX12_fewestStrokes 81 = .ok (.iload 5, 2) := by decide +kernel
theorem dX12_fewestStrokes_83 : decode cX12_fewestStrokes 83 = .ok (.imul, 1) := by decide +kernel
theorem dX12_fewestStrokes_84 : decode cX12_fewestStrokes 84 = .ok (.iload_n 2, 1) := by decide +kernel
theorem dX12_fewestStrokes_85 : decode cX12_fewestStrokes 85 = .ok (.iadd, 1) := by decide +kernel
theorem dX12_fewestStrokes_86 : decode cX12_fewestStrokes 86 = .ok (.iconst 1, 1) := by decide +kernel
theorem dX12_fewestStrokes_87 : decode cX12_fewestStrokes 87 = .ok (.isub, 1) := by decide +kernel
theorem dX12_fewestStrokes_88 : decode cX12_fewestStrokes 88 = .ok (.iaload, 1) := by decide +kernel
theorem dX12_fewestStrokes_89 : decode cX12_fewestStrokes 89 = .ok (.iload_n 3, 1) := by decide +kernel
theorem dX12_fewestStrokes_90 : decode cX12_fewestStrokes 90 = .ok (.iconst 1, 1) := by decide +kernel
theorem dX12_fewestStrokes_91 : decode cX12_fewestStrokes 91 = .ok (.isub, 1) := by decide +kernel
theorem dX12_fewestStrokes_92 : decode cX12_fewestStrokes 92 = .ok (.iload 5, 2) := by decide +kernel
theorem dX12_fewestStrokes_94 : decode cX12_fewestStrokes 94 = .ok (.isub, 1) := by decide +kernel
theorem dX12_fewestStrokes_95 : decode cX12_fewestStrokes 95 = .ok (.iload_n 1, 1) := by decide +kernel
theorem dX12_fewestStrokes_96 : decode cX12_fewestStrokes 96 = .ok (.iadd, 1) := by decide +kernel
theorem dX12_fewestStrokes_97 : decode cX12_fewestStrokes 97 = .ok (.iconst 1, 1) := by decide +kernel
theorem dX12_fewestStrokes_98 : decode cX12_fewestStrokes 98 = .ok (.isub, 1) := by decide +kernel
theorem dX12_fewestStrokes_99 : decode cX12_fewestStrokes 99 = .ok (.iload_n 1, 1) := by decide +kernel
theorem dX12_fewestStrokes_100 : decode cX12_fewestStrokes 100 = .ok (.idiv, 1) := by decide +kernel
theorem dX12_fewestStrokes_101 : decode cX12_fewestStrokes 101 = .ok (.invokestatic 342, 3) := by decide +kernel
theorem dX12_fewestStrokes_104 : decode cX12_fewestStrokes 104 = .ok (.invokestatic 360, 3) := by decide +kernel
theorem dX12_fewestStrokes_107 : decode cX12_fewestStrokes 107 = .ok (.istore 4, 2) := by decide +kernel
theorem dX12_fewestStrokes_109 : decode cX12_fewestStrokes 109 = .ok (.iinc 5 1, 3) := by decide +kernel
theorem dX12_fewestStrokes_112 : decode cX12_fewestStrokes 112 = .ok (.goto (-45), 3) := by decide +kernel
theorem dX12_fewestStrokes_115 : decode cX12_fewestStrokes 115 = .ok (.aload_n 0, 1) := by decide +kernel
theorem dX12_fewestStrokes_116 : decode cX12_fewestStrokes 116 = .ok (.getfield 106, 3) := by decide +kernel
theorem dX12_fewestStrokes_119 : decode cX12_fewestStrokes 119 = .ok (.bipush 17, 2) := by decide +kernel
theorem dX12_fewestStrokes_121 : decode cX12_fewestStrokes 121 = .ok (.iload_n 3, 1) := by decide +kernel
theorem dX12_fewestStrokes_122 : decode cX12_fewestStrokes 122 = .ok (.imul, 1) := by decide +kernel
theorem dX12_fewestStrokes_123 : decode cX12_fewestStrokes 123 = .ok (.iload_n 2, 1) := by decide +kernel
theorem dX12_fewestStrokes_124 : decode cX12_fewestStrokes 124 = .ok (.iadd, 1) := by decide +kernel
theorem dX12_fewestStrokes_125 : decode cX12_fewestStrokes 125 = .ok (.iload 4, 2) := by decide +kernel
theorem dX12_fewestStrokes_127 : decode cX12_fewestStrokes 127 = .ok (.iastore, 1) := by decide +kernel
theorem dX12_fewestStrokes_128 : decode cX12_fewestStrokes 128 = .ok (.iinc 3 1, 3) := by decide +kernel
theorem dX12_fewestStrokes_131 : decode cX12_fewestStrokes 131 = .ok (.goto (-119), 3) := by decide +kernel
theorem dX12_fewestStrokes_134 : decode cX12_fewestStrokes 134 = .ok (.iinc 2 1, 3) := by decide +kernel
theorem dX12_fewestStrokes_137 : decode cX12_fewestStrokes 137 = .ok (.goto (-135), 3) := by decide +kernel
theorem dX12_fewestStrokes_140 : decode cX12_fewestStrokes 140 = .ok (.ldc_w 341, 3) := by decide +kernel
theorem dX12_fewestStrokes_143 : decode cX12_fewestStrokes 143 = .ok (.istore_n 2, 1) := by decide +kernel
theorem dX12_fewestStrokes_144 : decode cX12_fewestStrokes 144 = .ok (.iconst 0, 1) := by decide +kernel
theorem dX12_fewestStrokes_145 : decode cX12_fewestStrokes 145 = .ok (.istore_n 3, 1) := by decide +kernel
theorem dX12_fewestStrokes_146 : decode cX12_fewestStrokes 146 = .ok (.iload_n 3, 1) := by decide +kernel
theorem dX12_fewestStrokes_147 : decode cX12_fewestStrokes 147 = .ok (.aload_n 0, 1) := by decide +kernel
theorem dX12_fewestStrokes_148 : decode cX12_fewestStrokes 148 = .ok (.getfield 320, 3) := by decide +kernel
theorem dX12_fewestStrokes_151 : decode cX12_fewestStrokes 151 = .ok (.if_icmp .gt 43, 3) := by decide +kernel
theorem dX12_fewestStrokes_154 : decode cX12_fewestStrokes 154 = .ok (.iload_n 2, 1) := by decide +kernel
theorem dX12_fewestStrokes_155 : decode cX12_fewestStrokes 155 = .ok (.aload_n 0, 1) := by decide +kernel
theorem dX12_fewestStrokes_156 : decode cX12_fewestStrokes 156 = .ok (.getfield 106, 3) := by decide +kernel
theorem dX12_fewestStrokes_159 : decode cX12_fewestStrokes 159 = .ok (.bipush 17, 2) := by decide +kernel
theorem dX12_fewestStrokes_161 : decode cX12_fewestStrokes 161 = .ok (.iload_n 3, 1) := by decide +kernel
theorem dX12_fewestStrokes_162 : decode cX12_fewestStrokes 162 = .ok (.imul, 1) := by decide +kernel
theorem dX12_fewestStrokes_163 : decode cX12_fewestStrokes 163 = .ok (.aload_n 0, 1) := by decide +kernel
theorem dX12_fewestStrokes_164 : decode cX12_fewestStrokes 164 = .ok (.getfield 323, 3) := by decide +kernel
theorem dX12_fewestStrokes_167 : decode cX12_fewestStrokes 167 = .ok (.iadd, 1) := by decide +kernel
theorem dX12_fewestStrokes_168 : decode cX12_fewestStrokes 168 = .ok (.iaload, 1) := by decide +kernel
theorem dX12_fewestStrokes_169 : decode cX12_fewestStrokes 169 = .ok (.aload_n 0, 1) := by decide +kernel
theorem dX12_fewestStrokes_170 : decode cX12_fewestStrokes 170 = .ok (.getfield 320, 3) := by decide +kernel
theorem dX12_fewestStrokes_173 : decode cX12_fewestStrokes 173 = .ok (.iload_n 3, 1) := by decide +kernel
theorem dX12_fewestStrokes_174 : decode cX12_fewestStrokes 174 = .ok (.isub, 1) := by decide +kernel
theorem dX12_fewestStrokes_175 : decode cX12_fewestStrokes 175 = .ok (.iload_n 1, 1) := by decide +kernel
theorem dX12_fewestStrokes_176 : decode cX12_fewestStrokes 176 = .ok (.iadd, 1) := by decide +kernel
theorem dX12_fewestStrokes_177 : decode cX12_fewestStrokes 177 = .ok (.iconst 1, 1) := by decide +kernel
theorem dX12_fewestStrokes_178 : decode cX12_fewestStrokes 178 = .ok (.isub, 1) := by decide +kernel
theorem dX12_fewestStrokes_179 : decode cX12_fewestStrokes 179 = .ok (.iload_n 1, 1) := by decide +kernel
theorem dX12_fewestStrokes_180 : decode cX12_fewestStrokes 180 = .ok (.idiv, 1) := by decide +kernel
theorem dX12_fewestStrokes_181 : decode cX12_fewestStrokes 181 = .ok (.invokestatic 342, 3) := by decide +kernel
theorem dX12_fewestStrokes_184 : decode cX12_fewestStrokes 184 = .ok (.invokestatic 360, 3) := by decide +kernel
theorem dX12_fewestStrokes_187 : decode cX12_fewestStrokes 187 = .ok (.istore_n 2, 1) := by decide +kernel
theorem dX12_fewestStrokes_188 : decode cX12_fewestStrokes 188 = .ok (.iinc 3 1, 3) := by decide +kernel
theorem dX12_fewestStrokes_191 : decode cX12_fewestStrokes 191 = .ok (.goto (-45), 3) := by decide +kernel
theorem dX12_fewestStrokes_194 : decode cX12_fewestStrokes 194 = .ok (.iload_n 2, 1) := by decide +kernel
theorem dX12_fewestStrokes_195 : decode cX12_fewestStrokes 195 = .ok (.ireturn, 1) := by decide +kernel
theorem dX12_forged_0 : decode cX12_forged 0 = .ok (.aload_n 0, 1) := by decide +kernel
theorem dX12_forged_1 : decode cX12_forged 1 = .ok (.iload_n 1, 1) := by decide +kernel
theorem dX12_forged_2 : decode cX12_forged 2 = .ok (.invokevirtual 326, 3) := by decide +kernel
theorem dX12_forged_5 : decode cX12_forged 5 = .ok (.ifCond .ne 5, 3) := by decide +kernel
theorem dX12_forged_8 : decode cX12_forged 8 = .ok (.iconst (-1), 1) := by decide +kernel
theorem dX12_forged_9 : decode cX12_forged 9 = .ok (.ireturn, 1) := by decide +kernel
theorem dX12_forged_10 : decode cX12_forged 10 = .ok (.aload_n 0, 1) := by decide +kernel
theorem dX12_forged_11 : decode cX12_forged 11 = .ok (.iload_n 1, 1) := by decide +kernel
theorem dX12_forged_12 : decode cX12_forged 12 = .ok (.invokevirtual 338, 3) := by decide +kernel
theorem dX12_forged_15 : decode cX12_forged 15 = .ok (.iconst 0, 1) := by decide +kernel
theorem dX12_forged_16 : decode cX12_forged 16 = .ok (.istore_n 2, 1) := by decide +kernel
theorem dX12_forged_17 : decode cX12_forged 17 = .ok (.iload_n 2, 1) := by decide +kernel
theorem dX12_forged_18 : decode cX12_forged 18 = .ok (.aload_n 0, 1) := by decide +kernel
theorem dX12_forged_19 : decode cX12_forged 19 = .ok (.getfield 152, 3) := by decide +kernel
theorem dX12_forged_22 : decode cX12_forged 22 = .ok (.if_icmp .ge 25, 3) := by decide +kernel
theorem dX12_forged_25 : decode cX12_forged 25 = .ok (.aload_n 0, 1) := by decide +kernel
theorem dX12_forged_26 : decode cX12_forged 26 = .ok (.iload_n 2, 1) := by decide +kernel
theorem dX12_forged_27 : decode cX12_forged 27 = .ok (.iconst 1, 1) := by decide +kernel
theorem dX12_forged_28 : decode cX12_forged 28 = .ok (.invokevirtual 334, 3) := by decide +kernel
theorem dX12_forged_31 : decode cX12_forged 31 = .ok (.aload_n 0, 1) := by decide +kernel
theorem dX12_forged_32 : decode cX12_forged 32 = .ok (.iconst (-1), 1) := by decide +kernel
theorem dX12_forged_33 : decode cX12_forged 33 = .ok (.invokevirtual 417, 3) := by decide +kernel
theorem dX12_forged_36 : decode cX12_forged 36 = .ok (.ifCond .eq 5, 3) := by decide +kernel
theorem dX12_forged_39 : decode cX12_forged 39 = .ok (.iconst 0, 1) := by decide +kernel
theorem dX12_forged_40 : decode cX12_forged 40 = .ok (.ireturn, 1) := by decide +kernel
theorem dX12_forged_41 : decode cX12_forged 41 = .ok (.iinc 2 1, 3) := by decide +kernel
theorem dX12_forged_44 : decode cX12_forged 44 = .ok (.goto (-27), 3) := by decide +kernel
theorem dX12_forged_47 : decode cX12_forged 47 = .ok (.iconst 1, 1) := by decide +kernel
theorem dX12_forged_48 : decode cX12_forged 48 = .ok (.ireturn, 1) := by decide +kernel
theorem dX12_hiddenAt_0 : decode cX12_hiddenAt 0 = .ok (.bipush 17, 2) := by decide +kernel
theorem dX12_hiddenAt_2 : decode cX12_hiddenAt 2 = .ok (.iload_n 1, 1) := by decide +kernel
theorem dX12_hiddenAt_3 : decode cX12_hiddenAt 3 = .ok (.imul, 1) := by decide +kernel
theorem dX12_hiddenAt_4 : decode cX12_hiddenAt 4 = .ok (.iload_n 2, 1) := by decide +kernel
theorem dX12_hiddenAt_5 : decode cX12_hiddenAt 5 = .ok (.iadd, 1) := by decide +kernel
theorem dX12_hiddenAt_6 : decode cX12_hiddenAt 6 = .ok (.bipush 17, 2) := by decide +kernel
theorem dX12_hiddenAt_8 : decode cX12_hiddenAt 8 = .ok (.imul, 1) := by decide +kernel
theorem dX12_hiddenAt_9 : decode cX12_hiddenAt 9 = .ok (.iload_n 3, 1) := by decide +kernel
theorem dX12_hiddenAt_10 : decode cX12_hiddenAt 10 = .ok (.iadd, 1) := by decide +kernel
theorem dX12_hiddenAt_11 : decode cX12_hiddenAt 11 = .ok (.ireturn, 1) := by decide +kernel
theorem dX12_howOften_0 : decode cX12_howOften 0 = .ok (.iconst 0, 1) := by decide +kernel
theorem dX12_howOften_1 : decode cX12_howOften 1 = .ok (.istore_n 3, 1) := by decide +kernel
theorem dX12_howOften_2 : decode cX12_howOften 2 = .ok (.iconst 0, 1) := by decide +kernel
theorem dX12_howOften_3 : decode cX12_howOften 3 = .ok (.istore 4, 2) := by decide +kernel
theorem dX12_howOften_5 : decode cX12_howOften 5 = .ok (.iload 4, 2) := by decide +kernel
theorem dX12_howOften_7 : decode cX12_howOften 7 = .ok (.aload_n 0, 1) := by decide +kernel
theorem dX12_howOften_8 : decode cX12_howOften 8 = .ok (.getfield 7, 3) := by decide +kernel
theorem dX12_howOften_11 : decode cX12_howOften 11 = .ok (.iload_n 1, 1) := by decide +kernel
theorem dX12_howOften_12 : decode cX12_howOften 12 = .ok (.iaload, 1) := by decide +kernel
theorem dX12_howOften_13 : decode cX12_howOften 13 = .ok (.if_icmp .ge 48, 3) := by decide +kernel
theorem dX12_howOften_16 : decode cX12_howOften 16 = .ok (.iload_n 3, 1) := by decide +kernel
theorem dX12_howOften_17 : decode cX12_howOften 17 = .ok (.aload_n 0, 1) := by decide +kernel
theorem dX12_howOften_18 : decode cX12_howOften 18 = .ok (.getfield 22, 3) := by decide +kernel
theorem dX12_howOften_21 : decode cX12_howOften 21 = .ok (.bipush 40, 2) := by decide +kernel
theorem dX12_howOften_23 : decode cX12_howOften 23 = .ok (.iload_n 1, 1) := by decide +kernel
theorem dX12_howOften_24 : decode cX12_howOften 24 = .ok (.imul, 1) := by decide +kernel
theorem dX12_howOften_25 : decode cX12_howOften 25 = .ok (.iload 4, 2) := by decide +kernel
theorem dX12_howOften_27 : decode cX12_howOften 27 = .ok (.iadd, 1) := by decide +kernel
theorem dX12_howOften_28 : decode cX12_howOften 28 = .ok (.baload, 1) := by decide +kernel
theorem dX12_howOften_29 : decode cX12_howOften 29 = .ok (.ifCond .ne 23, 3) := by decide +kernel
theorem dX12_howOften_32 : decode cX12_howOften 32 = .ok (.aload_n 0, 1) := by decide +kernel
theorem dX12_howOften_33 : decode cX12_howOften 33 = .ok (.getfield 13, 3) := by decide +kernel
theorem dX12_howOften_36 : decode cX12_howOften 36 = .ok (.bipush 40, 2) := by decide +kernel
theorem dX12_howOften_38 : decode cX12_howOften 38 = .ok (.iload_n 1, 1) := by decide +kernel
theorem dX12_howOften_39 : decode cX12_howOften 39 = .ok (.imul, 1) := by decide +kernel
theorem dX12_howOften_40 : decode cX12_howOften 40 = .ok (.iload 4, 2) := by decide +kernel
theorem dX12_howOften_42 : decode cX12_howOften 42 = .ok (.iadd, 1) := by decide +kernel
theorem dX12_howOften_43 : decode cX12_howOften 43 = .ok (.iaload, 1) := by decide +kernel
theorem dX12_howOften_44 : decode cX12_howOften 44 = .ok (.iload_n 2, 1) := by decide +kernel
theorem dX12_howOften_45 : decode cX12_howOften 45 = .ok (.if_icmp .ne 7, 3) := by decide +kernel
theorem dX12_howOften_48 : decode cX12_howOften 48 = .ok (.iconst 1, 1) := by decide +kernel
theorem dX12_howOften_49 : decode cX12_howOften 49 = .ok (.goto 4, 3) := by decide +kernel
theorem dX12_howOften_52 : decode cX12_howOften 52 = .ok (.iconst 0, 1) := by decide +kernel
theorem dX12_howOften_53 : decode cX12_howOften 53 = .ok (.iadd, 1) := by decide +kernel
theorem dX12_howOften_54 : decode cX12_howOften 54 = .ok (.istore_n 3, 1) := by decide +kernel
theorem dX12_howOften_55 : decode cX12_howOften 55 = .ok (.iinc 4 1, 3) := by decide +kernel
theorem dX12_howOften_58 : decode cX12_howOften 58 = .ok (.goto (-53), 3) := by decide +kernel
theorem dX12_howOften_61 : decode cX12_howOften 61 = .ok (.iload_n 3, 1) := by decide +kernel
theorem dX12_howOften_62 : decode cX12_howOften 62 = .ok (.ireturn, 1) := by decide +kernel
theorem dX12_in_0 : decode cX12_in 0 = .ok (.iload_n 0, 1) := by decide +kernel
theorem dX12_in_1 : decode cX12_in 1 = .ok (.iload_n 1, 1) := by decide +kernel
theorem dX12_in_2 : decode cX12_in 2 = .ok (.if_icmp .lt 12, 3) := by decide +kernel
theorem dX12_in_5 : decode cX12_in 5 = .ok (.iload_n 0, 1) := by decide +kernel
theorem dX12_in_6 : decode cX12_in 6 = .ok (.iload_n 2, 1) := by decide +kernel
theorem dX12_in_7 : decode cX12_in 7 = .ok (.if_icmp .gt 7, 3) := by decide +kernel
theorem dX12_in_10 : decode cX12_in 10 = .ok (.iconst 1, 1) := by decide +kernel
theorem dX12_in_11 : decode cX12_in 11 = .ok (.goto 4, 3) := by decide +kernel
theorem dX12_in_14 : decode cX12_in 14 = .ok (.iconst 0, 1) := by decide +kernel
theorem dX12_in_15 : decode cX12_in 15 = .ok (.ireturn, 1) := by decide +kernel
theorem dX12_isAsked_0 : decode cX12_isAsked 0 = .ok (.aload_n 0, 1) := by decide +kernel
theorem dX12_isAsked_1 : decode cX12_isAsked 1 = .ok (.iload_n 1, 1) := by decide +kernel
theorem dX12_isAsked_2 : decode cX12_isAsked 2 = .ok (.invokevirtual 172, 3) := by decide +kernel
theorem dX12_isAsked_5 : decode cX12_isAsked 5 = .ok (.ifCond .eq 15, 3) := by decide +kernel
theorem dX12_isAsked_8 : decode cX12_isAsked 8 = .ok (.aload_n 0, 1) := by decide +kernel
theorem dX12_isAsked_9 : decode cX12_isAsked 9 = .ok (.iload_n 2, 1) := by decide +kernel
theorem dX12_isAsked_10 : decode cX12_isAsked 10 = .ok (.invokevirtual 326, 3) := by decide +kernel
theorem dX12_isAsked_13 : decode cX12_isAsked 13 = .ok (.ifCond .eq 7, 3) := by decide +kernel
theorem dX12_isAsked_16 : decode cX12_isAsked 16 = .ok (.iconst 1, 1) := by decide +kernel
theorem dX12_isAsked_17 : decode cX12_isAsked 17 = .ok (.goto 4, 3) := by decide +kernel
theorem dX12_isAsked_20 : decode cX12_isAsked 20 = .ok (.iconst 0, 1) := by decide +kernel
theorem dX12_isAsked_21 : decode cX12_isAsked 21 = .ok (.ireturn, 1) := by decide +kernel
theorem dX12_isBlank_0 : decode cX12_isBlank 0 = .ok (.iload_n 1, 1) := by decide +kernel
theorem dX12_isBlank_1 : decode cX12_isBlank 1 = .ok (.ifCond .lt 15, 3) := by decide +kernel
theorem dX12_isBlank_4 : decode cX12_isBlank 4 = .ok (.iload_n 1, 1) := by decide +kernel
theorem dX12_isBlank_5 : decode cX12_isBlank 5 = .ok (.aload_n 0, 1) := by decide +kernel
theorem dX12_isBlank_6 : decode cX12_isBlank 6 = .ok (.getfield 152, 3) := by decide +kernel
theorem dX12_isBlank_9 : decode cX12_isBlank 9 = .ok (.if_icmp .ge 7, 3) := by decide +kernel
theorem dX12_isBlank_12 : decode cX12_isBlank 12 = .ok (.iconst 1, 1) := by decide +kernel
theorem dX12_isBlank_13 : decode cX12_isBlank 13 = .ok (.goto 4, 3) := by decide +kernel
theorem dX12_isBlank_16 : decode cX12_isBlank 16 = .ok (.iconst 0, 1) := by decide +kernel
theorem dX12_isBlank_17 : decode cX12_isBlank 17 = .ok (.ireturn, 1) := by decide +kernel
theorem dX12_isClerk_0 : decode cX12_isClerk 0 = .ok (.iload_n 0, 1) := by decide +kernel
theorem dX12_isClerk_1 : decode cX12_isClerk 1 = .ok (.ifCond .lt 13, 3) := by decide +kernel
theorem dX12_isClerk_4 : decode cX12_isClerk 4 = .ok (.iload_n 0, 1) := by decide +kernel
theorem dX12_isClerk_5 : decode cX12_isClerk 5 = .ok (.bipush 8, 2) := by decide +kernel
theorem dX12_isClerk_7 : decode cX12_isClerk 7 = .ok (.if_icmp .ge 7, 3) := by decide +kernel
theorem dX12_isClerk_10 : decode cX12_isClerk 10 = .ok (.iconst 1, 1) := by decide +kernel
theorem dX12_isClerk_11 : decode cX12_isClerk 11 = .ok (.goto 4, 3) := by decide +kernel
theorem dX12_isClerk_14 : decode cX12_isClerk 14 = .ok (.iconst 0, 1) := by decide +kernel
theorem dX12_isClerk_15 : decode cX12_isClerk 15 = .ok (.ireturn, 1) := by decide +kernel
theorem dX12_isDeed_0 : decode cX12_isDeed 0 = .ok (.iload_n 1, 1) := by decide +kernel
theorem dX12_isDeed_1 : decode cX12_isDeed 1 = .ok (.ifCond .lt 25, 3) := by decide +kernel
theorem dX12_isDeed_4 : decode cX12_isDeed 4 = .ok (.iload_n 1, 1) := by decide +kernel
theorem dX12_isDeed_5 : decode cX12_isDeed 5 = .ok (.bipush 8, 2) := by decide +kernel
theorem dX12_isDeed_7 : decode cX12_isDeed 7 = .ok (.if_icmp .ge 19, 3) := by decide +kernel
theorem dX12_isDeed_10 : decode cX12_isDeed 10 = .ok (.aload_n 0, 1) := by decide +kernel
theorem dX12_isDeed_11 : decode cX12_isDeed 11 = .ok (.getfield 155, 3) := by decide +kernel
theorem dX12_isDeed_14 : decode cX12_isDeed 14 = .ok (.iload_n 1, 1) := by decide +kernel
theorem dX12_isDeed_15 : decode cX12_isDeed 15 = .ok (.ishr, 1) := by decide +kernel
theorem dX12_isDeed_16 : decode cX12_isDeed 16 = .ok (.iconst 1, 1) := by decide +kernel
theorem dX12_isDeed_17 : decode cX12_isDeed 17 = .ok (.iand, 1) := by decide +kernel
theorem dX12_isDeed_18 : decode cX12_isDeed 18 = .ok (.iconst 1, 1) := by decide +kernel
theorem dX12_isDeed_19 : decode cX12_isDeed 19 = .ok (.if_icmp .ne 7, 3) := by decide +kernel
theorem dX12_isDeed_22 : decode cX12_isDeed 22 = .ok (.iconst 1, 1) := by decide +kernel
theorem dX12_isDeed_23 : decode cX12_isDeed 23 = .ok (.goto 4, 3) := by decide +kernel
theorem dX12_isDeed_26 : decode cX12_isDeed 26 = .ok (.iconst 0, 1) := by decide +kernel
theorem dX12_isDeed_27 : decode cX12_isDeed 27 = .ok (.ireturn, 1) := by decide +kernel
theorem dX12_isStruckAt_0 : decode cX12_isStruckAt 0 = .ok (.iload_n 2, 1) := by decide +kernel
theorem dX12_isStruckAt_1 : decode cX12_isStruckAt 1 = .ok (.ifCond .lt 27, 3) := by decide +kernel
theorem dX12_isStruckAt_4 : decode cX12_isStruckAt 4 = .ok (.iload_n 2, 1) := by decide +kernel
theorem dX12_isStruckAt_5 : decode cX12_isStruckAt 5 = .ok (.aload_n 0, 1) := by decide +kernel
theorem dX12_isStruckAt_6 : decode cX12_isStruckAt 6 = .ok (.getfield 7, 3) := by decide +kernel
theorem dX12_isStruckAt_9 : decode cX12_isStruckAt 9 = .ok (.iload_n 1, 1) := by decide +kernel
theorem dX12_isStruckAt_10 : decode cX12_isStruckAt 10 = .ok (.iaload, 1) := by decide +kernel
theorem dX12_isStruckAt_11 : decode cX12_isStruckAt 11 = .ok (.if_icmp .ge 17, 3) := by decide +kernel
theorem dX12_isStruckAt_14 : decode cX12_isStruckAt 14 = .ok (.aload_n 0, 1) := by decide +kernel
theorem dX12_isStruckAt_15 : decode cX12_isStruckAt 15 = .ok (.getfield 22, 3) := by decide +kernel
theorem dX12_isStruckAt_18 : decode cX12_isStruckAt 18 = .ok (.bipush 40, 2) := by decide +kernel
theorem dX12_isStruckAt_20 : decode cX12_isStruckAt 20 = .ok (.iload_n 1, 1) := by decide +kernel
theorem dX12_isStruckAt_21 : decode cX12_isStruckAt 21 = .ok (.imul, 1) := by decide +kernel
theorem dX12_isStruckAt_22 : decode cX12_isStruckAt 22 = .ok (.iload_n 2, 1) := by decide +kernel
theorem dX12_isStruckAt_23 : decode cX12_isStruckAt 23 = .ok (.iadd, 1) := by decide +kernel
theorem dX12_isStruckAt_24 : decode cX12_isStruckAt 24 = .ok (.baload, 1) := by decide +kernel
theorem dX12_isStruckAt_25 : decode cX12_isStruckAt 25 = .ok (.ifCond .eq 7, 3) := by decide +kernel
theorem dX12_isStruckAt_28 : decode cX12_isStruckAt 28 = .ok (.iconst 1, 1) := by decide +kernel
theorem dX12_isStruckAt_29 : decode cX12_isStruckAt 29 = .ok (.goto 4, 3) := by decide +kernel
theorem dX12_isStruckAt_32 : decode cX12_isStruckAt 32 = .ok (.iconst 0, 1) := by decide +kernel
theorem dX12_isStruckAt_33 : decode cX12_isStruckAt 33 = .ok (.ireturn, 1) := by decide +kernel
theorem dX12_isTooLong_0 : decode cX12_isTooLong 0 = .ok (.iconst 0, 1) := by decide +kernel
theorem dX12_isTooLong_1 : decode cX12_isTooLong 1 = .ok (.istore_n 1, 1) := by decide +kernel
theorem dX12_isTooLong_2 : decode cX12_isTooLong 2 = .ok (.iload_n 1, 1) := by decide +kernel
theorem dX12_isTooLong_3 : decode cX12_isTooLong 3 = .ok (.aload_n 0, 1) := by decide +kernel
theorem dX12_isTooLong_4 : decode cX12_isTooLong 4 = .ok (.getfield 369, 3) := by decide +kernel
theorem dX12_isTooLong_7 : decode cX12_isTooLong 7 = .ok (.if_icmp .ge 21, 3) := by decide +kernel
theorem dX12_isTooLong_10 : decode cX12_isTooLong 10 = .ok (.aload_n 0, 1) := by decide +kernel
theorem dX12_isTooLong_11 : decode cX12_isTooLong 11 = .ok (.iload_n 1, 1) := by decide +kernel
theorem dX12_isTooLong_12 : decode cX12_isTooLong 12 = .ok (.invokevirtual 372, 3) := by decide +kernel
theorem dX12_isTooLong_15 : decode cX12_isTooLong 15 = .ok (.bipush 12, 2) := by decide +kernel
theorem dX12_isTooLong_17 : decode cX12_isTooLong 17 = .ok (.if_icmp .le 5, 3) := by decide +kernel
theorem dX12_isTooLong_20 : decode cX12_isTooLong 20 = .ok (.iconst 1, 1) := by decide +kernel
theorem dX12_isTooLong_21 : decode cX12_isTooLong 21 = .ok (.ireturn, 1) := by decide +kernel
theorem dX12_isTooLong_22 : decode cX12_isTooLong 22 = .ok (.iinc 1 1, 3) := by decide +kernel
theorem dX12_isTooLong_25 : decode cX12_isTooLong 25 = .ok (.goto (-23), 3) := by decide +kernel
theorem dX12_isTooLong_28 : decode cX12_isTooLong 28 = .ok (.iconst 0, 1) := by decide +kernel
theorem dX12_isTooLong_29 : decode cX12_isTooLong 29 = .ok (.ireturn, 1) := by decide +kernel
theorem dX12_laysBlank_0 : decode cX12_laysBlank 0 = .ok (.aload_n 0, 1) := by decide +kernel
theorem dX12_laysBlank_1 : decode cX12_laysBlank 1 = .ok (.iconst 0, 1) := by decide +kernel
theorem dX12_laysBlank_2 : decode cX12_laysBlank 2 = .ok (.putfield 320, 3) := by decide +kernel
theorem dX12_laysBlank_5 : decode cX12_laysBlank 5 = .ok (.iconst 0, 1) := by decide +kernel
theorem dX12_laysBlank_6 : decode cX12_laysBlank 6 = .ok (.istore_n 3, 1) := by decide +kernel
theorem dX12_laysBlank_7 : decode cX12_laysBlank 7 = .ok (.iload_n 3, 1) := by decide +kernel
theorem dX12_laysBlank_8 : decode cX12_laysBlank 8 = .ok (.aload_n 0, 1) := by decide +kernel
theorem dX12_laysBlank_9 : decode cX12_laysBlank 9 = .ok (.getfield 7, 3) := by decide +kernel
theorem dX12_laysBlank_12 : decode cX12_laysBlank 12 = .ok (.iload_n 1, 1) := by decide +kernel
theorem dX12_laysBlank_13 : decode cX12_laysBlank 13 = .ok (.iaload, 1) := by decide +kernel
theorem dX12_laysBlank_14 : decode cX12_laysBlank 14 = .ok (.if_icmp .ge 60, 3) := by decide +kernel
theorem dX12_laysBlank_17 : decode cX12_laysBlank 17 = .ok (.iload_n 2, 1) := by decide +kernel
theorem dX12_laysBlank_18 : decode cX12_laysBlank 18 = .ok (.ifCond .ne 20, 3) := by decide +kernel
theorem dX12_laysBlank_21 : decode cX12_laysBlank 21 = .ok (.aload_n 0, 1) := by decide +kernel
theorem dX12_laysBlank_22 : decode cX12_laysBlank 22 = .ok (.getfield 22, 3) := by decide +kernel
theorem dX12_laysBlank_25 : decode cX12_laysBlank 25 = .ok (.bipush 40, 2) := by decide +kernel
theorem dX12_laysBlank_27 : decode cX12_laysBlank 27 = .ok (.iload_n 1, 1) := by decide +kernel
theorem dX12_laysBlank_28 : decode cX12_laysBlank 28 = .ok (.imul, 1) := by decide +kernel
theorem dX12_laysBlank_29 : decode cX12_laysBlank 29 = .ok (.iload_n 3, 1) := by decide +kernel
theorem dX12_laysBlank_30 : decode cX12_laysBlank 30 = .ok (.iadd, 1) := by decide +kernel
theorem dX12_laysBlank_31 : decode cX12_laysBlank 31 = .ok (.baload, 1) := by decide +kernel
theorem dX12_laysBlank_32 : decode cX12_laysBlank 32 = .ok (.ifCond .eq 6, 3) := by decide +kernel
theorem dX12_laysBlank_35 : decode cX12_laysBlank 35 = .ok (.goto 33, 3) := by decide +kernel
theorem dX12_laysBlank_38 : decode cX12_laysBlank 38 = .ok (.aload_n 0, 1) := by decide +kernel
theorem dX12_laysBlank_39 : decode cX12_laysBlank 39 = .ok (.getfield 87, 3) := by decide +kernel
theorem dX12_laysBlank_42 : decode cX12_laysBlank 42 = .ok (.aload_n 0, 1) := by decide +kernel
theorem dX12_laysBlank_43 : decode cX12_laysBlank 43 = .ok (.getfield 320, 3) := by decide +kernel
theorem dX12_laysBlank_46 : decode cX12_laysBlank 46 = .ok (.aload_n 0, 1) := by decide +kernel
theorem dX12_laysBlank_47 : decode cX12_laysBlank 47 = .ok (.getfield 13, 3) := by decide +kernel
theorem dX12_laysBlank_50 : decode cX12_laysBlank 50 = .ok (.bipush 40, 2) := by decide +kernel
theorem dX12_laysBlank_52 : decode cX12_laysBlank 52 = .ok (.iload_n 1, 1) := by decide +kernel
theorem dX12_laysBlank_53 : decode cX12_laysBlank 53 = .ok (.imul, 1) := by decide +kernel
theorem dX12_laysBlank_54 : decode cX12_laysBlank 54 = .ok (.iload_n 3, 1) := by decide +kernel
theorem dX12_laysBlank_55 : decode cX12_laysBlank 55 = .ok (.iadd, 1) := by decide +kernel
theorem dX12_laysBlank_56 : decode cX12_laysBlank 56 = .ok (.iaload, 1) := by decide +kernel
theorem dX12_laysBlank_57 : decode cX12_laysBlank 57 = .ok (.iastore, 1) := by decide +kernel
theorem dX12_laysBlank_58 : decode cX12_laysBlank 58 = .ok (.aload_n 0, 1) := by decide +kernel
theorem dX12_laysBlank_59 : decode cX12_laysBlank 59 = .ok (.aload_n 0, 1) := by decide +kernel
theorem dX12_laysBlank_60 : decode cX12_laysBlank 60 = .ok (.getfield 320, 3) := by decide +kernel
theorem dX12_laysBlank_63 : decode cX12_laysBlank 63 = .ok (.iconst 1, 1) := by decide +kernel
theorem dX12_laysBlank_64 : decode cX12_laysBlank 64 = .ok (.iadd, 1) := by decide +kernel
theorem dX12_laysBlank_65 : decode cX12_laysBlank 65 = .ok (.putfield 320, 3) := by decide +kernel
theorem dX12_laysBlank_68 : decode cX12_laysBlank 68 = .ok (.iinc 3 1, 3) := by decide +kernel
theorem dX12_laysBlank_71 : decode cX12_laysBlank 71 = .ok (.goto (-64), 3) := by decide +kernel
theorem dX12_laysBlank_74 : decode cX12_laysBlank 74 = .ok (.return_, 1) := by decide +kernel
theorem dX12_laysCheap_0 : decode cX12_laysCheap 0 = .ok (.aload_n 0, 1) := by decide +kernel
theorem dX12_laysCheap_1 : decode cX12_laysCheap 1 = .ok (.getfield 320, 3) := by decide +kernel
theorem dX12_laysCheap_4 : decode cX12_laysCheap 4 = .ok (.istore_n 1, 1) := by decide +kernel
theorem dX12_laysCheap_5 : decode cX12_laysCheap 5 = .ok (.iload_n 1, 1) := by decide +kernel
theorem dX12_laysCheap_6 : decode cX12_laysCheap 6 = .ok (.ifCond .lt 151, 3) := by decide +kernel
theorem dX12_laysCheap_9 : decode cX12_laysCheap 9 = .ok (.aload_n 0, 1) := by decide +kernel
theorem dX12_laysCheap_10 : decode cX12_laysCheap 10 = .ok (.getfield 323, 3) := by decide +kernel
theorem dX12_laysCheap_13 : decode cX12_laysCheap 13 = .ok (.istore_n 2, 1) := by decide +kernel
theorem dX12_laysCheap_14 : decode cX12_laysCheap 14 = .ok (.iload_n 2, 1) := by decide +kernel
theorem dX12_laysCheap_15 : decode cX12_laysCheap 15 = .ok (.ifCond .lt 136, 3) := by decide +kernel
theorem dX12_laysCheap_18 : decode cX12_laysCheap 18 = .ok (.iload_n 1, 1) := by decide +kernel
theorem dX12_laysCheap_19 : decode cX12_laysCheap 19 = .ok (.aload_n 0, 1) := by decide +kernel
theorem dX12_laysCheap_20 : decode cX12_laysCheap 20 = .ok (.getfield 320, 3) := by decide +kernel
theorem dX12_laysCheap_23 : decode cX12_laysCheap 23 = .ok (.if_icmp .ne 21, 3) := by decide +kernel
theorem dX12_laysCheap_26 : decode cX12_laysCheap 26 = .ok (.iload_n 2, 1) := by decide +kernel
theorem dX12_laysCheap_27 : decode cX12_laysCheap 27 = .ok (.aload_n 0, 1) := by decide +kernel
theorem dX12_laysCheap_28 : decode cX12_laysCheap 28 = .ok (.getfield 323, 3) := by decide +kernel
theorem dX12_laysCheap_31 : decode cX12_laysCheap 31 = .ok (.if_icmp .ne 7, 3) := by decide +kernel
theorem dX12_laysCheap_34 : decode cX12_laysCheap 34 = .ok (.iconst 0, 1) := by decide +kernel
theorem dX12_laysCheap_35 : decode cX12_laysCheap 35 = .ok (.goto 31, 3) := by decide +kernel
theorem dX12_laysCheap_38 : decode cX12_laysCheap 38 = .ok (.ldc_w 341, 3) := by decide +kernel
theorem dX12_laysCheap_41 : decode cX12_laysCheap 41 = .ok (.goto 25, 3) := by decide +kernel
theorem dX12_laysCheap_44 : decode cX12_laysCheap 44 = .ok (.aload_n 0, 1) := by decide +kernel
theorem dX12_laysCheap_45 : decode cX12_laysCheap 45 = .ok (.getfield 97, 3) := by decide +kernel
theorem dX12_laysCheap_48 : decode cX12_laysCheap 48 = .ok (.iload_n 1, 1) := by decide +kernel
theorem dX12_laysCheap_49 : decode cX12_laysCheap 49 = .ok (.iaload, 1) := by decide +kernel
theorem dX12_laysCheap_50 : decode cX12_laysCheap 50 = .ok (.aload_n 0, 1) := by decide +kernel
theorem dX12_laysCheap_51 : decode cX12_laysCheap 51 = .ok (.getfield 100, 3) := by decide +kernel
theorem dX12_laysCheap_54 : decode cX12_laysCheap 54 = .ok (.bipush 17, 2) := by decide +kernel
theorem dX12_laysCheap_56 : decode cX12_laysCheap 56 = .ok (.iload_n 1, 1) := by decide +kernel
theorem dX12_laysCheap_57 : decode cX12_laysCheap 57 = .ok (.iconst 1, 1) := by decide +kernel
theorem dX12_laysCheap_58 : decode cX12_laysCheap 58 = .ok (.iadd, 1) := by decide +kernel
theorem dX12_laysCheap_59 : decode cX12_laysCheap 59 = .ok (.imul, 1) := by decide +kernel
theorem dX12_laysCheap_60 : decode cX12_laysCheap 60 = .ok (.iload_n 2, 1) := by decide +kernel
theorem dX12_laysCheap_61 : decode cX12_laysCheap 61 = .ok (.iadd, 1) := by decide +kernel
theorem dX12_laysCheap_62 : decode cX12_laysCheap 62 = .ok (.iaload, 1) := by decide +kernel
theorem dX12_laysCheap_63 : decode cX12_laysCheap 63 = .ok (.invokestatic 342, 3) := by decide +kernel
theorem dX12_laysCheap_66 : decode cX12_laysCheap 66 = .ok (.istore_n 3, 1) := by decide +kernel
theorem dX12_laysCheap_67 : decode cX12_laysCheap 67 = .ok (.iload_n 1, 1) := by decide +kernel
theorem dX12_laysCheap_68 : decode cX12_laysCheap 68 = .ok (.aload_n 0, 1) := by decide +kernel
theorem dX12_laysCheap_69 : decode cX12_laysCheap 69 = .ok (.getfield 320, 3) := by decide +kernel
theorem dX12_laysCheap_72 : decode cX12_laysCheap 72 = .ok (.if_icmp .ge 61, 3) := by decide +kernel
theorem dX12_laysCheap_75 : decode cX12_laysCheap 75 = .ok (.iload_n 2, 1) := by decide +kernel
theorem dX12_laysCheap_76 : decode cX12_laysCheap 76 = .ok (.aload_n 0, 1) := by decide +kernel
theorem dX12_laysCheap_77 : decode cX12_laysCheap 77 = .ok (.getfield 323, 3) := by decide +kernel
theorem dX12_laysCheap_80 : decode cX12_laysCheap 80 = .ok (.if_icmp .ge 53, 3) := by decide +kernel
theorem dX12_laysCheap_83 : decode cX12_laysCheap 83 = .ok (.aload_n 0, 1) := by decide +kernel
theorem dX12_laysCheap_84 : decode cX12_laysCheap 84 = .ok (.getfield 87, 3) := by decide +kernel
theorem dX12_laysCheap_87 : decode cX12_laysCheap 87 = .ok (.iload_n 1, 1) := by decide +kernel
theorem dX12_laysCheap_88 : decode cX12_laysCheap 88 = .ok (.iaload, 1) := by decide +kernel
theorem dX12_laysCheap_89 : decode cX12_laysCheap 89 = .ok (.aload_n 0, 1) := by decide +kernel
theorem dX12_laysCheap_90 : decode cX12_laysCheap 90 = .ok (.getfield 90, 3) := by decide +kernel
theorem dX12_laysCheap_93 : decode cX12_laysCheap 93 = .ok (.iload_n 2, 1) := by decide +kernel
theorem dX12_laysCheap_94 : decode cX12_laysCheap 94 = .ok (.iaload, 1) := by decide +kernel
theorem dX12_laysCheap_95 : decode cX12_laysCheap 95 = .ok (.if_icmp .ne 38, 3) := by decide +kernel
theorem dX12_laysCheap_98 : decode cX12_laysCheap 98 = .ok (.aload_n 0, 1) := by decide +kernel
theorem dX12_laysCheap_99 : decode cX12_laysCheap 99 = .ok (.getfield 100, 3) := by decide +kernel
theorem dX12_laysCheap_102 : decode cX12_laysCheap 102 = .ok (.bipush 17, 2) := by decide +kernel
theorem dX12_laysCheap_104 : decode cX12_laysCheap 104 = .ok (.iload_n 1, 1) := by decide +kernel
theorem dX12_laysCheap_105 : decode cX12_laysCheap 105 = .ok (.iconst 1, 1) := by decide +kernel
theorem dX12_laysCheap_106 : decode cX12_laysCheap 106 = .ok (.iadd, 1) := by decide +kernel
theorem dX12_laysCheap_107 : decode cX12_laysCheap 107 = .ok (.imul, 1) := by decide +kernel
theorem dX12_laysCheap_108 : decode cX12_laysCheap 108 = .ok (.iload_n 2, 1) := by decide +kernel
theorem dX12_laysCheap_109 : decode cX12_laysCheap 109 = .ok (.iadd, 1) := by decide +kernel
theorem dX12_laysCheap_110 : decode cX12_laysCheap 110 = .ok (.iconst 1, 1) := by decide +kernel
theorem dX12_laysCheap_111 : decode cX12_laysCheap 111 = .ok (.iadd, 1) := by decide +kernel
theorem dX12_laysCheap_112 : decode cX12_laysCheap 112 = .ok (.iaload, 1) := by decide +kernel
theorem dX12_laysCheap_113 : decode cX12_laysCheap 113 = .ok (.iload_n 3, 1) := by decide +kernel
theorem dX12_laysCheap_114 : decode cX12_laysCheap 114 = .ok (.if_icmp .ge 19, 3) := by decide +kernel
theorem dX12_laysCheap_117 : decode cX12_laysCheap 117 = .ok (.aload_n 0, 1) := by decide +kernel
theorem dX12_laysCheap_118 : decode cX12_laysCheap 118 = .ok (.getfield 100, 3) := by decide +kernel
theorem dX12_laysCheap_121 : decode cX12_laysCheap 121 = .ok (.bipush 17, 2) := by decide +kernel
theorem dX12_laysCheap_123 : decode cX12_laysCheap 123 = .ok (.iload_n 1, 1) := by decide +kernel
theorem dX12_laysCheap_124 : decode cX12_laysCheap 124 = .ok (.iconst 1, 1) := by decide +kernel
theorem dX12_laysCheap_125 : decode cX12_laysCheap 125 = .ok (.iadd, 1) := by decide +kernel
theorem dX12_laysCheap_126 : decode cX12_laysCheap 126 = .ok (.imul, 1) := by decide +kernel
theorem dX12_laysCheap_127 : decode cX12_laysCheap 127 = .ok (.iload_n 2, 1) := by decide +kernel
theorem dX12_laysCheap_128 : decode cX12_laysCheap 128 = .ok (.iadd, 1) := by decide +kernel
theorem dX12_laysCheap_129 : decode cX12_laysCheap 129 = .ok (.iconst 1, 1) := by decide +kernel
theorem dX12_laysCheap_130 : decode cX12_laysCheap 130 = .ok (.iadd, 1) := by decide +kernel
theorem dX12_laysCheap_131 : decode cX12_laysCheap 131 = .ok (.iaload, 1) := by decide +kernel
theorem dX12_laysCheap_132 : decode cX12_laysCheap 132 = .ok (.istore_n 3, 1) := by decide +kernel
theorem dX12_laysCheap_133 : decode cX12_laysCheap 133 = .ok (.aload_n 0, 1) := by decide +kernel
theorem dX12_laysCheap_134 : decode cX12_laysCheap 134 = .ok (.getfield 100, 3) := by decide +kernel
theorem dX12_laysCheap_137 : decode cX12_laysCheap 137 = .ok (.bipush 17, 2) := by decide +kernel
theorem dX12_laysCheap_139 : decode cX12_laysCheap 139 = .ok (.iload_n 1, 1) := by decide +kernel
theorem dX12_laysCheap_140 : decode cX12_laysCheap 140 = .ok (.imul, 1) := by decide +kernel
theorem dX12_laysCheap_141 : decode cX12_laysCheap 141 = .ok (.iload_n 2, 1) := by decide +kernel
theorem dX12_laysCheap_142 : decode cX12_laysCheap 142 = .ok (.iadd, 1) := by decide +kernel
theorem dX12_laysCheap_143 : decode cX12_laysCheap 143 = .ok (.iload_n 3, 1) := by decide +kernel
theorem dX12_laysCheap_144 : decode cX12_laysCheap 144 = .ok (.iastore, 1) := by decide +kernel
theorem dX12_laysCheap_145 : decode cX12_laysCheap 145 = .ok (.iinc 2 (-1), 3) := by decide +kernel
theorem dX12_laysCheap_148 : decode cX12_laysCheap 148 = .ok (.goto (-134), 3) := by decide +kernel
theorem dX12_laysCheap_151 : decode cX12_laysCheap 151 = .ok (.iinc 1 (-1), 3) := by decide +kernel
theorem dX12_laysCheap_154 : decode cX12_laysCheap 154 = .ok (.goto (-149), 3) := by decide +kernel
theorem dX12_laysCheap_157 : decode cX12_laysCheap 157 = .ok (.return_, 1) := by decide +kernel
theorem dX12_laysComes_0 : decode cX12_laysComes 0 = .ok (.iconst 0, 1) := by decide +kernel
theorem dX12_laysComes_1 : decode cX12_laysComes 1 = .ok (.istore_n 1, 1) := by decide +kernel
theorem dX12_laysComes_2 : decode cX12_laysComes 2 = .ok (.iload_n 1, 1) := by decide +kernel
theorem dX12_laysComes_3 : decode cX12_laysComes 3 = .ok (.aload_n 0, 1) := by decide +kernel
theorem dX12_laysComes_4 : decode cX12_laysComes 4 = .ok (.getfield 152, 3) := by decide +kernel
theorem dX12_laysComes_7 : decode cX12_laysComes 7 = .ok (.if_icmp .ge 74, 3) := by decide +kernel
theorem dX12_laysComes_10 : decode cX12_laysComes 10 = .ok (.aload_n 0, 1) := by decide +kernel
theorem dX12_laysComes_11 : decode cX12_laysComes 11 = .ok (.iload_n 1, 1) := by decide +kernel
theorem dX12_laysComes_12 : decode cX12_laysComes 12 = .ok (.iconst 0, 1) := by decide +kernel
theorem dX12_laysComes_13 : decode cX12_laysComes 13 = .ok (.invokevirtual 334, 3) := by decide +kernel
theorem dX12_laysComes_16 : decode cX12_laysComes 16 = .ok (.iconst 0, 1) := by decide +kernel
theorem dX12_laysComes_17 : decode cX12_laysComes 17 = .ok (.istore_n 2, 1) := by decide +kernel
theorem dX12_laysComes_18 : decode cX12_laysComes 18 = .ok (.iload_n 2, 1) := by decide +kernel
theorem dX12_laysComes_19 : decode cX12_laysComes 19 = .ok (.bipush 8, 2) := by decide +kernel
theorem dX12_laysComes_21 : decode cX12_laysComes 21 = .ok (.if_icmp .ge 54, 3) := by decide +kernel
theorem dX12_laysComes_24 : decode cX12_laysComes 24 = .ok (.aload_n 0, 1) := by decide +kernel
theorem dX12_laysComes_25 : decode cX12_laysComes 25 = .ok (.iload_n 2, 1) := by decide +kernel
theorem dX12_laysComes_26 : decode cX12_laysComes 26 = .ok (.invokevirtual 326, 3) := by decide +kernel
theorem dX12_laysComes_29 : decode cX12_laysComes 29 = .ok (.ifCond .eq 8, 3) := by decide +kernel
theorem dX12_laysComes_32 : decode cX12_laysComes 32 = .ok (.aload_n 0, 1) := by decide +kernel
theorem dX12_laysComes_33 : decode cX12_laysComes 33 = .ok (.iload_n 2, 1) := by decide +kernel
theorem dX12_laysComes_34 : decode cX12_laysComes 34 = .ok (.invokevirtual 338, 3) := by decide +kernel
theorem dX12_laysComes_37 : decode cX12_laysComes 37 = .ok (.aload_n 0, 1) := by decide +kernel
theorem dX12_laysComes_38 : decode cX12_laysComes 38 = .ok (.getfield 136, 3) := by decide +kernel
theorem dX12_laysComes_41 : decode cX12_laysComes 41 = .ok (.bipush 8, 2) := by decide +kernel
theorem dX12_laysComes_43 : decode cX12_laysComes 43 = .ok (.iload_n 2, 1) := by decide +kernel
theorem dX12_laysComes_44 : decode cX12_laysComes 44 = .ok (.imul, 1) := by decide +kernel
theorem dX12_laysComes_45 : decode cX12_laysComes 45 = .ok (.iload_n 1, 1) := by decide +kernel
theorem dX12_laysComes_46 : decode cX12_laysComes 46 = .ok (.iadd, 1) := by decide +kernel
theorem dX12_laysComes_47 : decode cX12_laysComes 47 = .ok (.aload_n 0, 1) := by decide +kernel
theorem dX12_laysComes_48 : decode cX12_laysComes 48 = .ok (.iload_n 2, 1) := by decide +kernel
theorem dX12_laysComes_49 : decode cX12_laysComes 49 = .ok (.invokevirtual 326, 3) := by decide +kernel
theorem dX12_laysComes_52 : decode cX12_laysComes 52 = .ok (.ifCond .eq 15, 3) := by decide +kernel
theorem dX12_laysComes_55 : decode cX12_laysComes 55 = .ok (.aload_n 0, 1) := by decide +kernel
theorem dX12_laysComes_56 : decode cX12_laysComes 56 = .ok (.iconst (-1), 1) := by decide +kernel
theorem dX12_laysComes_57 : decode cX12_laysComes 57 = .ok (.invokevirtual 417, 3) := by decide +kernel
theorem dX12_laysComes_60 : decode cX12_laysComes 60 = .ok (.ifCond .eq 7, 3) := by decide +kernel
theorem dX12_laysComes_63 : decode cX12_laysComes 63 = .ok (.iconst 1, 1) := by decide +kernel
theorem dX12_laysComes_64 : decode cX12_laysComes 64 = .ok (.goto 4, 3) := by decide +kernel
theorem dX12_laysComes_67 : decode cX12_laysComes 67 = .ok (.iconst 0, 1) := by decide +kernel
theorem dX12_laysComes_68 : decode cX12_laysComes 68 = .ok (.bastore, 1) := by decide +kernel
theorem dX12_laysComes_69 : decode cX12_laysComes 69 = .ok (.iinc 2 1, 3) := by decide +kernel
theorem dX12_laysComes_72 : decode cX12_laysComes 72 = .ok (.goto (-54), 3) := by decide +kernel
theorem dX12_laysComes_75 : decode cX12_laysComes 75 = .ok (.iinc 1 1, 3) := by decide +kernel
theorem dX12_laysComes_78 : decode cX12_laysComes 78 = .ok (.goto (-76), 3) := by decide +kernel
theorem dX12_laysComes_81 : decode cX12_laysComes 81 = .ok (.return_, 1) := by decide +kernel
theorem dX12_laysDeed_0 : decode cX12_laysDeed 0 = .ok (.aload_n 0, 1) := by decide +kernel
theorem dX12_laysDeed_1 : decode cX12_laysDeed 1 = .ok (.aload_n 0, 1) := by decide +kernel
theorem dX12_laysDeed_2 : decode cX12_laysDeed 2 = .ok (.getfield 16, 3) := by decide +kernel
theorem dX12_laysDeed_5 : decode cX12_laysDeed 5 = .ok (.iload_n 1, 1) := by decide +kernel
theorem dX12_laysDeed_6 : decode cX12_laysDeed 6 = .ok (.iaload, 1) := by decide +kernel
theorem dX12_laysDeed_7 : decode cX12_laysDeed 7 = .ok (.putfield 323, 3) := by decide +kernel
theorem dX12_laysDeed_10 : decode cX12_laysDeed 10 = .ok (.iconst 0, 1) := by decide +kernel
theorem dX12_laysDeed_11 : decode cX12_laysDeed 11 = .ok (.istore_n 2, 1) := by decide +kernel
theorem dX12_laysDeed_12 : decode cX12_laysDeed 12 = .ok (.iload_n 2, 1) := by decide +kernel
theorem dX12_laysDeed_13 : decode cX12_laysDeed 13 = .ok (.aload_n 0, 1) := by decide +kernel
theorem dX12_laysDeed_14 : decode cX12_laysDeed 14 = .ok (.getfield 323, 3) := by decide +kernel
theorem dX12_laysDeed_17 : decode cX12_laysDeed 17 = .ok (.if_icmp .ge 26, 3) := by decide +kernel
theorem dX12_laysDeed_20 : decode cX12_laysDeed 20 = .ok (.aload_n 0, 1) := by decide +kernel
theorem dX12_laysDeed_21 : decode cX12_laysDeed 21 = .ok (.getfield 90, 3) := by decide +kernel
theorem dX12_laysDeed_24 : decode cX12_laysDeed 24 = .ok (.iload_n 2, 1) := by decide +kernel
theorem dX12_laysDeed_25 : decode cX12_laysDeed 25 = .ok (.aload_n 0, 1) := by decide +kernel
theorem dX12_laysDeed_26 : decode cX12_laysDeed 26 = .ok (.getfield 19, 3) := by decide +kernel
theorem dX12_laysDeed_29 : decode cX12_laysDeed 29 = .ok (.bipush 16, 2) := by decide +kernel
theorem dX12_laysDeed_31 : decode cX12_laysDeed 31 = .ok (.iload_n 1, 1) := by decide +kernel
theorem dX12_laysDeed_32 : decode cX12_laysDeed 32 = .ok (.imul, 1) := by decide +kernel
theorem dX12_laysDeed_33 : decode cX12_laysDeed 33 = .ok (.iload_n 2, 1) := by decide +kernel
theorem dX12_laysDeed_34 : decode cX12_laysDeed 34 = .ok (.iadd, 1) := by decide +kernel
theorem dX12_laysDeed_35 : decode cX12_laysDeed 35 = .ok (.iaload, 1) := by decide +kernel
theorem dX12_laysDeed_36 : decode cX12_laysDeed 36 = .ok (.iastore, 1) := by decide +kernel
theorem dX12_laysDeed_37 : decode cX12_laysDeed 37 = .ok (.iinc 2 1, 3) := by decide +kernel
theorem dX12_laysDeed_40 : decode cX12_laysDeed 40 = .ok (.goto (-28), 3) := by decide +kernel
theorem dX12_laysDeed_43 : decode cX12_laysDeed 43 = .ok (.return_, 1) := by decide +kernel
theorem dX12_laysEnd_0 : decode cX12_laysEnd 0 = .ok (.aload_n 0, 1) := by decide +kernel
theorem dX12_laysEnd_1 : decode cX12_laysEnd 1 = .ok (.invokevirtual 427, 3) := by decide +kernel
theorem dX12_laysEnd_4 : decode cX12_laysEnd 4 = .ok (.iconst 0, 1) := by decide +kernel
theorem dX12_laysEnd_5 : decode cX12_laysEnd 5 = .ok (.istore_n 2, 1) := by decide +kernel
theorem dX12_laysEnd_6 : decode cX12_laysEnd 6 = .ok (.iload_n 2, 1) := by decide +kernel
theorem dX12_laysEnd_7 : decode cX12_laysEnd 7 = .ok (.sipush 256, 3) := by decide +kernel
theorem dX12_laysEnd_10 : decode cX12_laysEnd 10 = .ok (.if_icmp .ge 20, 3) := by decide +kernel
theorem dX12_laysEnd_13 : decode cX12_laysEnd 13 = .ok (.aload_n 0, 1) := by decide +kernel
theorem dX12_laysEnd_14 : decode cX12_laysEnd 14 = .ok (.getfield 139, 3) := by decide +kernel
theorem dX12_laysEnd_17 : decode cX12_laysEnd 17 = .ok (.sipush 2048, 3) := by decide +kernel
theorem dX12_laysEnd_20 : decode cX12_laysEnd 20 = .ok (.iload_n 2, 1) := by decide +kernel
theorem dX12_laysEnd_21 : decode cX12_laysEnd 21 = .ok (.iadd, 1) := by decide +kernel
theorem dX12_laysEnd_22 : decode cX12_laysEnd 22 = .ok (.iconst 0, 1) := by decide +kernel
theorem dX12_laysEnd_23 : decode cX12_laysEnd 23 = .ok (.iastore, 1) := by decide +kernel
theorem dX12_laysEnd_24 : decode cX12_laysEnd 24 = .ok (.iinc 2 1, 3) := by decide +kernel
theorem dX12_laysEnd_27 : decode cX12_laysEnd 27 = .ok (.goto (-21), 3) := by decide +kernel
theorem dX12_laysEnd_30 : decode cX12_laysEnd 30 = .ok (.bipush 7, 2) := by decide +kernel
theorem dX12_laysEnd_32 : decode cX12_laysEnd 32 = .ok (.istore_n 2, 1) := by decide +kernel
theorem dX12_laysEnd_33 : decode cX12_laysEnd 33 = .ok (.iload_n 2, 1) := by decide +kernel
theorem dX12_laysEnd_34 : decode cX12_laysEnd 34 = .ok (.ifCond .lt 103, 3) := by decide +kernel
theorem dX12_laysEnd_37 : decode cX12_laysEnd 37 = .ok (.iconst 0, 1) := by decide +kernel
theorem dX12_laysEnd_38 : decode cX12_laysEnd 38 = .ok (.istore_n 3, 1) := by decide +kernel
theorem dX12_laysEnd_39 : decode cX12_laysEnd 39 = .ok (.iload_n 3, 1) := by decide +kernel
theorem dX12_laysEnd_40 : decode cX12_laysEnd 40 = .ok (.sipush 256, 3) := by decide +kernel
theorem dX12_laysEnd_43 : decode cX12_laysEnd 43 = .ok (.if_icmp .ge 88, 3) := by decide +kernel
theorem dX12_laysEnd_46 : decode cX12_laysEnd 46 = .ok (.aload_n 0, 1) := by decide +kernel
theorem dX12_laysEnd_47 : decode cX12_laysEnd 47 = .ok (.iload_n 2, 1) := by decide +kernel
theorem dX12_laysEnd_48 : decode cX12_laysEnd 48 = .ok (.bipush 8, 2) := by decide +kernel
theorem dX12_laysEnd_50 : decode cX12_laysEnd 50 = .ok (.iload_n 3, 1) := by decide +kernel
theorem dX12_laysEnd_51 : decode cX12_laysEnd 51 = .ok (.invokevirtual 430, 3) := by decide +kernel
theorem dX12_laysEnd_54 : decode cX12_laysEnd 54 = .ok (.istore 4, 2) := by decide +kernel
theorem dX12_laysEnd_56 : decode cX12_laysEnd 56 = .ok (.iconst 0, 1) := by decide +kernel
theorem dX12_laysEnd_57 : decode cX12_laysEnd 57 = .ok (.istore 5, 2) := by decide +kernel
theorem dX12_laysEnd_59 : decode cX12_laysEnd 59 = .ok (.iload 5, 2) := by decide +kernel
theorem dX12_laysEnd_61 : decode cX12_laysEnd 61 = .ok (.aload_n 0, 1) := by decide +kernel
theorem dX12_laysEnd_62 : decode cX12_laysEnd 62 = .ok (.getfield 152, 3) := by decide +kernel
theorem dX12_laysEnd_65 : decode cX12_laysEnd 65 = .ok (.if_icmp .ge 46, 3) := by decide +kernel
theorem dX12_laysEnd_68 : decode cX12_laysEnd 68 = .ok (.iload_n 1, 1) := by decide +kernel
theorem dX12_laysEnd_69 : decode cX12_laysEnd 69 = .ok (.iload_n 2, 1) := by decide +kernel
theorem dX12_laysEnd_70 : decode cX12_laysEnd 70 = .ok (.ishr, 1) := by decide +kernel
theorem dX12_laysEnd_71 : decode cX12_laysEnd 71 = .ok (.iconst 1, 1) := by decide +kernel
theorem dX12_laysEnd_72 : decode cX12_laysEnd 72 = .ok (.iand, 1) := by decide +kernel
theorem dX12_laysEnd_73 : decode cX12_laysEnd 73 = .ok (.iconst 1, 1) := by decide +kernel
theorem dX12_laysEnd_74 : decode cX12_laysEnd 74 = .ok (.if_icmp .ne 37, 3) := by decide +kernel
theorem dX12_laysEnd_77 : decode cX12_laysEnd 77 = .ok (.aload_n 0, 1) := by decide +kernel
theorem dX12_laysEnd_78 : decode cX12_laysEnd 78 = .ok (.iload_n 2, 1) := by decide +kernel
theorem dX12_laysEnd_79 : decode cX12_laysEnd 79 = .ok (.iload 5, 2) := by decide +kernel
theorem dX12_laysEnd_81 : decode cX12_laysEnd 81 = .ok (.iload_n 3, 1) := by decide +kernel
theorem dX12_laysEnd_82 : decode cX12_laysEnd 82 = .ok (.invokevirtual 430, 3) := by decide +kernel
theorem dX12_laysEnd_85 : decode cX12_laysEnd 85 = .ok (.iload 4, 2) := by decide +kernel
theorem dX12_laysEnd_87 : decode cX12_laysEnd 87 = .ok (.if_icmp .le 14, 3) := by decide +kernel
theorem dX12_laysEnd_90 : decode cX12_laysEnd 90 = .ok (.aload_n 0, 1) := by decide +kernel
theorem dX12_laysEnd_91 : decode cX12_laysEnd 91 = .ok (.iload_n 2, 1) := by decide +kernel
theorem dX12_laysEnd_92 : decode cX12_laysEnd 92 = .ok (.iload 5, 2) := by decide +kernel
theorem dX12_laysEnd_94 : decode cX12_laysEnd 94 = .ok (.iload_n 3, 1) := by decide +kernel
theorem dX12_laysEnd_95 : decode cX12_laysEnd 95 = .ok (.invokevirtual 430, 3) := by decide +kernel
theorem dX12_laysEnd_98 : decode cX12_laysEnd 98 = .ok (.goto 5, 3) := by decide +kernel
theorem dX12_laysEnd_101 : decode cX12_laysEnd 101 = .ok (.iload 4, 2) := by decide +kernel
theorem dX12_laysEnd_103 : decode cX12_laysEnd 103 = .ok (.istore 4, 2) := by decide +kernel
theorem dX12_laysEnd_105 : decode cX12_laysEnd 105 = .ok (.iinc 5 1, 3) := by decide +kernel
theorem dX12_laysEnd_108 : decode cX12_laysEnd 108 = .ok (.goto (-49), 3) := by decide +kernel
theorem dX12_laysEnd_111 : decode cX12_laysEnd 111 = .ok (.aload_n 0, 1) := by decide +kernel
theorem dX12_laysEnd_112 : decode cX12_laysEnd 112 = .ok (.getfield 139, 3) := by decide +kernel
theorem dX12_laysEnd_115 : decode cX12_laysEnd 115 = .ok (.sipush 256, 3) := by decide +kernel
theorem dX12_laysEnd_118 : decode cX12_laysEnd 118 = .ok (.iload_n 2, 1) := by decide +kernel
theorem dX12_laysEnd_119 : decode cX12_laysEnd 119 = .ok (.imul, 1) := by decide +kernel
theorem dX12_laysEnd_120 : decode cX12_laysEnd 120 = .ok (.iload_n 3, 1) := by decide +kernel
theorem dX12_laysEnd_121 : decode cX12_laysEnd 121 = .ok (.iadd, 1) := by decide +kernel
theorem dX12_laysEnd_122 : decode cX12_laysEnd 122 = .ok (.iload 4, 2) := by decide +kernel
theorem dX12_laysEnd_124 : decode cX12_laysEnd 124 = .ok (.iastore, 1) := by decide +kernel
theorem dX12_laysEnd_125 : decode cX12_laysEnd 125 = .ok (.iinc 3 1, 3) := by decide +kernel
theorem dX12_laysEnd_128 : decode cX12_laysEnd 128 = .ok (.goto (-89), 3) := by decide +kernel
theorem dX12_laysEnd_131 : decode cX12_laysEnd 131 = .ok (.iinc 2 (-1), 3) := by decide +kernel
theorem dX12_laysEnd_134 : decode cX12_laysEnd 134 = .ok (.goto (-101), 3) := by decide +kernel
theorem dX12_laysEnd_137 : decode cX12_laysEnd 137 = .ok (.return_, 1) := by decide +kernel
theorem dX12_laysFollows_0 : decode cX12_laysFollows 0 = .ok (.iconst 0, 1) := by decide +kernel
theorem dX12_laysFollows_1 : decode cX12_laysFollows 1 = .ok (.istore_n 2, 1) := by decide +kernel
theorem dX12_laysFollows_2 : decode cX12_laysFollows 2 = .ok (.iload_n 2, 1) := by decide +kernel
theorem dX12_laysFollows_3 : decode cX12_laysFollows 3 = .ok (.bipush 9, 2) := by decide +kernel
theorem dX12_laysFollows_5 : decode cX12_laysFollows 5 = .ok (.if_icmp .ge 115, 3) := by decide +kernel
theorem dX12_laysFollows_8 : decode cX12_laysFollows 8 = .ok (.iload_n 2, 1) := by decide +kernel
theorem dX12_laysFollows_9 : decode cX12_laysFollows 9 = .ok (.bipush 8, 2) := by decide +kernel
theorem dX12_laysFollows_11 : decode cX12_laysFollows 11 = .ok (.if_icmp .ne 12, 3) := by decide +kernel
theorem dX12_laysFollows_14 : decode cX12_laysFollows 14 = .ok (.aload_n 0, 1) := by decide +kernel
theorem dX12_laysFollows_15 : decode cX12_laysFollows 15 = .ok (.iload_n 1, 1) := by decide +kernel
theorem dX12_laysFollows_16 : decode cX12_laysFollows 16 = .ok (.iconst 0, 1) := by decide +kernel
theorem dX12_laysFollows_17 : decode cX12_laysFollows 17 = .ok (.invokevirtual 334, 3) := by decide +kernel
theorem dX12_laysFollows_20 : decode cX12_laysFollows 20 = .ok (.goto 16, 3) := by decide +kernel
theorem dX12_laysFollows_23 : decode cX12_laysFollows 23 = .ok (.aload_n 0, 1) := by decide +kernel
theorem dX12_laysFollows_24 : decode cX12_laysFollows 24 = .ok (.iload_n 2, 1) := by decide +kernel
theorem dX12_laysFollows_25 : decode cX12_laysFollows 25 = .ok (.invokevirtual 326, 3) := by decide +kernel
theorem dX12_laysFollows_28 : decode cX12_laysFollows 28 = .ok (.ifCond .eq 8, 3) := by decide +kernel
theorem dX12_laysFollows_31 : decode cX12_laysFollows 31 = .ok (.aload_n 0, 1) := by decide +kernel
theorem dX12_laysFollows_32 : decode cX12_laysFollows 32 = .ok (.iload_n 2, 1) := by decide +kernel
theorem dX12_laysFollows_33 : decode cX12_laysFollows 33 = .ok (.invokevirtual 448, 3) := by decide +kernel
theorem dX12_laysFollows_36 : decode cX12_laysFollows 36 = .ok (.iconst 0, 1) := by decide +kernel
theorem dX12_laysFollows_37 : decode cX12_laysFollows 37 = .ok (.istore_n 3, 1) := by decide +kernel
theorem dX12_laysFollows_38 : decode cX12_laysFollows 38 = .ok (.iload_n 3, 1) := by decide +kernel
theorem dX12_laysFollows_39 : decode cX12_laysFollows 39 = .ok (.bipush 8, 2) := by decide +kernel
theorem dX12_laysFollows_41 : decode cX12_laysFollows 41 = .ok (.if_icmp .ge 73, 3) := by decide +kernel
theorem dX12_laysFollows_44 : decode cX12_laysFollows 44 = .ok (.aload_n 0, 1) := by decide +kernel
theorem dX12_laysFollows_45 : decode cX12_laysFollows 45 = .ok (.iload_n 3, 1) := by decide +kernel
theorem dX12_laysFollows_46 : decode cX12_laysFollows 46 = .ok (.invokevirtual 326, 3) := by decide +kernel
theorem dX12_laysFollows_49 : decode cX12_laysFollows 49 = .ok (.ifCond .eq 8, 3) := by decide +kernel
theorem dX12_laysFollows_52 : decode cX12_laysFollows 52 = .ok (.aload_n 0, 1) := by decide +kernel
theorem dX12_laysFollows_53 : decode cX12_laysFollows 53 = .ok (.iload_n 3, 1) := by decide +kernel
theorem dX12_laysFollows_54 : decode cX12_laysFollows 54 = .ok (.invokevirtual 338, 3) := by decide +kernel
theorem dX12_laysFollows_57 : decode cX12_laysFollows 57 = .ok (.aload_n 0, 1) := by decide +kernel
theorem dX12_laysFollows_58 : decode cX12_laysFollows 58 = .ok (.getfield 142, 3) := by decide +kernel
theorem dX12_laysFollows_61 : decode cX12_laysFollows 61 = .ok (.bipush 8, 2) := by decide +kernel
theorem dX12_laysFollows_63 : decode cX12_laysFollows 63 = .ok (.iload_n 2, 1) := by decide +kernel
theorem dX12_laysFollows_64 : decode cX12_laysFollows 64 = .ok (.imul, 1) := by decide +kernel
theorem dX12_laysFollows_65 : decode cX12_laysFollows 65 = .ok (.iload_n 3, 1) := by decide +kernel
theorem dX12_laysFollows_66 : decode cX12_laysFollows 66 = .ok (.iadd, 1) := by decide +kernel
theorem dX12_laysFollows_67 : decode cX12_laysFollows 67 = .ok (.iload_n 3, 1) := by decide +kernel
theorem dX12_laysFollows_68 : decode cX12_laysFollows 68 = .ok (.iload_n 2, 1) := by decide +kernel
theorem dX12_laysFollows_69 : decode cX12_laysFollows 69 = .ok (.if_icmp .eq 37, 3) := by decide +kernel
theorem dX12_laysFollows_72 : decode cX12_laysFollows 72 = .ok (.aload_n 0, 1) := by decide +kernel
theorem dX12_laysFollows_73 : decode cX12_laysFollows 73 = .ok (.iload_n 3, 1) := by decide +kernel
theorem dX12_laysFollows_74 : decode cX12_laysFollows 74 = .ok (.invokevirtual 326, 3) := by decide +kernel
theorem dX12_laysFollows_77 : decode cX12_laysFollows 77 = .ok (.ifCond .eq 29, 3) := by decide +kernel
theorem dX12_laysFollows_80 : decode cX12_laysFollows 80 = .ok (.iload_n 2, 1) := by decide +kernel
theorem dX12_laysFollows_81 : decode cX12_laysFollows 81 = .ok (.bipush 8, 2) := by decide +kernel
theorem dX12_laysFollows_83 : decode cX12_laysFollows 83 = .ok (.if_icmp .eq 11, 3) := by decide +kernel
theorem dX12_laysFollows_86 : decode cX12_laysFollows 86 = .ok (.aload_n 0, 1) := by decide +kernel
theorem dX12_laysFollows_87 : decode cX12_laysFollows 87 = .ok (.iload_n 2, 1) := by decide +kernel
theorem dX12_laysFollows_88 : decode cX12_laysFollows 88 = .ok (.invokevirtual 326, 3) := by decide +kernel
theorem dX12_laysFollows_91 : decode cX12_laysFollows 91 = .ok (.ifCond .eq 15, 3) := by decide +kernel
theorem dX12_laysFollows_94 : decode cX12_laysFollows 94 = .ok (.aload_n 0, 1) := by decide +kernel
theorem dX12_laysFollows_95 : decode cX12_laysFollows 95 = .ok (.iconst (-1), 1) := by decide +kernel
theorem dX12_laysFollows_96 : decode cX12_laysFollows 96 = .ok (.invokevirtual 417, 3) := by decide +kernel
theorem dX12_laysFollows_99 : decode cX12_laysFollows 99 = .ok (.ifCond .eq 7, 3) := by decide +kernel
theorem dX12_laysFollows_102 : decode cX12_laysFollows 102 = .ok (.iconst 1, 1) := by decide +kernel
theorem dX12_laysFollows_103 : decode cX12_laysFollows 103 = .ok (.goto 4, 3) := by decide +kernel
theorem dX12_laysFollows_106 : decode cX12_laysFollows 106 = .ok (.iconst 0, 1) := by decide +kernel
theorem dX12_laysFollows_107 : decode cX12_laysFollows 107 = .ok (.bastore, 1) := by decide +kernel
theorem dX12_laysFollows_108 : decode cX12_laysFollows 108 = .ok (.iinc 3 1, 3) := by decide +kernel
theorem dX12_laysFollows_111 : decode cX12_laysFollows 111 = .ok (.goto (-73), 3) := by decide +kernel
theorem dX12_laysFollows_114 : decode cX12_laysFollows 114 = .ok (.iinc 2 1, 3) := by decide +kernel
theorem dX12_laysFollows_117 : decode cX12_laysFollows 117 = .ok (.goto (-115), 3) := by decide +kernel
theorem dX12_laysFollows_120 : decode cX12_laysFollows 120 = .ok (.return_, 1) := by decide +kernel
theorem dX12_laysLong_0 : decode cX12_laysLong 0 = .ok (.sipush 255, 3) := by decide +kernel
theorem dX12_laysLong_3 : decode cX12_laysLong 3 = .ok (.istore_n 1, 1) := by decide +kernel
theorem dX12_laysLong_4 : decode cX12_laysLong 4 = .ok (.iload_n 1, 1) := by decide +kernel
theorem dX12_laysLong_5 : decode cX12_laysLong 5 = .ok (.ifCond .lt 79, 3) := by decide +kernel
theorem dX12_laysLong_8 : decode cX12_laysLong 8 = .ok (.iconst 0, 1) := by decide +kernel
theorem dX12_laysLong_9 : decode cX12_laysLong 9 = .ok (.istore_n 2, 1) := by decide +kernel
theorem dX12_laysLong_10 : decode cX12_laysLong 10 = .ok (.iload_n 2, 1) := by decide +kernel
theorem dX12_laysLong_11 : decode cX12_laysLong 11 = .ok (.bipush 9, 2) := by decide +kernel
theorem dX12_laysLong_13 : decode cX12_laysLong 13 = .ok (.if_icmp .ge 65, 3) := by decide +kernel
theorem dX12_laysLong_16 : decode cX12_laysLong 16 = .ok (.iconst 0, 1) := by decide +kernel
theorem dX12_laysLong_17 : decode cX12_laysLong 17 = .ok (.istore_n 3, 1) := by decide +kernel
theorem dX12_laysLong_18 : decode cX12_laysLong 18 = .ok (.iconst 0, 1) := by decide +kernel
theorem dX12_laysLong_19 : decode cX12_laysLong 19 = .ok (.istore 4, 2) := by decide +kernel
theorem dX12_laysLong_21 : decode cX12_laysLong 21 = .ok (.iload 4, 2) := by decide +kernel
theorem dX12_laysLong_23 : decode cX12_laysLong 23 = .ok (.bipush 8, 2) := by decide +kernel
theorem dX12_laysLong_25 : decode cX12_laysLong 25 = .ok (.if_icmp .ge 34, 3) := by decide +kernel
theorem dX12_laysLong_28 : decode cX12_laysLong 28 = .ok (.aload_n 0, 1) := by decide +kernel
theorem dX12_laysLong_29 : decode cX12_laysLong 29 = .ok (.iload_n 2, 1) := by decide +kernel
theorem dX12_laysLong_30 : decode cX12_laysLong 30 = .ok (.iload 4, 2) := by decide +kernel
theorem dX12_laysLong_32 : decode cX12_laysLong 32 = .ok (.iload_n 1, 1) := by decide +kernel
theorem dX12_laysLong_33 : decode cX12_laysLong 33 = .ok (.invokevirtual 454, 3) := by decide +kernel
theorem dX12_laysLong_36 : decode cX12_laysLong 36 = .ok (.iload_n 3, 1) := by decide +kernel
theorem dX12_laysLong_37 : decode cX12_laysLong 37 = .ok (.if_icmp .le 14, 3) := by decide +kernel
theorem dX12_laysLong_40 : decode cX12_laysLong 40 = .ok (.aload_n 0, 1) := by decide +kernel
theorem dX12_laysLong_41 : decode cX12_laysLong 41 = .ok (.iload_n 2, 1) := by decide +kernel
theorem dX12_laysLong_42 : decode cX12_laysLong 42 = .ok (.iload 4, 2) := by decide +kernel
theorem dX12_laysLong_44 : decode cX12_laysLong 44 = .ok (.iload_n 1, 1) := by decide +kernel
theorem dX12_laysLong_45 : decode cX12_laysLong 45 = .ok (.invokevirtual 454, 3) := by decide +kernel
theorem dX12_laysLong_48 : decode cX12_laysLong 48 = .ok (.goto 4, 3) := by decide +kernel
theorem dX12_laysLong_51 : decode cX12_laysLong 51 = .ok (.iload_n 3, 1) := by decide +kernel
theorem dX12_laysLong_52 : decode cX12_laysLong 52 = .ok (.istore_n 3, 1) := by decide +kernel
theorem dX12_laysLong_53 : decode cX12_laysLong 53 = .ok (.iinc 4 1, 3) := by decide +kernel
theorem dX12_laysLong_56 : decode cX12_laysLong 56 = .ok (.goto (-35), 3) := by decide +kernel
theorem dX12_laysLong_59 : decode cX12_laysLong 59 = .ok (.aload_n 0, 1) := by decide +kernel
theorem dX12_laysLong_60 : decode cX12_laysLong 60 = .ok (.getfield 145, 3) := by decide +kernel
theorem dX12_laysLong_63 : decode cX12_laysLong 63 = .ok (.sipush 256, 3) := by decide +kernel
theorem dX12_laysLong_66 : decode cX12_laysLong 66 = .ok (.iload_n 2, 1) := by decide +kernel
theorem dX12_laysLong_67 : decode cX12_laysLong 67 = .ok (.imul, 1) := by decide +kernel
theorem dX12_laysLong_68 : decode cX12_laysLong 68 = .ok (.iload_n 1, 1) := by decide +kernel
theorem dX12_laysLong_69 : decode cX12_laysLong 69 = .ok (.iadd, 1) := by decide +kernel
theorem dX12_laysLong_70 : decode cX12_laysLong 70 = .ok (.iload_n 3, 1) := by decide +kernel
theorem dX12_laysLong_71 : decode cX12_laysLong 71 = .ok (.iastore, 1) := by decide +kernel
theorem dX12_laysLong_72 : decode cX12_laysLong 72 = .ok (.iinc 2 1, 3) := by decide +kernel
theorem dX12_laysLong_75 : decode cX12_laysLong 75 = .ok (.goto (-65), 3) := by decide +kernel
theorem dX12_laysLong_78 : decode cX12_laysLong 78 = .ok (.iinc 1 (-1), 3) := by decide +kernel
theorem dX12_laysLong_81 : decode cX12_laysLong 81 = .ok (.goto (-77), 3) := by decide +kernel
theorem dX12_laysLong_84 : decode cX12_laysLong 84 = .ok (.return_, 1) := by decide +kernel
theorem dX12_laysParent_0 : decode cX12_laysParent 0 = .ok (.aload_n 0, 1) := by decide +kernel
theorem dX12_laysParent_1 : decode cX12_laysParent 1 = .ok (.aload_n 0, 1) := by decide +kernel
theorem dX12_laysParent_2 : decode cX12_laysParent 2 = .ok (.getfield 16, 3) := by decide +kernel
theorem dX12_laysParent_5 : decode cX12_laysParent 5 = .ok (.iload_n 1, 1) := by decide +kernel
theorem dX12_laysParent_6 : decode cX12_laysParent 6 = .ok (.iaload, 1) := by decide +kernel
theorem dX12_laysParent_7 : decode cX12_laysParent 7 = .ok (.putfield 320, 3) := by decide +kernel
theorem dX12_laysParent_10 : decode cX12_laysParent 10 = .ok (.iconst 0, 1) := by decide +kernel
theorem dX12_laysParent_11 : decode cX12_laysParent 11 = .ok (.istore_n 2, 1) := by decide +kernel
theorem dX12_laysParent_12 : decode cX12_laysParent 12 = .ok (.iload_n 2, 1) := by decide +kernel
theorem dX12_laysParent_13 : decode cX12_laysParent 13 = .ok (.aload_n 0, 1) := by decide +kernel
theorem dX12_laysParent_14 : decode cX12_laysParent 14 = .ok (.getfield 320, 3) := by decide +kernel
theorem dX12_laysParent_17 : decode cX12_laysParent 17 = .ok (.if_icmp .ge 26, 3) := by decide +kernel
theorem dX12_laysParent_20 : decode cX12_laysParent 20 = .ok (.aload_n 0, 1) := by decide +kernel
theorem dX12_laysParent_21 : decode cX12_laysParent 21 = .ok (.getfield 87, 3) := by decide +kernel
theorem dX12_laysParent_24 : decode cX12_laysParent 24 = .ok (.iload_n 2, 1) := by decide +kernel
theorem dX12_laysParent_25 : decode cX12_laysParent 25 = .ok (.aload_n 0, 1) := by decide +kernel
theorem dX12_laysParent_26 : decode cX12_laysParent 26 = .ok (.getfield 19, 3) := by decide +kernel
theorem dX12_laysParent_29 : decode cX12_laysParent 29 = .ok (.bipush 16, 2) := by decide +kernel
theorem dX12_laysParent_31 : decode cX12_laysParent 31 = .ok (.iload_n 1, 1) := by decide +kernel
theorem dX12_laysParent_32 : decode cX12_laysParent 32 = .ok (.imul, 1) := by decide +kernel
theorem dX12_laysParent_33 : decode cX12_laysParent 33 = .ok (.iload_n 2, 1) := by decide +kernel
theorem dX12_laysParent_34 : decode cX12_laysParent 34 = .ok (.iadd, 1) := by decide +kernel
theorem dX12_laysParent_35 : decode cX12_laysParent 35 = .ok (.iaload, 1) := by decide +kernel
theorem dX12_laysParent_36 : decode cX12_laysParent 36 = .ok (.iastore, 1) := by decide +kernel
theorem dX12_laysParent_37 : decode cX12_laysParent 37 = .ok (.iinc 2 1, 3) := by decide +kernel
theorem dX12_laysParent_40 : decode cX12_laysParent 40 = .ok (.goto (-28), 3) := by decide +kernel
theorem dX12_laysParent_43 : decode cX12_laysParent 43 = .ok (.return_, 1) := by decide +kernel
theorem dX12_laysStays_0 : decode cX12_laysStays 0 = .ok (.iconst 0, 1) := by decide +kernel
theorem dX12_laysStays_1 : decode cX12_laysStays 1 = .ok (.istore_n 1, 1) := by decide +kernel
theorem dX12_laysStays_2 : decode cX12_laysStays 2 = .ok (.iconst 0, 1) := by decide +kernel
theorem dX12_laysStays_3 : decode cX12_laysStays 3 = .ok (.istore_n 2, 1) := by decide +kernel
theorem dX12_laysStays_4 : decode cX12_laysStays 4 = .ok (.iload_n 2, 1) := by decide +kernel
theorem dX12_laysStays_5 : decode cX12_laysStays 5 = .ok (.aload_n 0, 1) := by decide +kernel
theorem dX12_laysStays_6 : decode cX12_laysStays 6 = .ok (.getfield 320, 3) := by decide +kernel
theorem dX12_laysStays_9 : decode cX12_laysStays 9 = .ok (.if_icmp .ge 75, 3) := by decide +kernel
theorem dX12_laysStays_12 : decode cX12_laysStays 12 = .ok (.iload_n 1, 1) := by decide +kernel
theorem dX12_laysStays_13 : decode cX12_laysStays 13 = .ok (.aload_n 0, 1) := by decide +kernel
theorem dX12_laysStays_14 : decode cX12_laysStays 14 = .ok (.getfield 323, 3) := by decide +kernel
theorem dX12_laysStays_17 : decode cX12_laysStays 17 = .ok (.if_icmp .ge 67, 3) := by decide +kernel
theorem dX12_laysStays_20 : decode cX12_laysStays 20 = .ok (.aload_n 0, 1) := by decide +kernel
theorem dX12_laysStays_21 : decode cX12_laysStays 21 = .ok (.getfield 87, 3) := by decide +kernel
theorem dX12_laysStays_24 : decode cX12_laysStays 24 = .ok (.iload_n 2, 1) := by decide +kernel
theorem dX12_laysStays_25 : decode cX12_laysStays 25 = .ok (.iaload, 1) := by decide +kernel
theorem dX12_laysStays_26 : decode cX12_laysStays 26 = .ok (.aload_n 0, 1) := by decide +kernel
theorem dX12_laysStays_27 : decode cX12_laysStays 27 = .ok (.getfield 90, 3) := by decide +kernel
theorem dX12_laysStays_30 : decode cX12_laysStays 30 = .ok (.iload_n 1, 1) := by decide +kernel
theorem dX12_laysStays_31 : decode cX12_laysStays 31 = .ok (.iaload, 1) := by decide +kernel
theorem dX12_laysStays_32 : decode cX12_laysStays 32 = .ok (.if_icmp .ne 46, 3) := by decide +kernel
theorem dX12_laysStays_35 : decode cX12_laysStays 35 = .ok (.aload_n 0, 1) := by decide +kernel
theorem dX12_laysStays_36 : decode cX12_laysStays 36 = .ok (.getfield 100, 3) := by decide +kernel
theorem dX12_laysStays_39 : decode cX12_laysStays 39 = .ok (.bipush 17, 2) := by decide +kernel
theorem dX12_laysStays_41 : decode cX12_laysStays 41 = .ok (.iload_n 2, 1) := by decide +kernel
theorem dX12_laysStays_42 : decode cX12_laysStays 42 = .ok (.iconst 1, 1) := by decide +kernel
theorem dX12_laysStays_43 : decode cX12_laysStays 43 = .ok (.iadd, 1) := by decide +kernel
theorem dX12_laysStays_44 : decode cX12_laysStays 44 = .ok (.imul, 1) := by decide +kernel
theorem dX12_laysStays_45 : decode cX12_laysStays 45 = .ok (.iload_n 1, 1) := by decide +kernel
theorem dX12_laysStays_46 : decode cX12_laysStays 46 = .ok (.iadd, 1) := by decide +kernel
theorem dX12_laysStays_47 : decode cX12_laysStays 47 = .ok (.iconst 1, 1) := by decide +kernel
theorem dX12_laysStays_48 : decode cX12_laysStays 48 = .ok (.iadd, 1) := by decide +kernel
theorem dX12_laysStays_49 : decode cX12_laysStays 49 = .ok (.iaload, 1) := by decide +kernel
theorem dX12_laysStays_50 : decode cX12_laysStays 50 = .ok (.aload_n 0, 1) := by decide +kernel
theorem dX12_laysStays_51 : decode cX12_laysStays 51 = .ok (.getfield 100, 3) := by decide +kernel
theorem dX12_laysStays_54 : decode cX12_laysStays 54 = .ok (.bipush 17, 2) := by decide +kernel
theorem dX12_laysStays_56 : decode cX12_laysStays 56 = .ok (.iload_n 2, 1) := by decide +kernel
theorem dX12_laysStays_57 : decode cX12_laysStays 57 = .ok (.imul, 1) := by decide +kernel
theorem dX12_laysStays_58 : decode cX12_laysStays 58 = .ok (.iload_n 1, 1) := by decide +kernel
theorem dX12_laysStays_59 : decode cX12_laysStays 59 = .ok (.iadd, 1) := by decide +kernel
theorem dX12_laysStays_60 : decode cX12_laysStays 60 = .ok (.iaload, 1) := by decide +kernel
theorem dX12_laysStays_61 : decode cX12_laysStays 61 = .ok (.if_icmp .eq 6, 3) := by decide +kernel
theorem dX12_laysStays_64 : decode cX12_laysStays 64 = .ok (.goto 14, 3) := by decide +kernel
theorem dX12_laysStays_67 : decode cX12_laysStays 67 = .ok (.aload_n 0, 1) := by decide +kernel
theorem dX12_laysStays_68 : decode cX12_laysStays 68 = .ok (.getfield 103, 3) := by decide +kernel
theorem dX12_laysStays_71 : decode cX12_laysStays 71 = .ok (.iload_n 1, 1) := by decide +kernel
theorem dX12_laysStays_72 : decode cX12_laysStays 72 = .ok (.iload_n 2, 1) := by decide +kernel
theorem dX12_laysStays_73 : decode cX12_laysStays 73 = .ok (.iastore, 1) := by decide +kernel
theorem dX12_laysStays_74 : decode cX12_laysStays 74 = .ok (.iload_n 1, 1) := by decide +kernel
theorem dX12_laysStays_75 : decode cX12_laysStays 75 = .ok (.iconst 1, 1) := by decide +kernel
theorem dX12_laysStays_76 : decode cX12_laysStays 76 = .ok (.iadd, 1) := by decide +kernel
theorem dX12_laysStays_77 : decode cX12_laysStays 77 = .ok (.istore_n 1, 1) := by decide +kernel
theorem dX12_laysStays_78 : decode cX12_laysStays 78 = .ok (.iinc 2 1, 3) := by decide +kernel
theorem dX12_laysStays_81 : decode cX12_laysStays 81 = .ok (.goto (-77), 3) := by decide +kernel
theorem dX12_laysStays_84 : decode cX12_laysStays 84 = .ok (.return_, 1) := by decide +kernel
theorem dX12_least_0 : decode cX12_least 0 = .ok (.iload_n 0, 1) := by decide +kernel
theorem dX12_least_1 : decode cX12_least 1 = .ok (.iload_n 1, 1) := by decide +kernel
theorem dX12_least_2 : decode cX12_least 2 = .ok (.if_icmp .ge 7, 3) := by decide +kernel
theorem dX12_least_5 : decode cX12_least 5 = .ok (.iload_n 0, 1) := by decide +kernel
theorem dX12_least_6 : decode cX12_least 6 = .ok (.goto 4, 3) := by decide +kernel
theorem dX12_least_9 : decode cX12_least 9 = .ok (.iload_n 1, 1) := by decide +kernel
theorem dX12_least_10 : decode cX12_least 10 = .ok (.ireturn, 1) := by decide +kernel
theorem dX12_leftMany_0 : decode cX12_leftMany 0 = .ok (.iconst 0, 1) := by decide +kernel
theorem dX12_leftMany_1 : decode cX12_leftMany 1 = .ok (.istore_n 2, 1) := by decide +kernel
theorem dX12_leftMany_2 : decode cX12_leftMany 2 = .ok (.iconst 0, 1) := by decide +kernel
theorem dX12_leftMany_3 : decode cX12_leftMany 3 = .ok (.istore_n 3, 1) := by decide +kernel
theorem dX12_leftMany_4 : decode cX12_leftMany 4 = .ok (.iload_n 3, 1) := by decide +kernel
theorem dX12_leftMany_5 : decode cX12_leftMany 5 = .ok (.aload_n 0, 1) := by decide +kernel
theorem dX12_leftMany_6 : decode cX12_leftMany 6 = .ok (.getfield 7, 3) := by decide +kernel
theorem dX12_leftMany_9 : decode cX12_leftMany 9 = .ok (.iload_n 1, 1) := by decide +kernel
theorem dX12_leftMany_10 : decode cX12_leftMany 10 = .ok (.iaload, 1) := by decide +kernel
theorem dX12_leftMany_11 : decode cX12_leftMany 11 = .ok (.if_icmp .ge 31, 3) := by decide +kernel
theorem dX12_leftMany_14 : decode cX12_leftMany 14 = .ok (.iload_n 2, 1) := by decide +kernel
theorem dX12_leftMany_15 : decode cX12_leftMany 15 = .ok (.aload_n 0, 1) := by decide +kernel
theorem dX12_leftMany_16 : decode cX12_leftMany 16 = .ok (.getfield 22, 3) := by decide +kernel
theorem dX12_leftMany_19 : decode cX12_leftMany 19 = .ok (.bipush 40, 2) := by decide +kernel
theorem dX12_leftMany_21 : decode cX12_leftMany 21 = .ok (.iload_n 1, 1) := by decide +kernel
theorem dX12_leftMany_22 : decode cX12_leftMany 22 = .ok (.imul, 1) := by decide +kernel
theorem dX12_leftMany_23 : decode cX12_leftMany 23 = .ok (.iload_n 3, 1) := by decide +kernel
theorem dX12_leftMany_24 : decode cX12_leftMany 24 = .ok (.iadd, 1) := by decide +kernel
theorem dX12_leftMany_25 : decode cX12_leftMany 25 = .ok (.baload, 1) := by decide +kernel
theorem dX12_leftMany_26 : decode cX12_leftMany 26 = .ok (.ifCond .eq 7, 3) := by decide +kernel
theorem dX12_leftMany_29 : decode cX12_leftMany 29 = .ok (.iconst 0, 1) := by decide +kernel
theorem dX12_leftMany_30 : decode cX12_leftMany 30 = .ok (.goto 4, 3) := by decide +kernel
theorem dX12_leftMany_33 : decode cX12_leftMany 33 = .ok (.iconst 1, 1) := by decide +kernel
theorem dX12_leftMany_34 : decode cX12_leftMany 34 = .ok (.iadd, 1) := by decide +kernel
theorem dX12_leftMany_35 : decode cX12_leftMany 35 = .ok (.istore_n 2, 1) := by decide +kernel
theorem dX12_leftMany_36 : decode cX12_leftMany 36 = .ok (.iinc 3 1, 3) := by decide +kernel
theorem dX12_leftMany_39 : decode cX12_leftMany 39 = .ok (.goto (-35), 3) := by decide +kernel
theorem dX12_leftMany_42 : decode cX12_leftMany 42 = .ok (.iload_n 2, 1) := by decide +kernel
theorem dX12_leftMany_43 : decode cX12_leftMany 43 = .ok (.ireturn, 1) := by decide +kernel
theorem dX12_letterAt_0 : decode cX12_letterAt 0 = .ok (.iload_n 2, 1) := by decide +kernel
theorem dX12_letterAt_1 : decode cX12_letterAt 1 = .ok (.aload_n 0, 1) := by decide +kernel
theorem dX12_letterAt_2 : decode cX12_letterAt 2 = .ok (.getfield 16, 3) := by decide +kernel
theorem dX12_letterAt_5 : decode cX12_letterAt 5 = .ok (.aload_n 0, 1) := by decide +kernel
theorem dX12_letterAt_6 : decode cX12_letterAt 6 = .ok (.getfield 112, 3) := by decide +kernel
theorem dX12_letterAt_9 : decode cX12_letterAt 9 = .ok (.iload_n 1, 1) := by decide +kernel
theorem dX12_letterAt_10 : decode cX12_letterAt 10 = .ok (.iaload, 1) := by decide +kernel
theorem dX12_letterAt_11 : decode cX12_letterAt 11 = .ok (.iaload, 1) := by decide +kernel
theorem dX12_letterAt_12 : decode cX12_letterAt 12 = .ok (.if_icmp .ge 22, 3) := by decide +kernel
theorem dX12_letterAt_15 : decode cX12_letterAt 15 = .ok (.aload_n 0, 1) := by decide +kernel
theorem dX12_letterAt_16 : decode cX12_letterAt 16 = .ok (.getfield 19, 3) := by decide +kernel
theorem dX12_letterAt_19 : decode cX12_letterAt 19 = .ok (.bipush 16, 2) := by decide +kernel
theorem dX12_letterAt_21 : decode cX12_letterAt 21 = .ok (.aload_n 0, 1) := by decide +kernel
theorem dX12_letterAt_22 : decode cX12_letterAt 22 = .ok (.getfield 112, 3) := by decide +kernel
theorem dX12_letterAt_25 : decode cX12_letterAt 25 = .ok (.iload_n 1, 1) := by decide +kernel
theorem dX12_letterAt_26 : decode cX12_letterAt 26 = .ok (.iaload, 1) := by decide +kernel
theorem dX12_letterAt_27 : decode cX12_letterAt 27 = .ok (.imul, 1) := by decide +kernel
theorem dX12_letterAt_28 : decode cX12_letterAt 28 = .ok (.iload_n 2, 1) := by decide +kernel
theorem dX12_letterAt_29 : decode cX12_letterAt 29 = .ok (.iadd, 1) := by decide +kernel
theorem dX12_letterAt_30 : decode cX12_letterAt 30 = .ok (.iaload, 1) := by decide +kernel
theorem dX12_letterAt_31 : decode cX12_letterAt 31 = .ok (.goto 4, 3) := by decide +kernel
theorem dX12_letterAt_34 : decode cX12_letterAt 34 = .ok (.iconst (-1), 1) := by decide +kernel
theorem dX12_letterAt_35 : decode cX12_letterAt 35 = .ok (.ireturn, 1) := by decide +kernel
theorem dX12_longBy_0 : decode cX12_longBy 0 = .ok (.aload_n 0, 1) := by decide +kernel
theorem dX12_longBy_1 : decode cX12_longBy 1 = .ok (.getfield 142, 3) := by decide +kernel
theorem dX12_longBy_4 : decode cX12_longBy 4 = .ok (.bipush 8, 2) := by decide +kernel
theorem dX12_longBy_6 : decode cX12_longBy 6 = .ok (.iload_n 1, 1) := by decide +kernel
theorem dX12_longBy_7 : decode cX12_longBy 7 = .ok (.imul, 1) := by decide +kernel
theorem dX12_longBy_8 : decode cX12_longBy 8 = .ok (.iload_n 2, 1) := by decide +kernel
theorem dX12_longBy_9 : decode cX12_longBy 9 = .ok (.iadd, 1) := by decide +kernel
theorem dX12_longBy_10 : decode cX12_longBy 10 = .ok (.baload, 1) := by decide +kernel
theorem dX12_longBy_11 : decode cX12_longBy 11 = .ok (.ifCond .eq 32, 3) := by decide +kernel
theorem dX12_longBy_14 : decode cX12_longBy 14 = .ok (.iload_n 3, 1) := by decide +kernel
theorem dX12_longBy_15 : decode cX12_longBy 15 = .ok (.iload_n 2, 1) := by decide +kernel
theorem dX12_longBy_16 : decode cX12_longBy 16 = .ok (.ishr, 1) := by decide +kernel
theorem dX12_longBy_17 : decode cX12_longBy 17 = .ok (.iconst 1, 1) := by decide +kernel
theorem dX12_longBy_18 : decode cX12_longBy 18 = .ok (.iand, 1) := by decide +kernel
theorem dX12_longBy_19 : decode cX12_longBy 19 = .ok (.ifCond .ne 24, 3) := by decide +kernel
theorem dX12_longBy_22 : decode cX12_longBy 22 = .ok (.iconst 1, 1) := by decide +kernel
theorem dX12_longBy_23 : decode cX12_longBy 23 = .ok (.aload_n 0, 1) := by decide +kernel
theorem dX12_longBy_24 : decode cX12_longBy 24 = .ok (.getfield 145, 3) := by decide +kernel
theorem dX12_longBy_27 : decode cX12_longBy 27 = .ok (.sipush 256, 3) := by decide +kernel
theorem dX12_longBy_30 : decode cX12_longBy 30 = .ok (.iload_n 2, 1) := by decide +kernel
theorem dX12_longBy_31 : decode cX12_longBy 31 = .ok (.imul, 1) := by decide +kernel
theorem dX12_longBy_32 : decode cX12_longBy 32 = .ok (.iload_n 3, 1) := by decide +kernel
theorem dX12_longBy_33 : decode cX12_longBy 33 = .ok (.iconst 1, 1) := by decide +kernel
theorem dX12_longBy_34 : decode cX12_longBy 34 = .ok (.iload_n 2, 1) := by decide +kernel
theorem dX12_longBy_35 : decode cX12_longBy 35 = .ok (.ishl, 1) := by decide +kernel
theorem dX12_longBy_36 : decode cX12_longBy 36 = .ok (.ior, 1) := by decide +kernel
theorem dX12_longBy_37 : decode cX12_longBy 37 = .ok (.iadd, 1) := by decide +kernel
theorem dX12_longBy_38 : decode cX12_longBy 38 = .ok (.iaload, 1) := by decide +kernel
theorem dX12_longBy_39 : decode cX12_longBy 39 = .ok (.iadd, 1) := by decide +kernel
theorem dX12_longBy_40 : decode cX12_longBy 40 = .ok (.goto 4, 3) := by decide +kernel
theorem dX12_longBy_43 : decode cX12_longBy 43 = .ok (.iconst 0, 1) := by decide +kernel
theorem dX12_longBy_44 : decode cX12_longBy 44 = .ok (.ireturn, 1) := by decide +kernel
theorem dX12_longOf_0 : decode cX12_longOf 0 = .ok (.iload_n 1, 1) := by decide +kernel
theorem dX12_longOf_1 : decode cX12_longOf 1 = .ok (.aload_n 0, 1) := by decide +kernel
theorem dX12_longOf_2 : decode cX12_longOf 2 = .ok (.getfield 369, 3) := by decide +kernel
theorem dX12_longOf_5 : decode cX12_longOf 5 = .ok (.if_icmp .ge 17, 3) := by decide +kernel
theorem dX12_longOf_8 : decode cX12_longOf 8 = .ok (.aload_n 0, 1) := by decide +kernel
theorem dX12_longOf_9 : decode cX12_longOf 9 = .ok (.getfield 16, 3) := by decide +kernel
theorem dX12_longOf_12 : decode cX12_longOf 12 = .ok (.aload_n 0, 1) := by decide +kernel
theorem dX12_longOf_13 : decode cX12_longOf 13 = .ok (.getfield 112, 3) := by decide +kernel
theorem dX12_longOf_16 : decode cX12_longOf 16 = .ok (.iload_n 1, 1) := by decide +kernel
theorem dX12_longOf_17 : decode cX12_longOf 17 = .ok (.iaload, 1) := by decide +kernel
theorem dX12_longOf_18 : decode cX12_longOf 18 = .ok (.iaload, 1) := by decide +kernel
theorem dX12_longOf_19 : decode cX12_longOf 19 = .ok (.goto 4, 3) := by decide +kernel
theorem dX12_longOf_22 : decode cX12_longOf 22 = .ok (.iconst 0, 1) := by decide +kernel
theorem dX12_longOf_23 : decode cX12_longOf 23 = .ok (.ireturn, 1) := by decide +kernel
theorem dX12_lostOf_0 : decode cX12_lostOf 0 = .ok (.sipush 1000, 3) := by decide +kernel
theorem dX12_lostOf_3 : decode cX12_lostOf 3 = .ok (.aload_n 0, 1) := by decide +kernel
theorem dX12_lostOf_4 : decode cX12_lostOf 4 = .ok (.iload_n 1, 1) := by decide +kernel
theorem dX12_lostOf_5 : decode cX12_lostOf 5 = .ok (.invokevirtual 433, 3) := by decide +kernel
theorem dX12_lostOf_8 : decode cX12_lostOf 8 = .ok (.imul, 1) := by decide +kernel
theorem dX12_lostOf_9 : decode cX12_lostOf 9 = .ok (.iload_n 1, 1) := by decide +kernel
theorem dX12_lostOf_10 : decode cX12_lostOf 10 = .ok (.isub, 1) := by decide +kernel
theorem dX12_lostOf_11 : decode cX12_lostOf 11 = .ok (.ireturn, 1) := by decide +kernel
theorem dX12_manyOf_0 : decode cX12_manyOf 0 = .ok (.iload_n 1, 1) := by decide +kernel
theorem dX12_manyOf_1 : decode cX12_manyOf 1 = .ok (.sipush 999, 3) := by decide +kernel
theorem dX12_manyOf_4 : decode cX12_manyOf 4 = .ok (.iadd, 1) := by decide +kernel
theorem dX12_manyOf_5 : decode cX12_manyOf 5 = .ok (.sipush 1000, 3) := by decide +kernel
theorem dX12_manyOf_8 : decode cX12_manyOf 8 = .ok (.idiv, 1) := by decide +kernel
theorem dX12_manyOf_9 : decode cX12_manyOf 9 = .ok (.ireturn, 1) := by decide +kernel
theorem dX12_nextOf_0 : decode cX12_nextOf 0 = .ok (.iload_n 1, 1) := by decide +kernel
theorem dX12_nextOf_1 : decode cX12_nextOf 1 = .ok (.aload_n 0, 1) := by decide +kernel
theorem dX12_nextOf_2 : decode cX12_nextOf 2 = .ok (.getfield 369, 3) := by decide +kernel
theorem dX12_nextOf_5 : decode cX12_nextOf 5 = .ok (.if_icmp .lt 5, 3) := by decide +kernel
theorem dX12_nextOf_8 : decode cX12_nextOf 8 = .ok (.iconst 0, 1) := by decide +kernel
theorem dX12_nextOf_9 : decode cX12_nextOf 9 = .ok (.ireturn, 1) := by decide +kernel
theorem dX12_nextOf_10 : decode cX12_nextOf 10 = .ok (.iload_n 2, 1) := by decide +kernel
theorem dX12_nextOf_11 : decode cX12_nextOf 11 = .ok (.istore 4, 2) := by decide +kernel
theorem dX12_nextOf_13 : decode cX12_nextOf 13 = .ok (.iload 4, 2) := by decide +kernel
theorem dX12_nextOf_15 : decode cX12_nextOf 15 = .ok (.aload_n 0, 1) := by decide +kernel
theorem dX12_nextOf_16 : decode cX12_nextOf 16 = .ok (.iload_n 1, 1) := by decide +kernel
theorem dX12_nextOf_17 : decode cX12_nextOf 17 = .ok (.invokevirtual 372, 3) := by decide +kernel
theorem dX12_nextOf_20 : decode cX12_nextOf 20 = .ok (.if_icmp .ge 23, 3) := by decide +kernel
theorem dX12_nextOf_23 : decode cX12_nextOf 23 = .ok (.aload_n 0, 1) := by decide +kernel
theorem dX12_nextOf_24 : decode cX12_nextOf 24 = .ok (.iload_n 1, 1) := by decide +kernel
theorem dX12_nextOf_25 : decode cX12_nextOf 25 = .ok (.iload 4, 2) := by decide +kernel
theorem dX12_nextOf_27 : decode cX12_nextOf 27 = .ok (.invokevirtual 375, 3) := by decide +kernel
theorem dX12_nextOf_30 : decode cX12_nextOf 30 = .ok (.iload_n 3, 1) := by decide +kernel
theorem dX12_nextOf_31 : decode cX12_nextOf 31 = .ok (.if_icmp .ne 6, 3) := by decide +kernel
theorem dX12_nextOf_34 : decode cX12_nextOf 34 = .ok (.iload 4, 2) := by decide +kernel
theorem dX12_nextOf_36 : decode cX12_nextOf 36 = .ok (.ireturn, 1) := by decide +kernel
theorem dX12_nextOf_37 : decode cX12_nextOf 37 = .ok (.iinc 4 1, 3) := by decide +kernel
theorem dX12_nextOf_40 : decode cX12_nextOf 40 = .ok (.goto (-27), 3) := by decide +kernel
theorem dX12_nextOf_43 : decode cX12_nextOf 43 = .ok (.iconst (-1), 1) := by decide +kernel
theorem dX12_nextOf_44 : decode cX12_nextOf 44 = .ok (.ireturn, 1) := by decide +kernel
theorem dX12_parentOf_0 : decode cX12_parentOf 0 = .ok (.aload_n 0, 1) := by decide +kernel
theorem dX12_parentOf_1 : decode cX12_parentOf 1 = .ok (.iload 4, 2) := by decide +kernel
theorem dX12_parentOf_3 : decode cX12_parentOf 3 = .ok (.invokevirtual 338, 3) := by decide +kernel
theorem dX12_parentOf_6 : decode cX12_parentOf 6 = .ok (.aload_n 0, 1) := by decide +kernel
theorem dX12_parentOf_7 : decode cX12_parentOf 7 = .ok (.iload_n 1, 1) := by decide +kernel
theorem dX12_parentOf_8 : decode cX12_parentOf 8 = .ok (.iconst 1, 1) := by decide +kernel
theorem dX12_parentOf_9 : decode cX12_parentOf 9 = .ok (.invokevirtual 334, 3) := by decide +kernel
theorem dX12_parentOf_12 : decode cX12_parentOf 12 = .ok (.bipush 8, 2) := by decide +kernel
theorem dX12_parentOf_14 : decode cX12_parentOf 14 = .ok (.istore 5, 2) := by decide +kernel
theorem dX12_parentOf_16 : decode cX12_parentOf 16 = .ok (.aload_n 0, 1) := by decide +kernel
theorem dX12_parentOf_17 : decode cX12_parentOf 17 = .ok (.aload_n 0, 1) := by decide +kernel
theorem dX12_parentOf_18 : decode cX12_parentOf 18 = .ok (.iload_n 3, 1) := by decide +kernel
theorem dX12_parentOf_19 : decode cX12_parentOf 19 = .ok (.invokevirtual 363, 3) := by decide +kernel
theorem dX12_parentOf_22 : decode cX12_parentOf 22 = .ok (.putfield 445, 3) := by decide +kernel
theorem dX12_parentOf_25 : decode cX12_parentOf 25 = .ok (.iconst 0, 1) := by decide +kernel
theorem dX12_parentOf_26 : decode cX12_parentOf 26 = .ok (.istore 6, 2) := by decide +kernel
theorem dX12_parentOf_28 : decode cX12_parentOf 28 = .ok (.iload 6, 2) := by decide +kernel
theorem dX12_parentOf_30 : decode cX12_parentOf 30 = .ok (.bipush 8, 2) := by decide +kernel
theorem dX12_parentOf_32 : decode cX12_parentOf 32 = .ok (.if_icmp .ge 104, 3) := by decide +kernel
theorem dX12_parentOf_35 : decode cX12_parentOf 35 = .ok (.iload_n 2, 1) := by decide +kernel
theorem dX12_parentOf_36 : decode cX12_parentOf 36 = .ok (.iload 6, 2) := by decide +kernel
theorem dX12_parentOf_38 : decode cX12_parentOf 38 = .ok (.ishr, 1) := by decide +kernel
theorem dX12_parentOf_39 : decode cX12_parentOf 39 = .ok (.iconst 1, 1) := by decide +kernel
theorem dX12_parentOf_40 : decode cX12_parentOf 40 = .ok (.iand, 1) := by decide +kernel
theorem dX12_parentOf_41 : decode cX12_parentOf 41 = .ok (.ifCond .eq 89, 3) := by decide +kernel
theorem dX12_parentOf_44 : decode cX12_parentOf 44 = .ok (.iload 6, 2) := by decide +kernel
theorem dX12_parentOf_46 : decode cX12_parentOf 46 = .ok (.iload 4, 2) := by decide +kernel
theorem dX12_parentOf_48 : decode cX12_parentOf 48 = .ok (.if_icmp .eq 82, 3) := by decide +kernel
theorem dX12_parentOf_51 : decode cX12_parentOf 51 = .ok (.aload_n 0, 1) := by decide +kernel
theorem dX12_parentOf_52 : decode cX12_parentOf 52 = .ok (.getfield 16, 3) := by decide +kernel
theorem dX12_parentOf_55 : decode cX12_parentOf 55 = .ok (.iload 6, 2) := by decide +kernel
theorem dX12_parentOf_57 : decode cX12_parentOf 57 = .ok (.iaload, 1) := by decide +kernel
theorem dX12_parentOf_58 : decode cX12_parentOf 58 = .ok (.aload_n 0, 1) := by decide +kernel
theorem dX12_parentOf_59 : decode cX12_parentOf 59 = .ok (.getfield 16, 3) := by decide +kernel
theorem dX12_parentOf_62 : decode cX12_parentOf 62 = .ok (.iload 4, 2) := by decide +kernel
theorem dX12_parentOf_64 : decode cX12_parentOf 64 = .ok (.iaload, 1) := by decide +kernel
theorem dX12_parentOf_65 : decode cX12_parentOf 65 = .ok (.if_icmp .lt 65, 3) := by decide +kernel
theorem dX12_parentOf_68 : decode cX12_parentOf 68 = .ok (.aload_n 0, 1) := by decide +kernel
theorem dX12_parentOf_69 : decode cX12_parentOf 69 = .ok (.getfield 16, 3) := by decide +kernel
theorem dX12_parentOf_72 : decode cX12_parentOf 72 = .ok (.iload 6, 2) := by decide +kernel
theorem dX12_parentOf_74 : decode cX12_parentOf 74 = .ok (.iaload, 1) := by decide +kernel
theorem dX12_parentOf_75 : decode cX12_parentOf 75 = .ok (.aload_n 0, 1) := by decide +kernel
theorem dX12_parentOf_76 : decode cX12_parentOf 76 = .ok (.getfield 16, 3) := by decide +kernel
theorem dX12_parentOf_79 : decode cX12_parentOf 79 = .ok (.iload 4, 2) := by decide +kernel
theorem dX12_parentOf_81 : decode cX12_parentOf 81 = .ok (.iaload, 1) := by decide +kernel
theorem dX12_parentOf_82 : decode cX12_parentOf 82 = .ok (.if_icmp .ne 13, 3) := by decide +kernel
theorem dX12_parentOf_85 : decode cX12_parentOf 85 = .ok (.iload 6, 2) := by decide +kernel
theorem dX12_parentOf_87 : decode cX12_parentOf 87 = .ok (.iload 4, 2) := by decide +kernel
theorem dX12_parentOf_89 : decode cX12_parentOf 89 = .ok (.if_icmp .le 6, 3) := by decide +kernel
theorem dX12_parentOf_92 : decode cX12_parentOf 92 = .ok (.goto 38, 3) := by decide +kernel
theorem dX12_parentOf_95 : decode cX12_parentOf 95 = .ok (.aload_n 0, 1) := by decide +kernel
theorem dX12_parentOf_96 : decode cX12_parentOf 96 = .ok (.iload 6, 2) := by decide +kernel
theorem dX12_parentOf_98 : decode cX12_parentOf 98 = .ok (.invokevirtual 448, 3) := by decide +kernel
theorem dX12_parentOf_101 : decode cX12_parentOf 101 = .ok (.aload_n 0, 1) := by decide +kernel
theorem dX12_parentOf_102 : decode cX12_parentOf 102 = .ok (.iload_n 3, 1) := by decide +kernel
theorem dX12_parentOf_103 : decode cX12_parentOf 103 = .ok (.invokevirtual 363, 3) := by decide +kernel
theorem dX12_parentOf_106 : decode cX12_parentOf 106 = .ok (.istore 7, 2) := by decide +kernel
theorem dX12_parentOf_108 : decode cX12_parentOf 108 = .ok (.iload 7, 2) := by decide +kernel
theorem dX12_parentOf_110 : decode cX12_parentOf 110 = .ok (.aload_n 0, 1) := by decide +kernel
theorem dX12_parentOf_111 : decode cX12_parentOf 111 = .ok (.getfield 445, 3) := by decide +kernel
theorem dX12_parentOf_114 : decode cX12_parentOf 114 = .ok (.if_icmp .lt 6, 3) := by decide +kernel
theorem dX12_parentOf_117 : decode cX12_parentOf 117 = .ok (.goto 13, 3) := by decide +kernel
theorem dX12_parentOf_120 : decode cX12_parentOf 120 = .ok (.aload_n 0, 1) := by decide +kernel
theorem dX12_parentOf_121 : decode cX12_parentOf 121 = .ok (.iload 7, 2) := by decide +kernel
theorem dX12_parentOf_123 : decode cX12_parentOf 123 = .ok (.putfield 445, 3) := by decide +kernel
theorem dX12_parentOf_126 : decode cX12_parentOf 126 = .ok (.iload 6, 2) := by decide +kernel
theorem dX12_parentOf_128 : decode cX12_parentOf 128 = .ok (.istore 5, 2) := by decide +kernel
theorem dX12_parentOf_130 : decode cX12_parentOf 130 = .ok (.iinc 6 1, 3) := by decide +kernel
theorem dX12_parentOf_133 : decode cX12_parentOf 133 = .ok (.goto (-105), 3) := by decide +kernel
theorem dX12_parentOf_136 : decode cX12_parentOf 136 = .ok (.iload 5, 2) := by decide +kernel
theorem dX12_parentOf_138 : decode cX12_parentOf 138 = .ok (.ireturn, 1) := by decide +kernel
theorem dX12_seed_0 : decode cX12_seed 0 = .ok (.iload_n 1, 1) := by decide +kernel
theorem dX12_seed_1 : decode cX12_seed 1 = .ok (.iconst 0, 1) := by decide +kernel
theorem dX12_seed_2 : decode cX12_seed 2 = .ok (.ldc_w 463, 3) := by decide +kernel
theorem dX12_seed_5 : decode cX12_seed 5 = .ok (.invokestatic 161, 3) := by decide +kernel
theorem dX12_seed_8 : decode cX12_seed 8 = .ok (.ifCond .ne 5, 3) := by decide +kernel
theorem dX12_seed_11 : decode cX12_seed 11 = .ok (.iconst 0, 1) := by decide +kernel
theorem dX12_seed_12 : decode cX12_seed 12 = .ok (.ireturn, 1) := by decide +kernel
theorem dX12_seed_13 : decode cX12_seed 13 = .ok (.aload_n 0, 1) := by decide +kernel
theorem dX12_seed_14 : decode cX12_seed 14 = .ok (.iload_n 1, 1) := by decide +kernel
theorem dX12_seed_15 : decode cX12_seed 15 = .ok (.putfield 148, 3) := by decide +kernel
theorem dX12_seed_18 : decode cX12_seed 18 = .ok (.iconst 1, 1) := by decide +kernel
theorem dX12_seed_19 : decode cX12_seed 19 = .ok (.ireturn, 1) := by decide +kernel
theorem dX12_shortAt_0 : decode cX12_shortAt 0 = .ok (.bipush 13, 2) := by decide +kernel
theorem dX12_shortAt_2 : decode cX12_shortAt 2 = .ok (.iload_n 0, 1) := by decide +kernel
theorem dX12_shortAt_3 : decode cX12_shortAt 3 = .ok (.imul, 1) := by decide +kernel
theorem dX12_shortAt_4 : decode cX12_shortAt 4 = .ok (.iload_n 1, 1) := by decide +kernel
theorem dX12_shortAt_5 : decode cX12_shortAt 5 = .ok (.iadd, 1) := by decide +kernel
theorem dX12_shortAt_6 : decode cX12_shortAt 6 = .ok (.bipush 13, 2) := by decide +kernel
theorem dX12_shortAt_8 : decode cX12_shortAt 8 = .ok (.imul, 1) := by decide +kernel
theorem dX12_shortAt_9 : decode cX12_shortAt 9 = .ok (.iload_n 2, 1) := by decide +kernel
theorem dX12_shortAt_10 : decode cX12_shortAt 10 = .ok (.iadd, 1) := by decide +kernel
theorem dX12_shortAt_11 : decode cX12_shortAt 11 = .ok (.bipush 13, 2) := by decide +kernel
theorem dX12_shortAt_13 : decode cX12_shortAt 13 = .ok (.imul, 1) := by decide +kernel
theorem dX12_shortAt_14 : decode cX12_shortAt 14 = .ok (.iload_n 3, 1) := by decide +kernel
theorem dX12_shortAt_15 : decode cX12_shortAt 15 = .ok (.iadd, 1) := by decide +kernel
theorem dX12_shortAt_16 : decode cX12_shortAt 16 = .ok (.ireturn, 1) := by decide +kernel
theorem dX12_strokes_0 : decode cX12_strokes 0 = .ok (.aload_n 0, 1) := by decide +kernel
theorem dX12_strokes_1 : decode cX12_strokes 1 = .ok (.iload_n 1, 1) := by decide +kernel
theorem dX12_strokes_2 : decode cX12_strokes 2 = .ok (.iload_n 2, 1) := by decide +kernel
theorem dX12_strokes_3 : decode cX12_strokes 3 = .ok (.invokevirtual 329, 3) := by decide +kernel
theorem dX12_strokes_6 : decode cX12_strokes 6 = .ok (.ifCond .eq 13, 3) := by decide +kernel
theorem dX12_strokes_9 : decode cX12_strokes 9 = .ok (.iload_n 3, 1) := by decide +kernel
theorem dX12_strokes_10 : decode cX12_strokes 10 = .ok (.iconst 1, 1) := by decide +kernel
theorem dX12_strokes_11 : decode cX12_strokes 11 = .ok (.bipush 9, 2) := by decide +kernel
theorem dX12_strokes_13 : decode cX12_strokes 13 = .ok (.invokestatic 161, 3) := by decide +kernel
theorem dX12_strokes_16 : decode cX12_strokes 16 = .ok (.ifCond .ne 5, 3) := by decide +kernel
theorem dX12_strokes_19 : decode cX12_strokes 19 = .ok (.iconst (-1), 1) := by decide +kernel
theorem dX12_strokes_20 : decode cX12_strokes 20 = .ok (.ireturn, 1) := by decide +kernel
theorem dX12_strokes_21 : decode cX12_strokes 21 = .ok (.aload_n 0, 1) := by decide +kernel
theorem dX12_strokes_22 : decode cX12_strokes 22 = .ok (.iload_n 1, 1) := by decide +kernel
theorem dX12_strokes_23 : decode cX12_strokes 23 = .ok (.iconst 0, 1) := by decide +kernel
theorem dX12_strokes_24 : decode cX12_strokes 24 = .ok (.invokevirtual 334, 3) := by decide +kernel
theorem dX12_strokes_27 : decode cX12_strokes 27 = .ok (.aload_n 0, 1) := by decide +kernel
theorem dX12_strokes_28 : decode cX12_strokes 28 = .ok (.iload_n 2, 1) := by decide +kernel
theorem dX12_strokes_29 : decode cX12_strokes 29 = .ok (.invokevirtual 338, 3) := by decide +kernel
theorem dX12_strokes_32 : decode cX12_strokes 32 = .ok (.aload_n 0, 1) := by decide +kernel
theorem dX12_strokes_33 : decode cX12_strokes 33 = .ok (.iload_n 3, 1) := by decide +kernel
theorem dX12_strokes_34 : decode cX12_strokes 34 = .ok (.invokevirtual 363, 3) := by decide +kernel
theorem dX12_strokes_37 : decode cX12_strokes 37 = .ok (.istore 4, 2) := by decide +kernel
theorem dX12_strokes_39 : decode cX12_strokes 39 = .ok (.iload 4, 2) := by decide +kernel
theorem dX12_strokes_41 : decode cX12_strokes 41 = .ok (.ldc_w 341, 3) := by decide +kernel
theorem dX12_strokes_44 : decode cX12_strokes 44 = .ok (.if_icmp .lt 8, 3) := by decide +kernel
theorem dX12_strokes_47 : decode cX12_strokes 47 = .ok (.bipush (-2), 2) := by decide +kernel
theorem dX12_strokes_49 : decode cX12_strokes 49 = .ok (.goto 5, 3) := by decide +kernel
theorem dX12_strokes_52 : decode cX12_strokes 52 = .ok (.iload 4, 2) := by decide +kernel
theorem dX12_strokes_54 : decode cX12_strokes 54 = .ok (.ireturn, 1) := by decide +kernel
theorem dX12_sum_0 : decode cX12_sum 0 = .ok (.iload_n 0, 1) := by decide +kernel
theorem dX12_sum_1 : decode cX12_sum 1 = .ok (.ldc_w 341, 3) := by decide +kernel
theorem dX12_sum_4 : decode cX12_sum 4 = .ok (.if_icmp .ge 10, 3) := by decide +kernel
theorem dX12_sum_7 : decode cX12_sum 7 = .ok (.iload_n 1, 1) := by decide +kernel
theorem dX12_sum_8 : decode cX12_sum 8 = .ok (.ldc_w 341, 3) := by decide +kernel
theorem dX12_sum_11 : decode cX12_sum 11 = .ok (.if_icmp .lt 9, 3) := by decide +kernel
theorem dX12_sum_14 : decode cX12_sum 14 = .ok (.ldc_w 341, 3) := by decide +kernel
theorem dX12_sum_17 : decode cX12_sum 17 = .ok (.goto 6, 3) := by decide +kernel
theorem dX12_sum_20 : decode cX12_sum 20 = .ok (.iload_n 0, 1) := by decide +kernel
theorem dX12_sum_21 : decode cX12_sum 21 = .ok (.iload_n 1, 1) := by decide +kernel
theorem dX12_sum_22 : decode cX12_sum 22 = .ok (.iadd, 1) := by decide +kernel
theorem dX12_sum_23 : decode cX12_sum 23 = .ok (.ireturn, 1) := by decide +kernel
theorem dX12_valueBy_0 : decode cX12_valueBy 0 = .ok (.iload_n 2, 1) := by decide +kernel
theorem dX12_valueBy_1 : decode cX12_valueBy 1 = .ok (.bipush 8, 2) := by decide +kernel
theorem dX12_valueBy_3 : decode cX12_valueBy 3 = .ok (.if_icmp .ne 18, 3) := by decide +kernel
theorem dX12_valueBy_6 : decode cX12_valueBy 6 = .ok (.aload_n 0, 1) := by decide +kernel
theorem dX12_valueBy_7 : decode cX12_valueBy 7 = .ok (.getfield 139, 3) := by decide +kernel
theorem dX12_valueBy_10 : decode cX12_valueBy 10 = .ok (.sipush 256, 3) := by decide +kernel
theorem dX12_valueBy_13 : decode cX12_valueBy 13 = .ok (.iload_n 1, 1) := by decide +kernel
theorem dX12_valueBy_14 : decode cX12_valueBy 14 = .ok (.iconst 1, 1) := by decide +kernel
theorem dX12_valueBy_15 : decode cX12_valueBy 15 = .ok (.iadd, 1) := by decide +kernel
theorem dX12_valueBy_16 : decode cX12_valueBy 16 = .ok (.imul, 1) := by decide +kernel
theorem dX12_valueBy_17 : decode cX12_valueBy 17 = .ok (.iload_n 3, 1) := by decide +kernel
theorem dX12_valueBy_18 : decode cX12_valueBy 18 = .ok (.iadd, 1) := by decide +kernel
theorem dX12_valueBy_19 : decode cX12_valueBy 19 = .ok (.iaload, 1) := by decide +kernel
theorem dX12_valueBy_20 : decode cX12_valueBy 20 = .ok (.ireturn, 1) := by decide +kernel
theorem dX12_valueBy_21 : decode cX12_valueBy 21 = .ok (.iload_n 2, 1) := by decide +kernel
theorem dX12_valueBy_22 : decode cX12_valueBy 22 = .ok (.aload_n 0, 1) := by decide +kernel
theorem dX12_valueBy_23 : decode cX12_valueBy 23 = .ok (.getfield 152, 3) := by decide +kernel
theorem dX12_valueBy_26 : decode cX12_valueBy 26 = .ok (.if_icmp .ge 26, 3) := by decide +kernel
theorem dX12_valueBy_29 : decode cX12_valueBy 29 = .ok (.iload_n 3, 1) := by decide +kernel
theorem dX12_valueBy_30 : decode cX12_valueBy 30 = .ok (.iload_n 2, 1) := by decide +kernel
theorem dX12_valueBy_31 : decode cX12_valueBy 31 = .ok (.ishr, 1) := by decide +kernel
theorem dX12_valueBy_32 : decode cX12_valueBy 32 = .ok (.iconst 1, 1) := by decide +kernel
theorem dX12_valueBy_33 : decode cX12_valueBy 33 = .ok (.iand, 1) := by decide +kernel
theorem dX12_valueBy_34 : decode cX12_valueBy 34 = .ok (.iconst 1, 1) := by decide +kernel
theorem dX12_valueBy_35 : decode cX12_valueBy 35 = .ok (.if_icmp .eq 17, 3) := by decide +kernel
theorem dX12_valueBy_38 : decode cX12_valueBy 38 = .ok (.aload_n 0, 1) := by decide +kernel
theorem dX12_valueBy_39 : decode cX12_valueBy 39 = .ok (.getfield 136, 3) := by decide +kernel
theorem dX12_valueBy_42 : decode cX12_valueBy 42 = .ok (.bipush 8, 2) := by decide +kernel
theorem dX12_valueBy_44 : decode cX12_valueBy 44 = .ok (.iload_n 1, 1) := by decide +kernel
theorem dX12_valueBy_45 : decode cX12_valueBy 45 = .ok (.imul, 1) := by decide +kernel
theorem dX12_valueBy_46 : decode cX12_valueBy 46 = .ok (.iload_n 2, 1) := by decide +kernel
theorem dX12_valueBy_47 : decode cX12_valueBy 47 = .ok (.iadd, 1) := by decide +kernel
theorem dX12_valueBy_48 : decode cX12_valueBy 48 = .ok (.baload, 1) := by decide +kernel
theorem dX12_valueBy_49 : decode cX12_valueBy 49 = .ok (.ifCond .ne 7, 3) := by decide +kernel
theorem dX12_valueBy_52 : decode cX12_valueBy 52 = .ok (.ldc_w 426, 3) := by decide +kernel
theorem dX12_valueBy_55 : decode cX12_valueBy 55 = .ok (.ireturn, 1) := by decide +kernel
theorem dX12_valueBy_56 : decode cX12_valueBy 56 = .ok (.sipush 1000, 3) := by decide +kernel
theorem dX12_valueBy_59 : decode cX12_valueBy 59 = .ok (.aload_n 0, 1) := by decide +kernel
theorem dX12_valueBy_60 : decode cX12_valueBy 60 = .ok (.iload_n 2, 1) := by decide +kernel
theorem dX12_valueBy_61 : decode cX12_valueBy 61 = .ok (.invokevirtual 175, 3) := by decide +kernel
theorem dX12_valueBy_64 : decode cX12_valueBy 64 = .ok (.aload_n 0, 1) := by decide +kernel
theorem dX12_valueBy_65 : decode cX12_valueBy 65 = .ok (.getfield 16, 3) := by decide +kernel
theorem dX12_valueBy_68 : decode cX12_valueBy 68 = .ok (.iload_n 1, 1) := by decide +kernel
theorem dX12_valueBy_69 : decode cX12_valueBy 69 = .ok (.iaload, 1) := by decide +kernel
theorem dX12_valueBy_70 : decode cX12_valueBy 70 = .ok (.isub, 1) := by decide +kernel
theorem dX12_valueBy_71 : decode cX12_valueBy 71 = .ok (.isub, 1) := by decide +kernel
theorem dX12_valueBy_72 : decode cX12_valueBy 72 = .ok (.aload_n 0, 1) := by decide +kernel
theorem dX12_valueBy_73 : decode cX12_valueBy 73 = .ok (.getfield 139, 3) := by decide +kernel
theorem dX12_valueBy_76 : decode cX12_valueBy 76 = .ok (.sipush 256, 3) := by decide +kernel
theorem dX12_valueBy_79 : decode cX12_valueBy 79 = .ok (.iload_n 1, 1) := by decide +kernel
theorem dX12_valueBy_80 : decode cX12_valueBy 80 = .ok (.iconst 1, 1) := by decide +kernel
theorem dX12_valueBy_81 : decode cX12_valueBy 81 = .ok (.iadd, 1) := by decide +kernel
theorem dX12_valueBy_82 : decode cX12_valueBy 82 = .ok (.imul, 1) := by decide +kernel
theorem dX12_valueBy_83 : decode cX12_valueBy 83 = .ok (.iload_n 3, 1) := by decide +kernel
theorem dX12_valueBy_84 : decode cX12_valueBy 84 = .ok (.iconst 1, 1) := by decide +kernel
theorem dX12_valueBy_85 : decode cX12_valueBy 85 = .ok (.iload_n 2, 1) := by decide +kernel
theorem dX12_valueBy_86 : decode cX12_valueBy 86 = .ok (.ishl, 1) := by decide +kernel
theorem dX12_valueBy_87 : decode cX12_valueBy 87 = .ok (.ior, 1) := by decide +kernel
theorem dX12_valueBy_88 : decode cX12_valueBy 88 = .ok (.iadd, 1) := by decide +kernel
theorem dX12_valueBy_89 : decode cX12_valueBy 89 = .ok (.iaload, 1) := by decide +kernel
theorem dX12_valueBy_90 : decode cX12_valueBy 90 = .ok (.iadd, 1) := by decide +kernel
theorem dX12_valueBy_91 : decode cX12_valueBy 91 = .ok (.ireturn, 1) := by decide +kernel
theorem dX12_ways_0 : decode cX12_ways 0 = .ok (.aload_n 0, 1) := by decide +kernel
theorem dX12_ways_1 : decode cX12_ways 1 = .ok (.iload_n 1, 1) := by decide +kernel
theorem dX12_ways_2 : decode cX12_ways 2 = .ok (.iload_n 2, 1) := by decide +kernel
theorem dX12_ways_3 : decode cX12_ways 3 = .ok (.invokevirtual 329, 3) := by decide +kernel
theorem dX12_ways_6 : decode cX12_ways 6 = .ok (.ifCond .ne 7, 3) := by decide +kernel
theorem dX12_ways_9 : decode cX12_ways 9 = .ok (.ldc2_w 332, 3) := by decide +kernel
theorem dX12_ways_12 : decode cX12_ways 12 = .ok (.lreturn, 1) := by decide +kernel
theorem dX12_ways_13 : decode cX12_ways 13 = .ok (.aload_n 0, 1) := by decide +kernel
theorem dX12_ways_14 : decode cX12_ways 14 = .ok (.iload_n 1, 1) := by decide +kernel
theorem dX12_ways_15 : decode cX12_ways 15 = .ok (.iconst 0, 1) := by decide +kernel
theorem dX12_ways_16 : decode cX12_ways 16 = .ok (.invokevirtual 334, 3) := by decide +kernel
theorem dX12_ways_19 : decode cX12_ways 19 = .ok (.aload_n 0, 1) := by decide +kernel
theorem dX12_ways_20 : decode cX12_ways 20 = .ok (.iload_n 2, 1) := by decide +kernel
theorem dX12_ways_21 : decode cX12_ways 21 = .ok (.invokevirtual 338, 3) := by decide +kernel
theorem dX12_ways_24 : decode cX12_ways 24 = .ok (.iconst 0, 1) := by decide +kernel
theorem dX12_ways_25 : decode cX12_ways 25 = .ok (.istore_n 3, 1) := by decide +kernel
theorem dX12_ways_26 : decode cX12_ways 26 = .ok (.iload_n 3, 1) := by decide +kernel
theorem dX12_ways_27 : decode cX12_ways 27 = .ok (.aload_n 0, 1) := by decide +kernel
theorem dX12_ways_28 : decode cX12_ways 28 = .ok (.getfield 323, 3) := by decide +kernel
theorem dX12_ways_31 : decode cX12_ways 31 = .ok (.if_icmp .gt 24, 3) := by decide +kernel
theorem dX12_ways_34 : decode cX12_ways 34 = .ok (.aload_n 0, 1) := by decide +kernel
theorem dX12_ways_35 : decode cX12_ways 35 = .ok (.getfield 93, 3) := by decide +kernel
theorem dX12_ways_38 : decode cX12_ways 38 = .ok (.iload_n 3, 1) := by decide +kernel
theorem dX12_ways_39 : decode cX12_ways 39 = .ok (.iload_n 3, 1) := by decide +kernel
theorem dX12_ways_40 : decode cX12_ways 40 = .ok (.ifCond .ne 7, 3) := by decide +kernel
theorem dX12_ways_43 : decode cX12_ways 43 = .ok (.lconst 1, 1) := by decide +kernel
theorem dX12_ways_44 : decode cX12_ways 44 = .ok (.goto 4, 3) := by decide +kernel
theorem dX12_ways_47 : decode cX12_ways 47 = .ok (.lconst 0, 1) := by decide +kernel
theorem dX12_ways_48 : decode cX12_ways 48 = .ok (.lastore, 1) := by decide +kernel
theorem dX12_ways_49 : decode cX12_ways 49 = .ok (.iinc 3 1, 3) := by decide +kernel
theorem dX12_ways_52 : decode cX12_ways 52 = .ok (.goto (-26), 3) := by decide +kernel
theorem dX12_ways_55 : decode cX12_ways 55 = .ok (.iconst 0, 1) := by decide +kernel
theorem dX12_ways_56 : decode cX12_ways 56 = .ok (.istore_n 3, 1) := by decide +kernel
theorem dX12_ways_57 : decode cX12_ways 57 = .ok (.iload_n 3, 1) := by decide +kernel
theorem dX12_ways_58 : decode cX12_ways 58 = .ok (.aload_n 0, 1) := by decide +kernel
theorem dX12_ways_59 : decode cX12_ways 59 = .ok (.getfield 320, 3) := by decide +kernel
theorem dX12_ways_62 : decode cX12_ways 62 = .ok (.if_icmp .ge 68, 3) := by decide +kernel
theorem dX12_ways_65 : decode cX12_ways 65 = .ok (.aload_n 0, 1) := by decide +kernel
theorem dX12_ways_66 : decode cX12_ways 66 = .ok (.getfield 323, 3) := by decide +kernel
theorem dX12_ways_69 : decode cX12_ways 69 = .ok (.istore 4, 2) := by decide +kernel
theorem dX12_ways_71 : decode cX12_ways 71 = .ok (.iload 4, 2) := by decide +kernel
theorem dX12_ways_73 : decode cX12_ways 73 = .ok (.ifCond .le 51, 3) := by decide +kernel
theorem dX12_ways_76 : decode cX12_ways 76 = .ok (.aload_n 0, 1) := by decide +kernel
theorem dX12_ways_77 : decode cX12_ways 77 = .ok (.getfield 87, 3) := by decide +kernel
theorem dX12_ways_80 : decode cX12_ways 80 = .ok (.iload_n 3, 1) := by decide +kernel
theorem dX12_ways_81 : decode cX12_ways 81 = .ok (.iaload, 1) := by decide +kernel
theorem dX12_ways_82 : decode cX12_ways 82 = .ok (.aload_n 0, 1) := by decide +kernel
theorem dX12_ways_83 : decode cX12_ways 83 = .ok (.getfield 90, 3) := by decide +kernel
theorem dX12_ways_86 : decode cX12_ways 86 = .ok (.iload 4, 2) := by decide +kernel
theorem dX12_ways_88 : decode cX12_ways 88 = .ok (.iconst 1, 1) := by decide +kernel
theorem dX12_ways_89 : decode cX12_ways 89 = .ok (.isub, 1) := by decide +kernel
theorem dX12_ways_90 : decode cX12_ways 90 = .ok (.iaload, 1) := by decide +kernel
theorem dX12_ways_91 : decode cX12_ways 91 = .ok (.if_icmp .ne 27, 3) := by decide +kernel
theorem dX12_ways_94 : decode cX12_ways 94 = .ok (.aload_n 0, 1) := by decide +kernel
theorem dX12_ways_95 : decode cX12_ways 95 = .ok (.getfield 93, 3) := by decide +kernel
theorem dX12_ways_98 : decode cX12_ways 98 = .ok (.iload 4, 2) := by decide +kernel
theorem dX12_ways_100 : decode cX12_ways 100 = .ok (.aload_n 0, 1) := by decide +kernel
theorem dX12_ways_101 : decode cX12_ways 101 = .ok (.getfield 93, 3) := by decide +kernel
theorem dX12_ways_104 : decode cX12_ways 104 = .ok (.iload 4, 2) := by decide +kernel
theorem dX12_ways_106 : decode cX12_ways 106 = .ok (.laload, 1) := by decide +kernel
theorem dX12_ways_107 : decode cX12_ways 107 = .ok (.aload_n 0, 1) := by decide +kernel
theorem dX12_ways_108 : decode cX12_ways 108 = .ok (.getfield 93, 3) := by decide +kernel
theorem dX12_ways_111 : decode cX12_ways 111 = .ok (.iload 4, 2) := by decide +kernel
theorem dX12_ways_113 : decode cX12_ways 113 = .ok (.iconst 1, 1) := by decide +kernel
theorem dX12_ways_114 : decode cX12_ways 114 = .ok (.isub, 1) := by decide +kernel
theorem dX12_ways_115 : decode cX12_ways 115 = .ok (.laload, 1) := by decide +kernel
theorem dX12_ways_116 : decode cX12_ways 116 = .ok (.ladd, 1) := by decide +kernel
theorem dX12_ways_117 : decode cX12_ways 117 = .ok (.lastore, 1) := by decide +kernel
theorem dX12_ways_118 : decode cX12_ways 118 = .ok (.iinc 4 (-1), 3) := by decide +kernel
theorem dX12_ways_121 : decode cX12_ways 121 = .ok (.goto (-50), 3) := by decide +kernel
theorem dX12_ways_124 : decode cX12_ways 124 = .ok (.iinc 3 1, 3) := by decide +kernel
theorem dX12_ways_127 : decode cX12_ways 127 = .ok (.goto (-70), 3) := by decide +kernel
theorem dX12_ways_130 : decode cX12_ways 130 = .ok (.aload_n 0, 1) := by decide +kernel
theorem dX12_ways_131 : decode cX12_ways 131 = .ok (.getfield 93, 3) := by decide +kernel
theorem dX12_ways_134 : decode cX12_ways 134 = .ok (.aload_n 0, 1) := by decide +kernel
theorem dX12_ways_135 : decode cX12_ways 135 = .ok (.getfield 323, 3) := by decide +kernel
theorem dX12_ways_138 : decode cX12_ways 138 = .ok (.laload, 1) := by decide +kernel
theorem dX12_ways_139 : decode cX12_ways 139 = .ok (.lreturn, 1) := by decide +kernel
theorem dX12_worth_0 : decode cX12_worth 0 = .ok (.aload_n 0, 1) := by decide +kernel
theorem dX12_worth_1 : decode cX12_worth 1 = .ok (.iload_n 1, 1) := by decide +kernel
theorem dX12_worth_2 : decode cX12_worth 2 = .ok (.invokevirtual 172, 3) := by decide +kernel
theorem dX12_worth_5 : decode cX12_worth 5 = .ok (.ifCond .eq 24, 3) := by decide +kernel
theorem dX12_worth_8 : decode cX12_worth 8 = .ok (.aload_n 0, 1) := by decide +kernel
theorem dX12_worth_9 : decode cX12_worth 9 = .ok (.iload_n 2, 1) := by decide +kernel
theorem dX12_worth_10 : decode cX12_worth 10 = .ok (.invokevirtual 420, 3) := by decide +kernel
theorem dX12_worth_13 : decode cX12_worth 13 = .ok (.ifCond .eq 16, 3) := by decide +kernel
theorem dX12_worth_16 : decode cX12_worth 16 = .ok (.iload_n 2, 1) := by decide +kernel
theorem dX12_worth_17 : decode cX12_worth 17 = .ok (.ifCond .eq 12, 3) := by decide +kernel
theorem dX12_worth_20 : decode cX12_worth 20 = .ok (.iload_n 3, 1) := by decide +kernel
theorem dX12_worth_21 : decode cX12_worth 21 = .ok (.iconst 0, 1) := by decide +kernel
theorem dX12_worth_22 : decode cX12_worth 22 = .ok (.iconst 1, 1) := by decide +kernel
theorem dX12_worth_23 : decode cX12_worth 23 = .ok (.invokestatic 161, 3) := by decide +kernel
theorem dX12_worth_26 : decode cX12_worth 26 = .ok (.ifCond .ne 7, 3) := by decide +kernel
theorem dX12_worth_29 : decode cX12_worth 29 = .ok (.sipush (-1000), 3) := by decide +kernel
theorem dX12_worth_32 : decode cX12_worth 32 = .ok (.ireturn, 1) := by decide +kernel
theorem dX12_worth_33 : decode cX12_worth 33 = .ok (.aload_n 0, 1) := by decide +kernel
theorem dX12_worth_34 : decode cX12_worth 34 = .ok (.iload_n 2, 1) := by decide +kernel
theorem dX12_worth_35 : decode cX12_worth 35 = .ok (.invokevirtual 436, 3) := by decide +kernel
theorem dX12_worth_38 : decode cX12_worth 38 = .ok (.aload_n 0, 1) := by decide +kernel
theorem dX12_worth_39 : decode cX12_worth 39 = .ok (.getfield 139, 3) := by decide +kernel
theorem dX12_worth_42 : decode cX12_worth 42 = .ok (.iconst 0, 1) := by decide +kernel
theorem dX12_worth_43 : decode cX12_worth 43 = .ok (.iaload, 1) := by decide +kernel
theorem dX12_worth_44 : decode cX12_worth 44 = .ok (.istore 4, 2) := by decide +kernel
theorem dX12_worth_46 : decode cX12_worth 46 = .ok (.aload_n 0, 1) := by decide +kernel
theorem dX12_worth_47 : decode cX12_worth 47 = .ok (.getfield 139, 3) := by decide +kernel
theorem dX12_worth_50 : decode cX12_worth 50 = .ok (.iconst 1, 1) := by decide +kernel
theorem dX12_worth_51 : decode cX12_worth 51 = .ok (.iload_n 1, 1) := by decide +kernel
theorem dX12_worth_52 : decode cX12_worth 52 = .ok (.ishl, 1) := by decide +kernel
theorem dX12_worth_53 : decode cX12_worth 53 = .ok (.iaload, 1) := by decide +kernel
theorem dX12_worth_54 : decode cX12_worth 54 = .ok (.istore 5, 2) := by decide +kernel
theorem dX12_worth_56 : decode cX12_worth 56 = .ok (.iload_n 3, 1) := by decide +kernel
theorem dX12_worth_57 : decode cX12_worth 57 = .ok (.ifCond .ne 19, 3) := by decide +kernel
theorem dX12_worth_60 : decode cX12_worth 60 = .ok (.aload_n 0, 1) := by decide +kernel
theorem dX12_worth_61 : decode cX12_worth 61 = .ok (.iload 4, 2) := by decide +kernel
theorem dX12_worth_63 : decode cX12_worth 63 = .ok (.invokevirtual 433, 3) := by decide +kernel
theorem dX12_worth_66 : decode cX12_worth 66 = .ok (.aload_n 0, 1) := by decide +kernel
theorem dX12_worth_67 : decode cX12_worth 67 = .ok (.iload 5, 2) := by decide +kernel
theorem dX12_worth_69 : decode cX12_worth 69 = .ok (.invokevirtual 433, 3) := by decide +kernel
theorem dX12_worth_72 : decode cX12_worth 72 = .ok (.isub, 1) := by decide +kernel
theorem dX12_worth_73 : decode cX12_worth 73 = .ok (.goto 16, 3) := by decide +kernel
theorem dX12_worth_76 : decode cX12_worth 76 = .ok (.aload_n 0, 1) := by decide +kernel
theorem dX12_worth_77 : decode cX12_worth 77 = .ok (.iload 5, 2) := by decide +kernel
theorem dX12_worth_79 : decode cX12_worth 79 = .ok (.invokevirtual 439, 3) := by decide +kernel
theorem dX12_worth_82 : decode cX12_worth 82 = .ok (.aload_n 0, 1) := by decide +kernel
theorem dX12_worth_83 : decode cX12_worth 83 = .ok (.iload 4, 2) := by decide +kernel
theorem dX12_worth_85 : decode cX12_worth 85 = .ok (.invokevirtual 439, 3) := by decide +kernel
theorem dX12_worth_88 : decode cX12_worth 88 = .ok (.isub, 1) := by decide +kernel
theorem dX12_worth_89 : decode cX12_worth 89 = .ok (.ireturn, 1) := by decide +kernel
theorem dX12_writes_0 : decode cX12_writes 0 = .ok (.aload_n 0, 1) := by decide +kernel
theorem dX12_writes_1 : decode cX12_writes 1 = .ok (.getfield 69, 3) := by decide +kernel
theorem dX12_writes_4 : decode cX12_writes 4 = .ok (.aload_n 0, 1) := by decide +kernel
theorem dX12_writes_5 : decode cX12_writes 5 = .ok (.getfield 306, 3) := by decide +kernel
theorem dX12_writes_8 : decode cX12_writes 8 = .ok (.iload_n 1, 1) := by decide +kernel
theorem dX12_writes_9 : decode cX12_writes 9 = .ok (.iastore, 1) := by decide +kernel
theorem dX12_writes_10 : decode cX12_writes 10 = .ok (.aload_n 0, 1) := by decide +kernel
theorem dX12_writes_11 : decode cX12_writes 11 = .ok (.getfield 72, 3) := by decide +kernel
theorem dX12_writes_14 : decode cX12_writes 14 = .ok (.aload_n 0, 1) := by decide +kernel
theorem dX12_writes_15 : decode cX12_writes 15 = .ok (.getfield 306, 3) := by decide +kernel
theorem dX12_writes_18 : decode cX12_writes 18 = .ok (.iload_n 2, 1) := by decide +kernel
theorem dX12_writes_19 : decode cX12_writes 19 = .ok (.iastore, 1) := by decide +kernel
theorem dX12_writes_20 : decode cX12_writes 20 = .ok (.aload_n 0, 1) := by decide +kernel
theorem dX12_writes_21 : decode cX12_writes 21 = .ok (.getfield 75, 3) := by decide +kernel
theorem dX12_writes_24 : decode cX12_writes 24 = .ok (.aload_n 0, 1) := by decide +kernel
theorem dX12_writes_25 : decode cX12_writes 25 = .ok (.getfield 306, 3) := by decide +kernel
theorem dX12_writes_28 : decode cX12_writes 28 = .ok (.aload_n 0, 1) := by decide +kernel
theorem dX12_writes_29 : decode cX12_writes 29 = .ok (.getfield 158, 3) := by decide +kernel
theorem dX12_writes_32 : decode cX12_writes 32 = .ok (.iastore, 1) := by decide +kernel
theorem dX12_writes_33 : decode cX12_writes 33 = .ok (.aload_n 0, 1) := by decide +kernel
theorem dX12_writes_34 : decode cX12_writes 34 = .ok (.getfield 78, 3) := by decide +kernel
theorem dX12_writes_37 : decode cX12_writes 37 = .ok (.aload_n 0, 1) := by decide +kernel
theorem dX12_writes_38 : decode cX12_writes 38 = .ok (.getfield 306, 3) := by decide +kernel
theorem dX12_writes_41 : decode cX12_writes 41 = .ok (.iload_n 3, 1) := by decide +kernel
theorem dX12_writes_42 : decode cX12_writes 42 = .ok (.iastore, 1) := by decide +kernel
theorem dX12_writes_43 : decode cX12_writes 43 = .ok (.aload_n 0, 1) := by decide +kernel
theorem dX12_writes_44 : decode cX12_writes 44 = .ok (.getfield 81, 3) := by decide +kernel
theorem dX12_writes_47 : decode cX12_writes 47 = .ok (.aload_n 0, 1) := by decide +kernel
theorem dX12_writes_48 : decode cX12_writes 48 = .ok (.getfield 306, 3) := by decide +kernel
theorem dX12_writes_51 : decode cX12_writes 51 = .ok (.iload 4, 2) := by decide +kernel
theorem dX12_writes_53 : decode cX12_writes 53 = .ok (.iastore, 1) := by decide +kernel
theorem dX12_writes_54 : decode cX12_writes 54 = .ok (.aload_n 0, 1) := by decide +kernel
theorem dX12_writes_55 : decode cX12_writes 55 = .ok (.aload_n 0, 1) := by decide +kernel
theorem dX12_writes_56 : decode cX12_writes 56 = .ok (.getfield 306, 3) := by decide +kernel
theorem dX12_writes_59 : decode cX12_writes 59 = .ok (.iconst 1, 1) := by decide +kernel
theorem dX12_writes_60 : decode cX12_writes 60 = .ok (.iadd, 1) := by decide +kernel
theorem dX12_writes_61 : decode cX12_writes 61 = .ok (.putfield 306, 3) := by decide +kernel
theorem dX12_writes_64 : decode cX12_writes 64 = .ok (.return_, 1) := by decide +kernel
