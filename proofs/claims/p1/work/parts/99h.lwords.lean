set_option maxRecDepth 100000 in
set_option maxHeartbeats 4000000 in
theorem w1c_gd : GoodIn lw_tbl w1c := goodIn_p w1c [234, 255, 920, 924, 853, 888, 1067, 1406, 884, 909, 1041, 772, 870, 769, 1036, 1046, 1030, 1208, 1110, 867, 1050, 1266, 1087, 1084, 1091, 1095, 1079, 248, 849, 1231, 1062, 915, 343, 1071, 1074, 1058, 1115, 1313, 1257, 386, 863, 1426, 1430, 378, 1438, 1442, 1435, 582, 1318, 1327, 1332, 1306, 1336, 1398, 1394, 242, 1302, 707, 1799, 1487, 1497, 1501, 1513, 1525, 1505, 1509, 1483, 476, 469, 628, 624, 231, 1359, 1347, 1754, 841, 1342, 837, 1772, 1351, 1372, 1417, 1420, 1423, 1447, 1413, 1451, 1459, 1455, 1463, 1471, 1479, 1552, 1556, 1579, 1583, 1587, 1591, 1596, 1601, 1605, 1614, 1626, 1630, 1659, 1669, 1673, 1780, 1807] (by decide +kernel) (by decide +kernel)
set_option maxRecDepth 100000 in
set_option maxHeartbeats 4000000 in
theorem w2c_gd : GoodIn lw_tbl w2c := goodIn_p w2c [] (by decide +kernel) (by decide +kernel)
set_option maxRecDepth 100000 in
set_option maxHeartbeats 4000000 in
theorem w0r_gd : GoodIn lw_tbl w0r := goodIn_p w0r [2200, 2120, 2108, 2096, 2091, 2124, 2157, 2116, 2133, 2137, 2128, 2112, 2153, 2145, 2141, 2149, 2104, 2173, 2177, 2237, 2161, 2253, 2249, 2245, 2241, 2181, 2087, 2169, 2185, 2165, 2100, 2558, 2565, 2572, 2569, 2562, 2554, 2189, 2083, 2549, 1826, 234, 1831, 2197, 2592, 2193, 2493, 2497, 2527, 2576, 2588, 2600, 2628, 2636, 2640, 2644, 2648, 2652, 2656, 2660, 2664, 2668, 2672, 2680, 2684, 2699, 2707, 2711, 2715, 2719, 2727, 2731, 2735, 2739, 2745, 2749, 2723] (by decide +kernel) (by decide +kernel)
set_option maxRecDepth 100000 in
set_option maxHeartbeats 4000000 in
theorem w1L_gd : GoodIn lw_tbl w1L := goodIn_p w1L [1676, 231, 1831] (by decide +kernel) (by decide +kernel)
/-- what a call of each method of the two faces asks besides -/
def wT : List Cond := [Cond.instanceMethod yX11_about, Cond.selects RX11 yX11_about yX11_about, Cond.instanceMethod yX11_apply, Cond.selects RX11 yX11_apply yX11_apply, Cond.instanceMethod yX11_at, Cond.selects RX11 yX11_at yX11_at, Cond.instanceMethod yX11_beside, Cond.selects RX11 yX11_beside yX11_beside, Cond.instanceMethod yX11_between, Cond.selects RX11 yX11_between yX11_between, Cond.instanceMethod yX11_coefficient, Cond.selects RX11 yX11_coefficient yX11_coefficient, Cond.instanceMethod yX11_common, Cond.selects RX11 yX11_common yX11_common, Cond.instanceMethod yX11_compare, Cond.selects RX11 yX11_compare yX11_compare, Cond.instanceMethod yX11_drop, Cond.selects RX11 yX11_drop yX11_drop, Cond.instanceMethod yX11_end, Cond.selects RX11 yX11_end yX11_end, Cond.instanceMethod yX11_feed, Cond.selects RX11 yX11_feed yX11_feed, Cond.instanceMethod yX11_fraction, Cond.selects RX11 yX11_fraction yX11_fraction, Cond.instanceMethod yX11_part, Cond.selects RX11 yX11_part yX11_part, Cond.instanceMethod yX11_parts, Cond.selects RX11 yX11_parts yX11_parts, Cond.instanceMethod yX11_plain, Cond.selects RX11 yX11_plain yX11_plain, Cond.instanceMethod yX11_polynomial, Cond.selects RX11 yX11_polynomial yX11_polynomial, Cond.instanceMethod yX11_power, Cond.selects RX11 yX11_power yX11_power, Cond.instanceMethod yX11_read, Cond.selects RX11 yX11_read yX11_read, Cond.instanceMethod yX11_root, Cond.selects RX11 yX11_root yX11_root, Cond.instanceMethod yX11_rootOf, Cond.selects RX11 yX11_rootOf yX11_rootOf, Cond.instanceMethod yX11_roots, Cond.selects RX11 yX11_roots yX11_roots, Cond.instanceMethod yX11_sign, Cond.selects RX11 yX11_sign yX11_sign, Cond.instanceMethod yX11_turn, Cond.selects RX11 yX11_turn yX11_turn, Cond.instanceMethod yX11_value, Cond.selects RX11 yX11_value yX11_value, Cond.instanceMethod yX11_within, Cond.selects RX11 yX11_within yX11_within, Cond.instanceMethod yX11_write, Cond.selects RX11 yX11_write yX11_write, Cond.instanceMethod yX11_writeLeast, Cond.selects RX11 yX11_writeLeast yX11_writeLeast, Cond.instanceMethod yX11_writePart, Cond.selects RX11 yX11_writePart yX11_writePart, Cond.instanceMethod yX12_fraction, Cond.selects RX12 yX12_fraction yX12_fraction, Cond.instanceMethod yX12_thrown, Cond.selects RX12 yX12_thrown yX12_thrown, Cond.instanceMethod yX12_apply, Cond.selects RX12 yX12_apply yX12_apply, Cond.instanceMethod yX12_plain, Cond.selects RX12 yX12_plain yX12_plain, Cond.instanceMethod yX12_power, Cond.selects RX12 yX12_power yX12_power, Cond.instanceMethod yX12_root, Cond.selects RX12 yX12_root yX12_root, Cond.instanceMethod yX12_turn, Cond.selects RX12 yX12_turn yX12_turn, Cond.instanceMethod yX12_beside, Cond.selects RX12 yX12_beside yX12_beside, Cond.instanceMethod yX12_value, Cond.selects RX12 yX12_value yX12_value, Cond.instanceMethod yX12_rootOf, Cond.selects RX12 yX12_rootOf yX12_rootOf, Cond.instanceMethod yX12_common, Cond.selects RX12 yX12_common yX12_common, Cond.instanceMethod yX12_read, Cond.selects RX12 yX12_read yX12_read, Cond.instanceMethod yX12_drop, Cond.selects RX12 yX12_drop yX12_drop, Cond.instanceMethod yX12_compare, Cond.selects RX12 yX12_compare yX12_compare, Cond.instanceMethod yX12_sign, Cond.selects RX12 yX12_sign yX12_sign, Cond.instanceMethod yX12_about, Cond.selects RX12 yX12_about yX12_about, Cond.instanceMethod yX12_within, Cond.selects RX12 yX12_within yX12_within, Cond.instanceMethod yX12_polynomial, Cond.selects RX12 yX12_polynomial yX12_polynomial, Cond.instanceMethod yX12_coefficient, Cond.selects RX12 yX12_coefficient yX12_coefficient, Cond.instanceMethod yX12_roots, Cond.selects RX12 yX12_roots yX12_roots, Cond.instanceMethod yX12_between, Cond.selects RX12 yX12_between yX12_between, Cond.instanceMethod yX12_parts, Cond.selects RX12 yX12_parts yX12_parts, Cond.instanceMethod yX12_part, Cond.selects RX12 yX12_part yX12_part, Cond.instanceMethod yX12_write, Cond.selects RX12 yX12_write yX12_write, Cond.instanceMethod yX12_writeLeast, Cond.selects RX12 yX12_writeLeast yX12_writeLeast, Cond.instanceMethod yX12_writePart, Cond.selects RX12 yX12_writePart yX12_writePart, Cond.instanceMethod yX12_at, Cond.selects RX12 yX12_at yX12_at, Cond.instanceMethod yX12_feed, Cond.selects RX12 yX12_feed yX12_feed, Cond.instanceMethod yX12_end, Cond.selects RX12 yX12_end yX12_end]
set_option maxRecDepth 100000 in
set_option maxHeartbeats 4000000 in
theorem wT_gd : GoodIn lw_tbl wT := goodIn_p wT [] (by decide +kernel) (by decide +kernel)
theorem w0c_gd : GoodIn lw_tbl w0c := fun w h => (List.mem_append.mp h).elim (w1c_gd w) (w2c_gd w)
theorem w0L_gd : GoodIn lw_tbl w0L := fun w h => (List.mem_append.mp h).elim (w1L_gd w) fun h => (List.mem_append.mp h).elim (w0c_gd w) (w0r_gd w)
theorem ti_X11_about : Cond.instanceMethod yX11_about ∈ wT := List.mem_of_getElem? (i := 0) rfl
theorem te_X11_about : Cond.selects RX11 yX11_about yX11_about ∈ wT := List.mem_of_getElem? (i := 1) rfl
theorem ti_X11_apply : Cond.instanceMethod yX11_apply ∈ wT := List.mem_of_getElem? (i := 2) rfl
theorem te_X11_apply : Cond.selects RX11 yX11_apply yX11_apply ∈ wT := List.mem_of_getElem? (i := 3) rfl
theorem ti_X11_at : Cond.instanceMethod yX11_at ∈ wT := List.mem_of_getElem? (i := 4) rfl
theorem te_X11_at : Cond.selects RX11 yX11_at yX11_at ∈ wT := List.mem_of_getElem? (i := 5) rfl
theorem ti_X11_beside : Cond.instanceMethod yX11_beside ∈ wT := List.mem_of_getElem? (i := 6) rfl
theorem te_X11_beside : Cond.selects RX11 yX11_beside yX11_beside ∈ wT := List.mem_of_getElem? (i := 7) rfl
theorem ti_X11_between : Cond.instanceMethod yX11_between ∈ wT := List.mem_of_getElem? (i := 8) rfl
theorem te_X11_between : Cond.selects RX11 yX11_between yX11_between ∈ wT := List.mem_of_getElem? (i := 9) rfl
theorem ti_X11_coefficient : Cond.instanceMethod yX11_coefficient ∈ wT := List.mem_of_getElem? (i := 10) rfl
theorem te_X11_coefficient : Cond.selects RX11 yX11_coefficient yX11_coefficient ∈ wT := List.mem_of_getElem? (i := 11) rfl
theorem ti_X11_common : Cond.instanceMethod yX11_common ∈ wT := List.mem_of_getElem? (i := 12) rfl
theorem te_X11_common : Cond.selects RX11 yX11_common yX11_common ∈ wT := List.mem_of_getElem? (i := 13) rfl
theorem ti_X11_compare : Cond.instanceMethod yX11_compare ∈ wT := List.mem_of_getElem? (i := 14) rfl
theorem te_X11_compare : Cond.selects RX11 yX11_compare yX11_compare ∈ wT := List.mem_of_getElem? (i := 15) rfl
theorem ti_X11_drop : Cond.instanceMethod yX11_drop ∈ wT := List.mem_of_getElem? (i := 16) rfl
theorem te_X11_drop : Cond.selects RX11 yX11_drop yX11_drop ∈ wT := List.mem_of_getElem? (i := 17) rfl
theorem ti_X11_end : Cond.instanceMethod yX11_end ∈ wT := List.mem_of_getElem? (i := 18) rfl
theorem te_X11_end : Cond.selects RX11 yX11_end yX11_end ∈ wT := List.mem_of_getElem? (i := 19) rfl
theorem ti_X11_feed : Cond.instanceMethod yX11_feed ∈ wT := List.mem_of_getElem? (i := 20) rfl
theorem te_X11_feed : Cond.selects RX11 yX11_feed yX11_feed ∈ wT := List.mem_of_getElem? (i := 21) rfl
theorem ti_X11_fraction : Cond.instanceMethod yX11_fraction ∈ wT := List.mem_of_getElem? (i := 22) rfl
theorem te_X11_fraction : Cond.selects RX11 yX11_fraction yX11_fraction ∈ wT := List.mem_of_getElem? (i := 23) rfl
theorem ti_X11_part : Cond.instanceMethod yX11_part ∈ wT := List.mem_of_getElem? (i := 24) rfl
theorem te_X11_part : Cond.selects RX11 yX11_part yX11_part ∈ wT := List.mem_of_getElem? (i := 25) rfl
theorem ti_X11_parts : Cond.instanceMethod yX11_parts ∈ wT := List.mem_of_getElem? (i := 26) rfl
theorem te_X11_parts : Cond.selects RX11 yX11_parts yX11_parts ∈ wT := List.mem_of_getElem? (i := 27) rfl
theorem ti_X11_plain : Cond.instanceMethod yX11_plain ∈ wT := List.mem_of_getElem? (i := 28) rfl
theorem te_X11_plain : Cond.selects RX11 yX11_plain yX11_plain ∈ wT := List.mem_of_getElem? (i := 29) rfl
theorem ti_X11_polynomial : Cond.instanceMethod yX11_polynomial ∈ wT := List.mem_of_getElem? (i := 30) rfl
theorem te_X11_polynomial : Cond.selects RX11 yX11_polynomial yX11_polynomial ∈ wT := List.mem_of_getElem? (i := 31) rfl
theorem ti_X11_power : Cond.instanceMethod yX11_power ∈ wT := List.mem_of_getElem? (i := 32) rfl
theorem te_X11_power : Cond.selects RX11 yX11_power yX11_power ∈ wT := List.mem_of_getElem? (i := 33) rfl
theorem ti_X11_read : Cond.instanceMethod yX11_read ∈ wT := List.mem_of_getElem? (i := 34) rfl
theorem te_X11_read : Cond.selects RX11 yX11_read yX11_read ∈ wT := List.mem_of_getElem? (i := 35) rfl
theorem ti_X11_root : Cond.instanceMethod yX11_root ∈ wT := List.mem_of_getElem? (i := 36) rfl
theorem te_X11_root : Cond.selects RX11 yX11_root yX11_root ∈ wT := List.mem_of_getElem? (i := 37) rfl
theorem ti_X11_rootOf : Cond.instanceMethod yX11_rootOf ∈ wT := List.mem_of_getElem? (i := 38) rfl
theorem te_X11_rootOf : Cond.selects RX11 yX11_rootOf yX11_rootOf ∈ wT := List.mem_of_getElem? (i := 39) rfl
theorem ti_X11_roots : Cond.instanceMethod yX11_roots ∈ wT := List.mem_of_getElem? (i := 40) rfl
theorem te_X11_roots : Cond.selects RX11 yX11_roots yX11_roots ∈ wT := List.mem_of_getElem? (i := 41) rfl
theorem ti_X11_sign : Cond.instanceMethod yX11_sign ∈ wT := List.mem_of_getElem? (i := 42) rfl
theorem te_X11_sign : Cond.selects RX11 yX11_sign yX11_sign ∈ wT := List.mem_of_getElem? (i := 43) rfl
theorem ti_X11_turn : Cond.instanceMethod yX11_turn ∈ wT := List.mem_of_getElem? (i := 44) rfl
theorem te_X11_turn : Cond.selects RX11 yX11_turn yX11_turn ∈ wT := List.mem_of_getElem? (i := 45) rfl
theorem ti_X11_value : Cond.instanceMethod yX11_value ∈ wT := List.mem_of_getElem? (i := 46) rfl
theorem te_X11_value : Cond.selects RX11 yX11_value yX11_value ∈ wT := List.mem_of_getElem? (i := 47) rfl
theorem ti_X11_within : Cond.instanceMethod yX11_within ∈ wT := List.mem_of_getElem? (i := 48) rfl
theorem te_X11_within : Cond.selects RX11 yX11_within yX11_within ∈ wT := List.mem_of_getElem? (i := 49) rfl
theorem ti_X11_write : Cond.instanceMethod yX11_write ∈ wT := List.mem_of_getElem? (i := 50) rfl
theorem te_X11_write : Cond.selects RX11 yX11_write yX11_write ∈ wT := List.mem_of_getElem? (i := 51) rfl
theorem ti_X11_writeLeast : Cond.instanceMethod yX11_writeLeast ∈ wT := List.mem_of_getElem? (i := 52) rfl
theorem te_X11_writeLeast : Cond.selects RX11 yX11_writeLeast yX11_writeLeast ∈ wT := List.mem_of_getElem? (i := 53) rfl
theorem ti_X11_writePart : Cond.instanceMethod yX11_writePart ∈ wT := List.mem_of_getElem? (i := 54) rfl
theorem te_X11_writePart : Cond.selects RX11 yX11_writePart yX11_writePart ∈ wT := List.mem_of_getElem? (i := 55) rfl
theorem ti_X12_fraction : Cond.instanceMethod yX12_fraction ∈ wT := List.mem_of_getElem? (i := 56) rfl
theorem te_X12_fraction : Cond.selects RX12 yX12_fraction yX12_fraction ∈ wT := List.mem_of_getElem? (i := 57) rfl
theorem ti_X12_thrown : Cond.instanceMethod yX12_thrown ∈ wT := List.mem_of_getElem? (i := 58) rfl
theorem te_X12_thrown : Cond.selects RX12 yX12_thrown yX12_thrown ∈ wT := List.mem_of_getElem? (i := 59) rfl
theorem ti_X12_apply : Cond.instanceMethod yX12_apply ∈ wT := List.mem_of_getElem? (i := 60) rfl
theorem te_X12_apply : Cond.selects RX12 yX12_apply yX12_apply ∈ wT := List.mem_of_getElem? (i := 61) rfl
theorem ti_X12_plain : Cond.instanceMethod yX12_plain ∈ wT := List.mem_of_getElem? (i := 62) rfl
theorem te_X12_plain : Cond.selects RX12 yX12_plain yX12_plain ∈ wT := List.mem_of_getElem? (i := 63) rfl
theorem ti_X12_power : Cond.instanceMethod yX12_power ∈ wT := List.mem_of_getElem? (i := 64) rfl
theorem te_X12_power : Cond.selects RX12 yX12_power yX12_power ∈ wT := List.mem_of_getElem? (i := 65) rfl
theorem ti_X12_root : Cond.instanceMethod yX12_root ∈ wT := List.mem_of_getElem? (i := 66) rfl
theorem te_X12_root : Cond.selects RX12 yX12_root yX12_root ∈ wT := List.mem_of_getElem? (i := 67) rfl
theorem ti_X12_turn : Cond.instanceMethod yX12_turn ∈ wT := List.mem_of_getElem? (i := 68) rfl
theorem te_X12_turn : Cond.selects RX12 yX12_turn yX12_turn ∈ wT := List.mem_of_getElem? (i := 69) rfl
theorem ti_X12_beside : Cond.instanceMethod yX12_beside ∈ wT := List.mem_of_getElem? (i := 70) rfl
theorem te_X12_beside : Cond.selects RX12 yX12_beside yX12_beside ∈ wT := List.mem_of_getElem? (i := 71) rfl
theorem ti_X12_value : Cond.instanceMethod yX12_value ∈ wT := List.mem_of_getElem? (i := 72) rfl
theorem te_X12_value : Cond.selects RX12 yX12_value yX12_value ∈ wT := List.mem_of_getElem? (i := 73) rfl
theorem ti_X12_rootOf : Cond.instanceMethod yX12_rootOf ∈ wT := List.mem_of_getElem? (i := 74) rfl
theorem te_X12_rootOf : Cond.selects RX12 yX12_rootOf yX12_rootOf ∈ wT := List.mem_of_getElem? (i := 75) rfl
theorem ti_X12_common : Cond.instanceMethod yX12_common ∈ wT := List.mem_of_getElem? (i := 76) rfl
theorem te_X12_common : Cond.selects RX12 yX12_common yX12_common ∈ wT := List.mem_of_getElem? (i := 77) rfl
theorem ti_X12_read : Cond.instanceMethod yX12_read ∈ wT := List.mem_of_getElem? (i := 78) rfl
theorem te_X12_read : Cond.selects RX12 yX12_read yX12_read ∈ wT := List.mem_of_getElem? (i := 79) rfl
theorem ti_X12_drop : Cond.instanceMethod yX12_drop ∈ wT := List.mem_of_getElem? (i := 80) rfl
theorem te_X12_drop : Cond.selects RX12 yX12_drop yX12_drop ∈ wT := List.mem_of_getElem? (i := 81) rfl
theorem ti_X12_compare : Cond.instanceMethod yX12_compare ∈ wT := List.mem_of_getElem? (i := 82) rfl
theorem te_X12_compare : Cond.selects RX12 yX12_compare yX12_compare ∈ wT := List.mem_of_getElem? (i := 83) rfl
theorem ti_X12_sign : Cond.instanceMethod yX12_sign ∈ wT := List.mem_of_getElem? (i := 84) rfl
theorem te_X12_sign : Cond.selects RX12 yX12_sign yX12_sign ∈ wT := List.mem_of_getElem? (i := 85) rfl
theorem ti_X12_about : Cond.instanceMethod yX12_about ∈ wT := List.mem_of_getElem? (i := 86) rfl
theorem te_X12_about : Cond.selects RX12 yX12_about yX12_about ∈ wT := List.mem_of_getElem? (i := 87) rfl
theorem ti_X12_within : Cond.instanceMethod yX12_within ∈ wT := List.mem_of_getElem? (i := 88) rfl
theorem te_X12_within : Cond.selects RX12 yX12_within yX12_within ∈ wT := List.mem_of_getElem? (i := 89) rfl
theorem ti_X12_polynomial : Cond.instanceMethod yX12_polynomial ∈ wT := List.mem_of_getElem? (i := 90) rfl
theorem te_X12_polynomial : Cond.selects RX12 yX12_polynomial yX12_polynomial ∈ wT := List.mem_of_getElem? (i := 91) rfl
theorem ti_X12_coefficient : Cond.instanceMethod yX12_coefficient ∈ wT := List.mem_of_getElem? (i := 92) rfl
theorem te_X12_coefficient : Cond.selects RX12 yX12_coefficient yX12_coefficient ∈ wT := List.mem_of_getElem? (i := 93) rfl
theorem ti_X12_roots : Cond.instanceMethod yX12_roots ∈ wT := List.mem_of_getElem? (i := 94) rfl
theorem te_X12_roots : Cond.selects RX12 yX12_roots yX12_roots ∈ wT := List.mem_of_getElem? (i := 95) rfl
theorem ti_X12_between : Cond.instanceMethod yX12_between ∈ wT := List.mem_of_getElem? (i := 96) rfl
theorem te_X12_between : Cond.selects RX12 yX12_between yX12_between ∈ wT := List.mem_of_getElem? (i := 97) rfl
theorem ti_X12_parts : Cond.instanceMethod yX12_parts ∈ wT := List.mem_of_getElem? (i := 98) rfl
theorem te_X12_parts : Cond.selects RX12 yX12_parts yX12_parts ∈ wT := List.mem_of_getElem? (i := 99) rfl
theorem ti_X12_part : Cond.instanceMethod yX12_part ∈ wT := List.mem_of_getElem? (i := 100) rfl
theorem te_X12_part : Cond.selects RX12 yX12_part yX12_part ∈ wT := List.mem_of_getElem? (i := 101) rfl
theorem ti_X12_write : Cond.instanceMethod yX12_write ∈ wT := List.mem_of_getElem? (i := 102) rfl
theorem te_X12_write : Cond.selects RX12 yX12_write yX12_write ∈ wT := List.mem_of_getElem? (i := 103) rfl
theorem ti_X12_writeLeast : Cond.instanceMethod yX12_writeLeast ∈ wT := List.mem_of_getElem? (i := 104) rfl
theorem te_X12_writeLeast : Cond.selects RX12 yX12_writeLeast yX12_writeLeast ∈ wT := List.mem_of_getElem? (i := 105) rfl
theorem ti_X12_writePart : Cond.instanceMethod yX12_writePart ∈ wT := List.mem_of_getElem? (i := 106) rfl
theorem te_X12_writePart : Cond.selects RX12 yX12_writePart yX12_writePart ∈ wT := List.mem_of_getElem? (i := 107) rfl
theorem ti_X12_at : Cond.instanceMethod yX12_at ∈ wT := List.mem_of_getElem? (i := 108) rfl
theorem te_X12_at : Cond.selects RX12 yX12_at yX12_at ∈ wT := List.mem_of_getElem? (i := 109) rfl
theorem ti_X12_feed : Cond.instanceMethod yX12_feed ∈ wT := List.mem_of_getElem? (i := 110) rfl
theorem te_X12_feed : Cond.selects RX12 yX12_feed yX12_feed ∈ wT := List.mem_of_getElem? (i := 111) rfl
theorem ti_X12_end : Cond.instanceMethod yX12_end ∈ wT := List.mem_of_getElem? (i := 112) rfl
theorem te_X12_end : Cond.selects RX12 yX12_end yX12_end ∈ wT := List.mem_of_getElem? (i := 113) rfl
