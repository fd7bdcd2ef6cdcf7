theorem mw_1321 : Cond.fieldLink RX5 42 "JamBridgeModel" "code" "I" ∈ WW := WT_in 1321 (by decide +kernel) (by decide +kernel)
theorem mw_1319 : Cond.fieldLink RX5 58 "JamBridgeModel" "isWithin" "Z" ∈ WW := WT_in 1319 (by decide +kernel) (by decide +kernel)
theorem mw_1318 : Cond.fieldLink RX5 61 "JamBridgeModel" "changes" "I" ∈ WW := WT_in 1318 (by decide +kernel) (by decide +kernel)
theorem mw_1312 : Cond.fieldLink RX5 13 "JamBridgeModel" "kept" "[I" ∈ WW := WT_in 1312 (by decide +kernel) (by decide +kernel)
theorem mw_1404 : Cond.methodLink RX5 64 yX5_copies ∈ WW := WT_in 1404 (by decide +kernel) (by decide +kernel)
theorem mw_1405 : Cond.static yX5_copies ∈ WW := WT_in 1405 (by decide +kernel) (by decide +kernel)
theorem mw_10 : Cond.initialized RX5 ∈ WW := WT_in 10 (by decide +kernel) (by decide +kernel)
theorem mw_1406 : Cond.code yX5_copies cX5_copies 5 none ∈ WW := WT_in 1406 (by decide +kernel) (by decide +kernel)
theorem mw_1320 : Cond.fieldLink RX5 45 "JamBridgeModel" "isDenied" "Z" ∈ WW := WT_in 1320 (by decide +kernel) (by decide +kernel)
theorem mw_1322 : Cond.fieldLink RX5 49 "JamBridgeModel" "why" "I" ∈ WW := WT_in 1322 (by decide +kernel) (by decide +kernel)
theorem mw_1323 : Cond.fieldLink RX5 52 "JamBridgeModel" "detail" "I" ∈ WW := WT_in 1323 (by decide +kernel) (by decide +kernel)
theorem mw_1324 : Cond.fieldLink RX5 55 "JamBridgeModel" "cause" "I" ∈ WW := WT_in 1324 (by decide +kernel) (by decide +kernel)
theorem mw_1311 : Cond.fieldLink RX5 7 "JamBridgeModel" "g" "[I" ∈ WW := WT_in 1311 (by decide +kernel) (by decide +kernel)
theorem mw_1389 : Cond.methodLink RX5 68 yX5_in ∈ WW := WT_in 1389 (by decide +kernel) (by decide +kernel)
theorem mw_1390 : Cond.static yX5_in ∈ WW := WT_in 1390 (by decide +kernel) (by decide +kernel)
theorem mw_1391 : Cond.code yX5_in cX5_in 3 (some .boolean) ∈ WW := WT_in 1391 (by decide +kernel) (by decide +kernel)
theorem mw_1423 : Cond.methodLink RX5 72 yX5_isSpan ∈ WW := WT_in 1423 (by decide +kernel) (by decide +kernel)
theorem mw_1425 : Cond.instanceMethod yX5_isSpan ∈ WW := WT_in 1425 (by decide +kernel) (by decide +kernel)
theorem ms_37 : Cond.selects RX5 yX5_isSpan yX5_isSpan ∈ WW := WS_in 37 (by decide +kernel) (by decide +kernel)
theorem mw_1426 : Cond.code yX5_isSpan cX5_isSpan 2 (some .boolean) ∈ WW := WT_in 1426 (by decide +kernel) (by decide +kernel)
theorem mw_1392 : Cond.methodLink RX5 76 yX5_fails ∈ WW := WT_in 1392 (by decide +kernel) (by decide +kernel)
theorem mw_1394 : Cond.instanceMethod yX5_fails ∈ WW := WT_in 1394 (by decide +kernel) (by decide +kernel)
theorem ms_32 : Cond.selects RX5 yX5_fails yX5_fails ∈ WW := WS_in 32 (by decide +kernel) (by decide +kernel)
theorem mw_1395 : Cond.code yX5_fails cX5_fails 2 (some .boolean) ∈ WW := WT_in 1395 (by decide +kernel) (by decide +kernel)
theorem mw_1415 : Cond.methodLink RX5 79 yX5_of ∈ WW := WT_in 1415 (by decide +kernel) (by decide +kernel)
theorem mw_1417 : Cond.instanceMethod yX5_of ∈ WW := WT_in 1417 (by decide +kernel) (by decide +kernel)
theorem ms_36 : Cond.selects RX5 yX5_of yX5_of ∈ WW := WS_in 36 (by decide +kernel) (by decide +kernel)
theorem mw_1418 : Cond.code yX5_of cX5_of 3 (some .int) ∈ WW := WT_in 1418 (by decide +kernel) (by decide +kernel)
theorem mw_1467 : Cond.methodLink RX5 83 yX5_least ∈ WW := WT_in 1467 (by decide +kernel) (by decide +kernel)
theorem mw_1468 : Cond.static yX5_least ∈ WW := WT_in 1468 (by decide +kernel) (by decide +kernel)
theorem mw_1469 : Cond.code yX5_least cX5_least 2 (some .int) ∈ WW := WT_in 1469 (by decide +kernel) (by decide +kernel)
theorem mw_1463 : Cond.methodLink RX5 86 yX5_bears ∈ WW := WT_in 1463 (by decide +kernel) (by decide +kernel)
theorem mw_1465 : Cond.instanceMethod yX5_bears ∈ WW := WT_in 1465 (by decide +kernel) (by decide +kernel)
theorem ms_40 : Cond.selects RX5 yX5_bears yX5_bears ∈ WW := WS_in 40 (by decide +kernel) (by decide +kernel)
theorem mw_1466 : Cond.code yX5_bears cX5_bears 3 (some .int) ∈ WW := WT_in 1466 (by decide +kernel) (by decide +kernel)
theorem mw_1478 : Cond.methodLink RX5 89 yX5_on ∈ WW := WT_in 1478 (by decide +kernel) (by decide +kernel)
theorem mw_1480 : Cond.instanceMethod yX5_on ∈ WW := WT_in 1480 (by decide +kernel) (by decide +kernel)
theorem ms_42 : Cond.selects RX5 yX5_on yX5_on ∈ WW := WS_in 42 (by decide +kernel) (by decide +kernel)
theorem mw_1481 : Cond.code yX5_on cX5_on 3 (some .int) ∈ WW := WT_in 1481 (by decide +kernel) (by decide +kernel)
theorem mw_1474 : Cond.methodLink RX5 92 yX5_loaded ∈ WW := WT_in 1474 (by decide +kernel) (by decide +kernel)
theorem mw_1476 : Cond.instanceMethod yX5_loaded ∈ WW := WT_in 1476 (by decide +kernel) (by decide +kernel)
theorem ms_41 : Cond.selects RX5 yX5_loaded yX5_loaded ∈ WW := WS_in 41 (by decide +kernel) (by decide +kernel)
theorem mw_1477 : Cond.code yX5_loaded cX5_loaded 4 (some .int) ∈ WW := WT_in 1477 (by decide +kernel) (by decide +kernel)
theorem mw_1459 : Cond.methodLink RX5 96 yX5_strong ∈ WW := WT_in 1459 (by decide +kernel) (by decide +kernel)
theorem mw_1461 : Cond.instanceMethod yX5_strong ∈ WW := WT_in 1461 (by decide +kernel) (by decide +kernel)
theorem ms_39 : Cond.selects RX5 yX5_strong yX5_strong ∈ WW := WS_in 39 (by decide +kernel) (by decide +kernel)
theorem mw_1462 : Cond.code yX5_strong cX5_strong 2 (some .int) ∈ WW := WT_in 1462 (by decide +kernel) (by decide +kernel)
theorem mw_1400 : Cond.methodLink RX5 103 yX5_keeps ∈ WW := WT_in 1400 (by decide +kernel) (by decide +kernel)
theorem mw_1402 : Cond.instanceMethod yX5_keeps ∈ WW := WT_in 1402 (by decide +kernel) (by decide +kernel)
theorem ms_34 : Cond.selects RX5 yX5_keeps yX5_keeps ∈ WW := WS_in 34 (by decide +kernel) (by decide +kernel)
theorem mw_1403 : Cond.code yX5_keeps cX5_keeps 3 none ∈ WW := WT_in 1403 (by decide +kernel) (by decide +kernel)
theorem mw_1407 : Cond.methodLink RX5 107 yX5_lays ∈ WW := WT_in 1407 (by decide +kernel) (by decide +kernel)
theorem mw_1409 : Cond.instanceMethod yX5_lays ∈ WW := WT_in 1409 (by decide +kernel) (by decide +kernel)
theorem ms_35 : Cond.selects RX5 yX5_lays yX5_lays ∈ WW := WS_in 35 (by decide +kernel) (by decide +kernel)
theorem mw_1410 : Cond.code yX5_lays cX5_lays 4 none ∈ WW := WT_in 1410 (by decide +kernel) (by decide +kernel)
theorem mw_1396 : Cond.methodLink RX5 99 yX5_denies ∈ WW := WT_in 1396 (by decide +kernel) (by decide +kernel)
theorem mw_1398 : Cond.instanceMethod yX5_denies ∈ WW := WT_in 1398 (by decide +kernel) (by decide +kernel)
theorem ms_33 : Cond.selects RX5 yX5_denies yX5_denies ∈ WW := WS_in 33 (by decide +kernel) (by decide +kernel)
theorem mw_1399 : Cond.code yX5_denies cX5_denies 4 (some .int) ∈ WW := WT_in 1399 (by decide +kernel) (by decide +kernel)
theorem mw_1439 : Cond.methodLink RX5 111 yX5_isNone ∈ WW := WT_in 1439 (by decide +kernel) (by decide +kernel)
theorem mw_1441 : Cond.instanceMethod yX5_isNone ∈ WW := WT_in 1441 (by decide +kernel) (by decide +kernel)
theorem ms_38 : Cond.selects RX5 yX5_isNone yX5_isNone ∈ WW := WS_in 38 (by decide +kernel) (by decide +kernel)
theorem mw_1442 : Cond.code yX5_isNone cX5_isNone 2 (some .boolean) ∈ WW := WT_in 1442 (by decide +kernel) (by decide +kernel)
theorem mw_1486 : Cond.methodLink RX5 114 yX5_strains ∈ WW := WT_in 1486 (by decide +kernel) (by decide +kernel)
theorem mw_1488 : Cond.instanceMethod yX5_strains ∈ WW := WT_in 1488 (by decide +kernel) (by decide +kernel)
theorem ms_43 : Cond.selects RX5 yX5_strains yX5_strains ∈ WW := WS_in 43 (by decide +kernel) (by decide +kernel)
theorem mw_1489 : Cond.code yX5_strains cX5_strains 2 (some .boolean) ∈ WW := WT_in 1489 (by decide +kernel) (by decide +kernel)
theorem mw_1498 : Cond.methodLink RX5 117 yX5_hoursTo ∈ WW := WT_in 1498 (by decide +kernel) (by decide +kernel)
theorem mw_1500 : Cond.instanceMethod yX5_hoursTo ∈ WW := WT_in 1500 (by decide +kernel) (by decide +kernel)
theorem ms_45 : Cond.selects RX5 yX5_hoursTo yX5_hoursTo ∈ WW := WS_in 45 (by decide +kernel) (by decide +kernel)
theorem mw_1501 : Cond.code yX5_hoursTo cX5_hoursTo 5 (some .int) ∈ WW := WT_in 1501 (by decide +kernel) (by decide +kernel)
theorem mw_1494 : Cond.methodLink RX5 120 yX5_hoursAsked ∈ WW := WT_in 1494 (by decide +kernel) (by decide +kernel)
theorem mw_1496 : Cond.instanceMethod yX5_hoursAsked ∈ WW := WT_in 1496 (by decide +kernel) (by decide +kernel)
theorem ms_44 : Cond.selects RX5 yX5_hoursAsked yX5_hoursAsked ∈ WW := WS_in 44 (by decide +kernel) (by decide +kernel)
theorem mw_1497 : Cond.code yX5_hoursAsked cX5_hoursAsked 3 (some .int) ∈ WW := WT_in 1497 (by decide +kernel) (by decide +kernel)
theorem mw_1510 : Cond.methodLink RX5 123 yX5_isAhead ∈ WW := WT_in 1510 (by decide +kernel) (by decide +kernel)
theorem mw_1512 : Cond.instanceMethod yX5_isAhead ∈ WW := WT_in 1512 (by decide +kernel) (by decide +kernel)
theorem ms_46 : Cond.selects RX5 yX5_isAhead yX5_isAhead ∈ WW := WS_in 46 (by decide +kernel) (by decide +kernel)
theorem mw_1513 : Cond.code yX5_isAhead cX5_isAhead 3 (some .boolean) ∈ WW := WT_in 1513 (by decide +kernel) (by decide +kernel)
theorem mw_1578 : Cond.methodLink RX5 127 yX5_placeOf ∈ WW := WT_in 1578 (by decide +kernel) (by decide +kernel)
theorem mw_1580 : Cond.instanceMethod yX5_placeOf ∈ WW := WT_in 1580 (by decide +kernel) (by decide +kernel)
theorem ms_57 : Cond.selects RX5 yX5_placeOf yX5_placeOf ∈ WW := WS_in 57 (by decide +kernel) (by decide +kernel)
theorem mw_1581 : Cond.code yX5_placeOf cX5_placeOf 3 (some .int) ∈ WW := WT_in 1581 (by decide +kernel) (by decide +kernel)
theorem mw_1538 : Cond.methodLink RX5 140 yX5_isBehind ∈ WW := WT_in 1538 (by decide +kernel) (by decide +kernel)
theorem mw_1540 : Cond.instanceMethod yX5_isBehind ∈ WW := WT_in 1540 (by decide +kernel) (by decide +kernel)
theorem ms_51 : Cond.selects RX5 yX5_isBehind yX5_isBehind ∈ WW := WS_in 51 (by decide +kernel) (by decide +kernel)
theorem mw_1541 : Cond.code yX5_isBehind cX5_isBehind 3 (some .boolean) ∈ WW := WT_in 1541 (by decide +kernel) (by decide +kernel)
theorem mw_1530 : Cond.methodLink RX5 130 yX5_toll ∈ WW := WT_in 1530 (by decide +kernel) (by decide +kernel)
theorem mw_1532 : Cond.instanceMethod yX5_toll ∈ WW := WT_in 1532 (by decide +kernel) (by decide +kernel)
theorem ms_49 : Cond.selects RX5 yX5_toll yX5_toll ∈ WW := WS_in 49 (by decide +kernel) (by decide +kernel)
theorem mw_1533 : Cond.code yX5_toll cX5_toll 2 (some .int) ∈ WW := WT_in 1533 (by decide +kernel) (by decide +kernel)
theorem mw_1330 : Cond.fieldLink RX5 133 "JamBridgeModel" "lastOver" "I" ∈ WW := WT_in 1330 (by decide +kernel) (by decide +kernel)
theorem mw_1534 : Cond.methodLink RX5 136 yX5_drops ∈ WW := WT_in 1534 (by decide +kernel) (by decide +kernel)
theorem mw_1536 : Cond.instanceMethod yX5_drops ∈ WW := WT_in 1536 (by decide +kernel) (by decide +kernel)
theorem ms_50 : Cond.selects RX5 yX5_drops yX5_drops ∈ WW := WS_in 50 (by decide +kernel) (by decide +kernel)
theorem mw_1537 : Cond.code yX5_drops cX5_drops 3 none ∈ WW := WT_in 1537 (by decide +kernel) (by decide +kernel)
theorem mw_1316 : Cond.fieldLink RX5 25 "JamBridgeModel" "counted" "[I" ∈ WW := WT_in 1316 (by decide +kernel) (by decide +kernel)
theorem mw_1550 : Cond.methodLink RX5 143 yX5_isInfected ∈ WW := WT_in 1550 (by decide +kernel) (by decide +kernel)
theorem mw_1552 : Cond.instanceMethod yX5_isInfected ∈ WW := WT_in 1552 (by decide +kernel) (by decide +kernel)
theorem ms_54 : Cond.selects RX5 yX5_isInfected yX5_isInfected ∈ WW := WS_in 54 (by decide +kernel) (by decide +kernel)
theorem mw_1553 : Cond.code yX5_isInfected cX5_isInfected 3 (some .boolean) ∈ WW := WT_in 1553 (by decide +kernel) (by decide +kernel)
theorem mw_1526 : Cond.methodLink RX5 146 yX5_drives ∈ WW := WT_in 1526 (by decide +kernel) (by decide +kernel)
theorem mw_1528 : Cond.instanceMethod yX5_drives ∈ WW := WT_in 1528 (by decide +kernel) (by decide +kernel)
theorem ms_48 : Cond.selects RX5 yX5_drives yX5_drives ∈ WW := WS_in 48 (by decide +kernel) (by decide +kernel)
theorem mw_1529 : Cond.code yX5_drives cX5_drives 5 (some .int) ∈ WW := WT_in 1529 (by decide +kernel) (by decide +kernel)
theorem mw_1554 : Cond.methodLink RX5 156 yX5_sinks ∈ WW := WT_in 1554 (by decide +kernel) (by decide +kernel)
theorem mw_1556 : Cond.instanceMethod yX5_sinks ∈ WW := WT_in 1556 (by decide +kernel) (by decide +kernel)
theorem ms_55 : Cond.selects RX5 yX5_sinks yX5_sinks ∈ WW := WS_in 55 (by decide +kernel) (by decide +kernel)
theorem mw_1557 : Cond.code yX5_sinks cX5_sinks 3 none ∈ WW := WT_in 1557 (by decide +kernel) (by decide +kernel)
theorem mw_1546 : Cond.methodLink RX5 153 yX5_spreads ∈ WW := WT_in 1546 (by decide +kernel) (by decide +kernel)
theorem mw_1548 : Cond.instanceMethod yX5_spreads ∈ WW := WT_in 1548 (by decide +kernel) (by decide +kernel)
theorem ms_53 : Cond.selects RX5 yX5_spreads yX5_spreads ∈ WW := WS_in 53 (by decide +kernel) (by decide +kernel)
theorem mw_1549 : Cond.code yX5_spreads cX5_spreads 2 none ∈ WW := WT_in 1549 (by decide +kernel) (by decide +kernel)
theorem mw_1542 : Cond.methodLink RX5 150 yX5_stresses ∈ WW := WT_in 1542 (by decide +kernel) (by decide +kernel)
theorem mw_1544 : Cond.instanceMethod yX5_stresses ∈ WW := WT_in 1544 (by decide +kernel) (by decide +kernel)
theorem ms_52 : Cond.selects RX5 yX5_stresses yX5_stresses ∈ WW := WS_in 52 (by decide +kernel) (by decide +kernel)
theorem mw_1545 : Cond.code yX5_stresses cX5_stresses 3 none ∈ WW := WT_in 1545 (by decide +kernel) (by decide +kernel)
theorem mw_1522 : Cond.methodLink RX5 159 yX5_goes ∈ WW := WT_in 1522 (by decide +kernel) (by decide +kernel)
theorem mw_1524 : Cond.instanceMethod yX5_goes ∈ WW := WT_in 1524 (by decide +kernel) (by decide +kernel)
theorem ms_47 : Cond.selects RX5 yX5_goes yX5_goes ∈ WW := WS_in 47 (by decide +kernel) (by decide +kernel)
theorem mw_1525 : Cond.code yX5_goes cX5_goes 3 (some .int) ∈ WW := WT_in 1525 (by decide +kernel) (by decide +kernel)
theorem mw_1574 : Cond.methodLink RX5 162 yX5_isGone ∈ WW := WT_in 1574 (by decide +kernel) (by decide +kernel)
theorem mw_1576 : Cond.instanceMethod yX5_isGone ∈ WW := WT_in 1576 (by decide +kernel) (by decide +kernel)
theorem ms_56 : Cond.selects RX5 yX5_isGone yX5_isGone ∈ WW := WS_in 56 (by decide +kernel) (by decide +kernel)
theorem mw_1577 : Cond.code yX5_isGone cX5_isGone 2 (some .boolean) ∈ WW := WT_in 1577 (by decide +kernel) (by decide +kernel)
theorem mw_1315 : Cond.fieldLink RX5 22 "JamBridgeModel" "trial" "[I" ∈ WW := WT_in 1315 (by decide +kernel) (by decide +kernel)
theorem mw_1594 : Cond.methodLink RX5 165 yX5_hoursOver ∈ WW := WT_in 1594 (by decide +kernel) (by decide +kernel)
theorem mw_1596 : Cond.instanceMethod yX5_hoursOver ∈ WW := WT_in 1596 (by decide +kernel) (by decide +kernel)
theorem ms_58 : Cond.selects RX5 yX5_hoursOver yX5_hoursOver ∈ WW := WS_in 58 (by decide +kernel) (by decide +kernel)
theorem mw_1597 : Cond.code yX5_hoursOver cX5_hoursOver 4 (some .int) ∈ WW := WT_in 1597 (by decide +kernel) (by decide +kernel)
theorem mw_1602 : Cond.methodLink RX5 168 yX5_sum ∈ WW := WT_in 1602 (by decide +kernel) (by decide +kernel)
theorem mw_1604 : Cond.instanceMethod yX5_sum ∈ WW := WT_in 1604 (by decide +kernel) (by decide +kernel)
theorem ms_59 : Cond.selects RX5 yX5_sum yX5_sum ∈ WW := WS_in 59 (by decide +kernel) (by decide +kernel)
theorem mw_1605 : Cond.code yX5_sum cX5_sum 3 (some .int) ∈ WW := WT_in 1605 (by decide +kernel) (by decide +kernel)
theorem mw_1326 : Cond.fieldLink RX5 171 "JamBridgeModel" "length" "I" ∈ WW := WT_in 1326 (by decide +kernel) (by decide +kernel)
theorem mw_1325 : Cond.fieldLink RX5 28 "JamBridgeModel" "input" "[I" ∈ WW := WT_in 1325 (by decide +kernel) (by decide +kernel)
theorem mw_1331 : Cond.fieldLink RX5 174 "JamBridgeModel" "at" "I" ∈ WW := WT_in 1331 (by decide +kernel) (by decide +kernel)
theorem mw_1662 : Cond.methodLink RX5 177 yX5_here ∈ WW := WT_in 1662 (by decide +kernel) (by decide +kernel)
theorem mw_1664 : Cond.instanceMethod yX5_here ∈ WW := WT_in 1664 (by decide +kernel) (by decide +kernel)
theorem ms_62 : Cond.selects RX5 yX5_here yX5_here ∈ WW := WS_in 62 (by decide +kernel) (by decide +kernel)
theorem mw_1665 : Cond.code yX5_here cX5_here 1 (some .int) ∈ WW := WT_in 1665 (by decide +kernel) (by decide +kernel)
theorem mw_1673 : Cond.methodLink RX5 191 yX5_skips ∈ WW := WT_in 1673 (by decide +kernel) (by decide +kernel)
theorem mw_1675 : Cond.instanceMethod yX5_skips ∈ WW := WT_in 1675 (by decide +kernel) (by decide +kernel)
theorem ms_64 : Cond.selects RX5 yX5_skips yX5_skips ∈ WW := WS_in 64 (by decide +kernel) (by decide +kernel)
theorem mw_1676 : Cond.code yX5_skips cX5_skips 2 (some .boolean) ∈ WW := WT_in 1676 (by decide +kernel) (by decide +kernel)
theorem mw_1332 : Cond.fieldLink RX5 39 "JamBridgeModel" "told" "[I" ∈ WW := WT_in 1332 (by decide +kernel) (by decide +kernel)
theorem mw_1693 : Cond.methodLink RX5 224 yX5_enter ∈ WW := WT_in 1693 (by decide +kernel) (by decide +kernel)
theorem mw_1515 : Cond.instanceMethod yX5_enter ∈ WW := WT_in 1515 (by decide +kernel) (by decide +kernel)
theorem mw_1516 : Cond.selects RX5 yX5_enter yX5_enter ∈ WW := WT_in 1516 (by decide +kernel) (by decide +kernel)
theorem mw_1517 : Cond.code yX5_enter cX5_enter 4 (some .int) ∈ WW := WT_in 1517 (by decide +kernel) (by decide +kernel)
theorem mw_1694 : Cond.methodLink RX5 226 yX5_mend ∈ WW := WT_in 1694 (by decide +kernel) (by decide +kernel)
theorem mw_1428 : Cond.instanceMethod yX5_mend ∈ WW := WT_in 1428 (by decide +kernel) (by decide +kernel)
theorem mw_1429 : Cond.selects RX5 yX5_mend yX5_mend ∈ WW := WT_in 1429 (by decide +kernel) (by decide +kernel)
theorem mw_1430 : Cond.code yX5_mend cX5_mend 3 (some .int) ∈ WW := WT_in 1430 (by decide +kernel) (by decide +kernel)
theorem mw_1692 : Cond.methodLink RX5 222 yX5_pour ∈ WW := WT_in 1692 (by decide +kernel) (by decide +kernel)
theorem mw_1420 : Cond.instanceMethod yX5_pour ∈ WW := WT_in 1420 (by decide +kernel) (by decide +kernel)
theorem mw_1421 : Cond.selects RX5 yX5_pour yX5_pour ∈ WW := WT_in 1421 (by decide +kernel) (by decide +kernel)
theorem mw_1422 : Cond.code yX5_pour cX5_pour 4 (some .int) ∈ WW := WT_in 1422 (by decide +kernel) (by decide +kernel)
theorem mw_1695 : Cond.methodLink RX5 228 yX5_setRate ∈ WW := WT_in 1695 (by decide +kernel) (by decide +kernel)
theorem mw_1559 : Cond.instanceMethod yX5_setRate ∈ WW := WT_in 1559 (by decide +kernel) (by decide +kernel)
theorem mw_1560 : Cond.selects RX5 yX5_setRate yX5_setRate ∈ WW := WT_in 1560 (by decide +kernel) (by decide +kernel)
theorem mw_1561 : Cond.code yX5_setRate cX5_setRate 3 (some .int) ∈ WW := WT_in 1561 (by decide +kernel) (by decide +kernel)
theorem mw_1691 : Cond.methodLink RX5 219 yX5_addSpan ∈ WW := WT_in 1691 (by decide +kernel) (by decide +kernel)
theorem mw_1386 : Cond.instanceMethod yX5_addSpan ∈ WW := WT_in 1386 (by decide +kernel) (by decide +kernel)
theorem mw_1387 : Cond.selects RX5 yX5_addSpan yX5_addSpan ∈ WW := WT_in 1387 (by decide +kernel) (by decide +kernel)
theorem mw_1388 : Cond.code yX5_addSpan cX5_addSpan 4 (some .int) ∈ WW := WT_in 1388 (by decide +kernel) (by decide +kernel)
theorem mw_1696 : Cond.methodLink RX5 231 yX5_pass ∈ WW := WT_in 1696 (by decide +kernel) (by decide +kernel)
theorem mw_1519 : Cond.instanceMethod yX5_pass ∈ WW := WT_in 1519 (by decide +kernel) (by decide +kernel)
theorem mw_1520 : Cond.selects RX5 yX5_pass yX5_pass ∈ WW := WT_in 1520 (by decide +kernel) (by decide +kernel)
theorem mw_1521 : Cond.code yX5_pass cX5_pass 4 (some .int) ∈ WW := WT_in 1521 (by decide +kernel) (by decide +kernel)
theorem mw_1697 : Cond.methodLink RX5 234 yX5_removeLastSpan ∈ WW := WT_in 1697 (by decide +kernel) (by decide +kernel)
theorem mw_1412 : Cond.instanceMethod yX5_removeLastSpan ∈ WW := WT_in 1412 (by decide +kernel) (by decide +kernel)
theorem mw_1413 : Cond.selects RX5 yX5_removeLastSpan yX5_removeLastSpan ∈ WW := WT_in 1413 (by decide +kernel) (by decide +kernel)
theorem mw_1414 : Cond.code yX5_removeLastSpan cX5_removeLastSpan 3 (some .int) ∈ WW := WT_in 1414 (by decide +kernel) (by decide +kernel)
theorem mw_1327 : Cond.fieldLink RX5 31 "JamBridgeModel" "fault" "I" ∈ WW := WT_in 1327 (by decide +kernel) (by decide +kernel)
theorem mw_1328 : Cond.fieldLink RX5 35 "JamBridgeModel" "signs" "[C" ∈ WW := WT_in 1328 (by decide +kernel) (by decide +kernel)
theorem mw_1329 : Cond.fieldLink RX5 246 "JamBridgeModel" "signMany" "I" ∈ WW := WT_in 1329 (by decide +kernel) (by decide +kernel)
theorem mw_1317 : Cond.fieldLink RX5 259 "JamBridgeModel" "isSaved" "Z" ∈ WW := WT_in 1317 (by decide +kernel) (by decide +kernel)
theorem mw_1313 : Cond.fieldLink RX5 16 "JamBridgeModel" "saved" "[I" ∈ WW := WT_in 1313 (by decide +kernel) (by decide +kernel)
def F_X5_copies_L3 (n1 : Nat) (n2 : Nat) (f : Av) (y1 : Int32) (y3 : Int32) (k : Av → Int32 → Option (Av)) : Nat → Av → Int32 → Option (Av)
  | 0, _, _ => none
  | n + 1, b1, x4 => if 83 ≤ x4 then k b1 x4 else ck (inb (y1 + x4) n1) (ck (inb (y3 + x4) n2) (F_X5_copies_L3 n1 n2 f y1 y3 k n (upd b1 (y3 + x4).toNatClampNeg (f (y1 + x4).toNatClampNeg)) (x4 + 1)))
def F_X5_copies (n1 : Nat) (n2 : Nat) (f : Av) (t : Av) (p1 : Int32) (p3 : Int32) : Option (Av) := F_X5_copies_L3 n1 n2 f p1 p3 (fun b1 x2 => some b1) 1000 t 0
set_option maxHeartbeats 4000000 in
set_option maxRecDepth 100000 in
theorem c_X5_copies (g : GG) (l : Launch) (a1 : Nat → Nat) (n1 : Nat) (a2 : Nat → Nat) (n2 : Nat) (f : Av) (t : Av) (p1 : Int32) (p3 : Int32) (z : Av) (hF : F_X5_copies n1 n2 f t p1 p3 = some z) : MV g l yX5_copies cX5_copies 5 none ({ frames := 0, cells := 0, slots := 0, locals := 0 } : Room) [.ref (a1 0), .int p1, .ref (a2 0), .int p3] [[(a1 0, .inl (g.2.1 0, n1, .inl f))], [(a2 0, .inl (g.2.1 0, n2, .inl t))]] 0 0 [[(a1 0, .inl (g.2.1 0, n1, .inl f))], [(a2 0, .inl (g.2.1 0, n2, .inl z))]] := by
  refine MV.bg (by decide) (Nat.le_of_ble_eq_true rfl) ?_
  intro p e s m below meth c A Q hQ hx hb hr hml hown hts hlocks hmn hK hE hA hP hD hS ls hl
  rw [F_X5_copies] at hF
  have hl : lv_has ls 5 [(0, .ref (a1 0)), (1, .int p1), (2, .ref (a2 0)), (3, .int p3)] := hl
  refine lv_iconst (v := 0) hx hb dX5_copies_0 (by decide) ?_
  refine lv_istore (lv' := [(4, .int 0), (0, .ref (a1 0)), (1, .int p1), (2, .ref (a2 0)), (3, .int p3)]) hx hb dX5_copies_1 hl (by decide) rfl (fun ls hl => ?_)
  obtain ⟨k2, ek2, hF⟩ := ob_k (F := fun k9 => F_X5_copies_L3 n1 n2 f p1 p3 k9 1000 t 0) hF
  have loop2 : ∀ (n9 : Nat) (b1 : Av) (x2 : Int32), F_X5_copies_L3 n1 n2 f p1 p3 k2 n9 b1 x2 = some z → ∀ (H : Heap) (locs : List Loc), va_P g.1 vwCl ([[(a1 0, .inl (g.2.1 0, n1, .inl f))], [(a2 0, .inl (g.2.1 0, n2, .inl b1))]] : List va_W).flatten H → va_D A ([[(a1 0, .inl (g.2.1 0, n1, .inl f))], [(a2 0, .inl (g.2.1 0, n2, .inl b1))]] : List va_W).flatten → va_S A s.heap H locs → ∀ ls : Array Slot, lv_has ls 5 [(0, .ref (a1 0)), (1, .int p1), (2, .ref (a2 0)), (3, .int p3), (4, .int x2)] → W p l e ({ frames := 0, cells := 0, slots := 0, locals := 0 } : Room) s m ([.ref (a1 0), .int p1, .ref (a2 0), .int p3] : List Value).toArray below meth c H locs 0 0 Q (F0 m 3 ls []) := by
    intro n9
    induction n9 with
    | zero => intro b1 x2 hF; rw [F_X5_copies_L3] at hF; cases hF
    | succ n9 ih2 =>
      intro b1 x2 hF H locs hP hD hS ls hl
      rw [F_X5_copies_L3] at hF
      refine lv_iload hx hb dX5_copies_3 (lv_at hl 4 rfl) ?_
      refine lv_bipush (v := 83) hx hb dX5_copies_5 (by decide) ?_
      refine lv_icmp_ge (tgt := 28) hx hb dX5_copies_7 (by decide) (fun c3 => ?_) (fun c3 => ?_)
      · have hF := ob_pos c3 hF
        rw [ek2] at hF
        cases hF
        rw [hQ]
        exact jb_vret hx hb hr hlocks hP hD hS dX5_copies_28 (Nat.le_of_ble_eq_true rfl) (Nat.le_of_ble_eq_true rfl)
      · have hF := ob_neg c3 hF
        refine lv_aload_n hx hb dX5_copies_10 rfl (lv_at hl 2 rfl) ?_
        refine lv_iload_n hx hb dX5_copies_11 rfl (lv_at hl 3 rfl) ?_
        refine lv_iload hx hb dX5_copies_12 (lv_at hl 4 rfl) ?_
        refine lv_iadd hx hb dX5_copies_14 ?_
        refine lv_aload_n hx hb dX5_copies_15 rfl (lv_at hl 0 rfl) ?_
        refine lv_iload_n hx hb dX5_copies_16 rfl (lv_at hl 1 rfl) ?_
        refine lv_iload hx hb dX5_copies_17 (lv_at hl 4 rfl) ?_
        refine lv_iadd hx hb dX5_copies_19 ?_
        have h4 := inb_in (ck_t hF)
        have hF := ck_s hF
        refine va_iald hx hb hK hP 0 0 rfl rfl h4 dX5_copies_20 ?_
        have h5 := inb_in (ck_t hF)
        have hF := ck_s hF
        refine va_iast hx hb hK hP hD hS 1 0 rfl rfl h5 dX5_copies_21 (fun H locs hP hD hS => ?_)
        have hP : va_P g.1 vwCl ([[(a1 0, .inl (g.2.1 0, n1, .inl f))], [(a2 0, .inl (g.2.1 0, n2, .inl (upd b1 (p3 + x2).toNatClampNeg (f (p1 + x2).toNatClampNeg))))]] : List va_W).flatten _ := hP
        have hD : va_D A ([[(a1 0, .inl (g.2.1 0, n1, .inl f))], [(a2 0, .inl (g.2.1 0, n2, .inl (upd b1 (p3 + x2).toNatClampNeg (f (p1 + x2).toNatClampNeg))))]] : List va_W).flatten := hD
        refine lv_iinc (v := x2 + 1) (lv' := [(4, .int (x2 + 1)), (0, .ref (a1 0)), (1, .int p1), (2, .ref (a2 0)), (3, .int p3)]) hx hb dX5_copies_22 hl (k := 4) rfl (by rfl) (by decide) rfl (fun ls hl => ?_)
        refine lv_goto (tgt := 3) hx hb dX5_copies_25 (by decide) ?_
        exact ih2 _ _ hF _ _ hP hD hS ls (lv_sub hl [1, 2, 3, 4, 0] rfl)
  exact loop2 1000 _ _ hF _ _ hP hD hS ls (lv_sub hl [1, 2, 3, 4, 0] rfl)
def F_X5_in (p0 : Int32) (p1 : Int32) (p2 : Int32) : Option (Bool) := if p0 < p1 then some false else if p2 < p0 then some false else some true
set_option maxHeartbeats 4000000 in
set_option maxRecDepth 100000 in
theorem c_X5_in (g : GG) (l : Launch)  (p0 : Int32) (p1 : Int32) (p2 : Int32) (z : Bool) (hF : F_X5_in p0 p1 p2 = some z) : MI g l yX5_in cX5_in 3 (some .boolean) ({ frames := 0, cells := 0, slots := 0, locals := 0 } : Room) [.int p0, .int p1, .int p2] [] 0 0 (bi z) [] := by
  refine MI.bg (by decide) (Nat.le_of_ble_eq_true rfl) ?_
  intro p e s m below meth c A Q hQ hx hb hr hml hown hts hlocks hmn hK hE hA hP hD hS ls hl
  rw [F_X5_in] at hF
  have hl : lv_has ls 3 [(0, .int p0), (1, .int p1), (2, .int p2)] := hl
  refine lv_iload_n hx hb dX5_in_0 rfl (lv_at hl 0 rfl) ?_
  refine lv_iload_n hx hb dX5_in_1 rfl (lv_at hl 1 rfl) ?_
  refine lv_icmp_lt (tgt := 14) hx hb dX5_in_2 (by decide) (fun c1 => ?_) (fun c1 => ?_)
  · have hF := ob_pos c1 hF
    refine lv_iconst (v := 0) hx hb dX5_in_14 (by decide) ?_
    cases hF
    rw [hQ]
    exact jb_zret hx hb hr rfl hlocks hP hD hS dX5_in_15 rfl (Nat.le_of_ble_eq_true rfl) (Nat.le_of_ble_eq_true rfl)
  · have hF := ob_neg c1 hF
    refine lv_iload_n hx hb dX5_in_5 rfl (lv_at hl 0 rfl) ?_
    refine lv_iload_n hx hb dX5_in_6 rfl (lv_at hl 2 rfl) ?_
    refine lv_icmp_gt (tgt := 14) hx hb dX5_in_7 (by decide) (fun c2 => ?_) (fun c2 => ?_)
    · have hF := ob_pos c2 hF
      refine lv_iconst (v := 0) hx hb dX5_in_14 (by decide) ?_
      cases hF
      rw [hQ]
      exact jb_zret hx hb hr rfl hlocks hP hD hS dX5_in_15 rfl (Nat.le_of_ble_eq_true rfl) (Nat.le_of_ble_eq_true rfl)
    · have hF := ob_neg c2 hF
      refine lv_iconst (v := 1) hx hb dX5_in_10 (by decide) ?_
      refine lv_goto (tgt := 15) hx hb dX5_in_11 (by decide) ?_
      cases hF
      rw [hQ]
      exact jb_zret hx hb hr rfl hlocks hP hD hS dX5_in_15 rfl (Nat.le_of_ble_eq_true rfl) (Nat.le_of_ble_eq_true rfl)
def F_X5_least (p0 : Int32) (p1 : Int32) : Option (Int32) := if p1 ≤ p0 then some p1 else some p0
set_option maxHeartbeats 4000000 in
set_option maxRecDepth 100000 in
theorem c_X5_least (g : GG) (l : Launch)  (p0 : Int32) (p1 : Int32) (z : Int32) (hF : F_X5_least p0 p1 = some z) : MI g l yX5_least cX5_least 2 (some .int) ({ frames := 0, cells := 0, slots := 0, locals := 0 } : Room) [.int p0, .int p1] [] 0 0 z [] := by
  refine MI.bg (by decide) (Nat.le_of_ble_eq_true rfl) ?_
  intro p e s m below meth c A Q hQ hx hb hr hml hown hts hlocks hmn hK hE hA hP hD hS ls hl
  rw [F_X5_least] at hF
  have hl : lv_has ls 2 [(0, .int p0), (1, .int p1)] := hl
  refine lv_iload_n hx hb dX5_least_0 rfl (lv_at hl 0 rfl) ?_
  refine lv_iload_n hx hb dX5_least_1 rfl (lv_at hl 1 rfl) ?_
  refine lv_icmp_ge (tgt := 9) hx hb dX5_least_2 (by decide) (fun c1 => ?_) (fun c1 => ?_)
  · have hF := ob_pos c1 hF
    refine lv_iload_n hx hb dX5_least_9 rfl (lv_at hl 1 rfl) ?_
    cases hF
    rw [hQ]
    exact jb_iret hx hb hr hlocks hP hD hS dX5_least_10 rfl (Nat.le_of_ble_eq_true rfl) (Nat.le_of_ble_eq_true rfl)
  · have hF := ob_neg c1 hF
    refine lv_iload_n hx hb dX5_least_5 rfl (lv_at hl 0 rfl) ?_
    refine lv_goto (tgt := 10) hx hb dX5_least_6 (by decide) ?_
    cases hF
    rw [hQ]
    exact jb_iret hx hb hr hlocks hP hD hS dX5_least_10 rfl (Nat.le_of_ble_eq_true rfl) (Nat.le_of_ble_eq_true rfl)
def F_X5_keeps_g_L24  (k : Mv → Int32 → Option (Mv)) : Nat → Mv → Int32 → Option (Mv)
  | 0, _, _ => none
  | n + 1, b0, x2 => if 581 ≤ x2 then k b0 x2 else ck (inb (x2 + 83) 664) (ck (inb x2 664) (F_X5_keeps_g_L24  k n (mkM (M_g b0) (upd (M_kept b0) x2.toNatClampNeg ((M_kept b0) (x2 + 83).toNatClampNeg)) (M_saved b0) (M_before b0) (M_trial b0) (M_counted b0) (M_isSaved b0) (M_changes b0) (M_isWithin b0) (M_isDenied b0) (M_code b0) (M_why b0) (M_detail b0) (M_cause b0) (M_input b0) (M_length b0) (M_fault b0) (M_signs b0) (M_signMany b0) (M_lastOver b0) (M_at b0) (M_told b0) (M_toldMany b0)) (x2 + 1)))
def F_X5_keeps_g (mo : Mv) : Option (Mv) := if (M_isWithin mo) = 0 then if ¬ (M_changes mo) = 8 then (F_X5_copies 83 664 (M_g mo) (M_kept mo) 0 (83 * (M_changes mo))).bind (fun z1 => some (mkM (M_g mo) z1 (M_saved mo) (M_before mo) (M_trial mo) (M_counted mo) (M_isSaved mo) ((M_changes mo) + 1) (M_isWithin mo) (M_isDenied mo) 0 (M_why mo) (M_detail mo) (M_cause mo) (M_input mo) (M_length mo) (M_fault mo) (M_signs mo) (M_signMany mo) (M_lastOver mo) (M_at mo) (M_told mo) (M_toldMany mo))) else F_X5_keeps_g_L24  (fun b2 x3 => (F_X5_copies 83 664 (M_g b2) (M_kept b2) 0 (83 * ((M_changes b2) - 1))).bind (fun z4 => some (mkM (M_g b2) z4 (M_saved b2) (M_before b2) (M_trial b2) (M_counted b2) (M_isSaved b2) (((M_changes b2) - 1) + 1) (M_isWithin b2) (M_isDenied b2) (M_code b2) (M_why b2) (M_detail b2) (M_cause b2) (M_input b2) (M_length b2) (M_fault b2) (M_signs b2) (M_signMany b2) (M_lastOver b2) (M_at b2) (M_told b2) (M_toldMany b2)))) 1000 (mkM (M_g mo) (M_kept mo) (M_saved mo) (M_before mo) (M_trial mo) (M_counted mo) (M_isSaved mo) (M_changes mo) (M_isWithin mo) (M_isDenied mo) 0 (M_why mo) (M_detail mo) (M_cause mo) (M_input mo) (M_length mo) (M_fault mo) (M_signs mo) (M_signMany mo) (M_lastOver mo) (M_at mo) (M_told mo) (M_toldMany mo)) 0 else some (mkM (M_g mo) (M_kept mo) (M_saved mo) (M_before mo) (M_trial mo) (M_counted mo) (M_isSaved mo) (M_changes mo) (M_isWithin mo) (M_isDenied mo) 0 (M_why mo) (M_detail mo) (M_cause mo) (M_input mo) (M_length mo) (M_fault mo) (M_signs mo) (M_signMany mo) (M_lastOver mo) (M_at mo) (M_told mo) (M_toldMany mo))
set_option maxHeartbeats 4000000 in
set_option maxRecDepth 100000 in
theorem c_X5_keeps_g (g : GG) (l : Launch) (a : Nat → Nat) (mo : Mv) (z : Mv) (hF : F_X5_keeps_g mo = some z) : MV g l yX5_keeps cX5_keeps 3 none ({ frames := 1, cells := 0, slots := 0, locals := 24 } : Room) [.ref (a 0), .ref (a 1)] [wM g a mo] 0 0 [wM g a z] := by
  refine MV.bg (by decide) (Nat.le_of_ble_eq_true rfl) ?_
  intro p e s m below meth c A Q hQ hx hb hr hml hown hts hlocks hmn hK hE hA hP hD hS ls hl
  rw [F_X5_keeps_g] at hF
  have hl : lv_has ls 3 [(0, .ref (a 0)), (1, .ref (a 1))] := hl
  refine lv_aload_n hx hb dX5_keeps_0 rfl (lv_at hl 0 rfl) ?_
  refine lv_iconst (v := 0) hx hb dX5_keeps_1 (by decide) ?_
  refine va_put (D := g.1) (ci := 9) (v := .int 0) (ty := .int) (C := RX5) (T := TX5) (N := 23) hx hb hts inX5 tyX5 tyX5_ok nmX5 hown hK hP hD hS 0 rfl rfl 10 (by decide) (hts _ mw_1321) (fun _ h9 => h9) rfl (by decide +kernel) rfl rfl (Nat.le_of_ble_eq_true rfl) dX5_keeps_2 (fun H locs hP hD hS => ?_)
  have hP : va_P g.1 vwCl ([wMc g a (M_g mo) (M_kept mo) (M_saved mo) (M_before mo) (M_trial mo) (M_counted mo) (M_isSaved mo) (M_changes mo) (M_isWithin mo) (M_isDenied mo) 0 (M_why mo) (M_detail mo) (M_cause mo) (M_input mo) (M_length mo) (M_fault mo) (M_signs mo) (M_signMany mo) (M_lastOver mo) (M_at mo) (M_told mo) (M_toldMany mo)] : List va_W).flatten _ := hP
  have hD : va_D A ([wMc g a (M_g mo) (M_kept mo) (M_saved mo) (M_before mo) (M_trial mo) (M_counted mo) (M_isSaved mo) (M_changes mo) (M_isWithin mo) (M_isDenied mo) 0 (M_why mo) (M_detail mo) (M_cause mo) (M_input mo) (M_length mo) (M_fault mo) (M_signs mo) (M_signMany mo) (M_lastOver mo) (M_at mo) (M_told mo) (M_toldMany mo)] : List va_W).flatten := hD
  refine lv_aload_n hx hb dX5_keeps_5 rfl (lv_at hl 0 rfl) ?_
  refine va_get (D := g.1) (ci := 9) (v := .int (M_isWithin mo)) (C := RX5) (T := TX5) (N := 23) hx hb hts inX5 hown hK hP 0 rfl rfl 8 (by decide) (hts _ mw_1319) (fun _ h9 => h9) rfl dX5_keeps_6 ?_
  refine lv_if_eq (tgt := 13) hx hb dX5_keeps_9 (by decide) (fun c1 => ?_) (fun c1 => ?_)
  · have hF := ob_pos c1 hF
    refine lv_aload_n hx hb dX5_keeps_13 rfl (lv_at hl 0 rfl) ?_
    refine va_get (D := g.1) (ci := 9) (v := .int (M_changes mo)) (C := RX5) (T := TX5) (N := 23) hx hb hts inX5 hown hK hP 0 rfl rfl 7 (by decide) (hts _ mw_1318) (fun _ h9 => h9) rfl dX5_keeps_14 ?_
    refine lv_bipush (v := 8) hx hb dX5_keeps_17 (by decide) ?_
    refine lv_icmp_ne (tgt := 62) hx hb dX5_keeps_19 (by decide) (fun c2 => ?_) (fun c2 => ?_)
    · have hF := ob_pos c2 hF
      refine lv_aload_n hx hb dX5_keeps_62 rfl (lv_at hl 1 rfl) ?_
      refine lv_iconst (v := 0) hx hb dX5_keeps_63 (by decide) ?_
      refine lv_aload_n hx hb dX5_keeps_64 rfl (lv_at hl 0 rfl) ?_
      refine va_get (D := g.1) (ci := 9) (v := .ref (a 2)) (C := RX5) (T := TX5) (N := 23) hx hb hts inX5 hown hK hP 0 rfl rfl 1 (by decide) (hts _ mw_1312) (fun _ h9 => h9) rfl dX5_keeps_65 ?_
      refine lv_bipush (v := 83) hx hb dX5_keeps_68 (by decide) ?_
      refine lv_aload_n hx hb dX5_keeps_70 rfl (lv_at hl 0 rfl) ?_
      refine va_get (D := g.1) (ci := 9) (v := .int (M_changes mo)) (C := RX5) (T := TX5) (N := 23) hx hb hts inX5 hown hK hP 0 rfl rfl 7 (by decide) (hts _ mw_1318) (fun _ h9 => h9) rfl dX5_keeps_71 ?_
      refine lv_imul hx hb dX5_keeps_74 ?_
      obtain ⟨z3, hz3, hF⟩ := ob_bind hF
      have hP : va_P g.1 vwCl ([[(a 0, .inr (9, [.ref (a 1), .ref (a 2), .ref (a 3), .ref (a 4), .ref (a 5), .ref (a 6), .int (M_isSaved mo), .int (M_changes mo), .int (M_isWithin mo), .int (M_isDenied mo), .int 0, .int (M_why mo), .int (M_detail mo), .int (M_cause mo), .ref (a 7), .int (M_length mo), .int (M_fault mo), .ref (a 8), .int (M_signMany mo), .int (M_lastOver mo), .int (M_at mo), .ref (a 9), .int (M_toldMany mo)]))], [(a 1, .inl (g.2.1 0, 83, .inl (M_g mo)))], [(a 2, .inl (g.2.1 0, 664, .inl (M_kept mo)))], [(a 3, .inl (g.2.1 0, 83, .inl (M_saved mo)))], [(a 4, .inl (g.2.1 0, 83, .inl (M_before mo)))], [(a 5, .inl (g.2.1 0, 83, .inl (M_trial mo)))], [(a 6, .inl (g.2.1 0, 10, .inl (M_counted mo)))], [(a 7, .inl (g.2.1 0, 60, .inl (M_input mo)))], [(a 8, .inl (g.2.1 1, 200, .inl (M_signs mo)))], [(a 9, .inl (g.2.1 0, 93, .inl (M_told mo)))]] : List va_W).flatten _ := hP
      have hD : va_D A ([[(a 0, .inr (9, [.ref (a 1), .ref (a 2), .ref (a 3), .ref (a 4), .ref (a 5), .ref (a 6), .int (M_isSaved mo), .int (M_changes mo), .int (M_isWithin mo), .int (M_isDenied mo), .int 0, .int (M_why mo), .int (M_detail mo), .int (M_cause mo), .ref (a 7), .int (M_length mo), .int (M_fault mo), .ref (a 8), .int (M_signMany mo), .int (M_lastOver mo), .int (M_at mo), .ref (a 9), .int (M_toldMany mo)]))], [(a 1, .inl (g.2.1 0, 83, .inl (M_g mo)))], [(a 2, .inl (g.2.1 0, 664, .inl (M_kept mo)))], [(a 3, .inl (g.2.1 0, 83, .inl (M_saved mo)))], [(a 4, .inl (g.2.1 0, 83, .inl (M_before mo)))], [(a 5, .inl (g.2.1 0, 83, .inl (M_trial mo)))], [(a 6, .inl (g.2.1 0, 10, .inl (M_counted mo)))], [(a 7, .inl (g.2.1 0, 60, .inl (M_input mo)))], [(a 8, .inl (g.2.1 1, 200, .inl (M_signs mo)))], [(a 9, .inl (g.2.1 0, 93, .inl (M_told mo)))]] : List va_W).flatten := hD
      refine cl_sv (csR := [[(a 0, .inr (9, [.ref (a 1), .ref (a 2), .ref (a 3), .ref (a 4), .ref (a 5), .ref (a 6), .int (M_isSaved mo), .int (M_changes mo), .int (M_isWithin mo), .int (M_isDenied mo), .int 0, .int (M_why mo), .int (M_detail mo), .int (M_cause mo), .ref (a 7), .int (M_length mo), .int (M_fault mo), .ref (a 8), .int (M_signMany mo), .int (M_lastOver mo), .int (M_at mo), .ref (a 9), .int (M_toldMany mo)]))], [(a 3, .inl (g.2.1 0, 83, .inl (M_saved mo)))], [(a 4, .inl (g.2.1 0, 83, .inl (M_before mo)))], [(a 5, .inl (g.2.1 0, 83, .inl (M_trial mo)))], [(a 6, .inl (g.2.1 0, 10, .inl (M_counted mo)))], [(a 7, .inl (g.2.1 0, 60, .inl (M_input mo)))], [(a 8, .inl (g.2.1 1, 200, .inl (M_signs mo)))], [(a 9, .inl (g.2.1 0, 93, .inl (M_told mo)))]]) (csF := [[(a 0, .inr (9, [.ref (a 1), .ref (a 2), .ref (a 3), .ref (a 4), .ref (a 5), .ref (a 6), .int (M_isSaved mo), .int (M_changes mo), .int (M_isWithin mo), .int (M_isDenied mo), .int 0, .int (M_why mo), .int (M_detail mo), .int (M_cause mo), .ref (a 7), .int (M_length mo), .int (M_fault mo), .ref (a 8), .int (M_signMany mo), .int (M_lastOver mo), .int (M_at mo), .ref (a 9), .int (M_toldMany mo)]))], [(a 1, .inl (g.2.1 0, 83, .inl (M_g mo)))], [(a 2, .inl (g.2.1 0, 664, .inl z3))], [(a 3, .inl (g.2.1 0, 83, .inl (M_saved mo)))], [(a 4, .inl (g.2.1 0, 83, .inl (M_before mo)))], [(a 5, .inl (g.2.1 0, 83, .inl (M_trial mo)))], [(a 6, .inl (g.2.1 0, 10, .inl (M_counted mo)))], [(a 7, .inl (g.2.1 0, 60, .inl (M_input mo)))], [(a 8, .inl (g.2.1 1, 200, .inl (M_signs mo)))], [(a 9, .inl (g.2.1 0, 93, .inl (M_told mo)))]]) (rest := []) hx hb hml hown hts hK hE hA hl hP hD hS (c_X5_copies g l (fun _ => a 1) 83 (fun _ => a 2) 664 (M_g mo) (M_kept mo) 0 (83 * (M_changes mo)) z3 hz3) [1, 2] [0, 3, 4, 5, 6, 7, 8, 9] [0, 8, 9, 1, 2, 3, 4, 5, 6, 7] ⟨rfl, rfl, rfl, rfl, rfl, rfl, rfl⟩ 4 (jb_giS mw_1404 mw_1405 mw_10 mw_1406) ⟨rfl, rfl⟩ (by decide +kernel) ⟨⟨(Nat.le_of_ble_eq_true rfl), (Nat.le_of_ble_eq_true rfl)⟩, (Nat.le_of_ble_eq_true rfl), (Nat.le_of_ble_eq_true rfl)⟩ ⟨rfl, rfl⟩ (Nat.le_of_ble_eq_true rfl) dX5_keeps_75 (fun H locs hP hD hS => ?_)
      have hP : va_P g.1 vwCl ([wMc g a (M_g mo) z3 (M_saved mo) (M_before mo) (M_trial mo) (M_counted mo) (M_isSaved mo) (M_changes mo) (M_isWithin mo) (M_isDenied mo) 0 (M_why mo) (M_detail mo) (M_cause mo) (M_input mo) (M_length mo) (M_fault mo) (M_signs mo) (M_signMany mo) (M_lastOver mo) (M_at mo) (M_told mo) (M_toldMany mo)] : List va_W).flatten _ := hP
      have hD : va_D A ([wMc g a (M_g mo) z3 (M_saved mo) (M_before mo) (M_trial mo) (M_counted mo) (M_isSaved mo) (M_changes mo) (M_isWithin mo) (M_isDenied mo) 0 (M_why mo) (M_detail mo) (M_cause mo) (M_input mo) (M_length mo) (M_fault mo) (M_signs mo) (M_signMany mo) (M_lastOver mo) (M_at mo) (M_told mo) (M_toldMany mo)] : List va_W).flatten := hD
      refine lv_aload_n hx hb dX5_keeps_78 rfl (lv_at hl 0 rfl) ?_
      refine lv_dup hx hb dX5_keeps_79 rfl ?_
      refine va_get (D := g.1) (ci := 9) (v := .int (M_changes mo)) (C := RX5) (T := TX5) (N := 23) hx hb hts inX5 hown hK hP 0 rfl rfl 7 (by decide) (hts _ mw_1318) (fun _ h9 => h9) rfl dX5_keeps_80 ?_
      refine lv_iconst (v := 1) hx hb dX5_keeps_83 (by decide) ?_
      refine lv_iadd hx hb dX5_keeps_84 ?_
      refine va_put (D := g.1) (ci := 9) (v := .int ((M_changes mo) + 1)) (ty := .int) (C := RX5) (T := TX5) (N := 23) hx hb hts inX5 tyX5 tyX5_ok nmX5 hown hK hP hD hS 0 rfl rfl 7 (by decide) (hts _ mw_1318) (fun _ h9 => h9) rfl (by decide +kernel) rfl rfl (Nat.le_of_ble_eq_true rfl) dX5_keeps_85 (fun H locs hP hD hS => ?_)
      have hP : va_P g.1 vwCl ([wMc g a (M_g mo) z3 (M_saved mo) (M_before mo) (M_trial mo) (M_counted mo) (M_isSaved mo) ((M_changes mo) + 1) (M_isWithin mo) (M_isDenied mo) 0 (M_why mo) (M_detail mo) (M_cause mo) (M_input mo) (M_length mo) (M_fault mo) (M_signs mo) (M_signMany mo) (M_lastOver mo) (M_at mo) (M_told mo) (M_toldMany mo)] : List va_W).flatten _ := hP
      have hD : va_D A ([wMc g a (M_g mo) z3 (M_saved mo) (M_before mo) (M_trial mo) (M_counted mo) (M_isSaved mo) ((M_changes mo) + 1) (M_isWithin mo) (M_isDenied mo) 0 (M_why mo) (M_detail mo) (M_cause mo) (M_input mo) (M_length mo) (M_fault mo) (M_signs mo) (M_signMany mo) (M_lastOver mo) (M_at mo) (M_told mo) (M_toldMany mo)] : List va_W).flatten := hD
      cases hF
      rw [hQ]
      exact jb_vret hx hb hr hlocks hP hD hS dX5_keeps_88 (Nat.le_of_ble_eq_true rfl) (Nat.le_of_ble_eq_true rfl)
    · have hF := ob_nneg c2 hF
      refine lv_iconst (v := 0) hx hb dX5_keeps_22 (by decide) ?_
      refine lv_istore_n (lv' := [(2, .int 0), (0, .ref (a 0)), (1, .ref (a 1))]) hx hb dX5_keeps_23 rfl hl (by decide) rfl (fun ls hl => ?_)
      obtain ⟨k5, ek5, hF⟩ := ob_k (F := fun k9 => F_X5_keeps_g_L24  k9 1000 (mkM (M_g mo) (M_kept mo) (M_saved mo) (M_before mo) (M_trial mo) (M_counted mo) (M_isSaved mo) (M_changes mo) (M_isWithin mo) (M_isDenied mo) 0 (M_why mo) (M_detail mo) (M_cause mo) (M_input mo) (M_length mo) (M_fault mo) (M_signs mo) (M_signMany mo) (M_lastOver mo) (M_at mo) (M_told mo) (M_toldMany mo)) 0) hF
      have loop5 : ∀ (n9 : Nat) (b4 : Mv) (x5 : Int32), F_X5_keeps_g_L24  k5 n9 b4 x5 = some z → ∀ (H : Heap) (locs : List Loc), va_P g.1 vwCl ([wM g a b4] : List va_W).flatten H → va_D A ([wM g a b4] : List va_W).flatten → va_S A s.heap H locs → ∀ ls : Array Slot, lv_has ls 3 [(0, .ref (a 0)), (1, .ref (a 1)), (2, .int x5)] → W p l e ({ frames := 1, cells := 0, slots := 0, locals := 24 } : Room) s m ([.ref (a 0), .ref (a 1)] : List Value).toArray below meth c H locs 0 0 Q (F0 m 24 ls []) := by
        intro n9
        induction n9 with
        | zero => intro b4 x5 hF; rw [F_X5_keeps_g_L24] at hF; cases hF
        | succ n9 ih5 =>
          intro b4 x5 hF H locs hP hD hS ls hl
          rw [F_X5_keeps_g_L24] at hF
          refine lv_iload_n hx hb dX5_keeps_24 rfl (lv_at hl 2 rfl) ?_
          refine lv_sipush (v := 581) hx hb dX5_keeps_25 (by decide) ?_
          refine lv_icmp_ge (tgt := 52) hx hb dX5_keeps_28 (by decide) (fun c6 => ?_) (fun c6 => ?_)
          · have hF := ob_pos c6 hF
            rw [ek5] at hF
            refine lv_aload_n hx hb dX5_keeps_52 rfl (lv_at hl 0 rfl) ?_
            refine lv_dup hx hb dX5_keeps_53 rfl ?_
            refine va_get (D := g.1) (ci := 9) (v := .int (M_changes b4)) (C := RX5) (T := TX5) (N := 23) hx hb hts inX5 hown hK hP 0 rfl rfl 7 (by decide) (hts _ mw_1318) (fun _ h9 => h9) rfl dX5_keeps_54 ?_
            refine lv_iconst (v := 1) hx hb dX5_keeps_57 (by decide) ?_
            refine lv_isub hx hb dX5_keeps_58 ?_
            refine va_put (D := g.1) (ci := 9) (v := .int ((M_changes b4) - 1)) (ty := .int) (C := RX5) (T := TX5) (N := 23) hx hb hts inX5 tyX5 tyX5_ok nmX5 hown hK hP hD hS 0 rfl rfl 7 (by decide) (hts _ mw_1318) (fun _ h9 => h9) rfl (by decide +kernel) rfl rfl (Nat.le_of_ble_eq_true rfl) dX5_keeps_59 (fun H locs hP hD hS => ?_)
            have hP : va_P g.1 vwCl ([wMc g a (M_g b4) (M_kept b4) (M_saved b4) (M_before b4) (M_trial b4) (M_counted b4) (M_isSaved b4) ((M_changes b4) - 1) (M_isWithin b4) (M_isDenied b4) (M_code b4) (M_why b4) (M_detail b4) (M_cause b4) (M_input b4) (M_length b4) (M_fault b4) (M_signs b4) (M_signMany b4) (M_lastOver b4) (M_at b4) (M_told b4) (M_toldMany b4)] : List va_W).flatten _ := hP
            have hD : va_D A ([wMc g a (M_g b4) (M_kept b4) (M_saved b4) (M_before b4) (M_trial b4) (M_counted b4) (M_isSaved b4) ((M_changes b4) - 1) (M_isWithin b4) (M_isDenied b4) (M_code b4) (M_why b4) (M_detail b4) (M_cause b4) (M_input b4) (M_length b4) (M_fault b4) (M_signs b4) (M_signMany b4) (M_lastOver b4) (M_at b4) (M_told b4) (M_toldMany b4)] : List va_W).flatten := hD
            refine lv_aload_n hx hb dX5_keeps_62 rfl (lv_at hl 1 rfl) ?_
            refine lv_iconst (v := 0) hx hb dX5_keeps_63 (by decide) ?_
            refine lv_aload_n hx hb dX5_keeps_64 rfl (lv_at hl 0 rfl) ?_
            refine va_get (D := g.1) (ci := 9) (v := .ref (a 2)) (C := RX5) (T := TX5) (N := 23) hx hb hts inX5 hown hK hP 0 rfl rfl 1 (by decide) (hts _ mw_1312) (fun _ h9 => h9) rfl dX5_keeps_65 ?_
            refine lv_bipush (v := 83) hx hb dX5_keeps_68 (by decide) ?_
            refine lv_aload_n hx hb dX5_keeps_70 rfl (lv_at hl 0 rfl) ?_
            refine va_get (D := g.1) (ci := 9) (v := .int ((M_changes b4) - 1)) (C := RX5) (T := TX5) (N := 23) hx hb hts inX5 hown hK hP 0 rfl rfl 7 (by decide) (hts _ mw_1318) (fun _ h9 => h9) rfl dX5_keeps_71 ?_
            refine lv_imul hx hb dX5_keeps_74 ?_
            obtain ⟨z7, hz7, hF⟩ := ob_bind hF
            have hP : va_P g.1 vwCl ([[(a 0, .inr (9, [.ref (a 1), .ref (a 2), .ref (a 3), .ref (a 4), .ref (a 5), .ref (a 6), .int (M_isSaved b4), .int ((M_changes b4) - 1), .int (M_isWithin b4), .int (M_isDenied b4), .int (M_code b4), .int (M_why b4), .int (M_detail b4), .int (M_cause b4), .ref (a 7), .int (M_length b4), .int (M_fault b4), .ref (a 8), .int (M_signMany b4), .int (M_lastOver b4), .int (M_at b4), .ref (a 9), .int (M_toldMany b4)]))], [(a 1, .inl (g.2.1 0, 83, .inl (M_g b4)))], [(a 2, .inl (g.2.1 0, 664, .inl (M_kept b4)))], [(a 3, .inl (g.2.1 0, 83, .inl (M_saved b4)))], [(a 4, .inl (g.2.1 0, 83, .inl (M_before b4)))], [(a 5, .inl (g.2.1 0, 83, .inl (M_trial b4)))], [(a 6, .inl (g.2.1 0, 10, .inl (M_counted b4)))], [(a 7, .inl (g.2.1 0, 60, .inl (M_input b4)))], [(a 8, .inl (g.2.1 1, 200, .inl (M_signs b4)))], [(a 9, .inl (g.2.1 0, 93, .inl (M_told b4)))]] : List va_W).flatten _ := hP
            have hD : va_D A ([[(a 0, .inr (9, [.ref (a 1), .ref (a 2), .ref (a 3), .ref (a 4), .ref (a 5), .ref (a 6), .int (M_isSaved b4), .int ((M_changes b4) - 1), .int (M_isWithin b4), .int (M_isDenied b4), .int (M_code b4), .int (M_why b4), .int (M_detail b4), .int (M_cause b4), .ref (a 7), .int (M_length b4), .int (M_fault b4), .ref (a 8), .int (M_signMany b4), .int (M_lastOver b4), .int (M_at b4), .ref (a 9), .int (M_toldMany b4)]))], [(a 1, .inl (g.2.1 0, 83, .inl (M_g b4)))], [(a 2, .inl (g.2.1 0, 664, .inl (M_kept b4)))], [(a 3, .inl (g.2.1 0, 83, .inl (M_saved b4)))], [(a 4, .inl (g.2.1 0, 83, .inl (M_before b4)))], [(a 5, .inl (g.2.1 0, 83, .inl (M_trial b4)))], [(a 6, .inl (g.2.1 0, 10, .inl (M_counted b4)))], [(a 7, .inl (g.2.1 0, 60, .inl (M_input b4)))], [(a 8, .inl (g.2.1 1, 200, .inl (M_signs b4)))], [(a 9, .inl (g.2.1 0, 93, .inl (M_told b4)))]] : List va_W).flatten := hD
            refine cl_sv (csR := [[(a 0, .inr (9, [.ref (a 1), .ref (a 2), .ref (a 3), .ref (a 4), .ref (a 5), .ref (a 6), .int (M_isSaved b4), .int ((M_changes b4) - 1), .int (M_isWithin b4), .int (M_isDenied b4), .int (M_code b4), .int (M_why b4), .int (M_detail b4), .int (M_cause b4), .ref (a 7), .int (M_length b4), .int (M_fault b4), .ref (a 8), .int (M_signMany b4), .int (M_lastOver b4), .int (M_at b4), .ref (a 9), .int (M_toldMany b4)]))], [(a 3, .inl (g.2.1 0, 83, .inl (M_saved b4)))], [(a 4, .inl (g.2.1 0, 83, .inl (M_before b4)))], [(a 5, .inl (g.2.1 0, 83, .inl (M_trial b4)))], [(a 6, .inl (g.2.1 0, 10, .inl (M_counted b4)))], [(a 7, .inl (g.2.1 0, 60, .inl (M_input b4)))], [(a 8, .inl (g.2.1 1, 200, .inl (M_signs b4)))], [(a 9, .inl (g.2.1 0, 93, .inl (M_told b4)))]]) (csF := [[(a 0, .inr (9, [.ref (a 1), .ref (a 2), .ref (a 3), .ref (a 4), .ref (a 5), .ref (a 6), .int (M_isSaved b4), .int ((M_changes b4) - 1), .int (M_isWithin b4), .int (M_isDenied b4), .int (M_code b4), .int (M_why b4), .int (M_detail b4), .int (M_cause b4), .ref (a 7), .int (M_length b4), .int (M_fault b4), .ref (a 8), .int (M_signMany b4), .int (M_lastOver b4), .int (M_at b4), .ref (a 9), .int (M_toldMany b4)]))], [(a 1, .inl (g.2.1 0, 83, .inl (M_g b4)))], [(a 2, .inl (g.2.1 0, 664, .inl z7))], [(a 3, .inl (g.2.1 0, 83, .inl (M_saved b4)))], [(a 4, .inl (g.2.1 0, 83, .inl (M_before b4)))], [(a 5, .inl (g.2.1 0, 83, .inl (M_trial b4)))], [(a 6, .inl (g.2.1 0, 10, .inl (M_counted b4)))], [(a 7, .inl (g.2.1 0, 60, .inl (M_input b4)))], [(a 8, .inl (g.2.1 1, 200, .inl (M_signs b4)))], [(a 9, .inl (g.2.1 0, 93, .inl (M_told b4)))]]) (rest := []) hx hb hml hown hts hK hE hA hl hP hD hS (c_X5_copies g l (fun _ => a 1) 83 (fun _ => a 2) 664 (M_g b4) (M_kept b4) 0 (83 * ((M_changes b4) - 1)) z7 hz7) [1, 2] [0, 3, 4, 5, 6, 7, 8, 9] [0, 8, 9, 1, 2, 3, 4, 5, 6, 7] ⟨rfl, rfl, rfl, rfl, rfl, rfl, rfl⟩ 4 (jb_giS mw_1404 mw_1405 mw_10 mw_1406) ⟨rfl, rfl⟩ (by decide +kernel) ⟨⟨(Nat.le_of_ble_eq_true rfl), (Nat.le_of_ble_eq_true rfl)⟩, (Nat.le_of_ble_eq_true rfl), (Nat.le_of_ble_eq_true rfl)⟩ ⟨rfl, rfl⟩ (Nat.le_of_ble_eq_true rfl) dX5_keeps_75 (fun H locs hP hD hS => ?_)
            have hP : va_P g.1 vwCl ([wMc g a (M_g b4) z7 (M_saved b4) (M_before b4) (M_trial b4) (M_counted b4) (M_isSaved b4) ((M_changes b4) - 1) (M_isWithin b4) (M_isDenied b4) (M_code b4) (M_why b4) (M_detail b4) (M_cause b4) (M_input b4) (M_length b4) (M_fault b4) (M_signs b4) (M_signMany b4) (M_lastOver b4) (M_at b4) (M_told b4) (M_toldMany b4)] : List va_W).flatten _ := hP
            have hD : va_D A ([wMc g a (M_g b4) z7 (M_saved b4) (M_before b4) (M_trial b4) (M_counted b4) (M_isSaved b4) ((M_changes b4) - 1) (M_isWithin b4) (M_isDenied b4) (M_code b4) (M_why b4) (M_detail b4) (M_cause b4) (M_input b4) (M_length b4) (M_fault b4) (M_signs b4) (M_signMany b4) (M_lastOver b4) (M_at b4) (M_told b4) (M_toldMany b4)] : List va_W).flatten := hD
            refine lv_aload_n hx hb dX5_keeps_78 rfl (lv_at hl 0 rfl) ?_
            refine lv_dup hx hb dX5_keeps_79 rfl ?_
            refine va_get (D := g.1) (ci := 9) (v := .int ((M_changes b4) - 1)) (C := RX5) (T := TX5) (N := 23) hx hb hts inX5 hown hK hP 0 rfl rfl 7 (by decide) (hts _ mw_1318) (fun _ h9 => h9) rfl dX5_keeps_80 ?_
            refine lv_iconst (v := 1) hx hb dX5_keeps_83 (by decide) ?_
            refine lv_iadd hx hb dX5_keeps_84 ?_
            refine va_put (D := g.1) (ci := 9) (v := .int (((M_changes b4) - 1) + 1)) (ty := .int) (C := RX5) (T := TX5) (N := 23) hx hb hts inX5 tyX5 tyX5_ok nmX5 hown hK hP hD hS 0 rfl rfl 7 (by decide) (hts _ mw_1318) (fun _ h9 => h9) rfl (by decide +kernel) rfl rfl (Nat.le_of_ble_eq_true rfl) dX5_keeps_85 (fun H locs hP hD hS => ?_)
            have hP : va_P g.1 vwCl ([wMc g a (M_g b4) z7 (M_saved b4) (M_before b4) (M_trial b4) (M_counted b4) (M_isSaved b4) (((M_changes b4) - 1) + 1) (M_isWithin b4) (M_isDenied b4) (M_code b4) (M_why b4) (M_detail b4) (M_cause b4) (M_input b4) (M_length b4) (M_fault b4) (M_signs b4) (M_signMany b4) (M_lastOver b4) (M_at b4) (M_told b4) (M_toldMany b4)] : List va_W).flatten _ := hP
            have hD : va_D A ([wMc g a (M_g b4) z7 (M_saved b4) (M_before b4) (M_trial b4) (M_counted b4) (M_isSaved b4) (((M_changes b4) - 1) + 1) (M_isWithin b4) (M_isDenied b4) (M_code b4) (M_why b4) (M_detail b4) (M_cause b4) (M_input b4) (M_length b4) (M_fault b4) (M_signs b4) (M_signMany b4) (M_lastOver b4) (M_at b4) (M_told b4) (M_toldMany b4)] : List va_W).flatten := hD
            cases hF
            rw [hQ]
            exact jb_vret hx hb hr hlocks hP hD hS dX5_keeps_88 (Nat.le_of_ble_eq_true rfl) (Nat.le_of_ble_eq_true rfl)
          · have hF := ob_neg c6 hF
            refine lv_aload_n hx hb dX5_keeps_31 rfl (lv_at hl 0 rfl) ?_
            refine va_get (D := g.1) (ci := 9) (v := .ref (a 2)) (C := RX5) (T := TX5) (N := 23) hx hb hts inX5 hown hK hP 0 rfl rfl 1 (by decide) (hts _ mw_1312) (fun _ h9 => h9) rfl dX5_keeps_32 ?_
            refine lv_iload_n hx hb dX5_keeps_35 rfl (lv_at hl 2 rfl) ?_
            refine lv_aload_n hx hb dX5_keeps_36 rfl (lv_at hl 0 rfl) ?_
            refine va_get (D := g.1) (ci := 9) (v := .ref (a 2)) (C := RX5) (T := TX5) (N := 23) hx hb hts inX5 hown hK hP 0 rfl rfl 1 (by decide) (hts _ mw_1312) (fun _ h9 => h9) rfl dX5_keeps_37 ?_
            refine lv_iload_n hx hb dX5_keeps_40 rfl (lv_at hl 2 rfl) ?_
            refine lv_bipush (v := 83) hx hb dX5_keeps_41 (by decide) ?_
            refine lv_iadd hx hb dX5_keeps_43 ?_
            have h8 := inb_in (ck_t hF)
            have hF := ck_s hF
            refine va_iald hx hb hK hP 2 0 rfl rfl h8 dX5_keeps_44 ?_
            have h9 := inb_in (ck_t hF)
            have hF := ck_s hF
            refine va_iast hx hb hK hP hD hS 2 0 rfl rfl h9 dX5_keeps_45 (fun H locs hP hD hS => ?_)
            have hP : va_P g.1 vwCl ([wMc g a (M_g b4) (upd (M_kept b4) x5.toNatClampNeg ((M_kept b4) (x5 + 83).toNatClampNeg)) (M_saved b4) (M_before b4) (M_trial b4) (M_counted b4) (M_isSaved b4) (M_changes b4) (M_isWithin b4) (M_isDenied b4) (M_code b4) (M_why b4) (M_detail b4) (M_cause b4) (M_input b4) (M_length b4) (M_fault b4) (M_signs b4) (M_signMany b4) (M_lastOver b4) (M_at b4) (M_told b4) (M_toldMany b4)] : List va_W).flatten _ := hP
            have hD : va_D A ([wMc g a (M_g b4) (upd (M_kept b4) x5.toNatClampNeg ((M_kept b4) (x5 + 83).toNatClampNeg)) (M_saved b4) (M_before b4) (M_trial b4) (M_counted b4) (M_isSaved b4) (M_changes b4) (M_isWithin b4) (M_isDenied b4) (M_code b4) (M_why b4) (M_detail b4) (M_cause b4) (M_input b4) (M_length b4) (M_fault b4) (M_signs b4) (M_signMany b4) (M_lastOver b4) (M_at b4) (M_told b4) (M_toldMany b4)] : List va_W).flatten := hD
            refine lv_iinc (v := x5 + 1) (lv' := [(2, .int (x5 + 1)), (0, .ref (a 0)), (1, .ref (a 1))]) hx hb dX5_keeps_46 hl (k := 2) rfl (by rfl) (by decide) rfl (fun ls hl => ?_)
            refine lv_goto (tgt := 24) hx hb dX5_keeps_49 (by decide) ?_
            exact ih5 _ _ hF _ _ hP hD hS ls (lv_sub hl [1, 2, 0] rfl)
      exact loop5 1000 _ _ hF _ _ hP hD hS ls (lv_sub hl [1, 2, 0] rfl)
  · have hF := ob_neg c1 hF
    cases hF
    rw [hQ]
    exact jb_vret hx hb hr hlocks hP hD hS dX5_keeps_12 (Nat.le_of_ble_eq_true rfl) (Nat.le_of_ble_eq_true rfl)
def F_X5_keeps_b_L24  (k : Mv → Int32 → Option (Mv)) : Nat → Mv → Int32 → Option (Mv)
  | 0, _, _ => none
  | n + 1, b0, x2 => if 581 ≤ x2 then k b0 x2 else ck (inb (x2 + 83) 664) (ck (inb x2 664) (F_X5_keeps_b_L24  k n (mkM (M_g b0) (upd (M_kept b0) x2.toNatClampNeg ((M_kept b0) (x2 + 83).toNatClampNeg)) (M_saved b0) (M_before b0) (M_trial b0) (M_counted b0) (M_isSaved b0) (M_changes b0) (M_isWithin b0) (M_isDenied b0) (M_code b0) (M_why b0) (M_detail b0) (M_cause b0) (M_input b0) (M_length b0) (M_fault b0) (M_signs b0) (M_signMany b0) (M_lastOver b0) (M_at b0) (M_told b0) (M_toldMany b0)) (x2 + 1)))
def F_X5_keeps_b (mo : Mv) : Option (Mv) := if (M_isWithin mo) = 0 then if ¬ (M_changes mo) = 8 then (F_X5_copies 83 664 (M_before mo) (M_kept mo) 0 (83 * (M_changes mo))).bind (fun z1 => some (mkM (M_g mo) z1 (M_saved mo) (M_before mo) (M_trial mo) (M_counted mo) (M_isSaved mo) ((M_changes mo) + 1) (M_isWithin mo) (M_isDenied mo) 0 (M_why mo) (M_detail mo) (M_cause mo) (M_input mo) (M_length mo) (M_fault mo) (M_signs mo) (M_signMany mo) (M_lastOver mo) (M_at mo) (M_told mo) (M_toldMany mo))) else F_X5_keeps_b_L24  (fun b2 x3 => (F_X5_copies 83 664 (M_before b2) (M_kept b2) 0 (83 * ((M_changes b2) - 1))).bind (fun z4 => some (mkM (M_g b2) z4 (M_saved b2) (M_before b2) (M_trial b2) (M_counted b2) (M_isSaved b2) (((M_changes b2) - 1) + 1) (M_isWithin b2) (M_isDenied b2) (M_code b2) (M_why b2) (M_detail b2) (M_cause b2) (M_input b2) (M_length b2) (M_fault b2) (M_signs b2) (M_signMany b2) (M_lastOver b2) (M_at b2) (M_told b2) (M_toldMany b2)))) 1000 (mkM (M_g mo) (M_kept mo) (M_saved mo) (M_before mo) (M_trial mo) (M_counted mo) (M_isSaved mo) (M_changes mo) (M_isWithin mo) (M_isDenied mo) 0 (M_why mo) (M_detail mo) (M_cause mo) (M_input mo) (M_length mo) (M_fault mo) (M_signs mo) (M_signMany mo) (M_lastOver mo) (M_at mo) (M_told mo) (M_toldMany mo)) 0 else some (mkM (M_g mo) (M_kept mo) (M_saved mo) (M_before mo) (M_trial mo) (M_counted mo) (M_isSaved mo) (M_changes mo) (M_isWithin mo) (M_isDenied mo) 0 (M_why mo) (M_detail mo) (M_cause mo) (M_input mo) (M_length mo) (M_fault mo) (M_signs mo) (M_signMany mo) (M_lastOver mo) (M_at mo) (M_told mo) (M_toldMany mo))
set_option maxHeartbeats 4000000 in
set_option maxRecDepth 100000 in
theorem c_X5_keeps_b (g : GG) (l : Launch) (a : Nat → Nat) (mo : Mv) (z : Mv) (hF : F_X5_keeps_b mo = some z) : MV g l yX5_keeps cX5_keeps 3 none ({ frames := 1, cells := 0, slots := 0, locals := 24 } : Room) [.ref (a 0), .ref (a 4)] [wM g a mo] 0 0 [wM g a z] := by
  refine MV.bg (by decide) (Nat.le_of_ble_eq_true rfl) ?_
  intro p e s m below meth c A Q hQ hx hb hr hml hown hts hlocks hmn hK hE hA hP hD hS ls hl
  rw [F_X5_keeps_b] at hF
  have hl : lv_has ls 3 [(0, .ref (a 0)), (1, .ref (a 4))] := hl
  refine lv_aload_n hx hb dX5_keeps_0 rfl (lv_at hl 0 rfl) ?_
  refine lv_iconst (v := 0) hx hb dX5_keeps_1 (by decide) ?_
  refine va_put (D := g.1) (ci := 9) (v := .int 0) (ty := .int) (C := RX5) (T := TX5) (N := 23) hx hb hts inX5 tyX5 tyX5_ok nmX5 hown hK hP hD hS 0 rfl rfl 10 (by decide) (hts _ mw_1321) (fun _ h9 => h9) rfl (by decide +kernel) rfl rfl (Nat.le_of_ble_eq_true rfl) dX5_keeps_2 (fun H locs hP hD hS => ?_)
  have hP : va_P g.1 vwCl ([wMc g a (M_g mo) (M_kept mo) (M_saved mo) (M_before mo) (M_trial mo) (M_counted mo) (M_isSaved mo) (M_changes mo) (M_isWithin mo) (M_isDenied mo) 0 (M_why mo) (M_detail mo) (M_cause mo) (M_input mo) (M_length mo) (M_fault mo) (M_signs mo) (M_signMany mo) (M_lastOver mo) (M_at mo) (M_told mo) (M_toldMany mo)] : List va_W).flatten _ := hP
  have hD : va_D A ([wMc g a (M_g mo) (M_kept mo) (M_saved mo) (M_before mo) (M_trial mo) (M_counted mo) (M_isSaved mo) (M_changes mo) (M_isWithin mo) (M_isDenied mo) 0 (M_why mo) (M_detail mo) (M_cause mo) (M_input mo) (M_length mo) (M_fault mo) (M_signs mo) (M_signMany mo) (M_lastOver mo) (M_at mo) (M_told mo) (M_toldMany mo)] : List va_W).flatten := hD
  refine lv_aload_n hx hb dX5_keeps_5 rfl (lv_at hl 0 rfl) ?_
  refine va_get (D := g.1) (ci := 9) (v := .int (M_isWithin mo)) (C := RX5) (T := TX5) (N := 23) hx hb hts inX5 hown hK hP 0 rfl rfl 8 (by decide) (hts _ mw_1319) (fun _ h9 => h9) rfl dX5_keeps_6 ?_
  refine lv_if_eq (tgt := 13) hx hb dX5_keeps_9 (by decide) (fun c1 => ?_) (fun c1 => ?_)
  · have hF := ob_pos c1 hF
    refine lv_aload_n hx hb dX5_keeps_13 rfl (lv_at hl 0 rfl) ?_
    refine va_get (D := g.1) (ci := 9) (v := .int (M_changes mo)) (C := RX5) (T := TX5) (N := 23) hx hb hts inX5 hown hK hP 0 rfl rfl 7 (by decide) (hts _ mw_1318) (fun _ h9 => h9) rfl dX5_keeps_14 ?_
    refine lv_bipush (v := 8) hx hb dX5_keeps_17 (by decide) ?_
    refine lv_icmp_ne (tgt := 62) hx hb dX5_keeps_19 (by decide) (fun c2 => ?_) (fun c2 => ?_)
    · have hF := ob_pos c2 hF
      refine lv_aload_n hx hb dX5_keeps_62 rfl (lv_at hl 1 rfl) ?_
      refine lv_iconst (v := 0) hx hb dX5_keeps_63 (by decide) ?_
      refine lv_aload_n hx hb dX5_keeps_64 rfl (lv_at hl 0 rfl) ?_
      refine va_get (D := g.1) (ci := 9) (v := .ref (a 2)) (C := RX5) (T := TX5) (N := 23) hx hb hts inX5 hown hK hP 0 rfl rfl 1 (by decide) (hts _ mw_1312) (fun _ h9 => h9) rfl dX5_keeps_65 ?_
      refine lv_bipush (v := 83) hx hb dX5_keeps_68 (by decide) ?_
      refine lv_aload_n hx hb dX5_keeps_70 rfl (lv_at hl 0 rfl) ?_
      refine va_get (D := g.1) (ci := 9) (v := .int (M_changes mo)) (C := RX5) (T := TX5) (N := 23) hx hb hts inX5 hown hK hP 0 rfl rfl 7 (by decide) (hts _ mw_1318) (fun _ h9 => h9) rfl dX5_keeps_71 ?_
      refine lv_imul hx hb dX5_keeps_74 ?_
      obtain ⟨z3, hz3, hF⟩ := ob_bind hF
      have hP : va_P g.1 vwCl ([[(a 0, .inr (9, [.ref (a 1), .ref (a 2), .ref (a 3), .ref (a 4), .ref (a 5), .ref (a 6), .int (M_isSaved mo), .int (M_changes mo), .int (M_isWithin mo), .int (M_isDenied mo), .int 0, .int (M_why mo), .int (M_detail mo), .int (M_cause mo), .ref (a 7), .int (M_length mo), .int (M_fault mo), .ref (a 8), .int (M_signMany mo), .int (M_lastOver mo), .int (M_at mo), .ref (a 9), .int (M_toldMany mo)]))], [(a 1, .inl (g.2.1 0, 83, .inl (M_g mo)))], [(a 2, .inl (g.2.1 0, 664, .inl (M_kept mo)))], [(a 3, .inl (g.2.1 0, 83, .inl (M_saved mo)))], [(a 4, .inl (g.2.1 0, 83, .inl (M_before mo)))], [(a 5, .inl (g.2.1 0, 83, .inl (M_trial mo)))], [(a 6, .inl (g.2.1 0, 10, .inl (M_counted mo)))], [(a 7, .inl (g.2.1 0, 60, .inl (M_input mo)))], [(a 8, .inl (g.2.1 1, 200, .inl (M_signs mo)))], [(a 9, .inl (g.2.1 0, 93, .inl (M_told mo)))]] : List va_W).flatten _ := hP
      have hD : va_D A ([[(a 0, .inr (9, [.ref (a 1), .ref (a 2), .ref (a 3), .ref (a 4), .ref (a 5), .ref (a 6), .int (M_isSaved mo), .int (M_changes mo), .int (M_isWithin mo), .int (M_isDenied mo), .int 0, .int (M_why mo), .int (M_detail mo), .int (M_cause mo), .ref (a 7), .int (M_length mo), .int (M_fault mo), .ref (a 8), .int (M_signMany mo), .int (M_lastOver mo), .int (M_at mo), .ref (a 9), .int (M_toldMany mo)]))], [(a 1, .inl (g.2.1 0, 83, .inl (M_g mo)))], [(a 2, .inl (g.2.1 0, 664, .inl (M_kept mo)))], [(a 3, .inl (g.2.1 0, 83, .inl (M_saved mo)))], [(a 4, .inl (g.2.1 0, 83, .inl (M_before mo)))], [(a 5, .inl (g.2.1 0, 83, .inl (M_trial mo)))], [(a 6, .inl (g.2.1 0, 10, .inl (M_counted mo)))], [(a 7, .inl (g.2.1 0, 60, .inl (M_input mo)))], [(a 8, .inl (g.2.1 1, 200, .inl (M_signs mo)))], [(a 9, .inl (g.2.1 0, 93, .inl (M_told mo)))]] : List va_W).flatten := hD
      refine cl_sv (csR := [[(a 0, .inr (9, [.ref (a 1), .ref (a 2), .ref (a 3), .ref (a 4), .ref (a 5), .ref (a 6), .int (M_isSaved mo), .int (M_changes mo), .int (M_isWithin mo), .int (M_isDenied mo), .int 0, .int (M_why mo), .int (M_detail mo), .int (M_cause mo), .ref (a 7), .int (M_length mo), .int (M_fault mo), .ref (a 8), .int (M_signMany mo), .int (M_lastOver mo), .int (M_at mo), .ref (a 9), .int (M_toldMany mo)]))], [(a 1, .inl (g.2.1 0, 83, .inl (M_g mo)))], [(a 3, .inl (g.2.1 0, 83, .inl (M_saved mo)))], [(a 5, .inl (g.2.1 0, 83, .inl (M_trial mo)))], [(a 6, .inl (g.2.1 0, 10, .inl (M_counted mo)))], [(a 7, .inl (g.2.1 0, 60, .inl (M_input mo)))], [(a 8, .inl (g.2.1 1, 200, .inl (M_signs mo)))], [(a 9, .inl (g.2.1 0, 93, .inl (M_told mo)))]]) (csF := [[(a 0, .inr (9, [.ref (a 1), .ref (a 2), .ref (a 3), .ref (a 4), .ref (a 5), .ref (a 6), .int (M_isSaved mo), .int (M_changes mo), .int (M_isWithin mo), .int (M_isDenied mo), .int 0, .int (M_why mo), .int (M_detail mo), .int (M_cause mo), .ref (a 7), .int (M_length mo), .int (M_fault mo), .ref (a 8), .int (M_signMany mo), .int (M_lastOver mo), .int (M_at mo), .ref (a 9), .int (M_toldMany mo)]))], [(a 1, .inl (g.2.1 0, 83, .inl (M_g mo)))], [(a 2, .inl (g.2.1 0, 664, .inl z3))], [(a 3, .inl (g.2.1 0, 83, .inl (M_saved mo)))], [(a 4, .inl (g.2.1 0, 83, .inl (M_before mo)))], [(a 5, .inl (g.2.1 0, 83, .inl (M_trial mo)))], [(a 6, .inl (g.2.1 0, 10, .inl (M_counted mo)))], [(a 7, .inl (g.2.1 0, 60, .inl (M_input mo)))], [(a 8, .inl (g.2.1 1, 200, .inl (M_signs mo)))], [(a 9, .inl (g.2.1 0, 93, .inl (M_told mo)))]]) (rest := []) hx hb hml hown hts hK hE hA hl hP hD hS (c_X5_copies g l (fun _ => a 4) 83 (fun _ => a 2) 664 (M_before mo) (M_kept mo) 0 (83 * (M_changes mo)) z3 hz3) [4, 2] [0, 1, 3, 5, 6, 7, 8, 9] [0, 1, 9, 2, 8, 3, 4, 5, 6, 7] ⟨rfl, rfl, rfl, rfl, rfl, rfl, rfl⟩ 4 (jb_giS mw_1404 mw_1405 mw_10 mw_1406) ⟨rfl, rfl⟩ (by decide +kernel) ⟨⟨(Nat.le_of_ble_eq_true rfl), (Nat.le_of_ble_eq_true rfl)⟩, (Nat.le_of_ble_eq_true rfl), (Nat.le_of_ble_eq_true rfl)⟩ ⟨rfl, rfl⟩ (Nat.le_of_ble_eq_true rfl) dX5_keeps_75 (fun H locs hP hD hS => ?_)
      have hP : va_P g.1 vwCl ([wMc g a (M_g mo) z3 (M_saved mo) (M_before mo) (M_trial mo) (M_counted mo) (M_isSaved mo) (M_changes mo) (M_isWithin mo) (M_isDenied mo) 0 (M_why mo) (M_detail mo) (M_cause mo) (M_input mo) (M_length mo) (M_fault mo) (M_signs mo) (M_signMany mo) (M_lastOver mo) (M_at mo) (M_told mo) (M_toldMany mo)] : List va_W).flatten _ := hP
      have hD : va_D A ([wMc g a (M_g mo) z3 (M_saved mo) (M_before mo) (M_trial mo) (M_counted mo) (M_isSaved mo) (M_changes mo) (M_isWithin mo) (M_isDenied mo) 0 (M_why mo) (M_detail mo) (M_cause mo) (M_input mo) (M_length mo) (M_fault mo) (M_signs mo) (M_signMany mo) (M_lastOver mo) (M_at mo) (M_told mo) (M_toldMany mo)] : List va_W).flatten := hD
      refine lv_aload_n hx hb dX5_keeps_78 rfl (lv_at hl 0 rfl) ?_
      refine lv_dup hx hb dX5_keeps_79 rfl ?_
      refine va_get (D := g.1) (ci := 9) (v := .int (M_changes mo)) (C := RX5) (T := TX5) (N := 23) hx hb hts inX5 hown hK hP 0 rfl rfl 7 (by decide) (hts _ mw_1318) (fun _ h9 => h9) rfl dX5_keeps_80 ?_
      refine lv_iconst (v := 1) hx hb dX5_keeps_83 (by decide) ?_
      refine lv_iadd hx hb dX5_keeps_84 ?_
      refine va_put (D := g.1) (ci := 9) (v := .int ((M_changes mo) + 1)) (ty := .int) (C := RX5) (T := TX5) (N := 23) hx hb hts inX5 tyX5 tyX5_ok nmX5 hown hK hP hD hS 0 rfl rfl 7 (by decide) (hts _ mw_1318) (fun _ h9 => h9) rfl (by decide +kernel) rfl rfl (Nat.le_of_ble_eq_true rfl) dX5_keeps_85 (fun H locs hP hD hS => ?_)
      have hP : va_P g.1 vwCl ([wMc g a (M_g mo) z3 (M_saved mo) (M_before mo) (M_trial mo) (M_counted mo) (M_isSaved mo) ((M_changes mo) + 1) (M_isWithin mo) (M_isDenied mo) 0 (M_why mo) (M_detail mo) (M_cause mo) (M_input mo) (M_length mo) (M_fault mo) (M_signs mo) (M_signMany mo) (M_lastOver mo) (M_at mo) (M_told mo) (M_toldMany mo)] : List va_W).flatten _ := hP
      have hD : va_D A ([wMc g a (M_g mo) z3 (M_saved mo) (M_before mo) (M_trial mo) (M_counted mo) (M_isSaved mo) ((M_changes mo) + 1) (M_isWithin mo) (M_isDenied mo) 0 (M_why mo) (M_detail mo) (M_cause mo) (M_input mo) (M_length mo) (M_fault mo) (M_signs mo) (M_signMany mo) (M_lastOver mo) (M_at mo) (M_told mo) (M_toldMany mo)] : List va_W).flatten := hD
      cases hF
      rw [hQ]
      exact jb_vret hx hb hr hlocks hP hD hS dX5_keeps_88 (Nat.le_of_ble_eq_true rfl) (Nat.le_of_ble_eq_true rfl)
    · have hF := ob_nneg c2 hF
      refine lv_iconst (v := 0) hx hb dX5_keeps_22 (by decide) ?_
      refine lv_istore_n (lv' := [(2, .int 0), (0, .ref (a 0)), (1, .ref (a 4))]) hx hb dX5_keeps_23 rfl hl (by decide) rfl (fun ls hl => ?_)
      obtain ⟨k5, ek5, hF⟩ := ob_k (F := fun k9 => F_X5_keeps_b_L24  k9 1000 (mkM (M_g mo) (M_kept mo) (M_saved mo) (M_before mo) (M_trial mo) (M_counted mo) (M_isSaved mo) (M_changes mo) (M_isWithin mo) (M_isDenied mo) 0 (M_why mo) (M_detail mo) (M_cause mo) (M_input mo) (M_length mo) (M_fault mo) (M_signs mo) (M_signMany mo) (M_lastOver mo) (M_at mo) (M_told mo) (M_toldMany mo)) 0) hF
      have loop5 : ∀ (n9 : Nat) (b4 : Mv) (x5 : Int32), F_X5_keeps_b_L24  k5 n9 b4 x5 = some z → ∀ (H : Heap) (locs : List Loc), va_P g.1 vwCl ([wM g a b4] : List va_W).flatten H → va_D A ([wM g a b4] : List va_W).flatten → va_S A s.heap H locs → ∀ ls : Array Slot, lv_has ls 3 [(0, .ref (a 0)), (1, .ref (a 4)), (2, .int x5)] → W p l e ({ frames := 1, cells := 0, slots := 0, locals := 24 } : Room) s m ([.ref (a 0), .ref (a 4)] : List Value).toArray below meth c H locs 0 0 Q (F0 m 24 ls []) := by
        intro n9
        induction n9 with
        | zero => intro b4 x5 hF; rw [F_X5_keeps_b_L24] at hF; cases hF
        | succ n9 ih5 =>
          intro b4 x5 hF H locs hP hD hS ls hl
          rw [F_X5_keeps_b_L24] at hF
          refine lv_iload_n hx hb dX5_keeps_24 rfl (lv_at hl 2 rfl) ?_
          refine lv_sipush (v := 581) hx hb dX5_keeps_25 (by decide) ?_
          refine lv_icmp_ge (tgt := 52) hx hb dX5_keeps_28 (by decide) (fun c6 => ?_) (fun c6 => ?_)
          · have hF := ob_pos c6 hF
            rw [ek5] at hF
            refine lv_aload_n hx hb dX5_keeps_52 rfl (lv_at hl 0 rfl) ?_
            refine lv_dup hx hb dX5_keeps_53 rfl ?_
            refine va_get (D := g.1) (ci := 9) (v := .int (M_changes b4)) (C := RX5) (T := TX5) (N := 23) hx hb hts inX5 hown hK hP 0 rfl rfl 7 (by decide) (hts _ mw_1318) (fun _ h9 => h9) rfl dX5_keeps_54 ?_
            refine lv_iconst (v := 1) hx hb dX5_keeps_57 (by decide) ?_
            refine lv_isub hx hb dX5_keeps_58 ?_
            refine va_put (D := g.1) (ci := 9) (v := .int ((M_changes b4) - 1)) (ty := .int) (C := RX5) (T := TX5) (N := 23) hx hb hts inX5 tyX5 tyX5_ok nmX5 hown hK hP hD hS 0 rfl rfl 7 (by decide) (hts _ mw_1318) (fun _ h9 => h9) rfl (by decide +kernel) rfl rfl (Nat.le_of_ble_eq_true rfl) dX5_keeps_59 (fun H locs hP hD hS => ?_)
            have hP : va_P g.1 vwCl ([wMc g a (M_g b4) (M_kept b4) (M_saved b4) (M_before b4) (M_trial b4) (M_counted b4) (M_isSaved b4) ((M_changes b4) - 1) (M_isWithin b4) (M_isDenied b4) (M_code b4) (M_why b4) (M_detail b4) (M_cause b4) (M_input b4) (M_length b4) (M_fault b4) (M_signs b4) (M_signMany b4) (M_lastOver b4) (M_at b4) (M_told b4) (M_toldMany b4)] : List va_W).flatten _ := hP
            have hD : va_D A ([wMc g a (M_g b4) (M_kept b4) (M_saved b4) (M_before b4) (M_trial b4) (M_counted b4) (M_isSaved b4) ((M_changes b4) - 1) (M_isWithin b4) (M_isDenied b4) (M_code b4) (M_why b4) (M_detail b4) (M_cause b4) (M_input b4) (M_length b4) (M_fault b4) (M_signs b4) (M_signMany b4) (M_lastOver b4) (M_at b4) (M_told b4) (M_toldMany b4)] : List va_W).flatten := hD
            refine lv_aload_n hx hb dX5_keeps_62 rfl (lv_at hl 1 rfl) ?_
            refine lv_iconst (v := 0) hx hb dX5_keeps_63 (by decide) ?_
            refine lv_aload_n hx hb dX5_keeps_64 rfl (lv_at hl 0 rfl) ?_
            refine va_get (D := g.1) (ci := 9) (v := .ref (a 2)) (C := RX5) (T := TX5) (N := 23) hx hb hts inX5 hown hK hP 0 rfl rfl 1 (by decide) (hts _ mw_1312) (fun _ h9 => h9) rfl dX5_keeps_65 ?_
            refine lv_bipush (v := 83) hx hb dX5_keeps_68 (by decide) ?_
            refine lv_aload_n hx hb dX5_keeps_70 rfl (lv_at hl 0 rfl) ?_
            refine va_get (D := g.1) (ci := 9) (v := .int ((M_changes b4) - 1)) (C := RX5) (T := TX5) (N := 23) hx hb hts inX5 hown hK hP 0 rfl rfl 7 (by decide) (hts _ mw_1318) (fun _ h9 => h9) rfl dX5_keeps_71 ?_
            refine lv_imul hx hb dX5_keeps_74 ?_
            obtain ⟨z7, hz7, hF⟩ := ob_bind hF
            have hP : va_P g.1 vwCl ([[(a 0, .inr (9, [.ref (a 1), .ref (a 2), .ref (a 3), .ref (a 4), .ref (a 5), .ref (a 6), .int (M_isSaved b4), .int ((M_changes b4) - 1), .int (M_isWithin b4), .int (M_isDenied b4), .int (M_code b4), .int (M_why b4), .int (M_detail b4), .int (M_cause b4), .ref (a 7), .int (M_length b4), .int (M_fault b4), .ref (a 8), .int (M_signMany b4), .int (M_lastOver b4), .int (M_at b4), .ref (a 9), .int (M_toldMany b4)]))], [(a 1, .inl (g.2.1 0, 83, .inl (M_g b4)))], [(a 2, .inl (g.2.1 0, 664, .inl (M_kept b4)))], [(a 3, .inl (g.2.1 0, 83, .inl (M_saved b4)))], [(a 4, .inl (g.2.1 0, 83, .inl (M_before b4)))], [(a 5, .inl (g.2.1 0, 83, .inl (M_trial b4)))], [(a 6, .inl (g.2.1 0, 10, .inl (M_counted b4)))], [(a 7, .inl (g.2.1 0, 60, .inl (M_input b4)))], [(a 8, .inl (g.2.1 1, 200, .inl (M_signs b4)))], [(a 9, .inl (g.2.1 0, 93, .inl (M_told b4)))]] : List va_W).flatten _ := hP
            have hD : va_D A ([[(a 0, .inr (9, [.ref (a 1), .ref (a 2), .ref (a 3), .ref (a 4), .ref (a 5), .ref (a 6), .int (M_isSaved b4), .int ((M_changes b4) - 1), .int (M_isWithin b4), .int (M_isDenied b4), .int (M_code b4), .int (M_why b4), .int (M_detail b4), .int (M_cause b4), .ref (a 7), .int (M_length b4), .int (M_fault b4), .ref (a 8), .int (M_signMany b4), .int (M_lastOver b4), .int (M_at b4), .ref (a 9), .int (M_toldMany b4)]))], [(a 1, .inl (g.2.1 0, 83, .inl (M_g b4)))], [(a 2, .inl (g.2.1 0, 664, .inl (M_kept b4)))], [(a 3, .inl (g.2.1 0, 83, .inl (M_saved b4)))], [(a 4, .inl (g.2.1 0, 83, .inl (M_before b4)))], [(a 5, .inl (g.2.1 0, 83, .inl (M_trial b4)))], [(a 6, .inl (g.2.1 0, 10, .inl (M_counted b4)))], [(a 7, .inl (g.2.1 0, 60, .inl (M_input b4)))], [(a 8, .inl (g.2.1 1, 200, .inl (M_signs b4)))], [(a 9, .inl (g.2.1 0, 93, .inl (M_told b4)))]] : List va_W).flatten := hD
            refine cl_sv (csR := [[(a 0, .inr (9, [.ref (a 1), .ref (a 2), .ref (a 3), .ref (a 4), .ref (a 5), .ref (a 6), .int (M_isSaved b4), .int ((M_changes b4) - 1), .int (M_isWithin b4), .int (M_isDenied b4), .int (M_code b4), .int (M_why b4), .int (M_detail b4), .int (M_cause b4), .ref (a 7), .int (M_length b4), .int (M_fault b4), .ref (a 8), .int (M_signMany b4), .int (M_lastOver b4), .int (M_at b4), .ref (a 9), .int (M_toldMany b4)]))], [(a 1, .inl (g.2.1 0, 83, .inl (M_g b4)))], [(a 3, .inl (g.2.1 0, 83, .inl (M_saved b4)))], [(a 5, .inl (g.2.1 0, 83, .inl (M_trial b4)))], [(a 6, .inl (g.2.1 0, 10, .inl (M_counted b4)))], [(a 7, .inl (g.2.1 0, 60, .inl (M_input b4)))], [(a 8, .inl (g.2.1 1, 200, .inl (M_signs b4)))], [(a 9, .inl (g.2.1 0, 93, .inl (M_told b4)))]]) (csF := [[(a 0, .inr (9, [.ref (a 1), .ref (a 2), .ref (a 3), .ref (a 4), .ref (a 5), .ref (a 6), .int (M_isSaved b4), .int ((M_changes b4) - 1), .int (M_isWithin b4), .int (M_isDenied b4), .int (M_code b4), .int (M_why b4), .int (M_detail b4), .int (M_cause b4), .ref (a 7), .int (M_length b4), .int (M_fault b4), .ref (a 8), .int (M_signMany b4), .int (M_lastOver b4), .int (M_at b4), .ref (a 9), .int (M_toldMany b4)]))], [(a 1, .inl (g.2.1 0, 83, .inl (M_g b4)))], [(a 2, .inl (g.2.1 0, 664, .inl z7))], [(a 3, .inl (g.2.1 0, 83, .inl (M_saved b4)))], [(a 4, .inl (g.2.1 0, 83, .inl (M_before b4)))], [(a 5, .inl (g.2.1 0, 83, .inl (M_trial b4)))], [(a 6, .inl (g.2.1 0, 10, .inl (M_counted b4)))], [(a 7, .inl (g.2.1 0, 60, .inl (M_input b4)))], [(a 8, .inl (g.2.1 1, 200, .inl (M_signs b4)))], [(a 9, .inl (g.2.1 0, 93, .inl (M_told b4)))]]) (rest := []) hx hb hml hown hts hK hE hA hl hP hD hS (c_X5_copies g l (fun _ => a 4) 83 (fun _ => a 2) 664 (M_before b4) (M_kept b4) 0 (83 * ((M_changes b4) - 1)) z7 hz7) [4, 2] [0, 1, 3, 5, 6, 7, 8, 9] [0, 1, 9, 2, 8, 3, 4, 5, 6, 7] ⟨rfl, rfl, rfl, rfl, rfl, rfl, rfl⟩ 4 (jb_giS mw_1404 mw_1405 mw_10 mw_1406) ⟨rfl, rfl⟩ (by decide +kernel) ⟨⟨(Nat.le_of_ble_eq_true rfl), (Nat.le_of_ble_eq_true rfl)⟩, (Nat.le_of_ble_eq_true rfl), (Nat.le_of_ble_eq_true rfl)⟩ ⟨rfl, rfl⟩ (Nat.le_of_ble_eq_true rfl) dX5_keeps_75 (fun H locs hP hD hS => ?_)
            have hP : va_P g.1 vwCl ([wMc g a (M_g b4) z7 (M_saved b4) (M_before b4) (M_trial b4) (M_counted b4) (M_isSaved b4) ((M_changes b4) - 1) (M_isWithin b4) (M_isDenied b4) (M_code b4) (M_why b4) (M_detail b4) (M_cause b4) (M_input b4) (M_length b4) (M_fault b4) (M_signs b4) (M_signMany b4) (M_lastOver b4) (M_at b4) (M_told b4) (M_toldMany b4)] : List va_W).flatten _ := hP
            have hD : va_D A ([wMc g a (M_g b4) z7 (M_saved b4) (M_before b4) (M_trial b4) (M_counted b4) (M_isSaved b4) ((M_changes b4) - 1) (M_isWithin b4) (M_isDenied b4) (M_code b4) (M_why b4) (M_detail b4) (M_cause b4) (M_input b4) (M_length b4) (M_fault b4) (M_signs b4) (M_signMany b4) (M_lastOver b4) (M_at b4) (M_told b4) (M_toldMany b4)] : List va_W).flatten := hD
            refine lv_aload_n hx hb dX5_keeps_78 rfl (lv_at hl 0 rfl) ?_
            refine lv_dup hx hb dX5_keeps_79 rfl ?_
            refine va_get (D := g.1) (ci := 9) (v := .int ((M_changes b4) - 1)) (C := RX5) (T := TX5) (N := 23) hx hb hts inX5 hown hK hP 0 rfl rfl 7 (by decide) (hts _ mw_1318) (fun _ h9 => h9) rfl dX5_keeps_80 ?_
            refine lv_iconst (v := 1) hx hb dX5_keeps_83 (by decide) ?_
            refine lv_iadd hx hb dX5_keeps_84 ?_
            refine va_put (D := g.1) (ci := 9) (v := .int (((M_changes b4) - 1) + 1)) (ty := .int) (C := RX5) (T := TX5) (N := 23) hx hb hts inX5 tyX5 tyX5_ok nmX5 hown hK hP hD hS 0 rfl rfl 7 (by decide) (hts _ mw_1318) (fun _ h9 => h9) rfl (by decide +kernel) rfl rfl (Nat.le_of_ble_eq_true rfl) dX5_keeps_85 (fun H locs hP hD hS => ?_)
            have hP : va_P g.1 vwCl ([wMc g a (M_g b4) z7 (M_saved b4) (M_before b4) (M_trial b4) (M_counted b4) (M_isSaved b4) (((M_changes b4) - 1) + 1) (M_isWithin b4) (M_isDenied b4) (M_code b4) (M_why b4) (M_detail b4) (M_cause b4) (M_input b4) (M_length b4) (M_fault b4) (M_signs b4) (M_signMany b4) (M_lastOver b4) (M_at b4) (M_told b4) (M_toldMany b4)] : List va_W).flatten _ := hP
            have hD : va_D A ([wMc g a (M_g b4) z7 (M_saved b4) (M_before b4) (M_trial b4) (M_counted b4) (M_isSaved b4) (((M_changes b4) - 1) + 1) (M_isWithin b4) (M_isDenied b4) (M_code b4) (M_why b4) (M_detail b4) (M_cause b4) (M_input b4) (M_length b4) (M_fault b4) (M_signs b4) (M_signMany b4) (M_lastOver b4) (M_at b4) (M_told b4) (M_toldMany b4)] : List va_W).flatten := hD
            cases hF
            rw [hQ]
            exact jb_vret hx hb hr hlocks hP hD hS dX5_keeps_88 (Nat.le_of_ble_eq_true rfl) (Nat.le_of_ble_eq_true rfl)
          · have hF := ob_neg c6 hF
            refine lv_aload_n hx hb dX5_keeps_31 rfl (lv_at hl 0 rfl) ?_
            refine va_get (D := g.1) (ci := 9) (v := .ref (a 2)) (C := RX5) (T := TX5) (N := 23) hx hb hts inX5 hown hK hP 0 rfl rfl 1 (by decide) (hts _ mw_1312) (fun _ h9 => h9) rfl dX5_keeps_32 ?_
            refine lv_iload_n hx hb dX5_keeps_35 rfl (lv_at hl 2 rfl) ?_
            refine lv_aload_n hx hb dX5_keeps_36 rfl (lv_at hl 0 rfl) ?_
            refine va_get (D := g.1) (ci := 9) (v := .ref (a 2)) (C := RX5) (T := TX5) (N := 23) hx hb hts inX5 hown hK hP 0 rfl rfl 1 (by decide) (hts _ mw_1312) (fun _ h9 => h9) rfl dX5_keeps_37 ?_
            refine lv_iload_n hx hb dX5_keeps_40 rfl (lv_at hl 2 rfl) ?_
            refine lv_bipush (v := 83) hx hb dX5_keeps_41 (by decide) ?_
            refine lv_iadd hx hb dX5_keeps_43 ?_
            have h8 := inb_in (ck_t hF)
            have hF := ck_s hF
            refine va_iald hx hb hK hP 2 0 rfl rfl h8 dX5_keeps_44 ?_
            have h9 := inb_in (ck_t hF)
            have hF := ck_s hF
            refine va_iast hx hb hK hP hD hS 2 0 rfl rfl h9 dX5_keeps_45 (fun H locs hP hD hS => ?_)
            have hP : va_P g.1 vwCl ([wMc g a (M_g b4) (upd (M_kept b4) x5.toNatClampNeg ((M_kept b4) (x5 + 83).toNatClampNeg)) (M_saved b4) (M_before b4) (M_trial b4) (M_counted b4) (M_isSaved b4) (M_changes b4) (M_isWithin b4) (M_isDenied b4) (M_code b4) (M_why b4) (M_detail b4) (M_cause b4) (M_input b4) (M_length b4) (M_fault b4) (M_signs b4) (M_signMany b4) (M_lastOver b4) (M_at b4) (M_told b4) (M_toldMany b4)] : List va_W).flatten _ := hP
            have hD : va_D A ([wMc g a (M_g b4) (upd (M_kept b4) x5.toNatClampNeg ((M_kept b4) (x5 + 83).toNatClampNeg)) (M_saved b4) (M_before b4) (M_trial b4) (M_counted b4) (M_isSaved b4) (M_changes b4) (M_isWithin b4) (M_isDenied b4) (M_code b4) (M_why b4) (M_detail b4) (M_cause b4) (M_input b4) (M_length b4) (M_fault b4) (M_signs b4) (M_signMany b4) (M_lastOver b4) (M_at b4) (M_told b4) (M_toldMany b4)] : List va_W).flatten := hD
            refine lv_iinc (v := x5 + 1) (lv' := [(2, .int (x5 + 1)), (0, .ref (a 0)), (1, .ref (a 4))]) hx hb dX5_keeps_46 hl (k := 2) rfl (by rfl) (by decide) rfl (fun ls hl => ?_)
            refine lv_goto (tgt := 24) hx hb dX5_keeps_49 (by decide) ?_
            exact ih5 _ _ hF _ _ hP hD hS ls (lv_sub hl [1, 2, 0] rfl)
      exact loop5 1000 _ _ hF _ _ hP hD hS ls (lv_sub hl [1, 2, 0] rfl)
  · have hF := ob_neg c1 hF
    cases hF
    rw [hQ]
    exact jb_vret hx hb hr hlocks hP hD hS dX5_keeps_12 (Nat.le_of_ble_eq_true rfl) (Nat.le_of_ble_eq_true rfl)
def F_X5_thrown (mo : Mv) : Option (Int32) := some (M_code mo)
set_option maxHeartbeats 4000000 in
set_option maxRecDepth 100000 in
theorem c_X5_thrown (g : GG) (l : Launch) (a : Nat → Nat) (mo : Mv) (z : Int32) (hF : F_X5_thrown mo = some z) : MI g l yX5_thrown cX5_thrown 1 (some .int) ({ frames := 0, cells := 0, slots := 0, locals := 0 } : Room) [.ref (a 0)] [wM g a mo] 0 0 z [wM g a mo] := by
  refine MI.bg (by decide) (Nat.le_of_ble_eq_true rfl) ?_
  intro p e s m below meth c A Q hQ hx hb hr hml hown hts hlocks hmn hK hE hA hP hD hS ls hl
  rw [F_X5_thrown] at hF
  have hl : lv_has ls 1 [(0, .ref (a 0))] := hl
  refine lv_aload_n hx hb dX5_thrown_0 rfl (lv_at hl 0 rfl) ?_
  refine va_get (D := g.1) (ci := 9) (v := .int (M_code mo)) (C := RX5) (T := TX5) (N := 23) hx hb hts inX5 hown hK hP 0 rfl rfl 10 (by decide) (hts _ mw_1321) (fun _ h9 => h9) rfl dX5_thrown_1 ?_
  cases hF
  rw [hQ]
  exact jb_iret hx hb hr hlocks hP hD hS dX5_thrown_4 rfl (Nat.le_of_ble_eq_true rfl) (Nat.le_of_ble_eq_true rfl)
def F_X5_fails (mo : Mv) (p0 : Int32) : Option (Bool × Mv) := if p0 ≤ 0 then some (false, (mkM (M_g mo) (M_kept mo) (M_saved mo) (M_before mo) (M_trial mo) (M_counted mo) (M_isSaved mo) (M_changes mo) (M_isWithin mo) 0 p0 (M_why mo) (M_detail mo) (M_cause mo) (M_input mo) (M_length mo) (M_fault mo) (M_signs mo) (M_signMany mo) (M_lastOver mo) (M_at mo) (M_told mo) (M_toldMany mo))) else some (true, (mkM (M_g mo) (M_kept mo) (M_saved mo) (M_before mo) (M_trial mo) (M_counted mo) (M_isSaved mo) (M_changes mo) (M_isWithin mo) 0 p0 (M_why mo) (M_detail mo) (M_cause mo) (M_input mo) (M_length mo) (M_fault mo) (M_signs mo) (M_signMany mo) (M_lastOver mo) (M_at mo) (M_told mo) (M_toldMany mo)))
set_option maxHeartbeats 4000000 in
set_option maxRecDepth 100000 in
theorem c_X5_fails (g : GG) (l : Launch) (a : Nat → Nat) (mo : Mv) (p0 : Int32) (z : Bool × Mv) (hF : F_X5_fails mo p0 = some z) : MI g l yX5_fails cX5_fails 2 (some .boolean) ({ frames := 0, cells := 0, slots := 0, locals := 0 } : Room) [.ref (a 0), .int p0] [wM g a mo] 0 0 (bi z.1) [wM g a z.2] := by
  refine MI.bg (by decide) (Nat.le_of_ble_eq_true rfl) ?_
  intro p e s m below meth c A Q hQ hx hb hr hml hown hts hlocks hmn hK hE hA hP hD hS ls hl
  rw [F_X5_fails] at hF
  have hl : lv_has ls 2 [(0, .ref (a 0)), (1, .int p0)] := hl
  refine lv_aload_n hx hb dX5_fails_0 rfl (lv_at hl 0 rfl) ?_
  refine lv_iload_n hx hb dX5_fails_1 rfl (lv_at hl 1 rfl) ?_
  refine va_put (D := g.1) (ci := 9) (v := .int p0) (ty := .int) (C := RX5) (T := TX5) (N := 23) hx hb hts inX5 tyX5 tyX5_ok nmX5 hown hK hP hD hS 0 rfl rfl 10 (by decide) (hts _ mw_1321) (fun _ h9 => h9) rfl (by decide +kernel) rfl rfl (Nat.le_of_ble_eq_true rfl) dX5_fails_2 (fun H locs hP hD hS => ?_)
  have hP : va_P g.1 vwCl ([wMc g a (M_g mo) (M_kept mo) (M_saved mo) (M_before mo) (M_trial mo) (M_counted mo) (M_isSaved mo) (M_changes mo) (M_isWithin mo) (M_isDenied mo) p0 (M_why mo) (M_detail mo) (M_cause mo) (M_input mo) (M_length mo) (M_fault mo) (M_signs mo) (M_signMany mo) (M_lastOver mo) (M_at mo) (M_told mo) (M_toldMany mo)] : List va_W).flatten _ := hP
  have hD : va_D A ([wMc g a (M_g mo) (M_kept mo) (M_saved mo) (M_before mo) (M_trial mo) (M_counted mo) (M_isSaved mo) (M_changes mo) (M_isWithin mo) (M_isDenied mo) p0 (M_why mo) (M_detail mo) (M_cause mo) (M_input mo) (M_length mo) (M_fault mo) (M_signs mo) (M_signMany mo) (M_lastOver mo) (M_at mo) (M_told mo) (M_toldMany mo)] : List va_W).flatten := hD
  refine lv_aload_n hx hb dX5_fails_5 rfl (lv_at hl 0 rfl) ?_
  refine lv_iconst (v := 0) hx hb dX5_fails_6 (by decide) ?_
  refine va_put (D := g.1) (ci := 9) (v := .int 0) (ty := .boolean) (C := RX5) (T := TX5) (N := 23) hx hb hts inX5 tyX5 tyX5_ok nmX5 hown hK hP hD hS 0 rfl rfl 9 (by decide) (hts _ mw_1320) (fun _ h9 => h9) rfl (by decide +kernel) rfl rfl (Nat.le_of_ble_eq_true rfl) dX5_fails_7 (fun H locs hP hD hS => ?_)
  have hP : va_P g.1 vwCl ([wMc g a (M_g mo) (M_kept mo) (M_saved mo) (M_before mo) (M_trial mo) (M_counted mo) (M_isSaved mo) (M_changes mo) (M_isWithin mo) 0 p0 (M_why mo) (M_detail mo) (M_cause mo) (M_input mo) (M_length mo) (M_fault mo) (M_signs mo) (M_signMany mo) (M_lastOver mo) (M_at mo) (M_told mo) (M_toldMany mo)] : List va_W).flatten _ := hP
  have hD : va_D A ([wMc g a (M_g mo) (M_kept mo) (M_saved mo) (M_before mo) (M_trial mo) (M_counted mo) (M_isSaved mo) (M_changes mo) (M_isWithin mo) 0 p0 (M_why mo) (M_detail mo) (M_cause mo) (M_input mo) (M_length mo) (M_fault mo) (M_signs mo) (M_signMany mo) (M_lastOver mo) (M_at mo) (M_told mo) (M_toldMany mo)] : List va_W).flatten := hD
  refine lv_iload_n hx hb dX5_fails_10 rfl (lv_at hl 1 rfl) ?_
  refine lv_if_le (tgt := 18) hx hb dX5_fails_11 (by decide) (fun c1 => ?_) (fun c1 => ?_)
  · have hF := ob_pos c1 hF
    refine lv_iconst (v := 0) hx hb dX5_fails_18 (by decide) ?_
    cases hF
    rw [hQ]
    exact jb_zret hx hb hr rfl hlocks hP hD hS dX5_fails_19 rfl (Nat.le_of_ble_eq_true rfl) (Nat.le_of_ble_eq_true rfl)
  · have hF := ob_neg c1 hF
    refine lv_iconst (v := 1) hx hb dX5_fails_14 (by decide) ?_
    refine lv_goto (tgt := 19) hx hb dX5_fails_15 (by decide) ?_
    cases hF
    rw [hQ]
    exact jb_zret hx hb hr rfl hlocks hP hD hS dX5_fails_19 rfl (Nat.le_of_ble_eq_true rfl) (Nat.le_of_ble_eq_true rfl)
def F_X5_denies (mo : Mv) (p0 : Int32) (p1 : Int32) (p2 : Int32) : Option (Int32 × Mv) := some (0, (mkM (M_g mo) (M_kept mo) (M_saved mo) (M_before mo) (M_trial mo) (M_counted mo) (M_isSaved mo) (M_changes mo) (M_isWithin mo) 1 p0 p1 p2 0 (M_input mo) (M_length mo) (M_fault mo) (M_signs mo) (M_signMany mo) (M_lastOver mo) (M_at mo) (M_told mo) (M_toldMany mo)))
set_option maxHeartbeats 4000000 in
set_option maxRecDepth 100000 in
theorem c_X5_denies (g : GG) (l : Launch) (a : Nat → Nat) (mo : Mv) (p0 : Int32) (p1 : Int32) (p2 : Int32) (z : Int32 × Mv) (hF : F_X5_denies mo p0 p1 p2 = some z) : MI g l yX5_denies cX5_denies 4 (some .int) ({ frames := 0, cells := 0, slots := 0, locals := 0 } : Room) [.ref (a 0), .int p0, .int p1, .int p2] [wM g a mo] 0 0 z.1 [wM g a z.2] := by
  refine MI.bg (by decide) (Nat.le_of_ble_eq_true rfl) ?_
  intro p e s m below meth c A Q hQ hx hb hr hml hown hts hlocks hmn hK hE hA hP hD hS ls hl
  rw [F_X5_denies] at hF
  have hl : lv_has ls 4 [(0, .ref (a 0)), (1, .int p0), (2, .int p1), (3, .int p2)] := hl
  refine lv_aload_n hx hb dX5_denies_0 rfl (lv_at hl 0 rfl) ?_
  refine lv_iload_n hx hb dX5_denies_1 rfl (lv_at hl 1 rfl) ?_
  refine va_put (D := g.1) (ci := 9) (v := .int p0) (ty := .int) (C := RX5) (T := TX5) (N := 23) hx hb hts inX5 tyX5 tyX5_ok nmX5 hown hK hP hD hS 0 rfl rfl 10 (by decide) (hts _ mw_1321) (fun _ h9 => h9) rfl (by decide +kernel) rfl rfl (Nat.le_of_ble_eq_true rfl) dX5_denies_2 (fun H locs hP hD hS => ?_)
  have hP : va_P g.1 vwCl ([wMc g a (M_g mo) (M_kept mo) (M_saved mo) (M_before mo) (M_trial mo) (M_counted mo) (M_isSaved mo) (M_changes mo) (M_isWithin mo) (M_isDenied mo) p0 (M_why mo) (M_detail mo) (M_cause mo) (M_input mo) (M_length mo) (M_fault mo) (M_signs mo) (M_signMany mo) (M_lastOver mo) (M_at mo) (M_told mo) (M_toldMany mo)] : List va_W).flatten _ := hP
  have hD : va_D A ([wMc g a (M_g mo) (M_kept mo) (M_saved mo) (M_before mo) (M_trial mo) (M_counted mo) (M_isSaved mo) (M_changes mo) (M_isWithin mo) (M_isDenied mo) p0 (M_why mo) (M_detail mo) (M_cause mo) (M_input mo) (M_length mo) (M_fault mo) (M_signs mo) (M_signMany mo) (M_lastOver mo) (M_at mo) (M_told mo) (M_toldMany mo)] : List va_W).flatten := hD
  refine lv_aload_n hx hb dX5_denies_5 rfl (lv_at hl 0 rfl) ?_
  refine lv_iconst (v := 1) hx hb dX5_denies_6 (by decide) ?_
  refine va_put (D := g.1) (ci := 9) (v := .int 1) (ty := .boolean) (C := RX5) (T := TX5) (N := 23) hx hb hts inX5 tyX5 tyX5_ok nmX5 hown hK hP hD hS 0 rfl rfl 9 (by decide) (hts _ mw_1320) (fun _ h9 => h9) rfl (by decide +kernel) rfl rfl (Nat.le_of_ble_eq_true rfl) dX5_denies_7 (fun H locs hP hD hS => ?_)
  have hP : va_P g.1 vwCl ([wMc g a (M_g mo) (M_kept mo) (M_saved mo) (M_before mo) (M_trial mo) (M_counted mo) (M_isSaved mo) (M_changes mo) (M_isWithin mo) 1 p0 (M_why mo) (M_detail mo) (M_cause mo) (M_input mo) (M_length mo) (M_fault mo) (M_signs mo) (M_signMany mo) (M_lastOver mo) (M_at mo) (M_told mo) (M_toldMany mo)] : List va_W).flatten _ := hP
  have hD : va_D A ([wMc g a (M_g mo) (M_kept mo) (M_saved mo) (M_before mo) (M_trial mo) (M_counted mo) (M_isSaved mo) (M_changes mo) (M_isWithin mo) 1 p0 (M_why mo) (M_detail mo) (M_cause mo) (M_input mo) (M_length mo) (M_fault mo) (M_signs mo) (M_signMany mo) (M_lastOver mo) (M_at mo) (M_told mo) (M_toldMany mo)] : List va_W).flatten := hD
  refine lv_aload_n hx hb dX5_denies_10 rfl (lv_at hl 0 rfl) ?_
  refine lv_iload_n hx hb dX5_denies_11 rfl (lv_at hl 2 rfl) ?_
  refine va_put (D := g.1) (ci := 9) (v := .int p1) (ty := .int) (C := RX5) (T := TX5) (N := 23) hx hb hts inX5 tyX5 tyX5_ok nmX5 hown hK hP hD hS 0 rfl rfl 11 (by decide) (hts _ mw_1322) (fun _ h9 => h9) rfl (by decide +kernel) rfl rfl (Nat.le_of_ble_eq_true rfl) dX5_denies_12 (fun H locs hP hD hS => ?_)
  have hP : va_P g.1 vwCl ([wMc g a (M_g mo) (M_kept mo) (M_saved mo) (M_before mo) (M_trial mo) (M_counted mo) (M_isSaved mo) (M_changes mo) (M_isWithin mo) 1 p0 p1 (M_detail mo) (M_cause mo) (M_input mo) (M_length mo) (M_fault mo) (M_signs mo) (M_signMany mo) (M_lastOver mo) (M_at mo) (M_told mo) (M_toldMany mo)] : List va_W).flatten _ := hP
  have hD : va_D A ([wMc g a (M_g mo) (M_kept mo) (M_saved mo) (M_before mo) (M_trial mo) (M_counted mo) (M_isSaved mo) (M_changes mo) (M_isWithin mo) 1 p0 p1 (M_detail mo) (M_cause mo) (M_input mo) (M_length mo) (M_fault mo) (M_signs mo) (M_signMany mo) (M_lastOver mo) (M_at mo) (M_told mo) (M_toldMany mo)] : List va_W).flatten := hD
  refine lv_aload_n hx hb dX5_denies_15 rfl (lv_at hl 0 rfl) ?_
  refine lv_iload_n hx hb dX5_denies_16 rfl (lv_at hl 3 rfl) ?_
  refine va_put (D := g.1) (ci := 9) (v := .int p2) (ty := .int) (C := RX5) (T := TX5) (N := 23) hx hb hts inX5 tyX5 tyX5_ok nmX5 hown hK hP hD hS 0 rfl rfl 12 (by decide) (hts _ mw_1323) (fun _ h9 => h9) rfl (by decide +kernel) rfl rfl (Nat.le_of_ble_eq_true rfl) dX5_denies_17 (fun H locs hP hD hS => ?_)
  have hP : va_P g.1 vwCl ([wMc g a (M_g mo) (M_kept mo) (M_saved mo) (M_before mo) (M_trial mo) (M_counted mo) (M_isSaved mo) (M_changes mo) (M_isWithin mo) 1 p0 p1 p2 (M_cause mo) (M_input mo) (M_length mo) (M_fault mo) (M_signs mo) (M_signMany mo) (M_lastOver mo) (M_at mo) (M_told mo) (M_toldMany mo)] : List va_W).flatten _ := hP
  have hD : va_D A ([wMc g a (M_g mo) (M_kept mo) (M_saved mo) (M_before mo) (M_trial mo) (M_counted mo) (M_isSaved mo) (M_changes mo) (M_isWithin mo) 1 p0 p1 p2 (M_cause mo) (M_input mo) (M_length mo) (M_fault mo) (M_signs mo) (M_signMany mo) (M_lastOver mo) (M_at mo) (M_told mo) (M_toldMany mo)] : List va_W).flatten := hD
  refine lv_aload_n hx hb dX5_denies_20 rfl (lv_at hl 0 rfl) ?_
  refine lv_iconst (v := 0) hx hb dX5_denies_21 (by decide) ?_
  refine va_put (D := g.1) (ci := 9) (v := .int 0) (ty := .int) (C := RX5) (T := TX5) (N := 23) hx hb hts inX5 tyX5 tyX5_ok nmX5 hown hK hP hD hS 0 rfl rfl 13 (by decide) (hts _ mw_1324) (fun _ h9 => h9) rfl (by decide +kernel) rfl rfl (Nat.le_of_ble_eq_true rfl) dX5_denies_22 (fun H locs hP hD hS => ?_)
  have hP : va_P g.1 vwCl ([wMc g a (M_g mo) (M_kept mo) (M_saved mo) (M_before mo) (M_trial mo) (M_counted mo) (M_isSaved mo) (M_changes mo) (M_isWithin mo) 1 p0 p1 p2 0 (M_input mo) (M_length mo) (M_fault mo) (M_signs mo) (M_signMany mo) (M_lastOver mo) (M_at mo) (M_told mo) (M_toldMany mo)] : List va_W).flatten _ := hP
  have hD : va_D A ([wMc g a (M_g mo) (M_kept mo) (M_saved mo) (M_before mo) (M_trial mo) (M_counted mo) (M_isSaved mo) (M_changes mo) (M_isWithin mo) 1 p0 p1 p2 0 (M_input mo) (M_length mo) (M_fault mo) (M_signs mo) (M_signMany mo) (M_lastOver mo) (M_at mo) (M_told mo) (M_toldMany mo)] : List va_W).flatten := hD
  refine lv_iconst (v := 0) hx hb dX5_denies_25 (by decide) ?_
  cases hF
  rw [hQ]
  exact jb_iret hx hb hr hlocks hP hD hS dX5_denies_26 rfl (Nat.le_of_ble_eq_true rfl) (Nat.le_of_ble_eq_true rfl)
def F_X5_of (mo : Mv) (p0 : Int32) (p1 : Int32) : Option (Int32) := ck (inb ((9 + (5 * p0)) + p1) 83) (some ((M_g mo) ((9 + (5 * p0)) + p1).toNatClampNeg))
set_option maxHeartbeats 4000000 in
set_option maxRecDepth 100000 in
theorem c_X5_of (g : GG) (l : Launch) (a : Nat → Nat) (mo : Mv) (p0 : Int32) (p1 : Int32) (z : Int32) (hF : F_X5_of mo p0 p1 = some z) : MI g l yX5_of cX5_of 3 (some .int) ({ frames := 0, cells := 0, slots := 0, locals := 0 } : Room) [.ref (a 0), .int p0, .int p1] [wM g a mo] 0 0 z [wM g a mo] := by
  refine MI.bg (by decide) (Nat.le_of_ble_eq_true rfl) ?_
  intro p e s m below meth c A Q hQ hx hb hr hml hown hts hlocks hmn hK hE hA hP hD hS ls hl
  rw [F_X5_of] at hF
  have hl : lv_has ls 3 [(0, .ref (a 0)), (1, .int p0), (2, .int p1)] := hl
  refine lv_aload_n hx hb dX5_of_0 rfl (lv_at hl 0 rfl) ?_
  refine va_get (D := g.1) (ci := 9) (v := .ref (a 1)) (C := RX5) (T := TX5) (N := 23) hx hb hts inX5 hown hK hP 0 rfl rfl 0 (by decide) (hts _ mw_1311) (fun _ h9 => h9) rfl dX5_of_1 ?_
  refine lv_bipush (v := 9) hx hb dX5_of_4 (by decide) ?_
  refine lv_iconst (v := 5) hx hb dX5_of_6 (by decide) ?_
  refine lv_iload_n hx hb dX5_of_7 rfl (lv_at hl 1 rfl) ?_
  refine lv_imul hx hb dX5_of_8 ?_
  refine lv_iadd hx hb dX5_of_9 ?_
  refine lv_iload_n hx hb dX5_of_10 rfl (lv_at hl 2 rfl) ?_
  refine lv_iadd hx hb dX5_of_11 ?_
  have h1 := inb_in (ck_t hF)
  have hF := ck_s hF
  refine va_iald hx hb hK hP 1 0 rfl rfl h1 dX5_of_12 ?_
  cases hF
  rw [hQ]
  exact jb_iret hx hb hr hlocks hP hD hS dX5_of_13 rfl (Nat.le_of_ble_eq_true rfl) (Nat.le_of_ble_eq_true rfl)
def F_X5_lays (mo : Mv) (p0 : Int32) (p1 : Int32) (p2 : Int32) : Option (Mv) := ck (inb ((9 + (5 * p0)) + p1) 83) (some (mkM (upd (M_g mo) ((9 + (5 * p0)) + p1).toNatClampNeg p2) (M_kept mo) (M_saved mo) (M_before mo) (M_trial mo) (M_counted mo) (M_isSaved mo) (M_changes mo) (M_isWithin mo) (M_isDenied mo) (M_code mo) (M_why mo) (M_detail mo) (M_cause mo) (M_input mo) (M_length mo) (M_fault mo) (M_signs mo) (M_signMany mo) (M_lastOver mo) (M_at mo) (M_told mo) (M_toldMany mo)))
set_option maxHeartbeats 4000000 in
set_option maxRecDepth 100000 in
theorem c_X5_lays (g : GG) (l : Launch) (a : Nat → Nat) (mo : Mv) (p0 : Int32) (p1 : Int32) (p2 : Int32) (z : Mv) (hF : F_X5_lays mo p0 p1 p2 = some z) : MV g l yX5_lays cX5_lays 4 none ({ frames := 0, cells := 0, slots := 0, locals := 0 } : Room) [.ref (a 0), .int p0, .int p1, .int p2] [wM g a mo] 0 0 [wM g a z] := by
  refine MV.bg (by decide) (Nat.le_of_ble_eq_true rfl) ?_
  intro p e s m below meth c A Q hQ hx hb hr hml hown hts hlocks hmn hK hE hA hP hD hS ls hl
  rw [F_X5_lays] at hF
  have hl : lv_has ls 4 [(0, .ref (a 0)), (1, .int p0), (2, .int p1), (3, .int p2)] := hl
  refine lv_aload_n hx hb dX5_lays_0 rfl (lv_at hl 0 rfl) ?_
  refine va_get (D := g.1) (ci := 9) (v := .ref (a 1)) (C := RX5) (T := TX5) (N := 23) hx hb hts inX5 hown hK hP 0 rfl rfl 0 (by decide) (hts _ mw_1311) (fun _ h9 => h9) rfl dX5_lays_1 ?_
  refine lv_bipush (v := 9) hx hb dX5_lays_4 (by decide) ?_
  refine lv_iconst (v := 5) hx hb dX5_lays_6 (by decide) ?_
  refine lv_iload_n hx hb dX5_lays_7 rfl (lv_at hl 1 rfl) ?_
  refine lv_imul hx hb dX5_lays_8 ?_
  refine lv_iadd hx hb dX5_lays_9 ?_
  refine lv_iload_n hx hb dX5_lays_10 rfl (lv_at hl 2 rfl) ?_
  refine lv_iadd hx hb dX5_lays_11 ?_
  refine lv_iload_n hx hb dX5_lays_12 rfl (lv_at hl 3 rfl) ?_
  have h1 := inb_in (ck_t hF)
  have hF := ck_s hF
  refine va_iast hx hb hK hP hD hS 1 0 rfl rfl h1 dX5_lays_13 (fun H locs hP hD hS => ?_)
  have hP : va_P g.1 vwCl ([wMc g a (upd (M_g mo) ((9 + (5 * p0)) + p1).toNatClampNeg p2) (M_kept mo) (M_saved mo) (M_before mo) (M_trial mo) (M_counted mo) (M_isSaved mo) (M_changes mo) (M_isWithin mo) (M_isDenied mo) (M_code mo) (M_why mo) (M_detail mo) (M_cause mo) (M_input mo) (M_length mo) (M_fault mo) (M_signs mo) (M_signMany mo) (M_lastOver mo) (M_at mo) (M_told mo) (M_toldMany mo)] : List va_W).flatten _ := hP
  have hD : va_D A ([wMc g a (upd (M_g mo) ((9 + (5 * p0)) + p1).toNatClampNeg p2) (M_kept mo) (M_saved mo) (M_before mo) (M_trial mo) (M_counted mo) (M_isSaved mo) (M_changes mo) (M_isWithin mo) (M_isDenied mo) (M_code mo) (M_why mo) (M_detail mo) (M_cause mo) (M_input mo) (M_length mo) (M_fault mo) (M_signs mo) (M_signMany mo) (M_lastOver mo) (M_at mo) (M_told mo) (M_toldMany mo)] : List va_W).flatten := hD
  cases hF
  rw [hQ]
  exact jb_vret hx hb hr hlocks hP hD hS dX5_lays_14 (Nat.le_of_ble_eq_true rfl) (Nat.le_of_ble_eq_true rfl)
def F_X5_isSpan (mo : Mv) (p0 : Int32) : Option (Bool) := ck (inb 0 83) ((F_X5_in p0 0 (((M_g mo) (0 : Int32).toNatClampNeg) - 1)).bind (fun z1 => some z1))
set_option maxHeartbeats 4000000 in
set_option maxRecDepth 100000 in
theorem c_X5_isSpan (g : GG) (l : Launch) (a : Nat → Nat) (mo : Mv) (p0 : Int32) (z : Bool) (hF : F_X5_isSpan mo p0 = some z) : MI g l yX5_isSpan cX5_isSpan 2 (some .boolean) ({ frames := 1, cells := 0, slots := 0, locals := 22 } : Room) [.ref (a 0), .int p0] [wM g a mo] 0 0 (bi z) [wM g a mo] := by
  refine MI.bg (by decide) (Nat.le_of_ble_eq_true rfl) ?_
  intro p e s m below meth c A Q hQ hx hb hr hml hown hts hlocks hmn hK hE hA hP hD hS ls hl
  rw [F_X5_isSpan] at hF
  have hl : lv_has ls 2 [(0, .ref (a 0)), (1, .int p0)] := hl
  refine lv_iload_n hx hb dX5_isSpan_0 rfl (lv_at hl 1 rfl) ?_
  refine lv_iconst (v := 0) hx hb dX5_isSpan_1 (by decide) ?_
  refine lv_aload_n hx hb dX5_isSpan_2 rfl (lv_at hl 0 rfl) ?_
  refine va_get (D := g.1) (ci := 9) (v := .ref (a 1)) (C := RX5) (T := TX5) (N := 23) hx hb hts inX5 hown hK hP 0 rfl rfl 0 (by decide) (hts _ mw_1311) (fun _ h9 => h9) rfl dX5_isSpan_3 ?_
  refine lv_iconst (v := 0) hx hb dX5_isSpan_6 (by decide) ?_
  have h1 := inb_in (ck_t hF)
  have hF := ck_s hF
  refine va_iald hx hb hK hP 1 0 rfl rfl h1 dX5_isSpan_7 ?_
  refine lv_iconst (v := 1) hx hb dX5_isSpan_8 (by decide) ?_
  refine lv_isub hx hb dX5_isSpan_9 ?_
  obtain ⟨z2, hz2, hF⟩ := ob_bind hF
  refine cl_si (csR := [wM g a mo]) (csF := [wM g a mo]) (rest := []) hx hb hml hown hts hK hE hA hl hP hD hS (c_X5_in g l  p0 0 (((M_g mo) (0 : Int32).toNatClampNeg) - 1) z2 hz2) [] [0] [0] ⟨rfl, rfl, rfl, rfl, rfl, rfl, rfl⟩ 3 (jb_giS mw_1389 mw_1390 mw_10 mw_1391) ⟨rfl, rfl⟩ (by decide +kernel) ⟨⟨(Nat.le_of_ble_eq_true rfl), (Nat.le_of_ble_eq_true rfl)⟩, (Nat.le_of_ble_eq_true rfl), (Nat.le_of_ble_eq_true rfl)⟩ ⟨rfl, rfl⟩ (Nat.le_of_ble_eq_true rfl) dX5_isSpan_10 (fun H locs hP hD hS => ?_)
  cases hF
  rw [hQ]
  exact jb_zret hx hb hr (bi_nar _) hlocks hP hD hS dX5_isSpan_13 rfl (Nat.le_of_ble_eq_true rfl) (Nat.le_of_ble_eq_true rfl)
def F_X5_isNone (mo : Mv) (p0 : Int32) : Option (Bool × Mv) := (F_X5_isSpan mo p0).bind (fun z1 => if (bi z1) = 0 then (F_X5_fails mo 1).bind (fun z2 => some (z2.1, z2.2)) else (F_X5_fails mo 0).bind (fun z3 => some (z3.1, z3.2)))
set_option maxHeartbeats 4000000 in
set_option maxRecDepth 100000 in
theorem c_X5_isNone (g : GG) (l : Launch) (a : Nat → Nat) (mo : Mv) (p0 : Int32) (z : Bool × Mv) (hF : F_X5_isNone mo p0 = some z) : MI g l yX5_isNone cX5_isNone 2 (some .boolean) ({ frames := 2, cells := 0, slots := 0, locals := 43 } : Room) [.ref (a 0), .int p0] [wM g a mo] 0 0 (bi z.1) [wM g a z.2] := by
  refine MI.bg (by decide) (Nat.le_of_ble_eq_true rfl) ?_
  intro p e s m below meth c A Q hQ hx hb hr hml hown hts hlocks hmn hK hE hA hP hD hS ls hl
  rw [F_X5_isNone] at hF
  have hl : lv_has ls 2 [(0, .ref (a 0)), (1, .int p0)] := hl
  refine lv_aload_n hx hb dX5_isNone_0 rfl (lv_at hl 0 rfl) ?_
  refine lv_aload_n hx hb dX5_isNone_1 rfl (lv_at hl 0 rfl) ?_
  refine lv_iload_n hx hb dX5_isNone_2 rfl (lv_at hl 1 rfl) ?_
  obtain ⟨z1, hz1, hF⟩ := ob_bind hF
  refine cl_i (csR := []) (csF := [wM g a mo]) (rest := [.ref (a 0)]) hx hb hml hown hts hK hE hA hl hP hD hS (c_X5_isSpan g l a mo p0 z1 hz1) [0] [] [0] ⟨rfl, rfl, rfl, rfl, rfl, rfl, rfl⟩ ⟨0, 9, _, _, rfl, rfl, rfl⟩ 1 (jb_giV mw_1423 mw_1425 ms_37 mw_10 mw_1426) ⟨rfl, rfl⟩ (by decide +kernel) ⟨⟨(Nat.le_of_ble_eq_true rfl), (Nat.le_of_ble_eq_true rfl)⟩, (Nat.le_of_ble_eq_true rfl), (Nat.le_of_ble_eq_true rfl)⟩ ⟨rfl, rfl⟩ (Nat.le_of_ble_eq_true rfl) dX5_isNone_3 (fun H locs hP hD hS => ?_)
  refine lv_if_eq (tgt := 13) hx hb dX5_isNone_6 (by decide) (fun c2 => ?_) (fun c2 => ?_)
  · have hF := ob_pos c2 hF
    refine lv_iconst (v := 1) hx hb dX5_isNone_13 (by decide) ?_
    obtain ⟨z3, hz3, hF⟩ := ob_bind hF
    refine cl_i (csR := []) (csF := [wM g a z3.2]) (rest := []) hx hb hml hown hts hK hE hA hl hP hD hS (c_X5_fails g l a mo 1 z3 hz3) [0] [] [0] ⟨rfl, rfl, rfl, rfl, rfl, rfl, rfl⟩ ⟨0, 9, _, _, rfl, rfl, rfl⟩ 1 (jb_giV mw_1392 mw_1394 ms_32 mw_10 mw_1395) ⟨rfl, rfl⟩ (by decide +kernel) ⟨⟨(Nat.le_of_ble_eq_true rfl), (Nat.le_of_ble_eq_true rfl)⟩, (Nat.le_of_ble_eq_true rfl), (Nat.le_of_ble_eq_true rfl)⟩ ⟨rfl, rfl⟩ (Nat.le_of_ble_eq_true rfl) dX5_isNone_14 (fun H locs hP hD hS => ?_)
    cases hF
    rw [hQ]
    exact jb_zret hx hb hr (bi_nar _) hlocks hP hD hS dX5_isNone_17 rfl (Nat.le_of_ble_eq_true rfl) (Nat.le_of_ble_eq_true rfl)
  · have hF := ob_neg c2 hF
    refine lv_iconst (v := 0) hx hb dX5_isNone_9 (by decide) ?_
    refine lv_goto (tgt := 14) hx hb dX5_isNone_10 (by decide) ?_
    obtain ⟨z4, hz4, hF⟩ := ob_bind hF
    refine cl_i (csR := []) (csF := [wM g a z4.2]) (rest := []) hx hb hml hown hts hK hE hA hl hP hD hS (c_X5_fails g l a mo 0 z4 hz4) [0] [] [0] ⟨rfl, rfl, rfl, rfl, rfl, rfl, rfl⟩ ⟨0, 9, _, _, rfl, rfl, rfl⟩ 1 (jb_giV mw_1392 mw_1394 ms_32 mw_10 mw_1395) ⟨rfl, rfl⟩ (by decide +kernel) ⟨⟨(Nat.le_of_ble_eq_true rfl), (Nat.le_of_ble_eq_true rfl)⟩, (Nat.le_of_ble_eq_true rfl), (Nat.le_of_ble_eq_true rfl)⟩ ⟨rfl, rfl⟩ (Nat.le_of_ble_eq_true rfl) dX5_isNone_14 (fun H locs hP hD hS => ?_)
    cases hF
    rw [hQ]
    exact jb_zret hx hb hr (bi_nar _) hlocks hP hD hS dX5_isNone_17 rfl (Nat.le_of_ble_eq_true rfl) (Nat.le_of_ble_eq_true rfl)
def F_X5_bears (mo : Mv) (p0 : Int32) (p1 : Int32) : Option (Int32) := (F_X5_of mo p0 1).bind (fun z1 => (F_X5_least p1 24).bind (fun z2 => (F_X5_of mo p0 0).bind (fun z3 => ck (nz z3) ((F_X5_of mo p0 3).bind (fun z4 => ck (nz 10) (some ((((z1 * z2) / z3) * (10 - z4)) / 10)))))))
set_option maxHeartbeats 4000000 in
set_option maxRecDepth 100000 in
theorem c_X5_bears (g : GG) (l : Launch) (a : Nat → Nat) (mo : Mv) (p0 : Int32) (p1 : Int32) (z : Int32) (hF : F_X5_bears mo p0 p1 = some z) : MI g l yX5_bears cX5_bears 3 (some .int) ({ frames := 1, cells := 0, slots := 0, locals := 22 } : Room) [.ref (a 0), .int p0, .int p1] [wM g a mo] 0 0 z [wM g a mo] := by
  refine MI.bg (by decide) (Nat.le_of_ble_eq_true rfl) ?_
  intro p e s m below meth c A Q hQ hx hb hr hml hown hts hlocks hmn hK hE hA hP hD hS ls hl
  rw [F_X5_bears] at hF
  have hl : lv_has ls 3 [(0, .ref (a 0)), (1, .int p0), (2, .int p1)] := hl
  refine lv_aload_n hx hb dX5_bears_0 rfl (lv_at hl 0 rfl) ?_
  refine lv_iload_n hx hb dX5_bears_1 rfl (lv_at hl 1 rfl) ?_
  refine lv_iconst (v := 1) hx hb dX5_bears_2 (by decide) ?_
  obtain ⟨z1, hz1, hF⟩ := ob_bind hF
  refine cl_i (csR := []) (csF := [wM g a mo]) (rest := []) hx hb hml hown hts hK hE hA hl hP hD hS (c_X5_of g l a mo p0 1 z1 hz1) [0] [] [0] ⟨rfl, rfl, rfl, rfl, rfl, rfl, rfl⟩ ⟨0, 9, _, _, rfl, rfl, rfl⟩ 2 (jb_giV mw_1415 mw_1417 ms_36 mw_10 mw_1418) ⟨rfl, rfl⟩ (by decide +kernel) ⟨⟨(Nat.le_of_ble_eq_true rfl), (Nat.le_of_ble_eq_true rfl)⟩, (Nat.le_of_ble_eq_true rfl), (Nat.le_of_ble_eq_true rfl)⟩ ⟨rfl, rfl⟩ (Nat.le_of_ble_eq_true rfl) dX5_bears_3 (fun H locs hP hD hS => ?_)
  refine lv_iload_n hx hb dX5_bears_6 rfl (lv_at hl 2 rfl) ?_
  refine lv_bipush (v := 24) hx hb dX5_bears_7 (by decide) ?_
  obtain ⟨z2, hz2, hF⟩ := ob_bind hF
  refine cl_si (csR := [wM g a mo]) (csF := [wM g a mo]) (rest := [.int z1]) hx hb hml hown hts hK hE hA hl hP hD hS (c_X5_least g l  p1 24 z2 hz2) [] [0] [0] ⟨rfl, rfl, rfl, rfl, rfl, rfl, rfl⟩ 2 (jb_giS mw_1467 mw_1468 mw_10 mw_1469) ⟨rfl, rfl⟩ (by decide +kernel) ⟨⟨(Nat.le_of_ble_eq_true rfl), (Nat.le_of_ble_eq_true rfl)⟩, (Nat.le_of_ble_eq_true rfl), (Nat.le_of_ble_eq_true rfl)⟩ ⟨rfl, rfl⟩ (Nat.le_of_ble_eq_true rfl) dX5_bears_9 (fun H locs hP hD hS => ?_)
  refine lv_imul hx hb dX5_bears_12 ?_
  refine lv_aload_n hx hb dX5_bears_13 rfl (lv_at hl 0 rfl) ?_
  refine lv_iload_n hx hb dX5_bears_14 rfl (lv_at hl 1 rfl) ?_
  refine lv_iconst (v := 0) hx hb dX5_bears_15 (by decide) ?_
  obtain ⟨z3, hz3, hF⟩ := ob_bind hF
  refine cl_i (csR := []) (csF := [wM g a mo]) (rest := [.int (z1 * z2)]) hx hb hml hown hts hK hE hA hl hP hD hS (c_X5_of g l a mo p0 0 z3 hz3) [0] [] [0] ⟨rfl, rfl, rfl, rfl, rfl, rfl, rfl⟩ ⟨0, 9, _, _, rfl, rfl, rfl⟩ 2 (jb_giV mw_1415 mw_1417 ms_36 mw_10 mw_1418) ⟨rfl, rfl⟩ (by decide +kernel) ⟨⟨(Nat.le_of_ble_eq_true rfl), (Nat.le_of_ble_eq_true rfl)⟩, (Nat.le_of_ble_eq_true rfl), (Nat.le_of_ble_eq_true rfl)⟩ ⟨rfl, rfl⟩ (Nat.le_of_ble_eq_true rfl) dX5_bears_16 (fun H locs hP hD hS => ?_)
  have h4 := nz_ne (ck_t hF)
  have hF := ck_s hF
  refine lv_idiv hx hb dX5_bears_19 h4 ?_
  refine lv_bipush (v := 10) hx hb dX5_bears_20 (by decide) ?_
  refine lv_aload_n hx hb dX5_bears_22 rfl (lv_at hl 0 rfl) ?_
  refine lv_iload_n hx hb dX5_bears_23 rfl (lv_at hl 1 rfl) ?_
  refine lv_iconst (v := 3) hx hb dX5_bears_24 (by decide) ?_
  obtain ⟨z5, hz5, hF⟩ := ob_bind hF
  refine cl_i (csR := []) (csF := [wM g a mo]) (rest := [.int 10, .int ((z1 * z2) / z3)]) hx hb hml hown hts hK hE hA hl hP hD hS (c_X5_of g l a mo p0 3 z5 hz5) [0] [] [0] ⟨rfl, rfl, rfl, rfl, rfl, rfl, rfl⟩ ⟨0, 9, _, _, rfl, rfl, rfl⟩ 2 (jb_giV mw_1415 mw_1417 ms_36 mw_10 mw_1418) ⟨rfl, rfl⟩ (by decide +kernel) ⟨⟨(Nat.le_of_ble_eq_true rfl), (Nat.le_of_ble_eq_true rfl)⟩, (Nat.le_of_ble_eq_true rfl), (Nat.le_of_ble_eq_true rfl)⟩ ⟨rfl, rfl⟩ (Nat.le_of_ble_eq_true rfl) dX5_bears_25 (fun H locs hP hD hS => ?_)
  refine lv_isub hx hb dX5_bears_28 ?_
  refine lv_imul hx hb dX5_bears_29 ?_
  refine lv_bipush (v := 10) hx hb dX5_bears_30 (by decide) ?_
  have h6 := nz_ne (ck_t hF)
  have hF := ck_s hF
  refine lv_idiv hx hb dX5_bears_32 h6 ?_
  cases hF
  rw [hQ]
  exact jb_iret hx hb hr hlocks hP hD hS dX5_bears_33 rfl (Nat.le_of_ble_eq_true rfl) (Nat.le_of_ble_eq_true rfl)
def F_X5_strong (mo : Mv) (p0 : Int32) : Option (Int32) := (F_X5_of mo p0 2).bind (fun z1 => (F_X5_bears mo p0 z1).bind (fun z2 => some z2))
set_option maxHeartbeats 4000000 in
set_option maxRecDepth 100000 in
theorem c_X5_strong (g : GG) (l : Launch) (a : Nat → Nat) (mo : Mv) (p0 : Int32) (z : Int32) (hF : F_X5_strong mo p0 = some z) : MI g l yX5_strong cX5_strong 2 (some .int) ({ frames := 2, cells := 0, slots := 0, locals := 44 } : Room) [.ref (a 0), .int p0] [wM g a mo] 0 0 z [wM g a mo] := by
  refine MI.bg (by decide) (Nat.le_of_ble_eq_true rfl) ?_
  intro p e s m below meth c A Q hQ hx hb hr hml hown hts hlocks hmn hK hE hA hP hD hS ls hl
  rw [F_X5_strong] at hF
  have hl : lv_has ls 2 [(0, .ref (a 0)), (1, .int p0)] := hl
  refine lv_aload_n hx hb dX5_strong_0 rfl (lv_at hl 0 rfl) ?_
  refine lv_iload_n hx hb dX5_strong_1 rfl (lv_at hl 1 rfl) ?_
  refine lv_aload_n hx hb dX5_strong_2 rfl (lv_at hl 0 rfl) ?_
  refine lv_iload_n hx hb dX5_strong_3 rfl (lv_at hl 1 rfl) ?_
  refine lv_iconst (v := 2) hx hb dX5_strong_4 (by decide) ?_
  obtain ⟨z1, hz1, hF⟩ := ob_bind hF
  refine cl_i (csR := []) (csF := [wM g a mo]) (rest := [.int p0, .ref (a 0)]) hx hb hml hown hts hK hE hA hl hP hD hS (c_X5_of g l a mo p0 2 z1 hz1) [0] [] [0] ⟨rfl, rfl, rfl, rfl, rfl, rfl, rfl⟩ ⟨0, 9, _, _, rfl, rfl, rfl⟩ 2 (jb_giV mw_1415 mw_1417 ms_36 mw_10 mw_1418) ⟨rfl, rfl⟩ (by decide +kernel) ⟨⟨(Nat.le_of_ble_eq_true rfl), (Nat.le_of_ble_eq_true rfl)⟩, (Nat.le_of_ble_eq_true rfl), (Nat.le_of_ble_eq_true rfl)⟩ ⟨rfl, rfl⟩ (Nat.le_of_ble_eq_true rfl) dX5_strong_5 (fun H locs hP hD hS => ?_)
  obtain ⟨z2, hz2, hF⟩ := ob_bind hF
  refine cl_i (csR := []) (csF := [wM g a mo]) (rest := []) hx hb hml hown hts hK hE hA hl hP hD hS (c_X5_bears g l a mo p0 z1 z2 hz2) [0] [] [0] ⟨rfl, rfl, rfl, rfl, rfl, rfl, rfl⟩ ⟨0, 9, _, _, rfl, rfl, rfl⟩ 2 (jb_giV mw_1463 mw_1465 ms_40 mw_10 mw_1466) ⟨rfl, rfl⟩ (by decide +kernel) ⟨⟨(Nat.le_of_ble_eq_true rfl), (Nat.le_of_ble_eq_true rfl)⟩, (Nat.le_of_ble_eq_true rfl), (Nat.le_of_ble_eq_true rfl)⟩ ⟨rfl, rfl⟩ (Nat.le_of_ble_eq_true rfl) dX5_strong_8 (fun H locs hP hD hS => ?_)
  cases hF
  rw [hQ]
  exact jb_iret hx hb hr hlocks hP hD hS dX5_strong_11 rfl (Nat.le_of_ble_eq_true rfl) (Nat.le_of_ble_eq_true rfl)
def F_X5_on (mo : Mv) (p0 : Int32) (p1 : Int32) : Option (Int32) := ck (inb ((59 + (3 * p0)) + p1) 83) (some ((M_g mo) ((59 + (3 * p0)) + p1).toNatClampNeg))
set_option maxHeartbeats 4000000 in
set_option maxRecDepth 100000 in
theorem c_X5_on (g : GG) (l : Launch) (a : Nat → Nat) (mo : Mv) (p0 : Int32) (p1 : Int32) (z : Int32) (hF : F_X5_on mo p0 p1 = some z) : MI g l yX5_on cX5_on 3 (some .int) ({ frames := 0, cells := 0, slots := 0, locals := 0 } : Room) [.ref (a 0), .int p0, .int p1] [wM g a mo] 0 0 z [wM g a mo] := by
  refine MI.bg (by decide) (Nat.le_of_ble_eq_true rfl) ?_
  intro p e s m below meth c A Q hQ hx hb hr hml hown hts hlocks hmn hK hE hA hP hD hS ls hl
  rw [F_X5_on] at hF
  have hl : lv_has ls 3 [(0, .ref (a 0)), (1, .int p0), (2, .int p1)] := hl
  refine lv_aload_n hx hb dX5_on_0 rfl (lv_at hl 0 rfl) ?_
  refine va_get (D := g.1) (ci := 9) (v := .ref (a 1)) (C := RX5) (T := TX5) (N := 23) hx hb hts inX5 hown hK hP 0 rfl rfl 0 (by decide) (hts _ mw_1311) (fun _ h9 => h9) rfl dX5_on_1 ?_
  refine lv_bipush (v := 59) hx hb dX5_on_4 (by decide) ?_
  refine lv_iconst (v := 3) hx hb dX5_on_6 (by decide) ?_
  refine lv_iload_n hx hb dX5_on_7 rfl (lv_at hl 1 rfl) ?_
  refine lv_imul hx hb dX5_on_8 ?_
  refine lv_iadd hx hb dX5_on_9 ?_
  refine lv_iload_n hx hb dX5_on_10 rfl (lv_at hl 2 rfl) ?_
  refine lv_iadd hx hb dX5_on_11 ?_
  have h1 := inb_in (ck_t hF)
  have hF := ck_s hF
  refine va_iald hx hb hK hP 1 0 rfl rfl h1 dX5_on_12 ?_
  cases hF
  rw [hQ]
  exact jb_iret hx hb hr hlocks hP hD hS dX5_on_13 rfl (Nat.le_of_ble_eq_true rfl) (Nat.le_of_ble_eq_true rfl)
def F_X5_loaded_L4 (mo : Mv) (y1 : Int32) (k : Int32 → Int32 → Option (Int32)) : Nat → Int32 → Int32 → Option (Int32)
  | 0, _, _ => none
  | n + 1, x2, x3 => ck (inb 1 83) (if ((M_g mo) (1 : Int32).toNatClampNeg) ≤ x3 then k x2 x3 else (F_X5_on mo x3 2).bind (fun z1 => if ¬ z1 = y1 then F_X5_loaded_L4 mo y1 k n (x2 + 0) (x3 + 1) else (F_X5_on mo x3 1).bind (fun z2 => F_X5_loaded_L4 mo y1 k n (x2 + z2) (x3 + 1))))
def F_X5_loaded (mo : Mv) (p0 : Int32) : Option (Int32) := F_X5_loaded_L4 mo p0 (fun x3 x4 => some x3) 1000 0 0
set_option maxHeartbeats 4000000 in
set_option maxRecDepth 100000 in
theorem c_X5_loaded (g : GG) (l : Launch) (a : Nat → Nat) (mo : Mv) (p0 : Int32) (z : Int32) (hF : F_X5_loaded mo p0 = some z) : MI g l yX5_loaded cX5_loaded 4 (some .int) ({ frames := 1, cells := 0, slots := 0, locals := 22 } : Room) [.ref (a 0), .int p0] [wM g a mo] 0 0 z [wM g a mo] := by
  refine MI.bg (by decide) (Nat.le_of_ble_eq_true rfl) ?_
  intro p e s m below meth c A Q hQ hx hb hr hml hown hts hlocks hmn hK hE hA hP hD hS ls hl
  rw [F_X5_loaded] at hF
  have hl : lv_has ls 4 [(0, .ref (a 0)), (1, .int p0)] := hl
  refine lv_iconst (v := 0) hx hb dX5_loaded_0 (by decide) ?_
  refine lv_istore_n (lv' := [(2, .int 0), (0, .ref (a 0)), (1, .int p0)]) hx hb dX5_loaded_1 rfl hl (by decide) rfl (fun ls hl => ?_)
  refine lv_iconst (v := 0) hx hb dX5_loaded_2 (by decide) ?_
  refine lv_istore_n (lv' := [(3, .int 0), (2, .int 0), (0, .ref (a 0)), (1, .int p0)]) hx hb dX5_loaded_3 rfl hl (by decide) rfl (fun ls hl => ?_)
  obtain ⟨k2, ek2, hF⟩ := ob_k (F := fun k9 => F_X5_loaded_L4 mo p0 k9 1000 0 0) hF
  have loop2 : ∀ (n9 : Nat) (x1 : Int32) (x2 : Int32), F_X5_loaded_L4 mo p0 k2 n9 x1 x2 = some z → ∀ (H : Heap) (locs : List Loc), va_P g.1 vwCl ([wM g a mo] : List va_W).flatten H → va_D A ([wM g a mo] : List va_W).flatten → va_S A s.heap H locs → ∀ ls : Array Slot, lv_has ls 4 [(0, .ref (a 0)), (1, .int p0), (2, .int x1), (3, .int x2)] → W p l e ({ frames := 1, cells := 0, slots := 0, locals := 22 } : Room) s m ([.ref (a 0), .int p0] : List Value).toArray below meth c H locs 0 0 Q (F0 m 4 ls []) := by
    intro n9
    induction n9 with
    | zero => intro x1 x2 hF; rw [F_X5_loaded_L4] at hF; cases hF
    | succ n9 ih2 =>
      intro x1 x2 hF H locs hP hD hS ls hl
      rw [F_X5_loaded_L4] at hF
      refine lv_iload_n hx hb dX5_loaded_4 rfl (lv_at hl 3 rfl) ?_
      refine lv_aload_n hx hb dX5_loaded_5 rfl (lv_at hl 0 rfl) ?_
      refine va_get (D := g.1) (ci := 9) (v := .ref (a 1)) (C := RX5) (T := TX5) (N := 23) hx hb hts inX5 hown hK hP 0 rfl rfl 0 (by decide) (hts _ mw_1311) (fun _ h9 => h9) rfl dX5_loaded_6 ?_
      refine lv_iconst (v := 1) hx hb dX5_loaded_9 (by decide) ?_
      have h3 := inb_in (ck_t hF)
      have hF := ck_s hF
      refine va_iald hx hb hK hP 1 0 rfl rfl h3 dX5_loaded_10 ?_
      refine lv_icmp_ge (tgt := 43) hx hb dX5_loaded_11 (by decide) (fun c4 => ?_) (fun c4 => ?_)
      · have hF := ob_pos c4 hF
        rw [ek2] at hF
        refine lv_iload_n hx hb dX5_loaded_43 rfl (lv_at hl 2 rfl) ?_
        cases hF
        rw [hQ]
        exact jb_iret hx hb hr hlocks hP hD hS dX5_loaded_44 rfl (Nat.le_of_ble_eq_true rfl) (Nat.le_of_ble_eq_true rfl)
      · have hF := ob_neg c4 hF
        refine lv_iload_n hx hb dX5_loaded_14 rfl (lv_at hl 2 rfl) ?_
        refine lv_aload_n hx hb dX5_loaded_15 rfl (lv_at hl 0 rfl) ?_
        refine lv_iload_n hx hb dX5_loaded_16 rfl (lv_at hl 3 rfl) ?_
        refine lv_iconst (v := 2) hx hb dX5_loaded_17 (by decide) ?_
        obtain ⟨z5, hz5, hF⟩ := ob_bind hF
        refine cl_i (csR := []) (csF := [wM g a mo]) (rest := [.int x1]) hx hb hml hown hts hK hE hA hl hP hD hS (c_X5_on g l a mo x2 2 z5 hz5) [0] [] [0] ⟨rfl, rfl, rfl, rfl, rfl, rfl, rfl⟩ ⟨0, 9, _, _, rfl, rfl, rfl⟩ 2 (jb_giV mw_1478 mw_1480 ms_42 mw_10 mw_1481) ⟨rfl, rfl⟩ (by decide +kernel) ⟨⟨(Nat.le_of_ble_eq_true rfl), (Nat.le_of_ble_eq_true rfl)⟩, (Nat.le_of_ble_eq_true rfl), (Nat.le_of_ble_eq_true rfl)⟩ ⟨rfl, rfl⟩ (Nat.le_of_ble_eq_true rfl) dX5_loaded_18 (fun H locs hP hD hS => ?_)
        refine lv_iload_n hx hb dX5_loaded_21 rfl (lv_at hl 1 rfl) ?_
        refine lv_icmp_ne (tgt := 34) hx hb dX5_loaded_22 (by decide) (fun c6 => ?_) (fun c6 => ?_)
        · have hF := ob_pos c6 hF
          refine lv_iconst (v := 0) hx hb dX5_loaded_34 (by decide) ?_
          refine lv_iadd hx hb dX5_loaded_35 ?_
          refine lv_istore_n (lv' := [(2, .int (x1 + 0)), (0, .ref (a 0)), (1, .int p0), (3, .int x2)]) hx hb dX5_loaded_36 rfl hl (by decide) rfl (fun ls hl => ?_)
          refine lv_iinc (v := x2 + 1) (lv' := [(3, .int (x2 + 1)), (2, .int (x1 + 0)), (0, .ref (a 0)), (1, .int p0)]) hx hb dX5_loaded_37 hl (k := 3) rfl (by rfl) (by decide) rfl (fun ls hl => ?_)
          refine lv_goto (tgt := 4) hx hb dX5_loaded_40 (by decide) ?_
          exact ih2 _ _ hF _ _ hP hD hS ls (lv_sub hl [2, 3, 1, 0] rfl)
        · have hF := ob_nneg c6 hF
          refine lv_aload_n hx hb dX5_loaded_25 rfl (lv_at hl 0 rfl) ?_
          refine lv_iload_n hx hb dX5_loaded_26 rfl (lv_at hl 3 rfl) ?_
          refine lv_iconst (v := 1) hx hb dX5_loaded_27 (by decide) ?_
          obtain ⟨z7, hz7, hF⟩ := ob_bind hF
          refine cl_i (csR := []) (csF := [wM g a mo]) (rest := [.int x1]) hx hb hml hown hts hK hE hA hl hP hD hS (c_X5_on g l a mo x2 1 z7 hz7) [0] [] [0] ⟨rfl, rfl, rfl, rfl, rfl, rfl, rfl⟩ ⟨0, 9, _, _, rfl, rfl, rfl⟩ 2 (jb_giV mw_1478 mw_1480 ms_42 mw_10 mw_1481) ⟨rfl, rfl⟩ (by decide +kernel) ⟨⟨(Nat.le_of_ble_eq_true rfl), (Nat.le_of_ble_eq_true rfl)⟩, (Nat.le_of_ble_eq_true rfl), (Nat.le_of_ble_eq_true rfl)⟩ ⟨rfl, rfl⟩ (Nat.le_of_ble_eq_true rfl) dX5_loaded_28 (fun H locs hP hD hS => ?_)
          refine lv_goto (tgt := 35) hx hb dX5_loaded_31 (by decide) ?_
          refine lv_iadd hx hb dX5_loaded_35 ?_
          refine lv_istore_n (lv' := [(2, .int (x1 + z7)), (0, .ref (a 0)), (1, .int p0), (3, .int x2)]) hx hb dX5_loaded_36 rfl hl (by decide) rfl (fun ls hl => ?_)
          refine lv_iinc (v := x2 + 1) (lv' := [(3, .int (x2 + 1)), (2, .int (x1 + z7)), (0, .ref (a 0)), (1, .int p0)]) hx hb dX5_loaded_37 hl (k := 3) rfl (by rfl) (by decide) rfl (fun ls hl => ?_)
          refine lv_goto (tgt := 4) hx hb dX5_loaded_40 (by decide) ?_
          exact ih2 _ _ hF _ _ hP hD hS ls (lv_sub hl [2, 3, 1, 0] rfl)
  exact loop2 1000 _ _ hF _ _ hP hD hS ls (lv_sub hl [2, 3, 1, 0] rfl)
def F_X5_strains (mo : Mv) (p0 : Int32) : Option (Bool) := (F_X5_loaded mo p0).bind (fun z1 => (F_X5_strong mo p0).bind (fun z2 => if (5 * z1) ≤ (4 * z2) then some false else some true))
set_option maxHeartbeats 4000000 in
set_option maxRecDepth 100000 in
theorem c_X5_strains (g : GG) (l : Launch) (a : Nat → Nat) (mo : Mv) (p0 : Int32) (z : Bool) (hF : F_X5_strains mo p0 = some z) : MI g l yX5_strains cX5_strains 2 (some .boolean) ({ frames := 3, cells := 0, slots := 0, locals := 65 } : Room) [.ref (a 0), .int p0] [wM g a mo] 0 0 (bi z) [wM g a mo] := by
  refine MI.bg (by decide) (Nat.le_of_ble_eq_true rfl) ?_
  intro p e s m below meth c A Q hQ hx hb hr hml hown hts hlocks hmn hK hE hA hP hD hS ls hl
  rw [F_X5_strains] at hF
  have hl : lv_has ls 2 [(0, .ref (a 0)), (1, .int p0)] := hl
  refine lv_iconst (v := 5) hx hb dX5_strains_0 (by decide) ?_
  refine lv_aload_n hx hb dX5_strains_1 rfl (lv_at hl 0 rfl) ?_
  refine lv_iload_n hx hb dX5_strains_2 rfl (lv_at hl 1 rfl) ?_
  obtain ⟨z1, hz1, hF⟩ := ob_bind hF
  refine cl_i (csR := []) (csF := [wM g a mo]) (rest := [.int 5]) hx hb hml hown hts hK hE hA hl hP hD hS (c_X5_loaded g l a mo p0 z1 hz1) [0] [] [0] ⟨rfl, rfl, rfl, rfl, rfl, rfl, rfl⟩ ⟨0, 9, _, _, rfl, rfl, rfl⟩ 1 (jb_giV mw_1474 mw_1476 ms_41 mw_10 mw_1477) ⟨rfl, rfl⟩ (by decide +kernel) ⟨⟨(Nat.le_of_ble_eq_true rfl), (Nat.le_of_ble_eq_true rfl)⟩, (Nat.le_of_ble_eq_true rfl), (Nat.le_of_ble_eq_true rfl)⟩ ⟨rfl, rfl⟩ (Nat.le_of_ble_eq_true rfl) dX5_strains_3 (fun H locs hP hD hS => ?_)
  refine lv_imul hx hb dX5_strains_6 ?_
  refine lv_iconst (v := 4) hx hb dX5_strains_7 (by decide) ?_
  refine lv_aload_n hx hb dX5_strains_8 rfl (lv_at hl 0 rfl) ?_
  refine lv_iload_n hx hb dX5_strains_9 rfl (lv_at hl 1 rfl) ?_
  obtain ⟨z2, hz2, hF⟩ := ob_bind hF
  refine cl_i (csR := []) (csF := [wM g a mo]) (rest := [.int 4, .int (5 * z1)]) hx hb hml hown hts hK hE hA hl hP hD hS (c_X5_strong g l a mo p0 z2 hz2) [0] [] [0] ⟨rfl, rfl, rfl, rfl, rfl, rfl, rfl⟩ ⟨0, 9, _, _, rfl, rfl, rfl⟩ 1 (jb_giV mw_1459 mw_1461 ms_39 mw_10 mw_1462) ⟨rfl, rfl⟩ (by decide +kernel) ⟨⟨(Nat.le_of_ble_eq_true rfl), (Nat.le_of_ble_eq_true rfl)⟩, (Nat.le_of_ble_eq_true rfl), (Nat.le_of_ble_eq_true rfl)⟩ ⟨rfl, rfl⟩ (Nat.le_of_ble_eq_true rfl) dX5_strains_10 (fun H locs hP hD hS => ?_)
  refine lv_imul hx hb dX5_strains_13 ?_
  refine lv_icmp_le (tgt := 21) hx hb dX5_strains_14 (by decide) (fun c3 => ?_) (fun c3 => ?_)
  · have hF := ob_pos c3 hF
    refine lv_iconst (v := 0) hx hb dX5_strains_21 (by decide) ?_
    cases hF
    rw [hQ]
    exact jb_zret hx hb hr rfl hlocks hP hD hS dX5_strains_22 rfl (Nat.le_of_ble_eq_true rfl) (Nat.le_of_ble_eq_true rfl)
  · have hF := ob_neg c3 hF
    refine lv_iconst (v := 1) hx hb dX5_strains_17 (by decide) ?_
    refine lv_goto (tgt := 22) hx hb dX5_strains_18 (by decide) ?_
    cases hF
    rw [hQ]
    exact jb_zret hx hb hr rfl hlocks hP hD hS dX5_strains_22 rfl (Nat.le_of_ble_eq_true rfl) (Nat.le_of_ble_eq_true rfl)
def F_X5_addSpan_L93 (y1 : Int32) (y2 : Int32) (k : Mv → Int32 → Option (Int32 × Mv)) : Nat → Mv → Int32 → Option (Int32 × Mv)
  | 0, _, _ => none
  | n + 1, b0, x3 => if 5 ≤ x3 then k b0 x3 else (F_X5_lays b0 y2 x3 0).bind (fun z4 => F_X5_addSpan_L93 y1 y2 k n z4 (x3 + 1))
def F_X5_addSpan (mo : Mv) (p0 : Int32) : Option (Int32 × Mv) := (F_X5_in p0 1 20).bind (fun z1 => if (bi z1) = 0 then (F_X5_fails mo 1).bind (fun z2 => if (bi z2.1) = 0 then ck (inb 1 83) (if ((M_g z2.2) (1 : Int32).toNatClampNeg) ≤ 0 then ck (inb 0 83) (if ¬ ((M_g z2.2) (0 : Int32).toNatClampNeg) = 10 then (F_X5_keeps_g z2.2).bind (fun z3 => ck (inb 0 83) (ck (inb 0 83) (ck (inb 0 83) (F_X5_addSpan_L93 p0 ((M_g z3) (0 : Int32).toNatClampNeg) (fun b5 x6 => (F_X5_lays b5 ((M_g z3) (0 : Int32).toNatClampNeg) 0 p0).bind (fun z7 => some ((M_g z3) (0 : Int32).toNatClampNeg, z7))) 1000 (mkM (upd (M_g z3) (0 : Int32).toNatClampNeg (((M_g z3) (0 : Int32).toNatClampNeg) + 1)) (M_kept z3) (M_saved z3) (M_before z3) (M_trial z3) (M_counted z3) (M_isSaved z3) (M_changes z3) (M_isWithin z3) (M_isDenied z3) (M_code z3) (M_why z3) (M_detail z3) (M_cause z3) (M_input z3) (M_length z3) (M_fault z3) (M_signs z3) (M_signMany z3) (M_lastOver z3) (M_at z3) (M_told z3) (M_toldMany z3)) 0)))) else (F_X5_denies z2.2 2 1 10).bind (fun z8 => some (z8.1, z8.2))) else ck (inb 1 83) ((F_X5_denies z2.2 2 4 ((M_g z2.2) (1 : Int32).toNatClampNeg)).bind (fun z9 => some (z9.1, z9.2)))) else some (0, z2.2)) else (F_X5_fails mo 0).bind (fun z10 => if (bi z10.1) = 0 then ck (inb 1 83) (if ((M_g z10.2) (1 : Int32).toNatClampNeg) ≤ 0 then ck (inb 0 83) (if ¬ ((M_g z10.2) (0 : Int32).toNatClampNeg) = 10 then (F_X5_keeps_g z10.2).bind (fun z11 => ck (inb 0 83) (ck (inb 0 83) (ck (inb 0 83) (F_X5_addSpan_L93 p0 ((M_g z11) (0 : Int32).toNatClampNeg) (fun b12 x13 => (F_X5_lays b12 ((M_g z11) (0 : Int32).toNatClampNeg) 0 p0).bind (fun z14 => some ((M_g z11) (0 : Int32).toNatClampNeg, z14))) 1000 (mkM (upd (M_g z11) (0 : Int32).toNatClampNeg (((M_g z11) (0 : Int32).toNatClampNeg) + 1)) (M_kept z11) (M_saved z11) (M_before z11) (M_trial z11) (M_counted z11) (M_isSaved z11) (M_changes z11) (M_isWithin z11) (M_isDenied z11) (M_code z11) (M_why z11) (M_detail z11) (M_cause z11) (M_input z11) (M_length z11) (M_fault z11) (M_signs z11) (M_signMany z11) (M_lastOver z11) (M_at z11) (M_told z11) (M_toldMany z11)) 0)))) else (F_X5_denies z10.2 2 1 10).bind (fun z15 => some (z15.1, z15.2))) else ck (inb 1 83) ((F_X5_denies z10.2 2 4 ((M_g z10.2) (1 : Int32).toNatClampNeg)).bind (fun z16 => some (z16.1, z16.2)))) else some (0, z10.2)))
set_option maxHeartbeats 4000000 in
set_option maxRecDepth 100000 in
theorem c_X5_addSpan (g : GG) (l : Launch) (a : Nat → Nat) (mo : Mv) (p0 : Int32) (z : Int32 × Mv) (hF : F_X5_addSpan mo p0 = some z) : MI g l yX5_addSpan cX5_addSpan 4 (some .int) ({ frames := 2, cells := 0, slots := 0, locals := 46 } : Room) [.ref (a 0), .int p0] [wM g a mo] 0 0 z.1 [wM g a z.2] := by
  refine MI.bg (by decide) (Nat.le_of_ble_eq_true rfl) ?_
  intro p e s m below meth c A Q hQ hx hb hr hml hown hts hlocks hmn hK hE hA hP hD hS ls hl
  rw [F_X5_addSpan] at hF
  have hl : lv_has ls 4 [(0, .ref (a 0)), (1, .int p0)] := hl
  refine lv_aload_n hx hb dX5_addSpan_0 rfl (lv_at hl 0 rfl) ?_
  refine lv_iload_n hx hb dX5_addSpan_1 rfl (lv_at hl 1 rfl) ?_
  refine lv_iconst (v := 1) hx hb dX5_addSpan_2 (by decide) ?_
  refine lv_bipush (v := 20) hx hb dX5_addSpan_3 (by decide) ?_
  obtain ⟨z1, hz1, hF⟩ := ob_bind hF
  refine cl_si (csR := [wM g a mo]) (csF := [wM g a mo]) (rest := [.ref (a 0)]) hx hb hml hown hts hK hE hA hl hP hD hS (c_X5_in g l  p0 1 20 z1 hz1) [] [0] [0] ⟨rfl, rfl, rfl, rfl, rfl, rfl, rfl⟩ 3 (jb_giS mw_1389 mw_1390 mw_10 mw_1391) ⟨rfl, rfl⟩ (by decide +kernel) ⟨⟨(Nat.le_of_ble_eq_true rfl), (Nat.le_of_ble_eq_true rfl)⟩, (Nat.le_of_ble_eq_true rfl), (Nat.le_of_ble_eq_true rfl)⟩ ⟨rfl, rfl⟩ (Nat.le_of_ble_eq_true rfl) dX5_addSpan_5 (fun H locs hP hD hS => ?_)
  refine lv_if_eq (tgt := 15) hx hb dX5_addSpan_8 (by decide) (fun c2 => ?_) (fun c2 => ?_)
  · have hF := ob_pos c2 hF
    refine lv_iconst (v := 1) hx hb dX5_addSpan_15 (by decide) ?_
    obtain ⟨z3, hz3, hF⟩ := ob_bind hF
    refine cl_i (csR := []) (csF := [wM g a z3.2]) (rest := []) hx hb hml hown hts hK hE hA hl hP hD hS (c_X5_fails g l a mo 1 z3 hz3) [0] [] [0] ⟨rfl, rfl, rfl, rfl, rfl, rfl, rfl⟩ ⟨0, 9, _, _, rfl, rfl, rfl⟩ 1 (jb_giV mw_1392 mw_1394 ms_32 mw_10 mw_1395) ⟨rfl, rfl⟩ (by decide +kernel) ⟨⟨(Nat.le_of_ble_eq_true rfl), (Nat.le_of_ble_eq_true rfl)⟩, (Nat.le_of_ble_eq_true rfl), (Nat.le_of_ble_eq_true rfl)⟩ ⟨rfl, rfl⟩ (Nat.le_of_ble_eq_true rfl) dX5_addSpan_16 (fun H locs hP hD hS => ?_)
    refine lv_if_eq (tgt := 24) hx hb dX5_addSpan_19 (by decide) (fun c4 => ?_) (fun c4 => ?_)
    · have hF := ob_pos c4 hF
      refine lv_aload_n hx hb dX5_addSpan_24 rfl (lv_at hl 0 rfl) ?_
      refine va_get (D := g.1) (ci := 9) (v := .ref (a 1)) (C := RX5) (T := TX5) (N := 23) hx hb hts inX5 hown hK hP 0 rfl rfl 0 (by decide) (hts _ mw_1311) (fun _ h9 => h9) rfl dX5_addSpan_25 ?_
      refine lv_iconst (v := 1) hx hb dX5_addSpan_28 (by decide) ?_
      have h5 := inb_in (ck_t hF)
      have hF := ck_s hF
      refine va_iald hx hb hK hP 1 0 rfl rfl h5 dX5_addSpan_29 ?_
      refine lv_if_le (tgt := 46) hx hb dX5_addSpan_30 (by decide) (fun c6 => ?_) (fun c6 => ?_)
      · have hF := ob_pos c6 hF
        refine lv_aload_n hx hb dX5_addSpan_46 rfl (lv_at hl 0 rfl) ?_
        refine va_get (D := g.1) (ci := 9) (v := .ref (a 1)) (C := RX5) (T := TX5) (N := 23) hx hb hts inX5 hown hK hP 0 rfl rfl 0 (by decide) (hts _ mw_1311) (fun _ h9 => h9) rfl dX5_addSpan_47 ?_
        refine lv_iconst (v := 0) hx hb dX5_addSpan_50 (by decide) ?_
        have h7 := inb_in (ck_t hF)
        have hF := ck_s hF
        refine va_iald hx hb hK hP 1 0 rfl rfl h7 dX5_addSpan_51 ?_
        refine lv_bipush (v := 10) hx hb dX5_addSpan_52 (by decide) ?_
        refine lv_icmp_ne (tgt := 66) hx hb dX5_addSpan_54 (by decide) (fun c8 => ?_) (fun c8 => ?_)
        · have hF := ob_pos c8 hF
          refine lv_aload_n hx hb dX5_addSpan_66 rfl (lv_at hl 0 rfl) ?_
          refine lv_aload_n hx hb dX5_addSpan_67 rfl (lv_at hl 0 rfl) ?_
          refine va_get (D := g.1) (ci := 9) (v := .ref (a 1)) (C := RX5) (T := TX5) (N := 23) hx hb hts inX5 hown hK hP 0 rfl rfl 0 (by decide) (hts _ mw_1311) (fun _ h9 => h9) rfl dX5_addSpan_68 ?_
          obtain ⟨z9, hz9, hF⟩ := ob_bind hF
          refine cl_v (csR := []) (csF := [wM g a z9]) (rest := []) hx hb hml hown hts hK hE hA hl hP hD hS (c_X5_keeps_g g l a z3.2 z9 hz9) [0] [] [0] ⟨rfl, rfl, rfl, rfl, rfl, rfl, rfl⟩ ⟨0, 9, _, _, rfl, rfl, rfl⟩ 1 (jb_giV mw_1400 mw_1402 ms_34 mw_10 mw_1403) ⟨rfl, rfl⟩ (by decide +kernel) ⟨⟨(Nat.le_of_ble_eq_true rfl), (Nat.le_of_ble_eq_true rfl)⟩, (Nat.le_of_ble_eq_true rfl), (Nat.le_of_ble_eq_true rfl)⟩ ⟨rfl, rfl⟩ (Nat.le_of_ble_eq_true rfl) dX5_addSpan_71 (fun H locs hP hD hS => ?_)
          refine lv_aload_n hx hb dX5_addSpan_74 rfl (lv_at hl 0 rfl) ?_
          refine va_get (D := g.1) (ci := 9) (v := .ref (a 1)) (C := RX5) (T := TX5) (N := 23) hx hb hts inX5 hown hK hP 0 rfl rfl 0 (by decide) (hts _ mw_1311) (fun _ h9 => h9) rfl dX5_addSpan_75 ?_
          refine lv_iconst (v := 0) hx hb dX5_addSpan_78 (by decide) ?_
          have h10 := inb_in (ck_t hF)
          have hF := ck_s hF
          refine va_iald hx hb hK hP 1 0 rfl rfl h10 dX5_addSpan_79 ?_
          refine lv_istore_n (lv' := [(2, .int ((M_g z9) (0 : Int32).toNatClampNeg)), (0, .ref (a 0)), (1, .int p0)]) hx hb dX5_addSpan_80 rfl hl (by decide) rfl (fun ls hl => ?_)
          refine lv_aload_n hx hb dX5_addSpan_81 rfl (lv_at hl 1 rfl) ?_
          refine va_get (D := g.1) (ci := 9) (v := .ref (a 1)) (C := RX5) (T := TX5) (N := 23) hx hb hts inX5 hown hK hP 0 rfl rfl 0 (by decide) (hts _ mw_1311) (fun _ h9 => h9) rfl dX5_addSpan_82 ?_
          refine lv_iconst (v := 0) hx hb dX5_addSpan_85 (by decide) ?_
          refine lv_dup2_11 hx hb dX5_addSpan_86 rfl rfl ?_
          have h11 := inb_in (ck_t hF)
          have hF := ck_s hF
          refine va_iald hx hb hK hP 1 0 rfl rfl h11 dX5_addSpan_87 ?_
          refine lv_iconst (v := 1) hx hb dX5_addSpan_88 (by decide) ?_
          refine lv_iadd hx hb dX5_addSpan_89 ?_
          have h12 := inb_in (ck_t hF)
          have hF := ck_s hF
          refine va_iast hx hb hK hP hD hS 1 0 rfl rfl h12 dX5_addSpan_90 (fun H locs hP hD hS => ?_)
          have hP : va_P g.1 vwCl ([wMc g a (upd (M_g z9) (0 : Int32).toNatClampNeg (((M_g z9) (0 : Int32).toNatClampNeg) + 1)) (M_kept z9) (M_saved z9) (M_before z9) (M_trial z9) (M_counted z9) (M_isSaved z9) (M_changes z9) (M_isWithin z9) (M_isDenied z9) (M_code z9) (M_why z9) (M_detail z9) (M_cause z9) (M_input z9) (M_length z9) (M_fault z9) (M_signs z9) (M_signMany z9) (M_lastOver z9) (M_at z9) (M_told z9) (M_toldMany z9)] : List va_W).flatten _ := hP
          have hD : va_D A ([wMc g a (upd (M_g z9) (0 : Int32).toNatClampNeg (((M_g z9) (0 : Int32).toNatClampNeg) + 1)) (M_kept z9) (M_saved z9) (M_before z9) (M_trial z9) (M_counted z9) (M_isSaved z9) (M_changes z9) (M_isWithin z9) (M_isDenied z9) (M_code z9) (M_why z9) (M_detail z9) (M_cause z9) (M_input z9) (M_length z9) (M_fault z9) (M_signs z9) (M_signMany z9) (M_lastOver z9) (M_at z9) (M_told z9) (M_toldMany z9)] : List va_W).flatten := hD
          refine lv_iconst (v := 0) hx hb dX5_addSpan_91 (by decide) ?_
          refine lv_istore_n (lv' := [(3, .int 0), (2, .int ((M_g z9) (0 : Int32).toNatClampNeg)), (0, .ref (a 0)), (1, .int p0)]) hx hb dX5_addSpan_92 rfl hl (by decide) rfl (fun ls hl => ?_)
          obtain ⟨k14, ek14, hF⟩ := ob_k (F := fun k9 => F_X5_addSpan_L93 p0 ((M_g z9) (0 : Int32).toNatClampNeg) k9 1000 (mkM (upd (M_g z9) (0 : Int32).toNatClampNeg (((M_g z9) (0 : Int32).toNatClampNeg) + 1)) (M_kept z9) (M_saved z9) (M_before z9) (M_trial z9) (M_counted z9) (M_isSaved z9) (M_changes z9) (M_isWithin z9) (M_isDenied z9) (M_code z9) (M_why z9) (M_detail z9) (M_cause z9) (M_input z9) (M_length z9) (M_fault z9) (M_signs z9) (M_signMany z9) (M_lastOver z9) (M_at z9) (M_told z9) (M_toldMany z9)) 0) hF
          have loop14 : ∀ (n9 : Nat) (b13 : Mv) (x14 : Int32), F_X5_addSpan_L93 p0 ((M_g z9) (0 : Int32).toNatClampNeg) k14 n9 b13 x14 = some z → ∀ (H : Heap) (locs : List Loc), va_P g.1 vwCl ([wM g a b13] : List va_W).flatten H → va_D A ([wM g a b13] : List va_W).flatten → va_S A s.heap H locs → ∀ ls : Array Slot, lv_has ls 4 [(0, .ref (a 0)), (1, .int p0), (2, .int ((M_g z9) (0 : Int32).toNatClampNeg)), (3, .int x14)] → W p l e ({ frames := 2, cells := 0, slots := 0, locals := 46 } : Room) s m ([.ref (a 0), .int p0] : List Value).toArray below meth c H locs 0 0 Q (F0 m 93 ls []) := by
            intro n9
            induction n9 with
            | zero => intro b13 x14 hF; rw [F_X5_addSpan_L93] at hF; cases hF
            | succ n9 ih14 =>
              intro b13 x14 hF H locs hP hD hS ls hl
              rw [F_X5_addSpan_L93] at hF
              refine lv_iload_n hx hb dX5_addSpan_93 rfl (lv_at hl 3 rfl) ?_
              refine lv_iconst (v := 5) hx hb dX5_addSpan_94 (by decide) ?_
              refine lv_icmp_ge (tgt := 111) hx hb dX5_addSpan_95 (by decide) (fun c15 => ?_) (fun c15 => ?_)
              · have hF := ob_pos c15 hF
                rw [ek14] at hF
                refine lv_aload_n hx hb dX5_addSpan_111 rfl (lv_at hl 0 rfl) ?_
                refine lv_iload_n hx hb dX5_addSpan_112 rfl (lv_at hl 2 rfl) ?_
                refine lv_iconst (v := 0) hx hb dX5_addSpan_113 (by decide) ?_
                refine lv_iload_n hx hb dX5_addSpan_114 rfl (lv_at hl 1 rfl) ?_
                obtain ⟨z16, hz16, hF⟩ := ob_bind hF
                refine cl_v (csR := []) (csF := [wM g a z16]) (rest := []) hx hb hml hown hts hK hE hA hl hP hD hS (c_X5_lays g l a b13 ((M_g z9) (0 : Int32).toNatClampNeg) 0 p0 z16 hz16) [0] [] [0] ⟨rfl, rfl, rfl, rfl, rfl, rfl, rfl⟩ ⟨0, 9, _, _, rfl, rfl, rfl⟩ 3 (jb_giV mw_1407 mw_1409 ms_35 mw_10 mw_1410) ⟨rfl, rfl⟩ (by decide +kernel) ⟨⟨(Nat.le_of_ble_eq_true rfl), (Nat.le_of_ble_eq_true rfl)⟩, (Nat.le_of_ble_eq_true rfl), (Nat.le_of_ble_eq_true rfl)⟩ ⟨rfl, rfl⟩ (Nat.le_of_ble_eq_true rfl) dX5_addSpan_115 (fun H locs hP hD hS => ?_)
                refine lv_iload_n hx hb dX5_addSpan_118 rfl (lv_at hl 2 rfl) ?_
                cases hF
                rw [hQ]
                exact jb_iret hx hb hr hlocks hP hD hS dX5_addSpan_119 rfl (Nat.le_of_ble_eq_true rfl) (Nat.le_of_ble_eq_true rfl)
              · have hF := ob_neg c15 hF
                refine lv_aload_n hx hb dX5_addSpan_98 rfl (lv_at hl 0 rfl) ?_
                refine lv_iload_n hx hb dX5_addSpan_99 rfl (lv_at hl 2 rfl) ?_
                refine lv_iload_n hx hb dX5_addSpan_100 rfl (lv_at hl 3 rfl) ?_
                refine lv_iconst (v := 0) hx hb dX5_addSpan_101 (by decide) ?_
                obtain ⟨z17, hz17, hF⟩ := ob_bind hF
                refine cl_v (csR := []) (csF := [wM g a z17]) (rest := []) hx hb hml hown hts hK hE hA hl hP hD hS (c_X5_lays g l a b13 ((M_g z9) (0 : Int32).toNatClampNeg) x14 0 z17 hz17) [0] [] [0] ⟨rfl, rfl, rfl, rfl, rfl, rfl, rfl⟩ ⟨0, 9, _, _, rfl, rfl, rfl⟩ 3 (jb_giV mw_1407 mw_1409 ms_35 mw_10 mw_1410) ⟨rfl, rfl⟩ (by decide +kernel) ⟨⟨(Nat.le_of_ble_eq_true rfl), (Nat.le_of_ble_eq_true rfl)⟩, (Nat.le_of_ble_eq_true rfl), (Nat.le_of_ble_eq_true rfl)⟩ ⟨rfl, rfl⟩ (Nat.le_of_ble_eq_true rfl) dX5_addSpan_102 (fun H locs hP hD hS => ?_)
                refine lv_iinc (v := x14 + 1) (lv' := [(3, .int (x14 + 1)), (0, .ref (a 0)), (1, .int p0), (2, .int ((M_g z9) (0 : Int32).toNatClampNeg))]) hx hb dX5_addSpan_105 hl (k := 3) rfl (by rfl) (by decide) rfl (fun ls hl => ?_)
                refine lv_goto (tgt := 93) hx hb dX5_addSpan_108 (by decide) ?_
                exact ih14 _ _ hF _ _ hP hD hS ls (lv_sub hl [1, 2, 3, 0] rfl)
          exact loop14 1000 _ _ hF _ _ hP hD hS ls (lv_sub hl [2, 3, 1, 0] rfl)
        · have hF := ob_nneg c8 hF
          refine lv_aload_n hx hb dX5_addSpan_57 rfl (lv_at hl 0 rfl) ?_
          refine lv_iconst (v := 2) hx hb dX5_addSpan_58 (by decide) ?_
          refine lv_iconst (v := 1) hx hb dX5_addSpan_59 (by decide) ?_
          refine lv_bipush (v := 10) hx hb dX5_addSpan_60 (by decide) ?_
          obtain ⟨z18, hz18, hF⟩ := ob_bind hF
          refine cl_i (csR := []) (csF := [wM g a z18.2]) (rest := []) hx hb hml hown hts hK hE hA hl hP hD hS (c_X5_denies g l a z3.2 2 1 10 z18 hz18) [0] [] [0] ⟨rfl, rfl, rfl, rfl, rfl, rfl, rfl⟩ ⟨0, 9, _, _, rfl, rfl, rfl⟩ 3 (jb_giV mw_1396 mw_1398 ms_33 mw_10 mw_1399) ⟨rfl, rfl⟩ (by decide +kernel) ⟨⟨(Nat.le_of_ble_eq_true rfl), (Nat.le_of_ble_eq_true rfl)⟩, (Nat.le_of_ble_eq_true rfl), (Nat.le_of_ble_eq_true rfl)⟩ ⟨rfl, rfl⟩ (Nat.le_of_ble_eq_true rfl) dX5_addSpan_62 (fun H locs hP hD hS => ?_)
          cases hF
          rw [hQ]
          exact jb_iret hx hb hr hlocks hP hD hS dX5_addSpan_65 rfl (Nat.le_of_ble_eq_true rfl) (Nat.le_of_ble_eq_true rfl)
      · have hF := ob_neg c6 hF
        refine lv_aload_n hx hb dX5_addSpan_33 rfl (lv_at hl 0 rfl) ?_
        refine lv_iconst (v := 2) hx hb dX5_addSpan_34 (by decide) ?_
        refine lv_iconst (v := 4) hx hb dX5_addSpan_35 (by decide) ?_
        refine lv_aload_n hx hb dX5_addSpan_36 rfl (lv_at hl 0 rfl) ?_
        refine va_get (D := g.1) (ci := 9) (v := .ref (a 1)) (C := RX5) (T := TX5) (N := 23) hx hb hts inX5 hown hK hP 0 rfl rfl 0 (by decide) (hts _ mw_1311) (fun _ h9 => h9) rfl dX5_addSpan_37 ?_
        refine lv_iconst (v := 1) hx hb dX5_addSpan_40 (by decide) ?_
        have h19 := inb_in (ck_t hF)
        have hF := ck_s hF
        refine va_iald hx hb hK hP 1 0 rfl rfl h19 dX5_addSpan_41 ?_
        obtain ⟨z20, hz20, hF⟩ := ob_bind hF
        refine cl_i (csR := []) (csF := [wM g a z20.2]) (rest := []) hx hb hml hown hts hK hE hA hl hP hD hS (c_X5_denies g l a z3.2 2 4 ((M_g z3.2) (1 : Int32).toNatClampNeg) z20 hz20) [0] [] [0] ⟨rfl, rfl, rfl, rfl, rfl, rfl, rfl⟩ ⟨0, 9, _, _, rfl, rfl, rfl⟩ 3 (jb_giV mw_1396 mw_1398 ms_33 mw_10 mw_1399) ⟨rfl, rfl⟩ (by decide +kernel) ⟨⟨(Nat.le_of_ble_eq_true rfl), (Nat.le_of_ble_eq_true rfl)⟩, (Nat.le_of_ble_eq_true rfl), (Nat.le_of_ble_eq_true rfl)⟩ ⟨rfl, rfl⟩ (Nat.le_of_ble_eq_true rfl) dX5_addSpan_42 (fun H locs hP hD hS => ?_)
        cases hF
        rw [hQ]
        exact jb_iret hx hb hr hlocks hP hD hS dX5_addSpan_45 rfl (Nat.le_of_ble_eq_true rfl) (Nat.le_of_ble_eq_true rfl)
    · have hF := ob_neg c4 hF
      refine lv_iconst (v := 0) hx hb dX5_addSpan_22 (by decide) ?_
      cases hF
      rw [hQ]
      exact jb_iret hx hb hr hlocks hP hD hS dX5_addSpan_23 rfl (Nat.le_of_ble_eq_true rfl) (Nat.le_of_ble_eq_true rfl)
  · have hF := ob_neg c2 hF
    refine lv_iconst (v := 0) hx hb dX5_addSpan_11 (by decide) ?_
    refine lv_goto (tgt := 16) hx hb dX5_addSpan_12 (by decide) ?_
    obtain ⟨z21, hz21, hF⟩ := ob_bind hF
    refine cl_i (csR := []) (csF := [wM g a z21.2]) (rest := []) hx hb hml hown hts hK hE hA hl hP hD hS (c_X5_fails g l a mo 0 z21 hz21) [0] [] [0] ⟨rfl, rfl, rfl, rfl, rfl, rfl, rfl⟩ ⟨0, 9, _, _, rfl, rfl, rfl⟩ 1 (jb_giV mw_1392 mw_1394 ms_32 mw_10 mw_1395) ⟨rfl, rfl⟩ (by decide +kernel) ⟨⟨(Nat.le_of_ble_eq_true rfl), (Nat.le_of_ble_eq_true rfl)⟩, (Nat.le_of_ble_eq_true rfl), (Nat.le_of_ble_eq_true rfl)⟩ ⟨rfl, rfl⟩ (Nat.le_of_ble_eq_true rfl) dX5_addSpan_16 (fun H locs hP hD hS => ?_)
    refine lv_if_eq (tgt := 24) hx hb dX5_addSpan_19 (by decide) (fun c22 => ?_) (fun c22 => ?_)
    · have hF := ob_pos c22 hF
      refine lv_aload_n hx hb dX5_addSpan_24 rfl (lv_at hl 0 rfl) ?_
      refine va_get (D := g.1) (ci := 9) (v := .ref (a 1)) (C := RX5) (T := TX5) (N := 23) hx hb hts inX5 hown hK hP 0 rfl rfl 0 (by decide) (hts _ mw_1311) (fun _ h9 => h9) rfl dX5_addSpan_25 ?_
      refine lv_iconst (v := 1) hx hb dX5_addSpan_28 (by decide) ?_
      have h23 := inb_in (ck_t hF)
      have hF := ck_s hF
      refine va_iald hx hb hK hP 1 0 rfl rfl h23 dX5_addSpan_29 ?_
      refine lv_if_le (tgt := 46) hx hb dX5_addSpan_30 (by decide) (fun c24 => ?_) (fun c24 => ?_)
      · have hF := ob_pos c24 hF
        refine lv_aload_n hx hb dX5_addSpan_46 rfl (lv_at hl 0 rfl) ?_
        refine va_get (D := g.1) (ci := 9) (v := .ref (a 1)) (C := RX5) (T := TX5) (N := 23) hx hb hts inX5 hown hK hP 0 rfl rfl 0 (by decide) (hts _ mw_1311) (fun _ h9 => h9) rfl dX5_addSpan_47 ?_
        refine lv_iconst (v := 0) hx hb dX5_addSpan_50 (by decide) ?_
        have h25 := inb_in (ck_t hF)
        have hF := ck_s hF
        refine va_iald hx hb hK hP 1 0 rfl rfl h25 dX5_addSpan_51 ?_
        refine lv_bipush (v := 10) hx hb dX5_addSpan_52 (by decide) ?_
        refine lv_icmp_ne (tgt := 66) hx hb dX5_addSpan_54 (by decide) (fun c26 => ?_) (fun c26 => ?_)
        · have hF := ob_pos c26 hF
          refine lv_aload_n hx hb dX5_addSpan_66 rfl (lv_at hl 0 rfl) ?_
          refine lv_aload_n hx hb dX5_addSpan_67 rfl (lv_at hl 0 rfl) ?_
          refine va_get (D := g.1) (ci := 9) (v := .ref (a 1)) (C := RX5) (T := TX5) (N := 23) hx hb hts inX5 hown hK hP 0 rfl rfl 0 (by decide) (hts _ mw_1311) (fun _ h9 => h9) rfl dX5_addSpan_68 ?_
          obtain ⟨z27, hz27, hF⟩ := ob_bind hF
          refine cl_v (csR := []) (csF := [wM g a z27]) (rest := []) hx hb hml hown hts hK hE hA hl hP hD hS (c_X5_keeps_g g l a z21.2 z27 hz27) [0] [] [0] ⟨rfl, rfl, rfl, rfl, rfl, rfl, rfl⟩ ⟨0, 9, _, _, rfl, rfl, rfl⟩ 1 (jb_giV mw_1400 mw_1402 ms_34 mw_10 mw_1403) ⟨rfl, rfl⟩ (by decide +kernel) ⟨⟨(Nat.le_of_ble_eq_true rfl), (Nat.le_of_ble_eq_true rfl)⟩, (Nat.le_of_ble_eq_true rfl), (Nat.le_of_ble_eq_true rfl)⟩ ⟨rfl, rfl⟩ (Nat.le_of_ble_eq_true rfl) dX5_addSpan_71 (fun H locs hP hD hS => ?_)
          refine lv_aload_n hx hb dX5_addSpan_74 rfl (lv_at hl 0 rfl) ?_
          refine va_get (D := g.1) (ci := 9) (v := .ref (a 1)) (C := RX5) (T := TX5) (N := 23) hx hb hts inX5 hown hK hP 0 rfl rfl 0 (by decide) (hts _ mw_1311) (fun _ h9 => h9) rfl dX5_addSpan_75 ?_
          refine lv_iconst (v := 0) hx hb dX5_addSpan_78 (by decide) ?_
          have h28 := inb_in (ck_t hF)
          have hF := ck_s hF
          refine va_iald hx hb hK hP 1 0 rfl rfl h28 dX5_addSpan_79 ?_
          refine lv_istore_n (lv' := [(2, .int ((M_g z27) (0 : Int32).toNatClampNeg)), (0, .ref (a 0)), (1, .int p0)]) hx hb dX5_addSpan_80 rfl hl (by decide) rfl (fun ls hl => ?_)
          refine lv_aload_n hx hb dX5_addSpan_81 rfl (lv_at hl 1 rfl) ?_
          refine va_get (D := g.1) (ci := 9) (v := .ref (a 1)) (C := RX5) (T := TX5) (N := 23) hx hb hts inX5 hown hK hP 0 rfl rfl 0 (by decide) (hts _ mw_1311) (fun _ h9 => h9) rfl dX5_addSpan_82 ?_
          refine lv_iconst (v := 0) hx hb dX5_addSpan_85 (by decide) ?_
          refine lv_dup2_11 hx hb dX5_addSpan_86 rfl rfl ?_
          have h29 := inb_in (ck_t hF)
          have hF := ck_s hF
          refine va_iald hx hb hK hP 1 0 rfl rfl h29 dX5_addSpan_87 ?_
          refine lv_iconst (v := 1) hx hb dX5_addSpan_88 (by decide) ?_
          refine lv_iadd hx hb dX5_addSpan_89 ?_
          have h30 := inb_in (ck_t hF)
          have hF := ck_s hF
          refine va_iast hx hb hK hP hD hS 1 0 rfl rfl h30 dX5_addSpan_90 (fun H locs hP hD hS => ?_)
          have hP : va_P g.1 vwCl ([wMc g a (upd (M_g z27) (0 : Int32).toNatClampNeg (((M_g z27) (0 : Int32).toNatClampNeg) + 1)) (M_kept z27) (M_saved z27) (M_before z27) (M_trial z27) (M_counted z27) (M_isSaved z27) (M_changes z27) (M_isWithin z27) (M_isDenied z27) (M_code z27) (M_why z27) (M_detail z27) (M_cause z27) (M_input z27) (M_length z27) (M_fault z27) (M_signs z27) (M_signMany z27) (M_lastOver z27) (M_at z27) (M_told z27) (M_toldMany z27)] : List va_W).flatten _ := hP
          have hD : va_D A ([wMc g a (upd (M_g z27) (0 : Int32).toNatClampNeg (((M_g z27) (0 : Int32).toNatClampNeg) + 1)) (M_kept z27) (M_saved z27) (M_before z27) (M_trial z27) (M_counted z27) (M_isSaved z27) (M_changes z27) (M_isWithin z27) (M_isDenied z27) (M_code z27) (M_why z27) (M_detail z27) (M_cause z27) (M_input z27) (M_length z27) (M_fault z27) (M_signs z27) (M_signMany z27) (M_lastOver z27) (M_at z27) (M_told z27) (M_toldMany z27)] : List va_W).flatten := hD
          refine lv_iconst (v := 0) hx hb dX5_addSpan_91 (by decide) ?_
          refine lv_istore_n (lv' := [(3, .int 0), (2, .int ((M_g z27) (0 : Int32).toNatClampNeg)), (0, .ref (a 0)), (1, .int p0)]) hx hb dX5_addSpan_92 rfl hl (by decide) rfl (fun ls hl => ?_)
          obtain ⟨k32, ek32, hF⟩ := ob_k (F := fun k9 => F_X5_addSpan_L93 p0 ((M_g z27) (0 : Int32).toNatClampNeg) k9 1000 (mkM (upd (M_g z27) (0 : Int32).toNatClampNeg (((M_g z27) (0 : Int32).toNatClampNeg) + 1)) (M_kept z27) (M_saved z27) (M_before z27) (M_trial z27) (M_counted z27) (M_isSaved z27) (M_changes z27) (M_isWithin z27) (M_isDenied z27) (M_code z27) (M_why z27) (M_detail z27) (M_cause z27) (M_input z27) (M_length z27) (M_fault z27) (M_signs z27) (M_signMany z27) (M_lastOver z27) (M_at z27) (M_told z27) (M_toldMany z27)) 0) hF
          have loop32 : ∀ (n9 : Nat) (b31 : Mv) (x32 : Int32), F_X5_addSpan_L93 p0 ((M_g z27) (0 : Int32).toNatClampNeg) k32 n9 b31 x32 = some z → ∀ (H : Heap) (locs : List Loc), va_P g.1 vwCl ([wM g a b31] : List va_W).flatten H → va_D A ([wM g a b31] : List va_W).flatten → va_S A s.heap H locs → ∀ ls : Array Slot, lv_has ls 4 [(0, .ref (a 0)), (1, .int p0), (2, .int ((M_g z27) (0 : Int32).toNatClampNeg)), (3, .int x32)] → W p l e ({ frames := 2, cells := 0, slots := 0, locals := 46 } : Room) s m ([.ref (a 0), .int p0] : List Value).toArray below meth c H locs 0 0 Q (F0 m 93 ls []) := by
            intro n9
            induction n9 with
            | zero => intro b31 x32 hF; rw [F_X5_addSpan_L93] at hF; cases hF
            | succ n9 ih32 =>
              intro b31 x32 hF H locs hP hD hS ls hl
              rw [F_X5_addSpan_L93] at hF
              refine lv_iload_n hx hb dX5_addSpan_93 rfl (lv_at hl 3 rfl) ?_
              refine lv_iconst (v := 5) hx hb dX5_addSpan_94 (by decide) ?_
              refine lv_icmp_ge (tgt := 111) hx hb dX5_addSpan_95 (by decide) (fun c33 => ?_) (fun c33 => ?_)
              · have hF := ob_pos c33 hF
                rw [ek32] at hF
                refine lv_aload_n hx hb dX5_addSpan_111 rfl (lv_at hl 0 rfl) ?_
                refine lv_iload_n hx hb dX5_addSpan_112 rfl (lv_at hl 2 rfl) ?_
                refine lv_iconst (v := 0) hx hb dX5_addSpan_113 (by decide) ?_
                refine lv_iload_n hx hb dX5_addSpan_114 rfl (lv_at hl 1 rfl) ?_
                obtain ⟨z34, hz34, hF⟩ := ob_bind hF
                refine cl_v (csR := []) (csF := [wM g a z34]) (rest := []) hx hb hml hown hts hK hE hA hl hP hD hS (c_X5_lays g l a b31 ((M_g z27) (0 : Int32).toNatClampNeg) 0 p0 z34 hz34) [0] [] [0] ⟨rfl, rfl, rfl, rfl, rfl, rfl, rfl⟩ ⟨0, 9, _, _, rfl, rfl, rfl⟩ 3 (jb_giV mw_1407 mw_1409 ms_35 mw_10 mw_1410) ⟨rfl, rfl⟩ (by decide +kernel) ⟨⟨(Nat.le_of_ble_eq_true rfl), (Nat.le_of_ble_eq_true rfl)⟩, (Nat.le_of_ble_eq_true rfl), (Nat.le_of_ble_eq_true rfl)⟩ ⟨rfl, rfl⟩ (Nat.le_of_ble_eq_true rfl) dX5_addSpan_115 (fun H locs hP hD hS => ?_)
                refine lv_iload_n hx hb dX5_addSpan_118 rfl (lv_at hl 2 rfl) ?_
                cases hF
                rw [hQ]
                exact jb_iret hx hb hr hlocks hP hD hS dX5_addSpan_119 rfl (Nat.le_of_ble_eq_true rfl) (Nat.le_of_ble_eq_true rfl)
              · have hF := ob_neg c33 hF
                refine lv_aload_n hx hb dX5_addSpan_98 rfl (lv_at hl 0 rfl) ?_
                refine lv_iload_n hx hb dX5_addSpan_99 rfl (lv_at hl 2 rfl) ?_
                refine lv_iload_n hx hb dX5_addSpan_100 rfl (lv_at hl 3 rfl) ?_
                refine lv_iconst (v := 0) hx hb dX5_addSpan_101 (by decide) ?_
                obtain ⟨z35, hz35, hF⟩ := ob_bind hF
                refine cl_v (csR := []) (csF := [wM g a z35]) (rest := []) hx hb hml hown hts hK hE hA hl hP hD hS (c_X5_lays g l a b31 ((M_g z27) (0 : Int32).toNatClampNeg) x32 0 z35 hz35) [0] [] [0] ⟨rfl, rfl, rfl, rfl, rfl, rfl, rfl⟩ ⟨0, 9, _, _, rfl, rfl, rfl⟩ 3 (jb_giV mw_1407 mw_1409 ms_35 mw_10 mw_1410) ⟨rfl, rfl⟩ (by decide +kernel) ⟨⟨(Nat.le_of_ble_eq_true rfl), (Nat.le_of_ble_eq_true rfl)⟩, (Nat.le_of_ble_eq_true rfl), (Nat.le_of_ble_eq_true rfl)⟩ ⟨rfl, rfl⟩ (Nat.le_of_ble_eq_true rfl) dX5_addSpan_102 (fun H locs hP hD hS => ?_)
                refine lv_iinc (v := x32 + 1) (lv' := [(3, .int (x32 + 1)), (0, .ref (a 0)), (1, .int p0), (2, .int ((M_g z27) (0 : Int32).toNatClampNeg))]) hx hb dX5_addSpan_105 hl (k := 3) rfl (by rfl) (by decide) rfl (fun ls hl => ?_)
                refine lv_goto (tgt := 93) hx hb dX5_addSpan_108 (by decide) ?_
                exact ih32 _ _ hF _ _ hP hD hS ls (lv_sub hl [1, 2, 3, 0] rfl)
          exact loop32 1000 _ _ hF _ _ hP hD hS ls (lv_sub hl [2, 3, 1, 0] rfl)
        · have hF := ob_nneg c26 hF
          refine lv_aload_n hx hb dX5_addSpan_57 rfl (lv_at hl 0 rfl) ?_
          refine lv_iconst (v := 2) hx hb dX5_addSpan_58 (by decide) ?_
          refine lv_iconst (v := 1) hx hb dX5_addSpan_59 (by decide) ?_
          refine lv_bipush (v := 10) hx hb dX5_addSpan_60 (by decide) ?_
          obtain ⟨z36, hz36, hF⟩ := ob_bind hF
          refine cl_i (csR := []) (csF := [wM g a z36.2]) (rest := []) hx hb hml hown hts hK hE hA hl hP hD hS (c_X5_denies g l a z21.2 2 1 10 z36 hz36) [0] [] [0] ⟨rfl, rfl, rfl, rfl, rfl, rfl, rfl⟩ ⟨0, 9, _, _, rfl, rfl, rfl⟩ 3 (jb_giV mw_1396 mw_1398 ms_33 mw_10 mw_1399) ⟨rfl, rfl⟩ (by decide +kernel) ⟨⟨(Nat.le_of_ble_eq_true rfl), (Nat.le_of_ble_eq_true rfl)⟩, (Nat.le_of_ble_eq_true rfl), (Nat.le_of_ble_eq_true rfl)⟩ ⟨rfl, rfl⟩ (Nat.le_of_ble_eq_true rfl) dX5_addSpan_62 (fun H locs hP hD hS => ?_)
          cases hF
          rw [hQ]
          exact jb_iret hx hb hr hlocks hP hD hS dX5_addSpan_65 rfl (Nat.le_of_ble_eq_true rfl) (Nat.le_of_ble_eq_true rfl)
      · have hF := ob_neg c24 hF
        refine lv_aload_n hx hb dX5_addSpan_33 rfl (lv_at hl 0 rfl) ?_
        refine lv_iconst (v := 2) hx hb dX5_addSpan_34 (by decide) ?_
        refine lv_iconst (v := 4) hx hb dX5_addSpan_35 (by decide) ?_
        refine lv_aload_n hx hb dX5_addSpan_36 rfl (lv_at hl 0 rfl) ?_
        refine va_get (D := g.1) (ci := 9) (v := .ref (a 1)) (C := RX5) (T := TX5) (N := 23) hx hb hts inX5 hown hK hP 0 rfl rfl 0 (by decide) (hts _ mw_1311) (fun _ h9 => h9) rfl dX5_addSpan_37 ?_
        refine lv_iconst (v := 1) hx hb dX5_addSpan_40 (by decide) ?_
        have h37 := inb_in (ck_t hF)
        have hF := ck_s hF
        refine va_iald hx hb hK hP 1 0 rfl rfl h37 dX5_addSpan_41 ?_
        obtain ⟨z38, hz38, hF⟩ := ob_bind hF
        refine cl_i (csR := []) (csF := [wM g a z38.2]) (rest := []) hx hb hml hown hts hK hE hA hl hP hD hS (c_X5_denies g l a z21.2 2 4 ((M_g z21.2) (1 : Int32).toNatClampNeg) z38 hz38) [0] [] [0] ⟨rfl, rfl, rfl, rfl, rfl, rfl, rfl⟩ ⟨0, 9, _, _, rfl, rfl, rfl⟩ 3 (jb_giV mw_1396 mw_1398 ms_33 mw_10 mw_1399) ⟨rfl, rfl⟩ (by decide +kernel) ⟨⟨(Nat.le_of_ble_eq_true rfl), (Nat.le_of_ble_eq_true rfl)⟩, (Nat.le_of_ble_eq_true rfl), (Nat.le_of_ble_eq_true rfl)⟩ ⟨rfl, rfl⟩ (Nat.le_of_ble_eq_true rfl) dX5_addSpan_42 (fun H locs hP hD hS => ?_)
        cases hF
        rw [hQ]
        exact jb_iret hx hb hr hlocks hP hD hS dX5_addSpan_45 rfl (Nat.le_of_ble_eq_true rfl) (Nat.le_of_ble_eq_true rfl)
    · have hF := ob_neg c22 hF
      refine lv_iconst (v := 0) hx hb dX5_addSpan_22 (by decide) ?_
      cases hF
      rw [hQ]
      exact jb_iret hx hb hr hlocks hP hD hS dX5_addSpan_23 rfl (Nat.le_of_ble_eq_true rfl) (Nat.le_of_ble_eq_true rfl)
def F_X5_removeLastSpan_L76 (y1 : Int32) (k : Mv → Int32 → Option (Int32 × Mv)) : Nat → Mv → Int32 → Option (Int32 × Mv)
  | 0, _, _ => none
  | n + 1, b0, x2 => if 5 ≤ x2 then k b0 x2 else ck (inb 0 83) ((F_X5_lays b0 ((M_g b0) (0 : Int32).toNatClampNeg) x2 0).bind (fun z3 => F_X5_removeLastSpan_L76 y1 k n z3 (x2 + 1)))
def F_X5_removeLastSpan (mo : Mv) : Option (Int32 × Mv) := ck (inb 0 83) (if ¬ ((M_g mo) (0 : Int32).toNatClampNeg) = 0 then ck (inb 1 83) (if ((M_g mo) (1 : Int32).toNatClampNeg) ≤ 0 then (F_X5_keeps_g mo).bind (fun z1 => ck (inb 0 83) (ck (inb 0 83) (ck (inb 0 83) ((F_X5_of (mkM (upd (M_g z1) (0 : Int32).toNatClampNeg (((M_g z1) (0 : Int32).toNatClampNeg) - 1)) (M_kept z1) (M_saved z1) (M_before z1) (M_trial z1) (M_counted z1) (M_isSaved z1) (M_changes z1) (M_isWithin z1) (M_isDenied z1) (M_code z1) (M_why z1) (M_detail z1) (M_cause z1) (M_input z1) (M_length z1) (M_fault z1) (M_signs z1) (M_signMany z1) (M_lastOver z1) (M_at z1) (M_told z1) (M_toldMany z1)) ((upd (M_g z1) (0 : Int32).toNatClampNeg (((M_g z1) (0 : Int32).toNatClampNeg) - 1)) (0 : Int32).toNatClampNeg) 1).bind (fun z2 => F_X5_removeLastSpan_L76 z2 (fun b4 x5 => some (z2, b4)) 1000 (mkM (upd (M_g z1) (0 : Int32).toNatClampNeg (((M_g z1) (0 : Int32).toNatClampNeg) - 1)) (M_kept z1) (M_saved z1) (M_before z1) (M_trial z1) (M_counted z1) (M_isSaved z1) (M_changes z1) (M_isWithin z1) (M_isDenied z1) (M_code z1) (M_why z1) (M_detail z1) (M_cause z1) (M_input z1) (M_length z1) (M_fault z1) (M_signs z1) (M_signMany z1) (M_lastOver z1) (M_at z1) (M_told z1) (M_toldMany z1)) 0))))) else ck (inb 1 83) ((F_X5_denies mo 1 4 ((M_g mo) (1 : Int32).toNatClampNeg)).bind (fun z6 => some (z6.1, z6.2)))) else ck (inb 3 83) ((F_X5_denies mo 1 3 ((M_g mo) (3 : Int32).toNatClampNeg)).bind (fun z7 => some (z7.1, z7.2))))
set_option maxHeartbeats 4000000 in
set_option maxRecDepth 100000 in
theorem c_X5_removeLastSpan (g : GG) (l : Launch) (a : Nat → Nat) (mo : Mv) (z : Int32 × Mv) (hF : F_X5_removeLastSpan mo = some z) : MI g l yX5_removeLastSpan cX5_removeLastSpan 3 (some .int) ({ frames := 2, cells := 0, slots := 0, locals := 46 } : Room) [.ref (a 0)] [wM g a mo] 0 0 z.1 [wM g a z.2] := by
  refine MI.bg (by decide) (Nat.le_of_ble_eq_true rfl) ?_
  intro p e s m below meth c A Q hQ hx hb hr hml hown hts hlocks hmn hK hE hA hP hD hS ls hl
  rw [F_X5_removeLastSpan] at hF
  have hl : lv_has ls 3 [(0, .ref (a 0))] := hl
  refine lv_aload_n hx hb dX5_removeLastSpan_0 rfl (lv_at hl 0 rfl) ?_
  refine va_get (D := g.1) (ci := 9) (v := .ref (a 1)) (C := RX5) (T := TX5) (N := 23) hx hb hts inX5 hown hK hP 0 rfl rfl 0 (by decide) (hts _ mw_1311) (fun _ h9 => h9) rfl dX5_removeLastSpan_1 ?_
  refine lv_iconst (v := 0) hx hb dX5_removeLastSpan_4 (by decide) ?_
  have h1 := inb_in (ck_t hF)
  have hF := ck_s hF
  refine va_iald hx hb hK hP 1 0 rfl rfl h1 dX5_removeLastSpan_5 ?_
  refine lv_if_ne (tgt := 22) hx hb dX5_removeLastSpan_6 (by decide) (fun c2 => ?_) (fun c2 => ?_)
  · have hF := ob_pos c2 hF
    refine lv_aload_n hx hb dX5_removeLastSpan_22 rfl (lv_at hl 0 rfl) ?_
    refine va_get (D := g.1) (ci := 9) (v := .ref (a 1)) (C := RX5) (T := TX5) (N := 23) hx hb hts inX5 hown hK hP 0 rfl rfl 0 (by decide) (hts _ mw_1311) (fun _ h9 => h9) rfl dX5_removeLastSpan_23 ?_
    refine lv_iconst (v := 1) hx hb dX5_removeLastSpan_26 (by decide) ?_
    have h3 := inb_in (ck_t hF)
    have hF := ck_s hF
    refine va_iald hx hb hK hP 1 0 rfl rfl h3 dX5_removeLastSpan_27 ?_
    refine lv_if_le (tgt := 44) hx hb dX5_removeLastSpan_28 (by decide) (fun c4 => ?_) (fun c4 => ?_)
    · have hF := ob_pos c4 hF
      refine lv_aload_n hx hb dX5_removeLastSpan_44 rfl (lv_at hl 0 rfl) ?_
      refine lv_aload_n hx hb dX5_removeLastSpan_45 rfl (lv_at hl 0 rfl) ?_
      refine va_get (D := g.1) (ci := 9) (v := .ref (a 1)) (C := RX5) (T := TX5) (N := 23) hx hb hts inX5 hown hK hP 0 rfl rfl 0 (by decide) (hts _ mw_1311) (fun _ h9 => h9) rfl dX5_removeLastSpan_46 ?_
      obtain ⟨z5, hz5, hF⟩ := ob_bind hF
      refine cl_v (csR := []) (csF := [wM g a z5]) (rest := []) hx hb hml hown hts hK hE hA hl hP hD hS (c_X5_keeps_g g l a mo z5 hz5) [0] [] [0] ⟨rfl, rfl, rfl, rfl, rfl, rfl, rfl⟩ ⟨0, 9, _, _, rfl, rfl, rfl⟩ 1 (jb_giV mw_1400 mw_1402 ms_34 mw_10 mw_1403) ⟨rfl, rfl⟩ (by decide +kernel) ⟨⟨(Nat.le_of_ble_eq_true rfl), (Nat.le_of_ble_eq_true rfl)⟩, (Nat.le_of_ble_eq_true rfl), (Nat.le_of_ble_eq_true rfl)⟩ ⟨rfl, rfl⟩ (Nat.le_of_ble_eq_true rfl) dX5_removeLastSpan_49 (fun H locs hP hD hS => ?_)
      refine lv_aload_n hx hb dX5_removeLastSpan_52 rfl (lv_at hl 0 rfl) ?_
      refine va_get (D := g.1) (ci := 9) (v := .ref (a 1)) (C := RX5) (T := TX5) (N := 23) hx hb hts inX5 hown hK hP 0 rfl rfl 0 (by decide) (hts _ mw_1311) (fun _ h9 => h9) rfl dX5_removeLastSpan_53 ?_
      refine lv_iconst (v := 0) hx hb dX5_removeLastSpan_56 (by decide) ?_
      refine lv_dup2_11 hx hb dX5_removeLastSpan_57 rfl rfl ?_
      have h6 := inb_in (ck_t hF)
      have hF := ck_s hF
      refine va_iald hx hb hK hP 1 0 rfl rfl h6 dX5_removeLastSpan_58 ?_
      refine lv_iconst (v := 1) hx hb dX5_removeLastSpan_59 (by decide) ?_
      refine lv_isub hx hb dX5_removeLastSpan_60 ?_
      have h7 := inb_in (ck_t hF)
      have hF := ck_s hF
      refine va_iast hx hb hK hP hD hS 1 0 rfl rfl h7 dX5_removeLastSpan_61 (fun H locs hP hD hS => ?_)
      have hP : va_P g.1 vwCl ([wMc g a (upd (M_g z5) (0 : Int32).toNatClampNeg (((M_g z5) (0 : Int32).toNatClampNeg) - 1)) (M_kept z5) (M_saved z5) (M_before z5) (M_trial z5) (M_counted z5) (M_isSaved z5) (M_changes z5) (M_isWithin z5) (M_isDenied z5) (M_code z5) (M_why z5) (M_detail z5) (M_cause z5) (M_input z5) (M_length z5) (M_fault z5) (M_signs z5) (M_signMany z5) (M_lastOver z5) (M_at z5) (M_told z5) (M_toldMany z5)] : List va_W).flatten _ := hP
      have hD : va_D A ([wMc g a (upd (M_g z5) (0 : Int32).toNatClampNeg (((M_g z5) (0 : Int32).toNatClampNeg) - 1)) (M_kept z5) (M_saved z5) (M_before z5) (M_trial z5) (M_counted z5) (M_isSaved z5) (M_changes z5) (M_isWithin z5) (M_isDenied z5) (M_code z5) (M_why z5) (M_detail z5) (M_cause z5) (M_input z5) (M_length z5) (M_fault z5) (M_signs z5) (M_signMany z5) (M_lastOver z5) (M_at z5) (M_told z5) (M_toldMany z5)] : List va_W).flatten := hD
      refine lv_aload_n hx hb dX5_removeLastSpan_62 rfl (lv_at hl 0 rfl) ?_
      refine lv_aload_n hx hb dX5_removeLastSpan_63 rfl (lv_at hl 0 rfl) ?_
      refine va_get (D := g.1) (ci := 9) (v := .ref (a 1)) (C := RX5) (T := TX5) (N := 23) hx hb hts inX5 hown hK hP 0 rfl rfl 0 (by decide) (hts _ mw_1311) (fun _ h9 => h9) rfl dX5_removeLastSpan_64 ?_
      refine lv_iconst (v := 0) hx hb dX5_removeLastSpan_67 (by decide) ?_
      have h8 := inb_in (ck_t hF)
      have hF := ck_s hF
      refine va_iald hx hb hK hP 1 0 rfl rfl h8 dX5_removeLastSpan_68 ?_
      refine lv_iconst (v := 1) hx hb dX5_removeLastSpan_69 (by decide) ?_
      obtain ⟨z9, hz9, hF⟩ := ob_bind hF
      refine cl_i (csR := []) (csF := [wMc g a (upd (M_g z5) (0 : Int32).toNatClampNeg (((M_g z5) (0 : Int32).toNatClampNeg) - 1)) (M_kept z5) (M_saved z5) (M_before z5) (M_trial z5) (M_counted z5) (M_isSaved z5) (M_changes z5) (M_isWithin z5) (M_isDenied z5) (M_code z5) (M_why z5) (M_detail z5) (M_cause z5) (M_input z5) (M_length z5) (M_fault z5) (M_signs z5) (M_signMany z5) (M_lastOver z5) (M_at z5) (M_told z5) (M_toldMany z5)]) (rest := []) hx hb hml hown hts hK hE hA hl hP hD hS (c_X5_of g l a (mkM (upd (M_g z5) (0 : Int32).toNatClampNeg (((M_g z5) (0 : Int32).toNatClampNeg) - 1)) (M_kept z5) (M_saved z5) (M_before z5) (M_trial z5) (M_counted z5) (M_isSaved z5) (M_changes z5) (M_isWithin z5) (M_isDenied z5) (M_code z5) (M_why z5) (M_detail z5) (M_cause z5) (M_input z5) (M_length z5) (M_fault z5) (M_signs z5) (M_signMany z5) (M_lastOver z5) (M_at z5) (M_told z5) (M_toldMany z5)) ((upd (M_g z5) (0 : Int32).toNatClampNeg (((M_g z5) (0 : Int32).toNatClampNeg) - 1)) (0 : Int32).toNatClampNeg) 1 z9 hz9) [0] [] [0] ⟨rfl, rfl, rfl, rfl, rfl, rfl, rfl⟩ ⟨0, 9, _, _, rfl, rfl, rfl⟩ 2 (jb_giV mw_1415 mw_1417 ms_36 mw_10 mw_1418) ⟨rfl, rfl⟩ (by decide +kernel) ⟨⟨(Nat.le_of_ble_eq_true rfl), (Nat.le_of_ble_eq_true rfl)⟩, (Nat.le_of_ble_eq_true rfl), (Nat.le_of_ble_eq_true rfl)⟩ ⟨rfl, rfl⟩ (Nat.le_of_ble_eq_true rfl) dX5_removeLastSpan_70 (fun H locs hP hD hS => ?_)
      refine lv_istore_n (lv' := [(1, .int z9), (0, .ref (a 0))]) hx hb dX5_removeLastSpan_73 rfl hl (by decide) rfl (fun ls hl => ?_)
      refine lv_iconst (v := 0) hx hb dX5_removeLastSpan_74 (by decide) ?_
      refine lv_istore_n (lv' := [(2, .int 0), (1, .int z9), (0, .ref (a 0))]) hx hb dX5_removeLastSpan_75 rfl hl (by decide) rfl (fun ls hl => ?_)
      obtain ⟨k11, ek11, hF⟩ := ob_k (F := fun k9 => F_X5_removeLastSpan_L76 z9 k9 1000 (mkM (upd (M_g z5) (0 : Int32).toNatClampNeg (((M_g z5) (0 : Int32).toNatClampNeg) - 1)) (M_kept z5) (M_saved z5) (M_before z5) (M_trial z5) (M_counted z5) (M_isSaved z5) (M_changes z5) (M_isWithin z5) (M_isDenied z5) (M_code z5) (M_why z5) (M_detail z5) (M_cause z5) (M_input z5) (M_length z5) (M_fault z5) (M_signs z5) (M_signMany z5) (M_lastOver z5) (M_at z5) (M_told z5) (M_toldMany z5)) 0) hF
      have loop11 : ∀ (n9 : Nat) (b10 : Mv) (x11 : Int32), F_X5_removeLastSpan_L76 z9 k11 n9 b10 x11 = some z → ∀ (H : Heap) (locs : List Loc), va_P g.1 vwCl ([wM g a b10] : List va_W).flatten H → va_D A ([wM g a b10] : List va_W).flatten → va_S A s.heap H locs → ∀ ls : Array Slot, lv_has ls 3 [(0, .ref (a 0)), (1, .int z9), (2, .int x11)] → W p l e ({ frames := 2, cells := 0, slots := 0, locals := 46 } : Room) s m ([.ref (a 0)] : List Value).toArray below meth c H locs 0 0 Q (F0 m 76 ls []) := by
        intro n9
        induction n9 with
        | zero => intro b10 x11 hF; rw [F_X5_removeLastSpan_L76] at hF; cases hF
        | succ n9 ih11 =>
          intro b10 x11 hF H locs hP hD hS ls hl
          rw [F_X5_removeLastSpan_L76] at hF
          refine lv_iload_n hx hb dX5_removeLastSpan_76 rfl (lv_at hl 2 rfl) ?_
          refine lv_iconst (v := 5) hx hb dX5_removeLastSpan_77 (by decide) ?_
          refine lv_icmp_ge (tgt := 99) hx hb dX5_removeLastSpan_78 (by decide) (fun c12 => ?_) (fun c12 => ?_)
          · have hF := ob_pos c12 hF
            rw [ek11] at hF
            refine lv_iload_n hx hb dX5_removeLastSpan_99 rfl (lv_at hl 1 rfl) ?_
            cases hF
            rw [hQ]
            exact jb_iret hx hb hr hlocks hP hD hS dX5_removeLastSpan_100 rfl (Nat.le_of_ble_eq_true rfl) (Nat.le_of_ble_eq_true rfl)
          · have hF := ob_neg c12 hF
            refine lv_aload_n hx hb dX5_removeLastSpan_81 rfl (lv_at hl 0 rfl) ?_
            refine lv_aload_n hx hb dX5_removeLastSpan_82 rfl (lv_at hl 0 rfl) ?_
            refine va_get (D := g.1) (ci := 9) (v := .ref (a 1)) (C := RX5) (T := TX5) (N := 23) hx hb hts inX5 hown hK hP 0 rfl rfl 0 (by decide) (hts _ mw_1311) (fun _ h9 => h9) rfl dX5_removeLastSpan_83 ?_
            refine lv_iconst (v := 0) hx hb dX5_removeLastSpan_86 (by decide) ?_
            have h13 := inb_in (ck_t hF)
            have hF := ck_s hF
            refine va_iald hx hb hK hP 1 0 rfl rfl h13 dX5_removeLastSpan_87 ?_
            refine lv_iload_n hx hb dX5_removeLastSpan_88 rfl (lv_at hl 2 rfl) ?_
            refine lv_iconst (v := 0) hx hb dX5_removeLastSpan_89 (by decide) ?_
            obtain ⟨z14, hz14, hF⟩ := ob_bind hF
            refine cl_v (csR := []) (csF := [wM g a z14]) (rest := []) hx hb hml hown hts hK hE hA hl hP hD hS (c_X5_lays g l a b10 ((M_g b10) (0 : Int32).toNatClampNeg) x11 0 z14 hz14) [0] [] [0] ⟨rfl, rfl, rfl, rfl, rfl, rfl, rfl⟩ ⟨0, 9, _, _, rfl, rfl, rfl⟩ 3 (jb_giV mw_1407 mw_1409 ms_35 mw_10 mw_1410) ⟨rfl, rfl⟩ (by decide +kernel) ⟨⟨(Nat.le_of_ble_eq_true rfl), (Nat.le_of_ble_eq_true rfl)⟩, (Nat.le_of_ble_eq_true rfl), (Nat.le_of_ble_eq_true rfl)⟩ ⟨rfl, rfl⟩ (Nat.le_of_ble_eq_true rfl) dX5_removeLastSpan_90 (fun H locs hP hD hS => ?_)
            refine lv_iinc (v := x11 + 1) (lv' := [(2, .int (x11 + 1)), (0, .ref (a 0)), (1, .int z9)]) hx hb dX5_removeLastSpan_93 hl (k := 2) rfl (by rfl) (by decide) rfl (fun ls hl => ?_)
            refine lv_goto (tgt := 76) hx hb dX5_removeLastSpan_96 (by decide) ?_
            exact ih11 _ _ hF _ _ hP hD hS ls (lv_sub hl [1, 2, 0] rfl)
      exact loop11 1000 _ _ hF _ _ hP hD hS ls (lv_sub hl [2, 1, 0] rfl)
    · have hF := ob_neg c4 hF
      refine lv_aload_n hx hb dX5_removeLastSpan_31 rfl (lv_at hl 0 rfl) ?_
      refine lv_iconst (v := 1) hx hb dX5_removeLastSpan_32 (by decide) ?_
      refine lv_iconst (v := 4) hx hb dX5_removeLastSpan_33 (by decide) ?_
      refine lv_aload_n hx hb dX5_removeLastSpan_34 rfl (lv_at hl 0 rfl) ?_
      refine va_get (D := g.1) (ci := 9) (v := .ref (a 1)) (C := RX5) (T := TX5) (N := 23) hx hb hts inX5 hown hK hP 0 rfl rfl 0 (by decide) (hts _ mw_1311) (fun _ h9 => h9) rfl dX5_removeLastSpan_35 ?_
      refine lv_iconst (v := 1) hx hb dX5_removeLastSpan_38 (by decide) ?_
      have h15 := inb_in (ck_t hF)
      have hF := ck_s hF
      refine va_iald hx hb hK hP 1 0 rfl rfl h15 dX5_removeLastSpan_39 ?_
      obtain ⟨z16, hz16, hF⟩ := ob_bind hF
      refine cl_i (csR := []) (csF := [wM g a z16.2]) (rest := []) hx hb hml hown hts hK hE hA hl hP hD hS (c_X5_denies g l a mo 1 4 ((M_g mo) (1 : Int32).toNatClampNeg) z16 hz16) [0] [] [0] ⟨rfl, rfl, rfl, rfl, rfl, rfl, rfl⟩ ⟨0, 9, _, _, rfl, rfl, rfl⟩ 3 (jb_giV mw_1396 mw_1398 ms_33 mw_10 mw_1399) ⟨rfl, rfl⟩ (by decide +kernel) ⟨⟨(Nat.le_of_ble_eq_true rfl), (Nat.le_of_ble_eq_true rfl)⟩, (Nat.le_of_ble_eq_true rfl), (Nat.le_of_ble_eq_true rfl)⟩ ⟨rfl, rfl⟩ (Nat.le_of_ble_eq_true rfl) dX5_removeLastSpan_40 (fun H locs hP hD hS => ?_)
      cases hF
      rw [hQ]
      exact jb_iret hx hb hr hlocks hP hD hS dX5_removeLastSpan_43 rfl (Nat.le_of_ble_eq_true rfl) (Nat.le_of_ble_eq_true rfl)
  · have hF := ob_nneg c2 hF
    refine lv_aload_n hx hb dX5_removeLastSpan_9 rfl (lv_at hl 0 rfl) ?_
    refine lv_iconst (v := 1) hx hb dX5_removeLastSpan_10 (by decide) ?_
    refine lv_iconst (v := 3) hx hb dX5_removeLastSpan_11 (by decide) ?_
    refine lv_aload_n hx hb dX5_removeLastSpan_12 rfl (lv_at hl 0 rfl) ?_
    refine va_get (D := g.1) (ci := 9) (v := .ref (a 1)) (C := RX5) (T := TX5) (N := 23) hx hb hts inX5 hown hK hP 0 rfl rfl 0 (by decide) (hts _ mw_1311) (fun _ h9 => h9) rfl dX5_removeLastSpan_13 ?_
    refine lv_iconst (v := 3) hx hb dX5_removeLastSpan_16 (by decide) ?_
    have h17 := inb_in (ck_t hF)
    have hF := ck_s hF
    refine va_iald hx hb hK hP 1 0 rfl rfl h17 dX5_removeLastSpan_17 ?_
    obtain ⟨z18, hz18, hF⟩ := ob_bind hF
    refine cl_i (csR := []) (csF := [wM g a z18.2]) (rest := []) hx hb hml hown hts hK hE hA hl hP hD hS (c_X5_denies g l a mo 1 3 ((M_g mo) (3 : Int32).toNatClampNeg) z18 hz18) [0] [] [0] ⟨rfl, rfl, rfl, rfl, rfl, rfl, rfl⟩ ⟨0, 9, _, _, rfl, rfl, rfl⟩ 3 (jb_giV mw_1396 mw_1398 ms_33 mw_10 mw_1399) ⟨rfl, rfl⟩ (by decide +kernel) ⟨⟨(Nat.le_of_ble_eq_true rfl), (Nat.le_of_ble_eq_true rfl)⟩, (Nat.le_of_ble_eq_true rfl), (Nat.le_of_ble_eq_true rfl)⟩ ⟨rfl, rfl⟩ (Nat.le_of_ble_eq_true rfl) dX5_removeLastSpan_18 (fun H locs hP hD hS => ?_)
    cases hF
    rw [hQ]
    exact jb_iret hx hb hr hlocks hP hD hS dX5_removeLastSpan_21 rfl (Nat.le_of_ble_eq_true rfl) (Nat.le_of_ble_eq_true rfl)
def F_X5_pour (mo : Mv) (p0 : Int32) (p1 : Int32) : Option (Int32 × Mv) := (F_X5_isSpan mo p0).bind (fun z1 => if ¬ (bi z1) = 0 then (F_X5_in p1 1 50).bind (fun z2 => if (bi z2) = 0 then (F_X5_fails mo 2).bind (fun z3 => if (bi z3.1) = 0 then ck (inb 1 83) (if ((M_g z3.2) (1 : Int32).toNatClampNeg) ≤ 0 then (F_X5_of z3.2 p0 1).bind (fun z4 => if (z4 + p1) ≤ 50 then (F_X5_keeps_g z3.2).bind (fun z5 => (F_X5_lays z5 p0 1 (z4 + p1)).bind (fun z6 => (F_X5_of z6 p0 2).bind (fun z7 => ck (nz (z4 + p1)) ((F_X5_lays z6 p0 2 ((z7 * z4) / (z4 + p1))).bind (fun z8 => (F_X5_of z8 p0 2).bind (fun z9 => some (z9, z8))))))) else (F_X5_denies z3.2 3 1 50).bind (fun z10 => some (z10.1, z10.2))) else ck (inb 1 83) ((F_X5_denies z3.2 3 4 ((M_g z3.2) (1 : Int32).toNatClampNeg)).bind (fun z11 => some (z11.1, z11.2)))) else some (0, z3.2)) else (F_X5_fails mo 0).bind (fun z12 => if (bi z12.1) = 0 then ck (inb 1 83) (if ((M_g z12.2) (1 : Int32).toNatClampNeg) ≤ 0 then (F_X5_of z12.2 p0 1).bind (fun z13 => if (z13 + p1) ≤ 50 then (F_X5_keeps_g z12.2).bind (fun z14 => (F_X5_lays z14 p0 1 (z13 + p1)).bind (fun z15 => (F_X5_of z15 p0 2).bind (fun z16 => ck (nz (z13 + p1)) ((F_X5_lays z15 p0 2 ((z16 * z13) / (z13 + p1))).bind (fun z17 => (F_X5_of z17 p0 2).bind (fun z18 => some (z18, z17))))))) else (F_X5_denies z12.2 3 1 50).bind (fun z19 => some (z19.1, z19.2))) else ck (inb 1 83) ((F_X5_denies z12.2 3 4 ((M_g z12.2) (1 : Int32).toNatClampNeg)).bind (fun z20 => some (z20.1, z20.2)))) else some (0, z12.2))) else (F_X5_fails mo 1).bind (fun z21 => if (bi z21.1) = 0 then ck (inb 1 83) (if ((M_g z21.2) (1 : Int32).toNatClampNeg) ≤ 0 then (F_X5_of z21.2 p0 1).bind (fun z22 => if (z22 + p1) ≤ 50 then (F_X5_keeps_g z21.2).bind (fun z23 => (F_X5_lays z23 p0 1 (z22 + p1)).bind (fun z24 => (F_X5_of z24 p0 2).bind (fun z25 => ck (nz (z22 + p1)) ((F_X5_lays z24 p0 2 ((z25 * z22) / (z22 + p1))).bind (fun z26 => (F_X5_of z26 p0 2).bind (fun z27 => some (z27, z26))))))) else (F_X5_denies z21.2 3 1 50).bind (fun z28 => some (z28.1, z28.2))) else ck (inb 1 83) ((F_X5_denies z21.2 3 4 ((M_g z21.2) (1 : Int32).toNatClampNeg)).bind (fun z29 => some (z29.1, z29.2)))) else some (0, z21.2)))
set_option maxHeartbeats 4000000 in
set_option maxRecDepth 100000 in
theorem c_X5_pour (g : GG) (l : Launch) (a : Nat → Nat) (mo : Mv) (p0 : Int32) (p1 : Int32) (z : Int32 × Mv) (hF : F_X5_pour mo p0 p1 = some z) : MI g l yX5_pour cX5_pour 4 (some .int) ({ frames := 2, cells := 0, slots := 0, locals := 46 } : Room) [.ref (a 0), .int p0, .int p1] [wM g a mo] 0 0 z.1 [wM g a z.2] := by
  refine MI.bg (by decide) (Nat.le_of_ble_eq_true rfl) ?_
  intro p e s m below meth c A Q hQ hx hb hr hml hown hts hlocks hmn hK hE hA hP hD hS ls hl
  rw [F_X5_pour] at hF
  have hl : lv_has ls 4 [(0, .ref (a 0)), (1, .int p0), (2, .int p1)] := hl
  refine lv_aload_n hx hb dX5_pour_0 rfl (lv_at hl 0 rfl) ?_
  refine lv_aload_n hx hb dX5_pour_1 rfl (lv_at hl 0 rfl) ?_
  refine lv_iload_n hx hb dX5_pour_2 rfl (lv_at hl 1 rfl) ?_
  obtain ⟨z1, hz1, hF⟩ := ob_bind hF
  refine cl_i (csR := []) (csF := [wM g a mo]) (rest := [.ref (a 0)]) hx hb hml hown hts hK hE hA hl hP hD hS (c_X5_isSpan g l a mo p0 z1 hz1) [0] [] [0] ⟨rfl, rfl, rfl, rfl, rfl, rfl, rfl⟩ ⟨0, 9, _, _, rfl, rfl, rfl⟩ 1 (jb_giV mw_1423 mw_1425 ms_37 mw_10 mw_1426) ⟨rfl, rfl⟩ (by decide +kernel) ⟨⟨(Nat.le_of_ble_eq_true rfl), (Nat.le_of_ble_eq_true rfl)⟩, (Nat.le_of_ble_eq_true rfl), (Nat.le_of_ble_eq_true rfl)⟩ ⟨rfl, rfl⟩ (Nat.le_of_ble_eq_true rfl) dX5_pour_3 (fun H locs hP hD hS => ?_)
  refine lv_if_ne (tgt := 13) hx hb dX5_pour_6 (by decide) (fun c2 => ?_) (fun c2 => ?_)
  · have hF := ob_pos c2 hF
    refine lv_iload_n hx hb dX5_pour_13 rfl (lv_at hl 2 rfl) ?_
    refine lv_iconst (v := 1) hx hb dX5_pour_14 (by decide) ?_
    refine lv_bipush (v := 50) hx hb dX5_pour_15 (by decide) ?_
    obtain ⟨z3, hz3, hF⟩ := ob_bind hF
    refine cl_si (csR := [wM g a mo]) (csF := [wM g a mo]) (rest := [.ref (a 0)]) hx hb hml hown hts hK hE hA hl hP hD hS (c_X5_in g l  p1 1 50 z3 hz3) [] [0] [0] ⟨rfl, rfl, rfl, rfl, rfl, rfl, rfl⟩ 3 (jb_giS mw_1389 mw_1390 mw_10 mw_1391) ⟨rfl, rfl⟩ (by decide +kernel) ⟨⟨(Nat.le_of_ble_eq_true rfl), (Nat.le_of_ble_eq_true rfl)⟩, (Nat.le_of_ble_eq_true rfl), (Nat.le_of_ble_eq_true rfl)⟩ ⟨rfl, rfl⟩ (Nat.le_of_ble_eq_true rfl) dX5_pour_17 (fun H locs hP hD hS => ?_)
    refine lv_if_eq (tgt := 27) hx hb dX5_pour_20 (by decide) (fun c4 => ?_) (fun c4 => ?_)
    · have hF := ob_pos c4 hF
      refine lv_iconst (v := 2) hx hb dX5_pour_27 (by decide) ?_
      obtain ⟨z5, hz5, hF⟩ := ob_bind hF
      refine cl_i (csR := []) (csF := [wM g a z5.2]) (rest := []) hx hb hml hown hts hK hE hA hl hP hD hS (c_X5_fails g l a mo 2 z5 hz5) [0] [] [0] ⟨rfl, rfl, rfl, rfl, rfl, rfl, rfl⟩ ⟨0, 9, _, _, rfl, rfl, rfl⟩ 1 (jb_giV mw_1392 mw_1394 ms_32 mw_10 mw_1395) ⟨rfl, rfl⟩ (by decide +kernel) ⟨⟨(Nat.le_of_ble_eq_true rfl), (Nat.le_of_ble_eq_true rfl)⟩, (Nat.le_of_ble_eq_true rfl), (Nat.le_of_ble_eq_true rfl)⟩ ⟨rfl, rfl⟩ (Nat.le_of_ble_eq_true rfl) dX5_pour_28 (fun H locs hP hD hS => ?_)
      refine lv_if_eq (tgt := 36) hx hb dX5_pour_31 (by decide) (fun c6 => ?_) (fun c6 => ?_)
      · have hF := ob_pos c6 hF
        refine lv_aload_n hx hb dX5_pour_36 rfl (lv_at hl 0 rfl) ?_
        refine va_get (D := g.1) (ci := 9) (v := .ref (a 1)) (C := RX5) (T := TX5) (N := 23) hx hb hts inX5 hown hK hP 0 rfl rfl 0 (by decide) (hts _ mw_1311) (fun _ h9 => h9) rfl dX5_pour_37 ?_
        refine lv_iconst (v := 1) hx hb dX5_pour_40 (by decide) ?_
        have h7 := inb_in (ck_t hF)
        have hF := ck_s hF
        refine va_iald hx hb hK hP 1 0 rfl rfl h7 dX5_pour_41 ?_
        refine lv_if_le (tgt := 58) hx hb dX5_pour_42 (by decide) (fun c8 => ?_) (fun c8 => ?_)
        · have hF := ob_pos c8 hF
          refine lv_aload_n hx hb dX5_pour_58 rfl (lv_at hl 0 rfl) ?_
          refine lv_iload_n hx hb dX5_pour_59 rfl (lv_at hl 1 rfl) ?_
          refine lv_iconst (v := 1) hx hb dX5_pour_60 (by decide) ?_
          obtain ⟨z9, hz9, hF⟩ := ob_bind hF
          refine cl_i (csR := []) (csF := [wM g a z5.2]) (rest := []) hx hb hml hown hts hK hE hA hl hP hD hS (c_X5_of g l a z5.2 p0 1 z9 hz9) [0] [] [0] ⟨rfl, rfl, rfl, rfl, rfl, rfl, rfl⟩ ⟨0, 9, _, _, rfl, rfl, rfl⟩ 2 (jb_giV mw_1415 mw_1417 ms_36 mw_10 mw_1418) ⟨rfl, rfl⟩ (by decide +kernel) ⟨⟨(Nat.le_of_ble_eq_true rfl), (Nat.le_of_ble_eq_true rfl)⟩, (Nat.le_of_ble_eq_true rfl), (Nat.le_of_ble_eq_true rfl)⟩ ⟨rfl, rfl⟩ (Nat.le_of_ble_eq_true rfl) dX5_pour_61 (fun H locs hP hD hS => ?_)
          refine lv_istore_n (lv' := [(3, .int z9), (0, .ref (a 0)), (1, .int p0), (2, .int p1)]) hx hb dX5_pour_64 rfl hl (by decide) rfl (fun ls hl => ?_)
          refine lv_iload_n hx hb dX5_pour_65 rfl (lv_at hl 0 rfl) ?_
          refine lv_iload_n hx hb dX5_pour_66 rfl (lv_at hl 3 rfl) ?_
          refine lv_iadd hx hb dX5_pour_67 ?_
          refine lv_bipush (v := 50) hx hb dX5_pour_68 (by decide) ?_
          refine lv_icmp_le (tgt := 82) hx hb dX5_pour_70 (by decide) (fun c10 => ?_) (fun c10 => ?_)
          · have hF := ob_pos c10 hF
            refine lv_aload_n hx hb dX5_pour_82 rfl (lv_at hl 1 rfl) ?_
            refine lv_aload_n hx hb dX5_pour_83 rfl (lv_at hl 1 rfl) ?_
            refine va_get (D := g.1) (ci := 9) (v := .ref (a 1)) (C := RX5) (T := TX5) (N := 23) hx hb hts inX5 hown hK hP 0 rfl rfl 0 (by decide) (hts _ mw_1311) (fun _ h9 => h9) rfl dX5_pour_84 ?_
            obtain ⟨z11, hz11, hF⟩ := ob_bind hF
            refine cl_v (csR := []) (csF := [wM g a z11]) (rest := []) hx hb hml hown hts hK hE hA hl hP hD hS (c_X5_keeps_g g l a z5.2 z11 hz11) [0] [] [0] ⟨rfl, rfl, rfl, rfl, rfl, rfl, rfl⟩ ⟨0, 9, _, _, rfl, rfl, rfl⟩ 1 (jb_giV mw_1400 mw_1402 ms_34 mw_10 mw_1403) ⟨rfl, rfl⟩ (by decide +kernel) ⟨⟨(Nat.le_of_ble_eq_true rfl), (Nat.le_of_ble_eq_true rfl)⟩, (Nat.le_of_ble_eq_true rfl), (Nat.le_of_ble_eq_true rfl)⟩ ⟨rfl, rfl⟩ (Nat.le_of_ble_eq_true rfl) dX5_pour_87 (fun H locs hP hD hS => ?_)
            refine lv_aload_n hx hb dX5_pour_90 rfl (lv_at hl 1 rfl) ?_
            refine lv_iload_n hx hb dX5_pour_91 rfl (lv_at hl 2 rfl) ?_
            refine lv_iconst (v := 1) hx hb dX5_pour_92 (by decide) ?_
            refine lv_iload_n hx hb dX5_pour_93 rfl (lv_at hl 0 rfl) ?_
            refine lv_iload_n hx hb dX5_pour_94 rfl (lv_at hl 3 rfl) ?_
            refine lv_iadd hx hb dX5_pour_95 ?_
            obtain ⟨z12, hz12, hF⟩ := ob_bind hF
            refine cl_v (csR := []) (csF := [wM g a z12]) (rest := []) hx hb hml hown hts hK hE hA hl hP hD hS (c_X5_lays g l a z11 p0 1 (z9 + p1) z12 hz12) [0] [] [0] ⟨rfl, rfl, rfl, rfl, rfl, rfl, rfl⟩ ⟨0, 9, _, _, rfl, rfl, rfl⟩ 3 (jb_giV mw_1407 mw_1409 ms_35 mw_10 mw_1410) ⟨rfl, rfl⟩ (by decide +kernel) ⟨⟨(Nat.le_of_ble_eq_true rfl), (Nat.le_of_ble_eq_true rfl)⟩, (Nat.le_of_ble_eq_true rfl), (Nat.le_of_ble_eq_true rfl)⟩ ⟨rfl, rfl⟩ (Nat.le_of_ble_eq_true rfl) dX5_pour_96 (fun H locs hP hD hS => ?_)
            refine lv_aload_n hx hb dX5_pour_99 rfl (lv_at hl 1 rfl) ?_
            refine lv_iload_n hx hb dX5_pour_100 rfl (lv_at hl 2 rfl) ?_
            refine lv_iconst (v := 2) hx hb dX5_pour_101 (by decide) ?_
            refine lv_aload_n hx hb dX5_pour_102 rfl (lv_at hl 1 rfl) ?_
            refine lv_iload_n hx hb dX5_pour_103 rfl (lv_at hl 2 rfl) ?_
            refine lv_iconst (v := 2) hx hb dX5_pour_104 (by decide) ?_
            obtain ⟨z13, hz13, hF⟩ := ob_bind hF
            refine cl_i (csR := []) (csF := [wM g a z12]) (rest := [.int 2, .int p0, .ref (a 0)]) hx hb hml hown hts hK hE hA hl hP hD hS (c_X5_of g l a z12 p0 2 z13 hz13) [0] [] [0] ⟨rfl, rfl, rfl, rfl, rfl, rfl, rfl⟩ ⟨0, 9, _, _, rfl, rfl, rfl⟩ 2 (jb_giV mw_1415 mw_1417 ms_36 mw_10 mw_1418) ⟨rfl, rfl⟩ (by decide +kernel) ⟨⟨(Nat.le_of_ble_eq_true rfl), (Nat.le_of_ble_eq_true rfl)⟩, (Nat.le_of_ble_eq_true rfl), (Nat.le_of_ble_eq_true rfl)⟩ ⟨rfl, rfl⟩ (Nat.le_of_ble_eq_true rfl) dX5_pour_105 (fun H locs hP hD hS => ?_)
            refine lv_iload_n hx hb dX5_pour_108 rfl (lv_at hl 0 rfl) ?_
            refine lv_imul hx hb dX5_pour_109 ?_
            refine lv_iload_n hx hb dX5_pour_110 rfl (lv_at hl 0 rfl) ?_
            refine lv_iload_n hx hb dX5_pour_111 rfl (lv_at hl 3 rfl) ?_
            refine lv_iadd hx hb dX5_pour_112 ?_
            have h14 := nz_ne (ck_t hF)
            have hF := ck_s hF
            refine lv_idiv hx hb dX5_pour_113 h14 ?_
            obtain ⟨z15, hz15, hF⟩ := ob_bind hF
            refine cl_v (csR := []) (csF := [wM g a z15]) (rest := []) hx hb hml hown hts hK hE hA hl hP hD hS (c_X5_lays g l a z12 p0 2 ((z13 * z9) / (z9 + p1)) z15 hz15) [0] [] [0] ⟨rfl, rfl, rfl, rfl, rfl, rfl, rfl⟩ ⟨0, 9, _, _, rfl, rfl, rfl⟩ 3 (jb_giV mw_1407 mw_1409 ms_35 mw_10 mw_1410) ⟨rfl, rfl⟩ (by decide +kernel) ⟨⟨(Nat.le_of_ble_eq_true rfl), (Nat.le_of_ble_eq_true rfl)⟩, (Nat.le_of_ble_eq_true rfl), (Nat.le_of_ble_eq_true rfl)⟩ ⟨rfl, rfl⟩ (Nat.le_of_ble_eq_true rfl) dX5_pour_114 (fun H locs hP hD hS => ?_)
            refine lv_aload_n hx hb dX5_pour_117 rfl (lv_at hl 1 rfl) ?_
            refine lv_iload_n hx hb dX5_pour_118 rfl (lv_at hl 2 rfl) ?_
            refine lv_iconst (v := 2) hx hb dX5_pour_119 (by decide) ?_
            obtain ⟨z16, hz16, hF⟩ := ob_bind hF
            refine cl_i (csR := []) (csF := [wM g a z15]) (rest := []) hx hb hml hown hts hK hE hA hl hP hD hS (c_X5_of g l a z15 p0 2 z16 hz16) [0] [] [0] ⟨rfl, rfl, rfl, rfl, rfl, rfl, rfl⟩ ⟨0, 9, _, _, rfl, rfl, rfl⟩ 2 (jb_giV mw_1415 mw_1417 ms_36 mw_10 mw_1418) ⟨rfl, rfl⟩ (by decide +kernel) ⟨⟨(Nat.le_of_ble_eq_true rfl), (Nat.le_of_ble_eq_true rfl)⟩, (Nat.le_of_ble_eq_true rfl), (Nat.le_of_ble_eq_true rfl)⟩ ⟨rfl, rfl⟩ (Nat.le_of_ble_eq_true rfl) dX5_pour_120 (fun H locs hP hD hS => ?_)
            cases hF
            rw [hQ]
            exact jb_iret hx hb hr hlocks hP hD hS dX5_pour_123 rfl (Nat.le_of_ble_eq_true rfl) (Nat.le_of_ble_eq_true rfl)
          · have hF := ob_neg c10 hF
            refine lv_aload_n hx hb dX5_pour_73 rfl (lv_at hl 1 rfl) ?_
            refine lv_iconst (v := 3) hx hb dX5_pour_74 (by decide) ?_
            refine lv_iconst (v := 1) hx hb dX5_pour_75 (by decide) ?_
            refine lv_bipush (v := 50) hx hb dX5_pour_76 (by decide) ?_
            obtain ⟨z17, hz17, hF⟩ := ob_bind hF
            refine cl_i (csR := []) (csF := [wM g a z17.2]) (rest := []) hx hb hml hown hts hK hE hA hl hP hD hS (c_X5_denies g l a z5.2 3 1 50 z17 hz17) [0] [] [0] ⟨rfl, rfl, rfl, rfl, rfl, rfl, rfl⟩ ⟨0, 9, _, _, rfl, rfl, rfl⟩ 3 (jb_giV mw_1396 mw_1398 ms_33 mw_10 mw_1399) ⟨rfl, rfl⟩ (by decide +kernel) ⟨⟨(Nat.le_of_ble_eq_true rfl), (Nat.le_of_ble_eq_true rfl)⟩, (Nat.le_of_ble_eq_true rfl), (Nat.le_of_ble_eq_true rfl)⟩ ⟨rfl, rfl⟩ (Nat.le_of_ble_eq_true rfl) dX5_pour_78 (fun H locs hP hD hS => ?_)
            cases hF
            rw [hQ]
            exact jb_iret hx hb hr hlocks hP hD hS dX5_pour_81 rfl (Nat.le_of_ble_eq_true rfl) (Nat.le_of_ble_eq_true rfl)
        · have hF := ob_neg c8 hF
          refine lv_aload_n hx hb dX5_pour_45 rfl (lv_at hl 0 rfl) ?_
          refine lv_iconst (v := 3) hx hb dX5_pour_46 (by decide) ?_
          refine lv_iconst (v := 4) hx hb dX5_pour_47 (by decide) ?_
          refine lv_aload_n hx hb dX5_pour_48 rfl (lv_at hl 0 rfl) ?_
          refine va_get (D := g.1) (ci := 9) (v := .ref (a 1)) (C := RX5) (T := TX5) (N := 23) hx hb hts inX5 hown hK hP 0 rfl rfl 0 (by decide) (hts _ mw_1311) (fun _ h9 => h9) rfl dX5_pour_49 ?_
          refine lv_iconst (v := 1) hx hb dX5_pour_52 (by decide) ?_
          have h18 := inb_in (ck_t hF)
          have hF := ck_s hF
          refine va_iald hx hb hK hP 1 0 rfl rfl h18 dX5_pour_53 ?_
          obtain ⟨z19, hz19, hF⟩ := ob_bind hF
          refine cl_i (csR := []) (csF := [wM g a z19.2]) (rest := []) hx hb hml hown hts hK hE hA hl hP hD hS (c_X5_denies g l a z5.2 3 4 ((M_g z5.2) (1 : Int32).toNatClampNeg) z19 hz19) [0] [] [0] ⟨rfl, rfl, rfl, rfl, rfl, rfl, rfl⟩ ⟨0, 9, _, _, rfl, rfl, rfl⟩ 3 (jb_giV mw_1396 mw_1398 ms_33 mw_10 mw_1399) ⟨rfl, rfl⟩ (by decide +kernel) ⟨⟨(Nat.le_of_ble_eq_true rfl), (Nat.le_of_ble_eq_true rfl)⟩, (Nat.le_of_ble_eq_true rfl), (Nat.le_of_ble_eq_true rfl)⟩ ⟨rfl, rfl⟩ (Nat.le_of_ble_eq_true rfl) dX5_pour_54 (fun H locs hP hD hS => ?_)
          cases hF
          rw [hQ]
          exact jb_iret hx hb hr hlocks hP hD hS dX5_pour_57 rfl (Nat.le_of_ble_eq_true rfl) (Nat.le_of_ble_eq_true rfl)
      · have hF := ob_neg c6 hF
        refine lv_iconst (v := 0) hx hb dX5_pour_34 (by decide) ?_
        cases hF
        rw [hQ]
        exact jb_iret hx hb hr hlocks hP hD hS dX5_pour_35 rfl (Nat.le_of_ble_eq_true rfl) (Nat.le_of_ble_eq_true rfl)
    · have hF := ob_neg c4 hF
      refine lv_iconst (v := 0) hx hb dX5_pour_23 (by decide) ?_
      refine lv_goto (tgt := 28) hx hb dX5_pour_24 (by decide) ?_
      obtain ⟨z20, hz20, hF⟩ := ob_bind hF
      refine cl_i (csR := []) (csF := [wM g a z20.2]) (rest := []) hx hb hml hown hts hK hE hA hl hP hD hS (c_X5_fails g l a mo 0 z20 hz20) [0] [] [0] ⟨rfl, rfl, rfl, rfl, rfl, rfl, rfl⟩ ⟨0, 9, _, _, rfl, rfl, rfl⟩ 1 (jb_giV mw_1392 mw_1394 ms_32 mw_10 mw_1395) ⟨rfl, rfl⟩ (by decide +kernel) ⟨⟨(Nat.le_of_ble_eq_true rfl), (Nat.le_of_ble_eq_true rfl)⟩, (Nat.le_of_ble_eq_true rfl), (Nat.le_of_ble_eq_true rfl)⟩ ⟨rfl, rfl⟩ (Nat.le_of_ble_eq_true rfl) dX5_pour_28 (fun H locs hP hD hS => ?_)
      refine lv_if_eq (tgt := 36) hx hb dX5_pour_31 (by decide) (fun c21 => ?_) (fun c21 => ?_)
      · have hF := ob_pos c21 hF
        refine lv_aload_n hx hb dX5_pour_36 rfl (lv_at hl 0 rfl) ?_
        refine va_get (D := g.1) (ci := 9) (v := .ref (a 1)) (C := RX5) (T := TX5) (N := 23) hx hb hts inX5 hown hK hP 0 rfl rfl 0 (by decide) (hts _ mw_1311) (fun _ h9 => h9) rfl dX5_pour_37 ?_
        refine lv_iconst (v := 1) hx hb dX5_pour_40 (by decide) ?_
        have h22 := inb_in (ck_t hF)
        have hF := ck_s hF
        refine va_iald hx hb hK hP 1 0 rfl rfl h22 dX5_pour_41 ?_
        refine lv_if_le (tgt := 58) hx hb dX5_pour_42 (by decide) (fun c23 => ?_) (fun c23 => ?_)
        · have hF := ob_pos c23 hF
          refine lv_aload_n hx hb dX5_pour_58 rfl (lv_at hl 0 rfl) ?_
          refine lv_iload_n hx hb dX5_pour_59 rfl (lv_at hl 1 rfl) ?_
          refine lv_iconst (v := 1) hx hb dX5_pour_60 (by decide) ?_
          obtain ⟨z24, hz24, hF⟩ := ob_bind hF
          refine cl_i (csR := []) (csF := [wM g a z20.2]) (rest := []) hx hb hml hown hts hK hE hA hl hP hD hS (c_X5_of g l a z20.2 p0 1 z24 hz24) [0] [] [0] ⟨rfl, rfl, rfl, rfl, rfl, rfl, rfl⟩ ⟨0, 9, _, _, rfl, rfl, rfl⟩ 2 (jb_giV mw_1415 mw_1417 ms_36 mw_10 mw_1418) ⟨rfl, rfl⟩ (by decide +kernel) ⟨⟨(Nat.le_of_ble_eq_true rfl), (Nat.le_of_ble_eq_true rfl)⟩, (Nat.le_of_ble_eq_true rfl), (Nat.le_of_ble_eq_true rfl)⟩ ⟨rfl, rfl⟩ (Nat.le_of_ble_eq_true rfl) dX5_pour_61 (fun H locs hP hD hS => ?_)
          refine lv_istore_n (lv' := [(3, .int z24), (0, .ref (a 0)), (1, .int p0), (2, .int p1)]) hx hb dX5_pour_64 rfl hl (by decide) rfl (fun ls hl => ?_)
          refine lv_iload_n hx hb dX5_pour_65 rfl (lv_at hl 0 rfl) ?_
          refine lv_iload_n hx hb dX5_pour_66 rfl (lv_at hl 3 rfl) ?_
          refine lv_iadd hx hb dX5_pour_67 ?_
          refine lv_bipush (v := 50) hx hb dX5_pour_68 (by decide) ?_
          refine lv_icmp_le (tgt := 82) hx hb dX5_pour_70 (by decide) (fun c25 => ?_) (fun c25 => ?_)
          · have hF := ob_pos c25 hF
            refine lv_aload_n hx hb dX5_pour_82 rfl (lv_at hl 1 rfl) ?_
            refine lv_aload_n hx hb dX5_pour_83 rfl (lv_at hl 1 rfl) ?_
            refine va_get (D := g.1) (ci := 9) (v := .ref (a 1)) (C := RX5) (T := TX5) (N := 23) hx hb hts inX5 hown hK hP 0 rfl rfl 0 (by decide) (hts _ mw_1311) (fun _ h9 => h9) rfl dX5_pour_84 ?_
            obtain ⟨z26, hz26, hF⟩ := ob_bind hF
            refine cl_v (csR := []) (csF := [wM g a z26]) (rest := []) hx hb hml hown hts hK hE hA hl hP hD hS (c_X5_keeps_g g l a z20.2 z26 hz26) [0] [] [0] ⟨rfl, rfl, rfl, rfl, rfl, rfl, rfl⟩ ⟨0, 9, _, _, rfl, rfl, rfl⟩ 1 (jb_giV mw_1400 mw_1402 ms_34 mw_10 mw_1403) ⟨rfl, rfl⟩ (by decide +kernel) ⟨⟨(Nat.le_of_ble_eq_true rfl), (Nat.le_of_ble_eq_true rfl)⟩, (Nat.le_of_ble_eq_true rfl), (Nat.le_of_ble_eq_true rfl)⟩ ⟨rfl, rfl⟩ (Nat.le_of_ble_eq_true rfl) dX5_pour_87 (fun H locs hP hD hS => ?_)
            refine lv_aload_n hx hb dX5_pour_90 rfl (lv_at hl 1 rfl) ?_
            refine lv_iload_n hx hb dX5_pour_91 rfl (lv_at hl 2 rfl) ?_
            refine lv_iconst (v := 1) hx hb dX5_pour_92 (by decide) ?_
            refine lv_iload_n hx hb dX5_pour_93 rfl (lv_at hl 0 rfl) ?_
            refine lv_iload_n hx hb dX5_pour_94 rfl (lv_at hl 3 rfl) ?_
            refine lv_iadd hx hb dX5_pour_95 ?_
            obtain ⟨z27, hz27, hF⟩ := ob_bind hF
            refine cl_v (csR := []) (csF := [wM g a z27]) (rest := []) hx hb hml hown hts hK hE hA hl hP hD hS (c_X5_lays g l a z26 p0 1 (z24 + p1) z27 hz27) [0] [] [0] ⟨rfl, rfl, rfl, rfl, rfl, rfl, rfl⟩ ⟨0, 9, _, _, rfl, rfl, rfl⟩ 3 (jb_giV mw_1407 mw_1409 ms_35 mw_10 mw_1410) ⟨rfl, rfl⟩ (by decide +kernel) ⟨⟨(Nat.le_of_ble_eq_true rfl), (Nat.le_of_ble_eq_true rfl)⟩, (Nat.le_of_ble_eq_true rfl), (Nat.le_of_ble_eq_true rfl)⟩ ⟨rfl, rfl⟩ (Nat.le_of_ble_eq_true rfl) dX5_pour_96 (fun H locs hP hD hS => ?_)
            refine lv_aload_n hx hb dX5_pour_99 rfl (lv_at hl 1 rfl) ?_
            refine lv_iload_n hx hb dX5_pour_100 rfl (lv_at hl 2 rfl) ?_
            refine lv_iconst (v := 2) hx hb dX5_pour_101 (by decide) ?_
            refine lv_aload_n hx hb dX5_pour_102 rfl (lv_at hl 1 rfl) ?_
            refine lv_iload_n hx hb dX5_pour_103 rfl (lv_at hl 2 rfl) ?_
            refine lv_iconst (v := 2) hx hb dX5_pour_104 (by decide) ?_
            obtain ⟨z28, hz28, hF⟩ := ob_bind hF
            refine cl_i (csR := []) (csF := [wM g a z27]) (rest := [.int 2, .int p0, .ref (a 0)]) hx hb hml hown hts hK hE hA hl hP hD hS (c_X5_of g l a z27 p0 2 z28 hz28) [0] [] [0] ⟨rfl, rfl, rfl, rfl, rfl, rfl, rfl⟩ ⟨0, 9, _, _, rfl, rfl, rfl⟩ 2 (jb_giV mw_1415 mw_1417 ms_36 mw_10 mw_1418) ⟨rfl, rfl⟩ (by decide +kernel) ⟨⟨(Nat.le_of_ble_eq_true rfl), (Nat.le_of_ble_eq_true rfl)⟩, (Nat.le_of_ble_eq_true rfl), (Nat.le_of_ble_eq_true rfl)⟩ ⟨rfl, rfl⟩ (Nat.le_of_ble_eq_true rfl) dX5_pour_105 (fun H locs hP hD hS => ?_)
            refine lv_iload_n hx hb dX5_pour_108 rfl (lv_at hl 0 rfl) ?_
            refine lv_imul hx hb dX5_pour_109 ?_
            refine lv_iload_n hx hb dX5_pour_110 rfl (lv_at hl 0 rfl) ?_
            refine lv_iload_n hx hb dX5_pour_111 rfl (lv_at hl 3 rfl) ?_
            refine lv_iadd hx hb dX5_pour_112 ?_
            have h29 := nz_ne (ck_t hF)
            have hF := ck_s hF
            refine lv_idiv hx hb dX5_pour_113 h29 ?_
            obtain ⟨z30, hz30, hF⟩ := ob_bind hF
            refine cl_v (csR := []) (csF := [wM g a z30]) (rest := []) hx hb hml hown hts hK hE hA hl hP hD hS (c_X5_lays g l a z27 p0 2 ((z28 * z24) / (z24 + p1)) z30 hz30) [0] [] [0] ⟨rfl, rfl, rfl, rfl, rfl, rfl, rfl⟩ ⟨0, 9, _, _, rfl, rfl, rfl⟩ 3 (jb_giV mw_1407 mw_1409 ms_35 mw_10 mw_1410) ⟨rfl, rfl⟩ (by decide +kernel) ⟨⟨(Nat.le_of_ble_eq_true rfl), (Nat.le_of_ble_eq_true rfl)⟩, (Nat.le_of_ble_eq_true rfl), (Nat.le_of_ble_eq_true rfl)⟩ ⟨rfl, rfl⟩ (Nat.le_of_ble_eq_true rfl) dX5_pour_114 (fun H locs hP hD hS => ?_)
            refine lv_aload_n hx hb dX5_pour_117 rfl (lv_at hl 1 rfl) ?_
            refine lv_iload_n hx hb dX5_pour_118 rfl (lv_at hl 2 rfl) ?_
            refine lv_iconst (v := 2) hx hb dX5_pour_119 (by decide) ?_
            obtain ⟨z31, hz31, hF⟩ := ob_bind hF
            refine cl_i (csR := []) (csF := [wM g a z30]) (rest := []) hx hb hml hown hts hK hE hA hl hP hD hS (c_X5_of g l a z30 p0 2 z31 hz31) [0] [] [0] ⟨rfl, rfl, rfl, rfl, rfl, rfl, rfl⟩ ⟨0, 9, _, _, rfl, rfl, rfl⟩ 2 (jb_giV mw_1415 mw_1417 ms_36 mw_10 mw_1418) ⟨rfl, rfl⟩ (by decide +kernel) ⟨⟨(Nat.le_of_ble_eq_true rfl), (Nat.le_of_ble_eq_true rfl)⟩, (Nat.le_of_ble_eq_true rfl), (Nat.le_of_ble_eq_true rfl)⟩ ⟨rfl, rfl⟩ (Nat.le_of_ble_eq_true rfl) dX5_pour_120 (fun H locs hP hD hS => ?_)
            cases hF
            rw [hQ]
            exact jb_iret hx hb hr hlocks hP hD hS dX5_pour_123 rfl (Nat.le_of_ble_eq_true rfl) (Nat.le_of_ble_eq_true rfl)
          · have hF := ob_neg c25 hF
            refine lv_aload_n hx hb dX5_pour_73 rfl (lv_at hl 1 rfl) ?_
            refine lv_iconst (v := 3) hx hb dX5_pour_74 (by decide) ?_
            refine lv_iconst (v := 1) hx hb dX5_pour_75 (by decide) ?_
            refine lv_bipush (v := 50) hx hb dX5_pour_76 (by decide) ?_
            obtain ⟨z32, hz32, hF⟩ := ob_bind hF
            refine cl_i (csR := []) (csF := [wM g a z32.2]) (rest := []) hx hb hml hown hts hK hE hA hl hP hD hS (c_X5_denies g l a z20.2 3 1 50 z32 hz32) [0] [] [0] ⟨rfl, rfl, rfl, rfl, rfl, rfl, rfl⟩ ⟨0, 9, _, _, rfl, rfl, rfl⟩ 3 (jb_giV mw_1396 mw_1398 ms_33 mw_10 mw_1399) ⟨rfl, rfl⟩ (by decide +kernel) ⟨⟨(Nat.le_of_ble_eq_true rfl), (Nat.le_of_ble_eq_true rfl)⟩, (Nat.le_of_ble_eq_true rfl), (Nat.le_of_ble_eq_true rfl)⟩ ⟨rfl, rfl⟩ (Nat.le_of_ble_eq_true rfl) dX5_pour_78 (fun H locs hP hD hS => ?_)
            cases hF
            rw [hQ]
            exact jb_iret hx hb hr hlocks hP hD hS dX5_pour_81 rfl (Nat.le_of_ble_eq_true rfl) (Nat.le_of_ble_eq_true rfl)
        · have hF := ob_neg c23 hF
          refine lv_aload_n hx hb dX5_pour_45 rfl (lv_at hl 0 rfl) ?_
          refine lv_iconst (v := 3) hx hb dX5_pour_46 (by decide) ?_
          refine lv_iconst (v := 4) hx hb dX5_pour_47 (by decide) ?_
          refine lv_aload_n hx hb dX5_pour_48 rfl (lv_at hl 0 rfl) ?_
          refine va_get (D := g.1) (ci := 9) (v := .ref (a 1)) (C := RX5) (T := TX5) (N := 23) hx hb hts inX5 hown hK hP 0 rfl rfl 0 (by decide) (hts _ mw_1311) (fun _ h9 => h9) rfl dX5_pour_49 ?_
          refine lv_iconst (v := 1) hx hb dX5_pour_52 (by decide) ?_
          have h33 := inb_in (ck_t hF)
          have hF := ck_s hF
          refine va_iald hx hb hK hP 1 0 rfl rfl h33 dX5_pour_53 ?_
          obtain ⟨z34, hz34, hF⟩ := ob_bind hF
          refine cl_i (csR := []) (csF := [wM g a z34.2]) (rest := []) hx hb hml hown hts hK hE hA hl hP hD hS (c_X5_denies g l a z20.2 3 4 ((M_g z20.2) (1 : Int32).toNatClampNeg) z34 hz34) [0] [] [0] ⟨rfl, rfl, rfl, rfl, rfl, rfl, rfl⟩ ⟨0, 9, _, _, rfl, rfl, rfl⟩ 3 (jb_giV mw_1396 mw_1398 ms_33 mw_10 mw_1399) ⟨rfl, rfl⟩ (by decide +kernel) ⟨⟨(Nat.le_of_ble_eq_true rfl), (Nat.le_of_ble_eq_true rfl)⟩, (Nat.le_of_ble_eq_true rfl), (Nat.le_of_ble_eq_true rfl)⟩ ⟨rfl, rfl⟩ (Nat.le_of_ble_eq_true rfl) dX5_pour_54 (fun H locs hP hD hS => ?_)
          cases hF
          rw [hQ]
          exact jb_iret hx hb hr hlocks hP hD hS dX5_pour_57 rfl (Nat.le_of_ble_eq_true rfl) (Nat.le_of_ble_eq_true rfl)
      · have hF := ob_neg c21 hF
        refine lv_iconst (v := 0) hx hb dX5_pour_34 (by decide) ?_
        cases hF
        rw [hQ]
        exact jb_iret hx hb hr hlocks hP hD hS dX5_pour_35 rfl (Nat.le_of_ble_eq_true rfl) (Nat.le_of_ble_eq_true rfl)
  · have hF := ob_nneg c2 hF
    refine lv_iconst (v := 1) hx hb dX5_pour_9 (by decide) ?_
    refine lv_goto (tgt := 28) hx hb dX5_pour_10 (by decide) ?_
    obtain ⟨z35, hz35, hF⟩ := ob_bind hF
    refine cl_i (csR := []) (csF := [wM g a z35.2]) (rest := []) hx hb hml hown hts hK hE hA hl hP hD hS (c_X5_fails g l a mo 1 z35 hz35) [0] [] [0] ⟨rfl, rfl, rfl, rfl, rfl, rfl, rfl⟩ ⟨0, 9, _, _, rfl, rfl, rfl⟩ 1 (jb_giV mw_1392 mw_1394 ms_32 mw_10 mw_1395) ⟨rfl, rfl⟩ (by decide +kernel) ⟨⟨(Nat.le_of_ble_eq_true rfl), (Nat.le_of_ble_eq_true rfl)⟩, (Nat.le_of_ble_eq_true rfl), (Nat.le_of_ble_eq_true rfl)⟩ ⟨rfl, rfl⟩ (Nat.le_of_ble_eq_true rfl) dX5_pour_28 (fun H locs hP hD hS => ?_)
    refine lv_if_eq (tgt := 36) hx hb dX5_pour_31 (by decide) (fun c36 => ?_) (fun c36 => ?_)
    · have hF := ob_pos c36 hF
      refine lv_aload_n hx hb dX5_pour_36 rfl (lv_at hl 0 rfl) ?_
      refine va_get (D := g.1) (ci := 9) (v := .ref (a 1)) (C := RX5) (T := TX5) (N := 23) hx hb hts inX5 hown hK hP 0 rfl rfl 0 (by decide) (hts _ mw_1311) (fun _ h9 => h9) rfl dX5_pour_37 ?_
      refine lv_iconst (v := 1) hx hb dX5_pour_40 (by decide) ?_
      have h37 := inb_in (ck_t hF)
      have hF := ck_s hF
      refine va_iald hx hb hK hP 1 0 rfl rfl h37 dX5_pour_41 ?_
      refine lv_if_le (tgt := 58) hx hb dX5_pour_42 (by decide) (fun c38 => ?_) (fun c38 => ?_)
      · have hF := ob_pos c38 hF
        refine lv_aload_n hx hb dX5_pour_58 rfl (lv_at hl 0 rfl) ?_
        refine lv_iload_n hx hb dX5_pour_59 rfl (lv_at hl 1 rfl) ?_
        refine lv_iconst (v := 1) hx hb dX5_pour_60 (by decide) ?_
        obtain ⟨z39, hz39, hF⟩ := ob_bind hF
        refine cl_i (csR := []) (csF := [wM g a z35.2]) (rest := []) hx hb hml hown hts hK hE hA hl hP hD hS (c_X5_of g l a z35.2 p0 1 z39 hz39) [0] [] [0] ⟨rfl, rfl, rfl, rfl, rfl, rfl, rfl⟩ ⟨0, 9, _, _, rfl, rfl, rfl⟩ 2 (jb_giV mw_1415 mw_1417 ms_36 mw_10 mw_1418) ⟨rfl, rfl⟩ (by decide +kernel) ⟨⟨(Nat.le_of_ble_eq_true rfl), (Nat.le_of_ble_eq_true rfl)⟩, (Nat.le_of_ble_eq_true rfl), (Nat.le_of_ble_eq_true rfl)⟩ ⟨rfl, rfl⟩ (Nat.le_of_ble_eq_true rfl) dX5_pour_61 (fun H locs hP hD hS => ?_)
        refine lv_istore_n (lv' := [(3, .int z39), (0, .ref (a 0)), (1, .int p0), (2, .int p1)]) hx hb dX5_pour_64 rfl hl (by decide) rfl (fun ls hl => ?_)
        refine lv_iload_n hx hb dX5_pour_65 rfl (lv_at hl 0 rfl) ?_
        refine lv_iload_n hx hb dX5_pour_66 rfl (lv_at hl 3 rfl) ?_
        refine lv_iadd hx hb dX5_pour_67 ?_
        refine lv_bipush (v := 50) hx hb dX5_pour_68 (by decide) ?_
        refine lv_icmp_le (tgt := 82) hx hb dX5_pour_70 (by decide) (fun c40 => ?_) (fun c40 => ?_)
        · have hF := ob_pos c40 hF
          refine lv_aload_n hx hb dX5_pour_82 rfl (lv_at hl 1 rfl) ?_
          refine lv_aload_n hx hb dX5_pour_83 rfl (lv_at hl 1 rfl) ?_
          refine va_get (D := g.1) (ci := 9) (v := .ref (a 1)) (C := RX5) (T := TX5) (N := 23) hx hb hts inX5 hown hK hP 0 rfl rfl 0 (by decide) (hts _ mw_1311) (fun _ h9 => h9) rfl dX5_pour_84 ?_
          obtain ⟨z41, hz41, hF⟩ := ob_bind hF
          refine cl_v (csR := []) (csF := [wM g a z41]) (rest := []) hx hb hml hown hts hK hE hA hl hP hD hS (c_X5_keeps_g g l a z35.2 z41 hz41) [0] [] [0] ⟨rfl, rfl, rfl, rfl, rfl, rfl, rfl⟩ ⟨0, 9, _, _, rfl, rfl, rfl⟩ 1 (jb_giV mw_1400 mw_1402 ms_34 mw_10 mw_1403) ⟨rfl, rfl⟩ (by decide +kernel) ⟨⟨(Nat.le_of_ble_eq_true rfl), (Nat.le_of_ble_eq_true rfl)⟩, (Nat.le_of_ble_eq_true rfl), (Nat.le_of_ble_eq_true rfl)⟩ ⟨rfl, rfl⟩ (Nat.le_of_ble_eq_true rfl) dX5_pour_87 (fun H locs hP hD hS => ?_)
          refine lv_aload_n hx hb dX5_pour_90 rfl (lv_at hl 1 rfl) ?_
          refine lv_iload_n hx hb dX5_pour_91 rfl (lv_at hl 2 rfl) ?_
          refine lv_iconst (v := 1) hx hb dX5_pour_92 (by decide) ?_
          refine lv_iload_n hx hb dX5_pour_93 rfl (lv_at hl 0 rfl) ?_
          refine lv_iload_n hx hb dX5_pour_94 rfl (lv_at hl 3 rfl) ?_
          refine lv_iadd hx hb dX5_pour_95 ?_
          obtain ⟨z42, hz42, hF⟩ := ob_bind hF
          refine cl_v (csR := []) (csF := [wM g a z42]) (rest := []) hx hb hml hown hts hK hE hA hl hP hD hS (c_X5_lays g l a z41 p0 1 (z39 + p1) z42 hz42) [0] [] [0] ⟨rfl, rfl, rfl, rfl, rfl, rfl, rfl⟩ ⟨0, 9, _, _, rfl, rfl, rfl⟩ 3 (jb_giV mw_1407 mw_1409 ms_35 mw_10 mw_1410) ⟨rfl, rfl⟩ (by decide +kernel) ⟨⟨(Nat.le_of_ble_eq_true rfl), (Nat.le_of_ble_eq_true rfl)⟩, (Nat.le_of_ble_eq_true rfl), (Nat.le_of_ble_eq_true rfl)⟩ ⟨rfl, rfl⟩ (Nat.le_of_ble_eq_true rfl) dX5_pour_96 (fun H locs hP hD hS => ?_)
          refine lv_aload_n hx hb dX5_pour_99 rfl (lv_at hl 1 rfl) ?_
          refine lv_iload_n hx hb dX5_pour_100 rfl (lv_at hl 2 rfl) ?_
          refine lv_iconst (v := 2) hx hb dX5_pour_101 (by decide) ?_
          refine lv_aload_n hx hb dX5_pour_102 rfl (lv_at hl 1 rfl) ?_
          refine lv_iload_n hx hb dX5_pour_103 rfl (lv_at hl 2 rfl) ?_
          refine lv_iconst (v := 2) hx hb dX5_pour_104 (by decide) ?_
          obtain ⟨z43, hz43, hF⟩ := ob_bind hF
          refine cl_i (csR := []) (csF := [wM g a z42]) (rest := [.int 2, .int p0, .ref (a 0)]) hx hb hml hown hts hK hE hA hl hP hD hS (c_X5_of g l a z42 p0 2 z43 hz43) [0] [] [0] ⟨rfl, rfl, rfl, rfl, rfl, rfl, rfl⟩ ⟨0, 9, _, _, rfl, rfl, rfl⟩ 2 (jb_giV mw_1415 mw_1417 ms_36 mw_10 mw_1418) ⟨rfl, rfl⟩ (by decide +kernel) ⟨⟨(Nat.le_of_ble_eq_true rfl), (Nat.le_of_ble_eq_true rfl)⟩, (Nat.le_of_ble_eq_true rfl), (Nat.le_of_ble_eq_true rfl)⟩ ⟨rfl, rfl⟩ (Nat.le_of_ble_eq_true rfl) dX5_pour_105 (fun H locs hP hD hS => ?_)
          refine lv_iload_n hx hb dX5_pour_108 rfl (lv_at hl 0 rfl) ?_
          refine lv_imul hx hb dX5_pour_109 ?_
          refine lv_iload_n hx hb dX5_pour_110 rfl (lv_at hl 0 rfl) ?_
          refine lv_iload_n hx hb dX5_pour_111 rfl (lv_at hl 3 rfl) ?_
          refine lv_iadd hx hb dX5_pour_112 ?_
          have h44 := nz_ne (ck_t hF)
          have hF := ck_s hF
          refine lv_idiv hx hb dX5_pour_113 h44 ?_
          obtain ⟨z45, hz45, hF⟩ := ob_bind hF
          refine cl_v (csR := []) (csF := [wM g a z45]) (rest := []) hx hb hml hown hts hK hE hA hl hP hD hS (c_X5_lays g l a z42 p0 2 ((z43 * z39) / (z39 + p1)) z45 hz45) [0] [] [0] ⟨rfl, rfl, rfl, rfl, rfl, rfl, rfl⟩ ⟨0, 9, _, _, rfl, rfl, rfl⟩ 3 (jb_giV mw_1407 mw_1409 ms_35 mw_10 mw_1410) ⟨rfl, rfl⟩ (by decide +kernel) ⟨⟨(Nat.le_of_ble_eq_true rfl), (Nat.le_of_ble_eq_true rfl)⟩, (Nat.le_of_ble_eq_true rfl), (Nat.le_of_ble_eq_true rfl)⟩ ⟨rfl, rfl⟩ (Nat.le_of_ble_eq_true rfl) dX5_pour_114 (fun H locs hP hD hS => ?_)
          refine lv_aload_n hx hb dX5_pour_117 rfl (lv_at hl 1 rfl) ?_
          refine lv_iload_n hx hb dX5_pour_118 rfl (lv_at hl 2 rfl) ?_
          refine lv_iconst (v := 2) hx hb dX5_pour_119 (by decide) ?_
          obtain ⟨z46, hz46, hF⟩ := ob_bind hF
          refine cl_i (csR := []) (csF := [wM g a z45]) (rest := []) hx hb hml hown hts hK hE hA hl hP hD hS (c_X5_of g l a z45 p0 2 z46 hz46) [0] [] [0] ⟨rfl, rfl, rfl, rfl, rfl, rfl, rfl⟩ ⟨0, 9, _, _, rfl, rfl, rfl⟩ 2 (jb_giV mw_1415 mw_1417 ms_36 mw_10 mw_1418) ⟨rfl, rfl⟩ (by decide +kernel) ⟨⟨(Nat.le_of_ble_eq_true rfl), (Nat.le_of_ble_eq_true rfl)⟩, (Nat.le_of_ble_eq_true rfl), (Nat.le_of_ble_eq_true rfl)⟩ ⟨rfl, rfl⟩ (Nat.le_of_ble_eq_true rfl) dX5_pour_120 (fun H locs hP hD hS => ?_)
          cases hF
          rw [hQ]
          exact jb_iret hx hb hr hlocks hP hD hS dX5_pour_123 rfl (Nat.le_of_ble_eq_true rfl) (Nat.le_of_ble_eq_true rfl)
        · have hF := ob_neg c40 hF
          refine lv_aload_n hx hb dX5_pour_73 rfl (lv_at hl 1 rfl) ?_
          refine lv_iconst (v := 3) hx hb dX5_pour_74 (by decide) ?_
          refine lv_iconst (v := 1) hx hb dX5_pour_75 (by decide) ?_
          refine lv_bipush (v := 50) hx hb dX5_pour_76 (by decide) ?_
          obtain ⟨z47, hz47, hF⟩ := ob_bind hF
          refine cl_i (csR := []) (csF := [wM g a z47.2]) (rest := []) hx hb hml hown hts hK hE hA hl hP hD hS (c_X5_denies g l a z35.2 3 1 50 z47 hz47) [0] [] [0] ⟨rfl, rfl, rfl, rfl, rfl, rfl, rfl⟩ ⟨0, 9, _, _, rfl, rfl, rfl⟩ 3 (jb_giV mw_1396 mw_1398 ms_33 mw_10 mw_1399) ⟨rfl, rfl⟩ (by decide +kernel) ⟨⟨(Nat.le_of_ble_eq_true rfl), (Nat.le_of_ble_eq_true rfl)⟩, (Nat.le_of_ble_eq_true rfl), (Nat.le_of_ble_eq_true rfl)⟩ ⟨rfl, rfl⟩ (Nat.le_of_ble_eq_true rfl) dX5_pour_78 (fun H locs hP hD hS => ?_)
          cases hF
          rw [hQ]
          exact jb_iret hx hb hr hlocks hP hD hS dX5_pour_81 rfl (Nat.le_of_ble_eq_true rfl) (Nat.le_of_ble_eq_true rfl)
      · have hF := ob_neg c38 hF
        refine lv_aload_n hx hb dX5_pour_45 rfl (lv_at hl 0 rfl) ?_
        refine lv_iconst (v := 3) hx hb dX5_pour_46 (by decide) ?_
        refine lv_iconst (v := 4) hx hb dX5_pour_47 (by decide) ?_
        refine lv_aload_n hx hb dX5_pour_48 rfl (lv_at hl 0 rfl) ?_
        refine va_get (D := g.1) (ci := 9) (v := .ref (a 1)) (C := RX5) (T := TX5) (N := 23) hx hb hts inX5 hown hK hP 0 rfl rfl 0 (by decide) (hts _ mw_1311) (fun _ h9 => h9) rfl dX5_pour_49 ?_
        refine lv_iconst (v := 1) hx hb dX5_pour_52 (by decide) ?_
        have h48 := inb_in (ck_t hF)
        have hF := ck_s hF
        refine va_iald hx hb hK hP 1 0 rfl rfl h48 dX5_pour_53 ?_
        obtain ⟨z49, hz49, hF⟩ := ob_bind hF
        refine cl_i (csR := []) (csF := [wM g a z49.2]) (rest := []) hx hb hml hown hts hK hE hA hl hP hD hS (c_X5_denies g l a z35.2 3 4 ((M_g z35.2) (1 : Int32).toNatClampNeg) z49 hz49) [0] [] [0] ⟨rfl, rfl, rfl, rfl, rfl, rfl, rfl⟩ ⟨0, 9, _, _, rfl, rfl, rfl⟩ 3 (jb_giV mw_1396 mw_1398 ms_33 mw_10 mw_1399) ⟨rfl, rfl⟩ (by decide +kernel) ⟨⟨(Nat.le_of_ble_eq_true rfl), (Nat.le_of_ble_eq_true rfl)⟩, (Nat.le_of_ble_eq_true rfl), (Nat.le_of_ble_eq_true rfl)⟩ ⟨rfl, rfl⟩ (Nat.le_of_ble_eq_true rfl) dX5_pour_54 (fun H locs hP hD hS => ?_)
        cases hF
        rw [hQ]
        exact jb_iret hx hb hr hlocks hP hD hS dX5_pour_57 rfl (Nat.le_of_ble_eq_true rfl) (Nat.le_of_ble_eq_true rfl)
    · have hF := ob_neg c36 hF
      refine lv_iconst (v := 0) hx hb dX5_pour_34 (by decide) ?_
      cases hF
      rw [hQ]
      exact jb_iret hx hb hr hlocks hP hD hS dX5_pour_35 rfl (Nat.le_of_ble_eq_true rfl) (Nat.le_of_ble_eq_true rfl)
def F_X5_mend (mo : Mv) (p0 : Int32) (p1 : Int32) : Option (Int32 × Mv) := (F_X5_isSpan mo p0).bind (fun z1 => if ¬ (bi z1) = 0 then (F_X5_in p1 1 9).bind (fun z2 => if (bi z2) = 0 then (F_X5_fails mo 2).bind (fun z3 => if (bi z3.1) = 0 then (F_X5_of z3.2 p0 3).bind (fun z4 => if p1 ≤ z4 then ck (inb 5 83) (if (5 * p1) ≤ ((M_g z3.2) (5 : Int32).toNatClampNeg) then (F_X5_keeps_g z3.2).bind (fun z5 => (F_X5_of z5 p0 3).bind (fun z6 => (F_X5_lays z5 p0 3 (z6 - p1)).bind (fun z7 => ck (inb 5 83) (ck (inb 5 83) (ck (inb 5 83) (some ((upd (M_g z7) (5 : Int32).toNatClampNeg (((M_g z7) (5 : Int32).toNatClampNeg) - (5 * p1))) (5 : Int32).toNatClampNeg, (mkM (upd (M_g z7) (5 : Int32).toNatClampNeg (((M_g z7) (5 : Int32).toNatClampNeg) - (5 * p1))) (M_kept z7) (M_saved z7) (M_before z7) (M_trial z7) (M_counted z7) (M_isSaved z7) (M_changes z7) (M_isWithin z7) (M_isDenied z7) (M_code z7) (M_why z7) (M_detail z7) (M_cause z7) (M_input z7) (M_length z7) (M_fault z7) (M_signs z7) (M_signMany z7) (M_lastOver z7) (M_at z7) (M_told z7) (M_toldMany z7))))))))) else ck (inb 5 83) ((F_X5_denies z3.2 3 5 ((M_g z3.2) (5 : Int32).toNatClampNeg)).bind (fun z8 => some (z8.1, z8.2)))) else (F_X5_of z3.2 p0 3).bind (fun z9 => (F_X5_denies z3.2 3 6 z9).bind (fun z10 => some (z10.1, z10.2)))) else some (0, z3.2)) else (F_X5_fails mo 0).bind (fun z11 => if (bi z11.1) = 0 then (F_X5_of z11.2 p0 3).bind (fun z12 => if p1 ≤ z12 then ck (inb 5 83) (if (5 * p1) ≤ ((M_g z11.2) (5 : Int32).toNatClampNeg) then (F_X5_keeps_g z11.2).bind (fun z13 => (F_X5_of z13 p0 3).bind (fun z14 => (F_X5_lays z13 p0 3 (z14 - p1)).bind (fun z15 => ck (inb 5 83) (ck (inb 5 83) (ck (inb 5 83) (some ((upd (M_g z15) (5 : Int32).toNatClampNeg (((M_g z15) (5 : Int32).toNatClampNeg) - (5 * p1))) (5 : Int32).toNatClampNeg, (mkM (upd (M_g z15) (5 : Int32).toNatClampNeg (((M_g z15) (5 : Int32).toNatClampNeg) - (5 * p1))) (M_kept z15) (M_saved z15) (M_before z15) (M_trial z15) (M_counted z15) (M_isSaved z15) (M_changes z15) (M_isWithin z15) (M_isDenied z15) (M_code z15) (M_why z15) (M_detail z15) (M_cause z15) (M_input z15) (M_length z15) (M_fault z15) (M_signs z15) (M_signMany z15) (M_lastOver z15) (M_at z15) (M_told z15) (M_toldMany z15))))))))) else ck (inb 5 83) ((F_X5_denies z11.2 3 5 ((M_g z11.2) (5 : Int32).toNatClampNeg)).bind (fun z16 => some (z16.1, z16.2)))) else (F_X5_of z11.2 p0 3).bind (fun z17 => (F_X5_denies z11.2 3 6 z17).bind (fun z18 => some (z18.1, z18.2)))) else some (0, z11.2))) else (F_X5_fails mo 1).bind (fun z19 => if (bi z19.1) = 0 then (F_X5_of z19.2 p0 3).bind (fun z20 => if p1 ≤ z20 then ck (inb 5 83) (if (5 * p1) ≤ ((M_g z19.2) (5 : Int32).toNatClampNeg) then (F_X5_keeps_g z19.2).bind (fun z21 => (F_X5_of z21 p0 3).bind (fun z22 => (F_X5_lays z21 p0 3 (z22 - p1)).bind (fun z23 => ck (inb 5 83) (ck (inb 5 83) (ck (inb 5 83) (some ((upd (M_g z23) (5 : Int32).toNatClampNeg (((M_g z23) (5 : Int32).toNatClampNeg) - (5 * p1))) (5 : Int32).toNatClampNeg, (mkM (upd (M_g z23) (5 : Int32).toNatClampNeg (((M_g z23) (5 : Int32).toNatClampNeg) - (5 * p1))) (M_kept z23) (M_saved z23) (M_before z23) (M_trial z23) (M_counted z23) (M_isSaved z23) (M_changes z23) (M_isWithin z23) (M_isDenied z23) (M_code z23) (M_why z23) (M_detail z23) (M_cause z23) (M_input z23) (M_length z23) (M_fault z23) (M_signs z23) (M_signMany z23) (M_lastOver z23) (M_at z23) (M_told z23) (M_toldMany z23))))))))) else ck (inb 5 83) ((F_X5_denies z19.2 3 5 ((M_g z19.2) (5 : Int32).toNatClampNeg)).bind (fun z24 => some (z24.1, z24.2)))) else (F_X5_of z19.2 p0 3).bind (fun z25 => (F_X5_denies z19.2 3 6 z25).bind (fun z26 => some (z26.1, z26.2)))) else some (0, z19.2)))
set_option maxHeartbeats 4000000 in
set_option maxRecDepth 100000 in
theorem c_X5_mend (g : GG) (l : Launch) (a : Nat → Nat) (mo : Mv) (p0 : Int32) (p1 : Int32) (z : Int32 × Mv) (hF : F_X5_mend mo p0 p1 = some z) : MI g l yX5_mend cX5_mend 3 (some .int) ({ frames := 2, cells := 0, slots := 0, locals := 46 } : Room) [.ref (a 0), .int p0, .int p1] [wM g a mo] 0 0 z.1 [wM g a z.2] := by
  refine MI.bg (by decide) (Nat.le_of_ble_eq_true rfl) ?_
  intro p e s m below meth c A Q hQ hx hb hr hml hown hts hlocks hmn hK hE hA hP hD hS ls hl
  rw [F_X5_mend] at hF
  have hl : lv_has ls 3 [(0, .ref (a 0)), (1, .int p0), (2, .int p1)] := hl
  refine lv_aload_n hx hb dX5_mend_0 rfl (lv_at hl 0 rfl) ?_
  refine lv_aload_n hx hb dX5_mend_1 rfl (lv_at hl 0 rfl) ?_
  refine lv_iload_n hx hb dX5_mend_2 rfl (lv_at hl 1 rfl) ?_
  obtain ⟨z1, hz1, hF⟩ := ob_bind hF
  refine cl_i (csR := []) (csF := [wM g a mo]) (rest := [.ref (a 0)]) hx hb hml hown hts hK hE hA hl hP hD hS (c_X5_isSpan g l a mo p0 z1 hz1) [0] [] [0] ⟨rfl, rfl, rfl, rfl, rfl, rfl, rfl⟩ ⟨0, 9, _, _, rfl, rfl, rfl⟩ 1 (jb_giV mw_1423 mw_1425 ms_37 mw_10 mw_1426) ⟨rfl, rfl⟩ (by decide +kernel) ⟨⟨(Nat.le_of_ble_eq_true rfl), (Nat.le_of_ble_eq_true rfl)⟩, (Nat.le_of_ble_eq_true rfl), (Nat.le_of_ble_eq_true rfl)⟩ ⟨rfl, rfl⟩ (Nat.le_of_ble_eq_true rfl) dX5_mend_3 (fun H locs hP hD hS => ?_)
  refine lv_if_ne (tgt := 13) hx hb dX5_mend_6 (by decide) (fun c2 => ?_) (fun c2 => ?_)
  · have hF := ob_pos c2 hF
    refine lv_iload_n hx hb dX5_mend_13 rfl (lv_at hl 2 rfl) ?_
    refine lv_iconst (v := 1) hx hb dX5_mend_14 (by decide) ?_
    refine lv_bipush (v := 9) hx hb dX5_mend_15 (by decide) ?_
    obtain ⟨z3, hz3, hF⟩ := ob_bind hF
    refine cl_si (csR := [wM g a mo]) (csF := [wM g a mo]) (rest := [.ref (a 0)]) hx hb hml hown hts hK hE hA hl hP hD hS (c_X5_in g l  p1 1 9 z3 hz3) [] [0] [0] ⟨rfl, rfl, rfl, rfl, rfl, rfl, rfl⟩ 3 (jb_giS mw_1389 mw_1390 mw_10 mw_1391) ⟨rfl, rfl⟩ (by decide +kernel) ⟨⟨(Nat.le_of_ble_eq_true rfl), (Nat.le_of_ble_eq_true rfl)⟩, (Nat.le_of_ble_eq_true rfl), (Nat.le_of_ble_eq_true rfl)⟩ ⟨rfl, rfl⟩ (Nat.le_of_ble_eq_true rfl) dX5_mend_17 (fun H locs hP hD hS => ?_)
    refine lv_if_eq (tgt := 27) hx hb dX5_mend_20 (by decide) (fun c4 => ?_) (fun c4 => ?_)
    · have hF := ob_pos c4 hF
      refine lv_iconst (v := 2) hx hb dX5_mend_27 (by decide) ?_
      obtain ⟨z5, hz5, hF⟩ := ob_bind hF
      refine cl_i (csR := []) (csF := [wM g a z5.2]) (rest := []) hx hb hml hown hts hK hE hA hl hP hD hS (c_X5_fails g l a mo 2 z5 hz5) [0] [] [0] ⟨rfl, rfl, rfl, rfl, rfl, rfl, rfl⟩ ⟨0, 9, _, _, rfl, rfl, rfl⟩ 1 (jb_giV mw_1392 mw_1394 ms_32 mw_10 mw_1395) ⟨rfl, rfl⟩ (by decide +kernel) ⟨⟨(Nat.le_of_ble_eq_true rfl), (Nat.le_of_ble_eq_true rfl)⟩, (Nat.le_of_ble_eq_true rfl), (Nat.le_of_ble_eq_true rfl)⟩ ⟨rfl, rfl⟩ (Nat.le_of_ble_eq_true rfl) dX5_mend_28 (fun H locs hP hD hS => ?_)
      refine lv_if_eq (tgt := 36) hx hb dX5_mend_31 (by decide) (fun c6 => ?_) (fun c6 => ?_)
      · have hF := ob_pos c6 hF
        refine lv_aload_n hx hb dX5_mend_36 rfl (lv_at hl 0 rfl) ?_
        refine lv_iload_n hx hb dX5_mend_37 rfl (lv_at hl 1 rfl) ?_
        refine lv_iconst (v := 3) hx hb dX5_mend_38 (by decide) ?_
        obtain ⟨z7, hz7, hF⟩ := ob_bind hF
        refine cl_i (csR := []) (csF := [wM g a z5.2]) (rest := []) hx hb hml hown hts hK hE hA hl hP hD hS (c_X5_of g l a z5.2 p0 3 z7 hz7) [0] [] [0] ⟨rfl, rfl, rfl, rfl, rfl, rfl, rfl⟩ ⟨0, 9, _, _, rfl, rfl, rfl⟩ 2 (jb_giV mw_1415 mw_1417 ms_36 mw_10 mw_1418) ⟨rfl, rfl⟩ (by decide +kernel) ⟨⟨(Nat.le_of_ble_eq_true rfl), (Nat.le_of_ble_eq_true rfl)⟩, (Nat.le_of_ble_eq_true rfl), (Nat.le_of_ble_eq_true rfl)⟩ ⟨rfl, rfl⟩ (Nat.le_of_ble_eq_true rfl) dX5_mend_39 (fun H locs hP hD hS => ?_)
        refine lv_iload_n hx hb dX5_mend_42 rfl (lv_at hl 2 rfl) ?_
        refine lv_icmp_ge (tgt := 60) hx hb dX5_mend_43 (by decide) (fun c8 => ?_) (fun c8 => ?_)
        · have hF := ob_pos c8 hF
          refine lv_aload_n hx hb dX5_mend_60 rfl (lv_at hl 0 rfl) ?_
          refine va_get (D := g.1) (ci := 9) (v := .ref (a 1)) (C := RX5) (T := TX5) (N := 23) hx hb hts inX5 hown hK hP 0 rfl rfl 0 (by decide) (hts _ mw_1311) (fun _ h9 => h9) rfl dX5_mend_61 ?_
          refine lv_iconst (v := 5) hx hb dX5_mend_64 (by decide) ?_
          have h9 := inb_in (ck_t hF)
          have hF := ck_s hF
          refine va_iald hx hb hK hP 1 0 rfl rfl h9 dX5_mend_65 ?_
          refine lv_iconst (v := 5) hx hb dX5_mend_66 (by decide) ?_
          refine lv_iload_n hx hb dX5_mend_67 rfl (lv_at hl 2 rfl) ?_
          refine lv_imul hx hb dX5_mend_68 ?_
          refine lv_icmp_ge (tgt := 85) hx hb dX5_mend_69 (by decide) (fun c10 => ?_) (fun c10 => ?_)
          · have hF := ob_pos c10 hF
            refine lv_aload_n hx hb dX5_mend_85 rfl (lv_at hl 0 rfl) ?_
            refine lv_aload_n hx hb dX5_mend_86 rfl (lv_at hl 0 rfl) ?_
            refine va_get (D := g.1) (ci := 9) (v := .ref (a 1)) (C := RX5) (T := TX5) (N := 23) hx hb hts inX5 hown hK hP 0 rfl rfl 0 (by decide) (hts _ mw_1311) (fun _ h9 => h9) rfl dX5_mend_87 ?_
            obtain ⟨z11, hz11, hF⟩ := ob_bind hF
            refine cl_v (csR := []) (csF := [wM g a z11]) (rest := []) hx hb hml hown hts hK hE hA hl hP hD hS (c_X5_keeps_g g l a z5.2 z11 hz11) [0] [] [0] ⟨rfl, rfl, rfl, rfl, rfl, rfl, rfl⟩ ⟨0, 9, _, _, rfl, rfl, rfl⟩ 1 (jb_giV mw_1400 mw_1402 ms_34 mw_10 mw_1403) ⟨rfl, rfl⟩ (by decide +kernel) ⟨⟨(Nat.le_of_ble_eq_true rfl), (Nat.le_of_ble_eq_true rfl)⟩, (Nat.le_of_ble_eq_true rfl), (Nat.le_of_ble_eq_true rfl)⟩ ⟨rfl, rfl⟩ (Nat.le_of_ble_eq_true rfl) dX5_mend_90 (fun H locs hP hD hS => ?_)
            refine lv_aload_n hx hb dX5_mend_93 rfl (lv_at hl 0 rfl) ?_
            refine lv_iload_n hx hb dX5_mend_94 rfl (lv_at hl 1 rfl) ?_
            refine lv_iconst (v := 3) hx hb dX5_mend_95 (by decide) ?_
            refine lv_aload_n hx hb dX5_mend_96 rfl (lv_at hl 0 rfl) ?_
            refine lv_iload_n hx hb dX5_mend_97 rfl (lv_at hl 1 rfl) ?_
            refine lv_iconst (v := 3) hx hb dX5_mend_98 (by decide) ?_
            obtain ⟨z12, hz12, hF⟩ := ob_bind hF
            refine cl_i (csR := []) (csF := [wM g a z11]) (rest := [.int 3, .int p0, .ref (a 0)]) hx hb hml hown hts hK hE hA hl hP hD hS (c_X5_of g l a z11 p0 3 z12 hz12) [0] [] [0] ⟨rfl, rfl, rfl, rfl, rfl, rfl, rfl⟩ ⟨0, 9, _, _, rfl, rfl, rfl⟩ 2 (jb_giV mw_1415 mw_1417 ms_36 mw_10 mw_1418) ⟨rfl, rfl⟩ (by decide +kernel) ⟨⟨(Nat.le_of_ble_eq_true rfl), (Nat.le_of_ble_eq_true rfl)⟩, (Nat.le_of_ble_eq_true rfl), (Nat.le_of_ble_eq_true rfl)⟩ ⟨rfl, rfl⟩ (Nat.le_of_ble_eq_true rfl) dX5_mend_99 (fun H locs hP hD hS => ?_)
            refine lv_iload_n hx hb dX5_mend_102 rfl (lv_at hl 2 rfl) ?_
            refine lv_isub hx hb dX5_mend_103 ?_
            obtain ⟨z13, hz13, hF⟩ := ob_bind hF
            refine cl_v (csR := []) (csF := [wM g a z13]) (rest := []) hx hb hml hown hts hK hE hA hl hP hD hS (c_X5_lays g l a z11 p0 3 (z12 - p1) z13 hz13) [0] [] [0] ⟨rfl, rfl, rfl, rfl, rfl, rfl, rfl⟩ ⟨0, 9, _, _, rfl, rfl, rfl⟩ 3 (jb_giV mw_1407 mw_1409 ms_35 mw_10 mw_1410) ⟨rfl, rfl⟩ (by decide +kernel) ⟨⟨(Nat.le_of_ble_eq_true rfl), (Nat.le_of_ble_eq_true rfl)⟩, (Nat.le_of_ble_eq_true rfl), (Nat.le_of_ble_eq_true rfl)⟩ ⟨rfl, rfl⟩ (Nat.le_of_ble_eq_true rfl) dX5_mend_104 (fun H locs hP hD hS => ?_)
            refine lv_aload_n hx hb dX5_mend_107 rfl (lv_at hl 0 rfl) ?_
            refine va_get (D := g.1) (ci := 9) (v := .ref (a 1)) (C := RX5) (T := TX5) (N := 23) hx hb hts inX5 hown hK hP 0 rfl rfl 0 (by decide) (hts _ mw_1311) (fun _ h9 => h9) rfl dX5_mend_108 ?_
            refine lv_iconst (v := 5) hx hb dX5_mend_111 (by decide) ?_
            refine lv_dup2_11 hx hb dX5_mend_112 rfl rfl ?_
            have h14 := inb_in (ck_t hF)
            have hF := ck_s hF
            refine va_iald hx hb hK hP 1 0 rfl rfl h14 dX5_mend_113 ?_
            refine lv_iconst (v := 5) hx hb dX5_mend_114 (by decide) ?_
            refine lv_iload_n hx hb dX5_mend_115 rfl (lv_at hl 2 rfl) ?_
            refine lv_imul hx hb dX5_mend_116 ?_
            refine lv_isub hx hb dX5_mend_117 ?_
            have h15 := inb_in (ck_t hF)
            have hF := ck_s hF
            refine va_iast hx hb hK hP hD hS 1 0 rfl rfl h15 dX5_mend_118 (fun H locs hP hD hS => ?_)
            have hP : va_P g.1 vwCl ([wMc g a (upd (M_g z13) (5 : Int32).toNatClampNeg (((M_g z13) (5 : Int32).toNatClampNeg) - (5 * p1))) (M_kept z13) (M_saved z13) (M_before z13) (M_trial z13) (M_counted z13) (M_isSaved z13) (M_changes z13) (M_isWithin z13) (M_isDenied z13) (M_code z13) (M_why z13) (M_detail z13) (M_cause z13) (M_input z13) (M_length z13) (M_fault z13) (M_signs z13) (M_signMany z13) (M_lastOver z13) (M_at z13) (M_told z13) (M_toldMany z13)] : List va_W).flatten _ := hP
            have hD : va_D A ([wMc g a (upd (M_g z13) (5 : Int32).toNatClampNeg (((M_g z13) (5 : Int32).toNatClampNeg) - (5 * p1))) (M_kept z13) (M_saved z13) (M_before z13) (M_trial z13) (M_counted z13) (M_isSaved z13) (M_changes z13) (M_isWithin z13) (M_isDenied z13) (M_code z13) (M_why z13) (M_detail z13) (M_cause z13) (M_input z13) (M_length z13) (M_fault z13) (M_signs z13) (M_signMany z13) (M_lastOver z13) (M_at z13) (M_told z13) (M_toldMany z13)] : List va_W).flatten := hD
            refine lv_aload_n hx hb dX5_mend_119 rfl (lv_at hl 0 rfl) ?_
            refine va_get (D := g.1) (ci := 9) (v := .ref (a 1)) (C := RX5) (T := TX5) (N := 23) hx hb hts inX5 hown hK hP 0 rfl rfl 0 (by decide) (hts _ mw_1311) (fun _ h9 => h9) rfl dX5_mend_120 ?_
            refine lv_iconst (v := 5) hx hb dX5_mend_123 (by decide) ?_
            have h16 := inb_in (ck_t hF)
            have hF := ck_s hF
            refine va_iald hx hb hK hP 1 0 rfl rfl h16 dX5_mend_124 ?_
            cases hF
            rw [hQ]
            exact jb_iret hx hb hr hlocks hP hD hS dX5_mend_125 rfl (Nat.le_of_ble_eq_true rfl) (Nat.le_of_ble_eq_true rfl)
          · have hF := ob_neg c10 hF
            refine lv_aload_n hx hb dX5_mend_72 rfl (lv_at hl 0 rfl) ?_
            refine lv_iconst (v := 3) hx hb dX5_mend_73 (by decide) ?_
            refine lv_iconst (v := 5) hx hb dX5_mend_74 (by decide) ?_
            refine lv_aload_n hx hb dX5_mend_75 rfl (lv_at hl 0 rfl) ?_
            refine va_get (D := g.1) (ci := 9) (v := .ref (a 1)) (C := RX5) (T := TX5) (N := 23) hx hb hts inX5 hown hK hP 0 rfl rfl 0 (by decide) (hts _ mw_1311) (fun _ h9 => h9) rfl dX5_mend_76 ?_
            refine lv_iconst (v := 5) hx hb dX5_mend_79 (by decide) ?_
            have h17 := inb_in (ck_t hF)
            have hF := ck_s hF
            refine va_iald hx hb hK hP 1 0 rfl rfl h17 dX5_mend_80 ?_
            obtain ⟨z18, hz18, hF⟩ := ob_bind hF
            refine cl_i (csR := []) (csF := [wM g a z18.2]) (rest := []) hx hb hml hown hts hK hE hA hl hP hD hS (c_X5_denies g l a z5.2 3 5 ((M_g z5.2) (5 : Int32).toNatClampNeg) z18 hz18) [0] [] [0] ⟨rfl, rfl, rfl, rfl, rfl, rfl, rfl⟩ ⟨0, 9, _, _, rfl, rfl, rfl⟩ 3 (jb_giV mw_1396 mw_1398 ms_33 mw_10 mw_1399) ⟨rfl, rfl⟩ (by decide +kernel) ⟨⟨(Nat.le_of_ble_eq_true rfl), (Nat.le_of_ble_eq_true rfl)⟩, (Nat.le_of_ble_eq_true rfl), (Nat.le_of_ble_eq_true rfl)⟩ ⟨rfl, rfl⟩ (Nat.le_of_ble_eq_true rfl) dX5_mend_81 (fun H locs hP hD hS => ?_)
            cases hF
            rw [hQ]
            exact jb_iret hx hb hr hlocks hP hD hS dX5_mend_84 rfl (Nat.le_of_ble_eq_true rfl) (Nat.le_of_ble_eq_true rfl)
        · have hF := ob_neg c8 hF
          refine lv_aload_n hx hb dX5_mend_46 rfl (lv_at hl 0 rfl) ?_
          refine lv_iconst (v := 3) hx hb dX5_mend_47 (by decide) ?_
          refine lv_bipush (v := 6) hx hb dX5_mend_48 (by decide) ?_
          refine lv_aload_n hx hb dX5_mend_50 rfl (lv_at hl 0 rfl) ?_
          refine lv_iload_n hx hb dX5_mend_51 rfl (lv_at hl 1 rfl) ?_
          refine lv_iconst (v := 3) hx hb dX5_mend_52 (by decide) ?_
          obtain ⟨z19, hz19, hF⟩ := ob_bind hF
          refine cl_i (csR := []) (csF := [wM g a z5.2]) (rest := [.int 6, .int 3, .ref (a 0)]) hx hb hml hown hts hK hE hA hl hP hD hS (c_X5_of g l a z5.2 p0 3 z19 hz19) [0] [] [0] ⟨rfl, rfl, rfl, rfl, rfl, rfl, rfl⟩ ⟨0, 9, _, _, rfl, rfl, rfl⟩ 2 (jb_giV mw_1415 mw_1417 ms_36 mw_10 mw_1418) ⟨rfl, rfl⟩ (by decide +kernel) ⟨⟨(Nat.le_of_ble_eq_true rfl), (Nat.le_of_ble_eq_true rfl)⟩, (Nat.le_of_ble_eq_true rfl), (Nat.le_of_ble_eq_true rfl)⟩ ⟨rfl, rfl⟩ (Nat.le_of_ble_eq_true rfl) dX5_mend_53 (fun H locs hP hD hS => ?_)
          obtain ⟨z20, hz20, hF⟩ := ob_bind hF
          refine cl_i (csR := []) (csF := [wM g a z20.2]) (rest := []) hx hb hml hown hts hK hE hA hl hP hD hS (c_X5_denies g l a z5.2 3 6 z19 z20 hz20) [0] [] [0] ⟨rfl, rfl, rfl, rfl, rfl, rfl, rfl⟩ ⟨0, 9, _, _, rfl, rfl, rfl⟩ 3 (jb_giV mw_1396 mw_1398 ms_33 mw_10 mw_1399) ⟨rfl, rfl⟩ (by decide +kernel) ⟨⟨(Nat.le_of_ble_eq_true rfl), (Nat.le_of_ble_eq_true rfl)⟩, (Nat.le_of_ble_eq_true rfl), (Nat.le_of_ble_eq_true rfl)⟩ ⟨rfl, rfl⟩ (Nat.le_of_ble_eq_true rfl) dX5_mend_56 (fun H locs hP hD hS => ?_)
          cases hF
          rw [hQ]
          exact jb_iret hx hb hr hlocks hP hD hS dX5_mend_59 rfl (Nat.le_of_ble_eq_true rfl) (Nat.le_of_ble_eq_true rfl)
      · have hF := ob_neg c6 hF
        refine lv_iconst (v := 0) hx hb dX5_mend_34 (by decide) ?_
        cases hF
        rw [hQ]
        exact jb_iret hx hb hr hlocks hP hD hS dX5_mend_35 rfl (Nat.le_of_ble_eq_true rfl) (Nat.le_of_ble_eq_true rfl)
    · have hF := ob_neg c4 hF
      refine lv_iconst (v := 0) hx hb dX5_mend_23 (by decide) ?_
      refine lv_goto (tgt := 28) hx hb dX5_mend_24 (by decide) ?_
      obtain ⟨z21, hz21, hF⟩ := ob_bind hF
      refine cl_i (csR := []) (csF := [wM g a z21.2]) (rest := []) hx hb hml hown hts hK hE hA hl hP hD hS (c_X5_fails g l a mo 0 z21 hz21) [0] [] [0] ⟨rfl, rfl, rfl, rfl, rfl, rfl, rfl⟩ ⟨0, 9, _, _, rfl, rfl, rfl⟩ 1 (jb_giV mw_1392 mw_1394 ms_32 mw_10 mw_1395) ⟨rfl, rfl⟩ (by decide +kernel) ⟨⟨(Nat.le_of_ble_eq_true rfl), (Nat.le_of_ble_eq_true rfl)⟩, (Nat.le_of_ble_eq_true rfl), (Nat.le_of_ble_eq_true rfl)⟩ ⟨rfl, rfl⟩ (Nat.le_of_ble_eq_true rfl) dX5_mend_28 (fun H locs hP hD hS => ?_)
      refine lv_if_eq (tgt := 36) hx hb dX5_mend_31 (by decide) (fun c22 => ?_) (fun c22 => ?_)
      · have hF := ob_pos c22 hF
        refine lv_aload_n hx hb dX5_mend_36 rfl (lv_at hl 0 rfl) ?_
        refine lv_iload_n hx hb dX5_mend_37 rfl (lv_at hl 1 rfl) ?_
        refine lv_iconst (v := 3) hx hb dX5_mend_38 (by decide) ?_
        obtain ⟨z23, hz23, hF⟩ := ob_bind hF
        refine cl_i (csR := []) (csF := [wM g a z21.2]) (rest := []) hx hb hml hown hts hK hE hA hl hP hD hS (c_X5_of g l a z21.2 p0 3 z23 hz23) [0] [] [0] ⟨rfl, rfl, rfl, rfl, rfl, rfl, rfl⟩ ⟨0, 9, _, _, rfl, rfl, rfl⟩ 2 (jb_giV mw_1415 mw_1417 ms_36 mw_10 mw_1418) ⟨rfl, rfl⟩ (by decide +kernel) ⟨⟨(Nat.le_of_ble_eq_true rfl), (Nat.le_of_ble_eq_true rfl)⟩, (Nat.le_of_ble_eq_true rfl), (Nat.le_of_ble_eq_true rfl)⟩ ⟨rfl, rfl⟩ (Nat.le_of_ble_eq_true rfl) dX5_mend_39 (fun H locs hP hD hS => ?_)
        refine lv_iload_n hx hb dX5_mend_42 rfl (lv_at hl 2 rfl) ?_
        refine lv_icmp_ge (tgt := 60) hx hb dX5_mend_43 (by decide) (fun c24 => ?_) (fun c24 => ?_)
        · have hF := ob_pos c24 hF
          refine lv_aload_n hx hb dX5_mend_60 rfl (lv_at hl 0 rfl) ?_
          refine va_get (D := g.1) (ci := 9) (v := .ref (a 1)) (C := RX5) (T := TX5) (N := 23) hx hb hts inX5 hown hK hP 0 rfl rfl 0 (by decide) (hts _ mw_1311) (fun _ h9 => h9) rfl dX5_mend_61 ?_
          refine lv_iconst (v := 5) hx hb dX5_mend_64 (by decide) ?_
          have h25 := inb_in (ck_t hF)
          have hF := ck_s hF
          refine va_iald hx hb hK hP 1 0 rfl rfl h25 dX5_mend_65 ?_
          refine lv_iconst (v := 5) hx hb dX5_mend_66 (by decide) ?_
          refine lv_iload_n hx hb dX5_mend_67 rfl (lv_at hl 2 rfl) ?_
          refine lv_imul hx hb dX5_mend_68 ?_
          refine lv_icmp_ge (tgt := 85) hx hb dX5_mend_69 (by decide) (fun c26 => ?_) (fun c26 => ?_)
          · have hF := ob_pos c26 hF
            refine lv_aload_n hx hb dX5_mend_85 rfl (lv_at hl 0 rfl) ?_
            refine lv_aload_n hx hb dX5_mend_86 rfl (lv_at hl 0 rfl) ?_
            refine va_get (D := g.1) (ci := 9) (v := .ref (a 1)) (C := RX5) (T := TX5) (N := 23) hx hb hts inX5 hown hK hP 0 rfl rfl 0 (by decide) (hts _ mw_1311) (fun _ h9 => h9) rfl dX5_mend_87 ?_
            obtain ⟨z27, hz27, hF⟩ := ob_bind hF
            refine cl_v (csR := []) (csF := [wM g a z27]) (rest := []) hx hb hml hown hts hK hE hA hl hP hD hS (c_X5_keeps_g g l a z21.2 z27 hz27) [0] [] [0] ⟨rfl, rfl, rfl, rfl, rfl, rfl, rfl⟩ ⟨0, 9, _, _, rfl, rfl, rfl⟩ 1 (jb_giV mw_1400 mw_1402 ms_34 mw_10 mw_1403) ⟨rfl, rfl⟩ (by decide +kernel) ⟨⟨(Nat.le_of_ble_eq_true rfl), (Nat.le_of_ble_eq_true rfl)⟩, (Nat.le_of_ble_eq_true rfl), (Nat.le_of_ble_eq_true rfl)⟩ ⟨rfl, rfl⟩ (Nat.le_of_ble_eq_true rfl) dX5_mend_90 (fun H locs hP hD hS => ?_)
            refine lv_aload_n hx hb dX5_mend_93 rfl (lv_at hl 0 rfl) ?_
            refine lv_iload_n hx hb dX5_mend_94 rfl (lv_at hl 1 rfl) ?_
            refine lv_iconst (v := 3) hx hb dX5_mend_95 (by decide) ?_
            refine lv_aload_n hx hb dX5_mend_96 rfl (lv_at hl 0 rfl) ?_
            refine lv_iload_n hx hb dX5_mend_97 rfl (lv_at hl 1 rfl) ?_
            refine lv_iconst (v := 3) hx hb dX5_mend_98 (by decide) ?_
            obtain ⟨z28, hz28, hF⟩ := ob_bind hF
            refine cl_i (csR := []) (csF := [wM g a z27]) (rest := [.int 3, .int p0, .ref (a 0)]) hx hb hml hown hts hK hE hA hl hP hD hS (c_X5_of g l a z27 p0 3 z28 hz28) [0] [] [0] ⟨rfl, rfl, rfl, rfl, rfl, rfl, rfl⟩ ⟨0, 9, _, _, rfl, rfl, rfl⟩ 2 (jb_giV mw_1415 mw_1417 ms_36 mw_10 mw_1418) ⟨rfl, rfl⟩ (by decide +kernel) ⟨⟨(Nat.le_of_ble_eq_true rfl), (Nat.le_of_ble_eq_true rfl)⟩, (Nat.le_of_ble_eq_true rfl), (Nat.le_of_ble_eq_true rfl)⟩ ⟨rfl, rfl⟩ (Nat.le_of_ble_eq_true rfl) dX5_mend_99 (fun H locs hP hD hS => ?_)
            refine lv_iload_n hx hb dX5_mend_102 rfl (lv_at hl 2 rfl) ?_
            refine lv_isub hx hb dX5_mend_103 ?_
            obtain ⟨z29, hz29, hF⟩ := ob_bind hF
            refine cl_v (csR := []) (csF := [wM g a z29]) (rest := []) hx hb hml hown hts hK hE hA hl hP hD hS (c_X5_lays g l a z27 p0 3 (z28 - p1) z29 hz29) [0] [] [0] ⟨rfl, rfl, rfl, rfl, rfl, rfl, rfl⟩ ⟨0, 9, _, _, rfl, rfl, rfl⟩ 3 (jb_giV mw_1407 mw_1409 ms_35 mw_10 mw_1410) ⟨rfl, rfl⟩ (by decide +kernel) ⟨⟨(Nat.le_of_ble_eq_true rfl), (Nat.le_of_ble_eq_true rfl)⟩, (Nat.le_of_ble_eq_true rfl), (Nat.le_of_ble_eq_true rfl)⟩ ⟨rfl, rfl⟩ (Nat.le_of_ble_eq_true rfl) dX5_mend_104 (fun H locs hP hD hS => ?_)
            refine lv_aload_n hx hb dX5_mend_107 rfl (lv_at hl 0 rfl) ?_
            refine va_get (D := g.1) (ci := 9) (v := .ref (a 1)) (C := RX5) (T := TX5) (N := 23) hx hb hts inX5 hown hK hP 0 rfl rfl 0 (by decide) (hts _ mw_1311) (fun _ h9 => h9) rfl dX5_mend_108 ?_
            refine lv_iconst (v := 5) hx hb dX5_mend_111 (by decide) ?_
            refine lv_dup2_11 hx hb dX5_mend_112 rfl rfl ?_
            have h30 := inb_in (ck_t hF)
            have hF := ck_s hF
            refine va_iald hx hb hK hP 1 0 rfl rfl h30 dX5_mend_113 ?_
            refine lv_iconst (v := 5) hx hb dX5_mend_114 (by decide) ?_
            refine lv_iload_n hx hb dX5_mend_115 rfl (lv_at hl 2 rfl) ?_
            refine lv_imul hx hb dX5_mend_116 ?_
            refine lv_isub hx hb dX5_mend_117 ?_
            have h31 := inb_in (ck_t hF)
            have hF := ck_s hF
            refine va_iast hx hb hK hP hD hS 1 0 rfl rfl h31 dX5_mend_118 (fun H locs hP hD hS => ?_)
            have hP : va_P g.1 vwCl ([wMc g a (upd (M_g z29) (5 : Int32).toNatClampNeg (((M_g z29) (5 : Int32).toNatClampNeg) - (5 * p1))) (M_kept z29) (M_saved z29) (M_before z29) (M_trial z29) (M_counted z29) (M_isSaved z29) (M_changes z29) (M_isWithin z29) (M_isDenied z29) (M_code z29) (M_why z29) (M_detail z29) (M_cause z29) (M_input z29) (M_length z29) (M_fault z29) (M_signs z29) (M_signMany z29) (M_lastOver z29) (M_at z29) (M_told z29) (M_toldMany z29)] : List va_W).flatten _ := hP
            have hD : va_D A ([wMc g a (upd (M_g z29) (5 : Int32).toNatClampNeg (((M_g z29) (5 : Int32).toNatClampNeg) - (5 * p1))) (M_kept z29) (M_saved z29) (M_before z29) (M_trial z29) (M_counted z29) (M_isSaved z29) (M_changes z29) (M_isWithin z29) (M_isDenied z29) (M_code z29) (M_why z29) (M_detail z29) (M_cause z29) (M_input z29) (M_length z29) (M_fault z29) (M_signs z29) (M_signMany z29) (M_lastOver z29) (M_at z29) (M_told z29) (M_toldMany z29)] : List va_W).flatten := hD
            refine lv_aload_n hx hb dX5_mend_119 rfl (lv_at hl 0 rfl) ?_
            refine va_get (D := g.1) (ci := 9) (v := .ref (a 1)) (C := RX5) (T := TX5) (N := 23) hx hb hts inX5 hown hK hP 0 rfl rfl 0 (by decide) (hts _ mw_1311) (fun _ h9 => h9) rfl dX5_mend_120 ?_
            refine lv_iconst (v := 5) hx hb dX5_mend_123 (by decide) ?_
            have h32 := inb_in (ck_t hF)
            have hF := ck_s hF
            refine va_iald hx hb hK hP 1 0 rfl rfl h32 dX5_mend_124 ?_
            cases hF
            rw [hQ]
            exact jb_iret hx hb hr hlocks hP hD hS dX5_mend_125 rfl (Nat.le_of_ble_eq_true rfl) (Nat.le_of_ble_eq_true rfl)
          · have hF := ob_neg c26 hF
            refine lv_aload_n hx hb dX5_mend_72 rfl (lv_at hl 0 rfl) ?_
            refine lv_iconst (v := 3) hx hb dX5_mend_73 (by decide) ?_
            refine lv_iconst (v := 5) hx hb dX5_mend_74 (by decide) ?_
            refine lv_aload_n hx hb dX5_mend_75 rfl (lv_at hl 0 rfl) ?_
            refine va_get (D := g.1) (ci := 9) (v := .ref (a 1)) (C := RX5) (T := TX5) (N := 23) hx hb hts inX5 hown hK hP 0 rfl rfl 0 (by decide) (hts _ mw_1311) (fun _ h9 => h9) rfl dX5_mend_76 ?_
            refine lv_iconst (v := 5) hx hb dX5_mend_79 (by decide) ?_
            have h33 := inb_in (ck_t hF)
            have hF := ck_s hF
            refine va_iald hx hb hK hP 1 0 rfl rfl h33 dX5_mend_80 ?_
            obtain ⟨z34, hz34, hF⟩ := ob_bind hF
            refine cl_i (csR := []) (csF := [wM g a z34.2]) (rest := []) hx hb hml hown hts hK hE hA hl hP hD hS (c_X5_denies g l a z21.2 3 5 ((M_g z21.2) (5 : Int32).toNatClampNeg) z34 hz34) [0] [] [0] ⟨rfl, rfl, rfl, rfl, rfl, rfl, rfl⟩ ⟨0, 9, _, _, rfl, rfl, rfl⟩ 3 (jb_giV mw_1396 mw_1398 ms_33 mw_10 mw_1399) ⟨rfl, rfl⟩ (by decide +kernel) ⟨⟨(Nat.le_of_ble_eq_true rfl), (Nat.le_of_ble_eq_true rfl)⟩, (Nat.le_of_ble_eq_true rfl), (Nat.le_of_ble_eq_true rfl)⟩ ⟨rfl, rfl⟩ (Nat.le_of_ble_eq_true rfl) dX5_mend_81 (fun H locs hP hD hS => ?_)
            cases hF
            rw [hQ]
            exact jb_iret hx hb hr hlocks hP hD hS dX5_mend_84 rfl (Nat.le_of_ble_eq_true rfl) (Nat.le_of_ble_eq_true rfl)
        · have hF := ob_neg c24 hF
          refine lv_aload_n hx hb dX5_mend_46 rfl (lv_at hl 0 rfl) ?_
          refine lv_iconst (v := 3) hx hb dX5_mend_47 (by decide) ?_
          refine lv_bipush (v := 6) hx hb dX5_mend_48 (by decide) ?_
          refine lv_aload_n hx hb dX5_mend_50 rfl (lv_at hl 0 rfl) ?_
          refine lv_iload_n hx hb dX5_mend_51 rfl (lv_at hl 1 rfl) ?_
          refine lv_iconst (v := 3) hx hb dX5_mend_52 (by decide) ?_
          obtain ⟨z35, hz35, hF⟩ := ob_bind hF
          refine cl_i (csR := []) (csF := [wM g a z21.2]) (rest := [.int 6, .int 3, .ref (a 0)]) hx hb hml hown hts hK hE hA hl hP hD hS (c_X5_of g l a z21.2 p0 3 z35 hz35) [0] [] [0] ⟨rfl, rfl, rfl, rfl, rfl, rfl, rfl⟩ ⟨0, 9, _, _, rfl, rfl, rfl⟩ 2 (jb_giV mw_1415 mw_1417 ms_36 mw_10 mw_1418) ⟨rfl, rfl⟩ (by decide +kernel) ⟨⟨(Nat.le_of_ble_eq_true rfl), (Nat.le_of_ble_eq_true rfl)⟩, (Nat.le_of_ble_eq_true rfl), (Nat.le_of_ble_eq_true rfl)⟩ ⟨rfl, rfl⟩ (Nat.le_of_ble_eq_true rfl) dX5_mend_53 (fun H locs hP hD hS => ?_)
          obtain ⟨z36, hz36, hF⟩ := ob_bind hF
          refine cl_i (csR := []) (csF := [wM g a z36.2]) (rest := []) hx hb hml hown hts hK hE hA hl hP hD hS (c_X5_denies g l a z21.2 3 6 z35 z36 hz36) [0] [] [0] ⟨rfl, rfl, rfl, rfl, rfl, rfl, rfl⟩ ⟨0, 9, _, _, rfl, rfl, rfl⟩ 3 (jb_giV mw_1396 mw_1398 ms_33 mw_10 mw_1399) ⟨rfl, rfl⟩ (by decide +kernel) ⟨⟨(Nat.le_of_ble_eq_true rfl), (Nat.le_of_ble_eq_true rfl)⟩, (Nat.le_of_ble_eq_true rfl), (Nat.le_of_ble_eq_true rfl)⟩ ⟨rfl, rfl⟩ (Nat.le_of_ble_eq_true rfl) dX5_mend_56 (fun H locs hP hD hS => ?_)
          cases hF
          rw [hQ]
          exact jb_iret hx hb hr hlocks hP hD hS dX5_mend_59 rfl (Nat.le_of_ble_eq_true rfl) (Nat.le_of_ble_eq_true rfl)
      · have hF := ob_neg c22 hF
        refine lv_iconst (v := 0) hx hb dX5_mend_34 (by decide) ?_
        cases hF
        rw [hQ]
        exact jb_iret hx hb hr hlocks hP hD hS dX5_mend_35 rfl (Nat.le_of_ble_eq_true rfl) (Nat.le_of_ble_eq_true rfl)
  · have hF := ob_nneg c2 hF
    refine lv_iconst (v := 1) hx hb dX5_mend_9 (by decide) ?_
    refine lv_goto (tgt := 28) hx hb dX5_mend_10 (by decide) ?_
    obtain ⟨z37, hz37, hF⟩ := ob_bind hF
    refine cl_i (csR := []) (csF := [wM g a z37.2]) (rest := []) hx hb hml hown hts hK hE hA hl hP hD hS (c_X5_fails g l a mo 1 z37 hz37) [0] [] [0] ⟨rfl, rfl, rfl, rfl, rfl, rfl, rfl⟩ ⟨0, 9, _, _, rfl, rfl, rfl⟩ 1 (jb_giV mw_1392 mw_1394 ms_32 mw_10 mw_1395) ⟨rfl, rfl⟩ (by decide +kernel) ⟨⟨(Nat.le_of_ble_eq_true rfl), (Nat.le_of_ble_eq_true rfl)⟩, (Nat.le_of_ble_eq_true rfl), (Nat.le_of_ble_eq_true rfl)⟩ ⟨rfl, rfl⟩ (Nat.le_of_ble_eq_true rfl) dX5_mend_28 (fun H locs hP hD hS => ?_)
    refine lv_if_eq (tgt := 36) hx hb dX5_mend_31 (by decide) (fun c38 => ?_) (fun c38 => ?_)
    · have hF := ob_pos c38 hF
      refine lv_aload_n hx hb dX5_mend_36 rfl (lv_at hl 0 rfl) ?_
      refine lv_iload_n hx hb dX5_mend_37 rfl (lv_at hl 1 rfl) ?_
      refine lv_iconst (v := 3) hx hb dX5_mend_38 (by decide) ?_
      obtain ⟨z39, hz39, hF⟩ := ob_bind hF
      refine cl_i (csR := []) (csF := [wM g a z37.2]) (rest := []) hx hb hml hown hts hK hE hA hl hP hD hS (c_X5_of g l a z37.2 p0 3 z39 hz39) [0] [] [0] ⟨rfl, rfl, rfl, rfl, rfl, rfl, rfl⟩ ⟨0, 9, _, _, rfl, rfl, rfl⟩ 2 (jb_giV mw_1415 mw_1417 ms_36 mw_10 mw_1418) ⟨rfl, rfl⟩ (by decide +kernel) ⟨⟨(Nat.le_of_ble_eq_true rfl), (Nat.le_of_ble_eq_true rfl)⟩, (Nat.le_of_ble_eq_true rfl), (Nat.le_of_ble_eq_true rfl)⟩ ⟨rfl, rfl⟩ (Nat.le_of_ble_eq_true rfl) dX5_mend_39 (fun H locs hP hD hS => ?_)
      refine lv_iload_n hx hb dX5_mend_42 rfl (lv_at hl 2 rfl) ?_
      refine lv_icmp_ge (tgt := 60) hx hb dX5_mend_43 (by decide) (fun c40 => ?_) (fun c40 => ?_)
      · have hF := ob_pos c40 hF
        refine lv_aload_n hx hb dX5_mend_60 rfl (lv_at hl 0 rfl) ?_
        refine va_get (D := g.1) (ci := 9) (v := .ref (a 1)) (C := RX5) (T := TX5) (N := 23) hx hb hts inX5 hown hK hP 0 rfl rfl 0 (by decide) (hts _ mw_1311) (fun _ h9 => h9) rfl dX5_mend_61 ?_
        refine lv_iconst (v := 5) hx hb dX5_mend_64 (by decide) ?_
        have h41 := inb_in (ck_t hF)
        have hF := ck_s hF
        refine va_iald hx hb hK hP 1 0 rfl rfl h41 dX5_mend_65 ?_
        refine lv_iconst (v := 5) hx hb dX5_mend_66 (by decide) ?_
        refine lv_iload_n hx hb dX5_mend_67 rfl (lv_at hl 2 rfl) ?_
        refine lv_imul hx hb dX5_mend_68 ?_
        refine lv_icmp_ge (tgt := 85) hx hb dX5_mend_69 (by decide) (fun c42 => ?_) (fun c42 => ?_)
        · have hF := ob_pos c42 hF
          refine lv_aload_n hx hb dX5_mend_85 rfl (lv_at hl 0 rfl) ?_
          refine lv_aload_n hx hb dX5_mend_86 rfl (lv_at hl 0 rfl) ?_
          refine va_get (D := g.1) (ci := 9) (v := .ref (a 1)) (C := RX5) (T := TX5) (N := 23) hx hb hts inX5 hown hK hP 0 rfl rfl 0 (by decide) (hts _ mw_1311) (fun _ h9 => h9) rfl dX5_mend_87 ?_
          obtain ⟨z43, hz43, hF⟩ := ob_bind hF
          refine cl_v (csR := []) (csF := [wM g a z43]) (rest := []) hx hb hml hown hts hK hE hA hl hP hD hS (c_X5_keeps_g g l a z37.2 z43 hz43) [0] [] [0] ⟨rfl, rfl, rfl, rfl, rfl, rfl, rfl⟩ ⟨0, 9, _, _, rfl, rfl, rfl⟩ 1 (jb_giV mw_1400 mw_1402 ms_34 mw_10 mw_1403) ⟨rfl, rfl⟩ (by decide +kernel) ⟨⟨(Nat.le_of_ble_eq_true rfl), (Nat.le_of_ble_eq_true rfl)⟩, (Nat.le_of_ble_eq_true rfl), (Nat.le_of_ble_eq_true rfl)⟩ ⟨rfl, rfl⟩ (Nat.le_of_ble_eq_true rfl) dX5_mend_90 (fun H locs hP hD hS => ?_)
          refine lv_aload_n hx hb dX5_mend_93 rfl (lv_at hl 0 rfl) ?_
          refine lv_iload_n hx hb dX5_mend_94 rfl (lv_at hl 1 rfl) ?_
          refine lv_iconst (v := 3) hx hb dX5_mend_95 (by decide) ?_
          refine lv_aload_n hx hb dX5_mend_96 rfl (lv_at hl 0 rfl) ?_
          refine lv_iload_n hx hb dX5_mend_97 rfl (lv_at hl 1 rfl) ?_
          refine lv_iconst (v := 3) hx hb dX5_mend_98 (by decide) ?_
          obtain ⟨z44, hz44, hF⟩ := ob_bind hF
          refine cl_i (csR := []) (csF := [wM g a z43]) (rest := [.int 3, .int p0, .ref (a 0)]) hx hb hml hown hts hK hE hA hl hP hD hS (c_X5_of g l a z43 p0 3 z44 hz44) [0] [] [0] ⟨rfl, rfl, rfl, rfl, rfl, rfl, rfl⟩ ⟨0, 9, _, _, rfl, rfl, rfl⟩ 2 (jb_giV mw_1415 mw_1417 ms_36 mw_10 mw_1418) ⟨rfl, rfl⟩ (by decide +kernel) ⟨⟨(Nat.le_of_ble_eq_true rfl), (Nat.le_of_ble_eq_true rfl)⟩, (Nat.le_of_ble_eq_true rfl), (Nat.le_of_ble_eq_true rfl)⟩ ⟨rfl, rfl⟩ (Nat.le_of_ble_eq_true rfl) dX5_mend_99 (fun H locs hP hD hS => ?_)
          refine lv_iload_n hx hb dX5_mend_102 rfl (lv_at hl 2 rfl) ?_
          refine lv_isub hx hb dX5_mend_103 ?_
          obtain ⟨z45, hz45, hF⟩ := ob_bind hF
          refine cl_v (csR := []) (csF := [wM g a z45]) (rest := []) hx hb hml hown hts hK hE hA hl hP hD hS (c_X5_lays g l a z43 p0 3 (z44 - p1) z45 hz45) [0] [] [0] ⟨rfl, rfl, rfl, rfl, rfl, rfl, rfl⟩ ⟨0, 9, _, _, rfl, rfl, rfl⟩ 3 (jb_giV mw_1407 mw_1409 ms_35 mw_10 mw_1410) ⟨rfl, rfl⟩ (by decide +kernel) ⟨⟨(Nat.le_of_ble_eq_true rfl), (Nat.le_of_ble_eq_true rfl)⟩, (Nat.le_of_ble_eq_true rfl), (Nat.le_of_ble_eq_true rfl)⟩ ⟨rfl, rfl⟩ (Nat.le_of_ble_eq_true rfl) dX5_mend_104 (fun H locs hP hD hS => ?_)
          refine lv_aload_n hx hb dX5_mend_107 rfl (lv_at hl 0 rfl) ?_
          refine va_get (D := g.1) (ci := 9) (v := .ref (a 1)) (C := RX5) (T := TX5) (N := 23) hx hb hts inX5 hown hK hP 0 rfl rfl 0 (by decide) (hts _ mw_1311) (fun _ h9 => h9) rfl dX5_mend_108 ?_
          refine lv_iconst (v := 5) hx hb dX5_mend_111 (by decide) ?_
          refine lv_dup2_11 hx hb dX5_mend_112 rfl rfl ?_
          have h46 := inb_in (ck_t hF)
          have hF := ck_s hF
          refine va_iald hx hb hK hP 1 0 rfl rfl h46 dX5_mend_113 ?_
          refine lv_iconst (v := 5) hx hb dX5_mend_114 (by decide) ?_
          refine lv_iload_n hx hb dX5_mend_115 rfl (lv_at hl 2 rfl) ?_
          refine lv_imul hx hb dX5_mend_116 ?_
          refine lv_isub hx hb dX5_mend_117 ?_
          have h47 := inb_in (ck_t hF)
          have hF := ck_s hF
          refine va_iast hx hb hK hP hD hS 1 0 rfl rfl h47 dX5_mend_118 (fun H locs hP hD hS => ?_)
          have hP : va_P g.1 vwCl ([wMc g a (upd (M_g z45) (5 : Int32).toNatClampNeg (((M_g z45) (5 : Int32).toNatClampNeg) - (5 * p1))) (M_kept z45) (M_saved z45) (M_before z45) (M_trial z45) (M_counted z45) (M_isSaved z45) (M_changes z45) (M_isWithin z45) (M_isDenied z45) (M_code z45) (M_why z45) (M_detail z45) (M_cause z45) (M_input z45) (M_length z45) (M_fault z45) (M_signs z45) (M_signMany z45) (M_lastOver z45) (M_at z45) (M_told z45) (M_toldMany z45)] : List va_W).flatten _ := hP
          have hD : va_D A ([wMc g a (upd (M_g z45) (5 : Int32).toNatClampNeg (((M_g z45) (5 : Int32).toNatClampNeg) - (5 * p1))) (M_kept z45) (M_saved z45) (M_before z45) (M_trial z45) (M_counted z45) (M_isSaved z45) (M_changes z45) (M_isWithin z45) (M_isDenied z45) (M_code z45) (M_why z45) (M_detail z45) (M_cause z45) (M_input z45) (M_length z45) (M_fault z45) (M_signs z45) (M_signMany z45) (M_lastOver z45) (M_at z45) (M_told z45) (M_toldMany z45)] : List va_W).flatten := hD
          refine lv_aload_n hx hb dX5_mend_119 rfl (lv_at hl 0 rfl) ?_
          refine va_get (D := g.1) (ci := 9) (v := .ref (a 1)) (C := RX5) (T := TX5) (N := 23) hx hb hts inX5 hown hK hP 0 rfl rfl 0 (by decide) (hts _ mw_1311) (fun _ h9 => h9) rfl dX5_mend_120 ?_
          refine lv_iconst (v := 5) hx hb dX5_mend_123 (by decide) ?_
          have h48 := inb_in (ck_t hF)
          have hF := ck_s hF
          refine va_iald hx hb hK hP 1 0 rfl rfl h48 dX5_mend_124 ?_
          cases hF
          rw [hQ]
          exact jb_iret hx hb hr hlocks hP hD hS dX5_mend_125 rfl (Nat.le_of_ble_eq_true rfl) (Nat.le_of_ble_eq_true rfl)
        · have hF := ob_neg c42 hF
          refine lv_aload_n hx hb dX5_mend_72 rfl (lv_at hl 0 rfl) ?_
          refine lv_iconst (v := 3) hx hb dX5_mend_73 (by decide) ?_
          refine lv_iconst (v := 5) hx hb dX5_mend_74 (by decide) ?_
          refine lv_aload_n hx hb dX5_mend_75 rfl (lv_at hl 0 rfl) ?_
          refine va_get (D := g.1) (ci := 9) (v := .ref (a 1)) (C := RX5) (T := TX5) (N := 23) hx hb hts inX5 hown hK hP 0 rfl rfl 0 (by decide) (hts _ mw_1311) (fun _ h9 => h9) rfl dX5_mend_76 ?_
          refine lv_iconst (v := 5) hx hb dX5_mend_79 (by decide) ?_
          have h49 := inb_in (ck_t hF)
          have hF := ck_s hF
          refine va_iald hx hb hK hP 1 0 rfl rfl h49 dX5_mend_80 ?_
          obtain ⟨z50, hz50, hF⟩ := ob_bind hF
          refine cl_i (csR := []) (csF := [wM g a z50.2]) (rest := []) hx hb hml hown hts hK hE hA hl hP hD hS (c_X5_denies g l a z37.2 3 5 ((M_g z37.2) (5 : Int32).toNatClampNeg) z50 hz50) [0] [] [0] ⟨rfl, rfl, rfl, rfl, rfl, rfl, rfl⟩ ⟨0, 9, _, _, rfl, rfl, rfl⟩ 3 (jb_giV mw_1396 mw_1398 ms_33 mw_10 mw_1399) ⟨rfl, rfl⟩ (by decide +kernel) ⟨⟨(Nat.le_of_ble_eq_true rfl), (Nat.le_of_ble_eq_true rfl)⟩, (Nat.le_of_ble_eq_true rfl), (Nat.le_of_ble_eq_true rfl)⟩ ⟨rfl, rfl⟩ (Nat.le_of_ble_eq_true rfl) dX5_mend_81 (fun H locs hP hD hS => ?_)
          cases hF
          rw [hQ]
          exact jb_iret hx hb hr hlocks hP hD hS dX5_mend_84 rfl (Nat.le_of_ble_eq_true rfl) (Nat.le_of_ble_eq_true rfl)
      · have hF := ob_neg c40 hF
        refine lv_aload_n hx hb dX5_mend_46 rfl (lv_at hl 0 rfl) ?_
        refine lv_iconst (v := 3) hx hb dX5_mend_47 (by decide) ?_
        refine lv_bipush (v := 6) hx hb dX5_mend_48 (by decide) ?_
        refine lv_aload_n hx hb dX5_mend_50 rfl (lv_at hl 0 rfl) ?_
        refine lv_iload_n hx hb dX5_mend_51 rfl (lv_at hl 1 rfl) ?_
        refine lv_iconst (v := 3) hx hb dX5_mend_52 (by decide) ?_
        obtain ⟨z51, hz51, hF⟩ := ob_bind hF
        refine cl_i (csR := []) (csF := [wM g a z37.2]) (rest := [.int 6, .int 3, .ref (a 0)]) hx hb hml hown hts hK hE hA hl hP hD hS (c_X5_of g l a z37.2 p0 3 z51 hz51) [0] [] [0] ⟨rfl, rfl, rfl, rfl, rfl, rfl, rfl⟩ ⟨0, 9, _, _, rfl, rfl, rfl⟩ 2 (jb_giV mw_1415 mw_1417 ms_36 mw_10 mw_1418) ⟨rfl, rfl⟩ (by decide +kernel) ⟨⟨(Nat.le_of_ble_eq_true rfl), (Nat.le_of_ble_eq_true rfl)⟩, (Nat.le_of_ble_eq_true rfl), (Nat.le_of_ble_eq_true rfl)⟩ ⟨rfl, rfl⟩ (Nat.le_of_ble_eq_true rfl) dX5_mend_53 (fun H locs hP hD hS => ?_)
        obtain ⟨z52, hz52, hF⟩ := ob_bind hF
        refine cl_i (csR := []) (csF := [wM g a z52.2]) (rest := []) hx hb hml hown hts hK hE hA hl hP hD hS (c_X5_denies g l a z37.2 3 6 z51 z52 hz52) [0] [] [0] ⟨rfl, rfl, rfl, rfl, rfl, rfl, rfl⟩ ⟨0, 9, _, _, rfl, rfl, rfl⟩ 3 (jb_giV mw_1396 mw_1398 ms_33 mw_10 mw_1399) ⟨rfl, rfl⟩ (by decide +kernel) ⟨⟨(Nat.le_of_ble_eq_true rfl), (Nat.le_of_ble_eq_true rfl)⟩, (Nat.le_of_ble_eq_true rfl), (Nat.le_of_ble_eq_true rfl)⟩ ⟨rfl, rfl⟩ (Nat.le_of_ble_eq_true rfl) dX5_mend_56 (fun H locs hP hD hS => ?_)
        cases hF
        rw [hQ]
        exact jb_iret hx hb hr hlocks hP hD hS dX5_mend_59 rfl (Nat.le_of_ble_eq_true rfl) (Nat.le_of_ble_eq_true rfl)
    · have hF := ob_neg c38 hF
      refine lv_iconst (v := 0) hx hb dX5_mend_34 (by decide) ?_
      cases hF
      rw [hQ]
      exact jb_iret hx hb hr hlocks hP hD hS dX5_mend_35 rfl (Nat.le_of_ble_eq_true rfl) (Nat.le_of_ble_eq_true rfl)
def F_X5_spanCount (mo : Mv) : Option (Int32 × Mv) := ck (inb 0 83) (some ((M_g mo) (0 : Int32).toNatClampNeg, (mkM (M_g mo) (M_kept mo) (M_saved mo) (M_before mo) (M_trial mo) (M_counted mo) (M_isSaved mo) (M_changes mo) (M_isWithin mo) (M_isDenied mo) 0 (M_why mo) (M_detail mo) (M_cause mo) (M_input mo) (M_length mo) (M_fault mo) (M_signs mo) (M_signMany mo) (M_lastOver mo) (M_at mo) (M_told mo) (M_toldMany mo))))
set_option maxHeartbeats 4000000 in
set_option maxRecDepth 100000 in
theorem c_X5_spanCount (g : GG) (l : Launch) (a : Nat → Nat) (mo : Mv) (z : Int32 × Mv) (hF : F_X5_spanCount mo = some z) : MI g l yX5_spanCount cX5_spanCount 1 (some .int) ({ frames := 0, cells := 0, slots := 0, locals := 0 } : Room) [.ref (a 0)] [wM g a mo] 0 0 z.1 [wM g a z.2] := by
  refine MI.bg (by decide) (Nat.le_of_ble_eq_true rfl) ?_
  intro p e s m below meth c A Q hQ hx hb hr hml hown hts hlocks hmn hK hE hA hP hD hS ls hl
  rw [F_X5_spanCount] at hF
  have hl : lv_has ls 1 [(0, .ref (a 0))] := hl
  refine lv_aload_n hx hb dX5_spanCount_0 rfl (lv_at hl 0 rfl) ?_
  refine lv_iconst (v := 0) hx hb dX5_spanCount_1 (by decide) ?_
  refine va_put (D := g.1) (ci := 9) (v := .int 0) (ty := .int) (C := RX5) (T := TX5) (N := 23) hx hb hts inX5 tyX5 tyX5_ok nmX5 hown hK hP hD hS 0 rfl rfl 10 (by decide) (hts _ mw_1321) (fun _ h9 => h9) rfl (by decide +kernel) rfl rfl (Nat.le_of_ble_eq_true rfl) dX5_spanCount_2 (fun H locs hP hD hS => ?_)
  have hP : va_P g.1 vwCl ([wMc g a (M_g mo) (M_kept mo) (M_saved mo) (M_before mo) (M_trial mo) (M_counted mo) (M_isSaved mo) (M_changes mo) (M_isWithin mo) (M_isDenied mo) 0 (M_why mo) (M_detail mo) (M_cause mo) (M_input mo) (M_length mo) (M_fault mo) (M_signs mo) (M_signMany mo) (M_lastOver mo) (M_at mo) (M_told mo) (M_toldMany mo)] : List va_W).flatten _ := hP
  have hD : va_D A ([wMc g a (M_g mo) (M_kept mo) (M_saved mo) (M_before mo) (M_trial mo) (M_counted mo) (M_isSaved mo) (M_changes mo) (M_isWithin mo) (M_isDenied mo) 0 (M_why mo) (M_detail mo) (M_cause mo) (M_input mo) (M_length mo) (M_fault mo) (M_signs mo) (M_signMany mo) (M_lastOver mo) (M_at mo) (M_told mo) (M_toldMany mo)] : List va_W).flatten := hD
  refine lv_aload_n hx hb dX5_spanCount_5 rfl (lv_at hl 0 rfl) ?_
  refine va_get (D := g.1) (ci := 9) (v := .ref (a 1)) (C := RX5) (T := TX5) (N := 23) hx hb hts inX5 hown hK hP 0 rfl rfl 0 (by decide) (hts _ mw_1311) (fun _ h9 => h9) rfl dX5_spanCount_6 ?_
  refine lv_iconst (v := 0) hx hb dX5_spanCount_9 (by decide) ?_
  have h1 := inb_in (ck_t hF)
  have hF := ck_s hF
  refine va_iald hx hb hK hP 1 0 rfl rfl h1 dX5_spanCount_10 ?_
  cases hF
  rw [hQ]
  exact jb_iret hx hb hr hlocks hP hD hS dX5_spanCount_11 rfl (Nat.le_of_ble_eq_true rfl) (Nat.le_of_ble_eq_true rfl)
def F_X5_jars (mo : Mv) (p0 : Int32) : Option (Int32 × Mv) := (F_X5_isNone mo p0).bind (fun z1 => if (bi z1.1) = 0 then (F_X5_of z1.2 p0 1).bind (fun z2 => some (z2, z1.2)) else some (0, z1.2))
set_option maxHeartbeats 4000000 in
set_option maxRecDepth 100000 in
theorem c_X5_jars (g : GG) (l : Launch) (a : Nat → Nat) (mo : Mv) (p0 : Int32) (z : Int32 × Mv) (hF : F_X5_jars mo p0 = some z) : MI g l yX5_jars cX5_jars 2 (some .int) ({ frames := 3, cells := 0, slots := 0, locals := 64 } : Room) [.ref (a 0), .int p0] [wM g a mo] 0 0 z.1 [wM g a z.2] := by
  refine MI.bg (by decide) (Nat.le_of_ble_eq_true rfl) ?_
  intro p e s m below meth c A Q hQ hx hb hr hml hown hts hlocks hmn hK hE hA hP hD hS ls hl
  rw [F_X5_jars] at hF
  have hl : lv_has ls 2 [(0, .ref (a 0)), (1, .int p0)] := hl
  refine lv_aload_n hx hb dX5_jars_0 rfl (lv_at hl 0 rfl) ?_
  refine lv_iload_n hx hb dX5_jars_1 rfl (lv_at hl 1 rfl) ?_
  obtain ⟨z1, hz1, hF⟩ := ob_bind hF
  refine cl_i (csR := []) (csF := [wM g a z1.2]) (rest := []) hx hb hml hown hts hK hE hA hl hP hD hS (c_X5_isNone g l a mo p0 z1 hz1) [0] [] [0] ⟨rfl, rfl, rfl, rfl, rfl, rfl, rfl⟩ ⟨0, 9, _, _, rfl, rfl, rfl⟩ 1 (jb_giV mw_1439 mw_1441 ms_38 mw_10 mw_1442) ⟨rfl, rfl⟩ (by decide +kernel) ⟨⟨(Nat.le_of_ble_eq_true rfl), (Nat.le_of_ble_eq_true rfl)⟩, (Nat.le_of_ble_eq_true rfl), (Nat.le_of_ble_eq_true rfl)⟩ ⟨rfl, rfl⟩ (Nat.le_of_ble_eq_true rfl) dX5_jars_2 (fun H locs hP hD hS => ?_)
  refine lv_if_eq (tgt := 12) hx hb dX5_jars_5 (by decide) (fun c2 => ?_) (fun c2 => ?_)
  · have hF := ob_pos c2 hF
    refine lv_aload_n hx hb dX5_jars_12 rfl (lv_at hl 0 rfl) ?_
    refine lv_iload_n hx hb dX5_jars_13 rfl (lv_at hl 1 rfl) ?_
    refine lv_iconst (v := 1) hx hb dX5_jars_14 (by decide) ?_
    obtain ⟨z3, hz3, hF⟩ := ob_bind hF
    refine cl_i (csR := []) (csF := [wM g a z1.2]) (rest := []) hx hb hml hown hts hK hE hA hl hP hD hS (c_X5_of g l a z1.2 p0 1 z3 hz3) [0] [] [0] ⟨rfl, rfl, rfl, rfl, rfl, rfl, rfl⟩ ⟨0, 9, _, _, rfl, rfl, rfl⟩ 2 (jb_giV mw_1415 mw_1417 ms_36 mw_10 mw_1418) ⟨rfl, rfl⟩ (by decide +kernel) ⟨⟨(Nat.le_of_ble_eq_true rfl), (Nat.le_of_ble_eq_true rfl)⟩, (Nat.le_of_ble_eq_true rfl), (Nat.le_of_ble_eq_true rfl)⟩ ⟨rfl, rfl⟩ (Nat.le_of_ble_eq_true rfl) dX5_jars_15 (fun H locs hP hD hS => ?_)
    cases hF
    rw [hQ]
    exact jb_iret hx hb hr hlocks hP hD hS dX5_jars_18 rfl (Nat.le_of_ble_eq_true rfl) (Nat.le_of_ble_eq_true rfl)
  · have hF := ob_neg c2 hF
    refine lv_iconst (v := 0) hx hb dX5_jars_8 (by decide) ?_
    refine lv_goto (tgt := 18) hx hb dX5_jars_9 (by decide) ?_
    cases hF
    rw [hQ]
    exact jb_iret hx hb hr hlocks hP hD hS dX5_jars_18 rfl (Nat.le_of_ble_eq_true rfl) (Nat.le_of_ble_eq_true rfl)
def F_X5_age (mo : Mv) (p0 : Int32) : Option (Int32 × Mv) := (F_X5_isNone mo p0).bind (fun z1 => if (bi z1.1) = 0 then (F_X5_of z1.2 p0 2).bind (fun z2 => some (z2, z1.2)) else some (0, z1.2))
set_option maxHeartbeats 4000000 in
set_option maxRecDepth 100000 in
theorem c_X5_age (g : GG) (l : Launch) (a : Nat → Nat) (mo : Mv) (p0 : Int32) (z : Int32 × Mv) (hF : F_X5_age mo p0 = some z) : MI g l yX5_age cX5_age 2 (some .int) ({ frames := 3, cells := 0, slots := 0, locals := 64 } : Room) [.ref (a 0), .int p0] [wM g a mo] 0 0 z.1 [wM g a z.2] := by
  refine MI.bg (by decide) (Nat.le_of_ble_eq_true rfl) ?_
  intro p e s m below meth c A Q hQ hx hb hr hml hown hts hlocks hmn hK hE hA hP hD hS ls hl
  rw [F_X5_age] at hF
  have hl : lv_has ls 2 [(0, .ref (a 0)), (1, .int p0)] := hl
  refine lv_aload_n hx hb dX5_age_0 rfl (lv_at hl 0 rfl) ?_
  refine lv_iload_n hx hb dX5_age_1 rfl (lv_at hl 1 rfl) ?_
  obtain ⟨z1, hz1, hF⟩ := ob_bind hF
  refine cl_i (csR := []) (csF := [wM g a z1.2]) (rest := []) hx hb hml hown hts hK hE hA hl hP hD hS (c_X5_isNone g l a mo p0 z1 hz1) [0] [] [0] ⟨rfl, rfl, rfl, rfl, rfl, rfl, rfl⟩ ⟨0, 9, _, _, rfl, rfl, rfl⟩ 1 (jb_giV mw_1439 mw_1441 ms_38 mw_10 mw_1442) ⟨rfl, rfl⟩ (by decide +kernel) ⟨⟨(Nat.le_of_ble_eq_true rfl), (Nat.le_of_ble_eq_true rfl)⟩, (Nat.le_of_ble_eq_true rfl), (Nat.le_of_ble_eq_true rfl)⟩ ⟨rfl, rfl⟩ (Nat.le_of_ble_eq_true rfl) dX5_age_2 (fun H locs hP hD hS => ?_)
  refine lv_if_eq (tgt := 12) hx hb dX5_age_5 (by decide) (fun c2 => ?_) (fun c2 => ?_)
  · have hF := ob_pos c2 hF
    refine lv_aload_n hx hb dX5_age_12 rfl (lv_at hl 0 rfl) ?_
    refine lv_iload_n hx hb dX5_age_13 rfl (lv_at hl 1 rfl) ?_
    refine lv_iconst (v := 2) hx hb dX5_age_14 (by decide) ?_
    obtain ⟨z3, hz3, hF⟩ := ob_bind hF
    refine cl_i (csR := []) (csF := [wM g a z1.2]) (rest := []) hx hb hml hown hts hK hE hA hl hP hD hS (c_X5_of g l a z1.2 p0 2 z3 hz3) [0] [] [0] ⟨rfl, rfl, rfl, rfl, rfl, rfl, rfl⟩ ⟨0, 9, _, _, rfl, rfl, rfl⟩ 2 (jb_giV mw_1415 mw_1417 ms_36 mw_10 mw_1418) ⟨rfl, rfl⟩ (by decide +kernel) ⟨⟨(Nat.le_of_ble_eq_true rfl), (Nat.le_of_ble_eq_true rfl)⟩, (Nat.le_of_ble_eq_true rfl), (Nat.le_of_ble_eq_true rfl)⟩ ⟨rfl, rfl⟩ (Nat.le_of_ble_eq_true rfl) dX5_age_15 (fun H locs hP hD hS => ?_)
    cases hF
    rw [hQ]
    exact jb_iret hx hb hr hlocks hP hD hS dX5_age_18 rfl (Nat.le_of_ble_eq_true rfl) (Nat.le_of_ble_eq_true rfl)
  · have hF := ob_neg c2 hF
    refine lv_iconst (v := 0) hx hb dX5_age_8 (by decide) ?_
    refine lv_goto (tgt := 18) hx hb dX5_age_9 (by decide) ?_
    cases hF
    rw [hQ]
    exact jb_iret hx hb hr hlocks hP hD hS dX5_age_18 rfl (Nat.le_of_ble_eq_true rfl) (Nat.le_of_ble_eq_true rfl)
def F_X5_cracks (mo : Mv) (p0 : Int32) : Option (Int32 × Mv) := (F_X5_isNone mo p0).bind (fun z1 => if (bi z1.1) = 0 then (F_X5_of z1.2 p0 3).bind (fun z2 => some (z2, z1.2)) else some (0, z1.2))
set_option maxHeartbeats 4000000 in
set_option maxRecDepth 100000 in
theorem c_X5_cracks (g : GG) (l : Launch) (a : Nat → Nat) (mo : Mv) (p0 : Int32) (z : Int32 × Mv) (hF : F_X5_cracks mo p0 = some z) : MI g l yX5_cracks cX5_cracks 2 (some .int) ({ frames := 3, cells := 0, slots := 0, locals := 64 } : Room) [.ref (a 0), .int p0] [wM g a mo] 0 0 z.1 [wM g a z.2] := by
  refine MI.bg (by decide) (Nat.le_of_ble_eq_true rfl) ?_
  intro p e s m below meth c A Q hQ hx hb hr hml hown hts hlocks hmn hK hE hA hP hD hS ls hl
  rw [F_X5_cracks] at hF
  have hl : lv_has ls 2 [(0, .ref (a 0)), (1, .int p0)] := hl
  refine lv_aload_n hx hb dX5_cracks_0 rfl (lv_at hl 0 rfl) ?_
  refine lv_iload_n hx hb dX5_cracks_1 rfl (lv_at hl 1 rfl) ?_
  obtain ⟨z1, hz1, hF⟩ := ob_bind hF
  refine cl_i (csR := []) (csF := [wM g a z1.2]) (rest := []) hx hb hml hown hts hK hE hA hl hP hD hS (c_X5_isNone g l a mo p0 z1 hz1) [0] [] [0] ⟨rfl, rfl, rfl, rfl, rfl, rfl, rfl⟩ ⟨0, 9, _, _, rfl, rfl, rfl⟩ 1 (jb_giV mw_1439 mw_1441 ms_38 mw_10 mw_1442) ⟨rfl, rfl⟩ (by decide +kernel) ⟨⟨(Nat.le_of_ble_eq_true rfl), (Nat.le_of_ble_eq_true rfl)⟩, (Nat.le_of_ble_eq_true rfl), (Nat.le_of_ble_eq_true rfl)⟩ ⟨rfl, rfl⟩ (Nat.le_of_ble_eq_true rfl) dX5_cracks_2 (fun H locs hP hD hS => ?_)
  refine lv_if_eq (tgt := 12) hx hb dX5_cracks_5 (by decide) (fun c2 => ?_) (fun c2 => ?_)
  · have hF := ob_pos c2 hF
    refine lv_aload_n hx hb dX5_cracks_12 rfl (lv_at hl 0 rfl) ?_
    refine lv_iload_n hx hb dX5_cracks_13 rfl (lv_at hl 1 rfl) ?_
    refine lv_iconst (v := 3) hx hb dX5_cracks_14 (by decide) ?_
    obtain ⟨z3, hz3, hF⟩ := ob_bind hF
    refine cl_i (csR := []) (csF := [wM g a z1.2]) (rest := []) hx hb hml hown hts hK hE hA hl hP hD hS (c_X5_of g l a z1.2 p0 3 z3 hz3) [0] [] [0] ⟨rfl, rfl, rfl, rfl, rfl, rfl, rfl⟩ ⟨0, 9, _, _, rfl, rfl, rfl⟩ 2 (jb_giV mw_1415 mw_1417 ms_36 mw_10 mw_1418) ⟨rfl, rfl⟩ (by decide +kernel) ⟨⟨(Nat.le_of_ble_eq_true rfl), (Nat.le_of_ble_eq_true rfl)⟩, (Nat.le_of_ble_eq_true rfl), (Nat.le_of_ble_eq_true rfl)⟩ ⟨rfl, rfl⟩ (Nat.le_of_ble_eq_true rfl) dX5_cracks_15 (fun H locs hP hD hS => ?_)
    cases hF
    rw [hQ]
    exact jb_iret hx hb hr hlocks hP hD hS dX5_cracks_18 rfl (Nat.le_of_ble_eq_true rfl) (Nat.le_of_ble_eq_true rfl)
  · have hF := ob_neg c2 hF
    refine lv_iconst (v := 0) hx hb dX5_cracks_8 (by decide) ?_
    refine lv_goto (tgt := 18) hx hb dX5_cracks_9 (by decide) ?_
    cases hF
    rw [hQ]
    exact jb_iret hx hb hr hlocks hP hD hS dX5_cracks_18 rfl (Nat.le_of_ble_eq_true rfl) (Nat.le_of_ble_eq_true rfl)
def F_X5_stress (mo : Mv) (p0 : Int32) : Option (Int32 × Mv) := (F_X5_isNone mo p0).bind (fun z1 => if (bi z1.1) = 0 then (F_X5_of z1.2 p0 4).bind (fun z2 => some (z2, z1.2)) else some (0, z1.2))
set_option maxHeartbeats 4000000 in
set_option maxRecDepth 100000 in
theorem c_X5_stress (g : GG) (l : Launch) (a : Nat → Nat) (mo : Mv) (p0 : Int32) (z : Int32 × Mv) (hF : F_X5_stress mo p0 = some z) : MI g l yX5_stress cX5_stress 2 (some .int) ({ frames := 3, cells := 0, slots := 0, locals := 64 } : Room) [.ref (a 0), .int p0] [wM g a mo] 0 0 z.1 [wM g a z.2] := by
  refine MI.bg (by decide) (Nat.le_of_ble_eq_true rfl) ?_
  intro p e s m below meth c A Q hQ hx hb hr hml hown hts hlocks hmn hK hE hA hP hD hS ls hl
  rw [F_X5_stress] at hF
  have hl : lv_has ls 2 [(0, .ref (a 0)), (1, .int p0)] := hl
  refine lv_aload_n hx hb dX5_stress_0 rfl (lv_at hl 0 rfl) ?_
  refine lv_iload_n hx hb dX5_stress_1 rfl (lv_at hl 1 rfl) ?_
  obtain ⟨z1, hz1, hF⟩ := ob_bind hF
  refine cl_i (csR := []) (csF := [wM g a z1.2]) (rest := []) hx hb hml hown hts hK hE hA hl hP hD hS (c_X5_isNone g l a mo p0 z1 hz1) [0] [] [0] ⟨rfl, rfl, rfl, rfl, rfl, rfl, rfl⟩ ⟨0, 9, _, _, rfl, rfl, rfl⟩ 1 (jb_giV mw_1439 mw_1441 ms_38 mw_10 mw_1442) ⟨rfl, rfl⟩ (by decide +kernel) ⟨⟨(Nat.le_of_ble_eq_true rfl), (Nat.le_of_ble_eq_true rfl)⟩, (Nat.le_of_ble_eq_true rfl), (Nat.le_of_ble_eq_true rfl)⟩ ⟨rfl, rfl⟩ (Nat.le_of_ble_eq_true rfl) dX5_stress_2 (fun H locs hP hD hS => ?_)
  refine lv_if_eq (tgt := 12) hx hb dX5_stress_5 (by decide) (fun c2 => ?_) (fun c2 => ?_)
  · have hF := ob_pos c2 hF
    refine lv_aload_n hx hb dX5_stress_12 rfl (lv_at hl 0 rfl) ?_
    refine lv_iload_n hx hb dX5_stress_13 rfl (lv_at hl 1 rfl) ?_
    refine lv_iconst (v := 4) hx hb dX5_stress_14 (by decide) ?_
    obtain ⟨z3, hz3, hF⟩ := ob_bind hF
    refine cl_i (csR := []) (csF := [wM g a z1.2]) (rest := []) hx hb hml hown hts hK hE hA hl hP hD hS (c_X5_of g l a z1.2 p0 4 z3 hz3) [0] [] [0] ⟨rfl, rfl, rfl, rfl, rfl, rfl, rfl⟩ ⟨0, 9, _, _, rfl, rfl, rfl⟩ 2 (jb_giV mw_1415 mw_1417 ms_36 mw_10 mw_1418) ⟨rfl, rfl⟩ (by decide +kernel) ⟨⟨(Nat.le_of_ble_eq_true rfl), (Nat.le_of_ble_eq_true rfl)⟩, (Nat.le_of_ble_eq_true rfl), (Nat.le_of_ble_eq_true rfl)⟩ ⟨rfl, rfl⟩ (Nat.le_of_ble_eq_true rfl) dX5_stress_15 (fun H locs hP hD hS => ?_)
    cases hF
    rw [hQ]
    exact jb_iret hx hb hr hlocks hP hD hS dX5_stress_18 rfl (Nat.le_of_ble_eq_true rfl) (Nat.le_of_ble_eq_true rfl)
  · have hF := ob_neg c2 hF
    refine lv_iconst (v := 0) hx hb dX5_stress_8 (by decide) ?_
    refine lv_goto (tgt := 18) hx hb dX5_stress_9 (by decide) ?_
    cases hF
    rw [hQ]
    exact jb_iret hx hb hr hlocks hP hD hS dX5_stress_18 rfl (Nat.le_of_ble_eq_true rfl) (Nat.le_of_ble_eq_true rfl)
def F_X5_strength (mo : Mv) (p0 : Int32) : Option (Int32 × Mv) := (F_X5_isNone mo p0).bind (fun z1 => if (bi z1.1) = 0 then (F_X5_strong z1.2 p0).bind (fun z2 => some (z2, z1.2)) else some (0, z1.2))
set_option maxHeartbeats 4000000 in
set_option maxRecDepth 100000 in
theorem c_X5_strength (g : GG) (l : Launch) (a : Nat → Nat) (mo : Mv) (p0 : Int32) (z : Int32 × Mv) (hF : F_X5_strength mo p0 = some z) : MI g l yX5_strength cX5_strength 2 (some .int) ({ frames := 3, cells := 0, slots := 0, locals := 65 } : Room) [.ref (a 0), .int p0] [wM g a mo] 0 0 z.1 [wM g a z.2] := by
  refine MI.bg (by decide) (Nat.le_of_ble_eq_true rfl) ?_
  intro p e s m below meth c A Q hQ hx hb hr hml hown hts hlocks hmn hK hE hA hP hD hS ls hl
  rw [F_X5_strength] at hF
  have hl : lv_has ls 2 [(0, .ref (a 0)), (1, .int p0)] := hl
  refine lv_aload_n hx hb dX5_strength_0 rfl (lv_at hl 0 rfl) ?_
  refine lv_iload_n hx hb dX5_strength_1 rfl (lv_at hl 1 rfl) ?_
  obtain ⟨z1, hz1, hF⟩ := ob_bind hF
  refine cl_i (csR := []) (csF := [wM g a z1.2]) (rest := []) hx hb hml hown hts hK hE hA hl hP hD hS (c_X5_isNone g l a mo p0 z1 hz1) [0] [] [0] ⟨rfl, rfl, rfl, rfl, rfl, rfl, rfl⟩ ⟨0, 9, _, _, rfl, rfl, rfl⟩ 1 (jb_giV mw_1439 mw_1441 ms_38 mw_10 mw_1442) ⟨rfl, rfl⟩ (by decide +kernel) ⟨⟨(Nat.le_of_ble_eq_true rfl), (Nat.le_of_ble_eq_true rfl)⟩, (Nat.le_of_ble_eq_true rfl), (Nat.le_of_ble_eq_true rfl)⟩ ⟨rfl, rfl⟩ (Nat.le_of_ble_eq_true rfl) dX5_strength_2 (fun H locs hP hD hS => ?_)
  refine lv_if_eq (tgt := 12) hx hb dX5_strength_5 (by decide) (fun c2 => ?_) (fun c2 => ?_)
  · have hF := ob_pos c2 hF
    refine lv_aload_n hx hb dX5_strength_12 rfl (lv_at hl 0 rfl) ?_
    refine lv_iload_n hx hb dX5_strength_13 rfl (lv_at hl 1 rfl) ?_
    obtain ⟨z3, hz3, hF⟩ := ob_bind hF
    refine cl_i (csR := []) (csF := [wM g a z1.2]) (rest := []) hx hb hml hown hts hK hE hA hl hP hD hS (c_X5_strong g l a z1.2 p0 z3 hz3) [0] [] [0] ⟨rfl, rfl, rfl, rfl, rfl, rfl, rfl⟩ ⟨0, 9, _, _, rfl, rfl, rfl⟩ 1 (jb_giV mw_1459 mw_1461 ms_39 mw_10 mw_1462) ⟨rfl, rfl⟩ (by decide +kernel) ⟨⟨(Nat.le_of_ble_eq_true rfl), (Nat.le_of_ble_eq_true rfl)⟩, (Nat.le_of_ble_eq_true rfl), (Nat.le_of_ble_eq_true rfl)⟩ ⟨rfl, rfl⟩ (Nat.le_of_ble_eq_true rfl) dX5_strength_14 (fun H locs hP hD hS => ?_)
    cases hF
    rw [hQ]
    exact jb_iret hx hb hr hlocks hP hD hS dX5_strength_17 rfl (Nat.le_of_ble_eq_true rfl) (Nat.le_of_ble_eq_true rfl)
  · have hF := ob_neg c2 hF
    refine lv_iconst (v := 0) hx hb dX5_strength_8 (by decide) ?_
    refine lv_goto (tgt := 17) hx hb dX5_strength_9 (by decide) ?_
    cases hF
    rw [hQ]
    exact jb_iret hx hb hr hlocks hP hD hS dX5_strength_17 rfl (Nat.le_of_ble_eq_true rfl) (Nat.le_of_ble_eq_true rfl)
def F_X5_load (mo : Mv) (p0 : Int32) : Option (Int32 × Mv) := (F_X5_isNone mo p0).bind (fun z1 => if (bi z1.1) = 0 then (F_X5_loaded z1.2 p0).bind (fun z2 => some (z2, z1.2)) else some (0, z1.2))
set_option maxHeartbeats 4000000 in
set_option maxRecDepth 100000 in
theorem c_X5_load (g : GG) (l : Launch) (a : Nat → Nat) (mo : Mv) (p0 : Int32) (z : Int32 × Mv) (hF : F_X5_load mo p0 = some z) : MI g l yX5_load cX5_load 2 (some .int) ({ frames := 3, cells := 0, slots := 0, locals := 64 } : Room) [.ref (a 0), .int p0] [wM g a mo] 0 0 z.1 [wM g a z.2] := by
  refine MI.bg (by decide) (Nat.le_of_ble_eq_true rfl) ?_
  intro p e s m below meth c A Q hQ hx hb hr hml hown hts hlocks hmn hK hE hA hP hD hS ls hl
  rw [F_X5_load] at hF
  have hl : lv_has ls 2 [(0, .ref (a 0)), (1, .int p0)] := hl
  refine lv_aload_n hx hb dX5_load_0 rfl (lv_at hl 0 rfl) ?_
  refine lv_iload_n hx hb dX5_load_1 rfl (lv_at hl 1 rfl) ?_
  obtain ⟨z1, hz1, hF⟩ := ob_bind hF
  refine cl_i (csR := []) (csF := [wM g a z1.2]) (rest := []) hx hb hml hown hts hK hE hA hl hP hD hS (c_X5_isNone g l a mo p0 z1 hz1) [0] [] [0] ⟨rfl, rfl, rfl, rfl, rfl, rfl, rfl⟩ ⟨0, 9, _, _, rfl, rfl, rfl⟩ 1 (jb_giV mw_1439 mw_1441 ms_38 mw_10 mw_1442) ⟨rfl, rfl⟩ (by decide +kernel) ⟨⟨(Nat.le_of_ble_eq_true rfl), (Nat.le_of_ble_eq_true rfl)⟩, (Nat.le_of_ble_eq_true rfl), (Nat.le_of_ble_eq_true rfl)⟩ ⟨rfl, rfl⟩ (Nat.le_of_ble_eq_true rfl) dX5_load_2 (fun H locs hP hD hS => ?_)
  refine lv_if_eq (tgt := 12) hx hb dX5_load_5 (by decide) (fun c2 => ?_) (fun c2 => ?_)
  · have hF := ob_pos c2 hF
    refine lv_aload_n hx hb dX5_load_12 rfl (lv_at hl 0 rfl) ?_
    refine lv_iload_n hx hb dX5_load_13 rfl (lv_at hl 1 rfl) ?_
    obtain ⟨z3, hz3, hF⟩ := ob_bind hF
    refine cl_i (csR := []) (csF := [wM g a z1.2]) (rest := []) hx hb hml hown hts hK hE hA hl hP hD hS (c_X5_loaded g l a z1.2 p0 z3 hz3) [0] [] [0] ⟨rfl, rfl, rfl, rfl, rfl, rfl, rfl⟩ ⟨0, 9, _, _, rfl, rfl, rfl⟩ 1 (jb_giV mw_1474 mw_1476 ms_41 mw_10 mw_1477) ⟨rfl, rfl⟩ (by decide +kernel) ⟨⟨(Nat.le_of_ble_eq_true rfl), (Nat.le_of_ble_eq_true rfl)⟩, (Nat.le_of_ble_eq_true rfl), (Nat.le_of_ble_eq_true rfl)⟩ ⟨rfl, rfl⟩ (Nat.le_of_ble_eq_true rfl) dX5_load_14 (fun H locs hP hD hS => ?_)
    cases hF
    rw [hQ]
    exact jb_iret hx hb hr hlocks hP hD hS dX5_load_17 rfl (Nat.le_of_ble_eq_true rfl) (Nat.le_of_ble_eq_true rfl)
  · have hF := ob_neg c2 hF
    refine lv_iconst (v := 0) hx hb dX5_load_8 (by decide) ?_
    refine lv_goto (tgt := 17) hx hb dX5_load_9 (by decide) ?_
    cases hF
    rw [hQ]
    exact jb_iret hx hb hr hlocks hP hD hS dX5_load_17 rfl (Nat.le_of_ble_eq_true rfl) (Nat.le_of_ble_eq_true rfl)
def F_X5_isStrained (mo : Mv) (p0 : Int32) : Option (Bool × Mv) := (F_X5_isNone mo p0).bind (fun z1 => if ¬ (bi z1.1) = 0 then some (false, z1.2) else (F_X5_strains z1.2 p0).bind (fun z2 => if (bi z2) = 0 then some (false, z1.2) else some (true, z1.2)))
set_option maxHeartbeats 4000000 in
set_option maxRecDepth 100000 in
theorem c_X5_isStrained (g : GG) (l : Launch) (a : Nat → Nat) (mo : Mv) (p0 : Int32) (z : Bool × Mv) (hF : F_X5_isStrained mo p0 = some z) : MI g l yX5_isStrained cX5_isStrained 2 (some .boolean) ({ frames := 4, cells := 0, slots := 0, locals := 86 } : Room) [.ref (a 0), .int p0] [wM g a mo] 0 0 (bi z.1) [wM g a z.2] := by
  refine MI.bg (by decide) (Nat.le_of_ble_eq_true rfl) ?_
  intro p e s m below meth c A Q hQ hx hb hr hml hown hts hlocks hmn hK hE hA hP hD hS ls hl
  rw [F_X5_isStrained] at hF
  have hl : lv_has ls 2 [(0, .ref (a 0)), (1, .int p0)] := hl
  refine lv_aload_n hx hb dX5_isStrained_0 rfl (lv_at hl 0 rfl) ?_
  refine lv_iload_n hx hb dX5_isStrained_1 rfl (lv_at hl 1 rfl) ?_
  obtain ⟨z1, hz1, hF⟩ := ob_bind hF
  refine cl_i (csR := []) (csF := [wM g a z1.2]) (rest := []) hx hb hml hown hts hK hE hA hl hP hD hS (c_X5_isNone g l a mo p0 z1 hz1) [0] [] [0] ⟨rfl, rfl, rfl, rfl, rfl, rfl, rfl⟩ ⟨0, 9, _, _, rfl, rfl, rfl⟩ 1 (jb_giV mw_1439 mw_1441 ms_38 mw_10 mw_1442) ⟨rfl, rfl⟩ (by decide +kernel) ⟨⟨(Nat.le_of_ble_eq_true rfl), (Nat.le_of_ble_eq_true rfl)⟩, (Nat.le_of_ble_eq_true rfl), (Nat.le_of_ble_eq_true rfl)⟩ ⟨rfl, rfl⟩ (Nat.le_of_ble_eq_true rfl) dX5_isStrained_2 (fun H locs hP hD hS => ?_)
  refine lv_if_ne (tgt := 20) hx hb dX5_isStrained_5 (by decide) (fun c2 => ?_) (fun c2 => ?_)
  · have hF := ob_pos c2 hF
    refine lv_iconst (v := 0) hx hb dX5_isStrained_20 (by decide) ?_
    cases hF
    rw [hQ]
    exact jb_zret hx hb hr rfl hlocks hP hD hS dX5_isStrained_21 rfl (Nat.le_of_ble_eq_true rfl) (Nat.le_of_ble_eq_true rfl)
  · have hF := ob_nneg c2 hF
    refine lv_aload_n hx hb dX5_isStrained_8 rfl (lv_at hl 0 rfl) ?_
    refine lv_iload_n hx hb dX5_isStrained_9 rfl (lv_at hl 1 rfl) ?_
    obtain ⟨z3, hz3, hF⟩ := ob_bind hF
    refine cl_i (csR := []) (csF := [wM g a z1.2]) (rest := []) hx hb hml hown hts hK hE hA hl hP hD hS (c_X5_strains g l a z1.2 p0 z3 hz3) [0] [] [0] ⟨rfl, rfl, rfl, rfl, rfl, rfl, rfl⟩ ⟨0, 9, _, _, rfl, rfl, rfl⟩ 1 (jb_giV mw_1486 mw_1488 ms_43 mw_10 mw_1489) ⟨rfl, rfl⟩ (by decide +kernel) ⟨⟨(Nat.le_of_ble_eq_true rfl), (Nat.le_of_ble_eq_true rfl)⟩, (Nat.le_of_ble_eq_true rfl), (Nat.le_of_ble_eq_true rfl)⟩ ⟨rfl, rfl⟩ (Nat.le_of_ble_eq_true rfl) dX5_isStrained_10 (fun H locs hP hD hS => ?_)
    refine lv_if_eq (tgt := 20) hx hb dX5_isStrained_13 (by decide) (fun c4 => ?_) (fun c4 => ?_)
    · have hF := ob_pos c4 hF
      refine lv_iconst (v := 0) hx hb dX5_isStrained_20 (by decide) ?_
      cases hF
      rw [hQ]
      exact jb_zret hx hb hr rfl hlocks hP hD hS dX5_isStrained_21 rfl (Nat.le_of_ble_eq_true rfl) (Nat.le_of_ble_eq_true rfl)
    · have hF := ob_neg c4 hF
      refine lv_iconst (v := 1) hx hb dX5_isStrained_16 (by decide) ?_
      refine lv_goto (tgt := 21) hx hb dX5_isStrained_17 (by decide) ?_
      cases hF
      rw [hQ]
      exact jb_zret hx hb hr rfl hlocks hP hD hS dX5_isStrained_21 rfl (Nat.le_of_ble_eq_true rfl) (Nat.le_of_ble_eq_true rfl)
def F_X5_hoursTo_L36 (mo : Mv) (y1 : Int32) (y2 : Int32) (y3 : Int32) (k : Int32 → Option (Int32)) : Nat → Int32 → Option (Int32)
  | 0, _ => none
  | n + 1, x4 => if y3 < x4 then k x4 else (F_X5_bears mo y1 x4).bind (fun z4 => if z4 < y2 then F_X5_hoursTo_L36 mo y1 y2 y3 k n (x4 + 1) else (F_X5_of mo y1 2).bind (fun z5 => some (x4 - z5)))
def F_X5_hoursTo (mo : Mv) (p0 : Int32) (p1 : Int32) : Option (Int32) := (F_X5_of mo p0 1).bind (fun z1 => if ¬ z1 = 0 then (F_X5_of mo p0 2).bind (fun z2 => (F_X5_of mo p0 2).bind (fun z3 => F_X5_hoursTo_L36 mo p0 p1 (z2 + 24) (fun x6 => some (-1)) 1000 z3)) else (F_X5_of mo p0 2).bind (fun z7 => (F_X5_of mo p0 2).bind (fun z8 => F_X5_hoursTo_L36 mo p0 p1 z7 (fun x9 => some (-1)) 1000 z8)))
set_option maxHeartbeats 4000000 in
set_option maxRecDepth 100000 in
theorem c_X5_hoursTo (g : GG) (l : Launch) (a : Nat → Nat) (mo : Mv) (p0 : Int32) (p1 : Int32) (z : Int32) (hF : F_X5_hoursTo mo p0 p1 = some z) : MI g l yX5_hoursTo cX5_hoursTo 5 (some .int) ({ frames := 2, cells := 0, slots := 0, locals := 44 } : Room) [.ref (a 0), .int p0, .int p1] [wM g a mo] 0 0 z [wM g a mo] := by
  refine MI.bg (by decide) (Nat.le_of_ble_eq_true rfl) ?_
  intro p e s m below meth c A Q hQ hx hb hr hml hown hts hlocks hmn hK hE hA hP hD hS ls hl
  rw [F_X5_hoursTo] at hF
  have hl : lv_has ls 5 [(0, .ref (a 0)), (1, .int p0), (2, .int p1)] := hl
  refine lv_aload_n hx hb dX5_hoursTo_0 rfl (lv_at hl 0 rfl) ?_
  refine lv_iload_n hx hb dX5_hoursTo_1 rfl (lv_at hl 1 rfl) ?_
  refine lv_iconst (v := 1) hx hb dX5_hoursTo_2 (by decide) ?_
  obtain ⟨z1, hz1, hF⟩ := ob_bind hF
  refine cl_i (csR := []) (csF := [wM g a mo]) (rest := []) hx hb hml hown hts hK hE hA hl hP hD hS (c_X5_of g l a mo p0 1 z1 hz1) [0] [] [0] ⟨rfl, rfl, rfl, rfl, rfl, rfl, rfl⟩ ⟨0, 9, _, _, rfl, rfl, rfl⟩ 2 (jb_giV mw_1415 mw_1417 ms_36 mw_10 mw_1418) ⟨rfl, rfl⟩ (by decide +kernel) ⟨⟨(Nat.le_of_ble_eq_true rfl), (Nat.le_of_ble_eq_true rfl)⟩, (Nat.le_of_ble_eq_true rfl), (Nat.le_of_ble_eq_true rfl)⟩ ⟨rfl, rfl⟩ (Nat.le_of_ble_eq_true rfl) dX5_hoursTo_3 (fun H locs hP hD hS => ?_)
  refine lv_if_ne (tgt := 18) hx hb dX5_hoursTo_6 (by decide) (fun c2 => ?_) (fun c2 => ?_)
  · have hF := ob_pos c2 hF
    refine lv_aload_n hx hb dX5_hoursTo_18 rfl (lv_at hl 0 rfl) ?_
    refine lv_iload_n hx hb dX5_hoursTo_19 rfl (lv_at hl 1 rfl) ?_
    refine lv_iconst (v := 2) hx hb dX5_hoursTo_20 (by decide) ?_
    obtain ⟨z3, hz3, hF⟩ := ob_bind hF
    refine cl_i (csR := []) (csF := [wM g a mo]) (rest := []) hx hb hml hown hts hK hE hA hl hP hD hS (c_X5_of g l a mo p0 2 z3 hz3) [0] [] [0] ⟨rfl, rfl, rfl, rfl, rfl, rfl, rfl⟩ ⟨0, 9, _, _, rfl, rfl, rfl⟩ 2 (jb_giV mw_1415 mw_1417 ms_36 mw_10 mw_1418) ⟨rfl, rfl⟩ (by decide +kernel) ⟨⟨(Nat.le_of_ble_eq_true rfl), (Nat.le_of_ble_eq_true rfl)⟩, (Nat.le_of_ble_eq_true rfl), (Nat.le_of_ble_eq_true rfl)⟩ ⟨rfl, rfl⟩ (Nat.le_of_ble_eq_true rfl) dX5_hoursTo_21 (fun H locs hP hD hS => ?_)
    refine lv_bipush (v := 24) hx hb dX5_hoursTo_24 (by decide) ?_
    refine lv_iadd hx hb dX5_hoursTo_26 ?_
    refine lv_istore_n (lv' := [(3, .int (z3 + 24)), (0, .ref (a 0)), (1, .int p0), (2, .int p1)]) hx hb dX5_hoursTo_27 rfl hl (by decide) rfl (fun ls hl => ?_)
    refine lv_aload_n hx hb dX5_hoursTo_28 rfl (lv_at hl 1 rfl) ?_
    refine lv_iload_n hx hb dX5_hoursTo_29 rfl (lv_at hl 2 rfl) ?_
    refine lv_iconst (v := 2) hx hb dX5_hoursTo_30 (by decide) ?_
    obtain ⟨z4, hz4, hF⟩ := ob_bind hF
    refine cl_i (csR := []) (csF := [wM g a mo]) (rest := []) hx hb hml hown hts hK hE hA hl hP hD hS (c_X5_of g l a mo p0 2 z4 hz4) [0] [] [0] ⟨rfl, rfl, rfl, rfl, rfl, rfl, rfl⟩ ⟨0, 9, _, _, rfl, rfl, rfl⟩ 2 (jb_giV mw_1415 mw_1417 ms_36 mw_10 mw_1418) ⟨rfl, rfl⟩ (by decide +kernel) ⟨⟨(Nat.le_of_ble_eq_true rfl), (Nat.le_of_ble_eq_true rfl)⟩, (Nat.le_of_ble_eq_true rfl), (Nat.le_of_ble_eq_true rfl)⟩ ⟨rfl, rfl⟩ (Nat.le_of_ble_eq_true rfl) dX5_hoursTo_31 (fun H locs hP hD hS => ?_)
    refine lv_istore (lv' := [(4, .int z4), (3, .int (z3 + 24)), (0, .ref (a 0)), (1, .int p0), (2, .int p1)]) hx hb dX5_hoursTo_34 hl (by decide) rfl (fun ls hl => ?_)
    obtain ⟨k5, ek5, hF⟩ := ob_k (F := fun k9 => F_X5_hoursTo_L36 mo p0 p1 (z3 + 24) k9 1000 z4) hF
    have loop5 : ∀ (n9 : Nat) (x5 : Int32), F_X5_hoursTo_L36 mo p0 p1 (z3 + 24) k5 n9 x5 = some z → ∀ (H : Heap) (locs : List Loc), va_P g.1 vwCl ([wM g a mo] : List va_W).flatten H → va_D A ([wM g a mo] : List va_W).flatten → va_S A s.heap H locs → ∀ ls : Array Slot, lv_has ls 5 [(0, .ref (a 0)), (1, .int p0), (2, .int p1), (3, .int (z3 + 24)), (4, .int x5)] → W p l e ({ frames := 2, cells := 0, slots := 0, locals := 44 } : Room) s m ([.ref (a 0), .int p0, .int p1] : List Value).toArray below meth c H locs 0 0 Q (F0 m 36 ls []) := by
      intro n9
      induction n9 with
      | zero => intro x5 hF; rw [F_X5_hoursTo_L36] at hF; cases hF
      | succ n9 ih5 =>
        intro x5 hF H locs hP hD hS ls hl
        rw [F_X5_hoursTo_L36] at hF
        refine lv_iload hx hb dX5_hoursTo_36 (lv_at hl 4 rfl) ?_
        refine lv_iload_n hx hb dX5_hoursTo_38 rfl (lv_at hl 3 rfl) ?_
        refine lv_icmp_gt (tgt := 69) hx hb dX5_hoursTo_39 (by decide) (fun c6 => ?_) (fun c6 => ?_)
        · have hF := ob_pos c6 hF
          rw [ek5] at hF
          refine lv_iconst (v := (-1)) hx hb dX5_hoursTo_69 (by decide) ?_
          cases hF
          rw [hQ]
          exact jb_iret hx hb hr hlocks hP hD hS dX5_hoursTo_70 rfl (Nat.le_of_ble_eq_true rfl) (Nat.le_of_ble_eq_true rfl)
        · have hF := ob_neg c6 hF
          refine lv_aload_n hx hb dX5_hoursTo_42 rfl (lv_at hl 0 rfl) ?_
          refine lv_iload_n hx hb dX5_hoursTo_43 rfl (lv_at hl 1 rfl) ?_
          refine lv_iload hx hb dX5_hoursTo_44 (lv_at hl 4 rfl) ?_
          obtain ⟨z7, hz7, hF⟩ := ob_bind hF
          refine cl_i (csR := []) (csF := [wM g a mo]) (rest := []) hx hb hml hown hts hK hE hA hl hP hD hS (c_X5_bears g l a mo p0 x5 z7 hz7) [0] [] [0] ⟨rfl, rfl, rfl, rfl, rfl, rfl, rfl⟩ ⟨0, 9, _, _, rfl, rfl, rfl⟩ 2 (jb_giV mw_1463 mw_1465 ms_40 mw_10 mw_1466) ⟨rfl, rfl⟩ (by decide +kernel) ⟨⟨(Nat.le_of_ble_eq_true rfl), (Nat.le_of_ble_eq_true rfl)⟩, (Nat.le_of_ble_eq_true rfl), (Nat.le_of_ble_eq_true rfl)⟩ ⟨rfl, rfl⟩ (Nat.le_of_ble_eq_true rfl) dX5_hoursTo_46 (fun H locs hP hD hS => ?_)
          refine lv_iload_n hx hb dX5_hoursTo_49 rfl (lv_at hl 2 rfl) ?_
          refine lv_icmp_lt (tgt := 63) hx hb dX5_hoursTo_50 (by decide) (fun c8 => ?_) (fun c8 => ?_)
          · have hF := ob_pos c8 hF
            refine lv_iinc (v := x5 + 1) (lv' := [(4, .int (x5 + 1)), (0, .ref (a 0)), (1, .int p0), (2, .int p1), (3, .int (z3 + 24))]) hx hb dX5_hoursTo_63 hl (k := 4) rfl (by rfl) (by decide) rfl (fun ls hl => ?_)
            refine lv_goto (tgt := 36) hx hb dX5_hoursTo_66 (by decide) ?_
            exact ih5 _ hF _ _ hP hD hS ls (lv_sub hl [1, 2, 3, 4, 0] rfl)
          · have hF := ob_neg c8 hF
            refine lv_iload hx hb dX5_hoursTo_53 (lv_at hl 4 rfl) ?_
            refine lv_aload_n hx hb dX5_hoursTo_55 rfl (lv_at hl 0 rfl) ?_
            refine lv_iload_n hx hb dX5_hoursTo_56 rfl (lv_at hl 1 rfl) ?_
            refine lv_iconst (v := 2) hx hb dX5_hoursTo_57 (by decide) ?_
            obtain ⟨z9, hz9, hF⟩ := ob_bind hF
            refine cl_i (csR := []) (csF := [wM g a mo]) (rest := [.int x5]) hx hb hml hown hts hK hE hA hl hP hD hS (c_X5_of g l a mo p0 2 z9 hz9) [0] [] [0] ⟨rfl, rfl, rfl, rfl, rfl, rfl, rfl⟩ ⟨0, 9, _, _, rfl, rfl, rfl⟩ 2 (jb_giV mw_1415 mw_1417 ms_36 mw_10 mw_1418) ⟨rfl, rfl⟩ (by decide +kernel) ⟨⟨(Nat.le_of_ble_eq_true rfl), (Nat.le_of_ble_eq_true rfl)⟩, (Nat.le_of_ble_eq_true rfl), (Nat.le_of_ble_eq_true rfl)⟩ ⟨rfl, rfl⟩ (Nat.le_of_ble_eq_true rfl) dX5_hoursTo_58 (fun H locs hP hD hS => ?_)
            refine lv_isub hx hb dX5_hoursTo_61 ?_
            cases hF
            rw [hQ]
            exact jb_iret hx hb hr hlocks hP hD hS dX5_hoursTo_62 rfl (Nat.le_of_ble_eq_true rfl) (Nat.le_of_ble_eq_true rfl)
    exact loop5 1000 _ hF _ _ hP hD hS ls (lv_sub hl [2, 3, 4, 1, 0] rfl)
  · have hF := ob_nneg c2 hF
    refine lv_aload_n hx hb dX5_hoursTo_9 rfl (lv_at hl 0 rfl) ?_
    refine lv_iload_n hx hb dX5_hoursTo_10 rfl (lv_at hl 1 rfl) ?_
    refine lv_iconst (v := 2) hx hb dX5_hoursTo_11 (by decide) ?_
    obtain ⟨z10, hz10, hF⟩ := ob_bind hF
    refine cl_i (csR := []) (csF := [wM g a mo]) (rest := []) hx hb hml hown hts hK hE hA hl hP hD hS (c_X5_of g l a mo p0 2 z10 hz10) [0] [] [0] ⟨rfl, rfl, rfl, rfl, rfl, rfl, rfl⟩ ⟨0, 9, _, _, rfl, rfl, rfl⟩ 2 (jb_giV mw_1415 mw_1417 ms_36 mw_10 mw_1418) ⟨rfl, rfl⟩ (by decide +kernel) ⟨⟨(Nat.le_of_ble_eq_true rfl), (Nat.le_of_ble_eq_true rfl)⟩, (Nat.le_of_ble_eq_true rfl), (Nat.le_of_ble_eq_true rfl)⟩ ⟨rfl, rfl⟩ (Nat.le_of_ble_eq_true rfl) dX5_hoursTo_12 (fun H locs hP hD hS => ?_)
    refine lv_goto (tgt := 27) hx hb dX5_hoursTo_15 (by decide) ?_
    refine lv_istore_n (lv' := [(3, .int z10), (0, .ref (a 0)), (1, .int p0), (2, .int p1)]) hx hb dX5_hoursTo_27 rfl hl (by decide) rfl (fun ls hl => ?_)
    refine lv_aload_n hx hb dX5_hoursTo_28 rfl (lv_at hl 1 rfl) ?_
    refine lv_iload_n hx hb dX5_hoursTo_29 rfl (lv_at hl 2 rfl) ?_
    refine lv_iconst (v := 2) hx hb dX5_hoursTo_30 (by decide) ?_
    obtain ⟨z11, hz11, hF⟩ := ob_bind hF
    refine cl_i (csR := []) (csF := [wM g a mo]) (rest := []) hx hb hml hown hts hK hE hA hl hP hD hS (c_X5_of g l a mo p0 2 z11 hz11) [0] [] [0] ⟨rfl, rfl, rfl, rfl, rfl, rfl, rfl⟩ ⟨0, 9, _, _, rfl, rfl, rfl⟩ 2 (jb_giV mw_1415 mw_1417 ms_36 mw_10 mw_1418) ⟨rfl, rfl⟩ (by decide +kernel) ⟨⟨(Nat.le_of_ble_eq_true rfl), (Nat.le_of_ble_eq_true rfl)⟩, (Nat.le_of_ble_eq_true rfl), (Nat.le_of_ble_eq_true rfl)⟩ ⟨rfl, rfl⟩ (Nat.le_of_ble_eq_true rfl) dX5_hoursTo_31 (fun H locs hP hD hS => ?_)
    refine lv_istore (lv' := [(4, .int z11), (3, .int z10), (0, .ref (a 0)), (1, .int p0), (2, .int p1)]) hx hb dX5_hoursTo_34 hl (by decide) rfl (fun ls hl => ?_)
    obtain ⟨k12, ek12, hF⟩ := ob_k (F := fun k9 => F_X5_hoursTo_L36 mo p0 p1 z10 k9 1000 z11) hF
    have loop12 : ∀ (n9 : Nat) (x12 : Int32), F_X5_hoursTo_L36 mo p0 p1 z10 k12 n9 x12 = some z → ∀ (H : Heap) (locs : List Loc), va_P g.1 vwCl ([wM g a mo] : List va_W).flatten H → va_D A ([wM g a mo] : List va_W).flatten → va_S A s.heap H locs → ∀ ls : Array Slot, lv_has ls 5 [(0, .ref (a 0)), (1, .int p0), (2, .int p1), (3, .int z10), (4, .int x12)] → W p l e ({ frames := 2, cells := 0, slots := 0, locals := 44 } : Room) s m ([.ref (a 0), .int p0, .int p1] : List Value).toArray below meth c H locs 0 0 Q (F0 m 36 ls []) := by
      intro n9
      induction n9 with
      | zero => intro x12 hF; rw [F_X5_hoursTo_L36] at hF; cases hF
      | succ n9 ih12 =>
        intro x12 hF H locs hP hD hS ls hl
        rw [F_X5_hoursTo_L36] at hF
        refine lv_iload hx hb dX5_hoursTo_36 (lv_at hl 4 rfl) ?_
        refine lv_iload_n hx hb dX5_hoursTo_38 rfl (lv_at hl 3 rfl) ?_
        refine lv_icmp_gt (tgt := 69) hx hb dX5_hoursTo_39 (by decide) (fun c13 => ?_) (fun c13 => ?_)
        · have hF := ob_pos c13 hF
          rw [ek12] at hF
          refine lv_iconst (v := (-1)) hx hb dX5_hoursTo_69 (by decide) ?_
          cases hF
          rw [hQ]
          exact jb_iret hx hb hr hlocks hP hD hS dX5_hoursTo_70 rfl (Nat.le_of_ble_eq_true rfl) (Nat.le_of_ble_eq_true rfl)
        · have hF := ob_neg c13 hF
          refine lv_aload_n hx hb dX5_hoursTo_42 rfl (lv_at hl 0 rfl) ?_
          refine lv_iload_n hx hb dX5_hoursTo_43 rfl (lv_at hl 1 rfl) ?_
          refine lv_iload hx hb dX5_hoursTo_44 (lv_at hl 4 rfl) ?_
          obtain ⟨z14, hz14, hF⟩ := ob_bind hF
          refine cl_i (csR := []) (csF := [wM g a mo]) (rest := []) hx hb hml hown hts hK hE hA hl hP hD hS (c_X5_bears g l a mo p0 x12 z14 hz14) [0] [] [0] ⟨rfl, rfl, rfl, rfl, rfl, rfl, rfl⟩ ⟨0, 9, _, _, rfl, rfl, rfl⟩ 2 (jb_giV mw_1463 mw_1465 ms_40 mw_10 mw_1466) ⟨rfl, rfl⟩ (by decide +kernel) ⟨⟨(Nat.le_of_ble_eq_true rfl), (Nat.le_of_ble_eq_true rfl)⟩, (Nat.le_of_ble_eq_true rfl), (Nat.le_of_ble_eq_true rfl)⟩ ⟨rfl, rfl⟩ (Nat.le_of_ble_eq_true rfl) dX5_hoursTo_46 (fun H locs hP hD hS => ?_)
          refine lv_iload_n hx hb dX5_hoursTo_49 rfl (lv_at hl 2 rfl) ?_
          refine lv_icmp_lt (tgt := 63) hx hb dX5_hoursTo_50 (by decide) (fun c15 => ?_) (fun c15 => ?_)
          · have hF := ob_pos c15 hF
            refine lv_iinc (v := x12 + 1) (lv' := [(4, .int (x12 + 1)), (0, .ref (a 0)), (1, .int p0), (2, .int p1), (3, .int z10)]) hx hb dX5_hoursTo_63 hl (k := 4) rfl (by rfl) (by decide) rfl (fun ls hl => ?_)
            refine lv_goto (tgt := 36) hx hb dX5_hoursTo_66 (by decide) ?_
            exact ih12 _ hF _ _ hP hD hS ls (lv_sub hl [1, 2, 3, 4, 0] rfl)
          · have hF := ob_neg c15 hF
            refine lv_iload hx hb dX5_hoursTo_53 (lv_at hl 4 rfl) ?_
            refine lv_aload_n hx hb dX5_hoursTo_55 rfl (lv_at hl 0 rfl) ?_
            refine lv_iload_n hx hb dX5_hoursTo_56 rfl (lv_at hl 1 rfl) ?_
            refine lv_iconst (v := 2) hx hb dX5_hoursTo_57 (by decide) ?_
            obtain ⟨z16, hz16, hF⟩ := ob_bind hF
            refine cl_i (csR := []) (csF := [wM g a mo]) (rest := [.int x12]) hx hb hml hown hts hK hE hA hl hP hD hS (c_X5_of g l a mo p0 2 z16 hz16) [0] [] [0] ⟨rfl, rfl, rfl, rfl, rfl, rfl, rfl⟩ ⟨0, 9, _, _, rfl, rfl, rfl⟩ 2 (jb_giV mw_1415 mw_1417 ms_36 mw_10 mw_1418) ⟨rfl, rfl⟩ (by decide +kernel) ⟨⟨(Nat.le_of_ble_eq_true rfl), (Nat.le_of_ble_eq_true rfl)⟩, (Nat.le_of_ble_eq_true rfl), (Nat.le_of_ble_eq_true rfl)⟩ ⟨rfl, rfl⟩ (Nat.le_of_ble_eq_true rfl) dX5_hoursTo_58 (fun H locs hP hD hS => ?_)
            refine lv_isub hx hb dX5_hoursTo_61 ?_
            cases hF
            rw [hQ]
            exact jb_iret hx hb hr hlocks hP hD hS dX5_hoursTo_62 rfl (Nat.le_of_ble_eq_true rfl) (Nat.le_of_ble_eq_true rfl)
    exact loop12 1000 _ hF _ _ hP hD hS ls (lv_sub hl [2, 3, 4, 1, 0] rfl)
def F_X5_hoursAsked (mo : Mv) (p0 : Int32) (p1 : Int32) : Option (Int32 × Mv) := (F_X5_isSpan mo p0).bind (fun z1 => if ¬ (bi z1) = 0 then (F_X5_in p1 1 99).bind (fun z2 => if (bi z2) = 0 then (F_X5_fails mo 2).bind (fun z3 => if (bi z3.1) = 0 then (F_X5_hoursTo z3.2 p0 p1).bind (fun z4 => if 0 ≤ z4 then (F_X5_fails z3.2 0).bind (fun z5 => if (bi z5.1) = 0 then (F_X5_hoursTo z5.2 p0 p1).bind (fun z6 => some (z6, z5.2)) else some (0, z5.2)) else (F_X5_fails z3.2 3).bind (fun z7 => if (bi z7.1) = 0 then (F_X5_hoursTo z7.2 p0 p1).bind (fun z8 => some (z8, z7.2)) else some (0, z7.2))) else some (0, z3.2)) else (F_X5_fails mo 0).bind (fun z9 => if (bi z9.1) = 0 then (F_X5_hoursTo z9.2 p0 p1).bind (fun z10 => if 0 ≤ z10 then (F_X5_fails z9.2 0).bind (fun z11 => if (bi z11.1) = 0 then (F_X5_hoursTo z11.2 p0 p1).bind (fun z12 => some (z12, z11.2)) else some (0, z11.2)) else (F_X5_fails z9.2 3).bind (fun z13 => if (bi z13.1) = 0 then (F_X5_hoursTo z13.2 p0 p1).bind (fun z14 => some (z14, z13.2)) else some (0, z13.2))) else some (0, z9.2))) else (F_X5_fails mo 1).bind (fun z15 => if (bi z15.1) = 0 then (F_X5_hoursTo z15.2 p0 p1).bind (fun z16 => if 0 ≤ z16 then (F_X5_fails z15.2 0).bind (fun z17 => if (bi z17.1) = 0 then (F_X5_hoursTo z17.2 p0 p1).bind (fun z18 => some (z18, z17.2)) else some (0, z17.2)) else (F_X5_fails z15.2 3).bind (fun z19 => if (bi z19.1) = 0 then (F_X5_hoursTo z19.2 p0 p1).bind (fun z20 => some (z20, z19.2)) else some (0, z19.2))) else some (0, z15.2)))
set_option maxHeartbeats 4000000 in
set_option maxRecDepth 100000 in
theorem c_X5_hoursAsked (g : GG) (l : Launch) (a : Nat → Nat) (mo : Mv) (p0 : Int32) (p1 : Int32) (z : Int32 × Mv) (hF : F_X5_hoursAsked mo p0 p1 = some z) : MI g l yX5_hoursAsked cX5_hoursAsked 3 (some .int) ({ frames := 3, cells := 0, slots := 0, locals := 68 } : Room) [.ref (a 0), .int p0, .int p1] [wM g a mo] 0 0 z.1 [wM g a z.2] := by
  refine MI.bg (by decide) (Nat.le_of_ble_eq_true rfl) ?_
  intro p e s m below meth c A Q hQ hx hb hr hml hown hts hlocks hmn hK hE hA hP hD hS ls hl
  rw [F_X5_hoursAsked] at hF
  have hl : lv_has ls 3 [(0, .ref (a 0)), (1, .int p0), (2, .int p1)] := hl
  refine lv_aload_n hx hb dX5_hoursAsked_0 rfl (lv_at hl 0 rfl) ?_
  refine lv_aload_n hx hb dX5_hoursAsked_1 rfl (lv_at hl 0 rfl) ?_
  refine lv_iload_n hx hb dX5_hoursAsked_2 rfl (lv_at hl 1 rfl) ?_
  obtain ⟨z1, hz1, hF⟩ := ob_bind hF
  refine cl_i (csR := []) (csF := [wM g a mo]) (rest := [.ref (a 0)]) hx hb hml hown hts hK hE hA hl hP hD hS (c_X5_isSpan g l a mo p0 z1 hz1) [0] [] [0] ⟨rfl, rfl, rfl, rfl, rfl, rfl, rfl⟩ ⟨0, 9, _, _, rfl, rfl, rfl⟩ 1 (jb_giV mw_1423 mw_1425 ms_37 mw_10 mw_1426) ⟨rfl, rfl⟩ (by decide +kernel) ⟨⟨(Nat.le_of_ble_eq_true rfl), (Nat.le_of_ble_eq_true rfl)⟩, (Nat.le_of_ble_eq_true rfl), (Nat.le_of_ble_eq_true rfl)⟩ ⟨rfl, rfl⟩ (Nat.le_of_ble_eq_true rfl) dX5_hoursAsked_3 (fun H locs hP hD hS => ?_)
  refine lv_if_ne (tgt := 13) hx hb dX5_hoursAsked_6 (by decide) (fun c2 => ?_) (fun c2 => ?_)
  · have hF := ob_pos c2 hF
    refine lv_iload_n hx hb dX5_hoursAsked_13 rfl (lv_at hl 2 rfl) ?_
    refine lv_iconst (v := 1) hx hb dX5_hoursAsked_14 (by decide) ?_
    refine lv_bipush (v := 99) hx hb dX5_hoursAsked_15 (by decide) ?_
    obtain ⟨z3, hz3, hF⟩ := ob_bind hF
    refine cl_si (csR := [wM g a mo]) (csF := [wM g a mo]) (rest := [.ref (a 0)]) hx hb hml hown hts hK hE hA hl hP hD hS (c_X5_in g l  p1 1 99 z3 hz3) [] [0] [0] ⟨rfl, rfl, rfl, rfl, rfl, rfl, rfl⟩ 3 (jb_giS mw_1389 mw_1390 mw_10 mw_1391) ⟨rfl, rfl⟩ (by decide +kernel) ⟨⟨(Nat.le_of_ble_eq_true rfl), (Nat.le_of_ble_eq_true rfl)⟩, (Nat.le_of_ble_eq_true rfl), (Nat.le_of_ble_eq_true rfl)⟩ ⟨rfl, rfl⟩ (Nat.le_of_ble_eq_true rfl) dX5_hoursAsked_17 (fun H locs hP hD hS => ?_)
    refine lv_if_eq (tgt := 27) hx hb dX5_hoursAsked_20 (by decide) (fun c4 => ?_) (fun c4 => ?_)
    · have hF := ob_pos c4 hF
      refine lv_iconst (v := 2) hx hb dX5_hoursAsked_27 (by decide) ?_
      obtain ⟨z5, hz5, hF⟩ := ob_bind hF
      refine cl_i (csR := []) (csF := [wM g a z5.2]) (rest := []) hx hb hml hown hts hK hE hA hl hP hD hS (c_X5_fails g l a mo 2 z5 hz5) [0] [] [0] ⟨rfl, rfl, rfl, rfl, rfl, rfl, rfl⟩ ⟨0, 9, _, _, rfl, rfl, rfl⟩ 1 (jb_giV mw_1392 mw_1394 ms_32 mw_10 mw_1395) ⟨rfl, rfl⟩ (by decide +kernel) ⟨⟨(Nat.le_of_ble_eq_true rfl), (Nat.le_of_ble_eq_true rfl)⟩, (Nat.le_of_ble_eq_true rfl), (Nat.le_of_ble_eq_true rfl)⟩ ⟨rfl, rfl⟩ (Nat.le_of_ble_eq_true rfl) dX5_hoursAsked_28 (fun H locs hP hD hS => ?_)
      refine lv_if_eq (tgt := 36) hx hb dX5_hoursAsked_31 (by decide) (fun c6 => ?_) (fun c6 => ?_)
      · have hF := ob_pos c6 hF
        refine lv_aload_n hx hb dX5_hoursAsked_36 rfl (lv_at hl 0 rfl) ?_
        refine lv_aload_n hx hb dX5_hoursAsked_37 rfl (lv_at hl 0 rfl) ?_
        refine lv_iload_n hx hb dX5_hoursAsked_38 rfl (lv_at hl 1 rfl) ?_
        refine lv_iload_n hx hb dX5_hoursAsked_39 rfl (lv_at hl 2 rfl) ?_
        obtain ⟨z7, hz7, hF⟩ := ob_bind hF
        refine cl_i (csR := []) (csF := [wM g a z5.2]) (rest := [.ref (a 0)]) hx hb hml hown hts hK hE hA hl hP hD hS (c_X5_hoursTo g l a z5.2 p0 p1 z7 hz7) [0] [] [0] ⟨rfl, rfl, rfl, rfl, rfl, rfl, rfl⟩ ⟨0, 9, _, _, rfl, rfl, rfl⟩ 2 (jb_giV mw_1498 mw_1500 ms_45 mw_10 mw_1501) ⟨rfl, rfl⟩ (by decide +kernel) ⟨⟨(Nat.le_of_ble_eq_true rfl), (Nat.le_of_ble_eq_true rfl)⟩, (Nat.le_of_ble_eq_true rfl), (Nat.le_of_ble_eq_true rfl)⟩ ⟨rfl, rfl⟩ (Nat.le_of_ble_eq_true rfl) dX5_hoursAsked_40 (fun H locs hP hD hS => ?_)
        refine lv_if_ge (tgt := 50) hx hb dX5_hoursAsked_43 (by decide) (fun c8 => ?_) (fun c8 => ?_)
        · have hF := ob_pos c8 hF
          refine lv_iconst (v := 0) hx hb dX5_hoursAsked_50 (by decide) ?_
          obtain ⟨z9, hz9, hF⟩ := ob_bind hF
          refine cl_i (csR := []) (csF := [wM g a z9.2]) (rest := []) hx hb hml hown hts hK hE hA hl hP hD hS (c_X5_fails g l a z5.2 0 z9 hz9) [0] [] [0] ⟨rfl, rfl, rfl, rfl, rfl, rfl, rfl⟩ ⟨0, 9, _, _, rfl, rfl, rfl⟩ 1 (jb_giV mw_1392 mw_1394 ms_32 mw_10 mw_1395) ⟨rfl, rfl⟩ (by decide +kernel) ⟨⟨(Nat.le_of_ble_eq_true rfl), (Nat.le_of_ble_eq_true rfl)⟩, (Nat.le_of_ble_eq_true rfl), (Nat.le_of_ble_eq_true rfl)⟩ ⟨rfl, rfl⟩ (Nat.le_of_ble_eq_true rfl) dX5_hoursAsked_51 (fun H locs hP hD hS => ?_)
          refine lv_if_eq (tgt := 61) hx hb dX5_hoursAsked_54 (by decide) (fun c10 => ?_) (fun c10 => ?_)
          · have hF := ob_pos c10 hF
            refine lv_aload_n hx hb dX5_hoursAsked_61 rfl (lv_at hl 0 rfl) ?_
            refine lv_iload_n hx hb dX5_hoursAsked_62 rfl (lv_at hl 1 rfl) ?_
            refine lv_iload_n hx hb dX5_hoursAsked_63 rfl (lv_at hl 2 rfl) ?_
            obtain ⟨z11, hz11, hF⟩ := ob_bind hF
            refine cl_i (csR := []) (csF := [wM g a z9.2]) (rest := []) hx hb hml hown hts hK hE hA hl hP hD hS (c_X5_hoursTo g l a z9.2 p0 p1 z11 hz11) [0] [] [0] ⟨rfl, rfl, rfl, rfl, rfl, rfl, rfl⟩ ⟨0, 9, _, _, rfl, rfl, rfl⟩ 2 (jb_giV mw_1498 mw_1500 ms_45 mw_10 mw_1501) ⟨rfl, rfl⟩ (by decide +kernel) ⟨⟨(Nat.le_of_ble_eq_true rfl), (Nat.le_of_ble_eq_true rfl)⟩, (Nat.le_of_ble_eq_true rfl), (Nat.le_of_ble_eq_true rfl)⟩ ⟨rfl, rfl⟩ (Nat.le_of_ble_eq_true rfl) dX5_hoursAsked_64 (fun H locs hP hD hS => ?_)
            cases hF
            rw [hQ]
            exact jb_iret hx hb hr hlocks hP hD hS dX5_hoursAsked_67 rfl (Nat.le_of_ble_eq_true rfl) (Nat.le_of_ble_eq_true rfl)
          · have hF := ob_neg c10 hF
            refine lv_iconst (v := 0) hx hb dX5_hoursAsked_57 (by decide) ?_
            refine lv_goto (tgt := 67) hx hb dX5_hoursAsked_58 (by decide) ?_
            cases hF
            rw [hQ]
            exact jb_iret hx hb hr hlocks hP hD hS dX5_hoursAsked_67 rfl (Nat.le_of_ble_eq_true rfl) (Nat.le_of_ble_eq_true rfl)
        · have hF := ob_neg c8 hF
          refine lv_iconst (v := 3) hx hb dX5_hoursAsked_46 (by decide) ?_
          refine lv_goto (tgt := 51) hx hb dX5_hoursAsked_47 (by decide) ?_
          obtain ⟨z12, hz12, hF⟩ := ob_bind hF
          refine cl_i (csR := []) (csF := [wM g a z12.2]) (rest := []) hx hb hml hown hts hK hE hA hl hP hD hS (c_X5_fails g l a z5.2 3 z12 hz12) [0] [] [0] ⟨rfl, rfl, rfl, rfl, rfl, rfl, rfl⟩ ⟨0, 9, _, _, rfl, rfl, rfl⟩ 1 (jb_giV mw_1392 mw_1394 ms_32 mw_10 mw_1395) ⟨rfl, rfl⟩ (by decide +kernel) ⟨⟨(Nat.le_of_ble_eq_true rfl), (Nat.le_of_ble_eq_true rfl)⟩, (Nat.le_of_ble_eq_true rfl), (Nat.le_of_ble_eq_true rfl)⟩ ⟨rfl, rfl⟩ (Nat.le_of_ble_eq_true rfl) dX5_hoursAsked_51 (fun H locs hP hD hS => ?_)
          refine lv_if_eq (tgt := 61) hx hb dX5_hoursAsked_54 (by decide) (fun c13 => ?_) (fun c13 => ?_)
          · have hF := ob_pos c13 hF
            refine lv_aload_n hx hb dX5_hoursAsked_61 rfl (lv_at hl 0 rfl) ?_
            refine lv_iload_n hx hb dX5_hoursAsked_62 rfl (lv_at hl 1 rfl) ?_
            refine lv_iload_n hx hb dX5_hoursAsked_63 rfl (lv_at hl 2 rfl) ?_
            obtain ⟨z14, hz14, hF⟩ := ob_bind hF
            refine cl_i (csR := []) (csF := [wM g a z12.2]) (rest := []) hx hb hml hown hts hK hE hA hl hP hD hS (c_X5_hoursTo g l a z12.2 p0 p1 z14 hz14) [0] [] [0] ⟨rfl, rfl, rfl, rfl, rfl, rfl, rfl⟩ ⟨0, 9, _, _, rfl, rfl, rfl⟩ 2 (jb_giV mw_1498 mw_1500 ms_45 mw_10 mw_1501) ⟨rfl, rfl⟩ (by decide +kernel) ⟨⟨(Nat.le_of_ble_eq_true rfl), (Nat.le_of_ble_eq_true rfl)⟩, (Nat.le_of_ble_eq_true rfl), (Nat.le_of_ble_eq_true rfl)⟩ ⟨rfl, rfl⟩ (Nat.le_of_ble_eq_true rfl) dX5_hoursAsked_64 (fun H locs hP hD hS => ?_)
            cases hF
            rw [hQ]
            exact jb_iret hx hb hr hlocks hP hD hS dX5_hoursAsked_67 rfl (Nat.le_of_ble_eq_true rfl) (Nat.le_of_ble_eq_true rfl)
          · have hF := ob_neg c13 hF
            refine lv_iconst (v := 0) hx hb dX5_hoursAsked_57 (by decide) ?_
            refine lv_goto (tgt := 67) hx hb dX5_hoursAsked_58 (by decide) ?_
            cases hF
            rw [hQ]
            exact jb_iret hx hb hr hlocks hP hD hS dX5_hoursAsked_67 rfl (Nat.le_of_ble_eq_true rfl) (Nat.le_of_ble_eq_true rfl)
      · have hF := ob_neg c6 hF
        refine lv_iconst (v := 0) hx hb dX5_hoursAsked_34 (by decide) ?_
        cases hF
        rw [hQ]
        exact jb_iret hx hb hr hlocks hP hD hS dX5_hoursAsked_35 rfl (Nat.le_of_ble_eq_true rfl) (Nat.le_of_ble_eq_true rfl)
    · have hF := ob_neg c4 hF
      refine lv_iconst (v := 0) hx hb dX5_hoursAsked_23 (by decide) ?_
      refine lv_goto (tgt := 28) hx hb dX5_hoursAsked_24 (by decide) ?_
      obtain ⟨z15, hz15, hF⟩ := ob_bind hF
      refine cl_i (csR := []) (csF := [wM g a z15.2]) (rest := []) hx hb hml hown hts hK hE hA hl hP hD hS (c_X5_fails g l a mo 0 z15 hz15) [0] [] [0] ⟨rfl, rfl, rfl, rfl, rfl, rfl, rfl⟩ ⟨0, 9, _, _, rfl, rfl, rfl⟩ 1 (jb_giV mw_1392 mw_1394 ms_32 mw_10 mw_1395) ⟨rfl, rfl⟩ (by decide +kernel) ⟨⟨(Nat.le_of_ble_eq_true rfl), (Nat.le_of_ble_eq_true rfl)⟩, (Nat.le_of_ble_eq_true rfl), (Nat.le_of_ble_eq_true rfl)⟩ ⟨rfl, rfl⟩ (Nat.le_of_ble_eq_true rfl) dX5_hoursAsked_28 (fun H locs hP hD hS => ?_)
      refine lv_if_eq (tgt := 36) hx hb dX5_hoursAsked_31 (by decide) (fun c16 => ?_) (fun c16 => ?_)
      · have hF := ob_pos c16 hF
        refine lv_aload_n hx hb dX5_hoursAsked_36 rfl (lv_at hl 0 rfl) ?_
        refine lv_aload_n hx hb dX5_hoursAsked_37 rfl (lv_at hl 0 rfl) ?_
        refine lv_iload_n hx hb dX5_hoursAsked_38 rfl (lv_at hl 1 rfl) ?_
        refine lv_iload_n hx hb dX5_hoursAsked_39 rfl (lv_at hl 2 rfl) ?_
        obtain ⟨z17, hz17, hF⟩ := ob_bind hF
        refine cl_i (csR := []) (csF := [wM g a z15.2]) (rest := [.ref (a 0)]) hx hb hml hown hts hK hE hA hl hP hD hS (c_X5_hoursTo g l a z15.2 p0 p1 z17 hz17) [0] [] [0] ⟨rfl, rfl, rfl, rfl, rfl, rfl, rfl⟩ ⟨0, 9, _, _, rfl, rfl, rfl⟩ 2 (jb_giV mw_1498 mw_1500 ms_45 mw_10 mw_1501) ⟨rfl, rfl⟩ (by decide +kernel) ⟨⟨(Nat.le_of_ble_eq_true rfl), (Nat.le_of_ble_eq_true rfl)⟩, (Nat.le_of_ble_eq_true rfl), (Nat.le_of_ble_eq_true rfl)⟩ ⟨rfl, rfl⟩ (Nat.le_of_ble_eq_true rfl) dX5_hoursAsked_40 (fun H locs hP hD hS => ?_)
        refine lv_if_ge (tgt := 50) hx hb dX5_hoursAsked_43 (by decide) (fun c18 => ?_) (fun c18 => ?_)
        · have hF := ob_pos c18 hF
          refine lv_iconst (v := 0) hx hb dX5_hoursAsked_50 (by decide) ?_
          obtain ⟨z19, hz19, hF⟩ := ob_bind hF
          refine cl_i (csR := []) (csF := [wM g a z19.2]) (rest := []) hx hb hml hown hts hK hE hA hl hP hD hS (c_X5_fails g l a z15.2 0 z19 hz19) [0] [] [0] ⟨rfl, rfl, rfl, rfl, rfl, rfl, rfl⟩ ⟨0, 9, _, _, rfl, rfl, rfl⟩ 1 (jb_giV mw_1392 mw_1394 ms_32 mw_10 mw_1395) ⟨rfl, rfl⟩ (by decide +kernel) ⟨⟨(Nat.le_of_ble_eq_true rfl), (Nat.le_of_ble_eq_true rfl)⟩, (Nat.le_of_ble_eq_true rfl), (Nat.le_of_ble_eq_true rfl)⟩ ⟨rfl, rfl⟩ (Nat.le_of_ble_eq_true rfl) dX5_hoursAsked_51 (fun H locs hP hD hS => ?_)
          refine lv_if_eq (tgt := 61) hx hb dX5_hoursAsked_54 (by decide) (fun c20 => ?_) (fun c20 => ?_)
          · have hF := ob_pos c20 hF
            refine lv_aload_n hx hb dX5_hoursAsked_61 rfl (lv_at hl 0 rfl) ?_
            refine lv_iload_n hx hb dX5_hoursAsked_62 rfl (lv_at hl 1 rfl) ?_
            refine lv_iload_n hx hb dX5_hoursAsked_63 rfl (lv_at hl 2 rfl) ?_
            obtain ⟨z21, hz21, hF⟩ := ob_bind hF
            refine cl_i (csR := []) (csF := [wM g a z19.2]) (rest := []) hx hb hml hown hts hK hE hA hl hP hD hS (c_X5_hoursTo g l a z19.2 p0 p1 z21 hz21) [0] [] [0] ⟨rfl, rfl, rfl, rfl, rfl, rfl, rfl⟩ ⟨0, 9, _, _, rfl, rfl, rfl⟩ 2 (jb_giV mw_1498 mw_1500 ms_45 mw_10 mw_1501) ⟨rfl, rfl⟩ (by decide +kernel) ⟨⟨(Nat.le_of_ble_eq_true rfl), (Nat.le_of_ble_eq_true rfl)⟩, (Nat.le_of_ble_eq_true rfl), (Nat.le_of_ble_eq_true rfl)⟩ ⟨rfl, rfl⟩ (Nat.le_of_ble_eq_true rfl) dX5_hoursAsked_64 (fun H locs hP hD hS => ?_)
            cases hF
            rw [hQ]
            exact jb_iret hx hb hr hlocks hP hD hS dX5_hoursAsked_67 rfl (Nat.le_of_ble_eq_true rfl) (Nat.le_of_ble_eq_true rfl)
          · have hF := ob_neg c20 hF
            refine lv_iconst (v := 0) hx hb dX5_hoursAsked_57 (by decide) ?_
            refine lv_goto (tgt := 67) hx hb dX5_hoursAsked_58 (by decide) ?_
            cases hF
            rw [hQ]
            exact jb_iret hx hb hr hlocks hP hD hS dX5_hoursAsked_67 rfl (Nat.le_of_ble_eq_true rfl) (Nat.le_of_ble_eq_true rfl)
        · have hF := ob_neg c18 hF
          refine lv_iconst (v := 3) hx hb dX5_hoursAsked_46 (by decide) ?_
          refine lv_goto (tgt := 51) hx hb dX5_hoursAsked_47 (by decide) ?_
          obtain ⟨z22, hz22, hF⟩ := ob_bind hF
          refine cl_i (csR := []) (csF := [wM g a z22.2]) (rest := []) hx hb hml hown hts hK hE hA hl hP hD hS (c_X5_fails g l a z15.2 3 z22 hz22) [0] [] [0] ⟨rfl, rfl, rfl, rfl, rfl, rfl, rfl⟩ ⟨0, 9, _, _, rfl, rfl, rfl⟩ 1 (jb_giV mw_1392 mw_1394 ms_32 mw_10 mw_1395) ⟨rfl, rfl⟩ (by decide +kernel) ⟨⟨(Nat.le_of_ble_eq_true rfl), (Nat.le_of_ble_eq_true rfl)⟩, (Nat.le_of_ble_eq_true rfl), (Nat.le_of_ble_eq_true rfl)⟩ ⟨rfl, rfl⟩ (Nat.le_of_ble_eq_true rfl) dX5_hoursAsked_51 (fun H locs hP hD hS => ?_)
          refine lv_if_eq (tgt := 61) hx hb dX5_hoursAsked_54 (by decide) (fun c23 => ?_) (fun c23 => ?_)
          · have hF := ob_pos c23 hF
            refine lv_aload_n hx hb dX5_hoursAsked_61 rfl (lv_at hl 0 rfl) ?_
            refine lv_iload_n hx hb dX5_hoursAsked_62 rfl (lv_at hl 1 rfl) ?_
            refine lv_iload_n hx hb dX5_hoursAsked_63 rfl (lv_at hl 2 rfl) ?_
            obtain ⟨z24, hz24, hF⟩ := ob_bind hF
            refine cl_i (csR := []) (csF := [wM g a z22.2]) (rest := []) hx hb hml hown hts hK hE hA hl hP hD hS (c_X5_hoursTo g l a z22.2 p0 p1 z24 hz24) [0] [] [0] ⟨rfl, rfl, rfl, rfl, rfl, rfl, rfl⟩ ⟨0, 9, _, _, rfl, rfl, rfl⟩ 2 (jb_giV mw_1498 mw_1500 ms_45 mw_10 mw_1501) ⟨rfl, rfl⟩ (by decide +kernel) ⟨⟨(Nat.le_of_ble_eq_true rfl), (Nat.le_of_ble_eq_true rfl)⟩, (Nat.le_of_ble_eq_true rfl), (Nat.le_of_ble_eq_true rfl)⟩ ⟨rfl, rfl⟩ (Nat.le_of_ble_eq_true rfl) dX5_hoursAsked_64 (fun H locs hP hD hS => ?_)
            cases hF
            rw [hQ]
            exact jb_iret hx hb hr hlocks hP hD hS dX5_hoursAsked_67 rfl (Nat.le_of_ble_eq_true rfl) (Nat.le_of_ble_eq_true rfl)
          · have hF := ob_neg c23 hF
            refine lv_iconst (v := 0) hx hb dX5_hoursAsked_57 (by decide) ?_
            refine lv_goto (tgt := 67) hx hb dX5_hoursAsked_58 (by decide) ?_
            cases hF
            rw [hQ]
            exact jb_iret hx hb hr hlocks hP hD hS dX5_hoursAsked_67 rfl (Nat.le_of_ble_eq_true rfl) (Nat.le_of_ble_eq_true rfl)
      · have hF := ob_neg c16 hF
        refine lv_iconst (v := 0) hx hb dX5_hoursAsked_34 (by decide) ?_
        cases hF
        rw [hQ]
        exact jb_iret hx hb hr hlocks hP hD hS dX5_hoursAsked_35 rfl (Nat.le_of_ble_eq_true rfl) (Nat.le_of_ble_eq_true rfl)
  · have hF := ob_nneg c2 hF
    refine lv_iconst (v := 1) hx hb dX5_hoursAsked_9 (by decide) ?_
    refine lv_goto (tgt := 28) hx hb dX5_hoursAsked_10 (by decide) ?_
    obtain ⟨z25, hz25, hF⟩ := ob_bind hF
    refine cl_i (csR := []) (csF := [wM g a z25.2]) (rest := []) hx hb hml hown hts hK hE hA hl hP hD hS (c_X5_fails g l a mo 1 z25 hz25) [0] [] [0] ⟨rfl, rfl, rfl, rfl, rfl, rfl, rfl⟩ ⟨0, 9, _, _, rfl, rfl, rfl⟩ 1 (jb_giV mw_1392 mw_1394 ms_32 mw_10 mw_1395) ⟨rfl, rfl⟩ (by decide +kernel) ⟨⟨(Nat.le_of_ble_eq_true rfl), (Nat.le_of_ble_eq_true rfl)⟩, (Nat.le_of_ble_eq_true rfl), (Nat.le_of_ble_eq_true rfl)⟩ ⟨rfl, rfl⟩ (Nat.le_of_ble_eq_true rfl) dX5_hoursAsked_28 (fun H locs hP hD hS => ?_)
    refine lv_if_eq (tgt := 36) hx hb dX5_hoursAsked_31 (by decide) (fun c26 => ?_) (fun c26 => ?_)
    · have hF := ob_pos c26 hF
      refine lv_aload_n hx hb dX5_hoursAsked_36 rfl (lv_at hl 0 rfl) ?_
      refine lv_aload_n hx hb dX5_hoursAsked_37 rfl (lv_at hl 0 rfl) ?_
      refine lv_iload_n hx hb dX5_hoursAsked_38 rfl (lv_at hl 1 rfl) ?_
      refine lv_iload_n hx hb dX5_hoursAsked_39 rfl (lv_at hl 2 rfl) ?_
      obtain ⟨z27, hz27, hF⟩ := ob_bind hF
      refine cl_i (csR := []) (csF := [wM g a z25.2]) (rest := [.ref (a 0)]) hx hb hml hown hts hK hE hA hl hP hD hS (c_X5_hoursTo g l a z25.2 p0 p1 z27 hz27) [0] [] [0] ⟨rfl, rfl, rfl, rfl, rfl, rfl, rfl⟩ ⟨0, 9, _, _, rfl, rfl, rfl⟩ 2 (jb_giV mw_1498 mw_1500 ms_45 mw_10 mw_1501) ⟨rfl, rfl⟩ (by decide +kernel) ⟨⟨(Nat.le_of_ble_eq_true rfl), (Nat.le_of_ble_eq_true rfl)⟩, (Nat.le_of_ble_eq_true rfl), (Nat.le_of_ble_eq_true rfl)⟩ ⟨rfl, rfl⟩ (Nat.le_of_ble_eq_true rfl) dX5_hoursAsked_40 (fun H locs hP hD hS => ?_)
      refine lv_if_ge (tgt := 50) hx hb dX5_hoursAsked_43 (by decide) (fun c28 => ?_) (fun c28 => ?_)
      · have hF := ob_pos c28 hF
        refine lv_iconst (v := 0) hx hb dX5_hoursAsked_50 (by decide) ?_
        obtain ⟨z29, hz29, hF⟩ := ob_bind hF
        refine cl_i (csR := []) (csF := [wM g a z29.2]) (rest := []) hx hb hml hown hts hK hE hA hl hP hD hS (c_X5_fails g l a z25.2 0 z29 hz29) [0] [] [0] ⟨rfl, rfl, rfl, rfl, rfl, rfl, rfl⟩ ⟨0, 9, _, _, rfl, rfl, rfl⟩ 1 (jb_giV mw_1392 mw_1394 ms_32 mw_10 mw_1395) ⟨rfl, rfl⟩ (by decide +kernel) ⟨⟨(Nat.le_of_ble_eq_true rfl), (Nat.le_of_ble_eq_true rfl)⟩, (Nat.le_of_ble_eq_true rfl), (Nat.le_of_ble_eq_true rfl)⟩ ⟨rfl, rfl⟩ (Nat.le_of_ble_eq_true rfl) dX5_hoursAsked_51 (fun H locs hP hD hS => ?_)
        refine lv_if_eq (tgt := 61) hx hb dX5_hoursAsked_54 (by decide) (fun c30 => ?_) (fun c30 => ?_)
        · have hF := ob_pos c30 hF
          refine lv_aload_n hx hb dX5_hoursAsked_61 rfl (lv_at hl 0 rfl) ?_
          refine lv_iload_n hx hb dX5_hoursAsked_62 rfl (lv_at hl 1 rfl) ?_
          refine lv_iload_n hx hb dX5_hoursAsked_63 rfl (lv_at hl 2 rfl) ?_
          obtain ⟨z31, hz31, hF⟩ := ob_bind hF
          refine cl_i (csR := []) (csF := [wM g a z29.2]) (rest := []) hx hb hml hown hts hK hE hA hl hP hD hS (c_X5_hoursTo g l a z29.2 p0 p1 z31 hz31) [0] [] [0] ⟨rfl, rfl, rfl, rfl, rfl, rfl, rfl⟩ ⟨0, 9, _, _, rfl, rfl, rfl⟩ 2 (jb_giV mw_1498 mw_1500 ms_45 mw_10 mw_1501) ⟨rfl, rfl⟩ (by decide +kernel) ⟨⟨(Nat.le_of_ble_eq_true rfl), (Nat.le_of_ble_eq_true rfl)⟩, (Nat.le_of_ble_eq_true rfl), (Nat.le_of_ble_eq_true rfl)⟩ ⟨rfl, rfl⟩ (Nat.le_of_ble_eq_true rfl) dX5_hoursAsked_64 (fun H locs hP hD hS => ?_)
          cases hF
          rw [hQ]
          exact jb_iret hx hb hr hlocks hP hD hS dX5_hoursAsked_67 rfl (Nat.le_of_ble_eq_true rfl) (Nat.le_of_ble_eq_true rfl)
        · have hF := ob_neg c30 hF
          refine lv_iconst (v := 0) hx hb dX5_hoursAsked_57 (by decide) ?_
          refine lv_goto (tgt := 67) hx hb dX5_hoursAsked_58 (by decide) ?_
          cases hF
          rw [hQ]
          exact jb_iret hx hb hr hlocks hP hD hS dX5_hoursAsked_67 rfl (Nat.le_of_ble_eq_true rfl) (Nat.le_of_ble_eq_true rfl)
      · have hF := ob_neg c28 hF
        refine lv_iconst (v := 3) hx hb dX5_hoursAsked_46 (by decide) ?_
        refine lv_goto (tgt := 51) hx hb dX5_hoursAsked_47 (by decide) ?_
        obtain ⟨z32, hz32, hF⟩ := ob_bind hF
        refine cl_i (csR := []) (csF := [wM g a z32.2]) (rest := []) hx hb hml hown hts hK hE hA hl hP hD hS (c_X5_fails g l a z25.2 3 z32 hz32) [0] [] [0] ⟨rfl, rfl, rfl, rfl, rfl, rfl, rfl⟩ ⟨0, 9, _, _, rfl, rfl, rfl⟩ 1 (jb_giV mw_1392 mw_1394 ms_32 mw_10 mw_1395) ⟨rfl, rfl⟩ (by decide +kernel) ⟨⟨(Nat.le_of_ble_eq_true rfl), (Nat.le_of_ble_eq_true rfl)⟩, (Nat.le_of_ble_eq_true rfl), (Nat.le_of_ble_eq_true rfl)⟩ ⟨rfl, rfl⟩ (Nat.le_of_ble_eq_true rfl) dX5_hoursAsked_51 (fun H locs hP hD hS => ?_)
        refine lv_if_eq (tgt := 61) hx hb dX5_hoursAsked_54 (by decide) (fun c33 => ?_) (fun c33 => ?_)
        · have hF := ob_pos c33 hF
          refine lv_aload_n hx hb dX5_hoursAsked_61 rfl (lv_at hl 0 rfl) ?_
          refine lv_iload_n hx hb dX5_hoursAsked_62 rfl (lv_at hl 1 rfl) ?_
          refine lv_iload_n hx hb dX5_hoursAsked_63 rfl (lv_at hl 2 rfl) ?_
          obtain ⟨z34, hz34, hF⟩ := ob_bind hF
          refine cl_i (csR := []) (csF := [wM g a z32.2]) (rest := []) hx hb hml hown hts hK hE hA hl hP hD hS (c_X5_hoursTo g l a z32.2 p0 p1 z34 hz34) [0] [] [0] ⟨rfl, rfl, rfl, rfl, rfl, rfl, rfl⟩ ⟨0, 9, _, _, rfl, rfl, rfl⟩ 2 (jb_giV mw_1498 mw_1500 ms_45 mw_10 mw_1501) ⟨rfl, rfl⟩ (by decide +kernel) ⟨⟨(Nat.le_of_ble_eq_true rfl), (Nat.le_of_ble_eq_true rfl)⟩, (Nat.le_of_ble_eq_true rfl), (Nat.le_of_ble_eq_true rfl)⟩ ⟨rfl, rfl⟩ (Nat.le_of_ble_eq_true rfl) dX5_hoursAsked_64 (fun H locs hP hD hS => ?_)
          cases hF
          rw [hQ]
          exact jb_iret hx hb hr hlocks hP hD hS dX5_hoursAsked_67 rfl (Nat.le_of_ble_eq_true rfl) (Nat.le_of_ble_eq_true rfl)
        · have hF := ob_neg c33 hF
          refine lv_iconst (v := 0) hx hb dX5_hoursAsked_57 (by decide) ?_
          refine lv_goto (tgt := 67) hx hb dX5_hoursAsked_58 (by decide) ?_
          cases hF
          rw [hQ]
          exact jb_iret hx hb hr hlocks hP hD hS dX5_hoursAsked_67 rfl (Nat.le_of_ble_eq_true rfl) (Nat.le_of_ble_eq_true rfl)
    · have hF := ob_neg c26 hF
      refine lv_iconst (v := 0) hx hb dX5_hoursAsked_34 (by decide) ?_
      cases hF
      rw [hQ]
      exact jb_iret hx hb hr hlocks hP hD hS dX5_hoursAsked_35 rfl (Nat.le_of_ble_eq_true rfl) (Nat.le_of_ble_eq_true rfl)
def F_X5_hoursUntilBears (mo : Mv) (p0 : Int32) (p1 : Int32) : Option (Int32 × Mv) := (F_X5_hoursAsked mo p0 p1).bind (fun z1 => some (z1.1, z1.2))
set_option maxHeartbeats 4000000 in
set_option maxRecDepth 100000 in
theorem c_X5_hoursUntilBears (g : GG) (l : Launch) (a : Nat → Nat) (mo : Mv) (p0 : Int32) (p1 : Int32) (z : Int32 × Mv) (hF : F_X5_hoursUntilBears mo p0 p1 = some z) : MI g l yX5_hoursUntilBears cX5_hoursUntilBears 3 (some .int) ({ frames := 4, cells := 0, slots := 0, locals := 90 } : Room) [.ref (a 0), .int p0, .int p1] [wM g a mo] 0 0 z.1 [wM g a z.2] := by
  refine MI.bg (by decide) (Nat.le_of_ble_eq_true rfl) ?_
  intro p e s m below meth c A Q hQ hx hb hr hml hown hts hlocks hmn hK hE hA hP hD hS ls hl
  rw [F_X5_hoursUntilBears] at hF
  have hl : lv_has ls 3 [(0, .ref (a 0)), (1, .int p0), (2, .int p1)] := hl
  refine lv_aload_n hx hb dX5_hoursUntilBears_0 rfl (lv_at hl 0 rfl) ?_
  refine lv_iload_n hx hb dX5_hoursUntilBears_1 rfl (lv_at hl 1 rfl) ?_
  refine lv_iload_n hx hb dX5_hoursUntilBears_2 rfl (lv_at hl 2 rfl) ?_
  obtain ⟨z1, hz1, hF⟩ := ob_bind hF
  refine cl_i (csR := []) (csF := [wM g a z1.2]) (rest := []) hx hb hml hown hts hK hE hA hl hP hD hS (c_X5_hoursAsked g l a mo p0 p1 z1 hz1) [0] [] [0] ⟨rfl, rfl, rfl, rfl, rfl, rfl, rfl⟩ ⟨0, 9, _, _, rfl, rfl, rfl⟩ 2 (jb_giV mw_1494 mw_1496 ms_44 mw_10 mw_1497) ⟨rfl, rfl⟩ (by decide +kernel) ⟨⟨(Nat.le_of_ble_eq_true rfl), (Nat.le_of_ble_eq_true rfl)⟩, (Nat.le_of_ble_eq_true rfl), (Nat.le_of_ble_eq_true rfl)⟩ ⟨rfl, rfl⟩ (Nat.le_of_ble_eq_true rfl) dX5_hoursUntilBears_3 (fun H locs hP hD hS => ?_)
  cases hF
  rw [hQ]
  exact jb_iret hx hb hr hlocks hP hD hS dX5_hoursUntilBears_6 rfl (Nat.le_of_ble_eq_true rfl) (Nat.le_of_ble_eq_true rfl)
def F_X5_hoursUntilBearsByDivision (mo : Mv) (p0 : Int32) (p1 : Int32) : Option (Int32 × Mv) := (F_X5_hoursAsked mo p0 p1).bind (fun z1 => some (z1.1, z1.2))
set_option maxHeartbeats 4000000 in
set_option maxRecDepth 100000 in
theorem c_X5_hoursUntilBearsByDivision (g : GG) (l : Launch) (a : Nat → Nat) (mo : Mv) (p0 : Int32) (p1 : Int32) (z : Int32 × Mv) (hF : F_X5_hoursUntilBearsByDivision mo p0 p1 = some z) : MI g l yX5_hoursUntilBearsByDivision cX5_hoursUntilBearsByDivision 3 (some .int) ({ frames := 4, cells := 0, slots := 0, locals := 90 } : Room) [.ref (a 0), .int p0, .int p1] [wM g a mo] 0 0 z.1 [wM g a z.2] := by
  refine MI.bg (by decide) (Nat.le_of_ble_eq_true rfl) ?_
  intro p e s m below meth c A Q hQ hx hb hr hml hown hts hlocks hmn hK hE hA hP hD hS ls hl
  rw [F_X5_hoursUntilBearsByDivision] at hF
  have hl : lv_has ls 3 [(0, .ref (a 0)), (1, .int p0), (2, .int p1)] := hl
  refine lv_aload_n hx hb dX5_hoursUntilBearsByDivision_0 rfl (lv_at hl 0 rfl) ?_
  refine lv_iload_n hx hb dX5_hoursUntilBearsByDivision_1 rfl (lv_at hl 1 rfl) ?_
  refine lv_iload_n hx hb dX5_hoursUntilBearsByDivision_2 rfl (lv_at hl 2 rfl) ?_
  obtain ⟨z1, hz1, hF⟩ := ob_bind hF
  refine cl_i (csR := []) (csF := [wM g a z1.2]) (rest := []) hx hb hml hown hts hK hE hA hl hP hD hS (c_X5_hoursAsked g l a mo p0 p1 z1 hz1) [0] [] [0] ⟨rfl, rfl, rfl, rfl, rfl, rfl, rfl⟩ ⟨0, 9, _, _, rfl, rfl, rfl⟩ 2 (jb_giV mw_1494 mw_1496 ms_44 mw_10 mw_1497) ⟨rfl, rfl⟩ (by decide +kernel) ⟨⟨(Nat.le_of_ble_eq_true rfl), (Nat.le_of_ble_eq_true rfl)⟩, (Nat.le_of_ble_eq_true rfl), (Nat.le_of_ble_eq_true rfl)⟩ ⟨rfl, rfl⟩ (Nat.le_of_ble_eq_true rfl) dX5_hoursUntilBearsByDivision_3 (fun H locs hP hD hS => ?_)
  cases hF
  rw [hQ]
  exact jb_iret hx hb hr hlocks hP hD hS dX5_hoursUntilBearsByDivision_6 rfl (Nat.le_of_ble_eq_true rfl) (Nat.le_of_ble_eq_true rfl)
def F_X5_isAhead (mo : Mv) (p0 : Int32) (p1 : Int32) : Option (Bool) := (F_X5_strong mo p0).bind (fun z1 => (F_X5_strong mo p1).bind (fun z2 => if z1 = z2 then (F_X5_of mo p0 3).bind (fun z3 => (F_X5_of mo p1 3).bind (fun z4 => if z4 < z3 then some true else (F_X5_of mo p0 3).bind (fun z5 => (F_X5_of mo p1 3).bind (fun z6 => if ¬ z5 = z6 then some false else if p1 ≤ p0 then some false else some true)))) else (F_X5_strong mo p0).bind (fun z7 => (F_X5_strong mo p1).bind (fun z8 => if z8 ≤ z7 then some false else some true))))
set_option maxHeartbeats 4000000 in
set_option maxRecDepth 100000 in
theorem c_X5_isAhead (g : GG) (l : Launch) (a : Nat → Nat) (mo : Mv) (p0 : Int32) (p1 : Int32) (z : Bool) (hF : F_X5_isAhead mo p0 p1 = some z) : MI g l yX5_isAhead cX5_isAhead 3 (some .boolean) ({ frames := 3, cells := 0, slots := 0, locals := 65 } : Room) [.ref (a 0), .int p0, .int p1] [wM g a mo] 0 0 (bi z) [wM g a mo] := by
  refine MI.bg (by decide) (Nat.le_of_ble_eq_true rfl) ?_
  intro p e s m below meth c A Q hQ hx hb hr hml hown hts hlocks hmn hK hE hA hP hD hS ls hl
  rw [F_X5_isAhead] at hF
  have hl : lv_has ls 3 [(0, .ref (a 0)), (1, .int p0), (2, .int p1)] := hl
  refine lv_aload_n hx hb dX5_isAhead_0 rfl (lv_at hl 0 rfl) ?_
  refine lv_iload_n hx hb dX5_isAhead_1 rfl (lv_at hl 1 rfl) ?_
  obtain ⟨z1, hz1, hF⟩ := ob_bind hF
  refine cl_i (csR := []) (csF := [wM g a mo]) (rest := []) hx hb hml hown hts hK hE hA hl hP hD hS (c_X5_strong g l a mo p0 z1 hz1) [0] [] [0] ⟨rfl, rfl, rfl, rfl, rfl, rfl, rfl⟩ ⟨0, 9, _, _, rfl, rfl, rfl⟩ 1 (jb_giV mw_1459 mw_1461 ms_39 mw_10 mw_1462) ⟨rfl, rfl⟩ (by decide +kernel) ⟨⟨(Nat.le_of_ble_eq_true rfl), (Nat.le_of_ble_eq_true rfl)⟩, (Nat.le_of_ble_eq_true rfl), (Nat.le_of_ble_eq_true rfl)⟩ ⟨rfl, rfl⟩ (Nat.le_of_ble_eq_true rfl) dX5_isAhead_2 (fun H locs hP hD hS => ?_)
  refine lv_aload_n hx hb dX5_isAhead_5 rfl (lv_at hl 0 rfl) ?_
  refine lv_iload_n hx hb dX5_isAhead_6 rfl (lv_at hl 2 rfl) ?_
  obtain ⟨z2, hz2, hF⟩ := ob_bind hF
  refine cl_i (csR := []) (csF := [wM g a mo]) (rest := [.int z1]) hx hb hml hown hts hK hE hA hl hP hD hS (c_X5_strong g l a mo p1 z2 hz2) [0] [] [0] ⟨rfl, rfl, rfl, rfl, rfl, rfl, rfl⟩ ⟨0, 9, _, _, rfl, rfl, rfl⟩ 1 (jb_giV mw_1459 mw_1461 ms_39 mw_10 mw_1462) ⟨rfl, rfl⟩ (by decide +kernel) ⟨⟨(Nat.le_of_ble_eq_true rfl), (Nat.le_of_ble_eq_true rfl)⟩, (Nat.le_of_ble_eq_true rfl), (Nat.le_of_ble_eq_true rfl)⟩ ⟨rfl, rfl⟩ (Nat.le_of_ble_eq_true rfl) dX5_isAhead_7 (fun H locs hP hD hS => ?_)
  refine lv_icmp_eq (tgt := 32) hx hb dX5_isAhead_10 (by decide) (fun c3 => ?_) (fun c3 => ?_)
  · have hF := ob_pos c3 hF
    refine lv_aload_n hx hb dX5_isAhead_32 rfl (lv_at hl 0 rfl) ?_
    refine lv_iload_n hx hb dX5_isAhead_33 rfl (lv_at hl 1 rfl) ?_
    refine lv_iconst (v := 3) hx hb dX5_isAhead_34 (by decide) ?_
    obtain ⟨z4, hz4, hF⟩ := ob_bind hF
    refine cl_i (csR := []) (csF := [wM g a mo]) (rest := []) hx hb hml hown hts hK hE hA hl hP hD hS (c_X5_of g l a mo p0 3 z4 hz4) [0] [] [0] ⟨rfl, rfl, rfl, rfl, rfl, rfl, rfl⟩ ⟨0, 9, _, _, rfl, rfl, rfl⟩ 2 (jb_giV mw_1415 mw_1417 ms_36 mw_10 mw_1418) ⟨rfl, rfl⟩ (by decide +kernel) ⟨⟨(Nat.le_of_ble_eq_true rfl), (Nat.le_of_ble_eq_true rfl)⟩, (Nat.le_of_ble_eq_true rfl), (Nat.le_of_ble_eq_true rfl)⟩ ⟨rfl, rfl⟩ (Nat.le_of_ble_eq_true rfl) dX5_isAhead_35 (fun H locs hP hD hS => ?_)
    refine lv_aload_n hx hb dX5_isAhead_38 rfl (lv_at hl 0 rfl) ?_
    refine lv_iload_n hx hb dX5_isAhead_39 rfl (lv_at hl 2 rfl) ?_
    refine lv_iconst (v := 3) hx hb dX5_isAhead_40 (by decide) ?_
    obtain ⟨z5, hz5, hF⟩ := ob_bind hF
    refine cl_i (csR := []) (csF := [wM g a mo]) (rest := [.int z4]) hx hb hml hown hts hK hE hA hl hP hD hS (c_X5_of g l a mo p1 3 z5 hz5) [0] [] [0] ⟨rfl, rfl, rfl, rfl, rfl, rfl, rfl⟩ ⟨0, 9, _, _, rfl, rfl, rfl⟩ 2 (jb_giV mw_1415 mw_1417 ms_36 mw_10 mw_1418) ⟨rfl, rfl⟩ (by decide +kernel) ⟨⟨(Nat.le_of_ble_eq_true rfl), (Nat.le_of_ble_eq_true rfl)⟩, (Nat.le_of_ble_eq_true rfl), (Nat.le_of_ble_eq_true rfl)⟩ ⟨rfl, rfl⟩ (Nat.le_of_ble_eq_true rfl) dX5_isAhead_41 (fun H locs hP hD hS => ?_)
    refine lv_icmp_gt (tgt := 67) hx hb dX5_isAhead_44 (by decide) (fun c6 => ?_) (fun c6 => ?_)
    · have hF := ob_pos c6 hF
      refine lv_iconst (v := 1) hx hb dX5_isAhead_67 (by decide) ?_
      refine lv_goto (tgt := 72) hx hb dX5_isAhead_68 (by decide) ?_
      cases hF
      rw [hQ]
      exact jb_zret hx hb hr rfl hlocks hP hD hS dX5_isAhead_72 rfl (Nat.le_of_ble_eq_true rfl) (Nat.le_of_ble_eq_true rfl)
    · have hF := ob_neg c6 hF
      refine lv_aload_n hx hb dX5_isAhead_47 rfl (lv_at hl 0 rfl) ?_
      refine lv_iload_n hx hb dX5_isAhead_48 rfl (lv_at hl 1 rfl) ?_
      refine lv_iconst (v := 3) hx hb dX5_isAhead_49 (by decide) ?_
      obtain ⟨z7, hz7, hF⟩ := ob_bind hF
      refine cl_i (csR := []) (csF := [wM g a mo]) (rest := []) hx hb hml hown hts hK hE hA hl hP hD hS (c_X5_of g l a mo p0 3 z7 hz7) [0] [] [0] ⟨rfl, rfl, rfl, rfl, rfl, rfl, rfl⟩ ⟨0, 9, _, _, rfl, rfl, rfl⟩ 2 (jb_giV mw_1415 mw_1417 ms_36 mw_10 mw_1418) ⟨rfl, rfl⟩ (by decide +kernel) ⟨⟨(Nat.le_of_ble_eq_true rfl), (Nat.le_of_ble_eq_true rfl)⟩, (Nat.le_of_ble_eq_true rfl), (Nat.le_of_ble_eq_true rfl)⟩ ⟨rfl, rfl⟩ (Nat.le_of_ble_eq_true rfl) dX5_isAhead_50 (fun H locs hP hD hS => ?_)
      refine lv_aload_n hx hb dX5_isAhead_53 rfl (lv_at hl 0 rfl) ?_
      refine lv_iload_n hx hb dX5_isAhead_54 rfl (lv_at hl 2 rfl) ?_
      refine lv_iconst (v := 3) hx hb dX5_isAhead_55 (by decide) ?_
      obtain ⟨z8, hz8, hF⟩ := ob_bind hF
      refine cl_i (csR := []) (csF := [wM g a mo]) (rest := [.int z7]) hx hb hml hown hts hK hE hA hl hP hD hS (c_X5_of g l a mo p1 3 z8 hz8) [0] [] [0] ⟨rfl, rfl, rfl, rfl, rfl, rfl, rfl⟩ ⟨0, 9, _, _, rfl, rfl, rfl⟩ 2 (jb_giV mw_1415 mw_1417 ms_36 mw_10 mw_1418) ⟨rfl, rfl⟩ (by decide +kernel) ⟨⟨(Nat.le_of_ble_eq_true rfl), (Nat.le_of_ble_eq_true rfl)⟩, (Nat.le_of_ble_eq_true rfl), (Nat.le_of_ble_eq_true rfl)⟩ ⟨rfl, rfl⟩ (Nat.le_of_ble_eq_true rfl) dX5_isAhead_56 (fun H locs hP hD hS => ?_)
      refine lv_icmp_ne (tgt := 71) hx hb dX5_isAhead_59 (by decide) (fun c9 => ?_) (fun c9 => ?_)
      · have hF := ob_pos c9 hF
        refine lv_iconst (v := 0) hx hb dX5_isAhead_71 (by decide) ?_
        cases hF
        rw [hQ]
        exact jb_zret hx hb hr rfl hlocks hP hD hS dX5_isAhead_72 rfl (Nat.le_of_ble_eq_true rfl) (Nat.le_of_ble_eq_true rfl)
      · have hF := ob_nneg c9 hF
        refine lv_iload_n hx hb dX5_isAhead_62 rfl (lv_at hl 1 rfl) ?_
        refine lv_iload_n hx hb dX5_isAhead_63 rfl (lv_at hl 2 rfl) ?_
        refine lv_icmp_ge (tgt := 71) hx hb dX5_isAhead_64 (by decide) (fun c10 => ?_) (fun c10 => ?_)
        · have hF := ob_pos c10 hF
          refine lv_iconst (v := 0) hx hb dX5_isAhead_71 (by decide) ?_
          cases hF
          rw [hQ]
          exact jb_zret hx hb hr rfl hlocks hP hD hS dX5_isAhead_72 rfl (Nat.le_of_ble_eq_true rfl) (Nat.le_of_ble_eq_true rfl)
        · have hF := ob_neg c10 hF
          refine lv_iconst (v := 1) hx hb dX5_isAhead_67 (by decide) ?_
          refine lv_goto (tgt := 72) hx hb dX5_isAhead_68 (by decide) ?_
          cases hF
          rw [hQ]
          exact jb_zret hx hb hr rfl hlocks hP hD hS dX5_isAhead_72 rfl (Nat.le_of_ble_eq_true rfl) (Nat.le_of_ble_eq_true rfl)
  · have hF := ob_neg c3 hF
    refine lv_aload_n hx hb dX5_isAhead_13 rfl (lv_at hl 0 rfl) ?_
    refine lv_iload_n hx hb dX5_isAhead_14 rfl (lv_at hl 1 rfl) ?_
    obtain ⟨z11, hz11, hF⟩ := ob_bind hF
    refine cl_i (csR := []) (csF := [wM g a mo]) (rest := []) hx hb hml hown hts hK hE hA hl hP hD hS (c_X5_strong g l a mo p0 z11 hz11) [0] [] [0] ⟨rfl, rfl, rfl, rfl, rfl, rfl, rfl⟩ ⟨0, 9, _, _, rfl, rfl, rfl⟩ 1 (jb_giV mw_1459 mw_1461 ms_39 mw_10 mw_1462) ⟨rfl, rfl⟩ (by decide +kernel) ⟨⟨(Nat.le_of_ble_eq_true rfl), (Nat.le_of_ble_eq_true rfl)⟩, (Nat.le_of_ble_eq_true rfl), (Nat.le_of_ble_eq_true rfl)⟩ ⟨rfl, rfl⟩ (Nat.le_of_ble_eq_true rfl) dX5_isAhead_15 (fun H locs hP hD hS => ?_)
    refine lv_aload_n hx hb dX5_isAhead_18 rfl (lv_at hl 0 rfl) ?_
    refine lv_iload_n hx hb dX5_isAhead_19 rfl (lv_at hl 2 rfl) ?_
    obtain ⟨z12, hz12, hF⟩ := ob_bind hF
    refine cl_i (csR := []) (csF := [wM g a mo]) (rest := [.int z11]) hx hb hml hown hts hK hE hA hl hP hD hS (c_X5_strong g l a mo p1 z12 hz12) [0] [] [0] ⟨rfl, rfl, rfl, rfl, rfl, rfl, rfl⟩ ⟨0, 9, _, _, rfl, rfl, rfl⟩ 1 (jb_giV mw_1459 mw_1461 ms_39 mw_10 mw_1462) ⟨rfl, rfl⟩ (by decide +kernel) ⟨⟨(Nat.le_of_ble_eq_true rfl), (Nat.le_of_ble_eq_true rfl)⟩, (Nat.le_of_ble_eq_true rfl), (Nat.le_of_ble_eq_true rfl)⟩ ⟨rfl, rfl⟩ (Nat.le_of_ble_eq_true rfl) dX5_isAhead_20 (fun H locs hP hD hS => ?_)
    refine lv_icmp_ge (tgt := 30) hx hb dX5_isAhead_23 (by decide) (fun c13 => ?_) (fun c13 => ?_)
    · have hF := ob_pos c13 hF
      refine lv_iconst (v := 0) hx hb dX5_isAhead_30 (by decide) ?_
      cases hF
      rw [hQ]
      exact jb_zret hx hb hr rfl hlocks hP hD hS dX5_isAhead_31 rfl (Nat.le_of_ble_eq_true rfl) (Nat.le_of_ble_eq_true rfl)
    · have hF := ob_neg c13 hF
      refine lv_iconst (v := 1) hx hb dX5_isAhead_26 (by decide) ?_
      refine lv_goto (tgt := 31) hx hb dX5_isAhead_27 (by decide) ?_
      cases hF
      rw [hQ]
      exact jb_zret hx hb hr rfl hlocks hP hD hS dX5_isAhead_31 rfl (Nat.le_of_ble_eq_true rfl) (Nat.le_of_ble_eq_true rfl)
def F_X5_spanByStrength_L17 (y1 : Int32) (y2 : Int32) (k : Mv → Int32 → Int32 → Option (Int32 × Mv)) : Nat → Mv → Int32 → Int32 → Option (Int32 × Mv)
  | 0, _, _, _ => none
  | n + 1, b0, x3, x4 => ck (inb 0 83) (if ((M_g b0) (0 : Int32).toNatClampNeg) ≤ x4 then k b0 x3 x4 else (F_X5_isAhead b0 x4 y2).bind (fun z1 => if (bi z1) = 0 then F_X5_spanByStrength_L17 y1 y2 k n b0 (x3 + 0) (x4 + 1) else F_X5_spanByStrength_L17 y1 y2 k n b0 (x3 + 1) (x4 + 1)))
def F_X5_spanByStrength_L2 (y1 : Int32) (k : Mv → Int32 → Option (Int32 × Mv)) : Nat → Mv → Int32 → Option (Int32 × Mv)
  | 0, _, _ => none
  | n + 1, b0, x2 => ck (inb 0 83) (if ((M_g b0) (0 : Int32).toNatClampNeg) ≤ x2 then k b0 x2 else F_X5_spanByStrength_L17 y1 x2 (fun b2 x3 x4 => if x3 = y1 then some (x2, (mkM (M_g b2) (M_kept b2) (M_saved b2) (M_before b2) (M_trial b2) (M_counted b2) (M_isSaved b2) (M_changes b2) (M_isWithin b2) (M_isDenied b2) 0 (M_why b2) (M_detail b2) (M_cause b2) (M_input b2) (M_length b2) (M_fault b2) (M_signs b2) (M_signMany b2) (M_lastOver b2) (M_at b2) (M_told b2) (M_toldMany b2))) else F_X5_spanByStrength_L2 y1 k n b2 (x2 + 1)) 1000 b0 0 0)
def F_X5_spanByStrength (mo : Mv) (p0 : Int32) : Option (Int32 × Mv) := F_X5_spanByStrength_L2 p0 (fun b5 x6 => some (0, (mkM (M_g b5) (M_kept b5) (M_saved b5) (M_before b5) (M_trial b5) (M_counted b5) (M_isSaved b5) (M_changes b5) (M_isWithin b5) (M_isDenied b5) 1 (M_why b5) (M_detail b5) (M_cause b5) (M_input b5) (M_length b5) (M_fault b5) (M_signs b5) (M_signMany b5) (M_lastOver b5) (M_at b5) (M_told b5) (M_toldMany b5)))) 1000 mo 0
set_option maxHeartbeats 4000000 in
set_option maxRecDepth 100000 in
theorem c_X5_spanByStrength (g : GG) (l : Launch) (a : Nat → Nat) (mo : Mv) (p0 : Int32) (z : Int32 × Mv) (hF : F_X5_spanByStrength mo p0 = some z) : MI g l yX5_spanByStrength cX5_spanByStrength 5 (some .int) ({ frames := 4, cells := 0, slots := 0, locals := 87 } : Room) [.ref (a 0), .int p0] [wM g a mo] 0 0 z.1 [wM g a z.2] := by
  refine MI.bg (by decide) (Nat.le_of_ble_eq_true rfl) ?_
  intro p e s m below meth c A Q hQ hx hb hr hml hown hts hlocks hmn hK hE hA hP hD hS ls hl
  rw [F_X5_spanByStrength] at hF
  have hl : lv_has ls 5 [(0, .ref (a 0)), (1, .int p0)] := hl
  refine lv_iconst (v := 0) hx hb dX5_spanByStrength_0 (by decide) ?_
  refine lv_istore_n (lv' := [(2, .int 0), (0, .ref (a 0)), (1, .int p0)]) hx hb dX5_spanByStrength_1 rfl hl (by decide) rfl (fun ls hl => ?_)
  obtain ⟨k2, ek2, hF⟩ := ob_k (F := fun k9 => F_X5_spanByStrength_L2 p0 k9 1000 mo 0) hF
  have loop2 : ∀ (n9 : Nat) (b1 : Mv) (x2 : Int32), F_X5_spanByStrength_L2 p0 k2 n9 b1 x2 = some z → ∀ (H : Heap) (locs : List Loc), va_P g.1 vwCl ([wM g a b1] : List va_W).flatten H → va_D A ([wM g a b1] : List va_W).flatten → va_S A s.heap H locs → ∀ ls : Array Slot, lv_has ls 5 [(0, .ref (a 0)), (1, .int p0), (2, .int x2)] → W p l e ({ frames := 4, cells := 0, slots := 0, locals := 87 } : Room) s m ([.ref (a 0), .int p0] : List Value).toArray below meth c H locs 0 0 Q (F0 m 2 ls []) := by
    intro n9
    induction n9 with
    | zero => intro b1 x2 hF; rw [F_X5_spanByStrength_L2] at hF; cases hF
    | succ n9 ih2 =>
      intro b1 x2 hF H locs hP hD hS ls hl
      rw [F_X5_spanByStrength_L2] at hF
      refine lv_iload_n hx hb dX5_spanByStrength_2 rfl (lv_at hl 2 rfl) ?_
      refine lv_aload_n hx hb dX5_spanByStrength_3 rfl (lv_at hl 0 rfl) ?_
      refine va_get (D := g.1) (ci := 9) (v := .ref (a 1)) (C := RX5) (T := TX5) (N := 23) hx hb hts inX5 hown hK hP 0 rfl rfl 0 (by decide) (hts _ mw_1311) (fun _ h9 => h9) rfl dX5_spanByStrength_4 ?_
      refine lv_iconst (v := 0) hx hb dX5_spanByStrength_7 (by decide) ?_
      have h3 := inb_in (ck_t hF)
      have hF := ck_s hF
      refine va_iald hx hb hK hP 1 0 rfl rfl h3 dX5_spanByStrength_8 ?_
      refine lv_icmp_ge (tgt := 73) hx hb dX5_spanByStrength_9 (by decide) (fun c4 => ?_) (fun c4 => ?_)
      · have hF := ob_pos c4 hF
        rw [ek2] at hF
        refine lv_aload_n hx hb dX5_spanByStrength_73 rfl (lv_at hl 0 rfl) ?_
        refine lv_iconst (v := 1) hx hb dX5_spanByStrength_74 (by decide) ?_
        refine va_put (D := g.1) (ci := 9) (v := .int 1) (ty := .int) (C := RX5) (T := TX5) (N := 23) hx hb hts inX5 tyX5 tyX5_ok nmX5 hown hK hP hD hS 0 rfl rfl 10 (by decide) (hts _ mw_1321) (fun _ h9 => h9) rfl (by decide +kernel) rfl rfl (Nat.le_of_ble_eq_true rfl) dX5_spanByStrength_75 (fun H locs hP hD hS => ?_)
        have hP : va_P g.1 vwCl ([wMc g a (M_g b1) (M_kept b1) (M_saved b1) (M_before b1) (M_trial b1) (M_counted b1) (M_isSaved b1) (M_changes b1) (M_isWithin b1) (M_isDenied b1) 1 (M_why b1) (M_detail b1) (M_cause b1) (M_input b1) (M_length b1) (M_fault b1) (M_signs b1) (M_signMany b1) (M_lastOver b1) (M_at b1) (M_told b1) (M_toldMany b1)] : List va_W).flatten _ := hP
        have hD : va_D A ([wMc g a (M_g b1) (M_kept b1) (M_saved b1) (M_before b1) (M_trial b1) (M_counted b1) (M_isSaved b1) (M_changes b1) (M_isWithin b1) (M_isDenied b1) 1 (M_why b1) (M_detail b1) (M_cause b1) (M_input b1) (M_length b1) (M_fault b1) (M_signs b1) (M_signMany b1) (M_lastOver b1) (M_at b1) (M_told b1) (M_toldMany b1)] : List va_W).flatten := hD
        refine lv_iconst (v := 0) hx hb dX5_spanByStrength_78 (by decide) ?_
        cases hF
        rw [hQ]
        exact jb_iret hx hb hr hlocks hP hD hS dX5_spanByStrength_79 rfl (Nat.le_of_ble_eq_true rfl) (Nat.le_of_ble_eq_true rfl)
      · have hF := ob_neg c4 hF
        refine lv_iconst (v := 0) hx hb dX5_spanByStrength_12 (by decide) ?_
        refine lv_istore_n (lv' := [(3, .int 0), (0, .ref (a 0)), (1, .int p0), (2, .int x2)]) hx hb dX5_spanByStrength_13 rfl hl (by decide) rfl (fun ls hl => ?_)
        refine lv_iconst (v := 0) hx hb dX5_spanByStrength_14 (by decide) ?_
        refine lv_istore (lv' := [(4, .int 0), (3, .int 0), (0, .ref (a 0)), (1, .int p0), (2, .int x2)]) hx hb dX5_spanByStrength_15 hl (by decide) rfl (fun ls hl => ?_)
        obtain ⟨k7, ek7, hF⟩ := ob_k (F := fun k9 => F_X5_spanByStrength_L17 p0 x2 k9 1000 b1 0 0) hF
        have loop7 : ∀ (n9 : Nat) (b5 : Mv) (x6 : Int32) (x7 : Int32), F_X5_spanByStrength_L17 p0 x2 k7 n9 b5 x6 x7 = some z → ∀ (H : Heap) (locs : List Loc), va_P g.1 vwCl ([wM g a b5] : List va_W).flatten H → va_D A ([wM g a b5] : List va_W).flatten → va_S A s.heap H locs → ∀ ls : Array Slot, lv_has ls 5 [(0, .ref (a 0)), (1, .int p0), (2, .int x2), (3, .int x6), (4, .int x7)] → W p l e ({ frames := 4, cells := 0, slots := 0, locals := 87 } : Room) s m ([.ref (a 0), .int p0] : List Value).toArray below meth c H locs 0 0 Q (F0 m 17 ls []) := by
          intro n9
          induction n9 with
          | zero => intro b5 x6 x7 hF; rw [F_X5_spanByStrength_L17] at hF; cases hF
          | succ n9 ih7 =>
            intro b5 x6 x7 hF H locs hP hD hS ls hl
            rw [F_X5_spanByStrength_L17] at hF
            refine lv_iload hx hb dX5_spanByStrength_17 (lv_at hl 4 rfl) ?_
            refine lv_aload_n hx hb dX5_spanByStrength_19 rfl (lv_at hl 0 rfl) ?_
            refine va_get (D := g.1) (ci := 9) (v := .ref (a 1)) (C := RX5) (T := TX5) (N := 23) hx hb hts inX5 hown hK hP 0 rfl rfl 0 (by decide) (hts _ mw_1311) (fun _ h9 => h9) rfl dX5_spanByStrength_20 ?_
            refine lv_iconst (v := 0) hx hb dX5_spanByStrength_23 (by decide) ?_
            have h8 := inb_in (ck_t hF)
            have hF := ck_s hF
            refine va_iald hx hb hK hP 1 0 rfl rfl h8 dX5_spanByStrength_24 ?_
            refine lv_icmp_ge (tgt := 52) hx hb dX5_spanByStrength_25 (by decide) (fun c9 => ?_) (fun c9 => ?_)
            · have hF := ob_pos c9 hF
              rw [ek7] at hF
              refine lv_iload_n hx hb dX5_spanByStrength_52 rfl (lv_at hl 3 rfl) ?_
              refine lv_iload_n hx hb dX5_spanByStrength_53 rfl (lv_at hl 1 rfl) ?_
              refine lv_icmp_eq (tgt := 60) hx hb dX5_spanByStrength_54 (by decide) (fun c10 => ?_) (fun c10 => ?_)
              · have hF := ob_pos c10 hF
                refine lv_aload_n hx hb dX5_spanByStrength_60 rfl (lv_at hl 0 rfl) ?_
                refine lv_iconst (v := 0) hx hb dX5_spanByStrength_61 (by decide) ?_
                refine va_put (D := g.1) (ci := 9) (v := .int 0) (ty := .int) (C := RX5) (T := TX5) (N := 23) hx hb hts inX5 tyX5 tyX5_ok nmX5 hown hK hP hD hS 0 rfl rfl 10 (by decide) (hts _ mw_1321) (fun _ h9 => h9) rfl (by decide +kernel) rfl rfl (Nat.le_of_ble_eq_true rfl) dX5_spanByStrength_62 (fun H locs hP hD hS => ?_)
                have hP : va_P g.1 vwCl ([wMc g a (M_g b5) (M_kept b5) (M_saved b5) (M_before b5) (M_trial b5) (M_counted b5) (M_isSaved b5) (M_changes b5) (M_isWithin b5) (M_isDenied b5) 0 (M_why b5) (M_detail b5) (M_cause b5) (M_input b5) (M_length b5) (M_fault b5) (M_signs b5) (M_signMany b5) (M_lastOver b5) (M_at b5) (M_told b5) (M_toldMany b5)] : List va_W).flatten _ := hP
                have hD : va_D A ([wMc g a (M_g b5) (M_kept b5) (M_saved b5) (M_before b5) (M_trial b5) (M_counted b5) (M_isSaved b5) (M_changes b5) (M_isWithin b5) (M_isDenied b5) 0 (M_why b5) (M_detail b5) (M_cause b5) (M_input b5) (M_length b5) (M_fault b5) (M_signs b5) (M_signMany b5) (M_lastOver b5) (M_at b5) (M_told b5) (M_toldMany b5)] : List va_W).flatten := hD
                refine lv_iload_n hx hb dX5_spanByStrength_65 rfl (lv_at hl 2 rfl) ?_
                cases hF
                rw [hQ]
                exact jb_iret hx hb hr hlocks hP hD hS dX5_spanByStrength_66 rfl (Nat.le_of_ble_eq_true rfl) (Nat.le_of_ble_eq_true rfl)
              · have hF := ob_neg c10 hF
                refine lv_goto (tgt := 67) hx hb dX5_spanByStrength_57 (by decide) ?_
                refine lv_iinc (v := x2 + 1) (lv' := [(2, .int (x2 + 1)), (0, .ref (a 0)), (1, .int p0), (3, .int x6), (4, .int x7)]) hx hb dX5_spanByStrength_67 hl (k := 2) rfl (by rfl) (by decide) rfl (fun ls hl => ?_)
                refine lv_goto (tgt := 2) hx hb dX5_spanByStrength_70 (by decide) ?_
                exact ih2 _ _ hF _ _ hP hD hS ls (lv_sub hl [1, 2, 0] rfl)
            · have hF := ob_neg c9 hF
              refine lv_iload_n hx hb dX5_spanByStrength_28 rfl (lv_at hl 3 rfl) ?_
              refine lv_aload_n hx hb dX5_spanByStrength_29 rfl (lv_at hl 0 rfl) ?_
              refine lv_iload hx hb dX5_spanByStrength_30 (lv_at hl 4 rfl) ?_
              refine lv_iload_n hx hb dX5_spanByStrength_32 rfl (lv_at hl 2 rfl) ?_
              obtain ⟨z11, hz11, hF⟩ := ob_bind hF
              refine cl_i (csR := []) (csF := [wM g a b5]) (rest := [.int x6]) hx hb hml hown hts hK hE hA hl hP hD hS (c_X5_isAhead g l a b5 x7 x2 z11 hz11) [0] [] [0] ⟨rfl, rfl, rfl, rfl, rfl, rfl, rfl⟩ ⟨0, 9, _, _, rfl, rfl, rfl⟩ 2 (jb_giV mw_1510 mw_1512 ms_46 mw_10 mw_1513) ⟨rfl, rfl⟩ (by decide +kernel) ⟨⟨(Nat.le_of_ble_eq_true rfl), (Nat.le_of_ble_eq_true rfl)⟩, (Nat.le_of_ble_eq_true rfl), (Nat.le_of_ble_eq_true rfl)⟩ ⟨rfl, rfl⟩ (Nat.le_of_ble_eq_true rfl) dX5_spanByStrength_33 (fun H locs hP hD hS => ?_)
              refine lv_if_eq (tgt := 43) hx hb dX5_spanByStrength_36 (by decide) (fun c12 => ?_) (fun c12 => ?_)
              · have hF := ob_pos c12 hF
                refine lv_iconst (v := 0) hx hb dX5_spanByStrength_43 (by decide) ?_
                refine lv_iadd hx hb dX5_spanByStrength_44 ?_
                refine lv_istore_n (lv' := [(3, .int (x6 + 0)), (0, .ref (a 0)), (1, .int p0), (2, .int x2), (4, .int x7)]) hx hb dX5_spanByStrength_45 rfl hl (by decide) rfl (fun ls hl => ?_)
                refine lv_iinc (v := x7 + 1) (lv' := [(4, .int (x7 + 1)), (3, .int (x6 + 0)), (0, .ref (a 0)), (1, .int p0), (2, .int x2)]) hx hb dX5_spanByStrength_46 hl (k := 4) rfl (by rfl) (by decide) rfl (fun ls hl => ?_)
                refine lv_goto (tgt := 17) hx hb dX5_spanByStrength_49 (by decide) ?_
                exact ih7 _ _ _ hF _ _ hP hD hS ls (lv_sub hl [2, 3, 4, 1, 0] rfl)
              · have hF := ob_neg c12 hF
                refine lv_iconst (v := 1) hx hb dX5_spanByStrength_39 (by decide) ?_
                refine lv_goto (tgt := 44) hx hb dX5_spanByStrength_40 (by decide) ?_
                refine lv_iadd hx hb dX5_spanByStrength_44 ?_
                refine lv_istore_n (lv' := [(3, .int (x6 + 1)), (0, .ref (a 0)), (1, .int p0), (2, .int x2), (4, .int x7)]) hx hb dX5_spanByStrength_45 rfl hl (by decide) rfl (fun ls hl => ?_)
                refine lv_iinc (v := x7 + 1) (lv' := [(4, .int (x7 + 1)), (3, .int (x6 + 1)), (0, .ref (a 0)), (1, .int p0), (2, .int x2)]) hx hb dX5_spanByStrength_46 hl (k := 4) rfl (by rfl) (by decide) rfl (fun ls hl => ?_)
                refine lv_goto (tgt := 17) hx hb dX5_spanByStrength_49 (by decide) ?_
                exact ih7 _ _ _ hF _ _ hP hD hS ls (lv_sub hl [2, 3, 4, 1, 0] rfl)
        exact loop7 1000 _ _ _ hF _ _ hP hD hS ls (lv_sub hl [2, 3, 4, 1, 0] rfl)
  exact loop2 1000 _ _ hF _ _ hP hD hS ls (lv_sub hl [1, 2, 0] rfl)
def F_X5_placeOf_L2 (mo : Mv) (y1 : Int32) (k : Int32 → Option (Int32)) : Nat → Int32 → Option (Int32)
  | 0, _ => none
  | n + 1, x2 => ck (inb 1 83) (if ((M_g mo) (1 : Int32).toNatClampNeg) ≤ x2 then k x2 else (F_X5_on mo x2 0).bind (fun z1 => if ¬ z1 = y1 then F_X5_placeOf_L2 mo y1 k n (x2 + 1) else some x2))
def F_X5_placeOf (mo : Mv) (p0 : Int32) : Option (Int32) := F_X5_placeOf_L2 mo p0 (fun x2 => some (-1)) 1000 0
set_option maxHeartbeats 4000000 in
set_option maxRecDepth 100000 in
theorem c_X5_placeOf (g : GG) (l : Launch) (a : Nat → Nat) (mo : Mv) (p0 : Int32) (z : Int32) (hF : F_X5_placeOf mo p0 = some z) : MI g l yX5_placeOf cX5_placeOf 3 (some .int) ({ frames := 1, cells := 0, slots := 0, locals := 22 } : Room) [.ref (a 0), .int p0] [wM g a mo] 0 0 z [wM g a mo] := by
  refine MI.bg (by decide) (Nat.le_of_ble_eq_true rfl) ?_
  intro p e s m below meth c A Q hQ hx hb hr hml hown hts hlocks hmn hK hE hA hP hD hS ls hl
  rw [F_X5_placeOf] at hF
  have hl : lv_has ls 3 [(0, .ref (a 0)), (1, .int p0)] := hl
  refine lv_iconst (v := 0) hx hb dX5_placeOf_0 (by decide) ?_
  refine lv_istore_n (lv' := [(2, .int 0), (0, .ref (a 0)), (1, .int p0)]) hx hb dX5_placeOf_1 rfl hl (by decide) rfl (fun ls hl => ?_)
  obtain ⟨k1, ek1, hF⟩ := ob_k (F := fun k9 => F_X5_placeOf_L2 mo p0 k9 1000 0) hF
  have loop1 : ∀ (n9 : Nat) (x1 : Int32), F_X5_placeOf_L2 mo p0 k1 n9 x1 = some z → ∀ (H : Heap) (locs : List Loc), va_P g.1 vwCl ([wM g a mo] : List va_W).flatten H → va_D A ([wM g a mo] : List va_W).flatten → va_S A s.heap H locs → ∀ ls : Array Slot, lv_has ls 3 [(0, .ref (a 0)), (1, .int p0), (2, .int x1)] → W p l e ({ frames := 1, cells := 0, slots := 0, locals := 22 } : Room) s m ([.ref (a 0), .int p0] : List Value).toArray below meth c H locs 0 0 Q (F0 m 2 ls []) := by
    intro n9
    induction n9 with
    | zero => intro x1 hF; rw [F_X5_placeOf_L2] at hF; cases hF
    | succ n9 ih1 =>
      intro x1 hF H locs hP hD hS ls hl
      rw [F_X5_placeOf_L2] at hF
      refine lv_iload_n hx hb dX5_placeOf_2 rfl (lv_at hl 2 rfl) ?_
      refine lv_aload_n hx hb dX5_placeOf_3 rfl (lv_at hl 0 rfl) ?_
      refine va_get (D := g.1) (ci := 9) (v := .ref (a 1)) (C := RX5) (T := TX5) (N := 23) hx hb hts inX5 hown hK hP 0 rfl rfl 0 (by decide) (hts _ mw_1311) (fun _ h9 => h9) rfl dX5_placeOf_4 ?_
      refine lv_iconst (v := 1) hx hb dX5_placeOf_7 (by decide) ?_
      have h2 := inb_in (ck_t hF)
      have hF := ck_s hF
      refine va_iald hx hb hK hP 1 0 rfl rfl h2 dX5_placeOf_8 ?_
      refine lv_icmp_ge (tgt := 30) hx hb dX5_placeOf_9 (by decide) (fun c3 => ?_) (fun c3 => ?_)
      · have hF := ob_pos c3 hF
        rw [ek1] at hF
        refine lv_iconst (v := (-1)) hx hb dX5_placeOf_30 (by decide) ?_
        cases hF
        rw [hQ]
        exact jb_iret hx hb hr hlocks hP hD hS dX5_placeOf_31 rfl (Nat.le_of_ble_eq_true rfl) (Nat.le_of_ble_eq_true rfl)
      · have hF := ob_neg c3 hF
        refine lv_aload_n hx hb dX5_placeOf_12 rfl (lv_at hl 0 rfl) ?_
        refine lv_iload_n hx hb dX5_placeOf_13 rfl (lv_at hl 2 rfl) ?_
        refine lv_iconst (v := 0) hx hb dX5_placeOf_14 (by decide) ?_
        obtain ⟨z4, hz4, hF⟩ := ob_bind hF
        refine cl_i (csR := []) (csF := [wM g a mo]) (rest := []) hx hb hml hown hts hK hE hA hl hP hD hS (c_X5_on g l a mo x1 0 z4 hz4) [0] [] [0] ⟨rfl, rfl, rfl, rfl, rfl, rfl, rfl⟩ ⟨0, 9, _, _, rfl, rfl, rfl⟩ 2 (jb_giV mw_1478 mw_1480 ms_42 mw_10 mw_1481) ⟨rfl, rfl⟩ (by decide +kernel) ⟨⟨(Nat.le_of_ble_eq_true rfl), (Nat.le_of_ble_eq_true rfl)⟩, (Nat.le_of_ble_eq_true rfl), (Nat.le_of_ble_eq_true rfl)⟩ ⟨rfl, rfl⟩ (Nat.le_of_ble_eq_true rfl) dX5_placeOf_15 (fun H locs hP hD hS => ?_)
        refine lv_iload_n hx hb dX5_placeOf_18 rfl (lv_at hl 1 rfl) ?_
        refine lv_icmp_ne (tgt := 24) hx hb dX5_placeOf_19 (by decide) (fun c5 => ?_) (fun c5 => ?_)
        · have hF := ob_pos c5 hF
          refine lv_iinc (v := x1 + 1) (lv' := [(2, .int (x1 + 1)), (0, .ref (a 0)), (1, .int p0)]) hx hb dX5_placeOf_24 hl (k := 2) rfl (by rfl) (by decide) rfl (fun ls hl => ?_)
          refine lv_goto (tgt := 2) hx hb dX5_placeOf_27 (by decide) ?_
          exact ih1 _ hF _ _ hP hD hS ls (lv_sub hl [1, 2, 0] rfl)
        · have hF := ob_nneg c5 hF
          refine lv_iload_n hx hb dX5_placeOf_22 rfl (lv_at hl 2 rfl) ?_
          cases hF
          rw [hQ]
          exact jb_iret hx hb hr hlocks hP hD hS dX5_placeOf_23 rfl (Nat.le_of_ble_eq_true rfl) (Nat.le_of_ble_eq_true rfl)
  exact loop1 1000 _ hF _ _ hP hD hS ls (lv_sub hl [1, 2, 0] rfl)
def F_X5_isGone (mo : Mv) (p0 : Int32) : Option (Bool × Mv) := (F_X5_placeOf mo p0).bind (fun z1 => if 0 ≤ z1 then (F_X5_fails mo 0).bind (fun z2 => some (z2.1, z2.2)) else (F_X5_fails mo 1).bind (fun z3 => some (z3.1, z3.2)))
set_option maxHeartbeats 4000000 in
set_option maxRecDepth 100000 in
theorem c_X5_isGone (g : GG) (l : Launch) (a : Nat → Nat) (mo : Mv) (p0 : Int32) (z : Bool × Mv) (hF : F_X5_isGone mo p0 = some z) : MI g l yX5_isGone cX5_isGone 2 (some .boolean) ({ frames := 2, cells := 0, slots := 0, locals := 44 } : Room) [.ref (a 0), .int p0] [wM g a mo] 0 0 (bi z.1) [wM g a z.2] := by
  refine MI.bg (by decide) (Nat.le_of_ble_eq_true rfl) ?_
  intro p e s m below meth c A Q hQ hx hb hr hml hown hts hlocks hmn hK hE hA hP hD hS ls hl
  rw [F_X5_isGone] at hF
  have hl : lv_has ls 2 [(0, .ref (a 0)), (1, .int p0)] := hl
  refine lv_aload_n hx hb dX5_isGone_0 rfl (lv_at hl 0 rfl) ?_
  refine lv_aload_n hx hb dX5_isGone_1 rfl (lv_at hl 0 rfl) ?_
  refine lv_iload_n hx hb dX5_isGone_2 rfl (lv_at hl 1 rfl) ?_
  obtain ⟨z1, hz1, hF⟩ := ob_bind hF
  refine cl_i (csR := []) (csF := [wM g a mo]) (rest := [.ref (a 0)]) hx hb hml hown hts hK hE hA hl hP hD hS (c_X5_placeOf g l a mo p0 z1 hz1) [0] [] [0] ⟨rfl, rfl, rfl, rfl, rfl, rfl, rfl⟩ ⟨0, 9, _, _, rfl, rfl, rfl⟩ 1 (jb_giV mw_1578 mw_1580 ms_57 mw_10 mw_1581) ⟨rfl, rfl⟩ (by decide +kernel) ⟨⟨(Nat.le_of_ble_eq_true rfl), (Nat.le_of_ble_eq_true rfl)⟩, (Nat.le_of_ble_eq_true rfl), (Nat.le_of_ble_eq_true rfl)⟩ ⟨rfl, rfl⟩ (Nat.le_of_ble_eq_true rfl) dX5_isGone_3 (fun H locs hP hD hS => ?_)
  refine lv_if_ge (tgt := 13) hx hb dX5_isGone_6 (by decide) (fun c2 => ?_) (fun c2 => ?_)
  · have hF := ob_pos c2 hF
    refine lv_iconst (v := 0) hx hb dX5_isGone_13 (by decide) ?_
    obtain ⟨z3, hz3, hF⟩ := ob_bind hF
    refine cl_i (csR := []) (csF := [wM g a z3.2]) (rest := []) hx hb hml hown hts hK hE hA hl hP hD hS (c_X5_fails g l a mo 0 z3 hz3) [0] [] [0] ⟨rfl, rfl, rfl, rfl, rfl, rfl, rfl⟩ ⟨0, 9, _, _, rfl, rfl, rfl⟩ 1 (jb_giV mw_1392 mw_1394 ms_32 mw_10 mw_1395) ⟨rfl, rfl⟩ (by decide +kernel) ⟨⟨(Nat.le_of_ble_eq_true rfl), (Nat.le_of_ble_eq_true rfl)⟩, (Nat.le_of_ble_eq_true rfl), (Nat.le_of_ble_eq_true rfl)⟩ ⟨rfl, rfl⟩ (Nat.le_of_ble_eq_true rfl) dX5_isGone_14 (fun H locs hP hD hS => ?_)
    cases hF
    rw [hQ]
    exact jb_zret hx hb hr (bi_nar _) hlocks hP hD hS dX5_isGone_17 rfl (Nat.le_of_ble_eq_true rfl) (Nat.le_of_ble_eq_true rfl)
  · have hF := ob_neg c2 hF
    refine lv_iconst (v := 1) hx hb dX5_isGone_9 (by decide) ?_
    refine lv_goto (tgt := 14) hx hb dX5_isGone_10 (by decide) ?_
    obtain ⟨z4, hz4, hF⟩ := ob_bind hF
    refine cl_i (csR := []) (csF := [wM g a z4.2]) (rest := []) hx hb hml hown hts hK hE hA hl hP hD hS (c_X5_fails g l a mo 1 z4 hz4) [0] [] [0] ⟨rfl, rfl, rfl, rfl, rfl, rfl, rfl⟩ ⟨0, 9, _, _, rfl, rfl, rfl⟩ 1 (jb_giV mw_1392 mw_1394 ms_32 mw_10 mw_1395) ⟨rfl, rfl⟩ (by decide +kernel) ⟨⟨(Nat.le_of_ble_eq_true rfl), (Nat.le_of_ble_eq_true rfl)⟩, (Nat.le_of_ble_eq_true rfl), (Nat.le_of_ble_eq_true rfl)⟩ ⟨rfl, rfl⟩ (Nat.le_of_ble_eq_true rfl) dX5_isGone_14 (fun H locs hP hD hS => ?_)
    cases hF
    rw [hQ]
    exact jb_zret hx hb hr (bi_nar _) hlocks hP hD hS dX5_isGone_17 rfl (Nat.le_of_ble_eq_true rfl) (Nat.le_of_ble_eq_true rfl)
def F_X5_enter (mo : Mv) (p0 : Int32) : Option (Int32 × Mv) := (F_X5_in p0 1 99).bind (fun z1 => if (bi z1) = 0 then (F_X5_fails mo 1).bind (fun z2 => if (bi z2.1) = 0 then ck (inb 0 83) (if ¬ ((M_g z2.2) (0 : Int32).toNatClampNeg) = 0 then ck (inb 1 83) (if ¬ ((M_g z2.2) (1 : Int32).toNatClampNeg) = 8 then (F_X5_strong z2.2 0).bind (fun z3 => (F_X5_loaded z2.2 0).bind (fun z4 => if p0 ≤ (z3 - z4) then (F_X5_keeps_g z2.2).bind (fun z5 => ck (inb 1 83) (ck (inb 2 83) (ck (inb ((59 + (3 * ((M_g z5) (1 : Int32).toNatClampNeg))) + 0) 83) (ck (inb ((59 + (3 * ((M_g z5) (1 : Int32).toNatClampNeg))) + 1) 83) (ck (inb ((59 + (3 * ((M_g z5) (1 : Int32).toNatClampNeg))) + 2) 83) (ck (inb 1 83) (ck (inb 1 83) (ck (inb 2 83) (ck (inb 2 83) (ck (inb 2 83) (some (((upd (upd (upd (upd (upd (M_g z5) ((59 + (3 * ((M_g z5) (1 : Int32).toNatClampNeg))) + 0).toNatClampNeg ((M_g z5) (2 : Int32).toNatClampNeg)) ((59 + (3 * ((M_g z5) (1 : Int32).toNatClampNeg))) + 1).toNatClampNeg p0) ((59 + (3 * ((M_g z5) (1 : Int32).toNatClampNeg))) + 2).toNatClampNeg 0) (1 : Int32).toNatClampNeg (((upd (upd (upd (M_g z5) ((59 + (3 * ((M_g z5) (1 : Int32).toNatClampNeg))) + 0).toNatClampNeg ((M_g z5) (2 : Int32).toNatClampNeg)) ((59 + (3 * ((M_g z5) (1 : Int32).toNatClampNeg))) + 1).toNatClampNeg p0) ((59 + (3 * ((M_g z5) (1 : Int32).toNatClampNeg))) + 2).toNatClampNeg 0) (1 : Int32).toNatClampNeg) + 1)) (2 : Int32).toNatClampNeg (((upd (upd (upd (upd (M_g z5) ((59 + (3 * ((M_g z5) (1 : Int32).toNatClampNeg))) + 0).toNatClampNeg ((M_g z5) (2 : Int32).toNatClampNeg)) ((59 + (3 * ((M_g z5) (1 : Int32).toNatClampNeg))) + 1).toNatClampNeg p0) ((59 + (3 * ((M_g z5) (1 : Int32).toNatClampNeg))) + 2).toNatClampNeg 0) (1 : Int32).toNatClampNeg (((upd (upd (upd (M_g z5) ((59 + (3 * ((M_g z5) (1 : Int32).toNatClampNeg))) + 0).toNatClampNeg ((M_g z5) (2 : Int32).toNatClampNeg)) ((59 + (3 * ((M_g z5) (1 : Int32).toNatClampNeg))) + 1).toNatClampNeg p0) ((59 + (3 * ((M_g z5) (1 : Int32).toNatClampNeg))) + 2).toNatClampNeg 0) (1 : Int32).toNatClampNeg) + 1)) (2 : Int32).toNatClampNeg) + 1)) (2 : Int32).toNatClampNeg) - 1, (mkM (upd (upd (upd (upd (upd (M_g z5) ((59 + (3 * ((M_g z5) (1 : Int32).toNatClampNeg))) + 0).toNatClampNeg ((M_g z5) (2 : Int32).toNatClampNeg)) ((59 + (3 * ((M_g z5) (1 : Int32).toNatClampNeg))) + 1).toNatClampNeg p0) ((59 + (3 * ((M_g z5) (1 : Int32).toNatClampNeg))) + 2).toNatClampNeg 0) (1 : Int32).toNatClampNeg (((upd (upd (upd (M_g z5) ((59 + (3 * ((M_g z5) (1 : Int32).toNatClampNeg))) + 0).toNatClampNeg ((M_g z5) (2 : Int32).toNatClampNeg)) ((59 + (3 * ((M_g z5) (1 : Int32).toNatClampNeg))) + 1).toNatClampNeg p0) ((59 + (3 * ((M_g z5) (1 : Int32).toNatClampNeg))) + 2).toNatClampNeg 0) (1 : Int32).toNatClampNeg) + 1)) (2 : Int32).toNatClampNeg (((upd (upd (upd (upd (M_g z5) ((59 + (3 * ((M_g z5) (1 : Int32).toNatClampNeg))) + 0).toNatClampNeg ((M_g z5) (2 : Int32).toNatClampNeg)) ((59 + (3 * ((M_g z5) (1 : Int32).toNatClampNeg))) + 1).toNatClampNeg p0) ((59 + (3 * ((M_g z5) (1 : Int32).toNatClampNeg))) + 2).toNatClampNeg 0) (1 : Int32).toNatClampNeg (((upd (upd (upd (M_g z5) ((59 + (3 * ((M_g z5) (1 : Int32).toNatClampNeg))) + 0).toNatClampNeg ((M_g z5) (2 : Int32).toNatClampNeg)) ((59 + (3 * ((M_g z5) (1 : Int32).toNatClampNeg))) + 1).toNatClampNeg p0) ((59 + (3 * ((M_g z5) (1 : Int32).toNatClampNeg))) + 2).toNatClampNeg 0) (1 : Int32).toNatClampNeg) + 1)) (2 : Int32).toNatClampNeg) + 1)) (M_kept z5) (M_saved z5) (M_before z5) (M_trial z5) (M_counted z5) (M_isSaved z5) (M_changes z5) (M_isWithin z5) (M_isDenied z5) (M_code z5) (M_why z5) (M_detail z5) (M_cause z5) (M_input z5) (M_length z5) (M_fault z5) (M_signs z5) (M_signMany z5) (M_lastOver z5) (M_at z5) (M_told z5) (M_toldMany z5)))))))))))))) else (F_X5_denies z2.2 2 2 (z3 - z4)).bind (fun z6 => some (z6.1, z6.2)))) else (F_X5_denies z2.2 2 1 8).bind (fun z7 => some (z7.1, z7.2))) else ck (inb 3 83) ((F_X5_denies z2.2 2 3 ((M_g z2.2) (3 : Int32).toNatClampNeg)).bind (fun z8 => some (z8.1, z8.2)))) else some (0, z2.2)) else (F_X5_fails mo 0).bind (fun z9 => if (bi z9.1) = 0 then ck (inb 0 83) (if ¬ ((M_g z9.2) (0 : Int32).toNatClampNeg) = 0 then ck (inb 1 83) (if ¬ ((M_g z9.2) (1 : Int32).toNatClampNeg) = 8 then (F_X5_strong z9.2 0).bind (fun z10 => (F_X5_loaded z9.2 0).bind (fun z11 => if p0 ≤ (z10 - z11) then (F_X5_keeps_g z9.2).bind (fun z12 => ck (inb 1 83) (ck (inb 2 83) (ck (inb ((59 + (3 * ((M_g z12) (1 : Int32).toNatClampNeg))) + 0) 83) (ck (inb ((59 + (3 * ((M_g z12) (1 : Int32).toNatClampNeg))) + 1) 83) (ck (inb ((59 + (3 * ((M_g z12) (1 : Int32).toNatClampNeg))) + 2) 83) (ck (inb 1 83) (ck (inb 1 83) (ck (inb 2 83) (ck (inb 2 83) (ck (inb 2 83) (some (((upd (upd (upd (upd (upd (M_g z12) ((59 + (3 * ((M_g z12) (1 : Int32).toNatClampNeg))) + 0).toNatClampNeg ((M_g z12) (2 : Int32).toNatClampNeg)) ((59 + (3 * ((M_g z12) (1 : Int32).toNatClampNeg))) + 1).toNatClampNeg p0) ((59 + (3 * ((M_g z12) (1 : Int32).toNatClampNeg))) + 2).toNatClampNeg 0) (1 : Int32).toNatClampNeg (((upd (upd (upd (M_g z12) ((59 + (3 * ((M_g z12) (1 : Int32).toNatClampNeg))) + 0).toNatClampNeg ((M_g z12) (2 : Int32).toNatClampNeg)) ((59 + (3 * ((M_g z12) (1 : Int32).toNatClampNeg))) + 1).toNatClampNeg p0) ((59 + (3 * ((M_g z12) (1 : Int32).toNatClampNeg))) + 2).toNatClampNeg 0) (1 : Int32).toNatClampNeg) + 1)) (2 : Int32).toNatClampNeg (((upd (upd (upd (upd (M_g z12) ((59 + (3 * ((M_g z12) (1 : Int32).toNatClampNeg))) + 0).toNatClampNeg ((M_g z12) (2 : Int32).toNatClampNeg)) ((59 + (3 * ((M_g z12) (1 : Int32).toNatClampNeg))) + 1).toNatClampNeg p0) ((59 + (3 * ((M_g z12) (1 : Int32).toNatClampNeg))) + 2).toNatClampNeg 0) (1 : Int32).toNatClampNeg (((upd (upd (upd (M_g z12) ((59 + (3 * ((M_g z12) (1 : Int32).toNatClampNeg))) + 0).toNatClampNeg ((M_g z12) (2 : Int32).toNatClampNeg)) ((59 + (3 * ((M_g z12) (1 : Int32).toNatClampNeg))) + 1).toNatClampNeg p0) ((59 + (3 * ((M_g z12) (1 : Int32).toNatClampNeg))) + 2).toNatClampNeg 0) (1 : Int32).toNatClampNeg) + 1)) (2 : Int32).toNatClampNeg) + 1)) (2 : Int32).toNatClampNeg) - 1, (mkM (upd (upd (upd (upd (upd (M_g z12) ((59 + (3 * ((M_g z12) (1 : Int32).toNatClampNeg))) + 0).toNatClampNeg ((M_g z12) (2 : Int32).toNatClampNeg)) ((59 + (3 * ((M_g z12) (1 : Int32).toNatClampNeg))) + 1).toNatClampNeg p0) ((59 + (3 * ((M_g z12) (1 : Int32).toNatClampNeg))) + 2).toNatClampNeg 0) (1 : Int32).toNatClampNeg (((upd (upd (upd (M_g z12) ((59 + (3 * ((M_g z12) (1 : Int32).toNatClampNeg))) + 0).toNatClampNeg ((M_g z12) (2 : Int32).toNatClampNeg)) ((59 + (3 * ((M_g z12) (1 : Int32).toNatClampNeg))) + 1).toNatClampNeg p0) ((59 + (3 * ((M_g z12) (1 : Int32).toNatClampNeg))) + 2).toNatClampNeg 0) (1 : Int32).toNatClampNeg) + 1)) (2 : Int32).toNatClampNeg (((upd (upd (upd (upd (M_g z12) ((59 + (3 * ((M_g z12) (1 : Int32).toNatClampNeg))) + 0).toNatClampNeg ((M_g z12) (2 : Int32).toNatClampNeg)) ((59 + (3 * ((M_g z12) (1 : Int32).toNatClampNeg))) + 1).toNatClampNeg p0) ((59 + (3 * ((M_g z12) (1 : Int32).toNatClampNeg))) + 2).toNatClampNeg 0) (1 : Int32).toNatClampNeg (((upd (upd (upd (M_g z12) ((59 + (3 * ((M_g z12) (1 : Int32).toNatClampNeg))) + 0).toNatClampNeg ((M_g z12) (2 : Int32).toNatClampNeg)) ((59 + (3 * ((M_g z12) (1 : Int32).toNatClampNeg))) + 1).toNatClampNeg p0) ((59 + (3 * ((M_g z12) (1 : Int32).toNatClampNeg))) + 2).toNatClampNeg 0) (1 : Int32).toNatClampNeg) + 1)) (2 : Int32).toNatClampNeg) + 1)) (M_kept z12) (M_saved z12) (M_before z12) (M_trial z12) (M_counted z12) (M_isSaved z12) (M_changes z12) (M_isWithin z12) (M_isDenied z12) (M_code z12) (M_why z12) (M_detail z12) (M_cause z12) (M_input z12) (M_length z12) (M_fault z12) (M_signs z12) (M_signMany z12) (M_lastOver z12) (M_at z12) (M_told z12) (M_toldMany z12)))))))))))))) else (F_X5_denies z9.2 2 2 (z10 - z11)).bind (fun z13 => some (z13.1, z13.2)))) else (F_X5_denies z9.2 2 1 8).bind (fun z14 => some (z14.1, z14.2))) else ck (inb 3 83) ((F_X5_denies z9.2 2 3 ((M_g z9.2) (3 : Int32).toNatClampNeg)).bind (fun z15 => some (z15.1, z15.2)))) else some (0, z9.2)))
set_option maxHeartbeats 4000000 in
set_option maxRecDepth 100000 in
theorem c_X5_enter (g : GG) (l : Launch) (a : Nat → Nat) (mo : Mv) (p0 : Int32) (z : Int32 × Mv) (hF : F_X5_enter mo p0 = some z) : MI g l yX5_enter cX5_enter 4 (some .int) ({ frames := 3, cells := 0, slots := 0, locals := 65 } : Room) [.ref (a 0), .int p0] [wM g a mo] 0 0 z.1 [wM g a z.2] := by
  refine MI.bg (by decide) (Nat.le_of_ble_eq_true rfl) ?_
  intro p e s m below meth c A Q hQ hx hb hr hml hown hts hlocks hmn hK hE hA hP hD hS ls hl
  rw [F_X5_enter] at hF
  have hl : lv_has ls 4 [(0, .ref (a 0)), (1, .int p0)] := hl
  refine lv_aload_n hx hb dX5_enter_0 rfl (lv_at hl 0 rfl) ?_
  refine lv_iload_n hx hb dX5_enter_1 rfl (lv_at hl 1 rfl) ?_
  refine lv_iconst (v := 1) hx hb dX5_enter_2 (by decide) ?_
  refine lv_bipush (v := 99) hx hb dX5_enter_3 (by decide) ?_
  obtain ⟨z1, hz1, hF⟩ := ob_bind hF
  refine cl_si (csR := [wM g a mo]) (csF := [wM g a mo]) (rest := [.ref (a 0)]) hx hb hml hown hts hK hE hA hl hP hD hS (c_X5_in g l  p0 1 99 z1 hz1) [] [0] [0] ⟨rfl, rfl, rfl, rfl, rfl, rfl, rfl⟩ 3 (jb_giS mw_1389 mw_1390 mw_10 mw_1391) ⟨rfl, rfl⟩ (by decide +kernel) ⟨⟨(Nat.le_of_ble_eq_true rfl), (Nat.le_of_ble_eq_true rfl)⟩, (Nat.le_of_ble_eq_true rfl), (Nat.le_of_ble_eq_true rfl)⟩ ⟨rfl, rfl⟩ (Nat.le_of_ble_eq_true rfl) dX5_enter_5 (fun H locs hP hD hS => ?_)
  refine lv_if_eq (tgt := 15) hx hb dX5_enter_8 (by decide) (fun c2 => ?_) (fun c2 => ?_)
  · have hF := ob_pos c2 hF
    refine lv_iconst (v := 1) hx hb dX5_enter_15 (by decide) ?_
    obtain ⟨z3, hz3, hF⟩ := ob_bind hF
    refine cl_i (csR := []) (csF := [wM g a z3.2]) (rest := []) hx hb hml hown hts hK hE hA hl hP hD hS (c_X5_fails g l a mo 1 z3 hz3) [0] [] [0] ⟨rfl, rfl, rfl, rfl, rfl, rfl, rfl⟩ ⟨0, 9, _, _, rfl, rfl, rfl⟩ 1 (jb_giV mw_1392 mw_1394 ms_32 mw_10 mw_1395) ⟨rfl, rfl⟩ (by decide +kernel) ⟨⟨(Nat.le_of_ble_eq_true rfl), (Nat.le_of_ble_eq_true rfl)⟩, (Nat.le_of_ble_eq_true rfl), (Nat.le_of_ble_eq_true rfl)⟩ ⟨rfl, rfl⟩ (Nat.le_of_ble_eq_true rfl) dX5_enter_16 (fun H locs hP hD hS => ?_)
    refine lv_if_eq (tgt := 24) hx hb dX5_enter_19 (by decide) (fun c4 => ?_) (fun c4 => ?_)
    · have hF := ob_pos c4 hF
      refine lv_aload_n hx hb dX5_enter_24 rfl (lv_at hl 0 rfl) ?_
      refine va_get (D := g.1) (ci := 9) (v := .ref (a 1)) (C := RX5) (T := TX5) (N := 23) hx hb hts inX5 hown hK hP 0 rfl rfl 0 (by decide) (hts _ mw_1311) (fun _ h9 => h9) rfl dX5_enter_25 ?_
      refine lv_iconst (v := 0) hx hb dX5_enter_28 (by decide) ?_
      have h5 := inb_in (ck_t hF)
      have hF := ck_s hF
      refine va_iald hx hb hK hP 1 0 rfl rfl h5 dX5_enter_29 ?_
      refine lv_if_ne (tgt := 46) hx hb dX5_enter_30 (by decide) (fun c6 => ?_) (fun c6 => ?_)
      · have hF := ob_pos c6 hF
        refine lv_aload_n hx hb dX5_enter_46 rfl (lv_at hl 0 rfl) ?_
        refine va_get (D := g.1) (ci := 9) (v := .ref (a 1)) (C := RX5) (T := TX5) (N := 23) hx hb hts inX5 hown hK hP 0 rfl rfl 0 (by decide) (hts _ mw_1311) (fun _ h9 => h9) rfl dX5_enter_47 ?_
        refine lv_iconst (v := 1) hx hb dX5_enter_50 (by decide) ?_
        have h7 := inb_in (ck_t hF)
        have hF := ck_s hF
        refine va_iald hx hb hK hP 1 0 rfl rfl h7 dX5_enter_51 ?_
        refine lv_bipush (v := 8) hx hb dX5_enter_52 (by decide) ?_
        refine lv_icmp_ne (tgt := 66) hx hb dX5_enter_54 (by decide) (fun c8 => ?_) (fun c8 => ?_)
        · have hF := ob_pos c8 hF
          refine lv_aload_n hx hb dX5_enter_66 rfl (lv_at hl 0 rfl) ?_
          refine lv_iconst (v := 0) hx hb dX5_enter_67 (by decide) ?_
          obtain ⟨z9, hz9, hF⟩ := ob_bind hF
          refine cl_i (csR := []) (csF := [wM g a z3.2]) (rest := []) hx hb hml hown hts hK hE hA hl hP hD hS (c_X5_strong g l a z3.2 0 z9 hz9) [0] [] [0] ⟨rfl, rfl, rfl, rfl, rfl, rfl, rfl⟩ ⟨0, 9, _, _, rfl, rfl, rfl⟩ 1 (jb_giV mw_1459 mw_1461 ms_39 mw_10 mw_1462) ⟨rfl, rfl⟩ (by decide +kernel) ⟨⟨(Nat.le_of_ble_eq_true rfl), (Nat.le_of_ble_eq_true rfl)⟩, (Nat.le_of_ble_eq_true rfl), (Nat.le_of_ble_eq_true rfl)⟩ ⟨rfl, rfl⟩ (Nat.le_of_ble_eq_true rfl) dX5_enter_68 (fun H locs hP hD hS => ?_)
          refine lv_aload_n hx hb dX5_enter_71 rfl (lv_at hl 0 rfl) ?_
          refine lv_iconst (v := 0) hx hb dX5_enter_72 (by decide) ?_
          obtain ⟨z10, hz10, hF⟩ := ob_bind hF
          refine cl_i (csR := []) (csF := [wM g a z3.2]) (rest := [.int z9]) hx hb hml hown hts hK hE hA hl hP hD hS (c_X5_loaded g l a z3.2 0 z10 hz10) [0] [] [0] ⟨rfl, rfl, rfl, rfl, rfl, rfl, rfl⟩ ⟨0, 9, _, _, rfl, rfl, rfl⟩ 1 (jb_giV mw_1474 mw_1476 ms_41 mw_10 mw_1477) ⟨rfl, rfl⟩ (by decide +kernel) ⟨⟨(Nat.le_of_ble_eq_true rfl), (Nat.le_of_ble_eq_true rfl)⟩, (Nat.le_of_ble_eq_true rfl), (Nat.le_of_ble_eq_true rfl)⟩ ⟨rfl, rfl⟩ (Nat.le_of_ble_eq_true rfl) dX5_enter_73 (fun H locs hP hD hS => ?_)
          refine lv_isub hx hb dX5_enter_76 ?_
          refine lv_istore_n (lv' := [(2, .int (z9 - z10)), (0, .ref (a 0)), (1, .int p0)]) hx hb dX5_enter_77 rfl hl (by decide) rfl (fun ls hl => ?_)
          refine lv_iload_n hx hb dX5_enter_78 rfl (lv_at hl 2 rfl) ?_
          refine lv_iload_n hx hb dX5_enter_79 rfl (lv_at hl 0 rfl) ?_
          refine lv_icmp_le (tgt := 91) hx hb dX5_enter_80 (by decide) (fun c11 => ?_) (fun c11 => ?_)
          · have hF := ob_pos c11 hF
            refine lv_aload_n hx hb dX5_enter_91 rfl (lv_at hl 1 rfl) ?_
            refine lv_aload_n hx hb dX5_enter_92 rfl (lv_at hl 1 rfl) ?_
            refine va_get (D := g.1) (ci := 9) (v := .ref (a 1)) (C := RX5) (T := TX5) (N := 23) hx hb hts inX5 hown hK hP 0 rfl rfl 0 (by decide) (hts _ mw_1311) (fun _ h9 => h9) rfl dX5_enter_93 ?_
            obtain ⟨z12, hz12, hF⟩ := ob_bind hF
            refine cl_v (csR := []) (csF := [wM g a z12]) (rest := []) hx hb hml hown hts hK hE hA hl hP hD hS (c_X5_keeps_g g l a z3.2 z12 hz12) [0] [] [0] ⟨rfl, rfl, rfl, rfl, rfl, rfl, rfl⟩ ⟨0, 9, _, _, rfl, rfl, rfl⟩ 1 (jb_giV mw_1400 mw_1402 ms_34 mw_10 mw_1403) ⟨rfl, rfl⟩ (by decide +kernel) ⟨⟨(Nat.le_of_ble_eq_true rfl), (Nat.le_of_ble_eq_true rfl)⟩, (Nat.le_of_ble_eq_true rfl), (Nat.le_of_ble_eq_true rfl)⟩ ⟨rfl, rfl⟩ (Nat.le_of_ble_eq_true rfl) dX5_enter_96 (fun H locs hP hD hS => ?_)
            refine lv_bipush (v := 59) hx hb dX5_enter_99 (by decide) ?_
            refine lv_iconst (v := 3) hx hb dX5_enter_101 (by decide) ?_
            refine lv_aload_n hx hb dX5_enter_102 rfl (lv_at hl 1 rfl) ?_
            refine va_get (D := g.1) (ci := 9) (v := .ref (a 1)) (C := RX5) (T := TX5) (N := 23) hx hb hts inX5 hown hK hP 0 rfl rfl 0 (by decide) (hts _ mw_1311) (fun _ h9 => h9) rfl dX5_enter_103 ?_
            refine lv_iconst (v := 1) hx hb dX5_enter_106 (by decide) ?_
            have h13 := inb_in (ck_t hF)
            have hF := ck_s hF
            refine va_iald hx hb hK hP 1 0 rfl rfl h13 dX5_enter_107 ?_
            refine lv_imul hx hb dX5_enter_108 ?_
            refine lv_iadd hx hb dX5_enter_109 ?_
            refine lv_istore_n (lv' := [(3, .int (59 + (3 * ((M_g z12) (1 : Int32).toNatClampNeg)))), (2, .int (z9 - z10)), (0, .ref (a 0)), (1, .int p0)]) hx hb dX5_enter_110 rfl hl (by decide) rfl (fun ls hl => ?_)
            refine lv_aload_n hx hb dX5_enter_111 rfl (lv_at hl 2 rfl) ?_
            refine va_get (D := g.1) (ci := 9) (v := .ref (a 1)) (C := RX5) (T := TX5) (N := 23) hx hb hts inX5 hown hK hP 0 rfl rfl 0 (by decide) (hts _ mw_1311) (fun _ h9 => h9) rfl dX5_enter_112 ?_
            refine lv_iload_n hx hb dX5_enter_115 rfl (lv_at hl 0 rfl) ?_
            refine lv_iconst (v := 0) hx hb dX5_enter_116 (by decide) ?_
            refine lv_iadd hx hb dX5_enter_117 ?_
            refine lv_aload_n hx hb dX5_enter_118 rfl (lv_at hl 2 rfl) ?_
            refine va_get (D := g.1) (ci := 9) (v := .ref (a 1)) (C := RX5) (T := TX5) (N := 23) hx hb hts inX5 hown hK hP 0 rfl rfl 0 (by decide) (hts _ mw_1311) (fun _ h9 => h9) rfl dX5_enter_119 ?_
            refine lv_iconst (v := 2) hx hb dX5_enter_122 (by decide) ?_
            have h14 := inb_in (ck_t hF)
            have hF := ck_s hF
            refine va_iald hx hb hK hP 1 0 rfl rfl h14 dX5_enter_123 ?_
            have h15 := inb_in (ck_t hF)
            have hF := ck_s hF
            refine va_iast hx hb hK hP hD hS 1 0 rfl rfl h15 dX5_enter_124 (fun H locs hP hD hS => ?_)
            have hP : va_P g.1 vwCl ([wMc g a (upd (M_g z12) ((59 + (3 * ((M_g z12) (1 : Int32).toNatClampNeg))) + 0).toNatClampNeg ((M_g z12) (2 : Int32).toNatClampNeg)) (M_kept z12) (M_saved z12) (M_before z12) (M_trial z12) (M_counted z12) (M_isSaved z12) (M_changes z12) (M_isWithin z12) (M_isDenied z12) (M_code z12) (M_why z12) (M_detail z12) (M_cause z12) (M_input z12) (M_length z12) (M_fault z12) (M_signs z12) (M_signMany z12) (M_lastOver z12) (M_at z12) (M_told z12) (M_toldMany z12)] : List va_W).flatten _ := hP
            have hD : va_D A ([wMc g a (upd (M_g z12) ((59 + (3 * ((M_g z12) (1 : Int32).toNatClampNeg))) + 0).toNatClampNeg ((M_g z12) (2 : Int32).toNatClampNeg)) (M_kept z12) (M_saved z12) (M_before z12) (M_trial z12) (M_counted z12) (M_isSaved z12) (M_changes z12) (M_isWithin z12) (M_isDenied z12) (M_code z12) (M_why z12) (M_detail z12) (M_cause z12) (M_input z12) (M_length z12) (M_fault z12) (M_signs z12) (M_signMany z12) (M_lastOver z12) (M_at z12) (M_told z12) (M_toldMany z12)] : List va_W).flatten := hD
            refine lv_aload_n hx hb dX5_enter_125 rfl (lv_at hl 2 rfl) ?_
            refine va_get (D := g.1) (ci := 9) (v := .ref (a 1)) (C := RX5) (T := TX5) (N := 23) hx hb hts inX5 hown hK hP 0 rfl rfl 0 (by decide) (hts _ mw_1311) (fun _ h9 => h9) rfl dX5_enter_126 ?_
            refine lv_iload_n hx hb dX5_enter_129 rfl (lv_at hl 0 rfl) ?_
            refine lv_iconst (v := 1) hx hb dX5_enter_130 (by decide) ?_
            refine lv_iadd hx hb dX5_enter_131 ?_
            refine lv_iload_n hx hb dX5_enter_132 rfl (lv_at hl 3 rfl) ?_
            have h16 := inb_in (ck_t hF)
            have hF := ck_s hF
            refine va_iast hx hb hK hP hD hS 1 0 rfl rfl h16 dX5_enter_133 (fun H locs hP hD hS => ?_)
            have hP : va_P g.1 vwCl ([wMc g a (upd (upd (M_g z12) ((59 + (3 * ((M_g z12) (1 : Int32).toNatClampNeg))) + 0).toNatClampNeg ((M_g z12) (2 : Int32).toNatClampNeg)) ((59 + (3 * ((M_g z12) (1 : Int32).toNatClampNeg))) + 1).toNatClampNeg p0) (M_kept z12) (M_saved z12) (M_before z12) (M_trial z12) (M_counted z12) (M_isSaved z12) (M_changes z12) (M_isWithin z12) (M_isDenied z12) (M_code z12) (M_why z12) (M_detail z12) (M_cause z12) (M_input z12) (M_length z12) (M_fault z12) (M_signs z12) (M_signMany z12) (M_lastOver z12) (M_at z12) (M_told z12) (M_toldMany z12)] : List va_W).flatten _ := hP
            have hD : va_D A ([wMc g a (upd (upd (M_g z12) ((59 + (3 * ((M_g z12) (1 : Int32).toNatClampNeg))) + 0).toNatClampNeg ((M_g z12) (2 : Int32).toNatClampNeg)) ((59 + (3 * ((M_g z12) (1 : Int32).toNatClampNeg))) + 1).toNatClampNeg p0) (M_kept z12) (M_saved z12) (M_before z12) (M_trial z12) (M_counted z12) (M_isSaved z12) (M_changes z12) (M_isWithin z12) (M_isDenied z12) (M_code z12) (M_why z12) (M_detail z12) (M_cause z12) (M_input z12) (M_length z12) (M_fault z12) (M_signs z12) (M_signMany z12) (M_lastOver z12) (M_at z12) (M_told z12) (M_toldMany z12)] : List va_W).flatten := hD
            refine lv_aload_n hx hb dX5_enter_134 rfl (lv_at hl 2 rfl) ?_
            refine va_get (D := g.1) (ci := 9) (v := .ref (a 1)) (C := RX5) (T := TX5) (N := 23) hx hb hts inX5 hown hK hP 0 rfl rfl 0 (by decide) (hts _ mw_1311) (fun _ h9 => h9) rfl dX5_enter_135 ?_
            refine lv_iload_n hx hb dX5_enter_138 rfl (lv_at hl 0 rfl) ?_
            refine lv_iconst (v := 2) hx hb dX5_enter_139 (by decide) ?_
            refine lv_iadd hx hb dX5_enter_140 ?_
            refine lv_iconst (v := 0) hx hb dX5_enter_141 (by decide) ?_
            have h17 := inb_in (ck_t hF)
            have hF := ck_s hF
            refine va_iast hx hb hK hP hD hS 1 0 rfl rfl h17 dX5_enter_142 (fun H locs hP hD hS => ?_)
            have hP : va_P g.1 vwCl ([wMc g a (upd (upd (upd (M_g z12) ((59 + (3 * ((M_g z12) (1 : Int32).toNatClampNeg))) + 0).toNatClampNeg ((M_g z12) (2 : Int32).toNatClampNeg)) ((59 + (3 * ((M_g z12) (1 : Int32).toNatClampNeg))) + 1).toNatClampNeg p0) ((59 + (3 * ((M_g z12) (1 : Int32).toNatClampNeg))) + 2).toNatClampNeg 0) (M_kept z12) (M_saved z12) (M_before z12) (M_trial z12) (M_counted z12) (M_isSaved z12) (M_changes z12) (M_isWithin z12) (M_isDenied z12) (M_code z12) (M_why z12) (M_detail z12) (M_cause z12) (M_input z12) (M_length z12) (M_fault z12) (M_signs z12) (M_signMany z12) (M_lastOver z12) (M_at z12) (M_told z12) (M_toldMany z12)] : List va_W).flatten _ := hP
            have hD : va_D A ([wMc g a (upd (upd (upd (M_g z12) ((59 + (3 * ((M_g z12) (1 : Int32).toNatClampNeg))) + 0).toNatClampNeg ((M_g z12) (2 : Int32).toNatClampNeg)) ((59 + (3 * ((M_g z12) (1 : Int32).toNatClampNeg))) + 1).toNatClampNeg p0) ((59 + (3 * ((M_g z12) (1 : Int32).toNatClampNeg))) + 2).toNatClampNeg 0) (M_kept z12) (M_saved z12) (M_before z12) (M_trial z12) (M_counted z12) (M_isSaved z12) (M_changes z12) (M_isWithin z12) (M_isDenied z12) (M_code z12) (M_why z12) (M_detail z12) (M_cause z12) (M_input z12) (M_length z12) (M_fault z12) (M_signs z12) (M_signMany z12) (M_lastOver z12) (M_at z12) (M_told z12) (M_toldMany z12)] : List va_W).flatten := hD
            refine lv_aload_n hx hb dX5_enter_143 rfl (lv_at hl 2 rfl) ?_
            refine va_get (D := g.1) (ci := 9) (v := .ref (a 1)) (C := RX5) (T := TX5) (N := 23) hx hb hts inX5 hown hK hP 0 rfl rfl 0 (by decide) (hts _ mw_1311) (fun _ h9 => h9) rfl dX5_enter_144 ?_
            refine lv_iconst (v := 1) hx hb dX5_enter_147 (by decide) ?_
            refine lv_dup2_11 hx hb dX5_enter_148 rfl rfl ?_
            have h18 := inb_in (ck_t hF)
            have hF := ck_s hF
            refine va_iald hx hb hK hP 1 0 rfl rfl h18 dX5_enter_149 ?_
            refine lv_iconst (v := 1) hx hb dX5_enter_150 (by decide) ?_
            refine lv_iadd hx hb dX5_enter_151 ?_
            have h19 := inb_in (ck_t hF)
            have hF := ck_s hF
            refine va_iast hx hb hK hP hD hS 1 0 rfl rfl h19 dX5_enter_152 (fun H locs hP hD hS => ?_)
            have hP : va_P g.1 vwCl ([wMc g a (upd (upd (upd (upd (M_g z12) ((59 + (3 * ((M_g z12) (1 : Int32).toNatClampNeg))) + 0).toNatClampNeg ((M_g z12) (2 : Int32).toNatClampNeg)) ((59 + (3 * ((M_g z12) (1 : Int32).toNatClampNeg))) + 1).toNatClampNeg p0) ((59 + (3 * ((M_g z12) (1 : Int32).toNatClampNeg))) + 2).toNatClampNeg 0) (1 : Int32).toNatClampNeg (((upd (upd (upd (M_g z12) ((59 + (3 * ((M_g z12) (1 : Int32).toNatClampNeg))) + 0).toNatClampNeg ((M_g z12) (2 : Int32).toNatClampNeg)) ((59 + (3 * ((M_g z12) (1 : Int32).toNatClampNeg))) + 1).toNatClampNeg p0) ((59 + (3 * ((M_g z12) (1 : Int32).toNatClampNeg))) + 2).toNatClampNeg 0) (1 : Int32).toNatClampNeg) + 1)) (M_kept z12) (M_saved z12) (M_before z12) (M_trial z12) (M_counted z12) (M_isSaved z12) (M_changes z12) (M_isWithin z12) (M_isDenied z12) (M_code z12) (M_why z12) (M_detail z12) (M_cause z12) (M_input z12) (M_length z12) (M_fault z12) (M_signs z12) (M_signMany z12) (M_lastOver z12) (M_at z12) (M_told z12) (M_toldMany z12)] : List va_W).flatten _ := hP
            have hD : va_D A ([wMc g a (upd (upd (upd (upd (M_g z12) ((59 + (3 * ((M_g z12) (1 : Int32).toNatClampNeg))) + 0).toNatClampNeg ((M_g z12) (2 : Int32).toNatClampNeg)) ((59 + (3 * ((M_g z12) (1 : Int32).toNatClampNeg))) + 1).toNatClampNeg p0) ((59 + (3 * ((M_g z12) (1 : Int32).toNatClampNeg))) + 2).toNatClampNeg 0) (1 : Int32).toNatClampNeg (((upd (upd (upd (M_g z12) ((59 + (3 * ((M_g z12) (1 : Int32).toNatClampNeg))) + 0).toNatClampNeg ((M_g z12) (2 : Int32).toNatClampNeg)) ((59 + (3 * ((M_g z12) (1 : Int32).toNatClampNeg))) + 1).toNatClampNeg p0) ((59 + (3 * ((M_g z12) (1 : Int32).toNatClampNeg))) + 2).toNatClampNeg 0) (1 : Int32).toNatClampNeg) + 1)) (M_kept z12) (M_saved z12) (M_before z12) (M_trial z12) (M_counted z12) (M_isSaved z12) (M_changes z12) (M_isWithin z12) (M_isDenied z12) (M_code z12) (M_why z12) (M_detail z12) (M_cause z12) (M_input z12) (M_length z12) (M_fault z12) (M_signs z12) (M_signMany z12) (M_lastOver z12) (M_at z12) (M_told z12) (M_toldMany z12)] : List va_W).flatten := hD
            refine lv_aload_n hx hb dX5_enter_153 rfl (lv_at hl 2 rfl) ?_
            refine va_get (D := g.1) (ci := 9) (v := .ref (a 1)) (C := RX5) (T := TX5) (N := 23) hx hb hts inX5 hown hK hP 0 rfl rfl 0 (by decide) (hts _ mw_1311) (fun _ h9 => h9) rfl dX5_enter_154 ?_
            refine lv_iconst (v := 2) hx hb dX5_enter_157 (by decide) ?_
            refine lv_dup2_11 hx hb dX5_enter_158 rfl rfl ?_
            have h20 := inb_in (ck_t hF)
            have hF := ck_s hF
            refine va_iald hx hb hK hP 1 0 rfl rfl h20 dX5_enter_159 ?_
            refine lv_iconst (v := 1) hx hb dX5_enter_160 (by decide) ?_
            refine lv_iadd hx hb dX5_enter_161 ?_
            have h21 := inb_in (ck_t hF)
            have hF := ck_s hF
            refine va_iast hx hb hK hP hD hS 1 0 rfl rfl h21 dX5_enter_162 (fun H locs hP hD hS => ?_)
            have hP : va_P g.1 vwCl ([wMc g a (upd (upd (upd (upd (upd (M_g z12) ((59 + (3 * ((M_g z12) (1 : Int32).toNatClampNeg))) + 0).toNatClampNeg ((M_g z12) (2 : Int32).toNatClampNeg)) ((59 + (3 * ((M_g z12) (1 : Int32).toNatClampNeg))) + 1).toNatClampNeg p0) ((59 + (3 * ((M_g z12) (1 : Int32).toNatClampNeg))) + 2).toNatClampNeg 0) (1 : Int32).toNatClampNeg (((upd (upd (upd (M_g z12) ((59 + (3 * ((M_g z12) (1 : Int32).toNatClampNeg))) + 0).toNatClampNeg ((M_g z12) (2 : Int32).toNatClampNeg)) ((59 + (3 * ((M_g z12) (1 : Int32).toNatClampNeg))) + 1).toNatClampNeg p0) ((59 + (3 * ((M_g z12) (1 : Int32).toNatClampNeg))) + 2).toNatClampNeg 0) (1 : Int32).toNatClampNeg) + 1)) (2 : Int32).toNatClampNeg (((upd (upd (upd (upd (M_g z12) ((59 + (3 * ((M_g z12) (1 : Int32).toNatClampNeg))) + 0).toNatClampNeg ((M_g z12) (2 : Int32).toNatClampNeg)) ((59 + (3 * ((M_g z12) (1 : Int32).toNatClampNeg))) + 1).toNatClampNeg p0) ((59 + (3 * ((M_g z12) (1 : Int32).toNatClampNeg))) + 2).toNatClampNeg 0) (1 : Int32).toNatClampNeg (((upd (upd (upd (M_g z12) ((59 + (3 * ((M_g z12) (1 : Int32).toNatClampNeg))) + 0).toNatClampNeg ((M_g z12) (2 : Int32).toNatClampNeg)) ((59 + (3 * ((M_g z12) (1 : Int32).toNatClampNeg))) + 1).toNatClampNeg p0) ((59 + (3 * ((M_g z12) (1 : Int32).toNatClampNeg))) + 2).toNatClampNeg 0) (1 : Int32).toNatClampNeg) + 1)) (2 : Int32).toNatClampNeg) + 1)) (M_kept z12) (M_saved z12) (M_before z12) (M_trial z12) (M_counted z12) (M_isSaved z12) (M_changes z12) (M_isWithin z12) (M_isDenied z12) (M_code z12) (M_why z12) (M_detail z12) (M_cause z12) (M_input z12) (M_length z12) (M_fault z12) (M_signs z12) (M_signMany z12) (M_lastOver z12) (M_at z12) (M_told z12) (M_toldMany z12)] : List va_W).flatten _ := hP
            have hD : va_D A ([wMc g a (upd (upd (upd (upd (upd (M_g z12) ((59 + (3 * ((M_g z12) (1 : Int32).toNatClampNeg))) + 0).toNatClampNeg ((M_g z12) (2 : Int32).toNatClampNeg)) ((59 + (3 * ((M_g z12) (1 : Int32).toNatClampNeg))) + 1).toNatClampNeg p0) ((59 + (3 * ((M_g z12) (1 : Int32).toNatClampNeg))) + 2).toNatClampNeg 0) (1 : Int32).toNatClampNeg (((upd (upd (upd (M_g z12) ((59 + (3 * ((M_g z12) (1 : Int32).toNatClampNeg))) + 0).toNatClampNeg ((M_g z12) (2 : Int32).toNatClampNeg)) ((59 + (3 * ((M_g z12) (1 : Int32).toNatClampNeg))) + 1).toNatClampNeg p0) ((59 + (3 * ((M_g z12) (1 : Int32).toNatClampNeg))) + 2).toNatClampNeg 0) (1 : Int32).toNatClampNeg) + 1)) (2 : Int32).toNatClampNeg (((upd (upd (upd (upd (M_g z12) ((59 + (3 * ((M_g z12) (1 : Int32).toNatClampNeg))) + 0).toNatClampNeg ((M_g z12) (2 : Int32).toNatClampNeg)) ((59 + (3 * ((M_g z12) (1 : Int32).toNatClampNeg))) + 1).toNatClampNeg p0) ((59 + (3 * ((M_g z12) (1 : Int32).toNatClampNeg))) + 2).toNatClampNeg 0) (1 : Int32).toNatClampNeg (((upd (upd (upd (M_g z12) ((59 + (3 * ((M_g z12) (1 : Int32).toNatClampNeg))) + 0).toNatClampNeg ((M_g z12) (2 : Int32).toNatClampNeg)) ((59 + (3 * ((M_g z12) (1 : Int32).toNatClampNeg))) + 1).toNatClampNeg p0) ((59 + (3 * ((M_g z12) (1 : Int32).toNatClampNeg))) + 2).toNatClampNeg 0) (1 : Int32).toNatClampNeg) + 1)) (2 : Int32).toNatClampNeg) + 1)) (M_kept z12) (M_saved z12) (M_before z12) (M_trial z12) (M_counted z12) (M_isSaved z12) (M_changes z12) (M_isWithin z12) (M_isDenied z12) (M_code z12) (M_why z12) (M_detail z12) (M_cause z12) (M_input z12) (M_length z12) (M_fault z12) (M_signs z12) (M_signMany z12) (M_lastOver z12) (M_at z12) (M_told z12) (M_toldMany z12)] : List va_W).flatten := hD
            refine lv_aload_n hx hb dX5_enter_163 rfl (lv_at hl 2 rfl) ?_
            refine va_get (D := g.1) (ci := 9) (v := .ref (a 1)) (C := RX5) (T := TX5) (N := 23) hx hb hts inX5 hown hK hP 0 rfl rfl 0 (by decide) (hts _ mw_1311) (fun _ h9 => h9) rfl dX5_enter_164 ?_
            refine lv_iconst (v := 2) hx hb dX5_enter_167 (by decide) ?_
            have h22 := inb_in (ck_t hF)
            have hF := ck_s hF
            refine va_iald hx hb hK hP 1 0 rfl rfl h22 dX5_enter_168 ?_
            refine lv_iconst (v := 1) hx hb dX5_enter_169 (by decide) ?_
            refine lv_isub hx hb dX5_enter_170 ?_
            cases hF
            rw [hQ]
            exact jb_iret hx hb hr hlocks hP hD hS dX5_enter_171 rfl (Nat.le_of_ble_eq_true rfl) (Nat.le_of_ble_eq_true rfl)
          · have hF := ob_neg c11 hF
            refine lv_aload_n hx hb dX5_enter_83 rfl (lv_at hl 1 rfl) ?_
            refine lv_iconst (v := 2) hx hb dX5_enter_84 (by decide) ?_
            refine lv_iconst (v := 2) hx hb dX5_enter_85 (by decide) ?_
            refine lv_iload_n hx hb dX5_enter_86 rfl (lv_at hl 0 rfl) ?_
            obtain ⟨z23, hz23, hF⟩ := ob_bind hF
            refine cl_i (csR := []) (csF := [wM g a z23.2]) (rest := []) hx hb hml hown hts hK hE hA hl hP hD hS (c_X5_denies g l a z3.2 2 2 (z9 - z10) z23 hz23) [0] [] [0] ⟨rfl, rfl, rfl, rfl, rfl, rfl, rfl⟩ ⟨0, 9, _, _, rfl, rfl, rfl⟩ 3 (jb_giV mw_1396 mw_1398 ms_33 mw_10 mw_1399) ⟨rfl, rfl⟩ (by decide +kernel) ⟨⟨(Nat.le_of_ble_eq_true rfl), (Nat.le_of_ble_eq_true rfl)⟩, (Nat.le_of_ble_eq_true rfl), (Nat.le_of_ble_eq_true rfl)⟩ ⟨rfl, rfl⟩ (Nat.le_of_ble_eq_true rfl) dX5_enter_87 (fun H locs hP hD hS => ?_)
            cases hF
            rw [hQ]
            exact jb_iret hx hb hr hlocks hP hD hS dX5_enter_90 rfl (Nat.le_of_ble_eq_true rfl) (Nat.le_of_ble_eq_true rfl)
        · have hF := ob_nneg c8 hF
          refine lv_aload_n hx hb dX5_enter_57 rfl (lv_at hl 0 rfl) ?_
          refine lv_iconst (v := 2) hx hb dX5_enter_58 (by decide) ?_
          refine lv_iconst (v := 1) hx hb dX5_enter_59 (by decide) ?_
          refine lv_bipush (v := 8) hx hb dX5_enter_60 (by decide) ?_
          obtain ⟨z24, hz24, hF⟩ := ob_bind hF
          refine cl_i (csR := []) (csF := [wM g a z24.2]) (rest := []) hx hb hml hown hts hK hE hA hl hP hD hS (c_X5_denies g l a z3.2 2 1 8 z24 hz24) [0] [] [0] ⟨rfl, rfl, rfl, rfl, rfl, rfl, rfl⟩ ⟨0, 9, _, _, rfl, rfl, rfl⟩ 3 (jb_giV mw_1396 mw_1398 ms_33 mw_10 mw_1399) ⟨rfl, rfl⟩ (by decide +kernel) ⟨⟨(Nat.le_of_ble_eq_true rfl), (Nat.le_of_ble_eq_true rfl)⟩, (Nat.le_of_ble_eq_true rfl), (Nat.le_of_ble_eq_true rfl)⟩ ⟨rfl, rfl⟩ (Nat.le_of_ble_eq_true rfl) dX5_enter_62 (fun H locs hP hD hS => ?_)
          cases hF
          rw [hQ]
          exact jb_iret hx hb hr hlocks hP hD hS dX5_enter_65 rfl (Nat.le_of_ble_eq_true rfl) (Nat.le_of_ble_eq_true rfl)
      · have hF := ob_nneg c6 hF
        refine lv_aload_n hx hb dX5_enter_33 rfl (lv_at hl 0 rfl) ?_
        refine lv_iconst (v := 2) hx hb dX5_enter_34 (by decide) ?_
        refine lv_iconst (v := 3) hx hb dX5_enter_35 (by decide) ?_
        refine lv_aload_n hx hb dX5_enter_36 rfl (lv_at hl 0 rfl) ?_
        refine va_get (D := g.1) (ci := 9) (v := .ref (a 1)) (C := RX5) (T := TX5) (N := 23) hx hb hts inX5 hown hK hP 0 rfl rfl 0 (by decide) (hts _ mw_1311) (fun _ h9 => h9) rfl dX5_enter_37 ?_
        refine lv_iconst (v := 3) hx hb dX5_enter_40 (by decide) ?_
        have h25 := inb_in (ck_t hF)
        have hF := ck_s hF
        refine va_iald hx hb hK hP 1 0 rfl rfl h25 dX5_enter_41 ?_
        obtain ⟨z26, hz26, hF⟩ := ob_bind hF
        refine cl_i (csR := []) (csF := [wM g a z26.2]) (rest := []) hx hb hml hown hts hK hE hA hl hP hD hS (c_X5_denies g l a z3.2 2 3 ((M_g z3.2) (3 : Int32).toNatClampNeg) z26 hz26) [0] [] [0] ⟨rfl, rfl, rfl, rfl, rfl, rfl, rfl⟩ ⟨0, 9, _, _, rfl, rfl, rfl⟩ 3 (jb_giV mw_1396 mw_1398 ms_33 mw_10 mw_1399) ⟨rfl, rfl⟩ (by decide +kernel) ⟨⟨(Nat.le_of_ble_eq_true rfl), (Nat.le_of_ble_eq_true rfl)⟩, (Nat.le_of_ble_eq_true rfl), (Nat.le_of_ble_eq_true rfl)⟩ ⟨rfl, rfl⟩ (Nat.le_of_ble_eq_true rfl) dX5_enter_42 (fun H locs hP hD hS => ?_)
        cases hF
        rw [hQ]
        exact jb_iret hx hb hr hlocks hP hD hS dX5_enter_45 rfl (Nat.le_of_ble_eq_true rfl) (Nat.le_of_ble_eq_true rfl)
    · have hF := ob_neg c4 hF
      refine lv_iconst (v := 0) hx hb dX5_enter_22 (by decide) ?_
      cases hF
      rw [hQ]
      exact jb_iret hx hb hr hlocks hP hD hS dX5_enter_23 rfl (Nat.le_of_ble_eq_true rfl) (Nat.le_of_ble_eq_true rfl)
  · have hF := ob_neg c2 hF
    refine lv_iconst (v := 0) hx hb dX5_enter_11 (by decide) ?_
    refine lv_goto (tgt := 16) hx hb dX5_enter_12 (by decide) ?_
    obtain ⟨z27, hz27, hF⟩ := ob_bind hF
    refine cl_i (csR := []) (csF := [wM g a z27.2]) (rest := []) hx hb hml hown hts hK hE hA hl hP hD hS (c_X5_fails g l a mo 0 z27 hz27) [0] [] [0] ⟨rfl, rfl, rfl, rfl, rfl, rfl, rfl⟩ ⟨0, 9, _, _, rfl, rfl, rfl⟩ 1 (jb_giV mw_1392 mw_1394 ms_32 mw_10 mw_1395) ⟨rfl, rfl⟩ (by decide +kernel) ⟨⟨(Nat.le_of_ble_eq_true rfl), (Nat.le_of_ble_eq_true rfl)⟩, (Nat.le_of_ble_eq_true rfl), (Nat.le_of_ble_eq_true rfl)⟩ ⟨rfl, rfl⟩ (Nat.le_of_ble_eq_true rfl) dX5_enter_16 (fun H locs hP hD hS => ?_)
    refine lv_if_eq (tgt := 24) hx hb dX5_enter_19 (by decide) (fun c28 => ?_) (fun c28 => ?_)
    · have hF := ob_pos c28 hF
      refine lv_aload_n hx hb dX5_enter_24 rfl (lv_at hl 0 rfl) ?_
      refine va_get (D := g.1) (ci := 9) (v := .ref (a 1)) (C := RX5) (T := TX5) (N := 23) hx hb hts inX5 hown hK hP 0 rfl rfl 0 (by decide) (hts _ mw_1311) (fun _ h9 => h9) rfl dX5_enter_25 ?_
      refine lv_iconst (v := 0) hx hb dX5_enter_28 (by decide) ?_
      have h29 := inb_in (ck_t hF)
      have hF := ck_s hF
      refine va_iald hx hb hK hP 1 0 rfl rfl h29 dX5_enter_29 ?_
      refine lv_if_ne (tgt := 46) hx hb dX5_enter_30 (by decide) (fun c30 => ?_) (fun c30 => ?_)
      · have hF := ob_pos c30 hF
        refine lv_aload_n hx hb dX5_enter_46 rfl (lv_at hl 0 rfl) ?_
        refine va_get (D := g.1) (ci := 9) (v := .ref (a 1)) (C := RX5) (T := TX5) (N := 23) hx hb hts inX5 hown hK hP 0 rfl rfl 0 (by decide) (hts _ mw_1311) (fun _ h9 => h9) rfl dX5_enter_47 ?_
        refine lv_iconst (v := 1) hx hb dX5_enter_50 (by decide) ?_
        have h31 := inb_in (ck_t hF)
        have hF := ck_s hF
        refine va_iald hx hb hK hP 1 0 rfl rfl h31 dX5_enter_51 ?_
        refine lv_bipush (v := 8) hx hb dX5_enter_52 (by decide) ?_
        refine lv_icmp_ne (tgt := 66) hx hb dX5_enter_54 (by decide) (fun c32 => ?_) (fun c32 => ?_)
        · have hF := ob_pos c32 hF
          refine lv_aload_n hx hb dX5_enter_66 rfl (lv_at hl 0 rfl) ?_
          refine lv_iconst (v := 0) hx hb dX5_enter_67 (by decide) ?_
          obtain ⟨z33, hz33, hF⟩ := ob_bind hF
          refine cl_i (csR := []) (csF := [wM g a z27.2]) (rest := []) hx hb hml hown hts hK hE hA hl hP hD hS (c_X5_strong g l a z27.2 0 z33 hz33) [0] [] [0] ⟨rfl, rfl, rfl, rfl, rfl, rfl, rfl⟩ ⟨0, 9, _, _, rfl, rfl, rfl⟩ 1 (jb_giV mw_1459 mw_1461 ms_39 mw_10 mw_1462) ⟨rfl, rfl⟩ (by decide +kernel) ⟨⟨(Nat.le_of_ble_eq_true rfl), (Nat.le_of_ble_eq_true rfl)⟩, (Nat.le_of_ble_eq_true rfl), (Nat.le_of_ble_eq_true rfl)⟩ ⟨rfl, rfl⟩ (Nat.le_of_ble_eq_true rfl) dX5_enter_68 (fun H locs hP hD hS => ?_)
          refine lv_aload_n hx hb dX5_enter_71 rfl (lv_at hl 0 rfl) ?_
          refine lv_iconst (v := 0) hx hb dX5_enter_72 (by decide) ?_
          obtain ⟨z34, hz34, hF⟩ := ob_bind hF
          refine cl_i (csR := []) (csF := [wM g a z27.2]) (rest := [.int z33]) hx hb hml hown hts hK hE hA hl hP hD hS (c_X5_loaded g l a z27.2 0 z34 hz34) [0] [] [0] ⟨rfl, rfl, rfl, rfl, rfl, rfl, rfl⟩ ⟨0, 9, _, _, rfl, rfl, rfl⟩ 1 (jb_giV mw_1474 mw_1476 ms_41 mw_10 mw_1477) ⟨rfl, rfl⟩ (by decide +kernel) ⟨⟨(Nat.le_of_ble_eq_true rfl), (Nat.le_of_ble_eq_true rfl)⟩, (Nat.le_of_ble_eq_true rfl), (Nat.le_of_ble_eq_true rfl)⟩ ⟨rfl, rfl⟩ (Nat.le_of_ble_eq_true rfl) dX5_enter_73 (fun H locs hP hD hS => ?_)
          refine lv_isub hx hb dX5_enter_76 ?_
          refine lv_istore_n (lv' := [(2, .int (z33 - z34)), (0, .ref (a 0)), (1, .int p0)]) hx hb dX5_enter_77 rfl hl (by decide) rfl (fun ls hl => ?_)
          refine lv_iload_n hx hb dX5_enter_78 rfl (lv_at hl 2 rfl) ?_
          refine lv_iload_n hx hb dX5_enter_79 rfl (lv_at hl 0 rfl) ?_
          refine lv_icmp_le (tgt := 91) hx hb dX5_enter_80 (by decide) (fun c35 => ?_) (fun c35 => ?_)
          · have hF := ob_pos c35 hF
            refine lv_aload_n hx hb dX5_enter_91 rfl (lv_at hl 1 rfl) ?_
            refine lv_aload_n hx hb dX5_enter_92 rfl (lv_at hl 1 rfl) ?_
            refine va_get (D := g.1) (ci := 9) (v := .ref (a 1)) (C := RX5) (T := TX5) (N := 23) hx hb hts inX5 hown hK hP 0 rfl rfl 0 (by decide) (hts _ mw_1311) (fun _ h9 => h9) rfl dX5_enter_93 ?_
            obtain ⟨z36, hz36, hF⟩ := ob_bind hF
            refine cl_v (csR := []) (csF := [wM g a z36]) (rest := []) hx hb hml hown hts hK hE hA hl hP hD hS (c_X5_keeps_g g l a z27.2 z36 hz36) [0] [] [0] ⟨rfl, rfl, rfl, rfl, rfl, rfl, rfl⟩ ⟨0, 9, _, _, rfl, rfl, rfl⟩ 1 (jb_giV mw_1400 mw_1402 ms_34 mw_10 mw_1403) ⟨rfl, rfl⟩ (by decide +kernel) ⟨⟨(Nat.le_of_ble_eq_true rfl), (Nat.le_of_ble_eq_true rfl)⟩, (Nat.le_of_ble_eq_true rfl), (Nat.le_of_ble_eq_true rfl)⟩ ⟨rfl, rfl⟩ (Nat.le_of_ble_eq_true rfl) dX5_enter_96 (fun H locs hP hD hS => ?_)
            refine lv_bipush (v := 59) hx hb dX5_enter_99 (by decide) ?_
            refine lv_iconst (v := 3) hx hb dX5_enter_101 (by decide) ?_
            refine lv_aload_n hx hb dX5_enter_102 rfl (lv_at hl 1 rfl) ?_
            refine va_get (D := g.1) (ci := 9) (v := .ref (a 1)) (C := RX5) (T := TX5) (N := 23) hx hb hts inX5 hown hK hP 0 rfl rfl 0 (by decide) (hts _ mw_1311) (fun _ h9 => h9) rfl dX5_enter_103 ?_
            refine lv_iconst (v := 1) hx hb dX5_enter_106 (by decide) ?_
            have h37 := inb_in (ck_t hF)
            have hF := ck_s hF
            refine va_iald hx hb hK hP 1 0 rfl rfl h37 dX5_enter_107 ?_
            refine lv_imul hx hb dX5_enter_108 ?_
            refine lv_iadd hx hb dX5_enter_109 ?_
            refine lv_istore_n (lv' := [(3, .int (59 + (3 * ((M_g z36) (1 : Int32).toNatClampNeg)))), (2, .int (z33 - z34)), (0, .ref (a 0)), (1, .int p0)]) hx hb dX5_enter_110 rfl hl (by decide) rfl (fun ls hl => ?_)
            refine lv_aload_n hx hb dX5_enter_111 rfl (lv_at hl 2 rfl) ?_
            refine va_get (D := g.1) (ci := 9) (v := .ref (a 1)) (C := RX5) (T := TX5) (N := 23) hx hb hts inX5 hown hK hP 0 rfl rfl 0 (by decide) (hts _ mw_1311) (fun _ h9 => h9) rfl dX5_enter_112 ?_
            refine lv_iload_n hx hb dX5_enter_115 rfl (lv_at hl 0 rfl) ?_
            refine lv_iconst (v := 0) hx hb dX5_enter_116 (by decide) ?_
            refine lv_iadd hx hb dX5_enter_117 ?_
            refine lv_aload_n hx hb dX5_enter_118 rfl (lv_at hl 2 rfl) ?_
            refine va_get (D := g.1) (ci := 9) (v := .ref (a 1)) (C := RX5) (T := TX5) (N := 23) hx hb hts inX5 hown hK hP 0 rfl rfl 0 (by decide) (hts _ mw_1311) (fun _ h9 => h9) rfl dX5_enter_119 ?_
            refine lv_iconst (v := 2) hx hb dX5_enter_122 (by decide) ?_
            have h38 := inb_in (ck_t hF)
            have hF := ck_s hF
            refine va_iald hx hb hK hP 1 0 rfl rfl h38 dX5_enter_123 ?_
            have h39 := inb_in (ck_t hF)
            have hF := ck_s hF
            refine va_iast hx hb hK hP hD hS 1 0 rfl rfl h39 dX5_enter_124 (fun H locs hP hD hS => ?_)
            have hP : va_P g.1 vwCl ([wMc g a (upd (M_g z36) ((59 + (3 * ((M_g z36) (1 : Int32).toNatClampNeg))) + 0).toNatClampNeg ((M_g z36) (2 : Int32).toNatClampNeg)) (M_kept z36) (M_saved z36) (M_before z36) (M_trial z36) (M_counted z36) (M_isSaved z36) (M_changes z36) (M_isWithin z36) (M_isDenied z36) (M_code z36) (M_why z36) (M_detail z36) (M_cause z36) (M_input z36) (M_length z36) (M_fault z36) (M_signs z36) (M_signMany z36) (M_lastOver z36) (M_at z36) (M_told z36) (M_toldMany z36)] : List va_W).flatten _ := hP
            have hD : va_D A ([wMc g a (upd (M_g z36) ((59 + (3 * ((M_g z36) (1 : Int32).toNatClampNeg))) + 0).toNatClampNeg ((M_g z36) (2 : Int32).toNatClampNeg)) (M_kept z36) (M_saved z36) (M_before z36) (M_trial z36) (M_counted z36) (M_isSaved z36) (M_changes z36) (M_isWithin z36) (M_isDenied z36) (M_code z36) (M_why z36) (M_detail z36) (M_cause z36) (M_input z36) (M_length z36) (M_fault z36) (M_signs z36) (M_signMany z36) (M_lastOver z36) (M_at z36) (M_told z36) (M_toldMany z36)] : List va_W).flatten := hD
            refine lv_aload_n hx hb dX5_enter_125 rfl (lv_at hl 2 rfl) ?_
            refine va_get (D := g.1) (ci := 9) (v := .ref (a 1)) (C := RX5) (T := TX5) (N := 23) hx hb hts inX5 hown hK hP 0 rfl rfl 0 (by decide) (hts _ mw_1311) (fun _ h9 => h9) rfl dX5_enter_126 ?_
            refine lv_iload_n hx hb dX5_enter_129 rfl (lv_at hl 0 rfl) ?_
            refine lv_iconst (v := 1) hx hb dX5_enter_130 (by decide) ?_
            refine lv_iadd hx hb dX5_enter_131 ?_
            refine lv_iload_n hx hb dX5_enter_132 rfl (lv_at hl 3 rfl) ?_
            have h40 := inb_in (ck_t hF)
            have hF := ck_s hF
            refine va_iast hx hb hK hP hD hS 1 0 rfl rfl h40 dX5_enter_133 (fun H locs hP hD hS => ?_)
            have hP : va_P g.1 vwCl ([wMc g a (upd (upd (M_g z36) ((59 + (3 * ((M_g z36) (1 : Int32).toNatClampNeg))) + 0).toNatClampNeg ((M_g z36) (2 : Int32).toNatClampNeg)) ((59 + (3 * ((M_g z36) (1 : Int32).toNatClampNeg))) + 1).toNatClampNeg p0) (M_kept z36) (M_saved z36) (M_before z36) (M_trial z36) (M_counted z36) (M_isSaved z36) (M_changes z36) (M_isWithin z36) (M_isDenied z36) (M_code z36) (M_why z36) (M_detail z36) (M_cause z36) (M_input z36) (M_length z36) (M_fault z36) (M_signs z36) (M_signMany z36) (M_lastOver z36) (M_at z36) (M_told z36) (M_toldMany z36)] : List va_W).flatten _ := hP
            have hD : va_D A ([wMc g a (upd (upd (M_g z36) ((59 + (3 * ((M_g z36) (1 : Int32).toNatClampNeg))) + 0).toNatClampNeg ((M_g z36) (2 : Int32).toNatClampNeg)) ((59 + (3 * ((M_g z36) (1 : Int32).toNatClampNeg))) + 1).toNatClampNeg p0) (M_kept z36) (M_saved z36) (M_before z36) (M_trial z36) (M_counted z36) (M_isSaved z36) (M_changes z36) (M_isWithin z36) (M_isDenied z36) (M_code z36) (M_why z36) (M_detail z36) (M_cause z36) (M_input z36) (M_length z36) (M_fault z36) (M_signs z36) (M_signMany z36) (M_lastOver z36) (M_at z36) (M_told z36) (M_toldMany z36)] : List va_W).flatten := hD
            refine lv_aload_n hx hb dX5_enter_134 rfl (lv_at hl 2 rfl) ?_
            refine va_get (D := g.1) (ci := 9) (v := .ref (a 1)) (C := RX5) (T := TX5) (N := 23) hx hb hts inX5 hown hK hP 0 rfl rfl 0 (by decide) (hts _ mw_1311) (fun _ h9 => h9) rfl dX5_enter_135 ?_
            refine lv_iload_n hx hb dX5_enter_138 rfl (lv_at hl 0 rfl) ?_
            refine lv_iconst (v := 2) hx hb dX5_enter_139 (by decide) ?_
            refine lv_iadd hx hb dX5_enter_140 ?_
            refine lv_iconst (v := 0) hx hb dX5_enter_141 (by decide) ?_
            have h41 := inb_in (ck_t hF)
            have hF := ck_s hF
            refine va_iast hx hb hK hP hD hS 1 0 rfl rfl h41 dX5_enter_142 (fun H locs hP hD hS => ?_)
            have hP : va_P g.1 vwCl ([wMc g a (upd (upd (upd (M_g z36) ((59 + (3 * ((M_g z36) (1 : Int32).toNatClampNeg))) + 0).toNatClampNeg ((M_g z36) (2 : Int32).toNatClampNeg)) ((59 + (3 * ((M_g z36) (1 : Int32).toNatClampNeg))) + 1).toNatClampNeg p0) ((59 + (3 * ((M_g z36) (1 : Int32).toNatClampNeg))) + 2).toNatClampNeg 0) (M_kept z36) (M_saved z36) (M_before z36) (M_trial z36) (M_counted z36) (M_isSaved z36) (M_changes z36) (M_isWithin z36) (M_isDenied z36) (M_code z36) (M_why z36) (M_detail z36) (M_cause z36) (M_input z36) (M_length z36) (M_fault z36) (M_signs z36) (M_signMany z36) (M_lastOver z36) (M_at z36) (M_told z36) (M_toldMany z36)] : List va_W).flatten _ := hP
            have hD : va_D A ([wMc g a (upd (upd (upd (M_g z36) ((59 + (3 * ((M_g z36) (1 : Int32).toNatClampNeg))) + 0).toNatClampNeg ((M_g z36) (2 : Int32).toNatClampNeg)) ((59 + (3 * ((M_g z36) (1 : Int32).toNatClampNeg))) + 1).toNatClampNeg p0) ((59 + (3 * ((M_g z36) (1 : Int32).toNatClampNeg))) + 2).toNatClampNeg 0) (M_kept z36) (M_saved z36) (M_before z36) (M_trial z36) (M_counted z36) (M_isSaved z36) (M_changes z36) (M_isWithin z36) (M_isDenied z36) (M_code z36) (M_why z36) (M_detail z36) (M_cause z36) (M_input z36) (M_length z36) (M_fault z36) (M_signs z36) (M_signMany z36) (M_lastOver z36) (M_at z36) (M_told z36) (M_toldMany z36)] : List va_W).flatten := hD
            refine lv_aload_n hx hb dX5_enter_143 rfl (lv_at hl 2 rfl) ?_
            refine va_get (D := g.1) (ci := 9) (v := .ref (a 1)) (C := RX5) (T := TX5) (N := 23) hx hb hts inX5 hown hK hP 0 rfl rfl 0 (by decide) (hts _ mw_1311) (fun _ h9 => h9) rfl dX5_enter_144 ?_
            refine lv_iconst (v := 1) hx hb dX5_enter_147 (by decide) ?_
            refine lv_dup2_11 hx hb dX5_enter_148 rfl rfl ?_
            have h42 := inb_in (ck_t hF)
            have hF := ck_s hF
            refine va_iald hx hb hK hP 1 0 rfl rfl h42 dX5_enter_149 ?_
            refine lv_iconst (v := 1) hx hb dX5_enter_150 (by decide) ?_
            refine lv_iadd hx hb dX5_enter_151 ?_
            have h43 := inb_in (ck_t hF)
            have hF := ck_s hF
            refine va_iast hx hb hK hP hD hS 1 0 rfl rfl h43 dX5_enter_152 (fun H locs hP hD hS => ?_)
            have hP : va_P g.1 vwCl ([wMc g a (upd (upd (upd (upd (M_g z36) ((59 + (3 * ((M_g z36) (1 : Int32).toNatClampNeg))) + 0).toNatClampNeg ((M_g z36) (2 : Int32).toNatClampNeg)) ((59 + (3 * ((M_g z36) (1 : Int32).toNatClampNeg))) + 1).toNatClampNeg p0) ((59 + (3 * ((M_g z36) (1 : Int32).toNatClampNeg))) + 2).toNatClampNeg 0) (1 : Int32).toNatClampNeg (((upd (upd (upd (M_g z36) ((59 + (3 * ((M_g z36) (1 : Int32).toNatClampNeg))) + 0).toNatClampNeg ((M_g z36) (2 : Int32).toNatClampNeg)) ((59 + (3 * ((M_g z36) (1 : Int32).toNatClampNeg))) + 1).toNatClampNeg p0) ((59 + (3 * ((M_g z36) (1 : Int32).toNatClampNeg))) + 2).toNatClampNeg 0) (1 : Int32).toNatClampNeg) + 1)) (M_kept z36) (M_saved z36) (M_before z36) (M_trial z36) (M_counted z36) (M_isSaved z36) (M_changes z36) (M_isWithin z36) (M_isDenied z36) (M_code z36) (M_why z36) (M_detail z36) (M_cause z36) (M_input z36) (M_length z36) (M_fault z36) (M_signs z36) (M_signMany z36) (M_lastOver z36) (M_at z36) (M_told z36) (M_toldMany z36)] : List va_W).flatten _ := hP
            have hD : va_D A ([wMc g a (upd (upd (upd (upd (M_g z36) ((59 + (3 * ((M_g z36) (1 : Int32).toNatClampNeg))) + 0).toNatClampNeg ((M_g z36) (2 : Int32).toNatClampNeg)) ((59 + (3 * ((M_g z36) (1 : Int32).toNatClampNeg))) + 1).toNatClampNeg p0) ((59 + (3 * ((M_g z36) (1 : Int32).toNatClampNeg))) + 2).toNatClampNeg 0) (1 : Int32).toNatClampNeg (((upd (upd (upd (M_g z36) ((59 + (3 * ((M_g z36) (1 : Int32).toNatClampNeg))) + 0).toNatClampNeg ((M_g z36) (2 : Int32).toNatClampNeg)) ((59 + (3 * ((M_g z36) (1 : Int32).toNatClampNeg))) + 1).toNatClampNeg p0) ((59 + (3 * ((M_g z36) (1 : Int32).toNatClampNeg))) + 2).toNatClampNeg 0) (1 : Int32).toNatClampNeg) + 1)) (M_kept z36) (M_saved z36) (M_before z36) (M_trial z36) (M_counted z36) (M_isSaved z36) (M_changes z36) (M_isWithin z36) (M_isDenied z36) (M_code z36) (M_why z36) (M_detail z36) (M_cause z36) (M_input z36) (M_length z36) (M_fault z36) (M_signs z36) (M_signMany z36) (M_lastOver z36) (M_at z36) (M_told z36) (M_toldMany z36)] : List va_W).flatten := hD
            refine lv_aload_n hx hb dX5_enter_153 rfl (lv_at hl 2 rfl) ?_
            refine va_get (D := g.1) (ci := 9) (v := .ref (a 1)) (C := RX5) (T := TX5) (N := 23) hx hb hts inX5 hown hK hP 0 rfl rfl 0 (by decide) (hts _ mw_1311) (fun _ h9 => h9) rfl dX5_enter_154 ?_
            refine lv_iconst (v := 2) hx hb dX5_enter_157 (by decide) ?_
            refine lv_dup2_11 hx hb dX5_enter_158 rfl rfl ?_
            have h44 := inb_in (ck_t hF)
            have hF := ck_s hF
            refine va_iald hx hb hK hP 1 0 rfl rfl h44 dX5_enter_159 ?_
            refine lv_iconst (v := 1) hx hb dX5_enter_160 (by decide) ?_
            refine lv_iadd hx hb dX5_enter_161 ?_
            have h45 := inb_in (ck_t hF)
            have hF := ck_s hF
            refine va_iast hx hb hK hP hD hS 1 0 rfl rfl h45 dX5_enter_162 (fun H locs hP hD hS => ?_)
            have hP : va_P g.1 vwCl ([wMc g a (upd (upd (upd (upd (upd (M_g z36) ((59 + (3 * ((M_g z36) (1 : Int32).toNatClampNeg))) + 0).toNatClampNeg ((M_g z36) (2 : Int32).toNatClampNeg)) ((59 + (3 * ((M_g z36) (1 : Int32).toNatClampNeg))) + 1).toNatClampNeg p0) ((59 + (3 * ((M_g z36) (1 : Int32).toNatClampNeg))) + 2).toNatClampNeg 0) (1 : Int32).toNatClampNeg (((upd (upd (upd (M_g z36) ((59 + (3 * ((M_g z36) (1 : Int32).toNatClampNeg))) + 0).toNatClampNeg ((M_g z36) (2 : Int32).toNatClampNeg)) ((59 + (3 * ((M_g z36) (1 : Int32).toNatClampNeg))) + 1).toNatClampNeg p0) ((59 + (3 * ((M_g z36) (1 : Int32).toNatClampNeg))) + 2).toNatClampNeg 0) (1 : Int32).toNatClampNeg) + 1)) (2 : Int32).toNatClampNeg (((upd (upd (upd (upd (M_g z36) ((59 + (3 * ((M_g z36) (1 : Int32).toNatClampNeg))) + 0).toNatClampNeg ((M_g z36) (2 : Int32).toNatClampNeg)) ((59 + (3 * ((M_g z36) (1 : Int32).toNatClampNeg))) + 1).toNatClampNeg p0) ((59 + (3 * ((M_g z36) (1 : Int32).toNatClampNeg))) + 2).toNatClampNeg 0) (1 : Int32).toNatClampNeg (((upd (upd (upd (M_g z36) ((59 + (3 * ((M_g z36) (1 : Int32).toNatClampNeg))) + 0).toNatClampNeg ((M_g z36) (2 : Int32).toNatClampNeg)) ((59 + (3 * ((M_g z36) (1 : Int32).toNatClampNeg))) + 1).toNatClampNeg p0) ((59 + (3 * ((M_g z36) (1 : Int32).toNatClampNeg))) + 2).toNatClampNeg 0) (1 : Int32).toNatClampNeg) + 1)) (2 : Int32).toNatClampNeg) + 1)) (M_kept z36) (M_saved z36) (M_before z36) (M_trial z36) (M_counted z36) (M_isSaved z36) (M_changes z36) (M_isWithin z36) (M_isDenied z36) (M_code z36) (M_why z36) (M_detail z36) (M_cause z36) (M_input z36) (M_length z36) (M_fault z36) (M_signs z36) (M_signMany z36) (M_lastOver z36) (M_at z36) (M_told z36) (M_toldMany z36)] : List va_W).flatten _ := hP
            have hD : va_D A ([wMc g a (upd (upd (upd (upd (upd (M_g z36) ((59 + (3 * ((M_g z36) (1 : Int32).toNatClampNeg))) + 0).toNatClampNeg ((M_g z36) (2 : Int32).toNatClampNeg)) ((59 + (3 * ((M_g z36) (1 : Int32).toNatClampNeg))) + 1).toNatClampNeg p0) ((59 + (3 * ((M_g z36) (1 : Int32).toNatClampNeg))) + 2).toNatClampNeg 0) (1 : Int32).toNatClampNeg (((upd (upd (upd (M_g z36) ((59 + (3 * ((M_g z36) (1 : Int32).toNatClampNeg))) + 0).toNatClampNeg ((M_g z36) (2 : Int32).toNatClampNeg)) ((59 + (3 * ((M_g z36) (1 : Int32).toNatClampNeg))) + 1).toNatClampNeg p0) ((59 + (3 * ((M_g z36) (1 : Int32).toNatClampNeg))) + 2).toNatClampNeg 0) (1 : Int32).toNatClampNeg) + 1)) (2 : Int32).toNatClampNeg (((upd (upd (upd (upd (M_g z36) ((59 + (3 * ((M_g z36) (1 : Int32).toNatClampNeg))) + 0).toNatClampNeg ((M_g z36) (2 : Int32).toNatClampNeg)) ((59 + (3 * ((M_g z36) (1 : Int32).toNatClampNeg))) + 1).toNatClampNeg p0) ((59 + (3 * ((M_g z36) (1 : Int32).toNatClampNeg))) + 2).toNatClampNeg 0) (1 : Int32).toNatClampNeg (((upd (upd (upd (M_g z36) ((59 + (3 * ((M_g z36) (1 : Int32).toNatClampNeg))) + 0).toNatClampNeg ((M_g z36) (2 : Int32).toNatClampNeg)) ((59 + (3 * ((M_g z36) (1 : Int32).toNatClampNeg))) + 1).toNatClampNeg p0) ((59 + (3 * ((M_g z36) (1 : Int32).toNatClampNeg))) + 2).toNatClampNeg 0) (1 : Int32).toNatClampNeg) + 1)) (2 : Int32).toNatClampNeg) + 1)) (M_kept z36) (M_saved z36) (M_before z36) (M_trial z36) (M_counted z36) (M_isSaved z36) (M_changes z36) (M_isWithin z36) (M_isDenied z36) (M_code z36) (M_why z36) (M_detail z36) (M_cause z36) (M_input z36) (M_length z36) (M_fault z36) (M_signs z36) (M_signMany z36) (M_lastOver z36) (M_at z36) (M_told z36) (M_toldMany z36)] : List va_W).flatten := hD
            refine lv_aload_n hx hb dX5_enter_163 rfl (lv_at hl 2 rfl) ?_
            refine va_get (D := g.1) (ci := 9) (v := .ref (a 1)) (C := RX5) (T := TX5) (N := 23) hx hb hts inX5 hown hK hP 0 rfl rfl 0 (by decide) (hts _ mw_1311) (fun _ h9 => h9) rfl dX5_enter_164 ?_
            refine lv_iconst (v := 2) hx hb dX5_enter_167 (by decide) ?_
            have h46 := inb_in (ck_t hF)
            have hF := ck_s hF
            refine va_iald hx hb hK hP 1 0 rfl rfl h46 dX5_enter_168 ?_
            refine lv_iconst (v := 1) hx hb dX5_enter_169 (by decide) ?_
            refine lv_isub hx hb dX5_enter_170 ?_
            cases hF
            rw [hQ]
            exact jb_iret hx hb hr hlocks hP hD hS dX5_enter_171 rfl (Nat.le_of_ble_eq_true rfl) (Nat.le_of_ble_eq_true rfl)
          · have hF := ob_neg c35 hF
            refine lv_aload_n hx hb dX5_enter_83 rfl (lv_at hl 1 rfl) ?_
            refine lv_iconst (v := 2) hx hb dX5_enter_84 (by decide) ?_
            refine lv_iconst (v := 2) hx hb dX5_enter_85 (by decide) ?_
            refine lv_iload_n hx hb dX5_enter_86 rfl (lv_at hl 0 rfl) ?_
            obtain ⟨z47, hz47, hF⟩ := ob_bind hF
            refine cl_i (csR := []) (csF := [wM g a z47.2]) (rest := []) hx hb hml hown hts hK hE hA hl hP hD hS (c_X5_denies g l a z27.2 2 2 (z33 - z34) z47 hz47) [0] [] [0] ⟨rfl, rfl, rfl, rfl, rfl, rfl, rfl⟩ ⟨0, 9, _, _, rfl, rfl, rfl⟩ 3 (jb_giV mw_1396 mw_1398 ms_33 mw_10 mw_1399) ⟨rfl, rfl⟩ (by decide +kernel) ⟨⟨(Nat.le_of_ble_eq_true rfl), (Nat.le_of_ble_eq_true rfl)⟩, (Nat.le_of_ble_eq_true rfl), (Nat.le_of_ble_eq_true rfl)⟩ ⟨rfl, rfl⟩ (Nat.le_of_ble_eq_true rfl) dX5_enter_87 (fun H locs hP hD hS => ?_)
            cases hF
            rw [hQ]
            exact jb_iret hx hb hr hlocks hP hD hS dX5_enter_90 rfl (Nat.le_of_ble_eq_true rfl) (Nat.le_of_ble_eq_true rfl)
        · have hF := ob_nneg c32 hF
          refine lv_aload_n hx hb dX5_enter_57 rfl (lv_at hl 0 rfl) ?_
          refine lv_iconst (v := 2) hx hb dX5_enter_58 (by decide) ?_
          refine lv_iconst (v := 1) hx hb dX5_enter_59 (by decide) ?_
          refine lv_bipush (v := 8) hx hb dX5_enter_60 (by decide) ?_
          obtain ⟨z48, hz48, hF⟩ := ob_bind hF
          refine cl_i (csR := []) (csF := [wM g a z48.2]) (rest := []) hx hb hml hown hts hK hE hA hl hP hD hS (c_X5_denies g l a z27.2 2 1 8 z48 hz48) [0] [] [0] ⟨rfl, rfl, rfl, rfl, rfl, rfl, rfl⟩ ⟨0, 9, _, _, rfl, rfl, rfl⟩ 3 (jb_giV mw_1396 mw_1398 ms_33 mw_10 mw_1399) ⟨rfl, rfl⟩ (by decide +kernel) ⟨⟨(Nat.le_of_ble_eq_true rfl), (Nat.le_of_ble_eq_true rfl)⟩, (Nat.le_of_ble_eq_true rfl), (Nat.le_of_ble_eq_true rfl)⟩ ⟨rfl, rfl⟩ (Nat.le_of_ble_eq_true rfl) dX5_enter_62 (fun H locs hP hD hS => ?_)
          cases hF
          rw [hQ]
          exact jb_iret hx hb hr hlocks hP hD hS dX5_enter_65 rfl (Nat.le_of_ble_eq_true rfl) (Nat.le_of_ble_eq_true rfl)
      · have hF := ob_nneg c30 hF
        refine lv_aload_n hx hb dX5_enter_33 rfl (lv_at hl 0 rfl) ?_
        refine lv_iconst (v := 2) hx hb dX5_enter_34 (by decide) ?_
        refine lv_iconst (v := 3) hx hb dX5_enter_35 (by decide) ?_
        refine lv_aload_n hx hb dX5_enter_36 rfl (lv_at hl 0 rfl) ?_
        refine va_get (D := g.1) (ci := 9) (v := .ref (a 1)) (C := RX5) (T := TX5) (N := 23) hx hb hts inX5 hown hK hP 0 rfl rfl 0 (by decide) (hts _ mw_1311) (fun _ h9 => h9) rfl dX5_enter_37 ?_
        refine lv_iconst (v := 3) hx hb dX5_enter_40 (by decide) ?_
        have h49 := inb_in (ck_t hF)
        have hF := ck_s hF
        refine va_iald hx hb hK hP 1 0 rfl rfl h49 dX5_enter_41 ?_
        obtain ⟨z50, hz50, hF⟩ := ob_bind hF
        refine cl_i (csR := []) (csF := [wM g a z50.2]) (rest := []) hx hb hml hown hts hK hE hA hl hP hD hS (c_X5_denies g l a z27.2 2 3 ((M_g z27.2) (3 : Int32).toNatClampNeg) z50 hz50) [0] [] [0] ⟨rfl, rfl, rfl, rfl, rfl, rfl, rfl⟩ ⟨0, 9, _, _, rfl, rfl, rfl⟩ 3 (jb_giV mw_1396 mw_1398 ms_33 mw_10 mw_1399) ⟨rfl, rfl⟩ (by decide +kernel) ⟨⟨(Nat.le_of_ble_eq_true rfl), (Nat.le_of_ble_eq_true rfl)⟩, (Nat.le_of_ble_eq_true rfl), (Nat.le_of_ble_eq_true rfl)⟩ ⟨rfl, rfl⟩ (Nat.le_of_ble_eq_true rfl) dX5_enter_42 (fun H locs hP hD hS => ?_)
        cases hF
        rw [hQ]
        exact jb_iret hx hb hr hlocks hP hD hS dX5_enter_45 rfl (Nat.le_of_ble_eq_true rfl) (Nat.le_of_ble_eq_true rfl)
    · have hF := ob_neg c28 hF
      refine lv_iconst (v := 0) hx hb dX5_enter_22 (by decide) ?_
      cases hF
      rw [hQ]
      exact jb_iret hx hb hr hlocks hP hD hS dX5_enter_23 rfl (Nat.le_of_ble_eq_true rfl) (Nat.le_of_ble_eq_true rfl)
def F_X5_drops_L17  (k : Mv → Int32 → Option (Mv)) : Nat → Mv → Int32 → Option (Mv)
  | 0, _, _ => none
  | n + 1, b0, x2 => ck (inb 1 83) (if (59 + (3 * ((M_g b0) (1 : Int32).toNatClampNeg))) ≤ x2 then k b0 x2 else ck (inb (x2 + 3) 83) (ck (inb x2 83) (F_X5_drops_L17  k n (mkM (upd (M_g b0) x2.toNatClampNeg ((M_g b0) (x2 + 3).toNatClampNeg)) (M_kept b0) (M_saved b0) (M_before b0) (M_trial b0) (M_counted b0) (M_isSaved b0) (M_changes b0) (M_isWithin b0) (M_isDenied b0) (M_code b0) (M_why b0) (M_detail b0) (M_cause b0) (M_input b0) (M_length b0) (M_fault b0) (M_signs b0) (M_signMany b0) (M_lastOver b0) (M_at b0) (M_told b0) (M_toldMany b0)) (x2 + 1))))
def F_X5_drops_L54  (k : Mv → Int32 → Option (Mv)) : Nat → Mv → Int32 → Option (Mv)
  | 0, _, _ => none
  | n + 1, b0, x2 => if 3 ≤ x2 then k b0 x2 else ck (inb 1 83) (ck (inb ((59 + (3 * ((M_g b0) (1 : Int32).toNatClampNeg))) + x2) 83) (F_X5_drops_L54  k n (mkM (upd (M_g b0) ((59 + (3 * ((M_g b0) (1 : Int32).toNatClampNeg))) + x2).toNatClampNeg 0) (M_kept b0) (M_saved b0) (M_before b0) (M_trial b0) (M_counted b0) (M_isSaved b0) (M_changes b0) (M_isWithin b0) (M_isDenied b0) (M_code b0) (M_why b0) (M_detail b0) (M_cause b0) (M_input b0) (M_length b0) (M_fault b0) (M_signs b0) (M_signMany b0) (M_lastOver b0) (M_at b0) (M_told b0) (M_toldMany b0)) (x2 + 1)))
def F_X5_drops (mo : Mv) (p0 : Int32) : Option (Mv) := ck (inb 1 83) (ck (inb 1 83) (F_X5_drops_L17  (fun b1 x2 => F_X5_drops_L54  (fun b3 x4 => some b3) 1000 b1 0) 1000 (mkM (upd (M_g mo) (1 : Int32).toNatClampNeg (((M_g mo) (1 : Int32).toNatClampNeg) - 1)) (M_kept mo) (M_saved mo) (M_before mo) (M_trial mo) (M_counted mo) (M_isSaved mo) (M_changes mo) (M_isWithin mo) (M_isDenied mo) (M_code mo) (M_why mo) (M_detail mo) (M_cause mo) (M_input mo) (M_length mo) (M_fault mo) (M_signs mo) (M_signMany mo) (M_lastOver mo) (M_at mo) (M_told mo) (M_toldMany mo)) (59 + (3 * p0))))
set_option maxHeartbeats 4000000 in
set_option maxRecDepth 100000 in
theorem c_X5_drops (g : GG) (l : Launch) (a : Nat → Nat) (mo : Mv) (p0 : Int32) (z : Mv) (hF : F_X5_drops mo p0 = some z) : MV g l yX5_drops cX5_drops 3 none ({ frames := 0, cells := 0, slots := 0, locals := 0 } : Room) [.ref (a 0), .int p0] [wM g a mo] 0 0 [wM g a z] := by
  refine MV.bg (by decide) (Nat.le_of_ble_eq_true rfl) ?_
  intro p e s m below meth c A Q hQ hx hb hr hml hown hts hlocks hmn hK hE hA hP hD hS ls hl
  rw [F_X5_drops] at hF
  have hl : lv_has ls 3 [(0, .ref (a 0)), (1, .int p0)] := hl
  refine lv_aload_n hx hb dX5_drops_0 rfl (lv_at hl 0 rfl) ?_
  refine va_get (D := g.1) (ci := 9) (v := .ref (a 1)) (C := RX5) (T := TX5) (N := 23) hx hb hts inX5 hown hK hP 0 rfl rfl 0 (by decide) (hts _ mw_1311) (fun _ h9 => h9) rfl dX5_drops_1 ?_
  refine lv_iconst (v := 1) hx hb dX5_drops_4 (by decide) ?_
  refine lv_dup2_11 hx hb dX5_drops_5 rfl rfl ?_
  have h1 := inb_in (ck_t hF)
  have hF := ck_s hF
  refine va_iald hx hb hK hP 1 0 rfl rfl h1 dX5_drops_6 ?_
  refine lv_iconst (v := 1) hx hb dX5_drops_7 (by decide) ?_
  refine lv_isub hx hb dX5_drops_8 ?_
  have h2 := inb_in (ck_t hF)
  have hF := ck_s hF
  refine va_iast hx hb hK hP hD hS 1 0 rfl rfl h2 dX5_drops_9 (fun H locs hP hD hS => ?_)
  have hP : va_P g.1 vwCl ([wMc g a (upd (M_g mo) (1 : Int32).toNatClampNeg (((M_g mo) (1 : Int32).toNatClampNeg) - 1)) (M_kept mo) (M_saved mo) (M_before mo) (M_trial mo) (M_counted mo) (M_isSaved mo) (M_changes mo) (M_isWithin mo) (M_isDenied mo) (M_code mo) (M_why mo) (M_detail mo) (M_cause mo) (M_input mo) (M_length mo) (M_fault mo) (M_signs mo) (M_signMany mo) (M_lastOver mo) (M_at mo) (M_told mo) (M_toldMany mo)] : List va_W).flatten _ := hP
  have hD : va_D A ([wMc g a (upd (M_g mo) (1 : Int32).toNatClampNeg (((M_g mo) (1 : Int32).toNatClampNeg) - 1)) (M_kept mo) (M_saved mo) (M_before mo) (M_trial mo) (M_counted mo) (M_isSaved mo) (M_changes mo) (M_isWithin mo) (M_isDenied mo) (M_code mo) (M_why mo) (M_detail mo) (M_cause mo) (M_input mo) (M_length mo) (M_fault mo) (M_signs mo) (M_signMany mo) (M_lastOver mo) (M_at mo) (M_told mo) (M_toldMany mo)] : List va_W).flatten := hD
  refine lv_bipush (v := 59) hx hb dX5_drops_10 (by decide) ?_
  refine lv_iconst (v := 3) hx hb dX5_drops_12 (by decide) ?_
  refine lv_iload_n hx hb dX5_drops_13 rfl (lv_at hl 1 rfl) ?_
  refine lv_imul hx hb dX5_drops_14 ?_
  refine lv_iadd hx hb dX5_drops_15 ?_
  refine lv_istore_n (lv' := [(2, .int (59 + (3 * p0))), (0, .ref (a 0)), (1, .int p0)]) hx hb dX5_drops_16 rfl hl (by decide) rfl (fun ls hl => ?_)
  obtain ⟨k4, ek4, hF⟩ := ob_k (F := fun k9 => F_X5_drops_L17  k9 1000 (mkM (upd (M_g mo) (1 : Int32).toNatClampNeg (((M_g mo) (1 : Int32).toNatClampNeg) - 1)) (M_kept mo) (M_saved mo) (M_before mo) (M_trial mo) (M_counted mo) (M_isSaved mo) (M_changes mo) (M_isWithin mo) (M_isDenied mo) (M_code mo) (M_why mo) (M_detail mo) (M_cause mo) (M_input mo) (M_length mo) (M_fault mo) (M_signs mo) (M_signMany mo) (M_lastOver mo) (M_at mo) (M_told mo) (M_toldMany mo)) (59 + (3 * p0))) hF
  have loop4 : ∀ (n9 : Nat) (b3 : Mv) (x4 : Int32), F_X5_drops_L17  k4 n9 b3 x4 = some z → ∀ (H : Heap) (locs : List Loc), va_P g.1 vwCl ([wM g a b3] : List va_W).flatten H → va_D A ([wM g a b3] : List va_W).flatten → va_S A s.heap H locs → ∀ ls : Array Slot, lv_has ls 3 [(0, .ref (a 0)), (2, .int x4)] → W p l e ({ frames := 0, cells := 0, slots := 0, locals := 0 } : Room) s m ([.ref (a 0), .int p0] : List Value).toArray below meth c H locs 0 0 Q (F0 m 17 ls []) := by
    intro n9
    induction n9 with
    | zero => intro b3 x4 hF; rw [F_X5_drops_L17] at hF; cases hF
    | succ n9 ih4 =>
      intro b3 x4 hF H locs hP hD hS ls hl
      rw [F_X5_drops_L17] at hF
      refine lv_iload_n hx hb dX5_drops_17 rfl (lv_at hl 1 rfl) ?_
      refine lv_bipush (v := 59) hx hb dX5_drops_18 (by decide) ?_
      refine lv_iconst (v := 3) hx hb dX5_drops_20 (by decide) ?_
      refine lv_aload_n hx hb dX5_drops_21 rfl (lv_at hl 0 rfl) ?_
      refine va_get (D := g.1) (ci := 9) (v := .ref (a 1)) (C := RX5) (T := TX5) (N := 23) hx hb hts inX5 hown hK hP 0 rfl rfl 0 (by decide) (hts _ mw_1311) (fun _ h9 => h9) rfl dX5_drops_22 ?_
      refine lv_iconst (v := 1) hx hb dX5_drops_25 (by decide) ?_
      have h5 := inb_in (ck_t hF)
      have hF := ck_s hF
      refine va_iald hx hb hK hP 1 0 rfl rfl h5 dX5_drops_26 ?_
      refine lv_imul hx hb dX5_drops_27 ?_
      refine lv_iadd hx hb dX5_drops_28 ?_
      refine lv_icmp_ge (tgt := 52) hx hb dX5_drops_29 (by decide) (fun c6 => ?_) (fun c6 => ?_)
      · have hF := ob_pos c6 hF
        rw [ek4] at hF
        refine lv_iconst (v := 0) hx hb dX5_drops_52 (by decide) ?_
        refine lv_istore_n (lv' := [(2, .int 0), (0, .ref (a 0))]) hx hb dX5_drops_53 rfl hl (by decide) rfl (fun ls hl => ?_)
        obtain ⟨k8, ek8, hF⟩ := ob_k (F := fun k9 => F_X5_drops_L54  k9 1000 b3 0) hF
        have loop8 : ∀ (n9 : Nat) (b7 : Mv) (x8 : Int32), F_X5_drops_L54  k8 n9 b7 x8 = some z → ∀ (H : Heap) (locs : List Loc), va_P g.1 vwCl ([wM g a b7] : List va_W).flatten H → va_D A ([wM g a b7] : List va_W).flatten → va_S A s.heap H locs → ∀ ls : Array Slot, lv_has ls 3 [(0, .ref (a 0)), (2, .int x8)] → W p l e ({ frames := 0, cells := 0, slots := 0, locals := 0 } : Room) s m ([.ref (a 0), .int p0] : List Value).toArray below meth c H locs 0 0 Q (F0 m 54 ls []) := by
          intro n9
          induction n9 with
          | zero => intro b7 x8 hF; rw [F_X5_drops_L54] at hF; cases hF
          | succ n9 ih8 =>
            intro b7 x8 hF H locs hP hD hS ls hl
            rw [F_X5_drops_L54] at hF
            refine lv_iload_n hx hb dX5_drops_54 rfl (lv_at hl 1 rfl) ?_
            refine lv_iconst (v := 3) hx hb dX5_drops_55 (by decide) ?_
            refine lv_icmp_ge (tgt := 84) hx hb dX5_drops_56 (by decide) (fun c9 => ?_) (fun c9 => ?_)
            · have hF := ob_pos c9 hF
              rw [ek8] at hF
              cases hF
              rw [hQ]
              exact jb_vret hx hb hr hlocks hP hD hS dX5_drops_84 (Nat.le_of_ble_eq_true rfl) (Nat.le_of_ble_eq_true rfl)
            · have hF := ob_neg c9 hF
              refine lv_aload_n hx hb dX5_drops_59 rfl (lv_at hl 0 rfl) ?_
              refine va_get (D := g.1) (ci := 9) (v := .ref (a 1)) (C := RX5) (T := TX5) (N := 23) hx hb hts inX5 hown hK hP 0 rfl rfl 0 (by decide) (hts _ mw_1311) (fun _ h9 => h9) rfl dX5_drops_60 ?_
              refine lv_bipush (v := 59) hx hb dX5_drops_63 (by decide) ?_
              refine lv_iconst (v := 3) hx hb dX5_drops_65 (by decide) ?_
              refine lv_aload_n hx hb dX5_drops_66 rfl (lv_at hl 0 rfl) ?_
              refine va_get (D := g.1) (ci := 9) (v := .ref (a 1)) (C := RX5) (T := TX5) (N := 23) hx hb hts inX5 hown hK hP 0 rfl rfl 0 (by decide) (hts _ mw_1311) (fun _ h9 => h9) rfl dX5_drops_67 ?_
              refine lv_iconst (v := 1) hx hb dX5_drops_70 (by decide) ?_
              have h10 := inb_in (ck_t hF)
              have hF := ck_s hF
              refine va_iald hx hb hK hP 1 0 rfl rfl h10 dX5_drops_71 ?_
              refine lv_imul hx hb dX5_drops_72 ?_
              refine lv_iadd hx hb dX5_drops_73 ?_
              refine lv_iload_n hx hb dX5_drops_74 rfl (lv_at hl 1 rfl) ?_
              refine lv_iadd hx hb dX5_drops_75 ?_
              refine lv_iconst (v := 0) hx hb dX5_drops_76 (by decide) ?_
              have h11 := inb_in (ck_t hF)
              have hF := ck_s hF
              refine va_iast hx hb hK hP hD hS 1 0 rfl rfl h11 dX5_drops_77 (fun H locs hP hD hS => ?_)
              have hP : va_P g.1 vwCl ([wMc g a (upd (M_g b7) ((59 + (3 * ((M_g b7) (1 : Int32).toNatClampNeg))) + x8).toNatClampNeg 0) (M_kept b7) (M_saved b7) (M_before b7) (M_trial b7) (M_counted b7) (M_isSaved b7) (M_changes b7) (M_isWithin b7) (M_isDenied b7) (M_code b7) (M_why b7) (M_detail b7) (M_cause b7) (M_input b7) (M_length b7) (M_fault b7) (M_signs b7) (M_signMany b7) (M_lastOver b7) (M_at b7) (M_told b7) (M_toldMany b7)] : List va_W).flatten _ := hP
              have hD : va_D A ([wMc g a (upd (M_g b7) ((59 + (3 * ((M_g b7) (1 : Int32).toNatClampNeg))) + x8).toNatClampNeg 0) (M_kept b7) (M_saved b7) (M_before b7) (M_trial b7) (M_counted b7) (M_isSaved b7) (M_changes b7) (M_isWithin b7) (M_isDenied b7) (M_code b7) (M_why b7) (M_detail b7) (M_cause b7) (M_input b7) (M_length b7) (M_fault b7) (M_signs b7) (M_signMany b7) (M_lastOver b7) (M_at b7) (M_told b7) (M_toldMany b7)] : List va_W).flatten := hD
              refine lv_iinc (v := x8 + 1) (lv' := [(2, .int (x8 + 1)), (0, .ref (a 0))]) hx hb dX5_drops_78 hl (k := 1) rfl (by rfl) (by decide) rfl (fun ls hl => ?_)
              refine lv_goto (tgt := 54) hx hb dX5_drops_81 (by decide) ?_
              exact ih8 _ _ hF _ _ hP hD hS ls (lv_sub hl [1, 0] rfl)
        exact loop8 1000 _ _ hF _ _ hP hD hS ls (lv_sub hl [1, 0] rfl)
      · have hF := ob_neg c6 hF
        refine lv_aload_n hx hb dX5_drops_32 rfl (lv_at hl 0 rfl) ?_
        refine va_get (D := g.1) (ci := 9) (v := .ref (a 1)) (C := RX5) (T := TX5) (N := 23) hx hb hts inX5 hown hK hP 0 rfl rfl 0 (by decide) (hts _ mw_1311) (fun _ h9 => h9) rfl dX5_drops_33 ?_
        refine lv_iload_n hx hb dX5_drops_36 rfl (lv_at hl 1 rfl) ?_
        refine lv_aload_n hx hb dX5_drops_37 rfl (lv_at hl 0 rfl) ?_
        refine va_get (D := g.1) (ci := 9) (v := .ref (a 1)) (C := RX5) (T := TX5) (N := 23) hx hb hts inX5 hown hK hP 0 rfl rfl 0 (by decide) (hts _ mw_1311) (fun _ h9 => h9) rfl dX5_drops_38 ?_
        refine lv_iload_n hx hb dX5_drops_41 rfl (lv_at hl 1 rfl) ?_
        refine lv_iconst (v := 3) hx hb dX5_drops_42 (by decide) ?_
        refine lv_iadd hx hb dX5_drops_43 ?_
        have h12 := inb_in (ck_t hF)
        have hF := ck_s hF
        refine va_iald hx hb hK hP 1 0 rfl rfl h12 dX5_drops_44 ?_
        have h13 := inb_in (ck_t hF)
        have hF := ck_s hF
        refine va_iast hx hb hK hP hD hS 1 0 rfl rfl h13 dX5_drops_45 (fun H locs hP hD hS => ?_)
        have hP : va_P g.1 vwCl ([wMc g a (upd (M_g b3) x4.toNatClampNeg ((M_g b3) (x4 + 3).toNatClampNeg)) (M_kept b3) (M_saved b3) (M_before b3) (M_trial b3) (M_counted b3) (M_isSaved b3) (M_changes b3) (M_isWithin b3) (M_isDenied b3) (M_code b3) (M_why b3) (M_detail b3) (M_cause b3) (M_input b3) (M_length b3) (M_fault b3) (M_signs b3) (M_signMany b3) (M_lastOver b3) (M_at b3) (M_told b3) (M_toldMany b3)] : List va_W).flatten _ := hP
        have hD : va_D A ([wMc g a (upd (M_g b3) x4.toNatClampNeg ((M_g b3) (x4 + 3).toNatClampNeg)) (M_kept b3) (M_saved b3) (M_before b3) (M_trial b3) (M_counted b3) (M_isSaved b3) (M_changes b3) (M_isWithin b3) (M_isDenied b3) (M_code b3) (M_why b3) (M_detail b3) (M_cause b3) (M_input b3) (M_length b3) (M_fault b3) (M_signs b3) (M_signMany b3) (M_lastOver b3) (M_at b3) (M_told b3) (M_toldMany b3)] : List va_W).flatten := hD
        refine lv_iinc (v := x4 + 1) (lv' := [(2, .int (x4 + 1)), (0, .ref (a 0))]) hx hb dX5_drops_46 hl (k := 1) rfl (by rfl) (by decide) rfl (fun ls hl => ?_)
        refine lv_goto (tgt := 17) hx hb dX5_drops_49 (by decide) ?_
        exact ih4 _ _ hF _ _ hP hD hS ls (lv_sub hl [1, 0] rfl)
  exact loop4 1000 _ _ hF _ _ hP hD hS ls (lv_sub hl [1, 0] rfl)
def F_X5_toll (mo : Mv) (p0 : Int32) : Option (Int32) := ck (inb 4 83) (ck (nz 10) (some (((p0 * ((M_g mo) (4 : Int32).toNatClampNeg)) + 9) / 10)))
set_option maxHeartbeats 4000000 in
set_option maxRecDepth 100000 in
theorem c_X5_toll (g : GG) (l : Launch) (a : Nat → Nat) (mo : Mv) (p0 : Int32) (z : Int32) (hF : F_X5_toll mo p0 = some z) : MI g l yX5_toll cX5_toll 2 (some .int) ({ frames := 0, cells := 0, slots := 0, locals := 0 } : Room) [.ref (a 0), .int p0] [wM g a mo] 0 0 z [wM g a mo] := by
  refine MI.bg (by decide) (Nat.le_of_ble_eq_true rfl) ?_
  intro p e s m below meth c A Q hQ hx hb hr hml hown hts hlocks hmn hK hE hA hP hD hS ls hl
  rw [F_X5_toll] at hF
  have hl : lv_has ls 2 [(0, .ref (a 0)), (1, .int p0)] := hl
  refine lv_iload_n hx hb dX5_toll_0 rfl (lv_at hl 1 rfl) ?_
  refine lv_aload_n hx hb dX5_toll_1 rfl (lv_at hl 0 rfl) ?_
  refine va_get (D := g.1) (ci := 9) (v := .ref (a 1)) (C := RX5) (T := TX5) (N := 23) hx hb hts inX5 hown hK hP 0 rfl rfl 0 (by decide) (hts _ mw_1311) (fun _ h9 => h9) rfl dX5_toll_2 ?_
  refine lv_iconst (v := 4) hx hb dX5_toll_5 (by decide) ?_
  have h1 := inb_in (ck_t hF)
  have hF := ck_s hF
  refine va_iald hx hb hK hP 1 0 rfl rfl h1 dX5_toll_6 ?_
  refine lv_imul hx hb dX5_toll_7 ?_
  refine lv_bipush (v := 9) hx hb dX5_toll_8 (by decide) ?_
  refine lv_iadd hx hb dX5_toll_10 ?_
  refine lv_bipush (v := 10) hx hb dX5_toll_11 (by decide) ?_
  have h2 := nz_ne (ck_t hF)
  have hF := ck_s hF
  refine lv_idiv hx hb dX5_toll_13 h2 ?_
  cases hF
  rw [hQ]
  exact jb_iret hx hb hr hlocks hP hD hS dX5_toll_14 rfl (Nat.le_of_ble_eq_true rfl) (Nat.le_of_ble_eq_true rfl)
def F_X5_isBehind_L2 (mo : Mv) (y1 : Int32) (k : Int32 → Option (Bool)) : Nat → Int32 → Option (Bool)
  | 0, _ => none
  | n + 1, x2 => if y1 ≤ x2 then k x2 else (F_X5_on mo x2 2).bind (fun z1 => (F_X5_on mo y1 2).bind (fun z2 => if ¬ z1 = z2 then F_X5_isBehind_L2 mo y1 k n (x2 + 1) else some true))
def F_X5_isBehind (mo : Mv) (p0 : Int32) : Option (Bool) := F_X5_isBehind_L2 mo p0 (fun x3 => some false) 1000 0
set_option maxHeartbeats 4000000 in
set_option maxRecDepth 100000 in
theorem c_X5_isBehind (g : GG) (l : Launch) (a : Nat → Nat) (mo : Mv) (p0 : Int32) (z : Bool) (hF : F_X5_isBehind mo p0 = some z) : MI g l yX5_isBehind cX5_isBehind 3 (some .boolean) ({ frames := 1, cells := 0, slots := 0, locals := 22 } : Room) [.ref (a 0), .int p0] [wM g a mo] 0 0 (bi z) [wM g a mo] := by
  refine MI.bg (by decide) (Nat.le_of_ble_eq_true rfl) ?_
  intro p e s m below meth c A Q hQ hx hb hr hml hown hts hlocks hmn hK hE hA hP hD hS ls hl
  rw [F_X5_isBehind] at hF
  have hl : lv_has ls 3 [(0, .ref (a 0)), (1, .int p0)] := hl
  refine lv_iconst (v := 0) hx hb dX5_isBehind_0 (by decide) ?_
  refine lv_istore_n (lv' := [(2, .int 0), (0, .ref (a 0)), (1, .int p0)]) hx hb dX5_isBehind_1 rfl hl (by decide) rfl (fun ls hl => ?_)
  obtain ⟨k1, ek1, hF⟩ := ob_k (F := fun k9 => F_X5_isBehind_L2 mo p0 k9 1000 0) hF
  have loop1 : ∀ (n9 : Nat) (x1 : Int32), F_X5_isBehind_L2 mo p0 k1 n9 x1 = some z → ∀ (H : Heap) (locs : List Loc), va_P g.1 vwCl ([wM g a mo] : List va_W).flatten H → va_D A ([wM g a mo] : List va_W).flatten → va_S A s.heap H locs → ∀ ls : Array Slot, lv_has ls 3 [(0, .ref (a 0)), (1, .int p0), (2, .int x1)] → W p l e ({ frames := 1, cells := 0, slots := 0, locals := 22 } : Room) s m ([.ref (a 0), .int p0] : List Value).toArray below meth c H locs 0 0 Q (F0 m 2 ls []) := by
    intro n9
    induction n9 with
    | zero => intro x1 hF; rw [F_X5_isBehind_L2] at hF; cases hF
    | succ n9 ih1 =>
      intro x1 hF H locs hP hD hS ls hl
      rw [F_X5_isBehind_L2] at hF
      refine lv_iload_n hx hb dX5_isBehind_2 rfl (lv_at hl 2 rfl) ?_
      refine lv_iload_n hx hb dX5_isBehind_3 rfl (lv_at hl 1 rfl) ?_
      refine lv_icmp_ge (tgt := 30) hx hb dX5_isBehind_4 (by decide) (fun c2 => ?_) (fun c2 => ?_)
      · have hF := ob_pos c2 hF
        rw [ek1] at hF
        refine lv_iconst (v := 0) hx hb dX5_isBehind_30 (by decide) ?_
        cases hF
        rw [hQ]
        exact jb_zret hx hb hr rfl hlocks hP hD hS dX5_isBehind_31 rfl (Nat.le_of_ble_eq_true rfl) (Nat.le_of_ble_eq_true rfl)
      · have hF := ob_neg c2 hF
        refine lv_aload_n hx hb dX5_isBehind_7 rfl (lv_at hl 0 rfl) ?_
        refine lv_iload_n hx hb dX5_isBehind_8 rfl (lv_at hl 2 rfl) ?_
        refine lv_iconst (v := 2) hx hb dX5_isBehind_9 (by decide) ?_
        obtain ⟨z3, hz3, hF⟩ := ob_bind hF
        refine cl_i (csR := []) (csF := [wM g a mo]) (rest := []) hx hb hml hown hts hK hE hA hl hP hD hS (c_X5_on g l a mo x1 2 z3 hz3) [0] [] [0] ⟨rfl, rfl, rfl, rfl, rfl, rfl, rfl⟩ ⟨0, 9, _, _, rfl, rfl, rfl⟩ 2 (jb_giV mw_1478 mw_1480 ms_42 mw_10 mw_1481) ⟨rfl, rfl⟩ (by decide +kernel) ⟨⟨(Nat.le_of_ble_eq_true rfl), (Nat.le_of_ble_eq_true rfl)⟩, (Nat.le_of_ble_eq_true rfl), (Nat.le_of_ble_eq_true rfl)⟩ ⟨rfl, rfl⟩ (Nat.le_of_ble_eq_true rfl) dX5_isBehind_10 (fun H locs hP hD hS => ?_)
        refine lv_aload_n hx hb dX5_isBehind_13 rfl (lv_at hl 0 rfl) ?_
        refine lv_iload_n hx hb dX5_isBehind_14 rfl (lv_at hl 1 rfl) ?_
        refine lv_iconst (v := 2) hx hb dX5_isBehind_15 (by decide) ?_
        obtain ⟨z4, hz4, hF⟩ := ob_bind hF
        refine cl_i (csR := []) (csF := [wM g a mo]) (rest := [.int z3]) hx hb hml hown hts hK hE hA hl hP hD hS (c_X5_on g l a mo p0 2 z4 hz4) [0] [] [0] ⟨rfl, rfl, rfl, rfl, rfl, rfl, rfl⟩ ⟨0, 9, _, _, rfl, rfl, rfl⟩ 2 (jb_giV mw_1478 mw_1480 ms_42 mw_10 mw_1481) ⟨rfl, rfl⟩ (by decide +kernel) ⟨⟨(Nat.le_of_ble_eq_true rfl), (Nat.le_of_ble_eq_true rfl)⟩, (Nat.le_of_ble_eq_true rfl), (Nat.le_of_ble_eq_true rfl)⟩ ⟨rfl, rfl⟩ (Nat.le_of_ble_eq_true rfl) dX5_isBehind_16 (fun H locs hP hD hS => ?_)
        refine lv_icmp_ne (tgt := 24) hx hb dX5_isBehind_19 (by decide) (fun c5 => ?_) (fun c5 => ?_)
        · have hF := ob_pos c5 hF
          refine lv_iinc (v := x1 + 1) (lv' := [(2, .int (x1 + 1)), (0, .ref (a 0)), (1, .int p0)]) hx hb dX5_isBehind_24 hl (k := 2) rfl (by rfl) (by decide) rfl (fun ls hl => ?_)
          refine lv_goto (tgt := 2) hx hb dX5_isBehind_27 (by decide) ?_
          exact ih1 _ hF _ _ hP hD hS ls (lv_sub hl [1, 2, 0] rfl)
        · have hF := ob_nneg c5 hF
          refine lv_iconst (v := 1) hx hb dX5_isBehind_22 (by decide) ?_
          cases hF
          rw [hQ]
          exact jb_zret hx hb hr rfl hlocks hP hD hS dX5_isBehind_23 rfl (Nat.le_of_ble_eq_true rfl) (Nat.le_of_ble_eq_true rfl)
  exact loop1 1000 _ hF _ _ hP hD hS ls (lv_sub hl [1, 2, 0] rfl)
def F_X5_drives_L4  (k : Mv → Int32 → Int32 → Option (Int32 × Mv)) : Nat → Mv → Int32 → Int32 → Option (Int32 × Mv)
  | 0, _, _, _ => none
  | n + 1, b0, x1, x2 => ck (inb 1 83) (if ((M_g b0) (1 : Int32).toNatClampNeg) ≤ x2 then k b0 x1 x2 else (F_X5_on b0 x2 2).bind (fun z1 => ck (inb 0 83) (if ¬ z1 = (((M_g b0) (0 : Int32).toNatClampNeg) - 1) then (F_X5_isBehind b0 x2).bind (fun z2 => if ¬ (bi z2) = 0 then F_X5_drives_L4  k n b0 x1 (x2 + 1) else (F_X5_loaded b0 (z1 + 1)).bind (fun z3 => (F_X5_on b0 x2 1).bind (fun z4 => (F_X5_strong b0 (z1 + 1)).bind (fun z5 => if z5 < (z3 + z4) then F_X5_drives_L4  k n b0 x1 (x2 + 1) else ck (inb ((59 + (3 * x2)) + 2) 83) (F_X5_drives_L4  k n (mkM (upd (M_g b0) ((59 + (3 * x2)) + 2).toNatClampNeg (z1 + 1)) (M_kept b0) (M_saved b0) (M_before b0) (M_trial b0) (M_counted b0) (M_isSaved b0) (M_changes b0) (M_isWithin b0) (M_isDenied b0) (M_code b0) (M_why b0) (M_detail b0) (M_cause b0) (M_input b0) (M_length b0) (M_fault b0) (M_signs b0) (M_signMany b0) (M_lastOver b0) (M_at b0) (M_told b0) (M_toldMany b0)) x1 (x2 + 1)))))) else (F_X5_on b0 x2 1).bind (fun z6 => (F_X5_toll b0 z6).bind (fun z7 => ck (inb 5 83) (ck (inb 5 83) (ck (inb 6 83) (ck (inb 6 83) (ck (inb 7 83) (ck (inb 7 83) ((F_X5_on (mkM (upd (upd (upd (M_g b0) (5 : Int32).toNatClampNeg (((M_g b0) (5 : Int32).toNatClampNeg) + z7)) (6 : Int32).toNatClampNeg (((upd (M_g b0) (5 : Int32).toNatClampNeg (((M_g b0) (5 : Int32).toNatClampNeg) + z7)) (6 : Int32).toNatClampNeg) + z7)) (7 : Int32).toNatClampNeg (((upd (upd (M_g b0) (5 : Int32).toNatClampNeg (((M_g b0) (5 : Int32).toNatClampNeg) + z7)) (6 : Int32).toNatClampNeg (((upd (M_g b0) (5 : Int32).toNatClampNeg (((M_g b0) (5 : Int32).toNatClampNeg) + z7)) (6 : Int32).toNatClampNeg) + z7)) (7 : Int32).toNatClampNeg) + 1)) (M_kept b0) (M_saved b0) (M_before b0) (M_trial b0) (M_counted b0) (M_isSaved b0) (M_changes b0) (M_isWithin b0) (M_isDenied b0) (M_code b0) (M_why b0) (M_detail b0) (M_cause b0) (M_input b0) (M_length b0) (M_fault b0) (M_signs b0) (M_signMany b0) (M_lastOver b0) (M_at b0) (M_told b0) (M_toldMany b0)) x2 0).bind (fun z8 => (F_X5_drops (mkM (upd (upd (upd (M_g b0) (5 : Int32).toNatClampNeg (((M_g b0) (5 : Int32).toNatClampNeg) + z7)) (6 : Int32).toNatClampNeg (((upd (M_g b0) (5 : Int32).toNatClampNeg (((M_g b0) (5 : Int32).toNatClampNeg) + z7)) (6 : Int32).toNatClampNeg) + z7)) (7 : Int32).toNatClampNeg (((upd (upd (M_g b0) (5 : Int32).toNatClampNeg (((M_g b0) (5 : Int32).toNatClampNeg) + z7)) (6 : Int32).toNatClampNeg (((upd (M_g b0) (5 : Int32).toNatClampNeg (((M_g b0) (5 : Int32).toNatClampNeg) + z7)) (6 : Int32).toNatClampNeg) + z7)) (7 : Int32).toNatClampNeg) + 1)) (M_kept b0) (M_saved b0) (M_before b0) (M_trial b0) (M_counted b0) (M_isSaved b0) (M_changes b0) (M_isWithin b0) (M_isDenied b0) (M_code b0) (M_why b0) (M_detail b0) (M_cause b0) (M_input b0) (M_length b0) (M_fault b0) (M_signs b0) (M_signMany b0) z8 (M_at b0) (M_told b0) (M_toldMany b0)) x2).bind (fun z9 => F_X5_drives_L4  k n z9 (x1 + 1) x2)))))))))))))
def F_X5_drives (mo : Mv) : Option (Int32 × Mv) := F_X5_drives_L4  (fun b10 x11 x12 => some (x11, b10)) 1000 mo 0 0
set_option maxHeartbeats 4000000 in
set_option maxRecDepth 100000 in
theorem c_X5_drives (g : GG) (l : Launch) (a : Nat → Nat) (mo : Mv) (z : Int32 × Mv) (hF : F_X5_drives mo = some z) : MI g l yX5_drives cX5_drives 5 (some .int) ({ frames := 3, cells := 0, slots := 0, locals := 65 } : Room) [.ref (a 0)] [wM g a mo] 0 0 z.1 [wM g a z.2] := by
  refine MI.bg (by decide) (Nat.le_of_ble_eq_true rfl) ?_
  intro p e s m below meth c A Q hQ hx hb hr hml hown hts hlocks hmn hK hE hA hP hD hS ls hl
  rw [F_X5_drives] at hF
  have hl : lv_has ls 5 [(0, .ref (a 0))] := hl
  refine lv_iconst (v := 0) hx hb dX5_drives_0 (by decide) ?_
  refine lv_istore_n (lv' := [(1, .int 0), (0, .ref (a 0))]) hx hb dX5_drives_1 rfl hl (by decide) rfl (fun ls hl => ?_)
  refine lv_iconst (v := 0) hx hb dX5_drives_2 (by decide) ?_
  refine lv_istore_n (lv' := [(2, .int 0), (1, .int 0), (0, .ref (a 0))]) hx hb dX5_drives_3 rfl hl (by decide) rfl (fun ls hl => ?_)
  obtain ⟨k3, ek3, hF⟩ := ob_k (F := fun k9 => F_X5_drives_L4  k9 1000 mo 0 0) hF
  have loop3 : ∀ (n9 : Nat) (b1 : Mv) (x2 : Int32) (x3 : Int32), F_X5_drives_L4  k3 n9 b1 x2 x3 = some z → ∀ (H : Heap) (locs : List Loc), va_P g.1 vwCl ([wM g a b1] : List va_W).flatten H → va_D A ([wM g a b1] : List va_W).flatten → va_S A s.heap H locs → ∀ ls : Array Slot, lv_has ls 5 [(0, .ref (a 0)), (1, .int x2), (2, .int x3)] → W p l e ({ frames := 3, cells := 0, slots := 0, locals := 65 } : Room) s m ([.ref (a 0)] : List Value).toArray below meth c H locs 0 0 Q (F0 m 4 ls []) := by
    intro n9
    induction n9 with
    | zero => intro b1 x2 x3 hF; rw [F_X5_drives_L4] at hF; cases hF
    | succ n9 ih3 =>
      intro b1 x2 x3 hF H locs hP hD hS ls hl
      rw [F_X5_drives_L4] at hF
      refine lv_iload_n hx hb dX5_drives_4 rfl (lv_at hl 2 rfl) ?_
      refine lv_aload_n hx hb dX5_drives_5 rfl (lv_at hl 0 rfl) ?_
      refine va_get (D := g.1) (ci := 9) (v := .ref (a 1)) (C := RX5) (T := TX5) (N := 23) hx hb hts inX5 hown hK hP 0 rfl rfl 0 (by decide) (hts _ mw_1311) (fun _ h9 => h9) rfl dX5_drives_6 ?_
      refine lv_iconst (v := 1) hx hb dX5_drives_9 (by decide) ?_
      have h4 := inb_in (ck_t hF)
      have hF := ck_s hF
      refine va_iald hx hb hK hP 1 0 rfl rfl h4 dX5_drives_10 ?_
      refine lv_icmp_ge (tgt := 154) hx hb dX5_drives_11 (by decide) (fun c5 => ?_) (fun c5 => ?_)
      · have hF := ob_pos c5 hF
        rw [ek3] at hF
        refine lv_iload_n hx hb dX5_drives_154 rfl (lv_at hl 1 rfl) ?_
        cases hF
        rw [hQ]
        exact jb_iret hx hb hr hlocks hP hD hS dX5_drives_155 rfl (Nat.le_of_ble_eq_true rfl) (Nat.le_of_ble_eq_true rfl)
      · have hF := ob_neg c5 hF
        refine lv_aload_n hx hb dX5_drives_14 rfl (lv_at hl 0 rfl) ?_
        refine lv_iload_n hx hb dX5_drives_15 rfl (lv_at hl 2 rfl) ?_
        refine lv_iconst (v := 2) hx hb dX5_drives_16 (by decide) ?_
        obtain ⟨z6, hz6, hF⟩ := ob_bind hF
        refine cl_i (csR := []) (csF := [wM g a b1]) (rest := []) hx hb hml hown hts hK hE hA hl hP hD hS (c_X5_on g l a b1 x3 2 z6 hz6) [0] [] [0] ⟨rfl, rfl, rfl, rfl, rfl, rfl, rfl⟩ ⟨0, 9, _, _, rfl, rfl, rfl⟩ 2 (jb_giV mw_1478 mw_1480 ms_42 mw_10 mw_1481) ⟨rfl, rfl⟩ (by decide +kernel) ⟨⟨(Nat.le_of_ble_eq_true rfl), (Nat.le_of_ble_eq_true rfl)⟩, (Nat.le_of_ble_eq_true rfl), (Nat.le_of_ble_eq_true rfl)⟩ ⟨rfl, rfl⟩ (Nat.le_of_ble_eq_true rfl) dX5_drives_17 (fun H locs hP hD hS => ?_)
        refine lv_istore_n (lv' := [(3, .int z6), (0, .ref (a 0)), (1, .int x2), (2, .int x3)]) hx hb dX5_drives_20 rfl hl (by decide) rfl (fun ls hl => ?_)
        refine lv_iload_n hx hb dX5_drives_21 rfl (lv_at hl 0 rfl) ?_
        refine lv_aload_n hx hb dX5_drives_22 rfl (lv_at hl 1 rfl) ?_
        refine va_get (D := g.1) (ci := 9) (v := .ref (a 1)) (C := RX5) (T := TX5) (N := 23) hx hb hts inX5 hown hK hP 0 rfl rfl 0 (by decide) (hts _ mw_1311) (fun _ h9 => h9) rfl dX5_drives_23 ?_
        refine lv_iconst (v := 0) hx hb dX5_drives_26 (by decide) ?_
        have h7 := inb_in (ck_t hF)
        have hF := ck_s hF
        refine va_iald hx hb hK hP 1 0 rfl rfl h7 dX5_drives_27 ?_
        refine lv_iconst (v := 1) hx hb dX5_drives_28 (by decide) ?_
        refine lv_isub hx hb dX5_drives_29 ?_
        refine lv_icmp_ne (tgt := 100) hx hb dX5_drives_30 (by decide) (fun c8 => ?_) (fun c8 => ?_)
        · have hF := ob_pos c8 hF
          refine lv_aload_n hx hb dX5_drives_100 rfl (lv_at hl 1 rfl) ?_
          refine lv_iload_n hx hb dX5_drives_101 rfl (lv_at hl 3 rfl) ?_
          obtain ⟨z9, hz9, hF⟩ := ob_bind hF
          refine cl_i (csR := []) (csF := [wM g a b1]) (rest := []) hx hb hml hown hts hK hE hA hl hP hD hS (c_X5_isBehind g l a b1 x3 z9 hz9) [0] [] [0] ⟨rfl, rfl, rfl, rfl, rfl, rfl, rfl⟩ ⟨0, 9, _, _, rfl, rfl, rfl⟩ 1 (jb_giV mw_1538 mw_1540 ms_51 mw_10 mw_1541) ⟨rfl, rfl⟩ (by decide +kernel) ⟨⟨(Nat.le_of_ble_eq_true rfl), (Nat.le_of_ble_eq_true rfl)⟩, (Nat.le_of_ble_eq_true rfl), (Nat.le_of_ble_eq_true rfl)⟩ ⟨rfl, rfl⟩ (Nat.le_of_ble_eq_true rfl) dX5_drives_102 (fun H locs hP hD hS => ?_)
          refine lv_if_ne (tgt := 148) hx hb dX5_drives_105 (by decide) (fun c10 => ?_) (fun c10 => ?_)
          · have hF := ob_pos c10 hF
            refine lv_iinc (v := x3 + 1) (lv' := [(2, .int (x3 + 1)), (3, .int z6), (0, .ref (a 0)), (1, .int x2)]) hx hb dX5_drives_148 hl (k := 3) rfl (by rfl) (by decide) rfl (fun ls hl => ?_)
            refine lv_goto (tgt := 4) hx hb dX5_drives_151 (by decide) ?_
            exact ih3 _ _ _ hF _ _ hP hD hS ls (lv_sub hl [2, 3, 0] rfl)
          · have hF := ob_nneg c10 hF
            refine lv_aload_n hx hb dX5_drives_108 rfl (lv_at hl 1 rfl) ?_
            refine lv_iload_n hx hb dX5_drives_109 rfl (lv_at hl 0 rfl) ?_
            refine lv_iconst (v := 1) hx hb dX5_drives_110 (by decide) ?_
            refine lv_iadd hx hb dX5_drives_111 ?_
            obtain ⟨z11, hz11, hF⟩ := ob_bind hF
            refine cl_i (csR := []) (csF := [wM g a b1]) (rest := []) hx hb hml hown hts hK hE hA hl hP hD hS (c_X5_loaded g l a b1 (z6 + 1) z11 hz11) [0] [] [0] ⟨rfl, rfl, rfl, rfl, rfl, rfl, rfl⟩ ⟨0, 9, _, _, rfl, rfl, rfl⟩ 1 (jb_giV mw_1474 mw_1476 ms_41 mw_10 mw_1477) ⟨rfl, rfl⟩ (by decide +kernel) ⟨⟨(Nat.le_of_ble_eq_true rfl), (Nat.le_of_ble_eq_true rfl)⟩, (Nat.le_of_ble_eq_true rfl), (Nat.le_of_ble_eq_true rfl)⟩ ⟨rfl, rfl⟩ (Nat.le_of_ble_eq_true rfl) dX5_drives_112 (fun H locs hP hD hS => ?_)
            refine lv_aload_n hx hb dX5_drives_115 rfl (lv_at hl 1 rfl) ?_
            refine lv_iload_n hx hb dX5_drives_116 rfl (lv_at hl 3 rfl) ?_
            refine lv_iconst (v := 1) hx hb dX5_drives_117 (by decide) ?_
            obtain ⟨z12, hz12, hF⟩ := ob_bind hF
            refine cl_i (csR := []) (csF := [wM g a b1]) (rest := [.int z11]) hx hb hml hown hts hK hE hA hl hP hD hS (c_X5_on g l a b1 x3 1 z12 hz12) [0] [] [0] ⟨rfl, rfl, rfl, rfl, rfl, rfl, rfl⟩ ⟨0, 9, _, _, rfl, rfl, rfl⟩ 2 (jb_giV mw_1478 mw_1480 ms_42 mw_10 mw_1481) ⟨rfl, rfl⟩ (by decide +kernel) ⟨⟨(Nat.le_of_ble_eq_true rfl), (Nat.le_of_ble_eq_true rfl)⟩, (Nat.le_of_ble_eq_true rfl), (Nat.le_of_ble_eq_true rfl)⟩ ⟨rfl, rfl⟩ (Nat.le_of_ble_eq_true rfl) dX5_drives_118 (fun H locs hP hD hS => ?_)
            refine lv_iadd hx hb dX5_drives_121 ?_
            refine lv_aload_n hx hb dX5_drives_122 rfl (lv_at hl 1 rfl) ?_
            refine lv_iload_n hx hb dX5_drives_123 rfl (lv_at hl 0 rfl) ?_
            refine lv_iconst (v := 1) hx hb dX5_drives_124 (by decide) ?_
            refine lv_iadd hx hb dX5_drives_125 ?_
            obtain ⟨z13, hz13, hF⟩ := ob_bind hF
            refine cl_i (csR := []) (csF := [wM g a b1]) (rest := [.int (z11 + z12)]) hx hb hml hown hts hK hE hA hl hP hD hS (c_X5_strong g l a b1 (z6 + 1) z13 hz13) [0] [] [0] ⟨rfl, rfl, rfl, rfl, rfl, rfl, rfl⟩ ⟨0, 9, _, _, rfl, rfl, rfl⟩ 1 (jb_giV mw_1459 mw_1461 ms_39 mw_10 mw_1462) ⟨rfl, rfl⟩ (by decide +kernel) ⟨⟨(Nat.le_of_ble_eq_true rfl), (Nat.le_of_ble_eq_true rfl)⟩, (Nat.le_of_ble_eq_true rfl), (Nat.le_of_ble_eq_true rfl)⟩ ⟨rfl, rfl⟩ (Nat.le_of_ble_eq_true rfl) dX5_drives_126 (fun H locs hP hD hS => ?_)
            refine lv_icmp_gt (tgt := 148) hx hb dX5_drives_129 (by decide) (fun c14 => ?_) (fun c14 => ?_)
            · have hF := ob_pos c14 hF
              refine lv_iinc (v := x3 + 1) (lv' := [(2, .int (x3 + 1)), (3, .int z6), (0, .ref (a 0)), (1, .int x2)]) hx hb dX5_drives_148 hl (k := 3) rfl (by rfl) (by decide) rfl (fun ls hl => ?_)
              refine lv_goto (tgt := 4) hx hb dX5_drives_151 (by decide) ?_
              exact ih3 _ _ _ hF _ _ hP hD hS ls (lv_sub hl [2, 3, 0] rfl)
            · have hF := ob_neg c14 hF
              refine lv_aload_n hx hb dX5_drives_132 rfl (lv_at hl 1 rfl) ?_
              refine va_get (D := g.1) (ci := 9) (v := .ref (a 1)) (C := RX5) (T := TX5) (N := 23) hx hb hts inX5 hown hK hP 0 rfl rfl 0 (by decide) (hts _ mw_1311) (fun _ h9 => h9) rfl dX5_drives_133 ?_
              refine lv_bipush (v := 59) hx hb dX5_drives_136 (by decide) ?_
              refine lv_iconst (v := 3) hx hb dX5_drives_138 (by decide) ?_
              refine lv_iload_n hx hb dX5_drives_139 rfl (lv_at hl 3 rfl) ?_
              refine lv_imul hx hb dX5_drives_140 ?_
              refine lv_iadd hx hb dX5_drives_141 ?_
              refine lv_iconst (v := 2) hx hb dX5_drives_142 (by decide) ?_
              refine lv_iadd hx hb dX5_drives_143 ?_
              refine lv_iload_n hx hb dX5_drives_144 rfl (lv_at hl 0 rfl) ?_
              refine lv_iconst (v := 1) hx hb dX5_drives_145 (by decide) ?_
              refine lv_iadd hx hb dX5_drives_146 ?_
              have h15 := inb_in (ck_t hF)
              have hF := ck_s hF
              refine va_iast hx hb hK hP hD hS 1 0 rfl rfl h15 dX5_drives_147 (fun H locs hP hD hS => ?_)
              have hP : va_P g.1 vwCl ([wMc g a (upd (M_g b1) ((59 + (3 * x3)) + 2).toNatClampNeg (z6 + 1)) (M_kept b1) (M_saved b1) (M_before b1) (M_trial b1) (M_counted b1) (M_isSaved b1) (M_changes b1) (M_isWithin b1) (M_isDenied b1) (M_code b1) (M_why b1) (M_detail b1) (M_cause b1) (M_input b1) (M_length b1) (M_fault b1) (M_signs b1) (M_signMany b1) (M_lastOver b1) (M_at b1) (M_told b1) (M_toldMany b1)] : List va_W).flatten _ := hP
              have hD : va_D A ([wMc g a (upd (M_g b1) ((59 + (3 * x3)) + 2).toNatClampNeg (z6 + 1)) (M_kept b1) (M_saved b1) (M_before b1) (M_trial b1) (M_counted b1) (M_isSaved b1) (M_changes b1) (M_isWithin b1) (M_isDenied b1) (M_code b1) (M_why b1) (M_detail b1) (M_cause b1) (M_input b1) (M_length b1) (M_fault b1) (M_signs b1) (M_signMany b1) (M_lastOver b1) (M_at b1) (M_told b1) (M_toldMany b1)] : List va_W).flatten := hD
              refine lv_iinc (v := x3 + 1) (lv' := [(2, .int (x3 + 1)), (3, .int z6), (0, .ref (a 0)), (1, .int x2)]) hx hb dX5_drives_148 hl (k := 3) rfl (by rfl) (by decide) rfl (fun ls hl => ?_)
              refine lv_goto (tgt := 4) hx hb dX5_drives_151 (by decide) ?_
              exact ih3 _ _ _ hF _ _ hP hD hS ls (lv_sub hl [2, 3, 0] rfl)
        · have hF := ob_nneg c8 hF
          refine lv_aload_n hx hb dX5_drives_33 rfl (lv_at hl 1 rfl) ?_
          refine lv_aload_n hx hb dX5_drives_34 rfl (lv_at hl 1 rfl) ?_
          refine lv_iload_n hx hb dX5_drives_35 rfl (lv_at hl 3 rfl) ?_
          refine lv_iconst (v := 1) hx hb dX5_drives_36 (by decide) ?_
          obtain ⟨z16, hz16, hF⟩ := ob_bind hF
          refine cl_i (csR := []) (csF := [wM g a b1]) (rest := [.ref (a 0)]) hx hb hml hown hts hK hE hA hl hP hD hS (c_X5_on g l a b1 x3 1 z16 hz16) [0] [] [0] ⟨rfl, rfl, rfl, rfl, rfl, rfl, rfl⟩ ⟨0, 9, _, _, rfl, rfl, rfl⟩ 2 (jb_giV mw_1478 mw_1480 ms_42 mw_10 mw_1481) ⟨rfl, rfl⟩ (by decide +kernel) ⟨⟨(Nat.le_of_ble_eq_true rfl), (Nat.le_of_ble_eq_true rfl)⟩, (Nat.le_of_ble_eq_true rfl), (Nat.le_of_ble_eq_true rfl)⟩ ⟨rfl, rfl⟩ (Nat.le_of_ble_eq_true rfl) dX5_drives_37 (fun H locs hP hD hS => ?_)
          obtain ⟨z17, hz17, hF⟩ := ob_bind hF
          refine cl_i (csR := []) (csF := [wM g a b1]) (rest := []) hx hb hml hown hts hK hE hA hl hP hD hS (c_X5_toll g l a b1 z16 z17 hz17) [0] [] [0] ⟨rfl, rfl, rfl, rfl, rfl, rfl, rfl⟩ ⟨0, 9, _, _, rfl, rfl, rfl⟩ 1 (jb_giV mw_1530 mw_1532 ms_49 mw_10 mw_1533) ⟨rfl, rfl⟩ (by decide +kernel) ⟨⟨(Nat.le_of_ble_eq_true rfl), (Nat.le_of_ble_eq_true rfl)⟩, (Nat.le_of_ble_eq_true rfl), (Nat.le_of_ble_eq_true rfl)⟩ ⟨rfl, rfl⟩ (Nat.le_of_ble_eq_true rfl) dX5_drives_40 (fun H locs hP hD hS => ?_)
          refine lv_istore (lv' := [(4, .int z17), (3, .int z6), (0, .ref (a 0)), (1, .int x2), (2, .int x3)]) hx hb dX5_drives_43 hl (by decide) rfl (fun ls hl => ?_)
          refine lv_aload_n hx hb dX5_drives_45 rfl (lv_at hl 2 rfl) ?_
          refine va_get (D := g.1) (ci := 9) (v := .ref (a 1)) (C := RX5) (T := TX5) (N := 23) hx hb hts inX5 hown hK hP 0 rfl rfl 0 (by decide) (hts _ mw_1311) (fun _ h9 => h9) rfl dX5_drives_46 ?_
          refine lv_iconst (v := 5) hx hb dX5_drives_49 (by decide) ?_
          refine lv_dup2_11 hx hb dX5_drives_50 rfl rfl ?_
          have h18 := inb_in (ck_t hF)
          have hF := ck_s hF
          refine va_iald hx hb hK hP 1 0 rfl rfl h18 dX5_drives_51 ?_
          refine lv_iload hx hb dX5_drives_52 (lv_at hl 0 rfl) ?_
          refine lv_iadd hx hb dX5_drives_54 ?_
          have h19 := inb_in (ck_t hF)
          have hF := ck_s hF
          refine va_iast hx hb hK hP hD hS 1 0 rfl rfl h19 dX5_drives_55 (fun H locs hP hD hS => ?_)
          have hP : va_P g.1 vwCl ([wMc g a (upd (M_g b1) (5 : Int32).toNatClampNeg (((M_g b1) (5 : Int32).toNatClampNeg) + z17)) (M_kept b1) (M_saved b1) (M_before b1) (M_trial b1) (M_counted b1) (M_isSaved b1) (M_changes b1) (M_isWithin b1) (M_isDenied b1) (M_code b1) (M_why b1) (M_detail b1) (M_cause b1) (M_input b1) (M_length b1) (M_fault b1) (M_signs b1) (M_signMany b1) (M_lastOver b1) (M_at b1) (M_told b1) (M_toldMany b1)] : List va_W).flatten _ := hP
          have hD : va_D A ([wMc g a (upd (M_g b1) (5 : Int32).toNatClampNeg (((M_g b1) (5 : Int32).toNatClampNeg) + z17)) (M_kept b1) (M_saved b1) (M_before b1) (M_trial b1) (M_counted b1) (M_isSaved b1) (M_changes b1) (M_isWithin b1) (M_isDenied b1) (M_code b1) (M_why b1) (M_detail b1) (M_cause b1) (M_input b1) (M_length b1) (M_fault b1) (M_signs b1) (M_signMany b1) (M_lastOver b1) (M_at b1) (M_told b1) (M_toldMany b1)] : List va_W).flatten := hD
          refine lv_aload_n hx hb dX5_drives_56 rfl (lv_at hl 2 rfl) ?_
          refine va_get (D := g.1) (ci := 9) (v := .ref (a 1)) (C := RX5) (T := TX5) (N := 23) hx hb hts inX5 hown hK hP 0 rfl rfl 0 (by decide) (hts _ mw_1311) (fun _ h9 => h9) rfl dX5_drives_57 ?_
          refine lv_bipush (v := 6) hx hb dX5_drives_60 (by decide) ?_
          refine lv_dup2_11 hx hb dX5_drives_62 rfl rfl ?_
          have h20 := inb_in (ck_t hF)
          have hF := ck_s hF
          refine va_iald hx hb hK hP 1 0 rfl rfl h20 dX5_drives_63 ?_
          refine lv_iload hx hb dX5_drives_64 (lv_at hl 0 rfl) ?_
          refine lv_iadd hx hb dX5_drives_66 ?_
          have h21 := inb_in (ck_t hF)
          have hF := ck_s hF
          refine va_iast hx hb hK hP hD hS 1 0 rfl rfl h21 dX5_drives_67 (fun H locs hP hD hS => ?_)
          have hP : va_P g.1 vwCl ([wMc g a (upd (upd (M_g b1) (5 : Int32).toNatClampNeg (((M_g b1) (5 : Int32).toNatClampNeg) + z17)) (6 : Int32).toNatClampNeg (((upd (M_g b1) (5 : Int32).toNatClampNeg (((M_g b1) (5 : Int32).toNatClampNeg) + z17)) (6 : Int32).toNatClampNeg) + z17)) (M_kept b1) (M_saved b1) (M_before b1) (M_trial b1) (M_counted b1) (M_isSaved b1) (M_changes b1) (M_isWithin b1) (M_isDenied b1) (M_code b1) (M_why b1) (M_detail b1) (M_cause b1) (M_input b1) (M_length b1) (M_fault b1) (M_signs b1) (M_signMany b1) (M_lastOver b1) (M_at b1) (M_told b1) (M_toldMany b1)] : List va_W).flatten _ := hP
          have hD : va_D A ([wMc g a (upd (upd (M_g b1) (5 : Int32).toNatClampNeg (((M_g b1) (5 : Int32).toNatClampNeg) + z17)) (6 : Int32).toNatClampNeg (((upd (M_g b1) (5 : Int32).toNatClampNeg (((M_g b1) (5 : Int32).toNatClampNeg) + z17)) (6 : Int32).toNatClampNeg) + z17)) (M_kept b1) (M_saved b1) (M_before b1) (M_trial b1) (M_counted b1) (M_isSaved b1) (M_changes b1) (M_isWithin b1) (M_isDenied b1) (M_code b1) (M_why b1) (M_detail b1) (M_cause b1) (M_input b1) (M_length b1) (M_fault b1) (M_signs b1) (M_signMany b1) (M_lastOver b1) (M_at b1) (M_told b1) (M_toldMany b1)] : List va_W).flatten := hD
          refine lv_aload_n hx hb dX5_drives_68 rfl (lv_at hl 2 rfl) ?_
          refine va_get (D := g.1) (ci := 9) (v := .ref (a 1)) (C := RX5) (T := TX5) (N := 23) hx hb hts inX5 hown hK hP 0 rfl rfl 0 (by decide) (hts _ mw_1311) (fun _ h9 => h9) rfl dX5_drives_69 ?_
          refine lv_bipush (v := 7) hx hb dX5_drives_72 (by decide) ?_
          refine lv_dup2_11 hx hb dX5_drives_74 rfl rfl ?_
          have h22 := inb_in (ck_t hF)
          have hF := ck_s hF
          refine va_iald hx hb hK hP 1 0 rfl rfl h22 dX5_drives_75 ?_
          refine lv_iconst (v := 1) hx hb dX5_drives_76 (by decide) ?_
          refine lv_iadd hx hb dX5_drives_77 ?_
          have h23 := inb_in (ck_t hF)
          have hF := ck_s hF
          refine va_iast hx hb hK hP hD hS 1 0 rfl rfl h23 dX5_drives_78 (fun H locs hP hD hS => ?_)
          have hP : va_P g.1 vwCl ([wMc g a (upd (upd (upd (M_g b1) (5 : Int32).toNatClampNeg (((M_g b1) (5 : Int32).toNatClampNeg) + z17)) (6 : Int32).toNatClampNeg (((upd (M_g b1) (5 : Int32).toNatClampNeg (((M_g b1) (5 : Int32).toNatClampNeg) + z17)) (6 : Int32).toNatClampNeg) + z17)) (7 : Int32).toNatClampNeg (((upd (upd (M_g b1) (5 : Int32).toNatClampNeg (((M_g b1) (5 : Int32).toNatClampNeg) + z17)) (6 : Int32).toNatClampNeg (((upd (M_g b1) (5 : Int32).toNatClampNeg (((M_g b1) (5 : Int32).toNatClampNeg) + z17)) (6 : Int32).toNatClampNeg) + z17)) (7 : Int32).toNatClampNeg) + 1)) (M_kept b1) (M_saved b1) (M_before b1) (M_trial b1) (M_counted b1) (M_isSaved b1) (M_changes b1) (M_isWithin b1) (M_isDenied b1) (M_code b1) (M_why b1) (M_detail b1) (M_cause b1) (M_input b1) (M_length b1) (M_fault b1) (M_signs b1) (M_signMany b1) (M_lastOver b1) (M_at b1) (M_told b1) (M_toldMany b1)] : List va_W).flatten _ := hP
          have hD : va_D A ([wMc g a (upd (upd (upd (M_g b1) (5 : Int32).toNatClampNeg (((M_g b1) (5 : Int32).toNatClampNeg) + z17)) (6 : Int32).toNatClampNeg (((upd (M_g b1) (5 : Int32).toNatClampNeg (((M_g b1) (5 : Int32).toNatClampNeg) + z17)) (6 : Int32).toNatClampNeg) + z17)) (7 : Int32).toNatClampNeg (((upd (upd (M_g b1) (5 : Int32).toNatClampNeg (((M_g b1) (5 : Int32).toNatClampNeg) + z17)) (6 : Int32).toNatClampNeg (((upd (M_g b1) (5 : Int32).toNatClampNeg (((M_g b1) (5 : Int32).toNatClampNeg) + z17)) (6 : Int32).toNatClampNeg) + z17)) (7 : Int32).toNatClampNeg) + 1)) (M_kept b1) (M_saved b1) (M_before b1) (M_trial b1) (M_counted b1) (M_isSaved b1) (M_changes b1) (M_isWithin b1) (M_isDenied b1) (M_code b1) (M_why b1) (M_detail b1) (M_cause b1) (M_input b1) (M_length b1) (M_fault b1) (M_signs b1) (M_signMany b1) (M_lastOver b1) (M_at b1) (M_told b1) (M_toldMany b1)] : List va_W).flatten := hD
          refine lv_aload_n hx hb dX5_drives_79 rfl (lv_at hl 2 rfl) ?_
          refine lv_aload_n hx hb dX5_drives_80 rfl (lv_at hl 2 rfl) ?_
          refine lv_iload_n hx hb dX5_drives_81 rfl (lv_at hl 4 rfl) ?_
          refine lv_iconst (v := 0) hx hb dX5_drives_82 (by decide) ?_
          obtain ⟨z24, hz24, hF⟩ := ob_bind hF
          refine cl_i (csR := []) (csF := [wMc g a (upd (upd (upd (M_g b1) (5 : Int32).toNatClampNeg (((M_g b1) (5 : Int32).toNatClampNeg) + z17)) (6 : Int32).toNatClampNeg (((upd (M_g b1) (5 : Int32).toNatClampNeg (((M_g b1) (5 : Int32).toNatClampNeg) + z17)) (6 : Int32).toNatClampNeg) + z17)) (7 : Int32).toNatClampNeg (((upd (upd (M_g b1) (5 : Int32).toNatClampNeg (((M_g b1) (5 : Int32).toNatClampNeg) + z17)) (6 : Int32).toNatClampNeg (((upd (M_g b1) (5 : Int32).toNatClampNeg (((M_g b1) (5 : Int32).toNatClampNeg) + z17)) (6 : Int32).toNatClampNeg) + z17)) (7 : Int32).toNatClampNeg) + 1)) (M_kept b1) (M_saved b1) (M_before b1) (M_trial b1) (M_counted b1) (M_isSaved b1) (M_changes b1) (M_isWithin b1) (M_isDenied b1) (M_code b1) (M_why b1) (M_detail b1) (M_cause b1) (M_input b1) (M_length b1) (M_fault b1) (M_signs b1) (M_signMany b1) (M_lastOver b1) (M_at b1) (M_told b1) (M_toldMany b1)]) (rest := [.ref (a 0)]) hx hb hml hown hts hK hE hA hl hP hD hS (c_X5_on g l a (mkM (upd (upd (upd (M_g b1) (5 : Int32).toNatClampNeg (((M_g b1) (5 : Int32).toNatClampNeg) + z17)) (6 : Int32).toNatClampNeg (((upd (M_g b1) (5 : Int32).toNatClampNeg (((M_g b1) (5 : Int32).toNatClampNeg) + z17)) (6 : Int32).toNatClampNeg) + z17)) (7 : Int32).toNatClampNeg (((upd (upd (M_g b1) (5 : Int32).toNatClampNeg (((M_g b1) (5 : Int32).toNatClampNeg) + z17)) (6 : Int32).toNatClampNeg (((upd (M_g b1) (5 : Int32).toNatClampNeg (((M_g b1) (5 : Int32).toNatClampNeg) + z17)) (6 : Int32).toNatClampNeg) + z17)) (7 : Int32).toNatClampNeg) + 1)) (M_kept b1) (M_saved b1) (M_before b1) (M_trial b1) (M_counted b1) (M_isSaved b1) (M_changes b1) (M_isWithin b1) (M_isDenied b1) (M_code b1) (M_why b1) (M_detail b1) (M_cause b1) (M_input b1) (M_length b1) (M_fault b1) (M_signs b1) (M_signMany b1) (M_lastOver b1) (M_at b1) (M_told b1) (M_toldMany b1)) x3 0 z24 hz24) [0] [] [0] ⟨rfl, rfl, rfl, rfl, rfl, rfl, rfl⟩ ⟨0, 9, _, _, rfl, rfl, rfl⟩ 2 (jb_giV mw_1478 mw_1480 ms_42 mw_10 mw_1481) ⟨rfl, rfl⟩ (by decide +kernel) ⟨⟨(Nat.le_of_ble_eq_true rfl), (Nat.le_of_ble_eq_true rfl)⟩, (Nat.le_of_ble_eq_true rfl), (Nat.le_of_ble_eq_true rfl)⟩ ⟨rfl, rfl⟩ (Nat.le_of_ble_eq_true rfl) dX5_drives_83 (fun H locs hP hD hS => ?_)
          refine va_put (D := g.1) (ci := 9) (v := .int z24) (ty := .int) (C := RX5) (T := TX5) (N := 23) hx hb hts inX5 tyX5 tyX5_ok nmX5 hown hK hP hD hS 0 rfl rfl 19 (by decide) (hts _ mw_1330) (fun _ h9 => h9) rfl (by decide +kernel) rfl rfl (Nat.le_of_ble_eq_true rfl) dX5_drives_86 (fun H locs hP hD hS => ?_)
          have hP : va_P g.1 vwCl ([wMc g a (upd (upd (upd (M_g b1) (5 : Int32).toNatClampNeg (((M_g b1) (5 : Int32).toNatClampNeg) + z17)) (6 : Int32).toNatClampNeg (((upd (M_g b1) (5 : Int32).toNatClampNeg (((M_g b1) (5 : Int32).toNatClampNeg) + z17)) (6 : Int32).toNatClampNeg) + z17)) (7 : Int32).toNatClampNeg (((upd (upd (M_g b1) (5 : Int32).toNatClampNeg (((M_g b1) (5 : Int32).toNatClampNeg) + z17)) (6 : Int32).toNatClampNeg (((upd (M_g b1) (5 : Int32).toNatClampNeg (((M_g b1) (5 : Int32).toNatClampNeg) + z17)) (6 : Int32).toNatClampNeg) + z17)) (7 : Int32).toNatClampNeg) + 1)) (M_kept b1) (M_saved b1) (M_before b1) (M_trial b1) (M_counted b1) (M_isSaved b1) (M_changes b1) (M_isWithin b1) (M_isDenied b1) (M_code b1) (M_why b1) (M_detail b1) (M_cause b1) (M_input b1) (M_length b1) (M_fault b1) (M_signs b1) (M_signMany b1) z24 (M_at b1) (M_told b1) (M_toldMany b1)] : List va_W).flatten _ := hP
          have hD : va_D A ([wMc g a (upd (upd (upd (M_g b1) (5 : Int32).toNatClampNeg (((M_g b1) (5 : Int32).toNatClampNeg) + z17)) (6 : Int32).toNatClampNeg (((upd (M_g b1) (5 : Int32).toNatClampNeg (((M_g b1) (5 : Int32).toNatClampNeg) + z17)) (6 : Int32).toNatClampNeg) + z17)) (7 : Int32).toNatClampNeg (((upd (upd (M_g b1) (5 : Int32).toNatClampNeg (((M_g b1) (5 : Int32).toNatClampNeg) + z17)) (6 : Int32).toNatClampNeg (((upd (M_g b1) (5 : Int32).toNatClampNeg (((M_g b1) (5 : Int32).toNatClampNeg) + z17)) (6 : Int32).toNatClampNeg) + z17)) (7 : Int32).toNatClampNeg) + 1)) (M_kept b1) (M_saved b1) (M_before b1) (M_trial b1) (M_counted b1) (M_isSaved b1) (M_changes b1) (M_isWithin b1) (M_isDenied b1) (M_code b1) (M_why b1) (M_detail b1) (M_cause b1) (M_input b1) (M_length b1) (M_fault b1) (M_signs b1) (M_signMany b1) z24 (M_at b1) (M_told b1) (M_toldMany b1)] : List va_W).flatten := hD
          refine lv_aload_n hx hb dX5_drives_89 rfl (lv_at hl 2 rfl) ?_
          refine lv_iload_n hx hb dX5_drives_90 rfl (lv_at hl 4 rfl) ?_
          obtain ⟨z25, hz25, hF⟩ := ob_bind hF
          refine cl_v (csR := []) (csF := [wM g a z25]) (rest := []) hx hb hml hown hts hK hE hA hl hP hD hS (c_X5_drops g l a (mkM (upd (upd (upd (M_g b1) (5 : Int32).toNatClampNeg (((M_g b1) (5 : Int32).toNatClampNeg) + z17)) (6 : Int32).toNatClampNeg (((upd (M_g b1) (5 : Int32).toNatClampNeg (((M_g b1) (5 : Int32).toNatClampNeg) + z17)) (6 : Int32).toNatClampNeg) + z17)) (7 : Int32).toNatClampNeg (((upd (upd (M_g b1) (5 : Int32).toNatClampNeg (((M_g b1) (5 : Int32).toNatClampNeg) + z17)) (6 : Int32).toNatClampNeg (((upd (M_g b1) (5 : Int32).toNatClampNeg (((M_g b1) (5 : Int32).toNatClampNeg) + z17)) (6 : Int32).toNatClampNeg) + z17)) (7 : Int32).toNatClampNeg) + 1)) (M_kept b1) (M_saved b1) (M_before b1) (M_trial b1) (M_counted b1) (M_isSaved b1) (M_changes b1) (M_isWithin b1) (M_isDenied b1) (M_code b1) (M_why b1) (M_detail b1) (M_cause b1) (M_input b1) (M_length b1) (M_fault b1) (M_signs b1) (M_signMany b1) z24 (M_at b1) (M_told b1) (M_toldMany b1)) x3 z25 hz25) [0] [] [0] ⟨rfl, rfl, rfl, rfl, rfl, rfl, rfl⟩ ⟨0, 9, _, _, rfl, rfl, rfl⟩ 1 (jb_giV mw_1534 mw_1536 ms_50 mw_10 mw_1537) ⟨rfl, rfl⟩ (by decide +kernel) ⟨⟨(Nat.le_of_ble_eq_true rfl), (Nat.le_of_ble_eq_true rfl)⟩, (Nat.le_of_ble_eq_true rfl), (Nat.le_of_ble_eq_true rfl)⟩ ⟨rfl, rfl⟩ (Nat.le_of_ble_eq_true rfl) dX5_drives_91 (fun H locs hP hD hS => ?_)
          refine lv_iinc (v := x2 + 1) (lv' := [(1, .int (x2 + 1)), (4, .int z17), (3, .int z6), (0, .ref (a 0)), (2, .int x3)]) hx hb dX5_drives_94 hl (k := 3) rfl (by rfl) (by decide) rfl (fun ls hl => ?_)
          refine lv_goto (tgt := 4) hx hb dX5_drives_97 (by decide) ?_
          exact ih3 _ _ _ hF _ _ hP hD hS ls (lv_sub hl [3, 0, 4] rfl)
  exact loop3 1000 _ _ _ hF _ _ hP hD hS ls (lv_sub hl [2, 1, 0] rfl)
def F_X5_stresses (mo : Mv) (p0 : Int32) : Option (Mv) := (F_X5_strains mo p0).bind (fun z1 => if (bi z1) = 0 then if ¬ (0 : Int32) = 3 then (F_X5_lays mo p0 4 0).bind (fun z2 => some z2) else (F_X5_of mo p0 3).bind (fun z3 => if 9 ≤ z3 then (F_X5_lays mo p0 4 0).bind (fun z4 => some z4) else (F_X5_of mo p0 3).bind (fun z5 => (F_X5_lays mo p0 3 (z5 + 1)).bind (fun z6 => (F_X5_lays z6 p0 4 0).bind (fun z7 => some z7)))) else (F_X5_of mo p0 4).bind (fun z8 => if ¬ (z8 + 1) = 3 then (F_X5_lays mo p0 4 (z8 + 1)).bind (fun z9 => some z9) else (F_X5_of mo p0 3).bind (fun z10 => if 9 ≤ z10 then (F_X5_lays mo p0 4 0).bind (fun z11 => some z11) else (F_X5_of mo p0 3).bind (fun z12 => (F_X5_lays mo p0 3 (z12 + 1)).bind (fun z13 => (F_X5_lays z13 p0 4 0).bind (fun z14 => some z14))))))
set_option maxHeartbeats 4000000 in
set_option maxRecDepth 100000 in
theorem c_X5_stresses (g : GG) (l : Launch) (a : Nat → Nat) (mo : Mv) (p0 : Int32) (z : Mv) (hF : F_X5_stresses mo p0 = some z) : MV g l yX5_stresses cX5_stresses 3 none ({ frames := 4, cells := 0, slots := 0, locals := 86 } : Room) [.ref (a 0), .int p0] [wM g a mo] 0 0 [wM g a z] := by
  refine MV.bg (by decide) (Nat.le_of_ble_eq_true rfl) ?_
  intro p e s m below meth c A Q hQ hx hb hr hml hown hts hlocks hmn hK hE hA hP hD hS ls hl
  rw [F_X5_stresses] at hF
  have hl : lv_has ls 3 [(0, .ref (a 0)), (1, .int p0)] := hl
  refine lv_aload_n hx hb dX5_stresses_0 rfl (lv_at hl 0 rfl) ?_
  refine lv_iload_n hx hb dX5_stresses_1 rfl (lv_at hl 1 rfl) ?_
  obtain ⟨z1, hz1, hF⟩ := ob_bind hF
  refine cl_i (csR := []) (csF := [wM g a mo]) (rest := []) hx hb hml hown hts hK hE hA hl hP hD hS (c_X5_strains g l a mo p0 z1 hz1) [0] [] [0] ⟨rfl, rfl, rfl, rfl, rfl, rfl, rfl⟩ ⟨0, 9, _, _, rfl, rfl, rfl⟩ 1 (jb_giV mw_1486 mw_1488 ms_43 mw_10 mw_1489) ⟨rfl, rfl⟩ (by decide +kernel) ⟨⟨(Nat.le_of_ble_eq_true rfl), (Nat.le_of_ble_eq_true rfl)⟩, (Nat.le_of_ble_eq_true rfl), (Nat.le_of_ble_eq_true rfl)⟩ ⟨rfl, rfl⟩ (Nat.le_of_ble_eq_true rfl) dX5_stresses_2 (fun H locs hP hD hS => ?_)
  refine lv_if_eq (tgt := 19) hx hb dX5_stresses_5 (by decide) (fun c2 => ?_) (fun c2 => ?_)
  · have hF := ob_pos c2 hF
    refine lv_iconst (v := 0) hx hb dX5_stresses_19 (by decide) ?_
    refine lv_istore_n (lv' := [(2, .int 0), (0, .ref (a 0)), (1, .int p0)]) hx hb dX5_stresses_20 rfl hl (by decide) rfl (fun ls hl => ?_)
    refine lv_iload_n hx hb dX5_stresses_21 rfl (lv_at hl 0 rfl) ?_
    refine lv_iconst (v := 3) hx hb dX5_stresses_22 (by decide) ?_
    refine lv_icmp_ne (tgt := 53) hx hb dX5_stresses_23 (by decide) (fun c3 => ?_) (fun c3 => ?_)
    · have hF := ob_pos c3 hF
      refine lv_aload_n hx hb dX5_stresses_53 rfl (lv_at hl 1 rfl) ?_
      refine lv_iload_n hx hb dX5_stresses_54 rfl (lv_at hl 2 rfl) ?_
      refine lv_iconst (v := 4) hx hb dX5_stresses_55 (by decide) ?_
      refine lv_iload_n hx hb dX5_stresses_56 rfl (lv_at hl 0 rfl) ?_
      obtain ⟨z4, hz4, hF⟩ := ob_bind hF
      refine cl_v (csR := []) (csF := [wM g a z4]) (rest := []) hx hb hml hown hts hK hE hA hl hP hD hS (c_X5_lays g l a mo p0 4 0 z4 hz4) [0] [] [0] ⟨rfl, rfl, rfl, rfl, rfl, rfl, rfl⟩ ⟨0, 9, _, _, rfl, rfl, rfl⟩ 3 (jb_giV mw_1407 mw_1409 ms_35 mw_10 mw_1410) ⟨rfl, rfl⟩ (by decide +kernel) ⟨⟨(Nat.le_of_ble_eq_true rfl), (Nat.le_of_ble_eq_true rfl)⟩, (Nat.le_of_ble_eq_true rfl), (Nat.le_of_ble_eq_true rfl)⟩ ⟨rfl, rfl⟩ (Nat.le_of_ble_eq_true rfl) dX5_stresses_57 (fun H locs hP hD hS => ?_)
      cases hF
      rw [hQ]
      exact jb_vret hx hb hr hlocks hP hD hS dX5_stresses_60 (Nat.le_of_ble_eq_true rfl) (Nat.le_of_ble_eq_true rfl)
    · have hF := ob_nneg c3 hF
      refine lv_iconst (v := 0) hx hb dX5_stresses_26 (by decide) ?_
      refine lv_istore_n (lv' := [(2, .int 0), (0, .ref (a 0)), (1, .int p0)]) hx hb dX5_stresses_27 rfl hl (by decide) rfl (fun ls hl => ?_)
      refine lv_aload_n hx hb dX5_stresses_28 rfl (lv_at hl 1 rfl) ?_
      refine lv_iload_n hx hb dX5_stresses_29 rfl (lv_at hl 2 rfl) ?_
      refine lv_iconst (v := 3) hx hb dX5_stresses_30 (by decide) ?_
      obtain ⟨z5, hz5, hF⟩ := ob_bind hF
      refine cl_i (csR := []) (csF := [wM g a mo]) (rest := []) hx hb hml hown hts hK hE hA hl hP hD hS (c_X5_of g l a mo p0 3 z5 hz5) [0] [] [0] ⟨rfl, rfl, rfl, rfl, rfl, rfl, rfl⟩ ⟨0, 9, _, _, rfl, rfl, rfl⟩ 2 (jb_giV mw_1415 mw_1417 ms_36 mw_10 mw_1418) ⟨rfl, rfl⟩ (by decide +kernel) ⟨⟨(Nat.le_of_ble_eq_true rfl), (Nat.le_of_ble_eq_true rfl)⟩, (Nat.le_of_ble_eq_true rfl), (Nat.le_of_ble_eq_true rfl)⟩ ⟨rfl, rfl⟩ (Nat.le_of_ble_eq_true rfl) dX5_stresses_31 (fun H locs hP hD hS => ?_)
      refine lv_bipush (v := 9) hx hb dX5_stresses_34 (by decide) ?_
      refine lv_icmp_ge (tgt := 53) hx hb dX5_stresses_36 (by decide) (fun c6 => ?_) (fun c6 => ?_)
      · have hF := ob_pos c6 hF
        refine lv_aload_n hx hb dX5_stresses_53 rfl (lv_at hl 1 rfl) ?_
        refine lv_iload_n hx hb dX5_stresses_54 rfl (lv_at hl 2 rfl) ?_
        refine lv_iconst (v := 4) hx hb dX5_stresses_55 (by decide) ?_
        refine lv_iload_n hx hb dX5_stresses_56 rfl (lv_at hl 0 rfl) ?_
        obtain ⟨z7, hz7, hF⟩ := ob_bind hF
        refine cl_v (csR := []) (csF := [wM g a z7]) (rest := []) hx hb hml hown hts hK hE hA hl hP hD hS (c_X5_lays g l a mo p0 4 0 z7 hz7) [0] [] [0] ⟨rfl, rfl, rfl, rfl, rfl, rfl, rfl⟩ ⟨0, 9, _, _, rfl, rfl, rfl⟩ 3 (jb_giV mw_1407 mw_1409 ms_35 mw_10 mw_1410) ⟨rfl, rfl⟩ (by decide +kernel) ⟨⟨(Nat.le_of_ble_eq_true rfl), (Nat.le_of_ble_eq_true rfl)⟩, (Nat.le_of_ble_eq_true rfl), (Nat.le_of_ble_eq_true rfl)⟩ ⟨rfl, rfl⟩ (Nat.le_of_ble_eq_true rfl) dX5_stresses_57 (fun H locs hP hD hS => ?_)
        cases hF
        rw [hQ]
        exact jb_vret hx hb hr hlocks hP hD hS dX5_stresses_60 (Nat.le_of_ble_eq_true rfl) (Nat.le_of_ble_eq_true rfl)
      · have hF := ob_neg c6 hF
        refine lv_aload_n hx hb dX5_stresses_39 rfl (lv_at hl 1 rfl) ?_
        refine lv_iload_n hx hb dX5_stresses_40 rfl (lv_at hl 2 rfl) ?_
        refine lv_iconst (v := 3) hx hb dX5_stresses_41 (by decide) ?_
        refine lv_aload_n hx hb dX5_stresses_42 rfl (lv_at hl 1 rfl) ?_
        refine lv_iload_n hx hb dX5_stresses_43 rfl (lv_at hl 2 rfl) ?_
        refine lv_iconst (v := 3) hx hb dX5_stresses_44 (by decide) ?_
        obtain ⟨z8, hz8, hF⟩ := ob_bind hF
        refine cl_i (csR := []) (csF := [wM g a mo]) (rest := [.int 3, .int p0, .ref (a 0)]) hx hb hml hown hts hK hE hA hl hP hD hS (c_X5_of g l a mo p0 3 z8 hz8) [0] [] [0] ⟨rfl, rfl, rfl, rfl, rfl, rfl, rfl⟩ ⟨0, 9, _, _, rfl, rfl, rfl⟩ 2 (jb_giV mw_1415 mw_1417 ms_36 mw_10 mw_1418) ⟨rfl, rfl⟩ (by decide +kernel) ⟨⟨(Nat.le_of_ble_eq_true rfl), (Nat.le_of_ble_eq_true rfl)⟩, (Nat.le_of_ble_eq_true rfl), (Nat.le_of_ble_eq_true rfl)⟩ ⟨rfl, rfl⟩ (Nat.le_of_ble_eq_true rfl) dX5_stresses_45 (fun H locs hP hD hS => ?_)
        refine lv_iconst (v := 1) hx hb dX5_stresses_48 (by decide) ?_
        refine lv_iadd hx hb dX5_stresses_49 ?_
        obtain ⟨z9, hz9, hF⟩ := ob_bind hF
        refine cl_v (csR := []) (csF := [wM g a z9]) (rest := []) hx hb hml hown hts hK hE hA hl hP hD hS (c_X5_lays g l a mo p0 3 (z8 + 1) z9 hz9) [0] [] [0] ⟨rfl, rfl, rfl, rfl, rfl, rfl, rfl⟩ ⟨0, 9, _, _, rfl, rfl, rfl⟩ 3 (jb_giV mw_1407 mw_1409 ms_35 mw_10 mw_1410) ⟨rfl, rfl⟩ (by decide +kernel) ⟨⟨(Nat.le_of_ble_eq_true rfl), (Nat.le_of_ble_eq_true rfl)⟩, (Nat.le_of_ble_eq_true rfl), (Nat.le_of_ble_eq_true rfl)⟩ ⟨rfl, rfl⟩ (Nat.le_of_ble_eq_true rfl) dX5_stresses_50 (fun H locs hP hD hS => ?_)
        refine lv_aload_n hx hb dX5_stresses_53 rfl (lv_at hl 1 rfl) ?_
        refine lv_iload_n hx hb dX5_stresses_54 rfl (lv_at hl 2 rfl) ?_
        refine lv_iconst (v := 4) hx hb dX5_stresses_55 (by decide) ?_
        refine lv_iload_n hx hb dX5_stresses_56 rfl (lv_at hl 0 rfl) ?_
        obtain ⟨z10, hz10, hF⟩ := ob_bind hF
        refine cl_v (csR := []) (csF := [wM g a z10]) (rest := []) hx hb hml hown hts hK hE hA hl hP hD hS (c_X5_lays g l a z9 p0 4 0 z10 hz10) [0] [] [0] ⟨rfl, rfl, rfl, rfl, rfl, rfl, rfl⟩ ⟨0, 9, _, _, rfl, rfl, rfl⟩ 3 (jb_giV mw_1407 mw_1409 ms_35 mw_10 mw_1410) ⟨rfl, rfl⟩ (by decide +kernel) ⟨⟨(Nat.le_of_ble_eq_true rfl), (Nat.le_of_ble_eq_true rfl)⟩, (Nat.le_of_ble_eq_true rfl), (Nat.le_of_ble_eq_true rfl)⟩ ⟨rfl, rfl⟩ (Nat.le_of_ble_eq_true rfl) dX5_stresses_57 (fun H locs hP hD hS => ?_)
        cases hF
        rw [hQ]
        exact jb_vret hx hb hr hlocks hP hD hS dX5_stresses_60 (Nat.le_of_ble_eq_true rfl) (Nat.le_of_ble_eq_true rfl)
  · have hF := ob_neg c2 hF
    refine lv_aload_n hx hb dX5_stresses_8 rfl (lv_at hl 0 rfl) ?_
    refine lv_iload_n hx hb dX5_stresses_9 rfl (lv_at hl 1 rfl) ?_
    refine lv_iconst (v := 4) hx hb dX5_stresses_10 (by decide) ?_
    obtain ⟨z11, hz11, hF⟩ := ob_bind hF
    refine cl_i (csR := []) (csF := [wM g a mo]) (rest := []) hx hb hml hown hts hK hE hA hl hP hD hS (c_X5_of g l a mo p0 4 z11 hz11) [0] [] [0] ⟨rfl, rfl, rfl, rfl, rfl, rfl, rfl⟩ ⟨0, 9, _, _, rfl, rfl, rfl⟩ 2 (jb_giV mw_1415 mw_1417 ms_36 mw_10 mw_1418) ⟨rfl, rfl⟩ (by decide +kernel) ⟨⟨(Nat.le_of_ble_eq_true rfl), (Nat.le_of_ble_eq_true rfl)⟩, (Nat.le_of_ble_eq_true rfl), (Nat.le_of_ble_eq_true rfl)⟩ ⟨rfl, rfl⟩ (Nat.le_of_ble_eq_true rfl) dX5_stresses_11 (fun H locs hP hD hS => ?_)
    refine lv_iconst (v := 1) hx hb dX5_stresses_14 (by decide) ?_
    refine lv_iadd hx hb dX5_stresses_15 ?_
    refine lv_goto (tgt := 20) hx hb dX5_stresses_16 (by decide) ?_
    refine lv_istore_n (lv' := [(2, .int (z11 + 1)), (0, .ref (a 0)), (1, .int p0)]) hx hb dX5_stresses_20 rfl hl (by decide) rfl (fun ls hl => ?_)
    refine lv_iload_n hx hb dX5_stresses_21 rfl (lv_at hl 0 rfl) ?_
    refine lv_iconst (v := 3) hx hb dX5_stresses_22 (by decide) ?_
    refine lv_icmp_ne (tgt := 53) hx hb dX5_stresses_23 (by decide) (fun c12 => ?_) (fun c12 => ?_)
    · have hF := ob_pos c12 hF
      refine lv_aload_n hx hb dX5_stresses_53 rfl (lv_at hl 1 rfl) ?_
      refine lv_iload_n hx hb dX5_stresses_54 rfl (lv_at hl 2 rfl) ?_
      refine lv_iconst (v := 4) hx hb dX5_stresses_55 (by decide) ?_
      refine lv_iload_n hx hb dX5_stresses_56 rfl (lv_at hl 0 rfl) ?_
      obtain ⟨z13, hz13, hF⟩ := ob_bind hF
      refine cl_v (csR := []) (csF := [wM g a z13]) (rest := []) hx hb hml hown hts hK hE hA hl hP hD hS (c_X5_lays g l a mo p0 4 (z11 + 1) z13 hz13) [0] [] [0] ⟨rfl, rfl, rfl, rfl, rfl, rfl, rfl⟩ ⟨0, 9, _, _, rfl, rfl, rfl⟩ 3 (jb_giV mw_1407 mw_1409 ms_35 mw_10 mw_1410) ⟨rfl, rfl⟩ (by decide +kernel) ⟨⟨(Nat.le_of_ble_eq_true rfl), (Nat.le_of_ble_eq_true rfl)⟩, (Nat.le_of_ble_eq_true rfl), (Nat.le_of_ble_eq_true rfl)⟩ ⟨rfl, rfl⟩ (Nat.le_of_ble_eq_true rfl) dX5_stresses_57 (fun H locs hP hD hS => ?_)
      cases hF
      rw [hQ]
      exact jb_vret hx hb hr hlocks hP hD hS dX5_stresses_60 (Nat.le_of_ble_eq_true rfl) (Nat.le_of_ble_eq_true rfl)
    · have hF := ob_nneg c12 hF
      refine lv_iconst (v := 0) hx hb dX5_stresses_26 (by decide) ?_
      refine lv_istore_n (lv' := [(2, .int 0), (0, .ref (a 0)), (1, .int p0)]) hx hb dX5_stresses_27 rfl hl (by decide) rfl (fun ls hl => ?_)
      refine lv_aload_n hx hb dX5_stresses_28 rfl (lv_at hl 1 rfl) ?_
      refine lv_iload_n hx hb dX5_stresses_29 rfl (lv_at hl 2 rfl) ?_
      refine lv_iconst (v := 3) hx hb dX5_stresses_30 (by decide) ?_
      obtain ⟨z14, hz14, hF⟩ := ob_bind hF
      refine cl_i (csR := []) (csF := [wM g a mo]) (rest := []) hx hb hml hown hts hK hE hA hl hP hD hS (c_X5_of g l a mo p0 3 z14 hz14) [0] [] [0] ⟨rfl, rfl, rfl, rfl, rfl, rfl, rfl⟩ ⟨0, 9, _, _, rfl, rfl, rfl⟩ 2 (jb_giV mw_1415 mw_1417 ms_36 mw_10 mw_1418) ⟨rfl, rfl⟩ (by decide +kernel) ⟨⟨(Nat.le_of_ble_eq_true rfl), (Nat.le_of_ble_eq_true rfl)⟩, (Nat.le_of_ble_eq_true rfl), (Nat.le_of_ble_eq_true rfl)⟩ ⟨rfl, rfl⟩ (Nat.le_of_ble_eq_true rfl) dX5_stresses_31 (fun H locs hP hD hS => ?_)
      refine lv_bipush (v := 9) hx hb dX5_stresses_34 (by decide) ?_
      refine lv_icmp_ge (tgt := 53) hx hb dX5_stresses_36 (by decide) (fun c15 => ?_) (fun c15 => ?_)
      · have hF := ob_pos c15 hF
        refine lv_aload_n hx hb dX5_stresses_53 rfl (lv_at hl 1 rfl) ?_
        refine lv_iload_n hx hb dX5_stresses_54 rfl (lv_at hl 2 rfl) ?_
        refine lv_iconst (v := 4) hx hb dX5_stresses_55 (by decide) ?_
        refine lv_iload_n hx hb dX5_stresses_56 rfl (lv_at hl 0 rfl) ?_
        obtain ⟨z16, hz16, hF⟩ := ob_bind hF
        refine cl_v (csR := []) (csF := [wM g a z16]) (rest := []) hx hb hml hown hts hK hE hA hl hP hD hS (c_X5_lays g l a mo p0 4 0 z16 hz16) [0] [] [0] ⟨rfl, rfl, rfl, rfl, rfl, rfl, rfl⟩ ⟨0, 9, _, _, rfl, rfl, rfl⟩ 3 (jb_giV mw_1407 mw_1409 ms_35 mw_10 mw_1410) ⟨rfl, rfl⟩ (by decide +kernel) ⟨⟨(Nat.le_of_ble_eq_true rfl), (Nat.le_of_ble_eq_true rfl)⟩, (Nat.le_of_ble_eq_true rfl), (Nat.le_of_ble_eq_true rfl)⟩ ⟨rfl, rfl⟩ (Nat.le_of_ble_eq_true rfl) dX5_stresses_57 (fun H locs hP hD hS => ?_)
        cases hF
        rw [hQ]
        exact jb_vret hx hb hr hlocks hP hD hS dX5_stresses_60 (Nat.le_of_ble_eq_true rfl) (Nat.le_of_ble_eq_true rfl)
      · have hF := ob_neg c15 hF
        refine lv_aload_n hx hb dX5_stresses_39 rfl (lv_at hl 1 rfl) ?_
        refine lv_iload_n hx hb dX5_stresses_40 rfl (lv_at hl 2 rfl) ?_
        refine lv_iconst (v := 3) hx hb dX5_stresses_41 (by decide) ?_
        refine lv_aload_n hx hb dX5_stresses_42 rfl (lv_at hl 1 rfl) ?_
        refine lv_iload_n hx hb dX5_stresses_43 rfl (lv_at hl 2 rfl) ?_
        refine lv_iconst (v := 3) hx hb dX5_stresses_44 (by decide) ?_
        obtain ⟨z17, hz17, hF⟩ := ob_bind hF
        refine cl_i (csR := []) (csF := [wM g a mo]) (rest := [.int 3, .int p0, .ref (a 0)]) hx hb hml hown hts hK hE hA hl hP hD hS (c_X5_of g l a mo p0 3 z17 hz17) [0] [] [0] ⟨rfl, rfl, rfl, rfl, rfl, rfl, rfl⟩ ⟨0, 9, _, _, rfl, rfl, rfl⟩ 2 (jb_giV mw_1415 mw_1417 ms_36 mw_10 mw_1418) ⟨rfl, rfl⟩ (by decide +kernel) ⟨⟨(Nat.le_of_ble_eq_true rfl), (Nat.le_of_ble_eq_true rfl)⟩, (Nat.le_of_ble_eq_true rfl), (Nat.le_of_ble_eq_true rfl)⟩ ⟨rfl, rfl⟩ (Nat.le_of_ble_eq_true rfl) dX5_stresses_45 (fun H locs hP hD hS => ?_)
        refine lv_iconst (v := 1) hx hb dX5_stresses_48 (by decide) ?_
        refine lv_iadd hx hb dX5_stresses_49 ?_
        obtain ⟨z18, hz18, hF⟩ := ob_bind hF
        refine cl_v (csR := []) (csF := [wM g a z18]) (rest := []) hx hb hml hown hts hK hE hA hl hP hD hS (c_X5_lays g l a mo p0 3 (z17 + 1) z18 hz18) [0] [] [0] ⟨rfl, rfl, rfl, rfl, rfl, rfl, rfl⟩ ⟨0, 9, _, _, rfl, rfl, rfl⟩ 3 (jb_giV mw_1407 mw_1409 ms_35 mw_10 mw_1410) ⟨rfl, rfl⟩ (by decide +kernel) ⟨⟨(Nat.le_of_ble_eq_true rfl), (Nat.le_of_ble_eq_true rfl)⟩, (Nat.le_of_ble_eq_true rfl), (Nat.le_of_ble_eq_true rfl)⟩ ⟨rfl, rfl⟩ (Nat.le_of_ble_eq_true rfl) dX5_stresses_50 (fun H locs hP hD hS => ?_)
        refine lv_aload_n hx hb dX5_stresses_53 rfl (lv_at hl 1 rfl) ?_
        refine lv_iload_n hx hb dX5_stresses_54 rfl (lv_at hl 2 rfl) ?_
        refine lv_iconst (v := 4) hx hb dX5_stresses_55 (by decide) ?_
        refine lv_iload_n hx hb dX5_stresses_56 rfl (lv_at hl 0 rfl) ?_
        obtain ⟨z19, hz19, hF⟩ := ob_bind hF
        refine cl_v (csR := []) (csF := [wM g a z19]) (rest := []) hx hb hml hown hts hK hE hA hl hP hD hS (c_X5_lays g l a z18 p0 4 0 z19 hz19) [0] [] [0] ⟨rfl, rfl, rfl, rfl, rfl, rfl, rfl⟩ ⟨0, 9, _, _, rfl, rfl, rfl⟩ 3 (jb_giV mw_1407 mw_1409 ms_35 mw_10 mw_1410) ⟨rfl, rfl⟩ (by decide +kernel) ⟨⟨(Nat.le_of_ble_eq_true rfl), (Nat.le_of_ble_eq_true rfl)⟩, (Nat.le_of_ble_eq_true rfl), (Nat.le_of_ble_eq_true rfl)⟩ ⟨rfl, rfl⟩ (Nat.le_of_ble_eq_true rfl) dX5_stresses_57 (fun H locs hP hD hS => ?_)
        cases hF
        rw [hQ]
        exact jb_vret hx hb hr hlocks hP hD hS dX5_stresses_60 (Nat.le_of_ble_eq_true rfl) (Nat.le_of_ble_eq_true rfl)
def F_X5_isInfected (mo : Mv) (p0 : Int32) (p1 : Int32) : Option (Bool) := (F_X5_isSpan mo p1).bind (fun z1 => if (bi z1) = 0 then some false else ck (inb p1 10) (if ((M_counted mo) p1.toNatClampNeg) ≤ 4 then some false else ck (inb p1 10) (ck (inb p0 10) (if ((M_counted mo) p1.toNatClampNeg) ≤ ((M_counted mo) p0.toNatClampNeg) then some false else some true))))
set_option maxHeartbeats 4000000 in
set_option maxRecDepth 100000 in
theorem c_X5_isInfected (g : GG) (l : Launch) (a : Nat → Nat) (mo : Mv) (p0 : Int32) (p1 : Int32) (z : Bool) (hF : F_X5_isInfected mo p0 p1 = some z) : MI g l yX5_isInfected cX5_isInfected 3 (some .boolean) ({ frames := 2, cells := 0, slots := 0, locals := 43 } : Room) [.ref (a 0), .int p0, .int p1] [wM g a mo] 0 0 (bi z) [wM g a mo] := by
  refine MI.bg (by decide) (Nat.le_of_ble_eq_true rfl) ?_
  intro p e s m below meth c A Q hQ hx hb hr hml hown hts hlocks hmn hK hE hA hP hD hS ls hl
  rw [F_X5_isInfected] at hF
  have hl : lv_has ls 3 [(0, .ref (a 0)), (1, .int p0), (2, .int p1)] := hl
  refine lv_aload_n hx hb dX5_isInfected_0 rfl (lv_at hl 0 rfl) ?_
  refine lv_iload_n hx hb dX5_isInfected_1 rfl (lv_at hl 2 rfl) ?_
  obtain ⟨z1, hz1, hF⟩ := ob_bind hF
  refine cl_i (csR := []) (csF := [wM g a mo]) (rest := []) hx hb hml hown hts hK hE hA hl hP hD hS (c_X5_isSpan g l a mo p1 z1 hz1) [0] [] [0] ⟨rfl, rfl, rfl, rfl, rfl, rfl, rfl⟩ ⟨0, 9, _, _, rfl, rfl, rfl⟩ 1 (jb_giV mw_1423 mw_1425 ms_37 mw_10 mw_1426) ⟨rfl, rfl⟩ (by decide +kernel) ⟨⟨(Nat.le_of_ble_eq_true rfl), (Nat.le_of_ble_eq_true rfl)⟩, (Nat.le_of_ble_eq_true rfl), (Nat.le_of_ble_eq_true rfl)⟩ ⟨rfl, rfl⟩ (Nat.le_of_ble_eq_true rfl) dX5_isInfected_2 (fun H locs hP hD hS => ?_)
  refine lv_if_eq (tgt := 37) hx hb dX5_isInfected_5 (by decide) (fun c2 => ?_) (fun c2 => ?_)
  · have hF := ob_pos c2 hF
    refine lv_iconst (v := 0) hx hb dX5_isInfected_37 (by decide) ?_
    cases hF
    rw [hQ]
    exact jb_zret hx hb hr rfl hlocks hP hD hS dX5_isInfected_38 rfl (Nat.le_of_ble_eq_true rfl) (Nat.le_of_ble_eq_true rfl)
  · have hF := ob_neg c2 hF
    refine lv_aload_n hx hb dX5_isInfected_8 rfl (lv_at hl 0 rfl) ?_
    refine va_get (D := g.1) (ci := 9) (v := .ref (a 6)) (C := RX5) (T := TX5) (N := 23) hx hb hts inX5 hown hK hP 0 rfl rfl 5 (by decide) (hts _ mw_1316) (fun _ h9 => h9) rfl dX5_isInfected_9 ?_
    refine lv_iload_n hx hb dX5_isInfected_12 rfl (lv_at hl 2 rfl) ?_
    have h3 := inb_in (ck_t hF)
    have hF := ck_s hF
    refine va_iald hx hb hK hP 6 0 rfl rfl h3 dX5_isInfected_13 ?_
    refine lv_iconst (v := 4) hx hb dX5_isInfected_14 (by decide) ?_
    refine lv_icmp_le (tgt := 37) hx hb dX5_isInfected_15 (by decide) (fun c4 => ?_) (fun c4 => ?_)
    · have hF := ob_pos c4 hF
      refine lv_iconst (v := 0) hx hb dX5_isInfected_37 (by decide) ?_
      cases hF
      rw [hQ]
      exact jb_zret hx hb hr rfl hlocks hP hD hS dX5_isInfected_38 rfl (Nat.le_of_ble_eq_true rfl) (Nat.le_of_ble_eq_true rfl)
    · have hF := ob_neg c4 hF
      refine lv_aload_n hx hb dX5_isInfected_18 rfl (lv_at hl 0 rfl) ?_
      refine va_get (D := g.1) (ci := 9) (v := .ref (a 6)) (C := RX5) (T := TX5) (N := 23) hx hb hts inX5 hown hK hP 0 rfl rfl 5 (by decide) (hts _ mw_1316) (fun _ h9 => h9) rfl dX5_isInfected_19 ?_
      refine lv_iload_n hx hb dX5_isInfected_22 rfl (lv_at hl 2 rfl) ?_
      have h5 := inb_in (ck_t hF)
      have hF := ck_s hF
      refine va_iald hx hb hK hP 6 0 rfl rfl h5 dX5_isInfected_23 ?_
      refine lv_aload_n hx hb dX5_isInfected_24 rfl (lv_at hl 0 rfl) ?_
      refine va_get (D := g.1) (ci := 9) (v := .ref (a 6)) (C := RX5) (T := TX5) (N := 23) hx hb hts inX5 hown hK hP 0 rfl rfl 5 (by decide) (hts _ mw_1316) (fun _ h9 => h9) rfl dX5_isInfected_25 ?_
      refine lv_iload_n hx hb dX5_isInfected_28 rfl (lv_at hl 1 rfl) ?_
      have h6 := inb_in (ck_t hF)
      have hF := ck_s hF
      refine va_iald hx hb hK hP 6 0 rfl rfl h6 dX5_isInfected_29 ?_
      refine lv_icmp_le (tgt := 37) hx hb dX5_isInfected_30 (by decide) (fun c7 => ?_) (fun c7 => ?_)
      · have hF := ob_pos c7 hF
        refine lv_iconst (v := 0) hx hb dX5_isInfected_37 (by decide) ?_
        cases hF
        rw [hQ]
        exact jb_zret hx hb hr rfl hlocks hP hD hS dX5_isInfected_38 rfl (Nat.le_of_ble_eq_true rfl) (Nat.le_of_ble_eq_true rfl)
      · have hF := ob_neg c7 hF
        refine lv_iconst (v := 1) hx hb dX5_isInfected_33 (by decide) ?_
        refine lv_goto (tgt := 38) hx hb dX5_isInfected_34 (by decide) ?_
        cases hF
        rw [hQ]
        exact jb_zret hx hb hr rfl hlocks hP hD hS dX5_isInfected_38 rfl (Nat.le_of_ble_eq_true rfl) (Nat.le_of_ble_eq_true rfl)
def F_X5_spreads_L2  (k : Mv → Int32 → Option (Mv)) : Nat → Mv → Int32 → Option (Mv)
  | 0, _, _ => none
  | n + 1, b0, x1 => ck (inb 0 83) (if ((M_g b0) (0 : Int32).toNatClampNeg) ≤ x1 then k b0 x1 else (F_X5_of b0 x1 3).bind (fun z1 => ck (inb x1 10) (F_X5_spreads_L2  k n (mkM (M_g b0) (M_kept b0) (M_saved b0) (M_before b0) (M_trial b0) (upd (M_counted b0) x1.toNatClampNeg z1) (M_isSaved b0) (M_changes b0) (M_isWithin b0) (M_isDenied b0) (M_code b0) (M_why b0) (M_detail b0) (M_cause b0) (M_input b0) (M_length b0) (M_fault b0) (M_signs b0) (M_signMany b0) (M_lastOver b0) (M_at b0) (M_told b0) (M_toldMany b0)) (x1 + 1))))
def F_X5_spreads_L32  (k : Mv → Int32 → Option (Mv)) : Nat → Mv → Int32 → Option (Mv)
  | 0, _, _ => none
  | n + 1, b0, x1 => ck (inb 0 83) (if ((M_g b0) (0 : Int32).toNatClampNeg) ≤ x1 then k b0 x1 else ck (inb x1 10) (if 9 ≤ ((M_counted b0) x1.toNatClampNeg) then F_X5_spreads_L32  k n b0 (x1 + 1) else (F_X5_isInfected b0 x1 (x1 - 1)).bind (fun z4 => if ¬ (bi z4) = 0 then ck (inb x1 10) ((F_X5_lays b0 x1 3 (((M_counted b0) x1.toNatClampNeg) + 1)).bind (fun z5 => F_X5_spreads_L32  k n z5 (x1 + 1))) else (F_X5_isInfected b0 x1 (x1 + 1)).bind (fun z6 => if (bi z6) = 0 then F_X5_spreads_L32  k n b0 (x1 + 1) else ck (inb x1 10) ((F_X5_lays b0 x1 3 (((M_counted b0) x1.toNatClampNeg) + 1)).bind (fun z7 => F_X5_spreads_L32  k n z7 (x1 + 1)))))))
def F_X5_spreads (mo : Mv) : Option (Mv) := F_X5_spreads_L2  (fun b2 x3 => F_X5_spreads_L32  (fun b8 x9 => some b8) 1000 b2 0) 1000 mo 0
set_option maxHeartbeats 4000000 in
set_option maxRecDepth 100000 in
theorem c_X5_spreads (g : GG) (l : Launch) (a : Nat → Nat) (mo : Mv) (z : Mv) (hF : F_X5_spreads mo = some z) : MV g l yX5_spreads cX5_spreads 2 none ({ frames := 3, cells := 0, slots := 0, locals := 65 } : Room) [.ref (a 0)] [wM g a mo] 0 0 [wM g a z] := by
  refine MV.bg (by decide) (Nat.le_of_ble_eq_true rfl) ?_
  intro p e s m below meth c A Q hQ hx hb hr hml hown hts hlocks hmn hK hE hA hP hD hS ls hl
  rw [F_X5_spreads] at hF
  have hl : lv_has ls 2 [(0, .ref (a 0))] := hl
  refine lv_iconst (v := 0) hx hb dX5_spreads_0 (by decide) ?_
  refine lv_istore_n (lv' := [(1, .int 0), (0, .ref (a 0))]) hx hb dX5_spreads_1 rfl hl (by decide) rfl (fun ls hl => ?_)
  obtain ⟨k2, ek2, hF⟩ := ob_k (F := fun k9 => F_X5_spreads_L2  k9 1000 mo 0) hF
  have loop2 : ∀ (n9 : Nat) (b1 : Mv) (x2 : Int32), F_X5_spreads_L2  k2 n9 b1 x2 = some z → ∀ (H : Heap) (locs : List Loc), va_P g.1 vwCl ([wM g a b1] : List va_W).flatten H → va_D A ([wM g a b1] : List va_W).flatten → va_S A s.heap H locs → ∀ ls : Array Slot, lv_has ls 2 [(0, .ref (a 0)), (1, .int x2)] → W p l e ({ frames := 3, cells := 0, slots := 0, locals := 65 } : Room) s m ([.ref (a 0)] : List Value).toArray below meth c H locs 0 0 Q (F0 m 2 ls []) := by
    intro n9
    induction n9 with
    | zero => intro b1 x2 hF; rw [F_X5_spreads_L2] at hF; cases hF
    | succ n9 ih2 =>
      intro b1 x2 hF H locs hP hD hS ls hl
      rw [F_X5_spreads_L2] at hF
      refine lv_iload_n hx hb dX5_spreads_2 rfl (lv_at hl 1 rfl) ?_
      refine lv_aload_n hx hb dX5_spreads_3 rfl (lv_at hl 0 rfl) ?_
      refine va_get (D := g.1) (ci := 9) (v := .ref (a 1)) (C := RX5) (T := TX5) (N := 23) hx hb hts inX5 hown hK hP 0 rfl rfl 0 (by decide) (hts _ mw_1311) (fun _ h9 => h9) rfl dX5_spreads_4 ?_
      refine lv_iconst (v := 0) hx hb dX5_spreads_7 (by decide) ?_
      have h3 := inb_in (ck_t hF)
      have hF := ck_s hF
      refine va_iald hx hb hK hP 1 0 rfl rfl h3 dX5_spreads_8 ?_
      refine lv_icmp_ge (tgt := 30) hx hb dX5_spreads_9 (by decide) (fun c4 => ?_) (fun c4 => ?_)
      · have hF := ob_pos c4 hF
        rw [ek2] at hF
        refine lv_iconst (v := 0) hx hb dX5_spreads_30 (by decide) ?_
        refine lv_istore_n (lv' := [(1, .int 0), (0, .ref (a 0))]) hx hb dX5_spreads_31 rfl hl (by decide) rfl (fun ls hl => ?_)
        obtain ⟨k6, ek6, hF⟩ := ob_k (F := fun k9 => F_X5_spreads_L32  k9 1000 b1 0) hF
        have loop6 : ∀ (n9 : Nat) (b5 : Mv) (x6 : Int32), F_X5_spreads_L32  k6 n9 b5 x6 = some z → ∀ (H : Heap) (locs : List Loc), va_P g.1 vwCl ([wM g a b5] : List va_W).flatten H → va_D A ([wM g a b5] : List va_W).flatten → va_S A s.heap H locs → ∀ ls : Array Slot, lv_has ls 2 [(0, .ref (a 0)), (1, .int x6)] → W p l e ({ frames := 3, cells := 0, slots := 0, locals := 65 } : Room) s m ([.ref (a 0)] : List Value).toArray below meth c H locs 0 0 Q (F0 m 32 ls []) := by
          intro n9
          induction n9 with
          | zero => intro b5 x6 hF; rw [F_X5_spreads_L32] at hF; cases hF
          | succ n9 ih6 =>
            intro b5 x6 hF H locs hP hD hS ls hl
            rw [F_X5_spreads_L32] at hF
            refine lv_iload_n hx hb dX5_spreads_32 rfl (lv_at hl 1 rfl) ?_
            refine lv_aload_n hx hb dX5_spreads_33 rfl (lv_at hl 0 rfl) ?_
            refine va_get (D := g.1) (ci := 9) (v := .ref (a 1)) (C := RX5) (T := TX5) (N := 23) hx hb hts inX5 hown hK hP 0 rfl rfl 0 (by decide) (hts _ mw_1311) (fun _ h9 => h9) rfl dX5_spreads_34 ?_
            refine lv_iconst (v := 0) hx hb dX5_spreads_37 (by decide) ?_
            have h7 := inb_in (ck_t hF)
            have hF := ck_s hF
            refine va_iald hx hb hK hP 1 0 rfl rfl h7 dX5_spreads_38 ?_
            refine lv_icmp_ge (tgt := 95) hx hb dX5_spreads_39 (by decide) (fun c8 => ?_) (fun c8 => ?_)
            · have hF := ob_pos c8 hF
              rw [ek6] at hF
              cases hF
              rw [hQ]
              exact jb_vret hx hb hr hlocks hP hD hS dX5_spreads_95 (Nat.le_of_ble_eq_true rfl) (Nat.le_of_ble_eq_true rfl)
            · have hF := ob_neg c8 hF
              refine lv_aload_n hx hb dX5_spreads_42 rfl (lv_at hl 0 rfl) ?_
              refine va_get (D := g.1) (ci := 9) (v := .ref (a 6)) (C := RX5) (T := TX5) (N := 23) hx hb hts inX5 hown hK hP 0 rfl rfl 5 (by decide) (hts _ mw_1316) (fun _ h9 => h9) rfl dX5_spreads_43 ?_
              refine lv_iload_n hx hb dX5_spreads_46 rfl (lv_at hl 1 rfl) ?_
              have h9 := inb_in (ck_t hF)
              have hF := ck_s hF
              refine va_iald hx hb hK hP 6 0 rfl rfl h9 dX5_spreads_47 ?_
              refine lv_bipush (v := 9) hx hb dX5_spreads_48 (by decide) ?_
              refine lv_icmp_ge (tgt := 89) hx hb dX5_spreads_50 (by decide) (fun c10 => ?_) (fun c10 => ?_)
              · have hF := ob_pos c10 hF
                refine lv_iinc (v := x6 + 1) (lv' := [(1, .int (x6 + 1)), (0, .ref (a 0))]) hx hb dX5_spreads_89 hl (k := 1) rfl (by rfl) (by decide) rfl (fun ls hl => ?_)
                refine lv_goto (tgt := 32) hx hb dX5_spreads_92 (by decide) ?_
                exact ih6 _ _ hF _ _ hP hD hS ls (lv_sub hl [1, 0] rfl)
              · have hF := ob_neg c10 hF
                refine lv_aload_n hx hb dX5_spreads_53 rfl (lv_at hl 0 rfl) ?_
                refine lv_iload_n hx hb dX5_spreads_54 rfl (lv_at hl 1 rfl) ?_
                refine lv_iload_n hx hb dX5_spreads_55 rfl (lv_at hl 1 rfl) ?_
                refine lv_iconst (v := 1) hx hb dX5_spreads_56 (by decide) ?_
                refine lv_isub hx hb dX5_spreads_57 ?_
                obtain ⟨z11, hz11, hF⟩ := ob_bind hF
                refine cl_i (csR := []) (csF := [wM g a b5]) (rest := []) hx hb hml hown hts hK hE hA hl hP hD hS (c_X5_isInfected g l a b5 x6 (x6 - 1) z11 hz11) [0] [] [0] ⟨rfl, rfl, rfl, rfl, rfl, rfl, rfl⟩ ⟨0, 9, _, _, rfl, rfl, rfl⟩ 2 (jb_giV mw_1550 mw_1552 ms_54 mw_10 mw_1553) ⟨rfl, rfl⟩ (by decide +kernel) ⟨⟨(Nat.le_of_ble_eq_true rfl), (Nat.le_of_ble_eq_true rfl)⟩, (Nat.le_of_ble_eq_true rfl), (Nat.le_of_ble_eq_true rfl)⟩ ⟨rfl, rfl⟩ (Nat.le_of_ble_eq_true rfl) dX5_spreads_58 (fun H locs hP hD hS => ?_)
                refine lv_if_ne (tgt := 75) hx hb dX5_spreads_61 (by decide) (fun c12 => ?_) (fun c12 => ?_)
                · have hF := ob_pos c12 hF
                  refine lv_aload_n hx hb dX5_spreads_75 rfl (lv_at hl 0 rfl) ?_
                  refine lv_iload_n hx hb dX5_spreads_76 rfl (lv_at hl 1 rfl) ?_
                  refine lv_iconst (v := 3) hx hb dX5_spreads_77 (by decide) ?_
                  refine lv_aload_n hx hb dX5_spreads_78 rfl (lv_at hl 0 rfl) ?_
                  refine va_get (D := g.1) (ci := 9) (v := .ref (a 6)) (C := RX5) (T := TX5) (N := 23) hx hb hts inX5 hown hK hP 0 rfl rfl 5 (by decide) (hts _ mw_1316) (fun _ h9 => h9) rfl dX5_spreads_79 ?_
                  refine lv_iload_n hx hb dX5_spreads_82 rfl (lv_at hl 1 rfl) ?_
                  have h13 := inb_in (ck_t hF)
                  have hF := ck_s hF
                  refine va_iald hx hb hK hP 6 0 rfl rfl h13 dX5_spreads_83 ?_
                  refine lv_iconst (v := 1) hx hb dX5_spreads_84 (by decide) ?_
                  refine lv_iadd hx hb dX5_spreads_85 ?_
                  obtain ⟨z14, hz14, hF⟩ := ob_bind hF
                  refine cl_v (csR := []) (csF := [wM g a z14]) (rest := []) hx hb hml hown hts hK hE hA hl hP hD hS (c_X5_lays g l a b5 x6 3 (((M_counted b5) x6.toNatClampNeg) + 1) z14 hz14) [0] [] [0] ⟨rfl, rfl, rfl, rfl, rfl, rfl, rfl⟩ ⟨0, 9, _, _, rfl, rfl, rfl⟩ 3 (jb_giV mw_1407 mw_1409 ms_35 mw_10 mw_1410) ⟨rfl, rfl⟩ (by decide +kernel) ⟨⟨(Nat.le_of_ble_eq_true rfl), (Nat.le_of_ble_eq_true rfl)⟩, (Nat.le_of_ble_eq_true rfl), (Nat.le_of_ble_eq_true rfl)⟩ ⟨rfl, rfl⟩ (Nat.le_of_ble_eq_true rfl) dX5_spreads_86 (fun H locs hP hD hS => ?_)
                  refine lv_iinc (v := x6 + 1) (lv' := [(1, .int (x6 + 1)), (0, .ref (a 0))]) hx hb dX5_spreads_89 hl (k := 1) rfl (by rfl) (by decide) rfl (fun ls hl => ?_)
                  refine lv_goto (tgt := 32) hx hb dX5_spreads_92 (by decide) ?_
                  exact ih6 _ _ hF _ _ hP hD hS ls (lv_sub hl [1, 0] rfl)
                · have hF := ob_nneg c12 hF
                  refine lv_aload_n hx hb dX5_spreads_64 rfl (lv_at hl 0 rfl) ?_
                  refine lv_iload_n hx hb dX5_spreads_65 rfl (lv_at hl 1 rfl) ?_
                  refine lv_iload_n hx hb dX5_spreads_66 rfl (lv_at hl 1 rfl) ?_
                  refine lv_iconst (v := 1) hx hb dX5_spreads_67 (by decide) ?_
                  refine lv_iadd hx hb dX5_spreads_68 ?_
                  obtain ⟨z15, hz15, hF⟩ := ob_bind hF
                  refine cl_i (csR := []) (csF := [wM g a b5]) (rest := []) hx hb hml hown hts hK hE hA hl hP hD hS (c_X5_isInfected g l a b5 x6 (x6 + 1) z15 hz15) [0] [] [0] ⟨rfl, rfl, rfl, rfl, rfl, rfl, rfl⟩ ⟨0, 9, _, _, rfl, rfl, rfl⟩ 2 (jb_giV mw_1550 mw_1552 ms_54 mw_10 mw_1553) ⟨rfl, rfl⟩ (by decide +kernel) ⟨⟨(Nat.le_of_ble_eq_true rfl), (Nat.le_of_ble_eq_true rfl)⟩, (Nat.le_of_ble_eq_true rfl), (Nat.le_of_ble_eq_true rfl)⟩ ⟨rfl, rfl⟩ (Nat.le_of_ble_eq_true rfl) dX5_spreads_69 (fun H locs hP hD hS => ?_)
                  refine lv_if_eq (tgt := 89) hx hb dX5_spreads_72 (by decide) (fun c16 => ?_) (fun c16 => ?_)
                  · have hF := ob_pos c16 hF
                    refine lv_iinc (v := x6 + 1) (lv' := [(1, .int (x6 + 1)), (0, .ref (a 0))]) hx hb dX5_spreads_89 hl (k := 1) rfl (by rfl) (by decide) rfl (fun ls hl => ?_)
                    refine lv_goto (tgt := 32) hx hb dX5_spreads_92 (by decide) ?_
                    exact ih6 _ _ hF _ _ hP hD hS ls (lv_sub hl [1, 0] rfl)
                  · have hF := ob_neg c16 hF
                    refine lv_aload_n hx hb dX5_spreads_75 rfl (lv_at hl 0 rfl) ?_
                    refine lv_iload_n hx hb dX5_spreads_76 rfl (lv_at hl 1 rfl) ?_
                    refine lv_iconst (v := 3) hx hb dX5_spreads_77 (by decide) ?_
                    refine lv_aload_n hx hb dX5_spreads_78 rfl (lv_at hl 0 rfl) ?_
                    refine va_get (D := g.1) (ci := 9) (v := .ref (a 6)) (C := RX5) (T := TX5) (N := 23) hx hb hts inX5 hown hK hP 0 rfl rfl 5 (by decide) (hts _ mw_1316) (fun _ h9 => h9) rfl dX5_spreads_79 ?_
                    refine lv_iload_n hx hb dX5_spreads_82 rfl (lv_at hl 1 rfl) ?_
                    have h17 := inb_in (ck_t hF)
                    have hF := ck_s hF
                    refine va_iald hx hb hK hP 6 0 rfl rfl h17 dX5_spreads_83 ?_
                    refine lv_iconst (v := 1) hx hb dX5_spreads_84 (by decide) ?_
                    refine lv_iadd hx hb dX5_spreads_85 ?_
                    obtain ⟨z18, hz18, hF⟩ := ob_bind hF
                    refine cl_v (csR := []) (csF := [wM g a z18]) (rest := []) hx hb hml hown hts hK hE hA hl hP hD hS (c_X5_lays g l a b5 x6 3 (((M_counted b5) x6.toNatClampNeg) + 1) z18 hz18) [0] [] [0] ⟨rfl, rfl, rfl, rfl, rfl, rfl, rfl⟩ ⟨0, 9, _, _, rfl, rfl, rfl⟩ 3 (jb_giV mw_1407 mw_1409 ms_35 mw_10 mw_1410) ⟨rfl, rfl⟩ (by decide +kernel) ⟨⟨(Nat.le_of_ble_eq_true rfl), (Nat.le_of_ble_eq_true rfl)⟩, (Nat.le_of_ble_eq_true rfl), (Nat.le_of_ble_eq_true rfl)⟩ ⟨rfl, rfl⟩ (Nat.le_of_ble_eq_true rfl) dX5_spreads_86 (fun H locs hP hD hS => ?_)
                    refine lv_iinc (v := x6 + 1) (lv' := [(1, .int (x6 + 1)), (0, .ref (a 0))]) hx hb dX5_spreads_89 hl (k := 1) rfl (by rfl) (by decide) rfl (fun ls hl => ?_)
                    refine lv_goto (tgt := 32) hx hb dX5_spreads_92 (by decide) ?_
                    exact ih6 _ _ hF _ _ hP hD hS ls (lv_sub hl [1, 0] rfl)
        exact loop6 1000 _ _ hF _ _ hP hD hS ls (lv_sub hl [1, 0] rfl)
      · have hF := ob_neg c4 hF
        refine lv_aload_n hx hb dX5_spreads_12 rfl (lv_at hl 0 rfl) ?_
        refine va_get (D := g.1) (ci := 9) (v := .ref (a 6)) (C := RX5) (T := TX5) (N := 23) hx hb hts inX5 hown hK hP 0 rfl rfl 5 (by decide) (hts _ mw_1316) (fun _ h9 => h9) rfl dX5_spreads_13 ?_
        refine lv_iload_n hx hb dX5_spreads_16 rfl (lv_at hl 1 rfl) ?_
        refine lv_aload_n hx hb dX5_spreads_17 rfl (lv_at hl 0 rfl) ?_
        refine lv_iload_n hx hb dX5_spreads_18 rfl (lv_at hl 1 rfl) ?_
        refine lv_iconst (v := 3) hx hb dX5_spreads_19 (by decide) ?_
        obtain ⟨z19, hz19, hF⟩ := ob_bind hF
        refine cl_i (csR := []) (csF := [wM g a b1]) (rest := [.int x2, .ref (a 6)]) hx hb hml hown hts hK hE hA hl hP hD hS (c_X5_of g l a b1 x2 3 z19 hz19) [0] [] [0] ⟨rfl, rfl, rfl, rfl, rfl, rfl, rfl⟩ ⟨0, 9, _, _, rfl, rfl, rfl⟩ 2 (jb_giV mw_1415 mw_1417 ms_36 mw_10 mw_1418) ⟨rfl, rfl⟩ (by decide +kernel) ⟨⟨(Nat.le_of_ble_eq_true rfl), (Nat.le_of_ble_eq_true rfl)⟩, (Nat.le_of_ble_eq_true rfl), (Nat.le_of_ble_eq_true rfl)⟩ ⟨rfl, rfl⟩ (Nat.le_of_ble_eq_true rfl) dX5_spreads_20 (fun H locs hP hD hS => ?_)
        have h20 := inb_in (ck_t hF)
        have hF := ck_s hF
        refine va_iast hx hb hK hP hD hS 6 0 rfl rfl h20 dX5_spreads_23 (fun H locs hP hD hS => ?_)
        have hP : va_P g.1 vwCl ([wMc g a (M_g b1) (M_kept b1) (M_saved b1) (M_before b1) (M_trial b1) (upd (M_counted b1) x2.toNatClampNeg z19) (M_isSaved b1) (M_changes b1) (M_isWithin b1) (M_isDenied b1) (M_code b1) (M_why b1) (M_detail b1) (M_cause b1) (M_input b1) (M_length b1) (M_fault b1) (M_signs b1) (M_signMany b1) (M_lastOver b1) (M_at b1) (M_told b1) (M_toldMany b1)] : List va_W).flatten _ := hP
        have hD : va_D A ([wMc g a (M_g b1) (M_kept b1) (M_saved b1) (M_before b1) (M_trial b1) (upd (M_counted b1) x2.toNatClampNeg z19) (M_isSaved b1) (M_changes b1) (M_isWithin b1) (M_isDenied b1) (M_code b1) (M_why b1) (M_detail b1) (M_cause b1) (M_input b1) (M_length b1) (M_fault b1) (M_signs b1) (M_signMany b1) (M_lastOver b1) (M_at b1) (M_told b1) (M_toldMany b1)] : List va_W).flatten := hD
        refine lv_iinc (v := x2 + 1) (lv' := [(1, .int (x2 + 1)), (0, .ref (a 0))]) hx hb dX5_spreads_24 hl (k := 1) rfl (by rfl) (by decide) rfl (fun ls hl => ?_)
        refine lv_goto (tgt := 2) hx hb dX5_spreads_27 (by decide) ?_
        exact ih2 _ _ hF _ _ hP hD hS ls (lv_sub hl [1, 0] rfl)
  exact loop2 1000 _ _ hF _ _ hP hD hS ls (lv_sub hl [1, 0] rfl)
def F_X5_sinks_L9 (y1 : Int32) (k : Mv → Int32 → Option (Mv)) : Nat → Mv → Int32 → Option (Mv)
  | 0, _, _ => none
  | n + 1, b0, x2 => if x2 < 0 then k b0 x2 else (F_X5_loaded b0 y1).bind (fun z1 => (F_X5_strong b0 y1).bind (fun z2 => if z1 ≤ z2 then k b0 x2 else (F_X5_on b0 x2 2).bind (fun z3 => if z3 = y1 then (F_X5_drops b0 x2).bind (fun z4 => ck (inb 8 83) (ck (inb 8 83) (F_X5_sinks_L9 y1 k n (mkM (upd (M_g z4) (8 : Int32).toNatClampNeg (((M_g z4) (8 : Int32).toNatClampNeg) + 1)) (M_kept z4) (M_saved z4) (M_before z4) (M_trial z4) (M_counted z4) (M_isSaved z4) (M_changes z4) (M_isWithin z4) (M_isDenied z4) (M_code z4) (M_why z4) (M_detail z4) (M_cause z4) (M_input z4) (M_length z4) (M_fault z4) (M_signs z4) (M_signMany z4) (M_lastOver z4) (M_at z4) (M_told z4) (M_toldMany z4)) (x2 + (-1))))) else F_X5_sinks_L9 y1 k n b0 (x2 + (-1)))))
def F_X5_sinks (mo : Mv) (p0 : Int32) : Option (Mv) := ck (inb 1 83) (F_X5_sinks_L9 p0 (fun b5 x6 => some b5) 1000 mo (((M_g mo) (1 : Int32).toNatClampNeg) - 1))
set_option maxHeartbeats 4000000 in
set_option maxRecDepth 100000 in
theorem c_X5_sinks (g : GG) (l : Launch) (a : Nat → Nat) (mo : Mv) (p0 : Int32) (z : Mv) (hF : F_X5_sinks mo p0 = some z) : MV g l yX5_sinks cX5_sinks 3 none ({ frames := 3, cells := 0, slots := 0, locals := 65 } : Room) [.ref (a 0), .int p0] [wM g a mo] 0 0 [wM g a z] := by
  refine MV.bg (by decide) (Nat.le_of_ble_eq_true rfl) ?_
  intro p e s m below meth c A Q hQ hx hb hr hml hown hts hlocks hmn hK hE hA hP hD hS ls hl
  rw [F_X5_sinks] at hF
  have hl : lv_has ls 3 [(0, .ref (a 0)), (1, .int p0)] := hl
  refine lv_aload_n hx hb dX5_sinks_0 rfl (lv_at hl 0 rfl) ?_
  refine va_get (D := g.1) (ci := 9) (v := .ref (a 1)) (C := RX5) (T := TX5) (N := 23) hx hb hts inX5 hown hK hP 0 rfl rfl 0 (by decide) (hts _ mw_1311) (fun _ h9 => h9) rfl dX5_sinks_1 ?_
  refine lv_iconst (v := 1) hx hb dX5_sinks_4 (by decide) ?_
  have h1 := inb_in (ck_t hF)
  have hF := ck_s hF
  refine va_iald hx hb hK hP 1 0 rfl rfl h1 dX5_sinks_5 ?_
  refine lv_iconst (v := 1) hx hb dX5_sinks_6 (by decide) ?_
  refine lv_isub hx hb dX5_sinks_7 ?_
  refine lv_istore_n (lv' := [(2, .int (((M_g mo) (1 : Int32).toNatClampNeg) - 1)), (0, .ref (a 0)), (1, .int p0)]) hx hb dX5_sinks_8 rfl hl (by decide) rfl (fun ls hl => ?_)
  obtain ⟨k3, ek3, hF⟩ := ob_k (F := fun k9 => F_X5_sinks_L9 p0 k9 1000 mo (((M_g mo) (1 : Int32).toNatClampNeg) - 1)) hF
  have loop3 : ∀ (n9 : Nat) (b2 : Mv) (x3 : Int32), F_X5_sinks_L9 p0 k3 n9 b2 x3 = some z → ∀ (H : Heap) (locs : List Loc), va_P g.1 vwCl ([wM g a b2] : List va_W).flatten H → va_D A ([wM g a b2] : List va_W).flatten → va_S A s.heap H locs → ∀ ls : Array Slot, lv_has ls 3 [(0, .ref (a 0)), (1, .int p0), (2, .int x3)] → W p l e ({ frames := 3, cells := 0, slots := 0, locals := 65 } : Room) s m ([.ref (a 0), .int p0] : List Value).toArray below meth c H locs 0 0 Q (F0 m 9 ls []) := by
    intro n9
    induction n9 with
    | zero => intro b2 x3 hF; rw [F_X5_sinks_L9] at hF; cases hF
    | succ n9 ih3 =>
      intro b2 x3 hF H locs hP hD hS ls hl
      rw [F_X5_sinks_L9] at hF
      refine lv_iload_n hx hb dX5_sinks_9 rfl (lv_at hl 2 rfl) ?_
      refine lv_if_lt (tgt := 61) hx hb dX5_sinks_10 (by decide) (fun c4 => ?_) (fun c4 => ?_)
      · have hF := ob_pos c4 hF
        rw [ek3] at hF
        cases hF
        rw [hQ]
        exact jb_vret hx hb hr hlocks hP hD hS dX5_sinks_61 (Nat.le_of_ble_eq_true rfl) (Nat.le_of_ble_eq_true rfl)
      · have hF := ob_neg c4 hF
        refine lv_aload_n hx hb dX5_sinks_13 rfl (lv_at hl 0 rfl) ?_
        refine lv_iload_n hx hb dX5_sinks_14 rfl (lv_at hl 1 rfl) ?_
        obtain ⟨z5, hz5, hF⟩ := ob_bind hF
        refine cl_i (csR := []) (csF := [wM g a b2]) (rest := []) hx hb hml hown hts hK hE hA hl hP hD hS (c_X5_loaded g l a b2 p0 z5 hz5) [0] [] [0] ⟨rfl, rfl, rfl, rfl, rfl, rfl, rfl⟩ ⟨0, 9, _, _, rfl, rfl, rfl⟩ 1 (jb_giV mw_1474 mw_1476 ms_41 mw_10 mw_1477) ⟨rfl, rfl⟩ (by decide +kernel) ⟨⟨(Nat.le_of_ble_eq_true rfl), (Nat.le_of_ble_eq_true rfl)⟩, (Nat.le_of_ble_eq_true rfl), (Nat.le_of_ble_eq_true rfl)⟩ ⟨rfl, rfl⟩ (Nat.le_of_ble_eq_true rfl) dX5_sinks_15 (fun H locs hP hD hS => ?_)
        refine lv_aload_n hx hb dX5_sinks_18 rfl (lv_at hl 0 rfl) ?_
        refine lv_iload_n hx hb dX5_sinks_19 rfl (lv_at hl 1 rfl) ?_
        obtain ⟨z6, hz6, hF⟩ := ob_bind hF
        refine cl_i (csR := []) (csF := [wM g a b2]) (rest := [.int z5]) hx hb hml hown hts hK hE hA hl hP hD hS (c_X5_strong g l a b2 p0 z6 hz6) [0] [] [0] ⟨rfl, rfl, rfl, rfl, rfl, rfl, rfl⟩ ⟨0, 9, _, _, rfl, rfl, rfl⟩ 1 (jb_giV mw_1459 mw_1461 ms_39 mw_10 mw_1462) ⟨rfl, rfl⟩ (by decide +kernel) ⟨⟨(Nat.le_of_ble_eq_true rfl), (Nat.le_of_ble_eq_true rfl)⟩, (Nat.le_of_ble_eq_true rfl), (Nat.le_of_ble_eq_true rfl)⟩ ⟨rfl, rfl⟩ (Nat.le_of_ble_eq_true rfl) dX5_sinks_20 (fun H locs hP hD hS => ?_)
        refine lv_icmp_le (tgt := 61) hx hb dX5_sinks_23 (by decide) (fun c7 => ?_) (fun c7 => ?_)
        · have hF := ob_pos c7 hF
          rw [ek3] at hF
          cases hF
          rw [hQ]
          exact jb_vret hx hb hr hlocks hP hD hS dX5_sinks_61 (Nat.le_of_ble_eq_true rfl) (Nat.le_of_ble_eq_true rfl)
        · have hF := ob_neg c7 hF
          refine lv_aload_n hx hb dX5_sinks_26 rfl (lv_at hl 0 rfl) ?_
          refine lv_iload_n hx hb dX5_sinks_27 rfl (lv_at hl 2 rfl) ?_
          refine lv_iconst (v := 2) hx hb dX5_sinks_28 (by decide) ?_
          obtain ⟨z8, hz8, hF⟩ := ob_bind hF
          refine cl_i (csR := []) (csF := [wM g a b2]) (rest := []) hx hb hml hown hts hK hE hA hl hP hD hS (c_X5_on g l a b2 x3 2 z8 hz8) [0] [] [0] ⟨rfl, rfl, rfl, rfl, rfl, rfl, rfl⟩ ⟨0, 9, _, _, rfl, rfl, rfl⟩ 2 (jb_giV mw_1478 mw_1480 ms_42 mw_10 mw_1481) ⟨rfl, rfl⟩ (by decide +kernel) ⟨⟨(Nat.le_of_ble_eq_true rfl), (Nat.le_of_ble_eq_true rfl)⟩, (Nat.le_of_ble_eq_true rfl), (Nat.le_of_ble_eq_true rfl)⟩ ⟨rfl, rfl⟩ (Nat.le_of_ble_eq_true rfl) dX5_sinks_29 (fun H locs hP hD hS => ?_)
          refine lv_iload_n hx hb dX5_sinks_32 rfl (lv_at hl 1 rfl) ?_
          refine lv_icmp_eq (tgt := 39) hx hb dX5_sinks_33 (by decide) (fun c9 => ?_) (fun c9 => ?_)
          · have hF := ob_pos c9 hF
            refine lv_aload_n hx hb dX5_sinks_39 rfl (lv_at hl 0 rfl) ?_
            refine lv_iload_n hx hb dX5_sinks_40 rfl (lv_at hl 2 rfl) ?_
            obtain ⟨z10, hz10, hF⟩ := ob_bind hF
            refine cl_v (csR := []) (csF := [wM g a z10]) (rest := []) hx hb hml hown hts hK hE hA hl hP hD hS (c_X5_drops g l a b2 x3 z10 hz10) [0] [] [0] ⟨rfl, rfl, rfl, rfl, rfl, rfl, rfl⟩ ⟨0, 9, _, _, rfl, rfl, rfl⟩ 1 (jb_giV mw_1534 mw_1536 ms_50 mw_10 mw_1537) ⟨rfl, rfl⟩ (by decide +kernel) ⟨⟨(Nat.le_of_ble_eq_true rfl), (Nat.le_of_ble_eq_true rfl)⟩, (Nat.le_of_ble_eq_true rfl), (Nat.le_of_ble_eq_true rfl)⟩ ⟨rfl, rfl⟩ (Nat.le_of_ble_eq_true rfl) dX5_sinks_41 (fun H locs hP hD hS => ?_)
            refine lv_aload_n hx hb dX5_sinks_44 rfl (lv_at hl 0 rfl) ?_
            refine va_get (D := g.1) (ci := 9) (v := .ref (a 1)) (C := RX5) (T := TX5) (N := 23) hx hb hts inX5 hown hK hP 0 rfl rfl 0 (by decide) (hts _ mw_1311) (fun _ h9 => h9) rfl dX5_sinks_45 ?_
            refine lv_bipush (v := 8) hx hb dX5_sinks_48 (by decide) ?_
            refine lv_dup2_11 hx hb dX5_sinks_50 rfl rfl ?_
            have h11 := inb_in (ck_t hF)
            have hF := ck_s hF
            refine va_iald hx hb hK hP 1 0 rfl rfl h11 dX5_sinks_51 ?_
            refine lv_iconst (v := 1) hx hb dX5_sinks_52 (by decide) ?_
            refine lv_iadd hx hb dX5_sinks_53 ?_
            have h12 := inb_in (ck_t hF)
            have hF := ck_s hF
            refine va_iast hx hb hK hP hD hS 1 0 rfl rfl h12 dX5_sinks_54 (fun H locs hP hD hS => ?_)
            have hP : va_P g.1 vwCl ([wMc g a (upd (M_g z10) (8 : Int32).toNatClampNeg (((M_g z10) (8 : Int32).toNatClampNeg) + 1)) (M_kept z10) (M_saved z10) (M_before z10) (M_trial z10) (M_counted z10) (M_isSaved z10) (M_changes z10) (M_isWithin z10) (M_isDenied z10) (M_code z10) (M_why z10) (M_detail z10) (M_cause z10) (M_input z10) (M_length z10) (M_fault z10) (M_signs z10) (M_signMany z10) (M_lastOver z10) (M_at z10) (M_told z10) (M_toldMany z10)] : List va_W).flatten _ := hP
            have hD : va_D A ([wMc g a (upd (M_g z10) (8 : Int32).toNatClampNeg (((M_g z10) (8 : Int32).toNatClampNeg) + 1)) (M_kept z10) (M_saved z10) (M_before z10) (M_trial z10) (M_counted z10) (M_isSaved z10) (M_changes z10) (M_isWithin z10) (M_isDenied z10) (M_code z10) (M_why z10) (M_detail z10) (M_cause z10) (M_input z10) (M_length z10) (M_fault z10) (M_signs z10) (M_signMany z10) (M_lastOver z10) (M_at z10) (M_told z10) (M_toldMany z10)] : List va_W).flatten := hD
            refine lv_iinc (v := x3 + (-1)) (lv' := [(2, .int (x3 + (-1))), (0, .ref (a 0)), (1, .int p0)]) hx hb dX5_sinks_55 hl (k := 2) rfl (by rfl) (by decide) rfl (fun ls hl => ?_)
            refine lv_goto (tgt := 9) hx hb dX5_sinks_58 (by decide) ?_
            exact ih3 _ _ hF _ _ hP hD hS ls (lv_sub hl [1, 2, 0] rfl)
          · have hF := ob_neg c9 hF
            refine lv_goto (tgt := 55) hx hb dX5_sinks_36 (by decide) ?_
            refine lv_iinc (v := x3 + (-1)) (lv' := [(2, .int (x3 + (-1))), (0, .ref (a 0)), (1, .int p0)]) hx hb dX5_sinks_55 hl (k := 2) rfl (by rfl) (by decide) rfl (fun ls hl => ?_)
            refine lv_goto (tgt := 9) hx hb dX5_sinks_58 (by decide) ?_
            exact ih3 _ _ hF _ _ hP hD hS ls (lv_sub hl [1, 2, 0] rfl)
  exact loop3 1000 _ _ hF _ _ hP hD hS ls (lv_sub hl [1, 2, 0] rfl)
def F_X5_goes_L12  (k : Mv → Int32 → Option (Int32 × Mv)) : Nat → Mv → Int32 → Option (Int32 × Mv)
  | 0, _, _ => none
  | n + 1, b0, x1 => ck (inb 0 83) (if ((M_g b0) (0 : Int32).toNatClampNeg) ≤ x1 then k b0 x1 else (F_X5_of b0 x1 1).bind (fun z1 => if z1 ≤ 0 then F_X5_goes_L12  k n b0 (x1 + 1) else (F_X5_of b0 x1 2).bind (fun z2 => (F_X5_lays b0 x1 2 (z2 + 1)).bind (fun z3 => F_X5_goes_L12  k n z3 (x1 + 1)))))
def F_X5_goes_L58 (y1 : Int32) (k : Mv → Int32 → Option (Int32 × Mv)) : Nat → Mv → Int32 → Option (Int32 × Mv)
  | 0, _, _ => none
  | n + 1, b0, x2 => ck (inb 0 83) (if ((M_g b0) (0 : Int32).toNatClampNeg) ≤ x2 then k b0 x2 else (F_X5_stresses b0 x2).bind (fun z7 => F_X5_goes_L58 y1 k n z7 (x2 + 1)))
def F_X5_goes_L97 (y1 : Int32) (k : Mv → Int32 → Option (Int32 × Mv)) : Nat → Mv → Int32 → Option (Int32 × Mv)
  | 0, _, _ => none
  | n + 1, b0, x2 => ck (inb 0 83) (if ((M_g b0) (0 : Int32).toNatClampNeg) ≤ x2 then k b0 x2 else (F_X5_sinks b0 x2).bind (fun z10 => F_X5_goes_L97 y1 k n z10 (x2 + 1)))
def F_X5_goes (mo : Mv) : Option (Int32 × Mv) := ck (inb 3 83) (ck (inb 3 83) (F_X5_goes_L12  (fun b4 x5 => (F_X5_drives b4).bind (fun z6 => F_X5_goes_L58 z6.1 (fun b8 x9 => ck (inb 3 83) (ck (nz 6) (if ¬ (((M_g b8) (3 : Int32).toNatClampNeg) - ((M_g b8) (3 : Int32).toNatClampNeg) / 6 * 6) = 0 then F_X5_goes_L97 z6.1 (fun b11 x12 => some (z6.1, b11)) 1000 b8 0 else (F_X5_spreads b8).bind (fun z13 => F_X5_goes_L97 z6.1 (fun b14 x15 => some (z6.1, b14)) 1000 z13 0)))) 1000 z6.2 0)) 1000 (mkM (upd (M_g mo) (3 : Int32).toNatClampNeg (((M_g mo) (3 : Int32).toNatClampNeg) + 1)) (M_kept mo) (M_saved mo) (M_before mo) (M_trial mo) (M_counted mo) (M_isSaved mo) (M_changes mo) (M_isWithin mo) (M_isDenied mo) (M_code mo) (M_why mo) (M_detail mo) (M_cause mo) (M_input mo) (M_length mo) (M_fault mo) (M_signs mo) (M_signMany mo) (M_lastOver mo) (M_at mo) (M_told mo) (M_toldMany mo)) 0))
set_option maxHeartbeats 4000000 in
set_option maxRecDepth 100000 in
theorem c_X5_goes (g : GG) (l : Launch) (a : Nat → Nat) (mo : Mv) (z : Int32 × Mv) (hF : F_X5_goes mo = some z) : MI g l yX5_goes cX5_goes 3 (some .int) ({ frames := 5, cells := 0, slots := 0, locals := 108 } : Room) [.ref (a 0)] [wM g a mo] 0 0 z.1 [wM g a z.2] := by
  refine MI.bg (by decide) (Nat.le_of_ble_eq_true rfl) ?_
  intro p e s m below meth c A Q hQ hx hb hr hml hown hts hlocks hmn hK hE hA hP hD hS ls hl
  rw [F_X5_goes] at hF
  have hl : lv_has ls 3 [(0, .ref (a 0))] := hl
  refine lv_aload_n hx hb dX5_goes_0 rfl (lv_at hl 0 rfl) ?_
  refine va_get (D := g.1) (ci := 9) (v := .ref (a 1)) (C := RX5) (T := TX5) (N := 23) hx hb hts inX5 hown hK hP 0 rfl rfl 0 (by decide) (hts _ mw_1311) (fun _ h9 => h9) rfl dX5_goes_1 ?_
  refine lv_iconst (v := 3) hx hb dX5_goes_4 (by decide) ?_
  refine lv_dup2_11 hx hb dX5_goes_5 rfl rfl ?_
  have h1 := inb_in (ck_t hF)
  have hF := ck_s hF
  refine va_iald hx hb hK hP 1 0 rfl rfl h1 dX5_goes_6 ?_
  refine lv_iconst (v := 1) hx hb dX5_goes_7 (by decide) ?_
  refine lv_iadd hx hb dX5_goes_8 ?_
  have h2 := inb_in (ck_t hF)
  have hF := ck_s hF
  refine va_iast hx hb hK hP hD hS 1 0 rfl rfl h2 dX5_goes_9 (fun H locs hP hD hS => ?_)
  have hP : va_P g.1 vwCl ([wMc g a (upd (M_g mo) (3 : Int32).toNatClampNeg (((M_g mo) (3 : Int32).toNatClampNeg) + 1)) (M_kept mo) (M_saved mo) (M_before mo) (M_trial mo) (M_counted mo) (M_isSaved mo) (M_changes mo) (M_isWithin mo) (M_isDenied mo) (M_code mo) (M_why mo) (M_detail mo) (M_cause mo) (M_input mo) (M_length mo) (M_fault mo) (M_signs mo) (M_signMany mo) (M_lastOver mo) (M_at mo) (M_told mo) (M_toldMany mo)] : List va_W).flatten _ := hP
  have hD : va_D A ([wMc g a (upd (M_g mo) (3 : Int32).toNatClampNeg (((M_g mo) (3 : Int32).toNatClampNeg) + 1)) (M_kept mo) (M_saved mo) (M_before mo) (M_trial mo) (M_counted mo) (M_isSaved mo) (M_changes mo) (M_isWithin mo) (M_isDenied mo) (M_code mo) (M_why mo) (M_detail mo) (M_cause mo) (M_input mo) (M_length mo) (M_fault mo) (M_signs mo) (M_signMany mo) (M_lastOver mo) (M_at mo) (M_told mo) (M_toldMany mo)] : List va_W).flatten := hD
  refine lv_iconst (v := 0) hx hb dX5_goes_10 (by decide) ?_
  refine lv_istore_n (lv' := [(1, .int 0), (0, .ref (a 0))]) hx hb dX5_goes_11 rfl hl (by decide) rfl (fun ls hl => ?_)
  obtain ⟨k4, ek4, hF⟩ := ob_k (F := fun k9 => F_X5_goes_L12  k9 1000 (mkM (upd (M_g mo) (3 : Int32).toNatClampNeg (((M_g mo) (3 : Int32).toNatClampNeg) + 1)) (M_kept mo) (M_saved mo) (M_before mo) (M_trial mo) (M_counted mo) (M_isSaved mo) (M_changes mo) (M_isWithin mo) (M_isDenied mo) (M_code mo) (M_why mo) (M_detail mo) (M_cause mo) (M_input mo) (M_length mo) (M_fault mo) (M_signs mo) (M_signMany mo) (M_lastOver mo) (M_at mo) (M_told mo) (M_toldMany mo)) 0) hF
  have loop4 : ∀ (n9 : Nat) (b3 : Mv) (x4 : Int32), F_X5_goes_L12  k4 n9 b3 x4 = some z → ∀ (H : Heap) (locs : List Loc), va_P g.1 vwCl ([wM g a b3] : List va_W).flatten H → va_D A ([wM g a b3] : List va_W).flatten → va_S A s.heap H locs → ∀ ls : Array Slot, lv_has ls 3 [(0, .ref (a 0)), (1, .int x4)] → W p l e ({ frames := 5, cells := 0, slots := 0, locals := 108 } : Room) s m ([.ref (a 0)] : List Value).toArray below meth c H locs 0 0 Q (F0 m 12 ls []) := by
    intro n9
    induction n9 with
    | zero => intro b3 x4 hF; rw [F_X5_goes_L12] at hF; cases hF
    | succ n9 ih4 =>
      intro b3 x4 hF H locs hP hD hS ls hl
      rw [F_X5_goes_L12] at hF
      refine lv_iload_n hx hb dX5_goes_12 rfl (lv_at hl 1 rfl) ?_
      refine lv_aload_n hx hb dX5_goes_13 rfl (lv_at hl 0 rfl) ?_
      refine va_get (D := g.1) (ci := 9) (v := .ref (a 1)) (C := RX5) (T := TX5) (N := 23) hx hb hts inX5 hown hK hP 0 rfl rfl 0 (by decide) (hts _ mw_1311) (fun _ h9 => h9) rfl dX5_goes_14 ?_
      refine lv_iconst (v := 0) hx hb dX5_goes_17 (by decide) ?_
      have h5 := inb_in (ck_t hF)
      have hF := ck_s hF
      refine va_iald hx hb hK hP 1 0 rfl rfl h5 dX5_goes_18 ?_
      refine lv_icmp_ge (tgt := 51) hx hb dX5_goes_19 (by decide) (fun c6 => ?_) (fun c6 => ?_)
      · have hF := ob_pos c6 hF
        rw [ek4] at hF
        refine lv_aload_n hx hb dX5_goes_51 rfl (lv_at hl 0 rfl) ?_
        obtain ⟨z7, hz7, hF⟩ := ob_bind hF
        refine cl_i (csR := []) (csF := [wM g a z7.2]) (rest := []) hx hb hml hown hts hK hE hA hl hP hD hS (c_X5_drives g l a b3 z7 hz7) [0] [] [0] ⟨rfl, rfl, rfl, rfl, rfl, rfl, rfl⟩ ⟨0, 9, _, _, rfl, rfl, rfl⟩ 0 (jb_giV mw_1526 mw_1528 ms_48 mw_10 mw_1529) ⟨rfl, rfl⟩ (by decide +kernel) ⟨⟨(Nat.le_of_ble_eq_true rfl), (Nat.le_of_ble_eq_true rfl)⟩, (Nat.le_of_ble_eq_true rfl), (Nat.le_of_ble_eq_true rfl)⟩ ⟨rfl, rfl⟩ (Nat.le_of_ble_eq_true rfl) dX5_goes_52 (fun H locs hP hD hS => ?_)
        refine lv_istore_n (lv' := [(1, .int z7.1), (0, .ref (a 0))]) hx hb dX5_goes_55 rfl hl (by decide) rfl (fun ls hl => ?_)
        refine lv_iconst (v := 0) hx hb dX5_goes_56 (by decide) ?_
        refine lv_istore_n (lv' := [(2, .int 0), (1, .int z7.1), (0, .ref (a 0))]) hx hb dX5_goes_57 rfl hl (by decide) rfl (fun ls hl => ?_)
        obtain ⟨k9, ek9, hF⟩ := ob_k (F := fun k9 => F_X5_goes_L58 z7.1 k9 1000 z7.2 0) hF
        have loop9 : ∀ (n9 : Nat) (b8 : Mv) (x9 : Int32), F_X5_goes_L58 z7.1 k9 n9 b8 x9 = some z → ∀ (H : Heap) (locs : List Loc), va_P g.1 vwCl ([wM g a b8] : List va_W).flatten H → va_D A ([wM g a b8] : List va_W).flatten → va_S A s.heap H locs → ∀ ls : Array Slot, lv_has ls 3 [(0, .ref (a 0)), (1, .int z7.1), (2, .int x9)] → W p l e ({ frames := 5, cells := 0, slots := 0, locals := 108 } : Room) s m ([.ref (a 0)] : List Value).toArray below meth c H locs 0 0 Q (F0 m 58 ls []) := by
          intro n9
          induction n9 with
          | zero => intro b8 x9 hF; rw [F_X5_goes_L58] at hF; cases hF
          | succ n9 ih9 =>
            intro b8 x9 hF H locs hP hD hS ls hl
            rw [F_X5_goes_L58] at hF
            refine lv_iload_n hx hb dX5_goes_58 rfl (lv_at hl 2 rfl) ?_
            refine lv_aload_n hx hb dX5_goes_59 rfl (lv_at hl 0 rfl) ?_
            refine va_get (D := g.1) (ci := 9) (v := .ref (a 1)) (C := RX5) (T := TX5) (N := 23) hx hb hts inX5 hown hK hP 0 rfl rfl 0 (by decide) (hts _ mw_1311) (fun _ h9 => h9) rfl dX5_goes_60 ?_
            refine lv_iconst (v := 0) hx hb dX5_goes_63 (by decide) ?_
            have h10 := inb_in (ck_t hF)
            have hF := ck_s hF
            refine va_iald hx hb hK hP 1 0 rfl rfl h10 dX5_goes_64 ?_
            refine lv_icmp_ge (tgt := 79) hx hb dX5_goes_65 (by decide) (fun c11 => ?_) (fun c11 => ?_)
            · have hF := ob_pos c11 hF
              rw [ek9] at hF
              refine lv_aload_n hx hb dX5_goes_79 rfl (lv_at hl 0 rfl) ?_
              refine va_get (D := g.1) (ci := 9) (v := .ref (a 1)) (C := RX5) (T := TX5) (N := 23) hx hb hts inX5 hown hK hP 0 rfl rfl 0 (by decide) (hts _ mw_1311) (fun _ h9 => h9) rfl dX5_goes_80 ?_
              refine lv_iconst (v := 3) hx hb dX5_goes_83 (by decide) ?_
              have h12 := inb_in (ck_t hF)
              have hF := ck_s hF
              refine va_iald hx hb hK hP 1 0 rfl rfl h12 dX5_goes_84 ?_
              refine lv_bipush (v := 6) hx hb dX5_goes_85 (by decide) ?_
              have h13 := nz_ne (ck_t hF)
              have hF := ck_s hF
              refine lv_irem hx hb dX5_goes_87 h13 ?_
              refine lv_if_ne (tgt := 95) hx hb dX5_goes_88 (by decide) (fun c14 => ?_) (fun c14 => ?_)
              · have hF := ob_pos c14 hF
                refine lv_iconst (v := 0) hx hb dX5_goes_95 (by decide) ?_
                refine lv_istore_n (lv' := [(2, .int 0), (0, .ref (a 0)), (1, .int z7.1)]) hx hb dX5_goes_96 rfl hl (by decide) rfl (fun ls hl => ?_)
                obtain ⟨k16, ek16, hF⟩ := ob_k (F := fun k9 => F_X5_goes_L97 z7.1 k9 1000 b8 0) hF
                have loop16 : ∀ (n9 : Nat) (b15 : Mv) (x16 : Int32), F_X5_goes_L97 z7.1 k16 n9 b15 x16 = some z → ∀ (H : Heap) (locs : List Loc), va_P g.1 vwCl ([wM g a b15] : List va_W).flatten H → va_D A ([wM g a b15] : List va_W).flatten → va_S A s.heap H locs → ∀ ls : Array Slot, lv_has ls 3 [(0, .ref (a 0)), (1, .int z7.1), (2, .int x16)] → W p l e ({ frames := 5, cells := 0, slots := 0, locals := 108 } : Room) s m ([.ref (a 0)] : List Value).toArray below meth c H locs 0 0 Q (F0 m 97 ls []) := by
                  intro n9
                  induction n9 with
                  | zero => intro b15 x16 hF; rw [F_X5_goes_L97] at hF; cases hF
                  | succ n9 ih16 =>
                    intro b15 x16 hF H locs hP hD hS ls hl
                    rw [F_X5_goes_L97] at hF
                    refine lv_iload_n hx hb dX5_goes_97 rfl (lv_at hl 2 rfl) ?_
                    refine lv_aload_n hx hb dX5_goes_98 rfl (lv_at hl 0 rfl) ?_
                    refine va_get (D := g.1) (ci := 9) (v := .ref (a 1)) (C := RX5) (T := TX5) (N := 23) hx hb hts inX5 hown hK hP 0 rfl rfl 0 (by decide) (hts _ mw_1311) (fun _ h9 => h9) rfl dX5_goes_99 ?_
                    refine lv_iconst (v := 0) hx hb dX5_goes_102 (by decide) ?_
                    have h17 := inb_in (ck_t hF)
                    have hF := ck_s hF
                    refine va_iald hx hb hK hP 1 0 rfl rfl h17 dX5_goes_103 ?_
                    refine lv_icmp_ge (tgt := 118) hx hb dX5_goes_104 (by decide) (fun c18 => ?_) (fun c18 => ?_)
                    · have hF := ob_pos c18 hF
                      rw [ek16] at hF
                      refine lv_iload_n hx hb dX5_goes_118 rfl (lv_at hl 1 rfl) ?_
                      cases hF
                      rw [hQ]
                      exact jb_iret hx hb hr hlocks hP hD hS dX5_goes_119 rfl (Nat.le_of_ble_eq_true rfl) (Nat.le_of_ble_eq_true rfl)
                    · have hF := ob_neg c18 hF
                      refine lv_aload_n hx hb dX5_goes_107 rfl (lv_at hl 0 rfl) ?_
                      refine lv_iload_n hx hb dX5_goes_108 rfl (lv_at hl 2 rfl) ?_
                      obtain ⟨z19, hz19, hF⟩ := ob_bind hF
                      refine cl_v (csR := []) (csF := [wM g a z19]) (rest := []) hx hb hml hown hts hK hE hA hl hP hD hS (c_X5_sinks g l a b15 x16 z19 hz19) [0] [] [0] ⟨rfl, rfl, rfl, rfl, rfl, rfl, rfl⟩ ⟨0, 9, _, _, rfl, rfl, rfl⟩ 1 (jb_giV mw_1554 mw_1556 ms_55 mw_10 mw_1557) ⟨rfl, rfl⟩ (by decide +kernel) ⟨⟨(Nat.le_of_ble_eq_true rfl), (Nat.le_of_ble_eq_true rfl)⟩, (Nat.le_of_ble_eq_true rfl), (Nat.le_of_ble_eq_true rfl)⟩ ⟨rfl, rfl⟩ (Nat.le_of_ble_eq_true rfl) dX5_goes_109 (fun H locs hP hD hS => ?_)
                      refine lv_iinc (v := x16 + 1) (lv' := [(2, .int (x16 + 1)), (0, .ref (a 0)), (1, .int z7.1)]) hx hb dX5_goes_112 hl (k := 2) rfl (by rfl) (by decide) rfl (fun ls hl => ?_)
                      refine lv_goto (tgt := 97) hx hb dX5_goes_115 (by decide) ?_
                      exact ih16 _ _ hF _ _ hP hD hS ls (lv_sub hl [1, 2, 0] rfl)
                exact loop16 1000 _ _ hF _ _ hP hD hS ls (lv_sub hl [1, 2, 0] rfl)
              · have hF := ob_nneg c14 hF
                refine lv_aload_n hx hb dX5_goes_91 rfl (lv_at hl 0 rfl) ?_
                obtain ⟨z20, hz20, hF⟩ := ob_bind hF
                refine cl_v (csR := []) (csF := [wM g a z20]) (rest := []) hx hb hml hown hts hK hE hA hl hP hD hS (c_X5_spreads g l a b8 z20 hz20) [0] [] [0] ⟨rfl, rfl, rfl, rfl, rfl, rfl, rfl⟩ ⟨0, 9, _, _, rfl, rfl, rfl⟩ 0 (jb_giV mw_1546 mw_1548 ms_53 mw_10 mw_1549) ⟨rfl, rfl⟩ (by decide +kernel) ⟨⟨(Nat.le_of_ble_eq_true rfl), (Nat.le_of_ble_eq_true rfl)⟩, (Nat.le_of_ble_eq_true rfl), (Nat.le_of_ble_eq_true rfl)⟩ ⟨rfl, rfl⟩ (Nat.le_of_ble_eq_true rfl) dX5_goes_92 (fun H locs hP hD hS => ?_)
                refine lv_iconst (v := 0) hx hb dX5_goes_95 (by decide) ?_
                refine lv_istore_n (lv' := [(2, .int 0), (0, .ref (a 0)), (1, .int z7.1)]) hx hb dX5_goes_96 rfl hl (by decide) rfl (fun ls hl => ?_)
                obtain ⟨k22, ek22, hF⟩ := ob_k (F := fun k9 => F_X5_goes_L97 z7.1 k9 1000 z20 0) hF
                have loop22 : ∀ (n9 : Nat) (b21 : Mv) (x22 : Int32), F_X5_goes_L97 z7.1 k22 n9 b21 x22 = some z → ∀ (H : Heap) (locs : List Loc), va_P g.1 vwCl ([wM g a b21] : List va_W).flatten H → va_D A ([wM g a b21] : List va_W).flatten → va_S A s.heap H locs → ∀ ls : Array Slot, lv_has ls 3 [(0, .ref (a 0)), (1, .int z7.1), (2, .int x22)] → W p l e ({ frames := 5, cells := 0, slots := 0, locals := 108 } : Room) s m ([.ref (a 0)] : List Value).toArray below meth c H locs 0 0 Q (F0 m 97 ls []) := by
                  intro n9
                  induction n9 with
                  | zero => intro b21 x22 hF; rw [F_X5_goes_L97] at hF; cases hF
                  | succ n9 ih22 =>
                    intro b21 x22 hF H locs hP hD hS ls hl
                    rw [F_X5_goes_L97] at hF
                    refine lv_iload_n hx hb dX5_goes_97 rfl (lv_at hl 2 rfl) ?_
                    refine lv_aload_n hx hb dX5_goes_98 rfl (lv_at hl 0 rfl) ?_
                    refine va_get (D := g.1) (ci := 9) (v := .ref (a 1)) (C := RX5) (T := TX5) (N := 23) hx hb hts inX5 hown hK hP 0 rfl rfl 0 (by decide) (hts _ mw_1311) (fun _ h9 => h9) rfl dX5_goes_99 ?_
                    refine lv_iconst (v := 0) hx hb dX5_goes_102 (by decide) ?_
                    have h23 := inb_in (ck_t hF)
                    have hF := ck_s hF
                    refine va_iald hx hb hK hP 1 0 rfl rfl h23 dX5_goes_103 ?_
                    refine lv_icmp_ge (tgt := 118) hx hb dX5_goes_104 (by decide) (fun c24 => ?_) (fun c24 => ?_)
                    · have hF := ob_pos c24 hF
                      rw [ek22] at hF
                      refine lv_iload_n hx hb dX5_goes_118 rfl (lv_at hl 1 rfl) ?_
                      cases hF
                      rw [hQ]
                      exact jb_iret hx hb hr hlocks hP hD hS dX5_goes_119 rfl (Nat.le_of_ble_eq_true rfl) (Nat.le_of_ble_eq_true rfl)
                    · have hF := ob_neg c24 hF
                      refine lv_aload_n hx hb dX5_goes_107 rfl (lv_at hl 0 rfl) ?_
                      refine lv_iload_n hx hb dX5_goes_108 rfl (lv_at hl 2 rfl) ?_
                      obtain ⟨z25, hz25, hF⟩ := ob_bind hF
                      refine cl_v (csR := []) (csF := [wM g a z25]) (rest := []) hx hb hml hown hts hK hE hA hl hP hD hS (c_X5_sinks g l a b21 x22 z25 hz25) [0] [] [0] ⟨rfl, rfl, rfl, rfl, rfl, rfl, rfl⟩ ⟨0, 9, _, _, rfl, rfl, rfl⟩ 1 (jb_giV mw_1554 mw_1556 ms_55 mw_10 mw_1557) ⟨rfl, rfl⟩ (by decide +kernel) ⟨⟨(Nat.le_of_ble_eq_true rfl), (Nat.le_of_ble_eq_true rfl)⟩, (Nat.le_of_ble_eq_true rfl), (Nat.le_of_ble_eq_true rfl)⟩ ⟨rfl, rfl⟩ (Nat.le_of_ble_eq_true rfl) dX5_goes_109 (fun H locs hP hD hS => ?_)
                      refine lv_iinc (v := x22 + 1) (lv' := [(2, .int (x22 + 1)), (0, .ref (a 0)), (1, .int z7.1)]) hx hb dX5_goes_112 hl (k := 2) rfl (by rfl) (by decide) rfl (fun ls hl => ?_)
                      refine lv_goto (tgt := 97) hx hb dX5_goes_115 (by decide) ?_
                      exact ih22 _ _ hF _ _ hP hD hS ls (lv_sub hl [1, 2, 0] rfl)
                exact loop22 1000 _ _ hF _ _ hP hD hS ls (lv_sub hl [1, 2, 0] rfl)
            · have hF := ob_neg c11 hF
              refine lv_aload_n hx hb dX5_goes_68 rfl (lv_at hl 0 rfl) ?_
              refine lv_iload_n hx hb dX5_goes_69 rfl (lv_at hl 2 rfl) ?_
              obtain ⟨z26, hz26, hF⟩ := ob_bind hF
              refine cl_v (csR := []) (csF := [wM g a z26]) (rest := []) hx hb hml hown hts hK hE hA hl hP hD hS (c_X5_stresses g l a b8 x9 z26 hz26) [0] [] [0] ⟨rfl, rfl, rfl, rfl, rfl, rfl, rfl⟩ ⟨0, 9, _, _, rfl, rfl, rfl⟩ 1 (jb_giV mw_1542 mw_1544 ms_52 mw_10 mw_1545) ⟨rfl, rfl⟩ (by decide +kernel) ⟨⟨(Nat.le_of_ble_eq_true rfl), (Nat.le_of_ble_eq_true rfl)⟩, (Nat.le_of_ble_eq_true rfl), (Nat.le_of_ble_eq_true rfl)⟩ ⟨rfl, rfl⟩ (Nat.le_of_ble_eq_true rfl) dX5_goes_70 (fun H locs hP hD hS => ?_)
              refine lv_iinc (v := x9 + 1) (lv' := [(2, .int (x9 + 1)), (0, .ref (a 0)), (1, .int z7.1)]) hx hb dX5_goes_73 hl (k := 2) rfl (by rfl) (by decide) rfl (fun ls hl => ?_)
              refine lv_goto (tgt := 58) hx hb dX5_goes_76 (by decide) ?_
              exact ih9 _ _ hF _ _ hP hD hS ls (lv_sub hl [1, 2, 0] rfl)
        exact loop9 1000 _ _ hF _ _ hP hD hS ls (lv_sub hl [2, 1, 0] rfl)
      · have hF := ob_neg c6 hF
        refine lv_aload_n hx hb dX5_goes_22 rfl (lv_at hl 0 rfl) ?_
        refine lv_iload_n hx hb dX5_goes_23 rfl (lv_at hl 1 rfl) ?_
        refine lv_iconst (v := 1) hx hb dX5_goes_24 (by decide) ?_
        obtain ⟨z27, hz27, hF⟩ := ob_bind hF
        refine cl_i (csR := []) (csF := [wM g a b3]) (rest := []) hx hb hml hown hts hK hE hA hl hP hD hS (c_X5_of g l a b3 x4 1 z27 hz27) [0] [] [0] ⟨rfl, rfl, rfl, rfl, rfl, rfl, rfl⟩ ⟨0, 9, _, _, rfl, rfl, rfl⟩ 2 (jb_giV mw_1415 mw_1417 ms_36 mw_10 mw_1418) ⟨rfl, rfl⟩ (by decide +kernel) ⟨⟨(Nat.le_of_ble_eq_true rfl), (Nat.le_of_ble_eq_true rfl)⟩, (Nat.le_of_ble_eq_true rfl), (Nat.le_of_ble_eq_true rfl)⟩ ⟨rfl, rfl⟩ (Nat.le_of_ble_eq_true rfl) dX5_goes_25 (fun H locs hP hD hS => ?_)
        refine lv_if_le (tgt := 45) hx hb dX5_goes_28 (by decide) (fun c28 => ?_) (fun c28 => ?_)
        · have hF := ob_pos c28 hF
          refine lv_iinc (v := x4 + 1) (lv' := [(1, .int (x4 + 1)), (0, .ref (a 0))]) hx hb dX5_goes_45 hl (k := 1) rfl (by rfl) (by decide) rfl (fun ls hl => ?_)
          refine lv_goto (tgt := 12) hx hb dX5_goes_48 (by decide) ?_
          exact ih4 _ _ hF _ _ hP hD hS ls (lv_sub hl [1, 0] rfl)
        · have hF := ob_neg c28 hF
          refine lv_aload_n hx hb dX5_goes_31 rfl (lv_at hl 0 rfl) ?_
          refine lv_iload_n hx hb dX5_goes_32 rfl (lv_at hl 1 rfl) ?_
          refine lv_iconst (v := 2) hx hb dX5_goes_33 (by decide) ?_
          refine lv_aload_n hx hb dX5_goes_34 rfl (lv_at hl 0 rfl) ?_
          refine lv_iload_n hx hb dX5_goes_35 rfl (lv_at hl 1 rfl) ?_
          refine lv_iconst (v := 2) hx hb dX5_goes_36 (by decide) ?_
          obtain ⟨z29, hz29, hF⟩ := ob_bind hF
          refine cl_i (csR := []) (csF := [wM g a b3]) (rest := [.int 2, .int x4, .ref (a 0)]) hx hb hml hown hts hK hE hA hl hP hD hS (c_X5_of g l a b3 x4 2 z29 hz29) [0] [] [0] ⟨rfl, rfl, rfl, rfl, rfl, rfl, rfl⟩ ⟨0, 9, _, _, rfl, rfl, rfl⟩ 2 (jb_giV mw_1415 mw_1417 ms_36 mw_10 mw_1418) ⟨rfl, rfl⟩ (by decide +kernel) ⟨⟨(Nat.le_of_ble_eq_true rfl), (Nat.le_of_ble_eq_true rfl)⟩, (Nat.le_of_ble_eq_true rfl), (Nat.le_of_ble_eq_true rfl)⟩ ⟨rfl, rfl⟩ (Nat.le_of_ble_eq_true rfl) dX5_goes_37 (fun H locs hP hD hS => ?_)
          refine lv_iconst (v := 1) hx hb dX5_goes_40 (by decide) ?_
          refine lv_iadd hx hb dX5_goes_41 ?_
          obtain ⟨z30, hz30, hF⟩ := ob_bind hF
          refine cl_v (csR := []) (csF := [wM g a z30]) (rest := []) hx hb hml hown hts hK hE hA hl hP hD hS (c_X5_lays g l a b3 x4 2 (z29 + 1) z30 hz30) [0] [] [0] ⟨rfl, rfl, rfl, rfl, rfl, rfl, rfl⟩ ⟨0, 9, _, _, rfl, rfl, rfl⟩ 3 (jb_giV mw_1407 mw_1409 ms_35 mw_10 mw_1410) ⟨rfl, rfl⟩ (by decide +kernel) ⟨⟨(Nat.le_of_ble_eq_true rfl), (Nat.le_of_ble_eq_true rfl)⟩, (Nat.le_of_ble_eq_true rfl), (Nat.le_of_ble_eq_true rfl)⟩ ⟨rfl, rfl⟩ (Nat.le_of_ble_eq_true rfl) dX5_goes_42 (fun H locs hP hD hS => ?_)
          refine lv_iinc (v := x4 + 1) (lv' := [(1, .int (x4 + 1)), (0, .ref (a 0))]) hx hb dX5_goes_45 hl (k := 1) rfl (by rfl) (by decide) rfl (fun ls hl => ?_)
          refine lv_goto (tgt := 12) hx hb dX5_goes_48 (by decide) ?_
          exact ih4 _ _ hF _ _ hP hD hS ls (lv_sub hl [1, 0] rfl)
  exact loop4 1000 _ _ hF _ _ hP hD hS ls (lv_sub hl [1, 0] rfl)
def F_X5_pass_L36 (y1 : Int32) (k : Mv → Int32 → Int32 → Option (Int32 × Mv)) : Nat → Mv → Int32 → Int32 → Option (Int32 × Mv)
  | 0, _, _, _ => none
  | n + 1, b0, x2, x3 => if y1 ≤ x3 then k b0 x2 x3 else (F_X5_goes b0).bind (fun z4 => F_X5_pass_L36 y1 k n z4.2 (x2 + z4.1) (x3 + 1))
def F_X5_pass (mo : Mv) (p0 : Int32) : Option (Int32 × Mv) := (F_X5_in p0 1 48).bind (fun z1 => if (bi z1) = 0 then (F_X5_fails mo 1).bind (fun z2 => if (bi z2.1) = 0 then (F_X5_keeps_g z2.2).bind (fun z3 => F_X5_pass_L36 p0 (fun b5 x6 x7 => some (x6, b5)) 1000 z3 0 0) else some (0, z2.2)) else (F_X5_fails mo 0).bind (fun z8 => if (bi z8.1) = 0 then (F_X5_keeps_g z8.2).bind (fun z9 => F_X5_pass_L36 p0 (fun b10 x11 x12 => some (x11, b10)) 1000 z9 0 0) else some (0, z8.2)))
set_option maxHeartbeats 4000000 in
set_option maxRecDepth 100000 in
theorem c_X5_pass (g : GG) (l : Launch) (a : Nat → Nat) (mo : Mv) (p0 : Int32) (z : Int32 × Mv) (hF : F_X5_pass mo p0 = some z) : MI g l yX5_pass cX5_pass 4 (some .int) ({ frames := 6, cells := 0, slots := 0, locals := 130 } : Room) [.ref (a 0), .int p0] [wM g a mo] 0 0 z.1 [wM g a z.2] := by
  refine MI.bg (by decide) (Nat.le_of_ble_eq_true rfl) ?_
  intro p e s m below meth c A Q hQ hx hb hr hml hown hts hlocks hmn hK hE hA hP hD hS ls hl
  rw [F_X5_pass] at hF
  have hl : lv_has ls 4 [(0, .ref (a 0)), (1, .int p0)] := hl
  refine lv_aload_n hx hb dX5_pass_0 rfl (lv_at hl 0 rfl) ?_
  refine lv_iload_n hx hb dX5_pass_1 rfl (lv_at hl 1 rfl) ?_
  refine lv_iconst (v := 1) hx hb dX5_pass_2 (by decide) ?_
  refine lv_bipush (v := 48) hx hb dX5_pass_3 (by decide) ?_
  obtain ⟨z1, hz1, hF⟩ := ob_bind hF
  refine cl_si (csR := [wM g a mo]) (csF := [wM g a mo]) (rest := [.ref (a 0)]) hx hb hml hown hts hK hE hA hl hP hD hS (c_X5_in g l  p0 1 48 z1 hz1) [] [0] [0] ⟨rfl, rfl, rfl, rfl, rfl, rfl, rfl⟩ 3 (jb_giS mw_1389 mw_1390 mw_10 mw_1391) ⟨rfl, rfl⟩ (by decide +kernel) ⟨⟨(Nat.le_of_ble_eq_true rfl), (Nat.le_of_ble_eq_true rfl)⟩, (Nat.le_of_ble_eq_true rfl), (Nat.le_of_ble_eq_true rfl)⟩ ⟨rfl, rfl⟩ (Nat.le_of_ble_eq_true rfl) dX5_pass_5 (fun H locs hP hD hS => ?_)
  refine lv_if_eq (tgt := 15) hx hb dX5_pass_8 (by decide) (fun c2 => ?_) (fun c2 => ?_)
  · have hF := ob_pos c2 hF
    refine lv_iconst (v := 1) hx hb dX5_pass_15 (by decide) ?_
    obtain ⟨z3, hz3, hF⟩ := ob_bind hF
    refine cl_i (csR := []) (csF := [wM g a z3.2]) (rest := []) hx hb hml hown hts hK hE hA hl hP hD hS (c_X5_fails g l a mo 1 z3 hz3) [0] [] [0] ⟨rfl, rfl, rfl, rfl, rfl, rfl, rfl⟩ ⟨0, 9, _, _, rfl, rfl, rfl⟩ 1 (jb_giV mw_1392 mw_1394 ms_32 mw_10 mw_1395) ⟨rfl, rfl⟩ (by decide +kernel) ⟨⟨(Nat.le_of_ble_eq_true rfl), (Nat.le_of_ble_eq_true rfl)⟩, (Nat.le_of_ble_eq_true rfl), (Nat.le_of_ble_eq_true rfl)⟩ ⟨rfl, rfl⟩ (Nat.le_of_ble_eq_true rfl) dX5_pass_16 (fun H locs hP hD hS => ?_)
    refine lv_if_eq (tgt := 24) hx hb dX5_pass_19 (by decide) (fun c4 => ?_) (fun c4 => ?_)
    · have hF := ob_pos c4 hF
      refine lv_aload_n hx hb dX5_pass_24 rfl (lv_at hl 0 rfl) ?_
      refine lv_aload_n hx hb dX5_pass_25 rfl (lv_at hl 0 rfl) ?_
      refine va_get (D := g.1) (ci := 9) (v := .ref (a 1)) (C := RX5) (T := TX5) (N := 23) hx hb hts inX5 hown hK hP 0 rfl rfl 0 (by decide) (hts _ mw_1311) (fun _ h9 => h9) rfl dX5_pass_26 ?_
      obtain ⟨z5, hz5, hF⟩ := ob_bind hF
      refine cl_v (csR := []) (csF := [wM g a z5]) (rest := []) hx hb hml hown hts hK hE hA hl hP hD hS (c_X5_keeps_g g l a z3.2 z5 hz5) [0] [] [0] ⟨rfl, rfl, rfl, rfl, rfl, rfl, rfl⟩ ⟨0, 9, _, _, rfl, rfl, rfl⟩ 1 (jb_giV mw_1400 mw_1402 ms_34 mw_10 mw_1403) ⟨rfl, rfl⟩ (by decide +kernel) ⟨⟨(Nat.le_of_ble_eq_true rfl), (Nat.le_of_ble_eq_true rfl)⟩, (Nat.le_of_ble_eq_true rfl), (Nat.le_of_ble_eq_true rfl)⟩ ⟨rfl, rfl⟩ (Nat.le_of_ble_eq_true rfl) dX5_pass_29 (fun H locs hP hD hS => ?_)
      refine lv_iconst (v := 0) hx hb dX5_pass_32 (by decide) ?_
      refine lv_istore_n (lv' := [(2, .int 0), (0, .ref (a 0)), (1, .int p0)]) hx hb dX5_pass_33 rfl hl (by decide) rfl (fun ls hl => ?_)
      refine lv_iconst (v := 0) hx hb dX5_pass_34 (by decide) ?_
      refine lv_istore_n (lv' := [(3, .int 0), (2, .int 0), (0, .ref (a 0)), (1, .int p0)]) hx hb dX5_pass_35 rfl hl (by decide) rfl (fun ls hl => ?_)
      obtain ⟨k8, ek8, hF⟩ := ob_k (F := fun k9 => F_X5_pass_L36 p0 k9 1000 z5 0 0) hF
      have loop8 : ∀ (n9 : Nat) (b6 : Mv) (x7 : Int32) (x8 : Int32), F_X5_pass_L36 p0 k8 n9 b6 x7 x8 = some z → ∀ (H : Heap) (locs : List Loc), va_P g.1 vwCl ([wM g a b6] : List va_W).flatten H → va_D A ([wM g a b6] : List va_W).flatten → va_S A s.heap H locs → ∀ ls : Array Slot, lv_has ls 4 [(0, .ref (a 0)), (1, .int p0), (2, .int x7), (3, .int x8)] → W p l e ({ frames := 6, cells := 0, slots := 0, locals := 130 } : Room) s m ([.ref (a 0), .int p0] : List Value).toArray below meth c H locs 0 0 Q (F0 m 36 ls []) := by
        intro n9
        induction n9 with
        | zero => intro b6 x7 x8 hF; rw [F_X5_pass_L36] at hF; cases hF
        | succ n9 ih8 =>
          intro b6 x7 x8 hF H locs hP hD hS ls hl
          rw [F_X5_pass_L36] at hF
          refine lv_iload_n hx hb dX5_pass_36 rfl (lv_at hl 3 rfl) ?_
          refine lv_iload_n hx hb dX5_pass_37 rfl (lv_at hl 1 rfl) ?_
          refine lv_icmp_ge (tgt := 54) hx hb dX5_pass_38 (by decide) (fun c9 => ?_) (fun c9 => ?_)
          · have hF := ob_pos c9 hF
            rw [ek8] at hF
            refine lv_iload_n hx hb dX5_pass_54 rfl (lv_at hl 2 rfl) ?_
            cases hF
            rw [hQ]
            exact jb_iret hx hb hr hlocks hP hD hS dX5_pass_55 rfl (Nat.le_of_ble_eq_true rfl) (Nat.le_of_ble_eq_true rfl)
          · have hF := ob_neg c9 hF
            refine lv_iload_n hx hb dX5_pass_41 rfl (lv_at hl 2 rfl) ?_
            refine lv_aload_n hx hb dX5_pass_42 rfl (lv_at hl 0 rfl) ?_
            obtain ⟨z10, hz10, hF⟩ := ob_bind hF
            refine cl_i (csR := []) (csF := [wM g a z10.2]) (rest := [.int x7]) hx hb hml hown hts hK hE hA hl hP hD hS (c_X5_goes g l a b6 z10 hz10) [0] [] [0] ⟨rfl, rfl, rfl, rfl, rfl, rfl, rfl⟩ ⟨0, 9, _, _, rfl, rfl, rfl⟩ 0 (jb_giV mw_1522 mw_1524 ms_47 mw_10 mw_1525) ⟨rfl, rfl⟩ (by decide +kernel) ⟨⟨(Nat.le_of_ble_eq_true rfl), (Nat.le_of_ble_eq_true rfl)⟩, (Nat.le_of_ble_eq_true rfl), (Nat.le_of_ble_eq_true rfl)⟩ ⟨rfl, rfl⟩ (Nat.le_of_ble_eq_true rfl) dX5_pass_43 (fun H locs hP hD hS => ?_)
            refine lv_iadd hx hb dX5_pass_46 ?_
            refine lv_istore_n (lv' := [(2, .int (x7 + z10.1)), (0, .ref (a 0)), (1, .int p0), (3, .int x8)]) hx hb dX5_pass_47 rfl hl (by decide) rfl (fun ls hl => ?_)
            refine lv_iinc (v := x8 + 1) (lv' := [(3, .int (x8 + 1)), (2, .int (x7 + z10.1)), (0, .ref (a 0)), (1, .int p0)]) hx hb dX5_pass_48 hl (k := 3) rfl (by rfl) (by decide) rfl (fun ls hl => ?_)
            refine lv_goto (tgt := 36) hx hb dX5_pass_51 (by decide) ?_
            exact ih8 _ _ _ hF _ _ hP hD hS ls (lv_sub hl [2, 3, 1, 0] rfl)
      exact loop8 1000 _ _ _ hF _ _ hP hD hS ls (lv_sub hl [2, 3, 1, 0] rfl)
    · have hF := ob_neg c4 hF
      refine lv_iconst (v := 0) hx hb dX5_pass_22 (by decide) ?_
      cases hF
      rw [hQ]
      exact jb_iret hx hb hr hlocks hP hD hS dX5_pass_23 rfl (Nat.le_of_ble_eq_true rfl) (Nat.le_of_ble_eq_true rfl)
  · have hF := ob_neg c2 hF
    refine lv_iconst (v := 0) hx hb dX5_pass_11 (by decide) ?_
    refine lv_goto (tgt := 16) hx hb dX5_pass_12 (by decide) ?_
    obtain ⟨z11, hz11, hF⟩ := ob_bind hF
    refine cl_i (csR := []) (csF := [wM g a z11.2]) (rest := []) hx hb hml hown hts hK hE hA hl hP hD hS (c_X5_fails g l a mo 0 z11 hz11) [0] [] [0] ⟨rfl, rfl, rfl, rfl, rfl, rfl, rfl⟩ ⟨0, 9, _, _, rfl, rfl, rfl⟩ 1 (jb_giV mw_1392 mw_1394 ms_32 mw_10 mw_1395) ⟨rfl, rfl⟩ (by decide +kernel) ⟨⟨(Nat.le_of_ble_eq_true rfl), (Nat.le_of_ble_eq_true rfl)⟩, (Nat.le_of_ble_eq_true rfl), (Nat.le_of_ble_eq_true rfl)⟩ ⟨rfl, rfl⟩ (Nat.le_of_ble_eq_true rfl) dX5_pass_16 (fun H locs hP hD hS => ?_)
    refine lv_if_eq (tgt := 24) hx hb dX5_pass_19 (by decide) (fun c12 => ?_) (fun c12 => ?_)
    · have hF := ob_pos c12 hF
      refine lv_aload_n hx hb dX5_pass_24 rfl (lv_at hl 0 rfl) ?_
      refine lv_aload_n hx hb dX5_pass_25 rfl (lv_at hl 0 rfl) ?_
      refine va_get (D := g.1) (ci := 9) (v := .ref (a 1)) (C := RX5) (T := TX5) (N := 23) hx hb hts inX5 hown hK hP 0 rfl rfl 0 (by decide) (hts _ mw_1311) (fun _ h9 => h9) rfl dX5_pass_26 ?_
      obtain ⟨z13, hz13, hF⟩ := ob_bind hF
      refine cl_v (csR := []) (csF := [wM g a z13]) (rest := []) hx hb hml hown hts hK hE hA hl hP hD hS (c_X5_keeps_g g l a z11.2 z13 hz13) [0] [] [0] ⟨rfl, rfl, rfl, rfl, rfl, rfl, rfl⟩ ⟨0, 9, _, _, rfl, rfl, rfl⟩ 1 (jb_giV mw_1400 mw_1402 ms_34 mw_10 mw_1403) ⟨rfl, rfl⟩ (by decide +kernel) ⟨⟨(Nat.le_of_ble_eq_true rfl), (Nat.le_of_ble_eq_true rfl)⟩, (Nat.le_of_ble_eq_true rfl), (Nat.le_of_ble_eq_true rfl)⟩ ⟨rfl, rfl⟩ (Nat.le_of_ble_eq_true rfl) dX5_pass_29 (fun H locs hP hD hS => ?_)
      refine lv_iconst (v := 0) hx hb dX5_pass_32 (by decide) ?_
      refine lv_istore_n (lv' := [(2, .int 0), (0, .ref (a 0)), (1, .int p0)]) hx hb dX5_pass_33 rfl hl (by decide) rfl (fun ls hl => ?_)
      refine lv_iconst (v := 0) hx hb dX5_pass_34 (by decide) ?_
      refine lv_istore_n (lv' := [(3, .int 0), (2, .int 0), (0, .ref (a 0)), (1, .int p0)]) hx hb dX5_pass_35 rfl hl (by decide) rfl (fun ls hl => ?_)
      obtain ⟨k16, ek16, hF⟩ := ob_k (F := fun k9 => F_X5_pass_L36 p0 k9 1000 z13 0 0) hF
      have loop16 : ∀ (n9 : Nat) (b14 : Mv) (x15 : Int32) (x16 : Int32), F_X5_pass_L36 p0 k16 n9 b14 x15 x16 = some z → ∀ (H : Heap) (locs : List Loc), va_P g.1 vwCl ([wM g a b14] : List va_W).flatten H → va_D A ([wM g a b14] : List va_W).flatten → va_S A s.heap H locs → ∀ ls : Array Slot, lv_has ls 4 [(0, .ref (a 0)), (1, .int p0), (2, .int x15), (3, .int x16)] → W p l e ({ frames := 6, cells := 0, slots := 0, locals := 130 } : Room) s m ([.ref (a 0), .int p0] : List Value).toArray below meth c H locs 0 0 Q (F0 m 36 ls []) := by
        intro n9
        induction n9 with
        | zero => intro b14 x15 x16 hF; rw [F_X5_pass_L36] at hF; cases hF
        | succ n9 ih16 =>
          intro b14 x15 x16 hF H locs hP hD hS ls hl
          rw [F_X5_pass_L36] at hF
          refine lv_iload_n hx hb dX5_pass_36 rfl (lv_at hl 3 rfl) ?_
          refine lv_iload_n hx hb dX5_pass_37 rfl (lv_at hl 1 rfl) ?_
          refine lv_icmp_ge (tgt := 54) hx hb dX5_pass_38 (by decide) (fun c17 => ?_) (fun c17 => ?_)
          · have hF := ob_pos c17 hF
            rw [ek16] at hF
            refine lv_iload_n hx hb dX5_pass_54 rfl (lv_at hl 2 rfl) ?_
            cases hF
            rw [hQ]
            exact jb_iret hx hb hr hlocks hP hD hS dX5_pass_55 rfl (Nat.le_of_ble_eq_true rfl) (Nat.le_of_ble_eq_true rfl)
          · have hF := ob_neg c17 hF
            refine lv_iload_n hx hb dX5_pass_41 rfl (lv_at hl 2 rfl) ?_
            refine lv_aload_n hx hb dX5_pass_42 rfl (lv_at hl 0 rfl) ?_
            obtain ⟨z18, hz18, hF⟩ := ob_bind hF
            refine cl_i (csR := []) (csF := [wM g a z18.2]) (rest := [.int x15]) hx hb hml hown hts hK hE hA hl hP hD hS (c_X5_goes g l a b14 z18 hz18) [0] [] [0] ⟨rfl, rfl, rfl, rfl, rfl, rfl, rfl⟩ ⟨0, 9, _, _, rfl, rfl, rfl⟩ 0 (jb_giV mw_1522 mw_1524 ms_47 mw_10 mw_1525) ⟨rfl, rfl⟩ (by decide +kernel) ⟨⟨(Nat.le_of_ble_eq_true rfl), (Nat.le_of_ble_eq_true rfl)⟩, (Nat.le_of_ble_eq_true rfl), (Nat.le_of_ble_eq_true rfl)⟩ ⟨rfl, rfl⟩ (Nat.le_of_ble_eq_true rfl) dX5_pass_43 (fun H locs hP hD hS => ?_)
            refine lv_iadd hx hb dX5_pass_46 ?_
            refine lv_istore_n (lv' := [(2, .int (x15 + z18.1)), (0, .ref (a 0)), (1, .int p0), (3, .int x16)]) hx hb dX5_pass_47 rfl hl (by decide) rfl (fun ls hl => ?_)
            refine lv_iinc (v := x16 + 1) (lv' := [(3, .int (x16 + 1)), (2, .int (x15 + z18.1)), (0, .ref (a 0)), (1, .int p0)]) hx hb dX5_pass_48 hl (k := 3) rfl (by rfl) (by decide) rfl (fun ls hl => ?_)
            refine lv_goto (tgt := 36) hx hb dX5_pass_51 (by decide) ?_
            exact ih16 _ _ _ hF _ _ hP hD hS ls (lv_sub hl [2, 3, 1, 0] rfl)
      exact loop16 1000 _ _ _ hF _ _ hP hD hS ls (lv_sub hl [2, 3, 1, 0] rfl)
    · have hF := ob_neg c12 hF
      refine lv_iconst (v := 0) hx hb dX5_pass_22 (by decide) ?_
      cases hF
      rw [hQ]
      exact jb_iret hx hb hr hlocks hP hD hS dX5_pass_23 rfl (Nat.le_of_ble_eq_true rfl) (Nat.le_of_ble_eq_true rfl)
def F_X5_setRate (mo : Mv) (p0 : Int32) : Option (Int32 × Mv) := (F_X5_in p0 0 20).bind (fun z1 => if (bi z1) = 0 then (F_X5_fails mo 1).bind (fun z2 => if (bi z2.1) = 0 then ck (inb 4 83) (if ¬ p0 = ((M_g z2.2) (4 : Int32).toNatClampNeg) then (F_X5_keeps_g z2.2).bind (fun z3 => ck (inb 4 83) (some ((M_g z2.2) (4 : Int32).toNatClampNeg, (mkM (upd (M_g z3) (4 : Int32).toNatClampNeg p0) (M_kept z3) (M_saved z3) (M_before z3) (M_trial z3) (M_counted z3) (M_isSaved z3) (M_changes z3) (M_isWithin z3) (M_isDenied z3) (M_code z3) (M_why z3) (M_detail z3) (M_cause z3) (M_input z3) (M_length z3) (M_fault z3) (M_signs z3) (M_signMany z3) (M_lastOver z3) (M_at z3) (M_told z3) (M_toldMany z3))))) else (F_X5_denies z2.2 2 7 p0).bind (fun z4 => some (z4.1, z4.2))) else some (0, z2.2)) else (F_X5_fails mo 0).bind (fun z5 => if (bi z5.1) = 0 then ck (inb 4 83) (if ¬ p0 = ((M_g z5.2) (4 : Int32).toNatClampNeg) then (F_X5_keeps_g z5.2).bind (fun z6 => ck (inb 4 83) (some ((M_g z5.2) (4 : Int32).toNatClampNeg, (mkM (upd (M_g z6) (4 : Int32).toNatClampNeg p0) (M_kept z6) (M_saved z6) (M_before z6) (M_trial z6) (M_counted z6) (M_isSaved z6) (M_changes z6) (M_isWithin z6) (M_isDenied z6) (M_code z6) (M_why z6) (M_detail z6) (M_cause z6) (M_input z6) (M_length z6) (M_fault z6) (M_signs z6) (M_signMany z6) (M_lastOver z6) (M_at z6) (M_told z6) (M_toldMany z6))))) else (F_X5_denies z5.2 2 7 p0).bind (fun z7 => some (z7.1, z7.2))) else some (0, z5.2)))
set_option maxHeartbeats 4000000 in
set_option maxRecDepth 100000 in
theorem c_X5_setRate (g : GG) (l : Launch) (a : Nat → Nat) (mo : Mv) (p0 : Int32) (z : Int32 × Mv) (hF : F_X5_setRate mo p0 = some z) : MI g l yX5_setRate cX5_setRate 3 (some .int) ({ frames := 2, cells := 0, slots := 0, locals := 46 } : Room) [.ref (a 0), .int p0] [wM g a mo] 0 0 z.1 [wM g a z.2] := by
  refine MI.bg (by decide) (Nat.le_of_ble_eq_true rfl) ?_
  intro p e s m below meth c A Q hQ hx hb hr hml hown hts hlocks hmn hK hE hA hP hD hS ls hl
  rw [F_X5_setRate] at hF
  have hl : lv_has ls 3 [(0, .ref (a 0)), (1, .int p0)] := hl
  refine lv_aload_n hx hb dX5_setRate_0 rfl (lv_at hl 0 rfl) ?_
  refine lv_iload_n hx hb dX5_setRate_1 rfl (lv_at hl 1 rfl) ?_
  refine lv_iconst (v := 0) hx hb dX5_setRate_2 (by decide) ?_
  refine lv_bipush (v := 20) hx hb dX5_setRate_3 (by decide) ?_
  obtain ⟨z1, hz1, hF⟩ := ob_bind hF
  refine cl_si (csR := [wM g a mo]) (csF := [wM g a mo]) (rest := [.ref (a 0)]) hx hb hml hown hts hK hE hA hl hP hD hS (c_X5_in g l  p0 0 20 z1 hz1) [] [0] [0] ⟨rfl, rfl, rfl, rfl, rfl, rfl, rfl⟩ 3 (jb_giS mw_1389 mw_1390 mw_10 mw_1391) ⟨rfl, rfl⟩ (by decide +kernel) ⟨⟨(Nat.le_of_ble_eq_true rfl), (Nat.le_of_ble_eq_true rfl)⟩, (Nat.le_of_ble_eq_true rfl), (Nat.le_of_ble_eq_true rfl)⟩ ⟨rfl, rfl⟩ (Nat.le_of_ble_eq_true rfl) dX5_setRate_5 (fun H locs hP hD hS => ?_)
  refine lv_if_eq (tgt := 15) hx hb dX5_setRate_8 (by decide) (fun c2 => ?_) (fun c2 => ?_)
  · have hF := ob_pos c2 hF
    refine lv_iconst (v := 1) hx hb dX5_setRate_15 (by decide) ?_
    obtain ⟨z3, hz3, hF⟩ := ob_bind hF
    refine cl_i (csR := []) (csF := [wM g a z3.2]) (rest := []) hx hb hml hown hts hK hE hA hl hP hD hS (c_X5_fails g l a mo 1 z3 hz3) [0] [] [0] ⟨rfl, rfl, rfl, rfl, rfl, rfl, rfl⟩ ⟨0, 9, _, _, rfl, rfl, rfl⟩ 1 (jb_giV mw_1392 mw_1394 ms_32 mw_10 mw_1395) ⟨rfl, rfl⟩ (by decide +kernel) ⟨⟨(Nat.le_of_ble_eq_true rfl), (Nat.le_of_ble_eq_true rfl)⟩, (Nat.le_of_ble_eq_true rfl), (Nat.le_of_ble_eq_true rfl)⟩ ⟨rfl, rfl⟩ (Nat.le_of_ble_eq_true rfl) dX5_setRate_16 (fun H locs hP hD hS => ?_)
    refine lv_if_eq (tgt := 24) hx hb dX5_setRate_19 (by decide) (fun c4 => ?_) (fun c4 => ?_)
    · have hF := ob_pos c4 hF
      refine lv_aload_n hx hb dX5_setRate_24 rfl (lv_at hl 0 rfl) ?_
      refine va_get (D := g.1) (ci := 9) (v := .ref (a 1)) (C := RX5) (T := TX5) (N := 23) hx hb hts inX5 hown hK hP 0 rfl rfl 0 (by decide) (hts _ mw_1311) (fun _ h9 => h9) rfl dX5_setRate_25 ?_
      refine lv_iconst (v := 4) hx hb dX5_setRate_28 (by decide) ?_
      have h5 := inb_in (ck_t hF)
      have hF := ck_s hF
      refine va_iald hx hb hK hP 1 0 rfl rfl h5 dX5_setRate_29 ?_
      refine lv_istore_n (lv' := [(2, .int ((M_g z3.2) (4 : Int32).toNatClampNeg)), (0, .ref (a 0)), (1, .int p0)]) hx hb dX5_setRate_30 rfl hl (by decide) rfl (fun ls hl => ?_)
      refine lv_iload_n hx hb dX5_setRate_31 rfl (lv_at hl 2 rfl) ?_
      refine lv_iload_n hx hb dX5_setRate_32 rfl (lv_at hl 0 rfl) ?_
      refine lv_icmp_ne (tgt := 45) hx hb dX5_setRate_33 (by decide) (fun c6 => ?_) (fun c6 => ?_)
      · have hF := ob_pos c6 hF
        refine lv_aload_n hx hb dX5_setRate_45 rfl (lv_at hl 1 rfl) ?_
        refine lv_aload_n hx hb dX5_setRate_46 rfl (lv_at hl 1 rfl) ?_
        refine va_get (D := g.1) (ci := 9) (v := .ref (a 1)) (C := RX5) (T := TX5) (N := 23) hx hb hts inX5 hown hK hP 0 rfl rfl 0 (by decide) (hts _ mw_1311) (fun _ h9 => h9) rfl dX5_setRate_47 ?_
        obtain ⟨z7, hz7, hF⟩ := ob_bind hF
        refine cl_v (csR := []) (csF := [wM g a z7]) (rest := []) hx hb hml hown hts hK hE hA hl hP hD hS (c_X5_keeps_g g l a z3.2 z7 hz7) [0] [] [0] ⟨rfl, rfl, rfl, rfl, rfl, rfl, rfl⟩ ⟨0, 9, _, _, rfl, rfl, rfl⟩ 1 (jb_giV mw_1400 mw_1402 ms_34 mw_10 mw_1403) ⟨rfl, rfl⟩ (by decide +kernel) ⟨⟨(Nat.le_of_ble_eq_true rfl), (Nat.le_of_ble_eq_true rfl)⟩, (Nat.le_of_ble_eq_true rfl), (Nat.le_of_ble_eq_true rfl)⟩ ⟨rfl, rfl⟩ (Nat.le_of_ble_eq_true rfl) dX5_setRate_50 (fun H locs hP hD hS => ?_)
        refine lv_aload_n hx hb dX5_setRate_53 rfl (lv_at hl 1 rfl) ?_
        refine va_get (D := g.1) (ci := 9) (v := .ref (a 1)) (C := RX5) (T := TX5) (N := 23) hx hb hts inX5 hown hK hP 0 rfl rfl 0 (by decide) (hts _ mw_1311) (fun _ h9 => h9) rfl dX5_setRate_54 ?_
        refine lv_iconst (v := 4) hx hb dX5_setRate_57 (by decide) ?_
        refine lv_iload_n hx hb dX5_setRate_58 rfl (lv_at hl 2 rfl) ?_
        have h8 := inb_in (ck_t hF)
        have hF := ck_s hF
        refine va_iast hx hb hK hP hD hS 1 0 rfl rfl h8 dX5_setRate_59 (fun H locs hP hD hS => ?_)
        have hP : va_P g.1 vwCl ([wMc g a (upd (M_g z7) (4 : Int32).toNatClampNeg p0) (M_kept z7) (M_saved z7) (M_before z7) (M_trial z7) (M_counted z7) (M_isSaved z7) (M_changes z7) (M_isWithin z7) (M_isDenied z7) (M_code z7) (M_why z7) (M_detail z7) (M_cause z7) (M_input z7) (M_length z7) (M_fault z7) (M_signs z7) (M_signMany z7) (M_lastOver z7) (M_at z7) (M_told z7) (M_toldMany z7)] : List va_W).flatten _ := hP
        have hD : va_D A ([wMc g a (upd (M_g z7) (4 : Int32).toNatClampNeg p0) (M_kept z7) (M_saved z7) (M_before z7) (M_trial z7) (M_counted z7) (M_isSaved z7) (M_changes z7) (M_isWithin z7) (M_isDenied z7) (M_code z7) (M_why z7) (M_detail z7) (M_cause z7) (M_input z7) (M_length z7) (M_fault z7) (M_signs z7) (M_signMany z7) (M_lastOver z7) (M_at z7) (M_told z7) (M_toldMany z7)] : List va_W).flatten := hD
        refine lv_iload_n hx hb dX5_setRate_60 rfl (lv_at hl 0 rfl) ?_
        cases hF
        rw [hQ]
        exact jb_iret hx hb hr hlocks hP hD hS dX5_setRate_61 rfl (Nat.le_of_ble_eq_true rfl) (Nat.le_of_ble_eq_true rfl)
      · have hF := ob_nneg c6 hF
        refine lv_aload_n hx hb dX5_setRate_36 rfl (lv_at hl 1 rfl) ?_
        refine lv_iconst (v := 2) hx hb dX5_setRate_37 (by decide) ?_
        refine lv_bipush (v := 7) hx hb dX5_setRate_38 (by decide) ?_
        refine lv_iload_n hx hb dX5_setRate_40 rfl (lv_at hl 2 rfl) ?_
        obtain ⟨z9, hz9, hF⟩ := ob_bind hF
        refine cl_i (csR := []) (csF := [wM g a z9.2]) (rest := []) hx hb hml hown hts hK hE hA hl hP hD hS (c_X5_denies g l a z3.2 2 7 p0 z9 hz9) [0] [] [0] ⟨rfl, rfl, rfl, rfl, rfl, rfl, rfl⟩ ⟨0, 9, _, _, rfl, rfl, rfl⟩ 3 (jb_giV mw_1396 mw_1398 ms_33 mw_10 mw_1399) ⟨rfl, rfl⟩ (by decide +kernel) ⟨⟨(Nat.le_of_ble_eq_true rfl), (Nat.le_of_ble_eq_true rfl)⟩, (Nat.le_of_ble_eq_true rfl), (Nat.le_of_ble_eq_true rfl)⟩ ⟨rfl, rfl⟩ (Nat.le_of_ble_eq_true rfl) dX5_setRate_41 (fun H locs hP hD hS => ?_)
        cases hF
        rw [hQ]
        exact jb_iret hx hb hr hlocks hP hD hS dX5_setRate_44 rfl (Nat.le_of_ble_eq_true rfl) (Nat.le_of_ble_eq_true rfl)
    · have hF := ob_neg c4 hF
      refine lv_iconst (v := 0) hx hb dX5_setRate_22 (by decide) ?_
      cases hF
      rw [hQ]
      exact jb_iret hx hb hr hlocks hP hD hS dX5_setRate_23 rfl (Nat.le_of_ble_eq_true rfl) (Nat.le_of_ble_eq_true rfl)
  · have hF := ob_neg c2 hF
    refine lv_iconst (v := 0) hx hb dX5_setRate_11 (by decide) ?_
    refine lv_goto (tgt := 16) hx hb dX5_setRate_12 (by decide) ?_
    obtain ⟨z10, hz10, hF⟩ := ob_bind hF
    refine cl_i (csR := []) (csF := [wM g a z10.2]) (rest := []) hx hb hml hown hts hK hE hA hl hP hD hS (c_X5_fails g l a mo 0 z10 hz10) [0] [] [0] ⟨rfl, rfl, rfl, rfl, rfl, rfl, rfl⟩ ⟨0, 9, _, _, rfl, rfl, rfl⟩ 1 (jb_giV mw_1392 mw_1394 ms_32 mw_10 mw_1395) ⟨rfl, rfl⟩ (by decide +kernel) ⟨⟨(Nat.le_of_ble_eq_true rfl), (Nat.le_of_ble_eq_true rfl)⟩, (Nat.le_of_ble_eq_true rfl), (Nat.le_of_ble_eq_true rfl)⟩ ⟨rfl, rfl⟩ (Nat.le_of_ble_eq_true rfl) dX5_setRate_16 (fun H locs hP hD hS => ?_)
    refine lv_if_eq (tgt := 24) hx hb dX5_setRate_19 (by decide) (fun c11 => ?_) (fun c11 => ?_)
    · have hF := ob_pos c11 hF
      refine lv_aload_n hx hb dX5_setRate_24 rfl (lv_at hl 0 rfl) ?_
      refine va_get (D := g.1) (ci := 9) (v := .ref (a 1)) (C := RX5) (T := TX5) (N := 23) hx hb hts inX5 hown hK hP 0 rfl rfl 0 (by decide) (hts _ mw_1311) (fun _ h9 => h9) rfl dX5_setRate_25 ?_
      refine lv_iconst (v := 4) hx hb dX5_setRate_28 (by decide) ?_
      have h12 := inb_in (ck_t hF)
      have hF := ck_s hF
      refine va_iald hx hb hK hP 1 0 rfl rfl h12 dX5_setRate_29 ?_
      refine lv_istore_n (lv' := [(2, .int ((M_g z10.2) (4 : Int32).toNatClampNeg)), (0, .ref (a 0)), (1, .int p0)]) hx hb dX5_setRate_30 rfl hl (by decide) rfl (fun ls hl => ?_)
      refine lv_iload_n hx hb dX5_setRate_31 rfl (lv_at hl 2 rfl) ?_
      refine lv_iload_n hx hb dX5_setRate_32 rfl (lv_at hl 0 rfl) ?_
      refine lv_icmp_ne (tgt := 45) hx hb dX5_setRate_33 (by decide) (fun c13 => ?_) (fun c13 => ?_)
      · have hF := ob_pos c13 hF
        refine lv_aload_n hx hb dX5_setRate_45 rfl (lv_at hl 1 rfl) ?_
        refine lv_aload_n hx hb dX5_setRate_46 rfl (lv_at hl 1 rfl) ?_
        refine va_get (D := g.1) (ci := 9) (v := .ref (a 1)) (C := RX5) (T := TX5) (N := 23) hx hb hts inX5 hown hK hP 0 rfl rfl 0 (by decide) (hts _ mw_1311) (fun _ h9 => h9) rfl dX5_setRate_47 ?_
        obtain ⟨z14, hz14, hF⟩ := ob_bind hF
        refine cl_v (csR := []) (csF := [wM g a z14]) (rest := []) hx hb hml hown hts hK hE hA hl hP hD hS (c_X5_keeps_g g l a z10.2 z14 hz14) [0] [] [0] ⟨rfl, rfl, rfl, rfl, rfl, rfl, rfl⟩ ⟨0, 9, _, _, rfl, rfl, rfl⟩ 1 (jb_giV mw_1400 mw_1402 ms_34 mw_10 mw_1403) ⟨rfl, rfl⟩ (by decide +kernel) ⟨⟨(Nat.le_of_ble_eq_true rfl), (Nat.le_of_ble_eq_true rfl)⟩, (Nat.le_of_ble_eq_true rfl), (Nat.le_of_ble_eq_true rfl)⟩ ⟨rfl, rfl⟩ (Nat.le_of_ble_eq_true rfl) dX5_setRate_50 (fun H locs hP hD hS => ?_)
        refine lv_aload_n hx hb dX5_setRate_53 rfl (lv_at hl 1 rfl) ?_
        refine va_get (D := g.1) (ci := 9) (v := .ref (a 1)) (C := RX5) (T := TX5) (N := 23) hx hb hts inX5 hown hK hP 0 rfl rfl 0 (by decide) (hts _ mw_1311) (fun _ h9 => h9) rfl dX5_setRate_54 ?_
        refine lv_iconst (v := 4) hx hb dX5_setRate_57 (by decide) ?_
        refine lv_iload_n hx hb dX5_setRate_58 rfl (lv_at hl 2 rfl) ?_
        have h15 := inb_in (ck_t hF)
        have hF := ck_s hF
        refine va_iast hx hb hK hP hD hS 1 0 rfl rfl h15 dX5_setRate_59 (fun H locs hP hD hS => ?_)
        have hP : va_P g.1 vwCl ([wMc g a (upd (M_g z14) (4 : Int32).toNatClampNeg p0) (M_kept z14) (M_saved z14) (M_before z14) (M_trial z14) (M_counted z14) (M_isSaved z14) (M_changes z14) (M_isWithin z14) (M_isDenied z14) (M_code z14) (M_why z14) (M_detail z14) (M_cause z14) (M_input z14) (M_length z14) (M_fault z14) (M_signs z14) (M_signMany z14) (M_lastOver z14) (M_at z14) (M_told z14) (M_toldMany z14)] : List va_W).flatten _ := hP
        have hD : va_D A ([wMc g a (upd (M_g z14) (4 : Int32).toNatClampNeg p0) (M_kept z14) (M_saved z14) (M_before z14) (M_trial z14) (M_counted z14) (M_isSaved z14) (M_changes z14) (M_isWithin z14) (M_isDenied z14) (M_code z14) (M_why z14) (M_detail z14) (M_cause z14) (M_input z14) (M_length z14) (M_fault z14) (M_signs z14) (M_signMany z14) (M_lastOver z14) (M_at z14) (M_told z14) (M_toldMany z14)] : List va_W).flatten := hD
        refine lv_iload_n hx hb dX5_setRate_60 rfl (lv_at hl 0 rfl) ?_
        cases hF
        rw [hQ]
        exact jb_iret hx hb hr hlocks hP hD hS dX5_setRate_61 rfl (Nat.le_of_ble_eq_true rfl) (Nat.le_of_ble_eq_true rfl)
      · have hF := ob_nneg c13 hF
        refine lv_aload_n hx hb dX5_setRate_36 rfl (lv_at hl 1 rfl) ?_
        refine lv_iconst (v := 2) hx hb dX5_setRate_37 (by decide) ?_
        refine lv_bipush (v := 7) hx hb dX5_setRate_38 (by decide) ?_
        refine lv_iload_n hx hb dX5_setRate_40 rfl (lv_at hl 2 rfl) ?_
        obtain ⟨z16, hz16, hF⟩ := ob_bind hF
        refine cl_i (csR := []) (csF := [wM g a z16.2]) (rest := []) hx hb hml hown hts hK hE hA hl hP hD hS (c_X5_denies g l a z10.2 2 7 p0 z16 hz16) [0] [] [0] ⟨rfl, rfl, rfl, rfl, rfl, rfl, rfl⟩ ⟨0, 9, _, _, rfl, rfl, rfl⟩ 3 (jb_giV mw_1396 mw_1398 ms_33 mw_10 mw_1399) ⟨rfl, rfl⟩ (by decide +kernel) ⟨⟨(Nat.le_of_ble_eq_true rfl), (Nat.le_of_ble_eq_true rfl)⟩, (Nat.le_of_ble_eq_true rfl), (Nat.le_of_ble_eq_true rfl)⟩ ⟨rfl, rfl⟩ (Nat.le_of_ble_eq_true rfl) dX5_setRate_41 (fun H locs hP hD hS => ?_)
        cases hF
        rw [hQ]
        exact jb_iret hx hb hr hlocks hP hD hS dX5_setRate_44 rfl (Nat.le_of_ble_eq_true rfl) (Nat.le_of_ble_eq_true rfl)
    · have hF := ob_neg c11 hF
      refine lv_iconst (v := 0) hx hb dX5_setRate_22 (by decide) ?_
      cases hF
      rw [hQ]
      exact jb_iret hx hb hr hlocks hP hD hS dX5_setRate_23 rfl (Nat.le_of_ble_eq_true rfl) (Nat.le_of_ble_eq_true rfl)
def F_X5_vehicleCount (mo : Mv) : Option (Int32 × Mv) := ck (inb 1 83) (some ((M_g mo) (1 : Int32).toNatClampNeg, (mkM (M_g mo) (M_kept mo) (M_saved mo) (M_before mo) (M_trial mo) (M_counted mo) (M_isSaved mo) (M_changes mo) (M_isWithin mo) (M_isDenied mo) 0 (M_why mo) (M_detail mo) (M_cause mo) (M_input mo) (M_length mo) (M_fault mo) (M_signs mo) (M_signMany mo) (M_lastOver mo) (M_at mo) (M_told mo) (M_toldMany mo))))
set_option maxHeartbeats 4000000 in
set_option maxRecDepth 100000 in
theorem c_X5_vehicleCount (g : GG) (l : Launch) (a : Nat → Nat) (mo : Mv) (z : Int32 × Mv) (hF : F_X5_vehicleCount mo = some z) : MI g l yX5_vehicleCount cX5_vehicleCount 1 (some .int) ({ frames := 0, cells := 0, slots := 0, locals := 0 } : Room) [.ref (a 0)] [wM g a mo] 0 0 z.1 [wM g a z.2] := by
  refine MI.bg (by decide) (Nat.le_of_ble_eq_true rfl) ?_
  intro p e s m below meth c A Q hQ hx hb hr hml hown hts hlocks hmn hK hE hA hP hD hS ls hl
  rw [F_X5_vehicleCount] at hF
  have hl : lv_has ls 1 [(0, .ref (a 0))] := hl
  refine lv_aload_n hx hb dX5_vehicleCount_0 rfl (lv_at hl 0 rfl) ?_
  refine lv_iconst (v := 0) hx hb dX5_vehicleCount_1 (by decide) ?_
  refine va_put (D := g.1) (ci := 9) (v := .int 0) (ty := .int) (C := RX5) (T := TX5) (N := 23) hx hb hts inX5 tyX5 tyX5_ok nmX5 hown hK hP hD hS 0 rfl rfl 10 (by decide) (hts _ mw_1321) (fun _ h9 => h9) rfl (by decide +kernel) rfl rfl (Nat.le_of_ble_eq_true rfl) dX5_vehicleCount_2 (fun H locs hP hD hS => ?_)
  have hP : va_P g.1 vwCl ([wMc g a (M_g mo) (M_kept mo) (M_saved mo) (M_before mo) (M_trial mo) (M_counted mo) (M_isSaved mo) (M_changes mo) (M_isWithin mo) (M_isDenied mo) 0 (M_why mo) (M_detail mo) (M_cause mo) (M_input mo) (M_length mo) (M_fault mo) (M_signs mo) (M_signMany mo) (M_lastOver mo) (M_at mo) (M_told mo) (M_toldMany mo)] : List va_W).flatten _ := hP
  have hD : va_D A ([wMc g a (M_g mo) (M_kept mo) (M_saved mo) (M_before mo) (M_trial mo) (M_counted mo) (M_isSaved mo) (M_changes mo) (M_isWithin mo) (M_isDenied mo) 0 (M_why mo) (M_detail mo) (M_cause mo) (M_input mo) (M_length mo) (M_fault mo) (M_signs mo) (M_signMany mo) (M_lastOver mo) (M_at mo) (M_told mo) (M_toldMany mo)] : List va_W).flatten := hD
  refine lv_aload_n hx hb dX5_vehicleCount_5 rfl (lv_at hl 0 rfl) ?_
  refine va_get (D := g.1) (ci := 9) (v := .ref (a 1)) (C := RX5) (T := TX5) (N := 23) hx hb hts inX5 hown hK hP 0 rfl rfl 0 (by decide) (hts _ mw_1311) (fun _ h9 => h9) rfl dX5_vehicleCount_6 ?_
  refine lv_iconst (v := 1) hx hb dX5_vehicleCount_9 (by decide) ?_
  have h1 := inb_in (ck_t hF)
  have hF := ck_s hF
  refine va_iald hx hb hK hP 1 0 rfl rfl h1 dX5_vehicleCount_10 ?_
  cases hF
  rw [hQ]
  exact jb_iret hx hb hr hlocks hP hD hS dX5_vehicleCount_11 rfl (Nat.le_of_ble_eq_true rfl) (Nat.le_of_ble_eq_true rfl)
def F_X5_vehicleAt (mo : Mv) (p0 : Int32) : Option (Int32 × Mv) := ck (inb 1 83) ((F_X5_in p0 0 (((M_g mo) (1 : Int32).toNatClampNeg) - 1)).bind (fun z1 => if (bi z1) = 0 then (F_X5_fails mo 1).bind (fun z2 => if (bi z2.1) = 0 then (F_X5_on z2.2 p0 0).bind (fun z3 => some (z3, z2.2)) else some (0, z2.2)) else (F_X5_fails mo 0).bind (fun z4 => if (bi z4.1) = 0 then (F_X5_on z4.2 p0 0).bind (fun z5 => some (z5, z4.2)) else some (0, z4.2))))
set_option maxHeartbeats 4000000 in
set_option maxRecDepth 100000 in
theorem c_X5_vehicleAt (g : GG) (l : Launch) (a : Nat → Nat) (mo : Mv) (p0 : Int32) (z : Int32 × Mv) (hF : F_X5_vehicleAt mo p0 = some z) : MI g l yX5_vehicleAt cX5_vehicleAt 2 (some .int) ({ frames := 1, cells := 0, slots := 0, locals := 22 } : Room) [.ref (a 0), .int p0] [wM g a mo] 0 0 z.1 [wM g a z.2] := by
  refine MI.bg (by decide) (Nat.le_of_ble_eq_true rfl) ?_
  intro p e s m below meth c A Q hQ hx hb hr hml hown hts hlocks hmn hK hE hA hP hD hS ls hl
  rw [F_X5_vehicleAt] at hF
  have hl : lv_has ls 2 [(0, .ref (a 0)), (1, .int p0)] := hl
  refine lv_aload_n hx hb dX5_vehicleAt_0 rfl (lv_at hl 0 rfl) ?_
  refine lv_iload_n hx hb dX5_vehicleAt_1 rfl (lv_at hl 1 rfl) ?_
  refine lv_iconst (v := 0) hx hb dX5_vehicleAt_2 (by decide) ?_
  refine lv_aload_n hx hb dX5_vehicleAt_3 rfl (lv_at hl 0 rfl) ?_
  refine va_get (D := g.1) (ci := 9) (v := .ref (a 1)) (C := RX5) (T := TX5) (N := 23) hx hb hts inX5 hown hK hP 0 rfl rfl 0 (by decide) (hts _ mw_1311) (fun _ h9 => h9) rfl dX5_vehicleAt_4 ?_
  refine lv_iconst (v := 1) hx hb dX5_vehicleAt_7 (by decide) ?_
  have h1 := inb_in (ck_t hF)
  have hF := ck_s hF
  refine va_iald hx hb hK hP 1 0 rfl rfl h1 dX5_vehicleAt_8 ?_
  refine lv_iconst (v := 1) hx hb dX5_vehicleAt_9 (by decide) ?_
  refine lv_isub hx hb dX5_vehicleAt_10 ?_
  obtain ⟨z2, hz2, hF⟩ := ob_bind hF
  refine cl_si (csR := [wM g a mo]) (csF := [wM g a mo]) (rest := [.ref (a 0)]) hx hb hml hown hts hK hE hA hl hP hD hS (c_X5_in g l  p0 0 (((M_g mo) (1 : Int32).toNatClampNeg) - 1) z2 hz2) [] [0] [0] ⟨rfl, rfl, rfl, rfl, rfl, rfl, rfl⟩ 3 (jb_giS mw_1389 mw_1390 mw_10 mw_1391) ⟨rfl, rfl⟩ (by decide +kernel) ⟨⟨(Nat.le_of_ble_eq_true rfl), (Nat.le_of_ble_eq_true rfl)⟩, (Nat.le_of_ble_eq_true rfl), (Nat.le_of_ble_eq_true rfl)⟩ ⟨rfl, rfl⟩ (Nat.le_of_ble_eq_true rfl) dX5_vehicleAt_11 (fun H locs hP hD hS => ?_)
  refine lv_if_eq (tgt := 21) hx hb dX5_vehicleAt_14 (by decide) (fun c3 => ?_) (fun c3 => ?_)
  · have hF := ob_pos c3 hF
    refine lv_iconst (v := 1) hx hb dX5_vehicleAt_21 (by decide) ?_
    obtain ⟨z4, hz4, hF⟩ := ob_bind hF
    refine cl_i (csR := []) (csF := [wM g a z4.2]) (rest := []) hx hb hml hown hts hK hE hA hl hP hD hS (c_X5_fails g l a mo 1 z4 hz4) [0] [] [0] ⟨rfl, rfl, rfl, rfl, rfl, rfl, rfl⟩ ⟨0, 9, _, _, rfl, rfl, rfl⟩ 1 (jb_giV mw_1392 mw_1394 ms_32 mw_10 mw_1395) ⟨rfl, rfl⟩ (by decide +kernel) ⟨⟨(Nat.le_of_ble_eq_true rfl), (Nat.le_of_ble_eq_true rfl)⟩, (Nat.le_of_ble_eq_true rfl), (Nat.le_of_ble_eq_true rfl)⟩ ⟨rfl, rfl⟩ (Nat.le_of_ble_eq_true rfl) dX5_vehicleAt_22 (fun H locs hP hD hS => ?_)
    refine lv_if_eq (tgt := 32) hx hb dX5_vehicleAt_25 (by decide) (fun c5 => ?_) (fun c5 => ?_)
    · have hF := ob_pos c5 hF
      refine lv_aload_n hx hb dX5_vehicleAt_32 rfl (lv_at hl 0 rfl) ?_
      refine lv_iload_n hx hb dX5_vehicleAt_33 rfl (lv_at hl 1 rfl) ?_
      refine lv_iconst (v := 0) hx hb dX5_vehicleAt_34 (by decide) ?_
      obtain ⟨z6, hz6, hF⟩ := ob_bind hF
      refine cl_i (csR := []) (csF := [wM g a z4.2]) (rest := []) hx hb hml hown hts hK hE hA hl hP hD hS (c_X5_on g l a z4.2 p0 0 z6 hz6) [0] [] [0] ⟨rfl, rfl, rfl, rfl, rfl, rfl, rfl⟩ ⟨0, 9, _, _, rfl, rfl, rfl⟩ 2 (jb_giV mw_1478 mw_1480 ms_42 mw_10 mw_1481) ⟨rfl, rfl⟩ (by decide +kernel) ⟨⟨(Nat.le_of_ble_eq_true rfl), (Nat.le_of_ble_eq_true rfl)⟩, (Nat.le_of_ble_eq_true rfl), (Nat.le_of_ble_eq_true rfl)⟩ ⟨rfl, rfl⟩ (Nat.le_of_ble_eq_true rfl) dX5_vehicleAt_35 (fun H locs hP hD hS => ?_)
      cases hF
      rw [hQ]
      exact jb_iret hx hb hr hlocks hP hD hS dX5_vehicleAt_38 rfl (Nat.le_of_ble_eq_true rfl) (Nat.le_of_ble_eq_true rfl)
    · have hF := ob_neg c5 hF
      refine lv_iconst (v := 0) hx hb dX5_vehicleAt_28 (by decide) ?_
      refine lv_goto (tgt := 38) hx hb dX5_vehicleAt_29 (by decide) ?_
      cases hF
      rw [hQ]
      exact jb_iret hx hb hr hlocks hP hD hS dX5_vehicleAt_38 rfl (Nat.le_of_ble_eq_true rfl) (Nat.le_of_ble_eq_true rfl)
  · have hF := ob_neg c3 hF
    refine lv_iconst (v := 0) hx hb dX5_vehicleAt_17 (by decide) ?_
    refine lv_goto (tgt := 22) hx hb dX5_vehicleAt_18 (by decide) ?_
    obtain ⟨z7, hz7, hF⟩ := ob_bind hF
    refine cl_i (csR := []) (csF := [wM g a z7.2]) (rest := []) hx hb hml hown hts hK hE hA hl hP hD hS (c_X5_fails g l a mo 0 z7 hz7) [0] [] [0] ⟨rfl, rfl, rfl, rfl, rfl, rfl, rfl⟩ ⟨0, 9, _, _, rfl, rfl, rfl⟩ 1 (jb_giV mw_1392 mw_1394 ms_32 mw_10 mw_1395) ⟨rfl, rfl⟩ (by decide +kernel) ⟨⟨(Nat.le_of_ble_eq_true rfl), (Nat.le_of_ble_eq_true rfl)⟩, (Nat.le_of_ble_eq_true rfl), (Nat.le_of_ble_eq_true rfl)⟩ ⟨rfl, rfl⟩ (Nat.le_of_ble_eq_true rfl) dX5_vehicleAt_22 (fun H locs hP hD hS => ?_)
    refine lv_if_eq (tgt := 32) hx hb dX5_vehicleAt_25 (by decide) (fun c8 => ?_) (fun c8 => ?_)
    · have hF := ob_pos c8 hF
      refine lv_aload_n hx hb dX5_vehicleAt_32 rfl (lv_at hl 0 rfl) ?_
      refine lv_iload_n hx hb dX5_vehicleAt_33 rfl (lv_at hl 1 rfl) ?_
      refine lv_iconst (v := 0) hx hb dX5_vehicleAt_34 (by decide) ?_
      obtain ⟨z9, hz9, hF⟩ := ob_bind hF
      refine cl_i (csR := []) (csF := [wM g a z7.2]) (rest := []) hx hb hml hown hts hK hE hA hl hP hD hS (c_X5_on g l a z7.2 p0 0 z9 hz9) [0] [] [0] ⟨rfl, rfl, rfl, rfl, rfl, rfl, rfl⟩ ⟨0, 9, _, _, rfl, rfl, rfl⟩ 2 (jb_giV mw_1478 mw_1480 ms_42 mw_10 mw_1481) ⟨rfl, rfl⟩ (by decide +kernel) ⟨⟨(Nat.le_of_ble_eq_true rfl), (Nat.le_of_ble_eq_true rfl)⟩, (Nat.le_of_ble_eq_true rfl), (Nat.le_of_ble_eq_true rfl)⟩ ⟨rfl, rfl⟩ (Nat.le_of_ble_eq_true rfl) dX5_vehicleAt_35 (fun H locs hP hD hS => ?_)
      cases hF
      rw [hQ]
      exact jb_iret hx hb hr hlocks hP hD hS dX5_vehicleAt_38 rfl (Nat.le_of_ble_eq_true rfl) (Nat.le_of_ble_eq_true rfl)
    · have hF := ob_neg c8 hF
      refine lv_iconst (v := 0) hx hb dX5_vehicleAt_28 (by decide) ?_
      refine lv_goto (tgt := 38) hx hb dX5_vehicleAt_29 (by decide) ?_
      cases hF
      rw [hQ]
      exact jb_iret hx hb hr hlocks hP hD hS dX5_vehicleAt_38 rfl (Nat.le_of_ble_eq_true rfl) (Nat.le_of_ble_eq_true rfl)
def F_X5_weightOf (mo : Mv) (p0 : Int32) : Option (Int32 × Mv) := (F_X5_isGone mo p0).bind (fun z1 => if (bi z1.1) = 0 then (F_X5_placeOf z1.2 p0).bind (fun z2 => (F_X5_on z1.2 z2 1).bind (fun z3 => some (z3, z1.2))) else some (0, z1.2))
set_option maxHeartbeats 4000000 in
set_option maxRecDepth 100000 in
theorem c_X5_weightOf (g : GG) (l : Launch) (a : Nat → Nat) (mo : Mv) (p0 : Int32) (z : Int32 × Mv) (hF : F_X5_weightOf mo p0 = some z) : MI g l yX5_weightOf cX5_weightOf 2 (some .int) ({ frames := 3, cells := 0, slots := 0, locals := 65 } : Room) [.ref (a 0), .int p0] [wM g a mo] 0 0 z.1 [wM g a z.2] := by
  refine MI.bg (by decide) (Nat.le_of_ble_eq_true rfl) ?_
  intro p e s m below meth c A Q hQ hx hb hr hml hown hts hlocks hmn hK hE hA hP hD hS ls hl
  rw [F_X5_weightOf] at hF
  have hl : lv_has ls 2 [(0, .ref (a 0)), (1, .int p0)] := hl
  refine lv_aload_n hx hb dX5_weightOf_0 rfl (lv_at hl 0 rfl) ?_
  refine lv_iload_n hx hb dX5_weightOf_1 rfl (lv_at hl 1 rfl) ?_
  obtain ⟨z1, hz1, hF⟩ := ob_bind hF
  refine cl_i (csR := []) (csF := [wM g a z1.2]) (rest := []) hx hb hml hown hts hK hE hA hl hP hD hS (c_X5_isGone g l a mo p0 z1 hz1) [0] [] [0] ⟨rfl, rfl, rfl, rfl, rfl, rfl, rfl⟩ ⟨0, 9, _, _, rfl, rfl, rfl⟩ 1 (jb_giV mw_1574 mw_1576 ms_56 mw_10 mw_1577) ⟨rfl, rfl⟩ (by decide +kernel) ⟨⟨(Nat.le_of_ble_eq_true rfl), (Nat.le_of_ble_eq_true rfl)⟩, (Nat.le_of_ble_eq_true rfl), (Nat.le_of_ble_eq_true rfl)⟩ ⟨rfl, rfl⟩ (Nat.le_of_ble_eq_true rfl) dX5_weightOf_2 (fun H locs hP hD hS => ?_)
  refine lv_if_eq (tgt := 12) hx hb dX5_weightOf_5 (by decide) (fun c2 => ?_) (fun c2 => ?_)
  · have hF := ob_pos c2 hF
    refine lv_aload_n hx hb dX5_weightOf_12 rfl (lv_at hl 0 rfl) ?_
    refine lv_aload_n hx hb dX5_weightOf_13 rfl (lv_at hl 0 rfl) ?_
    refine lv_iload_n hx hb dX5_weightOf_14 rfl (lv_at hl 1 rfl) ?_
    obtain ⟨z3, hz3, hF⟩ := ob_bind hF
    refine cl_i (csR := []) (csF := [wM g a z1.2]) (rest := [.ref (a 0)]) hx hb hml hown hts hK hE hA hl hP hD hS (c_X5_placeOf g l a z1.2 p0 z3 hz3) [0] [] [0] ⟨rfl, rfl, rfl, rfl, rfl, rfl, rfl⟩ ⟨0, 9, _, _, rfl, rfl, rfl⟩ 1 (jb_giV mw_1578 mw_1580 ms_57 mw_10 mw_1581) ⟨rfl, rfl⟩ (by decide +kernel) ⟨⟨(Nat.le_of_ble_eq_true rfl), (Nat.le_of_ble_eq_true rfl)⟩, (Nat.le_of_ble_eq_true rfl), (Nat.le_of_ble_eq_true rfl)⟩ ⟨rfl, rfl⟩ (Nat.le_of_ble_eq_true rfl) dX5_weightOf_15 (fun H locs hP hD hS => ?_)
    refine lv_iconst (v := 1) hx hb dX5_weightOf_18 (by decide) ?_
    obtain ⟨z4, hz4, hF⟩ := ob_bind hF
    refine cl_i (csR := []) (csF := [wM g a z1.2]) (rest := []) hx hb hml hown hts hK hE hA hl hP hD hS (c_X5_on g l a z1.2 z3 1 z4 hz4) [0] [] [0] ⟨rfl, rfl, rfl, rfl, rfl, rfl, rfl⟩ ⟨0, 9, _, _, rfl, rfl, rfl⟩ 2 (jb_giV mw_1478 mw_1480 ms_42 mw_10 mw_1481) ⟨rfl, rfl⟩ (by decide +kernel) ⟨⟨(Nat.le_of_ble_eq_true rfl), (Nat.le_of_ble_eq_true rfl)⟩, (Nat.le_of_ble_eq_true rfl), (Nat.le_of_ble_eq_true rfl)⟩ ⟨rfl, rfl⟩ (Nat.le_of_ble_eq_true rfl) dX5_weightOf_19 (fun H locs hP hD hS => ?_)
    cases hF
    rw [hQ]
    exact jb_iret hx hb hr hlocks hP hD hS dX5_weightOf_22 rfl (Nat.le_of_ble_eq_true rfl) (Nat.le_of_ble_eq_true rfl)
  · have hF := ob_neg c2 hF
    refine lv_iconst (v := 0) hx hb dX5_weightOf_8 (by decide) ?_
    refine lv_goto (tgt := 22) hx hb dX5_weightOf_9 (by decide) ?_
    cases hF
    rw [hQ]
    exact jb_iret hx hb hr hlocks hP hD hS dX5_weightOf_22 rfl (Nat.le_of_ble_eq_true rfl) (Nat.le_of_ble_eq_true rfl)
def F_X5_spanOf (mo : Mv) (p0 : Int32) : Option (Int32 × Mv) := (F_X5_isGone mo p0).bind (fun z1 => if (bi z1.1) = 0 then (F_X5_placeOf z1.2 p0).bind (fun z2 => (F_X5_on z1.2 z2 2).bind (fun z3 => some (z3, z1.2))) else some (0, z1.2))
set_option maxHeartbeats 4000000 in
set_option maxRecDepth 100000 in
theorem c_X5_spanOf (g : GG) (l : Launch) (a : Nat → Nat) (mo : Mv) (p0 : Int32) (z : Int32 × Mv) (hF : F_X5_spanOf mo p0 = some z) : MI g l yX5_spanOf cX5_spanOf 2 (some .int) ({ frames := 3, cells := 0, slots := 0, locals := 65 } : Room) [.ref (a 0), .int p0] [wM g a mo] 0 0 z.1 [wM g a z.2] := by
  refine MI.bg (by decide) (Nat.le_of_ble_eq_true rfl) ?_
  intro p e s m below meth c A Q hQ hx hb hr hml hown hts hlocks hmn hK hE hA hP hD hS ls hl
  rw [F_X5_spanOf] at hF
  have hl : lv_has ls 2 [(0, .ref (a 0)), (1, .int p0)] := hl
  refine lv_aload_n hx hb dX5_spanOf_0 rfl (lv_at hl 0 rfl) ?_
  refine lv_iload_n hx hb dX5_spanOf_1 rfl (lv_at hl 1 rfl) ?_
  obtain ⟨z1, hz1, hF⟩ := ob_bind hF
  refine cl_i (csR := []) (csF := [wM g a z1.2]) (rest := []) hx hb hml hown hts hK hE hA hl hP hD hS (c_X5_isGone g l a mo p0 z1 hz1) [0] [] [0] ⟨rfl, rfl, rfl, rfl, rfl, rfl, rfl⟩ ⟨0, 9, _, _, rfl, rfl, rfl⟩ 1 (jb_giV mw_1574 mw_1576 ms_56 mw_10 mw_1577) ⟨rfl, rfl⟩ (by decide +kernel) ⟨⟨(Nat.le_of_ble_eq_true rfl), (Nat.le_of_ble_eq_true rfl)⟩, (Nat.le_of_ble_eq_true rfl), (Nat.le_of_ble_eq_true rfl)⟩ ⟨rfl, rfl⟩ (Nat.le_of_ble_eq_true rfl) dX5_spanOf_2 (fun H locs hP hD hS => ?_)
  refine lv_if_eq (tgt := 12) hx hb dX5_spanOf_5 (by decide) (fun c2 => ?_) (fun c2 => ?_)
  · have hF := ob_pos c2 hF
    refine lv_aload_n hx hb dX5_spanOf_12 rfl (lv_at hl 0 rfl) ?_
    refine lv_aload_n hx hb dX5_spanOf_13 rfl (lv_at hl 0 rfl) ?_
    refine lv_iload_n hx hb dX5_spanOf_14 rfl (lv_at hl 1 rfl) ?_
    obtain ⟨z3, hz3, hF⟩ := ob_bind hF
    refine cl_i (csR := []) (csF := [wM g a z1.2]) (rest := [.ref (a 0)]) hx hb hml hown hts hK hE hA hl hP hD hS (c_X5_placeOf g l a z1.2 p0 z3 hz3) [0] [] [0] ⟨rfl, rfl, rfl, rfl, rfl, rfl, rfl⟩ ⟨0, 9, _, _, rfl, rfl, rfl⟩ 1 (jb_giV mw_1578 mw_1580 ms_57 mw_10 mw_1581) ⟨rfl, rfl⟩ (by decide +kernel) ⟨⟨(Nat.le_of_ble_eq_true rfl), (Nat.le_of_ble_eq_true rfl)⟩, (Nat.le_of_ble_eq_true rfl), (Nat.le_of_ble_eq_true rfl)⟩ ⟨rfl, rfl⟩ (Nat.le_of_ble_eq_true rfl) dX5_spanOf_15 (fun H locs hP hD hS => ?_)
    refine lv_iconst (v := 2) hx hb dX5_spanOf_18 (by decide) ?_
    obtain ⟨z4, hz4, hF⟩ := ob_bind hF
    refine cl_i (csR := []) (csF := [wM g a z1.2]) (rest := []) hx hb hml hown hts hK hE hA hl hP hD hS (c_X5_on g l a z1.2 z3 2 z4 hz4) [0] [] [0] ⟨rfl, rfl, rfl, rfl, rfl, rfl, rfl⟩ ⟨0, 9, _, _, rfl, rfl, rfl⟩ 2 (jb_giV mw_1478 mw_1480 ms_42 mw_10 mw_1481) ⟨rfl, rfl⟩ (by decide +kernel) ⟨⟨(Nat.le_of_ble_eq_true rfl), (Nat.le_of_ble_eq_true rfl)⟩, (Nat.le_of_ble_eq_true rfl), (Nat.le_of_ble_eq_true rfl)⟩ ⟨rfl, rfl⟩ (Nat.le_of_ble_eq_true rfl) dX5_spanOf_19 (fun H locs hP hD hS => ?_)
    cases hF
    rw [hQ]
    exact jb_iret hx hb hr hlocks hP hD hS dX5_spanOf_22 rfl (Nat.le_of_ble_eq_true rfl) (Nat.le_of_ble_eq_true rfl)
  · have hF := ob_neg c2 hF
    refine lv_iconst (v := 0) hx hb dX5_spanOf_8 (by decide) ?_
    refine lv_goto (tgt := 22) hx hb dX5_spanOf_9 (by decide) ?_
    cases hF
    rw [hQ]
    exact jb_iret hx hb hr hlocks hP hD hS dX5_spanOf_22 rfl (Nat.le_of_ble_eq_true rfl) (Nat.le_of_ble_eq_true rfl)
def F_X5_tollOf (mo : Mv) (p0 : Int32) : Option (Int32 × Mv) := (F_X5_isGone mo p0).bind (fun z1 => if (bi z1.1) = 0 then (F_X5_placeOf z1.2 p0).bind (fun z2 => (F_X5_on z1.2 z2 1).bind (fun z3 => (F_X5_toll z1.2 z3).bind (fun z4 => some (z4, z1.2)))) else some (0, z1.2))
set_option maxHeartbeats 4000000 in
set_option maxRecDepth 100000 in
theorem c_X5_tollOf (g : GG) (l : Launch) (a : Nat → Nat) (mo : Mv) (p0 : Int32) (z : Int32 × Mv) (hF : F_X5_tollOf mo p0 = some z) : MI g l yX5_tollOf cX5_tollOf 2 (some .int) ({ frames := 3, cells := 0, slots := 0, locals := 65 } : Room) [.ref (a 0), .int p0] [wM g a mo] 0 0 z.1 [wM g a z.2] := by
  refine MI.bg (by decide) (Nat.le_of_ble_eq_true rfl) ?_
  intro p e s m below meth c A Q hQ hx hb hr hml hown hts hlocks hmn hK hE hA hP hD hS ls hl
  rw [F_X5_tollOf] at hF
  have hl : lv_has ls 2 [(0, .ref (a 0)), (1, .int p0)] := hl
  refine lv_aload_n hx hb dX5_tollOf_0 rfl (lv_at hl 0 rfl) ?_
  refine lv_iload_n hx hb dX5_tollOf_1 rfl (lv_at hl 1 rfl) ?_
  obtain ⟨z1, hz1, hF⟩ := ob_bind hF
  refine cl_i (csR := []) (csF := [wM g a z1.2]) (rest := []) hx hb hml hown hts hK hE hA hl hP hD hS (c_X5_isGone g l a mo p0 z1 hz1) [0] [] [0] ⟨rfl, rfl, rfl, rfl, rfl, rfl, rfl⟩ ⟨0, 9, _, _, rfl, rfl, rfl⟩ 1 (jb_giV mw_1574 mw_1576 ms_56 mw_10 mw_1577) ⟨rfl, rfl⟩ (by decide +kernel) ⟨⟨(Nat.le_of_ble_eq_true rfl), (Nat.le_of_ble_eq_true rfl)⟩, (Nat.le_of_ble_eq_true rfl), (Nat.le_of_ble_eq_true rfl)⟩ ⟨rfl, rfl⟩ (Nat.le_of_ble_eq_true rfl) dX5_tollOf_2 (fun H locs hP hD hS => ?_)
  refine lv_if_eq (tgt := 12) hx hb dX5_tollOf_5 (by decide) (fun c2 => ?_) (fun c2 => ?_)
  · have hF := ob_pos c2 hF
    refine lv_aload_n hx hb dX5_tollOf_12 rfl (lv_at hl 0 rfl) ?_
    refine lv_aload_n hx hb dX5_tollOf_13 rfl (lv_at hl 0 rfl) ?_
    refine lv_aload_n hx hb dX5_tollOf_14 rfl (lv_at hl 0 rfl) ?_
    refine lv_iload_n hx hb dX5_tollOf_15 rfl (lv_at hl 1 rfl) ?_
    obtain ⟨z3, hz3, hF⟩ := ob_bind hF
    refine cl_i (csR := []) (csF := [wM g a z1.2]) (rest := [.ref (a 0), .ref (a 0)]) hx hb hml hown hts hK hE hA hl hP hD hS (c_X5_placeOf g l a z1.2 p0 z3 hz3) [0] [] [0] ⟨rfl, rfl, rfl, rfl, rfl, rfl, rfl⟩ ⟨0, 9, _, _, rfl, rfl, rfl⟩ 1 (jb_giV mw_1578 mw_1580 ms_57 mw_10 mw_1581) ⟨rfl, rfl⟩ (by decide +kernel) ⟨⟨(Nat.le_of_ble_eq_true rfl), (Nat.le_of_ble_eq_true rfl)⟩, (Nat.le_of_ble_eq_true rfl), (Nat.le_of_ble_eq_true rfl)⟩ ⟨rfl, rfl⟩ (Nat.le_of_ble_eq_true rfl) dX5_tollOf_16 (fun H locs hP hD hS => ?_)
    refine lv_iconst (v := 1) hx hb dX5_tollOf_19 (by decide) ?_
    obtain ⟨z4, hz4, hF⟩ := ob_bind hF
    refine cl_i (csR := []) (csF := [wM g a z1.2]) (rest := [.ref (a 0)]) hx hb hml hown hts hK hE hA hl hP hD hS (c_X5_on g l a z1.2 z3 1 z4 hz4) [0] [] [0] ⟨rfl, rfl, rfl, rfl, rfl, rfl, rfl⟩ ⟨0, 9, _, _, rfl, rfl, rfl⟩ 2 (jb_giV mw_1478 mw_1480 ms_42 mw_10 mw_1481) ⟨rfl, rfl⟩ (by decide +kernel) ⟨⟨(Nat.le_of_ble_eq_true rfl), (Nat.le_of_ble_eq_true rfl)⟩, (Nat.le_of_ble_eq_true rfl), (Nat.le_of_ble_eq_true rfl)⟩ ⟨rfl, rfl⟩ (Nat.le_of_ble_eq_true rfl) dX5_tollOf_20 (fun H locs hP hD hS => ?_)
    obtain ⟨z5, hz5, hF⟩ := ob_bind hF
    refine cl_i (csR := []) (csF := [wM g a z1.2]) (rest := []) hx hb hml hown hts hK hE hA hl hP hD hS (c_X5_toll g l a z1.2 z4 z5 hz5) [0] [] [0] ⟨rfl, rfl, rfl, rfl, rfl, rfl, rfl⟩ ⟨0, 9, _, _, rfl, rfl, rfl⟩ 1 (jb_giV mw_1530 mw_1532 ms_49 mw_10 mw_1533) ⟨rfl, rfl⟩ (by decide +kernel) ⟨⟨(Nat.le_of_ble_eq_true rfl), (Nat.le_of_ble_eq_true rfl)⟩, (Nat.le_of_ble_eq_true rfl), (Nat.le_of_ble_eq_true rfl)⟩ ⟨rfl, rfl⟩ (Nat.le_of_ble_eq_true rfl) dX5_tollOf_23 (fun H locs hP hD hS => ?_)
    cases hF
    rw [hQ]
    exact jb_iret hx hb hr hlocks hP hD hS dX5_tollOf_26 rfl (Nat.le_of_ble_eq_true rfl) (Nat.le_of_ble_eq_true rfl)
  · have hF := ob_neg c2 hF
    refine lv_iconst (v := 0) hx hb dX5_tollOf_8 (by decide) ?_
    refine lv_goto (tgt := 26) hx hb dX5_tollOf_9 (by decide) ?_
    cases hF
    rw [hQ]
    exact jb_iret hx hb hr hlocks hP hD hS dX5_tollOf_26 rfl (Nat.le_of_ble_eq_true rfl) (Nat.le_of_ble_eq_true rfl)
def F_X5_hoursOver_L20 (y1 : Int32) (k : Mv → Int32 → Option (Int32 × Mv)) : Nat → Mv → Int32 → Option (Int32 × Mv)
  | 0, _, _ => none
  | n + 1, b0, x2 => if 48 ≤ x2 then k b0 x2 else (F_X5_placeOf b0 y1).bind (fun z2 => if z2 < 0 then k b0 x2 else (F_X5_goes b0).bind (fun z3 => F_X5_hoursOver_L20 y1 k n z3.2 (x2 + 1)))
def F_X5_hoursOver (mo : Mv) (p0 : Int32) : Option (Int32 × Mv) := (F_X5_copies 83 83 (M_g mo) (M_trial mo) 0 0).bind (fun z1 => F_X5_hoursOver_L20 p0 (fun b4 x5 => (F_X5_placeOf b4 p0).bind (fun z6 => if 0 ≤ z6 then (F_X5_copies 83 83 (M_trial b4) (M_g b4) 0 0).bind (fun z7 => if (0 : Int32) = 0 then some ((-1), (mkM z7 (M_kept b4) (M_saved b4) (M_before b4) (M_trial b4) (M_counted b4) (M_isSaved b4) (M_changes b4) (M_isWithin b4) (M_isDenied b4) (M_code b4) (M_why b4) (M_detail b4) (M_cause b4) (M_input b4) (M_length b4) (M_fault b4) (M_signs b4) (M_signMany b4) (M_lastOver b4) (M_at b4) (M_told b4) (M_toldMany b4))) else some (x5, (mkM z7 (M_kept b4) (M_saved b4) (M_before b4) (M_trial b4) (M_counted b4) (M_isSaved b4) (M_changes b4) (M_isWithin b4) (M_isDenied b4) (M_code b4) (M_why b4) (M_detail b4) (M_cause b4) (M_input b4) (M_length b4) (M_fault b4) (M_signs b4) (M_signMany b4) (M_lastOver b4) (M_at b4) (M_told b4) (M_toldMany b4)))) else if (M_lastOver b4) < p0 then (F_X5_copies 83 83 (M_trial b4) (M_g b4) 0 0).bind (fun z8 => if (0 : Int32) = 0 then some ((-1), (mkM z8 (M_kept b4) (M_saved b4) (M_before b4) (M_trial b4) (M_counted b4) (M_isSaved b4) (M_changes b4) (M_isWithin b4) (M_isDenied b4) (M_code b4) (M_why b4) (M_detail b4) (M_cause b4) (M_input b4) (M_length b4) (M_fault b4) (M_signs b4) (M_signMany b4) (M_lastOver b4) (M_at b4) (M_told b4) (M_toldMany b4))) else some (x5, (mkM z8 (M_kept b4) (M_saved b4) (M_before b4) (M_trial b4) (M_counted b4) (M_isSaved b4) (M_changes b4) (M_isWithin b4) (M_isDenied b4) (M_code b4) (M_why b4) (M_detail b4) (M_cause b4) (M_input b4) (M_length b4) (M_fault b4) (M_signs b4) (M_signMany b4) (M_lastOver b4) (M_at b4) (M_told b4) (M_toldMany b4)))) else (F_X5_copies 83 83 (M_trial b4) (M_g b4) 0 0).bind (fun z9 => if (1 : Int32) = 0 then some ((-1), (mkM z9 (M_kept b4) (M_saved b4) (M_before b4) (M_trial b4) (M_counted b4) (M_isSaved b4) (M_changes b4) (M_isWithin b4) (M_isDenied b4) (M_code b4) (M_why b4) (M_detail b4) (M_cause b4) (M_input b4) (M_length b4) (M_fault b4) (M_signs b4) (M_signMany b4) (M_lastOver b4) (M_at b4) (M_told b4) (M_toldMany b4))) else some (x5, (mkM z9 (M_kept b4) (M_saved b4) (M_before b4) (M_trial b4) (M_counted b4) (M_isSaved b4) (M_changes b4) (M_isWithin b4) (M_isDenied b4) (M_code b4) (M_why b4) (M_detail b4) (M_cause b4) (M_input b4) (M_length b4) (M_fault b4) (M_signs b4) (M_signMany b4) (M_lastOver b4) (M_at b4) (M_told b4) (M_toldMany b4)))))) 1000 (mkM (M_g mo) (M_kept mo) (M_saved mo) (M_before mo) z1 (M_counted mo) (M_isSaved mo) (M_changes mo) (M_isWithin mo) (M_isDenied mo) (M_code mo) (M_why mo) (M_detail mo) (M_cause mo) (M_input mo) (M_length mo) (M_fault mo) (M_signs mo) (M_signMany mo) (-1) (M_at mo) (M_told mo) (M_toldMany mo)) 0)
set_option maxHeartbeats 4000000 in
set_option maxRecDepth 100000 in
theorem c_X5_hoursOver (g : GG) (l : Launch) (a : Nat → Nat) (mo : Mv) (p0 : Int32) (z : Int32 × Mv) (hF : F_X5_hoursOver mo p0 = some z) : MI g l yX5_hoursOver cX5_hoursOver 4 (some .int) ({ frames := 6, cells := 0, slots := 0, locals := 130 } : Room) [.ref (a 0), .int p0] [wM g a mo] 0 0 z.1 [wM g a z.2] := by
  refine MI.bg (by decide) (Nat.le_of_ble_eq_true rfl) ?_
  intro p e s m below meth c A Q hQ hx hb hr hml hown hts hlocks hmn hK hE hA hP hD hS ls hl
  rw [F_X5_hoursOver] at hF
  have hl : lv_has ls 4 [(0, .ref (a 0)), (1, .int p0)] := hl
  refine lv_aload_n hx hb dX5_hoursOver_0 rfl (lv_at hl 0 rfl) ?_
  refine va_get (D := g.1) (ci := 9) (v := .ref (a 1)) (C := RX5) (T := TX5) (N := 23) hx hb hts inX5 hown hK hP 0 rfl rfl 0 (by decide) (hts _ mw_1311) (fun _ h9 => h9) rfl dX5_hoursOver_1 ?_
  refine lv_iconst (v := 0) hx hb dX5_hoursOver_4 (by decide) ?_
  refine lv_aload_n hx hb dX5_hoursOver_5 rfl (lv_at hl 0 rfl) ?_
  refine va_get (D := g.1) (ci := 9) (v := .ref (a 5)) (C := RX5) (T := TX5) (N := 23) hx hb hts inX5 hown hK hP 0 rfl rfl 4 (by decide) (hts _ mw_1315) (fun _ h9 => h9) rfl dX5_hoursOver_6 ?_
  refine lv_iconst (v := 0) hx hb dX5_hoursOver_9 (by decide) ?_
  obtain ⟨z1, hz1, hF⟩ := ob_bind hF
  have hP : va_P g.1 vwCl ([[(a 0, .inr (9, [.ref (a 1), .ref (a 2), .ref (a 3), .ref (a 4), .ref (a 5), .ref (a 6), .int (M_isSaved mo), .int (M_changes mo), .int (M_isWithin mo), .int (M_isDenied mo), .int (M_code mo), .int (M_why mo), .int (M_detail mo), .int (M_cause mo), .ref (a 7), .int (M_length mo), .int (M_fault mo), .ref (a 8), .int (M_signMany mo), .int (M_lastOver mo), .int (M_at mo), .ref (a 9), .int (M_toldMany mo)]))], [(a 1, .inl (g.2.1 0, 83, .inl (M_g mo)))], [(a 2, .inl (g.2.1 0, 664, .inl (M_kept mo)))], [(a 3, .inl (g.2.1 0, 83, .inl (M_saved mo)))], [(a 4, .inl (g.2.1 0, 83, .inl (M_before mo)))], [(a 5, .inl (g.2.1 0, 83, .inl (M_trial mo)))], [(a 6, .inl (g.2.1 0, 10, .inl (M_counted mo)))], [(a 7, .inl (g.2.1 0, 60, .inl (M_input mo)))], [(a 8, .inl (g.2.1 1, 200, .inl (M_signs mo)))], [(a 9, .inl (g.2.1 0, 93, .inl (M_told mo)))]] : List va_W).flatten _ := hP
  have hD : va_D A ([[(a 0, .inr (9, [.ref (a 1), .ref (a 2), .ref (a 3), .ref (a 4), .ref (a 5), .ref (a 6), .int (M_isSaved mo), .int (M_changes mo), .int (M_isWithin mo), .int (M_isDenied mo), .int (M_code mo), .int (M_why mo), .int (M_detail mo), .int (M_cause mo), .ref (a 7), .int (M_length mo), .int (M_fault mo), .ref (a 8), .int (M_signMany mo), .int (M_lastOver mo), .int (M_at mo), .ref (a 9), .int (M_toldMany mo)]))], [(a 1, .inl (g.2.1 0, 83, .inl (M_g mo)))], [(a 2, .inl (g.2.1 0, 664, .inl (M_kept mo)))], [(a 3, .inl (g.2.1 0, 83, .inl (M_saved mo)))], [(a 4, .inl (g.2.1 0, 83, .inl (M_before mo)))], [(a 5, .inl (g.2.1 0, 83, .inl (M_trial mo)))], [(a 6, .inl (g.2.1 0, 10, .inl (M_counted mo)))], [(a 7, .inl (g.2.1 0, 60, .inl (M_input mo)))], [(a 8, .inl (g.2.1 1, 200, .inl (M_signs mo)))], [(a 9, .inl (g.2.1 0, 93, .inl (M_told mo)))]] : List va_W).flatten := hD
  refine cl_sv (csR := [[(a 0, .inr (9, [.ref (a 1), .ref (a 2), .ref (a 3), .ref (a 4), .ref (a 5), .ref (a 6), .int (M_isSaved mo), .int (M_changes mo), .int (M_isWithin mo), .int (M_isDenied mo), .int (M_code mo), .int (M_why mo), .int (M_detail mo), .int (M_cause mo), .ref (a 7), .int (M_length mo), .int (M_fault mo), .ref (a 8), .int (M_signMany mo), .int (M_lastOver mo), .int (M_at mo), .ref (a 9), .int (M_toldMany mo)]))], [(a 2, .inl (g.2.1 0, 664, .inl (M_kept mo)))], [(a 3, .inl (g.2.1 0, 83, .inl (M_saved mo)))], [(a 4, .inl (g.2.1 0, 83, .inl (M_before mo)))], [(a 6, .inl (g.2.1 0, 10, .inl (M_counted mo)))], [(a 7, .inl (g.2.1 0, 60, .inl (M_input mo)))], [(a 8, .inl (g.2.1 1, 200, .inl (M_signs mo)))], [(a 9, .inl (g.2.1 0, 93, .inl (M_told mo)))]]) (csF := [[(a 0, .inr (9, [.ref (a 1), .ref (a 2), .ref (a 3), .ref (a 4), .ref (a 5), .ref (a 6), .int (M_isSaved mo), .int (M_changes mo), .int (M_isWithin mo), .int (M_isDenied mo), .int (M_code mo), .int (M_why mo), .int (M_detail mo), .int (M_cause mo), .ref (a 7), .int (M_length mo), .int (M_fault mo), .ref (a 8), .int (M_signMany mo), .int (M_lastOver mo), .int (M_at mo), .ref (a 9), .int (M_toldMany mo)]))], [(a 1, .inl (g.2.1 0, 83, .inl (M_g mo)))], [(a 2, .inl (g.2.1 0, 664, .inl (M_kept mo)))], [(a 3, .inl (g.2.1 0, 83, .inl (M_saved mo)))], [(a 4, .inl (g.2.1 0, 83, .inl (M_before mo)))], [(a 5, .inl (g.2.1 0, 83, .inl z1))], [(a 6, .inl (g.2.1 0, 10, .inl (M_counted mo)))], [(a 7, .inl (g.2.1 0, 60, .inl (M_input mo)))], [(a 8, .inl (g.2.1 1, 200, .inl (M_signs mo)))], [(a 9, .inl (g.2.1 0, 93, .inl (M_told mo)))]]) (rest := []) hx hb hml hown hts hK hE hA hl hP hD hS (c_X5_copies g l (fun _ => a 1) 83 (fun _ => a 5) 83 (M_g mo) (M_trial mo) 0 0 z1 hz1) [1, 5] [0, 2, 3, 4, 6, 7, 8, 9] [0, 8, 1, 2, 3, 9, 4, 5, 6, 7] ⟨rfl, rfl, rfl, rfl, rfl, rfl, rfl⟩ 4 (jb_giS mw_1404 mw_1405 mw_10 mw_1406) ⟨rfl, rfl⟩ (by decide +kernel) ⟨⟨(Nat.le_of_ble_eq_true rfl), (Nat.le_of_ble_eq_true rfl)⟩, (Nat.le_of_ble_eq_true rfl), (Nat.le_of_ble_eq_true rfl)⟩ ⟨rfl, rfl⟩ (Nat.le_of_ble_eq_true rfl) dX5_hoursOver_10 (fun H locs hP hD hS => ?_)
  have hP : va_P g.1 vwCl ([wMc g a (M_g mo) (M_kept mo) (M_saved mo) (M_before mo) z1 (M_counted mo) (M_isSaved mo) (M_changes mo) (M_isWithin mo) (M_isDenied mo) (M_code mo) (M_why mo) (M_detail mo) (M_cause mo) (M_input mo) (M_length mo) (M_fault mo) (M_signs mo) (M_signMany mo) (M_lastOver mo) (M_at mo) (M_told mo) (M_toldMany mo)] : List va_W).flatten _ := hP
  have hD : va_D A ([wMc g a (M_g mo) (M_kept mo) (M_saved mo) (M_before mo) z1 (M_counted mo) (M_isSaved mo) (M_changes mo) (M_isWithin mo) (M_isDenied mo) (M_code mo) (M_why mo) (M_detail mo) (M_cause mo) (M_input mo) (M_length mo) (M_fault mo) (M_signs mo) (M_signMany mo) (M_lastOver mo) (M_at mo) (M_told mo) (M_toldMany mo)] : List va_W).flatten := hD
  refine lv_iconst (v := 0) hx hb dX5_hoursOver_13 (by decide) ?_
  refine lv_istore_n (lv' := [(2, .int 0), (0, .ref (a 0)), (1, .int p0)]) hx hb dX5_hoursOver_14 rfl hl (by decide) rfl (fun ls hl => ?_)
  refine lv_aload_n hx hb dX5_hoursOver_15 rfl (lv_at hl 1 rfl) ?_
  refine lv_iconst (v := (-1)) hx hb dX5_hoursOver_16 (by decide) ?_
  refine va_put (D := g.1) (ci := 9) (v := .int (-1)) (ty := .int) (C := RX5) (T := TX5) (N := 23) hx hb hts inX5 tyX5 tyX5_ok nmX5 hown hK hP hD hS 0 rfl rfl 19 (by decide) (hts _ mw_1330) (fun _ h9 => h9) rfl (by decide +kernel) rfl rfl (Nat.le_of_ble_eq_true rfl) dX5_hoursOver_17 (fun H locs hP hD hS => ?_)
  have hP : va_P g.1 vwCl ([wMc g a (M_g mo) (M_kept mo) (M_saved mo) (M_before mo) z1 (M_counted mo) (M_isSaved mo) (M_changes mo) (M_isWithin mo) (M_isDenied mo) (M_code mo) (M_why mo) (M_detail mo) (M_cause mo) (M_input mo) (M_length mo) (M_fault mo) (M_signs mo) (M_signMany mo) (-1) (M_at mo) (M_told mo) (M_toldMany mo)] : List va_W).flatten _ := hP
  have hD : va_D A ([wMc g a (M_g mo) (M_kept mo) (M_saved mo) (M_before mo) z1 (M_counted mo) (M_isSaved mo) (M_changes mo) (M_isWithin mo) (M_isDenied mo) (M_code mo) (M_why mo) (M_detail mo) (M_cause mo) (M_input mo) (M_length mo) (M_fault mo) (M_signs mo) (M_signMany mo) (-1) (M_at mo) (M_told mo) (M_toldMany mo)] : List va_W).flatten := hD
  obtain ⟨k3, ek3, hF⟩ := ob_k (F := fun k9 => F_X5_hoursOver_L20 p0 k9 1000 (mkM (M_g mo) (M_kept mo) (M_saved mo) (M_before mo) z1 (M_counted mo) (M_isSaved mo) (M_changes mo) (M_isWithin mo) (M_isDenied mo) (M_code mo) (M_why mo) (M_detail mo) (M_cause mo) (M_input mo) (M_length mo) (M_fault mo) (M_signs mo) (M_signMany mo) (-1) (M_at mo) (M_told mo) (M_toldMany mo)) 0) hF
  have loop3 : ∀ (n9 : Nat) (b2 : Mv) (x3 : Int32), F_X5_hoursOver_L20 p0 k3 n9 b2 x3 = some z → ∀ (H : Heap) (locs : List Loc), va_P g.1 vwCl ([wM g a b2] : List va_W).flatten H → va_D A ([wM g a b2] : List va_W).flatten → va_S A s.heap H locs → ∀ ls : Array Slot, lv_has ls 4 [(0, .ref (a 0)), (1, .int p0), (2, .int x3)] → W p l e ({ frames := 6, cells := 0, slots := 0, locals := 130 } : Room) s m ([.ref (a 0), .int p0] : List Value).toArray below meth c H locs 0 0 Q (F0 m 20 ls []) := by
    intro n9
    induction n9 with
    | zero => intro b2 x3 hF; rw [F_X5_hoursOver_L20] at hF; cases hF
    | succ n9 ih3 =>
      intro b2 x3 hF H locs hP hD hS ls hl
      rw [F_X5_hoursOver_L20] at hF
      refine lv_iload_n hx hb dX5_hoursOver_20 rfl (lv_at hl 2 rfl) ?_
      refine lv_bipush (v := 48) hx hb dX5_hoursOver_21 (by decide) ?_
      refine lv_icmp_ge (tgt := 45) hx hb dX5_hoursOver_23 (by decide) (fun c4 => ?_) (fun c4 => ?_)
      · have hF := ob_pos c4 hF
        rw [ek3] at hF
        refine lv_aload_n hx hb dX5_hoursOver_45 rfl (lv_at hl 0 rfl) ?_
        refine lv_iload_n hx hb dX5_hoursOver_46 rfl (lv_at hl 1 rfl) ?_
        obtain ⟨z5, hz5, hF⟩ := ob_bind hF
        refine cl_i (csR := []) (csF := [wM g a b2]) (rest := []) hx hb hml hown hts hK hE hA hl hP hD hS (c_X5_placeOf g l a b2 p0 z5 hz5) [0] [] [0] ⟨rfl, rfl, rfl, rfl, rfl, rfl, rfl⟩ ⟨0, 9, _, _, rfl, rfl, rfl⟩ 1 (jb_giV mw_1578 mw_1580 ms_57 mw_10 mw_1581) ⟨rfl, rfl⟩ (by decide +kernel) ⟨⟨(Nat.le_of_ble_eq_true rfl), (Nat.le_of_ble_eq_true rfl)⟩, (Nat.le_of_ble_eq_true rfl), (Nat.le_of_ble_eq_true rfl)⟩ ⟨rfl, rfl⟩ (Nat.le_of_ble_eq_true rfl) dX5_hoursOver_47 (fun H locs hP hD hS => ?_)
        refine lv_if_ge (tgt := 65) hx hb dX5_hoursOver_50 (by decide) (fun c6 => ?_) (fun c6 => ?_)
        · have hF := ob_pos c6 hF
          refine lv_iconst (v := 0) hx hb dX5_hoursOver_65 (by decide) ?_
          refine lv_istore_n (lv' := [(3, .int 0), (0, .ref (a 0)), (1, .int p0), (2, .int x3)]) hx hb dX5_hoursOver_66 rfl hl (by decide) rfl (fun ls hl => ?_)
          refine lv_aload_n hx hb dX5_hoursOver_67 rfl (lv_at hl 1 rfl) ?_
          refine va_get (D := g.1) (ci := 9) (v := .ref (a 5)) (C := RX5) (T := TX5) (N := 23) hx hb hts inX5 hown hK hP 0 rfl rfl 4 (by decide) (hts _ mw_1315) (fun _ h9 => h9) rfl dX5_hoursOver_68 ?_
          refine lv_iconst (v := 0) hx hb dX5_hoursOver_71 (by decide) ?_
          refine lv_aload_n hx hb dX5_hoursOver_72 rfl (lv_at hl 1 rfl) ?_
          refine va_get (D := g.1) (ci := 9) (v := .ref (a 1)) (C := RX5) (T := TX5) (N := 23) hx hb hts inX5 hown hK hP 0 rfl rfl 0 (by decide) (hts _ mw_1311) (fun _ h9 => h9) rfl dX5_hoursOver_73 ?_
          refine lv_iconst (v := 0) hx hb dX5_hoursOver_76 (by decide) ?_
          obtain ⟨z7, hz7, hF⟩ := ob_bind hF
          have hP : va_P g.1 vwCl ([[(a 0, .inr (9, [.ref (a 1), .ref (a 2), .ref (a 3), .ref (a 4), .ref (a 5), .ref (a 6), .int (M_isSaved b2), .int (M_changes b2), .int (M_isWithin b2), .int (M_isDenied b2), .int (M_code b2), .int (M_why b2), .int (M_detail b2), .int (M_cause b2), .ref (a 7), .int (M_length b2), .int (M_fault b2), .ref (a 8), .int (M_signMany b2), .int (M_lastOver b2), .int (M_at b2), .ref (a 9), .int (M_toldMany b2)]))], [(a 1, .inl (g.2.1 0, 83, .inl (M_g b2)))], [(a 2, .inl (g.2.1 0, 664, .inl (M_kept b2)))], [(a 3, .inl (g.2.1 0, 83, .inl (M_saved b2)))], [(a 4, .inl (g.2.1 0, 83, .inl (M_before b2)))], [(a 5, .inl (g.2.1 0, 83, .inl (M_trial b2)))], [(a 6, .inl (g.2.1 0, 10, .inl (M_counted b2)))], [(a 7, .inl (g.2.1 0, 60, .inl (M_input b2)))], [(a 8, .inl (g.2.1 1, 200, .inl (M_signs b2)))], [(a 9, .inl (g.2.1 0, 93, .inl (M_told b2)))]] : List va_W).flatten _ := hP
          have hD : va_D A ([[(a 0, .inr (9, [.ref (a 1), .ref (a 2), .ref (a 3), .ref (a 4), .ref (a 5), .ref (a 6), .int (M_isSaved b2), .int (M_changes b2), .int (M_isWithin b2), .int (M_isDenied b2), .int (M_code b2), .int (M_why b2), .int (M_detail b2), .int (M_cause b2), .ref (a 7), .int (M_length b2), .int (M_fault b2), .ref (a 8), .int (M_signMany b2), .int (M_lastOver b2), .int (M_at b2), .ref (a 9), .int (M_toldMany b2)]))], [(a 1, .inl (g.2.1 0, 83, .inl (M_g b2)))], [(a 2, .inl (g.2.1 0, 664, .inl (M_kept b2)))], [(a 3, .inl (g.2.1 0, 83, .inl (M_saved b2)))], [(a 4, .inl (g.2.1 0, 83, .inl (M_before b2)))], [(a 5, .inl (g.2.1 0, 83, .inl (M_trial b2)))], [(a 6, .inl (g.2.1 0, 10, .inl (M_counted b2)))], [(a 7, .inl (g.2.1 0, 60, .inl (M_input b2)))], [(a 8, .inl (g.2.1 1, 200, .inl (M_signs b2)))], [(a 9, .inl (g.2.1 0, 93, .inl (M_told b2)))]] : List va_W).flatten := hD
          refine cl_sv (csR := [[(a 0, .inr (9, [.ref (a 1), .ref (a 2), .ref (a 3), .ref (a 4), .ref (a 5), .ref (a 6), .int (M_isSaved b2), .int (M_changes b2), .int (M_isWithin b2), .int (M_isDenied b2), .int (M_code b2), .int (M_why b2), .int (M_detail b2), .int (M_cause b2), .ref (a 7), .int (M_length b2), .int (M_fault b2), .ref (a 8), .int (M_signMany b2), .int (M_lastOver b2), .int (M_at b2), .ref (a 9), .int (M_toldMany b2)]))], [(a 2, .inl (g.2.1 0, 664, .inl (M_kept b2)))], [(a 3, .inl (g.2.1 0, 83, .inl (M_saved b2)))], [(a 4, .inl (g.2.1 0, 83, .inl (M_before b2)))], [(a 6, .inl (g.2.1 0, 10, .inl (M_counted b2)))], [(a 7, .inl (g.2.1 0, 60, .inl (M_input b2)))], [(a 8, .inl (g.2.1 1, 200, .inl (M_signs b2)))], [(a 9, .inl (g.2.1 0, 93, .inl (M_told b2)))]]) (csF := [[(a 0, .inr (9, [.ref (a 1), .ref (a 2), .ref (a 3), .ref (a 4), .ref (a 5), .ref (a 6), .int (M_isSaved b2), .int (M_changes b2), .int (M_isWithin b2), .int (M_isDenied b2), .int (M_code b2), .int (M_why b2), .int (M_detail b2), .int (M_cause b2), .ref (a 7), .int (M_length b2), .int (M_fault b2), .ref (a 8), .int (M_signMany b2), .int (M_lastOver b2), .int (M_at b2), .ref (a 9), .int (M_toldMany b2)]))], [(a 1, .inl (g.2.1 0, 83, .inl z7))], [(a 2, .inl (g.2.1 0, 664, .inl (M_kept b2)))], [(a 3, .inl (g.2.1 0, 83, .inl (M_saved b2)))], [(a 4, .inl (g.2.1 0, 83, .inl (M_before b2)))], [(a 5, .inl (g.2.1 0, 83, .inl (M_trial b2)))], [(a 6, .inl (g.2.1 0, 10, .inl (M_counted b2)))], [(a 7, .inl (g.2.1 0, 60, .inl (M_input b2)))], [(a 8, .inl (g.2.1 1, 200, .inl (M_signs b2)))], [(a 9, .inl (g.2.1 0, 93, .inl (M_told b2)))]]) (rest := []) hx hb hml hown hts hK hE hA hl hP hD hS (c_X5_copies g l (fun _ => a 5) 83 (fun _ => a 1) 83 (M_trial b2) (M_g b2) 0 0 z7 hz7) [5, 1] [0, 2, 3, 4, 6, 7, 8, 9] [0, 9, 1, 2, 3, 8, 4, 5, 6, 7] ⟨rfl, rfl, rfl, rfl, rfl, rfl, rfl⟩ 4 (jb_giS mw_1404 mw_1405 mw_10 mw_1406) ⟨rfl, rfl⟩ (by decide +kernel) ⟨⟨(Nat.le_of_ble_eq_true rfl), (Nat.le_of_ble_eq_true rfl)⟩, (Nat.le_of_ble_eq_true rfl), (Nat.le_of_ble_eq_true rfl)⟩ ⟨rfl, rfl⟩ (Nat.le_of_ble_eq_true rfl) dX5_hoursOver_77 (fun H locs hP hD hS => ?_)
          have hP : va_P g.1 vwCl ([wMc g a z7 (M_kept b2) (M_saved b2) (M_before b2) (M_trial b2) (M_counted b2) (M_isSaved b2) (M_changes b2) (M_isWithin b2) (M_isDenied b2) (M_code b2) (M_why b2) (M_detail b2) (M_cause b2) (M_input b2) (M_length b2) (M_fault b2) (M_signs b2) (M_signMany b2) (M_lastOver b2) (M_at b2) (M_told b2) (M_toldMany b2)] : List va_W).flatten _ := hP
          have hD : va_D A ([wMc g a z7 (M_kept b2) (M_saved b2) (M_before b2) (M_trial b2) (M_counted b2) (M_isSaved b2) (M_changes b2) (M_isWithin b2) (M_isDenied b2) (M_code b2) (M_why b2) (M_detail b2) (M_cause b2) (M_input b2) (M_length b2) (M_fault b2) (M_signs b2) (M_signMany b2) (M_lastOver b2) (M_at b2) (M_told b2) (M_toldMany b2)] : List va_W).flatten := hD
          refine lv_iload_n hx hb dX5_hoursOver_80 rfl (lv_at hl 0 rfl) ?_
          refine lv_if_eq (tgt := 88) hx hb dX5_hoursOver_81 (by decide) (fun c8 => ?_) (fun c8 => ?_)
          · have hF := ob_pos c8 hF
            refine lv_iconst (v := (-1)) hx hb dX5_hoursOver_88 (by decide) ?_
            cases hF
            rw [hQ]
            exact jb_iret hx hb hr hlocks hP hD hS dX5_hoursOver_89 rfl (Nat.le_of_ble_eq_true rfl) (Nat.le_of_ble_eq_true rfl)
          · have hF := ob_neg c8 hF
            refine lv_iload_n hx hb dX5_hoursOver_84 rfl (lv_at hl 3 rfl) ?_
            refine lv_goto (tgt := 89) hx hb dX5_hoursOver_85 (by decide) ?_
            cases hF
            rw [hQ]
            exact jb_iret hx hb hr hlocks hP hD hS dX5_hoursOver_89 rfl (Nat.le_of_ble_eq_true rfl) (Nat.le_of_ble_eq_true rfl)
        · have hF := ob_neg c6 hF
          refine lv_aload_n hx hb dX5_hoursOver_53 rfl (lv_at hl 0 rfl) ?_
          refine va_get (D := g.1) (ci := 9) (v := .int (M_lastOver b2)) (C := RX5) (T := TX5) (N := 23) hx hb hts inX5 hown hK hP 0 rfl rfl 19 (by decide) (hts _ mw_1330) (fun _ h9 => h9) rfl dX5_hoursOver_54 ?_
          refine lv_iload_n hx hb dX5_hoursOver_57 rfl (lv_at hl 1 rfl) ?_
          refine lv_icmp_lt (tgt := 65) hx hb dX5_hoursOver_58 (by decide) (fun c9 => ?_) (fun c9 => ?_)
          · have hF := ob_pos c9 hF
            refine lv_iconst (v := 0) hx hb dX5_hoursOver_65 (by decide) ?_
            refine lv_istore_n (lv' := [(3, .int 0), (0, .ref (a 0)), (1, .int p0), (2, .int x3)]) hx hb dX5_hoursOver_66 rfl hl (by decide) rfl (fun ls hl => ?_)
            refine lv_aload_n hx hb dX5_hoursOver_67 rfl (lv_at hl 1 rfl) ?_
            refine va_get (D := g.1) (ci := 9) (v := .ref (a 5)) (C := RX5) (T := TX5) (N := 23) hx hb hts inX5 hown hK hP 0 rfl rfl 4 (by decide) (hts _ mw_1315) (fun _ h9 => h9) rfl dX5_hoursOver_68 ?_
            refine lv_iconst (v := 0) hx hb dX5_hoursOver_71 (by decide) ?_
            refine lv_aload_n hx hb dX5_hoursOver_72 rfl (lv_at hl 1 rfl) ?_
            refine va_get (D := g.1) (ci := 9) (v := .ref (a 1)) (C := RX5) (T := TX5) (N := 23) hx hb hts inX5 hown hK hP 0 rfl rfl 0 (by decide) (hts _ mw_1311) (fun _ h9 => h9) rfl dX5_hoursOver_73 ?_
            refine lv_iconst (v := 0) hx hb dX5_hoursOver_76 (by decide) ?_
            obtain ⟨z10, hz10, hF⟩ := ob_bind hF
            have hP : va_P g.1 vwCl ([[(a 0, .inr (9, [.ref (a 1), .ref (a 2), .ref (a 3), .ref (a 4), .ref (a 5), .ref (a 6), .int (M_isSaved b2), .int (M_changes b2), .int (M_isWithin b2), .int (M_isDenied b2), .int (M_code b2), .int (M_why b2), .int (M_detail b2), .int (M_cause b2), .ref (a 7), .int (M_length b2), .int (M_fault b2), .ref (a 8), .int (M_signMany b2), .int (M_lastOver b2), .int (M_at b2), .ref (a 9), .int (M_toldMany b2)]))], [(a 1, .inl (g.2.1 0, 83, .inl (M_g b2)))], [(a 2, .inl (g.2.1 0, 664, .inl (M_kept b2)))], [(a 3, .inl (g.2.1 0, 83, .inl (M_saved b2)))], [(a 4, .inl (g.2.1 0, 83, .inl (M_before b2)))], [(a 5, .inl (g.2.1 0, 83, .inl (M_trial b2)))], [(a 6, .inl (g.2.1 0, 10, .inl (M_counted b2)))], [(a 7, .inl (g.2.1 0, 60, .inl (M_input b2)))], [(a 8, .inl (g.2.1 1, 200, .inl (M_signs b2)))], [(a 9, .inl (g.2.1 0, 93, .inl (M_told b2)))]] : List va_W).flatten _ := hP
            have hD : va_D A ([[(a 0, .inr (9, [.ref (a 1), .ref (a 2), .ref (a 3), .ref (a 4), .ref (a 5), .ref (a 6), .int (M_isSaved b2), .int (M_changes b2), .int (M_isWithin b2), .int (M_isDenied b2), .int (M_code b2), .int (M_why b2), .int (M_detail b2), .int (M_cause b2), .ref (a 7), .int (M_length b2), .int (M_fault b2), .ref (a 8), .int (M_signMany b2), .int (M_lastOver b2), .int (M_at b2), .ref (a 9), .int (M_toldMany b2)]))], [(a 1, .inl (g.2.1 0, 83, .inl (M_g b2)))], [(a 2, .inl (g.2.1 0, 664, .inl (M_kept b2)))], [(a 3, .inl (g.2.1 0, 83, .inl (M_saved b2)))], [(a 4, .inl (g.2.1 0, 83, .inl (M_before b2)))], [(a 5, .inl (g.2.1 0, 83, .inl (M_trial b2)))], [(a 6, .inl (g.2.1 0, 10, .inl (M_counted b2)))], [(a 7, .inl (g.2.1 0, 60, .inl (M_input b2)))], [(a 8, .inl (g.2.1 1, 200, .inl (M_signs b2)))], [(a 9, .inl (g.2.1 0, 93, .inl (M_told b2)))]] : List va_W).flatten := hD
            refine cl_sv (csR := [[(a 0, .inr (9, [.ref (a 1), .ref (a 2), .ref (a 3), .ref (a 4), .ref (a 5), .ref (a 6), .int (M_isSaved b2), .int (M_changes b2), .int (M_isWithin b2), .int (M_isDenied b2), .int (M_code b2), .int (M_why b2), .int (M_detail b2), .int (M_cause b2), .ref (a 7), .int (M_length b2), .int (M_fault b2), .ref (a 8), .int (M_signMany b2), .int (M_lastOver b2), .int (M_at b2), .ref (a 9), .int (M_toldMany b2)]))], [(a 2, .inl (g.2.1 0, 664, .inl (M_kept b2)))], [(a 3, .inl (g.2.1 0, 83, .inl (M_saved b2)))], [(a 4, .inl (g.2.1 0, 83, .inl (M_before b2)))], [(a 6, .inl (g.2.1 0, 10, .inl (M_counted b2)))], [(a 7, .inl (g.2.1 0, 60, .inl (M_input b2)))], [(a 8, .inl (g.2.1 1, 200, .inl (M_signs b2)))], [(a 9, .inl (g.2.1 0, 93, .inl (M_told b2)))]]) (csF := [[(a 0, .inr (9, [.ref (a 1), .ref (a 2), .ref (a 3), .ref (a 4), .ref (a 5), .ref (a 6), .int (M_isSaved b2), .int (M_changes b2), .int (M_isWithin b2), .int (M_isDenied b2), .int (M_code b2), .int (M_why b2), .int (M_detail b2), .int (M_cause b2), .ref (a 7), .int (M_length b2), .int (M_fault b2), .ref (a 8), .int (M_signMany b2), .int (M_lastOver b2), .int (M_at b2), .ref (a 9), .int (M_toldMany b2)]))], [(a 1, .inl (g.2.1 0, 83, .inl z10))], [(a 2, .inl (g.2.1 0, 664, .inl (M_kept b2)))], [(a 3, .inl (g.2.1 0, 83, .inl (M_saved b2)))], [(a 4, .inl (g.2.1 0, 83, .inl (M_before b2)))], [(a 5, .inl (g.2.1 0, 83, .inl (M_trial b2)))], [(a 6, .inl (g.2.1 0, 10, .inl (M_counted b2)))], [(a 7, .inl (g.2.1 0, 60, .inl (M_input b2)))], [(a 8, .inl (g.2.1 1, 200, .inl (M_signs b2)))], [(a 9, .inl (g.2.1 0, 93, .inl (M_told b2)))]]) (rest := []) hx hb hml hown hts hK hE hA hl hP hD hS (c_X5_copies g l (fun _ => a 5) 83 (fun _ => a 1) 83 (M_trial b2) (M_g b2) 0 0 z10 hz10) [5, 1] [0, 2, 3, 4, 6, 7, 8, 9] [0, 9, 1, 2, 3, 8, 4, 5, 6, 7] ⟨rfl, rfl, rfl, rfl, rfl, rfl, rfl⟩ 4 (jb_giS mw_1404 mw_1405 mw_10 mw_1406) ⟨rfl, rfl⟩ (by decide +kernel) ⟨⟨(Nat.le_of_ble_eq_true rfl), (Nat.le_of_ble_eq_true rfl)⟩, (Nat.le_of_ble_eq_true rfl), (Nat.le_of_ble_eq_true rfl)⟩ ⟨rfl, rfl⟩ (Nat.le_of_ble_eq_true rfl) dX5_hoursOver_77 (fun H locs hP hD hS => ?_)
            have hP : va_P g.1 vwCl ([wMc g a z10 (M_kept b2) (M_saved b2) (M_before b2) (M_trial b2) (M_counted b2) (M_isSaved b2) (M_changes b2) (M_isWithin b2) (M_isDenied b2) (M_code b2) (M_why b2) (M_detail b2) (M_cause b2) (M_input b2) (M_length b2) (M_fault b2) (M_signs b2) (M_signMany b2) (M_lastOver b2) (M_at b2) (M_told b2) (M_toldMany b2)] : List va_W).flatten _ := hP
            have hD : va_D A ([wMc g a z10 (M_kept b2) (M_saved b2) (M_before b2) (M_trial b2) (M_counted b2) (M_isSaved b2) (M_changes b2) (M_isWithin b2) (M_isDenied b2) (M_code b2) (M_why b2) (M_detail b2) (M_cause b2) (M_input b2) (M_length b2) (M_fault b2) (M_signs b2) (M_signMany b2) (M_lastOver b2) (M_at b2) (M_told b2) (M_toldMany b2)] : List va_W).flatten := hD
            refine lv_iload_n hx hb dX5_hoursOver_80 rfl (lv_at hl 0 rfl) ?_
            refine lv_if_eq (tgt := 88) hx hb dX5_hoursOver_81 (by decide) (fun c11 => ?_) (fun c11 => ?_)
            · have hF := ob_pos c11 hF
              refine lv_iconst (v := (-1)) hx hb dX5_hoursOver_88 (by decide) ?_
              cases hF
              rw [hQ]
              exact jb_iret hx hb hr hlocks hP hD hS dX5_hoursOver_89 rfl (Nat.le_of_ble_eq_true rfl) (Nat.le_of_ble_eq_true rfl)
            · have hF := ob_neg c11 hF
              refine lv_iload_n hx hb dX5_hoursOver_84 rfl (lv_at hl 3 rfl) ?_
              refine lv_goto (tgt := 89) hx hb dX5_hoursOver_85 (by decide) ?_
              cases hF
              rw [hQ]
              exact jb_iret hx hb hr hlocks hP hD hS dX5_hoursOver_89 rfl (Nat.le_of_ble_eq_true rfl) (Nat.le_of_ble_eq_true rfl)
          · have hF := ob_neg c9 hF
            refine lv_iconst (v := 1) hx hb dX5_hoursOver_61 (by decide) ?_
            refine lv_goto (tgt := 66) hx hb dX5_hoursOver_62 (by decide) ?_
            refine lv_istore_n (lv' := [(3, .int 1), (0, .ref (a 0)), (1, .int p0), (2, .int x3)]) hx hb dX5_hoursOver_66 rfl hl (by decide) rfl (fun ls hl => ?_)
            refine lv_aload_n hx hb dX5_hoursOver_67 rfl (lv_at hl 1 rfl) ?_
            refine va_get (D := g.1) (ci := 9) (v := .ref (a 5)) (C := RX5) (T := TX5) (N := 23) hx hb hts inX5 hown hK hP 0 rfl rfl 4 (by decide) (hts _ mw_1315) (fun _ h9 => h9) rfl dX5_hoursOver_68 ?_
            refine lv_iconst (v := 0) hx hb dX5_hoursOver_71 (by decide) ?_
            refine lv_aload_n hx hb dX5_hoursOver_72 rfl (lv_at hl 1 rfl) ?_
            refine va_get (D := g.1) (ci := 9) (v := .ref (a 1)) (C := RX5) (T := TX5) (N := 23) hx hb hts inX5 hown hK hP 0 rfl rfl 0 (by decide) (hts _ mw_1311) (fun _ h9 => h9) rfl dX5_hoursOver_73 ?_
            refine lv_iconst (v := 0) hx hb dX5_hoursOver_76 (by decide) ?_
            obtain ⟨z12, hz12, hF⟩ := ob_bind hF
            have hP : va_P g.1 vwCl ([[(a 0, .inr (9, [.ref (a 1), .ref (a 2), .ref (a 3), .ref (a 4), .ref (a 5), .ref (a 6), .int (M_isSaved b2), .int (M_changes b2), .int (M_isWithin b2), .int (M_isDenied b2), .int (M_code b2), .int (M_why b2), .int (M_detail b2), .int (M_cause b2), .ref (a 7), .int (M_length b2), .int (M_fault b2), .ref (a 8), .int (M_signMany b2), .int (M_lastOver b2), .int (M_at b2), .ref (a 9), .int (M_toldMany b2)]))], [(a 1, .inl (g.2.1 0, 83, .inl (M_g b2)))], [(a 2, .inl (g.2.1 0, 664, .inl (M_kept b2)))], [(a 3, .inl (g.2.1 0, 83, .inl (M_saved b2)))], [(a 4, .inl (g.2.1 0, 83, .inl (M_before b2)))], [(a 5, .inl (g.2.1 0, 83, .inl (M_trial b2)))], [(a 6, .inl (g.2.1 0, 10, .inl (M_counted b2)))], [(a 7, .inl (g.2.1 0, 60, .inl (M_input b2)))], [(a 8, .inl (g.2.1 1, 200, .inl (M_signs b2)))], [(a 9, .inl (g.2.1 0, 93, .inl (M_told b2)))]] : List va_W).flatten _ := hP
            have hD : va_D A ([[(a 0, .inr (9, [.ref (a 1), .ref (a 2), .ref (a 3), .ref (a 4), .ref (a 5), .ref (a 6), .int (M_isSaved b2), .int (M_changes b2), .int (M_isWithin b2), .int (M_isDenied b2), .int (M_code b2), .int (M_why b2), .int (M_detail b2), .int (M_cause b2), .ref (a 7), .int (M_length b2), .int (M_fault b2), .ref (a 8), .int (M_signMany b2), .int (M_lastOver b2), .int (M_at b2), .ref (a 9), .int (M_toldMany b2)]))], [(a 1, .inl (g.2.1 0, 83, .inl (M_g b2)))], [(a 2, .inl (g.2.1 0, 664, .inl (M_kept b2)))], [(a 3, .inl (g.2.1 0, 83, .inl (M_saved b2)))], [(a 4, .inl (g.2.1 0, 83, .inl (M_before b2)))], [(a 5, .inl (g.2.1 0, 83, .inl (M_trial b2)))], [(a 6, .inl (g.2.1 0, 10, .inl (M_counted b2)))], [(a 7, .inl (g.2.1 0, 60, .inl (M_input b2)))], [(a 8, .inl (g.2.1 1, 200, .inl (M_signs b2)))], [(a 9, .inl (g.2.1 0, 93, .inl (M_told b2)))]] : List va_W).flatten := hD
            refine cl_sv (csR := [[(a 0, .inr (9, [.ref (a 1), .ref (a 2), .ref (a 3), .ref (a 4), .ref (a 5), .ref (a 6), .int (M_isSaved b2), .int (M_changes b2), .int (M_isWithin b2), .int (M_isDenied b2), .int (M_code b2), .int (M_why b2), .int (M_detail b2), .int (M_cause b2), .ref (a 7), .int (M_length b2), .int (M_fault b2), .ref (a 8), .int (M_signMany b2), .int (M_lastOver b2), .int (M_at b2), .ref (a 9), .int (M_toldMany b2)]))], [(a 2, .inl (g.2.1 0, 664, .inl (M_kept b2)))], [(a 3, .inl (g.2.1 0, 83, .inl (M_saved b2)))], [(a 4, .inl (g.2.1 0, 83, .inl (M_before b2)))], [(a 6, .inl (g.2.1 0, 10, .inl (M_counted b2)))], [(a 7, .inl (g.2.1 0, 60, .inl (M_input b2)))], [(a 8, .inl (g.2.1 1, 200, .inl (M_signs b2)))], [(a 9, .inl (g.2.1 0, 93, .inl (M_told b2)))]]) (csF := [[(a 0, .inr (9, [.ref (a 1), .ref (a 2), .ref (a 3), .ref (a 4), .ref (a 5), .ref (a 6), .int (M_isSaved b2), .int (M_changes b2), .int (M_isWithin b2), .int (M_isDenied b2), .int (M_code b2), .int (M_why b2), .int (M_detail b2), .int (M_cause b2), .ref (a 7), .int (M_length b2), .int (M_fault b2), .ref (a 8), .int (M_signMany b2), .int (M_lastOver b2), .int (M_at b2), .ref (a 9), .int (M_toldMany b2)]))], [(a 1, .inl (g.2.1 0, 83, .inl z12))], [(a 2, .inl (g.2.1 0, 664, .inl (M_kept b2)))], [(a 3, .inl (g.2.1 0, 83, .inl (M_saved b2)))], [(a 4, .inl (g.2.1 0, 83, .inl (M_before b2)))], [(a 5, .inl (g.2.1 0, 83, .inl (M_trial b2)))], [(a 6, .inl (g.2.1 0, 10, .inl (M_counted b2)))], [(a 7, .inl (g.2.1 0, 60, .inl (M_input b2)))], [(a 8, .inl (g.2.1 1, 200, .inl (M_signs b2)))], [(a 9, .inl (g.2.1 0, 93, .inl (M_told b2)))]]) (rest := []) hx hb hml hown hts hK hE hA hl hP hD hS (c_X5_copies g l (fun _ => a 5) 83 (fun _ => a 1) 83 (M_trial b2) (M_g b2) 0 0 z12 hz12) [5, 1] [0, 2, 3, 4, 6, 7, 8, 9] [0, 9, 1, 2, 3, 8, 4, 5, 6, 7] ⟨rfl, rfl, rfl, rfl, rfl, rfl, rfl⟩ 4 (jb_giS mw_1404 mw_1405 mw_10 mw_1406) ⟨rfl, rfl⟩ (by decide +kernel) ⟨⟨(Nat.le_of_ble_eq_true rfl), (Nat.le_of_ble_eq_true rfl)⟩, (Nat.le_of_ble_eq_true rfl), (Nat.le_of_ble_eq_true rfl)⟩ ⟨rfl, rfl⟩ (Nat.le_of_ble_eq_true rfl) dX5_hoursOver_77 (fun H locs hP hD hS => ?_)
            have hP : va_P g.1 vwCl ([wMc g a z12 (M_kept b2) (M_saved b2) (M_before b2) (M_trial b2) (M_counted b2) (M_isSaved b2) (M_changes b2) (M_isWithin b2) (M_isDenied b2) (M_code b2) (M_why b2) (M_detail b2) (M_cause b2) (M_input b2) (M_length b2) (M_fault b2) (M_signs b2) (M_signMany b2) (M_lastOver b2) (M_at b2) (M_told b2) (M_toldMany b2)] : List va_W).flatten _ := hP
            have hD : va_D A ([wMc g a z12 (M_kept b2) (M_saved b2) (M_before b2) (M_trial b2) (M_counted b2) (M_isSaved b2) (M_changes b2) (M_isWithin b2) (M_isDenied b2) (M_code b2) (M_why b2) (M_detail b2) (M_cause b2) (M_input b2) (M_length b2) (M_fault b2) (M_signs b2) (M_signMany b2) (M_lastOver b2) (M_at b2) (M_told b2) (M_toldMany b2)] : List va_W).flatten := hD
            refine lv_iload_n hx hb dX5_hoursOver_80 rfl (lv_at hl 0 rfl) ?_
            refine lv_if_eq (tgt := 88) hx hb dX5_hoursOver_81 (by decide) (fun c13 => ?_) (fun c13 => ?_)
            · have hF := ob_pos c13 hF
              refine lv_iconst (v := (-1)) hx hb dX5_hoursOver_88 (by decide) ?_
              cases hF
              rw [hQ]
              exact jb_iret hx hb hr hlocks hP hD hS dX5_hoursOver_89 rfl (Nat.le_of_ble_eq_true rfl) (Nat.le_of_ble_eq_true rfl)
            · have hF := ob_neg c13 hF
              refine lv_iload_n hx hb dX5_hoursOver_84 rfl (lv_at hl 3 rfl) ?_
              refine lv_goto (tgt := 89) hx hb dX5_hoursOver_85 (by decide) ?_
              cases hF
              rw [hQ]
              exact jb_iret hx hb hr hlocks hP hD hS dX5_hoursOver_89 rfl (Nat.le_of_ble_eq_true rfl) (Nat.le_of_ble_eq_true rfl)
      · have hF := ob_neg c4 hF
        refine lv_aload_n hx hb dX5_hoursOver_26 rfl (lv_at hl 0 rfl) ?_
        refine lv_iload_n hx hb dX5_hoursOver_27 rfl (lv_at hl 1 rfl) ?_
        obtain ⟨z14, hz14, hF⟩ := ob_bind hF
        refine cl_i (csR := []) (csF := [wM g a b2]) (rest := []) hx hb hml hown hts hK hE hA hl hP hD hS (c_X5_placeOf g l a b2 p0 z14 hz14) [0] [] [0] ⟨rfl, rfl, rfl, rfl, rfl, rfl, rfl⟩ ⟨0, 9, _, _, rfl, rfl, rfl⟩ 1 (jb_giV mw_1578 mw_1580 ms_57 mw_10 mw_1581) ⟨rfl, rfl⟩ (by decide +kernel) ⟨⟨(Nat.le_of_ble_eq_true rfl), (Nat.le_of_ble_eq_true rfl)⟩, (Nat.le_of_ble_eq_true rfl), (Nat.le_of_ble_eq_true rfl)⟩ ⟨rfl, rfl⟩ (Nat.le_of_ble_eq_true rfl) dX5_hoursOver_28 (fun H locs hP hD hS => ?_)
        refine lv_if_lt (tgt := 45) hx hb dX5_hoursOver_31 (by decide) (fun c15 => ?_) (fun c15 => ?_)
        · have hF := ob_pos c15 hF
          rw [ek3] at hF
          refine lv_aload_n hx hb dX5_hoursOver_45 rfl (lv_at hl 0 rfl) ?_
          refine lv_iload_n hx hb dX5_hoursOver_46 rfl (lv_at hl 1 rfl) ?_
          obtain ⟨z16, hz16, hF⟩ := ob_bind hF
          refine cl_i (csR := []) (csF := [wM g a b2]) (rest := []) hx hb hml hown hts hK hE hA hl hP hD hS (c_X5_placeOf g l a b2 p0 z16 hz16) [0] [] [0] ⟨rfl, rfl, rfl, rfl, rfl, rfl, rfl⟩ ⟨0, 9, _, _, rfl, rfl, rfl⟩ 1 (jb_giV mw_1578 mw_1580 ms_57 mw_10 mw_1581) ⟨rfl, rfl⟩ (by decide +kernel) ⟨⟨(Nat.le_of_ble_eq_true rfl), (Nat.le_of_ble_eq_true rfl)⟩, (Nat.le_of_ble_eq_true rfl), (Nat.le_of_ble_eq_true rfl)⟩ ⟨rfl, rfl⟩ (Nat.le_of_ble_eq_true rfl) dX5_hoursOver_47 (fun H locs hP hD hS => ?_)
          refine lv_if_ge (tgt := 65) hx hb dX5_hoursOver_50 (by decide) (fun c17 => ?_) (fun c17 => ?_)
          · have hF := ob_pos c17 hF
            refine lv_iconst (v := 0) hx hb dX5_hoursOver_65 (by decide) ?_
            refine lv_istore_n (lv' := [(3, .int 0), (0, .ref (a 0)), (1, .int p0), (2, .int x3)]) hx hb dX5_hoursOver_66 rfl hl (by decide) rfl (fun ls hl => ?_)
            refine lv_aload_n hx hb dX5_hoursOver_67 rfl (lv_at hl 1 rfl) ?_
            refine va_get (D := g.1) (ci := 9) (v := .ref (a 5)) (C := RX5) (T := TX5) (N := 23) hx hb hts inX5 hown hK hP 0 rfl rfl 4 (by decide) (hts _ mw_1315) (fun _ h9 => h9) rfl dX5_hoursOver_68 ?_
            refine lv_iconst (v := 0) hx hb dX5_hoursOver_71 (by decide) ?_
            refine lv_aload_n hx hb dX5_hoursOver_72 rfl (lv_at hl 1 rfl) ?_
            refine va_get (D := g.1) (ci := 9) (v := .ref (a 1)) (C := RX5) (T := TX5) (N := 23) hx hb hts inX5 hown hK hP 0 rfl rfl 0 (by decide) (hts _ mw_1311) (fun _ h9 => h9) rfl dX5_hoursOver_73 ?_
            refine lv_iconst (v := 0) hx hb dX5_hoursOver_76 (by decide) ?_
            obtain ⟨z18, hz18, hF⟩ := ob_bind hF
            have hP : va_P g.1 vwCl ([[(a 0, .inr (9, [.ref (a 1), .ref (a 2), .ref (a 3), .ref (a 4), .ref (a 5), .ref (a 6), .int (M_isSaved b2), .int (M_changes b2), .int (M_isWithin b2), .int (M_isDenied b2), .int (M_code b2), .int (M_why b2), .int (M_detail b2), .int (M_cause b2), .ref (a 7), .int (M_length b2), .int (M_fault b2), .ref (a 8), .int (M_signMany b2), .int (M_lastOver b2), .int (M_at b2), .ref (a 9), .int (M_toldMany b2)]))], [(a 1, .inl (g.2.1 0, 83, .inl (M_g b2)))], [(a 2, .inl (g.2.1 0, 664, .inl (M_kept b2)))], [(a 3, .inl (g.2.1 0, 83, .inl (M_saved b2)))], [(a 4, .inl (g.2.1 0, 83, .inl (M_before b2)))], [(a 5, .inl (g.2.1 0, 83, .inl (M_trial b2)))], [(a 6, .inl (g.2.1 0, 10, .inl (M_counted b2)))], [(a 7, .inl (g.2.1 0, 60, .inl (M_input b2)))], [(a 8, .inl (g.2.1 1, 200, .inl (M_signs b2)))], [(a 9, .inl (g.2.1 0, 93, .inl (M_told b2)))]] : List va_W).flatten _ := hP
            have hD : va_D A ([[(a 0, .inr (9, [.ref (a 1), .ref (a 2), .ref (a 3), .ref (a 4), .ref (a 5), .ref (a 6), .int (M_isSaved b2), .int (M_changes b2), .int (M_isWithin b2), .int (M_isDenied b2), .int (M_code b2), .int (M_why b2), .int (M_detail b2), .int (M_cause b2), .ref (a 7), .int (M_length b2), .int (M_fault b2), .ref (a 8), .int (M_signMany b2), .int (M_lastOver b2), .int (M_at b2), .ref (a 9), .int (M_toldMany b2)]))], [(a 1, .inl (g.2.1 0, 83, .inl (M_g b2)))], [(a 2, .inl (g.2.1 0, 664, .inl (M_kept b2)))], [(a 3, .inl (g.2.1 0, 83, .inl (M_saved b2)))], [(a 4, .inl (g.2.1 0, 83, .inl (M_before b2)))], [(a 5, .inl (g.2.1 0, 83, .inl (M_trial b2)))], [(a 6, .inl (g.2.1 0, 10, .inl (M_counted b2)))], [(a 7, .inl (g.2.1 0, 60, .inl (M_input b2)))], [(a 8, .inl (g.2.1 1, 200, .inl (M_signs b2)))], [(a 9, .inl (g.2.1 0, 93, .inl (M_told b2)))]] : List va_W).flatten := hD
            refine cl_sv (csR := [[(a 0, .inr (9, [.ref (a 1), .ref (a 2), .ref (a 3), .ref (a 4), .ref (a 5), .ref (a 6), .int (M_isSaved b2), .int (M_changes b2), .int (M_isWithin b2), .int (M_isDenied b2), .int (M_code b2), .int (M_why b2), .int (M_detail b2), .int (M_cause b2), .ref (a 7), .int (M_length b2), .int (M_fault b2), .ref (a 8), .int (M_signMany b2), .int (M_lastOver b2), .int (M_at b2), .ref (a 9), .int (M_toldMany b2)]))], [(a 2, .inl (g.2.1 0, 664, .inl (M_kept b2)))], [(a 3, .inl (g.2.1 0, 83, .inl (M_saved b2)))], [(a 4, .inl (g.2.1 0, 83, .inl (M_before b2)))], [(a 6, .inl (g.2.1 0, 10, .inl (M_counted b2)))], [(a 7, .inl (g.2.1 0, 60, .inl (M_input b2)))], [(a 8, .inl (g.2.1 1, 200, .inl (M_signs b2)))], [(a 9, .inl (g.2.1 0, 93, .inl (M_told b2)))]]) (csF := [[(a 0, .inr (9, [.ref (a 1), .ref (a 2), .ref (a 3), .ref (a 4), .ref (a 5), .ref (a 6), .int (M_isSaved b2), .int (M_changes b2), .int (M_isWithin b2), .int (M_isDenied b2), .int (M_code b2), .int (M_why b2), .int (M_detail b2), .int (M_cause b2), .ref (a 7), .int (M_length b2), .int (M_fault b2), .ref (a 8), .int (M_signMany b2), .int (M_lastOver b2), .int (M_at b2), .ref (a 9), .int (M_toldMany b2)]))], [(a 1, .inl (g.2.1 0, 83, .inl z18))], [(a 2, .inl (g.2.1 0, 664, .inl (M_kept b2)))], [(a 3, .inl (g.2.1 0, 83, .inl (M_saved b2)))], [(a 4, .inl (g.2.1 0, 83, .inl (M_before b2)))], [(a 5, .inl (g.2.1 0, 83, .inl (M_trial b2)))], [(a 6, .inl (g.2.1 0, 10, .inl (M_counted b2)))], [(a 7, .inl (g.2.1 0, 60, .inl (M_input b2)))], [(a 8, .inl (g.2.1 1, 200, .inl (M_signs b2)))], [(a 9, .inl (g.2.1 0, 93, .inl (M_told b2)))]]) (rest := []) hx hb hml hown hts hK hE hA hl hP hD hS (c_X5_copies g l (fun _ => a 5) 83 (fun _ => a 1) 83 (M_trial b2) (M_g b2) 0 0 z18 hz18) [5, 1] [0, 2, 3, 4, 6, 7, 8, 9] [0, 9, 1, 2, 3, 8, 4, 5, 6, 7] ⟨rfl, rfl, rfl, rfl, rfl, rfl, rfl⟩ 4 (jb_giS mw_1404 mw_1405 mw_10 mw_1406) ⟨rfl, rfl⟩ (by decide +kernel) ⟨⟨(Nat.le_of_ble_eq_true rfl), (Nat.le_of_ble_eq_true rfl)⟩, (Nat.le_of_ble_eq_true rfl), (Nat.le_of_ble_eq_true rfl)⟩ ⟨rfl, rfl⟩ (Nat.le_of_ble_eq_true rfl) dX5_hoursOver_77 (fun H locs hP hD hS => ?_)
            have hP : va_P g.1 vwCl ([wMc g a z18 (M_kept b2) (M_saved b2) (M_before b2) (M_trial b2) (M_counted b2) (M_isSaved b2) (M_changes b2) (M_isWithin b2) (M_isDenied b2) (M_code b2) (M_why b2) (M_detail b2) (M_cause b2) (M_input b2) (M_length b2) (M_fault b2) (M_signs b2) (M_signMany b2) (M_lastOver b2) (M_at b2) (M_told b2) (M_toldMany b2)] : List va_W).flatten _ := hP
            have hD : va_D A ([wMc g a z18 (M_kept b2) (M_saved b2) (M_before b2) (M_trial b2) (M_counted b2) (M_isSaved b2) (M_changes b2) (M_isWithin b2) (M_isDenied b2) (M_code b2) (M_why b2) (M_detail b2) (M_cause b2) (M_input b2) (M_length b2) (M_fault b2) (M_signs b2) (M_signMany b2) (M_lastOver b2) (M_at b2) (M_told b2) (M_toldMany b2)] : List va_W).flatten := hD
            refine lv_iload_n hx hb dX5_hoursOver_80 rfl (lv_at hl 0 rfl) ?_
            refine lv_if_eq (tgt := 88) hx hb dX5_hoursOver_81 (by decide) (fun c19 => ?_) (fun c19 => ?_)
            · have hF := ob_pos c19 hF
              refine lv_iconst (v := (-1)) hx hb dX5_hoursOver_88 (by decide) ?_
              cases hF
              rw [hQ]
              exact jb_iret hx hb hr hlocks hP hD hS dX5_hoursOver_89 rfl (Nat.le_of_ble_eq_true rfl) (Nat.le_of_ble_eq_true rfl)
            · have hF := ob_neg c19 hF
              refine lv_iload_n hx hb dX5_hoursOver_84 rfl (lv_at hl 3 rfl) ?_
              refine lv_goto (tgt := 89) hx hb dX5_hoursOver_85 (by decide) ?_
              cases hF
              rw [hQ]
              exact jb_iret hx hb hr hlocks hP hD hS dX5_hoursOver_89 rfl (Nat.le_of_ble_eq_true rfl) (Nat.le_of_ble_eq_true rfl)
          · have hF := ob_neg c17 hF
            refine lv_aload_n hx hb dX5_hoursOver_53 rfl (lv_at hl 0 rfl) ?_
            refine va_get (D := g.1) (ci := 9) (v := .int (M_lastOver b2)) (C := RX5) (T := TX5) (N := 23) hx hb hts inX5 hown hK hP 0 rfl rfl 19 (by decide) (hts _ mw_1330) (fun _ h9 => h9) rfl dX5_hoursOver_54 ?_
            refine lv_iload_n hx hb dX5_hoursOver_57 rfl (lv_at hl 1 rfl) ?_
            refine lv_icmp_lt (tgt := 65) hx hb dX5_hoursOver_58 (by decide) (fun c20 => ?_) (fun c20 => ?_)
            · have hF := ob_pos c20 hF
              refine lv_iconst (v := 0) hx hb dX5_hoursOver_65 (by decide) ?_
              refine lv_istore_n (lv' := [(3, .int 0), (0, .ref (a 0)), (1, .int p0), (2, .int x3)]) hx hb dX5_hoursOver_66 rfl hl (by decide) rfl (fun ls hl => ?_)
              refine lv_aload_n hx hb dX5_hoursOver_67 rfl (lv_at hl 1 rfl) ?_
              refine va_get (D := g.1) (ci := 9) (v := .ref (a 5)) (C := RX5) (T := TX5) (N := 23) hx hb hts inX5 hown hK hP 0 rfl rfl 4 (by decide) (hts _ mw_1315) (fun _ h9 => h9) rfl dX5_hoursOver_68 ?_
              refine lv_iconst (v := 0) hx hb dX5_hoursOver_71 (by decide) ?_
              refine lv_aload_n hx hb dX5_hoursOver_72 rfl (lv_at hl 1 rfl) ?_
              refine va_get (D := g.1) (ci := 9) (v := .ref (a 1)) (C := RX5) (T := TX5) (N := 23) hx hb hts inX5 hown hK hP 0 rfl rfl 0 (by decide) (hts _ mw_1311) (fun _ h9 => h9) rfl dX5_hoursOver_73 ?_
              refine lv_iconst (v := 0) hx hb dX5_hoursOver_76 (by decide) ?_
              obtain ⟨z21, hz21, hF⟩ := ob_bind hF
              have hP : va_P g.1 vwCl ([[(a 0, .inr (9, [.ref (a 1), .ref (a 2), .ref (a 3), .ref (a 4), .ref (a 5), .ref (a 6), .int (M_isSaved b2), .int (M_changes b2), .int (M_isWithin b2), .int (M_isDenied b2), .int (M_code b2), .int (M_why b2), .int (M_detail b2), .int (M_cause b2), .ref (a 7), .int (M_length b2), .int (M_fault b2), .ref (a 8), .int (M_signMany b2), .int (M_lastOver b2), .int (M_at b2), .ref (a 9), .int (M_toldMany b2)]))], [(a 1, .inl (g.2.1 0, 83, .inl (M_g b2)))], [(a 2, .inl (g.2.1 0, 664, .inl (M_kept b2)))], [(a 3, .inl (g.2.1 0, 83, .inl (M_saved b2)))], [(a 4, .inl (g.2.1 0, 83, .inl (M_before b2)))], [(a 5, .inl (g.2.1 0, 83, .inl (M_trial b2)))], [(a 6, .inl (g.2.1 0, 10, .inl (M_counted b2)))], [(a 7, .inl (g.2.1 0, 60, .inl (M_input b2)))], [(a 8, .inl (g.2.1 1, 200, .inl (M_signs b2)))], [(a 9, .inl (g.2.1 0, 93, .inl (M_told b2)))]] : List va_W).flatten _ := hP
              have hD : va_D A ([[(a 0, .inr (9, [.ref (a 1), .ref (a 2), .ref (a 3), .ref (a 4), .ref (a 5), .ref (a 6), .int (M_isSaved b2), .int (M_changes b2), .int (M_isWithin b2), .int (M_isDenied b2), .int (M_code b2), .int (M_why b2), .int (M_detail b2), .int (M_cause b2), .ref (a 7), .int (M_length b2), .int (M_fault b2), .ref (a 8), .int (M_signMany b2), .int (M_lastOver b2), .int (M_at b2), .ref (a 9), .int (M_toldMany b2)]))], [(a 1, .inl (g.2.1 0, 83, .inl (M_g b2)))], [(a 2, .inl (g.2.1 0, 664, .inl (M_kept b2)))], [(a 3, .inl (g.2.1 0, 83, .inl (M_saved b2)))], [(a 4, .inl (g.2.1 0, 83, .inl (M_before b2)))], [(a 5, .inl (g.2.1 0, 83, .inl (M_trial b2)))], [(a 6, .inl (g.2.1 0, 10, .inl (M_counted b2)))], [(a 7, .inl (g.2.1 0, 60, .inl (M_input b2)))], [(a 8, .inl (g.2.1 1, 200, .inl (M_signs b2)))], [(a 9, .inl (g.2.1 0, 93, .inl (M_told b2)))]] : List va_W).flatten := hD
              refine cl_sv (csR := [[(a 0, .inr (9, [.ref (a 1), .ref (a 2), .ref (a 3), .ref (a 4), .ref (a 5), .ref (a 6), .int (M_isSaved b2), .int (M_changes b2), .int (M_isWithin b2), .int (M_isDenied b2), .int (M_code b2), .int (M_why b2), .int (M_detail b2), .int (M_cause b2), .ref (a 7), .int (M_length b2), .int (M_fault b2), .ref (a 8), .int (M_signMany b2), .int (M_lastOver b2), .int (M_at b2), .ref (a 9), .int (M_toldMany b2)]))], [(a 2, .inl (g.2.1 0, 664, .inl (M_kept b2)))], [(a 3, .inl (g.2.1 0, 83, .inl (M_saved b2)))], [(a 4, .inl (g.2.1 0, 83, .inl (M_before b2)))], [(a 6, .inl (g.2.1 0, 10, .inl (M_counted b2)))], [(a 7, .inl (g.2.1 0, 60, .inl (M_input b2)))], [(a 8, .inl (g.2.1 1, 200, .inl (M_signs b2)))], [(a 9, .inl (g.2.1 0, 93, .inl (M_told b2)))]]) (csF := [[(a 0, .inr (9, [.ref (a 1), .ref (a 2), .ref (a 3), .ref (a 4), .ref (a 5), .ref (a 6), .int (M_isSaved b2), .int (M_changes b2), .int (M_isWithin b2), .int (M_isDenied b2), .int (M_code b2), .int (M_why b2), .int (M_detail b2), .int (M_cause b2), .ref (a 7), .int (M_length b2), .int (M_fault b2), .ref (a 8), .int (M_signMany b2), .int (M_lastOver b2), .int (M_at b2), .ref (a 9), .int (M_toldMany b2)]))], [(a 1, .inl (g.2.1 0, 83, .inl z21))], [(a 2, .inl (g.2.1 0, 664, .inl (M_kept b2)))], [(a 3, .inl (g.2.1 0, 83, .inl (M_saved b2)))], [(a 4, .inl (g.2.1 0, 83, .inl (M_before b2)))], [(a 5, .inl (g.2.1 0, 83, .inl (M_trial b2)))], [(a 6, .inl (g.2.1 0, 10, .inl (M_counted b2)))], [(a 7, .inl (g.2.1 0, 60, .inl (M_input b2)))], [(a 8, .inl (g.2.1 1, 200, .inl (M_signs b2)))], [(a 9, .inl (g.2.1 0, 93, .inl (M_told b2)))]]) (rest := []) hx hb hml hown hts hK hE hA hl hP hD hS (c_X5_copies g l (fun _ => a 5) 83 (fun _ => a 1) 83 (M_trial b2) (M_g b2) 0 0 z21 hz21) [5, 1] [0, 2, 3, 4, 6, 7, 8, 9] [0, 9, 1, 2, 3, 8, 4, 5, 6, 7] ⟨rfl, rfl, rfl, rfl, rfl, rfl, rfl⟩ 4 (jb_giS mw_1404 mw_1405 mw_10 mw_1406) ⟨rfl, rfl⟩ (by decide +kernel) ⟨⟨(Nat.le_of_ble_eq_true rfl), (Nat.le_of_ble_eq_true rfl)⟩, (Nat.le_of_ble_eq_true rfl), (Nat.le_of_ble_eq_true rfl)⟩ ⟨rfl, rfl⟩ (Nat.le_of_ble_eq_true rfl) dX5_hoursOver_77 (fun H locs hP hD hS => ?_)
              have hP : va_P g.1 vwCl ([wMc g a z21 (M_kept b2) (M_saved b2) (M_before b2) (M_trial b2) (M_counted b2) (M_isSaved b2) (M_changes b2) (M_isWithin b2) (M_isDenied b2) (M_code b2) (M_why b2) (M_detail b2) (M_cause b2) (M_input b2) (M_length b2) (M_fault b2) (M_signs b2) (M_signMany b2) (M_lastOver b2) (M_at b2) (M_told b2) (M_toldMany b2)] : List va_W).flatten _ := hP
              have hD : va_D A ([wMc g a z21 (M_kept b2) (M_saved b2) (M_before b2) (M_trial b2) (M_counted b2) (M_isSaved b2) (M_changes b2) (M_isWithin b2) (M_isDenied b2) (M_code b2) (M_why b2) (M_detail b2) (M_cause b2) (M_input b2) (M_length b2) (M_fault b2) (M_signs b2) (M_signMany b2) (M_lastOver b2) (M_at b2) (M_told b2) (M_toldMany b2)] : List va_W).flatten := hD
              refine lv_iload_n hx hb dX5_hoursOver_80 rfl (lv_at hl 0 rfl) ?_
              refine lv_if_eq (tgt := 88) hx hb dX5_hoursOver_81 (by decide) (fun c22 => ?_) (fun c22 => ?_)
              · have hF := ob_pos c22 hF
                refine lv_iconst (v := (-1)) hx hb dX5_hoursOver_88 (by decide) ?_
                cases hF
                rw [hQ]
                exact jb_iret hx hb hr hlocks hP hD hS dX5_hoursOver_89 rfl (Nat.le_of_ble_eq_true rfl) (Nat.le_of_ble_eq_true rfl)
              · have hF := ob_neg c22 hF
                refine lv_iload_n hx hb dX5_hoursOver_84 rfl (lv_at hl 3 rfl) ?_
                refine lv_goto (tgt := 89) hx hb dX5_hoursOver_85 (by decide) ?_
                cases hF
                rw [hQ]
                exact jb_iret hx hb hr hlocks hP hD hS dX5_hoursOver_89 rfl (Nat.le_of_ble_eq_true rfl) (Nat.le_of_ble_eq_true rfl)
            · have hF := ob_neg c20 hF
              refine lv_iconst (v := 1) hx hb dX5_hoursOver_61 (by decide) ?_
              refine lv_goto (tgt := 66) hx hb dX5_hoursOver_62 (by decide) ?_
              refine lv_istore_n (lv' := [(3, .int 1), (0, .ref (a 0)), (1, .int p0), (2, .int x3)]) hx hb dX5_hoursOver_66 rfl hl (by decide) rfl (fun ls hl => ?_)
              refine lv_aload_n hx hb dX5_hoursOver_67 rfl (lv_at hl 1 rfl) ?_
              refine va_get (D := g.1) (ci := 9) (v := .ref (a 5)) (C := RX5) (T := TX5) (N := 23) hx hb hts inX5 hown hK hP 0 rfl rfl 4 (by decide) (hts _ mw_1315) (fun _ h9 => h9) rfl dX5_hoursOver_68 ?_
              refine lv_iconst (v := 0) hx hb dX5_hoursOver_71 (by decide) ?_
              refine lv_aload_n hx hb dX5_hoursOver_72 rfl (lv_at hl 1 rfl) ?_
              refine va_get (D := g.1) (ci := 9) (v := .ref (a 1)) (C := RX5) (T := TX5) (N := 23) hx hb hts inX5 hown hK hP 0 rfl rfl 0 (by decide) (hts _ mw_1311) (fun _ h9 => h9) rfl dX5_hoursOver_73 ?_
              refine lv_iconst (v := 0) hx hb dX5_hoursOver_76 (by decide) ?_
              obtain ⟨z23, hz23, hF⟩ := ob_bind hF
              have hP : va_P g.1 vwCl ([[(a 0, .inr (9, [.ref (a 1), .ref (a 2), .ref (a 3), .ref (a 4), .ref (a 5), .ref (a 6), .int (M_isSaved b2), .int (M_changes b2), .int (M_isWithin b2), .int (M_isDenied b2), .int (M_code b2), .int (M_why b2), .int (M_detail b2), .int (M_cause b2), .ref (a 7), .int (M_length b2), .int (M_fault b2), .ref (a 8), .int (M_signMany b2), .int (M_lastOver b2), .int (M_at b2), .ref (a 9), .int (M_toldMany b2)]))], [(a 1, .inl (g.2.1 0, 83, .inl (M_g b2)))], [(a 2, .inl (g.2.1 0, 664, .inl (M_kept b2)))], [(a 3, .inl (g.2.1 0, 83, .inl (M_saved b2)))], [(a 4, .inl (g.2.1 0, 83, .inl (M_before b2)))], [(a 5, .inl (g.2.1 0, 83, .inl (M_trial b2)))], [(a 6, .inl (g.2.1 0, 10, .inl (M_counted b2)))], [(a 7, .inl (g.2.1 0, 60, .inl (M_input b2)))], [(a 8, .inl (g.2.1 1, 200, .inl (M_signs b2)))], [(a 9, .inl (g.2.1 0, 93, .inl (M_told b2)))]] : List va_W).flatten _ := hP
              have hD : va_D A ([[(a 0, .inr (9, [.ref (a 1), .ref (a 2), .ref (a 3), .ref (a 4), .ref (a 5), .ref (a 6), .int (M_isSaved b2), .int (M_changes b2), .int (M_isWithin b2), .int (M_isDenied b2), .int (M_code b2), .int (M_why b2), .int (M_detail b2), .int (M_cause b2), .ref (a 7), .int (M_length b2), .int (M_fault b2), .ref (a 8), .int (M_signMany b2), .int (M_lastOver b2), .int (M_at b2), .ref (a 9), .int (M_toldMany b2)]))], [(a 1, .inl (g.2.1 0, 83, .inl (M_g b2)))], [(a 2, .inl (g.2.1 0, 664, .inl (M_kept b2)))], [(a 3, .inl (g.2.1 0, 83, .inl (M_saved b2)))], [(a 4, .inl (g.2.1 0, 83, .inl (M_before b2)))], [(a 5, .inl (g.2.1 0, 83, .inl (M_trial b2)))], [(a 6, .inl (g.2.1 0, 10, .inl (M_counted b2)))], [(a 7, .inl (g.2.1 0, 60, .inl (M_input b2)))], [(a 8, .inl (g.2.1 1, 200, .inl (M_signs b2)))], [(a 9, .inl (g.2.1 0, 93, .inl (M_told b2)))]] : List va_W).flatten := hD
              refine cl_sv (csR := [[(a 0, .inr (9, [.ref (a 1), .ref (a 2), .ref (a 3), .ref (a 4), .ref (a 5), .ref (a 6), .int (M_isSaved b2), .int (M_changes b2), .int (M_isWithin b2), .int (M_isDenied b2), .int (M_code b2), .int (M_why b2), .int (M_detail b2), .int (M_cause b2), .ref (a 7), .int (M_length b2), .int (M_fault b2), .ref (a 8), .int (M_signMany b2), .int (M_lastOver b2), .int (M_at b2), .ref (a 9), .int (M_toldMany b2)]))], [(a 2, .inl (g.2.1 0, 664, .inl (M_kept b2)))], [(a 3, .inl (g.2.1 0, 83, .inl (M_saved b2)))], [(a 4, .inl (g.2.1 0, 83, .inl (M_before b2)))], [(a 6, .inl (g.2.1 0, 10, .inl (M_counted b2)))], [(a 7, .inl (g.2.1 0, 60, .inl (M_input b2)))], [(a 8, .inl (g.2.1 1, 200, .inl (M_signs b2)))], [(a 9, .inl (g.2.1 0, 93, .inl (M_told b2)))]]) (csF := [[(a 0, .inr (9, [.ref (a 1), .ref (a 2), .ref (a 3), .ref (a 4), .ref (a 5), .ref (a 6), .int (M_isSaved b2), .int (M_changes b2), .int (M_isWithin b2), .int (M_isDenied b2), .int (M_code b2), .int (M_why b2), .int (M_detail b2), .int (M_cause b2), .ref (a 7), .int (M_length b2), .int (M_fault b2), .ref (a 8), .int (M_signMany b2), .int (M_lastOver b2), .int (M_at b2), .ref (a 9), .int (M_toldMany b2)]))], [(a 1, .inl (g.2.1 0, 83, .inl z23))], [(a 2, .inl (g.2.1 0, 664, .inl (M_kept b2)))], [(a 3, .inl (g.2.1 0, 83, .inl (M_saved b2)))], [(a 4, .inl (g.2.1 0, 83, .inl (M_before b2)))], [(a 5, .inl (g.2.1 0, 83, .inl (M_trial b2)))], [(a 6, .inl (g.2.1 0, 10, .inl (M_counted b2)))], [(a 7, .inl (g.2.1 0, 60, .inl (M_input b2)))], [(a 8, .inl (g.2.1 1, 200, .inl (M_signs b2)))], [(a 9, .inl (g.2.1 0, 93, .inl (M_told b2)))]]) (rest := []) hx hb hml hown hts hK hE hA hl hP hD hS (c_X5_copies g l (fun _ => a 5) 83 (fun _ => a 1) 83 (M_trial b2) (M_g b2) 0 0 z23 hz23) [5, 1] [0, 2, 3, 4, 6, 7, 8, 9] [0, 9, 1, 2, 3, 8, 4, 5, 6, 7] ⟨rfl, rfl, rfl, rfl, rfl, rfl, rfl⟩ 4 (jb_giS mw_1404 mw_1405 mw_10 mw_1406) ⟨rfl, rfl⟩ (by decide +kernel) ⟨⟨(Nat.le_of_ble_eq_true rfl), (Nat.le_of_ble_eq_true rfl)⟩, (Nat.le_of_ble_eq_true rfl), (Nat.le_of_ble_eq_true rfl)⟩ ⟨rfl, rfl⟩ (Nat.le_of_ble_eq_true rfl) dX5_hoursOver_77 (fun H locs hP hD hS => ?_)
              have hP : va_P g.1 vwCl ([wMc g a z23 (M_kept b2) (M_saved b2) (M_before b2) (M_trial b2) (M_counted b2) (M_isSaved b2) (M_changes b2) (M_isWithin b2) (M_isDenied b2) (M_code b2) (M_why b2) (M_detail b2) (M_cause b2) (M_input b2) (M_length b2) (M_fault b2) (M_signs b2) (M_signMany b2) (M_lastOver b2) (M_at b2) (M_told b2) (M_toldMany b2)] : List va_W).flatten _ := hP
              have hD : va_D A ([wMc g a z23 (M_kept b2) (M_saved b2) (M_before b2) (M_trial b2) (M_counted b2) (M_isSaved b2) (M_changes b2) (M_isWithin b2) (M_isDenied b2) (M_code b2) (M_why b2) (M_detail b2) (M_cause b2) (M_input b2) (M_length b2) (M_fault b2) (M_signs b2) (M_signMany b2) (M_lastOver b2) (M_at b2) (M_told b2) (M_toldMany b2)] : List va_W).flatten := hD
              refine lv_iload_n hx hb dX5_hoursOver_80 rfl (lv_at hl 0 rfl) ?_
              refine lv_if_eq (tgt := 88) hx hb dX5_hoursOver_81 (by decide) (fun c24 => ?_) (fun c24 => ?_)
              · have hF := ob_pos c24 hF
                refine lv_iconst (v := (-1)) hx hb dX5_hoursOver_88 (by decide) ?_
                cases hF
                rw [hQ]
                exact jb_iret hx hb hr hlocks hP hD hS dX5_hoursOver_89 rfl (Nat.le_of_ble_eq_true rfl) (Nat.le_of_ble_eq_true rfl)
              · have hF := ob_neg c24 hF
                refine lv_iload_n hx hb dX5_hoursOver_84 rfl (lv_at hl 3 rfl) ?_
                refine lv_goto (tgt := 89) hx hb dX5_hoursOver_85 (by decide) ?_
                cases hF
                rw [hQ]
                exact jb_iret hx hb hr hlocks hP hD hS dX5_hoursOver_89 rfl (Nat.le_of_ble_eq_true rfl) (Nat.le_of_ble_eq_true rfl)
        · have hF := ob_neg c15 hF
          refine lv_aload_n hx hb dX5_hoursOver_34 rfl (lv_at hl 0 rfl) ?_
          obtain ⟨z25, hz25, hF⟩ := ob_bind hF
          refine cl_i (csR := []) (csF := [wM g a z25.2]) (rest := []) hx hb hml hown hts hK hE hA hl hP hD hS (c_X5_goes g l a b2 z25 hz25) [0] [] [0] ⟨rfl, rfl, rfl, rfl, rfl, rfl, rfl⟩ ⟨0, 9, _, _, rfl, rfl, rfl⟩ 0 (jb_giV mw_1522 mw_1524 ms_47 mw_10 mw_1525) ⟨rfl, rfl⟩ (by decide +kernel) ⟨⟨(Nat.le_of_ble_eq_true rfl), (Nat.le_of_ble_eq_true rfl)⟩, (Nat.le_of_ble_eq_true rfl), (Nat.le_of_ble_eq_true rfl)⟩ ⟨rfl, rfl⟩ (Nat.le_of_ble_eq_true rfl) dX5_hoursOver_35 (fun H locs hP hD hS => ?_)
          refine lv_pop hx hb dX5_hoursOver_38 rfl ?_
          refine lv_iinc (v := x3 + 1) (lv' := [(2, .int (x3 + 1)), (0, .ref (a 0)), (1, .int p0)]) hx hb dX5_hoursOver_39 hl (k := 2) rfl (by rfl) (by decide) rfl (fun ls hl => ?_)
          refine lv_goto (tgt := 20) hx hb dX5_hoursOver_42 (by decide) ?_
          exact ih3 _ _ hF _ _ hP hD hS ls (lv_sub hl [1, 2, 0] rfl)
  exact loop3 1000 _ _ hF _ _ hP hD hS ls (lv_sub hl [1, 2, 0] rfl)
def F_X5_hoursUntilOver (mo : Mv) (p0 : Int32) : Option (Int32 × Mv) := (F_X5_isGone mo p0).bind (fun z1 => if (bi z1.1) = 0 then (F_X5_hoursOver z1.2 p0).bind (fun z2 => if 0 ≤ z2.1 then (F_X5_fails z2.2 0).bind (fun z3 => if (bi z3.1) = 0 then some (z2.1, z3.2) else some (0, z3.2)) else (F_X5_fails z2.2 1).bind (fun z4 => if (bi z4.1) = 0 then some (z2.1, z4.2) else some (0, z4.2))) else some (0, z1.2))
set_option maxHeartbeats 4000000 in
set_option maxRecDepth 100000 in
theorem c_X5_hoursUntilOver (g : GG) (l : Launch) (a : Nat → Nat) (mo : Mv) (p0 : Int32) (z : Int32 × Mv) (hF : F_X5_hoursUntilOver mo p0 = some z) : MI g l yX5_hoursUntilOver cX5_hoursUntilOver 3 (some .int) ({ frames := 7, cells := 0, slots := 0, locals := 153 } : Room) [.ref (a 0), .int p0] [wM g a mo] 0 0 z.1 [wM g a z.2] := by
  refine MI.bg (by decide) (Nat.le_of_ble_eq_true rfl) ?_
  intro p e s m below meth c A Q hQ hx hb hr hml hown hts hlocks hmn hK hE hA hP hD hS ls hl
  rw [F_X5_hoursUntilOver] at hF
  have hl : lv_has ls 3 [(0, .ref (a 0)), (1, .int p0)] := hl
  refine lv_aload_n hx hb dX5_hoursUntilOver_0 rfl (lv_at hl 0 rfl) ?_
  refine lv_iload_n hx hb dX5_hoursUntilOver_1 rfl (lv_at hl 1 rfl) ?_
  obtain ⟨z1, hz1, hF⟩ := ob_bind hF
  refine cl_i (csR := []) (csF := [wM g a z1.2]) (rest := []) hx hb hml hown hts hK hE hA hl hP hD hS (c_X5_isGone g l a mo p0 z1 hz1) [0] [] [0] ⟨rfl, rfl, rfl, rfl, rfl, rfl, rfl⟩ ⟨0, 9, _, _, rfl, rfl, rfl⟩ 1 (jb_giV mw_1574 mw_1576 ms_56 mw_10 mw_1577) ⟨rfl, rfl⟩ (by decide +kernel) ⟨⟨(Nat.le_of_ble_eq_true rfl), (Nat.le_of_ble_eq_true rfl)⟩, (Nat.le_of_ble_eq_true rfl), (Nat.le_of_ble_eq_true rfl)⟩ ⟨rfl, rfl⟩ (Nat.le_of_ble_eq_true rfl) dX5_hoursUntilOver_2 (fun H locs hP hD hS => ?_)
  refine lv_if_eq (tgt := 10) hx hb dX5_hoursUntilOver_5 (by decide) (fun c2 => ?_) (fun c2 => ?_)
  · have hF := ob_pos c2 hF
    refine lv_aload_n hx hb dX5_hoursUntilOver_10 rfl (lv_at hl 0 rfl) ?_
    refine lv_iload_n hx hb dX5_hoursUntilOver_11 rfl (lv_at hl 1 rfl) ?_
    obtain ⟨z3, hz3, hF⟩ := ob_bind hF
    refine cl_i (csR := []) (csF := [wM g a z3.2]) (rest := []) hx hb hml hown hts hK hE hA hl hP hD hS (c_X5_hoursOver g l a z1.2 p0 z3 hz3) [0] [] [0] ⟨rfl, rfl, rfl, rfl, rfl, rfl, rfl⟩ ⟨0, 9, _, _, rfl, rfl, rfl⟩ 1 (jb_giV mw_1594 mw_1596 ms_58 mw_10 mw_1597) ⟨rfl, rfl⟩ (by decide +kernel) ⟨⟨(Nat.le_of_ble_eq_true rfl), (Nat.le_of_ble_eq_true rfl)⟩, (Nat.le_of_ble_eq_true rfl), (Nat.le_of_ble_eq_true rfl)⟩ ⟨rfl, rfl⟩ (Nat.le_of_ble_eq_true rfl) dX5_hoursUntilOver_12 (fun H locs hP hD hS => ?_)
    refine lv_istore_n (lv' := [(2, .int z3.1), (0, .ref (a 0)), (1, .int p0)]) hx hb dX5_hoursUntilOver_15 rfl hl (by decide) rfl (fun ls hl => ?_)
    refine lv_aload_n hx hb dX5_hoursUntilOver_16 rfl (lv_at hl 1 rfl) ?_
    refine lv_iload_n hx hb dX5_hoursUntilOver_17 rfl (lv_at hl 0 rfl) ?_
    refine lv_if_ge (tgt := 25) hx hb dX5_hoursUntilOver_18 (by decide) (fun c4 => ?_) (fun c4 => ?_)
    · have hF := ob_pos c4 hF
      refine lv_iconst (v := 0) hx hb dX5_hoursUntilOver_25 (by decide) ?_
      obtain ⟨z5, hz5, hF⟩ := ob_bind hF
      refine cl_i (csR := []) (csF := [wM g a z5.2]) (rest := []) hx hb hml hown hts hK hE hA hl hP hD hS (c_X5_fails g l a z3.2 0 z5 hz5) [0] [] [0] ⟨rfl, rfl, rfl, rfl, rfl, rfl, rfl⟩ ⟨0, 9, _, _, rfl, rfl, rfl⟩ 1 (jb_giV mw_1392 mw_1394 ms_32 mw_10 mw_1395) ⟨rfl, rfl⟩ (by decide +kernel) ⟨⟨(Nat.le_of_ble_eq_true rfl), (Nat.le_of_ble_eq_true rfl)⟩, (Nat.le_of_ble_eq_true rfl), (Nat.le_of_ble_eq_true rfl)⟩ ⟨rfl, rfl⟩ (Nat.le_of_ble_eq_true rfl) dX5_hoursUntilOver_26 (fun H locs hP hD hS => ?_)
      refine lv_if_eq (tgt := 36) hx hb dX5_hoursUntilOver_29 (by decide) (fun c6 => ?_) (fun c6 => ?_)
      · have hF := ob_pos c6 hF
        refine lv_iload_n hx hb dX5_hoursUntilOver_36 rfl (lv_at hl 0 rfl) ?_
        cases hF
        rw [hQ]
        exact jb_iret hx hb hr hlocks hP hD hS dX5_hoursUntilOver_37 rfl (Nat.le_of_ble_eq_true rfl) (Nat.le_of_ble_eq_true rfl)
      · have hF := ob_neg c6 hF
        refine lv_iconst (v := 0) hx hb dX5_hoursUntilOver_32 (by decide) ?_
        refine lv_goto (tgt := 37) hx hb dX5_hoursUntilOver_33 (by decide) ?_
        cases hF
        rw [hQ]
        exact jb_iret hx hb hr hlocks hP hD hS dX5_hoursUntilOver_37 rfl (Nat.le_of_ble_eq_true rfl) (Nat.le_of_ble_eq_true rfl)
    · have hF := ob_neg c4 hF
      refine lv_iconst (v := 1) hx hb dX5_hoursUntilOver_21 (by decide) ?_
      refine lv_goto (tgt := 26) hx hb dX5_hoursUntilOver_22 (by decide) ?_
      obtain ⟨z7, hz7, hF⟩ := ob_bind hF
      refine cl_i (csR := []) (csF := [wM g a z7.2]) (rest := []) hx hb hml hown hts hK hE hA hl hP hD hS (c_X5_fails g l a z3.2 1 z7 hz7) [0] [] [0] ⟨rfl, rfl, rfl, rfl, rfl, rfl, rfl⟩ ⟨0, 9, _, _, rfl, rfl, rfl⟩ 1 (jb_giV mw_1392 mw_1394 ms_32 mw_10 mw_1395) ⟨rfl, rfl⟩ (by decide +kernel) ⟨⟨(Nat.le_of_ble_eq_true rfl), (Nat.le_of_ble_eq_true rfl)⟩, (Nat.le_of_ble_eq_true rfl), (Nat.le_of_ble_eq_true rfl)⟩ ⟨rfl, rfl⟩ (Nat.le_of_ble_eq_true rfl) dX5_hoursUntilOver_26 (fun H locs hP hD hS => ?_)
      refine lv_if_eq (tgt := 36) hx hb dX5_hoursUntilOver_29 (by decide) (fun c8 => ?_) (fun c8 => ?_)
      · have hF := ob_pos c8 hF
        refine lv_iload_n hx hb dX5_hoursUntilOver_36 rfl (lv_at hl 0 rfl) ?_
        cases hF
        rw [hQ]
        exact jb_iret hx hb hr hlocks hP hD hS dX5_hoursUntilOver_37 rfl (Nat.le_of_ble_eq_true rfl) (Nat.le_of_ble_eq_true rfl)
      · have hF := ob_neg c8 hF
        refine lv_iconst (v := 0) hx hb dX5_hoursUntilOver_32 (by decide) ?_
        refine lv_goto (tgt := 37) hx hb dX5_hoursUntilOver_33 (by decide) ?_
        cases hF
        rw [hQ]
        exact jb_iret hx hb hr hlocks hP hD hS dX5_hoursUntilOver_37 rfl (Nat.le_of_ble_eq_true rfl) (Nat.le_of_ble_eq_true rfl)
  · have hF := ob_neg c2 hF
    refine lv_iconst (v := 0) hx hb dX5_hoursUntilOver_8 (by decide) ?_
    cases hF
    rw [hQ]
    exact jb_iret hx hb hr hlocks hP hD hS dX5_hoursUntilOver_9 rfl (Nat.le_of_ble_eq_true rfl) (Nat.le_of_ble_eq_true rfl)
def F_X5_sum_L9  (k : Mv → Int32 → Int32 → Option (Int32 × Mv)) : Nat → Mv → Int32 → Int32 → Option (Int32 × Mv)
  | 0, _, _, _ => none
  | n + 1, b0, x1, x2 => ck (inb 1 83) (if ((M_g b0) (1 : Int32).toNatClampNeg) ≤ x2 then k b0 x1 x2 else (F_X5_on b0 x2 1).bind (fun z1 => F_X5_sum_L9  k n b0 (x1 + z1) (x2 + 1)))
def F_X5_sum (mo : Mv) : Option (Int32 × Mv) := F_X5_sum_L9  (fun b2 x3 x4 => some (x3, b2)) 1000 (mkM (M_g mo) (M_kept mo) (M_saved mo) (M_before mo) (M_trial mo) (M_counted mo) (M_isSaved mo) (M_changes mo) (M_isWithin mo) (M_isDenied mo) 0 (M_why mo) (M_detail mo) (M_cause mo) (M_input mo) (M_length mo) (M_fault mo) (M_signs mo) (M_signMany mo) (M_lastOver mo) (M_at mo) (M_told mo) (M_toldMany mo)) 0 0
set_option maxHeartbeats 4000000 in
set_option maxRecDepth 100000 in
theorem c_X5_sum (g : GG) (l : Launch) (a : Nat → Nat) (mo : Mv) (z : Int32 × Mv) (hF : F_X5_sum mo = some z) : MI g l yX5_sum cX5_sum 3 (some .int) ({ frames := 1, cells := 0, slots := 0, locals := 22 } : Room) [.ref (a 0)] [wM g a mo] 0 0 z.1 [wM g a z.2] := by
  refine MI.bg (by decide) (Nat.le_of_ble_eq_true rfl) ?_
  intro p e s m below meth c A Q hQ hx hb hr hml hown hts hlocks hmn hK hE hA hP hD hS ls hl
  rw [F_X5_sum] at hF
  have hl : lv_has ls 3 [(0, .ref (a 0))] := hl
  refine lv_aload_n hx hb dX5_sum_0 rfl (lv_at hl 0 rfl) ?_
  refine lv_iconst (v := 0) hx hb dX5_sum_1 (by decide) ?_
  refine va_put (D := g.1) (ci := 9) (v := .int 0) (ty := .int) (C := RX5) (T := TX5) (N := 23) hx hb hts inX5 tyX5 tyX5_ok nmX5 hown hK hP hD hS 0 rfl rfl 10 (by decide) (hts _ mw_1321) (fun _ h9 => h9) rfl (by decide +kernel) rfl rfl (Nat.le_of_ble_eq_true rfl) dX5_sum_2 (fun H locs hP hD hS => ?_)
  have hP : va_P g.1 vwCl ([wMc g a (M_g mo) (M_kept mo) (M_saved mo) (M_before mo) (M_trial mo) (M_counted mo) (M_isSaved mo) (M_changes mo) (M_isWithin mo) (M_isDenied mo) 0 (M_why mo) (M_detail mo) (M_cause mo) (M_input mo) (M_length mo) (M_fault mo) (M_signs mo) (M_signMany mo) (M_lastOver mo) (M_at mo) (M_told mo) (M_toldMany mo)] : List va_W).flatten _ := hP
  have hD : va_D A ([wMc g a (M_g mo) (M_kept mo) (M_saved mo) (M_before mo) (M_trial mo) (M_counted mo) (M_isSaved mo) (M_changes mo) (M_isWithin mo) (M_isDenied mo) 0 (M_why mo) (M_detail mo) (M_cause mo) (M_input mo) (M_length mo) (M_fault mo) (M_signs mo) (M_signMany mo) (M_lastOver mo) (M_at mo) (M_told mo) (M_toldMany mo)] : List va_W).flatten := hD
  refine lv_iconst (v := 0) hx hb dX5_sum_5 (by decide) ?_
  refine lv_istore_n (lv' := [(1, .int 0), (0, .ref (a 0))]) hx hb dX5_sum_6 rfl hl (by decide) rfl (fun ls hl => ?_)
  refine lv_iconst (v := 0) hx hb dX5_sum_7 (by decide) ?_
  refine lv_istore_n (lv' := [(2, .int 0), (1, .int 0), (0, .ref (a 0))]) hx hb dX5_sum_8 rfl hl (by decide) rfl (fun ls hl => ?_)
  obtain ⟨k3, ek3, hF⟩ := ob_k (F := fun k9 => F_X5_sum_L9  k9 1000 (mkM (M_g mo) (M_kept mo) (M_saved mo) (M_before mo) (M_trial mo) (M_counted mo) (M_isSaved mo) (M_changes mo) (M_isWithin mo) (M_isDenied mo) 0 (M_why mo) (M_detail mo) (M_cause mo) (M_input mo) (M_length mo) (M_fault mo) (M_signs mo) (M_signMany mo) (M_lastOver mo) (M_at mo) (M_told mo) (M_toldMany mo)) 0 0) hF
  have loop3 : ∀ (n9 : Nat) (b1 : Mv) (x2 : Int32) (x3 : Int32), F_X5_sum_L9  k3 n9 b1 x2 x3 = some z → ∀ (H : Heap) (locs : List Loc), va_P g.1 vwCl ([wM g a b1] : List va_W).flatten H → va_D A ([wM g a b1] : List va_W).flatten → va_S A s.heap H locs → ∀ ls : Array Slot, lv_has ls 3 [(0, .ref (a 0)), (1, .int x2), (2, .int x3)] → W p l e ({ frames := 1, cells := 0, slots := 0, locals := 22 } : Room) s m ([.ref (a 0)] : List Value).toArray below meth c H locs 0 0 Q (F0 m 9 ls []) := by
    intro n9
    induction n9 with
    | zero => intro b1 x2 x3 hF; rw [F_X5_sum_L9] at hF; cases hF
    | succ n9 ih3 =>
      intro b1 x2 x3 hF H locs hP hD hS ls hl
      rw [F_X5_sum_L9] at hF
      refine lv_iload_n hx hb dX5_sum_9 rfl (lv_at hl 2 rfl) ?_
      refine lv_aload_n hx hb dX5_sum_10 rfl (lv_at hl 0 rfl) ?_
      refine va_get (D := g.1) (ci := 9) (v := .ref (a 1)) (C := RX5) (T := TX5) (N := 23) hx hb hts inX5 hown hK hP 0 rfl rfl 0 (by decide) (hts _ mw_1311) (fun _ h9 => h9) rfl dX5_sum_11 ?_
      refine lv_iconst (v := 1) hx hb dX5_sum_14 (by decide) ?_
      have h4 := inb_in (ck_t hF)
      have hF := ck_s hF
      refine va_iald hx hb hK hP 1 0 rfl rfl h4 dX5_sum_15 ?_
      refine lv_icmp_ge (tgt := 34) hx hb dX5_sum_16 (by decide) (fun c5 => ?_) (fun c5 => ?_)
      · have hF := ob_pos c5 hF
        rw [ek3] at hF
        refine lv_iload_n hx hb dX5_sum_34 rfl (lv_at hl 1 rfl) ?_
        cases hF
        rw [hQ]
        exact jb_iret hx hb hr hlocks hP hD hS dX5_sum_35 rfl (Nat.le_of_ble_eq_true rfl) (Nat.le_of_ble_eq_true rfl)
      · have hF := ob_neg c5 hF
        refine lv_iload_n hx hb dX5_sum_19 rfl (lv_at hl 1 rfl) ?_
        refine lv_aload_n hx hb dX5_sum_20 rfl (lv_at hl 0 rfl) ?_
        refine lv_iload_n hx hb dX5_sum_21 rfl (lv_at hl 2 rfl) ?_
        refine lv_iconst (v := 1) hx hb dX5_sum_22 (by decide) ?_
        obtain ⟨z6, hz6, hF⟩ := ob_bind hF
        refine cl_i (csR := []) (csF := [wM g a b1]) (rest := [.int x2]) hx hb hml hown hts hK hE hA hl hP hD hS (c_X5_on g l a b1 x3 1 z6 hz6) [0] [] [0] ⟨rfl, rfl, rfl, rfl, rfl, rfl, rfl⟩ ⟨0, 9, _, _, rfl, rfl, rfl⟩ 2 (jb_giV mw_1478 mw_1480 ms_42 mw_10 mw_1481) ⟨rfl, rfl⟩ (by decide +kernel) ⟨⟨(Nat.le_of_ble_eq_true rfl), (Nat.le_of_ble_eq_true rfl)⟩, (Nat.le_of_ble_eq_true rfl), (Nat.le_of_ble_eq_true rfl)⟩ ⟨rfl, rfl⟩ (Nat.le_of_ble_eq_true rfl) dX5_sum_23 (fun H locs hP hD hS => ?_)
        refine lv_iadd hx hb dX5_sum_26 ?_
        refine lv_istore_n (lv' := [(1, .int (x2 + z6)), (0, .ref (a 0)), (2, .int x3)]) hx hb dX5_sum_27 rfl hl (by decide) rfl (fun ls hl => ?_)
        refine lv_iinc (v := x3 + 1) (lv' := [(2, .int (x3 + 1)), (1, .int (x2 + z6)), (0, .ref (a 0))]) hx hb dX5_sum_28 hl (k := 2) rfl (by rfl) (by decide) rfl (fun ls hl => ?_)
        refine lv_goto (tgt := 9) hx hb dX5_sum_31 (by decide) ?_
        exact ih3 _ _ _ hF _ _ hP hD hS ls (lv_sub hl [2, 1, 0] rfl)
  exact loop3 1000 _ _ _ hF _ _ hP hD hS ls (lv_sub hl [2, 1, 0] rfl)
def F_X5_totalLoad (mo : Mv) : Option (Int32 × Mv) := (F_X5_sum mo).bind (fun z1 => some (z1.1, z1.2))
set_option maxHeartbeats 4000000 in
set_option maxRecDepth 100000 in
theorem c_X5_totalLoad (g : GG) (l : Launch) (a : Nat → Nat) (mo : Mv) (z : Int32 × Mv) (hF : F_X5_totalLoad mo = some z) : MI g l yX5_totalLoad cX5_totalLoad 1 (some .int) ({ frames := 2, cells := 0, slots := 0, locals := 44 } : Room) [.ref (a 0)] [wM g a mo] 0 0 z.1 [wM g a z.2] := by
  refine MI.bg (by decide) (Nat.le_of_ble_eq_true rfl) ?_
  intro p e s m below meth c A Q hQ hx hb hr hml hown hts hlocks hmn hK hE hA hP hD hS ls hl
  rw [F_X5_totalLoad] at hF
  have hl : lv_has ls 1 [(0, .ref (a 0))] := hl
  refine lv_aload_n hx hb dX5_totalLoad_0 rfl (lv_at hl 0 rfl) ?_
  obtain ⟨z1, hz1, hF⟩ := ob_bind hF
  refine cl_i (csR := []) (csF := [wM g a z1.2]) (rest := []) hx hb hml hown hts hK hE hA hl hP hD hS (c_X5_sum g l a mo z1 hz1) [0] [] [0] ⟨rfl, rfl, rfl, rfl, rfl, rfl, rfl⟩ ⟨0, 9, _, _, rfl, rfl, rfl⟩ 0 (jb_giV mw_1602 mw_1604 ms_59 mw_10 mw_1605) ⟨rfl, rfl⟩ (by decide +kernel) ⟨⟨(Nat.le_of_ble_eq_true rfl), (Nat.le_of_ble_eq_true rfl)⟩, (Nat.le_of_ble_eq_true rfl), (Nat.le_of_ble_eq_true rfl)⟩ ⟨rfl, rfl⟩ (Nat.le_of_ble_eq_true rfl) dX5_totalLoad_1 (fun H locs hP hD hS => ?_)
  cases hF
  rw [hQ]
  exact jb_iret hx hb hr hlocks hP hD hS dX5_totalLoad_4 rfl (Nat.le_of_ble_eq_true rfl) (Nat.le_of_ble_eq_true rfl)
def F_X5_totalLoadByVehicles (mo : Mv) : Option (Int32 × Mv) := (F_X5_sum mo).bind (fun z1 => some (z1.1, z1.2))
set_option maxHeartbeats 4000000 in
set_option maxRecDepth 100000 in
theorem c_X5_totalLoadByVehicles (g : GG) (l : Launch) (a : Nat → Nat) (mo : Mv) (z : Int32 × Mv) (hF : F_X5_totalLoadByVehicles mo = some z) : MI g l yX5_totalLoadByVehicles cX5_totalLoadByVehicles 1 (some .int) ({ frames := 2, cells := 0, slots := 0, locals := 44 } : Room) [.ref (a 0)] [wM g a mo] 0 0 z.1 [wM g a z.2] := by
  refine MI.bg (by decide) (Nat.le_of_ble_eq_true rfl) ?_
  intro p e s m below meth c A Q hQ hx hb hr hml hown hts hlocks hmn hK hE hA hP hD hS ls hl
  rw [F_X5_totalLoadByVehicles] at hF
  have hl : lv_has ls 1 [(0, .ref (a 0))] := hl
  refine lv_aload_n hx hb dX5_totalLoadByVehicles_0 rfl (lv_at hl 0 rfl) ?_
  obtain ⟨z1, hz1, hF⟩ := ob_bind hF
  refine cl_i (csR := []) (csF := [wM g a z1.2]) (rest := []) hx hb hml hown hts hK hE hA hl hP hD hS (c_X5_sum g l a mo z1 hz1) [0] [] [0] ⟨rfl, rfl, rfl, rfl, rfl, rfl, rfl⟩ ⟨0, 9, _, _, rfl, rfl, rfl⟩ 0 (jb_giV mw_1602 mw_1604 ms_59 mw_10 mw_1605) ⟨rfl, rfl⟩ (by decide +kernel) ⟨⟨(Nat.le_of_ble_eq_true rfl), (Nat.le_of_ble_eq_true rfl)⟩, (Nat.le_of_ble_eq_true rfl), (Nat.le_of_ble_eq_true rfl)⟩ ⟨rfl, rfl⟩ (Nat.le_of_ble_eq_true rfl) dX5_totalLoadByVehicles_1 (fun H locs hP hD hS => ?_)
  cases hF
  rw [hQ]
  exact jb_iret hx hb hr hlocks hP hD hS dX5_totalLoadByVehicles_4 rfl (Nat.le_of_ble_eq_true rfl) (Nat.le_of_ble_eq_true rfl)
def F_X5_greatestWeight (mo : Mv) : Option (Int32 × Mv) := ck (inb 0 83) (if ((M_g mo) (0 : Int32).toNatClampNeg) = 0 then some (0, (mkM (M_g mo) (M_kept mo) (M_saved mo) (M_before mo) (M_trial mo) (M_counted mo) (M_isSaved mo) (M_changes mo) (M_isWithin mo) (M_isDenied mo) 0 (M_why mo) (M_detail mo) (M_cause mo) (M_input mo) (M_length mo) (M_fault mo) (M_signs mo) (M_signMany mo) (M_lastOver mo) (M_at mo) (M_told mo) (M_toldMany mo))) else ck (inb 1 83) (if ¬ ((M_g mo) (1 : Int32).toNatClampNeg) = 8 then (F_X5_strong (mkM (M_g mo) (M_kept mo) (M_saved mo) (M_before mo) (M_trial mo) (M_counted mo) (M_isSaved mo) (M_changes mo) (M_isWithin mo) (M_isDenied mo) 0 (M_why mo) (M_detail mo) (M_cause mo) (M_input mo) (M_length mo) (M_fault mo) (M_signs mo) (M_signMany mo) (M_lastOver mo) (M_at mo) (M_told mo) (M_toldMany mo)) 0).bind (fun z1 => (F_X5_loaded (mkM (M_g mo) (M_kept mo) (M_saved mo) (M_before mo) (M_trial mo) (M_counted mo) (M_isSaved mo) (M_changes mo) (M_isWithin mo) (M_isDenied mo) 0 (M_why mo) (M_detail mo) (M_cause mo) (M_input mo) (M_length mo) (M_fault mo) (M_signs mo) (M_signMany mo) (M_lastOver mo) (M_at mo) (M_told mo) (M_toldMany mo)) 0).bind (fun z2 => (F_X5_least 99 (z1 - z2)).bind (fun z3 => if z3 ≤ 0 then some (0, (mkM (M_g mo) (M_kept mo) (M_saved mo) (M_before mo) (M_trial mo) (M_counted mo) (M_isSaved mo) (M_changes mo) (M_isWithin mo) (M_isDenied mo) 0 (M_why mo) (M_detail mo) (M_cause mo) (M_input mo) (M_length mo) (M_fault mo) (M_signs mo) (M_signMany mo) (M_lastOver mo) (M_at mo) (M_told mo) (M_toldMany mo))) else some (z3, (mkM (M_g mo) (M_kept mo) (M_saved mo) (M_before mo) (M_trial mo) (M_counted mo) (M_isSaved mo) (M_changes mo) (M_isWithin mo) (M_isDenied mo) 0 (M_why mo) (M_detail mo) (M_cause mo) (M_input mo) (M_length mo) (M_fault mo) (M_signs mo) (M_signMany mo) (M_lastOver mo) (M_at mo) (M_told mo) (M_toldMany mo)))))) else some (0, (mkM (M_g mo) (M_kept mo) (M_saved mo) (M_before mo) (M_trial mo) (M_counted mo) (M_isSaved mo) (M_changes mo) (M_isWithin mo) (M_isDenied mo) 0 (M_why mo) (M_detail mo) (M_cause mo) (M_input mo) (M_length mo) (M_fault mo) (M_signs mo) (M_signMany mo) (M_lastOver mo) (M_at mo) (M_told mo) (M_toldMany mo)))))
set_option maxHeartbeats 4000000 in
set_option maxRecDepth 100000 in
theorem c_X5_greatestWeight (g : GG) (l : Launch) (a : Nat → Nat) (mo : Mv) (z : Int32 × Mv) (hF : F_X5_greatestWeight mo = some z) : MI g l yX5_greatestWeight cX5_greatestWeight 2 (some .int) ({ frames := 3, cells := 0, slots := 0, locals := 65 } : Room) [.ref (a 0)] [wM g a mo] 0 0 z.1 [wM g a z.2] := by
  refine MI.bg (by decide) (Nat.le_of_ble_eq_true rfl) ?_
  intro p e s m below meth c A Q hQ hx hb hr hml hown hts hlocks hmn hK hE hA hP hD hS ls hl
  rw [F_X5_greatestWeight] at hF
  have hl : lv_has ls 2 [(0, .ref (a 0))] := hl
  refine lv_aload_n hx hb dX5_greatestWeight_0 rfl (lv_at hl 0 rfl) ?_
  refine lv_iconst (v := 0) hx hb dX5_greatestWeight_1 (by decide) ?_
  refine va_put (D := g.1) (ci := 9) (v := .int 0) (ty := .int) (C := RX5) (T := TX5) (N := 23) hx hb hts inX5 tyX5 tyX5_ok nmX5 hown hK hP hD hS 0 rfl rfl 10 (by decide) (hts _ mw_1321) (fun _ h9 => h9) rfl (by decide +kernel) rfl rfl (Nat.le_of_ble_eq_true rfl) dX5_greatestWeight_2 (fun H locs hP hD hS => ?_)
  have hP : va_P g.1 vwCl ([wMc g a (M_g mo) (M_kept mo) (M_saved mo) (M_before mo) (M_trial mo) (M_counted mo) (M_isSaved mo) (M_changes mo) (M_isWithin mo) (M_isDenied mo) 0 (M_why mo) (M_detail mo) (M_cause mo) (M_input mo) (M_length mo) (M_fault mo) (M_signs mo) (M_signMany mo) (M_lastOver mo) (M_at mo) (M_told mo) (M_toldMany mo)] : List va_W).flatten _ := hP
  have hD : va_D A ([wMc g a (M_g mo) (M_kept mo) (M_saved mo) (M_before mo) (M_trial mo) (M_counted mo) (M_isSaved mo) (M_changes mo) (M_isWithin mo) (M_isDenied mo) 0 (M_why mo) (M_detail mo) (M_cause mo) (M_input mo) (M_length mo) (M_fault mo) (M_signs mo) (M_signMany mo) (M_lastOver mo) (M_at mo) (M_told mo) (M_toldMany mo)] : List va_W).flatten := hD
  refine lv_aload_n hx hb dX5_greatestWeight_5 rfl (lv_at hl 0 rfl) ?_
  refine va_get (D := g.1) (ci := 9) (v := .ref (a 1)) (C := RX5) (T := TX5) (N := 23) hx hb hts inX5 hown hK hP 0 rfl rfl 0 (by decide) (hts _ mw_1311) (fun _ h9 => h9) rfl dX5_greatestWeight_6 ?_
  refine lv_iconst (v := 0) hx hb dX5_greatestWeight_9 (by decide) ?_
  have h1 := inb_in (ck_t hF)
  have hF := ck_s hF
  refine va_iald hx hb hK hP 1 0 rfl rfl h1 dX5_greatestWeight_10 ?_
  refine lv_if_eq (tgt := 25) hx hb dX5_greatestWeight_11 (by decide) (fun c2 => ?_) (fun c2 => ?_)
  · have hF := ob_pos c2 hF
    refine lv_iconst (v := 0) hx hb dX5_greatestWeight_25 (by decide) ?_
    cases hF
    rw [hQ]
    exact jb_iret hx hb hr hlocks hP hD hS dX5_greatestWeight_26 rfl (Nat.le_of_ble_eq_true rfl) (Nat.le_of_ble_eq_true rfl)
  · have hF := ob_neg c2 hF
    refine lv_aload_n hx hb dX5_greatestWeight_14 rfl (lv_at hl 0 rfl) ?_
    refine va_get (D := g.1) (ci := 9) (v := .ref (a 1)) (C := RX5) (T := TX5) (N := 23) hx hb hts inX5 hown hK hP 0 rfl rfl 0 (by decide) (hts _ mw_1311) (fun _ h9 => h9) rfl dX5_greatestWeight_15 ?_
    refine lv_iconst (v := 1) hx hb dX5_greatestWeight_18 (by decide) ?_
    have h3 := inb_in (ck_t hF)
    have hF := ck_s hF
    refine va_iald hx hb hK hP 1 0 rfl rfl h3 dX5_greatestWeight_19 ?_
    refine lv_bipush (v := 8) hx hb dX5_greatestWeight_20 (by decide) ?_
    refine lv_icmp_ne (tgt := 27) hx hb dX5_greatestWeight_22 (by decide) (fun c4 => ?_) (fun c4 => ?_)
    · have hF := ob_pos c4 hF
      refine lv_bipush (v := 99) hx hb dX5_greatestWeight_27 (by decide) ?_
      refine lv_aload_n hx hb dX5_greatestWeight_29 rfl (lv_at hl 0 rfl) ?_
      refine lv_iconst (v := 0) hx hb dX5_greatestWeight_30 (by decide) ?_
      obtain ⟨z5, hz5, hF⟩ := ob_bind hF
      refine cl_i (csR := []) (csF := [wMc g a (M_g mo) (M_kept mo) (M_saved mo) (M_before mo) (M_trial mo) (M_counted mo) (M_isSaved mo) (M_changes mo) (M_isWithin mo) (M_isDenied mo) 0 (M_why mo) (M_detail mo) (M_cause mo) (M_input mo) (M_length mo) (M_fault mo) (M_signs mo) (M_signMany mo) (M_lastOver mo) (M_at mo) (M_told mo) (M_toldMany mo)]) (rest := [.int 99]) hx hb hml hown hts hK hE hA hl hP hD hS (c_X5_strong g l a (mkM (M_g mo) (M_kept mo) (M_saved mo) (M_before mo) (M_trial mo) (M_counted mo) (M_isSaved mo) (M_changes mo) (M_isWithin mo) (M_isDenied mo) 0 (M_why mo) (M_detail mo) (M_cause mo) (M_input mo) (M_length mo) (M_fault mo) (M_signs mo) (M_signMany mo) (M_lastOver mo) (M_at mo) (M_told mo) (M_toldMany mo)) 0 z5 hz5) [0] [] [0] ⟨rfl, rfl, rfl, rfl, rfl, rfl, rfl⟩ ⟨0, 9, _, _, rfl, rfl, rfl⟩ 1 (jb_giV mw_1459 mw_1461 ms_39 mw_10 mw_1462) ⟨rfl, rfl⟩ (by decide +kernel) ⟨⟨(Nat.le_of_ble_eq_true rfl), (Nat.le_of_ble_eq_true rfl)⟩, (Nat.le_of_ble_eq_true rfl), (Nat.le_of_ble_eq_true rfl)⟩ ⟨rfl, rfl⟩ (Nat.le_of_ble_eq_true rfl) dX5_greatestWeight_31 (fun H locs hP hD hS => ?_)
      refine lv_aload_n hx hb dX5_greatestWeight_34 rfl (lv_at hl 0 rfl) ?_
      refine lv_iconst (v := 0) hx hb dX5_greatestWeight_35 (by decide) ?_
      obtain ⟨z6, hz6, hF⟩ := ob_bind hF
      refine cl_i (csR := []) (csF := [wMc g a (M_g mo) (M_kept mo) (M_saved mo) (M_before mo) (M_trial mo) (M_counted mo) (M_isSaved mo) (M_changes mo) (M_isWithin mo) (M_isDenied mo) 0 (M_why mo) (M_detail mo) (M_cause mo) (M_input mo) (M_length mo) (M_fault mo) (M_signs mo) (M_signMany mo) (M_lastOver mo) (M_at mo) (M_told mo) (M_toldMany mo)]) (rest := [.int z5, .int 99]) hx hb hml hown hts hK hE hA hl hP hD hS (c_X5_loaded g l a (mkM (M_g mo) (M_kept mo) (M_saved mo) (M_before mo) (M_trial mo) (M_counted mo) (M_isSaved mo) (M_changes mo) (M_isWithin mo) (M_isDenied mo) 0 (M_why mo) (M_detail mo) (M_cause mo) (M_input mo) (M_length mo) (M_fault mo) (M_signs mo) (M_signMany mo) (M_lastOver mo) (M_at mo) (M_told mo) (M_toldMany mo)) 0 z6 hz6) [0] [] [0] ⟨rfl, rfl, rfl, rfl, rfl, rfl, rfl⟩ ⟨0, 9, _, _, rfl, rfl, rfl⟩ 1 (jb_giV mw_1474 mw_1476 ms_41 mw_10 mw_1477) ⟨rfl, rfl⟩ (by decide +kernel) ⟨⟨(Nat.le_of_ble_eq_true rfl), (Nat.le_of_ble_eq_true rfl)⟩, (Nat.le_of_ble_eq_true rfl), (Nat.le_of_ble_eq_true rfl)⟩ ⟨rfl, rfl⟩ (Nat.le_of_ble_eq_true rfl) dX5_greatestWeight_36 (fun H locs hP hD hS => ?_)
      refine lv_isub hx hb dX5_greatestWeight_39 ?_
      obtain ⟨z7, hz7, hF⟩ := ob_bind hF
      refine cl_si (csR := [wMc g a (M_g mo) (M_kept mo) (M_saved mo) (M_before mo) (M_trial mo) (M_counted mo) (M_isSaved mo) (M_changes mo) (M_isWithin mo) (M_isDenied mo) 0 (M_why mo) (M_detail mo) (M_cause mo) (M_input mo) (M_length mo) (M_fault mo) (M_signs mo) (M_signMany mo) (M_lastOver mo) (M_at mo) (M_told mo) (M_toldMany mo)]) (csF := [wMc g a (M_g mo) (M_kept mo) (M_saved mo) (M_before mo) (M_trial mo) (M_counted mo) (M_isSaved mo) (M_changes mo) (M_isWithin mo) (M_isDenied mo) 0 (M_why mo) (M_detail mo) (M_cause mo) (M_input mo) (M_length mo) (M_fault mo) (M_signs mo) (M_signMany mo) (M_lastOver mo) (M_at mo) (M_told mo) (M_toldMany mo)]) (rest := []) hx hb hml hown hts hK hE hA hl hP hD hS (c_X5_least g l  99 (z5 - z6) z7 hz7) [] [0] [0] ⟨rfl, rfl, rfl, rfl, rfl, rfl, rfl⟩ 2 (jb_giS mw_1467 mw_1468 mw_10 mw_1469) ⟨rfl, rfl⟩ (by decide +kernel) ⟨⟨(Nat.le_of_ble_eq_true rfl), (Nat.le_of_ble_eq_true rfl)⟩, (Nat.le_of_ble_eq_true rfl), (Nat.le_of_ble_eq_true rfl)⟩ ⟨rfl, rfl⟩ (Nat.le_of_ble_eq_true rfl) dX5_greatestWeight_40 (fun H locs hP hD hS => ?_)
      refine lv_istore_n (lv' := [(1, .int z7), (0, .ref (a 0))]) hx hb dX5_greatestWeight_43 rfl hl (by decide) rfl (fun ls hl => ?_)
      refine lv_iload_n hx hb dX5_greatestWeight_44 rfl (lv_at hl 0 rfl) ?_
      refine lv_if_le (tgt := 52) hx hb dX5_greatestWeight_45 (by decide) (fun c8 => ?_) (fun c8 => ?_)
      · have hF := ob_pos c8 hF
        refine lv_iconst (v := 0) hx hb dX5_greatestWeight_52 (by decide) ?_
        cases hF
        rw [hQ]
        exact jb_iret hx hb hr hlocks hP hD hS dX5_greatestWeight_53 rfl (Nat.le_of_ble_eq_true rfl) (Nat.le_of_ble_eq_true rfl)
      · have hF := ob_neg c8 hF
        refine lv_iload_n hx hb dX5_greatestWeight_48 rfl (lv_at hl 0 rfl) ?_
        refine lv_goto (tgt := 53) hx hb dX5_greatestWeight_49 (by decide) ?_
        cases hF
        rw [hQ]
        exact jb_iret hx hb hr hlocks hP hD hS dX5_greatestWeight_53 rfl (Nat.le_of_ble_eq_true rfl) (Nat.le_of_ble_eq_true rfl)
    · have hF := ob_nneg c4 hF
      refine lv_iconst (v := 0) hx hb dX5_greatestWeight_25 (by decide) ?_
      cases hF
      rw [hQ]
      exact jb_iret hx hb hr hlocks hP hD hS dX5_greatestWeight_26 rfl (Nat.le_of_ble_eq_true rfl) (Nat.le_of_ble_eq_true rfl)
def F_X5_hour (mo : Mv) : Option (Int32 × Mv) := ck (inb 3 83) (some ((M_g mo) (3 : Int32).toNatClampNeg, (mkM (M_g mo) (M_kept mo) (M_saved mo) (M_before mo) (M_trial mo) (M_counted mo) (M_isSaved mo) (M_changes mo) (M_isWithin mo) (M_isDenied mo) 0 (M_why mo) (M_detail mo) (M_cause mo) (M_input mo) (M_length mo) (M_fault mo) (M_signs mo) (M_signMany mo) (M_lastOver mo) (M_at mo) (M_told mo) (M_toldMany mo))))
set_option maxHeartbeats 4000000 in
set_option maxRecDepth 100000 in
theorem c_X5_hour (g : GG) (l : Launch) (a : Nat → Nat) (mo : Mv) (z : Int32 × Mv) (hF : F_X5_hour mo = some z) : MI g l yX5_hour cX5_hour 1 (some .int) ({ frames := 0, cells := 0, slots := 0, locals := 0 } : Room) [.ref (a 0)] [wM g a mo] 0 0 z.1 [wM g a z.2] := by
  refine MI.bg (by decide) (Nat.le_of_ble_eq_true rfl) ?_
  intro p e s m below meth c A Q hQ hx hb hr hml hown hts hlocks hmn hK hE hA hP hD hS ls hl
  rw [F_X5_hour] at hF
  have hl : lv_has ls 1 [(0, .ref (a 0))] := hl
  refine lv_aload_n hx hb dX5_hour_0 rfl (lv_at hl 0 rfl) ?_
  refine lv_iconst (v := 0) hx hb dX5_hour_1 (by decide) ?_
  refine va_put (D := g.1) (ci := 9) (v := .int 0) (ty := .int) (C := RX5) (T := TX5) (N := 23) hx hb hts inX5 tyX5 tyX5_ok nmX5 hown hK hP hD hS 0 rfl rfl 10 (by decide) (hts _ mw_1321) (fun _ h9 => h9) rfl (by decide +kernel) rfl rfl (Nat.le_of_ble_eq_true rfl) dX5_hour_2 (fun H locs hP hD hS => ?_)
  have hP : va_P g.1 vwCl ([wMc g a (M_g mo) (M_kept mo) (M_saved mo) (M_before mo) (M_trial mo) (M_counted mo) (M_isSaved mo) (M_changes mo) (M_isWithin mo) (M_isDenied mo) 0 (M_why mo) (M_detail mo) (M_cause mo) (M_input mo) (M_length mo) (M_fault mo) (M_signs mo) (M_signMany mo) (M_lastOver mo) (M_at mo) (M_told mo) (M_toldMany mo)] : List va_W).flatten _ := hP
  have hD : va_D A ([wMc g a (M_g mo) (M_kept mo) (M_saved mo) (M_before mo) (M_trial mo) (M_counted mo) (M_isSaved mo) (M_changes mo) (M_isWithin mo) (M_isDenied mo) 0 (M_why mo) (M_detail mo) (M_cause mo) (M_input mo) (M_length mo) (M_fault mo) (M_signs mo) (M_signMany mo) (M_lastOver mo) (M_at mo) (M_told mo) (M_toldMany mo)] : List va_W).flatten := hD
  refine lv_aload_n hx hb dX5_hour_5 rfl (lv_at hl 0 rfl) ?_
  refine va_get (D := g.1) (ci := 9) (v := .ref (a 1)) (C := RX5) (T := TX5) (N := 23) hx hb hts inX5 hown hK hP 0 rfl rfl 0 (by decide) (hts _ mw_1311) (fun _ h9 => h9) rfl dX5_hour_6 ?_
  refine lv_iconst (v := 3) hx hb dX5_hour_9 (by decide) ?_
  have h1 := inb_in (ck_t hF)
  have hF := ck_s hF
  refine va_iald hx hb hK hP 1 0 rfl rfl h1 dX5_hour_10 ?_
  cases hF
  rw [hQ]
  exact jb_iret hx hb hr hlocks hP hD hS dX5_hour_11 rfl (Nat.le_of_ble_eq_true rfl) (Nat.le_of_ble_eq_true rfl)
def F_X5_rate (mo : Mv) : Option (Int32 × Mv) := ck (inb 4 83) (some ((M_g mo) (4 : Int32).toNatClampNeg, (mkM (M_g mo) (M_kept mo) (M_saved mo) (M_before mo) (M_trial mo) (M_counted mo) (M_isSaved mo) (M_changes mo) (M_isWithin mo) (M_isDenied mo) 0 (M_why mo) (M_detail mo) (M_cause mo) (M_input mo) (M_length mo) (M_fault mo) (M_signs mo) (M_signMany mo) (M_lastOver mo) (M_at mo) (M_told mo) (M_toldMany mo))))
set_option maxHeartbeats 4000000 in
set_option maxRecDepth 100000 in
theorem c_X5_rate (g : GG) (l : Launch) (a : Nat → Nat) (mo : Mv) (z : Int32 × Mv) (hF : F_X5_rate mo = some z) : MI g l yX5_rate cX5_rate 1 (some .int) ({ frames := 0, cells := 0, slots := 0, locals := 0 } : Room) [.ref (a 0)] [wM g a mo] 0 0 z.1 [wM g a z.2] := by
  refine MI.bg (by decide) (Nat.le_of_ble_eq_true rfl) ?_
  intro p e s m below meth c A Q hQ hx hb hr hml hown hts hlocks hmn hK hE hA hP hD hS ls hl
  rw [F_X5_rate] at hF
  have hl : lv_has ls 1 [(0, .ref (a 0))] := hl
  refine lv_aload_n hx hb dX5_rate_0 rfl (lv_at hl 0 rfl) ?_
  refine lv_iconst (v := 0) hx hb dX5_rate_1 (by decide) ?_
  refine va_put (D := g.1) (ci := 9) (v := .int 0) (ty := .int) (C := RX5) (T := TX5) (N := 23) hx hb hts inX5 tyX5 tyX5_ok nmX5 hown hK hP hD hS 0 rfl rfl 10 (by decide) (hts _ mw_1321) (fun _ h9 => h9) rfl (by decide +kernel) rfl rfl (Nat.le_of_ble_eq_true rfl) dX5_rate_2 (fun H locs hP hD hS => ?_)
  have hP : va_P g.1 vwCl ([wMc g a (M_g mo) (M_kept mo) (M_saved mo) (M_before mo) (M_trial mo) (M_counted mo) (M_isSaved mo) (M_changes mo) (M_isWithin mo) (M_isDenied mo) 0 (M_why mo) (M_detail mo) (M_cause mo) (M_input mo) (M_length mo) (M_fault mo) (M_signs mo) (M_signMany mo) (M_lastOver mo) (M_at mo) (M_told mo) (M_toldMany mo)] : List va_W).flatten _ := hP
  have hD : va_D A ([wMc g a (M_g mo) (M_kept mo) (M_saved mo) (M_before mo) (M_trial mo) (M_counted mo) (M_isSaved mo) (M_changes mo) (M_isWithin mo) (M_isDenied mo) 0 (M_why mo) (M_detail mo) (M_cause mo) (M_input mo) (M_length mo) (M_fault mo) (M_signs mo) (M_signMany mo) (M_lastOver mo) (M_at mo) (M_told mo) (M_toldMany mo)] : List va_W).flatten := hD
  refine lv_aload_n hx hb dX5_rate_5 rfl (lv_at hl 0 rfl) ?_
  refine va_get (D := g.1) (ci := 9) (v := .ref (a 1)) (C := RX5) (T := TX5) (N := 23) hx hb hts inX5 hown hK hP 0 rfl rfl 0 (by decide) (hts _ mw_1311) (fun _ h9 => h9) rfl dX5_rate_6 ?_
  refine lv_iconst (v := 4) hx hb dX5_rate_9 (by decide) ?_
  have h1 := inb_in (ck_t hF)
  have hF := ck_s hF
  refine va_iald hx hb hK hP 1 0 rfl rfl h1 dX5_rate_10 ?_
  cases hF
  rw [hQ]
  exact jb_iret hx hb hr hlocks hP hD hS dX5_rate_11 rfl (Nat.le_of_ble_eq_true rfl) (Nat.le_of_ble_eq_true rfl)
def F_X5_till (mo : Mv) : Option (Int32 × Mv) := ck (inb 5 83) (some ((M_g mo) (5 : Int32).toNatClampNeg, (mkM (M_g mo) (M_kept mo) (M_saved mo) (M_before mo) (M_trial mo) (M_counted mo) (M_isSaved mo) (M_changes mo) (M_isWithin mo) (M_isDenied mo) 0 (M_why mo) (M_detail mo) (M_cause mo) (M_input mo) (M_length mo) (M_fault mo) (M_signs mo) (M_signMany mo) (M_lastOver mo) (M_at mo) (M_told mo) (M_toldMany mo))))
set_option maxHeartbeats 4000000 in
set_option maxRecDepth 100000 in
theorem c_X5_till (g : GG) (l : Launch) (a : Nat → Nat) (mo : Mv) (z : Int32 × Mv) (hF : F_X5_till mo = some z) : MI g l yX5_till cX5_till 1 (some .int) ({ frames := 0, cells := 0, slots := 0, locals := 0 } : Room) [.ref (a 0)] [wM g a mo] 0 0 z.1 [wM g a z.2] := by
  refine MI.bg (by decide) (Nat.le_of_ble_eq_true rfl) ?_
  intro p e s m below meth c A Q hQ hx hb hr hml hown hts hlocks hmn hK hE hA hP hD hS ls hl
  rw [F_X5_till] at hF
  have hl : lv_has ls 1 [(0, .ref (a 0))] := hl
  refine lv_aload_n hx hb dX5_till_0 rfl (lv_at hl 0 rfl) ?_
  refine lv_iconst (v := 0) hx hb dX5_till_1 (by decide) ?_
  refine va_put (D := g.1) (ci := 9) (v := .int 0) (ty := .int) (C := RX5) (T := TX5) (N := 23) hx hb hts inX5 tyX5 tyX5_ok nmX5 hown hK hP hD hS 0 rfl rfl 10 (by decide) (hts _ mw_1321) (fun _ h9 => h9) rfl (by decide +kernel) rfl rfl (Nat.le_of_ble_eq_true rfl) dX5_till_2 (fun H locs hP hD hS => ?_)
  have hP : va_P g.1 vwCl ([wMc g a (M_g mo) (M_kept mo) (M_saved mo) (M_before mo) (M_trial mo) (M_counted mo) (M_isSaved mo) (M_changes mo) (M_isWithin mo) (M_isDenied mo) 0 (M_why mo) (M_detail mo) (M_cause mo) (M_input mo) (M_length mo) (M_fault mo) (M_signs mo) (M_signMany mo) (M_lastOver mo) (M_at mo) (M_told mo) (M_toldMany mo)] : List va_W).flatten _ := hP
  have hD : va_D A ([wMc g a (M_g mo) (M_kept mo) (M_saved mo) (M_before mo) (M_trial mo) (M_counted mo) (M_isSaved mo) (M_changes mo) (M_isWithin mo) (M_isDenied mo) 0 (M_why mo) (M_detail mo) (M_cause mo) (M_input mo) (M_length mo) (M_fault mo) (M_signs mo) (M_signMany mo) (M_lastOver mo) (M_at mo) (M_told mo) (M_toldMany mo)] : List va_W).flatten := hD
  refine lv_aload_n hx hb dX5_till_5 rfl (lv_at hl 0 rfl) ?_
  refine va_get (D := g.1) (ci := 9) (v := .ref (a 1)) (C := RX5) (T := TX5) (N := 23) hx hb hts inX5 hown hK hP 0 rfl rfl 0 (by decide) (hts _ mw_1311) (fun _ h9 => h9) rfl dX5_till_6 ?_
  refine lv_iconst (v := 5) hx hb dX5_till_9 (by decide) ?_
  have h1 := inb_in (ck_t hF)
  have hF := ck_s hF
  refine va_iald hx hb hK hP 1 0 rfl rfl h1 dX5_till_10 ?_
  cases hF
  rw [hQ]
  exact jb_iret hx hb hr hlocks hP hD hS dX5_till_11 rfl (Nat.le_of_ble_eq_true rfl) (Nat.le_of_ble_eq_true rfl)
def F_X5_paidTolls (mo : Mv) : Option (Int32 × Mv) := ck (inb 6 83) (some ((M_g mo) (6 : Int32).toNatClampNeg, (mkM (M_g mo) (M_kept mo) (M_saved mo) (M_before mo) (M_trial mo) (M_counted mo) (M_isSaved mo) (M_changes mo) (M_isWithin mo) (M_isDenied mo) 0 (M_why mo) (M_detail mo) (M_cause mo) (M_input mo) (M_length mo) (M_fault mo) (M_signs mo) (M_signMany mo) (M_lastOver mo) (M_at mo) (M_told mo) (M_toldMany mo))))
set_option maxHeartbeats 4000000 in
set_option maxRecDepth 100000 in
theorem c_X5_paidTolls (g : GG) (l : Launch) (a : Nat → Nat) (mo : Mv) (z : Int32 × Mv) (hF : F_X5_paidTolls mo = some z) : MI g l yX5_paidTolls cX5_paidTolls 1 (some .int) ({ frames := 0, cells := 0, slots := 0, locals := 0 } : Room) [.ref (a 0)] [wM g a mo] 0 0 z.1 [wM g a z.2] := by
  refine MI.bg (by decide) (Nat.le_of_ble_eq_true rfl) ?_
  intro p e s m below meth c A Q hQ hx hb hr hml hown hts hlocks hmn hK hE hA hP hD hS ls hl
  rw [F_X5_paidTolls] at hF
  have hl : lv_has ls 1 [(0, .ref (a 0))] := hl
  refine lv_aload_n hx hb dX5_paidTolls_0 rfl (lv_at hl 0 rfl) ?_
  refine lv_iconst (v := 0) hx hb dX5_paidTolls_1 (by decide) ?_
  refine va_put (D := g.1) (ci := 9) (v := .int 0) (ty := .int) (C := RX5) (T := TX5) (N := 23) hx hb hts inX5 tyX5 tyX5_ok nmX5 hown hK hP hD hS 0 rfl rfl 10 (by decide) (hts _ mw_1321) (fun _ h9 => h9) rfl (by decide +kernel) rfl rfl (Nat.le_of_ble_eq_true rfl) dX5_paidTolls_2 (fun H locs hP hD hS => ?_)
  have hP : va_P g.1 vwCl ([wMc g a (M_g mo) (M_kept mo) (M_saved mo) (M_before mo) (M_trial mo) (M_counted mo) (M_isSaved mo) (M_changes mo) (M_isWithin mo) (M_isDenied mo) 0 (M_why mo) (M_detail mo) (M_cause mo) (M_input mo) (M_length mo) (M_fault mo) (M_signs mo) (M_signMany mo) (M_lastOver mo) (M_at mo) (M_told mo) (M_toldMany mo)] : List va_W).flatten _ := hP
  have hD : va_D A ([wMc g a (M_g mo) (M_kept mo) (M_saved mo) (M_before mo) (M_trial mo) (M_counted mo) (M_isSaved mo) (M_changes mo) (M_isWithin mo) (M_isDenied mo) 0 (M_why mo) (M_detail mo) (M_cause mo) (M_input mo) (M_length mo) (M_fault mo) (M_signs mo) (M_signMany mo) (M_lastOver mo) (M_at mo) (M_told mo) (M_toldMany mo)] : List va_W).flatten := hD
  refine lv_aload_n hx hb dX5_paidTolls_5 rfl (lv_at hl 0 rfl) ?_
  refine va_get (D := g.1) (ci := 9) (v := .ref (a 1)) (C := RX5) (T := TX5) (N := 23) hx hb hts inX5 hown hK hP 0 rfl rfl 0 (by decide) (hts _ mw_1311) (fun _ h9 => h9) rfl dX5_paidTolls_6 ?_
  refine lv_bipush (v := 6) hx hb dX5_paidTolls_9 (by decide) ?_
  have h1 := inb_in (ck_t hF)
  have hF := ck_s hF
  refine va_iald hx hb hK hP 1 0 rfl rfl h1 dX5_paidTolls_11 ?_
  cases hF
  rw [hQ]
  exact jb_iret hx hb hr hlocks hP hD hS dX5_paidTolls_12 rfl (Nat.le_of_ble_eq_true rfl) (Nat.le_of_ble_eq_true rfl)
def F_X5_crossed (mo : Mv) : Option (Int32 × Mv) := ck (inb 7 83) (some ((M_g mo) (7 : Int32).toNatClampNeg, (mkM (M_g mo) (M_kept mo) (M_saved mo) (M_before mo) (M_trial mo) (M_counted mo) (M_isSaved mo) (M_changes mo) (M_isWithin mo) (M_isDenied mo) 0 (M_why mo) (M_detail mo) (M_cause mo) (M_input mo) (M_length mo) (M_fault mo) (M_signs mo) (M_signMany mo) (M_lastOver mo) (M_at mo) (M_told mo) (M_toldMany mo))))
set_option maxHeartbeats 4000000 in
set_option maxRecDepth 100000 in
theorem c_X5_crossed (g : GG) (l : Launch) (a : Nat → Nat) (mo : Mv) (z : Int32 × Mv) (hF : F_X5_crossed mo = some z) : MI g l yX5_crossed cX5_crossed 1 (some .int) ({ frames := 0, cells := 0, slots := 0, locals := 0 } : Room) [.ref (a 0)] [wM g a mo] 0 0 z.1 [wM g a z.2] := by
  refine MI.bg (by decide) (Nat.le_of_ble_eq_true rfl) ?_
  intro p e s m below meth c A Q hQ hx hb hr hml hown hts hlocks hmn hK hE hA hP hD hS ls hl
  rw [F_X5_crossed] at hF
  have hl : lv_has ls 1 [(0, .ref (a 0))] := hl
  refine lv_aload_n hx hb dX5_crossed_0 rfl (lv_at hl 0 rfl) ?_
  refine lv_iconst (v := 0) hx hb dX5_crossed_1 (by decide) ?_
  refine va_put (D := g.1) (ci := 9) (v := .int 0) (ty := .int) (C := RX5) (T := TX5) (N := 23) hx hb hts inX5 tyX5 tyX5_ok nmX5 hown hK hP hD hS 0 rfl rfl 10 (by decide) (hts _ mw_1321) (fun _ h9 => h9) rfl (by decide +kernel) rfl rfl (Nat.le_of_ble_eq_true rfl) dX5_crossed_2 (fun H locs hP hD hS => ?_)
  have hP : va_P g.1 vwCl ([wMc g a (M_g mo) (M_kept mo) (M_saved mo) (M_before mo) (M_trial mo) (M_counted mo) (M_isSaved mo) (M_changes mo) (M_isWithin mo) (M_isDenied mo) 0 (M_why mo) (M_detail mo) (M_cause mo) (M_input mo) (M_length mo) (M_fault mo) (M_signs mo) (M_signMany mo) (M_lastOver mo) (M_at mo) (M_told mo) (M_toldMany mo)] : List va_W).flatten _ := hP
  have hD : va_D A ([wMc g a (M_g mo) (M_kept mo) (M_saved mo) (M_before mo) (M_trial mo) (M_counted mo) (M_isSaved mo) (M_changes mo) (M_isWithin mo) (M_isDenied mo) 0 (M_why mo) (M_detail mo) (M_cause mo) (M_input mo) (M_length mo) (M_fault mo) (M_signs mo) (M_signMany mo) (M_lastOver mo) (M_at mo) (M_told mo) (M_toldMany mo)] : List va_W).flatten := hD
  refine lv_aload_n hx hb dX5_crossed_5 rfl (lv_at hl 0 rfl) ?_
  refine va_get (D := g.1) (ci := 9) (v := .ref (a 1)) (C := RX5) (T := TX5) (N := 23) hx hb hts inX5 hown hK hP 0 rfl rfl 0 (by decide) (hts _ mw_1311) (fun _ h9 => h9) rfl dX5_crossed_6 ?_
  refine lv_bipush (v := 7) hx hb dX5_crossed_9 (by decide) ?_
  have h1 := inb_in (ck_t hF)
  have hF := ck_s hF
  refine va_iald hx hb hK hP 1 0 rfl rfl h1 dX5_crossed_11 ?_
  cases hF
  rw [hQ]
  exact jb_iret hx hb hr hlocks hP hD hS dX5_crossed_12 rfl (Nat.le_of_ble_eq_true rfl) (Nat.le_of_ble_eq_true rfl)
def F_X5_sunk (mo : Mv) : Option (Int32 × Mv) := ck (inb 8 83) (some ((M_g mo) (8 : Int32).toNatClampNeg, (mkM (M_g mo) (M_kept mo) (M_saved mo) (M_before mo) (M_trial mo) (M_counted mo) (M_isSaved mo) (M_changes mo) (M_isWithin mo) (M_isDenied mo) 0 (M_why mo) (M_detail mo) (M_cause mo) (M_input mo) (M_length mo) (M_fault mo) (M_signs mo) (M_signMany mo) (M_lastOver mo) (M_at mo) (M_told mo) (M_toldMany mo))))
set_option maxHeartbeats 4000000 in
set_option maxRecDepth 100000 in
theorem c_X5_sunk (g : GG) (l : Launch) (a : Nat → Nat) (mo : Mv) (z : Int32 × Mv) (hF : F_X5_sunk mo = some z) : MI g l yX5_sunk cX5_sunk 1 (some .int) ({ frames := 0, cells := 0, slots := 0, locals := 0 } : Room) [.ref (a 0)] [wM g a mo] 0 0 z.1 [wM g a z.2] := by
  refine MI.bg (by decide) (Nat.le_of_ble_eq_true rfl) ?_
  intro p e s m below meth c A Q hQ hx hb hr hml hown hts hlocks hmn hK hE hA hP hD hS ls hl
  rw [F_X5_sunk] at hF
  have hl : lv_has ls 1 [(0, .ref (a 0))] := hl
  refine lv_aload_n hx hb dX5_sunk_0 rfl (lv_at hl 0 rfl) ?_
  refine lv_iconst (v := 0) hx hb dX5_sunk_1 (by decide) ?_
  refine va_put (D := g.1) (ci := 9) (v := .int 0) (ty := .int) (C := RX5) (T := TX5) (N := 23) hx hb hts inX5 tyX5 tyX5_ok nmX5 hown hK hP hD hS 0 rfl rfl 10 (by decide) (hts _ mw_1321) (fun _ h9 => h9) rfl (by decide +kernel) rfl rfl (Nat.le_of_ble_eq_true rfl) dX5_sunk_2 (fun H locs hP hD hS => ?_)
  have hP : va_P g.1 vwCl ([wMc g a (M_g mo) (M_kept mo) (M_saved mo) (M_before mo) (M_trial mo) (M_counted mo) (M_isSaved mo) (M_changes mo) (M_isWithin mo) (M_isDenied mo) 0 (M_why mo) (M_detail mo) (M_cause mo) (M_input mo) (M_length mo) (M_fault mo) (M_signs mo) (M_signMany mo) (M_lastOver mo) (M_at mo) (M_told mo) (M_toldMany mo)] : List va_W).flatten _ := hP
  have hD : va_D A ([wMc g a (M_g mo) (M_kept mo) (M_saved mo) (M_before mo) (M_trial mo) (M_counted mo) (M_isSaved mo) (M_changes mo) (M_isWithin mo) (M_isDenied mo) 0 (M_why mo) (M_detail mo) (M_cause mo) (M_input mo) (M_length mo) (M_fault mo) (M_signs mo) (M_signMany mo) (M_lastOver mo) (M_at mo) (M_told mo) (M_toldMany mo)] : List va_W).flatten := hD
  refine lv_aload_n hx hb dX5_sunk_5 rfl (lv_at hl 0 rfl) ?_
  refine va_get (D := g.1) (ci := 9) (v := .ref (a 1)) (C := RX5) (T := TX5) (N := 23) hx hb hts inX5 hown hK hP 0 rfl rfl 0 (by decide) (hts _ mw_1311) (fun _ h9 => h9) rfl dX5_sunk_6 ?_
  refine lv_bipush (v := 8) hx hb dX5_sunk_9 (by decide) ?_
  have h1 := inb_in (ck_t hF)
  have hF := ck_s hF
  refine va_iald hx hb hK hP 1 0 rfl rfl h1 dX5_sunk_11 ?_
  cases hF
  rw [hQ]
  exact jb_iret hx hb hr hlocks hP hD hS dX5_sunk_12 rfl (Nat.le_of_ble_eq_true rfl) (Nat.le_of_ble_eq_true rfl)
def F_X5_feed (mo : Mv) (p0 : Int32) : Option (Int32 × Mv) := if ¬ (M_length mo) = 60 then (F_X5_fails mo 0).bind (fun z1 => if (bi z1.1) = 0 then ck (inb (M_length z1.2) 60) (some ((M_length z1.2) + 1, (mkM (M_g z1.2) (M_kept z1.2) (M_saved z1.2) (M_before z1.2) (M_trial z1.2) (M_counted z1.2) (M_isSaved z1.2) (M_changes z1.2) (M_isWithin z1.2) (M_isDenied z1.2) (M_code z1.2) (M_why z1.2) (M_detail z1.2) (M_cause z1.2) (upd (M_input z1.2) (M_length z1.2).toNatClampNeg p0) ((M_length z1.2) + 1) (M_fault z1.2) (M_signs z1.2) (M_signMany z1.2) (M_lastOver z1.2) (M_at z1.2) (M_told z1.2) (M_toldMany z1.2)))) else some (0, z1.2)) else (F_X5_fails mo 1).bind (fun z2 => if (bi z2.1) = 0 then ck (inb (M_length z2.2) 60) (some ((M_length z2.2) + 1, (mkM (M_g z2.2) (M_kept z2.2) (M_saved z2.2) (M_before z2.2) (M_trial z2.2) (M_counted z2.2) (M_isSaved z2.2) (M_changes z2.2) (M_isWithin z2.2) (M_isDenied z2.2) (M_code z2.2) (M_why z2.2) (M_detail z2.2) (M_cause z2.2) (upd (M_input z2.2) (M_length z2.2).toNatClampNeg p0) ((M_length z2.2) + 1) (M_fault z2.2) (M_signs z2.2) (M_signMany z2.2) (M_lastOver z2.2) (M_at z2.2) (M_told z2.2) (M_toldMany z2.2)))) else some (0, z2.2))
set_option maxHeartbeats 4000000 in
set_option maxRecDepth 100000 in
theorem c_X5_feed (g : GG) (l : Launch) (a : Nat → Nat) (mo : Mv) (p0 : Int32) (z : Int32 × Mv) (hF : F_X5_feed mo p0 = some z) : MI g l yX5_feed cX5_feed 2 (some .int) ({ frames := 1, cells := 0, slots := 0, locals := 21 } : Room) [.ref (a 0), .int p0] [wM g a mo] 0 0 z.1 [wM g a z.2] := by
  refine MI.bg (by decide) (Nat.le_of_ble_eq_true rfl) ?_
  intro p e s m below meth c A Q hQ hx hb hr hml hown hts hlocks hmn hK hE hA hP hD hS ls hl
  rw [F_X5_feed] at hF
  have hl : lv_has ls 2 [(0, .ref (a 0)), (1, .int p0)] := hl
  refine lv_aload_n hx hb dX5_feed_0 rfl (lv_at hl 0 rfl) ?_
  refine lv_aload_n hx hb dX5_feed_1 rfl (lv_at hl 0 rfl) ?_
  refine va_get (D := g.1) (ci := 9) (v := .int (M_length mo)) (C := RX5) (T := TX5) (N := 23) hx hb hts inX5 hown hK hP 0 rfl rfl 15 (by decide) (hts _ mw_1326) (fun _ h9 => h9) rfl dX5_feed_2 ?_
  refine lv_bipush (v := 60) hx hb dX5_feed_5 (by decide) ?_
  refine lv_icmp_ne (tgt := 14) hx hb dX5_feed_7 (by decide) (fun c1 => ?_) (fun c1 => ?_)
  · have hF := ob_pos c1 hF
    refine lv_iconst (v := 0) hx hb dX5_feed_14 (by decide) ?_
    obtain ⟨z2, hz2, hF⟩ := ob_bind hF
    refine cl_i (csR := []) (csF := [wM g a z2.2]) (rest := []) hx hb hml hown hts hK hE hA hl hP hD hS (c_X5_fails g l a mo 0 z2 hz2) [0] [] [0] ⟨rfl, rfl, rfl, rfl, rfl, rfl, rfl⟩ ⟨0, 9, _, _, rfl, rfl, rfl⟩ 1 (jb_giV mw_1392 mw_1394 ms_32 mw_10 mw_1395) ⟨rfl, rfl⟩ (by decide +kernel) ⟨⟨(Nat.le_of_ble_eq_true rfl), (Nat.le_of_ble_eq_true rfl)⟩, (Nat.le_of_ble_eq_true rfl), (Nat.le_of_ble_eq_true rfl)⟩ ⟨rfl, rfl⟩ (Nat.le_of_ble_eq_true rfl) dX5_feed_15 (fun H locs hP hD hS => ?_)
    refine lv_if_eq (tgt := 23) hx hb dX5_feed_18 (by decide) (fun c3 => ?_) (fun c3 => ?_)
    · have hF := ob_pos c3 hF
      refine lv_aload_n hx hb dX5_feed_23 rfl (lv_at hl 0 rfl) ?_
      refine va_get (D := g.1) (ci := 9) (v := .ref (a 7)) (C := RX5) (T := TX5) (N := 23) hx hb hts inX5 hown hK hP 0 rfl rfl 14 (by decide) (hts _ mw_1325) (fun _ h9 => h9) rfl dX5_feed_24 ?_
      refine lv_aload_n hx hb dX5_feed_27 rfl (lv_at hl 0 rfl) ?_
      refine va_get (D := g.1) (ci := 9) (v := .int (M_length z2.2)) (C := RX5) (T := TX5) (N := 23) hx hb hts inX5 hown hK hP 0 rfl rfl 15 (by decide) (hts _ mw_1326) (fun _ h9 => h9) rfl dX5_feed_28 ?_
      refine lv_iload_n hx hb dX5_feed_31 rfl (lv_at hl 1 rfl) ?_
      have h4 := inb_in (ck_t hF)
      have hF := ck_s hF
      refine va_iast hx hb hK hP hD hS 7 0 rfl rfl h4 dX5_feed_32 (fun H locs hP hD hS => ?_)
      have hP : va_P g.1 vwCl ([wMc g a (M_g z2.2) (M_kept z2.2) (M_saved z2.2) (M_before z2.2) (M_trial z2.2) (M_counted z2.2) (M_isSaved z2.2) (M_changes z2.2) (M_isWithin z2.2) (M_isDenied z2.2) (M_code z2.2) (M_why z2.2) (M_detail z2.2) (M_cause z2.2) (upd (M_input z2.2) (M_length z2.2).toNatClampNeg p0) (M_length z2.2) (M_fault z2.2) (M_signs z2.2) (M_signMany z2.2) (M_lastOver z2.2) (M_at z2.2) (M_told z2.2) (M_toldMany z2.2)] : List va_W).flatten _ := hP
      have hD : va_D A ([wMc g a (M_g z2.2) (M_kept z2.2) (M_saved z2.2) (M_before z2.2) (M_trial z2.2) (M_counted z2.2) (M_isSaved z2.2) (M_changes z2.2) (M_isWithin z2.2) (M_isDenied z2.2) (M_code z2.2) (M_why z2.2) (M_detail z2.2) (M_cause z2.2) (upd (M_input z2.2) (M_length z2.2).toNatClampNeg p0) (M_length z2.2) (M_fault z2.2) (M_signs z2.2) (M_signMany z2.2) (M_lastOver z2.2) (M_at z2.2) (M_told z2.2) (M_toldMany z2.2)] : List va_W).flatten := hD
      refine lv_aload_n hx hb dX5_feed_33 rfl (lv_at hl 0 rfl) ?_
      refine lv_dup hx hb dX5_feed_34 rfl ?_
      refine va_get (D := g.1) (ci := 9) (v := .int (M_length z2.2)) (C := RX5) (T := TX5) (N := 23) hx hb hts inX5 hown hK hP 0 rfl rfl 15 (by decide) (hts _ mw_1326) (fun _ h9 => h9) rfl dX5_feed_35 ?_
      refine lv_iconst (v := 1) hx hb dX5_feed_38 (by decide) ?_
      refine lv_iadd hx hb dX5_feed_39 ?_
      refine va_put (D := g.1) (ci := 9) (v := .int ((M_length z2.2) + 1)) (ty := .int) (C := RX5) (T := TX5) (N := 23) hx hb hts inX5 tyX5 tyX5_ok nmX5 hown hK hP hD hS 0 rfl rfl 15 (by decide) (hts _ mw_1326) (fun _ h9 => h9) rfl (by decide +kernel) rfl rfl (Nat.le_of_ble_eq_true rfl) dX5_feed_40 (fun H locs hP hD hS => ?_)
      have hP : va_P g.1 vwCl ([wMc g a (M_g z2.2) (M_kept z2.2) (M_saved z2.2) (M_before z2.2) (M_trial z2.2) (M_counted z2.2) (M_isSaved z2.2) (M_changes z2.2) (M_isWithin z2.2) (M_isDenied z2.2) (M_code z2.2) (M_why z2.2) (M_detail z2.2) (M_cause z2.2) (upd (M_input z2.2) (M_length z2.2).toNatClampNeg p0) ((M_length z2.2) + 1) (M_fault z2.2) (M_signs z2.2) (M_signMany z2.2) (M_lastOver z2.2) (M_at z2.2) (M_told z2.2) (M_toldMany z2.2)] : List va_W).flatten _ := hP
      have hD : va_D A ([wMc g a (M_g z2.2) (M_kept z2.2) (M_saved z2.2) (M_before z2.2) (M_trial z2.2) (M_counted z2.2) (M_isSaved z2.2) (M_changes z2.2) (M_isWithin z2.2) (M_isDenied z2.2) (M_code z2.2) (M_why z2.2) (M_detail z2.2) (M_cause z2.2) (upd (M_input z2.2) (M_length z2.2).toNatClampNeg p0) ((M_length z2.2) + 1) (M_fault z2.2) (M_signs z2.2) (M_signMany z2.2) (M_lastOver z2.2) (M_at z2.2) (M_told z2.2) (M_toldMany z2.2)] : List va_W).flatten := hD
      refine lv_aload_n hx hb dX5_feed_43 rfl (lv_at hl 0 rfl) ?_
      refine va_get (D := g.1) (ci := 9) (v := .int ((M_length z2.2) + 1)) (C := RX5) (T := TX5) (N := 23) hx hb hts inX5 hown hK hP 0 rfl rfl 15 (by decide) (hts _ mw_1326) (fun _ h9 => h9) rfl dX5_feed_44 ?_
      cases hF
      rw [hQ]
      exact jb_iret hx hb hr hlocks hP hD hS dX5_feed_47 rfl (Nat.le_of_ble_eq_true rfl) (Nat.le_of_ble_eq_true rfl)
    · have hF := ob_neg c3 hF
      refine lv_iconst (v := 0) hx hb dX5_feed_21 (by decide) ?_
      cases hF
      rw [hQ]
      exact jb_iret hx hb hr hlocks hP hD hS dX5_feed_22 rfl (Nat.le_of_ble_eq_true rfl) (Nat.le_of_ble_eq_true rfl)
  · have hF := ob_nneg c1 hF
    refine lv_iconst (v := 1) hx hb dX5_feed_10 (by decide) ?_
    refine lv_goto (tgt := 15) hx hb dX5_feed_11 (by decide) ?_
    obtain ⟨z5, hz5, hF⟩ := ob_bind hF
    refine cl_i (csR := []) (csF := [wM g a z5.2]) (rest := []) hx hb hml hown hts hK hE hA hl hP hD hS (c_X5_fails g l a mo 1 z5 hz5) [0] [] [0] ⟨rfl, rfl, rfl, rfl, rfl, rfl, rfl⟩ ⟨0, 9, _, _, rfl, rfl, rfl⟩ 1 (jb_giV mw_1392 mw_1394 ms_32 mw_10 mw_1395) ⟨rfl, rfl⟩ (by decide +kernel) ⟨⟨(Nat.le_of_ble_eq_true rfl), (Nat.le_of_ble_eq_true rfl)⟩, (Nat.le_of_ble_eq_true rfl), (Nat.le_of_ble_eq_true rfl)⟩ ⟨rfl, rfl⟩ (Nat.le_of_ble_eq_true rfl) dX5_feed_15 (fun H locs hP hD hS => ?_)
    refine lv_if_eq (tgt := 23) hx hb dX5_feed_18 (by decide) (fun c6 => ?_) (fun c6 => ?_)
    · have hF := ob_pos c6 hF
      refine lv_aload_n hx hb dX5_feed_23 rfl (lv_at hl 0 rfl) ?_
      refine va_get (D := g.1) (ci := 9) (v := .ref (a 7)) (C := RX5) (T := TX5) (N := 23) hx hb hts inX5 hown hK hP 0 rfl rfl 14 (by decide) (hts _ mw_1325) (fun _ h9 => h9) rfl dX5_feed_24 ?_
      refine lv_aload_n hx hb dX5_feed_27 rfl (lv_at hl 0 rfl) ?_
      refine va_get (D := g.1) (ci := 9) (v := .int (M_length z5.2)) (C := RX5) (T := TX5) (N := 23) hx hb hts inX5 hown hK hP 0 rfl rfl 15 (by decide) (hts _ mw_1326) (fun _ h9 => h9) rfl dX5_feed_28 ?_
      refine lv_iload_n hx hb dX5_feed_31 rfl (lv_at hl 1 rfl) ?_
      have h7 := inb_in (ck_t hF)
      have hF := ck_s hF
      refine va_iast hx hb hK hP hD hS 7 0 rfl rfl h7 dX5_feed_32 (fun H locs hP hD hS => ?_)
      have hP : va_P g.1 vwCl ([wMc g a (M_g z5.2) (M_kept z5.2) (M_saved z5.2) (M_before z5.2) (M_trial z5.2) (M_counted z5.2) (M_isSaved z5.2) (M_changes z5.2) (M_isWithin z5.2) (M_isDenied z5.2) (M_code z5.2) (M_why z5.2) (M_detail z5.2) (M_cause z5.2) (upd (M_input z5.2) (M_length z5.2).toNatClampNeg p0) (M_length z5.2) (M_fault z5.2) (M_signs z5.2) (M_signMany z5.2) (M_lastOver z5.2) (M_at z5.2) (M_told z5.2) (M_toldMany z5.2)] : List va_W).flatten _ := hP
      have hD : va_D A ([wMc g a (M_g z5.2) (M_kept z5.2) (M_saved z5.2) (M_before z5.2) (M_trial z5.2) (M_counted z5.2) (M_isSaved z5.2) (M_changes z5.2) (M_isWithin z5.2) (M_isDenied z5.2) (M_code z5.2) (M_why z5.2) (M_detail z5.2) (M_cause z5.2) (upd (M_input z5.2) (M_length z5.2).toNatClampNeg p0) (M_length z5.2) (M_fault z5.2) (M_signs z5.2) (M_signMany z5.2) (M_lastOver z5.2) (M_at z5.2) (M_told z5.2) (M_toldMany z5.2)] : List va_W).flatten := hD
      refine lv_aload_n hx hb dX5_feed_33 rfl (lv_at hl 0 rfl) ?_
      refine lv_dup hx hb dX5_feed_34 rfl ?_
      refine va_get (D := g.1) (ci := 9) (v := .int (M_length z5.2)) (C := RX5) (T := TX5) (N := 23) hx hb hts inX5 hown hK hP 0 rfl rfl 15 (by decide) (hts _ mw_1326) (fun _ h9 => h9) rfl dX5_feed_35 ?_
      refine lv_iconst (v := 1) hx hb dX5_feed_38 (by decide) ?_
      refine lv_iadd hx hb dX5_feed_39 ?_
      refine va_put (D := g.1) (ci := 9) (v := .int ((M_length z5.2) + 1)) (ty := .int) (C := RX5) (T := TX5) (N := 23) hx hb hts inX5 tyX5 tyX5_ok nmX5 hown hK hP hD hS 0 rfl rfl 15 (by decide) (hts _ mw_1326) (fun _ h9 => h9) rfl (by decide +kernel) rfl rfl (Nat.le_of_ble_eq_true rfl) dX5_feed_40 (fun H locs hP hD hS => ?_)
      have hP : va_P g.1 vwCl ([wMc g a (M_g z5.2) (M_kept z5.2) (M_saved z5.2) (M_before z5.2) (M_trial z5.2) (M_counted z5.2) (M_isSaved z5.2) (M_changes z5.2) (M_isWithin z5.2) (M_isDenied z5.2) (M_code z5.2) (M_why z5.2) (M_detail z5.2) (M_cause z5.2) (upd (M_input z5.2) (M_length z5.2).toNatClampNeg p0) ((M_length z5.2) + 1) (M_fault z5.2) (M_signs z5.2) (M_signMany z5.2) (M_lastOver z5.2) (M_at z5.2) (M_told z5.2) (M_toldMany z5.2)] : List va_W).flatten _ := hP
      have hD : va_D A ([wMc g a (M_g z5.2) (M_kept z5.2) (M_saved z5.2) (M_before z5.2) (M_trial z5.2) (M_counted z5.2) (M_isSaved z5.2) (M_changes z5.2) (M_isWithin z5.2) (M_isDenied z5.2) (M_code z5.2) (M_why z5.2) (M_detail z5.2) (M_cause z5.2) (upd (M_input z5.2) (M_length z5.2).toNatClampNeg p0) ((M_length z5.2) + 1) (M_fault z5.2) (M_signs z5.2) (M_signMany z5.2) (M_lastOver z5.2) (M_at z5.2) (M_told z5.2) (M_toldMany z5.2)] : List va_W).flatten := hD
      refine lv_aload_n hx hb dX5_feed_43 rfl (lv_at hl 0 rfl) ?_
      refine va_get (D := g.1) (ci := 9) (v := .int ((M_length z5.2) + 1)) (C := RX5) (T := TX5) (N := 23) hx hb hts inX5 hown hK hP 0 rfl rfl 15 (by decide) (hts _ mw_1326) (fun _ h9 => h9) rfl dX5_feed_44 ?_
      cases hF
      rw [hQ]
      exact jb_iret hx hb hr hlocks hP hD hS dX5_feed_47 rfl (Nat.le_of_ble_eq_true rfl) (Nat.le_of_ble_eq_true rfl)
    · have hF := ob_neg c6 hF
      refine lv_iconst (v := 0) hx hb dX5_feed_21 (by decide) ?_
      cases hF
      rw [hQ]
      exact jb_iret hx hb hr hlocks hP hD hS dX5_feed_22 rfl (Nat.le_of_ble_eq_true rfl) (Nat.le_of_ble_eq_true rfl)
def F_X5_here (mo : Mv) : Option (Int32) := if (M_length mo) ≤ (M_at mo) then some (-1) else ck (inb (M_at mo) 60) (some ((M_input mo) (M_at mo).toNatClampNeg))
set_option maxHeartbeats 4000000 in
set_option maxRecDepth 100000 in
theorem c_X5_here (g : GG) (l : Launch) (a : Nat → Nat) (mo : Mv) (z : Int32) (hF : F_X5_here mo = some z) : MI g l yX5_here cX5_here 1 (some .int) ({ frames := 0, cells := 0, slots := 0, locals := 0 } : Room) [.ref (a 0)] [wM g a mo] 0 0 z [wM g a mo] := by
  refine MI.bg (by decide) (Nat.le_of_ble_eq_true rfl) ?_
  intro p e s m below meth c A Q hQ hx hb hr hml hown hts hlocks hmn hK hE hA hP hD hS ls hl
  rw [F_X5_here] at hF
  have hl : lv_has ls 1 [(0, .ref (a 0))] := hl
  refine lv_aload_n hx hb dX5_here_0 rfl (lv_at hl 0 rfl) ?_
  refine va_get (D := g.1) (ci := 9) (v := .int (M_at mo)) (C := RX5) (T := TX5) (N := 23) hx hb hts inX5 hown hK hP 0 rfl rfl 20 (by decide) (hts _ mw_1331) (fun _ h9 => h9) rfl dX5_here_1 ?_
  refine lv_aload_n hx hb dX5_here_4 rfl (lv_at hl 0 rfl) ?_
  refine va_get (D := g.1) (ci := 9) (v := .int (M_length mo)) (C := RX5) (T := TX5) (N := 23) hx hb hts inX5 hown hK hP 0 rfl rfl 15 (by decide) (hts _ mw_1326) (fun _ h9 => h9) rfl dX5_here_5 ?_
  refine lv_icmp_ge (tgt := 23) hx hb dX5_here_8 (by decide) (fun c1 => ?_) (fun c1 => ?_)
  · have hF := ob_pos c1 hF
    refine lv_iconst (v := (-1)) hx hb dX5_here_23 (by decide) ?_
    cases hF
    rw [hQ]
    exact jb_iret hx hb hr hlocks hP hD hS dX5_here_24 rfl (Nat.le_of_ble_eq_true rfl) (Nat.le_of_ble_eq_true rfl)
  · have hF := ob_neg c1 hF
    refine lv_aload_n hx hb dX5_here_11 rfl (lv_at hl 0 rfl) ?_
    refine va_get (D := g.1) (ci := 9) (v := .ref (a 7)) (C := RX5) (T := TX5) (N := 23) hx hb hts inX5 hown hK hP 0 rfl rfl 14 (by decide) (hts _ mw_1325) (fun _ h9 => h9) rfl dX5_here_12 ?_
    refine lv_aload_n hx hb dX5_here_15 rfl (lv_at hl 0 rfl) ?_
    refine va_get (D := g.1) (ci := 9) (v := .int (M_at mo)) (C := RX5) (T := TX5) (N := 23) hx hb hts inX5 hown hK hP 0 rfl rfl 20 (by decide) (hts _ mw_1331) (fun _ h9 => h9) rfl dX5_here_16 ?_
    have h2 := inb_in (ck_t hF)
    have hF := ck_s hF
    refine va_iald hx hb hK hP 7 0 rfl rfl h2 dX5_here_19 ?_
    refine lv_goto (tgt := 24) hx hb dX5_here_20 (by decide) ?_
    cases hF
    rw [hQ]
    exact jb_iret hx hb hr hlocks hP hD hS dX5_here_24 rfl (Nat.le_of_ble_eq_true rfl) (Nat.le_of_ble_eq_true rfl)
def F_X5_skips (mo : Mv) (p0 : Int32) : Option (Bool × Mv) := (F_X5_here mo).bind (fun z1 => if z1 = p0 then some (true, (mkM (M_g mo) (M_kept mo) (M_saved mo) (M_before mo) (M_trial mo) (M_counted mo) (M_isSaved mo) (M_changes mo) (M_isWithin mo) (M_isDenied mo) (M_code mo) (M_why mo) (M_detail mo) (M_cause mo) (M_input mo) (M_length mo) (M_fault mo) (M_signs mo) (M_signMany mo) (M_lastOver mo) ((M_at mo) + 1) (M_told mo) (M_toldMany mo))) else some (false, mo))
set_option maxHeartbeats 4000000 in
set_option maxRecDepth 100000 in
theorem c_X5_skips (g : GG) (l : Launch) (a : Nat → Nat) (mo : Mv) (p0 : Int32) (z : Bool × Mv) (hF : F_X5_skips mo p0 = some z) : MI g l yX5_skips cX5_skips 2 (some .boolean) ({ frames := 1, cells := 0, slots := 0, locals := 20 } : Room) [.ref (a 0), .int p0] [wM g a mo] 0 0 (bi z.1) [wM g a z.2] := by
  refine MI.bg (by decide) (Nat.le_of_ble_eq_true rfl) ?_
  intro p e s m below meth c A Q hQ hx hb hr hml hown hts hlocks hmn hK hE hA hP hD hS ls hl
  rw [F_X5_skips] at hF
  have hl : lv_has ls 2 [(0, .ref (a 0)), (1, .int p0)] := hl
  refine lv_aload_n hx hb dX5_skips_0 rfl (lv_at hl 0 rfl) ?_
  obtain ⟨z1, hz1, hF⟩ := ob_bind hF
  refine cl_i (csR := []) (csF := [wM g a mo]) (rest := []) hx hb hml hown hts hK hE hA hl hP hD hS (c_X5_here g l a mo z1 hz1) [0] [] [0] ⟨rfl, rfl, rfl, rfl, rfl, rfl, rfl⟩ ⟨0, 9, _, _, rfl, rfl, rfl⟩ 0 (jb_giV mw_1662 mw_1664 ms_62 mw_10 mw_1665) ⟨rfl, rfl⟩ (by decide +kernel) ⟨⟨(Nat.le_of_ble_eq_true rfl), (Nat.le_of_ble_eq_true rfl)⟩, (Nat.le_of_ble_eq_true rfl), (Nat.le_of_ble_eq_true rfl)⟩ ⟨rfl, rfl⟩ (Nat.le_of_ble_eq_true rfl) dX5_skips_1 (fun H locs hP hD hS => ?_)
  refine lv_iload_n hx hb dX5_skips_4 rfl (lv_at hl 1 rfl) ?_
  refine lv_icmp_eq (tgt := 10) hx hb dX5_skips_5 (by decide) (fun c2 => ?_) (fun c2 => ?_)
  · have hF := ob_pos c2 hF
    refine lv_aload_n hx hb dX5_skips_10 rfl (lv_at hl 0 rfl) ?_
    refine lv_dup hx hb dX5_skips_11 rfl ?_
    refine va_get (D := g.1) (ci := 9) (v := .int (M_at mo)) (C := RX5) (T := TX5) (N := 23) hx hb hts inX5 hown hK hP 0 rfl rfl 20 (by decide) (hts _ mw_1331) (fun _ h9 => h9) rfl dX5_skips_12 ?_
    refine lv_iconst (v := 1) hx hb dX5_skips_15 (by decide) ?_
    refine lv_iadd hx hb dX5_skips_16 ?_
    refine va_put (D := g.1) (ci := 9) (v := .int ((M_at mo) + 1)) (ty := .int) (C := RX5) (T := TX5) (N := 23) hx hb hts inX5 tyX5 tyX5_ok nmX5 hown hK hP hD hS 0 rfl rfl 20 (by decide) (hts _ mw_1331) (fun _ h9 => h9) rfl (by decide +kernel) rfl rfl (Nat.le_of_ble_eq_true rfl) dX5_skips_17 (fun H locs hP hD hS => ?_)
    have hP : va_P g.1 vwCl ([wMc g a (M_g mo) (M_kept mo) (M_saved mo) (M_before mo) (M_trial mo) (M_counted mo) (M_isSaved mo) (M_changes mo) (M_isWithin mo) (M_isDenied mo) (M_code mo) (M_why mo) (M_detail mo) (M_cause mo) (M_input mo) (M_length mo) (M_fault mo) (M_signs mo) (M_signMany mo) (M_lastOver mo) ((M_at mo) + 1) (M_told mo) (M_toldMany mo)] : List va_W).flatten _ := hP
    have hD : va_D A ([wMc g a (M_g mo) (M_kept mo) (M_saved mo) (M_before mo) (M_trial mo) (M_counted mo) (M_isSaved mo) (M_changes mo) (M_isWithin mo) (M_isDenied mo) (M_code mo) (M_why mo) (M_detail mo) (M_cause mo) (M_input mo) (M_length mo) (M_fault mo) (M_signs mo) (M_signMany mo) (M_lastOver mo) ((M_at mo) + 1) (M_told mo) (M_toldMany mo)] : List va_W).flatten := hD
    refine lv_iconst (v := 1) hx hb dX5_skips_20 (by decide) ?_
    cases hF
    rw [hQ]
    exact jb_zret hx hb hr rfl hlocks hP hD hS dX5_skips_21 rfl (Nat.le_of_ble_eq_true rfl) (Nat.le_of_ble_eq_true rfl)
  · have hF := ob_neg c2 hF
    refine lv_iconst (v := 0) hx hb dX5_skips_8 (by decide) ?_
    cases hF
    rw [hQ]
    exact jb_zret hx hb hr rfl hlocks hP hD hS dX5_skips_9 rfl (Nat.le_of_ble_eq_true rfl) (Nat.le_of_ble_eq_true rfl)
def F_X5_figures_L34 (y1 : Int32) (y2 : Int32) (k : Mv → Int32 → Option (Bool × Mv)) : Nat → Mv → Int32 → Option (Bool × Mv)
  | 0, _, _ => none
  | n + 1, b0, x3 => if y2 ≤ x3 then k b0 x3 else (F_X5_here b0).bind (fun z4 => (F_X5_in z4 48 57).bind (fun z5 => if (bi z5) = 0 then k b0 x3 else ck (inb y1 93) ((F_X5_here b0).bind (fun z6 => ck (inb y1 93) (F_X5_figures_L34 y1 y2 k n (mkM (M_g b0) (M_kept b0) (M_saved b0) (M_before b0) (M_trial b0) (M_counted b0) (M_isSaved b0) (M_changes b0) (M_isWithin b0) (M_isDenied b0) (M_code b0) (M_why b0) (M_detail b0) (M_cause b0) (M_input b0) (M_length b0) (M_fault b0) (M_signs b0) (M_signMany b0) (M_lastOver b0) ((M_at b0) + 1) (upd (M_told b0) y1.toNatClampNeg (((10 * ((M_told b0) y1.toNatClampNeg)) + z6) - 48)) (M_toldMany b0)) (x3 + 1))))))
def F_X5_figures (mo : Mv) (p0 : Int32) (p1 : Int32) : Option (Bool × Mv) := (F_X5_skips mo 32).bind (fun z1 => if (bi z1.1) = 0 then some (false, z1.2) else (F_X5_here z1.2).bind (fun z2 => (F_X5_in z2 48 57).bind (fun z3 => if ¬ (bi z3) = 0 then ck (inb p0 93) (F_X5_figures_L34 p0 p1 (fun b7 x8 => some (true, b7)) 1000 (mkM (M_g z1.2) (M_kept z1.2) (M_saved z1.2) (M_before z1.2) (M_trial z1.2) (M_counted z1.2) (M_isSaved z1.2) (M_changes z1.2) (M_isWithin z1.2) (M_isDenied z1.2) (M_code z1.2) (M_why z1.2) (M_detail z1.2) (M_cause z1.2) (M_input z1.2) (M_length z1.2) (M_fault z1.2) (M_signs z1.2) (M_signMany z1.2) (M_lastOver z1.2) (M_at z1.2) (upd (M_told z1.2) p0.toNatClampNeg 0) (M_toldMany z1.2)) 0) else some (false, z1.2))))
set_option maxHeartbeats 4000000 in
set_option maxRecDepth 100000 in
theorem c_X5_figures (g : GG) (l : Launch) (a : Nat → Nat) (mo : Mv) (p0 : Int32) (p1 : Int32) (z : Bool × Mv) (hF : F_X5_figures mo p0 p1 = some z) : MI g l yX5_figures cX5_figures 4 (some .boolean) ({ frames := 2, cells := 0, slots := 0, locals := 41 } : Room) [.ref (a 0), .int p0, .int p1] [wM g a mo] 0 0 (bi z.1) [wM g a z.2] := by
  refine MI.bg (by decide) (Nat.le_of_ble_eq_true rfl) ?_
  intro p e s m below meth c A Q hQ hx hb hr hml hown hts hlocks hmn hK hE hA hP hD hS ls hl
  rw [F_X5_figures] at hF
  have hl : lv_has ls 4 [(0, .ref (a 0)), (1, .int p0), (2, .int p1)] := hl
  refine lv_aload_n hx hb dX5_figures_0 rfl (lv_at hl 0 rfl) ?_
  refine lv_bipush (v := 32) hx hb dX5_figures_1 (by decide) ?_
  obtain ⟨z1, hz1, hF⟩ := ob_bind hF
  refine cl_i (csR := []) (csF := [wM g a z1.2]) (rest := []) hx hb hml hown hts hK hE hA hl hP hD hS (c_X5_skips g l a mo 32 z1 hz1) [0] [] [0] ⟨rfl, rfl, rfl, rfl, rfl, rfl, rfl⟩ ⟨0, 9, _, _, rfl, rfl, rfl⟩ 1 (jb_giV mw_1673 mw_1675 ms_64 mw_10 mw_1676) ⟨rfl, rfl⟩ (by decide +kernel) ⟨⟨(Nat.le_of_ble_eq_true rfl), (Nat.le_of_ble_eq_true rfl)⟩, (Nat.le_of_ble_eq_true rfl), (Nat.le_of_ble_eq_true rfl)⟩ ⟨rfl, rfl⟩ (Nat.le_of_ble_eq_true rfl) dX5_figures_3 (fun H locs hP hD hS => ?_)
  refine lv_if_eq (tgt := 23) hx hb dX5_figures_6 (by decide) (fun c2 => ?_) (fun c2 => ?_)
  · have hF := ob_pos c2 hF
    refine lv_iconst (v := 0) hx hb dX5_figures_23 (by decide) ?_
    cases hF
    rw [hQ]
    exact jb_zret hx hb hr rfl hlocks hP hD hS dX5_figures_24 rfl (Nat.le_of_ble_eq_true rfl) (Nat.le_of_ble_eq_true rfl)
  · have hF := ob_neg c2 hF
    refine lv_aload_n hx hb dX5_figures_9 rfl (lv_at hl 0 rfl) ?_
    obtain ⟨z3, hz3, hF⟩ := ob_bind hF
    refine cl_i (csR := []) (csF := [wM g a z1.2]) (rest := []) hx hb hml hown hts hK hE hA hl hP hD hS (c_X5_here g l a z1.2 z3 hz3) [0] [] [0] ⟨rfl, rfl, rfl, rfl, rfl, rfl, rfl⟩ ⟨0, 9, _, _, rfl, rfl, rfl⟩ 0 (jb_giV mw_1662 mw_1664 ms_62 mw_10 mw_1665) ⟨rfl, rfl⟩ (by decide +kernel) ⟨⟨(Nat.le_of_ble_eq_true rfl), (Nat.le_of_ble_eq_true rfl)⟩, (Nat.le_of_ble_eq_true rfl), (Nat.le_of_ble_eq_true rfl)⟩ ⟨rfl, rfl⟩ (Nat.le_of_ble_eq_true rfl) dX5_figures_10 (fun H locs hP hD hS => ?_)
    refine lv_bipush (v := 48) hx hb dX5_figures_13 (by decide) ?_
    refine lv_bipush (v := 57) hx hb dX5_figures_15 (by decide) ?_
    obtain ⟨z4, hz4, hF⟩ := ob_bind hF
    refine cl_si (csR := [wM g a z1.2]) (csF := [wM g a z1.2]) (rest := []) hx hb hml hown hts hK hE hA hl hP hD hS (c_X5_in g l  z3 48 57 z4 hz4) [] [0] [0] ⟨rfl, rfl, rfl, rfl, rfl, rfl, rfl⟩ 3 (jb_giS mw_1389 mw_1390 mw_10 mw_1391) ⟨rfl, rfl⟩ (by decide +kernel) ⟨⟨(Nat.le_of_ble_eq_true rfl), (Nat.le_of_ble_eq_true rfl)⟩, (Nat.le_of_ble_eq_true rfl), (Nat.le_of_ble_eq_true rfl)⟩ ⟨rfl, rfl⟩ (Nat.le_of_ble_eq_true rfl) dX5_figures_17 (fun H locs hP hD hS => ?_)
    refine lv_if_ne (tgt := 25) hx hb dX5_figures_20 (by decide) (fun c5 => ?_) (fun c5 => ?_)
    · have hF := ob_pos c5 hF
      refine lv_aload_n hx hb dX5_figures_25 rfl (lv_at hl 0 rfl) ?_
      refine va_get (D := g.1) (ci := 9) (v := .ref (a 9)) (C := RX5) (T := TX5) (N := 23) hx hb hts inX5 hown hK hP 0 rfl rfl 21 (by decide) (hts _ mw_1332) (fun _ h9 => h9) rfl dX5_figures_26 ?_
      refine lv_iload_n hx hb dX5_figures_29 rfl (lv_at hl 1 rfl) ?_
      refine lv_iconst (v := 0) hx hb dX5_figures_30 (by decide) ?_
      have h6 := inb_in (ck_t hF)
      have hF := ck_s hF
      refine va_iast hx hb hK hP hD hS 9 0 rfl rfl h6 dX5_figures_31 (fun H locs hP hD hS => ?_)
      have hP : va_P g.1 vwCl ([wMc g a (M_g z1.2) (M_kept z1.2) (M_saved z1.2) (M_before z1.2) (M_trial z1.2) (M_counted z1.2) (M_isSaved z1.2) (M_changes z1.2) (M_isWithin z1.2) (M_isDenied z1.2) (M_code z1.2) (M_why z1.2) (M_detail z1.2) (M_cause z1.2) (M_input z1.2) (M_length z1.2) (M_fault z1.2) (M_signs z1.2) (M_signMany z1.2) (M_lastOver z1.2) (M_at z1.2) (upd (M_told z1.2) p0.toNatClampNeg 0) (M_toldMany z1.2)] : List va_W).flatten _ := hP
      have hD : va_D A ([wMc g a (M_g z1.2) (M_kept z1.2) (M_saved z1.2) (M_before z1.2) (M_trial z1.2) (M_counted z1.2) (M_isSaved z1.2) (M_changes z1.2) (M_isWithin z1.2) (M_isDenied z1.2) (M_code z1.2) (M_why z1.2) (M_detail z1.2) (M_cause z1.2) (M_input z1.2) (M_length z1.2) (M_fault z1.2) (M_signs z1.2) (M_signMany z1.2) (M_lastOver z1.2) (M_at z1.2) (upd (M_told z1.2) p0.toNatClampNeg 0) (M_toldMany z1.2)] : List va_W).flatten := hD
      refine lv_iconst (v := 0) hx hb dX5_figures_32 (by decide) ?_
      refine lv_istore_n (lv' := [(3, .int 0), (0, .ref (a 0)), (1, .int p0), (2, .int p1)]) hx hb dX5_figures_33 rfl hl (by decide) rfl (fun ls hl => ?_)
      obtain ⟨k8, ek8, hF⟩ := ob_k (F := fun k9 => F_X5_figures_L34 p0 p1 k9 1000 (mkM (M_g z1.2) (M_kept z1.2) (M_saved z1.2) (M_before z1.2) (M_trial z1.2) (M_counted z1.2) (M_isSaved z1.2) (M_changes z1.2) (M_isWithin z1.2) (M_isDenied z1.2) (M_code z1.2) (M_why z1.2) (M_detail z1.2) (M_cause z1.2) (M_input z1.2) (M_length z1.2) (M_fault z1.2) (M_signs z1.2) (M_signMany z1.2) (M_lastOver z1.2) (M_at z1.2) (upd (M_told z1.2) p0.toNatClampNeg 0) (M_toldMany z1.2)) 0) hF
      have loop8 : ∀ (n9 : Nat) (b7 : Mv) (x8 : Int32), F_X5_figures_L34 p0 p1 k8 n9 b7 x8 = some z → ∀ (H : Heap) (locs : List Loc), va_P g.1 vwCl ([wM g a b7] : List va_W).flatten H → va_D A ([wM g a b7] : List va_W).flatten → va_S A s.heap H locs → ∀ ls : Array Slot, lv_has ls 4 [(0, .ref (a 0)), (1, .int p0), (2, .int p1), (3, .int x8)] → W p l e ({ frames := 2, cells := 0, slots := 0, locals := 41 } : Room) s m ([.ref (a 0), .int p0, .int p1] : List Value).toArray below meth c H locs 0 0 Q (F0 m 34 ls []) := by
        intro n9
        induction n9 with
        | zero => intro b7 x8 hF; rw [F_X5_figures_L34] at hF; cases hF
        | succ n9 ih8 =>
          intro b7 x8 hF H locs hP hD hS ls hl
          rw [F_X5_figures_L34] at hF
          refine lv_iload_n hx hb dX5_figures_34 rfl (lv_at hl 3 rfl) ?_
          refine lv_iload_n hx hb dX5_figures_35 rfl (lv_at hl 2 rfl) ?_
          refine lv_icmp_ge (tgt := 92) hx hb dX5_figures_36 (by decide) (fun c9 => ?_) (fun c9 => ?_)
          · have hF := ob_pos c9 hF
            rw [ek8] at hF
            refine lv_iconst (v := 1) hx hb dX5_figures_92 (by decide) ?_
            cases hF
            rw [hQ]
            exact jb_zret hx hb hr rfl hlocks hP hD hS dX5_figures_93 rfl (Nat.le_of_ble_eq_true rfl) (Nat.le_of_ble_eq_true rfl)
          · have hF := ob_neg c9 hF
            refine lv_aload_n hx hb dX5_figures_39 rfl (lv_at hl 0 rfl) ?_
            obtain ⟨z10, hz10, hF⟩ := ob_bind hF
            refine cl_i (csR := []) (csF := [wM g a b7]) (rest := []) hx hb hml hown hts hK hE hA hl hP hD hS (c_X5_here g l a b7 z10 hz10) [0] [] [0] ⟨rfl, rfl, rfl, rfl, rfl, rfl, rfl⟩ ⟨0, 9, _, _, rfl, rfl, rfl⟩ 0 (jb_giV mw_1662 mw_1664 ms_62 mw_10 mw_1665) ⟨rfl, rfl⟩ (by decide +kernel) ⟨⟨(Nat.le_of_ble_eq_true rfl), (Nat.le_of_ble_eq_true rfl)⟩, (Nat.le_of_ble_eq_true rfl), (Nat.le_of_ble_eq_true rfl)⟩ ⟨rfl, rfl⟩ (Nat.le_of_ble_eq_true rfl) dX5_figures_40 (fun H locs hP hD hS => ?_)
            refine lv_bipush (v := 48) hx hb dX5_figures_43 (by decide) ?_
            refine lv_bipush (v := 57) hx hb dX5_figures_45 (by decide) ?_
            obtain ⟨z11, hz11, hF⟩ := ob_bind hF
            refine cl_si (csR := [wM g a b7]) (csF := [wM g a b7]) (rest := []) hx hb hml hown hts hK hE hA hl hP hD hS (c_X5_in g l  z10 48 57 z11 hz11) [] [0] [0] ⟨rfl, rfl, rfl, rfl, rfl, rfl, rfl⟩ 3 (jb_giS mw_1389 mw_1390 mw_10 mw_1391) ⟨rfl, rfl⟩ (by decide +kernel) ⟨⟨(Nat.le_of_ble_eq_true rfl), (Nat.le_of_ble_eq_true rfl)⟩, (Nat.le_of_ble_eq_true rfl), (Nat.le_of_ble_eq_true rfl)⟩ ⟨rfl, rfl⟩ (Nat.le_of_ble_eq_true rfl) dX5_figures_47 (fun H locs hP hD hS => ?_)
            refine lv_if_eq (tgt := 92) hx hb dX5_figures_50 (by decide) (fun c12 => ?_) (fun c12 => ?_)
            · have hF := ob_pos c12 hF
              rw [ek8] at hF
              refine lv_iconst (v := 1) hx hb dX5_figures_92 (by decide) ?_
              cases hF
              rw [hQ]
              exact jb_zret hx hb hr rfl hlocks hP hD hS dX5_figures_93 rfl (Nat.le_of_ble_eq_true rfl) (Nat.le_of_ble_eq_true rfl)
            · have hF := ob_neg c12 hF
              refine lv_aload_n hx hb dX5_figures_53 rfl (lv_at hl 0 rfl) ?_
              refine va_get (D := g.1) (ci := 9) (v := .ref (a 9)) (C := RX5) (T := TX5) (N := 23) hx hb hts inX5 hown hK hP 0 rfl rfl 21 (by decide) (hts _ mw_1332) (fun _ h9 => h9) rfl dX5_figures_54 ?_
              refine lv_iload_n hx hb dX5_figures_57 rfl (lv_at hl 1 rfl) ?_
              refine lv_bipush (v := 10) hx hb dX5_figures_58 (by decide) ?_
              refine lv_aload_n hx hb dX5_figures_60 rfl (lv_at hl 0 rfl) ?_
              refine va_get (D := g.1) (ci := 9) (v := .ref (a 9)) (C := RX5) (T := TX5) (N := 23) hx hb hts inX5 hown hK hP 0 rfl rfl 21 (by decide) (hts _ mw_1332) (fun _ h9 => h9) rfl dX5_figures_61 ?_
              refine lv_iload_n hx hb dX5_figures_64 rfl (lv_at hl 1 rfl) ?_
              have h13 := inb_in (ck_t hF)
              have hF := ck_s hF
              refine va_iald hx hb hK hP 9 0 rfl rfl h13 dX5_figures_65 ?_
              refine lv_imul hx hb dX5_figures_66 ?_
              refine lv_aload_n hx hb dX5_figures_67 rfl (lv_at hl 0 rfl) ?_
              obtain ⟨z14, hz14, hF⟩ := ob_bind hF
              refine cl_i (csR := []) (csF := [wM g a b7]) (rest := [.int (10 * ((M_told b7) p0.toNatClampNeg)), .int p0, .ref (a 9)]) hx hb hml hown hts hK hE hA hl hP hD hS (c_X5_here g l a b7 z14 hz14) [0] [] [0] ⟨rfl, rfl, rfl, rfl, rfl, rfl, rfl⟩ ⟨0, 9, _, _, rfl, rfl, rfl⟩ 0 (jb_giV mw_1662 mw_1664 ms_62 mw_10 mw_1665) ⟨rfl, rfl⟩ (by decide +kernel) ⟨⟨(Nat.le_of_ble_eq_true rfl), (Nat.le_of_ble_eq_true rfl)⟩, (Nat.le_of_ble_eq_true rfl), (Nat.le_of_ble_eq_true rfl)⟩ ⟨rfl, rfl⟩ (Nat.le_of_ble_eq_true rfl) dX5_figures_68 (fun H locs hP hD hS => ?_)
              refine lv_iadd hx hb dX5_figures_71 ?_
              refine lv_bipush (v := 48) hx hb dX5_figures_72 (by decide) ?_
              refine lv_isub hx hb dX5_figures_74 ?_
              have h15 := inb_in (ck_t hF)
              have hF := ck_s hF
              refine va_iast hx hb hK hP hD hS 9 0 rfl rfl h15 dX5_figures_75 (fun H locs hP hD hS => ?_)
              have hP : va_P g.1 vwCl ([wMc g a (M_g b7) (M_kept b7) (M_saved b7) (M_before b7) (M_trial b7) (M_counted b7) (M_isSaved b7) (M_changes b7) (M_isWithin b7) (M_isDenied b7) (M_code b7) (M_why b7) (M_detail b7) (M_cause b7) (M_input b7) (M_length b7) (M_fault b7) (M_signs b7) (M_signMany b7) (M_lastOver b7) (M_at b7) (upd (M_told b7) p0.toNatClampNeg (((10 * ((M_told b7) p0.toNatClampNeg)) + z14) - 48)) (M_toldMany b7)] : List va_W).flatten _ := hP
              have hD : va_D A ([wMc g a (M_g b7) (M_kept b7) (M_saved b7) (M_before b7) (M_trial b7) (M_counted b7) (M_isSaved b7) (M_changes b7) (M_isWithin b7) (M_isDenied b7) (M_code b7) (M_why b7) (M_detail b7) (M_cause b7) (M_input b7) (M_length b7) (M_fault b7) (M_signs b7) (M_signMany b7) (M_lastOver b7) (M_at b7) (upd (M_told b7) p0.toNatClampNeg (((10 * ((M_told b7) p0.toNatClampNeg)) + z14) - 48)) (M_toldMany b7)] : List va_W).flatten := hD
              refine lv_aload_n hx hb dX5_figures_76 rfl (lv_at hl 0 rfl) ?_
              refine lv_dup hx hb dX5_figures_77 rfl ?_
              refine va_get (D := g.1) (ci := 9) (v := .int (M_at b7)) (C := RX5) (T := TX5) (N := 23) hx hb hts inX5 hown hK hP 0 rfl rfl 20 (by decide) (hts _ mw_1331) (fun _ h9 => h9) rfl dX5_figures_78 ?_
              refine lv_iconst (v := 1) hx hb dX5_figures_81 (by decide) ?_
              refine lv_iadd hx hb dX5_figures_82 ?_
              refine va_put (D := g.1) (ci := 9) (v := .int ((M_at b7) + 1)) (ty := .int) (C := RX5) (T := TX5) (N := 23) hx hb hts inX5 tyX5 tyX5_ok nmX5 hown hK hP hD hS 0 rfl rfl 20 (by decide) (hts _ mw_1331) (fun _ h9 => h9) rfl (by decide +kernel) rfl rfl (Nat.le_of_ble_eq_true rfl) dX5_figures_83 (fun H locs hP hD hS => ?_)
              have hP : va_P g.1 vwCl ([wMc g a (M_g b7) (M_kept b7) (M_saved b7) (M_before b7) (M_trial b7) (M_counted b7) (M_isSaved b7) (M_changes b7) (M_isWithin b7) (M_isDenied b7) (M_code b7) (M_why b7) (M_detail b7) (M_cause b7) (M_input b7) (M_length b7) (M_fault b7) (M_signs b7) (M_signMany b7) (M_lastOver b7) ((M_at b7) + 1) (upd (M_told b7) p0.toNatClampNeg (((10 * ((M_told b7) p0.toNatClampNeg)) + z14) - 48)) (M_toldMany b7)] : List va_W).flatten _ := hP
              have hD : va_D A ([wMc g a (M_g b7) (M_kept b7) (M_saved b7) (M_before b7) (M_trial b7) (M_counted b7) (M_isSaved b7) (M_changes b7) (M_isWithin b7) (M_isDenied b7) (M_code b7) (M_why b7) (M_detail b7) (M_cause b7) (M_input b7) (M_length b7) (M_fault b7) (M_signs b7) (M_signMany b7) (M_lastOver b7) ((M_at b7) + 1) (upd (M_told b7) p0.toNatClampNeg (((10 * ((M_told b7) p0.toNatClampNeg)) + z14) - 48)) (M_toldMany b7)] : List va_W).flatten := hD
              refine lv_iinc (v := x8 + 1) (lv' := [(3, .int (x8 + 1)), (0, .ref (a 0)), (1, .int p0), (2, .int p1)]) hx hb dX5_figures_86 hl (k := 3) rfl (by rfl) (by decide) rfl (fun ls hl => ?_)
              refine lv_goto (tgt := 34) hx hb dX5_figures_89 (by decide) ?_
              exact ih8 _ _ hF _ _ hP hD hS ls (lv_sub hl [1, 2, 3, 0] rfl)
      exact loop8 1000 _ _ hF _ _ hP hD hS ls (lv_sub hl [1, 2, 3, 0] rfl)
    · have hF := ob_nneg c5 hF
      refine lv_iconst (v := 0) hx hb dX5_figures_23 (by decide) ?_
      cases hF
      rw [hQ]
      exact jb_zret hx hb hr rfl hlocks hP hD hS dX5_figures_24 rfl (Nat.le_of_ble_eq_true rfl) (Nat.le_of_ble_eq_true rfl)
def F_X5_carries (mo : Mv) (p0 : Int32) : Option (Int32 × Mv) := ck (inb (p0 + 1) 93) (ck (inb (p0 + 2) 93) (ck (inb p0 93) (if ((M_told mo) p0.toNatClampNeg) = 101 then (F_X5_enter mo ((M_told mo) (p0 + 1).toNatClampNeg)).bind (fun z1 => some (z1.1, z1.2)) else if ((M_told mo) p0.toNatClampNeg) = 109 then (F_X5_mend mo ((M_told mo) (p0 + 1).toNatClampNeg) ((M_told mo) (p0 + 2).toNatClampNeg)).bind (fun z2 => some (z2.1, z2.2)) else if ((M_told mo) p0.toNatClampNeg) = 112 then (F_X5_pour mo ((M_told mo) (p0 + 1).toNatClampNeg) ((M_told mo) (p0 + 2).toNatClampNeg)).bind (fun z3 => some (z3.1, z3.2)) else if ((M_told mo) p0.toNatClampNeg) = 114 then (F_X5_setRate mo ((M_told mo) (p0 + 1).toNatClampNeg)).bind (fun z4 => some (z4.1, z4.2)) else if ((M_told mo) p0.toNatClampNeg) = 115 then (F_X5_addSpan mo ((M_told mo) (p0 + 1).toNatClampNeg)).bind (fun z5 => some (z5.1, z5.2)) else if ((M_told mo) p0.toNatClampNeg) = 119 then (F_X5_pass mo ((M_told mo) (p0 + 1).toNatClampNeg)).bind (fun z6 => some (z6.1, z6.2)) else (F_X5_removeLastSpan mo).bind (fun z7 => some (z7.1, z7.2)))))
set_option maxHeartbeats 4000000 in
set_option maxRecDepth 100000 in
theorem c_X5_carries (g : GG) (l : Launch) (a : Nat → Nat) (mo : Mv) (p0 : Int32) (z : Int32 × Mv) (hF : F_X5_carries mo p0 = some z) : MI g l yX5_carries cX5_carries 4 (some .int) ({ frames := 7, cells := 0, slots := 0, locals := 153 } : Room) [.ref (a 0), .int p0] [wM g a mo] 0 0 z.1 [wM g a z.2] := by
  refine MI.bg (by decide) (Nat.le_of_ble_eq_true rfl) ?_
  intro p e s m below meth c A Q hQ hx hb hr hml hown hts hlocks hmn hK hE hA hP hD hS ls hl
  rw [F_X5_carries] at hF
  have hl : lv_has ls 4 [(0, .ref (a 0)), (1, .int p0)] := hl
  refine lv_aload_n hx hb dX5_carries_0 rfl (lv_at hl 0 rfl) ?_
  refine va_get (D := g.1) (ci := 9) (v := .ref (a 9)) (C := RX5) (T := TX5) (N := 23) hx hb hts inX5 hown hK hP 0 rfl rfl 21 (by decide) (hts _ mw_1332) (fun _ h9 => h9) rfl dX5_carries_1 ?_
  refine lv_iload_n hx hb dX5_carries_4 rfl (lv_at hl 1 rfl) ?_
  refine lv_iconst (v := 1) hx hb dX5_carries_5 (by decide) ?_
  refine lv_iadd hx hb dX5_carries_6 ?_
  have h1 := inb_in (ck_t hF)
  have hF := ck_s hF
  refine va_iald hx hb hK hP 9 0 rfl rfl h1 dX5_carries_7 ?_
  refine lv_istore_n (lv' := [(2, .int ((M_told mo) (p0 + 1).toNatClampNeg)), (0, .ref (a 0)), (1, .int p0)]) hx hb dX5_carries_8 rfl hl (by decide) rfl (fun ls hl => ?_)
  refine lv_aload_n hx hb dX5_carries_9 rfl (lv_at hl 1 rfl) ?_
  refine va_get (D := g.1) (ci := 9) (v := .ref (a 9)) (C := RX5) (T := TX5) (N := 23) hx hb hts inX5 hown hK hP 0 rfl rfl 21 (by decide) (hts _ mw_1332) (fun _ h9 => h9) rfl dX5_carries_10 ?_
  refine lv_iload_n hx hb dX5_carries_13 rfl (lv_at hl 2 rfl) ?_
  refine lv_iconst (v := 2) hx hb dX5_carries_14 (by decide) ?_
  refine lv_iadd hx hb dX5_carries_15 ?_
  have h2 := inb_in (ck_t hF)
  have hF := ck_s hF
  refine va_iald hx hb hK hP 9 0 rfl rfl h2 dX5_carries_16 ?_
  refine lv_istore_n (lv' := [(3, .int ((M_told mo) (p0 + 2).toNatClampNeg)), (2, .int ((M_told mo) (p0 + 1).toNatClampNeg)), (0, .ref (a 0)), (1, .int p0)]) hx hb dX5_carries_17 rfl hl (by decide) rfl (fun ls hl => ?_)
  refine lv_aload_n hx hb dX5_carries_18 rfl (lv_at hl 2 rfl) ?_
  refine va_get (D := g.1) (ci := 9) (v := .ref (a 9)) (C := RX5) (T := TX5) (N := 23) hx hb hts inX5 hown hK hP 0 rfl rfl 21 (by decide) (hts _ mw_1332) (fun _ h9 => h9) rfl dX5_carries_19 ?_
  refine lv_iload_n hx hb dX5_carries_22 rfl (lv_at hl 3 rfl) ?_
  have h3 := inb_in (ck_t hF)
  have hF := ck_s hF
  refine va_iald hx hb hK hP 9 0 rfl rfl h3 dX5_carries_23 ?_
  by_cases s4 : ((M_told mo) p0.toNatClampNeg) = 101
  · have hF := ob_pos s4 hF
    refine lv_tableIn (off := 105) (tgt := 129) hx hb dX5_carries_24 (by rw [s4]; decide) (by rw [s4]; decide) (by rw [s4]; rfl) (by decide) ?_
    refine lv_aload_n hx hb dX5_carries_129 rfl (lv_at hl 2 rfl) ?_
    refine lv_iload_n hx hb dX5_carries_130 rfl (lv_at hl 1 rfl) ?_
    obtain ⟨z5, hz5, hF⟩ := ob_bind hF
    refine cl_i (csR := []) (csF := [wM g a z5.2]) (rest := []) hx hb hml hown hts hK hE hA hl hP hD hS (c_X5_enter g l a mo ((M_told mo) (p0 + 1).toNatClampNeg) z5 hz5) [0] [] [0] ⟨rfl, rfl, rfl, rfl, rfl, rfl, rfl⟩ ⟨0, 9, _, _, rfl, rfl, rfl⟩ 1 (jb_giV mw_1693 mw_1515 mw_1516 mw_10 mw_1517) ⟨rfl, rfl⟩ (by decide +kernel) ⟨⟨(Nat.le_of_ble_eq_true rfl), (Nat.le_of_ble_eq_true rfl)⟩, (Nat.le_of_ble_eq_true rfl), (Nat.le_of_ble_eq_true rfl)⟩ ⟨rfl, rfl⟩ (Nat.le_of_ble_eq_true rfl) dX5_carries_131 (fun H locs hP hD hS => ?_)
    cases hF
    rw [hQ]
    exact jb_iret hx hb hr hlocks hP hD hS dX5_carries_134 rfl (Nat.le_of_ble_eq_true rfl) (Nat.le_of_ble_eq_true rfl)
  · have hF := ob_neg s4 hF
    by_cases s6 : ((M_told mo) p0.toNatClampNeg) = 109
    · have hF := ob_pos s6 hF
      refine lv_tableIn (off := 111) (tgt := 135) hx hb dX5_carries_24 (by rw [s6]; decide) (by rw [s6]; decide) (by rw [s6]; rfl) (by decide) ?_
      refine lv_aload_n hx hb dX5_carries_135 rfl (lv_at hl 2 rfl) ?_
      refine lv_iload_n hx hb dX5_carries_136 rfl (lv_at hl 1 rfl) ?_
      refine lv_iload_n hx hb dX5_carries_137 rfl (lv_at hl 0 rfl) ?_
      obtain ⟨z7, hz7, hF⟩ := ob_bind hF
      refine cl_i (csR := []) (csF := [wM g a z7.2]) (rest := []) hx hb hml hown hts hK hE hA hl hP hD hS (c_X5_mend g l a mo ((M_told mo) (p0 + 1).toNatClampNeg) ((M_told mo) (p0 + 2).toNatClampNeg) z7 hz7) [0] [] [0] ⟨rfl, rfl, rfl, rfl, rfl, rfl, rfl⟩ ⟨0, 9, _, _, rfl, rfl, rfl⟩ 2 (jb_giV mw_1694 mw_1428 mw_1429 mw_10 mw_1430) ⟨rfl, rfl⟩ (by decide +kernel) ⟨⟨(Nat.le_of_ble_eq_true rfl), (Nat.le_of_ble_eq_true rfl)⟩, (Nat.le_of_ble_eq_true rfl), (Nat.le_of_ble_eq_true rfl)⟩ ⟨rfl, rfl⟩ (Nat.le_of_ble_eq_true rfl) dX5_carries_138 (fun H locs hP hD hS => ?_)
      cases hF
      rw [hQ]
      exact jb_iret hx hb hr hlocks hP hD hS dX5_carries_141 rfl (Nat.le_of_ble_eq_true rfl) (Nat.le_of_ble_eq_true rfl)
    · have hF := ob_neg s6 hF
      by_cases s8 : ((M_told mo) p0.toNatClampNeg) = 112
      · have hF := ob_pos s8 hF
        refine lv_tableIn (off := 98) (tgt := 122) hx hb dX5_carries_24 (by rw [s8]; decide) (by rw [s8]; decide) (by rw [s8]; rfl) (by decide) ?_
        refine lv_aload_n hx hb dX5_carries_122 rfl (lv_at hl 2 rfl) ?_
        refine lv_iload_n hx hb dX5_carries_123 rfl (lv_at hl 1 rfl) ?_
        refine lv_iload_n hx hb dX5_carries_124 rfl (lv_at hl 0 rfl) ?_
        obtain ⟨z9, hz9, hF⟩ := ob_bind hF
        refine cl_i (csR := []) (csF := [wM g a z9.2]) (rest := []) hx hb hml hown hts hK hE hA hl hP hD hS (c_X5_pour g l a mo ((M_told mo) (p0 + 1).toNatClampNeg) ((M_told mo) (p0 + 2).toNatClampNeg) z9 hz9) [0] [] [0] ⟨rfl, rfl, rfl, rfl, rfl, rfl, rfl⟩ ⟨0, 9, _, _, rfl, rfl, rfl⟩ 2 (jb_giV mw_1692 mw_1420 mw_1421 mw_10 mw_1422) ⟨rfl, rfl⟩ (by decide +kernel) ⟨⟨(Nat.le_of_ble_eq_true rfl), (Nat.le_of_ble_eq_true rfl)⟩, (Nat.le_of_ble_eq_true rfl), (Nat.le_of_ble_eq_true rfl)⟩ ⟨rfl, rfl⟩ (Nat.le_of_ble_eq_true rfl) dX5_carries_125 (fun H locs hP hD hS => ?_)
        cases hF
        rw [hQ]
        exact jb_iret hx hb hr hlocks hP hD hS dX5_carries_128 rfl (Nat.le_of_ble_eq_true rfl) (Nat.le_of_ble_eq_true rfl)
      · have hF := ob_neg s8 hF
        by_cases s10 : ((M_told mo) p0.toNatClampNeg) = 114
        · have hF := ob_pos s10 hF
          refine lv_tableIn (off := 118) (tgt := 142) hx hb dX5_carries_24 (by rw [s10]; decide) (by rw [s10]; decide) (by rw [s10]; rfl) (by decide) ?_
          refine lv_aload_n hx hb dX5_carries_142 rfl (lv_at hl 2 rfl) ?_
          refine lv_iload_n hx hb dX5_carries_143 rfl (lv_at hl 1 rfl) ?_
          obtain ⟨z11, hz11, hF⟩ := ob_bind hF
          refine cl_i (csR := []) (csF := [wM g a z11.2]) (rest := []) hx hb hml hown hts hK hE hA hl hP hD hS (c_X5_setRate g l a mo ((M_told mo) (p0 + 1).toNatClampNeg) z11 hz11) [0] [] [0] ⟨rfl, rfl, rfl, rfl, rfl, rfl, rfl⟩ ⟨0, 9, _, _, rfl, rfl, rfl⟩ 1 (jb_giV mw_1695 mw_1559 mw_1560 mw_10 mw_1561) ⟨rfl, rfl⟩ (by decide +kernel) ⟨⟨(Nat.le_of_ble_eq_true rfl), (Nat.le_of_ble_eq_true rfl)⟩, (Nat.le_of_ble_eq_true rfl), (Nat.le_of_ble_eq_true rfl)⟩ ⟨rfl, rfl⟩ (Nat.le_of_ble_eq_true rfl) dX5_carries_144 (fun H locs hP hD hS => ?_)
          cases hF
          rw [hQ]
          exact jb_iret hx hb hr hlocks hP hD hS dX5_carries_147 rfl (Nat.le_of_ble_eq_true rfl) (Nat.le_of_ble_eq_true rfl)
        · have hF := ob_neg s10 hF
          by_cases s12 : ((M_told mo) p0.toNatClampNeg) = 115
          · have hF := ob_pos s12 hF
            refine lv_tableIn (off := 92) (tgt := 116) hx hb dX5_carries_24 (by rw [s12]; decide) (by rw [s12]; decide) (by rw [s12]; rfl) (by decide) ?_
            refine lv_aload_n hx hb dX5_carries_116 rfl (lv_at hl 2 rfl) ?_
            refine lv_iload_n hx hb dX5_carries_117 rfl (lv_at hl 1 rfl) ?_
            obtain ⟨z13, hz13, hF⟩ := ob_bind hF
            refine cl_i (csR := []) (csF := [wM g a z13.2]) (rest := []) hx hb hml hown hts hK hE hA hl hP hD hS (c_X5_addSpan g l a mo ((M_told mo) (p0 + 1).toNatClampNeg) z13 hz13) [0] [] [0] ⟨rfl, rfl, rfl, rfl, rfl, rfl, rfl⟩ ⟨0, 9, _, _, rfl, rfl, rfl⟩ 1 (jb_giV mw_1691 mw_1386 mw_1387 mw_10 mw_1388) ⟨rfl, rfl⟩ (by decide +kernel) ⟨⟨(Nat.le_of_ble_eq_true rfl), (Nat.le_of_ble_eq_true rfl)⟩, (Nat.le_of_ble_eq_true rfl), (Nat.le_of_ble_eq_true rfl)⟩ ⟨rfl, rfl⟩ (Nat.le_of_ble_eq_true rfl) dX5_carries_118 (fun H locs hP hD hS => ?_)
            cases hF
            rw [hQ]
            exact jb_iret hx hb hr hlocks hP hD hS dX5_carries_121 rfl (Nat.le_of_ble_eq_true rfl) (Nat.le_of_ble_eq_true rfl)
          · have hF := ob_neg s12 hF
            by_cases s14 : ((M_told mo) p0.toNatClampNeg) = 119
            · have hF := ob_pos s14 hF
              refine lv_tableIn (off := 124) (tgt := 148) hx hb dX5_carries_24 (by rw [s14]; decide) (by rw [s14]; decide) (by rw [s14]; rfl) (by decide) ?_
              refine lv_aload_n hx hb dX5_carries_148 rfl (lv_at hl 2 rfl) ?_
              refine lv_iload_n hx hb dX5_carries_149 rfl (lv_at hl 1 rfl) ?_
              obtain ⟨z15, hz15, hF⟩ := ob_bind hF
              refine cl_i (csR := []) (csF := [wM g a z15.2]) (rest := []) hx hb hml hown hts hK hE hA hl hP hD hS (c_X5_pass g l a mo ((M_told mo) (p0 + 1).toNatClampNeg) z15 hz15) [0] [] [0] ⟨rfl, rfl, rfl, rfl, rfl, rfl, rfl⟩ ⟨0, 9, _, _, rfl, rfl, rfl⟩ 1 (jb_giV mw_1696 mw_1519 mw_1520 mw_10 mw_1521) ⟨rfl, rfl⟩ (by decide +kernel) ⟨⟨(Nat.le_of_ble_eq_true rfl), (Nat.le_of_ble_eq_true rfl)⟩, (Nat.le_of_ble_eq_true rfl), (Nat.le_of_ble_eq_true rfl)⟩ ⟨rfl, rfl⟩ (Nat.le_of_ble_eq_true rfl) dX5_carries_150 (fun H locs hP hD hS => ?_)
              cases hF
              rw [hQ]
              exact jb_iret hx hb hr hlocks hP hD hS dX5_carries_153 rfl (Nat.le_of_ble_eq_true rfl) (Nat.le_of_ble_eq_true rfl)
            · have hF := ob_neg s14 hF
              by_cases s16 : ((M_told mo) p0.toNatClampNeg) = 102
              · refine lv_tableIn (off := 130) (tgt := 154) hx hb dX5_carries_24 (by rw [s16]; decide) (by rw [s16]; decide) (by rw [s16]; rfl) (by decide) ?_
                refine lv_aload_n hx hb dX5_carries_154 rfl (lv_at hl 2 rfl) ?_
                obtain ⟨z17, hz17, hF⟩ := ob_bind hF
                refine cl_i (csR := []) (csF := [wM g a z17.2]) (rest := []) hx hb hml hown hts hK hE hA hl hP hD hS (c_X5_removeLastSpan g l a mo z17 hz17) [0] [] [0] ⟨rfl, rfl, rfl, rfl, rfl, rfl, rfl⟩ ⟨0, 9, _, _, rfl, rfl, rfl⟩ 0 (jb_giV mw_1697 mw_1412 mw_1413 mw_10 mw_1414) ⟨rfl, rfl⟩ (by decide +kernel) ⟨⟨(Nat.le_of_ble_eq_true rfl), (Nat.le_of_ble_eq_true rfl)⟩, (Nat.le_of_ble_eq_true rfl), (Nat.le_of_ble_eq_true rfl)⟩ ⟨rfl, rfl⟩ (Nat.le_of_ble_eq_true rfl) dX5_carries_155 (fun H locs hP hD hS => ?_)
                cases hF
                rw [hQ]
                exact jb_iret hx hb hr hlocks hP hD hS dX5_carries_158 rfl (Nat.le_of_ble_eq_true rfl) (Nat.le_of_ble_eq_true rfl)
              by_cases s18 : ((M_told mo) p0.toNatClampNeg) = 103
              · refine lv_tableIn (off := 130) (tgt := 154) hx hb dX5_carries_24 (by rw [s18]; decide) (by rw [s18]; decide) (by rw [s18]; rfl) (by decide) ?_
                refine lv_aload_n hx hb dX5_carries_154 rfl (lv_at hl 2 rfl) ?_
                obtain ⟨z19, hz19, hF⟩ := ob_bind hF
                refine cl_i (csR := []) (csF := [wM g a z19.2]) (rest := []) hx hb hml hown hts hK hE hA hl hP hD hS (c_X5_removeLastSpan g l a mo z19 hz19) [0] [] [0] ⟨rfl, rfl, rfl, rfl, rfl, rfl, rfl⟩ ⟨0, 9, _, _, rfl, rfl, rfl⟩ 0 (jb_giV mw_1697 mw_1412 mw_1413 mw_10 mw_1414) ⟨rfl, rfl⟩ (by decide +kernel) ⟨⟨(Nat.le_of_ble_eq_true rfl), (Nat.le_of_ble_eq_true rfl)⟩, (Nat.le_of_ble_eq_true rfl), (Nat.le_of_ble_eq_true rfl)⟩ ⟨rfl, rfl⟩ (Nat.le_of_ble_eq_true rfl) dX5_carries_155 (fun H locs hP hD hS => ?_)
                cases hF
                rw [hQ]
                exact jb_iret hx hb hr hlocks hP hD hS dX5_carries_158 rfl (Nat.le_of_ble_eq_true rfl) (Nat.le_of_ble_eq_true rfl)
              by_cases s20 : ((M_told mo) p0.toNatClampNeg) = 104
              · refine lv_tableIn (off := 130) (tgt := 154) hx hb dX5_carries_24 (by rw [s20]; decide) (by rw [s20]; decide) (by rw [s20]; rfl) (by decide) ?_
                refine lv_aload_n hx hb dX5_carries_154 rfl (lv_at hl 2 rfl) ?_
                obtain ⟨z21, hz21, hF⟩ := ob_bind hF
                refine cl_i (csR := []) (csF := [wM g a z21.2]) (rest := []) hx hb hml hown hts hK hE hA hl hP hD hS (c_X5_removeLastSpan g l a mo z21 hz21) [0] [] [0] ⟨rfl, rfl, rfl, rfl, rfl, rfl, rfl⟩ ⟨0, 9, _, _, rfl, rfl, rfl⟩ 0 (jb_giV mw_1697 mw_1412 mw_1413 mw_10 mw_1414) ⟨rfl, rfl⟩ (by decide +kernel) ⟨⟨(Nat.le_of_ble_eq_true rfl), (Nat.le_of_ble_eq_true rfl)⟩, (Nat.le_of_ble_eq_true rfl), (Nat.le_of_ble_eq_true rfl)⟩ ⟨rfl, rfl⟩ (Nat.le_of_ble_eq_true rfl) dX5_carries_155 (fun H locs hP hD hS => ?_)
                cases hF
                rw [hQ]
                exact jb_iret hx hb hr hlocks hP hD hS dX5_carries_158 rfl (Nat.le_of_ble_eq_true rfl) (Nat.le_of_ble_eq_true rfl)
              by_cases s22 : ((M_told mo) p0.toNatClampNeg) = 105
              · refine lv_tableIn (off := 130) (tgt := 154) hx hb dX5_carries_24 (by rw [s22]; decide) (by rw [s22]; decide) (by rw [s22]; rfl) (by decide) ?_
                refine lv_aload_n hx hb dX5_carries_154 rfl (lv_at hl 2 rfl) ?_
                obtain ⟨z23, hz23, hF⟩ := ob_bind hF
                refine cl_i (csR := []) (csF := [wM g a z23.2]) (rest := []) hx hb hml hown hts hK hE hA hl hP hD hS (c_X5_removeLastSpan g l a mo z23 hz23) [0] [] [0] ⟨rfl, rfl, rfl, rfl, rfl, rfl, rfl⟩ ⟨0, 9, _, _, rfl, rfl, rfl⟩ 0 (jb_giV mw_1697 mw_1412 mw_1413 mw_10 mw_1414) ⟨rfl, rfl⟩ (by decide +kernel) ⟨⟨(Nat.le_of_ble_eq_true rfl), (Nat.le_of_ble_eq_true rfl)⟩, (Nat.le_of_ble_eq_true rfl), (Nat.le_of_ble_eq_true rfl)⟩ ⟨rfl, rfl⟩ (Nat.le_of_ble_eq_true rfl) dX5_carries_155 (fun H locs hP hD hS => ?_)
                cases hF
                rw [hQ]
                exact jb_iret hx hb hr hlocks hP hD hS dX5_carries_158 rfl (Nat.le_of_ble_eq_true rfl) (Nat.le_of_ble_eq_true rfl)
              by_cases s24 : ((M_told mo) p0.toNatClampNeg) = 106
              · refine lv_tableIn (off := 130) (tgt := 154) hx hb dX5_carries_24 (by rw [s24]; decide) (by rw [s24]; decide) (by rw [s24]; rfl) (by decide) ?_
                refine lv_aload_n hx hb dX5_carries_154 rfl (lv_at hl 2 rfl) ?_
                obtain ⟨z25, hz25, hF⟩ := ob_bind hF
                refine cl_i (csR := []) (csF := [wM g a z25.2]) (rest := []) hx hb hml hown hts hK hE hA hl hP hD hS (c_X5_removeLastSpan g l a mo z25 hz25) [0] [] [0] ⟨rfl, rfl, rfl, rfl, rfl, rfl, rfl⟩ ⟨0, 9, _, _, rfl, rfl, rfl⟩ 0 (jb_giV mw_1697 mw_1412 mw_1413 mw_10 mw_1414) ⟨rfl, rfl⟩ (by decide +kernel) ⟨⟨(Nat.le_of_ble_eq_true rfl), (Nat.le_of_ble_eq_true rfl)⟩, (Nat.le_of_ble_eq_true rfl), (Nat.le_of_ble_eq_true rfl)⟩ ⟨rfl, rfl⟩ (Nat.le_of_ble_eq_true rfl) dX5_carries_155 (fun H locs hP hD hS => ?_)
                cases hF
                rw [hQ]
                exact jb_iret hx hb hr hlocks hP hD hS dX5_carries_158 rfl (Nat.le_of_ble_eq_true rfl) (Nat.le_of_ble_eq_true rfl)
              by_cases s26 : ((M_told mo) p0.toNatClampNeg) = 107
              · refine lv_tableIn (off := 130) (tgt := 154) hx hb dX5_carries_24 (by rw [s26]; decide) (by rw [s26]; decide) (by rw [s26]; rfl) (by decide) ?_
                refine lv_aload_n hx hb dX5_carries_154 rfl (lv_at hl 2 rfl) ?_
                obtain ⟨z27, hz27, hF⟩ := ob_bind hF
                refine cl_i (csR := []) (csF := [wM g a z27.2]) (rest := []) hx hb hml hown hts hK hE hA hl hP hD hS (c_X5_removeLastSpan g l a mo z27 hz27) [0] [] [0] ⟨rfl, rfl, rfl, rfl, rfl, rfl, rfl⟩ ⟨0, 9, _, _, rfl, rfl, rfl⟩ 0 (jb_giV mw_1697 mw_1412 mw_1413 mw_10 mw_1414) ⟨rfl, rfl⟩ (by decide +kernel) ⟨⟨(Nat.le_of_ble_eq_true rfl), (Nat.le_of_ble_eq_true rfl)⟩, (Nat.le_of_ble_eq_true rfl), (Nat.le_of_ble_eq_true rfl)⟩ ⟨rfl, rfl⟩ (Nat.le_of_ble_eq_true rfl) dX5_carries_155 (fun H locs hP hD hS => ?_)
                cases hF
                rw [hQ]
                exact jb_iret hx hb hr hlocks hP hD hS dX5_carries_158 rfl (Nat.le_of_ble_eq_true rfl) (Nat.le_of_ble_eq_true rfl)
              by_cases s28 : ((M_told mo) p0.toNatClampNeg) = 108
              · refine lv_tableIn (off := 130) (tgt := 154) hx hb dX5_carries_24 (by rw [s28]; decide) (by rw [s28]; decide) (by rw [s28]; rfl) (by decide) ?_
                refine lv_aload_n hx hb dX5_carries_154 rfl (lv_at hl 2 rfl) ?_
                obtain ⟨z29, hz29, hF⟩ := ob_bind hF
                refine cl_i (csR := []) (csF := [wM g a z29.2]) (rest := []) hx hb hml hown hts hK hE hA hl hP hD hS (c_X5_removeLastSpan g l a mo z29 hz29) [0] [] [0] ⟨rfl, rfl, rfl, rfl, rfl, rfl, rfl⟩ ⟨0, 9, _, _, rfl, rfl, rfl⟩ 0 (jb_giV mw_1697 mw_1412 mw_1413 mw_10 mw_1414) ⟨rfl, rfl⟩ (by decide +kernel) ⟨⟨(Nat.le_of_ble_eq_true rfl), (Nat.le_of_ble_eq_true rfl)⟩, (Nat.le_of_ble_eq_true rfl), (Nat.le_of_ble_eq_true rfl)⟩ ⟨rfl, rfl⟩ (Nat.le_of_ble_eq_true rfl) dX5_carries_155 (fun H locs hP hD hS => ?_)
                cases hF
                rw [hQ]
                exact jb_iret hx hb hr hlocks hP hD hS dX5_carries_158 rfl (Nat.le_of_ble_eq_true rfl) (Nat.le_of_ble_eq_true rfl)
              by_cases s30 : ((M_told mo) p0.toNatClampNeg) = 110
              · refine lv_tableIn (off := 130) (tgt := 154) hx hb dX5_carries_24 (by rw [s30]; decide) (by rw [s30]; decide) (by rw [s30]; rfl) (by decide) ?_
                refine lv_aload_n hx hb dX5_carries_154 rfl (lv_at hl 2 rfl) ?_
                obtain ⟨z31, hz31, hF⟩ := ob_bind hF
                refine cl_i (csR := []) (csF := [wM g a z31.2]) (rest := []) hx hb hml hown hts hK hE hA hl hP hD hS (c_X5_removeLastSpan g l a mo z31 hz31) [0] [] [0] ⟨rfl, rfl, rfl, rfl, rfl, rfl, rfl⟩ ⟨0, 9, _, _, rfl, rfl, rfl⟩ 0 (jb_giV mw_1697 mw_1412 mw_1413 mw_10 mw_1414) ⟨rfl, rfl⟩ (by decide +kernel) ⟨⟨(Nat.le_of_ble_eq_true rfl), (Nat.le_of_ble_eq_true rfl)⟩, (Nat.le_of_ble_eq_true rfl), (Nat.le_of_ble_eq_true rfl)⟩ ⟨rfl, rfl⟩ (Nat.le_of_ble_eq_true rfl) dX5_carries_155 (fun H locs hP hD hS => ?_)
                cases hF
                rw [hQ]
                exact jb_iret hx hb hr hlocks hP hD hS dX5_carries_158 rfl (Nat.le_of_ble_eq_true rfl) (Nat.le_of_ble_eq_true rfl)
              by_cases s32 : ((M_told mo) p0.toNatClampNeg) = 111
              · refine lv_tableIn (off := 130) (tgt := 154) hx hb dX5_carries_24 (by rw [s32]; decide) (by rw [s32]; decide) (by rw [s32]; rfl) (by decide) ?_
                refine lv_aload_n hx hb dX5_carries_154 rfl (lv_at hl 2 rfl) ?_
                obtain ⟨z33, hz33, hF⟩ := ob_bind hF
                refine cl_i (csR := []) (csF := [wM g a z33.2]) (rest := []) hx hb hml hown hts hK hE hA hl hP hD hS (c_X5_removeLastSpan g l a mo z33 hz33) [0] [] [0] ⟨rfl, rfl, rfl, rfl, rfl, rfl, rfl⟩ ⟨0, 9, _, _, rfl, rfl, rfl⟩ 0 (jb_giV mw_1697 mw_1412 mw_1413 mw_10 mw_1414) ⟨rfl, rfl⟩ (by decide +kernel) ⟨⟨(Nat.le_of_ble_eq_true rfl), (Nat.le_of_ble_eq_true rfl)⟩, (Nat.le_of_ble_eq_true rfl), (Nat.le_of_ble_eq_true rfl)⟩ ⟨rfl, rfl⟩ (Nat.le_of_ble_eq_true rfl) dX5_carries_155 (fun H locs hP hD hS => ?_)
                cases hF
                rw [hQ]
                exact jb_iret hx hb hr hlocks hP hD hS dX5_carries_158 rfl (Nat.le_of_ble_eq_true rfl) (Nat.le_of_ble_eq_true rfl)
              by_cases s34 : ((M_told mo) p0.toNatClampNeg) = 113
              · refine lv_tableIn (off := 130) (tgt := 154) hx hb dX5_carries_24 (by rw [s34]; decide) (by rw [s34]; decide) (by rw [s34]; rfl) (by decide) ?_
                refine lv_aload_n hx hb dX5_carries_154 rfl (lv_at hl 2 rfl) ?_
                obtain ⟨z35, hz35, hF⟩ := ob_bind hF
                refine cl_i (csR := []) (csF := [wM g a z35.2]) (rest := []) hx hb hml hown hts hK hE hA hl hP hD hS (c_X5_removeLastSpan g l a mo z35 hz35) [0] [] [0] ⟨rfl, rfl, rfl, rfl, rfl, rfl, rfl⟩ ⟨0, 9, _, _, rfl, rfl, rfl⟩ 0 (jb_giV mw_1697 mw_1412 mw_1413 mw_10 mw_1414) ⟨rfl, rfl⟩ (by decide +kernel) ⟨⟨(Nat.le_of_ble_eq_true rfl), (Nat.le_of_ble_eq_true rfl)⟩, (Nat.le_of_ble_eq_true rfl), (Nat.le_of_ble_eq_true rfl)⟩ ⟨rfl, rfl⟩ (Nat.le_of_ble_eq_true rfl) dX5_carries_155 (fun H locs hP hD hS => ?_)
                cases hF
                rw [hQ]
                exact jb_iret hx hb hr hlocks hP hD hS dX5_carries_158 rfl (Nat.le_of_ble_eq_true rfl) (Nat.le_of_ble_eq_true rfl)
              by_cases s36 : ((M_told mo) p0.toNatClampNeg) = 116
              · refine lv_tableIn (off := 130) (tgt := 154) hx hb dX5_carries_24 (by rw [s36]; decide) (by rw [s36]; decide) (by rw [s36]; rfl) (by decide) ?_
                refine lv_aload_n hx hb dX5_carries_154 rfl (lv_at hl 2 rfl) ?_
                obtain ⟨z37, hz37, hF⟩ := ob_bind hF
                refine cl_i (csR := []) (csF := [wM g a z37.2]) (rest := []) hx hb hml hown hts hK hE hA hl hP hD hS (c_X5_removeLastSpan g l a mo z37 hz37) [0] [] [0] ⟨rfl, rfl, rfl, rfl, rfl, rfl, rfl⟩ ⟨0, 9, _, _, rfl, rfl, rfl⟩ 0 (jb_giV mw_1697 mw_1412 mw_1413 mw_10 mw_1414) ⟨rfl, rfl⟩ (by decide +kernel) ⟨⟨(Nat.le_of_ble_eq_true rfl), (Nat.le_of_ble_eq_true rfl)⟩, (Nat.le_of_ble_eq_true rfl), (Nat.le_of_ble_eq_true rfl)⟩ ⟨rfl, rfl⟩ (Nat.le_of_ble_eq_true rfl) dX5_carries_155 (fun H locs hP hD hS => ?_)
                cases hF
                rw [hQ]
                exact jb_iret hx hb hr hlocks hP hD hS dX5_carries_158 rfl (Nat.le_of_ble_eq_true rfl) (Nat.le_of_ble_eq_true rfl)
              by_cases s38 : ((M_told mo) p0.toNatClampNeg) = 117
              · refine lv_tableIn (off := 130) (tgt := 154) hx hb dX5_carries_24 (by rw [s38]; decide) (by rw [s38]; decide) (by rw [s38]; rfl) (by decide) ?_
                refine lv_aload_n hx hb dX5_carries_154 rfl (lv_at hl 2 rfl) ?_
                obtain ⟨z39, hz39, hF⟩ := ob_bind hF
                refine cl_i (csR := []) (csF := [wM g a z39.2]) (rest := []) hx hb hml hown hts hK hE hA hl hP hD hS (c_X5_removeLastSpan g l a mo z39 hz39) [0] [] [0] ⟨rfl, rfl, rfl, rfl, rfl, rfl, rfl⟩ ⟨0, 9, _, _, rfl, rfl, rfl⟩ 0 (jb_giV mw_1697 mw_1412 mw_1413 mw_10 mw_1414) ⟨rfl, rfl⟩ (by decide +kernel) ⟨⟨(Nat.le_of_ble_eq_true rfl), (Nat.le_of_ble_eq_true rfl)⟩, (Nat.le_of_ble_eq_true rfl), (Nat.le_of_ble_eq_true rfl)⟩ ⟨rfl, rfl⟩ (Nat.le_of_ble_eq_true rfl) dX5_carries_155 (fun H locs hP hD hS => ?_)
                cases hF
                rw [hQ]
                exact jb_iret hx hb hr hlocks hP hD hS dX5_carries_158 rfl (Nat.le_of_ble_eq_true rfl) (Nat.le_of_ble_eq_true rfl)
              by_cases s40 : ((M_told mo) p0.toNatClampNeg) = 118
              · refine lv_tableIn (off := 130) (tgt := 154) hx hb dX5_carries_24 (by rw [s40]; decide) (by rw [s40]; decide) (by rw [s40]; rfl) (by decide) ?_
                refine lv_aload_n hx hb dX5_carries_154 rfl (lv_at hl 2 rfl) ?_
                obtain ⟨z41, hz41, hF⟩ := ob_bind hF
                refine cl_i (csR := []) (csF := [wM g a z41.2]) (rest := []) hx hb hml hown hts hK hE hA hl hP hD hS (c_X5_removeLastSpan g l a mo z41 hz41) [0] [] [0] ⟨rfl, rfl, rfl, rfl, rfl, rfl, rfl⟩ ⟨0, 9, _, _, rfl, rfl, rfl⟩ 0 (jb_giV mw_1697 mw_1412 mw_1413 mw_10 mw_1414) ⟨rfl, rfl⟩ (by decide +kernel) ⟨⟨(Nat.le_of_ble_eq_true rfl), (Nat.le_of_ble_eq_true rfl)⟩, (Nat.le_of_ble_eq_true rfl), (Nat.le_of_ble_eq_true rfl)⟩ ⟨rfl, rfl⟩ (Nat.le_of_ble_eq_true rfl) dX5_carries_155 (fun H locs hP hD hS => ?_)
                cases hF
                rw [hQ]
                exact jb_iret hx hb hr hlocks hP hD hS dX5_carries_158 rfl (Nat.le_of_ble_eq_true rfl) (Nat.le_of_ble_eq_true rfl)
              have ts4 := jb_toInt (n := 101) s4 (by decide)
              have ts6 := jb_toInt (n := 109) s6 (by decide)
              have ts8 := jb_toInt (n := 112) s8 (by decide)
              have ts10 := jb_toInt (n := 114) s10 (by decide)
              have ts12 := jb_toInt (n := 115) s12 (by decide)
              have ts14 := jb_toInt (n := 119) s14 (by decide)
              have ts16 := jb_toInt (n := 102) s16 (by decide)
              have ts18 := jb_toInt (n := 103) s18 (by decide)
              have ts20 := jb_toInt (n := 104) s20 (by decide)
              have ts22 := jb_toInt (n := 105) s22 (by decide)
              have ts24 := jb_toInt (n := 106) s24 (by decide)
              have ts26 := jb_toInt (n := 107) s26 (by decide)
              have ts28 := jb_toInt (n := 108) s28 (by decide)
              have ts30 := jb_toInt (n := 110) s30 (by decide)
              have ts32 := jb_toInt (n := 111) s32 (by decide)
              have ts34 := jb_toInt (n := 113) s34 (by decide)
              have ts36 := jb_toInt (n := 116) s36 (by decide)
              have ts38 := jb_toInt (n := 117) s38 (by decide)
              have ts40 := jb_toInt (n := 118) s40 (by decide)
              refine lv_tableOut (tgt := 154) hx hb dX5_carries_24 (by omega) (by decide) ?_
              refine lv_aload_n hx hb dX5_carries_154 rfl (lv_at hl 2 rfl) ?_
              obtain ⟨z42, hz42, hF⟩ := ob_bind hF
              refine cl_i (csR := []) (csF := [wM g a z42.2]) (rest := []) hx hb hml hown hts hK hE hA hl hP hD hS (c_X5_removeLastSpan g l a mo z42 hz42) [0] [] [0] ⟨rfl, rfl, rfl, rfl, rfl, rfl, rfl⟩ ⟨0, 9, _, _, rfl, rfl, rfl⟩ 0 (jb_giV mw_1697 mw_1412 mw_1413 mw_10 mw_1414) ⟨rfl, rfl⟩ (by decide +kernel) ⟨⟨(Nat.le_of_ble_eq_true rfl), (Nat.le_of_ble_eq_true rfl)⟩, (Nat.le_of_ble_eq_true rfl), (Nat.le_of_ble_eq_true rfl)⟩ ⟨rfl, rfl⟩ (Nat.le_of_ble_eq_true rfl) dX5_carries_155 (fun H locs hP hD hS => ?_)
              cases hF
              rw [hQ]
              exact jb_iret hx hb hr hlocks hP hD hS dX5_carries_158 rfl (Nat.le_of_ble_eq_true rfl) (Nat.le_of_ble_eq_true rfl)
def F_X5_deniesText (mo : Mv) (p0 : Int32) : Option (Int32 × Mv) := if (M_isDenied mo) = 0 then (F_X5_denies mo 2 8 p0).bind (fun z1 => some (0, (mkM (M_g z1.2) (M_kept z1.2) (M_saved z1.2) (M_before z1.2) (M_trial z1.2) (M_counted z1.2) (M_isSaved z1.2) (M_changes z1.2) (M_isWithin z1.2) (M_isDenied z1.2) (M_code z1.2) (M_why z1.2) (M_detail z1.2) 9 (M_input z1.2) (M_length z1.2) (M_fault z1.2) (M_signs z1.2) (M_signMany z1.2) (M_lastOver z1.2) (M_at z1.2) (M_told z1.2) (M_toldMany z1.2)))) else (F_X5_denies mo 2 8 p0).bind (fun z2 => some (0, (mkM (M_g z2.2) (M_kept z2.2) (M_saved z2.2) (M_before z2.2) (M_trial z2.2) (M_counted z2.2) (M_isSaved z2.2) (M_changes z2.2) (M_isWithin z2.2) (M_isDenied z2.2) (M_code z2.2) (M_why z2.2) (M_detail z2.2) (M_why mo) (M_input z2.2) (M_length z2.2) (M_fault z2.2) (M_signs z2.2) (M_signMany z2.2) (M_lastOver z2.2) (M_at z2.2) (M_told z2.2) (M_toldMany z2.2))))
set_option maxHeartbeats 4000000 in
set_option maxRecDepth 100000 in
theorem c_X5_deniesText (g : GG) (l : Launch) (a : Nat → Nat) (mo : Mv) (p0 : Int32) (z : Int32 × Mv) (hF : F_X5_deniesText mo p0 = some z) : MI g l yX5_deniesText cX5_deniesText 3 (some .int) ({ frames := 1, cells := 0, slots := 0, locals := 23 } : Room) [.ref (a 0), .int p0] [wM g a mo] 0 0 z.1 [wM g a z.2] := by
  refine MI.bg (by decide) (Nat.le_of_ble_eq_true rfl) ?_
  intro p e s m below meth c A Q hQ hx hb hr hml hown hts hlocks hmn hK hE hA hP hD hS ls hl
  rw [F_X5_deniesText] at hF
  have hl : lv_has ls 3 [(0, .ref (a 0)), (1, .int p0)] := hl
  refine lv_aload_n hx hb dX5_deniesText_0 rfl (lv_at hl 0 rfl) ?_
  refine va_get (D := g.1) (ci := 9) (v := .int (M_isDenied mo)) (C := RX5) (T := TX5) (N := 23) hx hb hts inX5 hown hK hP 0 rfl rfl 9 (by decide) (hts _ mw_1320) (fun _ h9 => h9) rfl dX5_deniesText_1 ?_
  refine lv_if_eq (tgt := 14) hx hb dX5_deniesText_4 (by decide) (fun c1 => ?_) (fun c1 => ?_)
  · have hF := ob_pos c1 hF
    refine lv_bipush (v := 9) hx hb dX5_deniesText_14 (by decide) ?_
    refine lv_istore_n (lv' := [(2, .int 9), (0, .ref (a 0)), (1, .int p0)]) hx hb dX5_deniesText_16 rfl hl (by decide) rfl (fun ls hl => ?_)
    refine lv_aload_n hx hb dX5_deniesText_17 rfl (lv_at hl 1 rfl) ?_
    refine lv_iconst (v := 2) hx hb dX5_deniesText_18 (by decide) ?_
    refine lv_bipush (v := 8) hx hb dX5_deniesText_19 (by decide) ?_
    refine lv_iload_n hx hb dX5_deniesText_21 rfl (lv_at hl 2 rfl) ?_
    obtain ⟨z2, hz2, hF⟩ := ob_bind hF
    refine cl_i (csR := []) (csF := [wM g a z2.2]) (rest := []) hx hb hml hown hts hK hE hA hl hP hD hS (c_X5_denies g l a mo 2 8 p0 z2 hz2) [0] [] [0] ⟨rfl, rfl, rfl, rfl, rfl, rfl, rfl⟩ ⟨0, 9, _, _, rfl, rfl, rfl⟩ 3 (jb_giV mw_1396 mw_1398 ms_33 mw_10 mw_1399) ⟨rfl, rfl⟩ (by decide +kernel) ⟨⟨(Nat.le_of_ble_eq_true rfl), (Nat.le_of_ble_eq_true rfl)⟩, (Nat.le_of_ble_eq_true rfl), (Nat.le_of_ble_eq_true rfl)⟩ ⟨rfl, rfl⟩ (Nat.le_of_ble_eq_true rfl) dX5_deniesText_22 (fun H locs hP hD hS => ?_)
    refine lv_pop hx hb dX5_deniesText_25 rfl ?_
    refine lv_aload_n hx hb dX5_deniesText_26 rfl (lv_at hl 1 rfl) ?_
    refine lv_iload_n hx hb dX5_deniesText_27 rfl (lv_at hl 0 rfl) ?_
    refine va_put (D := g.1) (ci := 9) (v := .int 9) (ty := .int) (C := RX5) (T := TX5) (N := 23) hx hb hts inX5 tyX5 tyX5_ok nmX5 hown hK hP hD hS 0 rfl rfl 13 (by decide) (hts _ mw_1324) (fun _ h9 => h9) rfl (by decide +kernel) rfl rfl (Nat.le_of_ble_eq_true rfl) dX5_deniesText_28 (fun H locs hP hD hS => ?_)
    have hP : va_P g.1 vwCl ([wMc g a (M_g z2.2) (M_kept z2.2) (M_saved z2.2) (M_before z2.2) (M_trial z2.2) (M_counted z2.2) (M_isSaved z2.2) (M_changes z2.2) (M_isWithin z2.2) (M_isDenied z2.2) (M_code z2.2) (M_why z2.2) (M_detail z2.2) 9 (M_input z2.2) (M_length z2.2) (M_fault z2.2) (M_signs z2.2) (M_signMany z2.2) (M_lastOver z2.2) (M_at z2.2) (M_told z2.2) (M_toldMany z2.2)] : List va_W).flatten _ := hP
    have hD : va_D A ([wMc g a (M_g z2.2) (M_kept z2.2) (M_saved z2.2) (M_before z2.2) (M_trial z2.2) (M_counted z2.2) (M_isSaved z2.2) (M_changes z2.2) (M_isWithin z2.2) (M_isDenied z2.2) (M_code z2.2) (M_why z2.2) (M_detail z2.2) 9 (M_input z2.2) (M_length z2.2) (M_fault z2.2) (M_signs z2.2) (M_signMany z2.2) (M_lastOver z2.2) (M_at z2.2) (M_told z2.2) (M_toldMany z2.2)] : List va_W).flatten := hD
    refine lv_iconst (v := 0) hx hb dX5_deniesText_31 (by decide) ?_
    cases hF
    rw [hQ]
    exact jb_iret hx hb hr hlocks hP hD hS dX5_deniesText_32 rfl (Nat.le_of_ble_eq_true rfl) (Nat.le_of_ble_eq_true rfl)
  · have hF := ob_neg c1 hF
    refine lv_aload_n hx hb dX5_deniesText_7 rfl (lv_at hl 0 rfl) ?_
    refine va_get (D := g.1) (ci := 9) (v := .int (M_why mo)) (C := RX5) (T := TX5) (N := 23) hx hb hts inX5 hown hK hP 0 rfl rfl 11 (by decide) (hts _ mw_1322) (fun _ h9 => h9) rfl dX5_deniesText_8 ?_
    refine lv_goto (tgt := 16) hx hb dX5_deniesText_11 (by decide) ?_
    refine lv_istore_n (lv' := [(2, .int (M_why mo)), (0, .ref (a 0)), (1, .int p0)]) hx hb dX5_deniesText_16 rfl hl (by decide) rfl (fun ls hl => ?_)
    refine lv_aload_n hx hb dX5_deniesText_17 rfl (lv_at hl 1 rfl) ?_
    refine lv_iconst (v := 2) hx hb dX5_deniesText_18 (by decide) ?_
    refine lv_bipush (v := 8) hx hb dX5_deniesText_19 (by decide) ?_
    refine lv_iload_n hx hb dX5_deniesText_21 rfl (lv_at hl 2 rfl) ?_
    obtain ⟨z3, hz3, hF⟩ := ob_bind hF
    refine cl_i (csR := []) (csF := [wM g a z3.2]) (rest := []) hx hb hml hown hts hK hE hA hl hP hD hS (c_X5_denies g l a mo 2 8 p0 z3 hz3) [0] [] [0] ⟨rfl, rfl, rfl, rfl, rfl, rfl, rfl⟩ ⟨0, 9, _, _, rfl, rfl, rfl⟩ 3 (jb_giV mw_1396 mw_1398 ms_33 mw_10 mw_1399) ⟨rfl, rfl⟩ (by decide +kernel) ⟨⟨(Nat.le_of_ble_eq_true rfl), (Nat.le_of_ble_eq_true rfl)⟩, (Nat.le_of_ble_eq_true rfl), (Nat.le_of_ble_eq_true rfl)⟩ ⟨rfl, rfl⟩ (Nat.le_of_ble_eq_true rfl) dX5_deniesText_22 (fun H locs hP hD hS => ?_)
    refine lv_pop hx hb dX5_deniesText_25 rfl ?_
    refine lv_aload_n hx hb dX5_deniesText_26 rfl (lv_at hl 1 rfl) ?_
    refine lv_iload_n hx hb dX5_deniesText_27 rfl (lv_at hl 0 rfl) ?_
    refine va_put (D := g.1) (ci := 9) (v := .int (M_why mo)) (ty := .int) (C := RX5) (T := TX5) (N := 23) hx hb hts inX5 tyX5 tyX5_ok nmX5 hown hK hP hD hS 0 rfl rfl 13 (by decide) (hts _ mw_1324) (fun _ h9 => h9) rfl (by decide +kernel) rfl rfl (Nat.le_of_ble_eq_true rfl) dX5_deniesText_28 (fun H locs hP hD hS => ?_)
    have hP : va_P g.1 vwCl ([wMc g a (M_g z3.2) (M_kept z3.2) (M_saved z3.2) (M_before z3.2) (M_trial z3.2) (M_counted z3.2) (M_isSaved z3.2) (M_changes z3.2) (M_isWithin z3.2) (M_isDenied z3.2) (M_code z3.2) (M_why z3.2) (M_detail z3.2) (M_why mo) (M_input z3.2) (M_length z3.2) (M_fault z3.2) (M_signs z3.2) (M_signMany z3.2) (M_lastOver z3.2) (M_at z3.2) (M_told z3.2) (M_toldMany z3.2)] : List va_W).flatten _ := hP
    have hD : va_D A ([wMc g a (M_g z3.2) (M_kept z3.2) (M_saved z3.2) (M_before z3.2) (M_trial z3.2) (M_counted z3.2) (M_isSaved z3.2) (M_changes z3.2) (M_isWithin z3.2) (M_isDenied z3.2) (M_code z3.2) (M_why z3.2) (M_detail z3.2) (M_why mo) (M_input z3.2) (M_length z3.2) (M_fault z3.2) (M_signs z3.2) (M_signMany z3.2) (M_lastOver z3.2) (M_at z3.2) (M_told z3.2) (M_toldMany z3.2)] : List va_W).flatten := hD
    refine lv_iconst (v := 0) hx hb dX5_deniesText_31 (by decide) ?_
    cases hF
    rw [hQ]
    exact jb_iret hx hb hr hlocks hP hD hS dX5_deniesText_32 rfl (Nat.le_of_ble_eq_true rfl) (Nat.le_of_ble_eq_true rfl)
def F_X5_faultPosition (mo : Mv) : Option (Int32 × Mv) := if 0 ≤ (M_fault mo) then (F_X5_fails mo 0).bind (fun z1 => if (bi z1.1) = 0 then some (M_fault z1.2, z1.2) else some (0, z1.2)) else (F_X5_fails mo 1).bind (fun z2 => if (bi z2.1) = 0 then some (M_fault z2.2, z2.2) else some (0, z2.2))
set_option maxHeartbeats 4000000 in
set_option maxRecDepth 100000 in
theorem c_X5_faultPosition (g : GG) (l : Launch) (a : Nat → Nat) (mo : Mv) (z : Int32 × Mv) (hF : F_X5_faultPosition mo = some z) : MI g l yX5_faultPosition cX5_faultPosition 1 (some .int) ({ frames := 1, cells := 0, slots := 0, locals := 21 } : Room) [.ref (a 0)] [wM g a mo] 0 0 z.1 [wM g a z.2] := by
  refine MI.bg (by decide) (Nat.le_of_ble_eq_true rfl) ?_
  intro p e s m below meth c A Q hQ hx hb hr hml hown hts hlocks hmn hK hE hA hP hD hS ls hl
  rw [F_X5_faultPosition] at hF
  have hl : lv_has ls 1 [(0, .ref (a 0))] := hl
  refine lv_aload_n hx hb dX5_faultPosition_0 rfl (lv_at hl 0 rfl) ?_
  refine lv_aload_n hx hb dX5_faultPosition_1 rfl (lv_at hl 0 rfl) ?_
  refine va_get (D := g.1) (ci := 9) (v := .int (M_fault mo)) (C := RX5) (T := TX5) (N := 23) hx hb hts inX5 hown hK hP 0 rfl rfl 16 (by decide) (hts _ mw_1327) (fun _ h9 => h9) rfl dX5_faultPosition_2 ?_
  refine lv_if_ge (tgt := 12) hx hb dX5_faultPosition_5 (by decide) (fun c1 => ?_) (fun c1 => ?_)
  · have hF := ob_pos c1 hF
    refine lv_iconst (v := 0) hx hb dX5_faultPosition_12 (by decide) ?_
    obtain ⟨z2, hz2, hF⟩ := ob_bind hF
    refine cl_i (csR := []) (csF := [wM g a z2.2]) (rest := []) hx hb hml hown hts hK hE hA hl hP hD hS (c_X5_fails g l a mo 0 z2 hz2) [0] [] [0] ⟨rfl, rfl, rfl, rfl, rfl, rfl, rfl⟩ ⟨0, 9, _, _, rfl, rfl, rfl⟩ 1 (jb_giV mw_1392 mw_1394 ms_32 mw_10 mw_1395) ⟨rfl, rfl⟩ (by decide +kernel) ⟨⟨(Nat.le_of_ble_eq_true rfl), (Nat.le_of_ble_eq_true rfl)⟩, (Nat.le_of_ble_eq_true rfl), (Nat.le_of_ble_eq_true rfl)⟩ ⟨rfl, rfl⟩ (Nat.le_of_ble_eq_true rfl) dX5_faultPosition_13 (fun H locs hP hD hS => ?_)
    refine lv_if_eq (tgt := 23) hx hb dX5_faultPosition_16 (by decide) (fun c3 => ?_) (fun c3 => ?_)
    · have hF := ob_pos c3 hF
      refine lv_aload_n hx hb dX5_faultPosition_23 rfl (lv_at hl 0 rfl) ?_
      refine va_get (D := g.1) (ci := 9) (v := .int (M_fault z2.2)) (C := RX5) (T := TX5) (N := 23) hx hb hts inX5 hown hK hP 0 rfl rfl 16 (by decide) (hts _ mw_1327) (fun _ h9 => h9) rfl dX5_faultPosition_24 ?_
      cases hF
      rw [hQ]
      exact jb_iret hx hb hr hlocks hP hD hS dX5_faultPosition_27 rfl (Nat.le_of_ble_eq_true rfl) (Nat.le_of_ble_eq_true rfl)
    · have hF := ob_neg c3 hF
      refine lv_iconst (v := 0) hx hb dX5_faultPosition_19 (by decide) ?_
      refine lv_goto (tgt := 27) hx hb dX5_faultPosition_20 (by decide) ?_
      cases hF
      rw [hQ]
      exact jb_iret hx hb hr hlocks hP hD hS dX5_faultPosition_27 rfl (Nat.le_of_ble_eq_true rfl) (Nat.le_of_ble_eq_true rfl)
  · have hF := ob_neg c1 hF
    refine lv_iconst (v := 1) hx hb dX5_faultPosition_8 (by decide) ?_
    refine lv_goto (tgt := 13) hx hb dX5_faultPosition_9 (by decide) ?_
    obtain ⟨z4, hz4, hF⟩ := ob_bind hF
    refine cl_i (csR := []) (csF := [wM g a z4.2]) (rest := []) hx hb hml hown hts hK hE hA hl hP hD hS (c_X5_fails g l a mo 1 z4 hz4) [0] [] [0] ⟨rfl, rfl, rfl, rfl, rfl, rfl, rfl⟩ ⟨0, 9, _, _, rfl, rfl, rfl⟩ 1 (jb_giV mw_1392 mw_1394 ms_32 mw_10 mw_1395) ⟨rfl, rfl⟩ (by decide +kernel) ⟨⟨(Nat.le_of_ble_eq_true rfl), (Nat.le_of_ble_eq_true rfl)⟩, (Nat.le_of_ble_eq_true rfl), (Nat.le_of_ble_eq_true rfl)⟩ ⟨rfl, rfl⟩ (Nat.le_of_ble_eq_true rfl) dX5_faultPosition_13 (fun H locs hP hD hS => ?_)
    refine lv_if_eq (tgt := 23) hx hb dX5_faultPosition_16 (by decide) (fun c5 => ?_) (fun c5 => ?_)
    · have hF := ob_pos c5 hF
      refine lv_aload_n hx hb dX5_faultPosition_23 rfl (lv_at hl 0 rfl) ?_
      refine va_get (D := g.1) (ci := 9) (v := .int (M_fault z4.2)) (C := RX5) (T := TX5) (N := 23) hx hb hts inX5 hown hK hP 0 rfl rfl 16 (by decide) (hts _ mw_1327) (fun _ h9 => h9) rfl dX5_faultPosition_24 ?_
      cases hF
      rw [hQ]
      exact jb_iret hx hb hr hlocks hP hD hS dX5_faultPosition_27 rfl (Nat.le_of_ble_eq_true rfl) (Nat.le_of_ble_eq_true rfl)
    · have hF := ob_neg c5 hF
      refine lv_iconst (v := 0) hx hb dX5_faultPosition_19 (by decide) ?_
      refine lv_goto (tgt := 27) hx hb dX5_faultPosition_20 (by decide) ?_
      cases hF
      rw [hQ]
      exact jb_iret hx hb hr hlocks hP hD hS dX5_faultPosition_27 rfl (Nat.le_of_ble_eq_true rfl) (Nat.le_of_ble_eq_true rfl)
def F_X5_writes (mo : Mv) (p0 : Int32) : Option (Mv) := ck (inb (M_signMany mo) 200) (some (mkM (M_g mo) (M_kept mo) (M_saved mo) (M_before mo) (M_trial mo) (M_counted mo) (M_isSaved mo) (M_changes mo) (M_isWithin mo) (M_isDenied mo) (M_code mo) (M_why mo) (M_detail mo) (M_cause mo) (M_input mo) (M_length mo) (M_fault mo) (upd (M_signs mo) (M_signMany mo).toNatClampNeg (vp_nar .char ((p0.toUInt32 % 65536).toInt32))) ((M_signMany mo) + 1) (M_lastOver mo) (M_at mo) (M_told mo) (M_toldMany mo)))
set_option maxHeartbeats 4000000 in
set_option maxRecDepth 100000 in
theorem c_X5_writes (g : GG) (l : Launch) (a : Nat → Nat) (mo : Mv) (p0 : Int32) (z : Mv) (hF : F_X5_writes mo p0 = some z) : MV g l yX5_writes cX5_writes 2 none ({ frames := 0, cells := 0, slots := 0, locals := 0 } : Room) [.ref (a 0), .int p0] [wM g a mo] 0 0 [wM g a z] := by
  refine MV.bg (by decide) (Nat.le_of_ble_eq_true rfl) ?_
  intro p e s m below meth c A Q hQ hx hb hr hml hown hts hlocks hmn hK hE hA hP hD hS ls hl
  rw [F_X5_writes] at hF
  have hl : lv_has ls 2 [(0, .ref (a 0)), (1, .int p0)] := hl
  refine lv_aload_n hx hb dX5_writes_0 rfl (lv_at hl 0 rfl) ?_
  refine va_get (D := g.1) (ci := 9) (v := .ref (a 8)) (C := RX5) (T := TX5) (N := 23) hx hb hts inX5 hown hK hP 0 rfl rfl 17 (by decide) (hts _ mw_1328) (fun _ h9 => h9) rfl dX5_writes_1 ?_
  refine lv_aload_n hx hb dX5_writes_4 rfl (lv_at hl 0 rfl) ?_
  refine va_get (D := g.1) (ci := 9) (v := .int (M_signMany mo)) (C := RX5) (T := TX5) (N := 23) hx hb hts inX5 hown hK hP 0 rfl rfl 18 (by decide) (hts _ mw_1329) (fun _ h9 => h9) rfl dX5_writes_5 ?_
  refine lv_iload_n hx hb dX5_writes_8 rfl (lv_at hl 1 rfl) ?_
  refine lv_i2c hx hb dX5_writes_9 rfl ?_
  have h1 := inb_in (ck_t hF)
  have hF := ck_s hF
  refine va_cast hx hb hK hP hD hS 8 1 rfl rfl h1 dX5_writes_10 (fun H locs hP hD hS => ?_)
  have hP : va_P g.1 vwCl ([wMc g a (M_g mo) (M_kept mo) (M_saved mo) (M_before mo) (M_trial mo) (M_counted mo) (M_isSaved mo) (M_changes mo) (M_isWithin mo) (M_isDenied mo) (M_code mo) (M_why mo) (M_detail mo) (M_cause mo) (M_input mo) (M_length mo) (M_fault mo) (upd (M_signs mo) (M_signMany mo).toNatClampNeg (vp_nar .char ((p0.toUInt32 % 65536).toInt32))) (M_signMany mo) (M_lastOver mo) (M_at mo) (M_told mo) (M_toldMany mo)] : List va_W).flatten _ := hP
  have hD : va_D A ([wMc g a (M_g mo) (M_kept mo) (M_saved mo) (M_before mo) (M_trial mo) (M_counted mo) (M_isSaved mo) (M_changes mo) (M_isWithin mo) (M_isDenied mo) (M_code mo) (M_why mo) (M_detail mo) (M_cause mo) (M_input mo) (M_length mo) (M_fault mo) (upd (M_signs mo) (M_signMany mo).toNatClampNeg (vp_nar .char ((p0.toUInt32 % 65536).toInt32))) (M_signMany mo) (M_lastOver mo) (M_at mo) (M_told mo) (M_toldMany mo)] : List va_W).flatten := hD
  refine lv_aload_n hx hb dX5_writes_11 rfl (lv_at hl 0 rfl) ?_
  refine lv_dup hx hb dX5_writes_12 rfl ?_
  refine va_get (D := g.1) (ci := 9) (v := .int (M_signMany mo)) (C := RX5) (T := TX5) (N := 23) hx hb hts inX5 hown hK hP 0 rfl rfl 18 (by decide) (hts _ mw_1329) (fun _ h9 => h9) rfl dX5_writes_13 ?_
  refine lv_iconst (v := 1) hx hb dX5_writes_16 (by decide) ?_
  refine lv_iadd hx hb dX5_writes_17 ?_
  refine va_put (D := g.1) (ci := 9) (v := .int ((M_signMany mo) + 1)) (ty := .int) (C := RX5) (T := TX5) (N := 23) hx hb hts inX5 tyX5 tyX5_ok nmX5 hown hK hP hD hS 0 rfl rfl 18 (by decide) (hts _ mw_1329) (fun _ h9 => h9) rfl (by decide +kernel) rfl rfl (Nat.le_of_ble_eq_true rfl) dX5_writes_18 (fun H locs hP hD hS => ?_)
  have hP : va_P g.1 vwCl ([wMc g a (M_g mo) (M_kept mo) (M_saved mo) (M_before mo) (M_trial mo) (M_counted mo) (M_isSaved mo) (M_changes mo) (M_isWithin mo) (M_isDenied mo) (M_code mo) (M_why mo) (M_detail mo) (M_cause mo) (M_input mo) (M_length mo) (M_fault mo) (upd (M_signs mo) (M_signMany mo).toNatClampNeg (vp_nar .char ((p0.toUInt32 % 65536).toInt32))) ((M_signMany mo) + 1) (M_lastOver mo) (M_at mo) (M_told mo) (M_toldMany mo)] : List va_W).flatten _ := hP
  have hD : va_D A ([wMc g a (M_g mo) (M_kept mo) (M_saved mo) (M_before mo) (M_trial mo) (M_counted mo) (M_isSaved mo) (M_changes mo) (M_isWithin mo) (M_isDenied mo) (M_code mo) (M_why mo) (M_detail mo) (M_cause mo) (M_input mo) (M_length mo) (M_fault mo) (upd (M_signs mo) (M_signMany mo).toNatClampNeg (vp_nar .char ((p0.toUInt32 % 65536).toInt32))) ((M_signMany mo) + 1) (M_lastOver mo) (M_at mo) (M_told mo) (M_toldMany mo)] : List va_W).flatten := hD
  cases hF
  rw [hQ]
  exact jb_vret hx hb hr hlocks hP hD hS dX5_writes_21 (Nat.le_of_ble_eq_true rfl) (Nat.le_of_ble_eq_true rfl)
def F_X5_denial (mo : Mv) : Option (Int32 × Mv) := if ¬ (M_why mo) = 0 then (F_X5_fails mo 0).bind (fun z1 => if (bi z1.1) = 0 then some (M_why z1.2, z1.2) else some (0, z1.2)) else (F_X5_fails mo 1).bind (fun z2 => if (bi z2.1) = 0 then some (M_why z2.2, z2.2) else some (0, z2.2))
set_option maxHeartbeats 4000000 in
set_option maxRecDepth 100000 in
theorem c_X5_denial (g : GG) (l : Launch) (a : Nat → Nat) (mo : Mv) (z : Int32 × Mv) (hF : F_X5_denial mo = some z) : MI g l yX5_denial cX5_denial 1 (some .int) ({ frames := 1, cells := 0, slots := 0, locals := 21 } : Room) [.ref (a 0)] [wM g a mo] 0 0 z.1 [wM g a z.2] := by
  refine MI.bg (by decide) (Nat.le_of_ble_eq_true rfl) ?_
  intro p e s m below meth c A Q hQ hx hb hr hml hown hts hlocks hmn hK hE hA hP hD hS ls hl
  rw [F_X5_denial] at hF
  have hl : lv_has ls 1 [(0, .ref (a 0))] := hl
  refine lv_aload_n hx hb dX5_denial_0 rfl (lv_at hl 0 rfl) ?_
  refine lv_aload_n hx hb dX5_denial_1 rfl (lv_at hl 0 rfl) ?_
  refine va_get (D := g.1) (ci := 9) (v := .int (M_why mo)) (C := RX5) (T := TX5) (N := 23) hx hb hts inX5 hown hK hP 0 rfl rfl 11 (by decide) (hts _ mw_1322) (fun _ h9 => h9) rfl dX5_denial_2 ?_
  refine lv_if_ne (tgt := 12) hx hb dX5_denial_5 (by decide) (fun c1 => ?_) (fun c1 => ?_)
  · have hF := ob_pos c1 hF
    refine lv_iconst (v := 0) hx hb dX5_denial_12 (by decide) ?_
    obtain ⟨z2, hz2, hF⟩ := ob_bind hF
    refine cl_i (csR := []) (csF := [wM g a z2.2]) (rest := []) hx hb hml hown hts hK hE hA hl hP hD hS (c_X5_fails g l a mo 0 z2 hz2) [0] [] [0] ⟨rfl, rfl, rfl, rfl, rfl, rfl, rfl⟩ ⟨0, 9, _, _, rfl, rfl, rfl⟩ 1 (jb_giV mw_1392 mw_1394 ms_32 mw_10 mw_1395) ⟨rfl, rfl⟩ (by decide +kernel) ⟨⟨(Nat.le_of_ble_eq_true rfl), (Nat.le_of_ble_eq_true rfl)⟩, (Nat.le_of_ble_eq_true rfl), (Nat.le_of_ble_eq_true rfl)⟩ ⟨rfl, rfl⟩ (Nat.le_of_ble_eq_true rfl) dX5_denial_13 (fun H locs hP hD hS => ?_)
    refine lv_if_eq (tgt := 23) hx hb dX5_denial_16 (by decide) (fun c3 => ?_) (fun c3 => ?_)
    · have hF := ob_pos c3 hF
      refine lv_aload_n hx hb dX5_denial_23 rfl (lv_at hl 0 rfl) ?_
      refine va_get (D := g.1) (ci := 9) (v := .int (M_why z2.2)) (C := RX5) (T := TX5) (N := 23) hx hb hts inX5 hown hK hP 0 rfl rfl 11 (by decide) (hts _ mw_1322) (fun _ h9 => h9) rfl dX5_denial_24 ?_
      cases hF
      rw [hQ]
      exact jb_iret hx hb hr hlocks hP hD hS dX5_denial_27 rfl (Nat.le_of_ble_eq_true rfl) (Nat.le_of_ble_eq_true rfl)
    · have hF := ob_neg c3 hF
      refine lv_iconst (v := 0) hx hb dX5_denial_19 (by decide) ?_
      refine lv_goto (tgt := 27) hx hb dX5_denial_20 (by decide) ?_
      cases hF
      rw [hQ]
      exact jb_iret hx hb hr hlocks hP hD hS dX5_denial_27 rfl (Nat.le_of_ble_eq_true rfl) (Nat.le_of_ble_eq_true rfl)
  · have hF := ob_nneg c1 hF
    refine lv_iconst (v := 1) hx hb dX5_denial_8 (by decide) ?_
    refine lv_goto (tgt := 13) hx hb dX5_denial_9 (by decide) ?_
    obtain ⟨z4, hz4, hF⟩ := ob_bind hF
    refine cl_i (csR := []) (csF := [wM g a z4.2]) (rest := []) hx hb hml hown hts hK hE hA hl hP hD hS (c_X5_fails g l a mo 1 z4 hz4) [0] [] [0] ⟨rfl, rfl, rfl, rfl, rfl, rfl, rfl⟩ ⟨0, 9, _, _, rfl, rfl, rfl⟩ 1 (jb_giV mw_1392 mw_1394 ms_32 mw_10 mw_1395) ⟨rfl, rfl⟩ (by decide +kernel) ⟨⟨(Nat.le_of_ble_eq_true rfl), (Nat.le_of_ble_eq_true rfl)⟩, (Nat.le_of_ble_eq_true rfl), (Nat.le_of_ble_eq_true rfl)⟩ ⟨rfl, rfl⟩ (Nat.le_of_ble_eq_true rfl) dX5_denial_13 (fun H locs hP hD hS => ?_)
    refine lv_if_eq (tgt := 23) hx hb dX5_denial_16 (by decide) (fun c5 => ?_) (fun c5 => ?_)
    · have hF := ob_pos c5 hF
      refine lv_aload_n hx hb dX5_denial_23 rfl (lv_at hl 0 rfl) ?_
      refine va_get (D := g.1) (ci := 9) (v := .int (M_why z4.2)) (C := RX5) (T := TX5) (N := 23) hx hb hts inX5 hown hK hP 0 rfl rfl 11 (by decide) (hts _ mw_1322) (fun _ h9 => h9) rfl dX5_denial_24 ?_
      cases hF
      rw [hQ]
      exact jb_iret hx hb hr hlocks hP hD hS dX5_denial_27 rfl (Nat.le_of_ble_eq_true rfl) (Nat.le_of_ble_eq_true rfl)
    · have hF := ob_neg c5 hF
      refine lv_iconst (v := 0) hx hb dX5_denial_19 (by decide) ?_
      refine lv_goto (tgt := 27) hx hb dX5_denial_20 (by decide) ?_
      cases hF
      rw [hQ]
      exact jb_iret hx hb hr hlocks hP hD hS dX5_denial_27 rfl (Nat.le_of_ble_eq_true rfl) (Nat.le_of_ble_eq_true rfl)
def F_X5_denialDetail (mo : Mv) : Option (Int32 × Mv) := if ¬ (M_why mo) = 0 then (F_X5_fails mo 0).bind (fun z1 => if (bi z1.1) = 0 then some (M_detail z1.2, z1.2) else some (0, z1.2)) else (F_X5_fails mo 1).bind (fun z2 => if (bi z2.1) = 0 then some (M_detail z2.2, z2.2) else some (0, z2.2))
set_option maxHeartbeats 4000000 in
set_option maxRecDepth 100000 in
theorem c_X5_denialDetail (g : GG) (l : Launch) (a : Nat → Nat) (mo : Mv) (z : Int32 × Mv) (hF : F_X5_denialDetail mo = some z) : MI g l yX5_denialDetail cX5_denialDetail 1 (some .int) ({ frames := 1, cells := 0, slots := 0, locals := 21 } : Room) [.ref (a 0)] [wM g a mo] 0 0 z.1 [wM g a z.2] := by
  refine MI.bg (by decide) (Nat.le_of_ble_eq_true rfl) ?_
  intro p e s m below meth c A Q hQ hx hb hr hml hown hts hlocks hmn hK hE hA hP hD hS ls hl
  rw [F_X5_denialDetail] at hF
  have hl : lv_has ls 1 [(0, .ref (a 0))] := hl
  refine lv_aload_n hx hb dX5_denialDetail_0 rfl (lv_at hl 0 rfl) ?_
  refine lv_aload_n hx hb dX5_denialDetail_1 rfl (lv_at hl 0 rfl) ?_
  refine va_get (D := g.1) (ci := 9) (v := .int (M_why mo)) (C := RX5) (T := TX5) (N := 23) hx hb hts inX5 hown hK hP 0 rfl rfl 11 (by decide) (hts _ mw_1322) (fun _ h9 => h9) rfl dX5_denialDetail_2 ?_
  refine lv_if_ne (tgt := 12) hx hb dX5_denialDetail_5 (by decide) (fun c1 => ?_) (fun c1 => ?_)
  · have hF := ob_pos c1 hF
    refine lv_iconst (v := 0) hx hb dX5_denialDetail_12 (by decide) ?_
    obtain ⟨z2, hz2, hF⟩ := ob_bind hF
    refine cl_i (csR := []) (csF := [wM g a z2.2]) (rest := []) hx hb hml hown hts hK hE hA hl hP hD hS (c_X5_fails g l a mo 0 z2 hz2) [0] [] [0] ⟨rfl, rfl, rfl, rfl, rfl, rfl, rfl⟩ ⟨0, 9, _, _, rfl, rfl, rfl⟩ 1 (jb_giV mw_1392 mw_1394 ms_32 mw_10 mw_1395) ⟨rfl, rfl⟩ (by decide +kernel) ⟨⟨(Nat.le_of_ble_eq_true rfl), (Nat.le_of_ble_eq_true rfl)⟩, (Nat.le_of_ble_eq_true rfl), (Nat.le_of_ble_eq_true rfl)⟩ ⟨rfl, rfl⟩ (Nat.le_of_ble_eq_true rfl) dX5_denialDetail_13 (fun H locs hP hD hS => ?_)
    refine lv_if_eq (tgt := 23) hx hb dX5_denialDetail_16 (by decide) (fun c3 => ?_) (fun c3 => ?_)
    · have hF := ob_pos c3 hF
      refine lv_aload_n hx hb dX5_denialDetail_23 rfl (lv_at hl 0 rfl) ?_
      refine va_get (D := g.1) (ci := 9) (v := .int (M_detail z2.2)) (C := RX5) (T := TX5) (N := 23) hx hb hts inX5 hown hK hP 0 rfl rfl 12 (by decide) (hts _ mw_1323) (fun _ h9 => h9) rfl dX5_denialDetail_24 ?_
      cases hF
      rw [hQ]
      exact jb_iret hx hb hr hlocks hP hD hS dX5_denialDetail_27 rfl (Nat.le_of_ble_eq_true rfl) (Nat.le_of_ble_eq_true rfl)
    · have hF := ob_neg c3 hF
      refine lv_iconst (v := 0) hx hb dX5_denialDetail_19 (by decide) ?_
      refine lv_goto (tgt := 27) hx hb dX5_denialDetail_20 (by decide) ?_
      cases hF
      rw [hQ]
      exact jb_iret hx hb hr hlocks hP hD hS dX5_denialDetail_27 rfl (Nat.le_of_ble_eq_true rfl) (Nat.le_of_ble_eq_true rfl)
  · have hF := ob_nneg c1 hF
    refine lv_iconst (v := 1) hx hb dX5_denialDetail_8 (by decide) ?_
    refine lv_goto (tgt := 13) hx hb dX5_denialDetail_9 (by decide) ?_
    obtain ⟨z4, hz4, hF⟩ := ob_bind hF
    refine cl_i (csR := []) (csF := [wM g a z4.2]) (rest := []) hx hb hml hown hts hK hE hA hl hP hD hS (c_X5_fails g l a mo 1 z4 hz4) [0] [] [0] ⟨rfl, rfl, rfl, rfl, rfl, rfl, rfl⟩ ⟨0, 9, _, _, rfl, rfl, rfl⟩ 1 (jb_giV mw_1392 mw_1394 ms_32 mw_10 mw_1395) ⟨rfl, rfl⟩ (by decide +kernel) ⟨⟨(Nat.le_of_ble_eq_true rfl), (Nat.le_of_ble_eq_true rfl)⟩, (Nat.le_of_ble_eq_true rfl), (Nat.le_of_ble_eq_true rfl)⟩ ⟨rfl, rfl⟩ (Nat.le_of_ble_eq_true rfl) dX5_denialDetail_13 (fun H locs hP hD hS => ?_)
    refine lv_if_eq (tgt := 23) hx hb dX5_denialDetail_16 (by decide) (fun c5 => ?_) (fun c5 => ?_)
    · have hF := ob_pos c5 hF
      refine lv_aload_n hx hb dX5_denialDetail_23 rfl (lv_at hl 0 rfl) ?_
      refine va_get (D := g.1) (ci := 9) (v := .int (M_detail z4.2)) (C := RX5) (T := TX5) (N := 23) hx hb hts inX5 hown hK hP 0 rfl rfl 12 (by decide) (hts _ mw_1323) (fun _ h9 => h9) rfl dX5_denialDetail_24 ?_
      cases hF
      rw [hQ]
      exact jb_iret hx hb hr hlocks hP hD hS dX5_denialDetail_27 rfl (Nat.le_of_ble_eq_true rfl) (Nat.le_of_ble_eq_true rfl)
    · have hF := ob_neg c5 hF
      refine lv_iconst (v := 0) hx hb dX5_denialDetail_19 (by decide) ?_
      refine lv_goto (tgt := 27) hx hb dX5_denialDetail_20 (by decide) ?_
      cases hF
      rw [hQ]
      exact jb_iret hx hb hr hlocks hP hD hS dX5_denialDetail_27 rfl (Nat.le_of_ble_eq_true rfl) (Nat.le_of_ble_eq_true rfl)
def F_X5_denialCause (mo : Mv) : Option (Int32 × Mv) := if ¬ (M_cause mo) = 0 then (F_X5_fails mo 0).bind (fun z1 => if (bi z1.1) = 0 then some (M_cause z1.2, z1.2) else some (0, z1.2)) else (F_X5_fails mo 1).bind (fun z2 => if (bi z2.1) = 0 then some (M_cause z2.2, z2.2) else some (0, z2.2))
set_option maxHeartbeats 4000000 in
set_option maxRecDepth 100000 in
theorem c_X5_denialCause (g : GG) (l : Launch) (a : Nat → Nat) (mo : Mv) (z : Int32 × Mv) (hF : F_X5_denialCause mo = some z) : MI g l yX5_denialCause cX5_denialCause 1 (some .int) ({ frames := 1, cells := 0, slots := 0, locals := 21 } : Room) [.ref (a 0)] [wM g a mo] 0 0 z.1 [wM g a z.2] := by
  refine MI.bg (by decide) (Nat.le_of_ble_eq_true rfl) ?_
  intro p e s m below meth c A Q hQ hx hb hr hml hown hts hlocks hmn hK hE hA hP hD hS ls hl
  rw [F_X5_denialCause] at hF
  have hl : lv_has ls 1 [(0, .ref (a 0))] := hl
  refine lv_aload_n hx hb dX5_denialCause_0 rfl (lv_at hl 0 rfl) ?_
  refine lv_aload_n hx hb dX5_denialCause_1 rfl (lv_at hl 0 rfl) ?_
  refine va_get (D := g.1) (ci := 9) (v := .int (M_cause mo)) (C := RX5) (T := TX5) (N := 23) hx hb hts inX5 hown hK hP 0 rfl rfl 13 (by decide) (hts _ mw_1324) (fun _ h9 => h9) rfl dX5_denialCause_2 ?_
  refine lv_if_ne (tgt := 12) hx hb dX5_denialCause_5 (by decide) (fun c1 => ?_) (fun c1 => ?_)
  · have hF := ob_pos c1 hF
    refine lv_iconst (v := 0) hx hb dX5_denialCause_12 (by decide) ?_
    obtain ⟨z2, hz2, hF⟩ := ob_bind hF
    refine cl_i (csR := []) (csF := [wM g a z2.2]) (rest := []) hx hb hml hown hts hK hE hA hl hP hD hS (c_X5_fails g l a mo 0 z2 hz2) [0] [] [0] ⟨rfl, rfl, rfl, rfl, rfl, rfl, rfl⟩ ⟨0, 9, _, _, rfl, rfl, rfl⟩ 1 (jb_giV mw_1392 mw_1394 ms_32 mw_10 mw_1395) ⟨rfl, rfl⟩ (by decide +kernel) ⟨⟨(Nat.le_of_ble_eq_true rfl), (Nat.le_of_ble_eq_true rfl)⟩, (Nat.le_of_ble_eq_true rfl), (Nat.le_of_ble_eq_true rfl)⟩ ⟨rfl, rfl⟩ (Nat.le_of_ble_eq_true rfl) dX5_denialCause_13 (fun H locs hP hD hS => ?_)
    refine lv_if_eq (tgt := 23) hx hb dX5_denialCause_16 (by decide) (fun c3 => ?_) (fun c3 => ?_)
    · have hF := ob_pos c3 hF
      refine lv_aload_n hx hb dX5_denialCause_23 rfl (lv_at hl 0 rfl) ?_
      refine va_get (D := g.1) (ci := 9) (v := .int (M_cause z2.2)) (C := RX5) (T := TX5) (N := 23) hx hb hts inX5 hown hK hP 0 rfl rfl 13 (by decide) (hts _ mw_1324) (fun _ h9 => h9) rfl dX5_denialCause_24 ?_
      cases hF
      rw [hQ]
      exact jb_iret hx hb hr hlocks hP hD hS dX5_denialCause_27 rfl (Nat.le_of_ble_eq_true rfl) (Nat.le_of_ble_eq_true rfl)
    · have hF := ob_neg c3 hF
      refine lv_iconst (v := 0) hx hb dX5_denialCause_19 (by decide) ?_
      refine lv_goto (tgt := 27) hx hb dX5_denialCause_20 (by decide) ?_
      cases hF
      rw [hQ]
      exact jb_iret hx hb hr hlocks hP hD hS dX5_denialCause_27 rfl (Nat.le_of_ble_eq_true rfl) (Nat.le_of_ble_eq_true rfl)
  · have hF := ob_nneg c1 hF
    refine lv_iconst (v := 1) hx hb dX5_denialCause_8 (by decide) ?_
    refine lv_goto (tgt := 13) hx hb dX5_denialCause_9 (by decide) ?_
    obtain ⟨z4, hz4, hF⟩ := ob_bind hF
    refine cl_i (csR := []) (csF := [wM g a z4.2]) (rest := []) hx hb hml hown hts hK hE hA hl hP hD hS (c_X5_fails g l a mo 1 z4 hz4) [0] [] [0] ⟨rfl, rfl, rfl, rfl, rfl, rfl, rfl⟩ ⟨0, 9, _, _, rfl, rfl, rfl⟩ 1 (jb_giV mw_1392 mw_1394 ms_32 mw_10 mw_1395) ⟨rfl, rfl⟩ (by decide +kernel) ⟨⟨(Nat.le_of_ble_eq_true rfl), (Nat.le_of_ble_eq_true rfl)⟩, (Nat.le_of_ble_eq_true rfl), (Nat.le_of_ble_eq_true rfl)⟩ ⟨rfl, rfl⟩ (Nat.le_of_ble_eq_true rfl) dX5_denialCause_13 (fun H locs hP hD hS => ?_)
    refine lv_if_eq (tgt := 23) hx hb dX5_denialCause_16 (by decide) (fun c5 => ?_) (fun c5 => ?_)
    · have hF := ob_pos c5 hF
      refine lv_aload_n hx hb dX5_denialCause_23 rfl (lv_at hl 0 rfl) ?_
      refine va_get (D := g.1) (ci := 9) (v := .int (M_cause z4.2)) (C := RX5) (T := TX5) (N := 23) hx hb hts inX5 hown hK hP 0 rfl rfl 13 (by decide) (hts _ mw_1324) (fun _ h9 => h9) rfl dX5_denialCause_24 ?_
      cases hF
      rw [hQ]
      exact jb_iret hx hb hr hlocks hP hD hS dX5_denialCause_27 rfl (Nat.le_of_ble_eq_true rfl) (Nat.le_of_ble_eq_true rfl)
    · have hF := ob_neg c5 hF
      refine lv_iconst (v := 0) hx hb dX5_denialCause_19 (by decide) ?_
      refine lv_goto (tgt := 27) hx hb dX5_denialCause_20 (by decide) ?_
      cases hF
      rw [hQ]
      exact jb_iret hx hb hr hlocks hP hD hS dX5_denialCause_27 rfl (Nat.le_of_ble_eq_true rfl) (Nat.le_of_ble_eq_true rfl)
def F_X5_undo (mo : Mv) : Option (Int32 × Mv) := if ¬ (M_changes mo) = 0 then (F_X5_fails mo 0).bind (fun z1 => if (bi z1.1) = 0 then (F_X5_copies 664 83 (M_kept z1.2) (M_g z1.2) (83 * ((M_changes z1.2) - 1)) 0).bind (fun z2 => some ((M_changes z1.2) - 1, (mkM z2 (M_kept z1.2) (M_saved z1.2) (M_before z1.2) (M_trial z1.2) (M_counted z1.2) (M_isSaved z1.2) ((M_changes z1.2) - 1) (M_isWithin z1.2) (M_isDenied z1.2) (M_code z1.2) (M_why z1.2) (M_detail z1.2) (M_cause z1.2) (M_input z1.2) (M_length z1.2) (M_fault z1.2) (M_signs z1.2) (M_signMany z1.2) (M_lastOver z1.2) (M_at z1.2) (M_told z1.2) (M_toldMany z1.2)))) else some (0, z1.2)) else (F_X5_fails mo 1).bind (fun z3 => if (bi z3.1) = 0 then (F_X5_copies 664 83 (M_kept z3.2) (M_g z3.2) (83 * ((M_changes z3.2) - 1)) 0).bind (fun z4 => some ((M_changes z3.2) - 1, (mkM z4 (M_kept z3.2) (M_saved z3.2) (M_before z3.2) (M_trial z3.2) (M_counted z3.2) (M_isSaved z3.2) ((M_changes z3.2) - 1) (M_isWithin z3.2) (M_isDenied z3.2) (M_code z3.2) (M_why z3.2) (M_detail z3.2) (M_cause z3.2) (M_input z3.2) (M_length z3.2) (M_fault z3.2) (M_signs z3.2) (M_signMany z3.2) (M_lastOver z3.2) (M_at z3.2) (M_told z3.2) (M_toldMany z3.2)))) else some (0, z3.2))
set_option maxHeartbeats 4000000 in
set_option maxRecDepth 100000 in
theorem c_X5_undo (g : GG) (l : Launch) (a : Nat → Nat) (mo : Mv) (z : Int32 × Mv) (hF : F_X5_undo mo = some z) : MI g l yX5_undo cX5_undo 1 (some .int) ({ frames := 1, cells := 0, slots := 0, locals := 24 } : Room) [.ref (a 0)] [wM g a mo] 0 0 z.1 [wM g a z.2] := by
  refine MI.bg (by decide) (Nat.le_of_ble_eq_true rfl) ?_
  intro p e s m below meth c A Q hQ hx hb hr hml hown hts hlocks hmn hK hE hA hP hD hS ls hl
  rw [F_X5_undo] at hF
  have hl : lv_has ls 1 [(0, .ref (a 0))] := hl
  refine lv_aload_n hx hb dX5_undo_0 rfl (lv_at hl 0 rfl) ?_
  refine lv_aload_n hx hb dX5_undo_1 rfl (lv_at hl 0 rfl) ?_
  refine va_get (D := g.1) (ci := 9) (v := .int (M_changes mo)) (C := RX5) (T := TX5) (N := 23) hx hb hts inX5 hown hK hP 0 rfl rfl 7 (by decide) (hts _ mw_1318) (fun _ h9 => h9) rfl dX5_undo_2 ?_
  refine lv_if_ne (tgt := 12) hx hb dX5_undo_5 (by decide) (fun c1 => ?_) (fun c1 => ?_)
  · have hF := ob_pos c1 hF
    refine lv_iconst (v := 0) hx hb dX5_undo_12 (by decide) ?_
    obtain ⟨z2, hz2, hF⟩ := ob_bind hF
    refine cl_i (csR := []) (csF := [wM g a z2.2]) (rest := []) hx hb hml hown hts hK hE hA hl hP hD hS (c_X5_fails g l a mo 0 z2 hz2) [0] [] [0] ⟨rfl, rfl, rfl, rfl, rfl, rfl, rfl⟩ ⟨0, 9, _, _, rfl, rfl, rfl⟩ 1 (jb_giV mw_1392 mw_1394 ms_32 mw_10 mw_1395) ⟨rfl, rfl⟩ (by decide +kernel) ⟨⟨(Nat.le_of_ble_eq_true rfl), (Nat.le_of_ble_eq_true rfl)⟩, (Nat.le_of_ble_eq_true rfl), (Nat.le_of_ble_eq_true rfl)⟩ ⟨rfl, rfl⟩ (Nat.le_of_ble_eq_true rfl) dX5_undo_13 (fun H locs hP hD hS => ?_)
    refine lv_if_eq (tgt := 21) hx hb dX5_undo_16 (by decide) (fun c3 => ?_) (fun c3 => ?_)
    · have hF := ob_pos c3 hF
      refine lv_aload_n hx hb dX5_undo_21 rfl (lv_at hl 0 rfl) ?_
      refine lv_dup hx hb dX5_undo_22 rfl ?_
      refine va_get (D := g.1) (ci := 9) (v := .int (M_changes z2.2)) (C := RX5) (T := TX5) (N := 23) hx hb hts inX5 hown hK hP 0 rfl rfl 7 (by decide) (hts _ mw_1318) (fun _ h9 => h9) rfl dX5_undo_23 ?_
      refine lv_iconst (v := 1) hx hb dX5_undo_26 (by decide) ?_
      refine lv_isub hx hb dX5_undo_27 ?_
      refine va_put (D := g.1) (ci := 9) (v := .int ((M_changes z2.2) - 1)) (ty := .int) (C := RX5) (T := TX5) (N := 23) hx hb hts inX5 tyX5 tyX5_ok nmX5 hown hK hP hD hS 0 rfl rfl 7 (by decide) (hts _ mw_1318) (fun _ h9 => h9) rfl (by decide +kernel) rfl rfl (Nat.le_of_ble_eq_true rfl) dX5_undo_28 (fun H locs hP hD hS => ?_)
      have hP : va_P g.1 vwCl ([wMc g a (M_g z2.2) (M_kept z2.2) (M_saved z2.2) (M_before z2.2) (M_trial z2.2) (M_counted z2.2) (M_isSaved z2.2) ((M_changes z2.2) - 1) (M_isWithin z2.2) (M_isDenied z2.2) (M_code z2.2) (M_why z2.2) (M_detail z2.2) (M_cause z2.2) (M_input z2.2) (M_length z2.2) (M_fault z2.2) (M_signs z2.2) (M_signMany z2.2) (M_lastOver z2.2) (M_at z2.2) (M_told z2.2) (M_toldMany z2.2)] : List va_W).flatten _ := hP
      have hD : va_D A ([wMc g a (M_g z2.2) (M_kept z2.2) (M_saved z2.2) (M_before z2.2) (M_trial z2.2) (M_counted z2.2) (M_isSaved z2.2) ((M_changes z2.2) - 1) (M_isWithin z2.2) (M_isDenied z2.2) (M_code z2.2) (M_why z2.2) (M_detail z2.2) (M_cause z2.2) (M_input z2.2) (M_length z2.2) (M_fault z2.2) (M_signs z2.2) (M_signMany z2.2) (M_lastOver z2.2) (M_at z2.2) (M_told z2.2) (M_toldMany z2.2)] : List va_W).flatten := hD
      refine lv_aload_n hx hb dX5_undo_31 rfl (lv_at hl 0 rfl) ?_
      refine va_get (D := g.1) (ci := 9) (v := .ref (a 2)) (C := RX5) (T := TX5) (N := 23) hx hb hts inX5 hown hK hP 0 rfl rfl 1 (by decide) (hts _ mw_1312) (fun _ h9 => h9) rfl dX5_undo_32 ?_
      refine lv_bipush (v := 83) hx hb dX5_undo_35 (by decide) ?_
      refine lv_aload_n hx hb dX5_undo_37 rfl (lv_at hl 0 rfl) ?_
      refine va_get (D := g.1) (ci := 9) (v := .int ((M_changes z2.2) - 1)) (C := RX5) (T := TX5) (N := 23) hx hb hts inX5 hown hK hP 0 rfl rfl 7 (by decide) (hts _ mw_1318) (fun _ h9 => h9) rfl dX5_undo_38 ?_
      refine lv_imul hx hb dX5_undo_41 ?_
      refine lv_aload_n hx hb dX5_undo_42 rfl (lv_at hl 0 rfl) ?_
      refine va_get (D := g.1) (ci := 9) (v := .ref (a 1)) (C := RX5) (T := TX5) (N := 23) hx hb hts inX5 hown hK hP 0 rfl rfl 0 (by decide) (hts _ mw_1311) (fun _ h9 => h9) rfl dX5_undo_43 ?_
      refine lv_iconst (v := 0) hx hb dX5_undo_46 (by decide) ?_
      obtain ⟨z4, hz4, hF⟩ := ob_bind hF
      have hP : va_P g.1 vwCl ([[(a 0, .inr (9, [.ref (a 1), .ref (a 2), .ref (a 3), .ref (a 4), .ref (a 5), .ref (a 6), .int (M_isSaved z2.2), .int ((M_changes z2.2) - 1), .int (M_isWithin z2.2), .int (M_isDenied z2.2), .int (M_code z2.2), .int (M_why z2.2), .int (M_detail z2.2), .int (M_cause z2.2), .ref (a 7), .int (M_length z2.2), .int (M_fault z2.2), .ref (a 8), .int (M_signMany z2.2), .int (M_lastOver z2.2), .int (M_at z2.2), .ref (a 9), .int (M_toldMany z2.2)]))], [(a 1, .inl (g.2.1 0, 83, .inl (M_g z2.2)))], [(a 2, .inl (g.2.1 0, 664, .inl (M_kept z2.2)))], [(a 3, .inl (g.2.1 0, 83, .inl (M_saved z2.2)))], [(a 4, .inl (g.2.1 0, 83, .inl (M_before z2.2)))], [(a 5, .inl (g.2.1 0, 83, .inl (M_trial z2.2)))], [(a 6, .inl (g.2.1 0, 10, .inl (M_counted z2.2)))], [(a 7, .inl (g.2.1 0, 60, .inl (M_input z2.2)))], [(a 8, .inl (g.2.1 1, 200, .inl (M_signs z2.2)))], [(a 9, .inl (g.2.1 0, 93, .inl (M_told z2.2)))]] : List va_W).flatten _ := hP
      have hD : va_D A ([[(a 0, .inr (9, [.ref (a 1), .ref (a 2), .ref (a 3), .ref (a 4), .ref (a 5), .ref (a 6), .int (M_isSaved z2.2), .int ((M_changes z2.2) - 1), .int (M_isWithin z2.2), .int (M_isDenied z2.2), .int (M_code z2.2), .int (M_why z2.2), .int (M_detail z2.2), .int (M_cause z2.2), .ref (a 7), .int (M_length z2.2), .int (M_fault z2.2), .ref (a 8), .int (M_signMany z2.2), .int (M_lastOver z2.2), .int (M_at z2.2), .ref (a 9), .int (M_toldMany z2.2)]))], [(a 1, .inl (g.2.1 0, 83, .inl (M_g z2.2)))], [(a 2, .inl (g.2.1 0, 664, .inl (M_kept z2.2)))], [(a 3, .inl (g.2.1 0, 83, .inl (M_saved z2.2)))], [(a 4, .inl (g.2.1 0, 83, .inl (M_before z2.2)))], [(a 5, .inl (g.2.1 0, 83, .inl (M_trial z2.2)))], [(a 6, .inl (g.2.1 0, 10, .inl (M_counted z2.2)))], [(a 7, .inl (g.2.1 0, 60, .inl (M_input z2.2)))], [(a 8, .inl (g.2.1 1, 200, .inl (M_signs z2.2)))], [(a 9, .inl (g.2.1 0, 93, .inl (M_told z2.2)))]] : List va_W).flatten := hD
      refine cl_sv (csR := [[(a 0, .inr (9, [.ref (a 1), .ref (a 2), .ref (a 3), .ref (a 4), .ref (a 5), .ref (a 6), .int (M_isSaved z2.2), .int ((M_changes z2.2) - 1), .int (M_isWithin z2.2), .int (M_isDenied z2.2), .int (M_code z2.2), .int (M_why z2.2), .int (M_detail z2.2), .int (M_cause z2.2), .ref (a 7), .int (M_length z2.2), .int (M_fault z2.2), .ref (a 8), .int (M_signMany z2.2), .int (M_lastOver z2.2), .int (M_at z2.2), .ref (a 9), .int (M_toldMany z2.2)]))], [(a 3, .inl (g.2.1 0, 83, .inl (M_saved z2.2)))], [(a 4, .inl (g.2.1 0, 83, .inl (M_before z2.2)))], [(a 5, .inl (g.2.1 0, 83, .inl (M_trial z2.2)))], [(a 6, .inl (g.2.1 0, 10, .inl (M_counted z2.2)))], [(a 7, .inl (g.2.1 0, 60, .inl (M_input z2.2)))], [(a 8, .inl (g.2.1 1, 200, .inl (M_signs z2.2)))], [(a 9, .inl (g.2.1 0, 93, .inl (M_told z2.2)))]]) (csF := [[(a 0, .inr (9, [.ref (a 1), .ref (a 2), .ref (a 3), .ref (a 4), .ref (a 5), .ref (a 6), .int (M_isSaved z2.2), .int ((M_changes z2.2) - 1), .int (M_isWithin z2.2), .int (M_isDenied z2.2), .int (M_code z2.2), .int (M_why z2.2), .int (M_detail z2.2), .int (M_cause z2.2), .ref (a 7), .int (M_length z2.2), .int (M_fault z2.2), .ref (a 8), .int (M_signMany z2.2), .int (M_lastOver z2.2), .int (M_at z2.2), .ref (a 9), .int (M_toldMany z2.2)]))], [(a 1, .inl (g.2.1 0, 83, .inl z4))], [(a 2, .inl (g.2.1 0, 664, .inl (M_kept z2.2)))], [(a 3, .inl (g.2.1 0, 83, .inl (M_saved z2.2)))], [(a 4, .inl (g.2.1 0, 83, .inl (M_before z2.2)))], [(a 5, .inl (g.2.1 0, 83, .inl (M_trial z2.2)))], [(a 6, .inl (g.2.1 0, 10, .inl (M_counted z2.2)))], [(a 7, .inl (g.2.1 0, 60, .inl (M_input z2.2)))], [(a 8, .inl (g.2.1 1, 200, .inl (M_signs z2.2)))], [(a 9, .inl (g.2.1 0, 93, .inl (M_told z2.2)))]]) (rest := []) hx hb hml hown hts hK hE hA hl hP hD hS (c_X5_copies g l (fun _ => a 2) 664 (fun _ => a 1) 83 (M_kept z2.2) (M_g z2.2) (83 * ((M_changes z2.2) - 1)) 0 z4 hz4) [2, 1] [0, 3, 4, 5, 6, 7, 8, 9] [0, 9, 8, 1, 2, 3, 4, 5, 6, 7] ⟨rfl, rfl, rfl, rfl, rfl, rfl, rfl⟩ 4 (jb_giS mw_1404 mw_1405 mw_10 mw_1406) ⟨rfl, rfl⟩ (by decide +kernel) ⟨⟨(Nat.le_of_ble_eq_true rfl), (Nat.le_of_ble_eq_true rfl)⟩, (Nat.le_of_ble_eq_true rfl), (Nat.le_of_ble_eq_true rfl)⟩ ⟨rfl, rfl⟩ (Nat.le_of_ble_eq_true rfl) dX5_undo_47 (fun H locs hP hD hS => ?_)
      have hP : va_P g.1 vwCl ([wMc g a z4 (M_kept z2.2) (M_saved z2.2) (M_before z2.2) (M_trial z2.2) (M_counted z2.2) (M_isSaved z2.2) ((M_changes z2.2) - 1) (M_isWithin z2.2) (M_isDenied z2.2) (M_code z2.2) (M_why z2.2) (M_detail z2.2) (M_cause z2.2) (M_input z2.2) (M_length z2.2) (M_fault z2.2) (M_signs z2.2) (M_signMany z2.2) (M_lastOver z2.2) (M_at z2.2) (M_told z2.2) (M_toldMany z2.2)] : List va_W).flatten _ := hP
      have hD : va_D A ([wMc g a z4 (M_kept z2.2) (M_saved z2.2) (M_before z2.2) (M_trial z2.2) (M_counted z2.2) (M_isSaved z2.2) ((M_changes z2.2) - 1) (M_isWithin z2.2) (M_isDenied z2.2) (M_code z2.2) (M_why z2.2) (M_detail z2.2) (M_cause z2.2) (M_input z2.2) (M_length z2.2) (M_fault z2.2) (M_signs z2.2) (M_signMany z2.2) (M_lastOver z2.2) (M_at z2.2) (M_told z2.2) (M_toldMany z2.2)] : List va_W).flatten := hD
      refine lv_aload_n hx hb dX5_undo_50 rfl (lv_at hl 0 rfl) ?_
      refine va_get (D := g.1) (ci := 9) (v := .int ((M_changes z2.2) - 1)) (C := RX5) (T := TX5) (N := 23) hx hb hts inX5 hown hK hP 0 rfl rfl 7 (by decide) (hts _ mw_1318) (fun _ h9 => h9) rfl dX5_undo_51 ?_
      cases hF
      rw [hQ]
      exact jb_iret hx hb hr hlocks hP hD hS dX5_undo_54 rfl (Nat.le_of_ble_eq_true rfl) (Nat.le_of_ble_eq_true rfl)
    · have hF := ob_neg c3 hF
      refine lv_iconst (v := 0) hx hb dX5_undo_19 (by decide) ?_
      cases hF
      rw [hQ]
      exact jb_iret hx hb hr hlocks hP hD hS dX5_undo_20 rfl (Nat.le_of_ble_eq_true rfl) (Nat.le_of_ble_eq_true rfl)
  · have hF := ob_nneg c1 hF
    refine lv_iconst (v := 1) hx hb dX5_undo_8 (by decide) ?_
    refine lv_goto (tgt := 13) hx hb dX5_undo_9 (by decide) ?_
    obtain ⟨z5, hz5, hF⟩ := ob_bind hF
    refine cl_i (csR := []) (csF := [wM g a z5.2]) (rest := []) hx hb hml hown hts hK hE hA hl hP hD hS (c_X5_fails g l a mo 1 z5 hz5) [0] [] [0] ⟨rfl, rfl, rfl, rfl, rfl, rfl, rfl⟩ ⟨0, 9, _, _, rfl, rfl, rfl⟩ 1 (jb_giV mw_1392 mw_1394 ms_32 mw_10 mw_1395) ⟨rfl, rfl⟩ (by decide +kernel) ⟨⟨(Nat.le_of_ble_eq_true rfl), (Nat.le_of_ble_eq_true rfl)⟩, (Nat.le_of_ble_eq_true rfl), (Nat.le_of_ble_eq_true rfl)⟩ ⟨rfl, rfl⟩ (Nat.le_of_ble_eq_true rfl) dX5_undo_13 (fun H locs hP hD hS => ?_)
    refine lv_if_eq (tgt := 21) hx hb dX5_undo_16 (by decide) (fun c6 => ?_) (fun c6 => ?_)
    · have hF := ob_pos c6 hF
      refine lv_aload_n hx hb dX5_undo_21 rfl (lv_at hl 0 rfl) ?_
      refine lv_dup hx hb dX5_undo_22 rfl ?_
      refine va_get (D := g.1) (ci := 9) (v := .int (M_changes z5.2)) (C := RX5) (T := TX5) (N := 23) hx hb hts inX5 hown hK hP 0 rfl rfl 7 (by decide) (hts _ mw_1318) (fun _ h9 => h9) rfl dX5_undo_23 ?_
      refine lv_iconst (v := 1) hx hb dX5_undo_26 (by decide) ?_
      refine lv_isub hx hb dX5_undo_27 ?_
      refine va_put (D := g.1) (ci := 9) (v := .int ((M_changes z5.2) - 1)) (ty := .int) (C := RX5) (T := TX5) (N := 23) hx hb hts inX5 tyX5 tyX5_ok nmX5 hown hK hP hD hS 0 rfl rfl 7 (by decide) (hts _ mw_1318) (fun _ h9 => h9) rfl (by decide +kernel) rfl rfl (Nat.le_of_ble_eq_true rfl) dX5_undo_28 (fun H locs hP hD hS => ?_)
      have hP : va_P g.1 vwCl ([wMc g a (M_g z5.2) (M_kept z5.2) (M_saved z5.2) (M_before z5.2) (M_trial z5.2) (M_counted z5.2) (M_isSaved z5.2) ((M_changes z5.2) - 1) (M_isWithin z5.2) (M_isDenied z5.2) (M_code z5.2) (M_why z5.2) (M_detail z5.2) (M_cause z5.2) (M_input z5.2) (M_length z5.2) (M_fault z5.2) (M_signs z5.2) (M_signMany z5.2) (M_lastOver z5.2) (M_at z5.2) (M_told z5.2) (M_toldMany z5.2)] : List va_W).flatten _ := hP
      have hD : va_D A ([wMc g a (M_g z5.2) (M_kept z5.2) (M_saved z5.2) (M_before z5.2) (M_trial z5.2) (M_counted z5.2) (M_isSaved z5.2) ((M_changes z5.2) - 1) (M_isWithin z5.2) (M_isDenied z5.2) (M_code z5.2) (M_why z5.2) (M_detail z5.2) (M_cause z5.2) (M_input z5.2) (M_length z5.2) (M_fault z5.2) (M_signs z5.2) (M_signMany z5.2) (M_lastOver z5.2) (M_at z5.2) (M_told z5.2) (M_toldMany z5.2)] : List va_W).flatten := hD
      refine lv_aload_n hx hb dX5_undo_31 rfl (lv_at hl 0 rfl) ?_
      refine va_get (D := g.1) (ci := 9) (v := .ref (a 2)) (C := RX5) (T := TX5) (N := 23) hx hb hts inX5 hown hK hP 0 rfl rfl 1 (by decide) (hts _ mw_1312) (fun _ h9 => h9) rfl dX5_undo_32 ?_
      refine lv_bipush (v := 83) hx hb dX5_undo_35 (by decide) ?_
      refine lv_aload_n hx hb dX5_undo_37 rfl (lv_at hl 0 rfl) ?_
      refine va_get (D := g.1) (ci := 9) (v := .int ((M_changes z5.2) - 1)) (C := RX5) (T := TX5) (N := 23) hx hb hts inX5 hown hK hP 0 rfl rfl 7 (by decide) (hts _ mw_1318) (fun _ h9 => h9) rfl dX5_undo_38 ?_
      refine lv_imul hx hb dX5_undo_41 ?_
      refine lv_aload_n hx hb dX5_undo_42 rfl (lv_at hl 0 rfl) ?_
      refine va_get (D := g.1) (ci := 9) (v := .ref (a 1)) (C := RX5) (T := TX5) (N := 23) hx hb hts inX5 hown hK hP 0 rfl rfl 0 (by decide) (hts _ mw_1311) (fun _ h9 => h9) rfl dX5_undo_43 ?_
      refine lv_iconst (v := 0) hx hb dX5_undo_46 (by decide) ?_
      obtain ⟨z7, hz7, hF⟩ := ob_bind hF
      have hP : va_P g.1 vwCl ([[(a 0, .inr (9, [.ref (a 1), .ref (a 2), .ref (a 3), .ref (a 4), .ref (a 5), .ref (a 6), .int (M_isSaved z5.2), .int ((M_changes z5.2) - 1), .int (M_isWithin z5.2), .int (M_isDenied z5.2), .int (M_code z5.2), .int (M_why z5.2), .int (M_detail z5.2), .int (M_cause z5.2), .ref (a 7), .int (M_length z5.2), .int (M_fault z5.2), .ref (a 8), .int (M_signMany z5.2), .int (M_lastOver z5.2), .int (M_at z5.2), .ref (a 9), .int (M_toldMany z5.2)]))], [(a 1, .inl (g.2.1 0, 83, .inl (M_g z5.2)))], [(a 2, .inl (g.2.1 0, 664, .inl (M_kept z5.2)))], [(a 3, .inl (g.2.1 0, 83, .inl (M_saved z5.2)))], [(a 4, .inl (g.2.1 0, 83, .inl (M_before z5.2)))], [(a 5, .inl (g.2.1 0, 83, .inl (M_trial z5.2)))], [(a 6, .inl (g.2.1 0, 10, .inl (M_counted z5.2)))], [(a 7, .inl (g.2.1 0, 60, .inl (M_input z5.2)))], [(a 8, .inl (g.2.1 1, 200, .inl (M_signs z5.2)))], [(a 9, .inl (g.2.1 0, 93, .inl (M_told z5.2)))]] : List va_W).flatten _ := hP
      have hD : va_D A ([[(a 0, .inr (9, [.ref (a 1), .ref (a 2), .ref (a 3), .ref (a 4), .ref (a 5), .ref (a 6), .int (M_isSaved z5.2), .int ((M_changes z5.2) - 1), .int (M_isWithin z5.2), .int (M_isDenied z5.2), .int (M_code z5.2), .int (M_why z5.2), .int (M_detail z5.2), .int (M_cause z5.2), .ref (a 7), .int (M_length z5.2), .int (M_fault z5.2), .ref (a 8), .int (M_signMany z5.2), .int (M_lastOver z5.2), .int (M_at z5.2), .ref (a 9), .int (M_toldMany z5.2)]))], [(a 1, .inl (g.2.1 0, 83, .inl (M_g z5.2)))], [(a 2, .inl (g.2.1 0, 664, .inl (M_kept z5.2)))], [(a 3, .inl (g.2.1 0, 83, .inl (M_saved z5.2)))], [(a 4, .inl (g.2.1 0, 83, .inl (M_before z5.2)))], [(a 5, .inl (g.2.1 0, 83, .inl (M_trial z5.2)))], [(a 6, .inl (g.2.1 0, 10, .inl (M_counted z5.2)))], [(a 7, .inl (g.2.1 0, 60, .inl (M_input z5.2)))], [(a 8, .inl (g.2.1 1, 200, .inl (M_signs z5.2)))], [(a 9, .inl (g.2.1 0, 93, .inl (M_told z5.2)))]] : List va_W).flatten := hD
      refine cl_sv (csR := [[(a 0, .inr (9, [.ref (a 1), .ref (a 2), .ref (a 3), .ref (a 4), .ref (a 5), .ref (a 6), .int (M_isSaved z5.2), .int ((M_changes z5.2) - 1), .int (M_isWithin z5.2), .int (M_isDenied z5.2), .int (M_code z5.2), .int (M_why z5.2), .int (M_detail z5.2), .int (M_cause z5.2), .ref (a 7), .int (M_length z5.2), .int (M_fault z5.2), .ref (a 8), .int (M_signMany z5.2), .int (M_lastOver z5.2), .int (M_at z5.2), .ref (a 9), .int (M_toldMany z5.2)]))], [(a 3, .inl (g.2.1 0, 83, .inl (M_saved z5.2)))], [(a 4, .inl (g.2.1 0, 83, .inl (M_before z5.2)))], [(a 5, .inl (g.2.1 0, 83, .inl (M_trial z5.2)))], [(a 6, .inl (g.2.1 0, 10, .inl (M_counted z5.2)))], [(a 7, .inl (g.2.1 0, 60, .inl (M_input z5.2)))], [(a 8, .inl (g.2.1 1, 200, .inl (M_signs z5.2)))], [(a 9, .inl (g.2.1 0, 93, .inl (M_told z5.2)))]]) (csF := [[(a 0, .inr (9, [.ref (a 1), .ref (a 2), .ref (a 3), .ref (a 4), .ref (a 5), .ref (a 6), .int (M_isSaved z5.2), .int ((M_changes z5.2) - 1), .int (M_isWithin z5.2), .int (M_isDenied z5.2), .int (M_code z5.2), .int (M_why z5.2), .int (M_detail z5.2), .int (M_cause z5.2), .ref (a 7), .int (M_length z5.2), .int (M_fault z5.2), .ref (a 8), .int (M_signMany z5.2), .int (M_lastOver z5.2), .int (M_at z5.2), .ref (a 9), .int (M_toldMany z5.2)]))], [(a 1, .inl (g.2.1 0, 83, .inl z7))], [(a 2, .inl (g.2.1 0, 664, .inl (M_kept z5.2)))], [(a 3, .inl (g.2.1 0, 83, .inl (M_saved z5.2)))], [(a 4, .inl (g.2.1 0, 83, .inl (M_before z5.2)))], [(a 5, .inl (g.2.1 0, 83, .inl (M_trial z5.2)))], [(a 6, .inl (g.2.1 0, 10, .inl (M_counted z5.2)))], [(a 7, .inl (g.2.1 0, 60, .inl (M_input z5.2)))], [(a 8, .inl (g.2.1 1, 200, .inl (M_signs z5.2)))], [(a 9, .inl (g.2.1 0, 93, .inl (M_told z5.2)))]]) (rest := []) hx hb hml hown hts hK hE hA hl hP hD hS (c_X5_copies g l (fun _ => a 2) 664 (fun _ => a 1) 83 (M_kept z5.2) (M_g z5.2) (83 * ((M_changes z5.2) - 1)) 0 z7 hz7) [2, 1] [0, 3, 4, 5, 6, 7, 8, 9] [0, 9, 8, 1, 2, 3, 4, 5, 6, 7] ⟨rfl, rfl, rfl, rfl, rfl, rfl, rfl⟩ 4 (jb_giS mw_1404 mw_1405 mw_10 mw_1406) ⟨rfl, rfl⟩ (by decide +kernel) ⟨⟨(Nat.le_of_ble_eq_true rfl), (Nat.le_of_ble_eq_true rfl)⟩, (Nat.le_of_ble_eq_true rfl), (Nat.le_of_ble_eq_true rfl)⟩ ⟨rfl, rfl⟩ (Nat.le_of_ble_eq_true rfl) dX5_undo_47 (fun H locs hP hD hS => ?_)
      have hP : va_P g.1 vwCl ([wMc g a z7 (M_kept z5.2) (M_saved z5.2) (M_before z5.2) (M_trial z5.2) (M_counted z5.2) (M_isSaved z5.2) ((M_changes z5.2) - 1) (M_isWithin z5.2) (M_isDenied z5.2) (M_code z5.2) (M_why z5.2) (M_detail z5.2) (M_cause z5.2) (M_input z5.2) (M_length z5.2) (M_fault z5.2) (M_signs z5.2) (M_signMany z5.2) (M_lastOver z5.2) (M_at z5.2) (M_told z5.2) (M_toldMany z5.2)] : List va_W).flatten _ := hP
      have hD : va_D A ([wMc g a z7 (M_kept z5.2) (M_saved z5.2) (M_before z5.2) (M_trial z5.2) (M_counted z5.2) (M_isSaved z5.2) ((M_changes z5.2) - 1) (M_isWithin z5.2) (M_isDenied z5.2) (M_code z5.2) (M_why z5.2) (M_detail z5.2) (M_cause z5.2) (M_input z5.2) (M_length z5.2) (M_fault z5.2) (M_signs z5.2) (M_signMany z5.2) (M_lastOver z5.2) (M_at z5.2) (M_told z5.2) (M_toldMany z5.2)] : List va_W).flatten := hD
      refine lv_aload_n hx hb dX5_undo_50 rfl (lv_at hl 0 rfl) ?_
      refine va_get (D := g.1) (ci := 9) (v := .int ((M_changes z5.2) - 1)) (C := RX5) (T := TX5) (N := 23) hx hb hts inX5 hown hK hP 0 rfl rfl 7 (by decide) (hts _ mw_1318) (fun _ h9 => h9) rfl dX5_undo_51 ?_
      cases hF
      rw [hQ]
      exact jb_iret hx hb hr hlocks hP hD hS dX5_undo_54 rfl (Nat.le_of_ble_eq_true rfl) (Nat.le_of_ble_eq_true rfl)
    · have hF := ob_neg c6 hF
      refine lv_iconst (v := 0) hx hb dX5_undo_19 (by decide) ?_
      cases hF
      rw [hQ]
      exact jb_iret hx hb hr hlocks hP hD hS dX5_undo_20 rfl (Nat.le_of_ble_eq_true rfl) (Nat.le_of_ble_eq_true rfl)
def F_X5_undoCount (mo : Mv) : Option (Int32 × Mv) := some (M_changes mo, (mkM (M_g mo) (M_kept mo) (M_saved mo) (M_before mo) (M_trial mo) (M_counted mo) (M_isSaved mo) (M_changes mo) (M_isWithin mo) (M_isDenied mo) 0 (M_why mo) (M_detail mo) (M_cause mo) (M_input mo) (M_length mo) (M_fault mo) (M_signs mo) (M_signMany mo) (M_lastOver mo) (M_at mo) (M_told mo) (M_toldMany mo)))
set_option maxHeartbeats 4000000 in
set_option maxRecDepth 100000 in
theorem c_X5_undoCount (g : GG) (l : Launch) (a : Nat → Nat) (mo : Mv) (z : Int32 × Mv) (hF : F_X5_undoCount mo = some z) : MI g l yX5_undoCount cX5_undoCount 1 (some .int) ({ frames := 0, cells := 0, slots := 0, locals := 0 } : Room) [.ref (a 0)] [wM g a mo] 0 0 z.1 [wM g a z.2] := by
  refine MI.bg (by decide) (Nat.le_of_ble_eq_true rfl) ?_
  intro p e s m below meth c A Q hQ hx hb hr hml hown hts hlocks hmn hK hE hA hP hD hS ls hl
  rw [F_X5_undoCount] at hF
  have hl : lv_has ls 1 [(0, .ref (a 0))] := hl
  refine lv_aload_n hx hb dX5_undoCount_0 rfl (lv_at hl 0 rfl) ?_
  refine lv_iconst (v := 0) hx hb dX5_undoCount_1 (by decide) ?_
  refine va_put (D := g.1) (ci := 9) (v := .int 0) (ty := .int) (C := RX5) (T := TX5) (N := 23) hx hb hts inX5 tyX5 tyX5_ok nmX5 hown hK hP hD hS 0 rfl rfl 10 (by decide) (hts _ mw_1321) (fun _ h9 => h9) rfl (by decide +kernel) rfl rfl (Nat.le_of_ble_eq_true rfl) dX5_undoCount_2 (fun H locs hP hD hS => ?_)
  have hP : va_P g.1 vwCl ([wMc g a (M_g mo) (M_kept mo) (M_saved mo) (M_before mo) (M_trial mo) (M_counted mo) (M_isSaved mo) (M_changes mo) (M_isWithin mo) (M_isDenied mo) 0 (M_why mo) (M_detail mo) (M_cause mo) (M_input mo) (M_length mo) (M_fault mo) (M_signs mo) (M_signMany mo) (M_lastOver mo) (M_at mo) (M_told mo) (M_toldMany mo)] : List va_W).flatten _ := hP
  have hD : va_D A ([wMc g a (M_g mo) (M_kept mo) (M_saved mo) (M_before mo) (M_trial mo) (M_counted mo) (M_isSaved mo) (M_changes mo) (M_isWithin mo) (M_isDenied mo) 0 (M_why mo) (M_detail mo) (M_cause mo) (M_input mo) (M_length mo) (M_fault mo) (M_signs mo) (M_signMany mo) (M_lastOver mo) (M_at mo) (M_told mo) (M_toldMany mo)] : List va_W).flatten := hD
  refine lv_aload_n hx hb dX5_undoCount_5 rfl (lv_at hl 0 rfl) ?_
  refine va_get (D := g.1) (ci := 9) (v := .int (M_changes mo)) (C := RX5) (T := TX5) (N := 23) hx hb hts inX5 hown hK hP 0 rfl rfl 7 (by decide) (hts _ mw_1318) (fun _ h9 => h9) rfl dX5_undoCount_6 ?_
  cases hF
  rw [hQ]
  exact jb_iret hx hb hr hlocks hP hD hS dX5_undoCount_9 rfl (Nat.le_of_ble_eq_true rfl) (Nat.le_of_ble_eq_true rfl)
def F_X5_saveSnapshot (mo : Mv) : Option (Int32 × Mv) := (F_X5_copies 83 83 (M_g mo) (M_saved mo) 0 0).bind (fun z1 => ck (inb 0 83) (some ((M_g mo) (0 : Int32).toNatClampNeg, (mkM (M_g mo) (M_kept mo) z1 (M_before mo) (M_trial mo) (M_counted mo) 1 (M_changes mo) (M_isWithin mo) (M_isDenied mo) 0 (M_why mo) (M_detail mo) (M_cause mo) (M_input mo) (M_length mo) (M_fault mo) (M_signs mo) (M_signMany mo) (M_lastOver mo) (M_at mo) (M_told mo) (M_toldMany mo)))))
set_option maxHeartbeats 4000000 in
set_option maxRecDepth 100000 in
theorem c_X5_saveSnapshot (g : GG) (l : Launch) (a : Nat → Nat) (mo : Mv) (z : Int32 × Mv) (hF : F_X5_saveSnapshot mo = some z) : MI g l yX5_saveSnapshot cX5_saveSnapshot 1 (some .int) ({ frames := 1, cells := 0, slots := 0, locals := 24 } : Room) [.ref (a 0)] [wM g a mo] 0 0 z.1 [wM g a z.2] := by
  refine MI.bg (by decide) (Nat.le_of_ble_eq_true rfl) ?_
  intro p e s m below meth c A Q hQ hx hb hr hml hown hts hlocks hmn hK hE hA hP hD hS ls hl
  rw [F_X5_saveSnapshot] at hF
  have hl : lv_has ls 1 [(0, .ref (a 0))] := hl
  refine lv_aload_n hx hb dX5_saveSnapshot_0 rfl (lv_at hl 0 rfl) ?_
  refine lv_iconst (v := 0) hx hb dX5_saveSnapshot_1 (by decide) ?_
  refine va_put (D := g.1) (ci := 9) (v := .int 0) (ty := .int) (C := RX5) (T := TX5) (N := 23) hx hb hts inX5 tyX5 tyX5_ok nmX5 hown hK hP hD hS 0 rfl rfl 10 (by decide) (hts _ mw_1321) (fun _ h9 => h9) rfl (by decide +kernel) rfl rfl (Nat.le_of_ble_eq_true rfl) dX5_saveSnapshot_2 (fun H locs hP hD hS => ?_)
  have hP : va_P g.1 vwCl ([wMc g a (M_g mo) (M_kept mo) (M_saved mo) (M_before mo) (M_trial mo) (M_counted mo) (M_isSaved mo) (M_changes mo) (M_isWithin mo) (M_isDenied mo) 0 (M_why mo) (M_detail mo) (M_cause mo) (M_input mo) (M_length mo) (M_fault mo) (M_signs mo) (M_signMany mo) (M_lastOver mo) (M_at mo) (M_told mo) (M_toldMany mo)] : List va_W).flatten _ := hP
  have hD : va_D A ([wMc g a (M_g mo) (M_kept mo) (M_saved mo) (M_before mo) (M_trial mo) (M_counted mo) (M_isSaved mo) (M_changes mo) (M_isWithin mo) (M_isDenied mo) 0 (M_why mo) (M_detail mo) (M_cause mo) (M_input mo) (M_length mo) (M_fault mo) (M_signs mo) (M_signMany mo) (M_lastOver mo) (M_at mo) (M_told mo) (M_toldMany mo)] : List va_W).flatten := hD
  refine lv_aload_n hx hb dX5_saveSnapshot_5 rfl (lv_at hl 0 rfl) ?_
  refine lv_iconst (v := 1) hx hb dX5_saveSnapshot_6 (by decide) ?_
  refine va_put (D := g.1) (ci := 9) (v := .int 1) (ty := .boolean) (C := RX5) (T := TX5) (N := 23) hx hb hts inX5 tyX5 tyX5_ok nmX5 hown hK hP hD hS 0 rfl rfl 6 (by decide) (hts _ mw_1317) (fun _ h9 => h9) rfl (by decide +kernel) rfl rfl (Nat.le_of_ble_eq_true rfl) dX5_saveSnapshot_7 (fun H locs hP hD hS => ?_)
  have hP : va_P g.1 vwCl ([wMc g a (M_g mo) (M_kept mo) (M_saved mo) (M_before mo) (M_trial mo) (M_counted mo) 1 (M_changes mo) (M_isWithin mo) (M_isDenied mo) 0 (M_why mo) (M_detail mo) (M_cause mo) (M_input mo) (M_length mo) (M_fault mo) (M_signs mo) (M_signMany mo) (M_lastOver mo) (M_at mo) (M_told mo) (M_toldMany mo)] : List va_W).flatten _ := hP
  have hD : va_D A ([wMc g a (M_g mo) (M_kept mo) (M_saved mo) (M_before mo) (M_trial mo) (M_counted mo) 1 (M_changes mo) (M_isWithin mo) (M_isDenied mo) 0 (M_why mo) (M_detail mo) (M_cause mo) (M_input mo) (M_length mo) (M_fault mo) (M_signs mo) (M_signMany mo) (M_lastOver mo) (M_at mo) (M_told mo) (M_toldMany mo)] : List va_W).flatten := hD
  refine lv_aload_n hx hb dX5_saveSnapshot_10 rfl (lv_at hl 0 rfl) ?_
  refine va_get (D := g.1) (ci := 9) (v := .ref (a 1)) (C := RX5) (T := TX5) (N := 23) hx hb hts inX5 hown hK hP 0 rfl rfl 0 (by decide) (hts _ mw_1311) (fun _ h9 => h9) rfl dX5_saveSnapshot_11 ?_
  refine lv_iconst (v := 0) hx hb dX5_saveSnapshot_14 (by decide) ?_
  refine lv_aload_n hx hb dX5_saveSnapshot_15 rfl (lv_at hl 0 rfl) ?_
  refine va_get (D := g.1) (ci := 9) (v := .ref (a 3)) (C := RX5) (T := TX5) (N := 23) hx hb hts inX5 hown hK hP 0 rfl rfl 2 (by decide) (hts _ mw_1313) (fun _ h9 => h9) rfl dX5_saveSnapshot_16 ?_
  refine lv_iconst (v := 0) hx hb dX5_saveSnapshot_19 (by decide) ?_
  obtain ⟨z1, hz1, hF⟩ := ob_bind hF
  have hP : va_P g.1 vwCl ([[(a 0, .inr (9, [.ref (a 1), .ref (a 2), .ref (a 3), .ref (a 4), .ref (a 5), .ref (a 6), .int 1, .int (M_changes mo), .int (M_isWithin mo), .int (M_isDenied mo), .int 0, .int (M_why mo), .int (M_detail mo), .int (M_cause mo), .ref (a 7), .int (M_length mo), .int (M_fault mo), .ref (a 8), .int (M_signMany mo), .int (M_lastOver mo), .int (M_at mo), .ref (a 9), .int (M_toldMany mo)]))], [(a 1, .inl (g.2.1 0, 83, .inl (M_g mo)))], [(a 2, .inl (g.2.1 0, 664, .inl (M_kept mo)))], [(a 3, .inl (g.2.1 0, 83, .inl (M_saved mo)))], [(a 4, .inl (g.2.1 0, 83, .inl (M_before mo)))], [(a 5, .inl (g.2.1 0, 83, .inl (M_trial mo)))], [(a 6, .inl (g.2.1 0, 10, .inl (M_counted mo)))], [(a 7, .inl (g.2.1 0, 60, .inl (M_input mo)))], [(a 8, .inl (g.2.1 1, 200, .inl (M_signs mo)))], [(a 9, .inl (g.2.1 0, 93, .inl (M_told mo)))]] : List va_W).flatten _ := hP
  have hD : va_D A ([[(a 0, .inr (9, [.ref (a 1), .ref (a 2), .ref (a 3), .ref (a 4), .ref (a 5), .ref (a 6), .int 1, .int (M_changes mo), .int (M_isWithin mo), .int (M_isDenied mo), .int 0, .int (M_why mo), .int (M_detail mo), .int (M_cause mo), .ref (a 7), .int (M_length mo), .int (M_fault mo), .ref (a 8), .int (M_signMany mo), .int (M_lastOver mo), .int (M_at mo), .ref (a 9), .int (M_toldMany mo)]))], [(a 1, .inl (g.2.1 0, 83, .inl (M_g mo)))], [(a 2, .inl (g.2.1 0, 664, .inl (M_kept mo)))], [(a 3, .inl (g.2.1 0, 83, .inl (M_saved mo)))], [(a 4, .inl (g.2.1 0, 83, .inl (M_before mo)))], [(a 5, .inl (g.2.1 0, 83, .inl (M_trial mo)))], [(a 6, .inl (g.2.1 0, 10, .inl (M_counted mo)))], [(a 7, .inl (g.2.1 0, 60, .inl (M_input mo)))], [(a 8, .inl (g.2.1 1, 200, .inl (M_signs mo)))], [(a 9, .inl (g.2.1 0, 93, .inl (M_told mo)))]] : List va_W).flatten := hD
  refine cl_sv (csR := [[(a 0, .inr (9, [.ref (a 1), .ref (a 2), .ref (a 3), .ref (a 4), .ref (a 5), .ref (a 6), .int 1, .int (M_changes mo), .int (M_isWithin mo), .int (M_isDenied mo), .int 0, .int (M_why mo), .int (M_detail mo), .int (M_cause mo), .ref (a 7), .int (M_length mo), .int (M_fault mo), .ref (a 8), .int (M_signMany mo), .int (M_lastOver mo), .int (M_at mo), .ref (a 9), .int (M_toldMany mo)]))], [(a 2, .inl (g.2.1 0, 664, .inl (M_kept mo)))], [(a 4, .inl (g.2.1 0, 83, .inl (M_before mo)))], [(a 5, .inl (g.2.1 0, 83, .inl (M_trial mo)))], [(a 6, .inl (g.2.1 0, 10, .inl (M_counted mo)))], [(a 7, .inl (g.2.1 0, 60, .inl (M_input mo)))], [(a 8, .inl (g.2.1 1, 200, .inl (M_signs mo)))], [(a 9, .inl (g.2.1 0, 93, .inl (M_told mo)))]]) (csF := [[(a 0, .inr (9, [.ref (a 1), .ref (a 2), .ref (a 3), .ref (a 4), .ref (a 5), .ref (a 6), .int 1, .int (M_changes mo), .int (M_isWithin mo), .int (M_isDenied mo), .int 0, .int (M_why mo), .int (M_detail mo), .int (M_cause mo), .ref (a 7), .int (M_length mo), .int (M_fault mo), .ref (a 8), .int (M_signMany mo), .int (M_lastOver mo), .int (M_at mo), .ref (a 9), .int (M_toldMany mo)]))], [(a 1, .inl (g.2.1 0, 83, .inl (M_g mo)))], [(a 2, .inl (g.2.1 0, 664, .inl (M_kept mo)))], [(a 3, .inl (g.2.1 0, 83, .inl z1))], [(a 4, .inl (g.2.1 0, 83, .inl (M_before mo)))], [(a 5, .inl (g.2.1 0, 83, .inl (M_trial mo)))], [(a 6, .inl (g.2.1 0, 10, .inl (M_counted mo)))], [(a 7, .inl (g.2.1 0, 60, .inl (M_input mo)))], [(a 8, .inl (g.2.1 1, 200, .inl (M_signs mo)))], [(a 9, .inl (g.2.1 0, 93, .inl (M_told mo)))]]) (rest := []) hx hb hml hown hts hK hE hA hl hP hD hS (c_X5_copies g l (fun _ => a 1) 83 (fun _ => a 3) 83 (M_g mo) (M_saved mo) 0 0 z1 hz1) [1, 3] [0, 2, 4, 5, 6, 7, 8, 9] [0, 8, 1, 9, 2, 3, 4, 5, 6, 7] ⟨rfl, rfl, rfl, rfl, rfl, rfl, rfl⟩ 4 (jb_giS mw_1404 mw_1405 mw_10 mw_1406) ⟨rfl, rfl⟩ (by decide +kernel) ⟨⟨(Nat.le_of_ble_eq_true rfl), (Nat.le_of_ble_eq_true rfl)⟩, (Nat.le_of_ble_eq_true rfl), (Nat.le_of_ble_eq_true rfl)⟩ ⟨rfl, rfl⟩ (Nat.le_of_ble_eq_true rfl) dX5_saveSnapshot_20 (fun H locs hP hD hS => ?_)
  have hP : va_P g.1 vwCl ([wMc g a (M_g mo) (M_kept mo) z1 (M_before mo) (M_trial mo) (M_counted mo) 1 (M_changes mo) (M_isWithin mo) (M_isDenied mo) 0 (M_why mo) (M_detail mo) (M_cause mo) (M_input mo) (M_length mo) (M_fault mo) (M_signs mo) (M_signMany mo) (M_lastOver mo) (M_at mo) (M_told mo) (M_toldMany mo)] : List va_W).flatten _ := hP
  have hD : va_D A ([wMc g a (M_g mo) (M_kept mo) z1 (M_before mo) (M_trial mo) (M_counted mo) 1 (M_changes mo) (M_isWithin mo) (M_isDenied mo) 0 (M_why mo) (M_detail mo) (M_cause mo) (M_input mo) (M_length mo) (M_fault mo) (M_signs mo) (M_signMany mo) (M_lastOver mo) (M_at mo) (M_told mo) (M_toldMany mo)] : List va_W).flatten := hD
  refine lv_aload_n hx hb dX5_saveSnapshot_23 rfl (lv_at hl 0 rfl) ?_
  refine va_get (D := g.1) (ci := 9) (v := .ref (a 1)) (C := RX5) (T := TX5) (N := 23) hx hb hts inX5 hown hK hP 0 rfl rfl 0 (by decide) (hts _ mw_1311) (fun _ h9 => h9) rfl dX5_saveSnapshot_24 ?_
  refine lv_iconst (v := 0) hx hb dX5_saveSnapshot_27 (by decide) ?_
  have h2 := inb_in (ck_t hF)
  have hF := ck_s hF
  refine va_iald hx hb hK hP 1 0 rfl rfl h2 dX5_saveSnapshot_28 ?_
  cases hF
  rw [hQ]
  exact jb_iret hx hb hr hlocks hP hD hS dX5_saveSnapshot_29 rfl (Nat.le_of_ble_eq_true rfl) (Nat.le_of_ble_eq_true rfl)
def F_X5_restoreSnapshot (mo : Mv) : Option (Int32 × Mv) := if (M_isSaved mo) = 0 then (F_X5_fails mo 1).bind (fun z1 => if (bi z1.1) = 0 then (F_X5_copies 83 83 (M_saved z1.2) (M_g z1.2) 0 0).bind (fun z2 => ck (inb 0 83) (some (z2 (0 : Int32).toNatClampNeg, (mkM z2 (M_kept z1.2) (M_saved z1.2) (M_before z1.2) (M_trial z1.2) (M_counted z1.2) (M_isSaved z1.2) 0 (M_isWithin z1.2) (M_isDenied z1.2) (M_code z1.2) (M_why z1.2) (M_detail z1.2) (M_cause z1.2) (M_input z1.2) (M_length z1.2) (M_fault z1.2) (M_signs z1.2) (M_signMany z1.2) (M_lastOver z1.2) (M_at z1.2) (M_told z1.2) (M_toldMany z1.2))))) else some (0, z1.2)) else (F_X5_fails mo 0).bind (fun z3 => if (bi z3.1) = 0 then (F_X5_copies 83 83 (M_saved z3.2) (M_g z3.2) 0 0).bind (fun z4 => ck (inb 0 83) (some (z4 (0 : Int32).toNatClampNeg, (mkM z4 (M_kept z3.2) (M_saved z3.2) (M_before z3.2) (M_trial z3.2) (M_counted z3.2) (M_isSaved z3.2) 0 (M_isWithin z3.2) (M_isDenied z3.2) (M_code z3.2) (M_why z3.2) (M_detail z3.2) (M_cause z3.2) (M_input z3.2) (M_length z3.2) (M_fault z3.2) (M_signs z3.2) (M_signMany z3.2) (M_lastOver z3.2) (M_at z3.2) (M_told z3.2) (M_toldMany z3.2))))) else some (0, z3.2))
set_option maxHeartbeats 4000000 in
set_option maxRecDepth 100000 in
theorem c_X5_restoreSnapshot (g : GG) (l : Launch) (a : Nat → Nat) (mo : Mv) (z : Int32 × Mv) (hF : F_X5_restoreSnapshot mo = some z) : MI g l yX5_restoreSnapshot cX5_restoreSnapshot 1 (some .int) ({ frames := 1, cells := 0, slots := 0, locals := 24 } : Room) [.ref (a 0)] [wM g a mo] 0 0 z.1 [wM g a z.2] := by
  refine MI.bg (by decide) (Nat.le_of_ble_eq_true rfl) ?_
  intro p e s m below meth c A Q hQ hx hb hr hml hown hts hlocks hmn hK hE hA hP hD hS ls hl
  rw [F_X5_restoreSnapshot] at hF
  have hl : lv_has ls 1 [(0, .ref (a 0))] := hl
  refine lv_aload_n hx hb dX5_restoreSnapshot_0 rfl (lv_at hl 0 rfl) ?_
  refine lv_aload_n hx hb dX5_restoreSnapshot_1 rfl (lv_at hl 0 rfl) ?_
  refine va_get (D := g.1) (ci := 9) (v := .int (M_isSaved mo)) (C := RX5) (T := TX5) (N := 23) hx hb hts inX5 hown hK hP 0 rfl rfl 6 (by decide) (hts _ mw_1317) (fun _ h9 => h9) rfl dX5_restoreSnapshot_2 ?_
  refine lv_if_eq (tgt := 12) hx hb dX5_restoreSnapshot_5 (by decide) (fun c1 => ?_) (fun c1 => ?_)
  · have hF := ob_pos c1 hF
    refine lv_iconst (v := 1) hx hb dX5_restoreSnapshot_12 (by decide) ?_
    obtain ⟨z2, hz2, hF⟩ := ob_bind hF
    refine cl_i (csR := []) (csF := [wM g a z2.2]) (rest := []) hx hb hml hown hts hK hE hA hl hP hD hS (c_X5_fails g l a mo 1 z2 hz2) [0] [] [0] ⟨rfl, rfl, rfl, rfl, rfl, rfl, rfl⟩ ⟨0, 9, _, _, rfl, rfl, rfl⟩ 1 (jb_giV mw_1392 mw_1394 ms_32 mw_10 mw_1395) ⟨rfl, rfl⟩ (by decide +kernel) ⟨⟨(Nat.le_of_ble_eq_true rfl), (Nat.le_of_ble_eq_true rfl)⟩, (Nat.le_of_ble_eq_true rfl), (Nat.le_of_ble_eq_true rfl)⟩ ⟨rfl, rfl⟩ (Nat.le_of_ble_eq_true rfl) dX5_restoreSnapshot_13 (fun H locs hP hD hS => ?_)
    refine lv_if_eq (tgt := 21) hx hb dX5_restoreSnapshot_16 (by decide) (fun c3 => ?_) (fun c3 => ?_)
    · have hF := ob_pos c3 hF
      refine lv_aload_n hx hb dX5_restoreSnapshot_21 rfl (lv_at hl 0 rfl) ?_
      refine va_get (D := g.1) (ci := 9) (v := .ref (a 3)) (C := RX5) (T := TX5) (N := 23) hx hb hts inX5 hown hK hP 0 rfl rfl 2 (by decide) (hts _ mw_1313) (fun _ h9 => h9) rfl dX5_restoreSnapshot_22 ?_
      refine lv_iconst (v := 0) hx hb dX5_restoreSnapshot_25 (by decide) ?_
      refine lv_aload_n hx hb dX5_restoreSnapshot_26 rfl (lv_at hl 0 rfl) ?_
      refine va_get (D := g.1) (ci := 9) (v := .ref (a 1)) (C := RX5) (T := TX5) (N := 23) hx hb hts inX5 hown hK hP 0 rfl rfl 0 (by decide) (hts _ mw_1311) (fun _ h9 => h9) rfl dX5_restoreSnapshot_27 ?_
      refine lv_iconst (v := 0) hx hb dX5_restoreSnapshot_30 (by decide) ?_
      obtain ⟨z4, hz4, hF⟩ := ob_bind hF
      have hP : va_P g.1 vwCl ([[(a 0, .inr (9, [.ref (a 1), .ref (a 2), .ref (a 3), .ref (a 4), .ref (a 5), .ref (a 6), .int (M_isSaved z2.2), .int (M_changes z2.2), .int (M_isWithin z2.2), .int (M_isDenied z2.2), .int (M_code z2.2), .int (M_why z2.2), .int (M_detail z2.2), .int (M_cause z2.2), .ref (a 7), .int (M_length z2.2), .int (M_fault z2.2), .ref (a 8), .int (M_signMany z2.2), .int (M_lastOver z2.2), .int (M_at z2.2), .ref (a 9), .int (M_toldMany z2.2)]))], [(a 1, .inl (g.2.1 0, 83, .inl (M_g z2.2)))], [(a 2, .inl (g.2.1 0, 664, .inl (M_kept z2.2)))], [(a 3, .inl (g.2.1 0, 83, .inl (M_saved z2.2)))], [(a 4, .inl (g.2.1 0, 83, .inl (M_before z2.2)))], [(a 5, .inl (g.2.1 0, 83, .inl (M_trial z2.2)))], [(a 6, .inl (g.2.1 0, 10, .inl (M_counted z2.2)))], [(a 7, .inl (g.2.1 0, 60, .inl (M_input z2.2)))], [(a 8, .inl (g.2.1 1, 200, .inl (M_signs z2.2)))], [(a 9, .inl (g.2.1 0, 93, .inl (M_told z2.2)))]] : List va_W).flatten _ := hP
      have hD : va_D A ([[(a 0, .inr (9, [.ref (a 1), .ref (a 2), .ref (a 3), .ref (a 4), .ref (a 5), .ref (a 6), .int (M_isSaved z2.2), .int (M_changes z2.2), .int (M_isWithin z2.2), .int (M_isDenied z2.2), .int (M_code z2.2), .int (M_why z2.2), .int (M_detail z2.2), .int (M_cause z2.2), .ref (a 7), .int (M_length z2.2), .int (M_fault z2.2), .ref (a 8), .int (M_signMany z2.2), .int (M_lastOver z2.2), .int (M_at z2.2), .ref (a 9), .int (M_toldMany z2.2)]))], [(a 1, .inl (g.2.1 0, 83, .inl (M_g z2.2)))], [(a 2, .inl (g.2.1 0, 664, .inl (M_kept z2.2)))], [(a 3, .inl (g.2.1 0, 83, .inl (M_saved z2.2)))], [(a 4, .inl (g.2.1 0, 83, .inl (M_before z2.2)))], [(a 5, .inl (g.2.1 0, 83, .inl (M_trial z2.2)))], [(a 6, .inl (g.2.1 0, 10, .inl (M_counted z2.2)))], [(a 7, .inl (g.2.1 0, 60, .inl (M_input z2.2)))], [(a 8, .inl (g.2.1 1, 200, .inl (M_signs z2.2)))], [(a 9, .inl (g.2.1 0, 93, .inl (M_told z2.2)))]] : List va_W).flatten := hD
      refine cl_sv (csR := [[(a 0, .inr (9, [.ref (a 1), .ref (a 2), .ref (a 3), .ref (a 4), .ref (a 5), .ref (a 6), .int (M_isSaved z2.2), .int (M_changes z2.2), .int (M_isWithin z2.2), .int (M_isDenied z2.2), .int (M_code z2.2), .int (M_why z2.2), .int (M_detail z2.2), .int (M_cause z2.2), .ref (a 7), .int (M_length z2.2), .int (M_fault z2.2), .ref (a 8), .int (M_signMany z2.2), .int (M_lastOver z2.2), .int (M_at z2.2), .ref (a 9), .int (M_toldMany z2.2)]))], [(a 2, .inl (g.2.1 0, 664, .inl (M_kept z2.2)))], [(a 4, .inl (g.2.1 0, 83, .inl (M_before z2.2)))], [(a 5, .inl (g.2.1 0, 83, .inl (M_trial z2.2)))], [(a 6, .inl (g.2.1 0, 10, .inl (M_counted z2.2)))], [(a 7, .inl (g.2.1 0, 60, .inl (M_input z2.2)))], [(a 8, .inl (g.2.1 1, 200, .inl (M_signs z2.2)))], [(a 9, .inl (g.2.1 0, 93, .inl (M_told z2.2)))]]) (csF := [[(a 0, .inr (9, [.ref (a 1), .ref (a 2), .ref (a 3), .ref (a 4), .ref (a 5), .ref (a 6), .int (M_isSaved z2.2), .int (M_changes z2.2), .int (M_isWithin z2.2), .int (M_isDenied z2.2), .int (M_code z2.2), .int (M_why z2.2), .int (M_detail z2.2), .int (M_cause z2.2), .ref (a 7), .int (M_length z2.2), .int (M_fault z2.2), .ref (a 8), .int (M_signMany z2.2), .int (M_lastOver z2.2), .int (M_at z2.2), .ref (a 9), .int (M_toldMany z2.2)]))], [(a 1, .inl (g.2.1 0, 83, .inl z4))], [(a 2, .inl (g.2.1 0, 664, .inl (M_kept z2.2)))], [(a 3, .inl (g.2.1 0, 83, .inl (M_saved z2.2)))], [(a 4, .inl (g.2.1 0, 83, .inl (M_before z2.2)))], [(a 5, .inl (g.2.1 0, 83, .inl (M_trial z2.2)))], [(a 6, .inl (g.2.1 0, 10, .inl (M_counted z2.2)))], [(a 7, .inl (g.2.1 0, 60, .inl (M_input z2.2)))], [(a 8, .inl (g.2.1 1, 200, .inl (M_signs z2.2)))], [(a 9, .inl (g.2.1 0, 93, .inl (M_told z2.2)))]]) (rest := []) hx hb hml hown hts hK hE hA hl hP hD hS (c_X5_copies g l (fun _ => a 3) 83 (fun _ => a 1) 83 (M_saved z2.2) (M_g z2.2) 0 0 z4 hz4) [3, 1] [0, 2, 4, 5, 6, 7, 8, 9] [0, 9, 1, 8, 2, 3, 4, 5, 6, 7] ⟨rfl, rfl, rfl, rfl, rfl, rfl, rfl⟩ 4 (jb_giS mw_1404 mw_1405 mw_10 mw_1406) ⟨rfl, rfl⟩ (by decide +kernel) ⟨⟨(Nat.le_of_ble_eq_true rfl), (Nat.le_of_ble_eq_true rfl)⟩, (Nat.le_of_ble_eq_true rfl), (Nat.le_of_ble_eq_true rfl)⟩ ⟨rfl, rfl⟩ (Nat.le_of_ble_eq_true rfl) dX5_restoreSnapshot_31 (fun H locs hP hD hS => ?_)
      have hP : va_P g.1 vwCl ([wMc g a z4 (M_kept z2.2) (M_saved z2.2) (M_before z2.2) (M_trial z2.2) (M_counted z2.2) (M_isSaved z2.2) (M_changes z2.2) (M_isWithin z2.2) (M_isDenied z2.2) (M_code z2.2) (M_why z2.2) (M_detail z2.2) (M_cause z2.2) (M_input z2.2) (M_length z2.2) (M_fault z2.2) (M_signs z2.2) (M_signMany z2.2) (M_lastOver z2.2) (M_at z2.2) (M_told z2.2) (M_toldMany z2.2)] : List va_W).flatten _ := hP
      have hD : va_D A ([wMc g a z4 (M_kept z2.2) (M_saved z2.2) (M_before z2.2) (M_trial z2.2) (M_counted z2.2) (M_isSaved z2.2) (M_changes z2.2) (M_isWithin z2.2) (M_isDenied z2.2) (M_code z2.2) (M_why z2.2) (M_detail z2.2) (M_cause z2.2) (M_input z2.2) (M_length z2.2) (M_fault z2.2) (M_signs z2.2) (M_signMany z2.2) (M_lastOver z2.2) (M_at z2.2) (M_told z2.2) (M_toldMany z2.2)] : List va_W).flatten := hD
      refine lv_aload_n hx hb dX5_restoreSnapshot_34 rfl (lv_at hl 0 rfl) ?_
      refine lv_iconst (v := 0) hx hb dX5_restoreSnapshot_35 (by decide) ?_
      refine va_put (D := g.1) (ci := 9) (v := .int 0) (ty := .int) (C := RX5) (T := TX5) (N := 23) hx hb hts inX5 tyX5 tyX5_ok nmX5 hown hK hP hD hS 0 rfl rfl 7 (by decide) (hts _ mw_1318) (fun _ h9 => h9) rfl (by decide +kernel) rfl rfl (Nat.le_of_ble_eq_true rfl) dX5_restoreSnapshot_36 (fun H locs hP hD hS => ?_)
      have hP : va_P g.1 vwCl ([wMc g a z4 (M_kept z2.2) (M_saved z2.2) (M_before z2.2) (M_trial z2.2) (M_counted z2.2) (M_isSaved z2.2) 0 (M_isWithin z2.2) (M_isDenied z2.2) (M_code z2.2) (M_why z2.2) (M_detail z2.2) (M_cause z2.2) (M_input z2.2) (M_length z2.2) (M_fault z2.2) (M_signs z2.2) (M_signMany z2.2) (M_lastOver z2.2) (M_at z2.2) (M_told z2.2) (M_toldMany z2.2)] : List va_W).flatten _ := hP
      have hD : va_D A ([wMc g a z4 (M_kept z2.2) (M_saved z2.2) (M_before z2.2) (M_trial z2.2) (M_counted z2.2) (M_isSaved z2.2) 0 (M_isWithin z2.2) (M_isDenied z2.2) (M_code z2.2) (M_why z2.2) (M_detail z2.2) (M_cause z2.2) (M_input z2.2) (M_length z2.2) (M_fault z2.2) (M_signs z2.2) (M_signMany z2.2) (M_lastOver z2.2) (M_at z2.2) (M_told z2.2) (M_toldMany z2.2)] : List va_W).flatten := hD
      refine lv_aload_n hx hb dX5_restoreSnapshot_39 rfl (lv_at hl 0 rfl) ?_
      refine va_get (D := g.1) (ci := 9) (v := .ref (a 1)) (C := RX5) (T := TX5) (N := 23) hx hb hts inX5 hown hK hP 0 rfl rfl 0 (by decide) (hts _ mw_1311) (fun _ h9 => h9) rfl dX5_restoreSnapshot_40 ?_
      refine lv_iconst (v := 0) hx hb dX5_restoreSnapshot_43 (by decide) ?_
      have h5 := inb_in (ck_t hF)
      have hF := ck_s hF
      refine va_iald hx hb hK hP 1 0 rfl rfl h5 dX5_restoreSnapshot_44 ?_
      cases hF
      rw [hQ]
      exact jb_iret hx hb hr hlocks hP hD hS dX5_restoreSnapshot_45 rfl (Nat.le_of_ble_eq_true rfl) (Nat.le_of_ble_eq_true rfl)
    · have hF := ob_neg c3 hF
      refine lv_iconst (v := 0) hx hb dX5_restoreSnapshot_19 (by decide) ?_
      cases hF
      rw [hQ]
      exact jb_iret hx hb hr hlocks hP hD hS dX5_restoreSnapshot_20 rfl (Nat.le_of_ble_eq_true rfl) (Nat.le_of_ble_eq_true rfl)
  · have hF := ob_neg c1 hF
    refine lv_iconst (v := 0) hx hb dX5_restoreSnapshot_8 (by decide) ?_
    refine lv_goto (tgt := 13) hx hb dX5_restoreSnapshot_9 (by decide) ?_
    obtain ⟨z6, hz6, hF⟩ := ob_bind hF
    refine cl_i (csR := []) (csF := [wM g a z6.2]) (rest := []) hx hb hml hown hts hK hE hA hl hP hD hS (c_X5_fails g l a mo 0 z6 hz6) [0] [] [0] ⟨rfl, rfl, rfl, rfl, rfl, rfl, rfl⟩ ⟨0, 9, _, _, rfl, rfl, rfl⟩ 1 (jb_giV mw_1392 mw_1394 ms_32 mw_10 mw_1395) ⟨rfl, rfl⟩ (by decide +kernel) ⟨⟨(Nat.le_of_ble_eq_true rfl), (Nat.le_of_ble_eq_true rfl)⟩, (Nat.le_of_ble_eq_true rfl), (Nat.le_of_ble_eq_true rfl)⟩ ⟨rfl, rfl⟩ (Nat.le_of_ble_eq_true rfl) dX5_restoreSnapshot_13 (fun H locs hP hD hS => ?_)
    refine lv_if_eq (tgt := 21) hx hb dX5_restoreSnapshot_16 (by decide) (fun c7 => ?_) (fun c7 => ?_)
    · have hF := ob_pos c7 hF
      refine lv_aload_n hx hb dX5_restoreSnapshot_21 rfl (lv_at hl 0 rfl) ?_
      refine va_get (D := g.1) (ci := 9) (v := .ref (a 3)) (C := RX5) (T := TX5) (N := 23) hx hb hts inX5 hown hK hP 0 rfl rfl 2 (by decide) (hts _ mw_1313) (fun _ h9 => h9) rfl dX5_restoreSnapshot_22 ?_
      refine lv_iconst (v := 0) hx hb dX5_restoreSnapshot_25 (by decide) ?_
      refine lv_aload_n hx hb dX5_restoreSnapshot_26 rfl (lv_at hl 0 rfl) ?_
      refine va_get (D := g.1) (ci := 9) (v := .ref (a 1)) (C := RX5) (T := TX5) (N := 23) hx hb hts inX5 hown hK hP 0 rfl rfl 0 (by decide) (hts _ mw_1311) (fun _ h9 => h9) rfl dX5_restoreSnapshot_27 ?_
      refine lv_iconst (v := 0) hx hb dX5_restoreSnapshot_30 (by decide) ?_
      obtain ⟨z8, hz8, hF⟩ := ob_bind hF
      have hP : va_P g.1 vwCl ([[(a 0, .inr (9, [.ref (a 1), .ref (a 2), .ref (a 3), .ref (a 4), .ref (a 5), .ref (a 6), .int (M_isSaved z6.2), .int (M_changes z6.2), .int (M_isWithin z6.2), .int (M_isDenied z6.2), .int (M_code z6.2), .int (M_why z6.2), .int (M_detail z6.2), .int (M_cause z6.2), .ref (a 7), .int (M_length z6.2), .int (M_fault z6.2), .ref (a 8), .int (M_signMany z6.2), .int (M_lastOver z6.2), .int (M_at z6.2), .ref (a 9), .int (M_toldMany z6.2)]))], [(a 1, .inl (g.2.1 0, 83, .inl (M_g z6.2)))], [(a 2, .inl (g.2.1 0, 664, .inl (M_kept z6.2)))], [(a 3, .inl (g.2.1 0, 83, .inl (M_saved z6.2)))], [(a 4, .inl (g.2.1 0, 83, .inl (M_before z6.2)))], [(a 5, .inl (g.2.1 0, 83, .inl (M_trial z6.2)))], [(a 6, .inl (g.2.1 0, 10, .inl (M_counted z6.2)))], [(a 7, .inl (g.2.1 0, 60, .inl (M_input z6.2)))], [(a 8, .inl (g.2.1 1, 200, .inl (M_signs z6.2)))], [(a 9, .inl (g.2.1 0, 93, .inl (M_told z6.2)))]] : List va_W).flatten _ := hP
      have hD : va_D A ([[(a 0, .inr (9, [.ref (a 1), .ref (a 2), .ref (a 3), .ref (a 4), .ref (a 5), .ref (a 6), .int (M_isSaved z6.2), .int (M_changes z6.2), .int (M_isWithin z6.2), .int (M_isDenied z6.2), .int (M_code z6.2), .int (M_why z6.2), .int (M_detail z6.2), .int (M_cause z6.2), .ref (a 7), .int (M_length z6.2), .int (M_fault z6.2), .ref (a 8), .int (M_signMany z6.2), .int (M_lastOver z6.2), .int (M_at z6.2), .ref (a 9), .int (M_toldMany z6.2)]))], [(a 1, .inl (g.2.1 0, 83, .inl (M_g z6.2)))], [(a 2, .inl (g.2.1 0, 664, .inl (M_kept z6.2)))], [(a 3, .inl (g.2.1 0, 83, .inl (M_saved z6.2)))], [(a 4, .inl (g.2.1 0, 83, .inl (M_before z6.2)))], [(a 5, .inl (g.2.1 0, 83, .inl (M_trial z6.2)))], [(a 6, .inl (g.2.1 0, 10, .inl (M_counted z6.2)))], [(a 7, .inl (g.2.1 0, 60, .inl (M_input z6.2)))], [(a 8, .inl (g.2.1 1, 200, .inl (M_signs z6.2)))], [(a 9, .inl (g.2.1 0, 93, .inl (M_told z6.2)))]] : List va_W).flatten := hD
      refine cl_sv (csR := [[(a 0, .inr (9, [.ref (a 1), .ref (a 2), .ref (a 3), .ref (a 4), .ref (a 5), .ref (a 6), .int (M_isSaved z6.2), .int (M_changes z6.2), .int (M_isWithin z6.2), .int (M_isDenied z6.2), .int (M_code z6.2), .int (M_why z6.2), .int (M_detail z6.2), .int (M_cause z6.2), .ref (a 7), .int (M_length z6.2), .int (M_fault z6.2), .ref (a 8), .int (M_signMany z6.2), .int (M_lastOver z6.2), .int (M_at z6.2), .ref (a 9), .int (M_toldMany z6.2)]))], [(a 2, .inl (g.2.1 0, 664, .inl (M_kept z6.2)))], [(a 4, .inl (g.2.1 0, 83, .inl (M_before z6.2)))], [(a 5, .inl (g.2.1 0, 83, .inl (M_trial z6.2)))], [(a 6, .inl (g.2.1 0, 10, .inl (M_counted z6.2)))], [(a 7, .inl (g.2.1 0, 60, .inl (M_input z6.2)))], [(a 8, .inl (g.2.1 1, 200, .inl (M_signs z6.2)))], [(a 9, .inl (g.2.1 0, 93, .inl (M_told z6.2)))]]) (csF := [[(a 0, .inr (9, [.ref (a 1), .ref (a 2), .ref (a 3), .ref (a 4), .ref (a 5), .ref (a 6), .int (M_isSaved z6.2), .int (M_changes z6.2), .int (M_isWithin z6.2), .int (M_isDenied z6.2), .int (M_code z6.2), .int (M_why z6.2), .int (M_detail z6.2), .int (M_cause z6.2), .ref (a 7), .int (M_length z6.2), .int (M_fault z6.2), .ref (a 8), .int (M_signMany z6.2), .int (M_lastOver z6.2), .int (M_at z6.2), .ref (a 9), .int (M_toldMany z6.2)]))], [(a 1, .inl (g.2.1 0, 83, .inl z8))], [(a 2, .inl (g.2.1 0, 664, .inl (M_kept z6.2)))], [(a 3, .inl (g.2.1 0, 83, .inl (M_saved z6.2)))], [(a 4, .inl (g.2.1 0, 83, .inl (M_before z6.2)))], [(a 5, .inl (g.2.1 0, 83, .inl (M_trial z6.2)))], [(a 6, .inl (g.2.1 0, 10, .inl (M_counted z6.2)))], [(a 7, .inl (g.2.1 0, 60, .inl (M_input z6.2)))], [(a 8, .inl (g.2.1 1, 200, .inl (M_signs z6.2)))], [(a 9, .inl (g.2.1 0, 93, .inl (M_told z6.2)))]]) (rest := []) hx hb hml hown hts hK hE hA hl hP hD hS (c_X5_copies g l (fun _ => a 3) 83 (fun _ => a 1) 83 (M_saved z6.2) (M_g z6.2) 0 0 z8 hz8) [3, 1] [0, 2, 4, 5, 6, 7, 8, 9] [0, 9, 1, 8, 2, 3, 4, 5, 6, 7] ⟨rfl, rfl, rfl, rfl, rfl, rfl, rfl⟩ 4 (jb_giS mw_1404 mw_1405 mw_10 mw_1406) ⟨rfl, rfl⟩ (by decide +kernel) ⟨⟨(Nat.le_of_ble_eq_true rfl), (Nat.le_of_ble_eq_true rfl)⟩, (Nat.le_of_ble_eq_true rfl), (Nat.le_of_ble_eq_true rfl)⟩ ⟨rfl, rfl⟩ (Nat.le_of_ble_eq_true rfl) dX5_restoreSnapshot_31 (fun H locs hP hD hS => ?_)
      have hP : va_P g.1 vwCl ([wMc g a z8 (M_kept z6.2) (M_saved z6.2) (M_before z6.2) (M_trial z6.2) (M_counted z6.2) (M_isSaved z6.2) (M_changes z6.2) (M_isWithin z6.2) (M_isDenied z6.2) (M_code z6.2) (M_why z6.2) (M_detail z6.2) (M_cause z6.2) (M_input z6.2) (M_length z6.2) (M_fault z6.2) (M_signs z6.2) (M_signMany z6.2) (M_lastOver z6.2) (M_at z6.2) (M_told z6.2) (M_toldMany z6.2)] : List va_W).flatten _ := hP
      have hD : va_D A ([wMc g a z8 (M_kept z6.2) (M_saved z6.2) (M_before z6.2) (M_trial z6.2) (M_counted z6.2) (M_isSaved z6.2) (M_changes z6.2) (M_isWithin z6.2) (M_isDenied z6.2) (M_code z6.2) (M_why z6.2) (M_detail z6.2) (M_cause z6.2) (M_input z6.2) (M_length z6.2) (M_fault z6.2) (M_signs z6.2) (M_signMany z6.2) (M_lastOver z6.2) (M_at z6.2) (M_told z6.2) (M_toldMany z6.2)] : List va_W).flatten := hD
      refine lv_aload_n hx hb dX5_restoreSnapshot_34 rfl (lv_at hl 0 rfl) ?_
      refine lv_iconst (v := 0) hx hb dX5_restoreSnapshot_35 (by decide) ?_
      refine va_put (D := g.1) (ci := 9) (v := .int 0) (ty := .int) (C := RX5) (T := TX5) (N := 23) hx hb hts inX5 tyX5 tyX5_ok nmX5 hown hK hP hD hS 0 rfl rfl 7 (by decide) (hts _ mw_1318) (fun _ h9 => h9) rfl (by decide +kernel) rfl rfl (Nat.le_of_ble_eq_true rfl) dX5_restoreSnapshot_36 (fun H locs hP hD hS => ?_)
      have hP : va_P g.1 vwCl ([wMc g a z8 (M_kept z6.2) (M_saved z6.2) (M_before z6.2) (M_trial z6.2) (M_counted z6.2) (M_isSaved z6.2) 0 (M_isWithin z6.2) (M_isDenied z6.2) (M_code z6.2) (M_why z6.2) (M_detail z6.2) (M_cause z6.2) (M_input z6.2) (M_length z6.2) (M_fault z6.2) (M_signs z6.2) (M_signMany z6.2) (M_lastOver z6.2) (M_at z6.2) (M_told z6.2) (M_toldMany z6.2)] : List va_W).flatten _ := hP
      have hD : va_D A ([wMc g a z8 (M_kept z6.2) (M_saved z6.2) (M_before z6.2) (M_trial z6.2) (M_counted z6.2) (M_isSaved z6.2) 0 (M_isWithin z6.2) (M_isDenied z6.2) (M_code z6.2) (M_why z6.2) (M_detail z6.2) (M_cause z6.2) (M_input z6.2) (M_length z6.2) (M_fault z6.2) (M_signs z6.2) (M_signMany z6.2) (M_lastOver z6.2) (M_at z6.2) (M_told z6.2) (M_toldMany z6.2)] : List va_W).flatten := hD
      refine lv_aload_n hx hb dX5_restoreSnapshot_39 rfl (lv_at hl 0 rfl) ?_
      refine va_get (D := g.1) (ci := 9) (v := .ref (a 1)) (C := RX5) (T := TX5) (N := 23) hx hb hts inX5 hown hK hP 0 rfl rfl 0 (by decide) (hts _ mw_1311) (fun _ h9 => h9) rfl dX5_restoreSnapshot_40 ?_
      refine lv_iconst (v := 0) hx hb dX5_restoreSnapshot_43 (by decide) ?_
      have h9 := inb_in (ck_t hF)
      have hF := ck_s hF
      refine va_iald hx hb hK hP 1 0 rfl rfl h9 dX5_restoreSnapshot_44 ?_
      cases hF
      rw [hQ]
      exact jb_iret hx hb hr hlocks hP hD hS dX5_restoreSnapshot_45 rfl (Nat.le_of_ble_eq_true rfl) (Nat.le_of_ble_eq_true rfl)
    · have hF := ob_neg c7 hF
      refine lv_iconst (v := 0) hx hb dX5_restoreSnapshot_19 (by decide) ?_
      cases hF
      rw [hQ]
      exact jb_iret hx hb hr hlocks hP hD hS dX5_restoreSnapshot_20 rfl (Nat.le_of_ble_eq_true rfl) (Nat.le_of_ble_eq_true rfl)
