theorem km_X11_of : tw_kM yX11_of cX11_of 3 (some .int) 2 := ⟨(tw_gl kw_1 rfl), (tw_gl kw_1259 rfl), by decide, by decide, by decide +kernel⟩
theorem kv_X11_of : tw_kV yX11_of := ⟨(tw_gl kw_1257 rfl), tw_gl kw_1258 rfl⟩
theorem km_X11_sum : tw_kM yX11_sum cX11_sum 3 (some .int) 2 := ⟨(tw_gl kw_1 rfl), (tw_gl kw_1333 rfl), by decide, by decide, by decide +kernel⟩
theorem kv_X11_sum : tw_kV yX11_sum := ⟨(tw_gl kw_1331 rfl), tw_gl kw_1332 rfl⟩
theorem km_X11_row : tw_kM yX11_row cX11_row 2 (some .int) 1 := ⟨(tw_gl kw_1 rfl), (tw_gl kw_1340 rfl), by decide, by decide, by decide +kernel⟩
theorem kv_X11_row : tw_kV yX11_row := ⟨(tw_gl kw_1338 rfl), tw_gl kw_1339 rfl⟩
theorem km_X11_track : tw_kM yX11_track cX11_track 3 (some .boolean) 2 := ⟨(tw_gl kw_1 rfl), (tw_gl kw_551 rfl), by decide, by decide, by decide +kernel⟩
theorem kv_X11_track : tw_kV yX11_track := ⟨(tw_gl kw_549 rfl), tw_gl kw_550 rfl⟩
theorem km_X12_track : tw_kM yX12_track cX12_track 3 (some .boolean) 2 := ⟨(tw_gl kw_14 rfl), (tw_gl kw_1344 rfl), by decide, by decide, by decide +kernel⟩
theorem kv_X12_track : tw_kV yX12_track := ⟨(tw_gl kw_1342 rfl), tw_gl kw_1343 rfl⟩
theorem km_X11_sector : tw_kM yX11_sector cX11_sector 4 (some .boolean) 3 := ⟨(tw_gl kw_1 rfl), (tw_gl kw_556 rfl), by decide, by decide, by decide +kernel⟩
theorem kv_X11_sector : tw_kV yX11_sector := ⟨(tw_gl kw_554 rfl), tw_gl kw_555 rfl⟩
theorem km_X12_sector : tw_kM yX12_sector cX12_sector 4 (some .boolean) 3 := ⟨(tw_gl kw_14 rfl), (tw_gl kw_1359 rfl), by decide, by decide, by decide +kernel⟩
theorem kv_X12_sector : tw_kV yX12_sector := ⟨(tw_gl kw_1357 rfl), tw_gl kw_1358 rfl⟩
theorem km_X11_tyres : tw_kM yX11_tyres cX11_tyres 5 (some .int) 3 := ⟨(tw_gl kw_1 rfl), (tw_gl kw_571 rfl), by decide, by decide, by decide +kernel⟩
theorem kv_X11_tyres : tw_kV yX11_tyres := ⟨(tw_gl kw_569 rfl), tw_gl kw_570 rfl⟩
theorem km_X12_tyres : tw_kM yX12_tyres cX12_tyres 5 (some .int) 3 := ⟨(tw_gl kw_14 rfl), (tw_gl kw_1370 rfl), by decide, by decide, by decide +kernel⟩
theorem kv_X12_tyres : tw_kV yX12_tyres := ⟨(tw_gl kw_1368 rfl), tw_gl kw_1369 rfl⟩
theorem km_X11_set : tw_kM yX11_set cX11_set 4 (some .int) 2 := ⟨(tw_gl kw_1 rfl), (tw_gl kw_582 rfl), by decide, by decide, by decide +kernel⟩
theorem kv_X11_set : tw_kV yX11_set := ⟨(tw_gl kw_580 rfl), tw_gl kw_581 rfl⟩
theorem km_X12_set : tw_kM yX12_set cX12_set 4 (some .int) 2 := ⟨(tw_gl kw_14 rfl), (tw_gl kw_1378 rfl), by decide, by decide, by decide +kernel⟩
theorem kv_X12_set : tw_kV yX12_set := ⟨(tw_gl kw_1376 rfl), tw_gl kw_1377 rfl⟩
theorem km_X11_rain : tw_kM yX11_rain cX11_rain 4 (some .int) 3 := ⟨(tw_gl kw_1 rfl), (tw_gl kw_590 rfl), by decide, by decide, by decide +kernel⟩
theorem kv_X11_rain : tw_kV yX11_rain := ⟨(tw_gl kw_588 rfl), tw_gl kw_589 rfl⟩
theorem km_X12_rain : tw_kM yX12_rain cX12_rain 4 (some .int) 3 := ⟨(tw_gl kw_14 rfl), (tw_gl kw_1388 rfl), by decide, by decide, by decide +kernel⟩
theorem kv_X12_rain : tw_kV yX12_rain := ⟨(tw_gl kw_1386 rfl), tw_gl kw_1387 rfl⟩
theorem km_X11_flag : tw_kM yX11_flag cX11_flag 5 (some .int) 4 := ⟨(tw_gl kw_1 rfl), (tw_gl kw_606 rfl), by decide, by decide, by decide +kernel⟩
theorem kv_X11_flag : tw_kV yX11_flag := ⟨(tw_gl kw_604 rfl), tw_gl kw_605 rfl⟩
theorem km_X12_flag : tw_kM yX12_flag cX12_flag 5 (some .int) 4 := ⟨(tw_gl kw_14 rfl), (tw_gl kw_1392 rfl), by decide, by decide, by decide +kernel⟩
theorem kv_X12_flag : tw_kV yX12_flag := ⟨(tw_gl kw_1390 rfl), tw_gl kw_1391 rfl⟩
theorem km_X11_car : tw_kM yX11_car cX11_car 8 (some .int) 6 := ⟨(tw_gl kw_1 rfl), (tw_gl kw_610 rfl), by decide, by decide, by decide +kernel⟩
theorem kv_X11_car : tw_kV yX11_car := ⟨(tw_gl kw_608 rfl), tw_gl kw_609 rfl⟩
theorem km_X12_car : tw_kM yX12_car cX12_car 8 (some .int) 6 := ⟨(tw_gl kw_14 rfl), (tw_gl kw_1396 rfl), by decide, by decide, by decide +kernel⟩
theorem kv_X12_car : tw_kV yX12_car := ⟨(tw_gl kw_1394 rfl), tw_gl kw_1395 rfl⟩
theorem km_X11_tyre : tw_kM yX11_tyre cX11_tyre 5 (some .int) 3 := ⟨(tw_gl kw_1 rfl), (tw_gl kw_618 rfl), by decide, by decide, by decide +kernel⟩
theorem kv_X11_tyre : tw_kV yX11_tyre := ⟨(tw_gl kw_616 rfl), tw_gl kw_617 rfl⟩
theorem km_X12_tyre : tw_kM yX12_tyre cX12_tyre 4 (some .int) 3 := ⟨(tw_gl kw_14 rfl), (tw_gl kw_1404 rfl), by decide, by decide, by decide +kernel⟩
theorem kv_X12_tyre : tw_kV yX12_tyre := ⟨(tw_gl kw_1402 rfl), tw_gl kw_1403 rfl⟩
theorem km_X11_order : tw_kM yX11_order cX11_order 5 (some .int) 4 := ⟨(tw_gl kw_1 rfl), (tw_gl kw_628 rfl), by decide, by decide, by decide +kernel⟩
theorem kv_X11_order : tw_kV yX11_order := ⟨(tw_gl kw_626 rfl), tw_gl kw_627 rfl⟩
theorem km_X12_order : tw_kM yX12_order cX12_order 6 (some .int) 4 := ⟨(tw_gl kw_14 rfl), (tw_gl kw_1412 rfl), by decide, by decide, by decide +kernel⟩
theorem kv_X12_order : tw_kV yX12_order := ⟨(tw_gl kw_1410 rfl), tw_gl kw_1411 rfl⟩
theorem km_X11_stop : tw_kM yX11_stop cX11_stop 5 (some .int) 4 := ⟨(tw_gl kw_1 rfl), (tw_gl kw_632 rfl), by decide, by decide, by decide +kernel⟩
theorem kv_X11_stop : tw_kV yX11_stop := ⟨(tw_gl kw_630 rfl), tw_gl kw_631 rfl⟩
theorem km_X12_stop : tw_kM yX12_stop cX12_stop 5 (some .int) 4 := ⟨(tw_gl kw_14 rfl), (tw_gl kw_1420 rfl), by decide, by decide, by decide +kernel⟩
theorem kv_X12_stop : tw_kV yX12_stop := ⟨(tw_gl kw_1418 rfl), tw_gl kw_1419 rfl⟩
theorem km_X11_drop : tw_kM yX11_drop cX11_drop 3 (some .int) 2 := ⟨(tw_gl kw_1 rfl), (tw_gl kw_636 rfl), by decide, by decide, by decide +kernel⟩
theorem kv_X11_drop : tw_kV yX11_drop := ⟨(tw_gl kw_634 rfl), tw_gl kw_635 rfl⟩
theorem km_X12_drop : tw_kM yX12_drop cX12_drop 4 (some .int) 2 := ⟨(tw_gl kw_14 rfl), (tw_gl kw_1435 rfl), by decide, by decide, by decide +kernel⟩
theorem kv_X12_drop : tw_kV yX12_drop := ⟨(tw_gl kw_1433 rfl), tw_gl kw_1434 rfl⟩
theorem km_X11_plan : tw_kM yX11_plan cX11_plan 5 (some .int) 1 := ⟨(tw_gl kw_1 rfl), (tw_gl kw_648 rfl), by decide, by decide, by decide +kernel⟩
theorem kv_X11_plan : tw_kV yX11_plan := ⟨(tw_gl kw_646 rfl), tw_gl kw_647 rfl⟩
theorem km_X12_plan : tw_kM yX12_plan cX12_plan 5 (some .int) 1 := ⟨(tw_gl kw_14 rfl), (tw_gl kw_1455 rfl), by decide, by decide, by decide +kernel⟩
theorem kv_X12_plan : tw_kV yX12_plan := ⟨(tw_gl kw_1453 rfl), tw_gl kw_1454 rfl⟩
theorem km_X11_unplan : tw_kM yX11_unplan cX11_unplan 2 (some .boolean) 1 := ⟨(tw_gl kw_1 rfl), (tw_gl kw_839 rfl), by decide, by decide, by decide +kernel⟩
theorem kv_X11_unplan : tw_kV yX11_unplan := ⟨(tw_gl kw_837 rfl), tw_gl kw_838 rfl⟩
theorem km_X12_unplan : tw_kM yX12_unplan cX12_unplan 3 (some .boolean) 1 := ⟨(tw_gl kw_14 rfl), (tw_gl kw_1439 rfl), by decide, by decide, by decide +kernel⟩
theorem kv_X12_unplan : tw_kV yX12_unplan := ⟨(tw_gl kw_1437 rfl), tw_gl kw_1438 rfl⟩
theorem km_X11_count : tw_kM yX11_count cX11_count 2 (some .int) 1 := ⟨(tw_gl kw_1 rfl), (tw_gl kw_843 rfl), by decide, by decide, by decide +kernel⟩
theorem kv_X11_count : tw_kV yX11_count := ⟨(tw_gl kw_841 rfl), tw_gl kw_842 rfl⟩
theorem km_X12_count : tw_kM yX12_count cX12_count 4 (some .int) 1 := ⟨(tw_gl kw_14 rfl), (tw_gl kw_1443 rfl), by decide, by decide, by decide +kernel⟩
theorem kv_X12_count : tw_kV yX12_count := ⟨(tw_gl kw_1441 rfl), tw_gl kw_1442 rfl⟩
theorem km_X12_of : tw_kM yX12_of cX12_of 3 (some .int) 2 := ⟨(tw_gl kw_14 rfl), (tw_gl kw_1532 rfl), by decide, by decide, by decide +kernel⟩
theorem kv_X12_of : tw_kV yX12_of := ⟨(tw_gl kw_1530 rfl), tw_gl kw_1531 rfl⟩
theorem km_X11_at : tw_kM yX11_at cX11_at 4 (some .int) 3 := ⟨(tw_gl kw_1 rfl), (tw_gl kw_851 rfl), by decide, by decide, by decide +kernel⟩
theorem kv_X11_at : tw_kV yX11_at := ⟨(tw_gl kw_849 rfl), tw_gl kw_850 rfl⟩
theorem km_X12_at : tw_kM yX12_at cX12_at 4 (some .int) 3 := ⟨(tw_gl kw_14 rfl), (tw_gl kw_1626 rfl), by decide, by decide, by decide +kernel⟩
theorem kv_X12_at : tw_kV yX12_at := ⟨(tw_gl kw_1624 rfl), tw_gl kw_1625 rfl⟩
theorem km_X11_led : tw_kM yX11_led cX11_led 3 (some .int) 2 := ⟨(tw_gl kw_1 rfl), (tw_gl kw_1026 rfl), by decide, by decide, by decide +kernel⟩
theorem kv_X11_led : tw_kV yX11_led := ⟨(tw_gl kw_1024 rfl), tw_gl kw_1025 rfl⟩
theorem km_X12_led : tw_kM yX12_led cX12_led 3 (some .int) 2 := ⟨(tw_gl kw_14 rfl), (tw_gl kw_1630 rfl), by decide, by decide, by decide +kernel⟩
theorem kv_X12_led : tw_kV yX12_led := ⟨(tw_gl kw_1628 rfl), tw_gl kw_1629 rfl⟩
theorem km_X11_waited : tw_kM yX11_waited cX11_waited 2 (some .int) 1 := ⟨(tw_gl kw_1 rfl), (tw_gl kw_1038 rfl), by decide, by decide, by decide +kernel⟩
theorem kv_X11_waited : tw_kV yX11_waited := ⟨(tw_gl kw_1036 rfl), tw_gl kw_1037 rfl⟩
theorem km_X12_waited : tw_kM yX12_waited cX12_waited 2 (some .int) 1 := ⟨(tw_gl kw_14 rfl), (tw_gl kw_1638 rfl), by decide, by decide, by decide +kernel⟩
theorem kv_X12_waited : tw_kV yX12_waited := ⟨(tw_gl kw_1636 rfl), tw_gl kw_1637 rfl⟩
theorem km_X11_leads : tw_kM yX11_leads cX11_leads 5 (some .int) 0 := ⟨(tw_gl kw_1 rfl), (tw_gl kw_1042 rfl), by decide, by decide, by decide +kernel⟩
theorem kv_X11_leads : tw_kV yX11_leads := ⟨(tw_gl kw_1040 rfl), tw_gl kw_1041 rfl⟩
theorem km_X12_leads : tw_kM yX12_leads cX12_leads 3 (some .int) 0 := ⟨(tw_gl kw_14 rfl), (tw_gl kw_1642 rfl), by decide, by decide, by decide +kernel⟩
theorem kv_X12_leads : tw_kV yX12_leads := ⟨(tw_gl kw_1640 rfl), tw_gl kw_1641 rfl⟩
theorem km_X11_sign : tw_kM yX11_sign cX11_sign 3 (some .int) 1 := ⟨(tw_gl kw_1 rfl), (tw_gl kw_1046 rfl), by decide, by decide, by decide +kernel⟩
theorem kv_X11_sign : tw_kV yX11_sign := ⟨(tw_gl kw_1044 rfl), tw_gl kw_1045 rfl⟩
theorem km_X12_sign : tw_kM yX12_sign cX12_sign 3 (some .int) 1 := ⟨(tw_gl kw_14 rfl), (tw_gl kw_1447 rfl), by decide, by decide, by decide +kernel⟩
theorem kv_X12_sign : tw_kV yX12_sign := ⟨(tw_gl kw_1445 rfl), tw_gl kw_1446 rfl⟩
theorem km_X11_end : tw_kM yX11_end cX11_end 2 (some .boolean) 1 := ⟨(tw_gl kw_1 rfl), (tw_gl kw_1050 rfl), by decide, by decide, by decide +kernel⟩
theorem kv_X11_end : tw_kV yX11_end := ⟨(tw_gl kw_1048 rfl), tw_gl kw_1049 rfl⟩
theorem km_X12_end : tw_kM yX12_end cX12_end 2 (some .boolean) 1 := ⟨(tw_gl kw_14 rfl), (tw_gl kw_1451 rfl), by decide, by decide, by decide +kernel⟩
theorem kv_X12_end : tw_kV yX12_end := ⟨(tw_gl kw_1449 rfl), tw_gl kw_1450 rfl⟩
theorem km_X11_rule : tw_kM yX11_rule cX11_rule 4 (some .int) 1 := ⟨(tw_gl kw_1 rfl), (tw_gl kw_1054 rfl), by decide, by decide, by decide +kernel⟩
theorem kv_X11_rule : tw_kV yX11_rule := ⟨(tw_gl kw_1052 rfl), tw_gl kw_1053 rfl⟩
theorem km_X12_rule : tw_kM yX12_rule cX12_rule 3 (some .int) 1 := ⟨(tw_gl kw_14 rfl), (tw_gl kw_1646 rfl), by decide, by decide, by decide +kernel⟩
theorem kv_X12_rule : tw_kV yX12_rule := ⟨(tw_gl kw_1644 rfl), tw_gl kw_1645 rfl⟩
theorem km_X11_finding : tw_kM yX11_finding cX11_finding 6 (some .int) 4 := ⟨(tw_gl kw_1 rfl), (tw_gl kw_1066 rfl), by decide, by decide, by decide +kernel⟩
theorem kv_X11_finding : tw_kV yX11_finding := ⟨(tw_gl kw_1064 rfl), tw_gl kw_1065 rfl⟩
theorem km_X12_finding : tw_kM yX12_finding cX12_finding 6 (some .int) 4 := ⟨(tw_gl kw_14 rfl), (tw_gl kw_1654 rfl), by decide, by decide, by decide +kernel⟩
theorem kv_X12_finding : tw_kV yX12_finding := ⟨(tw_gl kw_1652 rfl), tw_gl kw_1653 rfl⟩
theorem km_X11_seconds : tw_kM yX11_seconds cX11_seconds 3 (some .int) 2 := ⟨(tw_gl kw_1 rfl), (tw_gl kw_1071 rfl), by decide, by decide, by decide +kernel⟩
theorem kv_X11_seconds : tw_kV yX11_seconds := ⟨(tw_gl kw_1069 rfl), tw_gl kw_1070 rfl⟩
theorem km_X12_seconds : tw_kM yX12_seconds cX12_seconds 3 (some .int) 2 := ⟨(tw_gl kw_14 rfl), (tw_gl kw_1660 rfl), by decide, by decide, by decide +kernel⟩
theorem kv_X12_seconds : tw_kV yX12_seconds := ⟨(tw_gl kw_1658 rfl), tw_gl kw_1659 rfl⟩
theorem km_X11_place : tw_kM yX11_place cX11_place 3 (some .int) 2 := ⟨(tw_gl kw_1 rfl), (tw_gl kw_1100 rfl), by decide, by decide, by decide +kernel⟩
theorem kv_X11_place : tw_kV yX11_place := ⟨(tw_gl kw_1098 rfl), tw_gl kw_1099 rfl⟩
theorem km_X12_place : tw_kM yX12_place cX12_place 3 (some .int) 2 := ⟨(tw_gl kw_14 rfl), (tw_gl kw_1672 rfl), by decide, by decide, by decide +kernel⟩
theorem kv_X12_place : tw_kV yX12_place := ⟨(tw_gl kw_1670 rfl), tw_gl kw_1671 rfl⟩
theorem km_X12_sum : tw_kM yX12_sum cX12_sum 3 (some .int) 2 := ⟨(tw_gl kw_14 rfl), (tw_gl kw_1692 rfl), by decide, by decide, by decide +kernel⟩
theorem kv_X12_sum : tw_kV yX12_sum := ⟨(tw_gl kw_1690 rfl), tw_gl kw_1691 rfl⟩
theorem km_X11_within : tw_kM yX11_within cX11_within 3 (some .int) 2 := ⟨(tw_gl kw_1 rfl), (tw_gl kw_1124 rfl), by decide, by decide, by decide +kernel⟩
theorem kv_X11_within : tw_kV yX11_within := ⟨(tw_gl kw_1122 rfl), tw_gl kw_1123 rfl⟩
theorem km_X12_within : tw_kM yX12_within cX12_within 3 (some .int) 2 := ⟨(tw_gl kw_14 rfl), (tw_gl kw_1696 rfl), by decide, by decide, by decide +kernel⟩
theorem kv_X12_within : tw_kV yX12_within := ⟨(tw_gl kw_1694 rfl), tw_gl kw_1695 rfl⟩
theorem km_X11_result : tw_kM yX11_result cX11_result 5 (some .int) 1 := ⟨(tw_gl kw_1 rfl), (tw_gl kw_1128 rfl), by decide, by decide, by decide +kernel⟩
theorem kv_X11_result : tw_kV yX11_result := ⟨(tw_gl kw_1126 rfl), tw_gl kw_1127 rfl⟩
theorem km_X12_result : tw_kM yX12_result cX12_result 3 (some .int) 1 := ⟨(tw_gl kw_14 rfl), (tw_gl kw_1700 rfl), by decide, by decide, by decide +kernel⟩
theorem kv_X12_result : tw_kV yX12_result := ⟨(tw_gl kw_1698 rfl), tw_gl kw_1699 rfl⟩
theorem km_X11_move : tw_kM yX11_move cX11_move 8 (some .int) 4 := ⟨(tw_gl kw_1 rfl), (tw_gl kw_1132 rfl), by decide, by decide, by decide +kernel⟩
theorem kv_X11_move : tw_kV yX11_move := ⟨(tw_gl kw_1130 rfl), tw_gl kw_1131 rfl⟩
theorem km_X12_move : tw_kM yX12_move cX12_move 8 (some .int) 4 := ⟨(tw_gl kw_14 rfl), (tw_gl kw_1704 rfl), by decide, by decide, by decide +kernel⟩
theorem kv_X12_move : tw_kV yX12_move := ⟨(tw_gl kw_1702 rfl), tw_gl kw_1703 rfl⟩
theorem km_X11_best : tw_kM yX11_best cX11_best 5 (some .int) 3 := ⟨(tw_gl kw_1 rfl), (tw_gl kw_1139 rfl), by decide, by decide, by decide +kernel⟩
theorem kv_X11_best : tw_kV yX11_best := ⟨(tw_gl kw_1137 rfl), tw_gl kw_1138 rfl⟩
theorem km_X12_best : tw_kM yX12_best cX12_best 5 (some .int) 3 := ⟨(tw_gl kw_14 rfl), (tw_gl kw_1708 rfl), by decide, by decide, by decide +kernel⟩
theorem kv_X12_best : tw_kV yX12_best := ⟨(tw_gl kw_1706 rfl), tw_gl kw_1707 rfl⟩
theorem km_X11_gain : tw_kM yX11_gain cX11_gain 7 (some .int) 3 := ⟨(tw_gl kw_1 rfl), (tw_gl kw_1181 rfl), by decide, by decide, by decide +kernel⟩
theorem kv_X11_gain : tw_kV yX11_gain := ⟨(tw_gl kw_1179 rfl), tw_gl kw_1180 rfl⟩
theorem km_X12_gain : tw_kM yX12_gain cX12_gain 6 (some .int) 3 := ⟨(tw_gl kw_14 rfl), (tw_gl kw_1735 rfl), by decide, by decide, by decide +kernel⟩
theorem kv_X12_gain : tw_kV yX12_gain := ⟨(tw_gl kw_1733 rfl), tw_gl kw_1734 rfl⟩
theorem km_X11_option : tw_kM yX11_option cX11_option 4 (some .int) 3 := ⟨(tw_gl kw_1 rfl), (tw_gl kw_1187 rfl), by decide, by decide, by decide +kernel⟩
theorem kv_X11_option : tw_kV yX11_option := ⟨(tw_gl kw_1185 rfl), tw_gl kw_1186 rfl⟩
theorem km_X12_option : tw_kM yX12_option cX12_option 5 (some .int) 3 := ⟨(tw_gl kw_14 rfl), (tw_gl kw_1739 rfl), by decide, by decide, by decide +kernel⟩
theorem kv_X12_option : tw_kV yX12_option := ⟨(tw_gl kw_1737 rfl), tw_gl kw_1738 rfl⟩
theorem km_X11_clear : tw_kM yX11_clear cX11_clear 3 (some .int) 0 := ⟨(tw_gl kw_1 rfl), (tw_gl kw_1191 rfl), by decide, by decide, by decide +kernel⟩
theorem kv_X11_clear : tw_kV yX11_clear := ⟨(tw_gl kw_1189 rfl), tw_gl kw_1190 rfl⟩
theorem km_X12_clear : tw_kM yX12_clear cX12_clear 3 (some .int) 0 := ⟨(tw_gl kw_14 rfl), (tw_gl kw_1743 rfl), by decide, by decide, by decide +kernel⟩
theorem kv_X12_clear : tw_kV yX12_clear := ⟨(tw_gl kw_1741 rfl), tw_gl kw_1742 rfl⟩
theorem km_X11_settle : tw_kM yX11_settle cX11_settle 4 (some .int) 3 := ⟨(tw_gl kw_1 rfl), (tw_gl kw_1195 rfl), by decide, by decide, by decide +kernel⟩
theorem kv_X11_settle : tw_kV yX11_settle := ⟨(tw_gl kw_1193 rfl), tw_gl kw_1194 rfl⟩
theorem km_X12_settle : tw_kM yX12_settle cX12_settle 6 (some .int) 3 := ⟨(tw_gl kw_14 rfl), (tw_gl kw_1747 rfl), by decide, by decide, by decide +kernel⟩
theorem kv_X12_settle : tw_kV yX12_settle := ⟨(tw_gl kw_1745 rfl), tw_gl kw_1746 rfl⟩
theorem km_X11_lost : tw_kM yX11_lost cX11_lost 3 (some .boolean) 2 := ⟨(tw_gl kw_1 rfl), (tw_gl kw_1218 rfl), by decide, by decide, by decide +kernel⟩
theorem kv_X11_lost : tw_kV yX11_lost := ⟨(tw_gl kw_1216 rfl), tw_gl kw_1217 rfl⟩
theorem km_X12_lost : tw_kM yX12_lost cX12_lost 3 (some .boolean) 2 := ⟨(tw_gl kw_14 rfl), (tw_gl kw_1759 rfl), by decide, by decide, by decide +kernel⟩
theorem kv_X12_lost : tw_kV yX12_lost := ⟨(tw_gl kw_1757 rfl), tw_gl kw_1758 rfl⟩
theorem km_X11_known : tw_kM yX11_known cX11_known 5 (some .int) 4 := ⟨(tw_gl kw_1 rfl), (tw_gl kw_1222 rfl), by decide, by decide, by decide +kernel⟩
theorem kv_X11_known : tw_kV yX11_known := ⟨(tw_gl kw_1220 rfl), tw_gl kw_1221 rfl⟩
theorem km_X12_known : tw_kM yX12_known cX12_known 5 (some .int) 4 := ⟨(tw_gl kw_14 rfl), (tw_gl kw_1763 rfl), by decide, by decide, by decide +kernel⟩
theorem kv_X12_known : tw_kV yX12_known := ⟨(tw_gl kw_1761 rfl), tw_gl kw_1762 rfl⟩
theorem km_X11_ahead : tw_kM yX11_ahead cX11_ahead 8 (some .int) 4 := ⟨(tw_gl kw_1 rfl), (tw_gl kw_1235 rfl), by decide, by decide, by decide +kernel⟩
theorem kv_X11_ahead : tw_kV yX11_ahead := ⟨(tw_gl kw_1233 rfl), tw_gl kw_1234 rfl⟩
theorem km_X12_ahead : tw_kM yX12_ahead cX12_ahead 7 (some .int) 4 := ⟨(tw_gl kw_14 rfl), (tw_gl kw_1771 rfl), by decide, by decide, by decide +kernel⟩
theorem kv_X12_ahead : tw_kV yX12_ahead := ⟨(tw_gl kw_1769 rfl), tw_gl kw_1770 rfl⟩
theorem km_X11_wall : tw_kM yX11_wall cX11_wall 10 (some .int) 2 := ⟨(tw_gl kw_1 rfl), (tw_gl kw_1239 rfl), by decide, by decide, by decide +kernel⟩
theorem kv_X11_wall : tw_kV yX11_wall := ⟨(tw_gl kw_1237 rfl), tw_gl kw_1238 rfl⟩
theorem km_X12_wall : tw_kM yX12_wall cX12_wall 9 (some .int) 2 := ⟨(tw_gl kw_14 rfl), (tw_gl kw_1775 rfl), by decide, by decide, by decide +kernel⟩
theorem kv_X12_wall : tw_kV yX12_wall := ⟨(tw_gl kw_1773 rfl), tw_gl kw_1774 rfl⟩
theorem km_X11_why : tw_kM yX11_why cX11_why 3 (some .int) 2 := ⟨(tw_gl kw_1 rfl), (tw_gl kw_1251 rfl), by decide, by decide, by decide +kernel⟩
theorem kv_X11_why : tw_kV yX11_why := ⟨(tw_gl kw_1249 rfl), tw_gl kw_1250 rfl⟩
theorem km_X12_why : tw_kM yX12_why cX12_why 3 (some .int) 2 := ⟨(tw_gl kw_14 rfl), (tw_gl kw_1783 rfl), by decide, by decide, by decide +kernel⟩
theorem kv_X12_why : tw_kV yX12_why := ⟨(tw_gl kw_1781 rfl), tw_gl kw_1782 rfl⟩
theorem km_X12_row : tw_kM yX12_row cX12_row 2 (some .int) 1 := ⟨(tw_gl kw_14 rfl), (tw_gl kw_2085 rfl), by decide, by decide, by decide +kernel⟩
theorem kv_X12_row : tw_kV yX12_row := ⟨(tw_gl kw_2083 rfl), tw_gl kw_2084 rfl⟩
/-! the law over both worlds: tools -/
theorem tw_2.congr {G : tw_G} {N1 N2 : Nat} {ad1 ad2 : Nat → Nat} {w1 w2 v1 v2 : Nat → va_E} {A : Nat → Prop} {s : State} {H : Heap} {locs : List Loc} (h : tw_2 G N1 ad1 w1 N2 ad2 w2 A s H locs) (e1 : ∀ r : Nat, r < N1 → ∀ (a : Nat) (H : Heap), va_at G.1 vwCl (a, w1 r) H → va_at G.1 vwCl (a, v1 r) H) (e2 : ∀ r : Nat, r < N2 → ∀ (a : Nat) (H : Heap), va_at G.1 vwCl (a, w2 r) H → va_at G.1 vwCl (a, v2 r) H) : tw_2 G N1 ad1 v1 N2 ad2 v2 A s H locs := by
  refine ⟨⟨fun k q hq => ?_, tw_D_any h.1.2.1, h.1.2.2⟩, ⟨fun k q hq => ?_, tw_D_any h.2.1.2.1, h.2.1.2.2⟩, h.2.2⟩
  · obtain ⟨hk, rfl⟩ := tw_W_in hq
    exact e1 k hk _ _ (h.1.1 k _ (tw_W_get hk))
  · obtain ⟨hk, rfl⟩ := tw_W_in hq
    exact e2 k hk _ _ (h.2.1.1 k _ (tw_W_get hk))
section TW3
variable {p : Program} {l : Launch} {e : Env} {R : Room} {s : State} {m : MethodId} {args : Array Value} {below : List Frame} {meth : Method} {c : Code} {H : Heap} {locs : List Loc} {cells slots : Nat} {Q : State → Prop}
variable {cc : ByteArray} {nL pc mc ms : Nat} {ls : Array Slot} {rest st : List Value} {own : String} {G : tw_G} {A : Nat → Prop} {N1 N2 : Nat} {ad1 ad2 : Nat → Nat} {w1 w2 : Nat → va_E}
/-- the first world grows by an array of numbers -/
theorem tw_newa3 (F : tw_F p m c cc nL s args own G A) (h2 : tw_2 G N1 ad1 w1 N2 ad2 w2 A s H locs) {t : Nat} {atype : ArrayType} {ty : FieldType} (ht : (tw_tys G)[t]? = some (G.2.1 t, ty)) (hn0 : ∀ C, ty ≠ .object C) (k1 : Cond.arrayClass ty ∈ lw_g) (hty : newarray.typeOf atype = ty) {n : Int32} {n' : Nat} {a0 : vp_A} (ha : ∀ cA : ClassId, vp_cell cA a0 = arrV cA n' (fun _ => defaultValue ty)) (hn : ¬ n < 0) (hN : n.toNatClampNeg = n') (hbytes : n' * componentBytes ty ≤ 536870912) (hcells : cells + 1 ≤ R.cells) (hslots : slots + n' ≤ R.slots) (hdg : decode cc pc = .ok (.newarray atype, 2))
    (kk : ∀ (q : Nat) (H1 : Heap), tw_2 G (N1 + 1) (va_up ad1 N1 q) (va_up w1 N1 (.inl (G.2.1 t, a0))) N2 ad2 w2 A s H1 locs → W p l e R s m args below meth c H1 locs (cells + 1) (slots + n') Q (F0 m (pc + 2) ls (.ref q :: rest))) : W p l e R s m args below meth c H locs cells slots Q (F0 m pc ls (.int n :: rest)) := by
  obtain ⟨⟨hx, hb, hml, hown, hts⟩, hE, hA⟩ := F
  have e1 : (tw_W N1 ad1 w1).length = N1 := by simp [tw_W]
  have e2 : (tw_W N2 ad2 w2).length = N2 := by simp [tw_W]
  have hD : va_D A (tw_W N1 ad1 w1 ++ tw_W N2 ad2 w2) := va_D.app h2.1.2.1 h2.2.1.2.1 fun i j x y hi hj hxy => by
    obtain ⟨hi1, rfl⟩ := tw_W_in hi
    obtain ⟨hj1, rfl⟩ := tw_W_in hj
    exact h2.2.2 i j hi1 hj1 hxy
  refine va_newa hx hb (by rw [hty]; exact hts _ k1) hty hE.1 (h2.1.1.app h2.2.1.1) hD h2.1.2.2 hA ha hn hN hbytes hcells hslots hdg fun q cA H1 aK a1 a2 a3 => ?_
  have ec := tw_cl0 (X := fun _ => True) hn0 hE.1 ht aK
  subst ec
  have g1 : ∀ k : Nat, k < N1 → (tw_W N1 ad1 w1 ++ tw_W N2 ad2 w2 ++ [(q, (.inl (G.2.1 t, a0) : va_E))])[k]? = some (ad1 k, w1 k) := fun k hk => by
    rw [List.getElem?_append_left (by simp only [List.length_append, e1]; omega), List.getElem?_append_left (by omega), tw_W_get hk]
  have g2 : ∀ k : Nat, k < N2 → (tw_W N1 ad1 w1 ++ tw_W N2 ad2 w2 ++ [(q, (.inl (G.2.1 t, a0) : va_E))])[N1 + k]? = some (ad2 k, w2 k) := fun k hk => by
    rw [List.getElem?_append_left (by simp only [List.length_append, e1, e2]; omega), List.getElem?_append_right (by omega), e1, Nat.add_sub_cancel_left, tw_W_get hk]
  have g3 : (tw_W N1 ad1 w1 ++ tw_W N2 ad2 w2 ++ [(q, (.inl (G.2.1 t, a0) : va_E))])[N1 + N2]? = some (q, .inl (G.2.1 t, a0)) := by
    rw [List.getElem?_append_right (by simp only [List.length_append, e1, e2]; omega)]
    simp only [List.length_append, e1, e2, Nat.sub_self]
    rfl
  have q1 : ∀ k : Nat, k < N1 → ad1 k ≠ q := fun k hk e => by
    have := a2.1 k (N1 + N2) _ _ (g1 k hk) g3 e
    omega
  have q2 : ∀ k : Nat, k < N2 → q ≠ ad2 k := fun k hk e => by
    have := a2.1 (N1 + N2) (N1 + k) _ _ g3 (g2 k hk) e
    omega
  have hq : A q := a2.2 _ _ g3
  refine kk q H1 ⟨⟨fun k x hk => ?_, ⟨fun i j x y hi hj hxy => ?_, fun k x hk => ?_⟩, a3⟩, ⟨fun k x hk => ?_, h2.2.1.2.1, a3⟩, fun i j hi hj => ?_⟩
  · obtain ⟨hk1, rfl⟩ := tw_W_in hk
    by_cases hkn : k = N1
    · subst hkn
      rw [va_up_self, va_up_self]
      exact a1 _ _ g3
    · rw [va_up_ne _ _ hkn, va_up_ne _ _ hkn]
      exact a1 k _ (g1 k (by omega))
  · obtain ⟨hi1, rfl⟩ := tw_W_in hi
    obtain ⟨hj1, rfl⟩ := tw_W_in hj
    have hxy : va_up ad1 N1 q i = va_up ad1 N1 q j := hxy
    by_cases hin : i = N1
    · by_cases hjn : j = N1
      · omega
      · rw [hin, va_up_self, va_up_ne _ _ hjn] at hxy
        exact absurd hxy.symm (q1 j (by omega))
    · by_cases hjn : j = N1
      · rw [hjn, va_up_self, va_up_ne _ _ hin] at hxy
        exact absurd hxy (q1 i (by omega))
      · rw [va_up_ne _ _ hin, va_up_ne _ _ hjn] at hxy
        exact h2.1.2.1.1 i j _ _ (tw_W_get (by omega)) (tw_W_get (by omega)) hxy
  · obtain ⟨hk1, rfl⟩ := tw_W_in hk
    show A (va_up ad1 N1 q k)
    by_cases hkn : k = N1
    · rw [hkn, va_up_self]
      exact hq
    · rw [va_up_ne _ _ hkn]
      exact h2.1.2.1.2 k _ (tw_W_get (by omega))
  · obtain ⟨hk1, rfl⟩ := tw_W_in hk
    exact a1 _ _ (g2 k hk1)
  · by_cases hin : i = N1
    · rw [hin, va_up_self]
      exact q2 j hj
    · rw [va_up_ne _ _ hin]
      exact h2.2.2 i j (by omega) hj
theorem tw_last {N : Nat} {ad : Nat → Nat} {w : Nat → va_E} (F : tw_F p m c cc nL s args own G A) (hH : tw_H G N ad w A s H locs) {r n j : Nat} {f : Nat → Int64} {i : Int32} {x : Int64} {a : Nat} (hra : ad r = a) (hr : r < N) (hw : w r = .inl (G.2.1 5, n, .inr (.inl f))) (hi : i.toInt = (j : Int)) (hj : j < n) (hdg : decode cc pc = .ok (.lastore, 1))
    (kk : ∀ (H1 : Heap) (locs1 : List Loc) (w1 : Nat → va_E), w1 r = .inl (G.2.1 5, n, .inr (.inl (vp_updL f j x))) → (∀ q, q ≠ r → w1 q = w q) → tw_H G N ad w1 A s H1 locs1 → W p l e R s m args below meth c H1 locs1 cells slots Q (F0 m (pc + 1) ls rest)) : W p l e R s m args below meth c H locs cells slots Q (F0 m pc ls (.long x :: .int i :: .ref a :: rest)) := by
  subst hra
  obtain ⟨h1, h2⟩ := tw_ix hi hj
  obtain ⟨⟨hx, hb, hml, hown, hts⟩, hE, -⟩ := F
  refine va_last hx hb hE.1 hH.1 hH.2.1 hH.2.2 r 5 (by rw [tw_W_get hr, hw]) rfl h1 hdg fun H1 locs1 a1 a2 a3 => ?_
  rw [h2, tw_W_set] at a1 a2
  exact kk H1 locs1 _ (va_up_self _ _ _) (fun j hj => va_up_ne _ _ hj) ⟨a1, a2, a3⟩
/-- a call of the first system, in the law -/
theorem tw_sys1 {Y1 Y2 : jm_Y} {M N : jm_M} (F : tw_F p m c cc nL s args own G A) (h2 : tw_2 G Y1.1 ad1 (jm_c Y1 G ad1 M) Y2.1 ad2 (jm_c Y2 G ad2 N) A s H locs) {y : MethodName} {b : ByteArray} {maxL : Nat} {ret : Option FieldType} {rm : Room} {As : tw_G → (Nat → Nat) → List Value} {g : jm_R} {idx n ci Nf : Nat} {T : u_T} {as : List Value} {rr : Int} {MM : jm_M} (hC : jm_Ci Y1 y b maxL ret rm M As g) (hg : g = some (rr, MM)) (hM : jm_RM M) (k1 : Cond.methodLink own idx y ∈ lw_g) (k2 : tw_kM y b maxL ret n) (k3 : tw_kV y) (hr0 : rm.cells = 0) (hs0 : rm.slots = 0) (hR : rm.frames + 1 ≤ R.frames ∧ 8 + (maxL + 11) + rm.locals ≤ R.locals) (hv : jm_v Y1 0 1) (ho : jm_ko Y1 0 ci y.cls T Nf) (hn : as.length = n) (hAs : As G ad1 = .ref (ad1 (jm_r Y1 0 0)) :: as) (hls : ls.size = nL) (hst : st = as.reverse ++ .ref (ad1 (jm_r Y1 0 0)) :: rest) (hW : (rest.map fun v => v.category).sum ≤ 8) (hd : decode cc pc = .ok (.invokevirtual idx, 3)) (hc : cells ≤ R.cells) (hsl : slots ≤ R.slots)
    (kk : ∀ (H1 : Heap) (locs1 : List Loc), tw_2 G Y1.1 ad1 (jm_c Y1 G ad1 MM) Y2.1 ad2 (jm_c Y2 G ad2 N) A s H1 locs1 → W p l e R s m args below meth c H1 locs1 cells slots Q (F0 m (pc + 3) ls (jm_i rr :: rest))) : W p l e R s m args below meth c H locs cells slots Q (F0 m pc ls st) := by
  have hMet := hC l G ad1 H.size rr MM hg hM
  rw [hAs] at hMet
  obtain ⟨e1, e2⟩ := jm_c_at (M := M) (G := G) (ad := ad1) hv ⟨Int.le_refl 0, by decide⟩
  obtain ⟨fs, e3⟩ := ho.1 G ad1 0 (M 0 0)
  refine tw_calli_1 F h2 (tw_runV F h2.1 hMet k1 k2 k3 hr0 hs0 hR e1 (e2.trans e3) ho.2 hn hls hst hW hd ⟨hc, hsl⟩) (fun r w3 H1 locs1 hp hh => ?_)
  obtain ⟨rfl, rfl, -, -⟩ := hp
  exact kk H1 locs1 hh
theorem tw_sys2 {Y1 Y2 : jm_Y} {M N : jm_M} (F : tw_F p m c cc nL s args own G A) (h2 : tw_2 G Y1.1 ad1 (jm_c Y1 G ad1 M) Y2.1 ad2 (jm_c Y2 G ad2 N) A s H locs) {y : MethodName} {b : ByteArray} {maxL : Nat} {ret : Option FieldType} {rm : Room} {As : tw_G → (Nat → Nat) → List Value} {g : jm_R} {idx n ci Nf : Nat} {T : u_T} {as : List Value} {rr : Int} {MM : jm_M} (hC : jm_Ci Y2 y b maxL ret rm N As g) (hg : g = some (rr, MM)) (hM : jm_RM N) (k1 : Cond.methodLink own idx y ∈ lw_g) (k2 : tw_kM y b maxL ret n) (k3 : tw_kV y) (hr0 : rm.cells = 0) (hs0 : rm.slots = 0) (hR : rm.frames + 1 ≤ R.frames ∧ 8 + (maxL + 11) + rm.locals ≤ R.locals) (hv : jm_v Y2 0 1) (ho : jm_ko Y2 0 ci y.cls T Nf) (hn : as.length = n) (hAs : As G ad2 = .ref (ad2 (jm_r Y2 0 0)) :: as) (hls : ls.size = nL) (hst : st = as.reverse ++ .ref (ad2 (jm_r Y2 0 0)) :: rest) (hW : (rest.map fun v => v.category).sum ≤ 8) (hd : decode cc pc = .ok (.invokevirtual idx, 3)) (hc : cells ≤ R.cells) (hsl : slots ≤ R.slots)
    (kk : ∀ (H1 : Heap) (locs1 : List Loc), tw_2 G Y1.1 ad1 (jm_c Y1 G ad1 M) Y2.1 ad2 (jm_c Y2 G ad2 MM) A s H1 locs1 → W p l e R s m args below meth c H1 locs1 cells slots Q (F0 m (pc + 3) ls (jm_i rr :: rest))) : W p l e R s m args below meth c H locs cells slots Q (F0 m pc ls st) :=
  tw_sys1 F h2.swap hC hg hM k1 k2 k3 hr0 hs0 hR hv ho hn hAs hls hst hW hd hc hsl fun H1 locs1 hh => kk H1 locs1 hh.swap
end TW3
/-- the law's locals: the script, both systems, out, the count -/
abbrev law_lv (b a1 a2 ao t : Nat) : List (Nat × Value) := [(4, .int (Int32.ofNat (7 * t))), (3, .ref ao), (2, .ref a2), (1, .ref a1), (0, .ref b)]
theorem law_ix {t L : Nat} (k : Nat) (ht : 7 * t + 7 ≤ L) (hL : L ≤ 3584) (hk : k < 7) : vp_in (Int32.ofNat (7 * t) + Int32.ofNat k) L ∧ (Int32.ofNat (7 * t) + Int32.ofNat k).toNatClampNeg = 7 * t + k := by
  rw [← Int32.ofNat_add]
  exact tw_ix (j := 7 * t + k) (nI_toInt (by omega)) (by omega)
/-- a number of the script on the stack -/
theorem law_arg {p : Program} {l : Launch} {e : Env} {s : State} {m : MethodId} {below : List Frame} {meth : Method} {c : Code} {G : tw_G} {b L t : Nat} {xs : Nat → Int32} {Q : State → Prop} {H : Heap} {locs : List Loc} {cells slots pc : Nat} {ls : Array Slot} {lv : List (Nat × Value)} {st : List Value} {N1 N2 : Nat} {ad1 ad2 : Nat → Nat} {w1 w2 : Nat → va_E} (F : tw_F p m c code 7 s #[Value.ref b] RL G (fun q => s.heap.size ≤ q)) (hX : va_X b L xs s s.heap) (hbl : b < s.heap.size) (h2 : tw_2 G N1 ad1 w1 N2 ad2 w2 (fun q => s.heap.size ≤ q) s H locs) (hl : lv_has ls 7 lv) (ht : 7 * t + 7 ≤ L) (hL : L ≤ 3584) (q0 q4 : Nat) (g0 : lv[q0]? = some (0, .ref b)) (g4 : lv[q4]? = some (4, .int (Int32.ofNat (7 * t)))) (k : Nat) (hk : k < 6) (d0 : decode code pc = .ok (.aload_n 0, 1)) (d1 : decode code (pc + 1) = .ok (.iload 4, 2)) (d3 : decode code (pc + 3) = .ok (.iconst (k : Int), 1)) (d4 : decode code (pc + 4) = .ok (.iadd, 1)) (d5 : decode code (pc + 5) = .ok (.iaload, 1))
    (kk : W p l e room_1 s m #[Value.ref b] below meth c H locs cells slots Q (F0 m (pc + 6) ls (jm_i (xs (7 * t + k)).toInt :: st))) : W p l e room_1 s m #[Value.ref b] below meth c H locs cells slots Q (F0 m pc ls st) := by
  have hx := F.1.1
  have hb := F.1.2.1
  have hbA : ¬ (fun q : Nat => s.heap.size ≤ q) b := Nat.not_le.mpr hbl
  obtain ⟨i1, i2⟩ := law_ix k ht hL (by omega)
  refine lv_aload_n hx hb d0 rfl (lv_at hl q0 g0) ?_
  refine lv_iload hx hb d1 (lv_at hl q4 g4) ?_
  refine lv_iconst (v := Int32.ofNat k) hx hb d3 rfl ?_
  refine lv_iadd hx hb d4 ?_
  refine va_sld hx hb hX hbl hbA h2.1.2.2 i1 d5 ?_
  rw [i2]
  unfold jm_i at kk
  rw [jm_oti] at kk
  exact kk
theorem law_arg6 {p : Program} {l : Launch} {e : Env} {s : State} {m : MethodId} {below : List Frame} {meth : Method} {c : Code} {G : tw_G} {b L t : Nat} {xs : Nat → Int32} {Q : State → Prop} {H : Heap} {locs : List Loc} {cells slots pc : Nat} {ls : Array Slot} {lv : List (Nat × Value)} {st : List Value} {N1 N2 : Nat} {ad1 ad2 : Nat → Nat} {w1 w2 : Nat → va_E} (F : tw_F p m c code 7 s #[Value.ref b] RL G (fun q => s.heap.size ≤ q)) (hX : va_X b L xs s s.heap) (hbl : b < s.heap.size) (h2 : tw_2 G N1 ad1 w1 N2 ad2 w2 (fun q => s.heap.size ≤ q) s H locs) (hl : lv_has ls 7 lv) (ht : 7 * t + 7 ≤ L) (hL : L ≤ 3584) (q0 q4 : Nat) (g0 : lv[q0]? = some (0, .ref b)) (g4 : lv[q4]? = some (4, .int (Int32.ofNat (7 * t)))) (d0 : decode code pc = .ok (.aload_n 0, 1)) (d1 : decode code (pc + 1) = .ok (.iload 4, 2)) (d3 : decode code (pc + 3) = .ok (.bipush 6, 2)) (d4 : decode code (pc + 5) = .ok (.iadd, 1)) (d5 : decode code (pc + 6) = .ok (.iaload, 1))
    (kk : W p l e room_1 s m #[Value.ref b] below meth c H locs cells slots Q (F0 m (pc + 7) ls (jm_i (xs (7 * t + 6)).toInt :: st))) : W p l e room_1 s m #[Value.ref b] below meth c H locs cells slots Q (F0 m pc ls st) := by
  have hx := F.1.1
  have hb := F.1.2.1
  have hbA : ¬ (fun q : Nat => s.heap.size ≤ q) b := Nat.not_le.mpr hbl
  obtain ⟨i1, i2⟩ := law_ix 6 ht hL (by omega)
  refine lv_aload_n hx hb d0 rfl (lv_at hl q0 g0) ?_
  refine lv_iload hx hb d1 (lv_at hl q4 g4) ?_
  refine lv_bipush (v := Int32.ofNat 6) hx hb d3 (by decide) ?_
  refine lv_iadd hx hb d4 ?_
  refine va_sld hx hb hX hbl hbA h2.1.2.2 i1 d5 ?_
  rw [i2]
  unfold jm_i at kk
  rw [jm_oti] at kk
  exact kk
/-- what is behind a call -/
def law_K (p : Program) (l : Launch) (e : Env) (s : State) (m : MethodId) (below : List Frame) (meth : Method) (c : Code) (G : tw_G) (b t : Nat) (ad1 ad2 : Nat → Nat) (cells slots : Nat) : Prop := ∀ (M N : jm_M) (H : Heap) (locs : List Loc) (ls : Array Slot) (c1 s1 : Nat), IY M N → tw_2 G 245 ad1 (jm_c wd1 G ad1 M) 80 ad2 (jm_c wd2 G ad2 N) (fun q => s.heap.size ≤ q) s H locs → lv_has ls 7 (law_lv b (ad1 0) (ad2 0) (ad1 244) t) → c1 ≤ cells + 1 → s1 ≤ slots + 6 → W p l e room_1 s m #[Value.ref b] below meth c H locs c1 s1 (lw_Z below #[Value.ref b] s) (F0 m 1891 ls [])
/-- a method of the law that catches: it answers 1, or 0 and the number in out -/
def fL_x (g : jm_R) : jm_R := jm_b g fun v M1 => if v = 4294967296 then some (1, M1) else some (0, jm_u M1 49 0 0 v)
theorem fL_some {g : jm_R} {r : Int} {M1 : jm_M} (h : g = some (r, M1)) : fL_x g = some (if r = 4294967296 then (1, M1) else (0, jm_u M1 49 0 0 r)) := by
  rw [h]
  show (if r = 4294967296 then some (1, M1) else some (0, jm_u M1 49 0 0 r)) = _
  split <;> rfl
theorem IV.out {M N : jm_M} (h : IV M N) {v : Int} (hv : jm_in v) : IV (jm_u M 49 0 0 v) N := by
  have hk : Kp RC1 M (jm_u M 49 0 0 v) := fun f i k q => jm_une_f (by unfold RC1 at q; omega)
  exact h.kp (bI_u h.1 hv) h.2.1 hk Kp.rf
theorem IW.out {M N : jm_M} (h : IW M N) {v : Int} (hv : jm_in v) : IW (jm_u M 49 0 0 v) N :=
  ⟨h.1.out hv, h.2.kp (fun f i k q => jm_une_f (by unfold KX1 at q; omega)) Kp.rf⟩
theorem IX.out {M N : jm_M} (h : IX M N) {v : Int} (hv : jm_in v) : IX (jm_u M 49 0 0 v) N :=
  ⟨h.1.out hv, h.2.1.keep h.1.1.2.1 (fun f i k y => jm_une_f (by unfold RL1 C1r C1f C1s C1p C1o C1n C1c at y; omega)) (fun c f k _ _ _ y => jm_une_f (by unfold CTX at y; omega)) Kp.rf, h.2.2.1.keep h.1.1.2.1 (fun f i k y => jm_une_f (by unfold CR7 at y; omega)) Kp.rf, h.2.2.2.1.kp (fun f i k y => jm_une_f (by unfold XD at y; omega)), h.2.2.2.2.kk h.1.1.2.1 (fun f i k y => jm_une_f (by unfold X1 at y; omega)) (fun i f k _ _ y => jm_une_f (by unfold CTX at y; omega)) Kp.rf⟩
theorem IY.out {M N : jm_M} (h : IY M N) {v : Int} (hv : jm_in v) : IY (jm_u M 49 0 0 v) N := ⟨h.1.out hv, h.2.kp (fun f i k y => jm_une_f (by unfold RWA at y; omega)) Kp.rf⟩

theorem jm_i2l {r : Int} (h : jm_in r) : (Int32.ofInt r).toInt64 = Int64.ofInt r := by
  apply Int64.toInt_inj.mp
  rw [Int32.toInt_toInt64, jm_ti h, Int64.toInt_ofInt_of_le (by have := h.1; omega) (by have := h.2; omega)]
theorem jm_outc {G : tw_G} {ad : Nat → Nat} {M : jm_M} {r : Int} : (.inl (G.2.1 5, 1, .inr (.inl (vp_updL (fun j : Nat => Int64.ofInt (M 49 0 j)) 0 (Int64.ofInt r)))) : va_E) = wd1.2.2.2 G ad 49 0 (jm_ur (M 49 0) 0 r) := by
  show (.inl (G.2.1 5, 1, .inr (.inl (vp_updL (fun j : Nat => Int64.ofInt (M 49 0 j)) 0 (Int64.ofInt r)))) : va_E) = .inl (G.2.1 5, 1, .inr (.inl (fun j : Nat => Int64.ofInt (jm_ur (M 49 0) 0 r j))))
  congr 5
  funext j
  unfold vp_updL jm_ur
  by_cases hj : j = 0
  · rw [if_pos hj, if_pos (by omega)]
  · rw [if_neg hj, if_neg (by omega)]
theorem tw_g_of : Cond.codeWith yL_of cL_of 5 (some .int) [(0, 10, 13, 13)] ∈ lw_g := (tw_gl kw_1254 rfl)
set_option maxHeartbeats 4000000 in
set_option maxRecDepth 100000 in
theorem c_L_of (l : Launch) (G : tw_G) (hst : l.stackTraces = false) (ad : Nat → Nat) (sz : Nat) (M : jm_M) (l1 l2 : Int) (h1 : jm_in l1) (h2 : jm_in l2) {r : Int} {M1 : jm_M} (hg : fX11_of 4000 M l1 l2 = some (r, M1)) (hM : jm_RM M) : Met l yL_of (tw_wsW yL_of cL_of 5 (some .int) [(0, 10, 13, 13)]) ({ frames := 20, cells := 1, slots := 6, locals := 600 }) (tw_Pre G 245 ad (jm_c wd1 G ad M) sz [.ref (ad 0), jm_i l1, jm_i l2, .ref (ad 244)]) (tw_Qi G 245 ad (fun _ w1 => (r ≠ 4294967296 → jm_in r) ∧ w1 = jm_c wd1 G ad (if r = 4294967296 then M1 else jm_u M1 49 0 0 r)) sz) 1 6 (tw_A 245 ad sz) := by
  refine tw_metW (by decide) (Nat.le_of_ble_eq_true rfl) ?_
  intro p e s m args below meth c F hret hlk htab hargs hsz hH ls hl
  have hx := F.1.1
  have hb := F.1.2.1
  have hown := F.1.2.2.2.1
  have hts := F.1.2.2.2.2
  obtain ⟨fs, e3⟩ := ko1_0.1 G ad 0 (M 0 0)
  have hw0 : jm_c wd1 G ad M 0 = .inr (11, fs) := e3
  have hl : lv_has ls 5 [(0, .ref (ad 0)), (1, jm_i l1), (2, jm_i l2), (3, .ref (ad 244))] := hl
  generalize hH0 : s.heap = H at hH ⊢
  refine lv_aload_n hx hb dL_of_0 rfl (lv_at hl 3 rfl) ?_
  refine lv_iconst (v := 0) hx hb dL_of_1 (by decide) ?_
  refine lv_aload_n hx hb dL_of_2 rfl (lv_at hl 0 rfl) ?_
  refine lv_iload_n hx hb dL_of_3 rfl (lv_at hl 1 rfl) ?_
  refine lv_iload_n hx hb dL_of_4 rfl (lv_at hl 2 rfl) ?_
  have hMet := ct_X11_of 4000 M l1 l2 h1 h2 l G ad H.size r M1 hst hg hM
  refine tw_callX F hH (tw_runVX (r := 0) (As := [jm_i l1, jm_i l2]) (rest := [.int (0 : Int32), .ref (ad 244)]) F hH hMet (tw_gl kw_1256 rfl) km_X11_of kv_X11_of rfl rfl ⟨(Nat.le_of_ble_eq_true rfl), (Nat.le_of_ble_eq_true rfl)⟩ (by decide) hw0 rfl rfl hl.1 rfl (Nat.le_of_ble_eq_true rfl) dL_of_5 ⟨(Nat.le_of_ble_eq_true rfl), (Nat.le_of_ble_eq_true rfl)⟩) (fun ce q9 w1 H locs hp hH hc1 hc2 hc3 => ?_) (fun rr w1 H locs hp hH => ?_)
  · obtain ⟨hr, rfl, hM1⟩ := hp
    refine vx_catch (E := tw_nse) (name := "java/util/NoSuchElementException") hown [] _ [] htab (fun z h => nomatch h) (by decide) (by decide) (hts _ (tw_gl kw_1255 rfl)) (va_Nw.use rfl F.2.1.2.1.2.2.1) hc1 hc2 hc3 ?_
    refine lv_astore (lv' := [(4, .ref q9), (0, .ref (ad 0)), (1, jm_i l1), (2, jm_i l2), (3, .ref (ad 244))]) hx hb dL_of_13 hl (by decide) rfl (fun ls hl => ?_)
    refine lv_iconst (v := 1) hx hb dL_of_15 (by decide) ?_
    exact tw_iret F hH hret hlk rfl (Nat.le_of_ble_eq_true rfl) (Nat.le_of_ble_eq_true rfl) dL_of_16 ⟨fun h => absurd hr h, by rw [if_pos hr]⟩
  · obtain ⟨hne, rfl, rfl, hM1, hr⟩ := hp
    refine lv_i2l (v := Int64.ofInt r) hx hb dL_of_8 (jm_i2l hr) ?_
    refine tw_last (r := 244) (j := 0) (n := 1) (f := fun j : Nat => Int64.ofInt (M1 49 0 j)) F hH rfl (by decide) rfl (by decide) (by decide) dL_of_9 (fun H locs w2 hw2 hne2 hH => ?_)
    refine lv_goto (tgt := 17) hx hb dL_of_10 (by decide) ?_
    refine lv_iconst (v := 0) hx hb dL_of_17 (by decide) ?_
    have hH := jm_H_u (Y := wd1) (f := 49) (i := 0) (k := 0) (v := r) (jv1_49 0 (by decide) (by decide)).2 (hw2.trans jm_outc) hne2 (jm_injv wI1) hH
    exact tw_iret F hH hret hlk rfl (Nat.le_of_ble_eq_true rfl) (Nat.le_of_ble_eq_true rfl) dL_of_18 ⟨fun _ => hr, by rw [if_neg hne]⟩
theorem tw_g_sum : Cond.codeWith yL_sum cL_sum 5 (some .int) [(0, 10, 13, 13)] ∈ lw_g := (tw_gl kw_1329 rfl)
set_option maxHeartbeats 4000000 in
set_option maxRecDepth 100000 in
theorem c_L_sum (l : Launch) (G : tw_G) (hst : l.stackTraces = false) (ad : Nat → Nat) (sz : Nat) (M : jm_M) (l1 l2 : Int) (h1 : jm_in l1) (h2 : jm_in l2) {r : Int} {M1 : jm_M} (hg : fX11_sum 4000 M l1 l2 = some (r, M1)) (hM : jm_RM M) : Met l yL_sum (tw_wsW yL_sum cL_sum 5 (some .int) [(0, 10, 13, 13)]) ({ frames := 20, cells := 1, slots := 6, locals := 600 }) (tw_Pre G 245 ad (jm_c wd1 G ad M) sz [.ref (ad 0), jm_i l1, jm_i l2, .ref (ad 244)]) (tw_Qi G 245 ad (fun _ w1 => (r ≠ 4294967296 → jm_in r) ∧ w1 = jm_c wd1 G ad (if r = 4294967296 then M1 else jm_u M1 49 0 0 r)) sz) 1 6 (tw_A 245 ad sz) := by
  refine tw_metW (by decide) (Nat.le_of_ble_eq_true rfl) ?_
  intro p e s m args below meth c F hret hlk htab hargs hsz hH ls hl
  have hx := F.1.1
  have hb := F.1.2.1
  have hown := F.1.2.2.2.1
  have hts := F.1.2.2.2.2
  obtain ⟨fs, e3⟩ := ko1_0.1 G ad 0 (M 0 0)
  have hw0 : jm_c wd1 G ad M 0 = .inr (11, fs) := e3
  have hl : lv_has ls 5 [(0, .ref (ad 0)), (1, jm_i l1), (2, jm_i l2), (3, .ref (ad 244))] := hl
  generalize hH0 : s.heap = H at hH ⊢
  refine lv_aload_n hx hb dL_sum_0 rfl (lv_at hl 3 rfl) ?_
  refine lv_iconst (v := 0) hx hb dL_sum_1 (by decide) ?_
  refine lv_aload_n hx hb dL_sum_2 rfl (lv_at hl 0 rfl) ?_
  refine lv_iload_n hx hb dL_sum_3 rfl (lv_at hl 1 rfl) ?_
  refine lv_iload_n hx hb dL_sum_4 rfl (lv_at hl 2 rfl) ?_
  have hMet := ct_X11_sum 4000 M l1 l2 h1 h2 l G ad H.size r M1 hst hg hM
  refine tw_callX F hH (tw_runVX (r := 0) (As := [jm_i l1, jm_i l2]) (rest := [.int (0 : Int32), .ref (ad 244)]) F hH hMet (tw_gl kw_1330 rfl) km_X11_sum kv_X11_sum rfl rfl ⟨(Nat.le_of_ble_eq_true rfl), (Nat.le_of_ble_eq_true rfl)⟩ (by decide) hw0 rfl rfl hl.1 rfl (Nat.le_of_ble_eq_true rfl) dL_sum_5 ⟨(Nat.le_of_ble_eq_true rfl), (Nat.le_of_ble_eq_true rfl)⟩) (fun ce q9 w1 H locs hp hH hc1 hc2 hc3 => ?_) (fun rr w1 H locs hp hH => ?_)
  · obtain ⟨hr, rfl, hM1⟩ := hp
    refine vx_catch (E := tw_nse) (name := "java/util/NoSuchElementException") hown [] _ [] htab (fun z h => nomatch h) (by decide) (by decide) (hts _ (tw_gl kw_1255 rfl)) (va_Nw.use rfl F.2.1.2.1.2.2.1) hc1 hc2 hc3 ?_
    refine lv_astore (lv' := [(4, .ref q9), (0, .ref (ad 0)), (1, jm_i l1), (2, jm_i l2), (3, .ref (ad 244))]) hx hb dL_sum_13 hl (by decide) rfl (fun ls hl => ?_)
    refine lv_iconst (v := 1) hx hb dL_sum_15 (by decide) ?_
    exact tw_iret F hH hret hlk rfl (Nat.le_of_ble_eq_true rfl) (Nat.le_of_ble_eq_true rfl) dL_sum_16 ⟨fun h => absurd hr h, by rw [if_pos hr]⟩
  · obtain ⟨hne, rfl, rfl, hM1, hr⟩ := hp
    refine lv_i2l (v := Int64.ofInt r) hx hb dL_sum_8 (jm_i2l hr) ?_
    refine tw_last (r := 244) (j := 0) (n := 1) (f := fun j : Nat => Int64.ofInt (M1 49 0 j)) F hH rfl (by decide) rfl (by decide) (by decide) dL_sum_9 (fun H locs w2 hw2 hne2 hH => ?_)
    refine lv_goto (tgt := 17) hx hb dL_sum_10 (by decide) ?_
    refine lv_iconst (v := 0) hx hb dL_sum_17 (by decide) ?_
    have hH := jm_H_u (Y := wd1) (f := 49) (i := 0) (k := 0) (v := r) (jv1_49 0 (by decide) (by decide)).2 (hw2.trans jm_outc) hne2 (jm_injv wI1) hH
    exact tw_iret F hH hret hlk rfl (Nat.le_of_ble_eq_true rfl) (Nat.le_of_ble_eq_true rfl) dL_sum_18 ⟨fun _ => hr, by rw [if_neg hne]⟩
theorem tw_g_row : Cond.codeWith yL_row cL_row 4 (some .int) [(0, 9, 12, 13)] ∈ lw_g := (tw_gl kw_1336 rfl)
set_option maxHeartbeats 4000000 in
set_option maxRecDepth 100000 in
theorem c_L_row (l : Launch) (G : tw_G) (hst : l.stackTraces = false) (ad : Nat → Nat) (sz : Nat) (M : jm_M) (l1 : Int) (h1 : jm_in l1) {r : Int} {M1 : jm_M} (hg : fX11_row M l1 = some (r, M1)) (hM : jm_RM M) : Met l yL_row (tw_wsW yL_row cL_row 4 (some .int) [(0, 9, 12, 13)]) ({ frames := 20, cells := 1, slots := 6, locals := 600 }) (tw_Pre G 245 ad (jm_c wd1 G ad M) sz [.ref (ad 0), jm_i l1, .ref (ad 244)]) (tw_Qi G 245 ad (fun _ w1 => (r ≠ 4294967296 → jm_in r) ∧ w1 = jm_c wd1 G ad (if r = 4294967296 then M1 else jm_u M1 49 0 0 r)) sz) 1 6 (tw_A 245 ad sz) := by
  refine tw_metW (by decide) (Nat.le_of_ble_eq_true rfl) ?_
  intro p e s m args below meth c F hret hlk htab hargs hsz hH ls hl
  have hx := F.1.1
  have hb := F.1.2.1
  have hown := F.1.2.2.2.1
  have hts := F.1.2.2.2.2
  obtain ⟨fs, e3⟩ := ko1_0.1 G ad 0 (M 0 0)
  have hw0 : jm_c wd1 G ad M 0 = .inr (11, fs) := e3
  have hl : lv_has ls 4 [(0, .ref (ad 0)), (1, jm_i l1), (2, .ref (ad 244))] := hl
  generalize hH0 : s.heap = H at hH ⊢
  refine lv_aload_n hx hb dL_row_0 rfl (lv_at hl 2 rfl) ?_
  refine lv_iconst (v := 0) hx hb dL_row_1 (by decide) ?_
  refine lv_aload_n hx hb dL_row_2 rfl (lv_at hl 0 rfl) ?_
  refine lv_iload_n hx hb dL_row_3 rfl (lv_at hl 1 rfl) ?_
  have hMet := ct_X11_row M l1 h1 l G ad H.size r M1 hst hg hM
  refine tw_callX F hH (tw_runVX (r := 0) (As := [jm_i l1]) (rest := [.int (0 : Int32), .ref (ad 244)]) F hH hMet (tw_gl kw_1337 rfl) km_X11_row kv_X11_row rfl rfl ⟨(Nat.le_of_ble_eq_true rfl), (Nat.le_of_ble_eq_true rfl)⟩ (by decide) hw0 rfl rfl hl.1 rfl (Nat.le_of_ble_eq_true rfl) dL_row_4 ⟨(Nat.le_of_ble_eq_true rfl), (Nat.le_of_ble_eq_true rfl)⟩) (fun ce q9 w1 H locs hp hH hc1 hc2 hc3 => ?_) (fun rr w1 H locs hp hH => ?_)
  · obtain ⟨hr, rfl, hM1⟩ := hp
    refine vx_catch (E := tw_nse) (name := "java/util/NoSuchElementException") hown [] _ [] htab (fun z h => nomatch h) (by decide) (by decide) (hts _ (tw_gl kw_1255 rfl)) (va_Nw.use rfl F.2.1.2.1.2.2.1) hc1 hc2 hc3 ?_
    refine lv_astore_n (lv' := [(3, .ref q9), (0, .ref (ad 0)), (1, jm_i l1), (2, .ref (ad 244))]) hx hb dL_row_12 rfl hl (by decide) rfl (fun ls hl => ?_)
    refine lv_iconst (v := 1) hx hb dL_row_13 (by decide) ?_
    exact tw_iret F hH hret hlk rfl (Nat.le_of_ble_eq_true rfl) (Nat.le_of_ble_eq_true rfl) dL_row_14 ⟨fun h => absurd hr h, by rw [if_pos hr]⟩
  · obtain ⟨hne, rfl, rfl, hM1, hr⟩ := hp
    refine lv_i2l (v := Int64.ofInt r) hx hb dL_row_7 (jm_i2l hr) ?_
    refine tw_last (r := 244) (j := 0) (n := 1) (f := fun j : Nat => Int64.ofInt (M1 49 0 j)) F hH rfl (by decide) rfl (by decide) (by decide) dL_row_8 (fun H locs w2 hw2 hne2 hH => ?_)
    refine lv_goto (tgt := 15) hx hb dL_row_9 (by decide) ?_
    refine lv_iconst (v := 0) hx hb dL_row_15 (by decide) ?_
    have hH := jm_H_u (Y := wd1) (f := 49) (i := 0) (k := 0) (v := r) (jv1_49 0 (by decide) (by decide)).2 (hw2.trans jm_outc) hne2 (jm_injv wI1) hH
    exact tw_iret F hH hret hlk rfl (Nat.le_of_ble_eq_true rfl) (Nat.le_of_ble_eq_true rfl) dL_row_16 ⟨fun _ => hr, by rw [if_neg hne]⟩
