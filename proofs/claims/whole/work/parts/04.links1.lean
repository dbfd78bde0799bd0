theorem tw_1459 : ((.methodLink "AccountDayModel" (159 : Nat) yX11_ruled) : Cond) ∈ lw_tbl := List.mem_append_right _ (List.mem_of_getElem? (i := 1459) (by decide +kernel))
theorem tw_1463 : ((.methodLink "AccountDayModel" (326 : Nat) yX11_rules) : Cond) ∈ lw_tbl := List.mem_append_right _ (List.mem_of_getElem? (i := 1463) (by decide +kernel))
theorem tw_1467 : ((.methodLink "AccountDayModel" (322 : Nat) yX11_readRule) : Cond) ∈ lw_tbl := List.mem_append_right _ (List.mem_of_getElem? (i := 1467) (by decide +kernel))
theorem tw_1471 : ((.methodLink "AccountDayModel" (215 : Nat) yX11_next) : Cond) ∈ lw_tbl := List.mem_append_right _ (List.mem_of_getElem? (i := 1471) (by decide +kernel))
theorem tw_1475 : ((.methodLink "AccountDayModel" (179 : Nat) yX11_byteAt) : Cond) ∈ lw_tbl := List.mem_append_right _ (List.mem_of_getElem? (i := 1475) (by decide +kernel))
theorem tw_1479 : ((.constantLong "AccountDayModel" (192 : Nat) (27 : Int64)) : Cond) ∈ lw_tbl := List.mem_append_right _ (List.mem_of_getElem? (i := 1479) (by decide +kernel))
theorem tw_1480 : ((.constantLong "AccountDayModel" (194 : Nat) (96 : Int64)) : Cond) ∈ lw_tbl := List.mem_append_right _ (List.mem_of_getElem? (i := 1480) (by decide +kernel))
theorem tw_1481 : ((.constantLong "AccountDayModel" (196 : Nat) (-1 : Int64)) : Cond) ∈ lw_tbl := List.mem_append_right _ (List.mem_of_getElem? (i := 1481) (by decide +kernel))
theorem tw_1482 : ((.constantLong "AccountDayModel" (198 : Nat) (10 : Int64)) : Cond) ∈ lw_tbl := List.mem_append_right _ (List.mem_of_getElem? (i := 1482) (by decide +kernel))
theorem tw_1483 : ((.constantLong "AccountDayModel" (200 : Nat) (48 : Int64)) : Cond) ∈ lw_tbl := List.mem_append_right _ (List.mem_of_getElem? (i := 1483) (by decide +kernel))
theorem tw_1484 : ((.methodLink "AccountDayModel" (308 : Nat) yX11_keyHere) : Cond) ∈ lw_tbl := List.mem_append_right _ (List.mem_of_getElem? (i := 1484) (by decide +kernel))
theorem tw_1488 : ((.constantLong "AccountDayModel" (296 : Nat) (355568 : Int64)) : Cond) ∈ lw_tbl := List.mem_append_right _ (List.mem_of_getElem? (i := 1488) (by decide +kernel))
theorem tw_1489 : ((.methodLink "AccountDayModel" (220 : Nat) yX11_isWord) : Cond) ∈ lw_tbl := List.mem_append_right _ (List.mem_of_getElem? (i := 1489) (by decide +kernel))
theorem tw_1493 : ((.constantLong "AccountDayModel" (298 : Nat) (168984 : Int64)) : Cond) ∈ lw_tbl := List.mem_append_right _ (List.mem_of_getElem? (i := 1493) (by decide +kernel))
theorem tw_1494 : ((.constantLong "AccountDayModel" (300 : Nat) (237470 : Int64)) : Cond) ∈ lw_tbl := List.mem_append_right _ (List.mem_of_getElem? (i := 1494) (by decide +kernel))
theorem tw_1495 : ((.constantLong "AccountDayModel" (302 : Nat) (257 : Int64)) : Cond) ∈ lw_tbl := List.mem_append_right _ (List.mem_of_getElem? (i := 1495) (by decide +kernel))
theorem tw_1496 : ((.constantLong "AccountDayModel" (304 : Nat) (149125 : Int64)) : Cond) ∈ lw_tbl := List.mem_append_right _ (List.mem_of_getElem? (i := 1496) (by decide +kernel))
theorem tw_1497 : ((.constantLong "AccountDayModel" (306 : Nat) (3181 : Int64)) : Cond) ∈ lw_tbl := List.mem_append_right _ (List.mem_of_getElem? (i := 1497) (by decide +kernel))
theorem tw_1498 : ((.methodLink "AccountDayModel" (212 : Nat) yX11_fail) : Cond) ∈ lw_tbl := List.mem_append_right _ (List.mem_of_getElem? (i := 1498) (by decide +kernel))
theorem tw_1502 : ((.methodLink "AccountDayModel" (262 : Nat) yX11_either) : Cond) ∈ lw_tbl := List.mem_append_right _ (List.mem_of_getElem? (i := 1502) (by decide +kernel))
theorem tw_1506 : ((.methodLink "AccountDayModel" (291 : Nat) yX11_both) : Cond) ∈ lw_tbl := List.mem_append_right _ (List.mem_of_getElem? (i := 1506) (by decide +kernel))
theorem tw_1510 : ((.methodLink "AccountDayModel" (279 : Nat) yX11_not) : Cond) ∈ lw_tbl := List.mem_append_right _ (List.mem_of_getElem? (i := 1510) (by decide +kernel))
theorem tw_1514 : ((.constantLong "AccountDayModel" (277 : Nat) (10631 : Int64)) : Cond) ∈ lw_tbl := List.mem_append_right _ (List.mem_of_getElem? (i := 1514) (by decide +kernel))
theorem tw_1515 : ((.methodLink "AccountDayModel" (255 : Nat) yX11_opens) : Cond) ∈ lw_tbl := List.mem_append_right _ (List.mem_of_getElem? (i := 1515) (by decide +kernel))
theorem tw_1519 : ((.methodLink "AccountDayModel" (282 : Nat) yX11_added) : Cond) ∈ lw_tbl := List.mem_append_right _ (List.mem_of_getElem? (i := 1519) (by decide +kernel))
theorem tw_1523 : ((.methodLink "AccountDayModel" (272 : Nat) yX11_term) : Cond) ∈ lw_tbl := List.mem_append_right _ (List.mem_of_getElem? (i := 1523) (by decide +kernel))
theorem tw_1527 : ((.methodLink "AccountDayModel" (259 : Nat) yX11_one) : Cond) ∈ lw_tbl := List.mem_append_right _ (List.mem_of_getElem? (i := 1527) (by decide +kernel))
theorem tw_1531 : ((.methodLink "AccountDayModel" (252 : Nat) yX11_isSign) : Cond) ∈ lw_tbl := List.mem_append_right _ (List.mem_of_getElem? (i := 1531) (by decide +kernel))
theorem tw_1535 : ((.methodLink "AccountDayModel" (265 : Nat) yX11_name) : Cond) ∈ lw_tbl := List.mem_append_right _ (List.mem_of_getElem? (i := 1535) (by decide +kernel))
theorem tw_1539 : ((.constantLong "AccountDayModel" (218 : Nat) (10502066 : Int64)) : Cond) ∈ lw_tbl := List.mem_append_right _ (List.mem_of_getElem? (i := 1539) (by decide +kernel))
theorem tw_1540 : ((.constantLong "AccountDayModel" (227 : Nat) (256721 : Int64)) : Cond) ∈ lw_tbl := List.mem_append_right _ (List.mem_of_getElem? (i := 1540) (by decide +kernel))
theorem tw_1541 : ((.constantLong "AccountDayModel" (229 : Nat) (2968 : Int64)) : Cond) ∈ lw_tbl := List.mem_append_right _ (List.mem_of_getElem? (i := 1541) (by decide +kernel))
theorem tw_1542 : ((.constantLong "AccountDayModel" (231 : Nat) (8740067 : Int64)) : Cond) ∈ lw_tbl := List.mem_append_right _ (List.mem_of_getElem? (i := 1542) (by decide +kernel))
theorem tw_1543 : ((.constantLong "AccountDayModel" (233 : Nat) (9626 : Int64)) : Cond) ∈ lw_tbl := List.mem_append_right _ (List.mem_of_getElem? (i := 1543) (by decide +kernel))
theorem tw_1544 : ((.methodLink "AccountDayModel" (235 : Nat) yX11_menUp) : Cond) ∈ lw_tbl := List.mem_append_right _ (List.mem_of_getElem? (i := 1544) (by decide +kernel))
theorem tw_1548 : ((.constantLong "AccountDayModel" (239 : Nat) (276913720 : Int64)) : Cond) ∈ lw_tbl := List.mem_append_right _ (List.mem_of_getElem? (i := 1548) (by decide +kernel))
theorem tw_1549 : ((.constantLong "AccountDayModel" (241 : Nat) (8863997 : Int64)) : Cond) ∈ lw_tbl := List.mem_append_right _ (List.mem_of_getElem? (i := 1549) (by decide +kernel))
theorem tw_1550 : ((.constantLong "AccountDayModel" (243 : Nat) (275531535 : Int64)) : Cond) ∈ lw_tbl := List.mem_append_right _ (List.mem_of_getElem? (i := 1550) (by decide +kernel))
theorem tw_1551 : ((.constantLong "AccountDayModel" (245 : Nat) (1494603 : Int64)) : Cond) ∈ lw_tbl := List.mem_append_right _ (List.mem_of_getElem? (i := 1551) (by decide +kernel))
theorem tw_1552 : ((.constantLong "AccountDayModel" (247 : Nat) (6941854 : Int64)) : Cond) ∈ lw_tbl := List.mem_append_right _ (List.mem_of_getElem? (i := 1552) (by decide +kernel))
theorem tw_1553 : ((.constantLong "AccountDayModel" (268 : Nat) (42 : Int64)) : Cond) ∈ lw_tbl := List.mem_append_right _ (List.mem_of_getElem? (i := 1553) (by decide +kernel))
theorem tw_1554 : ((.constantLong "AccountDayModel" (270 : Nat) (47 : Int64)) : Cond) ∈ lw_tbl := List.mem_append_right _ (List.mem_of_getElem? (i := 1554) (by decide +kernel))
theorem tw_1555 : ((.constantLong "AccountDayModel" (275 : Nat) (43 : Int64)) : Cond) ∈ lw_tbl := List.mem_append_right _ (List.mem_of_getElem? (i := 1555) (by decide +kernel))
theorem tw_1556 : ((.constantLong "AccountDayModel" (285 : Nat) (60 : Int64)) : Cond) ∈ lw_tbl := List.mem_append_right _ (List.mem_of_getElem? (i := 1556) (by decide +kernel))
theorem tw_1557 : ((.constantLong "AccountDayModel" (287 : Nat) (61 : Int64)) : Cond) ∈ lw_tbl := List.mem_append_right _ (List.mem_of_getElem? (i := 1557) (by decide +kernel))
theorem tw_1558 : ((.constantLong "AccountDayModel" (289 : Nat) (1111 : Int64)) : Cond) ∈ lw_tbl := List.mem_append_right _ (List.mem_of_getElem? (i := 1558) (by decide +kernel))
theorem tw_1559 : ((.constantLong "AccountDayModel" (294 : Nat) (423 : Int64)) : Cond) ∈ lw_tbl := List.mem_append_right _ (List.mem_of_getElem? (i := 1559) (by decide +kernel))
theorem tw_1560 : ((.constantLong "AccountDayModel" (320 : Nat) (249 : Int64)) : Cond) ∈ lw_tbl := List.mem_append_right _ (List.mem_of_getElem? (i := 1560) (by decide +kernel))
theorem tw_1561 : ((.constantLong "AccountDayModel" (162 : Nat) (10000 : Int64)) : Cond) ∈ lw_tbl := List.mem_append_right _ (List.mem_of_getElem? (i := 1561) (by decide +kernel))
theorem tw_1562 : ((.constantLong "AccountDayModel" (164 : Nat) (9999 : Int64)) : Cond) ∈ lw_tbl := List.mem_append_right _ (List.mem_of_getElem? (i := 1562) (by decide +kernel))
theorem tw_1563 : ((.methodLink "AccountDayModel" (166 : Nat) yX11_stand) : Cond) ∈ lw_tbl := List.mem_append_right _ (List.mem_of_getElem? (i := 1563) (by decide +kernel))
theorem tw_1567 : ((.methodLink "AccountDayLaw" (82 : Nat) yX11_option) : Cond) ∈ lw_tbl := List.mem_append_right _ (List.mem_of_getElem? (i := 1567) (by decide +kernel))
theorem tw_1571 : ((.methodLink "AccountDayLaw" (86 : Nat) yX11_declare) : Cond) ∈ lw_tbl := List.mem_append_right _ (List.mem_of_getElem? (i := 1571) (by decide +kernel))
theorem tw_1575 : ((.methodLink "AccountDayModel" (170 : Nat) yX11_op) : Cond) ∈ lw_tbl := List.mem_append_right _ (List.mem_of_getElem? (i := 1575) (by decide +kernel))
theorem tw_1579 : ((.methodLink "AccountDayLaw" (90 : Nat) yX11_optionOf) : Cond) ∈ lw_tbl := List.mem_append_right _ (List.mem_of_getElem? (i := 1579) (by decide +kernel))
theorem tw_1583 : ((.methodLink "AccountDayLaw" (94 : Nat) yX11_dividend) : Cond) ∈ lw_tbl := List.mem_append_right _ (List.mem_of_getElem? (i := 1583) (by decide +kernel))
theorem tw_1587 : ((.methodLink "AccountDayLaw" (98 : Nat) yX11_feed) : Cond) ∈ lw_tbl := List.mem_append_right _ (List.mem_of_getElem? (i := 1587) (by decide +kernel))
theorem tw_1591 : ((.methodLink "AccountDayLaw" (102 : Nat) yX11_wipe) : Cond) ∈ lw_tbl := List.mem_append_right _ (List.mem_of_getElem? (i := 1591) (by decide +kernel))
theorem tw_1595 : ((.methodLink "AccountDayLaw" (106 : Nat) yX11_rule) : Cond) ∈ lw_tbl := List.mem_append_right _ (List.mem_of_getElem? (i := 1595) (by decide +kernel))
theorem tw_1599 : ((.methodLink "AccountDayLaw" (110 : Nat) yX11_says) : Cond) ∈ lw_tbl := List.mem_append_right _ (List.mem_of_getElem? (i := 1599) (by decide +kernel))
theorem tw_1603 : ((.methodLink "AccountDayModel" (332 : Nat) yX11_isWho) : Cond) ∈ lw_tbl := List.mem_append_right _ (List.mem_of_getElem? (i := 1603) (by decide +kernel))
theorem tw_1607 : ((.methodLink "AccountDayModel" (336 : Nat) yX11_defaultOf) : Cond) ∈ lw_tbl := List.mem_append_right _ (List.mem_of_getElem? (i := 1607) (by decide +kernel))
theorem tw_1610 : ((.methodLink "AccountDayLaw" (114 : Nat) yX11_why) : Cond) ∈ lw_tbl := List.mem_append_right _ (List.mem_of_getElem? (i := 1610) (by decide +kernel))
theorem tw_1614 : ((.methodLink "AccountDayLaw" (118 : Nat) yX11_run) : Cond) ∈ lw_tbl := List.mem_append_right _ (List.mem_of_getElem? (i := 1614) (by decide +kernel))
theorem tw_1618 : ((.methodLink "AccountDayModel" (391 : Nat) yX11_close) : Cond) ∈ lw_tbl := List.mem_append_right _ (List.mem_of_getElem? (i := 1618) (by decide +kernel))
theorem tw_1622 : ((.methodLink "AccountDayModel" (379 : Nat) yX11_paysOut) : Cond) ∈ lw_tbl := List.mem_append_right _ (List.mem_of_getElem? (i := 1622) (by decide +kernel))
theorem tw_1626 : ((.methodLink "AccountDayModel" (382 : Nat) yX11_marksUp) : Cond) ∈ lw_tbl := List.mem_append_right _ (List.mem_of_getElem? (i := 1626) (by decide +kernel))
theorem tw_1630 : ((.methodLink "AccountDayModel" (385 : Nat) yX11_names) : Cond) ∈ lw_tbl := List.mem_append_right _ (List.mem_of_getElem? (i := 1630) (by decide +kernel))
theorem tw_1634 : ((.methodLink "AccountDayModel" (342 : Nat) yX11_waits) : Cond) ∈ lw_tbl := List.mem_append_right _ (List.mem_of_getElem? (i := 1634) (by decide +kernel))
theorem tw_1638 : ((.methodLink "AccountDayModel" (346 : Nat) yX11_delivers) : Cond) ∈ lw_tbl := List.mem_append_right _ (List.mem_of_getElem? (i := 1638) (by decide +kernel))
theorem tw_1642 : ((.methodLink "AccountDayModel" (350 : Nat) yX11_passes) : Cond) ∈ lw_tbl := List.mem_append_right _ (List.mem_of_getElem? (i := 1642) (by decide +kernel))
theorem tw_1646 : ((.methodLink "AccountDayModel" (388 : Nat) yX11_settles) : Cond) ∈ lw_tbl := List.mem_append_right _ (List.mem_of_getElem? (i := 1646) (by decide +kernel))
theorem tw_1650 : ((.methodLink "AccountDayModel" (367 : Nat) yX11_owed) : Cond) ∈ lw_tbl := List.mem_append_right _ (List.mem_of_getElem? (i := 1650) (by decide +kernel))
theorem tw_1654 : ((.methodLink "AccountDayModel" (354 : Nat) yX11_owing) : Cond) ∈ lw_tbl := List.mem_append_right _ (List.mem_of_getElem? (i := 1654) (by decide +kernel))
theorem tw_1658 : ((.methodLink "AccountDayModel" (358 : Nat) yX11_within) : Cond) ∈ lw_tbl := List.mem_append_right _ (List.mem_of_getElem? (i := 1658) (by decide +kernel))
theorem tw_1661 : ((.constantLong "AccountDayModel" (361 : Nat) (100 : Int64)) : Cond) ∈ lw_tbl := List.mem_append_right _ (List.mem_of_getElem? (i := 1661) (by decide +kernel))
theorem tw_1662 : ((.methodLink "AccountDayModel" (370 : Nat) yX11_pays) : Cond) ∈ lw_tbl := List.mem_append_right _ (List.mem_of_getElem? (i := 1662) (by decide +kernel))
theorem tw_1666 : ((.methodLink "AccountDayModel" (363 : Nat) yX11_gotten) : Cond) ∈ lw_tbl := List.mem_append_right _ (List.mem_of_getElem? (i := 1666) (by decide +kernel))
theorem tw_1670 : ((.methodLink "AccountDayModel" (373 : Nat) yX11_falls) : Cond) ∈ lw_tbl := List.mem_append_right _ (List.mem_of_getElem? (i := 1670) (by decide +kernel))
theorem tw_1674 : ((.methodLink "AccountDayModel" (376 : Nat) yX11_voids) : Cond) ∈ lw_tbl := List.mem_append_right _ (List.mem_of_getElem? (i := 1674) (by decide +kernel))
theorem tw_1678 : ((.methodLink "AccountDayLaw" (122 : Nat) yX11_pass) : Cond) ∈ lw_tbl := List.mem_append_right _ (List.mem_of_getElem? (i := 1678) (by decide +kernel))
theorem tw_1682 : ((.methodLink "AccountDayLaw" (126 : Nat) yX11_delivery) : Cond) ∈ lw_tbl := List.mem_append_right _ (List.mem_of_getElem? (i := 1682) (by decide +kernel))
theorem tw_1686 : ((.methodLink "AccountDayLaw" (130 : Nat) yX11_settled) : Cond) ∈ lw_tbl := List.mem_append_right _ (List.mem_of_getElem? (i := 1686) (by decide +kernel))
theorem tw_1690 : ((.methodLink "AccountDayLaw" (134 : Nat) yX11_least) : Cond) ∈ lw_tbl := List.mem_append_right _ (List.mem_of_getElem? (i := 1690) (by decide +kernel))
theorem tw_1694 : ((.methodLink "AccountDayLaw" (138 : Nat) yX11_judge) : Cond) ∈ lw_tbl := List.mem_append_right _ (List.mem_of_getElem? (i := 1694) (by decide +kernel))
theorem tw_1698 : ((.methodLink "AccountDayLaw" (142 : Nat) yX11_corner) : Cond) ∈ lw_tbl := List.mem_append_right _ (List.mem_of_getElem? (i := 1698) (by decide +kernel))
theorem tw_1702 : ((.methodLink "AccountDayModel" (403 : Nat) yX11_sumOf) : Cond) ∈ lw_tbl := List.mem_append_right _ (List.mem_of_getElem? (i := 1702) (by decide +kernel))
theorem tw_1706 : ((.methodLink "AccountDayModel" (400 : Nat) yX11_there) : Cond) ∈ lw_tbl := List.mem_append_right _ (List.mem_of_getElem? (i := 1706) (by decide +kernel))
theorem tw_1710 : ((.methodLink "AccountDayLaw" (146 : Nat) yX11_squeeze) : Cond) ∈ lw_tbl := List.mem_append_right _ (List.mem_of_getElem? (i := 1710) (by decide +kernel))
theorem tw_1714 : ((.methodLink "AccountDayLaw" (150 : Nat) yX11_rolling) : Cond) ∈ lw_tbl := List.mem_append_right _ (List.mem_of_getElem? (i := 1714) (by decide +kernel))
theorem tw_1718 : ((.constantLong "AccountDayModel" (407 : Nat) (14 : Int64)) : Cond) ∈ lw_tbl := List.mem_append_right _ (List.mem_of_getElem? (i := 1718) (by decide +kernel))
theorem tw_1719 : ((.constantLong "AccountDayModel" (409 : Nat) (13 : Int64)) : Cond) ∈ lw_tbl := List.mem_append_right _ (List.mem_of_getElem? (i := 1719) (by decide +kernel))
theorem tw_1720 : ((.methodLink "AccountDayModel" (411 : Nat) yX11_firstOf) : Cond) ∈ lw_tbl := List.mem_append_right _ (List.mem_of_getElem? (i := 1720) (by decide +kernel))
theorem tw_1724 : ((.methodLink "AccountDayLaw" (154 : Nat) yX11_clearing) : Cond) ∈ lw_tbl := List.mem_append_right _ (List.mem_of_getElem? (i := 1724) (by decide +kernel))
theorem tw_1728 : ((.methodLink "AccountDayLaw" (158 : Nat) yX11_count) : Cond) ∈ lw_tbl := List.mem_append_right _ (List.mem_of_getElem? (i := 1728) (by decide +kernel))
theorem tw_1732 : ((.methodLink "AccountDayModel" (414 : Nat) yX11_manyOf) : Cond) ∈ lw_tbl := List.mem_append_right _ (List.mem_of_getElem? (i := 1732) (by decide +kernel))
theorem tw_1736 : ((.methodLink "AccountDayLaw" (162 : Nat) yX11_image) : Cond) ∈ lw_tbl := List.mem_append_right _ (List.mem_of_getElem? (i := 1736) (by decide +kernel))
theorem tw_1740 : ((.methodLink "AccountDayLaw" (166 : Nat) yX11_back) : Cond) ∈ lw_tbl := List.mem_append_right _ (List.mem_of_getElem? (i := 1740) (by decide +kernel))
theorem tw_1744 : ((.methodLink "AccountDayLaw" (170 : Nat) yX11_lay) : Cond) ∈ lw_tbl := List.mem_append_right _ (List.mem_of_getElem? (i := 1744) (by decide +kernel))
theorem tw_1748 : ((.methodLink "AccountDayLaw" (174 : Nat) yX11_set) : Cond) ∈ lw_tbl := List.mem_append_right _ (List.mem_of_getElem? (i := 1748) (by decide +kernel))
theorem tw_1752 : ((.methodLink "AccountDayLaw" (178 : Nat) yX11_tear) : Cond) ∈ lw_tbl := List.mem_append_right _ (List.mem_of_getElem? (i := 1752) (by decide +kernel))
theorem tw_1756 : ((.methodLink "AccountDayLaw" (182 : Nat) yX11_row) : Cond) ∈ lw_tbl := List.mem_append_right _ (List.mem_of_getElem? (i := 1756) (by decide +kernel))
theorem tw_1760 : ((.methodLink "AccountDayLaw" (186 : Nat) yX11_copy) : Cond) ∈ lw_tbl := List.mem_append_right _ (List.mem_of_getElem? (i := 1760) (by decide +kernel))
theorem tw_1764 : ((.fieldLink "java/lang/String" (9 : Nat) "java/lang/String" "value" "[B") : Cond) ∈ lw_tbl := List.mem_append_right _ (List.mem_of_getElem? (i := 1764) (by decide +kernel))
theorem tw_1765 : ((.fieldLink "java/lang/String" (15 : Nat) "java/lang/String" "coder" "B") : Cond) ∈ lw_tbl := List.mem_append_right _ (List.mem_of_getElem? (i := 1765) (by decide +kernel))
theorem xwl_0 : ∀ w ∈ u_ws RX0 TX0 1, w ∈ lw_tbl ∧ goodWord w = true := x_wl [126] (by decide +kernel)
theorem xwl_1 : ∀ w ∈ u_ws RX1 TX1 13, w ∈ lw_tbl ∧ goodWord w = true := x_wl [209, 211, 213, 215, 217, 219, 221, 223, 225, 227, 229, 231, 233] (by decide +kernel)
theorem xwl_3 : ∀ w ∈ u_ws RX3 TX3 8, w ∈ lw_tbl ∧ goodWord w = true := x_wl [70, 72, 74, 76, 78, 80, 82, 84] (by decide +kernel)
theorem xwl_4 : ∀ w ∈ u_ws RX4 TX4 9, w ∈ lw_tbl ∧ goodWord w = true := x_wl [300, 302, 304, 306, 308, 310, 312, 314, 316] (by decide +kernel)
theorem xwl_5 : ∀ w ∈ u_ws RX5 TX5 4, w ∈ lw_tbl ∧ goodWord w = true := x_wl [142, 144, 146, 148] (by decide +kernel)
theorem xwl_6 : ∀ w ∈ u_ws RX6 TX6 4, w ∈ lw_tbl ∧ goodWord w = true := x_wl [329, 331, 333, 335] (by decide +kernel)
theorem xwl_7 : ∀ w ∈ u_ws RX7 TX7 9, w ∈ lw_tbl ∧ goodWord w = true := x_wl [353, 355, 357, 359, 361, 363, 365, 367, 369] (by decide +kernel)
theorem xwl_8 : ∀ w ∈ u_ws RX8 TX8 4, w ∈ lw_tbl ∧ goodWord w = true := x_wl [111, 113, 115, 117] (by decide +kernel)
theorem xwl_9 : ∀ w ∈ u_ws RX9 TX9 10, w ∈ lw_tbl ∧ goodWord w = true := x_wl [257, 259, 261, 263, 265, 267, 269, 271, 273, 275] (by decide +kernel)
theorem xwl_10 : ∀ w ∈ u_ws RX10 TX10 10, w ∈ lw_tbl ∧ goodWord w = true := x_wl [382, 384, 386, 388, 390, 392, 394, 396, 398, 400] (by decide +kernel)
theorem xwl_11 : ∀ w ∈ u_ws RX11 TX11 48, w ∈ lw_tbl ∧ goodWord w = true := x_wl [1233, 1235, 1237, 1239, 1241, 1243, 1245, 1247, 1249, 1251, 1253, 1255, 1257, 1259, 1261, 1263, 1265, 1267, 1269, 1271, 1273, 1275, 1277, 1279, 1281, 1283, 1285, 1287, 1289, 1291, 1293, 1295, 1297, 1299, 1301, 1303, 1305, 1307, 1309, 1311, 1313, 1315, 1317, 1319, 1321, 1323, 1325, 1327] (by decide +kernel)
theorem xf_X0_16 : xFl RX0 16 0 0 := ⟨_, rfl, by decide +kernel, xwl_0, List.mem_append_right _ (List.mem_of_getElem? (i := 124) (by decide +kernel)), rfl⟩
theorem xf_X10_10 : xFl RX10 10 10 0 := ⟨_, rfl, by decide +kernel, xwl_10, List.mem_append_right _ (List.mem_of_getElem? (i := 372) (by decide +kernel)), rfl⟩
theorem xf_X10_103 : xFl RX10 103 3 6 := ⟨_, rfl, by decide +kernel, xwl_3, List.mem_append_right _ (List.mem_of_getElem? (i := 64) (by decide +kernel)), rfl⟩
theorem xf_X10_106 : xFl RX10 106 3 1 := ⟨_, rfl, by decide +kernel, xwl_3, List.mem_append_right _ (List.mem_of_getElem? (i := 47) (by decide +kernel)), rfl⟩
theorem xf_X10_110 : xFl RX10 110 3 7 := ⟨_, rfl, by decide +kernel, xwl_3, List.mem_append_right _ (List.mem_of_getElem? (i := 68) (by decide +kernel)), rfl⟩
theorem xf_X10_113 : xFl RX10 113 3 4 := ⟨_, rfl, by decide +kernel, xwl_3, List.mem_append_right _ (List.mem_of_getElem? (i := 58) (by decide +kernel)), rfl⟩
theorem xf_X10_116 : xFl RX10 116 3 5 := ⟨_, rfl, by decide +kernel, xwl_3, List.mem_append_right _ (List.mem_of_getElem? (i := 60) (by decide +kernel)), rfl⟩
theorem xf_X10_119 : xFl RX10 119 1 4 := ⟨_, rfl, by decide +kernel, xwl_1, List.mem_append_right _ (List.mem_of_getElem? (i := 180) (by decide +kernel)), rfl⟩
theorem xf_X10_131 : xFl RX10 131 3 2 := ⟨_, rfl, by decide +kernel, xwl_3, List.mem_append_right _ (List.mem_of_getElem? (i := 51) (by decide +kernel)), rfl⟩
theorem xf_X10_146 : xFl RX10 146 1 2 := ⟨_, rfl, by decide +kernel, xwl_1, List.mem_append_right _ (List.mem_of_getElem? (i := 166) (by decide +kernel)), rfl⟩
theorem xf_X10_16 : xFl RX10 16 10 1 := ⟨_, rfl, by decide +kernel, xwl_10, List.mem_append_right _ (List.mem_of_getElem? (i := 373) (by decide +kernel)), rfl⟩
theorem xf_X10_164 : xFl RX10 164 1 0 := ⟨_, rfl, by decide +kernel, xwl_1, List.mem_append_right _ (List.mem_of_getElem? (i := 156) (by decide +kernel)), rfl⟩
theorem xf_X10_196 : xFl RX10 196 1 5 := ⟨_, rfl, by decide +kernel, xwl_1, List.mem_append_right _ (List.mem_of_getElem? (i := 185) (by decide +kernel)), rfl⟩
theorem xf_X10_213 : xFl RX10 213 1 6 := ⟨_, rfl, by decide +kernel, xwl_1, List.mem_append_right _ (List.mem_of_getElem? (i := 188) (by decide +kernel)), rfl⟩
theorem xf_X10_22 : xFl RX10 22 10 2 := ⟨_, rfl, by decide +kernel, xwl_10, List.mem_append_right _ (List.mem_of_getElem? (i := 374) (by decide +kernel)), rfl⟩
theorem xf_X10_238 : xFl RX10 238 1 7 := ⟨_, rfl, by decide +kernel, xwl_1, List.mem_append_right _ (List.mem_of_getElem? (i := 192) (by decide +kernel)), rfl⟩
theorem xf_X10_244 : xFl RX10 244 9 0 := ⟨_, rfl, by decide +kernel, xwl_9, List.mem_append_right _ (List.mem_of_getElem? (i := 243) (by decide +kernel)), rfl⟩
theorem xf_X10_248 : xFl RX10 248 5 0 := ⟨_, rfl, by decide +kernel, xwl_5, List.mem_append_right _ (List.mem_of_getElem? (i := 138) (by decide +kernel)), rfl⟩
theorem xf_X10_29 : xFl RX10 29 10 3 := ⟨_, rfl, by decide +kernel, xwl_10, List.mem_append_right _ (List.mem_of_getElem? (i := 375) (by decide +kernel)), rfl⟩
theorem xf_X10_293 : xFl RX10 293 1 11 := ⟨_, rfl, by decide +kernel, xwl_1, List.mem_append_right _ (List.mem_of_getElem? (i := 205) (by decide +kernel)), rfl⟩
theorem xf_X10_297 : xFl RX10 297 1 8 := ⟨_, rfl, by decide +kernel, xwl_1, List.mem_append_right _ (List.mem_of_getElem? (i := 195) (by decide +kernel)), rfl⟩
theorem xf_X10_300 : xFl RX10 300 1 9 := ⟨_, rfl, by decide +kernel, xwl_1, List.mem_append_right _ (List.mem_of_getElem? (i := 199) (by decide +kernel)), rfl⟩
theorem xf_X10_303 : xFl RX10 303 1 12 := ⟨_, rfl, by decide +kernel, xwl_1, List.mem_append_right _ (List.mem_of_getElem? (i := 208) (by decide +kernel)), rfl⟩
theorem xf_X10_306 : xFl RX10 306 1 10 := ⟨_, rfl, by decide +kernel, xwl_1, List.mem_append_right _ (List.mem_of_getElem? (i := 202) (by decide +kernel)), rfl⟩
theorem xf_X10_341 : xFl RX10 341 8 3 := ⟨_, rfl, by decide +kernel, xwl_8, List.mem_append_right _ (List.mem_of_getElem? (i := 110) (by decide +kernel)), rfl⟩
theorem xf_X10_36 : xFl RX10 36 10 4 := ⟨_, rfl, by decide +kernel, xwl_10, List.mem_append_right _ (List.mem_of_getElem? (i := 376) (by decide +kernel)), rfl⟩
theorem xf_X10_43 : xFl RX10 43 10 5 := ⟨_, rfl, by decide +kernel, xwl_10, List.mem_append_right _ (List.mem_of_getElem? (i := 377) (by decide +kernel)), rfl⟩
theorem xf_X10_50 : xFl RX10 50 10 6 := ⟨_, rfl, by decide +kernel, xwl_10, List.mem_append_right _ (List.mem_of_getElem? (i := 378) (by decide +kernel)), rfl⟩
theorem xf_X10_54 : xFl RX10 54 10 7 := ⟨_, rfl, by decide +kernel, xwl_10, List.mem_append_right _ (List.mem_of_getElem? (i := 379) (by decide +kernel)), rfl⟩
theorem xf_X10_58 : xFl RX10 58 10 8 := ⟨_, rfl, by decide +kernel, xwl_10, List.mem_append_right _ (List.mem_of_getElem? (i := 380) (by decide +kernel)), rfl⟩
theorem xf_X10_62 : xFl RX10 62 10 9 := ⟨_, rfl, by decide +kernel, xwl_10, List.mem_append_right _ (List.mem_of_getElem? (i := 381) (by decide +kernel)), rfl⟩
theorem xf_X10_74 : xFl RX10 74 1 3 := ⟨_, rfl, by decide +kernel, xwl_1, List.mem_append_right _ (List.mem_of_getElem? (i := 168) (by decide +kernel)), rfl⟩
theorem xf_X10_78 : xFl RX10 78 3 0 := ⟨_, rfl, by decide +kernel, xwl_3, List.mem_append_right _ (List.mem_of_getElem? (i := 40) (by decide +kernel)), rfl⟩
theorem xf_X10_87 : xFl RX10 87 1 1 := ⟨_, rfl, by decide +kernel, xwl_1, List.mem_append_right _ (List.mem_of_getElem? (i := 159) (by decide +kernel)), rfl⟩
theorem xf_X11_101 : xFl RX11 101 11 45 := ⟨_, rfl, by decide +kernel, xwl_11, List.mem_append_right _ (List.mem_of_getElem? (i := 1230) (by decide +kernel)), rfl⟩
theorem xf_X11_14 : xFl RX11 14 11 1 := ⟨_, rfl, by decide +kernel, xwl_11, List.mem_append_right _ (List.mem_of_getElem? (i := 1186) (by decide +kernel)), rfl⟩
theorem xf_X11_173 : xFl RX11 173 11 7 := ⟨_, rfl, by decide +kernel, xwl_11, List.mem_append_right _ (List.mem_of_getElem? (i := 1192) (by decide +kernel)), rfl⟩
theorem xf_X11_176 : xFl RX11 176 11 11 := ⟨_, rfl, by decide +kernel, xwl_11, List.mem_append_right _ (List.mem_of_getElem? (i := 1196) (by decide +kernel)), rfl⟩
theorem xf_X11_18 : xFl RX11 18 11 2 := ⟨_, rfl, by decide +kernel, xwl_11, List.mem_append_right _ (List.mem_of_getElem? (i := 1187) (by decide +kernel)), rfl⟩
theorem xf_X11_182 : xFl RX11 182 11 9 := ⟨_, rfl, by decide +kernel, xwl_11, List.mem_append_right _ (List.mem_of_getElem? (i := 1194) (by decide +kernel)), rfl⟩
theorem xf_X11_185 : xFl RX11 185 11 8 := ⟨_, rfl, by decide +kernel, xwl_11, List.mem_append_right _ (List.mem_of_getElem? (i := 1193) (by decide +kernel)), rfl⟩
theorem xf_X11_188 : xFl RX11 188 11 10 := ⟨_, rfl, by decide +kernel, xwl_11, List.mem_append_right _ (List.mem_of_getElem? (i := 1195) (by decide +kernel)), rfl⟩
theorem xf_X11_202 : xFl RX11 202 11 13 := ⟨_, rfl, by decide +kernel, xwl_11, List.mem_append_right _ (List.mem_of_getElem? (i := 1198) (by decide +kernel)), rfl⟩
theorem xf_X11_206 : xFl RX11 206 11 14 := ⟨_, rfl, by decide +kernel, xwl_11, List.mem_append_right _ (List.mem_of_getElem? (i := 1199) (by decide +kernel)), rfl⟩
theorem xf_X11_209 : xFl RX11 209 11 12 := ⟨_, rfl, by decide +kernel, xwl_11, List.mem_append_right _ (List.mem_of_getElem? (i := 1197) (by decide +kernel)), rfl⟩
theorem xf_X11_22 : xFl RX11 22 11 3 := ⟨_, rfl, by decide +kernel, xwl_11, List.mem_append_right _ (List.mem_of_getElem? (i := 1188) (by decide +kernel)), rfl⟩
theorem xf_X11_224 : xFl RX11 224 11 15 := ⟨_, rfl, by decide +kernel, xwl_11, List.mem_append_right _ (List.mem_of_getElem? (i := 1200) (by decide +kernel)), rfl⟩
theorem xf_X11_249 : xFl RX11 249 11 16 := ⟨_, rfl, by decide +kernel, xwl_11, List.mem_append_right _ (List.mem_of_getElem? (i := 1201) (by decide +kernel)), rfl⟩
theorem xf_X11_25 : xFl RX11 25 11 4 := ⟨_, rfl, by decide +kernel, xwl_11, List.mem_append_right _ (List.mem_of_getElem? (i := 1189) (by decide +kernel)), rfl⟩
theorem xf_X11_28 : xFl RX11 28 11 6 := ⟨_, rfl, by decide +kernel, xwl_11, List.mem_append_right _ (List.mem_of_getElem? (i := 1191) (by decide +kernel)), rfl⟩
theorem xf_X11_31 : xFl RX11 31 11 20 := ⟨_, rfl, by decide +kernel, xwl_11, List.mem_append_right _ (List.mem_of_getElem? (i := 1205) (by decide +kernel)), rfl⟩
theorem xf_X11_311 : xFl RX11 311 11 17 := ⟨_, rfl, by decide +kernel, xwl_11, List.mem_append_right _ (List.mem_of_getElem? (i := 1202) (by decide +kernel)), rfl⟩
theorem xf_X11_314 : xFl RX11 314 11 18 := ⟨_, rfl, by decide +kernel, xwl_11, List.mem_append_right _ (List.mem_of_getElem? (i := 1203) (by decide +kernel)), rfl⟩
theorem xf_X11_317 : xFl RX11 317 11 19 := ⟨_, rfl, by decide +kernel, xwl_11, List.mem_append_right _ (List.mem_of_getElem? (i := 1204) (by decide +kernel)), rfl⟩
theorem xf_X11_329 : xFl RX11 329 11 5 := ⟨_, rfl, by decide +kernel, xwl_11, List.mem_append_right _ (List.mem_of_getElem? (i := 1190) (by decide +kernel)), rfl⟩
theorem xf_X11_339 : xFl RX11 339 11 25 := ⟨_, rfl, by decide +kernel, xwl_11, List.mem_append_right _ (List.mem_of_getElem? (i := 1210) (by decide +kernel)), rfl⟩
theorem xf_X11_34 : xFl RX11 34 11 21 := ⟨_, rfl, by decide +kernel, xwl_11, List.mem_append_right _ (List.mem_of_getElem? (i := 1206) (by decide +kernel)), rfl⟩
theorem xf_X11_37 : xFl RX11 37 11 22 := ⟨_, rfl, by decide +kernel, xwl_11, List.mem_append_right _ (List.mem_of_getElem? (i := 1207) (by decide +kernel)), rfl⟩
theorem xf_X11_394 : xFl RX11 394 11 47 := ⟨_, rfl, by decide +kernel, xwl_11, List.mem_append_right _ (List.mem_of_getElem? (i := 1232) (by decide +kernel)), rfl⟩
theorem xf_X11_397 : xFl RX11 397 11 46 := ⟨_, rfl, by decide +kernel, xwl_11, List.mem_append_right _ (List.mem_of_getElem? (i := 1231) (by decide +kernel)), rfl⟩
theorem xf_X11_40 : xFl RX11 40 11 23 := ⟨_, rfl, by decide +kernel, xwl_11, List.mem_append_right _ (List.mem_of_getElem? (i := 1208) (by decide +kernel)), rfl⟩
theorem xf_X11_417 : xFl RX11 417 11 44 := ⟨_, rfl, by decide +kernel, xwl_11, List.mem_append_right _ (List.mem_of_getElem? (i := 1229) (by decide +kernel)), rfl⟩
theorem xf_X11_43 : xFl RX11 43 11 24 := ⟨_, rfl, by decide +kernel, xwl_11, List.mem_append_right _ (List.mem_of_getElem? (i := 1209) (by decide +kernel)), rfl⟩
theorem xf_X11_46 : xFl RX11 46 11 26 := ⟨_, rfl, by decide +kernel, xwl_11, List.mem_append_right _ (List.mem_of_getElem? (i := 1211) (by decide +kernel)), rfl⟩
theorem xf_X11_49 : xFl RX11 49 11 27 := ⟨_, rfl, by decide +kernel, xwl_11, List.mem_append_right _ (List.mem_of_getElem? (i := 1212) (by decide +kernel)), rfl⟩
theorem xf_X11_52 : xFl RX11 52 11 28 := ⟨_, rfl, by decide +kernel, xwl_11, List.mem_append_right _ (List.mem_of_getElem? (i := 1213) (by decide +kernel)), rfl⟩
theorem xf_X11_55 : xFl RX11 55 11 29 := ⟨_, rfl, by decide +kernel, xwl_11, List.mem_append_right _ (List.mem_of_getElem? (i := 1214) (by decide +kernel)), rfl⟩
theorem xf_X11_58 : xFl RX11 58 11 30 := ⟨_, rfl, by decide +kernel, xwl_11, List.mem_append_right _ (List.mem_of_getElem? (i := 1215) (by decide +kernel)), rfl⟩
theorem xf_X11_61 : xFl RX11 61 11 31 := ⟨_, rfl, by decide +kernel, xwl_11, List.mem_append_right _ (List.mem_of_getElem? (i := 1216) (by decide +kernel)), rfl⟩
theorem xf_X11_64 : xFl RX11 64 11 32 := ⟨_, rfl, by decide +kernel, xwl_11, List.mem_append_right _ (List.mem_of_getElem? (i := 1217) (by decide +kernel)), rfl⟩
theorem xf_X11_67 : xFl RX11 67 11 33 := ⟨_, rfl, by decide +kernel, xwl_11, List.mem_append_right _ (List.mem_of_getElem? (i := 1218) (by decide +kernel)), rfl⟩
theorem xf_X11_70 : xFl RX11 70 11 34 := ⟨_, rfl, by decide +kernel, xwl_11, List.mem_append_right _ (List.mem_of_getElem? (i := 1219) (by decide +kernel)), rfl⟩
theorem xf_X11_73 : xFl RX11 73 11 35 := ⟨_, rfl, by decide +kernel, xwl_11, List.mem_append_right _ (List.mem_of_getElem? (i := 1220) (by decide +kernel)), rfl⟩
theorem xf_X11_76 : xFl RX11 76 11 36 := ⟨_, rfl, by decide +kernel, xwl_11, List.mem_append_right _ (List.mem_of_getElem? (i := 1221) (by decide +kernel)), rfl⟩
theorem xf_X11_79 : xFl RX11 79 11 37 := ⟨_, rfl, by decide +kernel, xwl_11, List.mem_append_right _ (List.mem_of_getElem? (i := 1222) (by decide +kernel)), rfl⟩
theorem xf_X11_82 : xFl RX11 82 11 38 := ⟨_, rfl, by decide +kernel, xwl_11, List.mem_append_right _ (List.mem_of_getElem? (i := 1223) (by decide +kernel)), rfl⟩
theorem xf_X11_85 : xFl RX11 85 11 39 := ⟨_, rfl, by decide +kernel, xwl_11, List.mem_append_right _ (List.mem_of_getElem? (i := 1224) (by decide +kernel)), rfl⟩
theorem xf_X11_88 : xFl RX11 88 11 40 := ⟨_, rfl, by decide +kernel, xwl_11, List.mem_append_right _ (List.mem_of_getElem? (i := 1225) (by decide +kernel)), rfl⟩
theorem xf_X11_92 : xFl RX11 92 11 41 := ⟨_, rfl, by decide +kernel, xwl_11, List.mem_append_right _ (List.mem_of_getElem? (i := 1226) (by decide +kernel)), rfl⟩
theorem xf_X11_95 : xFl RX11 95 11 42 := ⟨_, rfl, by decide +kernel, xwl_11, List.mem_append_right _ (List.mem_of_getElem? (i := 1227) (by decide +kernel)), rfl⟩
theorem xf_X11_98 : xFl RX11 98 11 43 := ⟨_, rfl, by decide +kernel, xwl_11, List.mem_append_right _ (List.mem_of_getElem? (i := 1228) (by decide +kernel)), rfl⟩
theorem xf_X1_102 : xFl RX1 102 1 11 := ⟨_, rfl, by decide +kernel, xwl_1, List.mem_append_right _ (List.mem_of_getElem? (i := 204) (by decide +kernel)), rfl⟩
theorem xf_X1_106 : xFl RX1 106 1 12 := ⟨_, rfl, by decide +kernel, xwl_1, List.mem_append_right _ (List.mem_of_getElem? (i := 207) (by decide +kernel)), rfl⟩
theorem xf_X1_18 : xFl RX1 18 1 3 := ⟨_, rfl, by decide +kernel, xwl_1, List.mem_append_right _ (List.mem_of_getElem? (i := 167) (by decide +kernel)), rfl⟩
theorem xf_X1_25 : xFl RX1 25 1 4 := ⟨_, rfl, by decide +kernel, xwl_1, List.mem_append_right _ (List.mem_of_getElem? (i := 174) (by decide +kernel)), rfl⟩
theorem xf_X1_32 : xFl RX1 32 1 5 := ⟨_, rfl, by decide +kernel, xwl_1, List.mem_append_right _ (List.mem_of_getElem? (i := 181) (by decide +kernel)), rfl⟩
theorem xf_X1_41 : xFl RX1 41 1 6 := ⟨_, rfl, by decide +kernel, xwl_1, List.mem_append_right _ (List.mem_of_getElem? (i := 186) (by decide +kernel)), rfl⟩
theorem xf_X1_45 : xFl RX1 45 1 7 := ⟨_, rfl, by decide +kernel, xwl_1, List.mem_append_right _ (List.mem_of_getElem? (i := 190) (by decide +kernel)), rfl⟩
theorem xf_X1_48 : xFl RX1 48 1 8 := ⟨_, rfl, by decide +kernel, xwl_1, List.mem_append_right _ (List.mem_of_getElem? (i := 193) (by decide +kernel)), rfl⟩
theorem xf_X1_51 : xFl RX1 51 1 9 := ⟨_, rfl, by decide +kernel, xwl_1, List.mem_append_right _ (List.mem_of_getElem? (i := 196) (by decide +kernel)), rfl⟩
theorem xf_X1_54 : xFl RX1 54 1 10 := ⟨_, rfl, by decide +kernel, xwl_1, List.mem_append_right _ (List.mem_of_getElem? (i := 200) (by decide +kernel)), rfl⟩
theorem xf_X1_58 : xFl RX1 58 1 0 := ⟨_, rfl, by decide +kernel, xwl_1, List.mem_append_right _ (List.mem_of_getElem? (i := 153) (by decide +kernel)), rfl⟩
theorem xf_X1_62 : xFl RX1 62 8 3 := ⟨_, rfl, by decide +kernel, xwl_8, List.mem_append_right _ (List.mem_of_getElem? (i := 108) (by decide +kernel)), rfl⟩
theorem xf_X1_80 : xFl RX1 80 1 1 := ⟨_, rfl, by decide +kernel, xwl_1, List.mem_append_right _ (List.mem_of_getElem? (i := 161) (by decide +kernel)), rfl⟩
theorem xf_X1_9 : xFl RX1 9 1 2 := ⟨_, rfl, by decide +kernel, xwl_1, List.mem_append_right _ (List.mem_of_getElem? (i := 162) (by decide +kernel)), rfl⟩
theorem xf_X1_93 : xFl RX1 93 0 0 := ⟨_, rfl, by decide +kernel, xwl_0, List.mem_append_right _ (List.mem_of_getElem? (i := 125) (by decide +kernel)), rfl⟩
theorem xf_X2_106 : xFl RX2 106 1 2 := ⟨_, rfl, by decide +kernel, xwl_1, List.mem_append_right _ (List.mem_of_getElem? (i := 165) (by decide +kernel)), rfl⟩
theorem xf_X2_113 : xFl RX2 113 1 6 := ⟨_, rfl, by decide +kernel, xwl_1, List.mem_append_right _ (List.mem_of_getElem? (i := 187) (by decide +kernel)), rfl⟩
theorem xf_X2_21 : xFl RX2 21 1 0 := ⟨_, rfl, by decide +kernel, xwl_1, List.mem_append_right _ (List.mem_of_getElem? (i := 154) (by decide +kernel)), rfl⟩
theorem xf_X2_25 : xFl RX2 25 1 5 := ⟨_, rfl, by decide +kernel, xwl_1, List.mem_append_right _ (List.mem_of_getElem? (i := 183) (by decide +kernel)), rfl⟩
theorem xf_X2_42 : xFl RX2 42 1 7 := ⟨_, rfl, by decide +kernel, xwl_1, List.mem_append_right _ (List.mem_of_getElem? (i := 191) (by decide +kernel)), rfl⟩
theorem xf_X2_46 : xFl RX2 46 8 3 := ⟨_, rfl, by decide +kernel, xwl_8, List.mem_append_right _ (List.mem_of_getElem? (i := 107) (by decide +kernel)), rfl⟩
theorem xf_X2_70 : xFl RX2 70 1 3 := ⟨_, rfl, by decide +kernel, xwl_1, List.mem_append_right _ (List.mem_of_getElem? (i := 170) (by decide +kernel)), rfl⟩
theorem xf_X2_74 : xFl RX2 74 3 0 := ⟨_, rfl, by decide +kernel, xwl_3, List.mem_append_right _ (List.mem_of_getElem? (i := 42) (by decide +kernel)), rfl⟩
theorem xf_X2_81 : xFl RX2 81 3 1 := ⟨_, rfl, by decide +kernel, xwl_3, List.mem_append_right _ (List.mem_of_getElem? (i := 46) (by decide +kernel)), rfl⟩
theorem xf_X2_85 : xFl RX2 85 3 6 := ⟨_, rfl, by decide +kernel, xwl_3, List.mem_append_right _ (List.mem_of_getElem? (i := 63) (by decide +kernel)), rfl⟩
theorem xf_X2_9 : xFl RX2 9 1 4 := ⟨_, rfl, by decide +kernel, xwl_1, List.mem_append_right _ (List.mem_of_getElem? (i := 175) (by decide +kernel)), rfl⟩
theorem xf_X2_92 : xFl RX2 92 3 3 := ⟨_, rfl, by decide +kernel, xwl_3, List.mem_append_right _ (List.mem_of_getElem? (i := 54) (by decide +kernel)), rfl⟩
theorem xf_X2_95 : xFl RX2 95 1 1 := ⟨_, rfl, by decide +kernel, xwl_1, List.mem_append_right _ (List.mem_of_getElem? (i := 160) (by decide +kernel)), rfl⟩
theorem xf_X3_15 : xFl RX3 15 3 2 := ⟨_, rfl, by decide +kernel, xwl_3, List.mem_append_right _ (List.mem_of_getElem? (i := 50) (by decide +kernel)), rfl⟩
theorem xf_X3_18 : xFl RX3 18 3 3 := ⟨_, rfl, by decide +kernel, xwl_3, List.mem_append_right _ (List.mem_of_getElem? (i := 53) (by decide +kernel)), rfl⟩
theorem xf_X3_21 : xFl RX3 21 3 4 := ⟨_, rfl, by decide +kernel, xwl_3, List.mem_append_right _ (List.mem_of_getElem? (i := 56) (by decide +kernel)), rfl⟩
theorem xf_X3_25 : xFl RX3 25 3 5 := ⟨_, rfl, by decide +kernel, xwl_3, List.mem_append_right _ (List.mem_of_getElem? (i := 59) (by decide +kernel)), rfl⟩
theorem xf_X3_28 : xFl RX3 28 3 6 := ⟨_, rfl, by decide +kernel, xwl_3, List.mem_append_right _ (List.mem_of_getElem? (i := 62) (by decide +kernel)), rfl⟩
theorem xf_X3_31 : xFl RX3 31 3 7 := ⟨_, rfl, by decide +kernel, xwl_3, List.mem_append_right _ (List.mem_of_getElem? (i := 67) (by decide +kernel)), rfl⟩
theorem xf_X3_34 : xFl RX3 34 3 0 := ⟨_, rfl, by decide +kernel, xwl_3, List.mem_append_right _ (List.mem_of_getElem? (i := 41) (by decide +kernel)), rfl⟩
theorem xf_X3_9 : xFl RX3 9 3 1 := ⟨_, rfl, by decide +kernel, xwl_3, List.mem_append_right _ (List.mem_of_getElem? (i := 45) (by decide +kernel)), rfl⟩
theorem xf_X4_11 : xFl RX4 11 4 0 := ⟨_, rfl, by decide +kernel, xwl_4, List.mem_append_right _ (List.mem_of_getElem? (i := 291) (by decide +kernel)), rfl⟩
theorem xf_X4_119 : xFl RX4 119 1 3 := ⟨_, rfl, by decide +kernel, xwl_1, List.mem_append_right _ (List.mem_of_getElem? (i := 173) (by decide +kernel)), rfl⟩
theorem xf_X4_123 : xFl RX4 123 3 4 := ⟨_, rfl, by decide +kernel, xwl_3, List.mem_append_right _ (List.mem_of_getElem? (i := 57) (by decide +kernel)), rfl⟩
theorem xf_X4_15 : xFl RX4 15 4 1 := ⟨_, rfl, by decide +kernel, xwl_4, List.mem_append_right _ (List.mem_of_getElem? (i := 292) (by decide +kernel)), rfl⟩
theorem xf_X4_18 : xFl RX4 18 4 2 := ⟨_, rfl, by decide +kernel, xwl_4, List.mem_append_right _ (List.mem_of_getElem? (i := 293) (by decide +kernel)), rfl⟩
theorem xf_X4_21 : xFl RX4 21 4 3 := ⟨_, rfl, by decide +kernel, xwl_4, List.mem_append_right _ (List.mem_of_getElem? (i := 294) (by decide +kernel)), rfl⟩
theorem xf_X4_24 : xFl RX4 24 4 4 := ⟨_, rfl, by decide +kernel, xwl_4, List.mem_append_right _ (List.mem_of_getElem? (i := 295) (by decide +kernel)), rfl⟩
theorem xf_X4_27 : xFl RX4 27 4 7 := ⟨_, rfl, by decide +kernel, xwl_4, List.mem_append_right _ (List.mem_of_getElem? (i := 298) (by decide +kernel)), rfl⟩
theorem xf_X4_30 : xFl RX4 30 4 8 := ⟨_, rfl, by decide +kernel, xwl_4, List.mem_append_right _ (List.mem_of_getElem? (i := 299) (by decide +kernel)), rfl⟩
theorem xf_X4_33 : xFl RX4 33 1 11 := ⟨_, rfl, by decide +kernel, xwl_1, List.mem_append_right _ (List.mem_of_getElem? (i := 203) (by decide +kernel)), rfl⟩
theorem xf_X4_39 : xFl RX4 39 1 8 := ⟨_, rfl, by decide +kernel, xwl_1, List.mem_append_right _ (List.mem_of_getElem? (i := 194) (by decide +kernel)), rfl⟩
theorem xf_X4_43 : xFl RX4 43 8 3 := ⟨_, rfl, by decide +kernel, xwl_8, List.mem_append_right _ (List.mem_of_getElem? (i := 106) (by decide +kernel)), rfl⟩
theorem xf_X4_49 : xFl RX4 49 1 9 := ⟨_, rfl, by decide +kernel, xwl_1, List.mem_append_right _ (List.mem_of_getElem? (i := 197) (by decide +kernel)), rfl⟩
theorem xf_X4_52 : xFl RX4 52 1 1 := ⟨_, rfl, by decide +kernel, xwl_1, List.mem_append_right _ (List.mem_of_getElem? (i := 158) (by decide +kernel)), rfl⟩
theorem xf_X4_59 : xFl RX4 59 1 5 := ⟨_, rfl, by decide +kernel, xwl_1, List.mem_append_right _ (List.mem_of_getElem? (i := 182) (by decide +kernel)), rfl⟩
theorem xf_X4_69 : xFl RX4 69 4 6 := ⟨_, rfl, by decide +kernel, xwl_4, List.mem_append_right _ (List.mem_of_getElem? (i := 297) (by decide +kernel)), rfl⟩
theorem xf_X4_75 : xFl RX4 75 1 4 := ⟨_, rfl, by decide +kernel, xwl_1, List.mem_append_right _ (List.mem_of_getElem? (i := 178) (by decide +kernel)), rfl⟩
theorem xf_X4_93 : xFl RX4 93 4 5 := ⟨_, rfl, by decide +kernel, xwl_4, List.mem_append_right _ (List.mem_of_getElem? (i := 296) (by decide +kernel)), rfl⟩
theorem xf_X5_102 : xFl RX5 102 1 4 := ⟨_, rfl, by decide +kernel, xwl_1, List.mem_append_right _ (List.mem_of_getElem? (i := 179) (by decide +kernel)), rfl⟩
theorem xf_X5_16 : xFl RX5 16 5 0 := ⟨_, rfl, by decide +kernel, xwl_5, List.mem_append_right _ (List.mem_of_getElem? (i := 137) (by decide +kernel)), rfl⟩
theorem xf_X5_20 : xFl RX5 20 5 1 := ⟨_, rfl, by decide +kernel, xwl_5, List.mem_append_right _ (List.mem_of_getElem? (i := 139) (by decide +kernel)), rfl⟩
theorem xf_X5_24 : xFl RX5 24 5 2 := ⟨_, rfl, by decide +kernel, xwl_5, List.mem_append_right _ (List.mem_of_getElem? (i := 140) (by decide +kernel)), rfl⟩
theorem xf_X5_27 : xFl RX5 27 5 3 := ⟨_, rfl, by decide +kernel, xwl_5, List.mem_append_right _ (List.mem_of_getElem? (i := 141) (by decide +kernel)), rfl⟩
theorem xf_X5_30 : xFl RX5 30 8 3 := ⟨_, rfl, by decide +kernel, xwl_8, List.mem_append_right _ (List.mem_of_getElem? (i := 105) (by decide +kernel)), rfl⟩
theorem xf_X5_34 : xFl RX5 34 9 6 := ⟨_, rfl, by decide +kernel, xwl_9, List.mem_append_right _ (List.mem_of_getElem? (i := 249) (by decide +kernel)), rfl⟩
theorem xf_X5_43 : xFl RX5 43 9 9 := ⟨_, rfl, by decide +kernel, xwl_9, List.mem_append_right _ (List.mem_of_getElem? (i := 255) (by decide +kernel)), rfl⟩
theorem xf_X5_46 : xFl RX5 46 9 8 := ⟨_, rfl, by decide +kernel, xwl_9, List.mem_append_right _ (List.mem_of_getElem? (i := 253) (by decide +kernel)), rfl⟩
theorem xf_X5_49 : xFl RX5 49 9 7 := ⟨_, rfl, by decide +kernel, xwl_9, List.mem_append_right _ (List.mem_of_getElem? (i := 252) (by decide +kernel)), rfl⟩
theorem xf_X5_75 : xFl RX5 75 1 0 := ⟨_, rfl, by decide +kernel, xwl_1, List.mem_append_right _ (List.mem_of_getElem? (i := 155) (by decide +kernel)), rfl⟩
theorem xf_X5_86 : xFl RX5 86 1 2 := ⟨_, rfl, by decide +kernel, xwl_1, List.mem_append_right _ (List.mem_of_getElem? (i := 164) (by decide +kernel)), rfl⟩
theorem xf_X5_93 : xFl RX5 93 1 3 := ⟨_, rfl, by decide +kernel, xwl_1, List.mem_append_right _ (List.mem_of_getElem? (i := 172) (by decide +kernel)), rfl⟩
theorem xf_X6_101 : xFl RX6 101 8 3 := ⟨_, rfl, by decide +kernel, xwl_8, List.mem_append_right _ (List.mem_of_getElem? (i := 109) (by decide +kernel)), rfl⟩
theorem xf_X6_11 : xFl RX6 11 6 0 := ⟨_, rfl, by decide +kernel, xwl_6, List.mem_append_right _ (List.mem_of_getElem? (i := 325) (by decide +kernel)), rfl⟩
theorem xf_X6_117 : xFl RX6 117 1 5 := ⟨_, rfl, by decide +kernel, xwl_1, List.mem_append_right _ (List.mem_of_getElem? (i := 184) (by decide +kernel)), rfl⟩
theorem xf_X6_133 : xFl RX6 133 3 6 := ⟨_, rfl, by decide +kernel, xwl_3, List.mem_append_right _ (List.mem_of_getElem? (i := 65) (by decide +kernel)), rfl⟩
theorem xf_X6_144 : xFl RX6 144 3 3 := ⟨_, rfl, by decide +kernel, xwl_3, List.mem_append_right _ (List.mem_of_getElem? (i := 55) (by decide +kernel)), rfl⟩
theorem xf_X6_15 : xFl RX6 15 6 1 := ⟨_, rfl, by decide +kernel, xwl_6, List.mem_append_right _ (List.mem_of_getElem? (i := 326) (by decide +kernel)), rfl⟩
theorem xf_X6_160 : xFl RX6 160 3 0 := ⟨_, rfl, by decide +kernel, xwl_3, List.mem_append_right _ (List.mem_of_getElem? (i := 44) (by decide +kernel)), rfl⟩
theorem xf_X6_161 : xFl RX6 161 3 1 := ⟨_, rfl, by decide +kernel, xwl_3, List.mem_append_right _ (List.mem_of_getElem? (i := 49) (by decide +kernel)), rfl⟩
theorem xf_X6_18 : xFl RX6 18 6 2 := ⟨_, rfl, by decide +kernel, xwl_6, List.mem_append_right _ (List.mem_of_getElem? (i := 327) (by decide +kernel)), rfl⟩
theorem xf_X6_181 : xFl RX6 181 3 5 := ⟨_, rfl, by decide +kernel, xwl_3, List.mem_append_right _ (List.mem_of_getElem? (i := 61) (by decide +kernel)), rfl⟩
theorem xf_X6_184 : xFl RX6 184 1 0 := ⟨_, rfl, by decide +kernel, xwl_1, List.mem_append_right _ (List.mem_of_getElem? (i := 157) (by decide +kernel)), rfl⟩
theorem xf_X6_194 : xFl RX6 194 1 6 := ⟨_, rfl, by decide +kernel, xwl_1, List.mem_append_right _ (List.mem_of_getElem? (i := 189) (by decide +kernel)), rfl⟩
theorem xf_X6_207 : xFl RX6 207 3 2 := ⟨_, rfl, by decide +kernel, xwl_3, List.mem_append_right _ (List.mem_of_getElem? (i := 52) (by decide +kernel)), rfl⟩
theorem xf_X6_21 : xFl RX6 21 6 3 := ⟨_, rfl, by decide +kernel, xwl_6, List.mem_append_right _ (List.mem_of_getElem? (i := 328) (by decide +kernel)), rfl⟩
theorem xf_X6_24 : xFl RX6 24 1 12 := ⟨_, rfl, by decide +kernel, xwl_1, List.mem_append_right _ (List.mem_of_getElem? (i := 206) (by decide +kernel)), rfl⟩
theorem xf_X6_36 : xFl RX6 36 1 10 := ⟨_, rfl, by decide +kernel, xwl_1, List.mem_append_right _ (List.mem_of_getElem? (i := 201) (by decide +kernel)), rfl⟩
theorem xf_X6_47 : xFl RX6 47 1 3 := ⟨_, rfl, by decide +kernel, xwl_1, List.mem_append_right _ (List.mem_of_getElem? (i := 169) (by decide +kernel)), rfl⟩
theorem xf_X6_64 : xFl RX6 64 1 4 := ⟨_, rfl, by decide +kernel, xwl_1, List.mem_append_right _ (List.mem_of_getElem? (i := 177) (by decide +kernel)), rfl⟩
theorem xf_X6_89 : xFl RX6 89 1 2 := ⟨_, rfl, by decide +kernel, xwl_1, List.mem_append_right _ (List.mem_of_getElem? (i := 163) (by decide +kernel)), rfl⟩
theorem xf_X6_97 : xFl RX6 97 1 9 := ⟨_, rfl, by decide +kernel, xwl_1, List.mem_append_right _ (List.mem_of_getElem? (i := 198) (by decide +kernel)), rfl⟩
theorem xf_X7_11 : xFl RX7 11 7 0 := ⟨_, rfl, by decide +kernel, xwl_7, List.mem_append_right _ (List.mem_of_getElem? (i := 344) (by decide +kernel)), rfl⟩
theorem xf_X7_113 : xFl RX7 113 3 7 := ⟨_, rfl, by decide +kernel, xwl_3, List.mem_append_right _ (List.mem_of_getElem? (i := 69) (by decide +kernel)), rfl⟩
theorem xf_X7_116 : xFl RX7 116 3 1 := ⟨_, rfl, by decide +kernel, xwl_3, List.mem_append_right _ (List.mem_of_getElem? (i := 48) (by decide +kernel)), rfl⟩
theorem xf_X7_123 : xFl RX7 123 7 8 := ⟨_, rfl, by decide +kernel, xwl_7, List.mem_append_right _ (List.mem_of_getElem? (i := 352) (by decide +kernel)), rfl⟩
theorem xf_X7_15 : xFl RX7 15 7 1 := ⟨_, rfl, by decide +kernel, xwl_7, List.mem_append_right _ (List.mem_of_getElem? (i := 345) (by decide +kernel)), rfl⟩
theorem xf_X7_18 : xFl RX7 18 7 2 := ⟨_, rfl, by decide +kernel, xwl_7, List.mem_append_right _ (List.mem_of_getElem? (i := 346) (by decide +kernel)), rfl⟩
theorem xf_X7_21 : xFl RX7 21 7 3 := ⟨_, rfl, by decide +kernel, xwl_7, List.mem_append_right _ (List.mem_of_getElem? (i := 347) (by decide +kernel)), rfl⟩
theorem xf_X7_24 : xFl RX7 24 7 4 := ⟨_, rfl, by decide +kernel, xwl_7, List.mem_append_right _ (List.mem_of_getElem? (i := 348) (by decide +kernel)), rfl⟩
theorem xf_X7_28 : xFl RX7 28 7 5 := ⟨_, rfl, by decide +kernel, xwl_7, List.mem_append_right _ (List.mem_of_getElem? (i := 349) (by decide +kernel)), rfl⟩
theorem xf_X7_31 : xFl RX7 31 7 6 := ⟨_, rfl, by decide +kernel, xwl_7, List.mem_append_right _ (List.mem_of_getElem? (i := 350) (by decide +kernel)), rfl⟩
theorem xf_X7_34 : xFl RX7 34 7 7 := ⟨_, rfl, by decide +kernel, xwl_7, List.mem_append_right _ (List.mem_of_getElem? (i := 351) (by decide +kernel)), rfl⟩
theorem xf_X7_37 : xFl RX7 37 1 4 := ⟨_, rfl, by decide +kernel, xwl_1, List.mem_append_right _ (List.mem_of_getElem? (i := 176) (by decide +kernel)), rfl⟩
theorem xf_X7_65 : xFl RX7 65 1 3 := ⟨_, rfl, by decide +kernel, xwl_1, List.mem_append_right _ (List.mem_of_getElem? (i := 171) (by decide +kernel)), rfl⟩
theorem xf_X7_69 : xFl RX7 69 3 0 := ⟨_, rfl, by decide +kernel, xwl_3, List.mem_append_right _ (List.mem_of_getElem? (i := 43) (by decide +kernel)), rfl⟩
theorem xf_X7_90 : xFl RX7 90 3 6 := ⟨_, rfl, by decide +kernel, xwl_3, List.mem_append_right _ (List.mem_of_getElem? (i := 66) (by decide +kernel)), rfl⟩
theorem xf_X8_13 : xFl RX8 13 8 1 := ⟨_, rfl, by decide +kernel, xwl_8, List.mem_append_right _ (List.mem_of_getElem? (i := 102) (by decide +kernel)), rfl⟩
theorem xf_X8_16 : xFl RX8 16 8 2 := ⟨_, rfl, by decide +kernel, xwl_8, List.mem_append_right _ (List.mem_of_getElem? (i := 103) (by decide +kernel)), rfl⟩
theorem xf_X8_20 : xFl RX8 20 8 3 := ⟨_, rfl, by decide +kernel, xwl_8, List.mem_append_right _ (List.mem_of_getElem? (i := 104) (by decide +kernel)), rfl⟩
theorem xf_X8_7 : xFl RX8 7 8 0 := ⟨_, rfl, by decide +kernel, xwl_8, List.mem_append_right _ (List.mem_of_getElem? (i := 101) (by decide +kernel)), rfl⟩
theorem xf_X9_15 : xFl RX9 15 9 7 := ⟨_, rfl, by decide +kernel, xwl_9, List.mem_append_right _ (List.mem_of_getElem? (i := 251) (by decide +kernel)), rfl⟩
theorem xf_X9_18 : xFl RX9 18 9 0 := ⟨_, rfl, by decide +kernel, xwl_9, List.mem_append_right _ (List.mem_of_getElem? (i := 242) (by decide +kernel)), rfl⟩
theorem xf_X9_22 : xFl RX9 22 9 3 := ⟨_, rfl, by decide +kernel, xwl_9, List.mem_append_right _ (List.mem_of_getElem? (i := 246) (by decide +kernel)), rfl⟩
theorem xf_X9_25 : xFl RX9 25 9 8 := ⟨_, rfl, by decide +kernel, xwl_9, List.mem_append_right _ (List.mem_of_getElem? (i := 254) (by decide +kernel)), rfl⟩
theorem xf_X9_31 : xFl RX9 31 9 4 := ⟨_, rfl, by decide +kernel, xwl_9, List.mem_append_right _ (List.mem_of_getElem? (i := 247) (by decide +kernel)), rfl⟩
