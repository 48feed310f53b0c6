theorem lw_l13 : zCV R_law 13 yX7_come cX7_come 6 (some .int) 3 := ⟨⟨(zint (List.mem_of_getElem? (i := 458) (by decide +kernel)) rfl), (zint (List.mem_of_getElem? (i := 461) (by decide +kernel)) rfl), (zint (List.mem_of_getElem? (i := 1) (by decide +kernel)) rfl), ⟨by decide +kernel, by decide +kernel, by decide +kernel⟩, by decide⟩, (zint (List.mem_of_getElem? (i := 459) (by decide +kernel)) rfl), (zint (List.mem_of_getElem? (i := 460) (by decide +kernel)) rfl)⟩
theorem lw_l17 : zCV R_law 17 yX8_come cX8_come 6 (some .int) 3 := ⟨⟨(zint (List.mem_of_getElem? (i := 1007) (by decide +kernel)) rfl), (zint (List.mem_of_getElem? (i := 1010) (by decide +kernel)) rfl), (zint (List.mem_of_getElem? (i := 15) (by decide +kernel)) rfl), ⟨by decide +kernel, by decide +kernel, by decide +kernel⟩, by decide⟩, (zint (List.mem_of_getElem? (i := 1008) (by decide +kernel)) rfl), (zint (List.mem_of_getElem? (i := 1009) (by decide +kernel)) rfl)⟩
theorem lw_l18 : zCV R_law 18 yX7_set cX7_set 6 (some .int) 4 := ⟨⟨(zint (List.mem_of_getElem? (i := 486) (by decide +kernel)) rfl), (zint (List.mem_of_getElem? (i := 489) (by decide +kernel)) rfl), (zint (List.mem_of_getElem? (i := 1) (by decide +kernel)) rfl), ⟨by decide +kernel, by decide +kernel, by decide +kernel⟩, by decide⟩, (zint (List.mem_of_getElem? (i := 487) (by decide +kernel)) rfl), (zint (List.mem_of_getElem? (i := 488) (by decide +kernel)) rfl)⟩
theorem lw_l22 : zCV R_law 22 yX8_set cX8_set 7 (some .int) 4 := ⟨⟨(zint (List.mem_of_getElem? (i := 1017) (by decide +kernel)) rfl), (zint (List.mem_of_getElem? (i := 1020) (by decide +kernel)) rfl), (zint (List.mem_of_getElem? (i := 15) (by decide +kernel)) rfl), ⟨by decide +kernel, by decide +kernel, by decide +kernel⟩, by decide⟩, (zint (List.mem_of_getElem? (i := 1018) (by decide +kernel)) rfl), (zint (List.mem_of_getElem? (i := 1019) (by decide +kernel)) rfl)⟩
theorem lw_l23 : zCV R_law 23 yX7_law cX7_law 5 (some .int) 3 := ⟨⟨(zint (List.mem_of_getElem? (i := 498) (by decide +kernel)) rfl), (zint (List.mem_of_getElem? (i := 501) (by decide +kernel)) rfl), (zint (List.mem_of_getElem? (i := 1) (by decide +kernel)) rfl), ⟨by decide +kernel, by decide +kernel, by decide +kernel⟩, by decide⟩, (zint (List.mem_of_getElem? (i := 499) (by decide +kernel)) rfl), (zint (List.mem_of_getElem? (i := 500) (by decide +kernel)) rfl)⟩
theorem lw_l26 : zCV R_law 26 yX8_law cX8_law 5 (some .int) 3 := ⟨⟨(zint (List.mem_of_getElem? (i := 1026) (by decide +kernel)) rfl), (zint (List.mem_of_getElem? (i := 1029) (by decide +kernel)) rfl), (zint (List.mem_of_getElem? (i := 15) (by decide +kernel)) rfl), ⟨by decide +kernel, by decide +kernel, by decide +kernel⟩, by decide⟩, (zint (List.mem_of_getElem? (i := 1027) (by decide +kernel)) rfl), (zint (List.mem_of_getElem? (i := 1028) (by decide +kernel)) rfl)⟩
theorem lw_l27 : zCV R_law 27 yX7_told cX7_told 6 (some .int) 3 := ⟨⟨(zint (List.mem_of_getElem? (i := 506) (by decide +kernel)) rfl), (zint (List.mem_of_getElem? (i := 509) (by decide +kernel)) rfl), (zint (List.mem_of_getElem? (i := 1) (by decide +kernel)) rfl), ⟨by decide +kernel, by decide +kernel, by decide +kernel⟩, by decide⟩, (zint (List.mem_of_getElem? (i := 507) (by decide +kernel)) rfl), (zint (List.mem_of_getElem? (i := 508) (by decide +kernel)) rfl)⟩
theorem lw_l30 : zCV R_law 30 yX8_told cX8_told 6 (some .int) 3 := ⟨⟨(zint (List.mem_of_getElem? (i := 1240) (by decide +kernel)) rfl), (zint (List.mem_of_getElem? (i := 1243) (by decide +kernel)) rfl), (zint (List.mem_of_getElem? (i := 15) (by decide +kernel)) rfl), ⟨by decide +kernel, by decide +kernel, by decide +kernel⟩, by decide⟩, (zint (List.mem_of_getElem? (i := 1241) (by decide +kernel)) rfl), (zint (List.mem_of_getElem? (i := 1242) (by decide +kernel)) rfl)⟩
theorem lw_l31 : zCV R_law 31 yX7_master cX7_master 4 (some .int) 2 := ⟨⟨(zint (List.mem_of_getElem? (i := 543) (by decide +kernel)) rfl), (zint (List.mem_of_getElem? (i := 546) (by decide +kernel)) rfl), (zint (List.mem_of_getElem? (i := 1) (by decide +kernel)) rfl), ⟨by decide +kernel, by decide +kernel, by decide +kernel⟩, by decide⟩, (zint (List.mem_of_getElem? (i := 544) (by decide +kernel)) rfl), (zint (List.mem_of_getElem? (i := 545) (by decide +kernel)) rfl)⟩
theorem lw_l35 : zCV R_law 35 yX8_master cX8_master 3 (some .int) 2 := ⟨⟨(zint (List.mem_of_getElem? (i := 1031) (by decide +kernel)) rfl), (zint (List.mem_of_getElem? (i := 1034) (by decide +kernel)) rfl), (zint (List.mem_of_getElem? (i := 15) (by decide +kernel)) rfl), ⟨by decide +kernel, by decide +kernel, by decide +kernel⟩, by decide⟩, (zint (List.mem_of_getElem? (i := 1032) (by decide +kernel)) rfl), (zint (List.mem_of_getElem? (i := 1033) (by decide +kernel)) rfl)⟩
theorem lw_l36 : zCV R_law 36 yX7_feed cX7_feed 2 (some .int) 1 := ⟨⟨(zint (List.mem_of_getElem? (i := 550) (by decide +kernel)) rfl), (zint (List.mem_of_getElem? (i := 553) (by decide +kernel)) rfl), (zint (List.mem_of_getElem? (i := 1) (by decide +kernel)) rfl), ⟨by decide +kernel, by decide +kernel, by decide +kernel⟩, by decide⟩, (zint (List.mem_of_getElem? (i := 551) (by decide +kernel)) rfl), (zint (List.mem_of_getElem? (i := 552) (by decide +kernel)) rfl)⟩
theorem lw_l40 : zCV R_law 40 yX8_feed cX8_feed 2 (some .int) 1 := ⟨⟨(zint (List.mem_of_getElem? (i := 1036) (by decide +kernel)) rfl), (zint (List.mem_of_getElem? (i := 1039) (by decide +kernel)) rfl), (zint (List.mem_of_getElem? (i := 15) (by decide +kernel)) rfl), ⟨by decide +kernel, by decide +kernel, by decide +kernel⟩, by decide⟩, (zint (List.mem_of_getElem? (i := 1037) (by decide +kernel)) rfl), (zint (List.mem_of_getElem? (i := 1038) (by decide +kernel)) rfl)⟩
theorem lw_l41 : zCV R_law 41 yX7_text cX7_text 1 (some .int) 0 := ⟨⟨(zint (List.mem_of_getElem? (i := 554) (by decide +kernel)) rfl), (zint (List.mem_of_getElem? (i := 557) (by decide +kernel)) rfl), (zint (List.mem_of_getElem? (i := 1) (by decide +kernel)) rfl), ⟨by decide +kernel, by decide +kernel, by decide +kernel⟩, by decide⟩, (zint (List.mem_of_getElem? (i := 555) (by decide +kernel)) rfl), (zint (List.mem_of_getElem? (i := 556) (by decide +kernel)) rfl)⟩
theorem lw_l45 : zCV R_law 45 yX8_text cX8_text 2 (some .int) 0 := ⟨⟨(zint (List.mem_of_getElem? (i := 1041) (by decide +kernel)) rfl), (zint (List.mem_of_getElem? (i := 1044) (by decide +kernel)) rfl), (zint (List.mem_of_getElem? (i := 15) (by decide +kernel)) rfl), ⟨by decide +kernel, by decide +kernel, by decide +kernel⟩, by decide⟩, (zint (List.mem_of_getElem? (i := 1042) (by decide +kernel)) rfl), (zint (List.mem_of_getElem? (i := 1043) (by decide +kernel)) rfl)⟩
theorem lw_l46 : zCV R_law 46 yX7_force cX7_force 3 (some .int) 1 := ⟨⟨(zint (List.mem_of_getElem? (i := 558) (by decide +kernel)) rfl), (zint (List.mem_of_getElem? (i := 561) (by decide +kernel)) rfl), (zint (List.mem_of_getElem? (i := 1) (by decide +kernel)) rfl), ⟨by decide +kernel, by decide +kernel, by decide +kernel⟩, by decide⟩, (zint (List.mem_of_getElem? (i := 559) (by decide +kernel)) rfl), (zint (List.mem_of_getElem? (i := 560) (by decide +kernel)) rfl)⟩
theorem lw_l49 : zCV R_law 49 yX8_force cX8_force 3 (some .int) 1 := ⟨⟨(zint (List.mem_of_getElem? (i := 1236) (by decide +kernel)) rfl), (zint (List.mem_of_getElem? (i := 1239) (by decide +kernel)) rfl), (zint (List.mem_of_getElem? (i := 15) (by decide +kernel)) rfl), ⟨by decide +kernel, by decide +kernel, by decide +kernel⟩, by decide⟩, (zint (List.mem_of_getElem? (i := 1237) (by decide +kernel)) rfl), (zint (List.mem_of_getElem? (i := 1238) (by decide +kernel)) rfl)⟩
theorem lw_l50 : zCV R_law 50 yX7_up cX7_up 4 (some .int) 2 := ⟨⟨(zint (List.mem_of_getElem? (i := 562) (by decide +kernel)) rfl), (zint (List.mem_of_getElem? (i := 565) (by decide +kernel)) rfl), (zint (List.mem_of_getElem? (i := 1) (by decide +kernel)) rfl), ⟨by decide +kernel, by decide +kernel, by decide +kernel⟩, by decide⟩, (zint (List.mem_of_getElem? (i := 563) (by decide +kernel)) rfl), (zint (List.mem_of_getElem? (i := 564) (by decide +kernel)) rfl)⟩
theorem lw_l53 : zCV R_law 53 yX8_up cX8_up 4 (some .int) 2 := ⟨⟨(zint (List.mem_of_getElem? (i := 1263) (by decide +kernel)) rfl), (zint (List.mem_of_getElem? (i := 1266) (by decide +kernel)) rfl), (zint (List.mem_of_getElem? (i := 15) (by decide +kernel)) rfl), ⟨by decide +kernel, by decide +kernel, by decide +kernel⟩, by decide⟩, (zint (List.mem_of_getElem? (i := 1264) (by decide +kernel)) rfl), (zint (List.mem_of_getElem? (i := 1265) (by decide +kernel)) rfl)⟩
theorem lw_l54 : zCV R_law 54 yX7_at cX7_at 2 (some .int) 1 := ⟨⟨(zint (List.mem_of_getElem? (i := 566) (by decide +kernel)) rfl), (zint (List.mem_of_getElem? (i := 569) (by decide +kernel)) rfl), (zint (List.mem_of_getElem? (i := 1) (by decide +kernel)) rfl), ⟨by decide +kernel, by decide +kernel, by decide +kernel⟩, by decide⟩, (zint (List.mem_of_getElem? (i := 567) (by decide +kernel)) rfl), (zint (List.mem_of_getElem? (i := 568) (by decide +kernel)) rfl)⟩
theorem lw_l57 : zCV R_law 57 yX8_at cX8_at 2 (some .int) 1 := ⟨⟨(zint (List.mem_of_getElem? (i := 1267) (by decide +kernel)) rfl), (zint (List.mem_of_getElem? (i := 1270) (by decide +kernel)) rfl), (zint (List.mem_of_getElem? (i := 15) (by decide +kernel)) rfl), ⟨by decide +kernel, by decide +kernel, by decide +kernel⟩, by decide⟩, (zint (List.mem_of_getElem? (i := 1268) (by decide +kernel)) rfl), (zint (List.mem_of_getElem? (i := 1269) (by decide +kernel)) rfl)⟩
theorem lw_l58 : zCV R_law 58 yX7_plan cX7_plan 2 (some .int) 1 := ⟨⟨(zint (List.mem_of_getElem? (i := 570) (by decide +kernel)) rfl), (zint (List.mem_of_getElem? (i := 573) (by decide +kernel)) rfl), (zint (List.mem_of_getElem? (i := 1) (by decide +kernel)) rfl), ⟨by decide +kernel, by decide +kernel, by decide +kernel⟩, by decide⟩, (zint (List.mem_of_getElem? (i := 571) (by decide +kernel)) rfl), (zint (List.mem_of_getElem? (i := 572) (by decide +kernel)) rfl)⟩
theorem lw_l61 : zCV R_law 61 yX8_plan cX8_plan 2 (some .int) 1 := ⟨⟨(zint (List.mem_of_getElem? (i := 1271) (by decide +kernel)) rfl), (zint (List.mem_of_getElem? (i := 1274) (by decide +kernel)) rfl), (zint (List.mem_of_getElem? (i := 15) (by decide +kernel)) rfl), ⟨by decide +kernel, by decide +kernel, by decide +kernel⟩, by decide⟩, (zint (List.mem_of_getElem? (i := 1272) (by decide +kernel)) rfl), (zint (List.mem_of_getElem? (i := 1273) (by decide +kernel)) rfl)⟩
theorem lw_l62 : zCV R_law 62 yX7_least cX7_least 2 (some .int) 1 := ⟨⟨(zint (List.mem_of_getElem? (i := 603) (by decide +kernel)) rfl), (zint (List.mem_of_getElem? (i := 606) (by decide +kernel)) rfl), (zint (List.mem_of_getElem? (i := 1) (by decide +kernel)) rfl), ⟨by decide +kernel, by decide +kernel, by decide +kernel⟩, by decide⟩, (zint (List.mem_of_getElem? (i := 604) (by decide +kernel)) rfl), (zint (List.mem_of_getElem? (i := 605) (by decide +kernel)) rfl)⟩
theorem lw_l65 : zCV R_law 65 yX8_least cX8_least 3 (some .int) 1 := ⟨⟨(zint (List.mem_of_getElem? (i := 1300) (by decide +kernel)) rfl), (zint (List.mem_of_getElem? (i := 1303) (by decide +kernel)) rfl), (zint (List.mem_of_getElem? (i := 15) (by decide +kernel)) rfl), ⟨by decide +kernel, by decide +kernel, by decide +kernel⟩, by decide⟩, (zint (List.mem_of_getElem? (i := 1301) (by decide +kernel)) rfl), (zint (List.mem_of_getElem? (i := 1302) (by decide +kernel)) rfl)⟩
theorem lw_l66 : zCV R_law 66 yX7_lay cX7_lay 1 (some .int) 0 := ⟨⟨(zint (List.mem_of_getElem? (i := 667) (by decide +kernel)) rfl), (zint (List.mem_of_getElem? (i := 670) (by decide +kernel)) rfl), (zint (List.mem_of_getElem? (i := 1) (by decide +kernel)) rfl), ⟨by decide +kernel, by decide +kernel, by decide +kernel⟩, by decide⟩, (zint (List.mem_of_getElem? (i := 668) (by decide +kernel)) rfl), (zint (List.mem_of_getElem? (i := 669) (by decide +kernel)) rfl)⟩
theorem lw_l69 : zCV R_law 69 yX8_lay cX8_lay 3 (some .int) 0 := ⟨⟨(zint (List.mem_of_getElem? (i := 1338) (by decide +kernel)) rfl), (zint (List.mem_of_getElem? (i := 1341) (by decide +kernel)) rfl), (zint (List.mem_of_getElem? (i := 15) (by decide +kernel)) rfl), ⟨by decide +kernel, by decide +kernel, by decide +kernel⟩, by decide⟩, (zint (List.mem_of_getElem? (i := 1339) (by decide +kernel)) rfl), (zint (List.mem_of_getElem? (i := 1340) (by decide +kernel)) rfl)⟩
theorem lw_l70 : zCV R_law 70 yX7_fewest cX7_fewest 1 (some .int) 0 := ⟨⟨(zint (List.mem_of_getElem? (i := 674) (by decide +kernel)) rfl), (zint (List.mem_of_getElem? (i := 677) (by decide +kernel)) rfl), (zint (List.mem_of_getElem? (i := 1) (by decide +kernel)) rfl), ⟨by decide +kernel, by decide +kernel, by decide +kernel⟩, by decide⟩, (zint (List.mem_of_getElem? (i := 675) (by decide +kernel)) rfl), (zint (List.mem_of_getElem? (i := 676) (by decide +kernel)) rfl)⟩
theorem lw_l73 : zCV R_law 73 yX8_fewest cX8_fewest 2 (some .int) 0 := ⟨⟨(zint (List.mem_of_getElem? (i := 1342) (by decide +kernel)) rfl), (zint (List.mem_of_getElem? (i := 1345) (by decide +kernel)) rfl), (zint (List.mem_of_getElem? (i := 15) (by decide +kernel)) rfl), ⟨by decide +kernel, by decide +kernel, by decide +kernel⟩, by decide⟩, (zint (List.mem_of_getElem? (i := 1343) (by decide +kernel)) rfl), (zint (List.mem_of_getElem? (i := 1344) (by decide +kernel)) rfl)⟩
theorem lw_l74 : zCV R_law 74 yX7_run cX7_run 3 (some .int) 2 := ⟨⟨(zint (List.mem_of_getElem? (i := 687) (by decide +kernel)) rfl), (zint (List.mem_of_getElem? (i := 690) (by decide +kernel)) rfl), (zint (List.mem_of_getElem? (i := 1) (by decide +kernel)) rfl), ⟨by decide +kernel, by decide +kernel, by decide +kernel⟩, by decide⟩, (zint (List.mem_of_getElem? (i := 688) (by decide +kernel)) rfl), (zint (List.mem_of_getElem? (i := 689) (by decide +kernel)) rfl)⟩
theorem lw_l77 : zCV R_law 77 yX8_run cX8_run 3 (some .int) 2 := ⟨⟨(zint (List.mem_of_getElem? (i := 1346) (by decide +kernel)) rfl), (zint (List.mem_of_getElem? (i := 1349) (by decide +kernel)) rfl), (zint (List.mem_of_getElem? (i := 15) (by decide +kernel)) rfl), ⟨by decide +kernel, by decide +kernel, by decide +kernel⟩, by decide⟩, (zint (List.mem_of_getElem? (i := 1347) (by decide +kernel)) rfl), (zint (List.mem_of_getElem? (i := 1348) (by decide +kernel)) rfl)⟩
theorem lw_l78 : zCV R_law 78 yX7_follow cX7_follow 2 (some .int) 1 := ⟨⟨(zint (List.mem_of_getElem? (i := 725) (by decide +kernel)) rfl), (zint (List.mem_of_getElem? (i := 728) (by decide +kernel)) rfl), (zint (List.mem_of_getElem? (i := 1) (by decide +kernel)) rfl), ⟨by decide +kernel, by decide +kernel, by decide +kernel⟩, by decide⟩, (zint (List.mem_of_getElem? (i := 726) (by decide +kernel)) rfl), (zint (List.mem_of_getElem? (i := 727) (by decide +kernel)) rfl)⟩
theorem lw_l81 : zCV R_law 81 yX8_follow cX8_follow 3 (some .int) 1 := ⟨⟨(zint (List.mem_of_getElem? (i := 1379) (by decide +kernel)) rfl), (zint (List.mem_of_getElem? (i := 1382) (by decide +kernel)) rfl), (zint (List.mem_of_getElem? (i := 15) (by decide +kernel)) rfl), ⟨by decide +kernel, by decide +kernel, by decide +kernel⟩, by decide⟩, (zint (List.mem_of_getElem? (i := 1380) (by decide +kernel)) rfl), (zint (List.mem_of_getElem? (i := 1381) (by decide +kernel)) rfl)⟩
theorem lw_l82 : zCV R_law 82 yX7_way cX7_way 8 (some .int) 2 := ⟨⟨(zint (List.mem_of_getElem? (i := 729) (by decide +kernel)) rfl), (zint (List.mem_of_getElem? (i := 732) (by decide +kernel)) rfl), (zint (List.mem_of_getElem? (i := 1) (by decide +kernel)) rfl), ⟨by decide +kernel, by decide +kernel, by decide +kernel⟩, by decide⟩, (zint (List.mem_of_getElem? (i := 730) (by decide +kernel)) rfl), (zint (List.mem_of_getElem? (i := 731) (by decide +kernel)) rfl)⟩
theorem lw_l85 : zCV R_law 85 yX8_way cX8_way 8 (some .int) 2 := ⟨⟨(zint (List.mem_of_getElem? (i := 1383) (by decide +kernel)) rfl), (zint (List.mem_of_getElem? (i := 1386) (by decide +kernel)) rfl), (zint (List.mem_of_getElem? (i := 15) (by decide +kernel)) rfl), ⟨by decide +kernel, by decide +kernel, by decide +kernel⟩, by decide⟩, (zint (List.mem_of_getElem? (i := 1384) (by decide +kernel)) rfl), (zint (List.mem_of_getElem? (i := 1385) (by decide +kernel)) rfl)⟩
theorem lw_l86 : zCV R_law 86 yX7_fourth cX7_fourth 4 (some .int) 1 := ⟨⟨(zint (List.mem_of_getElem? (i := 741) (by decide +kernel)) rfl), (zint (List.mem_of_getElem? (i := 744) (by decide +kernel)) rfl), (zint (List.mem_of_getElem? (i := 1) (by decide +kernel)) rfl), ⟨by decide +kernel, by decide +kernel, by decide +kernel⟩, by decide⟩, (zint (List.mem_of_getElem? (i := 742) (by decide +kernel)) rfl), (zint (List.mem_of_getElem? (i := 743) (by decide +kernel)) rfl)⟩
theorem lw_l89 : zCV R_law 89 yX8_fourth cX8_fourth 4 (some .int) 1 := ⟨⟨(zint (List.mem_of_getElem? (i := 1390) (by decide +kernel)) rfl), (zint (List.mem_of_getElem? (i := 1393) (by decide +kernel)) rfl), (zint (List.mem_of_getElem? (i := 15) (by decide +kernel)) rfl), ⟨by decide +kernel, by decide +kernel, by decide +kernel⟩, by decide⟩, (zint (List.mem_of_getElem? (i := 1391) (by decide +kernel)) rfl), (zint (List.mem_of_getElem? (i := 1392) (by decide +kernel)) rfl)⟩
theorem lw_l90 : zCV R_law 90 yX7_late cX7_late 4 (some .int) 1 := ⟨⟨(zint (List.mem_of_getElem? (i := 746) (by decide +kernel)) rfl), (zint (List.mem_of_getElem? (i := 749) (by decide +kernel)) rfl), (zint (List.mem_of_getElem? (i := 1) (by decide +kernel)) rfl), ⟨by decide +kernel, by decide +kernel, by decide +kernel⟩, by decide⟩, (zint (List.mem_of_getElem? (i := 747) (by decide +kernel)) rfl), (zint (List.mem_of_getElem? (i := 748) (by decide +kernel)) rfl)⟩
theorem lw_l93 : zCV R_law 93 yX8_late cX8_late 4 (some .int) 1 := ⟨⟨(zint (List.mem_of_getElem? (i := 1394) (by decide +kernel)) rfl), (zint (List.mem_of_getElem? (i := 1397) (by decide +kernel)) rfl), (zint (List.mem_of_getElem? (i := 15) (by decide +kernel)) rfl), ⟨by decide +kernel, by decide +kernel, by decide +kernel⟩, by decide⟩, (zint (List.mem_of_getElem? (i := 1395) (by decide +kernel)) rfl), (zint (List.mem_of_getElem? (i := 1396) (by decide +kernel)) rfl)⟩
theorem lw_l94 : zCV R_law 94 yX7_blame cX7_blame 9 (some .int) 1 := ⟨⟨(zint (List.mem_of_getElem? (i := 750) (by decide +kernel)) rfl), (zint (List.mem_of_getElem? (i := 753) (by decide +kernel)) rfl), (zint (List.mem_of_getElem? (i := 1) (by decide +kernel)) rfl), ⟨by decide +kernel, by decide +kernel, by decide +kernel⟩, by decide⟩, (zint (List.mem_of_getElem? (i := 751) (by decide +kernel)) rfl), (zint (List.mem_of_getElem? (i := 752) (by decide +kernel)) rfl)⟩
theorem lw_l97 : zCV R_law 97 yX8_blame cX8_blame 7 (some .int) 1 := ⟨⟨(zint (List.mem_of_getElem? (i := 1399) (by decide +kernel)) rfl), (zint (List.mem_of_getElem? (i := 1402) (by decide +kernel)) rfl), (zint (List.mem_of_getElem? (i := 15) (by decide +kernel)) rfl), ⟨by decide +kernel, by decide +kernel, by decide +kernel⟩, by decide⟩, (zint (List.mem_of_getElem? (i := 1400) (by decide +kernel)) rfl), (zint (List.mem_of_getElem? (i := 1401) (by decide +kernel)) rfl)⟩
theorem lw_l98 : zCV R_law 98 yX7_judge cX7_judge 3 (some .int) 1 := ⟨⟨(zint (List.mem_of_getElem? (i := 754) (by decide +kernel)) rfl), (zint (List.mem_of_getElem? (i := 757) (by decide +kernel)) rfl), (zint (List.mem_of_getElem? (i := 1) (by decide +kernel)) rfl), ⟨by decide +kernel, by decide +kernel, by decide +kernel⟩, by decide⟩, (zint (List.mem_of_getElem? (i := 755) (by decide +kernel)) rfl), (zint (List.mem_of_getElem? (i := 756) (by decide +kernel)) rfl)⟩
theorem lw_l101 : zCV R_law 101 yX8_judge cX8_judge 6 (some .int) 1 := ⟨⟨(zint (List.mem_of_getElem? (i := 1403) (by decide +kernel)) rfl), (zint (List.mem_of_getElem? (i := 1406) (by decide +kernel)) rfl), (zint (List.mem_of_getElem? (i := 15) (by decide +kernel)) rfl), ⟨by decide +kernel, by decide +kernel, by decide +kernel⟩, by decide⟩, (zint (List.mem_of_getElem? (i := 1404) (by decide +kernel)) rfl), (zint (List.mem_of_getElem? (i := 1405) (by decide +kernel)) rfl)⟩
theorem lw_l102 : zCV R_law 102 yX7_who cX7_who 5 (some .int) 1 := ⟨⟨(zint (List.mem_of_getElem? (i := 765) (by decide +kernel)) rfl), (zint (List.mem_of_getElem? (i := 768) (by decide +kernel)) rfl), (zint (List.mem_of_getElem? (i := 1) (by decide +kernel)) rfl), ⟨by decide +kernel, by decide +kernel, by decide +kernel⟩, by decide⟩, (zint (List.mem_of_getElem? (i := 766) (by decide +kernel)) rfl), (zint (List.mem_of_getElem? (i := 767) (by decide +kernel)) rfl)⟩
theorem lw_l105 : zCV R_law 105 yX8_who cX8_who 6 (some .int) 1 := ⟨⟨(zint (List.mem_of_getElem? (i := 1410) (by decide +kernel)) rfl), (zint (List.mem_of_getElem? (i := 1413) (by decide +kernel)) rfl), (zint (List.mem_of_getElem? (i := 15) (by decide +kernel)) rfl), ⟨by decide +kernel, by decide +kernel, by decide +kernel⟩, by decide⟩, (zint (List.mem_of_getElem? (i := 1411) (by decide +kernel)) rfl), (zint (List.mem_of_getElem? (i := 1412) (by decide +kernel)) rfl)⟩
theorem lw_l106 : zCV R_law 106 yX7_drawn cX7_drawn 2 (some .int) 1 := ⟨⟨(zint (List.mem_of_getElem? (i := 773) (by decide +kernel)) rfl), (zint (List.mem_of_getElem? (i := 776) (by decide +kernel)) rfl), (zint (List.mem_of_getElem? (i := 1) (by decide +kernel)) rfl), ⟨by decide +kernel, by decide +kernel, by decide +kernel⟩, by decide⟩, (zint (List.mem_of_getElem? (i := 774) (by decide +kernel)) rfl), (zint (List.mem_of_getElem? (i := 775) (by decide +kernel)) rfl)⟩
theorem lw_l109 : zCV R_law 109 yX8_drawn cX8_drawn 2 (some .int) 1 := ⟨⟨(zint (List.mem_of_getElem? (i := 1414) (by decide +kernel)) rfl), (zint (List.mem_of_getElem? (i := 1417) (by decide +kernel)) rfl), (zint (List.mem_of_getElem? (i := 15) (by decide +kernel)) rfl), ⟨by decide +kernel, by decide +kernel, by decide +kernel⟩, by decide⟩, (zint (List.mem_of_getElem? (i := 1415) (by decide +kernel)) rfl), (zint (List.mem_of_getElem? (i := 1416) (by decide +kernel)) rfl)⟩
theorem lw_l110 : zCV R_law 110 yX7_chance cX7_chance 6 (some .long) 3 := ⟨⟨(zint (List.mem_of_getElem? (i := 782) (by decide +kernel)) rfl), (zint (List.mem_of_getElem? (i := 785) (by decide +kernel)) rfl), (zint (List.mem_of_getElem? (i := 1) (by decide +kernel)) rfl), ⟨by decide +kernel, by decide +kernel, by decide +kernel⟩, by decide⟩, (zint (List.mem_of_getElem? (i := 783) (by decide +kernel)) rfl), (zint (List.mem_of_getElem? (i := 784) (by decide +kernel)) rfl)⟩
theorem lw_l114 : zCV R_law 114 yX8_chance cX8_chance 12 (some .long) 3 := ⟨⟨(zint (List.mem_of_getElem? (i := 1423) (by decide +kernel)) rfl), (zint (List.mem_of_getElem? (i := 1426) (by decide +kernel)) rfl), (zint (List.mem_of_getElem? (i := 15) (by decide +kernel)) rfl), ⟨by decide +kernel, by decide +kernel, by decide +kernel⟩, by decide⟩, (zint (List.mem_of_getElem? (i := 1424) (by decide +kernel)) rfl), (zint (List.mem_of_getElem? (i := 1425) (by decide +kernel)) rfl)⟩
theorem lw_l115 : zCV R_law 115 yX7_image cX7_image 1 (some .int) 0 := ⟨⟨(zint (List.mem_of_getElem? (i := 791) (by decide +kernel)) rfl), (zint (List.mem_of_getElem? (i := 794) (by decide +kernel)) rfl), (zint (List.mem_of_getElem? (i := 1) (by decide +kernel)) rfl), ⟨by decide +kernel, by decide +kernel, by decide +kernel⟩, by decide⟩, (zint (List.mem_of_getElem? (i := 792) (by decide +kernel)) rfl), (zint (List.mem_of_getElem? (i := 793) (by decide +kernel)) rfl)⟩
theorem lw_l118 : zCV R_law 118 yX8_image cX8_image 2 (some .int) 0 := ⟨⟨(zint (List.mem_of_getElem? (i := 1429) (by decide +kernel)) rfl), (zint (List.mem_of_getElem? (i := 1432) (by decide +kernel)) rfl), (zint (List.mem_of_getElem? (i := 15) (by decide +kernel)) rfl), ⟨by decide +kernel, by decide +kernel, by decide +kernel⟩, by decide⟩, (zint (List.mem_of_getElem? (i := 1430) (by decide +kernel)) rfl), (zint (List.mem_of_getElem? (i := 1431) (by decide +kernel)) rfl)⟩
theorem lw_l119 : zCV R_law 119 yX7_back cX7_back 1 (some .int) 0 := ⟨⟨(zint (List.mem_of_getElem? (i := 800) (by decide +kernel)) rfl), (zint (List.mem_of_getElem? (i := 803) (by decide +kernel)) rfl), (zint (List.mem_of_getElem? (i := 1) (by decide +kernel)) rfl), ⟨by decide +kernel, by decide +kernel, by decide +kernel⟩, by decide⟩, (zint (List.mem_of_getElem? (i := 801) (by decide +kernel)) rfl), (zint (List.mem_of_getElem? (i := 802) (by decide +kernel)) rfl)⟩
theorem lw_l122 : zCV R_law 122 yX8_back cX8_back 2 (some .int) 0 := ⟨⟨(zint (List.mem_of_getElem? (i := 1433) (by decide +kernel)) rfl), (zint (List.mem_of_getElem? (i := 1436) (by decide +kernel)) rfl), (zint (List.mem_of_getElem? (i := 15) (by decide +kernel)) rfl), ⟨by decide +kernel, by decide +kernel, by decide +kernel⟩, by decide⟩, (zint (List.mem_of_getElem? (i := 1434) (by decide +kernel)) rfl), (zint (List.mem_of_getElem? (i := 1435) (by decide +kernel)) rfl)⟩
theorem lw_l123 : zCV R_law 123 yX7_count cX7_count 2 (some .int) 1 := ⟨⟨(zint (List.mem_of_getElem? (i := 804) (by decide +kernel)) rfl), (zint (List.mem_of_getElem? (i := 807) (by decide +kernel)) rfl), (zint (List.mem_of_getElem? (i := 1) (by decide +kernel)) rfl), ⟨by decide +kernel, by decide +kernel, by decide +kernel⟩, by decide⟩, (zint (List.mem_of_getElem? (i := 805) (by decide +kernel)) rfl), (zint (List.mem_of_getElem? (i := 806) (by decide +kernel)) rfl)⟩
theorem lw_l126 : zCV R_law 126 yX8_count cX8_count 2 (some .int) 1 := ⟨⟨(zint (List.mem_of_getElem? (i := 1437) (by decide +kernel)) rfl), (zint (List.mem_of_getElem? (i := 1440) (by decide +kernel)) rfl), (zint (List.mem_of_getElem? (i := 15) (by decide +kernel)) rfl), ⟨by decide +kernel, by decide +kernel, by decide +kernel⟩, by decide⟩, (zint (List.mem_of_getElem? (i := 1438) (by decide +kernel)) rfl), (zint (List.mem_of_getElem? (i := 1439) (by decide +kernel)) rfl)⟩
theorem lw_l127 : zCV R_law 127 yX7_sheet cX7_sheet 4 (some .int) 3 := ⟨⟨(zint (List.mem_of_getElem? (i := 808) (by decide +kernel)) rfl), (zint (List.mem_of_getElem? (i := 811) (by decide +kernel)) rfl), (zint (List.mem_of_getElem? (i := 1) (by decide +kernel)) rfl), ⟨by decide +kernel, by decide +kernel, by decide +kernel⟩, by decide⟩, (zint (List.mem_of_getElem? (i := 809) (by decide +kernel)) rfl), (zint (List.mem_of_getElem? (i := 810) (by decide +kernel)) rfl)⟩
theorem lw_l130 : zCV R_law 130 yX8_sheet cX8_sheet 5 (some .int) 3 := ⟨⟨(zint (List.mem_of_getElem? (i := 1442) (by decide +kernel)) rfl), (zint (List.mem_of_getElem? (i := 1445) (by decide +kernel)) rfl), (zint (List.mem_of_getElem? (i := 15) (by decide +kernel)) rfl), ⟨by decide +kernel, by decide +kernel, by decide +kernel⟩, by decide⟩, (zint (List.mem_of_getElem? (i := 1443) (by decide +kernel)) rfl), (zint (List.mem_of_getElem? (i := 1444) (by decide +kernel)) rfl)⟩
theorem lw_l131 : zCV R_law 131 yX7_cell cX7_cell 5 (some .int) 3 := ⟨⟨(zint (List.mem_of_getElem? (i := 822) (by decide +kernel)) rfl), (zint (List.mem_of_getElem? (i := 825) (by decide +kernel)) rfl), (zint (List.mem_of_getElem? (i := 1) (by decide +kernel)) rfl), ⟨by decide +kernel, by decide +kernel, by decide +kernel⟩, by decide⟩, (zint (List.mem_of_getElem? (i := 823) (by decide +kernel)) rfl), (zint (List.mem_of_getElem? (i := 824) (by decide +kernel)) rfl)⟩
theorem lw_l134 : zCV R_law 134 yX8_cell cX8_cell 4 (some .int) 3 := ⟨⟨(zint (List.mem_of_getElem? (i := 1446) (by decide +kernel)) rfl), (zint (List.mem_of_getElem? (i := 1449) (by decide +kernel)) rfl), (zint (List.mem_of_getElem? (i := 15) (by decide +kernel)) rfl), ⟨by decide +kernel, by decide +kernel, by decide +kernel⟩, by decide⟩, (zint (List.mem_of_getElem? (i := 1447) (by decide +kernel)) rfl), (zint (List.mem_of_getElem? (i := 1448) (by decide +kernel)) rfl)⟩
theorem lw_l135 : zCV R_law 135 yX7_copy cX7_copy 8 (some .int) 5 := ⟨⟨(zint (List.mem_of_getElem? (i := 830) (by decide +kernel)) rfl), (zint (List.mem_of_getElem? (i := 833) (by decide +kernel)) rfl), (zint (List.mem_of_getElem? (i := 1) (by decide +kernel)) rfl), ⟨by decide +kernel, by decide +kernel, by decide +kernel⟩, by decide⟩, (zint (List.mem_of_getElem? (i := 831) (by decide +kernel)) rfl), (zint (List.mem_of_getElem? (i := 832) (by decide +kernel)) rfl)⟩
theorem lw_l139 : zCV R_law 139 yX8_copy cX8_copy 9 (some .int) 5 := ⟨⟨(zint (List.mem_of_getElem? (i := 1450) (by decide +kernel)) rfl), (zint (List.mem_of_getElem? (i := 1453) (by decide +kernel)) rfl), (zint (List.mem_of_getElem? (i := 15) (by decide +kernel)) rfl), ⟨by decide +kernel, by decide +kernel, by decide +kernel⟩, by decide⟩, (zint (List.mem_of_getElem? (i := 1451) (by decide +kernel)) rfl), (zint (List.mem_of_getElem? (i := 1452) (by decide +kernel)) rfl)⟩
theorem lw_l140 : zCV R_law 140 yX7_comes cX7_comes 9 (some .int) 4 := ⟨⟨(zint (List.mem_of_getElem? (i := 834) (by decide +kernel)) rfl), (zint (List.mem_of_getElem? (i := 837) (by decide +kernel)) rfl), (zint (List.mem_of_getElem? (i := 1) (by decide +kernel)) rfl), ⟨by decide +kernel, by decide +kernel, by decide +kernel⟩, by decide⟩, (zint (List.mem_of_getElem? (i := 835) (by decide +kernel)) rfl), (zint (List.mem_of_getElem? (i := 836) (by decide +kernel)) rfl)⟩
theorem lw_l143 : zCV R_law 143 yX8_comes cX8_comes 8 (some .int) 4 := ⟨⟨(zint (List.mem_of_getElem? (i := 1454) (by decide +kernel)) rfl), (zint (List.mem_of_getElem? (i := 1457) (by decide +kernel)) rfl), (zint (List.mem_of_getElem? (i := 15) (by decide +kernel)) rfl), ⟨by decide +kernel, by decide +kernel, by decide +kernel⟩, by decide⟩, (zint (List.mem_of_getElem? (i := 1455) (by decide +kernel)) rfl), (zint (List.mem_of_getElem? (i := 1456) (by decide +kernel)) rfl)⟩
theorem lw_l144 : zCV R_law 144 yX7_taken cX7_taken 5 (some .int) 2 := ⟨⟨(zint (List.mem_of_getElem? (i := 839) (by decide +kernel)) rfl), (zint (List.mem_of_getElem? (i := 842) (by decide +kernel)) rfl), (zint (List.mem_of_getElem? (i := 1) (by decide +kernel)) rfl), ⟨by decide +kernel, by decide +kernel, by decide +kernel⟩, by decide⟩, (zint (List.mem_of_getElem? (i := 840) (by decide +kernel)) rfl), (zint (List.mem_of_getElem? (i := 841) (by decide +kernel)) rfl)⟩
theorem lw_l147 : zCV R_law 147 yX8_taken cX8_taken 4 (some .int) 2 := ⟨⟨(zint (List.mem_of_getElem? (i := 1460) (by decide +kernel)) rfl), (zint (List.mem_of_getElem? (i := 1463) (by decide +kernel)) rfl), (zint (List.mem_of_getElem? (i := 15) (by decide +kernel)) rfl), ⟨by decide +kernel, by decide +kernel, by decide +kernel⟩, by decide⟩, (zint (List.mem_of_getElem? (i := 1461) (by decide +kernel)) rfl), (zint (List.mem_of_getElem? (i := 1462) (by decide +kernel)) rfl)⟩
section zCases
variable {p : Program} {l : Launch} {e : Env} {s : State} {m : MethodId} {below : List Frame} {meth : Method} {c : Code} {b L : Nat} {xs : Nat → Int32} {D : va_G} {cA : Nat → ClassId} {y : zX} {adX adM : Nat → Nat} {i : Nat}
set_option maxRecDepth 20000 in
theorem lc_0 (M : zLM p s m c b L xs D cA y adX adM) (hi : i + 6 ≤ L) {A : zA} {σx σm : zSt} (hx : RX A σx) (hm : RM A σm) (next : ∀ A' σx' σm', RX A' σx' → RM A' σm' → zL p l e s m below meth c b D cA adX adM 1133 [(0, .ref b), (1, .ref (adX 0)), (2, .ref (adM 0)), (3, .int (nI i))] [] σx' σm') : zL p l e s m below meth c b D cA adX adM 176 [(0, .ref b), (1, .ref (adX 0)), (2, .ref (adM 0)), (3, .int (nI i))] [] σx σm := by
  refine zl_aload M 1 dL_law_176 rfl rfl ?_
  refine zl_arg (kk := 1) M 3 rfl rfl dL_law_177 dL_law_178 dL_law_179 dL_law_180 dL_law_181 (by decide) (by omega) ?_
  refine zl_arg (kk := 2) M 3 rfl rfl dL_law_182 dL_law_183 dL_law_184 dL_law_185 dL_law_186 (by decide) (by omega) ?_
  refine zl_arg (kk := 3) M 3 rfl rfl dL_law_187 dL_law_188 dL_law_189 dL_law_190 dL_law_191 (by decide) (by omega) ?_
  refine zl_callXI (d' := 4) (As := [.int (xs (i + 1)), .int (xs (i + 2)), .int (xs (i + 3))]) (rest := []) (Q' := fun r σ' => r = (s_come A (xs (i + 1)) (xs (i + 2)) (xs (i + 3))).1 ∧ RX (s_come A (xs (i + 1)) (xs (i + 2)) (xs (i + 3))).2 σ') M lw_l13 rfl dL_law_192 rfl rfl (by decide) (Nat.le_of_ble_eq_true rfl) (kX7_come M.2.2.2.2.2.2.2.1.1 (xs (i + 1)) (xs (i + 2)) (xs (i + 3)) σx _ (x_come hx (xs (i + 1)) (xs (i + 2)) (xs (i + 3)) _ (fun σ' h' => ⟨rfl, h'⟩))) (fun r σ' hr => ?_)
  obtain ⟨rfl, hx'⟩ := hr
  refine zl_aload M 2 dL_law_195 rfl rfl ?_
  refine zl_arg (kk := 1) M 3 rfl rfl dL_law_196 dL_law_197 dL_law_198 dL_law_199 dL_law_200 (by decide) (by omega) ?_
  refine zl_arg (kk := 2) M 3 rfl rfl dL_law_201 dL_law_202 dL_law_203 dL_law_204 dL_law_205 (by decide) (by omega) ?_
  refine zl_arg (kk := 3) M 3 rfl rfl dL_law_206 dL_law_207 dL_law_208 dL_law_209 dL_law_210 (by decide) (by omega) ?_
  refine zl_callMI (d' := 2) (As := [.int (xs (i + 1)), .int (xs (i + 2)), .int (xs (i + 3))]) (rest := [.int (s_come A (xs (i + 1)) (xs (i + 2)) (xs (i + 3))).1]) (Q' := fun r σ2 => r = (s_come A (xs (i + 1)) (xs (i + 2)) (xs (i + 3))).1 ∧ RM (s_come A (xs (i + 1)) (xs (i + 2)) (xs (i + 3))).2 σ2) M lw_l17 rfl dL_law_211 rfl rfl (by decide) (Nat.le_of_ble_eq_true rfl) (kX8_come M.2.2.2.2.2.2.2.1.2 (xs (i + 1)) (xs (i + 2)) (xs (i + 3)) σm _ (m_come hx.1 hm (xs (i + 1)) (xs (i + 2)) (xs (i + 3)) _ (fun σ2 h2 => ⟨rfl, h2⟩))) (fun r σ2 hr => ?_)
  obtain ⟨rfl, hm'⟩ := hr
  refine zl_eq M 1133 dL_law_214 (by decide) ?_
  exact next _ _ _ hx' hm'
set_option maxRecDepth 20000 in
theorem lc_1 (M : zLM p s m c b L xs D cA y adX adM) (hi : i + 6 ≤ L) {A : zA} {σx σm : zSt} (hx : RX A σx) (hm : RM A σm) (next : ∀ A' σx' σm', RX A' σx' → RM A' σm' → zL p l e s m below meth c b D cA adX adM 1133 [(0, .ref b), (1, .ref (adX 0)), (2, .ref (adM 0)), (3, .int (nI i))] [] σx' σm') : zL p l e s m below meth c b D cA adX adM 219 [(0, .ref b), (1, .ref (adX 0)), (2, .ref (adM 0)), (3, .int (nI i))] [] σx σm := by
  refine zl_aload M 1 dL_law_219 rfl rfl ?_
  refine zl_arg (kk := 1) M 3 rfl rfl dL_law_220 dL_law_221 dL_law_222 dL_law_223 dL_law_224 (by decide) (by omega) ?_
  refine zl_arg (kk := 2) M 3 rfl rfl dL_law_225 dL_law_226 dL_law_227 dL_law_228 dL_law_229 (by decide) (by omega) ?_
  refine zl_arg (kk := 3) M 3 rfl rfl dL_law_230 dL_law_231 dL_law_232 dL_law_233 dL_law_234 (by decide) (by omega) ?_
  refine zl_arg (kk := 4) M 3 rfl rfl dL_law_235 dL_law_236 dL_law_237 dL_law_238 dL_law_239 (by decide) (by omega) ?_
  refine zl_callXI (d' := 5) (As := [.int (xs (i + 1)), .int (xs (i + 2)), .int (xs (i + 3)), .int (xs (i + 4))]) (rest := []) (Q' := fun r σ' => r = (s_set A (xs (i + 1)) (xs (i + 2)) (xs (i + 3)) (xs (i + 4))).1 ∧ RX (s_set A (xs (i + 1)) (xs (i + 2)) (xs (i + 3)) (xs (i + 4))).2 σ') M lw_l18 rfl dL_law_240 rfl rfl (by decide) (Nat.le_of_ble_eq_true rfl) (kX7_set M.2.2.2.2.2.2.2.1.1 (xs (i + 1)) (xs (i + 2)) (xs (i + 3)) (xs (i + 4)) σx _ (x_set hx (xs (i + 1)) (xs (i + 2)) (xs (i + 3)) (xs (i + 4)) _ (fun σ' h' => ⟨rfl, h'⟩))) (fun r σ' hr => ?_)
  obtain ⟨rfl, hx'⟩ := hr
  refine zl_aload M 2 dL_law_243 rfl rfl ?_
  refine zl_arg (kk := 1) M 3 rfl rfl dL_law_244 dL_law_245 dL_law_246 dL_law_247 dL_law_248 (by decide) (by omega) ?_
  refine zl_arg (kk := 2) M 3 rfl rfl dL_law_249 dL_law_250 dL_law_251 dL_law_252 dL_law_253 (by decide) (by omega) ?_
  refine zl_arg (kk := 3) M 3 rfl rfl dL_law_254 dL_law_255 dL_law_256 dL_law_257 dL_law_258 (by decide) (by omega) ?_
  refine zl_arg (kk := 4) M 3 rfl rfl dL_law_259 dL_law_260 dL_law_261 dL_law_262 dL_law_263 (by decide) (by omega) ?_
  refine zl_callMI (d' := 3) (As := [.int (xs (i + 1)), .int (xs (i + 2)), .int (xs (i + 3)), .int (xs (i + 4))]) (rest := [.int (s_set A (xs (i + 1)) (xs (i + 2)) (xs (i + 3)) (xs (i + 4))).1]) (Q' := fun r σ2 => r = (s_set A (xs (i + 1)) (xs (i + 2)) (xs (i + 3)) (xs (i + 4))).1 ∧ RM (s_set A (xs (i + 1)) (xs (i + 2)) (xs (i + 3)) (xs (i + 4))).2 σ2) M lw_l22 rfl dL_law_264 rfl rfl (by decide) (Nat.le_of_ble_eq_true rfl) (kX8_set M.2.2.2.2.2.2.2.1.2 (xs (i + 1)) (xs (i + 2)) (xs (i + 3)) (xs (i + 4)) σm _ (m_set hx.1 hm (xs (i + 1)) (xs (i + 2)) (xs (i + 3)) (xs (i + 4)) _ (fun σ2 h2 => ⟨rfl, h2⟩))) (fun r σ2 hr => ?_)
  obtain ⟨rfl, hm'⟩ := hr
  refine zl_eq M 1133 dL_law_267 (by decide) ?_
  exact next _ _ _ hx' hm'
set_option maxRecDepth 20000 in
theorem lc_2 (M : zLM p s m c b L xs D cA y adX adM) (hi : i + 6 ≤ L) {A : zA} {σx σm : zSt} (hx : RX A σx) (hm : RM A σm) (next : ∀ A' σx' σm', RX A' σx' → RM A' σm' → zL p l e s m below meth c b D cA adX adM 1133 [(0, .ref b), (1, .ref (adX 0)), (2, .ref (adM 0)), (3, .int (nI i))] [] σx' σm') : zL p l e s m below meth c b D cA adX adM 272 [(0, .ref b), (1, .ref (adX 0)), (2, .ref (adM 0)), (3, .int (nI i))] [] σx σm := by
  refine zl_aload M 1 dL_law_272 rfl rfl ?_
  refine zl_arg (kk := 1) M 3 rfl rfl dL_law_273 dL_law_274 dL_law_275 dL_law_276 dL_law_277 (by decide) (by omega) ?_
  refine zl_arg (kk := 2) M 3 rfl rfl dL_law_278 dL_law_279 dL_law_280 dL_law_281 dL_law_282 (by decide) (by omega) ?_
  refine zl_arg (kk := 3) M 3 rfl rfl dL_law_283 dL_law_284 dL_law_285 dL_law_286 dL_law_287 (by decide) (by omega) ?_
  refine zl_callXI (d' := 4) (As := [.int (xs (i + 1)), .int (xs (i + 2)), .int (xs (i + 3))]) (rest := []) (Q' := fun r σ' => r = (s_law A (xs (i + 1)) (xs (i + 2)) (xs (i + 3))).1 ∧ RX (s_law A (xs (i + 1)) (xs (i + 2)) (xs (i + 3))).2 σ') M lw_l23 rfl dL_law_288 rfl rfl (by decide) (Nat.le_of_ble_eq_true rfl) (kX7_law M.2.2.2.2.2.2.2.1.1 (xs (i + 1)) (xs (i + 2)) (xs (i + 3)) σx _ (x_law hx (xs (i + 1)) (xs (i + 2)) (xs (i + 3)) _ (fun σ' h' => ⟨rfl, h'⟩))) (fun r σ' hr => ?_)
  obtain ⟨rfl, hx'⟩ := hr
  refine zl_aload M 2 dL_law_291 rfl rfl ?_
  refine zl_arg (kk := 1) M 3 rfl rfl dL_law_292 dL_law_293 dL_law_294 dL_law_295 dL_law_296 (by decide) (by omega) ?_
  refine zl_arg (kk := 2) M 3 rfl rfl dL_law_297 dL_law_298 dL_law_299 dL_law_300 dL_law_301 (by decide) (by omega) ?_
  refine zl_arg (kk := 3) M 3 rfl rfl dL_law_302 dL_law_303 dL_law_304 dL_law_305 dL_law_306 (by decide) (by omega) ?_
  refine zl_callMI (d' := 2) (As := [.int (xs (i + 1)), .int (xs (i + 2)), .int (xs (i + 3))]) (rest := [.int (s_law A (xs (i + 1)) (xs (i + 2)) (xs (i + 3))).1]) (Q' := fun r σ2 => r = (s_law A (xs (i + 1)) (xs (i + 2)) (xs (i + 3))).1 ∧ RM (s_law A (xs (i + 1)) (xs (i + 2)) (xs (i + 3))).2 σ2) M lw_l26 rfl dL_law_307 rfl rfl (by decide) (Nat.le_of_ble_eq_true rfl) (kX8_law M.2.2.2.2.2.2.2.1.2 (xs (i + 1)) (xs (i + 2)) (xs (i + 3)) σm _ (m_law hx.1 hm (xs (i + 1)) (xs (i + 2)) (xs (i + 3)) _ (fun σ2 h2 => ⟨rfl, h2⟩))) (fun r σ2 hr => ?_)
  obtain ⟨rfl, hm'⟩ := hr
  refine zl_eq M 1133 dL_law_310 (by decide) ?_
  exact next _ _ _ hx' hm'
set_option maxRecDepth 20000 in
theorem lc_3 (M : zLM p s m c b L xs D cA y adX adM) (hi : i + 6 ≤ L) {A : zA} {σx σm : zSt} (hx : RX A σx) (hm : RM A σm) (next : ∀ A' σx' σm', RX A' σx' → RM A' σm' → zL p l e s m below meth c b D cA adX adM 1133 [(0, .ref b), (1, .ref (adX 0)), (2, .ref (adM 0)), (3, .int (nI i))] [] σx' σm') : zL p l e s m below meth c b D cA adX adM 315 [(0, .ref b), (1, .ref (adX 0)), (2, .ref (adM 0)), (3, .int (nI i))] [] σx σm := by
  refine zl_aload M 1 dL_law_315 rfl rfl ?_
  refine zl_arg (kk := 1) M 3 rfl rfl dL_law_316 dL_law_317 dL_law_318 dL_law_319 dL_law_320 (by decide) (by omega) ?_
  refine zl_arg (kk := 2) M 3 rfl rfl dL_law_321 dL_law_322 dL_law_323 dL_law_324 dL_law_325 (by decide) (by omega) ?_
  refine zl_arg (kk := 3) M 3 rfl rfl dL_law_326 dL_law_327 dL_law_328 dL_law_329 dL_law_330 (by decide) (by omega) ?_
  refine zl_callXI (d' := 5) (As := [.int (xs (i + 1)), .int (xs (i + 2)), .int (xs (i + 3))]) (rest := []) (Q' := fun r σ' => r = (s_told A (xs (i + 1)) (xs (i + 2)) (xs (i + 3))).1 ∧ RX (s_told A (xs (i + 1)) (xs (i + 2)) (xs (i + 3))).2 σ') M lw_l27 rfl dL_law_331 rfl rfl (by decide) (Nat.le_of_ble_eq_true rfl) (kX7_told M.2.2.2.2.2.2.2.1.1 (xs (i + 1)) (xs (i + 2)) (xs (i + 3)) σx _ (x_told hx (xs (i + 1)) (xs (i + 2)) (xs (i + 3)) _ (fun σ' h' => ⟨rfl, h'⟩))) (fun r σ' hr => ?_)
  obtain ⟨rfl, hx'⟩ := hr
  refine zl_aload M 2 dL_law_334 rfl rfl ?_
  refine zl_arg (kk := 1) M 3 rfl rfl dL_law_335 dL_law_336 dL_law_337 dL_law_338 dL_law_339 (by decide) (by omega) ?_
  refine zl_arg (kk := 2) M 3 rfl rfl dL_law_340 dL_law_341 dL_law_342 dL_law_343 dL_law_344 (by decide) (by omega) ?_
  refine zl_arg (kk := 3) M 3 rfl rfl dL_law_345 dL_law_346 dL_law_347 dL_law_348 dL_law_349 (by decide) (by omega) ?_
  refine zl_callMI (d' := 44) (As := [.int (xs (i + 1)), .int (xs (i + 2)), .int (xs (i + 3))]) (rest := [.int (s_told A (xs (i + 1)) (xs (i + 2)) (xs (i + 3))).1]) (Q' := fun r σ2 => r = (s_told A (xs (i + 1)) (xs (i + 2)) (xs (i + 3))).1 ∧ RM (s_told A (xs (i + 1)) (xs (i + 2)) (xs (i + 3))).2 σ2) M lw_l30 rfl dL_law_350 rfl rfl (by decide) (Nat.le_of_ble_eq_true rfl) (kX8_told M.2.2.2.2.2.2.2.1.2 (xs (i + 1)) (xs (i + 2)) (xs (i + 3)) σm _ (m_told hx.1 hm (xs (i + 1)) (xs (i + 2)) (xs (i + 3)) _ (fun σ2 h2 => ⟨rfl, h2⟩))) (fun r σ2 hr => ?_)
  obtain ⟨rfl, hm'⟩ := hr
  refine zl_eq M 1133 dL_law_353 (by decide) ?_
  exact next _ _ _ hx' hm'
set_option maxRecDepth 20000 in
theorem lc_4 (M : zLM p s m c b L xs D cA y adX adM) (hi : i + 6 ≤ L) {A : zA} {σx σm : zSt} (hx : RX A σx) (hm : RM A σm) (next : ∀ A' σx' σm', RX A' σx' → RM A' σm' → zL p l e s m below meth c b D cA adX adM 1133 [(0, .ref b), (1, .ref (adX 0)), (2, .ref (adM 0)), (3, .int (nI i))] [] σx' σm') : zL p l e s m below meth c b D cA adX adM 358 [(0, .ref b), (1, .ref (adX 0)), (2, .ref (adM 0)), (3, .int (nI i))] [] σx σm := by
  refine zl_aload M 1 dL_law_358 rfl rfl ?_
  refine zl_arg (kk := 1) M 3 rfl rfl dL_law_359 dL_law_360 dL_law_361 dL_law_362 dL_law_363 (by decide) (by omega) ?_
  refine zl_arg (kk := 2) M 3 rfl rfl dL_law_364 dL_law_365 dL_law_366 dL_law_367 dL_law_368 (by decide) (by omega) ?_
  refine zl_callXI (d' := 2) (As := [.int (xs (i + 1)), .int (xs (i + 2))]) (rest := []) (Q' := fun r σ' => r = (s_master A (xs (i + 1)) (xs (i + 2))).1 ∧ RX (s_master A (xs (i + 1)) (xs (i + 2))).2 σ') M lw_l31 rfl dL_law_369 rfl rfl (by decide) (Nat.le_of_ble_eq_true rfl) (kX7_master M.2.2.2.2.2.2.2.1.1 (xs (i + 1)) (xs (i + 2)) σx _ (x_master hx (xs (i + 1)) (xs (i + 2)) _ (fun σ' h' => ⟨rfl, h'⟩))) (fun r σ' hr => ?_)
  obtain ⟨rfl, hx'⟩ := hr
  refine zl_aload M 2 dL_law_372 rfl rfl ?_
  refine zl_arg (kk := 1) M 3 rfl rfl dL_law_373 dL_law_374 dL_law_375 dL_law_376 dL_law_377 (by decide) (by omega) ?_
  refine zl_arg (kk := 2) M 3 rfl rfl dL_law_378 dL_law_379 dL_law_380 dL_law_381 dL_law_382 (by decide) (by omega) ?_
  refine zl_callMI (d' := 2) (As := [.int (xs (i + 1)), .int (xs (i + 2))]) (rest := [.int (s_master A (xs (i + 1)) (xs (i + 2))).1]) (Q' := fun r σ2 => r = (s_master A (xs (i + 1)) (xs (i + 2))).1 ∧ RM (s_master A (xs (i + 1)) (xs (i + 2))).2 σ2) M lw_l35 rfl dL_law_383 rfl rfl (by decide) (Nat.le_of_ble_eq_true rfl) (kX8_master M.2.2.2.2.2.2.2.1.2 (xs (i + 1)) (xs (i + 2)) σm _ (m_master hx.1 hm (xs (i + 1)) (xs (i + 2)) _ (fun σ2 h2 => ⟨rfl, h2⟩))) (fun r σ2 hr => ?_)
  obtain ⟨rfl, hm'⟩ := hr
  refine zl_eq M 1133 dL_law_386 (by decide) ?_
  exact next _ _ _ hx' hm'
set_option maxRecDepth 20000 in
theorem lc_5 (M : zLM p s m c b L xs D cA y adX adM) (hi : i + 6 ≤ L) {A : zA} {σx σm : zSt} (hx : RX A σx) (hm : RM A σm) (next : ∀ A' σx' σm', RX A' σx' → RM A' σm' → zL p l e s m below meth c b D cA adX adM 1133 [(0, .ref b), (1, .ref (adX 0)), (2, .ref (adM 0)), (3, .int (nI i))] [] σx' σm') : zL p l e s m below meth c b D cA adX adM 391 [(0, .ref b), (1, .ref (adX 0)), (2, .ref (adM 0)), (3, .int (nI i))] [] σx σm := by
  refine zl_aload M 1 dL_law_391 rfl rfl ?_
  refine zl_arg (kk := 1) M 3 rfl rfl dL_law_392 dL_law_393 dL_law_394 dL_law_395 dL_law_396 (by decide) (by omega) ?_
  refine zl_callXI (d' := 1) (As := [.int (xs (i + 1))]) (rest := []) (Q' := fun r σ' => r = (s_feed A (xs (i + 1))).1 ∧ RX (s_feed A (xs (i + 1))).2 σ') M lw_l36 rfl dL_law_397 rfl rfl (by decide) (Nat.le_of_ble_eq_true rfl) (kX7_feed M.2.2.2.2.2.2.2.1.1 (xs (i + 1)) σx _ (x_feed hx (xs (i + 1)) _ (fun σ' h' => ⟨rfl, h'⟩))) (fun r σ' hr => ?_)
  obtain ⟨rfl, hx'⟩ := hr
  refine zl_aload M 2 dL_law_400 rfl rfl ?_
  refine zl_arg (kk := 1) M 3 rfl rfl dL_law_401 dL_law_402 dL_law_403 dL_law_404 dL_law_405 (by decide) (by omega) ?_
  refine zl_callMI (d' := 2) (As := [.int (xs (i + 1))]) (rest := [.int (s_feed A (xs (i + 1))).1]) (Q' := fun r σ2 => r = (s_feed A (xs (i + 1))).1 ∧ RM (s_feed A (xs (i + 1))).2 σ2) M lw_l40 rfl dL_law_406 rfl rfl (by decide) (Nat.le_of_ble_eq_true rfl) (kX8_feed M.2.2.2.2.2.2.2.1.2 (xs (i + 1)) σm _ (m_feed hx.1 hm (xs (i + 1)) _ (fun σ2 h2 => ⟨rfl, h2⟩))) (fun r σ2 hr => ?_)
  obtain ⟨rfl, hm'⟩ := hr
  refine zl_eq M 1133 dL_law_409 (by decide) ?_
  exact next _ _ _ hx' hm'
set_option maxRecDepth 20000 in
theorem lc_6 (M : zLM p s m c b L xs D cA y adX adM) (hi : i + 6 ≤ L) {A : zA} {σx σm : zSt} (hx : RX A σx) (hm : RM A σm) (next : ∀ A' σx' σm', RX A' σx' → RM A' σm' → zL p l e s m below meth c b D cA adX adM 1133 [(0, .ref b), (1, .ref (adX 0)), (2, .ref (adM 0)), (3, .int (nI i))] [] σx' σm') : zL p l e s m below meth c b D cA adX adM 414 [(0, .ref b), (1, .ref (adX 0)), (2, .ref (adM 0)), (3, .int (nI i))] [] σx σm := by
  refine zl_aload M 1 dL_law_414 rfl rfl ?_
  refine zl_callXI (d' := 71) (As := []) (rest := []) (Q' := fun r σ' => r = (s_text A ).1 ∧ RX (s_text A ).2 σ') M lw_l41 rfl dL_law_415 rfl rfl (by decide) (Nat.le_of_ble_eq_true rfl) (kX7_text M.2.2.2.2.2.2.2.1.1  σx _ (x_text hx  _ (fun σ' h' => ⟨rfl, h'⟩))) (fun r σ' hr => ?_)
  obtain ⟨rfl, hx'⟩ := hr
  refine zl_aload M 2 dL_law_418 rfl rfl ?_
  refine zl_callMI (d' := 43) (As := []) (rest := [.int (s_text A ).1]) (Q' := fun r σ2 => r = (s_text A ).1 ∧ RM (s_text A ).2 σ2) M lw_l45 rfl dL_law_419 rfl rfl (by decide) (Nat.le_of_ble_eq_true rfl) (kX8_text M.2.2.2.2.2.2.2.1.2  σm _ (m_text hx.1 hm  _ (fun σ2 h2 => ⟨rfl, h2⟩))) (fun r σ2 hr => ?_)
  obtain ⟨rfl, hm'⟩ := hr
  refine zl_eq M 1133 dL_law_422 (by decide) ?_
  exact next _ _ _ hx' hm'
set_option maxRecDepth 20000 in
theorem lc_7 (M : zLM p s m c b L xs D cA y adX adM) (hi : i + 6 ≤ L) {A : zA} {σx σm : zSt} (hx : RX A σx) (hm : RM A σm) (next : ∀ A' σx' σm', RX A' σx' → RM A' σm' → zL p l e s m below meth c b D cA adX adM 1133 [(0, .ref b), (1, .ref (adX 0)), (2, .ref (adM 0)), (3, .int (nI i))] [] σx' σm') : zL p l e s m below meth c b D cA adX adM 427 [(0, .ref b), (1, .ref (adX 0)), (2, .ref (adM 0)), (3, .int (nI i))] [] σx σm := by
  refine zl_aload M 1 dL_law_427 rfl rfl ?_
  refine zl_arg (kk := 1) M 3 rfl rfl dL_law_428 dL_law_429 dL_law_430 dL_law_431 dL_law_432 (by decide) (by omega) ?_
  refine zl_callXI (d' := 4) (As := [.int (xs (i + 1))]) (rest := []) (Q' := fun r σ' => r = (s_force A (xs (i + 1))).1 ∧ RX (s_force A (xs (i + 1))).2 σ') M lw_l46 rfl dL_law_433 rfl rfl (by decide) (Nat.le_of_ble_eq_true rfl) (kX7_force M.2.2.2.2.2.2.2.1.1 (xs (i + 1)) σx _ (x_force hx (xs (i + 1)) _ (fun σ' h' => ⟨rfl, h'⟩))) (fun r σ' hr => ?_)
  obtain ⟨rfl, hx'⟩ := hr
  refine zl_aload M 2 dL_law_436 rfl rfl ?_
  refine zl_arg (kk := 1) M 3 rfl rfl dL_law_437 dL_law_438 dL_law_439 dL_law_440 dL_law_441 (by decide) (by omega) ?_
  refine zl_callMI (d' := 2) (As := [.int (xs (i + 1))]) (rest := [.int (s_force A (xs (i + 1))).1]) (Q' := fun r σ2 => r = (s_force A (xs (i + 1))).1 ∧ RM (s_force A (xs (i + 1))).2 σ2) M lw_l49 rfl dL_law_442 rfl rfl (by decide) (Nat.le_of_ble_eq_true rfl) (kX8_force M.2.2.2.2.2.2.2.1.2 (xs (i + 1)) σm _ (m_force hx.1 hm (xs (i + 1)) _ (fun σ2 h2 => ⟨rfl, h2⟩))) (fun r σ2 hr => ?_)
  obtain ⟨rfl, hm'⟩ := hr
  refine zl_eq M 1133 dL_law_445 (by decide) ?_
  exact next _ _ _ hx' hm'
set_option maxRecDepth 20000 in
theorem lc_8 (M : zLM p s m c b L xs D cA y adX adM) (hi : i + 6 ≤ L) {A : zA} {σx σm : zSt} (hx : RX A σx) (hm : RM A σm) (next : ∀ A' σx' σm', RX A' σx' → RM A' σm' → zL p l e s m below meth c b D cA adX adM 1133 [(0, .ref b), (1, .ref (adX 0)), (2, .ref (adM 0)), (3, .int (nI i))] [] σx' σm') : zL p l e s m below meth c b D cA adX adM 450 [(0, .ref b), (1, .ref (adX 0)), (2, .ref (adM 0)), (3, .int (nI i))] [] σx σm := by
  refine zl_aload M 1 dL_law_450 rfl rfl ?_
  refine zl_arg (kk := 1) M 3 rfl rfl dL_law_451 dL_law_452 dL_law_453 dL_law_454 dL_law_455 (by decide) (by omega) ?_
  refine zl_arg (kk := 2) M 3 rfl rfl dL_law_456 dL_law_457 dL_law_458 dL_law_459 dL_law_460 (by decide) (by omega) ?_
  refine zl_callXI (d' := 2) (As := [.int (xs (i + 1)), .int (xs (i + 2))]) (rest := []) (Q' := fun r σ' => r = (s_up A (xs (i + 1)) (xs (i + 2))).1 ∧ RX (s_up A (xs (i + 1)) (xs (i + 2))).2 σ') M lw_l50 rfl dL_law_461 rfl rfl (by decide) (Nat.le_of_ble_eq_true rfl) (kX7_up M.2.2.2.2.2.2.2.1.1 (xs (i + 1)) (xs (i + 2)) σx _ (x_up hx (xs (i + 1)) (xs (i + 2)) _ (fun σ' h' => ⟨rfl, h'⟩))) (fun r σ' hr => ?_)
  obtain ⟨rfl, hx'⟩ := hr
  refine zl_aload M 2 dL_law_464 rfl rfl ?_
  refine zl_arg (kk := 1) M 3 rfl rfl dL_law_465 dL_law_466 dL_law_467 dL_law_468 dL_law_469 (by decide) (by omega) ?_
  refine zl_arg (kk := 2) M 3 rfl rfl dL_law_470 dL_law_471 dL_law_472 dL_law_473 dL_law_474 (by decide) (by omega) ?_
  refine zl_callMI (d' := 2) (As := [.int (xs (i + 1)), .int (xs (i + 2))]) (rest := [.int (s_up A (xs (i + 1)) (xs (i + 2))).1]) (Q' := fun r σ2 => r = (s_up A (xs (i + 1)) (xs (i + 2))).1 ∧ RM (s_up A (xs (i + 1)) (xs (i + 2))).2 σ2) M lw_l53 rfl dL_law_475 rfl rfl (by decide) (Nat.le_of_ble_eq_true rfl) (kX8_up M.2.2.2.2.2.2.2.1.2 (xs (i + 1)) (xs (i + 2)) σm _ (m_up hx.1 hm (xs (i + 1)) (xs (i + 2)) _ (fun σ2 h2 => ⟨rfl, h2⟩))) (fun r σ2 hr => ?_)
  obtain ⟨rfl, hm'⟩ := hr
  refine zl_eq M 1133 dL_law_478 (by decide) ?_
  exact next _ _ _ hx' hm'
set_option maxRecDepth 20000 in
theorem lc_9 (M : zLM p s m c b L xs D cA y adX adM) (hi : i + 6 ≤ L) {A : zA} {σx σm : zSt} (hx : RX A σx) (hm : RM A σm) (next : ∀ A' σx' σm', RX A' σx' → RM A' σm' → zL p l e s m below meth c b D cA adX adM 1133 [(0, .ref b), (1, .ref (adX 0)), (2, .ref (adM 0)), (3, .int (nI i))] [] σx' σm') : zL p l e s m below meth c b D cA adX adM 483 [(0, .ref b), (1, .ref (adX 0)), (2, .ref (adM 0)), (3, .int (nI i))] [] σx σm := by
  refine zl_aload M 1 dL_law_483 rfl rfl ?_
  refine zl_arg (kk := 1) M 3 rfl rfl dL_law_484 dL_law_485 dL_law_486 dL_law_487 dL_law_488 (by decide) (by omega) ?_
  refine zl_callXI (d' := 2) (As := [.int (xs (i + 1))]) (rest := []) (Q' := fun r σ' => r = (s_at A (xs (i + 1))).1 ∧ RX (s_at A (xs (i + 1))).2 σ') M lw_l54 rfl dL_law_489 rfl rfl (by decide) (Nat.le_of_ble_eq_true rfl) (kX7_at M.2.2.2.2.2.2.2.1.1 (xs (i + 1)) σx _ (x_at hx (xs (i + 1)) _ (fun σ' h' => ⟨rfl, h'⟩))) (fun r σ' hr => ?_)
  obtain ⟨rfl, hx'⟩ := hr
  refine zl_aload M 2 dL_law_492 rfl rfl ?_
  refine zl_arg (kk := 1) M 3 rfl rfl dL_law_493 dL_law_494 dL_law_495 dL_law_496 dL_law_497 (by decide) (by omega) ?_
  refine zl_callMI (d' := 2) (As := [.int (xs (i + 1))]) (rest := [.int (s_at A (xs (i + 1))).1]) (Q' := fun r σ2 => r = (s_at A (xs (i + 1))).1 ∧ RM (s_at A (xs (i + 1))).2 σ2) M lw_l57 rfl dL_law_498 rfl rfl (by decide) (Nat.le_of_ble_eq_true rfl) (kX8_at M.2.2.2.2.2.2.2.1.2 (xs (i + 1)) σm _ (m_at hx.1 hm (xs (i + 1)) _ (fun σ2 h2 => ⟨rfl, h2⟩))) (fun r σ2 hr => ?_)
  obtain ⟨rfl, hm'⟩ := hr
  refine zl_eq M 1133 dL_law_501 (by decide) ?_
  exact next _ _ _ hx' hm'
set_option maxRecDepth 20000 in
theorem lc_10 (M : zLM p s m c b L xs D cA y adX adM) (hi : i + 6 ≤ L) {A : zA} {σx σm : zSt} (hx : RX A σx) (hm : RM A σm) (next : ∀ A' σx' σm', RX A' σx' → RM A' σm' → zL p l e s m below meth c b D cA adX adM 1133 [(0, .ref b), (1, .ref (adX 0)), (2, .ref (adM 0)), (3, .int (nI i))] [] σx' σm') : zL p l e s m below meth c b D cA adX adM 506 [(0, .ref b), (1, .ref (adX 0)), (2, .ref (adM 0)), (3, .int (nI i))] [] σx σm := by
  refine zl_aload M 1 dL_law_506 rfl rfl ?_
  refine zl_arg (kk := 1) M 3 rfl rfl dL_law_507 dL_law_508 dL_law_509 dL_law_510 dL_law_511 (by decide) (by omega) ?_
  refine zl_callXI (d' := 6) (As := [.int (xs (i + 1))]) (rest := []) (Q' := fun r σ' => r = (s_plan A (xs (i + 1))).1 ∧ RX (s_plan A (xs (i + 1))).2 σ') M lw_l58 rfl dL_law_512 rfl rfl (by decide) (Nat.le_of_ble_eq_true rfl) (kX7_plan M.2.2.2.2.2.2.2.1.1 (xs (i + 1)) σx _ (x_plan hx (xs (i + 1)) _ (fun σ' h' => ⟨rfl, h'⟩))) (fun r σ' hr => ?_)
  obtain ⟨rfl, hx'⟩ := hr
  refine zl_aload M 2 dL_law_515 rfl rfl ?_
  refine zl_arg (kk := 1) M 3 rfl rfl dL_law_516 dL_law_517 dL_law_518 dL_law_519 dL_law_520 (by decide) (by omega) ?_
  refine zl_callMI (d' := 45) (As := [.int (xs (i + 1))]) (rest := [.int (s_plan A (xs (i + 1))).1]) (Q' := fun r σ2 => r = (s_plan A (xs (i + 1))).1 ∧ RM (s_plan A (xs (i + 1))).2 σ2) M lw_l61 rfl dL_law_521 rfl rfl (by decide) (Nat.le_of_ble_eq_true rfl) (kX8_plan M.2.2.2.2.2.2.2.1.2 (xs (i + 1)) σm _ (m_plan hx.1 hm (xs (i + 1)) _ (fun σ2 h2 => ⟨rfl, h2⟩))) (fun r σ2 hr => ?_)
  obtain ⟨rfl, hm'⟩ := hr
  refine zl_eq M 1133 dL_law_524 (by decide) ?_
  exact next _ _ _ hx' hm'
set_option maxRecDepth 20000 in
theorem lc_11 (M : zLM p s m c b L xs D cA y adX adM) (hi : i + 6 ≤ L) {A : zA} {σx σm : zSt} (hx : RX A σx) (hm : RM A σm) (next : ∀ A' σx' σm', RX A' σx' → RM A' σm' → zL p l e s m below meth c b D cA adX adM 1133 [(0, .ref b), (1, .ref (adX 0)), (2, .ref (adM 0)), (3, .int (nI i))] [] σx' σm') : zL p l e s m below meth c b D cA adX adM 529 [(0, .ref b), (1, .ref (adX 0)), (2, .ref (adM 0)), (3, .int (nI i))] [] σx σm := by
  refine zl_aload M 1 dL_law_529 rfl rfl ?_
  refine zl_arg (kk := 1) M 3 rfl rfl dL_law_530 dL_law_531 dL_law_532 dL_law_533 dL_law_534 (by decide) (by omega) ?_
  refine zl_callXI (d' := 7) (As := [.int (xs (i + 1))]) (rest := []) (Q' := fun r σ' => r = (s_least A (xs (i + 1))).1 ∧ RX (s_least A (xs (i + 1))).2 σ') M lw_l62 rfl dL_law_535 rfl rfl (by decide) (Nat.le_of_ble_eq_true rfl) (kX7_least M.2.2.2.2.2.2.2.1.1 (xs (i + 1)) σx _ (x_least hx (xs (i + 1)) _ (fun σ' h' => ⟨rfl, h'⟩))) (fun r σ' hr => ?_)
  obtain ⟨rfl, hx'⟩ := hr
  refine zl_aload M 2 dL_law_538 rfl rfl ?_
  refine zl_arg (kk := 1) M 3 rfl rfl dL_law_539 dL_law_540 dL_law_541 dL_law_542 dL_law_543 (by decide) (by omega) ?_
  refine zl_callMI (d' := 46) (As := [.int (xs (i + 1))]) (rest := [.int (s_least A (xs (i + 1))).1]) (Q' := fun r σ2 => r = (s_least A (xs (i + 1))).1 ∧ RM (s_least A (xs (i + 1))).2 σ2) M lw_l65 rfl dL_law_544 rfl rfl (by decide) (Nat.le_of_ble_eq_true rfl) (kX8_least M.2.2.2.2.2.2.2.1.2 (xs (i + 1)) σm _ (m_least hx.1 hm (xs (i + 1)) _ (fun σ2 h2 => ⟨rfl, h2⟩))) (fun r σ2 hr => ?_)
  obtain ⟨rfl, hm'⟩ := hr
  refine zl_eq M 1133 dL_law_547 (by decide) ?_
  exact next _ _ _ hx' hm'
set_option maxRecDepth 20000 in
theorem lc_12 (M : zLM p s m c b L xs D cA y adX adM) (hi : i + 6 ≤ L) {A : zA} {σx σm : zSt} (hx : RX A σx) (hm : RM A σm) (next : ∀ A' σx' σm', RX A' σx' → RM A' σm' → zL p l e s m below meth c b D cA adX adM 1133 [(0, .ref b), (1, .ref (adX 0)), (2, .ref (adM 0)), (3, .int (nI i))] [] σx' σm') : zL p l e s m below meth c b D cA adX adM 552 [(0, .ref b), (1, .ref (adX 0)), (2, .ref (adM 0)), (3, .int (nI i))] [] σx σm := by
  refine zl_aload M 1 dL_law_552 rfl rfl ?_
  refine zl_callXI (d' := 7) (As := []) (rest := []) (Q' := fun r σ' => r = (s_lay A ).1 ∧ RX (s_lay A ).2 σ') M lw_l66 rfl dL_law_553 rfl rfl (by decide) (Nat.le_of_ble_eq_true rfl) (kX7_lay M.2.2.2.2.2.2.2.1.1  σx _ (x_lay hx  _ (fun σ' h' => ⟨rfl, h'⟩))) (fun r σ' hr => ?_)
  obtain ⟨rfl, hx'⟩ := hr
  refine zl_aload M 2 dL_law_556 rfl rfl ?_
  refine zl_callMI (d' := 46) (As := []) (rest := [.int (s_lay A ).1]) (Q' := fun r σ2 => r = (s_lay A ).1 ∧ RM (s_lay A ).2 σ2) M lw_l69 rfl dL_law_557 rfl rfl (by decide) (Nat.le_of_ble_eq_true rfl) (kX8_lay M.2.2.2.2.2.2.2.1.2  σm _ (m_lay hx.1 hm  _ (fun σ2 h2 => ⟨rfl, h2⟩))) (fun r σ2 hr => ?_)
  obtain ⟨rfl, hm'⟩ := hr
  refine zl_eq M 1133 dL_law_560 (by decide) ?_
  exact next _ _ _ hx' hm'
set_option maxRecDepth 20000 in
theorem lc_13 (M : zLM p s m c b L xs D cA y adX adM) (hi : i + 6 ≤ L) {A : zA} {σx σm : zSt} (hx : RX A σx) (hm : RM A σm) (next : ∀ A' σx' σm', RX A' σx' → RM A' σm' → zL p l e s m below meth c b D cA adX adM 1133 [(0, .ref b), (1, .ref (adX 0)), (2, .ref (adM 0)), (3, .int (nI i))] [] σx' σm') : zL p l e s m below meth c b D cA adX adM 565 [(0, .ref b), (1, .ref (adX 0)), (2, .ref (adM 0)), (3, .int (nI i))] [] σx σm := by
  refine zl_aload M 1 dL_law_565 rfl rfl ?_
  refine zl_callXI (d' := 7) (As := []) (rest := []) (Q' := fun r σ' => r = (s_fewest A ).1 ∧ RX (s_fewest A ).2 σ') M lw_l70 rfl dL_law_566 rfl rfl (by decide) (Nat.le_of_ble_eq_true rfl) (kX7_fewest M.2.2.2.2.2.2.2.1.1  σx _ (x_fewest hx  _ (fun σ' h' => ⟨rfl, h'⟩))) (fun r σ' hr => ?_)
  obtain ⟨rfl, hx'⟩ := hr
  refine zl_aload M 2 dL_law_569 rfl rfl ?_
  refine zl_callMI (d' := 46) (As := []) (rest := [.int (s_fewest A ).1]) (Q' := fun r σ2 => r = (s_fewest A ).1 ∧ RM (s_fewest A ).2 σ2) M lw_l73 rfl dL_law_570 rfl rfl (by decide) (Nat.le_of_ble_eq_true rfl) (kX8_fewest M.2.2.2.2.2.2.2.1.2  σm _ (m_fewest hx.1 hm  _ (fun σ2 h2 => ⟨rfl, h2⟩))) (fun r σ2 hr => ?_)
  obtain ⟨rfl, hm'⟩ := hr
  refine zl_eq M 1133 dL_law_573 (by decide) ?_
  exact next _ _ _ hx' hm'
set_option maxRecDepth 20000 in
theorem lc_14 (M : zLM p s m c b L xs D cA y adX adM) (hi : i + 6 ≤ L) {A : zA} {σx σm : zSt} (hx : RX A σx) (hm : RM A σm) (next : ∀ A' σx' σm', RX A' σx' → RM A' σm' → zL p l e s m below meth c b D cA adX adM 1133 [(0, .ref b), (1, .ref (adX 0)), (2, .ref (adM 0)), (3, .int (nI i))] [] σx' σm') : zL p l e s m below meth c b D cA adX adM 578 [(0, .ref b), (1, .ref (adX 0)), (2, .ref (adM 0)), (3, .int (nI i))] [] σx σm := by
  refine zl_aload M 1 dL_law_578 rfl rfl ?_
  refine zl_arg (kk := 1) M 3 rfl rfl dL_law_579 dL_law_580 dL_law_581 dL_law_582 dL_law_583 (by decide) (by omega) ?_
  refine zl_arg (kk := 2) M 3 rfl rfl dL_law_584 dL_law_585 dL_law_586 dL_law_587 dL_law_588 (by decide) (by omega) ?_
  refine zl_callXI (d' := 6) (As := [.int (xs (i + 1)), .int (xs (i + 2))]) (rest := []) (Q' := fun r σ' => r = (s_run A (xs (i + 1)) (xs (i + 2))).1 ∧ RX (s_run A (xs (i + 1)) (xs (i + 2))).2 σ') M lw_l74 rfl dL_law_589 rfl rfl (by decide) (Nat.le_of_ble_eq_true rfl) (kX7_run M.2.2.2.2.2.2.2.1.1 (xs (i + 1)) (xs (i + 2)) σx _ (x_run hx (xs (i + 1)) (xs (i + 2)) _ (fun σ' h' => ⟨rfl, h'⟩))) (fun r σ' hr => ?_)
  obtain ⟨rfl, hx'⟩ := hr
  refine zl_aload M 2 dL_law_592 rfl rfl ?_
  refine zl_arg (kk := 1) M 3 rfl rfl dL_law_593 dL_law_594 dL_law_595 dL_law_596 dL_law_597 (by decide) (by omega) ?_
  refine zl_arg (kk := 2) M 3 rfl rfl dL_law_598 dL_law_599 dL_law_600 dL_law_601 dL_law_602 (by decide) (by omega) ?_
  refine zl_callMI (d' := 45) (As := [.int (xs (i + 1)), .int (xs (i + 2))]) (rest := [.int (s_run A (xs (i + 1)) (xs (i + 2))).1]) (Q' := fun r σ2 => r = (s_run A (xs (i + 1)) (xs (i + 2))).1 ∧ RM (s_run A (xs (i + 1)) (xs (i + 2))).2 σ2) M lw_l77 rfl dL_law_603 rfl rfl (by decide) (Nat.le_of_ble_eq_true rfl) (kX8_run M.2.2.2.2.2.2.2.1.2 (xs (i + 1)) (xs (i + 2)) σm _ (m_run hx.1 hm (xs (i + 1)) (xs (i + 2)) _ (fun σ2 h2 => ⟨rfl, h2⟩))) (fun r σ2 hr => ?_)
  obtain ⟨rfl, hm'⟩ := hr
  refine zl_eq M 1133 dL_law_606 (by decide) ?_
  exact next _ _ _ hx' hm'
set_option maxRecDepth 20000 in
theorem lc_15 (M : zLM p s m c b L xs D cA y adX adM) (hi : i + 6 ≤ L) {A : zA} {σx σm : zSt} (hx : RX A σx) (hm : RM A σm) (next : ∀ A' σx' σm', RX A' σx' → RM A' σm' → zL p l e s m below meth c b D cA adX adM 1133 [(0, .ref b), (1, .ref (adX 0)), (2, .ref (adM 0)), (3, .int (nI i))] [] σx' σm') : zL p l e s m below meth c b D cA adX adM 611 [(0, .ref b), (1, .ref (adX 0)), (2, .ref (adM 0)), (3, .int (nI i))] [] σx σm := by
  refine zl_aload M 1 dL_law_611 rfl rfl ?_
  refine zl_arg (kk := 1) M 3 rfl rfl dL_law_612 dL_law_613 dL_law_614 dL_law_615 dL_law_616 (by decide) (by omega) ?_
  refine zl_callXI (d' := 6) (As := [.int (xs (i + 1))]) (rest := []) (Q' := fun r σ' => r = (s_follow A (xs (i + 1))).1 ∧ RX (s_follow A (xs (i + 1))).2 σ') M lw_l78 rfl dL_law_617 rfl rfl (by decide) (Nat.le_of_ble_eq_true rfl) (kX7_follow M.2.2.2.2.2.2.2.1.1 (xs (i + 1)) σx _ (x_follow hx (xs (i + 1)) _ (fun σ' h' => ⟨rfl, h'⟩))) (fun r σ' hr => ?_)
  obtain ⟨rfl, hx'⟩ := hr
  refine zl_aload M 2 dL_law_620 rfl rfl ?_
  refine zl_arg (kk := 1) M 3 rfl rfl dL_law_621 dL_law_622 dL_law_623 dL_law_624 dL_law_625 (by decide) (by omega) ?_
  refine zl_callMI (d' := 45) (As := [.int (xs (i + 1))]) (rest := [.int (s_follow A (xs (i + 1))).1]) (Q' := fun r σ2 => r = (s_follow A (xs (i + 1))).1 ∧ RM (s_follow A (xs (i + 1))).2 σ2) M lw_l81 rfl dL_law_626 rfl rfl (by decide) (Nat.le_of_ble_eq_true rfl) (kX8_follow M.2.2.2.2.2.2.2.1.2 (xs (i + 1)) σm _ (m_follow hx.1 hm (xs (i + 1)) _ (fun σ2 h2 => ⟨rfl, h2⟩))) (fun r σ2 hr => ?_)
  obtain ⟨rfl, hm'⟩ := hr
  refine zl_eq M 1133 dL_law_629 (by decide) ?_
  exact next _ _ _ hx' hm'
set_option maxRecDepth 20000 in
theorem lc_16 (M : zLM p s m c b L xs D cA y adX adM) (hi : i + 6 ≤ L) {A : zA} {σx σm : zSt} (hx : RX A σx) (hm : RM A σm) (next : ∀ A' σx' σm', RX A' σx' → RM A' σm' → zL p l e s m below meth c b D cA adX adM 1133 [(0, .ref b), (1, .ref (adX 0)), (2, .ref (adM 0)), (3, .int (nI i))] [] σx' σm') : zL p l e s m below meth c b D cA adX adM 634 [(0, .ref b), (1, .ref (adX 0)), (2, .ref (adM 0)), (3, .int (nI i))] [] σx σm := by
  refine zl_aload M 1 dL_law_634 rfl rfl ?_
  refine zl_arg (kk := 1) M 3 rfl rfl dL_law_635 dL_law_636 dL_law_637 dL_law_638 dL_law_639 (by decide) (by omega) ?_
  refine zl_arg (kk := 2) M 3 rfl rfl dL_law_640 dL_law_641 dL_law_642 dL_law_643 dL_law_644 (by decide) (by omega) ?_
  refine zl_callXI (d' := 3) (As := [.int (xs (i + 1)), .int (xs (i + 2))]) (rest := []) (Q' := fun r σ' => r = (s_way A (xs (i + 1)) (xs (i + 2))).1 ∧ RX (s_way A (xs (i + 1)) (xs (i + 2))).2 σ') M lw_l82 rfl dL_law_645 rfl rfl (by decide) (Nat.le_of_ble_eq_true rfl) (kX7_way M.2.2.2.2.2.2.2.1.1 (xs (i + 1)) (xs (i + 2)) σx _ (x_way hx (xs (i + 1)) (xs (i + 2)) _ (fun σ' h' => ⟨rfl, h'⟩))) (fun r σ' hr => ?_)
  obtain ⟨rfl, hx'⟩ := hr
  refine zl_aload M 2 dL_law_648 rfl rfl ?_
  refine zl_arg (kk := 1) M 3 rfl rfl dL_law_649 dL_law_650 dL_law_651 dL_law_652 dL_law_653 (by decide) (by omega) ?_
  refine zl_arg (kk := 2) M 3 rfl rfl dL_law_654 dL_law_655 dL_law_656 dL_law_657 dL_law_658 (by decide) (by omega) ?_
  refine zl_callMI (d' := 3) (As := [.int (xs (i + 1)), .int (xs (i + 2))]) (rest := [.int (s_way A (xs (i + 1)) (xs (i + 2))).1]) (Q' := fun r σ2 => r = (s_way A (xs (i + 1)) (xs (i + 2))).1 ∧ RM (s_way A (xs (i + 1)) (xs (i + 2))).2 σ2) M lw_l85 rfl dL_law_659 rfl rfl (by decide) (Nat.le_of_ble_eq_true rfl) (kX8_way M.2.2.2.2.2.2.2.1.2 (xs (i + 1)) (xs (i + 2)) σm _ (m_way hx.1 hm (xs (i + 1)) (xs (i + 2)) _ (fun σ2 h2 => ⟨rfl, h2⟩))) (fun r σ2 hr => ?_)
  obtain ⟨rfl, hm'⟩ := hr
  refine zl_eq M 1133 dL_law_662 (by decide) ?_
  exact next _ _ _ hx' hm'
set_option maxRecDepth 20000 in
theorem lc_17 (M : zLM p s m c b L xs D cA y adX adM) (hi : i + 6 ≤ L) {A : zA} {σx σm : zSt} (hx : RX A σx) (hm : RM A σm) (next : ∀ A' σx' σm', RX A' σx' → RM A' σm' → zL p l e s m below meth c b D cA adX adM 1133 [(0, .ref b), (1, .ref (adX 0)), (2, .ref (adM 0)), (3, .int (nI i))] [] σx' σm') : zL p l e s m below meth c b D cA adX adM 667 [(0, .ref b), (1, .ref (adX 0)), (2, .ref (adM 0)), (3, .int (nI i))] [] σx σm := by
  refine zl_aload M 1 dL_law_667 rfl rfl ?_
  refine zl_arg (kk := 1) M 3 rfl rfl dL_law_668 dL_law_669 dL_law_670 dL_law_671 dL_law_672 (by decide) (by omega) ?_
  refine zl_callXI (d' := 5) (As := [.int (xs (i + 1))]) (rest := []) (Q' := fun r σ' => r = (s_fourth A (xs (i + 1))).1 ∧ RX (s_fourth A (xs (i + 1))).2 σ') M lw_l86 rfl dL_law_673 rfl rfl (by decide) (Nat.le_of_ble_eq_true rfl) (kX7_fourth M.2.2.2.2.2.2.2.1.1 (xs (i + 1)) σx _ (x_fourth hx (xs (i + 1)) _ (fun σ' h' => ⟨rfl, h'⟩))) (fun r σ' hr => ?_)
  obtain ⟨rfl, hx'⟩ := hr
  refine zl_aload M 2 dL_law_676 rfl rfl ?_
  refine zl_arg (kk := 1) M 3 rfl rfl dL_law_677 dL_law_678 dL_law_679 dL_law_680 dL_law_681 (by decide) (by omega) ?_
  refine zl_callMI (d' := 44) (As := [.int (xs (i + 1))]) (rest := [.int (s_fourth A (xs (i + 1))).1]) (Q' := fun r σ2 => r = (s_fourth A (xs (i + 1))).1 ∧ RM (s_fourth A (xs (i + 1))).2 σ2) M lw_l89 rfl dL_law_682 rfl rfl (by decide) (Nat.le_of_ble_eq_true rfl) (kX8_fourth M.2.2.2.2.2.2.2.1.2 (xs (i + 1)) σm _ (m_fourth hx.1 hm (xs (i + 1)) _ (fun σ2 h2 => ⟨rfl, h2⟩))) (fun r σ2 hr => ?_)
  obtain ⟨rfl, hm'⟩ := hr
  refine zl_eq M 1133 dL_law_685 (by decide) ?_
  exact next _ _ _ hx' hm'
set_option maxRecDepth 20000 in
theorem lc_18 (M : zLM p s m c b L xs D cA y adX adM) (hi : i + 6 ≤ L) {A : zA} {σx σm : zSt} (hx : RX A σx) (hm : RM A σm) (next : ∀ A' σx' σm', RX A' σx' → RM A' σm' → zL p l e s m below meth c b D cA adX adM 1133 [(0, .ref b), (1, .ref (adX 0)), (2, .ref (adM 0)), (3, .int (nI i))] [] σx' σm') : zL p l e s m below meth c b D cA adX adM 690 [(0, .ref b), (1, .ref (adX 0)), (2, .ref (adM 0)), (3, .int (nI i))] [] σx σm := by
  refine zl_aload M 1 dL_law_690 rfl rfl ?_
  refine zl_arg (kk := 1) M 3 rfl rfl dL_law_691 dL_law_692 dL_law_693 dL_law_694 dL_law_695 (by decide) (by omega) ?_
  refine zl_callXI (d' := 3) (As := [.int (xs (i + 1))]) (rest := []) (Q' := fun r σ' => r = (s_late A (xs (i + 1))).1 ∧ RX (s_late A (xs (i + 1))).2 σ') M lw_l90 rfl dL_law_696 rfl rfl (by decide) (Nat.le_of_ble_eq_true rfl) (kX7_late M.2.2.2.2.2.2.2.1.1 (xs (i + 1)) σx _ (x_late hx (xs (i + 1)) _ (fun σ' h' => ⟨rfl, h'⟩))) (fun r σ' hr => ?_)
  obtain ⟨rfl, hx'⟩ := hr
  refine zl_aload M 2 dL_law_699 rfl rfl ?_
  refine zl_arg (kk := 1) M 3 rfl rfl dL_law_700 dL_law_701 dL_law_702 dL_law_703 dL_law_704 (by decide) (by omega) ?_
  refine zl_callMI (d' := 3) (As := [.int (xs (i + 1))]) (rest := [.int (s_late A (xs (i + 1))).1]) (Q' := fun r σ2 => r = (s_late A (xs (i + 1))).1 ∧ RM (s_late A (xs (i + 1))).2 σ2) M lw_l93 rfl dL_law_705 rfl rfl (by decide) (Nat.le_of_ble_eq_true rfl) (kX8_late M.2.2.2.2.2.2.2.1.2 (xs (i + 1)) σm _ (m_late hx.1 hm (xs (i + 1)) _ (fun σ2 h2 => ⟨rfl, h2⟩))) (fun r σ2 hr => ?_)
  obtain ⟨rfl, hm'⟩ := hr
  refine zl_eq M 1133 dL_law_708 (by decide) ?_
  exact next _ _ _ hx' hm'
set_option maxRecDepth 20000 in
theorem lc_19 (M : zLM p s m c b L xs D cA y adX adM) (hi : i + 6 ≤ L) {A : zA} {σx σm : zSt} (hx : RX A σx) (hm : RM A σm) (next : ∀ A' σx' σm', RX A' σx' → RM A' σm' → zL p l e s m below meth c b D cA adX adM 1133 [(0, .ref b), (1, .ref (adX 0)), (2, .ref (adM 0)), (3, .int (nI i))] [] σx' σm') : zL p l e s m below meth c b D cA adX adM 713 [(0, .ref b), (1, .ref (adX 0)), (2, .ref (adM 0)), (3, .int (nI i))] [] σx σm := by
  refine zl_aload M 1 dL_law_713 rfl rfl ?_
  refine zl_arg (kk := 1) M 3 rfl rfl dL_law_714 dL_law_715 dL_law_716 dL_law_717 dL_law_718 (by decide) (by omega) ?_
  refine zl_callXI (d' := 6) (As := [.int (xs (i + 1))]) (rest := []) (Q' := fun r σ' => r = (s_blame A (xs (i + 1))).1 ∧ RX (s_blame A (xs (i + 1))).2 σ') M lw_l94 rfl dL_law_719 rfl rfl (by decide) (Nat.le_of_ble_eq_true rfl) (kX7_blame M.2.2.2.2.2.2.2.1.1 (xs (i + 1)) σx _ (x_blame hx (xs (i + 1)) _ (fun σ' h' => ⟨rfl, h'⟩))) (fun r σ' hr => ?_)
  obtain ⟨rfl, hx'⟩ := hr
  refine zl_aload M 2 dL_law_722 rfl rfl ?_
  refine zl_arg (kk := 1) M 3 rfl rfl dL_law_723 dL_law_724 dL_law_725 dL_law_726 dL_law_727 (by decide) (by omega) ?_
  refine zl_callMI (d' := 45) (As := [.int (xs (i + 1))]) (rest := [.int (s_blame A (xs (i + 1))).1]) (Q' := fun r σ2 => r = (s_blame A (xs (i + 1))).1 ∧ RM (s_blame A (xs (i + 1))).2 σ2) M lw_l97 rfl dL_law_728 rfl rfl (by decide) (Nat.le_of_ble_eq_true rfl) (kX8_blame M.2.2.2.2.2.2.2.1.2 (xs (i + 1)) σm _ (m_blame hx.1 hm (xs (i + 1)) _ (fun σ2 h2 => ⟨rfl, h2⟩))) (fun r σ2 hr => ?_)
  obtain ⟨rfl, hm'⟩ := hr
  refine zl_eq M 1133 dL_law_731 (by decide) ?_
  exact next _ _ _ hx' hm'
set_option maxRecDepth 20000 in
theorem lc_20 (M : zLM p s m c b L xs D cA y adX adM) (hi : i + 6 ≤ L) {A : zA} {σx σm : zSt} (hx : RX A σx) (hm : RM A σm) (next : ∀ A' σx' σm', RX A' σx' → RM A' σm' → zL p l e s m below meth c b D cA adX adM 1133 [(0, .ref b), (1, .ref (adX 0)), (2, .ref (adM 0)), (3, .int (nI i))] [] σx' σm') : zL p l e s m below meth c b D cA adX adM 736 [(0, .ref b), (1, .ref (adX 0)), (2, .ref (adM 0)), (3, .int (nI i))] [] σx σm := by
  refine zl_aload M 1 dL_law_736 rfl rfl ?_
  refine zl_arg (kk := 1) M 3 rfl rfl dL_law_737 dL_law_738 dL_law_739 dL_law_740 dL_law_741 (by decide) (by omega) ?_
  refine zl_callXI (d' := 3) (As := [.int (xs (i + 1))]) (rest := []) (Q' := fun r σ' => r = (s_judge A (xs (i + 1))).1 ∧ RX (s_judge A (xs (i + 1))).2 σ') M lw_l98 rfl dL_law_742 rfl rfl (by decide) (Nat.le_of_ble_eq_true rfl) (kX7_judge M.2.2.2.2.2.2.2.1.1 (xs (i + 1)) σx _ (x_judge hx (xs (i + 1)) _ (fun σ' h' => ⟨rfl, h'⟩))) (fun r σ' hr => ?_)
  obtain ⟨rfl, hx'⟩ := hr
  refine zl_aload M 2 dL_law_745 rfl rfl ?_
  refine zl_arg (kk := 1) M 3 rfl rfl dL_law_746 dL_law_747 dL_law_748 dL_law_749 dL_law_750 (by decide) (by omega) ?_
  refine zl_callMI (d' := 3) (As := [.int (xs (i + 1))]) (rest := [.int (s_judge A (xs (i + 1))).1]) (Q' := fun r σ2 => r = (s_judge A (xs (i + 1))).1 ∧ RM (s_judge A (xs (i + 1))).2 σ2) M lw_l101 rfl dL_law_751 rfl rfl (by decide) (Nat.le_of_ble_eq_true rfl) (kX8_judge M.2.2.2.2.2.2.2.1.2 (xs (i + 1)) σm _ (m_judge hx.1 hm (xs (i + 1)) _ (fun σ2 h2 => ⟨rfl, h2⟩))) (fun r σ2 hr => ?_)
  obtain ⟨rfl, hm'⟩ := hr
  refine zl_eq M 1133 dL_law_754 (by decide) ?_
  exact next _ _ _ hx' hm'
set_option maxRecDepth 20000 in
theorem lc_21 (M : zLM p s m c b L xs D cA y adX adM) (hi : i + 6 ≤ L) {A : zA} {σx σm : zSt} (hx : RX A σx) (hm : RM A σm) (next : ∀ A' σx' σm', RX A' σx' → RM A' σm' → zL p l e s m below meth c b D cA adX adM 1133 [(0, .ref b), (1, .ref (adX 0)), (2, .ref (adM 0)), (3, .int (nI i))] [] σx' σm') : zL p l e s m below meth c b D cA adX adM 759 [(0, .ref b), (1, .ref (adX 0)), (2, .ref (adM 0)), (3, .int (nI i))] [] σx σm := by
  refine zl_aload M 1 dL_law_759 rfl rfl ?_
  refine zl_arg (kk := 1) M 3 rfl rfl dL_law_760 dL_law_761 dL_law_762 dL_law_763 dL_law_764 (by decide) (by omega) ?_
  refine zl_callXI (d' := 5) (As := [.int (xs (i + 1))]) (rest := []) (Q' := fun r σ' => r = (s_who A (xs (i + 1))).1 ∧ RX (s_who A (xs (i + 1))).2 σ') M lw_l102 rfl dL_law_765 rfl rfl (by decide) (Nat.le_of_ble_eq_true rfl) (kX7_who M.2.2.2.2.2.2.2.1.1 (xs (i + 1)) σx _ (x_who hx (xs (i + 1)) _ (fun σ' h' => ⟨rfl, h'⟩))) (fun r σ' hr => ?_)
  obtain ⟨rfl, hx'⟩ := hr
  refine zl_aload M 2 dL_law_768 rfl rfl ?_
  refine zl_arg (kk := 1) M 3 rfl rfl dL_law_769 dL_law_770 dL_law_771 dL_law_772 dL_law_773 (by decide) (by omega) ?_
  refine zl_callMI (d' := 6) (As := [.int (xs (i + 1))]) (rest := [.int (s_who A (xs (i + 1))).1]) (Q' := fun r σ2 => r = (s_who A (xs (i + 1))).1 ∧ RM (s_who A (xs (i + 1))).2 σ2) M lw_l105 rfl dL_law_774 rfl rfl (by decide) (Nat.le_of_ble_eq_true rfl) (kX8_who M.2.2.2.2.2.2.2.1.2 (xs (i + 1)) σm _ (m_who hx.1 hm (xs (i + 1)) _ (fun σ2 h2 => ⟨rfl, h2⟩))) (fun r σ2 hr => ?_)
  obtain ⟨rfl, hm'⟩ := hr
  refine zl_eq M 1133 dL_law_777 (by decide) ?_
  exact next _ _ _ hx' hm'
set_option maxRecDepth 20000 in
theorem lc_22 (M : zLM p s m c b L xs D cA y adX adM) (hi : i + 6 ≤ L) {A : zA} {σx σm : zSt} (hx : RX A σx) (hm : RM A σm) (next : ∀ A' σx' σm', RX A' σx' → RM A' σm' → zL p l e s m below meth c b D cA adX adM 1133 [(0, .ref b), (1, .ref (adX 0)), (2, .ref (adM 0)), (3, .int (nI i))] [] σx' σm') : zL p l e s m below meth c b D cA adX adM 782 [(0, .ref b), (1, .ref (adX 0)), (2, .ref (adM 0)), (3, .int (nI i))] [] σx σm := by
  refine zl_aload M 1 dL_law_782 rfl rfl ?_
  refine zl_arg (kk := 1) M 3 rfl rfl dL_law_783 dL_law_784 dL_law_785 dL_law_786 dL_law_787 (by decide) (by omega) ?_
  refine zl_callXI (d' := 6) (As := [.int (xs (i + 1))]) (rest := []) (Q' := fun r σ' => r = (s_drawn A (xs (i + 1))).1 ∧ RX (s_drawn A (xs (i + 1))).2 σ') M lw_l106 rfl dL_law_788 rfl rfl (by decide) (Nat.le_of_ble_eq_true rfl) (kX7_drawn M.2.2.2.2.2.2.2.1.1 (xs (i + 1)) σx _ (x_drawn hx (xs (i + 1)) _ (fun σ' h' => ⟨rfl, h'⟩))) (fun r σ' hr => ?_)
  obtain ⟨rfl, hx'⟩ := hr
  refine zl_aload M 2 dL_law_791 rfl rfl ?_
  refine zl_arg (kk := 1) M 3 rfl rfl dL_law_792 dL_law_793 dL_law_794 dL_law_795 dL_law_796 (by decide) (by omega) ?_
  refine zl_callMI (d' := 45) (As := [.int (xs (i + 1))]) (rest := [.int (s_drawn A (xs (i + 1))).1]) (Q' := fun r σ2 => r = (s_drawn A (xs (i + 1))).1 ∧ RM (s_drawn A (xs (i + 1))).2 σ2) M lw_l109 rfl dL_law_797 rfl rfl (by decide) (Nat.le_of_ble_eq_true rfl) (kX8_drawn M.2.2.2.2.2.2.2.1.2 (xs (i + 1)) σm _ (m_drawn hx.1 hm (xs (i + 1)) _ (fun σ2 h2 => ⟨rfl, h2⟩))) (fun r σ2 hr => ?_)
  obtain ⟨rfl, hm'⟩ := hr
  refine zl_eq M 1133 dL_law_800 (by decide) ?_
  exact next _ _ _ hx' hm'
set_option maxRecDepth 20000 in
theorem lc_23 (M : zLM p s m c b L xs D cA y adX adM) (hi : i + 6 ≤ L) {A : zA} {σx σm : zSt} (hx : RX A σx) (hm : RM A σm) (next : ∀ A' σx' σm', RX A' σx' → RM A' σm' → zL p l e s m below meth c b D cA adX adM 1133 [(0, .ref b), (1, .ref (adX 0)), (2, .ref (adM 0)), (3, .int (nI i))] [] σx' σm') : zL p l e s m below meth c b D cA adX adM 805 [(0, .ref b), (1, .ref (adX 0)), (2, .ref (adM 0)), (3, .int (nI i))] [] σx σm := by
  refine zl_aload M 1 dL_law_805 rfl rfl ?_
  refine zl_arg (kk := 1) M 3 rfl rfl dL_law_806 dL_law_807 dL_law_808 dL_law_809 dL_law_810 (by decide) (by omega) ?_
  refine zl_arg (kk := 2) M 3 rfl rfl dL_law_811 dL_law_812 dL_law_813 dL_law_814 dL_law_815 (by decide) (by omega) ?_
  refine zl_arg (kk := 3) M 3 rfl rfl dL_law_816 dL_law_817 dL_law_818 dL_law_819 dL_law_820 (by decide) (by omega) ?_
  refine zl_callXL (d' := 4) (As := [.int (xs (i + 1)), .int (xs (i + 2)), .int (xs (i + 3))]) (rest := []) (Q' := fun r σ' => r = (s_chance A (xs (i + 1)) (xs (i + 2)) (xs (i + 3))).1 ∧ RX (s_chance A (xs (i + 1)) (xs (i + 2)) (xs (i + 3))).2 σ') M lw_l110 rfl dL_law_821 rfl rfl (by decide) (Nat.le_of_ble_eq_true rfl) (kX7_chance M.2.2.2.2.2.2.2.1.1 (xs (i + 1)) (xs (i + 2)) (xs (i + 3)) σx _ (x_chance hx (xs (i + 1)) (xs (i + 2)) (xs (i + 3)) _ (fun σ' h' => ⟨rfl, h'⟩))) (fun r σ' hr => ?_)
  obtain ⟨rfl, hx'⟩ := hr
  refine zl_aload M 2 dL_law_824 rfl rfl ?_
  refine zl_arg (kk := 1) M 3 rfl rfl dL_law_825 dL_law_826 dL_law_827 dL_law_828 dL_law_829 (by decide) (by omega) ?_
  refine zl_arg (kk := 2) M 3 rfl rfl dL_law_830 dL_law_831 dL_law_832 dL_law_833 dL_law_834 (by decide) (by omega) ?_
  refine zl_arg (kk := 3) M 3 rfl rfl dL_law_835 dL_law_836 dL_law_837 dL_law_838 dL_law_839 (by decide) (by omega) ?_
  refine zl_callML (d' := 4) (As := [.int (xs (i + 1)), .int (xs (i + 2)), .int (xs (i + 3))]) (rest := [.long (s_chance A (xs (i + 1)) (xs (i + 2)) (xs (i + 3))).1]) (Q' := fun r σ2 => r = (s_chance A (xs (i + 1)) (xs (i + 2)) (xs (i + 3))).1 ∧ RM (s_chance A (xs (i + 1)) (xs (i + 2)) (xs (i + 3))).2 σ2) M lw_l114 rfl dL_law_840 rfl rfl (by decide) (Nat.le_of_ble_eq_true rfl) (kX8_chance M.2.2.2.2.2.2.2.1.2 (xs (i + 1)) (xs (i + 2)) (xs (i + 3)) σm _ (m_chance hx.1 hm (xs (i + 1)) (xs (i + 2)) (xs (i + 3)) _ (fun σ2 h2 => ⟨rfl, h2⟩))) (fun r σ2 hr => ?_)
  obtain ⟨rfl, hm'⟩ := hr
  refine zl_lcmp M 1133 dL_law_843 dL_law_844 (by decide) ?_
  exact next _ _ _ hx' hm'
set_option maxRecDepth 20000 in
theorem lc_24 (M : zLM p s m c b L xs D cA y adX adM) (hi : i + 6 ≤ L) {A : zA} {σx σm : zSt} (hx : RX A σx) (hm : RM A σm) (next : ∀ A' σx' σm', RX A' σx' → RM A' σm' → zL p l e s m below meth c b D cA adX adM 1133 [(0, .ref b), (1, .ref (adX 0)), (2, .ref (adM 0)), (3, .int (nI i))] [] σx' σm') : zL p l e s m below meth c b D cA adX adM 849 [(0, .ref b), (1, .ref (adX 0)), (2, .ref (adM 0)), (3, .int (nI i))] [] σx σm := by
  refine zl_aload M 1 dL_law_849 rfl rfl ?_
  refine zl_callXI (d' := 2) (As := []) (rest := []) (Q' := fun r σ' => r = (s_image A ).1 ∧ RX (s_image A ).2 σ') M lw_l115 rfl dL_law_850 rfl rfl (by decide) (Nat.le_of_ble_eq_true rfl) (kX7_image M.2.2.2.2.2.2.2.1.1  σx _ (x_image hx  _ (fun σ' h' => ⟨rfl, h'⟩))) (fun r σ' hr => ?_)
  obtain ⟨rfl, hx'⟩ := hr
  refine zl_aload M 2 dL_law_853 rfl rfl ?_
  refine zl_callMI (d' := 1) (As := []) (rest := [.int (s_image A ).1]) (Q' := fun r σ2 => r = (s_image A ).1 ∧ RM (s_image A ).2 σ2) M lw_l118 rfl dL_law_854 rfl rfl (by decide) (Nat.le_of_ble_eq_true rfl) (kX8_image M.2.2.2.2.2.2.2.1.2  σm _ (m_image hx.1 hm  _ (fun σ2 h2 => ⟨rfl, h2⟩))) (fun r σ2 hr => ?_)
  obtain ⟨rfl, hm'⟩ := hr
  refine zl_eq M 1133 dL_law_857 (by decide) ?_
  exact next _ _ _ hx' hm'
set_option maxRecDepth 20000 in
theorem lc_25 (M : zLM p s m c b L xs D cA y adX adM) (hi : i + 6 ≤ L) {A : zA} {σx σm : zSt} (hx : RX A σx) (hm : RM A σm) (next : ∀ A' σx' σm', RX A' σx' → RM A' σm' → zL p l e s m below meth c b D cA adX adM 1133 [(0, .ref b), (1, .ref (adX 0)), (2, .ref (adM 0)), (3, .int (nI i))] [] σx' σm') : zL p l e s m below meth c b D cA adX adM 862 [(0, .ref b), (1, .ref (adX 0)), (2, .ref (adM 0)), (3, .int (nI i))] [] σx σm := by
  refine zl_aload M 1 dL_law_862 rfl rfl ?_
  refine zl_callXI (d' := 4) (As := []) (rest := []) (Q' := fun r σ' => r = (s_back A ).1 ∧ RX (s_back A ).2 σ') M lw_l119 rfl dL_law_863 rfl rfl (by decide) (Nat.le_of_ble_eq_true rfl) (kX7_back M.2.2.2.2.2.2.2.1.1  σx _ (x_back hx  _ (fun σ' h' => ⟨rfl, h'⟩))) (fun r σ' hr => ?_)
  obtain ⟨rfl, hx'⟩ := hr
  refine zl_aload M 2 dL_law_866 rfl rfl ?_
  refine zl_callMI (d' := 1) (As := []) (rest := [.int (s_back A ).1]) (Q' := fun r σ2 => r = (s_back A ).1 ∧ RM (s_back A ).2 σ2) M lw_l122 rfl dL_law_867 rfl rfl (by decide) (Nat.le_of_ble_eq_true rfl) (kX8_back M.2.2.2.2.2.2.2.1.2  σm _ (m_back hx.1 hm  _ (fun σ2 h2 => ⟨rfl, h2⟩))) (fun r σ2 hr => ?_)
  obtain ⟨rfl, hm'⟩ := hr
  refine zl_eq M 1133 dL_law_870 (by decide) ?_
  exact next _ _ _ hx' hm'
set_option maxRecDepth 20000 in
theorem lc_26 (M : zLM p s m c b L xs D cA y adX adM) (hi : i + 6 ≤ L) {A : zA} {σx σm : zSt} (hx : RX A σx) (hm : RM A σm) (next : ∀ A' σx' σm', RX A' σx' → RM A' σm' → zL p l e s m below meth c b D cA adX adM 1133 [(0, .ref b), (1, .ref (adX 0)), (2, .ref (adM 0)), (3, .int (nI i))] [] σx' σm') : zL p l e s m below meth c b D cA adX adM 875 [(0, .ref b), (1, .ref (adX 0)), (2, .ref (adM 0)), (3, .int (nI i))] [] σx σm := by
  refine zl_aload M 1 dL_law_875 rfl rfl ?_
  refine zl_arg (kk := 1) M 3 rfl rfl dL_law_876 dL_law_877 dL_law_878 dL_law_879 dL_law_880 (by decide) (by omega) ?_
  refine zl_callXI (d' := 1) (As := [.int (xs (i + 1))]) (rest := []) (Q' := fun r σ' => r = (s_count A (xs (i + 1))).1 ∧ RX (s_count A (xs (i + 1))).2 σ') M lw_l123 rfl dL_law_881 rfl rfl (by decide) (Nat.le_of_ble_eq_true rfl) (kX7_count M.2.2.2.2.2.2.2.1.1 (xs (i + 1)) σx _ (x_count hx (xs (i + 1)) _ (fun σ' h' => ⟨rfl, h'⟩))) (fun r σ' hr => ?_)
  obtain ⟨rfl, hx'⟩ := hr
  refine zl_aload M 2 dL_law_884 rfl rfl ?_
  refine zl_arg (kk := 1) M 3 rfl rfl dL_law_885 dL_law_886 dL_law_887 dL_law_888 dL_law_889 (by decide) (by omega) ?_
  refine zl_callMI (d' := 2) (As := [.int (xs (i + 1))]) (rest := [.int (s_count A (xs (i + 1))).1]) (Q' := fun r σ2 => r = (s_count A (xs (i + 1))).1 ∧ RM (s_count A (xs (i + 1))).2 σ2) M lw_l126 rfl dL_law_890 rfl rfl (by decide) (Nat.le_of_ble_eq_true rfl) (kX8_count M.2.2.2.2.2.2.2.1.2 (xs (i + 1)) σm _ (m_count hx.1 hm (xs (i + 1)) _ (fun σ2 h2 => ⟨rfl, h2⟩))) (fun r σ2 hr => ?_)
  obtain ⟨rfl, hm'⟩ := hr
  refine zl_eq M 1133 dL_law_893 (by decide) ?_
  exact next _ _ _ hx' hm'
set_option maxRecDepth 20000 in
theorem lc_27 (M : zLM p s m c b L xs D cA y adX adM) (hi : i + 6 ≤ L) {A : zA} {σx σm : zSt} (hx : RX A σx) (hm : RM A σm) (next : ∀ A' σx' σm', RX A' σx' → RM A' σm' → zL p l e s m below meth c b D cA adX adM 1133 [(0, .ref b), (1, .ref (adX 0)), (2, .ref (adM 0)), (3, .int (nI i))] [] σx' σm') : zL p l e s m below meth c b D cA adX adM 898 [(0, .ref b), (1, .ref (adX 0)), (2, .ref (adM 0)), (3, .int (nI i))] [] σx σm := by
  refine zl_aload M 1 dL_law_898 rfl rfl ?_
  refine zl_arg (kk := 1) M 3 rfl rfl dL_law_899 dL_law_900 dL_law_901 dL_law_902 dL_law_903 (by decide) (by omega) ?_
  refine zl_arg (kk := 2) M 3 rfl rfl dL_law_904 dL_law_905 dL_law_906 dL_law_907 dL_law_908 (by decide) (by omega) ?_
  refine zl_arg (kk := 3) M 3 rfl rfl dL_law_909 dL_law_910 dL_law_911 dL_law_912 dL_law_913 (by decide) (by omega) ?_
  refine zl_callXI (d' := 3) (As := [.int (xs (i + 1)), .int (xs (i + 2)), .int (xs (i + 3))]) (rest := []) (Q' := fun r σ' => r = (s_sheet A (xs (i + 1)) (xs (i + 2)) (xs (i + 3))).1 ∧ RX (s_sheet A (xs (i + 1)) (xs (i + 2)) (xs (i + 3))).2 σ') M lw_l127 rfl dL_law_914 rfl rfl (by decide) (Nat.le_of_ble_eq_true rfl) (kX7_sheet M.2.2.2.2.2.2.2.1.1 (xs (i + 1)) (xs (i + 2)) (xs (i + 3)) σx _ (x_sheet hx (xs (i + 1)) (xs (i + 2)) (xs (i + 3)) _ (fun σ' h' => ⟨rfl, h'⟩))) (fun r σ' hr => ?_)
  obtain ⟨rfl, hx'⟩ := hr
  refine zl_aload M 2 dL_law_917 rfl rfl ?_
  refine zl_arg (kk := 1) M 3 rfl rfl dL_law_918 dL_law_919 dL_law_920 dL_law_921 dL_law_922 (by decide) (by omega) ?_
  refine zl_arg (kk := 2) M 3 rfl rfl dL_law_923 dL_law_924 dL_law_925 dL_law_926 dL_law_927 (by decide) (by omega) ?_
  refine zl_arg (kk := 3) M 3 rfl rfl dL_law_928 dL_law_929 dL_law_930 dL_law_931 dL_law_932 (by decide) (by omega) ?_
  refine zl_callMI (d' := 3) (As := [.int (xs (i + 1)), .int (xs (i + 2)), .int (xs (i + 3))]) (rest := [.int (s_sheet A (xs (i + 1)) (xs (i + 2)) (xs (i + 3))).1]) (Q' := fun r σ2 => r = (s_sheet A (xs (i + 1)) (xs (i + 2)) (xs (i + 3))).1 ∧ RM (s_sheet A (xs (i + 1)) (xs (i + 2)) (xs (i + 3))).2 σ2) M lw_l130 rfl dL_law_933 rfl rfl (by decide) (Nat.le_of_ble_eq_true rfl) (kX8_sheet M.2.2.2.2.2.2.2.1.2 (xs (i + 1)) (xs (i + 2)) (xs (i + 3)) σm _ (m_sheet hx.1 hm (xs (i + 1)) (xs (i + 2)) (xs (i + 3)) _ (fun σ2 h2 => ⟨rfl, h2⟩))) (fun r σ2 hr => ?_)
  obtain ⟨rfl, hm'⟩ := hr
  refine zl_eq M 1133 dL_law_936 (by decide) ?_
  exact next _ _ _ hx' hm'
set_option maxRecDepth 20000 in
theorem lc_28 (M : zLM p s m c b L xs D cA y adX adM) (hi : i + 6 ≤ L) {A : zA} {σx σm : zSt} (hx : RX A σx) (hm : RM A σm) (next : ∀ A' σx' σm', RX A' σx' → RM A' σm' → zL p l e s m below meth c b D cA adX adM 1133 [(0, .ref b), (1, .ref (adX 0)), (2, .ref (adM 0)), (3, .int (nI i))] [] σx' σm') : zL p l e s m below meth c b D cA adX adM 941 [(0, .ref b), (1, .ref (adX 0)), (2, .ref (adM 0)), (3, .int (nI i))] [] σx σm := by
  refine zl_aload M 1 dL_law_941 rfl rfl ?_
  refine zl_arg (kk := 1) M 3 rfl rfl dL_law_942 dL_law_943 dL_law_944 dL_law_945 dL_law_946 (by decide) (by omega) ?_
  refine zl_arg (kk := 2) M 3 rfl rfl dL_law_947 dL_law_948 dL_law_949 dL_law_950 dL_law_951 (by decide) (by omega) ?_
  refine zl_arg (kk := 3) M 3 rfl rfl dL_law_952 dL_law_953 dL_law_954 dL_law_955 dL_law_956 (by decide) (by omega) ?_
  refine zl_callXI (d' := 2) (As := [.int (xs (i + 1)), .int (xs (i + 2)), .int (xs (i + 3))]) (rest := []) (Q' := fun r σ' => r = (s_cell A (xs (i + 1)) (xs (i + 2)) (xs (i + 3))).1 ∧ RX (s_cell A (xs (i + 1)) (xs (i + 2)) (xs (i + 3))).2 σ') M lw_l131 rfl dL_law_957 rfl rfl (by decide) (Nat.le_of_ble_eq_true rfl) (kX7_cell M.2.2.2.2.2.2.2.1.1 (xs (i + 1)) (xs (i + 2)) (xs (i + 3)) σx _ (x_cell hx (xs (i + 1)) (xs (i + 2)) (xs (i + 3)) _ (fun σ' h' => ⟨rfl, h'⟩))) (fun r σ' hr => ?_)
  obtain ⟨rfl, hx'⟩ := hr
  refine zl_aload M 2 dL_law_960 rfl rfl ?_
  refine zl_arg (kk := 1) M 3 rfl rfl dL_law_961 dL_law_962 dL_law_963 dL_law_964 dL_law_965 (by decide) (by omega) ?_
  refine zl_arg (kk := 2) M 3 rfl rfl dL_law_966 dL_law_967 dL_law_968 dL_law_969 dL_law_970 (by decide) (by omega) ?_
  refine zl_arg (kk := 3) M 3 rfl rfl dL_law_971 dL_law_972 dL_law_973 dL_law_974 dL_law_975 (by decide) (by omega) ?_
  refine zl_callMI (d' := 3) (As := [.int (xs (i + 1)), .int (xs (i + 2)), .int (xs (i + 3))]) (rest := [.int (s_cell A (xs (i + 1)) (xs (i + 2)) (xs (i + 3))).1]) (Q' := fun r σ2 => r = (s_cell A (xs (i + 1)) (xs (i + 2)) (xs (i + 3))).1 ∧ RM (s_cell A (xs (i + 1)) (xs (i + 2)) (xs (i + 3))).2 σ2) M lw_l134 rfl dL_law_976 rfl rfl (by decide) (Nat.le_of_ble_eq_true rfl) (kX8_cell M.2.2.2.2.2.2.2.1.2 (xs (i + 1)) (xs (i + 2)) (xs (i + 3)) σm _ (m_cell hx.1 hm (xs (i + 1)) (xs (i + 2)) (xs (i + 3)) _ (fun σ2 h2 => ⟨rfl, h2⟩))) (fun r σ2 hr => ?_)
  obtain ⟨rfl, hm'⟩ := hr
  refine zl_eq M 1133 dL_law_979 (by decide) ?_
  exact next _ _ _ hx' hm'
set_option maxRecDepth 20000 in
theorem lc_29 (M : zLM p s m c b L xs D cA y adX adM) (hi : i + 6 ≤ L) {A : zA} {σx σm : zSt} (hx : RX A σx) (hm : RM A σm) (next : ∀ A' σx' σm', RX A' σx' → RM A' σm' → zL p l e s m below meth c b D cA adX adM 1133 [(0, .ref b), (1, .ref (adX 0)), (2, .ref (adM 0)), (3, .int (nI i))] [] σx' σm') : zL p l e s m below meth c b D cA adX adM 984 [(0, .ref b), (1, .ref (adX 0)), (2, .ref (adM 0)), (3, .int (nI i))] [] σx σm := by
  refine zl_aload M 1 dL_law_984 rfl rfl ?_
  refine zl_arg (kk := 1) M 3 rfl rfl dL_law_985 dL_law_986 dL_law_987 dL_law_988 dL_law_989 (by decide) (by omega) ?_
  refine zl_arg (kk := 2) M 3 rfl rfl dL_law_990 dL_law_991 dL_law_992 dL_law_993 dL_law_994 (by decide) (by omega) ?_
  refine zl_arg (kk := 3) M 3 rfl rfl dL_law_995 dL_law_996 dL_law_997 dL_law_998 dL_law_999 (by decide) (by omega) ?_
  refine zl_arg (kk := 4) M 3 rfl rfl dL_law_1000 dL_law_1001 dL_law_1002 dL_law_1003 dL_law_1004 (by decide) (by omega) ?_
  refine zl_arg (kk := 5) M 3 rfl rfl dL_law_1005 dL_law_1006 dL_law_1007 dL_law_1008 dL_law_1009 (by decide) (by omega) ?_
  refine zl_callXI (d' := 2) (As := [.int (xs (i + 1)), .int (xs (i + 2)), .int (xs (i + 3)), .int (xs (i + 4)), .int (xs (i + 5))]) (rest := []) (Q' := fun r σ' => r = (s_copy A (xs (i + 1)) (xs (i + 2)) (xs (i + 3)) (xs (i + 4)) (xs (i + 5))).1 ∧ RX (s_copy A (xs (i + 1)) (xs (i + 2)) (xs (i + 3)) (xs (i + 4)) (xs (i + 5))).2 σ') M lw_l135 rfl dL_law_1010 rfl rfl (by decide) (Nat.le_of_ble_eq_true rfl) (kX7_copy M.2.2.2.2.2.2.2.1.1 (xs (i + 1)) (xs (i + 2)) (xs (i + 3)) (xs (i + 4)) (xs (i + 5)) σx _ (x_copy hx (xs (i + 1)) (xs (i + 2)) (xs (i + 3)) (xs (i + 4)) (xs (i + 5)) _ (fun σ' h' => ⟨rfl, h'⟩))) (fun r σ' hr => ?_)
  obtain ⟨rfl, hx'⟩ := hr
  refine zl_aload M 2 dL_law_1013 rfl rfl ?_
  refine zl_arg (kk := 1) M 3 rfl rfl dL_law_1014 dL_law_1015 dL_law_1016 dL_law_1017 dL_law_1018 (by decide) (by omega) ?_
  refine zl_arg (kk := 2) M 3 rfl rfl dL_law_1019 dL_law_1020 dL_law_1021 dL_law_1022 dL_law_1023 (by decide) (by omega) ?_
  refine zl_arg (kk := 3) M 3 rfl rfl dL_law_1024 dL_law_1025 dL_law_1026 dL_law_1027 dL_law_1028 (by decide) (by omega) ?_
  refine zl_arg (kk := 4) M 3 rfl rfl dL_law_1029 dL_law_1030 dL_law_1031 dL_law_1032 dL_law_1033 (by decide) (by omega) ?_
  refine zl_arg (kk := 5) M 3 rfl rfl dL_law_1034 dL_law_1035 dL_law_1036 dL_law_1037 dL_law_1038 (by decide) (by omega) ?_
  refine zl_callMI (d' := 3) (As := [.int (xs (i + 1)), .int (xs (i + 2)), .int (xs (i + 3)), .int (xs (i + 4)), .int (xs (i + 5))]) (rest := [.int (s_copy A (xs (i + 1)) (xs (i + 2)) (xs (i + 3)) (xs (i + 4)) (xs (i + 5))).1]) (Q' := fun r σ2 => r = (s_copy A (xs (i + 1)) (xs (i + 2)) (xs (i + 3)) (xs (i + 4)) (xs (i + 5))).1 ∧ RM (s_copy A (xs (i + 1)) (xs (i + 2)) (xs (i + 3)) (xs (i + 4)) (xs (i + 5))).2 σ2) M lw_l139 rfl dL_law_1039 rfl rfl (by decide) (Nat.le_of_ble_eq_true rfl) (kX8_copy M.2.2.2.2.2.2.2.1.2 (xs (i + 1)) (xs (i + 2)) (xs (i + 3)) (xs (i + 4)) (xs (i + 5)) σm _ (m_copy hx.1 hm (xs (i + 1)) (xs (i + 2)) (xs (i + 3)) (xs (i + 4)) (xs (i + 5)) _ (fun σ2 h2 => ⟨rfl, h2⟩))) (fun r σ2 hr => ?_)
  obtain ⟨rfl, hm'⟩ := hr
  refine zl_eq M 1133 dL_law_1042 (by decide) ?_
  exact next _ _ _ hx' hm'
set_option maxRecDepth 20000 in
theorem lc_30 (M : zLM p s m c b L xs D cA y adX adM) (hi : i + 6 ≤ L) {A : zA} {σx σm : zSt} (hx : RX A σx) (hm : RM A σm) (next : ∀ A' σx' σm', RX A' σx' → RM A' σm' → zL p l e s m below meth c b D cA adX adM 1133 [(0, .ref b), (1, .ref (adX 0)), (2, .ref (adM 0)), (3, .int (nI i))] [] σx' σm') : zL p l e s m below meth c b D cA adX adM 1047 [(0, .ref b), (1, .ref (adX 0)), (2, .ref (adM 0)), (3, .int (nI i))] [] σx σm := by
  refine zl_aload M 1 dL_law_1047 rfl rfl ?_
  refine zl_arg (kk := 1) M 3 rfl rfl dL_law_1048 dL_law_1049 dL_law_1050 dL_law_1051 dL_law_1052 (by decide) (by omega) ?_
  refine zl_arg (kk := 2) M 3 rfl rfl dL_law_1053 dL_law_1054 dL_law_1055 dL_law_1056 dL_law_1057 (by decide) (by omega) ?_
  refine zl_arg (kk := 3) M 3 rfl rfl dL_law_1058 dL_law_1059 dL_law_1060 dL_law_1061 dL_law_1062 (by decide) (by omega) ?_
  refine zl_arg (kk := 4) M 3 rfl rfl dL_law_1063 dL_law_1064 dL_law_1065 dL_law_1066 dL_law_1067 (by decide) (by omega) ?_
  refine zl_callXI (d' := 5) (As := [.int (xs (i + 1)), .int (xs (i + 2)), .int (xs (i + 3)), .int (xs (i + 4))]) (rest := []) (Q' := fun r σ' => r = (s_comes A (xs (i + 1)) (xs (i + 2)) (xs (i + 3)) (xs (i + 4))).1 ∧ RX (s_comes A (xs (i + 1)) (xs (i + 2)) (xs (i + 3)) (xs (i + 4))).2 σ') M lw_l140 rfl dL_law_1068 rfl rfl (by decide) (Nat.le_of_ble_eq_true rfl) (kX7_comes M.2.2.2.2.2.2.2.1.1 (xs (i + 1)) (xs (i + 2)) (xs (i + 3)) (xs (i + 4)) σx _ (x_comes hx (xs (i + 1)) (xs (i + 2)) (xs (i + 3)) (xs (i + 4)) _ (fun σ' h' => ⟨rfl, h'⟩))) (fun r σ' hr => ?_)
  obtain ⟨rfl, hx'⟩ := hr
  refine zl_aload M 2 dL_law_1071 rfl rfl ?_
  refine zl_arg (kk := 1) M 3 rfl rfl dL_law_1072 dL_law_1073 dL_law_1074 dL_law_1075 dL_law_1076 (by decide) (by omega) ?_
  refine zl_arg (kk := 2) M 3 rfl rfl dL_law_1077 dL_law_1078 dL_law_1079 dL_law_1080 dL_law_1081 (by decide) (by omega) ?_
  refine zl_arg (kk := 3) M 3 rfl rfl dL_law_1082 dL_law_1083 dL_law_1084 dL_law_1085 dL_law_1086 (by decide) (by omega) ?_
  refine zl_arg (kk := 4) M 3 rfl rfl dL_law_1087 dL_law_1088 dL_law_1089 dL_law_1090 dL_law_1091 (by decide) (by omega) ?_
  refine zl_callMI (d' := 3) (As := [.int (xs (i + 1)), .int (xs (i + 2)), .int (xs (i + 3)), .int (xs (i + 4))]) (rest := [.int (s_comes A (xs (i + 1)) (xs (i + 2)) (xs (i + 3)) (xs (i + 4))).1]) (Q' := fun r σ2 => r = (s_comes A (xs (i + 1)) (xs (i + 2)) (xs (i + 3)) (xs (i + 4))).1 ∧ RM (s_comes A (xs (i + 1)) (xs (i + 2)) (xs (i + 3)) (xs (i + 4))).2 σ2) M lw_l143 rfl dL_law_1092 rfl rfl (by decide) (Nat.le_of_ble_eq_true rfl) (kX8_comes M.2.2.2.2.2.2.2.1.2 (xs (i + 1)) (xs (i + 2)) (xs (i + 3)) (xs (i + 4)) σm _ (m_comes hx.1 hm (xs (i + 1)) (xs (i + 2)) (xs (i + 3)) (xs (i + 4)) _ (fun σ2 h2 => ⟨rfl, h2⟩))) (fun r σ2 hr => ?_)
  obtain ⟨rfl, hm'⟩ := hr
  refine zl_eq M 1133 dL_law_1095 (by decide) ?_
  exact next _ _ _ hx' hm'
set_option maxRecDepth 20000 in
theorem lc_31 (M : zLM p s m c b L xs D cA y adX adM) (hi : i + 6 ≤ L) {A : zA} {σx σm : zSt} (hx : RX A σx) (hm : RM A σm) (next : ∀ A' σx' σm', RX A' σx' → RM A' σm' → zL p l e s m below meth c b D cA adX adM 1133 [(0, .ref b), (1, .ref (adX 0)), (2, .ref (adM 0)), (3, .int (nI i))] [] σx' σm') : zL p l e s m below meth c b D cA adX adM 1100 [(0, .ref b), (1, .ref (adX 0)), (2, .ref (adM 0)), (3, .int (nI i))] [] σx σm := by
  refine zl_aload M 1 dL_law_1100 rfl rfl ?_
  refine zl_arg (kk := 1) M 3 rfl rfl dL_law_1101 dL_law_1102 dL_law_1103 dL_law_1104 dL_law_1105 (by decide) (by omega) ?_
  refine zl_arg (kk := 2) M 3 rfl rfl dL_law_1106 dL_law_1107 dL_law_1108 dL_law_1109 dL_law_1110 (by decide) (by omega) ?_
  refine zl_callXI (d' := 2) (As := [.int (xs (i + 1)), .int (xs (i + 2))]) (rest := []) (Q' := fun r σ' => r = (s_taken A (xs (i + 1)) (xs (i + 2))).1 ∧ RX (s_taken A (xs (i + 1)) (xs (i + 2))).2 σ') M lw_l144 rfl dL_law_1111 rfl rfl (by decide) (Nat.le_of_ble_eq_true rfl) (kX7_taken M.2.2.2.2.2.2.2.1.1 (xs (i + 1)) (xs (i + 2)) σx _ (x_taken hx (xs (i + 1)) (xs (i + 2)) _ (fun σ' h' => ⟨rfl, h'⟩))) (fun r σ' hr => ?_)
  obtain ⟨rfl, hx'⟩ := hr
  refine zl_aload M 2 dL_law_1114 rfl rfl ?_
  refine zl_arg (kk := 1) M 3 rfl rfl dL_law_1115 dL_law_1116 dL_law_1117 dL_law_1118 dL_law_1119 (by decide) (by omega) ?_
  refine zl_arg (kk := 2) M 3 rfl rfl dL_law_1120 dL_law_1121 dL_law_1122 dL_law_1123 dL_law_1124 (by decide) (by omega) ?_
  refine zl_callMI (d' := 2) (As := [.int (xs (i + 1)), .int (xs (i + 2))]) (rest := [.int (s_taken A (xs (i + 1)) (xs (i + 2))).1]) (Q' := fun r σ2 => r = (s_taken A (xs (i + 1)) (xs (i + 2))).1 ∧ RM (s_taken A (xs (i + 1)) (xs (i + 2))).2 σ2) M lw_l147 rfl dL_law_1125 rfl rfl (by decide) (Nat.le_of_ble_eq_true rfl) (kX8_taken M.2.2.2.2.2.2.2.1.2 (xs (i + 1)) (xs (i + 2)) σm _ (m_taken hx.1 hm (xs (i + 1)) (xs (i + 2)) _ (fun σ2 h2 => ⟨rfl, h2⟩))) (fun r σ2 hr => ?_)
  obtain ⟨rfl, hm'⟩ := hr
  refine zl_eq M 1133 dL_law_1128 (by decide) ?_
  exact next _ _ _ hx' hm'

end zCases
