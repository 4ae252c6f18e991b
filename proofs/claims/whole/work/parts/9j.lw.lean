theorem ml_L_30 : Cond.methodLink RL 30 yX9_sign ∈ sw_T := sw_mem 426 (by decide +kernel) rfl
set_option maxRecDepth 50000 in
theorem wv_X9_sign : sw_V yX9_sign cX9_sign 2 (some .int) 1 := ⟨sw_mem 427 (by decide +kernel) rfl, sw_mem 428 (by decide +kernel) rfl, sw_mem 87 (by decide +kernel) rfl, sw_mem 429 rfl rfl, ⟨by decide +kernel, by decide +kernel, by decide +kernel⟩⟩
theorem ml_L_33 : Cond.methodLink RL 33 yX10_sign ∈ sw_T := sw_mem 1105 (by decide +kernel) rfl
set_option maxRecDepth 50000 in
theorem wv_X10_sign : sw_V yX10_sign cX10_sign 3 (some .int) 1 := ⟨sw_mem 1106 (by decide +kernel) rfl, sw_mem 1107 (by decide +kernel) rfl, sw_mem 98 (by decide +kernel) rfl, sw_mem 1108 rfl rfl, ⟨by decide +kernel, by decide +kernel, by decide +kernel⟩⟩
theorem ml_L_34 : Cond.methodLink RL 34 yX9_end ∈ sw_T := sw_mem 434 (by decide +kernel) rfl
set_option maxRecDepth 50000 in
theorem wv_X9_end : sw_V yX9_end cX9_end 2 (some .boolean) 1 := ⟨sw_mem 435 (by decide +kernel) rfl, sw_mem 436 (by decide +kernel) rfl, sw_mem 87 (by decide +kernel) rfl, sw_mem 437 rfl rfl, ⟨by decide +kernel, by decide +kernel, by decide +kernel⟩⟩
theorem ml_L_38 : Cond.methodLink RL 38 yX10_end ∈ sw_T := sw_mem 1109 (by decide +kernel) rfl
set_option maxRecDepth 50000 in
theorem wv_X10_end : sw_V yX10_end cX10_end 2 (some .boolean) 1 := ⟨sw_mem 1110 (by decide +kernel) rfl, sw_mem 1111 (by decide +kernel) rfl, sw_mem 98 (by decide +kernel) rfl, sw_mem 1112 rfl rfl, ⟨by decide +kernel, by decide +kernel, by decide +kernel⟩⟩
theorem ml_L_39 : Cond.methodLink RL 39 yX9_floors ∈ sw_T := sw_mem 438 (by decide +kernel) rfl
set_option maxRecDepth 50000 in
theorem wv_X9_floors : sw_V yX9_floors cX9_floors 2 (some .boolean) 1 := ⟨sw_mem 439 (by decide +kernel) rfl, sw_mem 440 (by decide +kernel) rfl, sw_mem 87 (by decide +kernel) rfl, sw_mem 441 rfl rfl, ⟨by decide +kernel, by decide +kernel, by decide +kernel⟩⟩
theorem ml_L_42 : Cond.methodLink RL 42 yX10_floors ∈ sw_T := sw_mem 1116 (by decide +kernel) rfl
set_option maxRecDepth 50000 in
theorem wv_X10_floors : sw_V yX10_floors cX10_floors 3 (some .boolean) 1 := ⟨sw_mem 1117 (by decide +kernel) rfl, sw_mem 1118 (by decide +kernel) rfl, sw_mem 98 (by decide +kernel) rfl, sw_mem 1119 rfl rfl, ⟨by decide +kernel, by decide +kernel, by decide +kernel⟩⟩
theorem ml_L_43 : Cond.methodLink RL 43 yX9_house ∈ sw_T := sw_mem 454 (by decide +kernel) rfl
set_option maxRecDepth 50000 in
theorem wv_X9_house : sw_V yX9_house cX9_house 3 (some .int) 0 := ⟨sw_mem 455 (by decide +kernel) rfl, sw_mem 456 (by decide +kernel) rfl, sw_mem 87 (by decide +kernel) rfl, sw_mem 457 rfl rfl, ⟨by decide +kernel, by decide +kernel, by decide +kernel⟩⟩
theorem ml_L_47 : Cond.methodLink RL 47 yX10_house ∈ sw_T := sw_mem 1122 (by decide +kernel) rfl
set_option maxRecDepth 50000 in
theorem wv_X10_house : sw_V yX10_house cX10_house 6 (some .int) 0 := ⟨sw_mem 1123 (by decide +kernel) rfl, sw_mem 1124 (by decide +kernel) rfl, sw_mem 98 (by decide +kernel) rfl, sw_mem 1125 rfl rfl, ⟨by decide +kernel, by decide +kernel, by decide +kernel⟩⟩
theorem ml_L_48 : Cond.methodLink RL 48 yX9_law ∈ sw_T := sw_mem 490 (by decide +kernel) rfl
set_option maxRecDepth 50000 in
theorem wv_X9_law : sw_V yX9_law cX9_law 2 (some .int) 0 := ⟨sw_mem 491 (by decide +kernel) rfl, sw_mem 492 (by decide +kernel) rfl, sw_mem 87 (by decide +kernel) rfl, sw_mem 493 rfl rfl, ⟨by decide +kernel, by decide +kernel, by decide +kernel⟩⟩
theorem ml_L_51 : Cond.methodLink RL 51 yX10_law ∈ sw_T := sw_mem 1165 (by decide +kernel) rfl
set_option maxRecDepth 50000 in
theorem wv_X10_law : sw_V yX10_law cX10_law 5 (some .int) 0 := ⟨sw_mem 1166 (by decide +kernel) rfl, sw_mem 1167 (by decide +kernel) rfl, sw_mem 98 (by decide +kernel) rfl, sw_mem 1168 rfl rfl, ⟨by decide +kernel, by decide +kernel, by decide +kernel⟩⟩
theorem ml_L_57 : Cond.methodLink RL 57 yX10_of ∈ sw_T := sw_mem 1238 (by decide +kernel) rfl
set_option maxRecDepth 50000 in
theorem wv_X10_of : sw_V yX10_of cX10_of 3 (some .int) 2 := ⟨sw_mem 1239 (by decide +kernel) rfl, sw_mem 1240 (by decide +kernel) rfl, sw_mem 98 (by decide +kernel) rfl, sw_mem 1241 rfl rfl, ⟨by decide +kernel, by decide +kernel, by decide +kernel⟩⟩
theorem ml_L_58 : Cond.methodLink RL 58 yX10_thrown ∈ sw_T := sw_mem 1101 (by decide +kernel) rfl
set_option maxRecDepth 50000 in
theorem wv_X10_thrown : sw_V yX10_thrown cX10_thrown 1 (some .int) 0 := ⟨sw_mem 1102 (by decide +kernel) rfl, sw_mem 1103 (by decide +kernel) rfl, sw_mem 98 (by decide +kernel) rfl, sw_mem 1104 rfl rfl, ⟨by decide +kernel, by decide +kernel, by decide +kernel⟩⟩
theorem ml_L_61 : Cond.methodLink RL 61 yX9_set ∈ sw_T := sw_mem 539 (by decide +kernel) rfl
set_option maxRecDepth 50000 in
theorem wv_X9_set : sw_V yX9_set cX9_set 4 (some .boolean) 3 := ⟨sw_mem 540 (by decide +kernel) rfl, sw_mem 541 (by decide +kernel) rfl, sw_mem 87 (by decide +kernel) rfl, sw_mem 542 rfl rfl, ⟨by decide +kernel, by decide +kernel, by decide +kernel⟩⟩
theorem ml_L_65 : Cond.methodLink RL 65 yX10_set ∈ sw_T := sw_mem 1254 (by decide +kernel) rfl
set_option maxRecDepth 50000 in
theorem wv_X10_set : sw_V yX10_set cX10_set 5 (some .boolean) 3 := ⟨sw_mem 1255 (by decide +kernel) rfl, sw_mem 1256 (by decide +kernel) rfl, sw_mem 98 (by decide +kernel) rfl, sw_mem 1257 rfl rfl, ⟨by decide +kernel, by decide +kernel, by decide +kernel⟩⟩
theorem ml_L_66 : Cond.methodLink RL 66 yX9_sheet ∈ sw_T := sw_mem 552 (by decide +kernel) rfl
set_option maxRecDepth 50000 in
theorem wv_X9_sheet : sw_V yX9_sheet cX9_sheet 10 (some .int) 4 := ⟨sw_mem 553 (by decide +kernel) rfl, sw_mem 554 (by decide +kernel) rfl, sw_mem 87 (by decide +kernel) rfl, sw_mem 555 rfl rfl, ⟨by decide +kernel, by decide +kernel, by decide +kernel⟩⟩
theorem ml_L_70 : Cond.methodLink RL 70 yX10_sheet ∈ sw_T := sw_mem 1259 (by decide +kernel) rfl
set_option maxRecDepth 50000 in
theorem wv_X10_sheet : sw_V yX10_sheet cX10_sheet 10 (some .int) 4 := ⟨sw_mem 1260 (by decide +kernel) rfl, sw_mem 1261 (by decide +kernel) rfl, sw_mem 98 (by decide +kernel) rfl, sw_mem 1262 rfl rfl, ⟨by decide +kernel, by decide +kernel, by decide +kernel⟩⟩
theorem ml_L_71 : Cond.methodLink RL 71 yX9_dog ∈ sw_T := sw_mem 559 (by decide +kernel) rfl
set_option maxRecDepth 50000 in
theorem wv_X9_dog : sw_V yX9_dog cX9_dog 2 (some .boolean) 1 := ⟨sw_mem 560 (by decide +kernel) rfl, sw_mem 561 (by decide +kernel) rfl, sw_mem 87 (by decide +kernel) rfl, sw_mem 562 rfl rfl, ⟨by decide +kernel, by decide +kernel, by decide +kernel⟩⟩
theorem ml_L_74 : Cond.methodLink RL 74 yX10_dog ∈ sw_T := sw_mem 1264 (by decide +kernel) rfl
set_option maxRecDepth 50000 in
theorem wv_X10_dog : sw_V yX10_dog cX10_dog 2 (some .boolean) 1 := ⟨sw_mem 1265 (by decide +kernel) rfl, sw_mem 1266 (by decide +kernel) rfl, sw_mem 98 (by decide +kernel) rfl, sw_mem 1267 rfl rfl, ⟨by decide +kernel, by decide +kernel, by decide +kernel⟩⟩
theorem ml_L_75 : Cond.methodLink RL 75 yX9_crowd ∈ sw_T := sw_mem 563 (by decide +kernel) rfl
set_option maxRecDepth 50000 in
theorem wv_X9_crowd : sw_V yX9_crowd cX9_crowd 8 (some .int) 2 := ⟨sw_mem 564 (by decide +kernel) rfl, sw_mem 565 (by decide +kernel) rfl, sw_mem 87 (by decide +kernel) rfl, sw_mem 566 rfl rfl, ⟨by decide +kernel, by decide +kernel, by decide +kernel⟩⟩
theorem ml_L_78 : Cond.methodLink RL 78 yX10_crowd ∈ sw_T := sw_mem 1268 (by decide +kernel) rfl
set_option maxRecDepth 50000 in
theorem wv_X10_crowd : sw_V yX10_crowd cX10_crowd 6 (some .int) 2 := ⟨sw_mem 1269 (by decide +kernel) rfl, sw_mem 1270 (by decide +kernel) rfl, sw_mem 98 (by decide +kernel) rfl, sw_mem 1271 rfl rfl, ⟨by decide +kernel, by decide +kernel, by decide +kernel⟩⟩
theorem ml_L_79 : Cond.methodLink RL 79 yX9_enter ∈ sw_T := sw_mem 575 (by decide +kernel) rfl
set_option maxRecDepth 50000 in
theorem wv_X9_enter : sw_V yX9_enter cX9_enter 2 (some .boolean) 1 := ⟨sw_mem 576 (by decide +kernel) rfl, sw_mem 577 (by decide +kernel) rfl, sw_mem 87 (by decide +kernel) rfl, sw_mem 578 rfl rfl, ⟨by decide +kernel, by decide +kernel, by decide +kernel⟩⟩
theorem ml_L_82 : Cond.methodLink RL 82 yX10_enter ∈ sw_T := sw_mem 1281 (by decide +kernel) rfl
set_option maxRecDepth 50000 in
theorem wv_X10_enter : sw_V yX10_enter cX10_enter 2 (some .boolean) 1 := ⟨sw_mem 1282 (by decide +kernel) rfl, sw_mem 1283 (by decide +kernel) rfl, sw_mem 98 (by decide +kernel) rfl, sw_mem 1284 rfl rfl, ⟨by decide +kernel, by decide +kernel, by decide +kernel⟩⟩
theorem ml_L_83 : Cond.methodLink RL 83 yX9_leave ∈ sw_T := sw_mem 603 (by decide +kernel) rfl
set_option maxRecDepth 50000 in
theorem wv_X9_leave : sw_V yX9_leave cX9_leave 2 (some .boolean) 1 := ⟨sw_mem 604 (by decide +kernel) rfl, sw_mem 605 (by decide +kernel) rfl, sw_mem 87 (by decide +kernel) rfl, sw_mem 606 rfl rfl, ⟨by decide +kernel, by decide +kernel, by decide +kernel⟩⟩
theorem ml_L_86 : Cond.methodLink RL 86 yX10_leave ∈ sw_T := sw_mem 1297 (by decide +kernel) rfl
set_option maxRecDepth 50000 in
theorem wv_X10_leave : sw_V yX10_leave cX10_leave 2 (some .boolean) 1 := ⟨sw_mem 1298 (by decide +kernel) rfl, sw_mem 1299 (by decide +kernel) rfl, sw_mem 98 (by decide +kernel) rfl, sw_mem 1300 rfl rfl, ⟨by decide +kernel, by decide +kernel, by decide +kernel⟩⟩
theorem ml_L_87 : Cond.methodLink RL 87 yX9_ride ∈ sw_T := sw_mem 608 (by decide +kernel) rfl
set_option maxRecDepth 50000 in
theorem wv_X9_ride : sw_V yX9_ride cX9_ride 2 (some .int) 0 := ⟨sw_mem 609 (by decide +kernel) rfl, sw_mem 610 (by decide +kernel) rfl, sw_mem 87 (by decide +kernel) rfl, sw_mem 611 rfl rfl, ⟨by decide +kernel, by decide +kernel, by decide +kernel⟩⟩
theorem ml_L_90 : Cond.methodLink RL 90 yX10_ride ∈ sw_T := sw_mem 1305 (by decide +kernel) rfl
set_option maxRecDepth 50000 in
theorem wv_X10_ride : sw_V yX10_ride cX10_ride 2 (some .int) 0 := ⟨sw_mem 1306 (by decide +kernel) rfl, sw_mem 1307 (by decide +kernel) rfl, sw_mem 98 (by decide +kernel) rfl, sw_mem 1308 rfl rfl, ⟨by decide +kernel, by decide +kernel, by decide +kernel⟩⟩
theorem ml_L_91 : Cond.methodLink RL 91 yX9_rides ∈ sw_T := sw_mem 660 (by decide +kernel) rfl
set_option maxRecDepth 50000 in
theorem wv_X9_rides : sw_V yX9_rides cX9_rides 4 (some .int) 1 := ⟨sw_mem 661 (by decide +kernel) rfl, sw_mem 662 (by decide +kernel) rfl, sw_mem 87 (by decide +kernel) rfl, sw_mem 663 rfl rfl, ⟨by decide +kernel, by decide +kernel, by decide +kernel⟩⟩
theorem ml_L_94 : Cond.methodLink RL 94 yX10_rides ∈ sw_T := sw_mem 1342 (by decide +kernel) rfl
set_option maxRecDepth 50000 in
theorem wv_X10_rides : sw_V yX10_rides cX10_rides 4 (some .int) 1 := ⟨sw_mem 1343 (by decide +kernel) rfl, sw_mem 1344 (by decide +kernel) rfl, sw_mem 98 (by decide +kernel) rfl, sw_mem 1345 rfl rfl, ⟨by decide +kernel, by decide +kernel, by decide +kernel⟩⟩
theorem ml_L_95 : Cond.methodLink RL 95 yX9_day ∈ sw_T := sw_mem 664 (by decide +kernel) rfl
set_option maxRecDepth 50000 in
theorem wv_X9_day : sw_V yX9_day cX9_day 3 (some .int) 0 := ⟨sw_mem 665 (by decide +kernel) rfl, sw_mem 666 (by decide +kernel) rfl, sw_mem 87 (by decide +kernel) rfl, sw_mem 667 rfl rfl, ⟨by decide +kernel, by decide +kernel, by decide +kernel⟩⟩
theorem ml_L_98 : Cond.methodLink RL 98 yX10_day ∈ sw_T := sw_mem 1347 (by decide +kernel) rfl
set_option maxRecDepth 50000 in
theorem wv_X10_day : sw_V yX10_day cX10_day 6 (some .int) 0 := ⟨sw_mem 1348 (by decide +kernel) rfl, sw_mem 1349 (by decide +kernel) rfl, sw_mem 98 (by decide +kernel) rfl, sw_mem 1350 rfl rfl, ⟨by decide +kernel, by decide +kernel, by decide +kernel⟩⟩
theorem ml_L_99 : Cond.methodLink RL 99 yX9_undo ∈ sw_T := sw_mem 704 (by decide +kernel) rfl
set_option maxRecDepth 50000 in
theorem wv_X9_undo : sw_V yX9_undo cX9_undo 1 (some .int) 0 := ⟨sw_mem 705 (by decide +kernel) rfl, sw_mem 706 (by decide +kernel) rfl, sw_mem 87 (by decide +kernel) rfl, sw_mem 707 rfl rfl, ⟨by decide +kernel, by decide +kernel, by decide +kernel⟩⟩
theorem ml_L_102 : Cond.methodLink RL 102 yX10_undo ∈ sw_T := sw_mem 1277 (by decide +kernel) rfl
set_option maxRecDepth 50000 in
theorem wv_X10_undo : sw_V yX10_undo cX10_undo 2 (some .int) 0 := ⟨sw_mem 1278 (by decide +kernel) rfl, sw_mem 1279 (by decide +kernel) rfl, sw_mem 98 (by decide +kernel) rfl, sw_mem 1280 rfl rfl, ⟨by decide +kernel, by decide +kernel, by decide +kernel⟩⟩
theorem ml_L_103 : Cond.methodLink RL 103 yX9_stop ∈ sw_T := sw_mem 712 (by decide +kernel) rfl
set_option maxRecDepth 50000 in
theorem wv_X9_stop : sw_V yX9_stop cX9_stop 1 (some .int) 0 := ⟨sw_mem 713 (by decide +kernel) rfl, sw_mem 714 (by decide +kernel) rfl, sw_mem 87 (by decide +kernel) rfl, sw_mem 715 rfl rfl, ⟨by decide +kernel, by decide +kernel, by decide +kernel⟩⟩
theorem ml_L_106 : Cond.methodLink RL 106 yX10_stop ∈ sw_T := sw_mem 1360 (by decide +kernel) rfl
set_option maxRecDepth 50000 in
theorem wv_X10_stop : sw_V yX10_stop cX10_stop 1 (some .int) 0 := ⟨sw_mem 1361 (by decide +kernel) rfl, sw_mem 1362 (by decide +kernel) rfl, sw_mem 98 (by decide +kernel) rfl, sw_mem 1363 rfl rfl, ⟨by decide +kernel, by decide +kernel, by decide +kernel⟩⟩
theorem ml_L_107 : Cond.methodLink RL 107 yX9_goes ∈ sw_T := sw_mem 717 (by decide +kernel) rfl
set_option maxRecDepth 50000 in
theorem wv_X9_goes : sw_V yX9_goes cX9_goes 4 (some .int) 1 := ⟨sw_mem 718 (by decide +kernel) rfl, sw_mem 719 (by decide +kernel) rfl, sw_mem 87 (by decide +kernel) rfl, sw_mem 720 rfl rfl, ⟨by decide +kernel, by decide +kernel, by decide +kernel⟩⟩
theorem ml_L_110 : Cond.methodLink RL 110 yX10_goes ∈ sw_T := sw_mem 1364 (by decide +kernel) rfl
set_option maxRecDepth 50000 in
theorem wv_X10_goes : sw_V yX10_goes cX10_goes 4 (some .int) 1 := ⟨sw_mem 1365 (by decide +kernel) rfl, sw_mem 1366 (by decide +kernel) rfl, sw_mem 98 (by decide +kernel) rfl, sw_mem 1367 rfl rfl, ⟨by decide +kernel, by decide +kernel, by decide +kernel⟩⟩
theorem ml_L_114 : Cond.methodLink RL 114 yX10_worthOf ∈ sw_T := sw_mem 1372 (by decide +kernel) rfl
set_option maxRecDepth 50000 in
theorem wv_X10_worthOf : sw_V yX10_worthOf cX10_worthOf 2 (some .int) 1 := ⟨sw_mem 1373 (by decide +kernel) rfl, sw_mem 1374 (by decide +kernel) rfl, sw_mem 98 (by decide +kernel) rfl, sw_mem 1375 rfl rfl, ⟨by decide +kernel, by decide +kernel, by decide +kernel⟩⟩
theorem ml_L_115 : Cond.methodLink RL 115 yX9_can ∈ sw_T := sw_mem 727 (by decide +kernel) rfl
set_option maxRecDepth 50000 in
theorem wv_X9_can : sw_V yX9_can cX9_can 6 (some .int) 0 := ⟨sw_mem 728 (by decide +kernel) rfl, sw_mem 729 (by decide +kernel) rfl, sw_mem 87 (by decide +kernel) rfl, sw_mem 730 rfl rfl, ⟨by decide +kernel, by decide +kernel, by decide +kernel⟩⟩
theorem ml_L_118 : Cond.methodLink RL 118 yX10_can ∈ sw_T := sw_mem 1376 (by decide +kernel) rfl
set_option maxRecDepth 50000 in
theorem wv_X10_can : sw_V yX10_can cX10_can 4 (some .int) 0 := ⟨sw_mem 1377 (by decide +kernel) rfl, sw_mem 1378 (by decide +kernel) rfl, sw_mem 98 (by decide +kernel) rfl, sw_mem 1379 rfl rfl, ⟨by decide +kernel, by decide +kernel, by decide +kernel⟩⟩
theorem ml_L_119 : Cond.methodLink RL 119 yX9_along ∈ sw_T := sw_mem 745 (by decide +kernel) rfl
set_option maxRecDepth 50000 in
theorem wv_X9_along : sw_V yX9_along cX9_along 2 (some .int) 1 := ⟨sw_mem 746 (by decide +kernel) rfl, sw_mem 747 (by decide +kernel) rfl, sw_mem 87 (by decide +kernel) rfl, sw_mem 748 rfl rfl, ⟨by decide +kernel, by decide +kernel, by decide +kernel⟩⟩
theorem ml_L_122 : Cond.methodLink RL 122 yX10_along ∈ sw_T := sw_mem 1380 (by decide +kernel) rfl
set_option maxRecDepth 50000 in
theorem wv_X10_along : sw_V yX10_along cX10_along 2 (some .int) 1 := ⟨sw_mem 1381 (by decide +kernel) rfl, sw_mem 1382 (by decide +kernel) rfl, sw_mem 98 (by decide +kernel) rfl, sw_mem 1383 rfl rfl, ⟨by decide +kernel, by decide +kernel, by decide +kernel⟩⟩
theorem ml_L_123 : Cond.methodLink RL 123 yX9_without ∈ sw_T := sw_mem 753 (by decide +kernel) rfl
set_option maxRecDepth 50000 in
theorem wv_X9_without : sw_V yX9_without cX9_without 2 (some .int) 1 := ⟨sw_mem 754 (by decide +kernel) rfl, sw_mem 755 (by decide +kernel) rfl, sw_mem 87 (by decide +kernel) rfl, sw_mem 756 rfl rfl, ⟨by decide +kernel, by decide +kernel, by decide +kernel⟩⟩
theorem ml_L_126 : Cond.methodLink RL 126 yX10_without ∈ sw_T := sw_mem 1388 (by decide +kernel) rfl
set_option maxRecDepth 50000 in
theorem wv_X10_without : sw_V yX10_without cX10_without 2 (some .int) 1 := ⟨sw_mem 1389 (by decide +kernel) rfl, sw_mem 1390 (by decide +kernel) rfl, sw_mem 98 (by decide +kernel) rfl, sw_mem 1391 rfl rfl, ⟨by decide +kernel, by decide +kernel, by decide +kernel⟩⟩
theorem ml_L_127 : Cond.methodLink RL 127 yX9_advise ∈ sw_T := sw_mem 757 (by decide +kernel) rfl
set_option maxRecDepth 50000 in
theorem wv_X9_advise : sw_V yX9_advise cX9_advise 3 (some .int) 1 := ⟨sw_mem 758 (by decide +kernel) rfl, sw_mem 759 (by decide +kernel) rfl, sw_mem 87 (by decide +kernel) rfl, sw_mem 760 rfl rfl, ⟨by decide +kernel, by decide +kernel, by decide +kernel⟩⟩
theorem ml_L_130 : Cond.methodLink RL 130 yX10_advise ∈ sw_T := sw_mem 1392 (by decide +kernel) rfl
set_option maxRecDepth 50000 in
theorem wv_X10_advise : sw_V yX10_advise cX10_advise 3 (some .int) 1 := ⟨sw_mem 1393 (by decide +kernel) rfl, sw_mem 1394 (by decide +kernel) rfl, sw_mem 98 (by decide +kernel) rfl, sw_mem 1395 rfl rfl, ⟨by decide +kernel, by decide +kernel, by decide +kernel⟩⟩
theorem ml_L_131 : Cond.methodLink RL 131 yX9_rests ∈ sw_T := sw_mem 771 (by decide +kernel) rfl
set_option maxRecDepth 50000 in
theorem wv_X9_rests : sw_V yX9_rests cX9_rests 5 (some .int) 1 := ⟨sw_mem 772 (by decide +kernel) rfl, sw_mem 773 (by decide +kernel) rfl, sw_mem 87 (by decide +kernel) rfl, sw_mem 774 rfl rfl, ⟨by decide +kernel, by decide +kernel, by decide +kernel⟩⟩
theorem ml_L_134 : Cond.methodLink RL 134 yX10_rests ∈ sw_T := sw_mem 1400 (by decide +kernel) rfl
set_option maxRecDepth 50000 in
theorem wv_X10_rests : sw_V yX10_rests cX10_rests 6 (some .int) 1 := ⟨sw_mem 1401 (by decide +kernel) rfl, sw_mem 1402 (by decide +kernel) rfl, sw_mem 98 (by decide +kernel) rfl, sw_mem 1403 rfl rfl, ⟨by decide +kernel, by decide +kernel, by decide +kernel⟩⟩
theorem ml_L_135 : Cond.methodLink RL 135 yX9_then ∈ sw_T := sw_mem 779 (by decide +kernel) rfl
set_option maxRecDepth 50000 in
theorem wv_X9_then : sw_V yX9_then cX9_then 4 (some .int) 1 := ⟨sw_mem 780 (by decide +kernel) rfl, sw_mem 781 (by decide +kernel) rfl, sw_mem 87 (by decide +kernel) rfl, sw_mem 782 rfl rfl, ⟨by decide +kernel, by decide +kernel, by decide +kernel⟩⟩
theorem ml_L_138 : Cond.methodLink RL 138 yX10_then ∈ sw_T := sw_mem 1408 (by decide +kernel) rfl
set_option maxRecDepth 50000 in
theorem wv_X10_then : sw_V yX10_then cX10_then 4 (some .int) 1 := ⟨sw_mem 1409 (by decide +kernel) rfl, sw_mem 1410 (by decide +kernel) rfl, sw_mem 98 (by decide +kernel) rfl, sw_mem 1411 rfl rfl, ⟨by decide +kernel, by decide +kernel, by decide +kernel⟩⟩
theorem ml_L_139 : Cond.methodLink RL 139 yX9_since ∈ sw_T := sw_mem 783 (by decide +kernel) rfl
set_option maxRecDepth 50000 in
theorem wv_X9_since : sw_V yX9_since cX9_since 3 (some .int) 1 := ⟨sw_mem 784 (by decide +kernel) rfl, sw_mem 785 (by decide +kernel) rfl, sw_mem 87 (by decide +kernel) rfl, sw_mem 786 rfl rfl, ⟨by decide +kernel, by decide +kernel, by decide +kernel⟩⟩
theorem ml_L_142 : Cond.methodLink RL 142 yX10_since ∈ sw_T := sw_mem 1413 (by decide +kernel) rfl
set_option maxRecDepth 50000 in
theorem wv_X10_since : sw_V yX10_since cX10_since 3 (some .int) 1 := ⟨sw_mem 1414 (by decide +kernel) rfl, sw_mem 1415 (by decide +kernel) rfl, sw_mem 98 (by decide +kernel) rfl, sw_mem 1416 rfl rfl, ⟨by decide +kernel, by decide +kernel, by decide +kernel⟩⟩
theorem ml_L_145 : Cond.methodLink RL 145 yX10_ballast ∈ sw_T := sw_mem 1421 (by decide +kernel) rfl
set_option maxRecDepth 50000 in
theorem wv_X10_ballast : sw_V yX10_ballast cX10_ballast 4 (some .int) 2 := ⟨sw_mem 1422 (by decide +kernel) rfl, sw_mem 1423 (by decide +kernel) rfl, sw_mem 98 (by decide +kernel) rfl, sw_mem 1424 rfl rfl, ⟨by decide +kernel, by decide +kernel, by decide +kernel⟩⟩
theorem ml_L_146 : Cond.methodLink RL 146 yX9_hinders ∈ sw_T := sw_mem 787 (by decide +kernel) rfl
set_option maxRecDepth 50000 in
theorem wv_X9_hinders : sw_V yX9_hinders cX9_hinders 6 (some .int) 1 := ⟨sw_mem 788 (by decide +kernel) rfl, sw_mem 789 (by decide +kernel) rfl, sw_mem 87 (by decide +kernel) rfl, sw_mem 790 rfl rfl, ⟨by decide +kernel, by decide +kernel, by decide +kernel⟩⟩
theorem ml_L_149 : Cond.methodLink RL 149 yX10_hinders ∈ sw_T := sw_mem 1430 (by decide +kernel) rfl
set_option maxRecDepth 50000 in
theorem wv_X10_hinders : sw_V yX10_hinders cX10_hinders 6 (some .int) 1 := ⟨sw_mem 1431 (by decide +kernel) rfl, sw_mem 1432 (by decide +kernel) rfl, sw_mem 98 (by decide +kernel) rfl, sw_mem 1433 rfl rfl, ⟨by decide +kernel, by decide +kernel, by decide +kernel⟩⟩
theorem ml_L_150 : Cond.methodLink RL 150 yX9_all ∈ sw_T := sw_mem 795 (by decide +kernel) rfl
set_option maxRecDepth 50000 in
theorem wv_X9_all : sw_V yX9_all cX9_all 1 (some .int) 0 := ⟨sw_mem 796 (by decide +kernel) rfl, sw_mem 797 (by decide +kernel) rfl, sw_mem 87 (by decide +kernel) rfl, sw_mem 798 rfl rfl, ⟨by decide +kernel, by decide +kernel, by decide +kernel⟩⟩
theorem ml_L_153 : Cond.methodLink RL 153 yX10_all ∈ sw_T := sw_mem 1435 (by decide +kernel) rfl
set_option maxRecDepth 50000 in
theorem wv_X10_all : sw_V yX10_all cX10_all 1 (some .int) 0 := ⟨sw_mem 1436 (by decide +kernel) rfl, sw_mem 1437 (by decide +kernel) rfl, sw_mem 98 (by decide +kernel) rfl, sw_mem 1438 rfl rfl, ⟨by decide +kernel, by decide +kernel, by decide +kernel⟩⟩
theorem ml_L_154 : Cond.methodLink RL 154 yX9_one ∈ sw_T := sw_mem 873 (by decide +kernel) rfl
set_option maxRecDepth 50000 in
theorem wv_X9_one : sw_V yX9_one cX9_one 2 (some .int) 1 := ⟨sw_mem 874 (by decide +kernel) rfl, sw_mem 875 (by decide +kernel) rfl, sw_mem 87 (by decide +kernel) rfl, sw_mem 876 rfl rfl, ⟨by decide +kernel, by decide +kernel, by decide +kernel⟩⟩
theorem ml_L_157 : Cond.methodLink RL 157 yX10_one ∈ sw_T := sw_mem 1484 (by decide +kernel) rfl
set_option maxRecDepth 50000 in
theorem wv_X10_one : sw_V yX10_one cX10_one 2 (some .int) 1 := ⟨sw_mem 1485 (by decide +kernel) rfl, sw_mem 1486 (by decide +kernel) rfl, sw_mem 98 (by decide +kernel) rfl, sw_mem 1487 rfl rfl, ⟨by decide +kernel, by decide +kernel, by decide +kernel⟩⟩
theorem ml_L_158 : Cond.methodLink RL 158 yX9_gather ∈ sw_T := sw_mem 877 (by decide +kernel) rfl
set_option maxRecDepth 50000 in
theorem wv_X9_gather : sw_V yX9_gather cX9_gather 4 (some .int) 2 := ⟨sw_mem 878 (by decide +kernel) rfl, sw_mem 879 (by decide +kernel) rfl, sw_mem 87 (by decide +kernel) rfl, sw_mem 880 rfl rfl, ⟨by decide +kernel, by decide +kernel, by decide +kernel⟩⟩
theorem ml_L_161 : Cond.methodLink RL 161 yX10_gather ∈ sw_T := sw_mem 1488 (by decide +kernel) rfl
set_option maxRecDepth 50000 in
theorem wv_X10_gather : sw_V yX10_gather cX10_gather 4 (some .int) 2 := ⟨sw_mem 1489 (by decide +kernel) rfl, sw_mem 1490 (by decide +kernel) rfl, sw_mem 98 (by decide +kernel) rfl, sw_mem 1491 rfl rfl, ⟨by decide +kernel, by decide +kernel, by decide +kernel⟩⟩
theorem ml_L_162 : Cond.methodLink RL 162 yX9_states ∈ sw_T := sw_mem 885 (by decide +kernel) rfl
set_option maxRecDepth 50000 in
theorem wv_X9_states : sw_V yX9_states cX9_states 2 (some .int) 1 := ⟨sw_mem 886 (by decide +kernel) rfl, sw_mem 887 (by decide +kernel) rfl, sw_mem 87 (by decide +kernel) rfl, sw_mem 888 rfl rfl, ⟨by decide +kernel, by decide +kernel, by decide +kernel⟩⟩
theorem ml_L_165 : Cond.methodLink RL 165 yX10_states ∈ sw_T := sw_mem 1492 (by decide +kernel) rfl
set_option maxRecDepth 50000 in
theorem wv_X10_states : sw_V yX10_states cX10_states 6 (some .int) 1 := ⟨sw_mem 1493 (by decide +kernel) rfl, sw_mem 1494 (by decide +kernel) rfl, sw_mem 98 (by decide +kernel) rfl, sw_mem 1495 rfl rfl, ⟨by decide +kernel, by decide +kernel, by decide +kernel⟩⟩
theorem ml_L_166 : Cond.methodLink RL 166 yX9_stuck ∈ sw_T := sw_mem 901 (by decide +kernel) rfl
set_option maxRecDepth 50000 in
theorem wv_X9_stuck : sw_V yX9_stuck cX9_stuck 1 (some .int) 0 := ⟨sw_mem 902 (by decide +kernel) rfl, sw_mem 903 (by decide +kernel) rfl, sw_mem 87 (by decide +kernel) rfl, sw_mem 904 rfl rfl, ⟨by decide +kernel, by decide +kernel, by decide +kernel⟩⟩
theorem ml_L_169 : Cond.methodLink RL 169 yX10_stuck ∈ sw_T := sw_mem 1501 (by decide +kernel) rfl
set_option maxRecDepth 50000 in
theorem wv_X10_stuck : sw_V yX10_stuck cX10_stuck 4 (some .int) 0 := ⟨sw_mem 1502 (by decide +kernel) rfl, sw_mem 1503 (by decide +kernel) rfl, sw_mem 98 (by decide +kernel) rfl, sw_mem 1504 rfl rfl, ⟨by decide +kernel, by decide +kernel, by decide +kernel⟩⟩
theorem ml_L_170 : Cond.methodLink RL 170 yX9_saw ∈ sw_T := sw_mem 905 (by decide +kernel) rfl
set_option maxRecDepth 50000 in
theorem wv_X9_saw : sw_V yX9_saw cX9_saw 5 (some .int) 3 := ⟨sw_mem 906 (by decide +kernel) rfl, sw_mem 907 (by decide +kernel) rfl, sw_mem 87 (by decide +kernel) rfl, sw_mem 908 rfl rfl, ⟨by decide +kernel, by decide +kernel, by decide +kernel⟩⟩
theorem ml_L_174 : Cond.methodLink RL 174 yX10_saw ∈ sw_T := sw_mem 1506 (by decide +kernel) rfl
set_option maxRecDepth 50000 in
theorem wv_X10_saw : sw_V yX10_saw cX10_saw 4 (some .int) 3 := ⟨sw_mem 1507 (by decide +kernel) rfl, sw_mem 1508 (by decide +kernel) rfl, sw_mem 98 (by decide +kernel) rfl, sw_mem 1509 rfl rfl, ⟨by decide +kernel, by decide +kernel, by decide +kernel⟩⟩
theorem ml_L_175 : Cond.methodLink RL 175 yX9_forget ∈ sw_T := sw_mem 913 (by decide +kernel) rfl
set_option maxRecDepth 50000 in
theorem wv_X9_forget : sw_V yX9_forget cX9_forget 2 (some .int) 0 := ⟨sw_mem 914 (by decide +kernel) rfl, sw_mem 915 (by decide +kernel) rfl, sw_mem 87 (by decide +kernel) rfl, sw_mem 916 rfl rfl, ⟨by decide +kernel, by decide +kernel, by decide +kernel⟩⟩
theorem ml_L_178 : Cond.methodLink RL 178 yX10_forget ∈ sw_T := sw_mem 1510 (by decide +kernel) rfl
set_option maxRecDepth 50000 in
theorem wv_X10_forget : sw_V yX10_forget cX10_forget 2 (some .int) 0 := ⟨sw_mem 1511 (by decide +kernel) rfl, sw_mem 1512 (by decide +kernel) rfl, sw_mem 98 (by decide +kernel) rfl, sw_mem 1513 rfl rfl, ⟨by decide +kernel, by decide +kernel, by decide +kernel⟩⟩
theorem ml_L_179 : Cond.methodLink RL 179 yX9_believed ∈ sw_T := sw_mem 917 (by decide +kernel) rfl
set_option maxRecDepth 50000 in
theorem wv_X9_believed : sw_V yX9_believed cX9_believed 2 (some .int) 0 := ⟨sw_mem 918 (by decide +kernel) rfl, sw_mem 919 (by decide +kernel) rfl, sw_mem 87 (by decide +kernel) rfl, sw_mem 920 rfl rfl, ⟨by decide +kernel, by decide +kernel, by decide +kernel⟩⟩
theorem ml_L_182 : Cond.methodLink RL 182 yX10_believed ∈ sw_T := sw_mem 1514 (by decide +kernel) rfl
set_option maxRecDepth 50000 in
theorem wv_X10_believed : sw_V yX10_believed cX10_believed 3 (some .int) 0 := ⟨sw_mem 1515 (by decide +kernel) rfl, sw_mem 1516 (by decide +kernel) rfl, sw_mem 98 (by decide +kernel) rfl, sw_mem 1517 rfl rfl, ⟨by decide +kernel, by decide +kernel, by decide +kernel⟩⟩
theorem ml_L_183 : Cond.methodLink RL 183 yX9_fits ∈ sw_T := sw_mem 931 (by decide +kernel) rfl
set_option maxRecDepth 50000 in
theorem wv_X9_fits : sw_V yX9_fits cX9_fits 4 (some .int) 1 := ⟨sw_mem 932 (by decide +kernel) rfl, sw_mem 933 (by decide +kernel) rfl, sw_mem 87 (by decide +kernel) rfl, sw_mem 934 rfl rfl, ⟨by decide +kernel, by decide +kernel, by decide +kernel⟩⟩
theorem ml_L_186 : Cond.methodLink RL 186 yX10_fits ∈ sw_T := sw_mem 1522 (by decide +kernel) rfl
set_option maxRecDepth 50000 in
theorem wv_X10_fits : sw_V yX10_fits cX10_fits 4 (some .int) 1 := ⟨sw_mem 1523 (by decide +kernel) rfl, sw_mem 1524 (by decide +kernel) rfl, sw_mem 98 (by decide +kernel) rfl, sw_mem 1525 rfl rfl, ⟨by decide +kernel, by decide +kernel, by decide +kernel⟩⟩
theorem ml_L_187 : Cond.methodLink RL 187 yX9_lies ∈ sw_T := sw_mem 943 (by decide +kernel) rfl
set_option maxRecDepth 50000 in
theorem wv_X9_lies : sw_V yX9_lies cX9_lies 4 (some .int) 0 := ⟨sw_mem 944 (by decide +kernel) rfl, sw_mem 945 (by decide +kernel) rfl, sw_mem 87 (by decide +kernel) rfl, sw_mem 946 rfl rfl, ⟨by decide +kernel, by decide +kernel, by decide +kernel⟩⟩
theorem ml_L_190 : Cond.methodLink RL 190 yX10_lies ∈ sw_T := sw_mem 1530 (by decide +kernel) rfl
set_option maxRecDepth 50000 in
theorem wv_X10_lies : sw_V yX10_lies cX10_lies 3 (some .int) 0 := ⟨sw_mem 1531 (by decide +kernel) rfl, sw_mem 1532 (by decide +kernel) rfl, sw_mem 98 (by decide +kernel) rfl, sw_mem 1533 rfl rfl, ⟨by decide +kernel, by decide +kernel, by decide +kernel⟩⟩
theorem ml_L_191 : Cond.methodLink RL 191 yX9_truly ∈ sw_T := sw_mem 964 (by decide +kernel) rfl
set_option maxRecDepth 50000 in
theorem wv_X9_truly : sw_V yX9_truly cX9_truly 4 (some .int) 1 := ⟨sw_mem 965 (by decide +kernel) rfl, sw_mem 966 (by decide +kernel) rfl, sw_mem 87 (by decide +kernel) rfl, sw_mem 967 rfl rfl, ⟨by decide +kernel, by decide +kernel, by decide +kernel⟩⟩
theorem ml_L_194 : Cond.methodLink RL 194 yX10_truly ∈ sw_T := sw_mem 1538 (by decide +kernel) rfl
set_option maxRecDepth 50000 in
theorem wv_X10_truly : sw_V yX10_truly cX10_truly 4 (some .int) 1 := ⟨sw_mem 1539 (by decide +kernel) rfl, sw_mem 1540 (by decide +kernel) rfl, sw_mem 98 (by decide +kernel) rfl, sw_mem 1541 rfl rfl, ⟨by decide +kernel, by decide +kernel, by decide +kernel⟩⟩
theorem ml_L_195 : Cond.methodLink RL 195 yX9_odds ∈ sw_T := sw_mem 974 (by decide +kernel) rfl
set_option maxRecDepth 50000 in
theorem wv_X9_odds : sw_V yX9_odds cX9_odds 4 (some .int) 1 := ⟨sw_mem 975 (by decide +kernel) rfl, sw_mem 976 (by decide +kernel) rfl, sw_mem 87 (by decide +kernel) rfl, sw_mem 977 rfl rfl, ⟨by decide +kernel, by decide +kernel, by decide +kernel⟩⟩
theorem ml_L_198 : Cond.methodLink RL 198 yX10_odds ∈ sw_T := sw_mem 1546 (by decide +kernel) rfl
set_option maxRecDepth 50000 in
theorem wv_X10_odds : sw_V yX10_odds cX10_odds 2 (some .int) 1 := ⟨sw_mem 1547 (by decide +kernel) rfl, sw_mem 1548 (by decide +kernel) rfl, sw_mem 98 (by decide +kernel) rfl, sw_mem 1549 rfl rfl, ⟨by decide +kernel, by decide +kernel, by decide +kernel⟩⟩
theorem ml_L_199 : Cond.methodLink RL 199 yX9_likely ∈ sw_T := sw_mem 990 (by decide +kernel) rfl
set_option maxRecDepth 50000 in
theorem wv_X9_likely : sw_V yX9_likely cX9_likely 5 (some .int) 0 := ⟨sw_mem 991 (by decide +kernel) rfl, sw_mem 992 (by decide +kernel) rfl, sw_mem 87 (by decide +kernel) rfl, sw_mem 993 rfl rfl, ⟨by decide +kernel, by decide +kernel, by decide +kernel⟩⟩
theorem ml_L_202 : Cond.methodLink RL 202 yX10_likely ∈ sw_T := sw_mem 1566 (by decide +kernel) rfl
set_option maxRecDepth 50000 in
theorem wv_X10_likely : sw_V yX10_likely cX10_likely 3 (some .int) 0 := ⟨sw_mem 1567 (by decide +kernel) rfl, sw_mem 1568 (by decide +kernel) rfl, sw_mem 98 (by decide +kernel) rfl, sw_mem 1569 rfl rfl, ⟨by decide +kernel, by decide +kernel, by decide +kernel⟩⟩
theorem ml_L_203 : Cond.methodLink RL 203 yX9_split ∈ sw_T := sw_mem 994 (by decide +kernel) rfl
set_option maxRecDepth 50000 in
theorem wv_X9_split : sw_V yX9_split cX9_split 8 (some .int) 0 := ⟨sw_mem 995 (by decide +kernel) rfl, sw_mem 996 (by decide +kernel) rfl, sw_mem 87 (by decide +kernel) rfl, sw_mem 997 rfl rfl, ⟨by decide +kernel, by decide +kernel, by decide +kernel⟩⟩
theorem ml_L_206 : Cond.methodLink RL 206 yX10_split ∈ sw_T := sw_mem 1570 (by decide +kernel) rfl
set_option maxRecDepth 50000 in
theorem wv_X10_split : sw_V yX10_split cX10_split 8 (some .int) 0 := ⟨sw_mem 1571 (by decide +kernel) rfl, sw_mem 1572 (by decide +kernel) rfl, sw_mem 98 (by decide +kernel) rfl, sw_mem 1573 rfl rfl, ⟨by decide +kernel, by decide +kernel, by decide +kernel⟩⟩
theorem ml_L_207 : Cond.methodLink RL 207 yX9_keep ∈ sw_T := sw_mem 999 (by decide +kernel) rfl
set_option maxRecDepth 50000 in
theorem wv_X9_keep : sw_V yX9_keep cX9_keep 2 (some .boolean) 1 := ⟨sw_mem 1000 (by decide +kernel) rfl, sw_mem 1001 (by decide +kernel) rfl, sw_mem 87 (by decide +kernel) rfl, sw_mem 1002 rfl rfl, ⟨by decide +kernel, by decide +kernel, by decide +kernel⟩⟩
theorem ml_L_210 : Cond.methodLink RL 210 yX10_keep ∈ sw_T := sw_mem 1578 (by decide +kernel) rfl
set_option maxRecDepth 50000 in
theorem wv_X10_keep : sw_V yX10_keep cX10_keep 3 (some .boolean) 1 := ⟨sw_mem 1579 (by decide +kernel) rfl, sw_mem 1580 (by decide +kernel) rfl, sw_mem 98 (by decide +kernel) rfl, sw_mem 1581 rfl rfl, ⟨by decide +kernel, by decide +kernel, by decide +kernel⟩⟩
theorem ml_L_211 : Cond.methodLink RL 211 yX9_again ∈ sw_T := sw_mem 1003 (by decide +kernel) rfl
set_option maxRecDepth 50000 in
theorem wv_X9_again : sw_V yX9_again cX9_again 2 (some .boolean) 1 := ⟨sw_mem 1004 (by decide +kernel) rfl, sw_mem 1005 (by decide +kernel) rfl, sw_mem 87 (by decide +kernel) rfl, sw_mem 1006 rfl rfl, ⟨by decide +kernel, by decide +kernel, by decide +kernel⟩⟩
theorem ml_L_214 : Cond.methodLink RL 214 yX10_again ∈ sw_T := sw_mem 1582 (by decide +kernel) rfl
set_option maxRecDepth 50000 in
theorem wv_X10_again : sw_V yX10_again cX10_again 3 (some .boolean) 1 := ⟨sw_mem 1583 (by decide +kernel) rfl, sw_mem 1584 (by decide +kernel) rfl, sw_mem 98 (by decide +kernel) rfl, sw_mem 1585 rfl rfl, ⟨by decide +kernel, by decide +kernel, by decide +kernel⟩⟩
theorem ml_L_215 : Cond.methodLink RL 215 yX9_count ∈ sw_T := sw_mem 1007 (by decide +kernel) rfl
set_option maxRecDepth 50000 in
theorem wv_X9_count : sw_V yX9_count cX9_count 2 (some .int) 1 := ⟨sw_mem 1008 (by decide +kernel) rfl, sw_mem 1009 (by decide +kernel) rfl, sw_mem 87 (by decide +kernel) rfl, sw_mem 1010 rfl rfl, ⟨by decide +kernel, by decide +kernel, by decide +kernel⟩⟩
theorem ml_L_218 : Cond.methodLink RL 218 yX10_count ∈ sw_T := sw_mem 1586 (by decide +kernel) rfl
set_option maxRecDepth 50000 in
theorem wv_X10_count : sw_V yX10_count cX10_count 2 (some .int) 1 := ⟨sw_mem 1587 (by decide +kernel) rfl, sw_mem 1588 (by decide +kernel) rfl, sw_mem 98 (by decide +kernel) rfl, sw_mem 1589 rfl rfl, ⟨by decide +kernel, by decide +kernel, by decide +kernel⟩⟩
theorem ml_L_221 : Cond.methodLink RL 221 yX10_row ∈ sw_T := sw_mem 1782 (by decide +kernel) rfl
set_option maxRecDepth 50000 in
theorem wv_X10_row : sw_V yX10_row cX10_row 2 (some .long) 1 := ⟨sw_mem 1783 (by decide +kernel) rfl, sw_mem 1784 (by decide +kernel) rfl, sw_mem 98 (by decide +kernel) rfl, sw_mem 1785 rfl rfl, ⟨by decide +kernel, by decide +kernel, by decide +kernel⟩⟩
