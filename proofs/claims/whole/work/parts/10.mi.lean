/-! the methods: their names, rooms, what the tables say of them as callees, and the links of the calls -/
abbrev mi_X9_copyRow : pm_Mi := (9, yX9_copyRow, cX9_copyRow, 2, none, { frames := 2, cells := 0, slots := 0, locals := 80 }, [])
theorem cal_X9_copyRow : pm_CalS mi_X9_copyRow 2 := ⟨⟨pm_tab (i := 360) (by decide +kernel) rfl, pm_tab (i := 1) (by decide +kernel) rfl, rfl, by decide +kernel, by decide +kernel, by decide +kernel⟩, pm_tab (i := 359) (by decide +kernel) rfl⟩
abbrev mi_X0_copyFrom : pm_Mi := (0, yX0_copyFrom, cX0_copyFrom, 2, none, { frames := 3, cells := 0, slots := 0, locals := 101 }, [])
theorem cal_X0_copyFrom : pm_CalV mi_X0_copyFrom 1 := ⟨⟨pm_tab (i := 385) (by decide +kernel) rfl, pm_tab (i := 7) (by decide +kernel) rfl, rfl, by decide +kernel, by decide +kernel, by decide +kernel⟩, pm_tab (i := 383) (by decide +kernel) rfl, pm_tab (i := 384) (by decide +kernel) rfl⟩
abbrev mi_X9_isBelow : pm_Mi := (9, yX9_isBelow, cX9_isBelow, 2, some .boolean, { frames := 0, cells := 0, slots := 0, locals := 0 }, [])
theorem cal_X9_isBelow : pm_CalS mi_X9_isBelow 2 := ⟨⟨pm_tab (i := 406) (by decide +kernel) rfl, pm_tab (i := 1) (by decide +kernel) rfl, rfl, by decide +kernel, by decide +kernel, by decide +kernel⟩, pm_tab (i := 405) (by decide +kernel) rfl⟩
abbrev mi_X9_closeGap : pm_Mi := (9, yX9_closeGap, cX9_closeGap, 2, none, { frames := 2, cells := 0, slots := 0, locals := 80 }, [])
theorem cal_X9_closeGap : pm_CalS mi_X9_closeGap 2 := ⟨⟨pm_tab (i := 741) (by decide +kernel) rfl, pm_tab (i := 1) (by decide +kernel) rfl, rfl, by decide +kernel, by decide +kernel, by decide +kernel⟩, pm_tab (i := 740) (by decide +kernel) rfl⟩
abbrev mi_X0_dropOldest : pm_Mi := (0, yX0_dropOldest, cX0_dropOldest, 1, none, { frames := 3, cells := 0, slots := 0, locals := 101 }, [])
theorem cal_X0_dropOldest : pm_CalV mi_X0_dropOldest 0 := ⟨⟨pm_tab (i := 815) (by decide +kernel) rfl, pm_tab (i := 7) (by decide +kernel) rfl, rfl, by decide +kernel, by decide +kernel, by decide +kernel⟩, pm_tab (i := 813) (by decide +kernel) rfl, pm_tab (i := 814) (by decide +kernel) rfl⟩
abbrev mi_X0_add : pm_Mi := (0, yX0_add, cX0_add, 4, none, { frames := 4, cells := 0, slots := 0, locals := 121 }, [])
theorem cal_X0_add : pm_CalV mi_X0_add 3 := ⟨⟨pm_tab (i := 811) (by decide +kernel) rfl, pm_tab (i := 7) (by decide +kernel) rfl, rfl, by decide +kernel, by decide +kernel, by decide +kernel⟩, pm_tab (i := 809) (by decide +kernel) rfl, pm_tab (i := 810) (by decide +kernel) rfl⟩
abbrev mi_X9_isBetween : pm_Mi := (9, yX9_isBetween, cX9_isBetween, 3, some .boolean, { frames := 0, cells := 0, slots := 0, locals := 0 }, [])
theorem cal_X9_isBetween : pm_CalS mi_X9_isBetween 3 := ⟨⟨pm_tab (i := 412) (by decide +kernel) rfl, pm_tab (i := 1) (by decide +kernel) rfl, rfl, by decide +kernel, by decide +kernel, by decide +kernel⟩, pm_tab (i := 411) (by decide +kernel) rfl⟩
abbrev mi_X0_isAbsent : pm_Mi := (0, yX0_isAbsent, cX0_isAbsent, 4, some .boolean, { frames := 1, cells := 0, slots := 0, locals := 22 }, [])
theorem cal_X0_isAbsent : pm_CalV mi_X0_isAbsent 2 := ⟨⟨pm_tab (i := 831) (by decide +kernel) rfl, pm_tab (i := 7) (by decide +kernel) rfl, rfl, by decide +kernel, by decide +kernel, by decide +kernel⟩, pm_tab (i := 829) (by decide +kernel) rfl, pm_tab (i := 830) (by decide +kernel) rfl⟩
abbrev mi_X1_put : pm_Mi := (1, yX1_put, cX1_put, 2, none, { frames := 0, cells := 0, slots := 0, locals := 0 }, [])
theorem cal_X1_put : pm_CalV mi_X1_put 1 := ⟨⟨pm_tab (i := 870) (by decide +kernel) rfl, pm_tab (i := 10) (by decide +kernel) rfl, rfl, by decide +kernel, by decide +kernel, by decide +kernel⟩, pm_tab (i := 868) (by decide +kernel) rfl, pm_tab (i := 869) (by decide +kernel) rfl⟩
abbrev mi_X1_empty : pm_Mi := (1, yX1_empty, cX1_empty, 1, none, { frames := 0, cells := 0, slots := 0, locals := 0 }, [])
theorem cal_X1_empty : pm_CalV mi_X1_empty 0 := ⟨⟨pm_tab (i := 909) (by decide +kernel) rfl, pm_tab (i := 10) (by decide +kernel) rfl, rfl, by decide +kernel, by decide +kernel, by decide +kernel⟩, pm_tab (i := 907) (by decide +kernel) rfl, pm_tab (i := 908) (by decide +kernel) rfl⟩
abbrev mi_X1_isNext : pm_Mi := (1, yX1_isNext, cX1_isNext, 2, some .boolean, { frames := 0, cells := 0, slots := 0, locals := 0 }, [])
theorem cal_X1_isNext : pm_CalV mi_X1_isNext 1 := ⟨⟨pm_tab (i := 893) (by decide +kernel) rfl, pm_tab (i := 10) (by decide +kernel) rfl, rfl, by decide +kernel, by decide +kernel, by decide +kernel⟩, pm_tab (i := 892) (by decide +kernel) rfl, pm_prv (i := 6) (by decide +kernel) rfl⟩
abbrev mi_X1_skip : pm_Mi := (1, yX1_skip, cX1_skip, 2, some .boolean, { frames := 1, cells := 0, slots := 0, locals := 21 }, [])
theorem cal_X1_skip : pm_CalV mi_X1_skip 1 := ⟨⟨pm_tab (i := 889) (by decide +kernel) rfl, pm_tab (i := 10) (by decide +kernel) rfl, rfl, by decide +kernel, by decide +kernel, by decide +kernel⟩, pm_tab (i := 888) (by decide +kernel) rfl, pm_prv (i := 5) (by decide +kernel) rfl⟩
abbrev mi_X1_isDigit : pm_Mi := (1, yX1_isDigit, cX1_isDigit, 1, some .boolean, { frames := 0, cells := 0, slots := 0, locals := 0 }, [])
theorem cal_X1_isDigit : pm_CalV mi_X1_isDigit 0 := ⟨⟨pm_tab (i := 897) (by decide +kernel) rfl, pm_tab (i := 10) (by decide +kernel) rfl, rfl, by decide +kernel, by decide +kernel, by decide +kernel⟩, pm_tab (i := 896) (by decide +kernel) rfl, pm_prv (i := 7) (by decide +kernel) rfl⟩
abbrev mi_X1_takeDigit : pm_Mi := (1, yX1_takeDigit, cX1_takeDigit, 1, some .int, { frames := 1, cells := 0, slots := 0, locals := 20 }, [])
theorem cal_X1_takeDigit : pm_CalV mi_X1_takeDigit 0 := ⟨⟨pm_tab (i := 901) (by decide +kernel) rfl, pm_tab (i := 10) (by decide +kernel) rfl, rfl, by decide +kernel, by decide +kernel, by decide +kernel⟩, pm_tab (i := 900) (by decide +kernel) rfl, pm_prv (i := 8) (by decide +kernel) rfl⟩
abbrev mi_X1_keepLetter : pm_Mi := (1, yX1_keepLetter, cX1_keepLetter, 4, none, { frames := 0, cells := 0, slots := 0, locals := 0 }, [])
theorem cal_X1_keepLetter : pm_CalV mi_X1_keepLetter 3 := ⟨⟨pm_tab (i := 905) (by decide +kernel) rfl, pm_tab (i := 10) (by decide +kernel) rfl, rfl, by decide +kernel, by decide +kernel, by decide +kernel⟩, pm_tab (i := 904) (by decide +kernel) rfl, pm_prv (i := 9) (by decide +kernel) rfl⟩
abbrev mi_X1_readLetter : pm_Mi := (1, yX1_readLetter, cX1_readLetter, 3, some .boolean, { frames := 2, cells := 0, slots := 0, locals := 42 }, [])
theorem cal_X1_readLetter : pm_CalV mi_X1_readLetter 0 := ⟨⟨pm_tab (i := 885) (by decide +kernel) rfl, pm_tab (i := 10) (by decide +kernel) rfl, rfl, by decide +kernel, by decide +kernel, by decide +kernel⟩, pm_tab (i := 884) (by decide +kernel) rfl, pm_prv (i := 4) (by decide +kernel) rfl⟩
abbrev mi_X1_read : pm_Mi := (1, yX1_read, cX1_read, 2, some .int, { frames := 3, cells := 0, slots := 0, locals := 64 }, [])
theorem cal_X1_read : pm_CalV mi_X1_read 0 := ⟨⟨pm_tab (i := 881) (by decide +kernel) rfl, pm_tab (i := 10) (by decide +kernel) rfl, rfl, by decide +kernel, by decide +kernel, by decide +kernel⟩, pm_tab (i := 879) (by decide +kernel) rfl, pm_tab (i := 880) (by decide +kernel) rfl⟩
abbrev mi_X3_copyFrom : pm_Mi := (3, yX3_copyFrom, cX3_copyFrom, 2, none, { frames := 3, cells := 0, slots := 0, locals := 101 }, [])
theorem cal_X3_copyFrom : pm_CalV mi_X3_copyFrom 1 := ⟨⟨pm_tab (i := 357) (by decide +kernel) rfl, pm_tab (i := 3) (by decide +kernel) rfl, rfl, by decide +kernel, by decide +kernel, by decide +kernel⟩, pm_tab (i := 355) (by decide +kernel) rfl, pm_tab (i := 356) (by decide +kernel) rfl⟩
abbrev mi_X6_copyFrom : pm_Mi := (6, yX6_copyFrom, cX6_copyFrom, 2, none, { frames := 3, cells := 0, slots := 0, locals := 101 }, [])
theorem cal_X6_copyFrom : pm_CalV mi_X6_copyFrom 1 := ⟨⟨pm_tab (i := 370) (by decide +kernel) rfl, pm_tab (i := 4) (by decide +kernel) rfl, rfl, by decide +kernel, by decide +kernel, by decide +kernel⟩, pm_tab (i := 368) (by decide +kernel) rfl, pm_tab (i := 369) (by decide +kernel) rfl⟩
abbrev mi_X8_copyFrom : pm_Mi := (8, yX8_copyFrom, cX8_copyFrom, 2, none, { frames := 3, cells := 0, slots := 0, locals := 101 }, [])
theorem cal_X8_copyFrom : pm_CalV mi_X8_copyFrom 1 := ⟨⟨pm_tab (i := 375) (by decide +kernel) rfl, pm_tab (i := 5) (by decide +kernel) rfl, rfl, by decide +kernel, by decide +kernel, by decide +kernel⟩, pm_tab (i := 373) (by decide +kernel) rfl, pm_tab (i := 374) (by decide +kernel) rfl⟩
abbrev mi_X7_copyFrom : pm_Mi := (7, yX7_copyFrom, cX7_copyFrom, 2, none, { frames := 3, cells := 0, slots := 0, locals := 101 }, [])
theorem cal_X7_copyFrom : pm_CalV mi_X7_copyFrom 1 := ⟨⟨pm_tab (i := 380) (by decide +kernel) rfl, pm_tab (i := 6) (by decide +kernel) rfl, rfl, by decide +kernel, by decide +kernel, by decide +kernel⟩, pm_tab (i := 378) (by decide +kernel) rfl, pm_tab (i := 379) (by decide +kernel) rfl⟩
abbrev mi_X4_copyFrom : pm_Mi := (4, yX4_copyFrom, cX4_copyFrom, 2, none, { frames := 3, cells := 0, slots := 0, locals := 101 }, [])
theorem cal_X4_copyFrom : pm_CalV mi_X4_copyFrom 1 := ⟨⟨pm_tab (i := 390) (by decide +kernel) rfl, pm_tab (i := 8) (by decide +kernel) rfl, rfl, by decide +kernel, by decide +kernel, by decide +kernel⟩, pm_tab (i := 388) (by decide +kernel) rfl, pm_tab (i := 389) (by decide +kernel) rfl⟩
abbrev mi_X5_copyFrom : pm_Mi := (5, yX5_copyFrom, cX5_copyFrom, 2, none, { frames := 4, cells := 0, slots := 0, locals := 122 }, [])
theorem cal_X5_copyFrom : pm_CalV mi_X5_copyFrom 1 := ⟨⟨pm_tab (i := 353) (by decide +kernel) rfl, pm_tab (i := 2) (by decide +kernel) rfl, rfl, by decide +kernel, by decide +kernel, by decide +kernel⟩, pm_tab (i := 351) (by decide +kernel) rfl, pm_tab (i := 352) (by decide +kernel) rfl⟩
abbrev mi_X2_keep : pm_Mi := (2, yX2_keep, cX2_keep, 2, none, { frames := 5, cells := 0, slots := 0, locals := 143 }, [])
theorem cal_X2_keep : pm_CalV mi_X2_keep 1 := ⟨⟨pm_tab (i := 509) (by decide +kernel) rfl, pm_tab (i := 9) (by decide +kernel) rfl, rfl, by decide +kernel, by decide +kernel, by decide +kernel⟩, pm_tab (i := 507) (by decide +kernel) rfl, pm_tab (i := 508) (by decide +kernel) rfl⟩
abbrev mi_X2_takeBack : pm_Mi := (2, yX2_takeBack, cX2_takeBack, 2, none, { frames := 5, cells := 0, slots := 0, locals := 143 }, [])
theorem cal_X2_takeBack : pm_CalV mi_X2_takeBack 1 := ⟨⟨pm_tab (i := 1274) (by decide +kernel) rfl, pm_tab (i := 9) (by decide +kernel) rfl, rfl, by decide +kernel, by decide +kernel, by decide +kernel⟩, pm_tab (i := 1272) (by decide +kernel) rfl, pm_tab (i := 1273) (by decide +kernel) rfl⟩
abbrev mi_X2_forget : pm_Mi := (2, yX2_forget, cX2_forget, 1, none, { frames := 0, cells := 0, slots := 0, locals := 0 }, [])
theorem cal_X2_forget : pm_CalV mi_X2_forget 0 := ⟨⟨pm_tab (i := 1286) (by decide +kernel) rfl, pm_tab (i := 9) (by decide +kernel) rfl, rfl, by decide +kernel, by decide +kernel, by decide +kernel⟩, pm_tab (i := 1284) (by decide +kernel) rfl, pm_tab (i := 1285) (by decide +kernel) rfl⟩
abbrev mi_X3_contains : pm_Mi := (3, yX3_contains, cX3_contains, 4, some .boolean, { frames := 0, cells := 0, slots := 0, locals := 0 }, [])
theorem cal_X3_contains : pm_CalV mi_X3_contains 2 := ⟨⟨pm_tab (i := 488) (by decide +kernel) rfl, pm_tab (i := 3) (by decide +kernel) rfl, rfl, by decide +kernel, by decide +kernel, by decide +kernel⟩, pm_tab (i := 486) (by decide +kernel) rfl, pm_tab (i := 487) (by decide +kernel) rfl⟩
abbrev mi_X3_add : pm_Mi := (3, yX3_add, cX3_add, 3, some .int, { frames := 0, cells := 0, slots := 0, locals := 0 }, [])
theorem cal_X3_add : pm_CalV mi_X3_add 2 := ⟨⟨pm_tab (i := 515) (by decide +kernel) rfl, pm_tab (i := 3) (by decide +kernel) rfl, rfl, by decide +kernel, by decide +kernel, by decide +kernel⟩, pm_tab (i := 513) (by decide +kernel) rfl, pm_tab (i := 514) (by decide +kernel) rfl⟩
abbrev mi_X4_add : pm_Mi := (4, yX4_add, cX4_add, 5, some .int, { frames := 0, cells := 0, slots := 0, locals := 0 }, [])
theorem cal_X4_add : pm_CalV mi_X4_add 4 := ⟨⟨pm_tab (i := 858) (by decide +kernel) rfl, pm_tab (i := 8) (by decide +kernel) rfl, rfl, by decide +kernel, by decide +kernel, by decide +kernel⟩, pm_tab (i := 856) (by decide +kernel) rfl, pm_tab (i := 857) (by decide +kernel) rfl⟩
abbrev mi_X4_deliver : pm_Mi := (4, yX4_deliver, cX4_deliver, 5, none, { frames := 0, cells := 0, slots := 0, locals := 0 }, [])
theorem cal_X4_deliver : pm_CalV mi_X4_deliver 4 := ⟨⟨pm_tab (i := 1202) (by decide +kernel) rfl, pm_tab (i := 8) (by decide +kernel) rfl, rfl, by decide +kernel, by decide +kernel, by decide +kernel⟩, pm_tab (i := 1200) (by decide +kernel) rfl, pm_tab (i := 1201) (by decide +kernel) rfl⟩
abbrev mi_X4_sendBack : pm_Mi := (4, yX4_sendBack, cX4_sendBack, 4, none, { frames := 0, cells := 0, slots := 0, locals := 0 }, [])
theorem cal_X4_sendBack : pm_CalV mi_X4_sendBack 3 := ⟨⟨pm_tab (i := 1194) (by decide +kernel) rfl, pm_tab (i := 8) (by decide +kernel) rfl, rfl, by decide +kernel, by decide +kernel, by decide +kernel⟩, pm_tab (i := 1192) (by decide +kernel) rfl, pm_tab (i := 1193) (by decide +kernel) rfl⟩
abbrev mi_X4_numberOf : pm_Mi := (4, yX4_numberOf, cX4_numberOf, 3, some .int, { frames := 0, cells := 0, slots := 0, locals := 0 }, [])
theorem cal_X4_numberOf : pm_CalV mi_X4_numberOf 2 := ⟨⟨pm_tab (i := 939) (by decide +kernel) rfl, pm_tab (i := 8) (by decide +kernel) rfl, rfl, by decide +kernel, by decide +kernel, by decide +kernel⟩, pm_tab (i := 937) (by decide +kernel) rfl, pm_tab (i := 938) (by decide +kernel) rfl⟩
abbrev mi_X4_countInState : pm_Mi := (4, yX4_countInState, cX4_countInState, 4, some .int, { frames := 0, cells := 0, slots := 0, locals := 0 }, [])
theorem cal_X4_countInState : pm_CalV mi_X4_countInState 1 := ⟨⟨pm_tab (i := 1213) (by decide +kernel) rfl, pm_tab (i := 8) (by decide +kernel) rfl, rfl, by decide +kernel, by decide +kernel, by decide +kernel⟩, pm_tab (i := 1211) (by decide +kernel) rfl, pm_tab (i := 1212) (by decide +kernel) rfl⟩
abbrev mi_X4_countReturnedFor : pm_Mi := (4, yX4_countReturnedFor, cX4_countReturnedFor, 4, some .int, { frames := 0, cells := 0, slots := 0, locals := 0 }, [])
theorem cal_X4_countReturnedFor : pm_CalV mi_X4_countReturnedFor 1 := ⟨⟨pm_tab (i := 1234) (by decide +kernel) rfl, pm_tab (i := 8) (by decide +kernel) rfl, rfl, by decide +kernel, by decide +kernel, by decide +kernel⟩, pm_tab (i := 1232) (by decide +kernel) rfl, pm_tab (i := 1233) (by decide +kernel) rfl⟩
abbrev mi_X4_waitingWeight : pm_Mi := (4, yX4_waitingWeight, cX4_waitingWeight, 3, some .int, { frames := 0, cells := 0, slots := 0, locals := 0 }, [])
theorem cal_X4_waitingWeight : pm_CalV mi_X4_waitingWeight 0 := ⟨⟨pm_tab (i := 1217) (by decide +kernel) rfl, pm_tab (i := 8) (by decide +kernel) rfl, rfl, by decide +kernel, by decide +kernel, by decide +kernel⟩, pm_tab (i := 1215) (by decide +kernel) rfl, pm_tab (i := 1216) (by decide +kernel) rfl⟩
abbrev mi_X4_allTries : pm_Mi := (4, yX4_allTries, cX4_allTries, 3, some .int, { frames := 0, cells := 0, slots := 0, locals := 0 }, [])
theorem cal_X4_allTries : pm_CalV mi_X4_allTries 0 := ⟨⟨pm_tab (i := 1221) (by decide +kernel) rfl, pm_tab (i := 8) (by decide +kernel) rfl, rfl, by decide +kernel, by decide +kernel, by decide +kernel⟩, pm_tab (i := 1219) (by decide +kernel) rfl, pm_tab (i := 1220) (by decide +kernel) rfl⟩
abbrev mi_X4_daysToDeliveries : pm_Mi := (4, yX4_daysToDeliveries, cX4_daysToDeliveries, 3, some .int, { frames := 0, cells := 0, slots := 0, locals := 0 }, [])
theorem cal_X4_daysToDeliveries : pm_CalV mi_X4_daysToDeliveries 0 := ⟨⟨pm_tab (i := 1262) (by decide +kernel) rfl, pm_tab (i := 8) (by decide +kernel) rfl, rfl, by decide +kernel, by decide +kernel, by decide +kernel⟩, pm_tab (i := 1260) (by decide +kernel) rfl, pm_tab (i := 1261) (by decide +kernel) rfl⟩
abbrev mi_X8_isOnSide : pm_Mi := (8, yX8_isOnSide, cX8_isOnSide, 4, some .boolean, { frames := 0, cells := 0, slots := 0, locals := 0 }, [])
theorem cal_X8_isOnSide : pm_CalV mi_X8_isOnSide 2 := ⟨⟨pm_tab (i := 600) (by decide +kernel) rfl, pm_tab (i := 5) (by decide +kernel) rfl, rfl, by decide +kernel, by decide +kernel, by decide +kernel⟩, pm_tab (i := 598) (by decide +kernel) rfl, pm_tab (i := 599) (by decide +kernel) rfl⟩
abbrev mi_X8_lowestFor : pm_Mi := (8, yX8_lowestFor, cX8_lowestFor, 4, some .int, { frames := 1, cells := 0, slots := 0, locals := 23 }, [])
theorem cal_X8_lowestFor : pm_CalV mi_X8_lowestFor 2 := ⟨⟨pm_tab (i := 596) (by decide +kernel) rfl, pm_tab (i := 5) (by decide +kernel) rfl, rfl, by decide +kernel, by decide +kernel, by decide +kernel⟩, pm_tab (i := 594) (by decide +kernel) rfl, pm_tab (i := 595) (by decide +kernel) rfl⟩
abbrev mi_X5_walkServing : pm_Mi := (5, yX5_walkServing, cX5_walkServing, 2, some .int, { frames := 2, cells := 0, slots := 0, locals := 46 }, [])
theorem cal_X5_walkServing : pm_CalV mi_X5_walkServing 1 := ⟨⟨pm_tab (i := 591) (by decide +kernel) rfl, pm_tab (i := 2) (by decide +kernel) rfl, rfl, by decide +kernel, by decide +kernel, by decide +kernel⟩, pm_tab (i := 589) (by decide +kernel) rfl, pm_tab (i := 590) (by decide +kernel) rfl⟩
abbrev mi_X5_countServedBy : pm_Mi := (5, yX5_countServedBy, cX5_countServedBy, 4, some .int, { frames := 3, cells := 0, slots := 0, locals := 67 }, [])
theorem cal_X5_countServedBy : pm_CalV mi_X5_countServedBy 1 := ⟨⟨pm_tab (i := 587) (by decide +kernel) rfl, pm_tab (i := 2) (by decide +kernel) rfl, rfl, by decide +kernel, by decide +kernel, by decide +kernel⟩, pm_tab (i := 585) (by decide +kernel) rfl, pm_tab (i := 586) (by decide +kernel) rfl⟩
abbrev mi_X8_comesFirst : pm_Mi := (8, yX8_comesFirst, cX8_comesFirst, 4, some .boolean, { frames := 0, cells := 0, slots := 0, locals := 0 }, [])
theorem cal_X8_comesFirst : pm_CalV mi_X8_comesFirst 3 := ⟨⟨pm_tab (i := 630) (by decide +kernel) rfl, pm_tab (i := 5) (by decide +kernel) rfl, rfl, by decide +kernel, by decide +kernel, by decide +kernel⟩, pm_tab (i := 628) (by decide +kernel) rfl, pm_tab (i := 629) (by decide +kernel) rfl⟩
abbrev mi_X5_stopPosition : pm_Mi := (5, yX5_stopPosition, cX5_stopPosition, 5, some .int, { frames := 3, cells := 0, slots := 0, locals := 67 }, [])
theorem cal_X5_stopPosition : pm_CalV mi_X5_stopPosition 1 := ⟨⟨pm_tab (i := 626) (by decide +kernel) rfl, pm_tab (i := 2) (by decide +kernel) rfl, rfl, by decide +kernel, by decide +kernel, by decide +kernel⟩, pm_tab (i := 624) (by decide +kernel) rfl, pm_tab (i := 625) (by decide +kernel) rfl⟩
abbrev mi_X5_houseAtStop : pm_Mi := (5, yX5_houseAtStop, cX5_houseAtStop, 4, some .int, { frames := 4, cells := 0, slots := 0, locals := 91 }, [])
theorem cal_X5_houseAtStop : pm_CalV mi_X5_houseAtStop 2 := ⟨⟨pm_tab (i := 622) (by decide +kernel) rfl, pm_tab (i := 2) (by decide +kernel) rfl, rfl, by decide +kernel, by decide +kernel, by decide +kernel⟩, pm_tab (i := 620) (by decide +kernel) rfl, pm_tab (i := 621) (by decide +kernel) rfl⟩
abbrev mi_X7_targetOf : pm_Mi := (7, yX7_targetOf, cX7_targetOf, 6, some .int, { frames := 1, cells := 0, slots := 0, locals := 22 }, [])
theorem cal_X7_targetOf : pm_CalV mi_X7_targetOf 4 := ⟨⟨pm_tab (i := 724) (by decide +kernel) rfl, pm_tab (i := 6) (by decide +kernel) rfl, rfl, by decide +kernel, by decide +kernel, by decide +kernel⟩, pm_tab (i := 722) (by decide +kernel) rfl, pm_tab (i := 723) (by decide +kernel) rfl⟩
abbrev mi_X5_startOfWay : pm_Mi := (5, yX5_startOfWay, cX5_startOfWay, 4, some .int, { frames := 2, cells := 0, slots := 0, locals := 47 }, [])
theorem cal_X5_startOfWay : pm_CalV mi_X5_startOfWay 2 := ⟨⟨pm_tab (i := 761) (by decide +kernel) rfl, pm_tab (i := 2) (by decide +kernel) rfl, rfl, by decide +kernel, by decide +kernel, by decide +kernel⟩, pm_tab (i := 759) (by decide +kernel) rfl, pm_tab (i := 760) (by decide +kernel) rfl⟩
abbrev mi_X5_houseOnWay : pm_Mi := (5, yX5_houseOnWay, cX5_houseOnWay, 6, some .int, { frames := 3, cells := 0, slots := 0, locals := 70 }, [])
theorem cal_X5_houseOnWay : pm_CalV mi_X5_houseOnWay 3 := ⟨⟨pm_tab (i := 766) (by decide +kernel) rfl, pm_tab (i := 2) (by decide +kernel) rfl, rfl, by decide +kernel, by decide +kernel, by decide +kernel⟩, pm_tab (i := 764) (by decide +kernel) rfl, pm_tab (i := 765) (by decide +kernel) rfl⟩
abbrev mi_X5_endOfWay : pm_Mi := (5, yX5_endOfWay, cX5_endOfWay, 6, some .int, { frames := 3, cells := 0, slots := 0, locals := 70 }, [])
theorem cal_X5_endOfWay : pm_CalV mi_X5_endOfWay 2 := ⟨⟨pm_tab (i := 757) (by decide +kernel) rfl, pm_tab (i := 2) (by decide +kernel) rfl, rfl, by decide +kernel, by decide +kernel, by decide +kernel⟩, pm_tab (i := 755) (by decide +kernel) rfl, pm_tab (i := 756) (by decide +kernel) rfl⟩
abbrev mi_X5_countResidents : pm_Mi := (5, yX5_countResidents, cX5_countResidents, 6, some .int, { frames := 4, cells := 0, slots := 0, locals := 95 }, [])
theorem cal_X5_countResidents : pm_CalV mi_X5_countResidents 3 := ⟨⟨pm_tab (i := 846) (by decide +kernel) rfl, pm_tab (i := 2) (by decide +kernel) rfl, rfl, by decide +kernel, by decide +kernel, by decide +kernel⟩, pm_tab (i := 844) (by decide +kernel) rfl, pm_tab (i := 845) (by decide +kernel) rfl⟩
abbrev mi_X6_hasAllowed : pm_Mi := (6, yX6_hasAllowed, cX6_hasAllowed, 3, some .boolean, { frames := 1, cells := 0, slots := 0, locals := 21 }, [])
theorem cal_X6_hasAllowed : pm_CalV mi_X6_hasAllowed 2 := ⟨⟨pm_tab (i := 787) (by decide +kernel) rfl, pm_tab (i := 4) (by decide +kernel) rfl, rfl, by decide +kernel, by decide +kernel, by decide +kernel⟩, pm_tab (i := 785) (by decide +kernel) rfl, pm_tab (i := 786) (by decide +kernel) rfl⟩
abbrev mi_X5_whoSigns : pm_Mi := (5, yX5_whoSigns, cX5_whoSigns, 5, some .int, { frames := 4, cells := 0, slots := 0, locals := 95 }, [])
theorem cal_X5_whoSigns : pm_CalV mi_X5_whoSigns 2 := ⟨⟨pm_tab (i := 827) (by decide +kernel) rfl, pm_tab (i := 2) (by decide +kernel) rfl, rfl, by decide +kernel, by decide +kernel, by decide +kernel⟩, pm_tab (i := 825) (by decide +kernel) rfl, pm_tab (i := 826) (by decide +kernel) rfl⟩
abbrev mi_X5_outcome : pm_Mi := (5, yX5_outcome, cX5_outcome, 4, some .int, { frames := 5, cells := 0, slots := 0, locals := 119 }, [])
theorem cal_X5_outcome : pm_CalV mi_X5_outcome 2 := ⟨⟨pm_tab (i := 1160) (by decide +kernel) rfl, pm_tab (i := 2) (by decide +kernel) rfl, rfl, by decide +kernel, by decide +kernel, by decide +kernel⟩, pm_tab (i := 1158) (by decide +kernel) rfl, pm_tab (i := 1159) (by decide +kernel) rfl⟩
abbrev mi_X5_isTooOld : pm_Mi := (5, yX5_isTooOld, cX5_isTooOld, 3, some .boolean, { frames := 0, cells := 0, slots := 0, locals := 0 }, [])
theorem cal_X5_isTooOld : pm_CalV mi_X5_isTooOld 2 := ⟨⟨pm_tab (i := 1165) (by decide +kernel) rfl, pm_tab (i := 2) (by decide +kernel) rfl, rfl, by decide +kernel, by decide +kernel, by decide +kernel⟩, pm_tab (i := 1163) (by decide +kernel) rfl, pm_tab (i := 1164) (by decide +kernel) rfl⟩
abbrev mi_X5_forecast : pm_Mi := (5, yX5_forecast, cX5_forecast, 6, some .int, { frames := 6, cells := 0, slots := 0, locals := 142 }, [])
theorem cal_X5_forecast : pm_CalV mi_X5_forecast 1 := ⟨⟨pm_tab (i := 1156) (by decide +kernel) rfl, pm_tab (i := 2) (by decide +kernel) rfl, rfl, by decide +kernel, by decide +kernel, by decide +kernel⟩, pm_tab (i := 1154) (by decide +kernel) rfl, pm_tab (i := 1155) (by decide +kernel) rfl⟩
abbrev mi_X5_roundKey : pm_Mi := (5, yX5_roundKey, cX5_roundKey, 4, some .int, { frames := 4, cells := 0, slots := 0, locals := 95 }, [])
theorem cal_X5_roundKey : pm_CalV mi_X5_roundKey 1 := ⟨⟨pm_tab (i := 1182) (by decide +kernel) rfl, pm_tab (i := 2) (by decide +kernel) rfl, rfl, by decide +kernel, by decide +kernel, by decide +kernel⟩, pm_tab (i := 1181) (by decide +kernel) rfl, pm_prv (i := 13) (by decide +kernel) rfl⟩
abbrev mi_X5_insertSorted : pm_Mi := (5, yX5_insertSorted, cX5_insertSorted, 4, some .int, { frames := 0, cells := 0, slots := 0, locals := 0 }, [])
theorem cal_X5_insertSorted : pm_CalV mi_X5_insertSorted 2 := ⟨⟨pm_tab (i := 1186) (by decide +kernel) rfl, pm_tab (i := 2) (by decide +kernel) rfl, rfl, by decide +kernel, by decide +kernel, by decide +kernel⟩, pm_tab (i := 1185) (by decide +kernel) rfl, pm_prv (i := 14) (by decide +kernel) rfl⟩
abbrev mi_X5_applyFailure : pm_Mi := (5, yX5_applyFailure, cX5_applyFailure, 3, none, { frames := 1, cells := 0, slots := 0, locals := 23 }, [])
theorem cal_X5_applyFailure : pm_CalV mi_X5_applyFailure 2 := ⟨⟨pm_tab (i := 1190) (by decide +kernel) rfl, pm_tab (i := 2) (by decide +kernel) rfl, rfl, by decide +kernel, by decide +kernel, by decide +kernel⟩, pm_tab (i := 1189) (by decide +kernel) rfl, pm_prv (i := 15) (by decide +kernel) rfl⟩
abbrev mi_X5_handOver : pm_Mi := (5, yX5_handOver, cX5_handOver, 4, none, { frames := 5, cells := 0, slots := 0, locals := 119 }, [])
theorem cal_X5_handOver : pm_CalV mi_X5_handOver 1 := ⟨⟨pm_tab (i := 1198) (by decide +kernel) rfl, pm_tab (i := 2) (by decide +kernel) rfl, rfl, by decide +kernel, by decide +kernel, by decide +kernel⟩, pm_tab (i := 1197) (by decide +kernel) rfl, pm_prv (i := 16) (by decide +kernel) rfl⟩
abbrev mi_X5_endDay : pm_Mi := (5, yX5_endDay, cX5_endDay, 4, none, { frames := 6, cells := 0, slots := 0, locals := 142 }, [])
theorem cal_X5_endDay : pm_CalV mi_X5_endDay 0 := ⟨⟨pm_tab (i := 1178) (by decide +kernel) rfl, pm_tab (i := 2) (by decide +kernel) rfl, rfl, by decide +kernel, by decide +kernel, by decide +kernel⟩, pm_tab (i := 1176) (by decide +kernel) rfl, pm_tab (i := 1177) (by decide +kernel) rfl⟩
abbrev mi_X6_add : pm_Mi := (6, yX6_add, cX6_add, 2, some .int, { frames := 0, cells := 0, slots := 0, locals := 0 }, [])
theorem cal_X6_add : pm_CalV mi_X6_add 1 := ⟨⟨pm_tab (i := 568) (by decide +kernel) rfl, pm_tab (i := 4) (by decide +kernel) rfl, rfl, by decide +kernel, by decide +kernel, by decide +kernel⟩, pm_tab (i := 566) (by decide +kernel) rfl, pm_tab (i := 567) (by decide +kernel) rfl⟩
abbrev mi_X6_setAllowed : pm_Mi := (6, yX6_setAllowed, cX6_setAllowed, 4, none, { frames := 1, cells := 0, slots := 0, locals := 21 }, [])
theorem cal_X6_setAllowed : pm_CalV mi_X6_setAllowed 3 := ⟨⟨pm_tab (i := 792) (by decide +kernel) rfl, pm_tab (i := 4) (by decide +kernel) rfl, rfl, by decide +kernel, by decide +kernel, by decide +kernel⟩, pm_tab (i := 790) (by decide +kernel) rfl, pm_tab (i := 791) (by decide +kernel) rfl⟩
abbrev mi_X7_add : pm_Mi := (7, yX7_add, cX7_add, 6, some .int, { frames := 0, cells := 0, slots := 0, locals := 0 }, [])
theorem cal_X7_add : pm_CalV mi_X7_add 5 := ⟨⟨pm_tab (i := 696) (by decide +kernel) rfl, pm_tab (i := 6) (by decide +kernel) rfl, rfl, by decide +kernel, by decide +kernel, by decide +kernel⟩, pm_tab (i := 694) (by decide +kernel) rfl, pm_tab (i := 695) (by decide +kernel) rfl⟩
abbrev mi_X7_remove : pm_Mi := (7, yX7_remove, cX7_remove, 2, none, { frames := 3, cells := 0, slots := 0, locals := 101 }, [])
theorem cal_X7_remove : pm_CalV mi_X7_remove 1 := ⟨⟨pm_tab (i := 738) (by decide +kernel) rfl, pm_tab (i := 6) (by decide +kernel) rfl, rfl, by decide +kernel, by decide +kernel, by decide +kernel⟩, pm_tab (i := 736) (by decide +kernel) rfl, pm_tab (i := 737) (by decide +kernel) rfl⟩
abbrev mi_X7_comesBack : pm_Mi := (7, yX7_comesBack, cX7_comesBack, 6, some .boolean, { frames := 2, cells := 0, slots := 0, locals := 47 }, [])
theorem cal_X7_comesBack : pm_CalV mi_X7_comesBack 3 := ⟨⟨pm_tab (i := 720) (by decide +kernel) rfl, pm_tab (i := 6) (by decide +kernel) rfl, rfl, by decide +kernel, by decide +kernel, by decide +kernel⟩, pm_tab (i := 718) (by decide +kernel) rfl, pm_tab (i := 719) (by decide +kernel) rfl⟩
abbrev mi_X7_leadRoundOn : pm_Mi := (7, yX7_leadRoundOn, cX7_leadRoundOn, 4, some .boolean, { frames := 3, cells := 0, slots := 0, locals := 72 }, [])
theorem cal_X7_leadRoundOn : pm_CalV mi_X7_leadRoundOn 2 := ⟨⟨pm_tab (i := 716) (by decide +kernel) rfl, pm_tab (i := 6) (by decide +kernel) rfl, rfl, by decide +kernel, by decide +kernel, by decide +kernel⟩, pm_tab (i := 714) (by decide +kernel) rfl, pm_tab (i := 715) (by decide +kernel) rfl⟩
abbrev mi_X7_leadRoundWithout : pm_Mi := (7, yX7_leadRoundWithout, cX7_leadRoundWithout, 3, some .boolean, { frames := 4, cells := 0, slots := 0, locals := 95 }, [])
theorem cal_X7_leadRoundWithout : pm_CalV mi_X7_leadRoundWithout 1 := ⟨⟨pm_tab (i := 712) (by decide +kernel) rfl, pm_tab (i := 6) (by decide +kernel) rfl, rfl, by decide +kernel, by decide +kernel, by decide +kernel⟩, pm_tab (i := 710) (by decide +kernel) rfl, pm_tab (i := 711) (by decide +kernel) rfl⟩
abbrev mi_X7_wouldLeadRoundWith : pm_Mi := (7, yX7_wouldLeadRoundWith, cX7_wouldLeadRoundWith, 6, some .boolean, { frames := 5, cells := 0, slots := 0, locals := 117 }, [])
theorem cal_X7_wouldLeadRoundWith : pm_CalV mi_X7_wouldLeadRoundWith 4 := ⟨⟨pm_tab (i := 707) (by decide +kernel) rfl, pm_tab (i := 6) (by decide +kernel) rfl, rfl, by decide +kernel, by decide +kernel, by decide +kernel⟩, pm_tab (i := 705) (by decide +kernel) rfl, pm_tab (i := 706) (by decide +kernel) rfl⟩
abbrev mi_X8_add : pm_Mi := (8, yX8_add, cX8_add, 6, some .int, { frames := 0, cells := 0, slots := 0, locals := 0 }, [])
theorem cal_X8_add : pm_CalV mi_X8_add 5 := ⟨⟨pm_tab (i := 583) (by decide +kernel) rfl, pm_tab (i := 5) (by decide +kernel) rfl, rfl, by decide +kernel, by decide +kernel, by decide +kernel⟩, pm_tab (i := 581) (by decide +kernel) rfl, pm_tab (i := 582) (by decide +kernel) rfl⟩
abbrev mi_X9_isStreet : pm_Mi := (9, yX9_isStreet, cX9_isStreet, 1, some .boolean, { frames := 1, cells := 0, slots := 0, locals := 21 }, [])
theorem cal_X9_isStreet : pm_CalS mi_X9_isStreet 1 := ⟨⟨pm_tab (i := 403) (by decide +kernel) rfl, pm_tab (i := 1) (by decide +kernel) rfl, rfl, by decide +kernel, by decide +kernel, by decide +kernel⟩, pm_tab (i := 402) (by decide +kernel) rfl⟩
abbrev mi_X9_isHouseNumber : pm_Mi := (9, yX9_isHouseNumber, cX9_isHouseNumber, 1, some .boolean, { frames := 1, cells := 0, slots := 0, locals := 22 }, [])
theorem cal_X9_isHouseNumber : pm_CalS mi_X9_isHouseNumber 1 := ⟨⟨pm_tab (i := 409) (by decide +kernel) rfl, pm_tab (i := 1) (by decide +kernel) rfl, rfl, by decide +kernel, by decide +kernel, by decide +kernel⟩, pm_tab (i := 408) (by decide +kernel) rfl⟩
abbrev mi_X9_addHouse : pm_Mi := (9, yX9_addHouse, cX9_addHouse, 3, some .int, { frames := 6, cells := 1, slots := 6, locals := 164 }, [])
theorem cal_X9_addHouse : pm_CalV mi_X9_addHouse 2 := ⟨⟨pm_tab (i := 400) (by decide +kernel) rfl, pm_tab (i := 1) (by decide +kernel) rfl, rfl, by decide +kernel, by decide +kernel, by decide +kernel⟩, pm_tab (i := 398) (by decide +kernel) rfl, pm_tab (i := 399) (by decide +kernel) rfl⟩
abbrev mi_X9_requireHouse : pm_Mi := (9, yX9_requireHouse, cX9_requireHouse, 2, none, { frames := 6, cells := 1, slots := 6, locals := 90 }, [])
theorem cal_X9_requireHouse : pm_CalV mi_X9_requireHouse 1 := ⟨⟨pm_tab (i := 550) (by decide +kernel) rfl, pm_tab (i := 1) (by decide +kernel) rfl, rfl, by decide +kernel, by decide +kernel, by decide +kernel⟩, pm_tab (i := 549) (by decide +kernel) rfl, pm_prv (i := 1) (by decide +kernel) rfl⟩
abbrev mi_X9_addPerson : pm_Mi := (9, yX9_addPerson, cX9_addPerson, 2, some .int, { frames := 7, cells := 2, slots := 12, locals := 164 }, [])
theorem cal_X9_addPerson : pm_CalV mi_X9_addPerson 1 := ⟨⟨pm_tab (i := 546) (by decide +kernel) rfl, pm_tab (i := 1) (by decide +kernel) rfl, rfl, by decide +kernel, by decide +kernel, by decide +kernel⟩, pm_tab (i := 544) (by decide +kernel) rfl, pm_tab (i := 545) (by decide +kernel) rfl⟩
abbrev mi_X9_addWalk : pm_Mi := (9, yX9_addWalk, cX9_addWalk, 7, some .int, { frames := 6, cells := 1, slots := 6, locals := 164 }, [])
theorem cal_X9_addWalk : pm_CalV mi_X9_addWalk 5 := ⟨⟨pm_tab (i := 575) (by decide +kernel) rfl, pm_tab (i := 1) (by decide +kernel) rfl, rfl, by decide +kernel, by decide +kernel, by decide +kernel⟩, pm_tab (i := 573) (by decide +kernel) rfl, pm_tab (i := 574) (by decide +kernel) rfl⟩
abbrev mi_X9_walkOf : pm_Mi := (9, yX9_walkOf, cX9_walkOf, 2, some .int, { frames := 7, cells := 1, slots := 6, locals := 111 }, [])
theorem cal_X9_walkOf : pm_CalV mi_X9_walkOf 1 := ⟨⟨pm_tab (i := 608) (by decide +kernel) rfl, pm_tab (i := 1) (by decide +kernel) rfl, rfl, by decide +kernel, by decide +kernel, by decide +kernel⟩, pm_tab (i := 606) (by decide +kernel) rfl, pm_tab (i := 607) (by decide +kernel) rfl⟩
abbrev mi_X9_stop : pm_Mi := (9, yX9_stop, cX9_stop, 4, some .int, { frames := 6, cells := 1, slots := 6, locals := 114 }, [])
theorem cal_X9_stop : pm_CalV mi_X9_stop 2 := ⟨⟨pm_tab (i := 617) (by decide +kernel) rfl, pm_tab (i := 1) (by decide +kernel) rfl, rfl, by decide +kernel, by decide +kernel, by decide +kernel⟩, pm_tab (i := 615) (by decide +kernel) rfl, pm_tab (i := 616) (by decide +kernel) rfl⟩
abbrev mi_X9_stopIndex : pm_Mi := (9, yX9_stopIndex, cX9_stopIndex, 2, some .int, { frames := 7, cells := 2, slots := 12, locals := 111 }, [])
theorem cal_X9_stopIndex : pm_CalV mi_X9_stopIndex 1 := ⟨⟨pm_tab (i := 653) (by decide +kernel) rfl, pm_tab (i := 1) (by decide +kernel) rfl, rfl, by decide +kernel, by decide +kernel, by decide +kernel⟩, pm_tab (i := 651) (by decide +kernel) rfl, pm_tab (i := 652) (by decide +kernel) rfl⟩
abbrev mi_X9_requirePerson : pm_Mi := (9, yX9_requirePerson, cX9_requirePerson, 2, none, { frames := 6, cells := 1, slots := 6, locals := 90 }, [])
theorem cal_X9_requirePerson : pm_CalV mi_X9_requirePerson 1 := ⟨⟨pm_tab (i := 667) (by decide +kernel) rfl, pm_tab (i := 1) (by decide +kernel) rfl, rfl, by decide +kernel, by decide +kernel, by decide +kernel⟩, pm_tab (i := 666) (by decide +kernel) rfl, pm_prv (i := 2) (by decide +kernel) rfl⟩
abbrev mi_X9_requireDays : pm_Mi := (9, yX9_requireDays, cX9_requireDays, 2, none, { frames := 6, cells := 1, slots := 6, locals := 90 }, [])
theorem cal_X9_requireDays : pm_CalS mi_X9_requireDays 2 := ⟨⟨pm_tab (i := 671) (by decide +kernel) rfl, pm_tab (i := 1) (by decide +kernel) rfl, rfl, by decide +kernel, by decide +kernel, by decide +kernel⟩, pm_tab (i := 670) (by decide +kernel) rfl⟩
abbrev mi_X9_refuse : pm_Mi := (9, yX9_refuse, cX9_refuse, 2, none, { frames := 6, cells := 1, slots := 6, locals := 90 }, [])
theorem cal_X9_refuse : pm_CalV mi_X9_refuse 1 := ⟨⟨pm_tab (i := 676) (by decide +kernel) rfl, pm_tab (i := 1) (by decide +kernel) rfl, rfl, by decide +kernel, by decide +kernel, by decide +kernel⟩, pm_tab (i := 675) (by decide +kernel) rfl, pm_prv (i := 3) (by decide +kernel) rfl⟩
abbrev mi_X9_redirectPerson : pm_Mi := (9, yX9_redirectPerson, cX9_redirectPerson, 5, some .int, { frames := 7, cells := 4, slots := 24, locals := 164 }, [])
theorem cal_X9_redirectPerson : pm_CalV mi_X9_redirectPerson 4 := ⟨⟨pm_tab (i := 663) (by decide +kernel) rfl, pm_tab (i := 1) (by decide +kernel) rfl, rfl, by decide +kernel, by decide +kernel, by decide +kernel⟩, pm_tab (i := 661) (by decide +kernel) rfl, pm_tab (i := 662) (by decide +kernel) rfl⟩
abbrev mi_X9_redirectHouse : pm_Mi := (9, yX9_redirectHouse, cX9_redirectHouse, 5, some .int, { frames := 7, cells := 5, slots := 30, locals := 164 }, [])
theorem cal_X9_redirectHouse : pm_CalV mi_X9_redirectHouse 4 := ⟨⟨pm_tab (i := 703) (by decide +kernel) rfl, pm_tab (i := 1) (by decide +kernel) rfl, rfl, by decide +kernel, by decide +kernel, by decide +kernel⟩, pm_tab (i := 701) (by decide +kernel) rfl, pm_tab (i := 702) (by decide +kernel) rfl⟩
abbrev mi_X9_dropRedirect : pm_Mi := (9, yX9_dropRedirect, cX9_dropRedirect, 2, some .int, { frames := 7, cells := 2, slots := 12, locals := 164 }, [])
theorem cal_X9_dropRedirect : pm_CalV mi_X9_dropRedirect 1 := ⟨⟨pm_tab (i := 732) (by decide +kernel) rfl, pm_tab (i := 1) (by decide +kernel) rfl, rfl, by decide +kernel, by decide +kernel, by decide +kernel⟩, pm_tab (i := 730) (by decide +kernel) rfl, pm_tab (i := 731) (by decide +kernel) rfl⟩
abbrev mi_X9_requireDay : pm_Mi := (9, yX9_requireDay, cX9_requireDay, 1, none, { frames := 6, cells := 1, slots := 6, locals := 90 }, [])
theorem cal_X9_requireDay : pm_CalS mi_X9_requireDay 1 := ⟨⟨pm_tab (i := 751) (by decide +kernel) rfl, pm_tab (i := 1) (by decide +kernel) rfl, rfl, by decide +kernel, by decide +kernel, by decide +kernel⟩, pm_tab (i := 750) (by decide +kernel) rfl⟩
abbrev mi_X9_way : pm_Mi := (9, yX9_way, cX9_way, 5, some .int, { frames := 7, cells := 3, slots := 18, locals := 111 }, [])
theorem cal_X9_way : pm_CalV mi_X9_way 3 := ⟨⟨pm_tab (i := 748) (by decide +kernel) rfl, pm_tab (i := 1) (by decide +kernel) rfl, rfl, by decide +kernel, by decide +kernel, by decide +kernel⟩, pm_tab (i := 746) (by decide +kernel) rfl, pm_tab (i := 747) (by decide +kernel) rfl⟩
abbrev mi_X9_hold : pm_Mi := (9, yX9_hold, cX9_hold, 4, some .int, { frames := 7, cells := 2, slots := 12, locals := 164 }, [])
theorem cal_X9_hold : pm_CalV mi_X9_hold 2 := ⟨⟨pm_tab (i := 774) (by decide +kernel) rfl, pm_tab (i := 1) (by decide +kernel) rfl, rfl, by decide +kernel, by decide +kernel, by decide +kernel⟩, pm_tab (i := 772) (by decide +kernel) rfl, pm_tab (i := 773) (by decide +kernel) rfl⟩
abbrev mi_X9_allow : pm_Mi := (9, yX9_allow, cX9_allow, 5, some .boolean, { frames := 7, cells := 3, slots := 18, locals := 164 }, [])
theorem cal_X9_allow : pm_CalV mi_X9_allow 3 := ⟨⟨pm_tab (i := 782) (by decide +kernel) rfl, pm_tab (i := 1) (by decide +kernel) rfl, rfl, by decide +kernel, by decide +kernel, by decide +kernel⟩, pm_tab (i := 780) (by decide +kernel) rfl, pm_tab (i := 781) (by decide +kernel) rfl⟩
abbrev mi_X9_setLimit : pm_Mi := (9, yX9_setLimit, cX9_setLimit, 4, some .int, { frames := 7, cells := 2, slots := 12, locals := 164 }, [])
theorem cal_X9_setLimit : pm_CalV mi_X9_setLimit 2 := ⟨⟨pm_tab (i := 799) (by decide +kernel) rfl, pm_tab (i := 1) (by decide +kernel) rfl, rfl, by decide +kernel, by decide +kernel, by decide +kernel⟩, pm_tab (i := 797) (by decide +kernel) rfl, pm_tab (i := 798) (by decide +kernel) rfl⟩
abbrev mi_X9_leave : pm_Mi := (9, yX9_leave, cX9_leave, 4, some .int, { frames := 7, cells := 2, slots := 12, locals := 164 }, [])
theorem cal_X9_leave : pm_CalV mi_X9_leave 3 := ⟨⟨pm_tab (i := 807) (by decide +kernel) rfl, pm_tab (i := 1) (by decide +kernel) rfl, rfl, by decide +kernel, by decide +kernel, by decide +kernel⟩, pm_tab (i := 805) (by decide +kernel) rfl, pm_tab (i := 806) (by decide +kernel) rfl⟩
abbrev mi_X9_signer : pm_Mi := (9, yX9_signer, cX9_signer, 4, some .int, { frames := 7, cells := 3, slots := 18, locals := 119 }, [])
theorem cal_X9_signer : pm_CalV mi_X9_signer 2 := ⟨⟨pm_tab (i := 823) (by decide +kernel) rfl, pm_tab (i := 1) (by decide +kernel) rfl, rfl, by decide +kernel, by decide +kernel, by decide +kernel⟩, pm_tab (i := 821) (by decide +kernel) rfl, pm_tab (i := 822) (by decide +kernel) rfl⟩
abbrev mi_X9_residents : pm_Mi := (9, yX9_residents, cX9_residents, 4, some .int, { frames := 7, cells := 3, slots := 18, locals := 120 }, [])
theorem cal_X9_residents : pm_CalV mi_X9_residents 3 := ⟨⟨pm_tab (i := 842) (by decide +kernel) rfl, pm_tab (i := 1) (by decide +kernel) rfl, rfl, by decide +kernel, by decide +kernel, by decide +kernel⟩, pm_tab (i := 840) (by decide +kernel) rfl, pm_tab (i := 841) (by decide +kernel) rfl⟩
abbrev mi_X9_addLetter : pm_Mi := (9, yX9_addLetter, cX9_addLetter, 4, some .int, { frames := 7, cells := 3, slots := 18, locals := 164 }, [])
theorem cal_X9_addLetter : pm_CalV mi_X9_addLetter 3 := ⟨⟨pm_tab (i := 853) (by decide +kernel) rfl, pm_tab (i := 1) (by decide +kernel) rfl, rfl, by decide +kernel, by decide +kernel, by decide +kernel⟩, pm_tab (i := 851) (by decide +kernel) rfl, pm_tab (i := 852) (by decide +kernel) rfl⟩
abbrev mi_X9_append : pm_Mi := (9, yX9_append, cX9_append, 2, none, { frames := 6, cells := 1, slots := 6, locals := 90 }, [])
theorem cal_X9_append : pm_CalV mi_X9_append 1 := ⟨⟨pm_tab (i := 865) (by decide +kernel) rfl, pm_tab (i := 1) (by decide +kernel) rfl, rfl, by decide +kernel, by decide +kernel, by decide +kernel⟩, pm_tab (i := 863) (by decide +kernel) rfl, pm_tab (i := 864) (by decide +kernel) rfl⟩
abbrev mi_X9_reasonAgainstText : pm_Mi := (9, yX9_reasonAgainstText, cX9_reasonAgainstText, 2, some .int, { frames := 1, cells := 0, slots := 0, locals := 21 }, [])
theorem cal_X9_reasonAgainstText : pm_CalV mi_X9_reasonAgainstText 0 := ⟨⟨pm_tab (i := 914) (by decide +kernel) rfl, pm_tab (i := 1) (by decide +kernel) rfl, rfl, by decide +kernel, by decide +kernel, by decide +kernel⟩, pm_tab (i := 913) (by decide +kernel) rfl, pm_prv (i := 10) (by decide +kernel) rfl⟩
abbrev mi_X9_arrive : pm_Mi := (9, yX9_arrive, cX9_arrive, 3, some .int, { frames := 7, cells := 2, slots := 12, locals := 164 }, [])
theorem cal_X9_arrive : pm_CalV mi_X9_arrive 0 := ⟨⟨pm_tab (i := 877) (by decide +kernel) rfl, pm_tab (i := 1) (by decide +kernel) rfl, rfl, by decide +kernel, by decide +kernel, by decide +kernel⟩, pm_tab (i := 875) (by decide +kernel) rfl, pm_tab (i := 876) (by decide +kernel) rfl⟩
abbrev mi_X9_faultPosition : pm_Mi := (9, yX9_faultPosition, cX9_faultPosition, 1, some .int, { frames := 0, cells := 0, slots := 0, locals := 0 }, [])
theorem cal_X9_faultPosition : pm_CalV mi_X9_faultPosition 0 := ⟨⟨pm_tab (i := 341) (by decide +kernel) rfl, pm_tab (i := 1) (by decide +kernel) rfl, rfl, by decide +kernel, by decide +kernel, by decide +kernel⟩, pm_tab (i := 339) (by decide +kernel) rfl, pm_tab (i := 340) (by decide +kernel) rfl⟩
abbrev mi_X9_refusal : pm_Mi := (9, yX9_refusal, cX9_refusal, 1, some .int, { frames := 6, cells := 1, slots := 6, locals := 90 }, [])
theorem cal_X9_refusal : pm_CalV mi_X9_refusal 0 := ⟨⟨pm_tab (i := 921) (by decide +kernel) rfl, pm_tab (i := 1) (by decide +kernel) rfl, rfl, by decide +kernel, by decide +kernel, by decide +kernel⟩, pm_tab (i := 919) (by decide +kernel) rfl, pm_tab (i := 920) (by decide +kernel) rfl⟩
abbrev mi_X9_requireLetter : pm_Mi := (9, yX9_requireLetter, cX9_requireLetter, 2, none, { frames := 6, cells := 1, slots := 6, locals := 90 }, [])
theorem cal_X9_requireLetter : pm_CalV mi_X9_requireLetter 1 := ⟨⟨pm_tab (i := 933) (by decide +kernel) rfl, pm_tab (i := 1) (by decide +kernel) rfl, rfl, by decide +kernel, by decide +kernel, by decide +kernel⟩, pm_tab (i := 932) (by decide +kernel) rfl, pm_prv (i := 11) (by decide +kernel) rfl⟩
abbrev mi_X9_letter : pm_Mi := (9, yX9_letter, cX9_letter, 3, some .int, { frames := 7, cells := 2, slots := 12, locals := 111 }, [])
theorem cal_X9_letter : pm_CalV mi_X9_letter 2 := ⟨⟨pm_tab (i := 929) (by decide +kernel) rfl, pm_tab (i := 1) (by decide +kernel) rfl, rfl, by decide +kernel, by decide +kernel, by decide +kernel⟩, pm_tab (i := 927) (by decide +kernel) rfl, pm_tab (i := 928) (by decide +kernel) rfl⟩
abbrev mi_X9_delivered : pm_Mi := (9, yX9_delivered, cX9_delivered, 2, some .int, { frames := 6, cells := 1, slots := 6, locals := 90 }, [])
theorem cal_X9_delivered : pm_CalV mi_X9_delivered 1 := ⟨⟨pm_tab (i := 1143) (by decide +kernel) rfl, pm_tab (i := 1) (by decide +kernel) rfl, rfl, by decide +kernel, by decide +kernel, by decide +kernel⟩, pm_tab (i := 1141) (by decide +kernel) rfl, pm_tab (i := 1142) (by decide +kernel) rfl⟩
abbrev mi_X9_daysLeft : pm_Mi := (9, yX9_daysLeft, cX9_daysLeft, 3, some .int, { frames := 7, cells := 2, slots := 12, locals := 167 }, [])
theorem cal_X9_daysLeft : pm_CalV mi_X9_daysLeft 1 := ⟨⟨pm_tab (i := 1151) (by decide +kernel) rfl, pm_tab (i := 1) (by decide +kernel) rfl, rfl, by decide +kernel, by decide +kernel, by decide +kernel⟩, pm_tab (i := 1149) (by decide +kernel) rfl, pm_tab (i := 1150) (by decide +kernel) rfl⟩
abbrev mi_X9_pass : pm_Mi := (9, yX9_pass, cX9_pass, 4, some .int, { frames := 7, cells := 1, slots := 6, locals := 165 }, [])
theorem cal_X9_pass : pm_CalV mi_X9_pass 1 := ⟨⟨pm_tab (i := 1173) (by decide +kernel) rfl, pm_tab (i := 1) (by decide +kernel) rfl, rfl, by decide +kernel, by decide +kernel, by decide +kernel⟩, pm_tab (i := 1171) (by decide +kernel) rfl, pm_tab (i := 1172) (by decide +kernel) rfl⟩
abbrev mi_X9_today : pm_Mi := (9, yX9_today, cX9_today, 1, some .int, { frames := 0, cells := 0, slots := 0, locals := 0 }, [])
theorem cal_X9_today : pm_CalV mi_X9_today 0 := ⟨⟨pm_tab (i := 345) (by decide +kernel) rfl, pm_tab (i := 1) (by decide +kernel) rfl, rfl, by decide +kernel, by decide +kernel, by decide +kernel⟩, pm_tab (i := 343) (by decide +kernel) rfl, pm_tab (i := 344) (by decide +kernel) rfl⟩
abbrev mi_X9_account : pm_Mi := (9, yX9_account, cX9_account, 2, some .int, { frames := 6, cells := 1, slots := 6, locals := 90 }, [])
theorem cal_X9_account : pm_CalV mi_X9_account 1 := ⟨⟨pm_tab (i := 1209) (by decide +kernel) rfl, pm_tab (i := 1) (by decide +kernel) rfl, rfl, by decide +kernel, by decide +kernel, by decide +kernel⟩, pm_tab (i := 1207) (by decide +kernel) rfl, pm_tab (i := 1208) (by decide +kernel) rfl⟩
abbrev mi_X9_returned : pm_Mi := (9, yX9_returned, cX9_returned, 2, some .int, { frames := 6, cells := 1, slots := 6, locals := 90 }, [])
theorem cal_X9_returned : pm_CalV mi_X9_returned 1 := ⟨⟨pm_tab (i := 1229) (by decide +kernel) rfl, pm_tab (i := 1) (by decide +kernel) rfl, rfl, by decide +kernel, by decide +kernel, by decide +kernel⟩, pm_tab (i := 1227) (by decide +kernel) rfl, pm_tab (i := 1228) (by decide +kernel) rfl⟩
abbrev mi_X9_meanDays : pm_Mi := (9, yX9_meanDays, cX9_meanDays, 2, some .double, { frames := 6, cells := 1, slots := 6, locals := 90 }, [])
theorem cal_X9_meanDays : pm_CalV mi_X9_meanDays 0 := ⟨⟨pm_tab (i := 1255) (by decide +kernel) rfl, pm_tab (i := 1) (by decide +kernel) rfl, rfl, by decide +kernel, by decide +kernel, by decide +kernel⟩, pm_tab (i := 1253) (by decide +kernel) rfl, pm_tab (i := 1254) (by decide +kernel) rfl⟩
abbrev mi_X9_undo : pm_Mi := (9, yX9_undo, cX9_undo, 1, some .int, { frames := 6, cells := 1, slots := 6, locals := 164 }, [])
theorem cal_X9_undo : pm_CalV mi_X9_undo 0 := ⟨⟨pm_tab (i := 1269) (by decide +kernel) rfl, pm_tab (i := 1) (by decide +kernel) rfl, rfl, by decide +kernel, by decide +kernel, by decide +kernel⟩, pm_tab (i := 1267) (by decide +kernel) rfl, pm_tab (i := 1268) (by decide +kernel) rfl⟩
abbrev mi_X9_save : pm_Mi := (9, yX9_save, cX9_save, 1, none, { frames := 5, cells := 0, slots := 0, locals := 143 }, [])
theorem cal_X9_save : pm_CalV mi_X9_save 0 := ⟨⟨pm_tab (i := 349) (by decide +kernel) rfl, pm_tab (i := 1) (by decide +kernel) rfl, rfl, by decide +kernel, by decide +kernel, by decide +kernel⟩, pm_tab (i := 347) (by decide +kernel) rfl, pm_tab (i := 348) (by decide +kernel) rfl⟩
abbrev mi_X9_restore : pm_Mi := (9, yX9_restore, cX9_restore, 1, none, { frames := 6, cells := 1, slots := 6, locals := 143 }, [])
theorem cal_X9_restore : pm_CalV mi_X9_restore 0 := ⟨⟨pm_tab (i := 1281) (by decide +kernel) rfl, pm_tab (i := 1) (by decide +kernel) rfl, rfl, by decide +kernel, by decide +kernel, by decide +kernel⟩, pm_tab (i := 1279) (by decide +kernel) rfl, pm_tab (i := 1280) (by decide +kernel) rfl⟩
abbrev mi_X10_thrown : pm_Mi := (10, yX10_thrown, cX10_thrown, 1, some .int, { frames := 0, cells := 0, slots := 0, locals := 0 }, [])
theorem cal_X10_thrown : pm_CalV mi_X10_thrown 0 := ⟨⟨pm_tab (i := 1345) (by decide +kernel) rfl, pm_tab (i := 11) (by decide +kernel) rfl, rfl, by decide +kernel, by decide +kernel, by decide +kernel⟩, pm_tab (i := 1343) (by decide +kernel) rfl, pm_tab (i := 1344) (by decide +kernel) rfl⟩
abbrev mi_X10_fails : pm_Mi := (10, yX10_fails, cX10_fails, 2, some .int, { frames := 0, cells := 0, slots := 0, locals := 0 }, [])
theorem cal_X10_fails : pm_CalV mi_X10_fails 1 := ⟨⟨pm_tab (i := 1419) (by decide +kernel) rfl, pm_tab (i := 11) (by decide +kernel) rfl, rfl, by decide +kernel, by decide +kernel, by decide +kernel⟩, pm_tab (i := 1418) (by decide +kernel) rfl, pm_prv (i := 25) (by decide +kernel) rfl⟩
abbrev mi_X10_refuses : pm_Mi := (10, yX10_refuses, cX10_refuses, 3, some .int, { frames := 1, cells := 0, slots := 0, locals := 21 }, [])
theorem cal_X10_refuses : pm_CalV mi_X10_refuses 2 := ⟨⟨pm_tab (i := 1442) (by decide +kernel) rfl, pm_tab (i := 11) (by decide +kernel) rfl, rfl, by decide +kernel, by decide +kernel, by decide +kernel⟩, pm_tab (i := 1441) (by decide +kernel) rfl, pm_prv (i := 28) (by decide +kernel) rfl⟩
abbrev mi_X10_in : pm_Mi := (10, yX10_in, cX10_in, 3, some .boolean, { frames := 0, cells := 0, slots := 0, locals := 0 }, [])
theorem cal_X10_in : pm_CalS mi_X10_in 3 := ⟨⟨pm_tab (i := 1367) (by decide +kernel) rfl, pm_tab (i := 11) (by decide +kernel) rfl, rfl, by decide +kernel, by decide +kernel, by decide +kernel⟩, pm_tab (i := 1366) (by decide +kernel) rfl⟩
abbrev mi_X10_areDays : pm_Mi := (10, yX10_areDays, cX10_areDays, 2, some .boolean, { frames := 1, cells := 0, slots := 0, locals := 22 }, [])
theorem cal_X10_areDays : pm_CalS mi_X10_areDays 2 := ⟨⟨pm_tab (i := 1434) (by decide +kernel) rfl, pm_tab (i := 11) (by decide +kernel) rfl, rfl, by decide +kernel, by decide +kernel, by decide +kernel⟩, pm_tab (i := 1433) (by decide +kernel) rfl⟩
abbrev mi_X10_copies : pm_Mi := (10, yX10_copies, cX10_copies, 5, none, { frames := 0, cells := 0, slots := 0, locals := 0 }, [])
theorem cal_X10_copies : pm_CalS mi_X10_copies 4 := ⟨⟨pm_tab (i := 1352) (by decide +kernel) rfl, pm_tab (i := 11) (by decide +kernel) rfl, rfl, by decide +kernel, by decide +kernel, by decide +kernel⟩, pm_tab (i := 1351) (by decide +kernel) rfl⟩
abbrev mi_X10_changes : pm_Mi := (10, yX10_changes, cX10_changes, 3, none, { frames := 1, cells := 0, slots := 0, locals := 24 }, [])
theorem cal_X10_changes : pm_CalV mi_X10_changes 1 := ⟨⟨pm_tab (i := 1379) (by decide +kernel) rfl, pm_tab (i := 11) (by decide +kernel) rfl, rfl, by decide +kernel, by decide +kernel, by decide +kernel⟩, pm_tab (i := 1378) (by decide +kernel) rfl, pm_prv (i := 19) (by decide +kernel) rfl⟩
abbrev mi_X10_undo : pm_Mi := (10, yX10_undo, cX10_undo, 1, some .int, { frames := 1, cells := 0, slots := 0, locals := 24 }, [])
theorem cal_X10_undo : pm_CalV mi_X10_undo 0 := ⟨⟨pm_tab (i := 1349) (by decide +kernel) rfl, pm_tab (i := 11) (by decide +kernel) rfl, rfl, by decide +kernel, by decide +kernel, by decide +kernel⟩, pm_tab (i := 1347) (by decide +kernel) rfl, pm_tab (i := 1348) (by decide +kernel) rfl⟩
abbrev mi_X10_save : pm_Mi := (10, yX10_save, cX10_save, 1, none, { frames := 1, cells := 0, slots := 0, locals := 24 }, [])
theorem cal_X10_save : pm_CalV mi_X10_save 0 := ⟨⟨pm_tab (i := 1356) (by decide +kernel) rfl, pm_tab (i := 11) (by decide +kernel) rfl, rfl, by decide +kernel, by decide +kernel, by decide +kernel⟩, pm_tab (i := 1354) (by decide +kernel) rfl, pm_tab (i := 1355) (by decide +kernel) rfl⟩
abbrev mi_X10_restore : pm_Mi := (10, yX10_restore, cX10_restore, 1, none, { frames := 1, cells := 0, slots := 0, locals := 24 }, [])
theorem cal_X10_restore : pm_CalV mi_X10_restore 0 := ⟨⟨pm_tab (i := 1360) (by decide +kernel) rfl, pm_tab (i := 11) (by decide +kernel) rfl, rfl, by decide +kernel, by decide +kernel, by decide +kernel⟩, pm_tab (i := 1358) (by decide +kernel) rfl, pm_tab (i := 1359) (by decide +kernel) rfl⟩
abbrev mi_X10_isHouse : pm_Mi := (10, yX10_isHouse, cX10_isHouse, 2, some .boolean, { frames := 1, cells := 0, slots := 0, locals := 22 }, [])
theorem cal_X10_isHouse : pm_CalV mi_X10_isHouse 1 := ⟨⟨pm_tab (i := 1387) (by decide +kernel) rfl, pm_tab (i := 11) (by decide +kernel) rfl, rfl, by decide +kernel, by decide +kernel, by decide +kernel⟩, pm_tab (i := 1386) (by decide +kernel) rfl, pm_prv (i := 20) (by decide +kernel) rfl⟩
abbrev mi_X10_isPerson : pm_Mi := (10, yX10_isPerson, cX10_isPerson, 2, some .boolean, { frames := 1, cells := 0, slots := 0, locals := 22 }, [])
theorem cal_X10_isPerson : pm_CalV mi_X10_isPerson 1 := ⟨⟨pm_tab (i := 1431) (by decide +kernel) rfl, pm_tab (i := 11) (by decide +kernel) rfl, rfl, by decide +kernel, by decide +kernel, by decide +kernel⟩, pm_tab (i := 1430) (by decide +kernel) rfl, pm_prv (i := 26) (by decide +kernel) rfl⟩
abbrev mi_X10_streetOf : pm_Mi := (10, yX10_streetOf, cX10_streetOf, 2, some .int, { frames := 0, cells := 0, slots := 0, locals := 0 }, [])
theorem cal_X10_streetOf : pm_CalV mi_X10_streetOf 1 := ⟨⟨pm_tab (i := 1371) (by decide +kernel) rfl, pm_tab (i := 11) (by decide +kernel) rfl, rfl, by decide +kernel, by decide +kernel, by decide +kernel⟩, pm_tab (i := 1370) (by decide +kernel) rfl, pm_prv (i := 17) (by decide +kernel) rfl⟩
abbrev mi_X10_numberOf : pm_Mi := (10, yX10_numberOf, cX10_numberOf, 2, some .int, { frames := 0, cells := 0, slots := 0, locals := 0 }, [])
theorem cal_X10_numberOf : pm_CalV mi_X10_numberOf 1 := ⟨⟨pm_tab (i := 1375) (by decide +kernel) rfl, pm_tab (i := 11) (by decide +kernel) rfl, rfl, by decide +kernel, by decide +kernel, by decide +kernel⟩, pm_tab (i := 1374) (by decide +kernel) rfl, pm_prv (i := 18) (by decide +kernel) rfl⟩
abbrev mi_X10_houseOf : pm_Mi := (10, yX10_houseOf, cX10_houseOf, 2, some .int, { frames := 0, cells := 0, slots := 0, locals := 0 }, [])
theorem cal_X10_houseOf : pm_CalV mi_X10_houseOf 1 := ⟨⟨pm_tab (i := 1478) (by decide +kernel) rfl, pm_tab (i := 11) (by decide +kernel) rfl, rfl, by decide +kernel, by decide +kernel, by decide +kernel⟩, pm_tab (i := 1477) (by decide +kernel) rfl, pm_prv (i := 34) (by decide +kernel) rfl⟩
abbrev mi_X10_addHouse : pm_Mi := (10, yX10_addHouse, cX10_addHouse, 5, some .int, { frames := 2, cells := 0, slots := 0, locals := 46 }, [])
theorem cal_X10_addHouse : pm_CalV mi_X10_addHouse 2 := ⟨⟨pm_tab (i := 1364) (by decide +kernel) rfl, pm_tab (i := 11) (by decide +kernel) rfl, rfl, by decide +kernel, by decide +kernel, by decide +kernel⟩, pm_tab (i := 1362) (by decide +kernel) rfl, pm_tab (i := 1363) (by decide +kernel) rfl⟩
abbrev mi_X10_addPerson : pm_Mi := (10, yX10_addPerson, cX10_addPerson, 3, some .int, { frames := 2, cells := 0, slots := 0, locals := 46 }, [])
theorem cal_X10_addPerson : pm_CalV mi_X10_addPerson 1 := ⟨⟨pm_tab (i := 1383) (by decide +kernel) rfl, pm_tab (i := 11) (by decide +kernel) rfl, rfl, by decide +kernel, by decide +kernel, by decide +kernel⟩, pm_tab (i := 1381) (by decide +kernel) rfl, pm_tab (i := 1382) (by decide +kernel) rfl⟩
abbrev mi_X10_couldServe : pm_Mi := (10, yX10_couldServe, cX10_couldServe, 4, some .boolean, { frames := 1, cells := 0, slots := 0, locals := 22 }, [])
theorem cal_X10_couldServe : pm_CalV mi_X10_couldServe 2 := ⟨⟨pm_tab (i := 1403) (by decide +kernel) rfl, pm_tab (i := 11) (by decide +kernel) rfl, rfl, by decide +kernel, by decide +kernel, by decide +kernel⟩, pm_tab (i := 1402) (by decide +kernel) rfl, pm_prv (i := 23) (by decide +kernel) rfl⟩
abbrev mi_X10_serving : pm_Mi := (10, yX10_serving, cX10_serving, 3, some .int, { frames := 2, cells := 0, slots := 0, locals := 45 }, [])
theorem cal_X10_serving : pm_CalV mi_X10_serving 1 := ⟨⟨pm_tab (i := 1399) (by decide +kernel) rfl, pm_tab (i := 11) (by decide +kernel) rfl, rfl, by decide +kernel, by decide +kernel, by decide +kernel⟩, pm_tab (i := 1398) (by decide +kernel) rfl, pm_prv (i := 22) (by decide +kernel) rfl⟩
abbrev mi_X10_served : pm_Mi := (10, yX10_served, cX10_served, 4, some .int, { frames := 3, cells := 0, slots := 0, locals := 67 }, [])
theorem cal_X10_served : pm_CalV mi_X10_served 1 := ⟨⟨pm_tab (i := 1395) (by decide +kernel) rfl, pm_tab (i := 11) (by decide +kernel) rfl, rfl, by decide +kernel, by decide +kernel, by decide +kernel⟩, pm_tab (i := 1394) (by decide +kernel) rfl, pm_prv (i := 21) (by decide +kernel) rfl⟩
abbrev mi_X10_addWalk : pm_Mi := (10, yX10_addWalk, cX10_addWalk, 7, some .int, { frames := 4, cells := 0, slots := 0, locals := 90 }, [])
theorem cal_X10_addWalk : pm_CalV mi_X10_addWalk 5 := ⟨⟨pm_tab (i := 1391) (by decide +kernel) rfl, pm_tab (i := 11) (by decide +kernel) rfl, rfl, by decide +kernel, by decide +kernel, by decide +kernel⟩, pm_tab (i := 1389) (by decide +kernel) rfl, pm_tab (i := 1390) (by decide +kernel) rfl⟩
abbrev mi_X10_walkOf : pm_Mi := (10, yX10_walkOf, cX10_walkOf, 2, some .int, { frames := 3, cells := 0, slots := 0, locals := 67 }, [])
theorem cal_X10_walkOf : pm_CalV mi_X10_walkOf 1 := ⟨⟨pm_tab (i := 1407) (by decide +kernel) rfl, pm_tab (i := 11) (by decide +kernel) rfl, rfl, by decide +kernel, by decide +kernel, by decide +kernel⟩, pm_tab (i := 1405) (by decide +kernel) rfl, pm_tab (i := 1406) (by decide +kernel) rfl⟩
abbrev mi_X10_stopsAhead : pm_Mi := (10, yX10_stopsAhead, cX10_stopsAhead, 6, some .int, { frames := 3, cells := 0, slots := 0, locals := 67 }, [])
theorem cal_X10_stopsAhead : pm_CalV mi_X10_stopsAhead 1 := ⟨⟨pm_tab (i := 1415) (by decide +kernel) rfl, pm_tab (i := 11) (by decide +kernel) rfl, rfl, by decide +kernel, by decide +kernel, by decide +kernel⟩, pm_tab (i := 1414) (by decide +kernel) rfl, pm_prv (i := 24) (by decide +kernel) rfl⟩
abbrev mi_X10_stop : pm_Mi := (10, yX10_stop, cX10_stop, 4, some .int, { frames := 4, cells := 0, slots := 0, locals := 92 }, [])
theorem cal_X10_stop : pm_CalV mi_X10_stop 2 := ⟨⟨pm_tab (i := 1411) (by decide +kernel) rfl, pm_tab (i := 11) (by decide +kernel) rfl, rfl, by decide +kernel, by decide +kernel, by decide +kernel⟩, pm_tab (i := 1409) (by decide +kernel) rfl, pm_tab (i := 1410) (by decide +kernel) rfl⟩
abbrev mi_X10_stopIndex : pm_Mi := (10, yX10_stopIndex, cX10_stopIndex, 2, some .int, { frames := 4, cells := 0, slots := 0, locals := 92 }, [])
theorem cal_X10_stopIndex : pm_CalV mi_X10_stopIndex 1 := ⟨⟨pm_tab (i := 1423) (by decide +kernel) rfl, pm_tab (i := 11) (by decide +kernel) rfl, rfl, by decide +kernel, by decide +kernel, by decide +kernel⟩, pm_tab (i := 1421) (by decide +kernel) rfl, pm_tab (i := 1422) (by decide +kernel) rfl⟩
abbrev mi_X10_leads : pm_Mi := (10, yX10_leads, cX10_leads, 6, some .int, { frames := 1, cells := 0, slots := 0, locals := 22 }, [])
theorem cal_X10_leads : pm_CalV mi_X10_leads 3 := ⟨⟨pm_tab (i := 1454) (by decide +kernel) rfl, pm_tab (i := 11) (by decide +kernel) rfl, rfl, by decide +kernel, by decide +kernel, by decide +kernel⟩, pm_tab (i := 1453) (by decide +kernel) rfl, pm_prv (i := 31) (by decide +kernel) rfl⟩
abbrev mi_X10_isRoundOn : pm_Mi := (10, yX10_isRoundOn, cX10_isRoundOn, 5, some .boolean, { frames := 2, cells := 0, slots := 0, locals := 47 }, [])
theorem cal_X10_isRoundOn : pm_CalV mi_X10_isRoundOn 1 := ⟨⟨pm_tab (i := 1450) (by decide +kernel) rfl, pm_tab (i := 11) (by decide +kernel) rfl, rfl, by decide +kernel, by decide +kernel, by decide +kernel⟩, pm_tab (i := 1449) (by decide +kernel) rfl, pm_prv (i := 30) (by decide +kernel) rfl⟩
abbrev mi_X10_isRound : pm_Mi := (10, yX10_isRound, cX10_isRound, 2, some .boolean, { frames := 3, cells := 0, slots := 0, locals := 71 }, [])
theorem cal_X10_isRound : pm_CalV mi_X10_isRound 0 := ⟨⟨pm_tab (i := 1446) (by decide +kernel) rfl, pm_tab (i := 11) (by decide +kernel) rfl, rfl, by decide +kernel, by decide +kernel, by decide +kernel⟩, pm_tab (i := 1445) (by decide +kernel) rfl, pm_prv (i := 29) (by decide +kernel) rfl⟩
abbrev mi_X10_redirects : pm_Mi := (10, yX10_redirects, cX10_redirects, 7, some .int, { frames := 4, cells := 0, slots := 0, locals := 92 }, [])
theorem cal_X10_redirects : pm_CalV mi_X10_redirects 5 := ⟨⟨pm_tab (i := 1438) (by decide +kernel) rfl, pm_tab (i := 11) (by decide +kernel) rfl, rfl, by decide +kernel, by decide +kernel, by decide +kernel⟩, pm_tab (i := 1437) (by decide +kernel) rfl, pm_prv (i := 27) (by decide +kernel) rfl⟩
abbrev mi_X10_redirectPerson : pm_Mi := (10, yX10_redirectPerson, cX10_redirectPerson, 5, some .int, { frames := 5, cells := 0, slots := 0, locals := 118 }, [])
theorem cal_X10_redirectPerson : pm_CalV mi_X10_redirectPerson 4 := ⟨⟨pm_tab (i := 1427) (by decide +kernel) rfl, pm_tab (i := 11) (by decide +kernel) rfl, rfl, by decide +kernel, by decide +kernel, by decide +kernel⟩, pm_tab (i := 1425) (by decide +kernel) rfl, pm_tab (i := 1426) (by decide +kernel) rfl⟩
abbrev mi_X10_redirectHouse : pm_Mi := (10, yX10_redirectHouse, cX10_redirectHouse, 5, some .int, { frames := 5, cells := 0, slots := 0, locals := 118 }, [])
theorem cal_X10_redirectHouse : pm_CalV mi_X10_redirectHouse 4 := ⟨⟨pm_tab (i := 1458) (by decide +kernel) rfl, pm_tab (i := 11) (by decide +kernel) rfl, rfl, by decide +kernel, by decide +kernel, by decide +kernel⟩, pm_tab (i := 1456) (by decide +kernel) rfl, pm_tab (i := 1457) (by decide +kernel) rfl⟩
abbrev mi_X10_dropRedirect : pm_Mi := (10, yX10_dropRedirect, cX10_dropRedirect, 3, some .int, { frames := 4, cells := 0, slots := 0, locals := 92 }, [])
theorem cal_X10_dropRedirect : pm_CalV mi_X10_dropRedirect 1 := ⟨⟨pm_tab (i := 1462) (by decide +kernel) rfl, pm_tab (i := 11) (by decide +kernel) rfl, rfl, by decide +kernel, by decide +kernel, by decide +kernel⟩, pm_tab (i := 1460) (by decide +kernel) rfl, pm_tab (i := 1461) (by decide +kernel) rfl⟩
abbrev mi_X10_wayBegins : pm_Mi := (10, yX10_wayBegins, cX10_wayBegins, 4, some .int, { frames := 2, cells := 0, slots := 0, locals := 47 }, [])
theorem cal_X10_wayBegins : pm_CalV mi_X10_wayBegins 2 := ⟨⟨pm_tab (i := 1474) (by decide +kernel) rfl, pm_tab (i := 11) (by decide +kernel) rfl, rfl, by decide +kernel, by decide +kernel, by decide +kernel⟩, pm_tab (i := 1473) (by decide +kernel) rfl, pm_prv (i := 33) (by decide +kernel) rfl⟩
abbrev mi_X10_wayEnds : pm_Mi := (10, yX10_wayEnds, cX10_wayEnds, 4, some .int, { frames := 3, cells := 0, slots := 0, locals := 70 }, [])
theorem cal_X10_wayEnds : pm_CalV mi_X10_wayEnds 2 := ⟨⟨pm_tab (i := 1470) (by decide +kernel) rfl, pm_tab (i := 11) (by decide +kernel) rfl, rfl, by decide +kernel, by decide +kernel, by decide +kernel⟩, pm_tab (i := 1469) (by decide +kernel) rfl, pm_prv (i := 32) (by decide +kernel) rfl⟩
abbrev mi_X10_way : pm_Mi := (10, yX10_way, cX10_way, 6, some .int, { frames := 4, cells := 0, slots := 0, locals := 93 }, [])
theorem cal_X10_way : pm_CalV mi_X10_way 3 := ⟨⟨pm_tab (i := 1466) (by decide +kernel) rfl, pm_tab (i := 11) (by decide +kernel) rfl, rfl, by decide +kernel, by decide +kernel, by decide +kernel⟩, pm_tab (i := 1464) (by decide +kernel) rfl, pm_tab (i := 1465) (by decide +kernel) rfl⟩
abbrev mi_X10_hold : pm_Mi := (10, yX10_hold, cX10_hold, 4, some .int, { frames := 2, cells := 0, slots := 0, locals := 46 }, [])
theorem cal_X10_hold : pm_CalV mi_X10_hold 2 := ⟨⟨pm_tab (i := 1482) (by decide +kernel) rfl, pm_tab (i := 11) (by decide +kernel) rfl, rfl, by decide +kernel, by decide +kernel, by decide +kernel⟩, pm_tab (i := 1480) (by decide +kernel) rfl, pm_tab (i := 1481) (by decide +kernel) rfl⟩
abbrev mi_X10_allow : pm_Mi := (10, yX10_allow, cX10_allow, 6, some .boolean, { frames := 2, cells := 0, slots := 0, locals := 46 }, [])
theorem cal_X10_allow : pm_CalV mi_X10_allow 3 := ⟨⟨pm_tab (i := 1486) (by decide +kernel) rfl, pm_tab (i := 11) (by decide +kernel) rfl, rfl, by decide +kernel, by decide +kernel, by decide +kernel⟩, pm_tab (i := 1484) (by decide +kernel) rfl, pm_tab (i := 1485) (by decide +kernel) rfl⟩
abbrev mi_X10_setLimit : pm_Mi := (10, yX10_setLimit, cX10_setLimit, 4, some .int, { frames := 2, cells := 0, slots := 0, locals := 46 }, [])
theorem cal_X10_setLimit : pm_CalV mi_X10_setLimit 2 := ⟨⟨pm_tab (i := 1490) (by decide +kernel) rfl, pm_tab (i := 11) (by decide +kernel) rfl, rfl, by decide +kernel, by decide +kernel, by decide +kernel⟩, pm_tab (i := 1488) (by decide +kernel) rfl, pm_tab (i := 1489) (by decide +kernel) rfl⟩
abbrev mi_X10_leave : pm_Mi := (10, yX10_leave, cX10_leave, 5, some .int, { frames := 2, cells := 0, slots := 0, locals := 46 }, [])
theorem cal_X10_leave : pm_CalV mi_X10_leave 3 := ⟨⟨pm_tab (i := 1494) (by decide +kernel) rfl, pm_tab (i := 11) (by decide +kernel) rfl, rfl, by decide +kernel, by decide +kernel, by decide +kernel⟩, pm_tab (i := 1492) (by decide +kernel) rfl, pm_tab (i := 1493) (by decide +kernel) rfl⟩
abbrev mi_X10_isAbsent : pm_Mi := (10, yX10_isAbsent, cX10_isAbsent, 4, some .boolean, { frames := 1, cells := 0, slots := 0, locals := 22 }, [])
theorem cal_X10_isAbsent : pm_CalV mi_X10_isAbsent 2 := ⟨⟨pm_tab (i := 1506) (by decide +kernel) rfl, pm_tab (i := 11) (by decide +kernel) rfl, rfl, by decide +kernel, by decide +kernel, by decide +kernel⟩, pm_tab (i := 1505) (by decide +kernel) rfl, pm_prv (i := 36) (by decide +kernel) rfl⟩
abbrev mi_X10_signs : pm_Mi := (10, yX10_signs, cX10_signs, 5, some .int, { frames := 4, cells := 0, slots := 0, locals := 93 }, [])
theorem cal_X10_signs : pm_CalV mi_X10_signs 2 := ⟨⟨pm_tab (i := 1502) (by decide +kernel) rfl, pm_tab (i := 11) (by decide +kernel) rfl, rfl, by decide +kernel, by decide +kernel, by decide +kernel⟩, pm_tab (i := 1501) (by decide +kernel) rfl, pm_prv (i := 35) (by decide +kernel) rfl⟩
abbrev mi_X10_signer : pm_Mi := (10, yX10_signer, cX10_signer, 3, some .int, { frames := 5, cells := 0, slots := 0, locals := 117 }, [])
theorem cal_X10_signer : pm_CalV mi_X10_signer 2 := ⟨⟨pm_tab (i := 1498) (by decide +kernel) rfl, pm_tab (i := 11) (by decide +kernel) rfl, rfl, by decide +kernel, by decide +kernel, by decide +kernel⟩, pm_tab (i := 1496) (by decide +kernel) rfl, pm_tab (i := 1497) (by decide +kernel) rfl⟩
abbrev mi_X10_at : pm_Mi := (10, yX10_at, cX10_at, 2, some .int, { frames := 0, cells := 0, slots := 0, locals := 0 }, [])
theorem cal_X10_at : pm_CalS mi_X10_at 2 := ⟨⟨pm_tab (i := 1517) (by decide +kernel) rfl, pm_tab (i := 11) (by decide +kernel) rfl, rfl, by decide +kernel, by decide +kernel, by decide +kernel⟩, pm_tab (i := 1516) (by decide +kernel) rfl⟩
abbrev mi_X10_addsLetter : pm_Mi := (10, yX10_addsLetter, cX10_addsLetter, 6, none, { frames := 1, cells := 0, slots := 0, locals := 21 }, [])
theorem cal_X10_addsLetter : pm_CalV mi_X10_addsLetter 3 := ⟨⟨pm_tab (i := 1514) (by decide +kernel) rfl, pm_tab (i := 11) (by decide +kernel) rfl, rfl, by decide +kernel, by decide +kernel, by decide +kernel⟩, pm_tab (i := 1513) (by decide +kernel) rfl, pm_prv (i := 37) (by decide +kernel) rfl⟩
abbrev mi_X10_addLetter : pm_Mi := (10, yX10_addLetter, cX10_addLetter, 4, some .int, { frames := 2, cells := 0, slots := 0, locals := 46 }, [])
theorem cal_X10_addLetter : pm_CalV mi_X10_addLetter 3 := ⟨⟨pm_tab (i := 1510) (by decide +kernel) rfl, pm_tab (i := 11) (by decide +kernel) rfl, rfl, by decide +kernel, by decide +kernel, by decide +kernel⟩, pm_tab (i := 1508) (by decide +kernel) rfl, pm_tab (i := 1509) (by decide +kernel) rfl⟩
abbrev mi_X10_refusal : pm_Mi := (10, yX10_refusal, cX10_refusal, 1, some .int, { frames := 0, cells := 0, slots := 0, locals := 0 }, [])
theorem cal_X10_refusal : pm_CalV mi_X10_refusal 0 := ⟨⟨pm_tab (i := 1521) (by decide +kernel) rfl, pm_tab (i := 11) (by decide +kernel) rfl, rfl, by decide +kernel, by decide +kernel, by decide +kernel⟩, pm_tab (i := 1519) (by decide +kernel) rfl, pm_tab (i := 1520) (by decide +kernel) rfl⟩
abbrev mi_X10_isLetter : pm_Mi := (10, yX10_isLetter, cX10_isLetter, 2, some .boolean, { frames := 1, cells := 0, slots := 0, locals := 22 }, [])
theorem cal_X10_isLetter : pm_CalV mi_X10_isLetter 1 := ⟨⟨pm_tab (i := 1529) (by decide +kernel) rfl, pm_tab (i := 11) (by decide +kernel) rfl, rfl, by decide +kernel, by decide +kernel, by decide +kernel⟩, pm_tab (i := 1528) (by decide +kernel) rfl, pm_prv (i := 38) (by decide +kernel) rfl⟩
abbrev mi_X10_letter : pm_Mi := (10, yX10_letter, cX10_letter, 3, some .int, { frames := 2, cells := 0, slots := 0, locals := 43 }, [])
theorem cal_X10_letter : pm_CalV mi_X10_letter 2 := ⟨⟨pm_tab (i := 1525) (by decide +kernel) rfl, pm_tab (i := 11) (by decide +kernel) rfl, rfl, by decide +kernel, by decide +kernel, by decide +kernel⟩, pm_tab (i := 1523) (by decide +kernel) rfl, pm_tab (i := 1524) (by decide +kernel) rfl⟩
abbrev mi_X10_delivered : pm_Mi := (10, yX10_delivered, cX10_delivered, 3, some .int, { frames := 1, cells := 0, slots := 0, locals := 21 }, [])
theorem cal_X10_delivered : pm_CalV mi_X10_delivered 1 := ⟨⟨pm_tab (i := 1533) (by decide +kernel) rfl, pm_tab (i := 11) (by decide +kernel) rfl, rfl, by decide +kernel, by decide +kernel, by decide +kernel⟩, pm_tab (i := 1531) (by decide +kernel) rfl, pm_tab (i := 1532) (by decide +kernel) rfl⟩
abbrev mi_X10_returns : pm_Mi := (10, yX10_returns, cX10_returns, 3, none, { frames := 1, cells := 0, slots := 0, locals := 21 }, [])
theorem cal_X10_returns : pm_CalV mi_X10_returns 2 := ⟨⟨pm_tab (i := 1549) (by decide +kernel) rfl, pm_tab (i := 11) (by decide +kernel) rfl, rfl, by decide +kernel, by decide +kernel, by decide +kernel⟩, pm_tab (i := 1548) (by decide +kernel) rfl, pm_prv (i := 41) (by decide +kernel) rfl⟩
abbrev mi_X10_delivers : pm_Mi := (10, yX10_delivers, cX10_delivers, 4, none, { frames := 1, cells := 0, slots := 0, locals := 21 }, [])
theorem cal_X10_delivers : pm_CalV mi_X10_delivers 3 := ⟨⟨pm_tab (i := 1553) (by decide +kernel) rfl, pm_tab (i := 11) (by decide +kernel) rfl, rfl, by decide +kernel, by decide +kernel, by decide +kernel⟩, pm_tab (i := 1552) (by decide +kernel) rfl, pm_prv (i := 42) (by decide +kernel) rfl⟩
abbrev mi_X10_looksAt : pm_Mi := (10, yX10_looksAt, cX10_looksAt, 4, none, { frames := 5, cells := 0, slots := 0, locals := 117 }, [])
theorem cal_X10_looksAt : pm_CalV mi_X10_looksAt 1 := ⟨⟨pm_tab (i := 1545) (by decide +kernel) rfl, pm_tab (i := 11) (by decide +kernel) rfl, rfl, by decide +kernel, by decide +kernel, by decide +kernel⟩, pm_tab (i := 1544) (by decide +kernel) rfl, pm_prv (i := 40) (by decide +kernel) rfl⟩
abbrev mi_X10_isAhead : pm_Mi := (10, yX10_isAhead, cX10_isAhead, 5, some .boolean, { frames := 4, cells := 0, slots := 0, locals := 92 }, [])
theorem cal_X10_isAhead : pm_CalV mi_X10_isAhead 2 := ⟨⟨pm_tab (i := 1565) (by decide +kernel) rfl, pm_tab (i := 11) (by decide +kernel) rfl, rfl, by decide +kernel, by decide +kernel, by decide +kernel⟩, pm_tab (i := 1564) (by decide +kernel) rfl, pm_prv (i := 45) (by decide +kernel) rfl⟩
abbrev mi_X10_isNew : pm_Mi := (10, yX10_isNew, cX10_isNew, 2, some .boolean, { frames := 1, cells := 0, slots := 0, locals := 21 }, [])
theorem cal_X10_isNew : pm_CalV mi_X10_isNew 1 := ⟨⟨pm_tab (i := 1561) (by decide +kernel) rfl, pm_tab (i := 11) (by decide +kernel) rfl, rfl, by decide +kernel, by decide +kernel, by decide +kernel⟩, pm_tab (i := 1560) (by decide +kernel) rfl, pm_prv (i := 44) (by decide +kernel) rfl⟩
abbrev mi_X10_numbers : pm_Mi := (10, yX10_numbers, cX10_numbers, 4, some .int, { frames := 5, cells := 0, slots := 0, locals := 116 }, [])
theorem cal_X10_numbers : pm_CalV mi_X10_numbers 0 := ⟨⟨pm_tab (i := 1557) (by decide +kernel) rfl, pm_tab (i := 11) (by decide +kernel) rfl, rfl, by decide +kernel, by decide +kernel, by decide +kernel⟩, pm_tab (i := 1556) (by decide +kernel) rfl, pm_prv (i := 43) (by decide +kernel) rfl⟩
abbrev mi_X10_goesBy : pm_Mi := (10, yX10_goesBy, cX10_goesBy, 2, some .int, { frames := 6, cells := 0, slots := 0, locals := 140 }, [])
theorem cal_X10_goesBy : pm_CalV mi_X10_goesBy 0 := ⟨⟨pm_tab (i := 1541) (by decide +kernel) rfl, pm_tab (i := 11) (by decide +kernel) rfl, rfl, by decide +kernel, by decide +kernel, by decide +kernel⟩, pm_tab (i := 1540) (by decide +kernel) rfl, pm_prv (i := 39) (by decide +kernel) rfl⟩
abbrev mi_X10_pass : pm_Mi := (10, yX10_pass, cX10_pass, 4, some .int, { frames := 7, cells := 0, slots := 0, locals := 161 }, [])
theorem cal_X10_pass : pm_CalV mi_X10_pass 1 := ⟨⟨pm_tab (i := 1537) (by decide +kernel) rfl, pm_tab (i := 11) (by decide +kernel) rfl, rfl, by decide +kernel, by decide +kernel, by decide +kernel⟩, pm_tab (i := 1535) (by decide +kernel) rfl, pm_tab (i := 1536) (by decide +kernel) rfl⟩
abbrev mi_X10_daysLeft : pm_Mi := (10, yX10_daysLeft, cX10_daysLeft, 5, some .int, { frames := 7, cells := 0, slots := 0, locals := 161 }, [])
theorem cal_X10_daysLeft : pm_CalV mi_X10_daysLeft 1 := ⟨⟨pm_tab (i := 1569) (by decide +kernel) rfl, pm_tab (i := 11) (by decide +kernel) rfl, rfl, by decide +kernel, by decide +kernel, by decide +kernel⟩, pm_tab (i := 1567) (by decide +kernel) rfl, pm_tab (i := 1568) (by decide +kernel) rfl⟩
abbrev mi_X10_today : pm_Mi := (10, yX10_today, cX10_today, 1, some .int, { frames := 0, cells := 0, slots := 0, locals := 0 }, [])
theorem cal_X10_today : pm_CalV mi_X10_today 0 := ⟨⟨pm_tab (i := 1573) (by decide +kernel) rfl, pm_tab (i := 11) (by decide +kernel) rfl, rfl, by decide +kernel, by decide +kernel, by decide +kernel⟩, pm_tab (i := 1571) (by decide +kernel) rfl, pm_tab (i := 1572) (by decide +kernel) rfl⟩
abbrev mi_X10_sumOf : pm_Mi := (10, yX10_sumOf, cX10_sumOf, 5, some .int, { frames := 1, cells := 0, slots := 0, locals := 21 }, [])
theorem cal_X10_sumOf : pm_CalV mi_X10_sumOf 2 := ⟨⟨pm_tab (i := 1581) (by decide +kernel) rfl, pm_tab (i := 11) (by decide +kernel) rfl, rfl, by decide +kernel, by decide +kernel, by decide +kernel⟩, pm_tab (i := 1580) (by decide +kernel) rfl, pm_prv (i := 46) (by decide +kernel) rfl⟩
abbrev mi_X10_notServed : pm_Mi := (10, yX10_notServed, cX10_notServed, 3, some .int, { frames := 3, cells := 0, slots := 0, locals := 67 }, [])
theorem cal_X10_notServed : pm_CalV mi_X10_notServed 0 := ⟨⟨pm_tab (i := 1585) (by decide +kernel) rfl, pm_tab (i := 11) (by decide +kernel) rfl, rfl, by decide +kernel, by decide +kernel, by decide +kernel⟩, pm_tab (i := 1584) (by decide +kernel) rfl, pm_prv (i := 47) (by decide +kernel) rfl⟩
abbrev mi_X10_account : pm_Mi := (10, yX10_account, cX10_account, 2, some .int, { frames := 4, cells := 0, slots := 0, locals := 89 }, [])
theorem cal_X10_account : pm_CalV mi_X10_account 1 := ⟨⟨pm_tab (i := 1577) (by decide +kernel) rfl, pm_tab (i := 11) (by decide +kernel) rfl, rfl, by decide +kernel, by decide +kernel, by decide +kernel⟩, pm_tab (i := 1575) (by decide +kernel) rfl, pm_tab (i := 1576) (by decide +kernel) rfl⟩
abbrev mi_X10_returned : pm_Mi := (10, yX10_returned, cX10_returned, 4, some .int, { frames := 1, cells := 0, slots := 0, locals := 22 }, [])
theorem cal_X10_returned : pm_CalV mi_X10_returned 1 := ⟨⟨pm_tab (i := 1589) (by decide +kernel) rfl, pm_tab (i := 11) (by decide +kernel) rfl, rfl, by decide +kernel, by decide +kernel, by decide +kernel⟩, pm_tab (i := 1587) (by decide +kernel) rfl, pm_tab (i := 1588) (by decide +kernel) rfl⟩
abbrev mi_X10_meanDays : pm_Mi := (10, yX10_meanDays, cX10_meanDays, 2, some .double, { frames := 2, cells := 0, slots := 0, locals := 45 }, [])
theorem cal_X10_meanDays : pm_CalV mi_X10_meanDays 0 := ⟨⟨pm_tab (i := 1593) (by decide +kernel) rfl, pm_tab (i := 11) (by decide +kernel) rfl, rfl, by decide +kernel, by decide +kernel, by decide +kernel⟩, pm_tab (i := 1591) (by decide +kernel) rfl, pm_tab (i := 1592) (by decide +kernel) rfl⟩
abbrev mi_X10_says : pm_Mi := (10, yX10_says, cX10_says, 2, none, { frames := 0, cells := 0, slots := 0, locals := 0 }, [])
theorem cal_X10_says : pm_CalV mi_X10_says 1 := ⟨⟨pm_tab (i := 1605) (by decide +kernel) rfl, pm_tab (i := 11) (by decide +kernel) rfl, rfl, by decide +kernel, by decide +kernel, by decide +kernel⟩, pm_tab (i := 1604) (by decide +kernel) rfl, pm_prv (i := 49) (by decide +kernel) rfl⟩
abbrev mi_X10_saysNumber : pm_Mi := (10, yX10_saysNumber, cX10_saysNumber, 2, none, { frames := 1, cells := 0, slots := 0, locals := 21 }, [])
theorem cal_X10_saysNumber : pm_CalV mi_X10_saysNumber 1 := ⟨⟨pm_tab (i := 1609) (by decide +kernel) rfl, pm_tab (i := 11) (by decide +kernel) rfl, rfl, by decide +kernel, by decide +kernel, by decide +kernel⟩, pm_tab (i := 1608) (by decide +kernel) rfl, pm_prv (i := 50) (by decide +kernel) rfl⟩
abbrev mi_X10_notesOf : pm_Mi := (10, yX10_notesOf, cX10_notesOf, 4, none, { frames := 2, cells := 0, slots := 0, locals := 42 }, [])
theorem cal_X10_notesOf : pm_CalV mi_X10_notesOf 1 := ⟨⟨pm_tab (i := 1601) (by decide +kernel) rfl, pm_tab (i := 11) (by decide +kernel) rfl, rfl, by decide +kernel, by decide +kernel, by decide +kernel⟩, pm_tab (i := 1600) (by decide +kernel) rfl, pm_prv (i := 48) (by decide +kernel) rfl⟩
abbrev mi_X10_noteLength : pm_Mi := (10, yX10_noteLength, cX10_noteLength, 2, some .int, { frames := 3, cells := 0, slots := 0, locals := 65 }, [])
theorem cal_X10_noteLength : pm_CalV mi_X10_noteLength 1 := ⟨⟨pm_tab (i := 1597) (by decide +kernel) rfl, pm_tab (i := 11) (by decide +kernel) rfl, rfl, by decide +kernel, by decide +kernel, by decide +kernel⟩, pm_tab (i := 1595) (by decide +kernel) rfl, pm_tab (i := 1596) (by decide +kernel) rfl⟩
abbrev mi_X10_note : pm_Mi := (10, yX10_note, cX10_note, 3, some .char, { frames := 3, cells := 0, slots := 0, locals := 65 }, [])
theorem cal_X10_note : pm_CalV mi_X10_note 2 := ⟨⟨pm_tab (i := 1613) (by decide +kernel) rfl, pm_tab (i := 11) (by decide +kernel) rfl, rfl, by decide +kernel, by decide +kernel, by decide +kernel⟩, pm_tab (i := 1611) (by decide +kernel) rfl, pm_tab (i := 1612) (by decide +kernel) rfl⟩
abbrev mi_X10_residents : pm_Mi := (10, yX10_residents, cX10_residents, 6, some .int, { frames := 4, cells := 0, slots := 0, locals := 93 }, [])
theorem cal_X10_residents : pm_CalV mi_X10_residents 3 := ⟨⟨pm_tab (i := 1617) (by decide +kernel) rfl, pm_tab (i := 11) (by decide +kernel) rfl, rfl, by decide +kernel, by decide +kernel, by decide +kernel⟩, pm_tab (i := 1615) (by decide +kernel) rfl, pm_tab (i := 1616) (by decide +kernel) rfl⟩
abbrev mi_X10_append : pm_Mi := (10, yX10_append, cX10_append, 2, none, { frames := 0, cells := 0, slots := 0, locals := 0 }, [])
theorem cal_X10_append : pm_CalV mi_X10_append 1 := ⟨⟨pm_tab (i := 1621) (by decide +kernel) rfl, pm_tab (i := 11) (by decide +kernel) rfl, rfl, by decide +kernel, by decide +kernel, by decide +kernel⟩, pm_tab (i := 1619) (by decide +kernel) rfl, pm_tab (i := 1620) (by decide +kernel) rfl⟩
abbrev mi_X10_faultPosition : pm_Mi := (10, yX10_faultPosition, cX10_faultPosition, 1, some .int, { frames := 0, cells := 0, slots := 0, locals := 0 }, [])
theorem cal_X10_faultPosition : pm_CalV mi_X10_faultPosition 0 := ⟨⟨pm_tab (i := 1625) (by decide +kernel) rfl, pm_tab (i := 11) (by decide +kernel) rfl, rfl, by decide +kernel, by decide +kernel, by decide +kernel⟩, pm_tab (i := 1623) (by decide +kernel) rfl, pm_tab (i := 1624) (by decide +kernel) rfl⟩
abbrev mi_X10_here : pm_Mi := (10, yX10_here, cX10_here, 1, some .int, { frames := 0, cells := 0, slots := 0, locals := 0 }, [])
theorem cal_X10_here : pm_CalV mi_X10_here 0 := ⟨⟨pm_tab (i := 1645) (by decide +kernel) rfl, pm_tab (i := 11) (by decide +kernel) rfl, rfl, by decide +kernel, by decide +kernel, by decide +kernel⟩, pm_tab (i := 1644) (by decide +kernel) rfl, pm_prv (i := 54) (by decide +kernel) rfl⟩
abbrev mi_X10_skips : pm_Mi := (10, yX10_skips, cX10_skips, 3, some .boolean, { frames := 1, cells := 0, slots := 0, locals := 20 }, [])
theorem cal_X10_skips : pm_CalV mi_X10_skips 1 := ⟨⟨pm_tab (i := 1641) (by decide +kernel) rfl, pm_tab (i := 11) (by decide +kernel) rfl, rfl, by decide +kernel, by decide +kernel, by decide +kernel⟩, pm_tab (i := 1640) (by decide +kernel) rfl, pm_prv (i := 53) (by decide +kernel) rfl⟩
abbrev mi_X10_digit : pm_Mi := (10, yX10_digit, cX10_digit, 3, some .boolean, { frames := 1, cells := 0, slots := 0, locals := 22 }, [])
theorem cal_X10_digit : pm_CalV mi_X10_digit 2 := ⟨⟨pm_tab (i := 1649) (by decide +kernel) rfl, pm_tab (i := 11) (by decide +kernel) rfl, rfl, by decide +kernel, by decide +kernel, by decide +kernel⟩, pm_tab (i := 1648) (by decide +kernel) rfl, pm_prv (i := 55) (by decide +kernel) rfl⟩
abbrev mi_X10_arrival : pm_Mi := (10, yX10_arrival, cX10_arrival, 2, some .boolean, { frames := 2, cells := 0, slots := 0, locals := 44 }, [])
theorem cal_X10_arrival : pm_CalV mi_X10_arrival 0 := ⟨⟨pm_tab (i := 1637) (by decide +kernel) rfl, pm_tab (i := 11) (by decide +kernel) rfl, rfl, by decide +kernel, by decide +kernel, by decide +kernel⟩, pm_tab (i := 1636) (by decide +kernel) rfl, pm_prv (i := 52) (by decide +kernel) rfl⟩
abbrev mi_X10_isText : pm_Mi := (10, yX10_isText, cX10_isText, 1, some .boolean, { frames := 3, cells := 0, slots := 0, locals := 65 }, [])
theorem cal_X10_isText : pm_CalV mi_X10_isText 0 := ⟨⟨pm_tab (i := 1633) (by decide +kernel) rfl, pm_tab (i := 11) (by decide +kernel) rfl, rfl, by decide +kernel, by decide +kernel, by decide +kernel⟩, pm_tab (i := 1632) (by decide +kernel) rfl, pm_prv (i := 51) (by decide +kernel) rfl⟩
abbrev mi_X10_arrive : pm_Mi := (10, yX10_arrive, cX10_arrive, 4, some .int, { frames := 4, cells := 0, slots := 0, locals := 85 }, [])
theorem cal_X10_arrive : pm_CalV mi_X10_arrive 0 := ⟨⟨pm_tab (i := 1629) (by decide +kernel) rfl, pm_tab (i := 11) (by decide +kernel) rfl, rfl, by decide +kernel, by decide +kernel, by decide +kernel⟩, pm_tab (i := 1627) (by decide +kernel) rfl, pm_tab (i := 1628) (by decide +kernel) rfl⟩
theorem lk9_130 : Cond.methodLink (pm_R 9) 130 yX9_isBelow ∈ pm_good := pm_tab (i := 404) (by decide +kernel) rfl
theorem lk0_29 : Cond.methodLink (pm_R 0) 29 yX0_dropOldest ∈ pm_good := pm_tab (i := 812) (by decide +kernel) rfl
theorem lk1_50 : Cond.methodLink (pm_R 1) 50 yX1_isNext ∈ pm_good := pm_tab (i := 890) (by decide +kernel) rfl
theorem lk1_43 : Cond.methodLink (pm_R 1) 43 yX1_isDigit ∈ pm_good := pm_tab (i := 894) (by decide +kernel) rfl
theorem lk1_39 : Cond.methodLink (pm_R 1) 39 yX1_skip ∈ pm_good := pm_tab (i := 886) (by decide +kernel) rfl
theorem lk1_46 : Cond.methodLink (pm_R 1) 46 yX1_takeDigit ∈ pm_good := pm_tab (i := 898) (by decide +kernel) rfl
theorem lk1_53 : Cond.methodLink (pm_R 1) 53 yX1_keepLetter ∈ pm_good := pm_tab (i := 902) (by decide +kernel) rfl
theorem lk1_35 : Cond.methodLink (pm_R 1) 35 yX1_readLetter ∈ pm_good := pm_tab (i := 882) (by decide +kernel) rfl
theorem lk5_61 : Cond.methodLink (pm_R 5) 61 yX3_copyFrom ∈ pm_good := pm_tab (i := 354) (by decide +kernel) rfl
theorem lk5_65 : Cond.methodLink (pm_R 5) 65 yX6_copyFrom ∈ pm_good := pm_tab (i := 367) (by decide +kernel) rfl
theorem lk5_68 : Cond.methodLink (pm_R 5) 68 yX8_copyFrom ∈ pm_good := pm_tab (i := 372) (by decide +kernel) rfl
theorem lk5_71 : Cond.methodLink (pm_R 5) 71 yX7_copyFrom ∈ pm_good := pm_tab (i := 377) (by decide +kernel) rfl
theorem lk5_74 : Cond.methodLink (pm_R 5) 74 yX0_copyFrom ∈ pm_good := pm_tab (i := 382) (by decide +kernel) rfl
theorem lk5_77 : Cond.methodLink (pm_R 5) 77 yX4_copyFrom ∈ pm_good := pm_tab (i := 387) (by decide +kernel) rfl
theorem lk2_25 : Cond.methodLink (pm_R 2) 25 yX5_copyFrom ∈ pm_good := pm_tab (i := 510) (by decide +kernel) rfl
theorem lk8_35 : Cond.methodLink (pm_R 8) 35 yX8_isOnSide ∈ pm_good := pm_tab (i := 597) (by decide +kernel) rfl
theorem lk5_93 : Cond.methodLink (pm_R 5) 93 yX8_lowestFor ∈ pm_good := pm_tab (i := 593) (by decide +kernel) rfl
theorem lk5_97 : Cond.methodLink (pm_R 5) 97 yX5_walkServing ∈ pm_good := pm_tab (i := 588) (by decide +kernel) rfl
theorem lk5_104 : Cond.methodLink (pm_R 5) 104 yX8_comesFirst ∈ pm_good := pm_tab (i := 627) (by decide +kernel) rfl
theorem lk5_101 : Cond.methodLink (pm_R 5) 101 yX5_stopPosition ∈ pm_good := pm_tab (i := 623) (by decide +kernel) rfl
theorem lk5_109 : Cond.methodLink (pm_R 5) 109 yX7_targetOf ∈ pm_good := pm_tab (i := 762) (by decide +kernel) rfl
theorem lk5_116 : Cond.methodLink (pm_R 5) 116 yX5_startOfWay ∈ pm_good := pm_tab (i := 758) (by decide +kernel) rfl
theorem lk5_119 : Cond.methodLink (pm_R 5) 119 yX5_endOfWay ∈ pm_good := pm_tab (i := 833) (by decide +kernel) rfl
theorem lk5_122 : Cond.methodLink (pm_R 5) 122 yX0_isAbsent ∈ pm_good := pm_tab (i := 828) (by decide +kernel) rfl
theorem lk5_125 : Cond.methodLink (pm_R 5) 125 yX6_hasAllowed ∈ pm_good := pm_tab (i := 834) (by decide +kernel) rfl
theorem lk5_143 : Cond.methodLink (pm_R 5) 143 yX5_whoSigns ∈ pm_good := pm_tab (i := 1161) (by decide +kernel) rfl
theorem lk5_152 : Cond.methodLink (pm_R 5) 152 yX5_outcome ∈ pm_good := pm_tab (i := 1157) (by decide +kernel) rfl
theorem lk5_155 : Cond.methodLink (pm_R 5) 155 yX5_isTooOld ∈ pm_good := pm_tab (i := 1162) (by decide +kernel) rfl
theorem lk5_176 : Cond.methodLink (pm_R 5) 176 yX4_sendBack ∈ pm_good := pm_tab (i := 1191) (by decide +kernel) rfl
theorem lk5_180 : Cond.methodLink (pm_R 5) 180 yX4_deliver ∈ pm_good := pm_tab (i := 1199) (by decide +kernel) rfl
theorem lk5_162 : Cond.methodLink (pm_R 5) 162 yX5_roundKey ∈ pm_good := pm_tab (i := 1179) (by decide +kernel) rfl
theorem lk5_165 : Cond.methodLink (pm_R 5) 165 yX5_insertSorted ∈ pm_good := pm_tab (i := 1183) (by decide +kernel) rfl
theorem lk5_168 : Cond.methodLink (pm_R 5) 168 yX5_applyFailure ∈ pm_good := pm_tab (i := 1187) (by decide +kernel) rfl
theorem lk5_172 : Cond.methodLink (pm_R 5) 172 yX5_handOver ∈ pm_good := pm_tab (i := 1195) (by decide +kernel) rfl
theorem lk7_58 : Cond.methodLink (pm_R 7) 58 yX7_targetOf ∈ pm_good := pm_tab (i := 721) (by decide +kernel) rfl
theorem lk7_55 : Cond.methodLink (pm_R 7) 55 yX7_comesBack ∈ pm_good := pm_tab (i := 717) (by decide +kernel) rfl
theorem lk7_51 : Cond.methodLink (pm_R 7) 51 yX7_leadRoundOn ∈ pm_good := pm_tab (i := 713) (by decide +kernel) rfl
theorem lk7_43 : Cond.methodLink (pm_R 7) 43 yX7_add ∈ pm_good := pm_tab (i := 708) (by decide +kernel) rfl
theorem lk7_47 : Cond.methodLink (pm_R 7) 47 yX7_leadRoundWithout ∈ pm_good := pm_tab (i := 709) (by decide +kernel) rfl
theorem lk9_102 : Cond.methodLink (pm_R 9) 102 yX9_isBetween ∈ pm_good := pm_tab (i := 410) (by decide +kernel) rfl
theorem lk9_44 : Cond.methodLink (pm_R 9) 44 yX9_isStreet ∈ pm_good := pm_tab (i := 401) (by decide +kernel) rfl
theorem lk9_48 : Cond.methodLink (pm_R 9) 48 yX9_isHouseNumber ∈ pm_good := pm_tab (i := 407) (by decide +kernel) rfl
theorem lk9_62 : Cond.methodLink (pm_R 9) 62 yX3_contains ∈ pm_good := pm_tab (i := 485) (by decide +kernel) rfl
theorem lk9_78 : Cond.methodLink (pm_R 9) 78 yX2_keep ∈ pm_good := pm_tab (i := 506) (by decide +kernel) rfl
theorem lk9_82 : Cond.methodLink (pm_R 9) 82 yX3_add ∈ pm_good := pm_tab (i := 512) (by decide +kernel) rfl
theorem lk9_86 : Cond.methodLink (pm_R 9) 86 yX9_requireHouse ∈ pm_good := pm_tab (i := 547) (by decide +kernel) rfl
theorem lk9_99 : Cond.methodLink (pm_R 9) 99 yX6_add ∈ pm_good := pm_tab (i := 565) (by decide +kernel) rfl
theorem lk9_121 : Cond.methodLink (pm_R 9) 121 yX8_add ∈ pm_good := pm_tab (i := 580) (by decide +kernel) rfl
theorem lk9_124 : Cond.methodLink (pm_R 9) 124 yX5_countServedBy ∈ pm_good := pm_tab (i := 584) (by decide +kernel) rfl
theorem lk9_127 : Cond.methodLink (pm_R 9) 127 yX5_walkServing ∈ pm_good := pm_tab (i := 609) (by decide +kernel) rfl
theorem lk9_138 : Cond.methodLink (pm_R 9) 138 yX5_houseAtStop ∈ pm_good := pm_tab (i := 619) (by decide +kernel) rfl
theorem lk9_148 : Cond.methodLink (pm_R 9) 148 yX5_stopPosition ∈ pm_good := pm_tab (i := 655) (by decide +kernel) rfl
theorem lk9_151 : Cond.methodLink (pm_R 9) 151 yX9_requirePerson ∈ pm_good := pm_tab (i := 664) (by decide +kernel) rfl
theorem lk9_154 : Cond.methodLink (pm_R 9) 154 yX9_requireDays ∈ pm_good := pm_tab (i := 669) (by decide +kernel) rfl
theorem lk9_165 : Cond.methodLink (pm_R 9) 165 yX9_refuse ∈ pm_good := pm_tab (i := 673) (by decide +kernel) rfl
theorem lk9_168 : Cond.methodLink (pm_R 9) 168 yX7_add ∈ pm_good := pm_tab (i := 693) (by decide +kernel) rfl
theorem lk9_169 : Cond.methodLink (pm_R 9) 169 yX7_wouldLeadRoundWith ∈ pm_good := pm_tab (i := 704) (by decide +kernel) rfl
theorem lk9_175 : Cond.methodLink (pm_R 9) 175 yX7_leadRoundWithout ∈ pm_good := pm_tab (i := 734) (by decide +kernel) rfl
theorem lk9_178 : Cond.methodLink (pm_R 9) 178 yX7_remove ∈ pm_good := pm_tab (i := 735) (by decide +kernel) rfl
theorem lk9_181 : Cond.methodLink (pm_R 9) 181 yX9_requireDay ∈ pm_good := pm_tab (i := 749) (by decide +kernel) rfl
theorem lk9_186 : Cond.methodLink (pm_R 9) 186 yX5_endOfWay ∈ pm_good := pm_tab (i := 754) (by decide +kernel) rfl
theorem lk9_189 : Cond.methodLink (pm_R 9) 189 yX5_houseOnWay ∈ pm_good := pm_tab (i := 763) (by decide +kernel) rfl
theorem lk9_203 : Cond.methodLink (pm_R 9) 203 yX6_hasAllowed ∈ pm_good := pm_tab (i := 784) (by decide +kernel) rfl
theorem lk9_206 : Cond.methodLink (pm_R 9) 206 yX6_setAllowed ∈ pm_good := pm_tab (i := 789) (by decide +kernel) rfl
theorem lk9_219 : Cond.methodLink (pm_R 9) 219 yX0_add ∈ pm_good := pm_tab (i := 808) (by decide +kernel) rfl
theorem lk9_225 : Cond.methodLink (pm_R 9) 225 yX5_whoSigns ∈ pm_good := pm_tab (i := 824) (by decide +kernel) rfl
theorem lk9_230 : Cond.methodLink (pm_R 9) 230 yX5_countResidents ∈ pm_good := pm_tab (i := 843) (by decide +kernel) rfl
theorem lk9_245 : Cond.methodLink (pm_R 9) 245 yX4_add ∈ pm_good := pm_tab (i := 855) (by decide +kernel) rfl
theorem lk9_253 : Cond.methodLink (pm_R 9) 253 yX1_put ∈ pm_good := pm_tab (i := 867) (by decide +kernel) rfl
theorem lk9_257 : Cond.methodLink (pm_R 9) 257 yX1_read ∈ pm_good := pm_tab (i := 878) (by decide +kernel) rfl
theorem lk9_261 : Cond.methodLink (pm_R 9) 261 yX1_empty ∈ pm_good := pm_tab (i := 906) (by decide +kernel) rfl
theorem lk9_266 : Cond.methodLink (pm_R 9) 266 yX9_reasonAgainstText ∈ pm_good := pm_tab (i := 911) (by decide +kernel) rfl
theorem lk9_282 : Cond.methodLink (pm_R 9) 282 yX9_requireLetter ∈ pm_good := pm_tab (i := 930) (by decide +kernel) rfl
theorem lk9_287 : Cond.methodLink (pm_R 9) 287 yX4_numberOf ∈ pm_good := pm_tab (i := 936) (by decide +kernel) rfl
theorem lk9_317 : Cond.methodLink (pm_R 9) 317 yX5_forecast ∈ pm_good := pm_tab (i := 1153) (by decide +kernel) rfl
theorem lk9_324 : Cond.methodLink (pm_R 9) 324 yX5_endDay ∈ pm_good := pm_tab (i := 1175) (by decide +kernel) rfl
theorem lk9_327 : Cond.methodLink (pm_R 9) 327 yX4_countInState ∈ pm_good := pm_tab (i := 1210) (by decide +kernel) rfl
theorem lk9_330 : Cond.methodLink (pm_R 9) 330 yX4_waitingWeight ∈ pm_good := pm_tab (i := 1214) (by decide +kernel) rfl
theorem lk9_333 : Cond.methodLink (pm_R 9) 333 yX4_allTries ∈ pm_good := pm_tab (i := 1218) (by decide +kernel) rfl
theorem lk9_340 : Cond.methodLink (pm_R 9) 340 yX4_countReturnedFor ∈ pm_good := pm_tab (i := 1231) (by decide +kernel) rfl
theorem lk9_348 : Cond.methodLink (pm_R 9) 348 yX4_daysToDeliveries ∈ pm_good := pm_tab (i := 1259) (by decide +kernel) rfl
theorem lk9_354 : Cond.methodLink (pm_R 9) 354 yX2_takeBack ∈ pm_good := pm_tab (i := 1271) (by decide +kernel) rfl
theorem lk9_357 : Cond.methodLink (pm_R 9) 357 yX5_copyFrom ∈ pm_good := pm_tab (i := 350) (by decide +kernel) rfl
theorem lk9_362 : Cond.methodLink (pm_R 9) 362 yX2_forget ∈ pm_good := pm_tab (i := 1283) (by decide +kernel) rfl
theorem lk10_41 : Cond.methodLink (pm_R 10) 41 yX10_fails ∈ pm_good := pm_tab (i := 1416) (by decide +kernel) rfl
theorem lk10_45 : Cond.methodLink (pm_R 10) 45 yX10_in ∈ pm_good := pm_tab (i := 1365) (by decide +kernel) rfl
theorem lk10_52 : Cond.methodLink (pm_R 10) 52 yX10_copies ∈ pm_good := pm_tab (i := 1350) (by decide +kernel) rfl
theorem lk10_60 : Cond.methodLink (pm_R 10) 60 yX10_streetOf ∈ pm_good := pm_tab (i := 1368) (by decide +kernel) rfl
theorem lk10_63 : Cond.methodLink (pm_R 10) 63 yX10_numberOf ∈ pm_good := pm_tab (i := 1372) (by decide +kernel) rfl
theorem lk10_66 : Cond.methodLink (pm_R 10) 66 yX10_changes ∈ pm_good := pm_tab (i := 1376) (by decide +kernel) rfl
theorem lk10_70 : Cond.methodLink (pm_R 10) 70 yX10_isHouse ∈ pm_good := pm_tab (i := 1384) (by decide +kernel) rfl
theorem lk10_74 : Cond.methodLink (pm_R 10) 74 yX10_couldServe ∈ pm_good := pm_tab (i := 1400) (by decide +kernel) rfl
theorem lk10_78 : Cond.methodLink (pm_R 10) 78 yX10_serving ∈ pm_good := pm_tab (i := 1396) (by decide +kernel) rfl
theorem lk10_81 : Cond.methodLink (pm_R 10) 81 yX10_served ∈ pm_good := pm_tab (i := 1392) (by decide +kernel) rfl
theorem lk10_84 : Cond.methodLink (pm_R 10) 84 yX10_stopsAhead ∈ pm_good := pm_tab (i := 1412) (by decide +kernel) rfl
theorem lk10_87 : Cond.methodLink (pm_R 10) 87 yX10_leads ∈ pm_good := pm_tab (i := 1451) (by decide +kernel) rfl
theorem lk10_91 : Cond.methodLink (pm_R 10) 91 yX10_isRoundOn ∈ pm_good := pm_tab (i := 1447) (by decide +kernel) rfl
theorem lk10_94 : Cond.methodLink (pm_R 10) 94 yX10_refuses ∈ pm_good := pm_tab (i := 1439) (by decide +kernel) rfl
theorem lk10_98 : Cond.methodLink (pm_R 10) 98 yX10_isRound ∈ pm_good := pm_tab (i := 1443) (by decide +kernel) rfl
theorem lk10_102 : Cond.methodLink (pm_R 10) 102 yX10_isPerson ∈ pm_good := pm_tab (i := 1428) (by decide +kernel) rfl
theorem lk10_105 : Cond.methodLink (pm_R 10) 105 yX10_areDays ∈ pm_good := pm_tab (i := 1432) (by decide +kernel) rfl
theorem lk10_108 : Cond.methodLink (pm_R 10) 108 yX10_redirects ∈ pm_good := pm_tab (i := 1435) (by decide +kernel) rfl
theorem lk10_112 : Cond.methodLink (pm_R 10) 112 yX10_houseOf ∈ pm_good := pm_tab (i := 1475) (by decide +kernel) rfl
theorem lk10_115 : Cond.methodLink (pm_R 10) 115 yX10_wayBegins ∈ pm_good := pm_tab (i := 1471) (by decide +kernel) rfl
theorem lk10_118 : Cond.methodLink (pm_R 10) 118 yX10_wayEnds ∈ pm_good := pm_tab (i := 1467) (by decide +kernel) rfl
theorem lk10_121 : Cond.methodLink (pm_R 10) 121 yX10_isAbsent ∈ pm_good := pm_tab (i := 1503) (by decide +kernel) rfl
theorem lk10_124 : Cond.methodLink (pm_R 10) 124 yX10_signs ∈ pm_good := pm_tab (i := 1499) (by decide +kernel) rfl
theorem lk10_127 : Cond.methodLink (pm_R 10) 127 yX10_at ∈ pm_good := pm_tab (i := 1515) (by decide +kernel) rfl
theorem lk10_130 : Cond.methodLink (pm_R 10) 130 yX10_addsLetter ∈ pm_good := pm_tab (i := 1511) (by decide +kernel) rfl
theorem lk10_134 : Cond.methodLink (pm_R 10) 134 yX10_isLetter ∈ pm_good := pm_tab (i := 1526) (by decide +kernel) rfl
theorem lk10_137 : Cond.methodLink (pm_R 10) 137 yX10_returns ∈ pm_good := pm_tab (i := 1546) (by decide +kernel) rfl
theorem lk10_141 : Cond.methodLink (pm_R 10) 141 yX10_delivers ∈ pm_good := pm_tab (i := 1550) (by decide +kernel) rfl
theorem lk10_144 : Cond.methodLink (pm_R 10) 144 yX10_isNew ∈ pm_good := pm_tab (i := 1558) (by decide +kernel) rfl
theorem lk10_147 : Cond.methodLink (pm_R 10) 147 yX10_isAhead ∈ pm_good := pm_tab (i := 1562) (by decide +kernel) rfl
theorem lk10_150 : Cond.methodLink (pm_R 10) 150 yX10_looksAt ∈ pm_good := pm_tab (i := 1542) (by decide +kernel) rfl
theorem lk10_154 : Cond.methodLink (pm_R 10) 154 yX10_numbers ∈ pm_good := pm_tab (i := 1554) (by decide +kernel) rfl
theorem lk10_158 : Cond.methodLink (pm_R 10) 158 yX10_goesBy ∈ pm_good := pm_tab (i := 1538) (by decide +kernel) rfl
theorem lk10_161 : Cond.methodLink (pm_R 10) 161 yX10_sumOf ∈ pm_good := pm_tab (i := 1578) (by decide +kernel) rfl
theorem lk10_164 : Cond.methodLink (pm_R 10) 164 yX10_notServed ∈ pm_good := pm_tab (i := 1582) (by decide +kernel) rfl
theorem lk10_170 : Cond.methodLink (pm_R 10) 170 yX10_says ∈ pm_good := pm_tab (i := 1602) (by decide +kernel) rfl
theorem lk10_173 : Cond.methodLink (pm_R 10) 173 yX10_saysNumber ∈ pm_good := pm_tab (i := 1606) (by decide +kernel) rfl
theorem lk10_176 : Cond.methodLink (pm_R 10) 176 yX10_notesOf ∈ pm_good := pm_tab (i := 1598) (by decide +kernel) rfl
theorem lk10_185 : Cond.methodLink (pm_R 10) 185 yX10_here ∈ pm_good := pm_tab (i := 1642) (by decide +kernel) rfl
theorem lk10_191 : Cond.methodLink (pm_R 10) 191 yX10_skips ∈ pm_good := pm_tab (i := 1638) (by decide +kernel) rfl
theorem lk10_194 : Cond.methodLink (pm_R 10) 194 yX10_digit ∈ pm_good := pm_tab (i := 1646) (by decide +kernel) rfl
theorem lk10_197 : Cond.methodLink (pm_R 10) 197 yX10_arrival ∈ pm_good := pm_tab (i := 1634) (by decide +kernel) rfl
theorem lk10_200 : Cond.methodLink (pm_R 10) 200 yX10_isText ∈ pm_good := pm_tab (i := 1630) (by decide +kernel) rfl
theorem lk11_7 : Cond.methodLink (pm_R 11) 7 yX9_addHouse ∈ pm_good := pm_tab (i := 397) (by decide +kernel) rfl
theorem lk11_17 : Cond.methodLink (pm_R 11) 17 yX9_addPerson ∈ pm_good := pm_tab (i := 543) (by decide +kernel) rfl
theorem lk11_23 : Cond.methodLink (pm_R 11) 23 yX9_addWalk ∈ pm_good := pm_tab (i := 572) (by decide +kernel) rfl
theorem lk11_27 : Cond.methodLink (pm_R 11) 27 yX9_walkOf ∈ pm_good := pm_tab (i := 605) (by decide +kernel) rfl
theorem lk11_30 : Cond.methodLink (pm_R 11) 30 yX9_stop ∈ pm_good := pm_tab (i := 614) (by decide +kernel) rfl
theorem lk11_35 : Cond.methodLink (pm_R 11) 35 yX9_stopIndex ∈ pm_good := pm_tab (i := 650) (by decide +kernel) rfl
theorem lk11_38 : Cond.methodLink (pm_R 11) 38 yX9_redirectPerson ∈ pm_good := pm_tab (i := 660) (by decide +kernel) rfl
theorem lk11_44 : Cond.methodLink (pm_R 11) 44 yX9_redirectHouse ∈ pm_good := pm_tab (i := 700) (by decide +kernel) rfl
theorem lk11_47 : Cond.methodLink (pm_R 11) 47 yX9_dropRedirect ∈ pm_good := pm_tab (i := 729) (by decide +kernel) rfl
theorem lk11_50 : Cond.methodLink (pm_R 11) 50 yX9_way ∈ pm_good := pm_tab (i := 745) (by decide +kernel) rfl
theorem lk11_54 : Cond.methodLink (pm_R 11) 54 yX9_hold ∈ pm_good := pm_tab (i := 771) (by decide +kernel) rfl
theorem lk11_57 : Cond.methodLink (pm_R 11) 57 yX9_allow ∈ pm_good := pm_tab (i := 779) (by decide +kernel) rfl
theorem lk11_61 : Cond.methodLink (pm_R 11) 61 yX9_setLimit ∈ pm_good := pm_tab (i := 796) (by decide +kernel) rfl
theorem lk11_64 : Cond.methodLink (pm_R 11) 64 yX9_leave ∈ pm_good := pm_tab (i := 804) (by decide +kernel) rfl
theorem lk11_67 : Cond.methodLink (pm_R 11) 67 yX9_signer ∈ pm_good := pm_tab (i := 820) (by decide +kernel) rfl
theorem lk11_70 : Cond.methodLink (pm_R 11) 70 yX9_residents ∈ pm_good := pm_tab (i := 839) (by decide +kernel) rfl
theorem lk11_73 : Cond.methodLink (pm_R 11) 73 yX9_addLetter ∈ pm_good := pm_tab (i := 850) (by decide +kernel) rfl
theorem lk11_77 : Cond.methodLink (pm_R 11) 77 yX9_append ∈ pm_good := pm_tab (i := 862) (by decide +kernel) rfl
theorem lk11_81 : Cond.methodLink (pm_R 11) 81 yX9_arrive ∈ pm_good := pm_tab (i := 874) (by decide +kernel) rfl
theorem lk11_85 : Cond.methodLink (pm_R 11) 85 yX9_refusal ∈ pm_good := pm_tab (i := 918) (by decide +kernel) rfl
theorem lk11_88 : Cond.methodLink (pm_R 11) 88 yX9_letter ∈ pm_good := pm_tab (i := 926) (by decide +kernel) rfl
theorem lk11_98 : Cond.methodLink (pm_R 11) 98 yX9_delivered ∈ pm_good := pm_tab (i := 1140) (by decide +kernel) rfl
theorem lk11_101 : Cond.methodLink (pm_R 11) 101 yX9_daysLeft ∈ pm_good := pm_tab (i := 1148) (by decide +kernel) rfl
theorem lk11_104 : Cond.methodLink (pm_R 11) 104 yX9_pass ∈ pm_good := pm_tab (i := 1170) (by decide +kernel) rfl
theorem lk11_107 : Cond.methodLink (pm_R 11) 107 yX9_account ∈ pm_good := pm_tab (i := 1206) (by decide +kernel) rfl
theorem lk11_110 : Cond.methodLink (pm_R 11) 110 yX9_returned ∈ pm_good := pm_tab (i := 1226) (by decide +kernel) rfl
theorem lk11_113 : Cond.methodLink (pm_R 11) 113 yX9_meanDays ∈ pm_good := pm_tab (i := 1252) (by decide +kernel) rfl
theorem lk11_119 : Cond.methodLink (pm_R 11) 119 yX9_undo ∈ pm_good := pm_tab (i := 1266) (by decide +kernel) rfl
theorem lk11_122 : Cond.methodLink (pm_R 11) 122 yX9_restore ∈ pm_good := pm_tab (i := 1278) (by decide +kernel) rfl
