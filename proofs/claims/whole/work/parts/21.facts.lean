/-! The words of the tables by their places; field accesses; methods. -/
theorem mw0 : Cond.methodLink RX11 3 Lib.objectInit ∈ pm_tbl := List.mem_filter.mpr ⟨List.mem_of_getElem? (i := 105) (by decide +kernel), by decide +kernel⟩
theorem mw1 : Cond.instanceMethod Lib.objectInit ∈ pm_tbl := List.mem_filter.mpr ⟨List.mem_of_getElem? (i := 106) (by decide +kernel), by decide +kernel⟩
theorem mw2 : Cond.code Lib.objectInit ⟨#[0xb1]⟩ 1 none ∈ pm_tbl := List.mem_filter.mpr ⟨List.mem_of_getElem? (i := 107) (by decide +kernel), by decide +kernel⟩
theorem mw3 : Cond.classLink RX11 9 RX4 ∈ pm_tbl := List.mem_filter.mpr ⟨List.mem_of_getElem? (i := 108) (by decide +kernel), by decide +kernel⟩
theorem mw4 : Cond.instantiable RX4 13 ∈ pm_tbl := List.mem_filter.mpr ⟨List.mem_of_getElem? (i := 109) (by decide +kernel), by decide +kernel⟩
theorem mw5 : Cond.initialized RX4 ∈ pm_tbl := List.mem_filter.mpr ⟨List.mem_of_getElem? (i := 76) (by decide +kernel), by decide +kernel⟩
theorem inX4_t : ∀ w ∈ u_ws RX4 TX4 13, w ∈ pm_tbl := by decide +kernel
theorem mw6 : Cond.methodLink RX11 11 yX4_init ∈ pm_tbl := List.mem_filter.mpr ⟨List.mem_of_getElem? (i := 110) (by decide +kernel), by decide +kernel⟩
abbrev mX4_init : pm_M := (yX4_init, cX4_init, 1, 2, 40, none, [])
theorem mw7 : Cond.code yX4_init cX4_init 1 none ∈ pm_tbl := List.mem_filter.mpr ⟨List.mem_of_getElem? (i := 112) (by decide +kernel), by decide +kernel⟩
theorem my_X4_init : pm_my mX4_init 0 := ⟨mw7, mw5, by decide +kernel⟩
theorem mw9 : Cond.instanceMethod yX4_init ∈ pm_tbl := List.mem_filter.mpr ⟨List.mem_of_getElem? (i := 111) (by decide +kernel), by decide +kernel⟩
theorem ci_X4_init : pm_ci mX4_init 0 := ⟨my_X4_init, mw9, rfl, rfl, rfl⟩
theorem mw10 : Cond.fieldLink RX11 12 RX11 "now" "LBridgeAuction$Network;" ∈ pm_tbl := List.mem_filter.mpr ⟨List.mem_of_getElem? (i := 469) (by decide +kernel), by decide +kernel⟩
theorem inX11_t : ∀ w ∈ u_ws RX11 TX11 7, w ∈ pm_tbl := by decide +kernel
theorem fa_X11_12 : pm_fa RX11 12 10 0 true (.object "BridgeAuction$Network") := ⟨RX11, TX11, 7, tyX11, rfl, by decide, inX11_t, mw10, tyX11_ok, nmX11, rfl, rfl, rfl⟩
theorem mw11 : Cond.methodLink RX11 16 yX4_beginAnew ∈ pm_tbl := List.mem_filter.mpr ⟨List.mem_of_getElem? (i := 329) (by decide +kernel), by decide +kernel⟩
abbrev mX4_beginAnew : pm_M := (yX4_beginAnew, cX4_beginAnew, 2, 3, 68, none, [])
theorem mw12 : Cond.code yX4_beginAnew cX4_beginAnew 2 none ∈ pm_tbl := List.mem_filter.mpr ⟨List.mem_of_getElem? (i := 332) (by decide +kernel), by decide +kernel⟩
theorem my_X4_beginAnew : pm_my mX4_beginAnew 1 := ⟨mw12, mw5, by decide +kernel⟩
theorem mw14 : Cond.instanceMethod yX4_beginAnew ∈ pm_tbl := List.mem_filter.mpr ⟨List.mem_of_getElem? (i := 330) (by decide +kernel), by decide +kernel⟩
theorem mw15 : Cond.selects RX4 yX4_beginAnew yX4_beginAnew ∈ pm_tbl := List.mem_filter.mpr ⟨List.mem_of_getElem? (i := 331) (by decide +kernel), by decide +kernel⟩
theorem cv_X4_beginAnew : pm_cv mX4_beginAnew 1 3 := ⟨my_X4_beginAnew, mw14, mw15, rfl, TX4, 13, rfl⟩
theorem mw16 : Cond.classLink RX11 20 RX9 ∈ pm_tbl := List.mem_filter.mpr ⟨List.mem_of_getElem? (i := 357) (by decide +kernel), by decide +kernel⟩
theorem mw17 : Cond.instantiable RX9 2 ∈ pm_tbl := List.mem_filter.mpr ⟨List.mem_of_getElem? (i := 358) (by decide +kernel), by decide +kernel⟩
theorem mw18 : Cond.initialized RX9 ∈ pm_tbl := List.mem_filter.mpr ⟨List.mem_of_getElem? (i := 80) (by decide +kernel), by decide +kernel⟩
theorem inX9_t : ∀ w ∈ u_ws RX9 TX9 2, w ∈ pm_tbl := by decide +kernel
theorem mw19 : Cond.methodLink RX11 22 yX9_init ∈ pm_tbl := List.mem_filter.mpr ⟨List.mem_of_getElem? (i := 359) (by decide +kernel), by decide +kernel⟩
abbrev mX9_init : pm_M := (yX9_init, cX9_init, 2, 3, 60, none, [])
theorem mw20 : Cond.code yX9_init cX9_init 2 none ∈ pm_tbl := List.mem_filter.mpr ⟨List.mem_of_getElem? (i := 361) (by decide +kernel), by decide +kernel⟩
theorem my_X9_init : pm_my mX9_init 0 := ⟨mw20, mw18, by decide +kernel⟩
theorem mw22 : Cond.instanceMethod yX9_init ∈ pm_tbl := List.mem_filter.mpr ⟨List.mem_of_getElem? (i := 360) (by decide +kernel), by decide +kernel⟩
theorem ci_X9_init : pm_ci mX9_init 0 := ⟨my_X9_init, mw22, rfl, rfl, rfl⟩
theorem mw23 : Cond.fieldLink RX11 23 RX11 "saved" "LBridgeAuction$UndoStack;" ∈ pm_tbl := List.mem_filter.mpr ⟨List.mem_of_getElem? (i := 470) (by decide +kernel), by decide +kernel⟩
theorem fa_X11_23 : pm_fa RX11 23 10 1 true (.object "BridgeAuction$UndoStack") := ⟨RX11, TX11, 7, tyX11, rfl, by decide, inX11_t, mw23, tyX11_ok, nmX11, rfl, rfl, rfl⟩
theorem mw24 : Cond.classLink RX11 27 RX7 ∈ pm_tbl := List.mem_filter.mpr ⟨List.mem_of_getElem? (i := 374) (by decide +kernel), by decide +kernel⟩
theorem mw25 : Cond.instantiable RX7 6 ∈ pm_tbl := List.mem_filter.mpr ⟨List.mem_of_getElem? (i := 375) (by decide +kernel), by decide +kernel⟩
theorem mw26 : Cond.initialized RX7 ∈ pm_tbl := List.mem_filter.mpr ⟨List.mem_of_getElem? (i := 81) (by decide +kernel), by decide +kernel⟩
theorem inX7_t : ∀ w ∈ u_ws RX7 TX7 6, w ∈ pm_tbl := by decide +kernel
theorem mw27 : Cond.methodLink RX11 29 yX7_init ∈ pm_tbl := List.mem_filter.mpr ⟨List.mem_of_getElem? (i := 376) (by decide +kernel), by decide +kernel⟩
abbrev mX7_init : pm_M := (yX7_init, cX7_init, 1, 1, 20, none, [])
theorem mw28 : Cond.code yX7_init cX7_init 1 none ∈ pm_tbl := List.mem_filter.mpr ⟨List.mem_of_getElem? (i := 378) (by decide +kernel), by decide +kernel⟩
theorem my_X7_init : pm_my mX7_init 0 := ⟨mw28, mw26, by decide +kernel⟩
theorem mw30 : Cond.instanceMethod yX7_init ∈ pm_tbl := List.mem_filter.mpr ⟨List.mem_of_getElem? (i := 377) (by decide +kernel), by decide +kernel⟩
theorem ci_X7_init : pm_ci mX7_init 0 := ⟨my_X7_init, mw30, rfl, rfl, rfl⟩
theorem mw31 : Cond.fieldLink RX11 30 RX11 "script" "LBridgeAuction$Script;" ∈ pm_tbl := List.mem_filter.mpr ⟨List.mem_of_getElem? (i := 471) (by decide +kernel), by decide +kernel⟩
theorem fa_X11_30 : pm_fa RX11 30 10 2 true (.object "BridgeAuction$Script") := ⟨RX11, TX11, 7, tyX11, rfl, by decide, inX11_t, mw31, tyX11_ok, nmX11, rfl, rfl, rfl⟩
theorem mw32 : Cond.classLink RX11 34 RX10 ∈ pm_tbl := List.mem_filter.mpr ⟨List.mem_of_getElem? (i := 402) (by decide +kernel), by decide +kernel⟩
theorem mw33 : Cond.instantiable RX10 5 ∈ pm_tbl := List.mem_filter.mpr ⟨List.mem_of_getElem? (i := 403) (by decide +kernel), by decide +kernel⟩
theorem mw34 : Cond.initialized RX10 ∈ pm_tbl := List.mem_filter.mpr ⟨List.mem_of_getElem? (i := 82) (by decide +kernel), by decide +kernel⟩
theorem inX10_t : ∀ w ∈ u_ws RX10 TX10 5, w ∈ pm_tbl := by decide +kernel
theorem mw35 : Cond.methodLink RX11 36 yX10_init ∈ pm_tbl := List.mem_filter.mpr ⟨List.mem_of_getElem? (i := 404) (by decide +kernel), by decide +kernel⟩
abbrev mX10_init : pm_M := (yX10_init, cX10_init, 1, 1, 20, none, [])
theorem mw36 : Cond.code yX10_init cX10_init 1 none ∈ pm_tbl := List.mem_filter.mpr ⟨List.mem_of_getElem? (i := 406) (by decide +kernel), by decide +kernel⟩
theorem my_X10_init : pm_my mX10_init 0 := ⟨mw36, mw34, by decide +kernel⟩
theorem mw38 : Cond.instanceMethod yX10_init ∈ pm_tbl := List.mem_filter.mpr ⟨List.mem_of_getElem? (i := 405) (by decide +kernel), by decide +kernel⟩
theorem ci_X10_init : pm_ci mX10_init 0 := ⟨my_X10_init, mw38, rfl, rfl, rfl⟩
theorem mw39 : Cond.fieldLink RX11 37 RX11 "vectors" "LBridgeAuction$Vectors;" ∈ pm_tbl := List.mem_filter.mpr ⟨List.mem_of_getElem? (i := 472) (by decide +kernel), by decide +kernel⟩
theorem fa_X11_37 : pm_fa RX11 37 10 3 true (.object "BridgeAuction$Vectors") := ⟨RX11, TX11, 7, tyX11, rfl, by decide, inX11_t, mw39, tyX11_ok, nmX11, rfl, rfl, rfl⟩
theorem mw40 : Cond.classLink RX11 41 RX6 ∈ pm_tbl := List.mem_filter.mpr ⟨List.mem_of_getElem? (i := 424) (by decide +kernel), by decide +kernel⟩
theorem mw41 : Cond.instantiable RX6 1 ∈ pm_tbl := List.mem_filter.mpr ⟨List.mem_of_getElem? (i := 425) (by decide +kernel), by decide +kernel⟩
theorem mw42 : Cond.initialized RX6 ∈ pm_tbl := List.mem_filter.mpr ⟨List.mem_of_getElem? (i := 83) (by decide +kernel), by decide +kernel⟩
theorem inX6_t : ∀ w ∈ u_ws RX6 TX6 1, w ∈ pm_tbl := by decide +kernel
theorem mw43 : Cond.methodLink RX11 43 yX6_init ∈ pm_tbl := List.mem_filter.mpr ⟨List.mem_of_getElem? (i := 426) (by decide +kernel), by decide +kernel⟩
abbrev mX6_init : pm_M := (yX6_init, cX6_init, 1, 1, 20, none, [])
theorem mw44 : Cond.code yX6_init cX6_init 1 none ∈ pm_tbl := List.mem_filter.mpr ⟨List.mem_of_getElem? (i := 428) (by decide +kernel), by decide +kernel⟩
theorem my_X6_init : pm_my mX6_init 0 := ⟨mw44, mw42, by decide +kernel⟩
theorem mw46 : Cond.instanceMethod yX6_init ∈ pm_tbl := List.mem_filter.mpr ⟨List.mem_of_getElem? (i := 427) (by decide +kernel), by decide +kernel⟩
theorem ci_X6_init : pm_ci mX6_init 0 := ⟨my_X6_init, mw46, rfl, rfl, rfl⟩
theorem mw47 : Cond.fieldLink RX11 44 RX11 "ports" "LBridgeAuction$Ports;" ∈ pm_tbl := List.mem_filter.mpr ⟨List.mem_of_getElem? (i := 473) (by decide +kernel), by decide +kernel⟩
theorem fa_X11_44 : pm_fa RX11 44 10 4 true (.object "BridgeAuction$Ports") := ⟨RX11, TX11, 7, tyX11, rfl, by decide, inX11_t, mw47, tyX11_ok, nmX11, rfl, rfl, rfl⟩
theorem mw48 : Cond.classLink RX11 48 RX2 ∈ pm_tbl := List.mem_filter.mpr ⟨List.mem_of_getElem? (i := 434) (by decide +kernel), by decide +kernel⟩
theorem mw49 : Cond.instantiable RX2 6 ∈ pm_tbl := List.mem_filter.mpr ⟨List.mem_of_getElem? (i := 435) (by decide +kernel), by decide +kernel⟩
theorem mw50 : Cond.initialized RX2 ∈ pm_tbl := List.mem_filter.mpr ⟨List.mem_of_getElem? (i := 84) (by decide +kernel), by decide +kernel⟩
theorem inX2_t : ∀ w ∈ u_ws RX2 TX2 6, w ∈ pm_tbl := by decide +kernel
theorem mw51 : Cond.methodLink RX11 50 yX2_init ∈ pm_tbl := List.mem_filter.mpr ⟨List.mem_of_getElem? (i := 436) (by decide +kernel), by decide +kernel⟩
abbrev mX2_init : pm_M := (yX2_init, cX2_init, 1, 1, 20, none, [])
theorem mw52 : Cond.code yX2_init cX2_init 1 none ∈ pm_tbl := List.mem_filter.mpr ⟨List.mem_of_getElem? (i := 438) (by decide +kernel), by decide +kernel⟩
theorem my_X2_init : pm_my mX2_init 0 := ⟨mw52, mw50, by decide +kernel⟩
theorem mw54 : Cond.instanceMethod yX2_init ∈ pm_tbl := List.mem_filter.mpr ⟨List.mem_of_getElem? (i := 437) (by decide +kernel), by decide +kernel⟩
theorem ci_X2_init : pm_ci mX2_init 0 := ⟨my_X2_init, mw54, rfl, rfl, rfl⟩
theorem mw55 : Cond.fieldLink RX11 51 RX11 "frames" "LBridgeAuction$Frames;" ∈ pm_tbl := List.mem_filter.mpr ⟨List.mem_of_getElem? (i := 474) (by decide +kernel), by decide +kernel⟩
theorem fa_X11_51 : pm_fa RX11 51 10 5 true (.object "BridgeAuction$Frames") := ⟨RX11, TX11, 7, tyX11, rfl, by decide, inX11_t, mw55, tyX11_ok, nmX11, rfl, rfl, rfl⟩
theorem mw56 : Cond.classLink RX11 55 RX5 ∈ pm_tbl := List.mem_filter.mpr ⟨List.mem_of_getElem? (i := 459) (by decide +kernel), by decide +kernel⟩
theorem mw57 : Cond.instantiable RX5 1 ∈ pm_tbl := List.mem_filter.mpr ⟨List.mem_of_getElem? (i := 460) (by decide +kernel), by decide +kernel⟩
theorem mw58 : Cond.initialized RX5 ∈ pm_tbl := List.mem_filter.mpr ⟨List.mem_of_getElem? (i := 85) (by decide +kernel), by decide +kernel⟩
theorem inX5_t : ∀ w ∈ u_ws RX5 TX5 1, w ∈ pm_tbl := by decide +kernel
theorem mw59 : Cond.methodLink RX11 57 yX5_init ∈ pm_tbl := List.mem_filter.mpr ⟨List.mem_of_getElem? (i := 461) (by decide +kernel), by decide +kernel⟩
abbrev mX5_init : pm_M := (yX5_init, cX5_init, 1, 1, 20, none, [])
theorem mw60 : Cond.code yX5_init cX5_init 1 none ∈ pm_tbl := List.mem_filter.mpr ⟨List.mem_of_getElem? (i := 463) (by decide +kernel), by decide +kernel⟩
theorem my_X5_init : pm_my mX5_init 0 := ⟨mw60, mw58, by decide +kernel⟩
theorem mw62 : Cond.instanceMethod yX5_init ∈ pm_tbl := List.mem_filter.mpr ⟨List.mem_of_getElem? (i := 462) (by decide +kernel), by decide +kernel⟩
theorem ci_X5_init : pm_ci mX5_init 0 := ⟨my_X5_init, mw62, rfl, rfl, rfl⟩
theorem mw63 : Cond.fieldLink RX11 58 RX11 "paths" "LBridgeAuction$Paths;" ∈ pm_tbl := List.mem_filter.mpr ⟨List.mem_of_getElem? (i := 475) (by decide +kernel), by decide +kernel⟩
theorem fa_X11_58 : pm_fa RX11 58 10 6 true (.object "BridgeAuction$Paths") := ⟨RX11, TX11, 7, tyX11, rfl, by decide, inX11_t, mw63, tyX11_ok, nmX11, rfl, rfl, rfl⟩
abbrev mX11_init : pm_M := (yX11_init, cX11_init, 1, 4, 89, none, [])
theorem mw64 : Cond.methodLink RX4 3 Lib.objectInit ∈ pm_tbl := List.mem_filter.mpr ⟨List.mem_of_getElem? (i := 113) (by decide +kernel), by decide +kernel⟩
theorem mw65 : Cond.fieldLink RX4 9 RX4 "delay" "I" ∈ pm_tbl := List.mem_filter.mpr ⟨List.mem_of_getElem? (i := 264) (by decide +kernel), by decide +kernel⟩
theorem fa_X4_9 : pm_fa RX4 9 3 2 false .int := ⟨RX4, TX4, 13, tyX4, rfl, by decide, inX4_t, mw65, tyX4_ok, nmX4, rfl, rfl, rfl⟩
theorem mw66 : Cond.fieldLink RX4 15 RX4 "interval" "I" ∈ pm_tbl := List.mem_filter.mpr ⟨List.mem_of_getElem? (i := 267) (by decide +kernel), by decide +kernel⟩
theorem fa_X4_15 : pm_fa RX4 15 3 3 false .int := ⟨RX4, TX4, 13, tyX4, rfl, by decide, inX4_t, mw66, tyX4_ok, nmX4, rfl, rfl, rfl⟩
theorem mw67 : Cond.fieldLink RX4 18 RX4 "hysteresis" "I" ∈ pm_tbl := List.mem_filter.mpr ⟨List.mem_of_getElem? (i := 269) (by decide +kernel), by decide +kernel⟩
theorem fa_X4_18 : pm_fa RX4 18 3 4 false .int := ⟨RX4, TX4, 13, tyX4, rfl, by decide, inX4_t, mw67, tyX4_ok, nmX4, rfl, rfl, rfl⟩
theorem mw68 : Cond.classLink RX4 21 RX1 ∈ pm_tbl := List.mem_filter.mpr ⟨List.mem_of_getElem? (i := 114) (by decide +kernel), by decide +kernel⟩
theorem mw69 : Cond.instantiable RX1 8 ∈ pm_tbl := List.mem_filter.mpr ⟨List.mem_of_getElem? (i := 115) (by decide +kernel), by decide +kernel⟩
theorem mw70 : Cond.initialized RX1 ∈ pm_tbl := List.mem_filter.mpr ⟨List.mem_of_getElem? (i := 77) (by decide +kernel), by decide +kernel⟩
theorem inX1_t : ∀ w ∈ u_ws RX1 TX1 8, w ∈ pm_tbl := by decide +kernel
theorem mw71 : Cond.methodLink RX4 23 yX1_init ∈ pm_tbl := List.mem_filter.mpr ⟨List.mem_of_getElem? (i := 116) (by decide +kernel), by decide +kernel⟩
abbrev mX1_init : pm_M := (yX1_init, cX1_init, 1, 1, 20, none, [])
theorem mw72 : Cond.code yX1_init cX1_init 1 none ∈ pm_tbl := List.mem_filter.mpr ⟨List.mem_of_getElem? (i := 118) (by decide +kernel), by decide +kernel⟩
theorem my_X1_init : pm_my mX1_init 0 := ⟨mw72, mw70, by decide +kernel⟩
theorem mw74 : Cond.instanceMethod yX1_init ∈ pm_tbl := List.mem_filter.mpr ⟨List.mem_of_getElem? (i := 117) (by decide +kernel), by decide +kernel⟩
theorem ci_X1_init : pm_ci mX1_init 0 := ⟨my_X1_init, mw74, rfl, rfl, rfl⟩
theorem mw75 : Cond.fieldLink RX4 24 RX4 "bridges" "LBridgeAuction$BridgeRows;" ∈ pm_tbl := List.mem_filter.mpr ⟨List.mem_of_getElem? (i := 287) (by decide +kernel), by decide +kernel⟩
theorem fa_X4_24 : pm_fa RX4 24 3 10 true (.object "BridgeAuction$BridgeRows") := ⟨RX4, TX4, 13, tyX4, rfl, by decide, inX4_t, mw75, tyX4_ok, nmX4, rfl, rfl, rfl⟩
theorem mw76 : Cond.classLink RX4 28 RX3 ∈ pm_tbl := List.mem_filter.mpr ⟨List.mem_of_getElem? (i := 155) (by decide +kernel), by decide +kernel⟩
theorem mw77 : Cond.instantiable RX3 12 ∈ pm_tbl := List.mem_filter.mpr ⟨List.mem_of_getElem? (i := 156) (by decide +kernel), by decide +kernel⟩
theorem mw78 : Cond.initialized RX3 ∈ pm_tbl := List.mem_filter.mpr ⟨List.mem_of_getElem? (i := 78) (by decide +kernel), by decide +kernel⟩
theorem inX3_t : ∀ w ∈ u_ws RX3 TX3 12, w ∈ pm_tbl := by decide +kernel
theorem mw79 : Cond.methodLink RX4 30 yX3_init ∈ pm_tbl := List.mem_filter.mpr ⟨List.mem_of_getElem? (i := 157) (by decide +kernel), by decide +kernel⟩
abbrev mX3_init : pm_M := (yX3_init, cX3_init, 1, 1, 20, none, [])
theorem mw80 : Cond.code yX3_init cX3_init 1 none ∈ pm_tbl := List.mem_filter.mpr ⟨List.mem_of_getElem? (i := 159) (by decide +kernel), by decide +kernel⟩
theorem my_X3_init : pm_my mX3_init 0 := ⟨mw80, mw78, by decide +kernel⟩
theorem mw82 : Cond.instanceMethod yX3_init ∈ pm_tbl := List.mem_filter.mpr ⟨List.mem_of_getElem? (i := 158) (by decide +kernel), by decide +kernel⟩
theorem ci_X3_init : pm_ci mX3_init 0 := ⟨my_X3_init, mw82, rfl, rfl, rfl⟩
theorem mw83 : Cond.fieldLink RX4 31 RX4 "links" "LBridgeAuction$LinkRows;" ∈ pm_tbl := List.mem_filter.mpr ⟨List.mem_of_getElem? (i := 292) (by decide +kernel), by decide +kernel⟩
theorem fa_X4_31 : pm_fa RX4 31 3 11 true (.object "BridgeAuction$LinkRows") := ⟨RX4, TX4, 13, tyX4, rfl, by decide, inX4_t, mw83, tyX4_ok, nmX4, rfl, rfl, rfl⟩
theorem mw84 : Cond.classLink RX4 35 RX8 ∈ pm_tbl := List.mem_filter.mpr ⟨List.mem_of_getElem? (i := 230) (by decide +kernel), by decide +kernel⟩
theorem mw85 : Cond.instantiable RX8 4 ∈ pm_tbl := List.mem_filter.mpr ⟨List.mem_of_getElem? (i := 231) (by decide +kernel), by decide +kernel⟩
theorem mw86 : Cond.initialized RX8 ∈ pm_tbl := List.mem_filter.mpr ⟨List.mem_of_getElem? (i := 79) (by decide +kernel), by decide +kernel⟩
theorem inX8_t : ∀ w ∈ u_ws RX8 TX8 4, w ∈ pm_tbl := by decide +kernel
theorem mw87 : Cond.methodLink RX4 37 yX8_init ∈ pm_tbl := List.mem_filter.mpr ⟨List.mem_of_getElem? (i := 232) (by decide +kernel), by decide +kernel⟩
abbrev mX8_init : pm_M := (yX8_init, cX8_init, 1, 1, 20, none, [])
theorem mw88 : Cond.code yX8_init cX8_init 1 none ∈ pm_tbl := List.mem_filter.mpr ⟨List.mem_of_getElem? (i := 234) (by decide +kernel), by decide +kernel⟩
theorem my_X8_init : pm_my mX8_init 0 := ⟨mw88, mw86, by decide +kernel⟩
theorem mw90 : Cond.instanceMethod yX8_init ∈ pm_tbl := List.mem_filter.mpr ⟨List.mem_of_getElem? (i := 233) (by decide +kernel), by decide +kernel⟩
theorem ci_X8_init : pm_ci mX8_init 0 := ⟨my_X8_init, mw90, rfl, rfl, rfl⟩
theorem mw91 : Cond.fieldLink RX4 38 RX4 "tenants" "LBridgeAuction$TenantRows;" ∈ pm_tbl := List.mem_filter.mpr ⟨List.mem_of_getElem? (i := 299) (by decide +kernel), by decide +kernel⟩
theorem fa_X4_38 : pm_fa RX4 38 3 12 true (.object "BridgeAuction$TenantRows") := ⟨RX4, TX4, 13, tyX4, rfl, by decide, inX4_t, mw91, tyX4_ok, nmX4, rfl, rfl, rfl⟩
theorem mw92 : Cond.methodLink RX1 3 Lib.objectInit ∈ pm_tbl := List.mem_filter.mpr ⟨List.mem_of_getElem? (i := 119) (by decide +kernel), by decide +kernel⟩
theorem mw93 : Cond.arrayClass .int ∈ pm_tbl := List.mem_filter.mpr ⟨List.mem_of_getElem? (i := 154) (by decide +kernel), by decide +kernel⟩
theorem mw94 : Cond.fieldLink RX1 9 RX1 "priority" "[I" ∈ pm_tbl := List.mem_filter.mpr ⟨List.mem_of_getElem? (i := 120) (by decide +kernel), by decide +kernel⟩
theorem fa_X1_9 : pm_fa RX1 9 0 0 true (.array .int) := ⟨RX1, TX1, 8, tyX1, rfl, by decide, inX1_t, mw94, tyX1_ok, nmX1, rfl, rfl, rfl⟩
theorem mw95 : Cond.fieldLink RX1 15 RX1 "root" "[I" ∈ pm_tbl := List.mem_filter.mpr ⟨List.mem_of_getElem? (i := 121) (by decide +kernel), by decide +kernel⟩
theorem fa_X1_15 : pm_fa RX1 15 0 1 true (.array .int) := ⟨RX1, TX1, 8, tyX1, rfl, by decide, inX1_t, mw95, tyX1_ok, nmX1, rfl, rfl, rfl⟩
theorem mw96 : Cond.fieldLink RX1 18 RX1 "cost" "[I" ∈ pm_tbl := List.mem_filter.mpr ⟨List.mem_of_getElem? (i := 124) (by decide +kernel), by decide +kernel⟩
theorem fa_X1_18 : pm_fa RX1 18 0 2 true (.array .int) := ⟨RX1, TX1, 8, tyX1, rfl, by decide, inX1_t, mw96, tyX1_ok, nmX1, rfl, rfl, rfl⟩
theorem mw97 : Cond.fieldLink RX1 21 RX1 "age" "[I" ∈ pm_tbl := List.mem_filter.mpr ⟨List.mem_of_getElem? (i := 127) (by decide +kernel), by decide +kernel⟩
theorem fa_X1_21 : pm_fa RX1 21 0 3 true (.array .int) := ⟨RX1, TX1, 8, tyX1, rfl, by decide, inX1_t, mw97, tyX1_ok, nmX1, rfl, rfl, rfl⟩
theorem mw98 : Cond.fieldLink RX1 24 RX1 "rootLink" "[I" ∈ pm_tbl := List.mem_filter.mpr ⟨List.mem_of_getElem? (i := 129) (by decide +kernel), by decide +kernel⟩
theorem fa_X1_24 : pm_fa RX1 24 0 4 true (.array .int) := ⟨RX1, TX1, 8, tyX1, rfl, by decide, inX1_t, mw98, tyX1_ok, nmX1, rfl, rfl, rfl⟩
theorem mw99 : Cond.fieldLink RX1 27 RX1 "hostAt" "[I" ∈ pm_tbl := List.mem_filter.mpr ⟨List.mem_of_getElem? (i := 132) (by decide +kernel), by decide +kernel⟩
theorem fa_X1_27 : pm_fa RX1 27 0 5 true (.array .int) := ⟨RX1, TX1, 8, tyX1, rfl, by decide, inX1_t, mw99, tyX1_ok, nmX1, rfl, rfl, rfl⟩
theorem mw100 : Cond.fieldLink RX1 30 RX1 "entryVia" "[I" ∈ pm_tbl := List.mem_filter.mpr ⟨List.mem_of_getElem? (i := 135) (by decide +kernel), by decide +kernel⟩
theorem fa_X1_30 : pm_fa RX1 30 0 6 true (.array .int) := ⟨RX1, TX1, 8, tyX1, rfl, by decide, inX1_t, mw100, tyX1_ok, nmX1, rfl, rfl, rfl⟩
theorem mw101 : Cond.fieldLink RX1 33 RX1 "entryMade" "[I" ∈ pm_tbl := List.mem_filter.mpr ⟨List.mem_of_getElem? (i := 136) (by decide +kernel), by decide +kernel⟩
theorem fa_X1_33 : pm_fa RX1 33 0 7 true (.array .int) := ⟨RX1, TX1, 8, tyX1, rfl, by decide, inX1_t, mw101, tyX1_ok, nmX1, rfl, rfl, rfl⟩
theorem mw102 : Cond.methodLink RX3 3 Lib.objectInit ∈ pm_tbl := List.mem_filter.mpr ⟨List.mem_of_getElem? (i := 160) (by decide +kernel), by decide +kernel⟩
theorem mw103 : Cond.fieldLink RX3 9 RX3 "low" "[I" ∈ pm_tbl := List.mem_filter.mpr ⟨List.mem_of_getElem? (i := 169) (by decide +kernel), by decide +kernel⟩
theorem fa_X3_9 : pm_fa RX3 9 2 1 true (.array .int) := ⟨RX3, TX3, 12, tyX3, rfl, by decide, inX3_t, mw103, tyX3_ok, nmX3, rfl, rfl, rfl⟩
theorem mw104 : Cond.fieldLink RX3 15 RX3 "high" "[I" ∈ pm_tbl := List.mem_filter.mpr ⟨List.mem_of_getElem? (i := 173) (by decide +kernel), by decide +kernel⟩
theorem fa_X3_15 : pm_fa RX3 15 2 2 true (.array .int) := ⟨RX3, TX3, 12, tyX3, rfl, by decide, inX3_t, mw104, tyX3_ok, nmX3, rfl, rfl, rfl⟩
theorem mw105 : Cond.fieldLink RX3 18 RX3 "base" "[I" ∈ pm_tbl := List.mem_filter.mpr ⟨List.mem_of_getElem? (i := 177) (by decide +kernel), by decide +kernel⟩
theorem fa_X3_18 : pm_fa RX3 18 2 3 true (.array .int) := ⟨RX3, TX3, 12, tyX3, rfl, by decide, inX3_t, mw105, tyX3_ok, nmX3, rfl, rfl, rfl⟩
theorem mw106 : Cond.fieldLink RX3 21 RX3 "cost" "[I" ∈ pm_tbl := List.mem_filter.mpr ⟨List.mem_of_getElem? (i := 179) (by decide +kernel), by decide +kernel⟩
theorem fa_X3_21 : pm_fa RX3 21 2 4 true (.array .int) := ⟨RX3, TX3, 12, tyX3, rfl, by decide, inX3_t, mw106, tyX3_ok, nmX3, rfl, rfl, rfl⟩
theorem mw107 : Cond.arrayClass .boolean ∈ pm_tbl := List.mem_filter.mpr ⟨List.mem_of_getElem? (i := 229) (by decide +kernel), by decide +kernel⟩
theorem mw108 : Cond.fieldLink RX3 24 RX3 "up" "[Z" ∈ pm_tbl := List.mem_filter.mpr ⟨List.mem_of_getElem? (i := 182) (by decide +kernel), by decide +kernel⟩
theorem fa_X3_24 : pm_fa RX3 24 2 5 true (.array .boolean) := ⟨RX3, TX3, 12, tyX3, rfl, by decide, inX3_t, mw108, tyX3_ok, nmX3, rfl, rfl, rfl⟩
theorem mw109 : Cond.fieldLink RX3 28 RX3 "winner" "[I" ∈ pm_tbl := List.mem_filter.mpr ⟨List.mem_of_getElem? (i := 187) (by decide +kernel), by decide +kernel⟩
theorem fa_X3_28 : pm_fa RX3 28 2 6 true (.array .int) := ⟨RX3, TX3, 12, tyX3, rfl, by decide, inX3_t, mw109, tyX3_ok, nmX3, rfl, rfl, rfl⟩
theorem mw110 : Cond.fieldLink RX3 31 RX3 "price" "[I" ∈ pm_tbl := List.mem_filter.mpr ⟨List.mem_of_getElem? (i := 190) (by decide +kernel), by decide +kernel⟩
theorem fa_X3_31 : pm_fa RX3 31 2 7 true (.array .int) := ⟨RX3, TX3, 12, tyX3, rfl, by decide, inX3_t, mw110, tyX3_ok, nmX3, rfl, rfl, rfl⟩
theorem mw111 : Cond.fieldLink RX3 34 RX3 "differed" "[I" ∈ pm_tbl := List.mem_filter.mpr ⟨List.mem_of_getElem? (i := 193) (by decide +kernel), by decide +kernel⟩
theorem fa_X3_34 : pm_fa RX3 34 2 8 true (.array .int) := ⟨RX3, TX3, 12, tyX3, rfl, by decide, inX3_t, mw111, tyX3_ok, nmX3, rfl, rfl, rfl⟩
theorem mw112 : Cond.fieldLink RX3 37 RX3 "role" "[I" ∈ pm_tbl := List.mem_filter.mpr ⟨List.mem_of_getElem? (i := 195) (by decide +kernel), by decide +kernel⟩
theorem fa_X3_37 : pm_fa RX3 37 2 9 true (.array .int) := ⟨RX3, TX3, 12, tyX3, rfl, by decide, inX3_t, mw112, tyX3_ok, nmX3, rfl, rfl, rfl⟩
theorem mw113 : Cond.fieldLink RX3 40 RX3 "state" "[I" ∈ pm_tbl := List.mem_filter.mpr ⟨List.mem_of_getElem? (i := 198) (by decide +kernel), by decide +kernel⟩
theorem fa_X3_40 : pm_fa RX3 40 2 10 true (.array .int) := ⟨RX3, TX3, 12, tyX3, rfl, by decide, inX3_t, mw113, tyX3_ok, nmX3, rfl, rfl, rfl⟩
theorem mw114 : Cond.fieldLink RX3 43 RX3 "timer" "[I" ∈ pm_tbl := List.mem_filter.mpr ⟨List.mem_of_getElem? (i := 201) (by decide +kernel), by decide +kernel⟩
theorem fa_X3_43 : pm_fa RX3 43 2 11 true (.array .int) := ⟨RX3, TX3, 12, tyX3, rfl, by decide, inX3_t, mw114, tyX3_ok, nmX3, rfl, rfl, rfl⟩
theorem mw115 : Cond.methodLink RX8 3 Lib.objectInit ∈ pm_tbl := List.mem_filter.mpr ⟨List.mem_of_getElem? (i := 235) (by decide +kernel), by decide +kernel⟩
theorem mw116 : Cond.fieldLink RX8 9 RX8 "credits" "[I" ∈ pm_tbl := List.mem_filter.mpr ⟨List.mem_of_getElem? (i := 236) (by decide +kernel), by decide +kernel⟩
theorem fa_X8_9 : pm_fa RX8 9 7 0 true (.array .int) := ⟨RX8, TX8, 4, tyX8, rfl, by decide, inX8_t, mw116, tyX8_ok, nmX8, rfl, rfl, rfl⟩
theorem mw117 : Cond.fieldLink RX8 15 RX8 "paid" "[I" ∈ pm_tbl := List.mem_filter.mpr ⟨List.mem_of_getElem? (i := 240) (by decide +kernel), by decide +kernel⟩
theorem fa_X8_15 : pm_fa RX8 15 7 1 true (.array .int) := ⟨RX8, TX8, 4, tyX8, rfl, by decide, inX8_t, mw117, tyX8_ok, nmX8, rfl, rfl, rfl⟩
theorem mw118 : Cond.fieldLink RX8 18 RX8 "refunded" "[I" ∈ pm_tbl := List.mem_filter.mpr ⟨List.mem_of_getElem? (i := 243) (by decide +kernel), by decide +kernel⟩
theorem fa_X8_18 : pm_fa RX8 18 7 2 true (.array .int) := ⟨RX8, TX8, 4, tyX8, rfl, by decide, inX8_t, mw118, tyX8_ok, nmX8, rfl, rfl, rfl⟩
theorem mw119 : Cond.fieldLink RX8 21 RX8 "bids" "[I" ∈ pm_tbl := List.mem_filter.mpr ⟨List.mem_of_getElem? (i := 246) (by decide +kernel), by decide +kernel⟩
theorem fa_X8_21 : pm_fa RX8 21 7 3 true (.array .int) := ⟨RX8, TX8, 4, tyX8, rfl, by decide, inX8_t, mw119, tyX8_ok, nmX8, rfl, rfl, rfl⟩
theorem mw120 : Cond.fieldLink RX4 42 RX4 "size" "I" ∈ pm_tbl := List.mem_filter.mpr ⟨List.mem_of_getElem? (i := 257) (by decide +kernel), by decide +kernel⟩
theorem fa_X4_42 : pm_fa RX4 42 3 0 false .int := ⟨RX4, TX4, 13, tyX4, rfl, by decide, inX4_t, mw120, tyX4_ok, nmX4, rfl, rfl, rfl⟩
theorem mw121 : Cond.fieldLink RX4 45 RX4 "clock" "I" ∈ pm_tbl := List.mem_filter.mpr ⟨List.mem_of_getElem? (i := 261) (by decide +kernel), by decide +kernel⟩
theorem fa_X4_45 : pm_fa RX4 45 3 1 false .int := ⟨RX4, TX4, 13, tyX4, rfl, by decide, inX4_t, mw121, tyX4_ok, nmX4, rfl, rfl, rfl⟩
theorem mw122 : Cond.fieldLink RX4 48 RX4 "auctions" "I" ∈ pm_tbl := List.mem_filter.mpr ⟨List.mem_of_getElem? (i := 273) (by decide +kernel), by decide +kernel⟩
theorem fa_X4_48 : pm_fa RX4 48 3 5 false .int := ⟨RX4, TX4, 13, tyX4, rfl, by decide, inX4_t, mw122, tyX4_ok, nmX4, rfl, rfl, rfl⟩
theorem mw123 : Cond.fieldLink RX4 51 RX4 "changes" "I" ∈ pm_tbl := List.mem_filter.mpr ⟨List.mem_of_getElem? (i := 276) (by decide +kernel), by decide +kernel⟩
theorem fa_X4_51 : pm_fa RX4 51 3 6 false .int := ⟨RX4, TX4, 13, tyX4, rfl, by decide, inX4_t, mw123, tyX4_ok, nmX4, rfl, rfl, rfl⟩
theorem mw124 : Cond.fieldLink RX4 54 RX4 "sent" "I" ∈ pm_tbl := List.mem_filter.mpr ⟨List.mem_of_getElem? (i := 278) (by decide +kernel), by decide +kernel⟩
theorem fa_X4_54 : pm_fa RX4 54 3 7 false .int := ⟨RX4, TX4, 13, tyX4, rfl, by decide, inX4_t, mw124, tyX4_ok, nmX4, rfl, rfl, rfl⟩
theorem mw125 : Cond.fieldLink RX4 57 RX4 "delivered" "I" ∈ pm_tbl := List.mem_filter.mpr ⟨List.mem_of_getElem? (i := 281) (by decide +kernel), by decide +kernel⟩
theorem fa_X4_57 : pm_fa RX4 57 3 8 false .int := ⟨RX4, TX4, 13, tyX4, rfl, by decide, inX4_t, mw125, tyX4_ok, nmX4, rfl, rfl, rfl⟩
theorem mw126 : Cond.fieldLink RX4 60 RX4 "used" "I" ∈ pm_tbl := List.mem_filter.mpr ⟨List.mem_of_getElem? (i := 284) (by decide +kernel), by decide +kernel⟩
theorem fa_X4_60 : pm_fa RX4 60 3 9 false .int := ⟨RX4, TX4, 13, tyX4, rfl, by decide, inX4_t, mw126, tyX4_ok, nmX4, rfl, rfl, rfl⟩
theorem mw127 : Cond.methodLink RX4 63 yX1_beginAnew ∈ pm_tbl := List.mem_filter.mpr ⟨List.mem_of_getElem? (i := 333) (by decide +kernel), by decide +kernel⟩
abbrev mX1_beginAnew : pm_M := (yX1_beginAnew, cX1_beginAnew, 3, 2, 46, none, [])
theorem mw128 : Cond.code yX1_beginAnew cX1_beginAnew 3 none ∈ pm_tbl := List.mem_filter.mpr ⟨List.mem_of_getElem? (i := 336) (by decide +kernel), by decide +kernel⟩
theorem my_X1_beginAnew : pm_my mX1_beginAnew 1 := ⟨mw128, mw70, by decide +kernel⟩
theorem mw130 : Cond.instanceMethod yX1_beginAnew ∈ pm_tbl := List.mem_filter.mpr ⟨List.mem_of_getElem? (i := 334) (by decide +kernel), by decide +kernel⟩
theorem mw131 : Cond.selects RX1 yX1_beginAnew yX1_beginAnew ∈ pm_tbl := List.mem_filter.mpr ⟨List.mem_of_getElem? (i := 335) (by decide +kernel), by decide +kernel⟩
theorem cv_X1_beginAnew : pm_cv mX1_beginAnew 1 0 := ⟨my_X1_beginAnew, mw130, mw131, rfl, TX1, 8, rfl⟩
theorem mw132 : Cond.fieldLink RX4 67 RX3 "total" "I" ∈ pm_tbl := List.mem_filter.mpr ⟨List.mem_of_getElem? (i := 164) (by decide +kernel), by decide +kernel⟩
theorem fa_X4_67 : pm_fa RX4 67 2 0 false .int := ⟨RX3, TX3, 12, tyX3, rfl, by decide, inX3_t, mw132, tyX3_ok, nmX3, rfl, rfl, rfl⟩
theorem mw133 : Cond.methodLink RX4 70 yX8_beginAnew ∈ pm_tbl := List.mem_filter.mpr ⟨List.mem_of_getElem? (i := 353) (by decide +kernel), by decide +kernel⟩
abbrev mX8_beginAnew : pm_M := (yX8_beginAnew, cX8_beginAnew, 2, 0, 0, none, [])
theorem mw134 : Cond.code yX8_beginAnew cX8_beginAnew 2 none ∈ pm_tbl := List.mem_filter.mpr ⟨List.mem_of_getElem? (i := 356) (by decide +kernel), by decide +kernel⟩
theorem my_X8_beginAnew : pm_my mX8_beginAnew 0 := ⟨mw134, mw86, by decide +kernel⟩
theorem mw136 : Cond.instanceMethod yX8_beginAnew ∈ pm_tbl := List.mem_filter.mpr ⟨List.mem_of_getElem? (i := 354) (by decide +kernel), by decide +kernel⟩
theorem mw137 : Cond.selects RX8 yX8_beginAnew yX8_beginAnew ∈ pm_tbl := List.mem_filter.mpr ⟨List.mem_of_getElem? (i := 355) (by decide +kernel), by decide +kernel⟩
theorem cv_X8_beginAnew : pm_cv mX8_beginAnew 0 7 := ⟨my_X8_beginAnew, mw136, mw137, rfl, TX8, 4, rfl⟩
theorem mw138 : Cond.methodLink RX1 36 yX1_startVector ∈ pm_tbl := List.mem_filter.mpr ⟨List.mem_of_getElem? (i := 337) (by decide +kernel), by decide +kernel⟩
abbrev mX1_startVector : pm_M := (yX1_startVector, cX1_startVector, 2, 1, 21, none, [])
theorem mw139 : Cond.code yX1_startVector cX1_startVector 2 none ∈ pm_tbl := List.mem_filter.mpr ⟨List.mem_of_getElem? (i := 340) (by decide +kernel), by decide +kernel⟩
theorem my_X1_startVector : pm_my mX1_startVector 1 := ⟨mw139, mw70, by decide +kernel⟩
theorem mw141 : Cond.instanceMethod yX1_startVector ∈ pm_tbl := List.mem_filter.mpr ⟨List.mem_of_getElem? (i := 338) (by decide +kernel), by decide +kernel⟩
theorem mw142 : Cond.selects RX1 yX1_startVector yX1_startVector ∈ pm_tbl := List.mem_filter.mpr ⟨List.mem_of_getElem? (i := 339) (by decide +kernel), by decide +kernel⟩
theorem cv_X1_startVector : pm_cv mX1_startVector 1 0 := ⟨my_X1_startVector, mw141, mw142, rfl, TX1, 8, rfl⟩
theorem mw143 : Cond.methodLink RX1 40 yX1_flush ∈ pm_tbl := List.mem_filter.mpr ⟨List.mem_of_getElem? (i := 345) (by decide +kernel), by decide +kernel⟩
abbrev mX1_flush : pm_M := (yX1_flush, cX1_flush, 3, 1, 24, none, [])
theorem mw144 : Cond.code yX1_flush cX1_flush 3 none ∈ pm_tbl := List.mem_filter.mpr ⟨List.mem_of_getElem? (i := 348) (by decide +kernel), by decide +kernel⟩
theorem my_X1_flush : pm_my mX1_flush 1 := ⟨mw144, mw70, by decide +kernel⟩
theorem mw146 : Cond.instanceMethod yX1_flush ∈ pm_tbl := List.mem_filter.mpr ⟨List.mem_of_getElem? (i := 346) (by decide +kernel), by decide +kernel⟩
theorem mw147 : Cond.selects RX1 yX1_flush yX1_flush ∈ pm_tbl := List.mem_filter.mpr ⟨List.mem_of_getElem? (i := 347) (by decide +kernel), by decide +kernel⟩
theorem cv_X1_flush : pm_cv mX1_flush 1 0 := ⟨my_X1_flush, mw146, mw147, rfl, TX1, 8, rfl⟩
theorem mw148 : Cond.methodLink RX1 49 yX1_idOf ∈ pm_tbl := List.mem_filter.mpr ⟨List.mem_of_getElem? (i := 341) (by decide +kernel), by decide +kernel⟩
abbrev mX1_idOf : pm_M := (yX1_idOf, cX1_idOf, 2, 0, 0, some .int, [])
theorem mw149 : Cond.code yX1_idOf cX1_idOf 2 (some .int) ∈ pm_tbl := List.mem_filter.mpr ⟨List.mem_of_getElem? (i := 344) (by decide +kernel), by decide +kernel⟩
theorem my_X1_idOf : pm_my mX1_idOf 1 := ⟨mw149, mw70, by decide +kernel⟩
theorem mw151 : Cond.instanceMethod yX1_idOf ∈ pm_tbl := List.mem_filter.mpr ⟨List.mem_of_getElem? (i := 342) (by decide +kernel), by decide +kernel⟩
theorem mw152 : Cond.selects RX1 yX1_idOf yX1_idOf ∈ pm_tbl := List.mem_filter.mpr ⟨List.mem_of_getElem? (i := 343) (by decide +kernel), by decide +kernel⟩
theorem cv_X1_idOf : pm_cv mX1_idOf 1 0 := ⟨my_X1_idOf, mw151, mw152, rfl, TX1, 8, rfl⟩
theorem mw153 : Cond.methodLink RX1 53 yX1_makeEntry ∈ pm_tbl := List.mem_filter.mpr ⟨List.mem_of_getElem? (i := 349) (by decide +kernel), by decide +kernel⟩
abbrev mX1_makeEntry : pm_M := (yX1_makeEntry, cX1_makeEntry, 5, 0, 0, none, [])
theorem mw154 : Cond.code yX1_makeEntry cX1_makeEntry 5 none ∈ pm_tbl := List.mem_filter.mpr ⟨List.mem_of_getElem? (i := 352) (by decide +kernel), by decide +kernel⟩
theorem my_X1_makeEntry : pm_my mX1_makeEntry 4 := ⟨mw154, mw70, by decide +kernel⟩
theorem mw156 : Cond.instanceMethod yX1_makeEntry ∈ pm_tbl := List.mem_filter.mpr ⟨List.mem_of_getElem? (i := 350) (by decide +kernel), by decide +kernel⟩
theorem mw157 : Cond.selects RX1 yX1_makeEntry yX1_makeEntry ∈ pm_tbl := List.mem_filter.mpr ⟨List.mem_of_getElem? (i := 351) (by decide +kernel), by decide +kernel⟩
theorem cv_X1_makeEntry : pm_cv mX1_makeEntry 4 0 := ⟨my_X1_makeEntry, mw156, mw157, rfl, TX1, 8, rfl⟩
theorem mw158 : Cond.methodLink RX9 1 Lib.objectInit ∈ pm_tbl := List.mem_filter.mpr ⟨List.mem_of_getElem? (i := 362) (by decide +kernel), by decide +kernel⟩
theorem mw159 : Cond.classLink RX9 9 RX4 ∈ pm_tbl := List.mem_filter.mpr ⟨List.mem_of_getElem? (i := 363) (by decide +kernel), by decide +kernel⟩
theorem mw160 : Cond.fieldLink RX9 11 RX9 "rows" "[LBridgeAuction$Network;" ∈ pm_tbl := List.mem_filter.mpr ⟨List.mem_of_getElem? (i := 366) (by decide +kernel), by decide +kernel⟩
theorem fa_X9_11 : pm_fa RX9 11 8 0 true (.array (.object "BridgeAuction$Network")) := ⟨RX9, TX9, 2, tyX9, rfl, by decide, inX9_t, mw160, tyX9_ok, nmX9, rfl, rfl, rfl⟩
theorem mw161 : Cond.methodLink RX9 15 yX4_init ∈ pm_tbl := List.mem_filter.mpr ⟨List.mem_of_getElem? (i := 365) (by decide +kernel), by decide +kernel⟩
theorem mw162 : Cond.methodLink RX7 3 Lib.objectInit ∈ pm_tbl := List.mem_filter.mpr ⟨List.mem_of_getElem? (i := 379) (by decide +kernel), by decide +kernel⟩
theorem mw163 : Cond.fieldLink RX7 11 RX7 "numbers" "[I" ∈ pm_tbl := List.mem_filter.mpr ⟨List.mem_of_getElem? (i := 384) (by decide +kernel), by decide +kernel⟩
theorem fa_X7_11 : pm_fa RX7 11 6 2 true (.array .int) := ⟨RX7, TX7, 6, tyX7, rfl, by decide, inX7_t, mw163, tyX7_ok, nmX7, rfl, rfl, rfl⟩
theorem mw164 : Cond.fieldLink RX7 15 RX7 "bytes" "[I" ∈ pm_tbl := List.mem_filter.mpr ⟨List.mem_of_getElem? (i := 386) (by decide +kernel), by decide +kernel⟩
theorem fa_X7_15 : pm_fa RX7 15 6 3 true (.array .int) := ⟨RX7, TX7, 6, tyX7, rfl, by decide, inX7_t, mw164, tyX7_ok, nmX7, rfl, rfl, rfl⟩
theorem mw165 : Cond.methodLink RX10 3 Lib.objectInit ∈ pm_tbl := List.mem_filter.mpr ⟨List.mem_of_getElem? (i := 407) (by decide +kernel), by decide +kernel⟩
theorem mw166 : Cond.fieldLink RX10 9 RX10 "root" "[I" ∈ pm_tbl := List.mem_filter.mpr ⟨List.mem_of_getElem? (i := 408) (by decide +kernel), by decide +kernel⟩
theorem fa_X10_9 : pm_fa RX10 9 9 0 true (.array .int) := ⟨RX10, TX10, 5, tyX10, rfl, by decide, inX10_t, mw166, tyX10_ok, nmX10, rfl, rfl, rfl⟩
theorem mw167 : Cond.fieldLink RX10 15 RX10 "cost" "[I" ∈ pm_tbl := List.mem_filter.mpr ⟨List.mem_of_getElem? (i := 409) (by decide +kernel), by decide +kernel⟩
theorem fa_X10_15 : pm_fa RX10 15 9 1 true (.array .int) := ⟨RX10, TX10, 5, tyX10, rfl, by decide, inX10_t, mw167, tyX10_ok, nmX10, rfl, rfl, rfl⟩
theorem mw168 : Cond.fieldLink RX10 18 RX10 "age" "[I" ∈ pm_tbl := List.mem_filter.mpr ⟨List.mem_of_getElem? (i := 410) (by decide +kernel), by decide +kernel⟩
theorem fa_X10_18 : pm_fa RX10 18 9 2 true (.array .int) := ⟨RX10, TX10, 5, tyX10, rfl, by decide, inX10_t, mw168, tyX10_ok, nmX10, rfl, rfl, rfl⟩
theorem mw169 : Cond.fieldLink RX10 21 RX10 "rootLink" "[I" ∈ pm_tbl := List.mem_filter.mpr ⟨List.mem_of_getElem? (i := 411) (by decide +kernel), by decide +kernel⟩
theorem fa_X10_21 : pm_fa RX10 21 9 3 true (.array .int) := ⟨RX10, TX10, 5, tyX10, rfl, by decide, inX10_t, mw169, tyX10_ok, nmX10, rfl, rfl, rfl⟩
theorem mw170 : Cond.fieldLink RX10 24 RX10 "fromId" "[I" ∈ pm_tbl := List.mem_filter.mpr ⟨List.mem_of_getElem? (i := 412) (by decide +kernel), by decide +kernel⟩
theorem fa_X10_24 : pm_fa RX10 24 9 4 true (.array .int) := ⟨RX10, TX10, 5, tyX10, rfl, by decide, inX10_t, mw170, tyX10_ok, nmX10, rfl, rfl, rfl⟩
theorem mw171 : Cond.methodLink RX6 3 Lib.objectInit ∈ pm_tbl := List.mem_filter.mpr ⟨List.mem_of_getElem? (i := 429) (by decide +kernel), by decide +kernel⟩
theorem mw172 : Cond.fieldLink RX6 9 RX6 "changed" "[Z" ∈ pm_tbl := List.mem_filter.mpr ⟨List.mem_of_getElem? (i := 430) (by decide +kernel), by decide +kernel⟩
theorem fa_X6_9 : pm_fa RX6 9 5 0 true (.array .boolean) := ⟨RX6, TX6, 1, tyX6, rfl, by decide, inX6_t, mw172, tyX6_ok, nmX6, rfl, rfl, rfl⟩
theorem mw173 : Cond.methodLink RX2 3 Lib.objectInit ∈ pm_tbl := List.mem_filter.mpr ⟨List.mem_of_getElem? (i := 439) (by decide +kernel), by decide +kernel⟩
theorem mw174 : Cond.fieldLink RX2 9 RX2 "received" "[Z" ∈ pm_tbl := List.mem_filter.mpr ⟨List.mem_of_getElem? (i := 440) (by decide +kernel), by decide +kernel⟩
theorem fa_X2_9 : pm_fa RX2 9 1 0 true (.array .boolean) := ⟨RX2, TX2, 6, tyX2, rfl, by decide, inX2_t, mw174, tyX2_ok, nmX2, rfl, rfl, rfl⟩
theorem mw175 : Cond.fieldLink RX2 15 RX2 "cameBy" "[I" ∈ pm_tbl := List.mem_filter.mpr ⟨List.mem_of_getElem? (i := 441) (by decide +kernel), by decide +kernel⟩
theorem fa_X2_15 : pm_fa RX2 15 1 1 true (.array .int) := ⟨RX2, TX2, 6, tyX2, rfl, by decide, inX2_t, mw175, tyX2_ok, nmX2, rfl, rfl, rfl⟩
theorem mw176 : Cond.fieldLink RX2 19 RX2 "order" "[I" ∈ pm_tbl := List.mem_filter.mpr ⟨List.mem_of_getElem? (i := 442) (by decide +kernel), by decide +kernel⟩
theorem fa_X2_19 : pm_fa RX2 19 1 2 true (.array .int) := ⟨RX2, TX2, 6, tyX2, rfl, by decide, inX2_t, mw176, tyX2_ok, nmX2, rfl, rfl, rfl⟩
theorem mw177 : Cond.methodLink RX5 3 Lib.objectInit ∈ pm_tbl := List.mem_filter.mpr ⟨List.mem_of_getElem? (i := 464) (by decide +kernel), by decide +kernel⟩
theorem mw178 : Cond.fieldLink RX5 9 RX5 "group" "[I" ∈ pm_tbl := List.mem_filter.mpr ⟨List.mem_of_getElem? (i := 465) (by decide +kernel), by decide +kernel⟩
theorem fa_X5_9 : pm_fa RX5 9 4 0 true (.array .int) := ⟨RX5, TX5, 1, tyX5, rfl, by decide, inX5_t, mw178, tyX5_ok, nmX5, rfl, rfl, rfl⟩
theorem mw179 : Cond.fieldLink RX11 173 RX4 "clock" "I" ∈ pm_tbl := List.mem_filter.mpr ⟨List.mem_of_getElem? (i := 263) (by decide +kernel), by decide +kernel⟩
theorem fa_X11_173 : pm_fa RX11 173 3 1 false .int := ⟨RX4, TX4, 13, tyX4, rfl, by decide, inX4_t, mw179, tyX4_ok, nmX4, rfl, rfl, rfl⟩
abbrev mX11_time : pm_M := (yX11_time, cX11_time, 1, 0, 0, some .int, [])
theorem mw180 : Cond.fieldLink RX11 112 RX4 "links" "LBridgeAuction$LinkRows;" ∈ pm_tbl := List.mem_filter.mpr ⟨List.mem_of_getElem? (i := 298) (by decide +kernel), by decide +kernel⟩
theorem fa_X11_112 : pm_fa RX11 112 3 11 true (.object "BridgeAuction$LinkRows") := ⟨RX4, TX4, 13, tyX4, rfl, by decide, inX4_t, mw180, tyX4_ok, nmX4, rfl, rfl, rfl⟩
theorem mw181 : Cond.fieldLink RX11 191 RX3 "total" "I" ∈ pm_tbl := List.mem_filter.mpr ⟨List.mem_of_getElem? (i := 168) (by decide +kernel), by decide +kernel⟩
theorem fa_X11_191 : pm_fa RX11 191 2 0 false .int := ⟨RX3, TX3, 12, tyX3, rfl, by decide, inX3_t, mw181, tyX3_ok, nmX3, rfl, rfl, rfl⟩
abbrev mX11_links : pm_M := (yX11_links, cX11_links, 1, 0, 0, some .int, [])
theorem mw182 : Cond.methodLink RX11 244 yX5_findGroups ∈ pm_tbl := List.mem_filter.mpr ⟨List.mem_of_getElem? (i := 503) (by decide +kernel), by decide +kernel⟩
abbrev mX5_findGroups : pm_M := (yX5_findGroups, cX5_findGroups, 5, 2, 42, some .boolean, [])
theorem mw183 : Cond.code yX5_findGroups cX5_findGroups 5 (some .boolean) ∈ pm_tbl := List.mem_filter.mpr ⟨List.mem_of_getElem? (i := 506) (by decide +kernel), by decide +kernel⟩
theorem my_X5_findGroups : pm_my mX5_findGroups 1 := ⟨mw183, mw58, by decide +kernel⟩
theorem mw185 : Cond.instanceMethod yX5_findGroups ∈ pm_tbl := List.mem_filter.mpr ⟨List.mem_of_getElem? (i := 504) (by decide +kernel), by decide +kernel⟩
theorem mw186 : Cond.selects RX5 yX5_findGroups yX5_findGroups ∈ pm_tbl := List.mem_filter.mpr ⟨List.mem_of_getElem? (i := 505) (by decide +kernel), by decide +kernel⟩
theorem cv_X5_findGroups : pm_cv mX5_findGroups 1 4 := ⟨my_X5_findGroups, mw185, mw186, rfl, TX5, 1, rfl⟩
abbrev mX11_isForest : pm_M := (yX11_isForest, cX11_isForest, 1, 3, 66, some .boolean, [])
theorem mw187 : Cond.fieldLink RX5 15 RX4 "links" "LBridgeAuction$LinkRows;" ∈ pm_tbl := List.mem_filter.mpr ⟨List.mem_of_getElem? (i := 293) (by decide +kernel), by decide +kernel⟩
theorem fa_X5_15 : pm_fa RX5 15 3 11 true (.object "BridgeAuction$LinkRows") := ⟨RX4, TX4, 13, tyX4, rfl, by decide, inX4_t, mw187, tyX4_ok, nmX4, rfl, rfl, rfl⟩
theorem mw188 : Cond.fieldLink RX5 21 RX3 "total" "I" ∈ pm_tbl := List.mem_filter.mpr ⟨List.mem_of_getElem? (i := 162) (by decide +kernel), by decide +kernel⟩
theorem fa_X5_21 : pm_fa RX5 21 2 0 false .int := ⟨RX3, TX3, 12, tyX3, rfl, by decide, inX3_t, mw188, tyX3_ok, nmX3, rfl, rfl, rfl⟩
theorem mw189 : Cond.methodLink RX5 27 yX3_carries ∈ pm_tbl := List.mem_filter.mpr ⟨List.mem_of_getElem? (i := 507) (by decide +kernel), by decide +kernel⟩
abbrev mX3_carries : pm_M := (yX3_carries, cX3_carries, 2, 1, 21, some .boolean, [])
theorem mw190 : Cond.code yX3_carries cX3_carries 2 (some .boolean) ∈ pm_tbl := List.mem_filter.mpr ⟨List.mem_of_getElem? (i := 510) (by decide +kernel), by decide +kernel⟩
theorem my_X3_carries : pm_my mX3_carries 1 := ⟨mw190, mw78, by decide +kernel⟩
theorem mw192 : Cond.instanceMethod yX3_carries ∈ pm_tbl := List.mem_filter.mpr ⟨List.mem_of_getElem? (i := 508) (by decide +kernel), by decide +kernel⟩
theorem mw193 : Cond.selects RX3 yX3_carries yX3_carries ∈ pm_tbl := List.mem_filter.mpr ⟨List.mem_of_getElem? (i := 509) (by decide +kernel), by decide +kernel⟩
theorem cv_X3_carries : pm_cv mX3_carries 1 2 := ⟨my_X3_carries, mw192, mw193, rfl, TX3, 12, rfl⟩
theorem mw194 : Cond.fieldLink RX5 31 RX3 "low" "[I" ∈ pm_tbl := List.mem_filter.mpr ⟨List.mem_of_getElem? (i := 171) (by decide +kernel), by decide +kernel⟩
theorem fa_X5_31 : pm_fa RX5 31 2 1 true (.array .int) := ⟨RX3, TX3, 12, tyX3, rfl, by decide, inX3_t, mw194, tyX3_ok, nmX3, rfl, rfl, rfl⟩
theorem mw195 : Cond.fieldLink RX5 34 RX3 "high" "[I" ∈ pm_tbl := List.mem_filter.mpr ⟨List.mem_of_getElem? (i := 175) (by decide +kernel), by decide +kernel⟩
theorem fa_X5_34 : pm_fa RX5 34 2 2 true (.array .int) := ⟨RX3, TX3, 12, tyX3, rfl, by decide, inX3_t, mw195, tyX3_ok, nmX3, rfl, rfl, rfl⟩
theorem mw196 : Cond.methodLink RX5 37 yX5_join ∈ pm_tbl := List.mem_filter.mpr ⟨List.mem_of_getElem? (i := 515) (by decide +kernel), by decide +kernel⟩
abbrev mX5_join : pm_M := (yX5_join, cX5_join, 4, 0, 0, some .boolean, [])
theorem mw197 : Cond.code yX5_join cX5_join 4 (some .boolean) ∈ pm_tbl := List.mem_filter.mpr ⟨List.mem_of_getElem? (i := 518) (by decide +kernel), by decide +kernel⟩
theorem my_X5_join : pm_my mX5_join 2 := ⟨mw197, mw58, by decide +kernel⟩
theorem mw199 : Cond.instanceMethod yX5_join ∈ pm_tbl := List.mem_filter.mpr ⟨List.mem_of_getElem? (i := 517) (by decide +kernel), by decide +kernel⟩
theorem mw200 : Cond.selects RX5 yX5_join yX5_join ∈ pm_tbl := List.mem_filter.mpr ⟨List.mem_of_getElem? (i := 0) (by decide +kernel), by decide +kernel⟩
theorem cv_X5_join : pm_cv mX5_join 2 4 := ⟨my_X5_join, mw199, mw200, rfl, TX5, 1, rfl⟩
theorem mw201 : Cond.methodLink RX3 65 yX3_has ∈ pm_tbl := List.mem_filter.mpr ⟨List.mem_of_getElem? (i := 511) (by decide +kernel), by decide +kernel⟩
abbrev mX3_has : pm_M := (yX3_has, cX3_has, 2, 0, 0, some .boolean, [])
theorem mw202 : Cond.code yX3_has cX3_has 2 (some .boolean) ∈ pm_tbl := List.mem_filter.mpr ⟨List.mem_of_getElem? (i := 514) (by decide +kernel), by decide +kernel⟩
theorem my_X3_has : pm_my mX3_has 1 := ⟨mw202, mw78, by decide +kernel⟩
theorem mw204 : Cond.instanceMethod yX3_has ∈ pm_tbl := List.mem_filter.mpr ⟨List.mem_of_getElem? (i := 512) (by decide +kernel), by decide +kernel⟩
theorem mw205 : Cond.selects RX3 yX3_has yX3_has ∈ pm_tbl := List.mem_filter.mpr ⟨List.mem_of_getElem? (i := 513) (by decide +kernel), by decide +kernel⟩
theorem cv_X3_has : pm_cv mX3_has 1 2 := ⟨my_X3_has, mw204, mw205, rfl, TX3, 12, rfl⟩
theorem mw206 : Cond.fieldLink RX3 46 RX3 "total" "I" ∈ pm_tbl := List.mem_filter.mpr ⟨List.mem_of_getElem? (i := 161) (by decide +kernel), by decide +kernel⟩
theorem fa_X3_46 : pm_fa RX3 46 2 0 false .int := ⟨RX3, TX3, 12, tyX3, rfl, by decide, inX3_t, mw206, tyX3_ok, nmX3, rfl, rfl, rfl⟩
theorem mw207 : Cond.fieldLink RX11 261 RX7 "length" "I" ∈ pm_tbl := List.mem_filter.mpr ⟨List.mem_of_getElem? (i := 381) (by decide +kernel), by decide +kernel⟩
theorem fa_X11_261 : pm_fa RX11 261 6 0 false .int := ⟨RX7, TX7, 6, tyX7, rfl, by decide, inX7_t, mw207, tyX7_ok, nmX7, rfl, rfl, rfl⟩
abbrev mX11_clearScript : pm_M := (yX11_clearScript, cX11_clearScript, 2, 0, 0, some .int, [])
theorem mw208 : Cond.methodLink RX11 264 yX7_findFault ∈ pm_tbl := List.mem_filter.mpr ⟨List.mem_of_getElem? (i := 527) (by decide +kernel), by decide +kernel⟩
abbrev mX7_findFault : pm_M := (yX7_findFault, cX7_findFault, 2, 7, 156, some .int, [])
theorem mw209 : Cond.code yX7_findFault cX7_findFault 2 (some .int) ∈ pm_tbl := List.mem_filter.mpr ⟨List.mem_of_getElem? (i := 530) (by decide +kernel), by decide +kernel⟩
theorem my_X7_findFault : pm_my mX7_findFault 0 := ⟨mw209, mw26, by decide +kernel⟩
theorem mw211 : Cond.instanceMethod yX7_findFault ∈ pm_tbl := List.mem_filter.mpr ⟨List.mem_of_getElem? (i := 528) (by decide +kernel), by decide +kernel⟩
theorem mw212 : Cond.selects RX7 yX7_findFault yX7_findFault ∈ pm_tbl := List.mem_filter.mpr ⟨List.mem_of_getElem? (i := 529) (by decide +kernel), by decide +kernel⟩
theorem cv_X7_findFault : pm_cv mX7_findFault 0 6 := ⟨my_X7_findFault, mw211, mw212, rfl, TX7, 6, rfl⟩
theorem mw213 : Cond.methodLink RX11 73 yX9_save ∈ pm_tbl := List.mem_filter.mpr ⟨List.mem_of_getElem? (i := 612) (by decide +kernel), by decide +kernel⟩
abbrev mX9_save : pm_M := (yX9_save, cX9_save, 2, 3, 80, none, [])
theorem mw214 : Cond.code yX9_save cX9_save 2 none ∈ pm_tbl := List.mem_filter.mpr ⟨List.mem_of_getElem? (i := 615) (by decide +kernel), by decide +kernel⟩
theorem my_X9_save : pm_my mX9_save 1 := ⟨mw214, mw18, by decide +kernel⟩
theorem mw216 : Cond.instanceMethod yX9_save ∈ pm_tbl := List.mem_filter.mpr ⟨List.mem_of_getElem? (i := 613) (by decide +kernel), by decide +kernel⟩
theorem mw217 : Cond.selects RX9 yX9_save yX9_save ∈ pm_tbl := List.mem_filter.mpr ⟨List.mem_of_getElem? (i := 614) (by decide +kernel), by decide +kernel⟩
theorem cv_X9_save : pm_cv mX9_save 1 8 := ⟨my_X9_save, mw216, mw217, rfl, TX9, 2, rfl⟩
theorem mw218 : Cond.methodLink RX11 267 yX7_rewind ∈ pm_tbl := List.mem_filter.mpr ⟨List.mem_of_getElem? (i := 641) (by decide +kernel), by decide +kernel⟩
abbrev mX7_rewind : pm_M := (yX7_rewind, cX7_rewind, 1, 0, 0, none, [])
theorem mw219 : Cond.code yX7_rewind cX7_rewind 1 none ∈ pm_tbl := List.mem_filter.mpr ⟨List.mem_of_getElem? (i := 534) (by decide +kernel), by decide +kernel⟩
theorem my_X7_rewind : pm_my mX7_rewind 0 := ⟨mw219, mw26, by decide +kernel⟩
theorem mw221 : Cond.instanceMethod yX7_rewind ∈ pm_tbl := List.mem_filter.mpr ⟨List.mem_of_getElem? (i := 532) (by decide +kernel), by decide +kernel⟩
theorem mw222 : Cond.selects RX7 yX7_rewind yX7_rewind ∈ pm_tbl := List.mem_filter.mpr ⟨List.mem_of_getElem? (i := 533) (by decide +kernel), by decide +kernel⟩
theorem cv_X7_rewind : pm_cv mX7_rewind 0 6 := ⟨my_X7_rewind, mw221, mw222, rfl, TX7, 6, rfl⟩
theorem mw223 : Cond.methodLink RX11 270 yX7_readCommand ∈ pm_tbl := List.mem_filter.mpr ⟨List.mem_of_getElem? (i := 642) (by decide +kernel), by decide +kernel⟩
abbrev mX7_readCommand : pm_M := (yX7_readCommand, cX7_readCommand, 2, 6, 135, some .boolean, [])
theorem mw224 : Cond.code yX7_readCommand cX7_readCommand 2 (some .boolean) ∈ pm_tbl := List.mem_filter.mpr ⟨List.mem_of_getElem? (i := 538) (by decide +kernel), by decide +kernel⟩
theorem my_X7_readCommand : pm_my mX7_readCommand 0 := ⟨mw224, mw26, by decide +kernel⟩
theorem mw226 : Cond.instanceMethod yX7_readCommand ∈ pm_tbl := List.mem_filter.mpr ⟨List.mem_of_getElem? (i := 536) (by decide +kernel), by decide +kernel⟩
theorem mw227 : Cond.selects RX7 yX7_readCommand yX7_readCommand ∈ pm_tbl := List.mem_filter.mpr ⟨List.mem_of_getElem? (i := 537) (by decide +kernel), by decide +kernel⟩
theorem cv_X7_readCommand : pm_cv mX7_readCommand 0 6 := ⟨my_X7_readCommand, mw226, mw227, rfl, TX7, 6, rfl⟩
theorem mw228 : Cond.methodLink RX11 273 yX11_carryOut ∈ pm_tbl := List.mem_filter.mpr ⟨List.mem_of_getElem? (i := 643) (by decide +kernel), by decide +kernel⟩
abbrev mX11_carryOut : pm_M := (yX11_carryOut, cX11_carryOut, 4, 6, 141, some .boolean, [])
theorem mw229 : Cond.code yX11_carryOut cX11_carryOut 4 (some .boolean) ∈ pm_tbl := List.mem_filter.mpr ⟨List.mem_of_getElem? (i := 646) (by decide +kernel), by decide +kernel⟩
theorem mw230 : Cond.initialized RX11 ∈ pm_tbl := List.mem_filter.mpr ⟨List.mem_of_getElem? (i := 75) (by decide +kernel), by decide +kernel⟩
theorem my_X11_carryOut : pm_my mX11_carryOut 0 := ⟨mw229, mw230, by decide +kernel⟩
theorem mw232 : Cond.instanceMethod yX11_carryOut ∈ pm_tbl := List.mem_filter.mpr ⟨List.mem_of_getElem? (i := 645) (by decide +kernel), by decide +kernel⟩
theorem mw233 : Cond.selects RX11 yX11_carryOut yX11_carryOut ∈ pm_tbl := List.mem_filter.mpr ⟨List.mem_of_getElem? (i := 8) (by decide +kernel), by decide +kernel⟩
theorem cv_X11_carryOut : pm_cv mX11_carryOut 0 10 := ⟨my_X11_carryOut, mw232, mw233, rfl, TX11, 7, rfl⟩
abbrev mX11_run : pm_M := (yX11_run, cX11_run, 4, 8, 177, some .int, [])
theorem mw234 : Cond.methodLink RX7 32 yX7_rewind ∈ pm_tbl := List.mem_filter.mpr ⟨List.mem_of_getElem? (i := 531) (by decide +kernel), by decide +kernel⟩
theorem mw235 : Cond.fieldLink RX7 18 RX7 "length" "I" ∈ pm_tbl := List.mem_filter.mpr ⟨List.mem_of_getElem? (i := 380) (by decide +kernel), by decide +kernel⟩
theorem fa_X7_18 : pm_fa RX7 18 6 0 false .int := ⟨RX7, TX7, 6, tyX7, rfl, by decide, inX7_t, mw235, tyX7_ok, nmX7, rfl, rfl, rfl⟩
theorem mw236 : Cond.methodLink RX7 35 yX7_readCommand ∈ pm_tbl := List.mem_filter.mpr ⟨List.mem_of_getElem? (i := 535) (by decide +kernel), by decide +kernel⟩
theorem mw237 : Cond.fieldLink RX7 29 RX7 "fault" "I" ∈ pm_tbl := List.mem_filter.mpr ⟨List.mem_of_getElem? (i := 388) (by decide +kernel), by decide +kernel⟩
theorem fa_X7_29 : pm_fa RX7 29 6 5 false .int := ⟨RX7, TX7, 6, tyX7, rfl, by decide, inX7_t, mw237, tyX7_ok, nmX7, rfl, rfl, rfl⟩
theorem mw238 : Cond.fieldLink RX7 26 RX7 "place" "I" ∈ pm_tbl := List.mem_filter.mpr ⟨List.mem_of_getElem? (i := 387) (by decide +kernel), by decide +kernel⟩
theorem fa_X7_26 : pm_fa RX7 26 6 4 false .int := ⟨RX7, TX7, 6, tyX7, rfl, by decide, inX7_t, mw238, tyX7_ok, nmX7, rfl, rfl, rfl⟩
theorem mw239 : Cond.methodLink RX7 38 yX7_skipSpaces ∈ pm_tbl := List.mem_filter.mpr ⟨List.mem_of_getElem? (i := 539) (by decide +kernel), by decide +kernel⟩
abbrev mX7_skipSpaces : pm_M := (yX7_skipSpaces, cX7_skipSpaces, 1, 0, 0, none, [])
theorem mw240 : Cond.code yX7_skipSpaces cX7_skipSpaces 1 none ∈ pm_tbl := List.mem_filter.mpr ⟨List.mem_of_getElem? (i := 542) (by decide +kernel), by decide +kernel⟩
theorem my_X7_skipSpaces : pm_my mX7_skipSpaces 0 := ⟨mw240, mw26, by decide +kernel⟩
theorem mw242 : Cond.instanceMethod yX7_skipSpaces ∈ pm_tbl := List.mem_filter.mpr ⟨List.mem_of_getElem? (i := 541) (by decide +kernel), by decide +kernel⟩
theorem mw243 : Cond.selects RX7 yX7_skipSpaces yX7_skipSpaces ∈ pm_tbl := List.mem_filter.mpr ⟨List.mem_of_getElem? (i := 1) (by decide +kernel), by decide +kernel⟩
theorem cv_X7_skipSpaces : pm_cv mX7_skipSpaces 0 6 := ⟨my_X7_skipSpaces, mw242, mw243, rfl, TX7, 6, rfl⟩
theorem mw244 : Cond.methodLink RX7 41 yX7_readWord ∈ pm_tbl := List.mem_filter.mpr ⟨List.mem_of_getElem? (i := 543) (by decide +kernel), by decide +kernel⟩
abbrev mX7_readWord : pm_M := (yX7_readWord, cX7_readWord, 3, 5, 113, some .boolean, [])
theorem mw245 : Cond.code yX7_readWord cX7_readWord 3 (some .boolean) ∈ pm_tbl := List.mem_filter.mpr ⟨List.mem_of_getElem? (i := 546) (by decide +kernel), by decide +kernel⟩
theorem my_X7_readWord : pm_my mX7_readWord 0 := ⟨mw245, mw26, by decide +kernel⟩
theorem mw247 : Cond.instanceMethod yX7_readWord ∈ pm_tbl := List.mem_filter.mpr ⟨List.mem_of_getElem? (i := 545) (by decide +kernel), by decide +kernel⟩
theorem mw248 : Cond.selects RX7 yX7_readWord yX7_readWord ∈ pm_tbl := List.mem_filter.mpr ⟨List.mem_of_getElem? (i := 2) (by decide +kernel), by decide +kernel⟩
theorem cv_X7_readWord : pm_cv mX7_readWord 0 6 := ⟨my_X7_readWord, mw247, mw248, rfl, TX7, 6, rfl⟩
theorem mw249 : Cond.fieldLink RX7 44 RX7 "NUMBERS" "[I" ∈ pm_tbl := List.mem_filter.mpr ⟨List.mem_of_getElem? (i := 599) (by decide +kernel), by decide +kernel⟩
theorem mw250 : Cond.fieldLink RX7 47 RX7 "word" "I" ∈ pm_tbl := List.mem_filter.mpr ⟨List.mem_of_getElem? (i := 382) (by decide +kernel), by decide +kernel⟩
theorem fa_X7_47 : pm_fa RX7 47 6 1 false .int := ⟨RX7, TX7, 6, tyX7, rfl, by decide, inX7_t, mw250, tyX7_ok, nmX7, rfl, rfl, rfl⟩
theorem mw251 : Cond.methodLink RX7 50 yX7_readNumber ∈ pm_tbl := List.mem_filter.mpr ⟨List.mem_of_getElem? (i := 601) (by decide +kernel), by decide +kernel⟩
abbrev mX7_readNumber : pm_M := (yX7_readNumber, cX7_readNumber, 4, 1, 20, some .boolean, [])
theorem mw252 : Cond.code yX7_readNumber cX7_readNumber 4 (some .boolean) ∈ pm_tbl := List.mem_filter.mpr ⟨List.mem_of_getElem? (i := 604) (by decide +kernel), by decide +kernel⟩
theorem my_X7_readNumber : pm_my mX7_readNumber 1 := ⟨mw252, mw26, by decide +kernel⟩
theorem mw254 : Cond.instanceMethod yX7_readNumber ∈ pm_tbl := List.mem_filter.mpr ⟨List.mem_of_getElem? (i := 603) (by decide +kernel), by decide +kernel⟩
theorem mw255 : Cond.selects RX7 yX7_readNumber yX7_readNumber ∈ pm_tbl := List.mem_filter.mpr ⟨List.mem_of_getElem? (i := 5) (by decide +kernel), by decide +kernel⟩
theorem cv_X7_readNumber : pm_cv mX7_readNumber 1 6 := ⟨my_X7_readNumber, mw254, mw255, rfl, TX7, 6, rfl⟩
theorem mw256 : Cond.methodLink RX7 54 yX7_byteHere ∈ pm_tbl := List.mem_filter.mpr ⟨List.mem_of_getElem? (i := 605) (by decide +kernel), by decide +kernel⟩
abbrev mX7_byteHere : pm_M := (yX7_byteHere, cX7_byteHere, 1, 0, 0, some .int, [])
theorem mw257 : Cond.code yX7_byteHere cX7_byteHere 1 (some .int) ∈ pm_tbl := List.mem_filter.mpr ⟨List.mem_of_getElem? (i := 608) (by decide +kernel), by decide +kernel⟩
theorem my_X7_byteHere : pm_my mX7_byteHere 0 := ⟨mw257, mw26, by decide +kernel⟩
theorem mw259 : Cond.instanceMethod yX7_byteHere ∈ pm_tbl := List.mem_filter.mpr ⟨List.mem_of_getElem? (i := 607) (by decide +kernel), by decide +kernel⟩
theorem mw260 : Cond.selects RX7 yX7_byteHere yX7_byteHere ∈ pm_tbl := List.mem_filter.mpr ⟨List.mem_of_getElem? (i := 6) (by decide +kernel), by decide +kernel⟩
theorem cv_X7_byteHere : pm_cv mX7_byteHere 0 6 := ⟨my_X7_byteHere, mw259, mw260, rfl, TX7, 6, rfl⟩
theorem mw261 : Cond.methodLink RX7 58 yX7_stopHere ∈ pm_tbl := List.mem_filter.mpr ⟨List.mem_of_getElem? (i := 550) (by decide +kernel), by decide +kernel⟩
abbrev mX7_stopHere : pm_M := (yX7_stopHere, cX7_stopHere, 1, 0, 0, some .boolean, [])
theorem mw262 : Cond.code yX7_stopHere cX7_stopHere 1 (some .boolean) ∈ pm_tbl := List.mem_filter.mpr ⟨List.mem_of_getElem? (i := 553) (by decide +kernel), by decide +kernel⟩
theorem my_X7_stopHere : pm_my mX7_stopHere 0 := ⟨mw262, mw26, by decide +kernel⟩
theorem mw264 : Cond.instanceMethod yX7_stopHere ∈ pm_tbl := List.mem_filter.mpr ⟨List.mem_of_getElem? (i := 552) (by decide +kernel), by decide +kernel⟩
theorem mw265 : Cond.selects RX7 yX7_stopHere yX7_stopHere ∈ pm_tbl := List.mem_filter.mpr ⟨List.mem_of_getElem? (i := 3) (by decide +kernel), by decide +kernel⟩
theorem cv_X7_stopHere : pm_cv mX7_stopHere 0 6 := ⟨my_X7_stopHere, mw264, mw265, rfl, TX7, 6, rfl⟩
theorem mw266 : Cond.methodLink RX7 61 yX7_isLetter ∈ pm_tbl := List.mem_filter.mpr ⟨List.mem_of_getElem? (i := 547) (by decide +kernel), by decide +kernel⟩
abbrev mX7_isLetter : pm_M := (yX7_isLetter, cX7_isLetter, 1, 0, 0, some .boolean, [])
theorem mw267 : Cond.code yX7_isLetter cX7_isLetter 1 (some .boolean) ∈ pm_tbl := List.mem_filter.mpr ⟨List.mem_of_getElem? (i := 549) (by decide +kernel), by decide +kernel⟩
theorem my_X7_isLetter : pm_my mX7_isLetter 1 := ⟨mw267, mw26, by decide +kernel⟩
theorem mw269 : Cond.static yX7_isLetter ∈ pm_tbl := List.mem_filter.mpr ⟨List.mem_of_getElem? (i := 548) (by decide +kernel), by decide +kernel⟩
theorem cs_X7_isLetter : pm_cs mX7_isLetter 1 := ⟨my_X7_isLetter, mw269, rfl⟩
theorem mw270 : Cond.methodLink RX7 64 yX7_isWord ∈ pm_tbl := List.mem_filter.mpr ⟨List.mem_of_getElem? (i := 554) (by decide +kernel), by decide +kernel⟩
abbrev mX7_isWord : pm_M := (yX7_isWord, cX7_isWord, 6, 4, 88, some .boolean, [])
theorem mw271 : Cond.code yX7_isWord cX7_isWord 6 (some .boolean) ∈ pm_tbl := List.mem_filter.mpr ⟨List.mem_of_getElem? (i := 557) (by decide +kernel), by decide +kernel⟩
theorem my_X7_isWord : pm_my mX7_isWord 3 := ⟨mw271, mw26, by decide +kernel⟩
theorem mw273 : Cond.instanceMethod yX7_isWord ∈ pm_tbl := List.mem_filter.mpr ⟨List.mem_of_getElem? (i := 556) (by decide +kernel), by decide +kernel⟩
theorem mw274 : Cond.selects RX7 yX7_isWord yX7_isWord ∈ pm_tbl := List.mem_filter.mpr ⟨List.mem_of_getElem? (i := 4) (by decide +kernel), by decide +kernel⟩
theorem cv_X7_isWord : pm_cv mX7_isWord 3 6 := ⟨my_X7_isWord, mw273, mw274, rfl, TX7, 6, rfl⟩
theorem mw275 : Cond.methodLink RX7 70 yJ0_charAt_5068e ∈ pm_tbl := List.mem_filter.mpr ⟨List.mem_of_getElem? (i := 559) (by decide +kernel), by decide +kernel⟩
theorem mw276 : Cond.methodLink RX7 76 yX7_isDigit ∈ pm_tbl := List.mem_filter.mpr ⟨List.mem_of_getElem? (i := 609) (by decide +kernel), by decide +kernel⟩
abbrev mX7_isDigit : pm_M := (yX7_isDigit, cX7_isDigit, 1, 0, 0, some .boolean, [])
theorem mw277 : Cond.code yX7_isDigit cX7_isDigit 1 (some .boolean) ∈ pm_tbl := List.mem_filter.mpr ⟨List.mem_of_getElem? (i := 611) (by decide +kernel), by decide +kernel⟩
theorem my_X7_isDigit : pm_my mX7_isDigit 1 := ⟨mw277, mw26, by decide +kernel⟩
theorem mw279 : Cond.static yX7_isDigit ∈ pm_tbl := List.mem_filter.mpr ⟨List.mem_of_getElem? (i := 610) (by decide +kernel), by decide +kernel⟩
theorem cs_X7_isDigit : pm_cs mX7_isDigit 1 := ⟨my_X7_isDigit, mw279, rfl⟩
theorem mw280 : Cond.fieldLink RX9 16 RX9 "size" "I" ∈ pm_tbl := List.mem_filter.mpr ⟨List.mem_of_getElem? (i := 367) (by decide +kernel), by decide +kernel⟩
theorem fa_X9_16 : pm_fa RX9 16 8 1 false .int := ⟨RX9, TX9, 2, tyX9, rfl, by decide, inX9_t, mw280, tyX9_ok, nmX9, rfl, rfl, rfl⟩
theorem mw281 : Cond.methodLink RX9 20 yX9_dropOldest ∈ pm_tbl := List.mem_filter.mpr ⟨List.mem_of_getElem? (i := 616) (by decide +kernel), by decide +kernel⟩
abbrev mX9_dropOldest : pm_M := (yX9_dropOldest, cX9_dropOldest, 3, 0, 0, none, [])
theorem mw282 : Cond.code yX9_dropOldest cX9_dropOldest 3 none ∈ pm_tbl := List.mem_filter.mpr ⟨List.mem_of_getElem? (i := 619) (by decide +kernel), by decide +kernel⟩
theorem my_X9_dropOldest : pm_my mX9_dropOldest 0 := ⟨mw282, mw18, by decide +kernel⟩
theorem mw284 : Cond.instanceMethod yX9_dropOldest ∈ pm_tbl := List.mem_filter.mpr ⟨List.mem_of_getElem? (i := 618) (by decide +kernel), by decide +kernel⟩
theorem mw285 : Cond.selects RX9 yX9_dropOldest yX9_dropOldest ∈ pm_tbl := List.mem_filter.mpr ⟨List.mem_of_getElem? (i := 7) (by decide +kernel), by decide +kernel⟩
theorem cv_X9_dropOldest : pm_cv mX9_dropOldest 0 8 := ⟨my_X9_dropOldest, mw284, mw285, rfl, TX9, 2, rfl⟩
theorem mw286 : Cond.methodLink RX9 23 yX4_copyFrom ∈ pm_tbl := List.mem_filter.mpr ⟨List.mem_of_getElem? (i := 620) (by decide +kernel), by decide +kernel⟩
abbrev mX4_copyFrom : pm_M := (yX4_copyFrom, cX4_copyFrom, 2, 2, 59, none, [])
theorem mw287 : Cond.code yX4_copyFrom cX4_copyFrom 2 none ∈ pm_tbl := List.mem_filter.mpr ⟨List.mem_of_getElem? (i := 623) (by decide +kernel), by decide +kernel⟩
theorem my_X4_copyFrom : pm_my mX4_copyFrom 1 := ⟨mw287, mw5, by decide +kernel⟩
theorem mw289 : Cond.instanceMethod yX4_copyFrom ∈ pm_tbl := List.mem_filter.mpr ⟨List.mem_of_getElem? (i := 621) (by decide +kernel), by decide +kernel⟩
theorem mw290 : Cond.selects RX4 yX4_copyFrom yX4_copyFrom ∈ pm_tbl := List.mem_filter.mpr ⟨List.mem_of_getElem? (i := 622) (by decide +kernel), by decide +kernel⟩
theorem cv_X4_copyFrom : pm_cv mX4_copyFrom 1 3 := ⟨my_X4_copyFrom, mw289, mw290, rfl, TX4, 13, rfl⟩
theorem mw291 : Cond.methodLink RX4 72 yX1_copyFrom ∈ pm_tbl := List.mem_filter.mpr ⟨List.mem_of_getElem? (i := 624) (by decide +kernel), by decide +kernel⟩
abbrev mX1_copyFrom : pm_M := (yX1_copyFrom, cX1_copyFrom, 2, 1, 38, none, [])
theorem mw292 : Cond.code yX1_copyFrom cX1_copyFrom 2 none ∈ pm_tbl := List.mem_filter.mpr ⟨List.mem_of_getElem? (i := 627) (by decide +kernel), by decide +kernel⟩
theorem my_X1_copyFrom : pm_my mX1_copyFrom 1 := ⟨mw292, mw70, by decide +kernel⟩
theorem mw294 : Cond.instanceMethod yX1_copyFrom ∈ pm_tbl := List.mem_filter.mpr ⟨List.mem_of_getElem? (i := 625) (by decide +kernel), by decide +kernel⟩
theorem mw295 : Cond.selects RX1 yX1_copyFrom yX1_copyFrom ∈ pm_tbl := List.mem_filter.mpr ⟨List.mem_of_getElem? (i := 626) (by decide +kernel), by decide +kernel⟩
theorem cv_X1_copyFrom : pm_cv mX1_copyFrom 1 0 := ⟨my_X1_copyFrom, mw294, mw295, rfl, TX1, 8, rfl⟩
theorem mw296 : Cond.methodLink RX4 76 yX3_copyFrom ∈ pm_tbl := List.mem_filter.mpr ⟨List.mem_of_getElem? (i := 631) (by decide +kernel), by decide +kernel⟩
abbrev mX3_copyFrom : pm_M := (yX3_copyFrom, cX3_copyFrom, 2, 1, 38, none, [])
theorem mw297 : Cond.code yX3_copyFrom cX3_copyFrom 2 none ∈ pm_tbl := List.mem_filter.mpr ⟨List.mem_of_getElem? (i := 634) (by decide +kernel), by decide +kernel⟩
theorem my_X3_copyFrom : pm_my mX3_copyFrom 1 := ⟨mw297, mw78, by decide +kernel⟩
theorem mw299 : Cond.instanceMethod yX3_copyFrom ∈ pm_tbl := List.mem_filter.mpr ⟨List.mem_of_getElem? (i := 632) (by decide +kernel), by decide +kernel⟩
theorem mw300 : Cond.selects RX3 yX3_copyFrom yX3_copyFrom ∈ pm_tbl := List.mem_filter.mpr ⟨List.mem_of_getElem? (i := 633) (by decide +kernel), by decide +kernel⟩
theorem cv_X3_copyFrom : pm_cv mX3_copyFrom 1 2 := ⟨my_X3_copyFrom, mw299, mw300, rfl, TX3, 12, rfl⟩
theorem mw301 : Cond.methodLink RX4 79 yX8_copyFrom ∈ pm_tbl := List.mem_filter.mpr ⟨List.mem_of_getElem? (i := 636) (by decide +kernel), by decide +kernel⟩
abbrev mX8_copyFrom : pm_M := (yX8_copyFrom, cX8_copyFrom, 2, 1, 38, none, [])
theorem mw302 : Cond.code yX8_copyFrom cX8_copyFrom 2 none ∈ pm_tbl := List.mem_filter.mpr ⟨List.mem_of_getElem? (i := 639) (by decide +kernel), by decide +kernel⟩
theorem my_X8_copyFrom : pm_my mX8_copyFrom 1 := ⟨mw302, mw86, by decide +kernel⟩
theorem mw304 : Cond.instanceMethod yX8_copyFrom ∈ pm_tbl := List.mem_filter.mpr ⟨List.mem_of_getElem? (i := 637) (by decide +kernel), by decide +kernel⟩
theorem mw305 : Cond.selects RX8 yX8_copyFrom yX8_copyFrom ∈ pm_tbl := List.mem_filter.mpr ⟨List.mem_of_getElem? (i := 638) (by decide +kernel), by decide +kernel⟩
theorem cv_X8_copyFrom : pm_cv mX8_copyFrom 1 7 := ⟨my_X8_copyFrom, mw304, mw305, rfl, TX8, 4, rfl⟩
theorem mw306 : Cond.methodLink RX1 43 arraycopyName ∈ pm_tbl := List.mem_filter.mpr ⟨List.mem_of_getElem? (i := 628) (by decide +kernel), by decide +kernel⟩
theorem mw307 : Cond.static arraycopyName ∈ pm_tbl := List.mem_filter.mpr ⟨List.mem_of_getElem? (i := 629) (by decide +kernel), by decide +kernel⟩
theorem mw308 : Cond.native arraycopyName ∈ pm_tbl := List.mem_filter.mpr ⟨List.mem_of_getElem? (i := 630) (by decide +kernel), by decide +kernel⟩
theorem mw309 : Cond.initialized RJ10 ∈ pm_tbl := List.mem_filter.mpr ⟨List.mem_of_getElem? (i := 91) (by decide +kernel), by decide +kernel⟩
theorem mw310 : Cond.methodLink RX3 50 arraycopyName ∈ pm_tbl := List.mem_filter.mpr ⟨List.mem_of_getElem? (i := 635) (by decide +kernel), by decide +kernel⟩
theorem mw311 : Cond.methodLink RX8 24 arraycopyName ∈ pm_tbl := List.mem_filter.mpr ⟨List.mem_of_getElem? (i := 640) (by decide +kernel), by decide +kernel⟩
theorem mw312 : Cond.fieldLink RX11 348 RX7 "numbers" "[I" ∈ pm_tbl := List.mem_filter.mpr ⟨List.mem_of_getElem? (i := 385) (by decide +kernel), by decide +kernel⟩
theorem fa_X11_348 : pm_fa RX11 348 6 2 true (.array .int) := ⟨RX7, TX7, 6, tyX7, rfl, by decide, inX7_t, mw312, tyX7_ok, nmX7, rfl, rfl, rfl⟩
theorem mw313 : Cond.methodLink RX11 351 yX11_faultOfCommand ∈ pm_tbl := List.mem_filter.mpr ⟨List.mem_of_getElem? (i := 647) (by decide +kernel), by decide +kernel⟩
abbrev mX11_faultOfCommand : pm_M := (yX11_faultOfCommand, cX11_faultOfCommand, 4, 2, 45, some .int, [])
theorem mw314 : Cond.code yX11_faultOfCommand cX11_faultOfCommand 4 (some .int) ∈ pm_tbl := List.mem_filter.mpr ⟨List.mem_of_getElem? (i := 650) (by decide +kernel), by decide +kernel⟩
theorem my_X11_faultOfCommand : pm_my mX11_faultOfCommand 3 := ⟨mw314, mw230, by decide +kernel⟩
theorem mw316 : Cond.instanceMethod yX11_faultOfCommand ∈ pm_tbl := List.mem_filter.mpr ⟨List.mem_of_getElem? (i := 649) (by decide +kernel), by decide +kernel⟩
theorem mw317 : Cond.selects RX11 yX11_faultOfCommand yX11_faultOfCommand ∈ pm_tbl := List.mem_filter.mpr ⟨List.mem_of_getElem? (i := 9) (by decide +kernel), by decide +kernel⟩
theorem cv_X11_faultOfCommand : pm_cv mX11_faultOfCommand 3 10 := ⟨my_X11_faultOfCommand, mw316, mw317, rfl, TX11, 7, rfl⟩
theorem mw318 : Cond.fieldLink RX11 354 RX7 "word" "I" ∈ pm_tbl := List.mem_filter.mpr ⟨List.mem_of_getElem? (i := 383) (by decide +kernel), by decide +kernel⟩
theorem fa_X11_354 : pm_fa RX11 354 6 1 false .int := ⟨RX7, TX7, 6, tyX7, rfl, by decide, inX7_t, mw318, tyX7_ok, nmX7, rfl, rfl, rfl⟩
theorem mw319 : Cond.methodLink RX11 116 yX3_append ∈ pm_tbl := List.mem_filter.mpr ⟨List.mem_of_getElem? (i := 679) (by decide +kernel), by decide +kernel⟩
abbrev mX3_append : pm_M := (yX3_append, cX3_append, 6, 1, 21, some .int, [])
theorem mw320 : Cond.code yX3_append cX3_append 6 (some .int) ∈ pm_tbl := List.mem_filter.mpr ⟨List.mem_of_getElem? (i := 682) (by decide +kernel), by decide +kernel⟩
theorem my_X3_append : pm_my mX3_append 3 := ⟨mw320, mw78, by decide +kernel⟩
theorem mw322 : Cond.instanceMethod yX3_append ∈ pm_tbl := List.mem_filter.mpr ⟨List.mem_of_getElem? (i := 680) (by decide +kernel), by decide +kernel⟩
theorem mw323 : Cond.selects RX3 yX3_append yX3_append ∈ pm_tbl := List.mem_filter.mpr ⟨List.mem_of_getElem? (i := 681) (by decide +kernel), by decide +kernel⟩
theorem cv_X3_append : pm_cv mX3_append 3 2 := ⟨my_X3_append, mw322, mw323, rfl, TX3, 12, rfl⟩
theorem mw324 : Cond.fieldLink RX11 141 RX4 "tenants" "LBridgeAuction$TenantRows;" ∈ pm_tbl := List.mem_filter.mpr ⟨List.mem_of_getElem? (i := 301) (by decide +kernel), by decide +kernel⟩
theorem fa_X11_141 : pm_fa RX11 141 3 12 true (.object "BridgeAuction$TenantRows") := ⟨RX4, TX4, 13, tyX4, rfl, by decide, inX4_t, mw324, tyX4_ok, nmX4, rfl, rfl, rfl⟩
theorem mw325 : Cond.methodLink RX11 145 yX8_changeBid ∈ pm_tbl := List.mem_filter.mpr ⟨List.mem_of_getElem? (i := 689) (by decide +kernel), by decide +kernel⟩
abbrev mX8_changeBid : pm_M := (yX8_changeBid, cX8_changeBid, 6, 0, 0, some .int, [])
theorem mw326 : Cond.code yX8_changeBid cX8_changeBid 6 (some .int) ∈ pm_tbl := List.mem_filter.mpr ⟨List.mem_of_getElem? (i := 692) (by decide +kernel), by decide +kernel⟩
theorem my_X8_changeBid : pm_my mX8_changeBid 3 := ⟨mw326, mw86, by decide +kernel⟩
theorem mw328 : Cond.instanceMethod yX8_changeBid ∈ pm_tbl := List.mem_filter.mpr ⟨List.mem_of_getElem? (i := 690) (by decide +kernel), by decide +kernel⟩
theorem mw329 : Cond.selects RX8 yX8_changeBid yX8_changeBid ∈ pm_tbl := List.mem_filter.mpr ⟨List.mem_of_getElem? (i := 691) (by decide +kernel), by decide +kernel⟩
theorem cv_X8_changeBid : pm_cv mX8_changeBid 3 7 := ⟨my_X8_changeBid, mw328, mw329, rfl, TX8, 4, rfl⟩
theorem mw330 : Cond.methodLink RX11 125 yX4_takeDown ∈ pm_tbl := List.mem_filter.mpr ⟨List.mem_of_getElem? (i := 693) (by decide +kernel), by decide +kernel⟩
abbrev mX4_takeDown : pm_M := (yX4_takeDown, cX4_takeDown, 5, 0, 0, some .int, [])
theorem mw331 : Cond.code yX4_takeDown cX4_takeDown 5 (some .int) ∈ pm_tbl := List.mem_filter.mpr ⟨List.mem_of_getElem? (i := 696) (by decide +kernel), by decide +kernel⟩
theorem my_X4_takeDown : pm_my mX4_takeDown 1 := ⟨mw331, mw5, by decide +kernel⟩
theorem mw333 : Cond.instanceMethod yX4_takeDown ∈ pm_tbl := List.mem_filter.mpr ⟨List.mem_of_getElem? (i := 694) (by decide +kernel), by decide +kernel⟩
theorem mw334 : Cond.selects RX4 yX4_takeDown yX4_takeDown ∈ pm_tbl := List.mem_filter.mpr ⟨List.mem_of_getElem? (i := 695) (by decide +kernel), by decide +kernel⟩
theorem cv_X4_takeDown : pm_cv mX4_takeDown 1 3 := ⟨my_X4_takeDown, mw333, mw334, rfl, TX4, 13, rfl⟩
theorem mw335 : Cond.methodLink RX11 129 yX3_bringUp ∈ pm_tbl := List.mem_filter.mpr ⟨List.mem_of_getElem? (i := 697) (by decide +kernel), by decide +kernel⟩
abbrev mX3_bringUp : pm_M := (yX3_bringUp, cX3_bringUp, 4, 0, 0, some .int, [])
theorem mw336 : Cond.code yX3_bringUp cX3_bringUp 4 (some .int) ∈ pm_tbl := List.mem_filter.mpr ⟨List.mem_of_getElem? (i := 700) (by decide +kernel), by decide +kernel⟩
theorem my_X3_bringUp : pm_my mX3_bringUp 1 := ⟨mw336, mw78, by decide +kernel⟩
theorem mw338 : Cond.instanceMethod yX3_bringUp ∈ pm_tbl := List.mem_filter.mpr ⟨List.mem_of_getElem? (i := 698) (by decide +kernel), by decide +kernel⟩
theorem mw339 : Cond.selects RX3 yX3_bringUp yX3_bringUp ∈ pm_tbl := List.mem_filter.mpr ⟨List.mem_of_getElem? (i := 699) (by decide +kernel), by decide +kernel⟩
theorem cv_X3_bringUp : pm_cv mX3_bringUp 1 2 := ⟨my_X3_bringUp, mw338, mw339, rfl, TX3, 12, rfl⟩
theorem mw340 : Cond.fieldLink RX11 99 RX4 "bridges" "LBridgeAuction$BridgeRows;" ∈ pm_tbl := List.mem_filter.mpr ⟨List.mem_of_getElem? (i := 291) (by decide +kernel), by decide +kernel⟩
theorem fa_X11_99 : pm_fa RX11 99 3 10 true (.object "BridgeAuction$BridgeRows") := ⟨RX4, TX4, 13, tyX4, rfl, by decide, inX4_t, mw340, tyX4_ok, nmX4, rfl, rfl, rfl⟩
theorem mw341 : Cond.methodLink RX11 103 yX1_changePriority ∈ pm_tbl := List.mem_filter.mpr ⟨List.mem_of_getElem? (i := 701) (by decide +kernel), by decide +kernel⟩
abbrev mX1_changePriority : pm_M := (yX1_changePriority, cX1_changePriority, 4, 2, 42, some .int, [])
theorem mw342 : Cond.code yX1_changePriority cX1_changePriority 4 (some .int) ∈ pm_tbl := List.mem_filter.mpr ⟨List.mem_of_getElem? (i := 704) (by decide +kernel), by decide +kernel⟩
theorem my_X1_changePriority : pm_my mX1_changePriority 2 := ⟨mw342, mw70, by decide +kernel⟩
theorem mw344 : Cond.instanceMethod yX1_changePriority ∈ pm_tbl := List.mem_filter.mpr ⟨List.mem_of_getElem? (i := 702) (by decide +kernel), by decide +kernel⟩
theorem mw345 : Cond.selects RX1 yX1_changePriority yX1_changePriority ∈ pm_tbl := List.mem_filter.mpr ⟨List.mem_of_getElem? (i := 703) (by decide +kernel), by decide +kernel⟩
theorem cv_X1_changePriority : pm_cv mX1_changePriority 2 0 := ⟨my_X1_changePriority, mw344, mw345, rfl, TX1, 8, rfl⟩
theorem mw346 : Cond.methodLink RX11 135 yX1_placeHost ∈ pm_tbl := List.mem_filter.mpr ⟨List.mem_of_getElem? (i := 705) (by decide +kernel), by decide +kernel⟩
abbrev mX1_placeHost : pm_M := (yX1_placeHost, cX1_placeHost, 4, 0, 0, some .int, [])
theorem mw347 : Cond.code yX1_placeHost cX1_placeHost 4 (some .int) ∈ pm_tbl := List.mem_filter.mpr ⟨List.mem_of_getElem? (i := 708) (by decide +kernel), by decide +kernel⟩
theorem my_X1_placeHost : pm_my mX1_placeHost 2 := ⟨mw347, mw70, by decide +kernel⟩
theorem mw349 : Cond.instanceMethod yX1_placeHost ∈ pm_tbl := List.mem_filter.mpr ⟨List.mem_of_getElem? (i := 706) (by decide +kernel), by decide +kernel⟩
theorem mw350 : Cond.selects RX1 yX1_placeHost yX1_placeHost ∈ pm_tbl := List.mem_filter.mpr ⟨List.mem_of_getElem? (i := 707) (by decide +kernel), by decide +kernel⟩
theorem cv_X1_placeHost : pm_cv mX1_placeHost 2 0 := ⟨my_X1_placeHost, mw349, mw350, rfl, TX1, 8, rfl⟩
theorem mw351 : Cond.methodLink RX11 170 yX11_passTicks ∈ pm_tbl := List.mem_filter.mpr ⟨List.mem_of_getElem? (i := 709) (by decide +kernel), by decide +kernel⟩
abbrev mX11_passTicks : pm_M := (yX11_passTicks, cX11_passTicks, 3, 5, 119, none, [])
theorem mw352 : Cond.code yX11_passTicks cX11_passTicks 3 none ∈ pm_tbl := List.mem_filter.mpr ⟨List.mem_of_getElem? (i := 712) (by decide +kernel), by decide +kernel⟩
theorem my_X11_passTicks : pm_my mX11_passTicks 1 := ⟨mw352, mw230, by decide +kernel⟩
theorem mw354 : Cond.instanceMethod yX11_passTicks ∈ pm_tbl := List.mem_filter.mpr ⟨List.mem_of_getElem? (i := 711) (by decide +kernel), by decide +kernel⟩
theorem mw355 : Cond.selects RX11 yX11_passTicks yX11_passTicks ∈ pm_tbl := List.mem_filter.mpr ⟨List.mem_of_getElem? (i := 10) (by decide +kernel), by decide +kernel⟩
theorem cv_X11_passTicks : pm_cv mX11_passTicks 1 10 := ⟨my_X11_passTicks, mw354, mw355, rfl, TX11, 7, rfl⟩
theorem mw356 : Cond.methodLink RX11 108 yX4_faultOfNewLink ∈ pm_tbl := List.mem_filter.mpr ⟨List.mem_of_getElem? (i := 651) (by decide +kernel), by decide +kernel⟩
abbrev mX4_faultOfNewLink : pm_M := (yX4_faultOfNewLink, cX4_faultOfNewLink, 4, 1, 22, some .int, [])
theorem mw357 : Cond.code yX4_faultOfNewLink cX4_faultOfNewLink 4 (some .int) ∈ pm_tbl := List.mem_filter.mpr ⟨List.mem_of_getElem? (i := 654) (by decide +kernel), by decide +kernel⟩
theorem my_X4_faultOfNewLink : pm_my mX4_faultOfNewLink 3 := ⟨mw357, mw5, by decide +kernel⟩
theorem mw359 : Cond.instanceMethod yX4_faultOfNewLink ∈ pm_tbl := List.mem_filter.mpr ⟨List.mem_of_getElem? (i := 652) (by decide +kernel), by decide +kernel⟩
theorem mw360 : Cond.selects RX4 yX4_faultOfNewLink yX4_faultOfNewLink ∈ pm_tbl := List.mem_filter.mpr ⟨List.mem_of_getElem? (i := 653) (by decide +kernel), by decide +kernel⟩
theorem cv_X4_faultOfNewLink : pm_cv mX4_faultOfNewLink 3 3 := ⟨my_X4_faultOfNewLink, mw359, mw360, rfl, TX4, 13, rfl⟩
theorem mw361 : Cond.methodLink RX11 138 yX4_faultOfBid ∈ pm_tbl := List.mem_filter.mpr ⟨List.mem_of_getElem? (i := 658) (by decide +kernel), by decide +kernel⟩
abbrev mX4_faultOfBid : pm_M := (yX4_faultOfBid, cX4_faultOfBid, 4, 1, 22, some .int, [])
theorem mw362 : Cond.code yX4_faultOfBid cX4_faultOfBid 4 (some .int) ∈ pm_tbl := List.mem_filter.mpr ⟨List.mem_of_getElem? (i := 661) (by decide +kernel), by decide +kernel⟩
theorem my_X4_faultOfBid : pm_my mX4_faultOfBid 3 := ⟨mw362, mw5, by decide +kernel⟩
theorem mw364 : Cond.instanceMethod yX4_faultOfBid ∈ pm_tbl := List.mem_filter.mpr ⟨List.mem_of_getElem? (i := 659) (by decide +kernel), by decide +kernel⟩
theorem mw365 : Cond.selects RX4 yX4_faultOfBid yX4_faultOfBid ∈ pm_tbl := List.mem_filter.mpr ⟨List.mem_of_getElem? (i := 660) (by decide +kernel), by decide +kernel⟩
theorem cv_X4_faultOfBid : pm_cv mX4_faultOfBid 3 3 := ⟨my_X4_faultOfBid, mw364, mw365, rfl, TX4, 13, rfl⟩
theorem mw366 : Cond.methodLink RX11 121 yX4_faultOfSwitch ∈ pm_tbl := List.mem_filter.mpr ⟨List.mem_of_getElem? (i := 663) (by decide +kernel), by decide +kernel⟩
abbrev mX4_faultOfSwitch : pm_M := (yX4_faultOfSwitch, cX4_faultOfSwitch, 3, 1, 21, some .int, [])
theorem mw367 : Cond.code yX4_faultOfSwitch cX4_faultOfSwitch 3 (some .int) ∈ pm_tbl := List.mem_filter.mpr ⟨List.mem_of_getElem? (i := 666) (by decide +kernel), by decide +kernel⟩
theorem my_X4_faultOfSwitch : pm_my mX4_faultOfSwitch 2 := ⟨mw367, mw5, by decide +kernel⟩
theorem mw369 : Cond.instanceMethod yX4_faultOfSwitch ∈ pm_tbl := List.mem_filter.mpr ⟨List.mem_of_getElem? (i := 664) (by decide +kernel), by decide +kernel⟩
theorem mw370 : Cond.selects RX4 yX4_faultOfSwitch yX4_faultOfSwitch ∈ pm_tbl := List.mem_filter.mpr ⟨List.mem_of_getElem? (i := 665) (by decide +kernel), by decide +kernel⟩
theorem cv_X4_faultOfSwitch : pm_cv mX4_faultOfSwitch 2 3 := ⟨my_X4_faultOfSwitch, mw369, mw370, rfl, TX4, 13, rfl⟩
theorem mw371 : Cond.methodLink RX11 92 yX4_faultOfPriority ∈ pm_tbl := List.mem_filter.mpr ⟨List.mem_of_getElem? (i := 667) (by decide +kernel), by decide +kernel⟩
abbrev mX4_faultOfPriority : pm_M := (yX4_faultOfPriority, cX4_faultOfPriority, 3, 1, 22, some .int, [])
theorem mw372 : Cond.code yX4_faultOfPriority cX4_faultOfPriority 3 (some .int) ∈ pm_tbl := List.mem_filter.mpr ⟨List.mem_of_getElem? (i := 670) (by decide +kernel), by decide +kernel⟩
theorem my_X4_faultOfPriority : pm_my mX4_faultOfPriority 2 := ⟨mw372, mw5, by decide +kernel⟩
theorem mw374 : Cond.instanceMethod yX4_faultOfPriority ∈ pm_tbl := List.mem_filter.mpr ⟨List.mem_of_getElem? (i := 668) (by decide +kernel), by decide +kernel⟩
theorem mw375 : Cond.selects RX4 yX4_faultOfPriority yX4_faultOfPriority ∈ pm_tbl := List.mem_filter.mpr ⟨List.mem_of_getElem? (i := 669) (by decide +kernel), by decide +kernel⟩
theorem cv_X4_faultOfPriority : pm_cv mX4_faultOfPriority 2 3 := ⟨my_X4_faultOfPriority, mw374, mw375, rfl, TX4, 13, rfl⟩
theorem mw376 : Cond.methodLink RX11 132 yX4_faultOfMove ∈ pm_tbl := List.mem_filter.mpr ⟨List.mem_of_getElem? (i := 671) (by decide +kernel), by decide +kernel⟩
abbrev mX4_faultOfMove : pm_M := (yX4_faultOfMove, cX4_faultOfMove, 4, 1, 22, some .int, [])
theorem mw377 : Cond.code yX4_faultOfMove cX4_faultOfMove 4 (some .int) ∈ pm_tbl := List.mem_filter.mpr ⟨List.mem_of_getElem? (i := 674) (by decide +kernel), by decide +kernel⟩
theorem my_X4_faultOfMove : pm_my mX4_faultOfMove 2 := ⟨mw377, mw5, by decide +kernel⟩
theorem mw379 : Cond.instanceMethod yX4_faultOfMove ∈ pm_tbl := List.mem_filter.mpr ⟨List.mem_of_getElem? (i := 672) (by decide +kernel), by decide +kernel⟩
theorem mw380 : Cond.selects RX4 yX4_faultOfMove yX4_faultOfMove ∈ pm_tbl := List.mem_filter.mpr ⟨List.mem_of_getElem? (i := 673) (by decide +kernel), by decide +kernel⟩
theorem cv_X4_faultOfMove : pm_cv mX4_faultOfMove 2 3 := ⟨my_X4_faultOfMove, mw379, mw380, rfl, TX4, 13, rfl⟩
theorem mw381 : Cond.methodLink RX11 167 yX11_faultOfTicks ∈ pm_tbl := List.mem_filter.mpr ⟨List.mem_of_getElem? (i := 675) (by decide +kernel), by decide +kernel⟩
abbrev mX11_faultOfTicks : pm_M := (yX11_faultOfTicks, cX11_faultOfTicks, 1, 1, 22, some .int, [])
theorem mw382 : Cond.code yX11_faultOfTicks cX11_faultOfTicks 1 (some .int) ∈ pm_tbl := List.mem_filter.mpr ⟨List.mem_of_getElem? (i := 677) (by decide +kernel), by decide +kernel⟩
theorem my_X11_faultOfTicks : pm_my mX11_faultOfTicks 1 := ⟨mw382, mw230, by decide +kernel⟩
theorem mw384 : Cond.static yX11_faultOfTicks ∈ pm_tbl := List.mem_filter.mpr ⟨List.mem_of_getElem? (i := 676) (by decide +kernel), by decide +kernel⟩
theorem cs_X11_faultOfTicks : pm_cs mX11_faultOfTicks 1 := ⟨my_X11_faultOfTicks, mw384, rfl⟩
abbrev mX11_isOutside : pm_M := (yX11_isOutside, cX11_isOutside, 3, 0, 0, some .boolean, [])
theorem mw385 : Cond.code yX11_isOutside cX11_isOutside 3 (some .boolean) ∈ pm_tbl := List.mem_filter.mpr ⟨List.mem_of_getElem? (i := 657) (by decide +kernel), by decide +kernel⟩
theorem my_X11_isOutside : pm_my mX11_isOutside 3 := ⟨mw385, mw230, by decide +kernel⟩
theorem mw387 : Cond.static yX11_isOutside ∈ pm_tbl := List.mem_filter.mpr ⟨List.mem_of_getElem? (i := 656) (by decide +kernel), by decide +kernel⟩
theorem cs_X11_isOutside : pm_cs mX11_isOutside 3 := ⟨my_X11_isOutside, mw387, rfl⟩
theorem mw388 : Cond.methodLink RX4 86 yX3_has ∈ pm_tbl := List.mem_filter.mpr ⟨List.mem_of_getElem? (i := 662) (by decide +kernel), by decide +kernel⟩
theorem mw389 : Cond.fieldLink RX4 90 RX3 "up" "[Z" ∈ pm_tbl := List.mem_filter.mpr ⟨List.mem_of_getElem? (i := 186) (by decide +kernel), by decide +kernel⟩
theorem fa_X4_90 : pm_fa RX4 90 2 5 true (.array .boolean) := ⟨RX3, TX3, 12, tyX3, rfl, by decide, inX3_t, mw389, tyX3_ok, nmX3, rfl, rfl, rfl⟩
theorem mw390 : Cond.methodLink RX11 62 yX11_isOutside ∈ pm_tbl := List.mem_filter.mpr ⟨List.mem_of_getElem? (i := 678) (by decide +kernel), by decide +kernel⟩
theorem mw391 : Cond.methodLink RX3 56 Lib.Math.min.name ∈ pm_tbl := List.mem_filter.mpr ⟨List.mem_of_getElem? (i := 683) (by decide +kernel), by decide +kernel⟩
theorem mw392 : Cond.static Lib.Math.min.name ∈ pm_tbl := List.mem_filter.mpr ⟨List.mem_of_getElem? (i := 684) (by decide +kernel), by decide +kernel⟩
theorem mw393 : Cond.initialized RJ9 ∈ pm_tbl := List.mem_filter.mpr ⟨List.mem_of_getElem? (i := 94) (by decide +kernel), by decide +kernel⟩
theorem mw394 : Cond.code Lib.Math.min.name Lib.Math.min.code 2 (some .int) ∈ pm_tbl := List.mem_filter.mpr ⟨List.mem_of_getElem? (i := 685) (by decide +kernel), by decide +kernel⟩
theorem mw395 : Cond.methodLink RX3 62 Lib.Math.max.name ∈ pm_tbl := List.mem_filter.mpr ⟨List.mem_of_getElem? (i := 686) (by decide +kernel), by decide +kernel⟩
theorem mw396 : Cond.static Lib.Math.max.name ∈ pm_tbl := List.mem_filter.mpr ⟨List.mem_of_getElem? (i := 687) (by decide +kernel), by decide +kernel⟩
theorem mw397 : Cond.code Lib.Math.max.name Lib.Math.max.code 2 (some .int) ∈ pm_tbl := List.mem_filter.mpr ⟨List.mem_of_getElem? (i := 688) (by decide +kernel), by decide +kernel⟩
theorem mw398 : Cond.fieldLink RX4 94 RX3 "winner" "[I" ∈ pm_tbl := List.mem_filter.mpr ⟨List.mem_of_getElem? (i := 189) (by decide +kernel), by decide +kernel⟩
theorem fa_X4_94 : pm_fa RX4 94 2 6 true (.array .int) := ⟨RX3, TX3, 12, tyX3, rfl, by decide, inX3_t, mw398, tyX3_ok, nmX3, rfl, rfl, rfl⟩
theorem mw399 : Cond.fieldLink RX4 98 RX3 "price" "[I" ∈ pm_tbl := List.mem_filter.mpr ⟨List.mem_of_getElem? (i := 192) (by decide +kernel), by decide +kernel⟩
theorem fa_X4_98 : pm_fa RX4 98 2 7 true (.array .int) := ⟨RX3, TX3, 12, tyX3, rfl, by decide, inX3_t, mw399, tyX3_ok, nmX3, rfl, rfl, rfl⟩
theorem mw400 : Cond.fieldLink RX4 101 RX8 "credits" "[I" ∈ pm_tbl := List.mem_filter.mpr ⟨List.mem_of_getElem? (i := 238) (by decide +kernel), by decide +kernel⟩
theorem fa_X4_101 : pm_fa RX4 101 7 0 true (.array .int) := ⟨RX8, TX8, 4, tyX8, rfl, by decide, inX8_t, mw400, tyX8_ok, nmX8, rfl, rfl, rfl⟩
theorem mw401 : Cond.fieldLink RX4 104 RX8 "refunded" "[I" ∈ pm_tbl := List.mem_filter.mpr ⟨List.mem_of_getElem? (i := 244) (by decide +kernel), by decide +kernel⟩
theorem fa_X4_104 : pm_fa RX4 104 7 2 true (.array .int) := ⟨RX8, TX8, 4, tyX8, rfl, by decide, inX8_t, mw401, tyX8_ok, nmX8, rfl, rfl, rfl⟩
theorem mw402 : Cond.methodLink RX11 331 yX4_isAuctionDue ∈ pm_tbl := List.mem_filter.mpr ⟨List.mem_of_getElem? (i := 713) (by decide +kernel), by decide +kernel⟩
abbrev mX4_isAuctionDue : pm_M := (yX4_isAuctionDue, cX4_isAuctionDue, 1, 0, 0, some .boolean, [])
theorem mw403 : Cond.code yX4_isAuctionDue cX4_isAuctionDue 1 (some .boolean) ∈ pm_tbl := List.mem_filter.mpr ⟨List.mem_of_getElem? (i := 716) (by decide +kernel), by decide +kernel⟩
theorem my_X4_isAuctionDue : pm_my mX4_isAuctionDue 0 := ⟨mw403, mw5, by decide +kernel⟩
theorem mw405 : Cond.instanceMethod yX4_isAuctionDue ∈ pm_tbl := List.mem_filter.mpr ⟨List.mem_of_getElem? (i := 714) (by decide +kernel), by decide +kernel⟩
theorem mw406 : Cond.selects RX4 yX4_isAuctionDue yX4_isAuctionDue ∈ pm_tbl := List.mem_filter.mpr ⟨List.mem_of_getElem? (i := 715) (by decide +kernel), by decide +kernel⟩
theorem cv_X4_isAuctionDue : pm_cv mX4_isAuctionDue 0 3 := ⟨my_X4_isAuctionDue, mw405, mw406, rfl, TX4, 13, rfl⟩
theorem mw407 : Cond.methodLink RX11 334 yX0_hold ∈ pm_tbl := List.mem_filter.mpr ⟨List.mem_of_getElem? (i := 717) (by decide +kernel), by decide +kernel⟩
abbrev mX0_hold : pm_M := (yX0_hold, cX0_hold, 2, 2, 50, none, [])
theorem mw408 : Cond.code yX0_hold cX0_hold 2 none ∈ pm_tbl := List.mem_filter.mpr ⟨List.mem_of_getElem? (i := 719) (by decide +kernel), by decide +kernel⟩
theorem mw409 : Cond.initialized RX0 ∈ pm_tbl := List.mem_filter.mpr ⟨List.mem_of_getElem? (i := 95) (by decide +kernel), by decide +kernel⟩
theorem my_X0_hold : pm_my mX0_hold 1 := ⟨mw408, mw409, by decide +kernel⟩
theorem mw411 : Cond.static yX0_hold ∈ pm_tbl := List.mem_filter.mpr ⟨List.mem_of_getElem? (i := 718) (by decide +kernel), by decide +kernel⟩
theorem cs_X0_hold : pm_cs mX0_hold 1 := ⟨my_X0_hold, mw411, rfl⟩
theorem mw412 : Cond.methodLink RX11 339 yX10_renew ∈ pm_tbl := List.mem_filter.mpr ⟨List.mem_of_getElem? (i := 733) (by decide +kernel), by decide +kernel⟩
abbrev mX10_renew : pm_M := (yX10_renew, cX10_renew, 5, 2, 51, none, [])
theorem mw413 : Cond.code yX10_renew cX10_renew 5 none ∈ pm_tbl := List.mem_filter.mpr ⟨List.mem_of_getElem? (i := 736) (by decide +kernel), by decide +kernel⟩
theorem my_X10_renew : pm_my mX10_renew 1 := ⟨mw413, mw34, by decide +kernel⟩
theorem mw415 : Cond.instanceMethod yX10_renew ∈ pm_tbl := List.mem_filter.mpr ⟨List.mem_of_getElem? (i := 734) (by decide +kernel), by decide +kernel⟩
theorem mw416 : Cond.selects RX10 yX10_renew yX10_renew ∈ pm_tbl := List.mem_filter.mpr ⟨List.mem_of_getElem? (i := 735) (by decide +kernel), by decide +kernel⟩
theorem cv_X10_renew : pm_cv mX10_renew 1 9 := ⟨my_X10_renew, mw415, mw416, rfl, TX10, 5, rfl⟩
theorem mw417 : Cond.methodLink RX11 342 yX6_renew ∈ pm_tbl := List.mem_filter.mpr ⟨List.mem_of_getElem? (i := 747) (by decide +kernel), by decide +kernel⟩
abbrev mX6_renew : pm_M := (yX6_renew, cX6_renew, 6, 4, 94, some .boolean, [])
theorem mw418 : Cond.code yX6_renew cX6_renew 6 (some .boolean) ∈ pm_tbl := List.mem_filter.mpr ⟨List.mem_of_getElem? (i := 750) (by decide +kernel), by decide +kernel⟩
theorem my_X6_renew : pm_my mX6_renew 1 := ⟨mw418, mw42, by decide +kernel⟩
theorem mw420 : Cond.instanceMethod yX6_renew ∈ pm_tbl := List.mem_filter.mpr ⟨List.mem_of_getElem? (i := 748) (by decide +kernel), by decide +kernel⟩
theorem mw421 : Cond.selects RX6 yX6_renew yX6_renew ∈ pm_tbl := List.mem_filter.mpr ⟨List.mem_of_getElem? (i := 749) (by decide +kernel), by decide +kernel⟩
theorem cv_X6_renew : pm_cv mX6_renew 1 5 := ⟨my_X6_renew, mw420, mw421, rfl, TX6, 1, rfl⟩
theorem mw422 : Cond.methodLink RX11 344 yX6_flushTables ∈ pm_tbl := List.mem_filter.mpr ⟨List.mem_of_getElem? (i := 765) (by decide +kernel), by decide +kernel⟩
abbrev mX6_flushTables : pm_M := (yX6_flushTables, cX6_flushTables, 5, 2, 46, none, [])
theorem mw423 : Cond.code yX6_flushTables cX6_flushTables 5 none ∈ pm_tbl := List.mem_filter.mpr ⟨List.mem_of_getElem? (i := 768) (by decide +kernel), by decide +kernel⟩
theorem my_X6_flushTables : pm_my mX6_flushTables 2 := ⟨mw423, mw42, by decide +kernel⟩
theorem mw425 : Cond.instanceMethod yX6_flushTables ∈ pm_tbl := List.mem_filter.mpr ⟨List.mem_of_getElem? (i := 766) (by decide +kernel), by decide +kernel⟩
theorem mw426 : Cond.selects RX6 yX6_flushTables yX6_flushTables ∈ pm_tbl := List.mem_filter.mpr ⟨List.mem_of_getElem? (i := 767) (by decide +kernel), by decide +kernel⟩
theorem cv_X6_flushTables : pm_cv mX6_flushTables 2 5 := ⟨my_X6_flushTables, mw425, mw426, rfl, TX6, 1, rfl⟩
theorem mw427 : Cond.fieldLink RX0 9 RX4 "auctions" "I" ∈ pm_tbl := List.mem_filter.mpr ⟨List.mem_of_getElem? (i := 272) (by decide +kernel), by decide +kernel⟩
theorem fa_X0_9 : pm_fa RX0 9 3 5 false .int := ⟨RX4, TX4, 13, tyX4, rfl, by decide, inX4_t, mw427, tyX4_ok, nmX4, rfl, rfl, rfl⟩
theorem mw428 : Cond.fieldLink RX0 15 RX4 "tenants" "LBridgeAuction$TenantRows;" ∈ pm_tbl := List.mem_filter.mpr ⟨List.mem_of_getElem? (i := 300) (by decide +kernel), by decide +kernel⟩
theorem fa_X0_15 : pm_fa RX0 15 3 12 true (.object "BridgeAuction$TenantRows") := ⟨RX4, TX4, 13, tyX4, rfl, by decide, inX4_t, mw428, tyX4_ok, nmX4, rfl, rfl, rfl⟩
theorem mw429 : Cond.fieldLink RX0 19 RX8 "credits" "[I" ∈ pm_tbl := List.mem_filter.mpr ⟨List.mem_of_getElem? (i := 237) (by decide +kernel), by decide +kernel⟩
theorem fa_X0_19 : pm_fa RX0 19 7 0 true (.array .int) := ⟨RX8, TX8, 4, tyX8, rfl, by decide, inX8_t, mw429, tyX8_ok, nmX8, rfl, rfl, rfl⟩
theorem mw430 : Cond.fieldLink RX0 25 RX4 "links" "LBridgeAuction$LinkRows;" ∈ pm_tbl := List.mem_filter.mpr ⟨List.mem_of_getElem? (i := 295) (by decide +kernel), by decide +kernel⟩
theorem fa_X0_25 : pm_fa RX0 25 3 11 true (.object "BridgeAuction$LinkRows") := ⟨RX4, TX4, 13, tyX4, rfl, by decide, inX4_t, mw430, tyX4_ok, nmX4, rfl, rfl, rfl⟩
theorem mw431 : Cond.fieldLink RX0 29 RX3 "total" "I" ∈ pm_tbl := List.mem_filter.mpr ⟨List.mem_of_getElem? (i := 165) (by decide +kernel), by decide +kernel⟩
theorem fa_X0_29 : pm_fa RX0 29 2 0 false .int := ⟨RX3, TX3, 12, tyX3, rfl, by decide, inX3_t, mw431, tyX3_ok, nmX3, rfl, rfl, rfl⟩
theorem mw432 : Cond.methodLink RX0 34 yX0_sell ∈ pm_tbl := List.mem_filter.mpr ⟨List.mem_of_getElem? (i := 720) (by decide +kernel), by decide +kernel⟩
abbrev mX0_sell : pm_M := (yX0_sell, cX0_sell, 8, 1, 23, none, [])
theorem mw433 : Cond.code yX0_sell cX0_sell 8 none ∈ pm_tbl := List.mem_filter.mpr ⟨List.mem_of_getElem? (i := 722) (by decide +kernel), by decide +kernel⟩
theorem my_X0_sell : pm_my mX0_sell 3 := ⟨mw433, mw409, by decide +kernel⟩
theorem mw435 : Cond.static yX0_sell ∈ pm_tbl := List.mem_filter.mpr ⟨List.mem_of_getElem? (i := 721) (by decide +kernel), by decide +kernel⟩
theorem cs_X0_sell : pm_cs mX0_sell 3 := ⟨my_X0_sell, mw435, rfl⟩
theorem mw436 : Cond.fieldLink RX0 40 RX4 "hysteresis" "I" ∈ pm_tbl := List.mem_filter.mpr ⟨List.mem_of_getElem? (i := 270) (by decide +kernel), by decide +kernel⟩
theorem fa_X0_40 : pm_fa RX0 40 3 4 false .int := ⟨RX4, TX4, 13, tyX4, rfl, by decide, inX4_t, mw436, tyX4_ok, nmX4, rfl, rfl, rfl⟩
theorem mw437 : Cond.methodLink RX0 43 yX0_adjustCost ∈ pm_tbl := List.mem_filter.mpr ⟨List.mem_of_getElem? (i := 727) (by decide +kernel), by decide +kernel⟩
abbrev mX0_adjustCost : pm_M := (yX0_adjustCost, cX0_adjustCost, 5, 1, 21, none, [])
theorem mw438 : Cond.code yX0_adjustCost cX0_adjustCost 5 none ∈ pm_tbl := List.mem_filter.mpr ⟨List.mem_of_getElem? (i := 729) (by decide +kernel), by decide +kernel⟩
theorem my_X0_adjustCost : pm_my mX0_adjustCost 3 := ⟨mw438, mw409, by decide +kernel⟩
theorem mw440 : Cond.static yX0_adjustCost ∈ pm_tbl := List.mem_filter.mpr ⟨List.mem_of_getElem? (i := 728) (by decide +kernel), by decide +kernel⟩
theorem cs_X0_adjustCost : pm_cs mX0_adjustCost 3 := ⟨my_X0_adjustCost, mw440, rfl⟩
theorem mw441 : Cond.fieldLink RX0 47 RX3 "winner" "[I" ∈ pm_tbl := List.mem_filter.mpr ⟨List.mem_of_getElem? (i := 188) (by decide +kernel), by decide +kernel⟩
theorem fa_X0_47 : pm_fa RX0 47 2 6 true (.array .int) := ⟨RX3, TX3, 12, tyX3, rfl, by decide, inX3_t, mw441, tyX3_ok, nmX3, rfl, rfl, rfl⟩
theorem mw442 : Cond.fieldLink RX0 50 RX3 "price" "[I" ∈ pm_tbl := List.mem_filter.mpr ⟨List.mem_of_getElem? (i := 191) (by decide +kernel), by decide +kernel⟩
theorem fa_X0_50 : pm_fa RX0 50 2 7 true (.array .int) := ⟨RX3, TX3, 12, tyX3, rfl, by decide, inX3_t, mw442, tyX3_ok, nmX3, rfl, rfl, rfl⟩
theorem mw443 : Cond.fieldLink RX0 53 RX3 "up" "[Z" ∈ pm_tbl := List.mem_filter.mpr ⟨List.mem_of_getElem? (i := 184) (by decide +kernel), by decide +kernel⟩
theorem fa_X0_53 : pm_fa RX0 53 2 5 true (.array .boolean) := ⟨RX3, TX3, 12, tyX3, rfl, by decide, inX3_t, mw443, tyX3_ok, nmX3, rfl, rfl, rfl⟩
theorem mw444 : Cond.methodLink RX0 57 yX8_countingBid ∈ pm_tbl := List.mem_filter.mpr ⟨List.mem_of_getElem? (i := 723) (by decide +kernel), by decide +kernel⟩
abbrev mX8_countingBid : pm_M := (yX8_countingBid, cX8_countingBid, 4, 0, 0, some .int, [])
theorem mw445 : Cond.code yX8_countingBid cX8_countingBid 4 (some .int) ∈ pm_tbl := List.mem_filter.mpr ⟨List.mem_of_getElem? (i := 726) (by decide +kernel), by decide +kernel⟩
theorem my_X8_countingBid : pm_my mX8_countingBid 2 := ⟨mw445, mw86, by decide +kernel⟩
theorem mw447 : Cond.instanceMethod yX8_countingBid ∈ pm_tbl := List.mem_filter.mpr ⟨List.mem_of_getElem? (i := 724) (by decide +kernel), by decide +kernel⟩
theorem mw448 : Cond.selects RX8 yX8_countingBid yX8_countingBid ∈ pm_tbl := List.mem_filter.mpr ⟨List.mem_of_getElem? (i := 725) (by decide +kernel), by decide +kernel⟩
theorem cv_X8_countingBid : pm_cv mX8_countingBid 2 7 := ⟨my_X8_countingBid, mw447, mw448, rfl, TX8, 4, rfl⟩
theorem mw449 : Cond.fieldLink RX0 61 RX8 "paid" "[I" ∈ pm_tbl := List.mem_filter.mpr ⟨List.mem_of_getElem? (i := 241) (by decide +kernel), by decide +kernel⟩
theorem fa_X0_61 : pm_fa RX0 61 7 1 true (.array .int) := ⟨RX8, TX8, 4, tyX8, rfl, by decide, inX8_t, mw449, tyX8_ok, nmX8, rfl, rfl, rfl⟩
theorem mw450 : Cond.fieldLink RX0 64 RX3 "base" "[I" ∈ pm_tbl := List.mem_filter.mpr ⟨List.mem_of_getElem? (i := 178) (by decide +kernel), by decide +kernel⟩
theorem fa_X0_64 : pm_fa RX0 64 2 3 true (.array .int) := ⟨RX3, TX3, 12, tyX3, rfl, by decide, inX3_t, mw450, tyX3_ok, nmX3, rfl, rfl, rfl⟩
theorem mw451 : Cond.fieldLink RX0 67 RX3 "cost" "[I" ∈ pm_tbl := List.mem_filter.mpr ⟨List.mem_of_getElem? (i := 181) (by decide +kernel), by decide +kernel⟩
theorem fa_X0_67 : pm_fa RX0 67 2 4 true (.array .int) := ⟨RX3, TX3, 12, tyX3, rfl, by decide, inX3_t, mw451, tyX3_ok, nmX3, rfl, rfl, rfl⟩
theorem mw452 : Cond.methodLink RX0 70 Lib.Math.abs.name ∈ pm_tbl := List.mem_filter.mpr ⟨List.mem_of_getElem? (i := 730) (by decide +kernel), by decide +kernel⟩
theorem mw453 : Cond.static Lib.Math.abs.name ∈ pm_tbl := List.mem_filter.mpr ⟨List.mem_of_getElem? (i := 731) (by decide +kernel), by decide +kernel⟩
theorem mw454 : Cond.code Lib.Math.abs.name Lib.Math.abs.code 1 (some .int) ∈ pm_tbl := List.mem_filter.mpr ⟨List.mem_of_getElem? (i := 732) (by decide +kernel), by decide +kernel⟩
theorem mw455 : Cond.fieldLink RX0 76 RX3 "differed" "[I" ∈ pm_tbl := List.mem_filter.mpr ⟨List.mem_of_getElem? (i := 194) (by decide +kernel), by decide +kernel⟩
theorem fa_X0_76 : pm_fa RX0 76 2 8 true (.array .int) := ⟨RX3, TX3, 12, tyX3, rfl, by decide, inX3_t, mw455, tyX3_ok, nmX3, rfl, rfl, rfl⟩
theorem mw456 : Cond.fieldLink RX10 27 RX4 "size" "I" ∈ pm_tbl := List.mem_filter.mpr ⟨List.mem_of_getElem? (i := 258) (by decide +kernel), by decide +kernel⟩
theorem fa_X10_27 : pm_fa RX10 27 3 0 false .int := ⟨RX4, TX4, 13, tyX4, rfl, by decide, inX4_t, mw456, tyX4_ok, nmX4, rfl, rfl, rfl⟩
theorem mw457 : Cond.fieldLink RX10 33 RX4 "bridges" "LBridgeAuction$BridgeRows;" ∈ pm_tbl := List.mem_filter.mpr ⟨List.mem_of_getElem? (i := 288) (by decide +kernel), by decide +kernel⟩
theorem fa_X10_33 : pm_fa RX10 33 3 10 true (.object "BridgeAuction$BridgeRows") := ⟨RX4, TX4, 13, tyX4, rfl, by decide, inX4_t, mw457, tyX4_ok, nmX4, rfl, rfl, rfl⟩
theorem mw458 : Cond.methodLink RX10 37 yX1_idOf ∈ pm_tbl := List.mem_filter.mpr ⟨List.mem_of_getElem? (i := 737) (by decide +kernel), by decide +kernel⟩
theorem mw459 : Cond.fieldLink RX10 43 RX4 "links" "LBridgeAuction$LinkRows;" ∈ pm_tbl := List.mem_filter.mpr ⟨List.mem_of_getElem? (i := 296) (by decide +kernel), by decide +kernel⟩
theorem fa_X10_43 : pm_fa RX10 43 3 11 true (.object "BridgeAuction$LinkRows") := ⟨RX4, TX4, 13, tyX4, rfl, by decide, inX4_t, mw459, tyX4_ok, nmX4, rfl, rfl, rfl⟩
theorem mw460 : Cond.fieldLink RX10 47 RX3 "total" "I" ∈ pm_tbl := List.mem_filter.mpr ⟨List.mem_of_getElem? (i := 166) (by decide +kernel), by decide +kernel⟩
theorem fa_X10_47 : pm_fa RX10 47 2 0 false .int := ⟨RX3, TX3, 12, tyX3, rfl, by decide, inX3_t, mw460, tyX3_ok, nmX3, rfl, rfl, rfl⟩
theorem mw461 : Cond.fieldLink RX10 52 RX3 "up" "[Z" ∈ pm_tbl := List.mem_filter.mpr ⟨List.mem_of_getElem? (i := 183) (by decide +kernel), by decide +kernel⟩
theorem fa_X10_52 : pm_fa RX10 52 2 5 true (.array .boolean) := ⟨RX3, TX3, 12, tyX3, rfl, by decide, inX3_t, mw461, tyX3_ok, nmX3, rfl, rfl, rfl⟩
theorem mw462 : Cond.fieldLink RX10 56 RX3 "low" "[I" ∈ pm_tbl := List.mem_filter.mpr ⟨List.mem_of_getElem? (i := 172) (by decide +kernel), by decide +kernel⟩
theorem fa_X10_56 : pm_fa RX10 56 2 1 true (.array .int) := ⟨RX3, TX3, 12, tyX3, rfl, by decide, inX3_t, mw462, tyX3_ok, nmX3, rfl, rfl, rfl⟩
theorem mw463 : Cond.fieldLink RX10 59 RX3 "high" "[I" ∈ pm_tbl := List.mem_filter.mpr ⟨List.mem_of_getElem? (i := 176) (by decide +kernel), by decide +kernel⟩
theorem fa_X10_59 : pm_fa RX10 59 2 2 true (.array .int) := ⟨RX3, TX3, 12, tyX3, rfl, by decide, inX3_t, mw463, tyX3_ok, nmX3, rfl, rfl, rfl⟩
theorem mw464 : Cond.methodLink RX10 62 yX10_consider ∈ pm_tbl := List.mem_filter.mpr ⟨List.mem_of_getElem? (i := 738) (by decide +kernel), by decide +kernel⟩
abbrev mX10_consider : pm_M := (yX10_consider, cX10_consider, 8, 1, 24, none, [])
theorem mw465 : Cond.code yX10_consider cX10_consider 8 none ∈ pm_tbl := List.mem_filter.mpr ⟨List.mem_of_getElem? (i := 741) (by decide +kernel), by decide +kernel⟩
theorem my_X10_consider : pm_my mX10_consider 4 := ⟨mw465, mw34, by decide +kernel⟩
theorem mw467 : Cond.instanceMethod yX10_consider ∈ pm_tbl := List.mem_filter.mpr ⟨List.mem_of_getElem? (i := 740) (by decide +kernel), by decide +kernel⟩
theorem mw468 : Cond.selects RX10 yX10_consider yX10_consider ∈ pm_tbl := List.mem_filter.mpr ⟨List.mem_of_getElem? (i := 11) (by decide +kernel), by decide +kernel⟩
theorem cv_X10_consider : pm_cv mX10_consider 4 9 := ⟨my_X10_consider, mw467, mw468, rfl, TX10, 5, rfl⟩
theorem mw469 : Cond.fieldLink RX10 66 RX1 "root" "[I" ∈ pm_tbl := List.mem_filter.mpr ⟨List.mem_of_getElem? (i := 122) (by decide +kernel), by decide +kernel⟩
theorem fa_X10_66 : pm_fa RX10 66 0 1 true (.array .int) := ⟨RX1, TX1, 8, tyX1, rfl, by decide, inX1_t, mw469, tyX1_ok, nmX1, rfl, rfl, rfl⟩
theorem mw470 : Cond.methodLink RX10 67 arraycopyName ∈ pm_tbl := List.mem_filter.mpr ⟨List.mem_of_getElem? (i := 746) (by decide +kernel), by decide +kernel⟩
theorem mw471 : Cond.fieldLink RX10 73 RX1 "cost" "[I" ∈ pm_tbl := List.mem_filter.mpr ⟨List.mem_of_getElem? (i := 125) (by decide +kernel), by decide +kernel⟩
theorem fa_X10_73 : pm_fa RX10 73 0 2 true (.array .int) := ⟨RX1, TX1, 8, tyX1, rfl, by decide, inX1_t, mw471, tyX1_ok, nmX1, rfl, rfl, rfl⟩
theorem mw472 : Cond.fieldLink RX10 74 RX1 "age" "[I" ∈ pm_tbl := List.mem_filter.mpr ⟨List.mem_of_getElem? (i := 128) (by decide +kernel), by decide +kernel⟩
theorem fa_X10_74 : pm_fa RX10 74 0 3 true (.array .int) := ⟨RX1, TX1, 8, tyX1, rfl, by decide, inX1_t, mw472, tyX1_ok, nmX1, rfl, rfl, rfl⟩
theorem mw473 : Cond.fieldLink RX10 75 RX1 "rootLink" "[I" ∈ pm_tbl := List.mem_filter.mpr ⟨List.mem_of_getElem? (i := 130) (by decide +kernel), by decide +kernel⟩
theorem fa_X10_75 : pm_fa RX10 75 0 4 true (.array .int) := ⟨RX1, TX1, 8, tyX1, rfl, by decide, inX1_t, mw473, tyX1_ok, nmX1, rfl, rfl, rfl⟩
theorem mw474 : Cond.fieldLink RX10 76 RX3 "cost" "[I" ∈ pm_tbl := List.mem_filter.mpr ⟨List.mem_of_getElem? (i := 180) (by decide +kernel), by decide +kernel⟩
theorem fa_X10_76 : pm_fa RX10 76 2 4 true (.array .int) := ⟨RX3, TX3, 12, tyX3, rfl, by decide, inX3_t, mw474, tyX3_ok, nmX3, rfl, rfl, rfl⟩
theorem mw475 : Cond.methodLink RX10 77 yX10_isBetter ∈ pm_tbl := List.mem_filter.mpr ⟨List.mem_of_getElem? (i := 742) (by decide +kernel), by decide +kernel⟩
abbrev mX10_isBetter : pm_M := (yX10_isBetter, cX10_isBetter, 5, 0, 0, some .boolean, [])
theorem mw476 : Cond.code yX10_isBetter cX10_isBetter 5 (some .boolean) ∈ pm_tbl := List.mem_filter.mpr ⟨List.mem_of_getElem? (i := 745) (by decide +kernel), by decide +kernel⟩
theorem my_X10_isBetter : pm_my mX10_isBetter 4 := ⟨mw476, mw34, by decide +kernel⟩
theorem mw478 : Cond.instanceMethod yX10_isBetter ∈ pm_tbl := List.mem_filter.mpr ⟨List.mem_of_getElem? (i := 744) (by decide +kernel), by decide +kernel⟩
theorem mw479 : Cond.selects RX10 yX10_isBetter yX10_isBetter ∈ pm_tbl := List.mem_filter.mpr ⟨List.mem_of_getElem? (i := 12) (by decide +kernel), by decide +kernel⟩
theorem cv_X10_isBetter : pm_cv mX10_isBetter 4 9 := ⟨my_X10_isBetter, mw478, mw479, rfl, TX10, 5, rfl⟩
theorem mw480 : Cond.fieldLink RX6 15 RX4 "changes" "I" ∈ pm_tbl := List.mem_filter.mpr ⟨List.mem_of_getElem? (i := 275) (by decide +kernel), by decide +kernel⟩
theorem fa_X6_15 : pm_fa RX6 15 3 6 false .int := ⟨RX4, TX4, 13, tyX4, rfl, by decide, inX4_t, mw480, tyX4_ok, nmX4, rfl, rfl, rfl⟩
theorem mw481 : Cond.fieldLink RX6 21 RX4 "links" "LBridgeAuction$LinkRows;" ∈ pm_tbl := List.mem_filter.mpr ⟨List.mem_of_getElem? (i := 294) (by decide +kernel), by decide +kernel⟩
theorem fa_X6_21 : pm_fa RX6 21 3 11 true (.object "BridgeAuction$LinkRows") := ⟨RX4, TX4, 13, tyX4, rfl, by decide, inX4_t, mw481, tyX4_ok, nmX4, rfl, rfl, rfl⟩
theorem mw482 : Cond.fieldLink RX6 25 RX3 "total" "I" ∈ pm_tbl := List.mem_filter.mpr ⟨List.mem_of_getElem? (i := 163) (by decide +kernel), by decide +kernel⟩
theorem fa_X6_25 : pm_fa RX6 25 2 0 false .int := ⟨RX3, TX3, 12, tyX3, rfl, by decide, inX3_t, mw482, tyX3_ok, nmX3, rfl, rfl, rfl⟩
theorem mw483 : Cond.fieldLink RX6 30 RX3 "low" "[I" ∈ pm_tbl := List.mem_filter.mpr ⟨List.mem_of_getElem? (i := 170) (by decide +kernel), by decide +kernel⟩
theorem fa_X6_30 : pm_fa RX6 30 2 1 true (.array .int) := ⟨RX3, TX3, 12, tyX3, rfl, by decide, inX3_t, mw483, tyX3_ok, nmX3, rfl, rfl, rfl⟩
theorem mw484 : Cond.fieldLink RX6 34 RX3 "high" "[I" ∈ pm_tbl := List.mem_filter.mpr ⟨List.mem_of_getElem? (i := 174) (by decide +kernel), by decide +kernel⟩
theorem fa_X6_34 : pm_fa RX6 34 2 2 true (.array .int) := ⟨RX3, TX3, 12, tyX3, rfl, by decide, inX3_t, mw484, tyX3_ok, nmX3, rfl, rfl, rfl⟩
theorem mw485 : Cond.methodLink RX6 37 yX6_renewPort ∈ pm_tbl := List.mem_filter.mpr ⟨List.mem_of_getElem? (i := 751) (by decide +kernel), by decide +kernel⟩
abbrev mX6_renewPort : pm_M := (yX6_renewPort, cX6_renewPort, 8, 3, 67, none, [])
theorem mw486 : Cond.code yX6_renewPort cX6_renewPort 8 none ∈ pm_tbl := List.mem_filter.mpr ⟨List.mem_of_getElem? (i := 754) (by decide +kernel), by decide +kernel⟩
theorem my_X6_renewPort : pm_my mX6_renewPort 4 := ⟨mw486, mw42, by decide +kernel⟩
theorem mw488 : Cond.instanceMethod yX6_renewPort ∈ pm_tbl := List.mem_filter.mpr ⟨List.mem_of_getElem? (i := 753) (by decide +kernel), by decide +kernel⟩
theorem mw489 : Cond.selects RX6 yX6_renewPort yX6_renewPort ∈ pm_tbl := List.mem_filter.mpr ⟨List.mem_of_getElem? (i := 13) (by decide +kernel), by decide +kernel⟩
theorem cv_X6_renewPort : pm_cv mX6_renewPort 4 5 := ⟨my_X6_renewPort, mw488, mw489, rfl, TX6, 1, rfl⟩
theorem mw490 : Cond.fieldLink RX6 41 RX3 "state" "[I" ∈ pm_tbl := List.mem_filter.mpr ⟨List.mem_of_getElem? (i := 199) (by decide +kernel), by decide +kernel⟩
theorem fa_X6_41 : pm_fa RX6 41 2 10 true (.array .int) := ⟨RX3, TX3, 12, tyX3, rfl, by decide, inX3_t, mw490, tyX3_ok, nmX3, rfl, rfl, rfl⟩
theorem mw491 : Cond.fieldLink RX6 44 RX3 "role" "[I" ∈ pm_tbl := List.mem_filter.mpr ⟨List.mem_of_getElem? (i := 196) (by decide +kernel), by decide +kernel⟩
theorem fa_X6_44 : pm_fa RX6 44 2 9 true (.array .int) := ⟨RX3, TX3, 12, tyX3, rfl, by decide, inX3_t, mw491, tyX3_ok, nmX3, rfl, rfl, rfl⟩
theorem mw492 : Cond.fieldLink RX6 47 RX4 "bridges" "LBridgeAuction$BridgeRows;" ∈ pm_tbl := List.mem_filter.mpr ⟨List.mem_of_getElem? (i := 290) (by decide +kernel), by decide +kernel⟩
theorem fa_X6_47 : pm_fa RX6 47 3 10 true (.object "BridgeAuction$BridgeRows") := ⟨RX4, TX4, 13, tyX4, rfl, by decide, inX4_t, mw492, tyX4_ok, nmX4, rfl, rfl, rfl⟩
theorem mw493 : Cond.methodLink RX6 51 yX6_roleOf ∈ pm_tbl := List.mem_filter.mpr ⟨List.mem_of_getElem? (i := 755) (by decide +kernel), by decide +kernel⟩
abbrev mX6_roleOf : pm_M := (yX6_roleOf, cX6_roleOf, 5, 2, 43, some .int, [])
theorem mw494 : Cond.code yX6_roleOf cX6_roleOf 5 (some .int) ∈ pm_tbl := List.mem_filter.mpr ⟨List.mem_of_getElem? (i := 757) (by decide +kernel), by decide +kernel⟩
theorem my_X6_roleOf : pm_my mX6_roleOf 5 := ⟨mw494, mw42, by decide +kernel⟩
theorem mw496 : Cond.static yX6_roleOf ∈ pm_tbl := List.mem_filter.mpr ⟨List.mem_of_getElem? (i := 756) (by decide +kernel), by decide +kernel⟩
theorem cs_X6_roleOf : pm_cs mX6_roleOf 5 := ⟨my_X6_roleOf, mw496, rfl⟩
theorem mw497 : Cond.fieldLink RX6 55 RX4 "delay" "I" ∈ pm_tbl := List.mem_filter.mpr ⟨List.mem_of_getElem? (i := 266) (by decide +kernel), by decide +kernel⟩
theorem fa_X6_55 : pm_fa RX6 55 3 2 false .int := ⟨RX4, TX4, 13, tyX4, rfl, by decide, inX4_t, mw497, tyX4_ok, nmX4, rfl, rfl, rfl⟩
theorem mw498 : Cond.methodLink RX6 58 yX6_moveState ∈ pm_tbl := List.mem_filter.mpr ⟨List.mem_of_getElem? (i := 762) (by decide +kernel), by decide +kernel⟩
abbrev mX6_moveState : pm_M := (yX6_moveState, cX6_moveState, 3, 0, 0, none, [])
theorem mw499 : Cond.code yX6_moveState cX6_moveState 3 none ∈ pm_tbl := List.mem_filter.mpr ⟨List.mem_of_getElem? (i := 764) (by decide +kernel), by decide +kernel⟩
theorem my_X6_moveState : pm_my mX6_moveState 3 := ⟨mw499, mw42, by decide +kernel⟩
theorem mw501 : Cond.static yX6_moveState ∈ pm_tbl := List.mem_filter.mpr ⟨List.mem_of_getElem? (i := 763) (by decide +kernel), by decide +kernel⟩
theorem cs_X6_moveState : pm_cs mX6_moveState 3 := ⟨my_X6_moveState, mw501, rfl⟩
theorem mw502 : Cond.fieldLink RX6 62 RX3 "up" "[Z" ∈ pm_tbl := List.mem_filter.mpr ⟨List.mem_of_getElem? (i := 185) (by decide +kernel), by decide +kernel⟩
theorem fa_X6_62 : pm_fa RX6 62 2 5 true (.array .boolean) := ⟨RX3, TX3, 12, tyX3, rfl, by decide, inX3_t, mw502, tyX3_ok, nmX3, rfl, rfl, rfl⟩
theorem mw503 : Cond.fieldLink RX6 65 RX1 "rootLink" "[I" ∈ pm_tbl := List.mem_filter.mpr ⟨List.mem_of_getElem? (i := 131) (by decide +kernel), by decide +kernel⟩
theorem fa_X6_65 : pm_fa RX6 65 0 4 true (.array .int) := ⟨RX1, TX1, 8, tyX1, rfl, by decide, inX1_t, mw503, tyX1_ok, nmX1, rfl, rfl, rfl⟩
theorem mw504 : Cond.methodLink RX6 70 yX6_comesBefore ∈ pm_tbl := List.mem_filter.mpr ⟨List.mem_of_getElem? (i := 758) (by decide +kernel), by decide +kernel⟩
abbrev mX6_comesBefore : pm_M := (yX6_comesBefore, cX6_comesBefore, 3, 1, 21, some .boolean, [])
theorem mw505 : Cond.code yX6_comesBefore cX6_comesBefore 3 (some .boolean) ∈ pm_tbl := List.mem_filter.mpr ⟨List.mem_of_getElem? (i := 760) (by decide +kernel), by decide +kernel⟩
theorem my_X6_comesBefore : pm_my mX6_comesBefore 3 := ⟨mw505, mw42, by decide +kernel⟩
theorem mw507 : Cond.static yX6_comesBefore ∈ pm_tbl := List.mem_filter.mpr ⟨List.mem_of_getElem? (i := 759) (by decide +kernel), by decide +kernel⟩
theorem cs_X6_comesBefore : pm_cs mX6_comesBefore 3 := ⟨my_X6_comesBefore, mw507, rfl⟩
theorem mw508 : Cond.fieldLink RX6 74 RX1 "root" "[I" ∈ pm_tbl := List.mem_filter.mpr ⟨List.mem_of_getElem? (i := 123) (by decide +kernel), by decide +kernel⟩
theorem fa_X6_74 : pm_fa RX6 74 0 1 true (.array .int) := ⟨RX1, TX1, 8, tyX1, rfl, by decide, inX1_t, mw508, tyX1_ok, nmX1, rfl, rfl, rfl⟩
theorem mw509 : Cond.fieldLink RX6 77 RX1 "cost" "[I" ∈ pm_tbl := List.mem_filter.mpr ⟨List.mem_of_getElem? (i := 126) (by decide +kernel), by decide +kernel⟩
theorem fa_X6_77 : pm_fa RX6 77 0 2 true (.array .int) := ⟨RX1, TX1, 8, tyX1, rfl, by decide, inX1_t, mw509, tyX1_ok, nmX1, rfl, rfl, rfl⟩
theorem mw510 : Cond.methodLink RX6 80 yX1_idOf ∈ pm_tbl := List.mem_filter.mpr ⟨List.mem_of_getElem? (i := 761) (by decide +kernel), by decide +kernel⟩
theorem mw511 : Cond.fieldLink RX6 84 RX3 "timer" "[I" ∈ pm_tbl := List.mem_filter.mpr ⟨List.mem_of_getElem? (i := 202) (by decide +kernel), by decide +kernel⟩
theorem fa_X6_84 : pm_fa RX6 84 2 11 true (.array .int) := ⟨RX3, TX3, 12, tyX3, rfl, by decide, inX3_t, mw511, tyX3_ok, nmX3, rfl, rfl, rfl⟩
theorem mw512 : Cond.fieldLink RX6 87 RX4 "size" "I" ∈ pm_tbl := List.mem_filter.mpr ⟨List.mem_of_getElem? (i := 260) (by decide +kernel), by decide +kernel⟩
theorem fa_X6_87 : pm_fa RX6 87 3 0 false .int := ⟨RX4, TX4, 13, tyX4, rfl, by decide, inX4_t, mw512, tyX4_ok, nmX4, rfl, rfl, rfl⟩
theorem mw513 : Cond.methodLink RX6 90 yX5_areJoined ∈ pm_tbl := List.mem_filter.mpr ⟨List.mem_of_getElem? (i := 769) (by decide +kernel), by decide +kernel⟩
abbrev mX5_areJoined : pm_M := (yX5_areJoined, cX5_areJoined, 3, 0, 0, some .boolean, [])
theorem mw514 : Cond.code yX5_areJoined cX5_areJoined 3 (some .boolean) ∈ pm_tbl := List.mem_filter.mpr ⟨List.mem_of_getElem? (i := 772) (by decide +kernel), by decide +kernel⟩
theorem my_X5_areJoined : pm_my mX5_areJoined 2 := ⟨mw514, mw58, by decide +kernel⟩
theorem mw516 : Cond.instanceMethod yX5_areJoined ∈ pm_tbl := List.mem_filter.mpr ⟨List.mem_of_getElem? (i := 770) (by decide +kernel), by decide +kernel⟩
theorem mw517 : Cond.selects RX5 yX5_areJoined yX5_areJoined ∈ pm_tbl := List.mem_filter.mpr ⟨List.mem_of_getElem? (i := 771) (by decide +kernel), by decide +kernel⟩
theorem cv_X5_areJoined : pm_cv mX5_areJoined 2 4 := ⟨my_X5_areJoined, mw516, mw517, rfl, TX5, 1, rfl⟩
theorem mw518 : Cond.methodLink RX6 96 yX1_flush ∈ pm_tbl := List.mem_filter.mpr ⟨List.mem_of_getElem? (i := 773) (by decide +kernel), by decide +kernel⟩
theorem mw519 : Jvm.Cond.constantLong RX11 282 18498 ∈ pm_tbl := List.mem_filter.mpr ⟨List.mem_of_getElem? (i := 779) (by decide +kernel), by decide +kernel⟩
theorem mw520 : Cond.fieldLink RX11 276 RX9 "size" "I" ∈ pm_tbl := List.mem_filter.mpr ⟨List.mem_of_getElem? (i := 368) (by decide +kernel), by decide +kernel⟩
theorem fa_X11_276 : pm_fa RX11 276 8 1 false .int := ⟨RX9, TX9, 2, tyX9, rfl, by decide, inX9_t, mw520, tyX9_ok, nmX9, rfl, rfl, rfl⟩
theorem mw521 : Cond.methodLink RX11 284 yX11_mix ∈ pm_tbl := List.mem_filter.mpr ⟨List.mem_of_getElem? (i := 780) (by decide +kernel), by decide +kernel⟩
abbrev mX11_mix : pm_M := (yX11_mix, cX11_mix, 4, 0, 0, some .long, [])
theorem mw522 : Cond.code yX11_mix cX11_mix 4 (some .long) ∈ pm_tbl := List.mem_filter.mpr ⟨List.mem_of_getElem? (i := 782) (by decide +kernel), by decide +kernel⟩
theorem my_X11_mix : pm_my mX11_mix 2 := ⟨mw522, mw230, by decide +kernel⟩
theorem mw524 : Cond.static yX11_mix ∈ pm_tbl := List.mem_filter.mpr ⟨List.mem_of_getElem? (i := 781) (by decide +kernel), by decide +kernel⟩
theorem cs_X11_mix : pm_cs mX11_mix 2 := ⟨my_X11_mix, mw524, rfl⟩
theorem mw525 : Cond.fieldLink RX11 77 RX4 "size" "I" ∈ pm_tbl := List.mem_filter.mpr ⟨List.mem_of_getElem? (i := 259) (by decide +kernel), by decide +kernel⟩
theorem fa_X11_77 : pm_fa RX11 77 3 0 false .int := ⟨RX4, TX4, 13, tyX4, rfl, by decide, inX4_t, mw525, tyX4_ok, nmX4, rfl, rfl, rfl⟩
theorem mw526 : Cond.fieldLink RX11 86 RX4 "delay" "I" ∈ pm_tbl := List.mem_filter.mpr ⟨List.mem_of_getElem? (i := 265) (by decide +kernel), by decide +kernel⟩
theorem fa_X11_86 : pm_fa RX11 86 3 2 false .int := ⟨RX4, TX4, 13, tyX4, rfl, by decide, inX4_t, mw526, tyX4_ok, nmX4, rfl, rfl, rfl⟩
theorem mw527 : Cond.fieldLink RX11 83 RX4 "interval" "I" ∈ pm_tbl := List.mem_filter.mpr ⟨List.mem_of_getElem? (i := 268) (by decide +kernel), by decide +kernel⟩
theorem fa_X11_83 : pm_fa RX11 83 3 3 false .int := ⟨RX4, TX4, 13, tyX4, rfl, by decide, inX4_t, mw527, tyX4_ok, nmX4, rfl, rfl, rfl⟩
theorem mw528 : Cond.fieldLink RX11 89 RX4 "hysteresis" "I" ∈ pm_tbl := List.mem_filter.mpr ⟨List.mem_of_getElem? (i := 271) (by decide +kernel), by decide +kernel⟩
theorem fa_X11_89 : pm_fa RX11 89 3 4 false .int := ⟨RX4, TX4, 13, tyX4, rfl, by decide, inX4_t, mw528, tyX4_ok, nmX4, rfl, rfl, rfl⟩
theorem mw529 : Cond.methodLink RX11 288 yX11_mixBridges ∈ pm_tbl := List.mem_filter.mpr ⟨List.mem_of_getElem? (i := 784) (by decide +kernel), by decide +kernel⟩
abbrev mX11_mixBridges : pm_M := (yX11_mixBridges, cX11_mixBridges, 7, 8, 132, some .long, [])
theorem mw530 : Cond.code yX11_mixBridges cX11_mixBridges 7 (some .long) ∈ pm_tbl := List.mem_filter.mpr ⟨List.mem_of_getElem? (i := 787) (by decide +kernel), by decide +kernel⟩
theorem my_X11_mixBridges : pm_my mX11_mixBridges 1 := ⟨mw530, mw230, by decide +kernel⟩
theorem mw532 : Cond.instanceMethod yX11_mixBridges ∈ pm_tbl := List.mem_filter.mpr ⟨List.mem_of_getElem? (i := 786) (by decide +kernel), by decide +kernel⟩
theorem mw533 : Cond.selects RX11 yX11_mixBridges yX11_mixBridges ∈ pm_tbl := List.mem_filter.mpr ⟨List.mem_of_getElem? (i := 14) (by decide +kernel), by decide +kernel⟩
theorem cv_X11_mixBridges : pm_cv mX11_mixBridges 1 10 := ⟨my_X11_mixBridges, mw532, mw533, rfl, TX11, 7, rfl⟩
theorem mw534 : Cond.methodLink RX11 292 yX11_mixLinks ∈ pm_tbl := List.mem_filter.mpr ⟨List.mem_of_getElem? (i := 912) (by decide +kernel), by decide +kernel⟩
abbrev mX11_mixLinks : pm_M := (yX11_mixLinks, cX11_mixLinks, 7, 8, 132, some .long, [])
theorem mw535 : Cond.code yX11_mixLinks cX11_mixLinks 7 (some .long) ∈ pm_tbl := List.mem_filter.mpr ⟨List.mem_of_getElem? (i := 915) (by decide +kernel), by decide +kernel⟩
theorem my_X11_mixLinks : pm_my mX11_mixLinks 1 := ⟨mw535, mw230, by decide +kernel⟩
theorem mw537 : Cond.instanceMethod yX11_mixLinks ∈ pm_tbl := List.mem_filter.mpr ⟨List.mem_of_getElem? (i := 914) (by decide +kernel), by decide +kernel⟩
theorem mw538 : Cond.selects RX11 yX11_mixLinks yX11_mixLinks ∈ pm_tbl := List.mem_filter.mpr ⟨List.mem_of_getElem? (i := 16) (by decide +kernel), by decide +kernel⟩
theorem cv_X11_mixLinks : pm_cv mX11_mixLinks 1 10 := ⟨my_X11_mixLinks, mw537, mw538, rfl, TX11, 7, rfl⟩
theorem mw539 : Cond.methodLink RX11 295 yX11_tenant ∈ pm_tbl := List.mem_filter.mpr ⟨List.mem_of_getElem? (i := 935) (by decide +kernel), by decide +kernel⟩
abbrev mX11_tenant : pm_M := (yX11_tenant, cX11_tenant, 3, 6, 90, some .int, [])
theorem mw540 : Cond.code yX11_tenant cX11_tenant 3 (some .int) ∈ pm_tbl := List.mem_filter.mpr ⟨List.mem_of_getElem? (i := 938) (by decide +kernel), by decide +kernel⟩
theorem my_X11_tenant : pm_my mX11_tenant 2 := ⟨mw540, mw230, by decide +kernel⟩
theorem mw542 : Cond.instanceMethod yX11_tenant ∈ pm_tbl := List.mem_filter.mpr ⟨List.mem_of_getElem? (i := 936) (by decide +kernel), by decide +kernel⟩
theorem mw543 : Cond.selects RX11 yX11_tenant yX11_tenant ∈ pm_tbl := List.mem_filter.mpr ⟨List.mem_of_getElem? (i := 937) (by decide +kernel), by decide +kernel⟩
theorem cv_X11_tenant : pm_cv mX11_tenant 2 10 := ⟨my_X11_tenant, mw542, mw543, rfl, TX11, 7, rfl⟩
theorem mw544 : Cond.methodLink RX11 298 yX11_count ∈ pm_tbl := List.mem_filter.mpr ⟨List.mem_of_getElem? (i := 944) (by decide +kernel), by decide +kernel⟩
abbrev mX11_count : pm_M := (yX11_count, cX11_count, 2, 6, 90, some .int, [])
theorem mw545 : Cond.code yX11_count cX11_count 2 (some .int) ∈ pm_tbl := List.mem_filter.mpr ⟨List.mem_of_getElem? (i := 947) (by decide +kernel), by decide +kernel⟩
theorem my_X11_count : pm_my mX11_count 1 := ⟨mw545, mw230, by decide +kernel⟩
theorem mw547 : Cond.instanceMethod yX11_count ∈ pm_tbl := List.mem_filter.mpr ⟨List.mem_of_getElem? (i := 945) (by decide +kernel), by decide +kernel⟩
theorem mw548 : Cond.selects RX11 yX11_count yX11_count ∈ pm_tbl := List.mem_filter.mpr ⟨List.mem_of_getElem? (i := 946) (by decide +kernel), by decide +kernel⟩
theorem cv_X11_count : pm_cv mX11_count 1 10 := ⟨my_X11_count, mw547, mw548, rfl, TX11, 7, rfl⟩
theorem mw549 : Cond.methodLink RX11 301 yX11_isForest ∈ pm_tbl := List.mem_filter.mpr ⟨List.mem_of_getElem? (i := 957) (by decide +kernel), by decide +kernel⟩
theorem mw550 : Cond.code yX11_isForest cX11_isForest 1 (some .boolean) ∈ pm_tbl := List.mem_filter.mpr ⟨List.mem_of_getElem? (i := 502) (by decide +kernel), by decide +kernel⟩
theorem my_X11_isForest : pm_my mX11_isForest 0 := ⟨mw550, mw230, by decide +kernel⟩
theorem mw552 : Cond.instanceMethod yX11_isForest ∈ pm_tbl := List.mem_filter.mpr ⟨List.mem_of_getElem? (i := 500) (by decide +kernel), by decide +kernel⟩
theorem mw553 : Cond.selects RX11 yX11_isForest yX11_isForest ∈ pm_tbl := List.mem_filter.mpr ⟨List.mem_of_getElem? (i := 501) (by decide +kernel), by decide +kernel⟩
theorem cv_X11_isForest : pm_cv mX11_isForest 0 10 := ⟨my_X11_isForest, mw552, mw553, rfl, TX11, 7, rfl⟩
abbrev mX11_digest : pm_M := (yX11_digest, cX11_digest, 5, 9, 158, some .long, [])
theorem mw554 : Jvm.Cond.constantLong RX11 323 31 ∈ pm_tbl := List.mem_filter.mpr ⟨List.mem_of_getElem? (i := 783) (by decide +kernel), by decide +kernel⟩
theorem mw555 : Cond.methodLink RX11 304 yX11_bridge ∈ pm_tbl := List.mem_filter.mpr ⟨List.mem_of_getElem? (i := 788) (by decide +kernel), by decide +kernel⟩
abbrev mX11_bridge : pm_M := (yX11_bridge, cX11_bridge, 3, 6, 90, some .int, [])
theorem mw556 : Cond.code yX11_bridge cX11_bridge 3 (some .int) ∈ pm_tbl := List.mem_filter.mpr ⟨List.mem_of_getElem? (i := 791) (by decide +kernel), by decide +kernel⟩
theorem my_X11_bridge : pm_my mX11_bridge 2 := ⟨mw556, mw230, by decide +kernel⟩
theorem mw558 : Cond.instanceMethod yX11_bridge ∈ pm_tbl := List.mem_filter.mpr ⟨List.mem_of_getElem? (i := 789) (by decide +kernel), by decide +kernel⟩
theorem mw559 : Cond.selects RX11 yX11_bridge yX11_bridge ∈ pm_tbl := List.mem_filter.mpr ⟨List.mem_of_getElem? (i := 790) (by decide +kernel), by decide +kernel⟩
theorem cv_X11_bridge : pm_cv mX11_bridge 2 10 := ⟨my_X11_bridge, mw558, mw559, rfl, TX11, 7, rfl⟩
theorem mw560 : Cond.methodLink RX11 307 yX11_entry ∈ pm_tbl := List.mem_filter.mpr ⟨List.mem_of_getElem? (i := 883) (by decide +kernel), by decide +kernel⟩
abbrev mX11_entry : pm_M := (yX11_entry, cX11_entry, 3, 7, 110, some .int, [])
theorem mw561 : Cond.code yX11_entry cX11_entry 3 (some .int) ∈ pm_tbl := List.mem_filter.mpr ⟨List.mem_of_getElem? (i := 886) (by decide +kernel), by decide +kernel⟩
theorem my_X11_entry : pm_my mX11_entry 2 := ⟨mw561, mw230, by decide +kernel⟩
theorem mw563 : Cond.instanceMethod yX11_entry ∈ pm_tbl := List.mem_filter.mpr ⟨List.mem_of_getElem? (i := 884) (by decide +kernel), by decide +kernel⟩
theorem mw564 : Cond.selects RX11 yX11_entry yX11_entry ∈ pm_tbl := List.mem_filter.mpr ⟨List.mem_of_getElem? (i := 885) (by decide +kernel), by decide +kernel⟩
theorem cv_X11_entry : pm_cv mX11_entry 2 10 := ⟨my_X11_entry, mw563, mw564, rfl, TX11, 7, rfl⟩
theorem mw565 : Cond.fieldLink RX11 310 RX1 "hostAt" "[I" ∈ pm_tbl := List.mem_filter.mpr ⟨List.mem_of_getElem? (i := 134) (by decide +kernel), by decide +kernel⟩
theorem fa_X11_310 : pm_fa RX11 310 0 5 true (.array .int) := ⟨RX1, TX1, 8, tyX1, rfl, by decide, inX1_t, mw565, tyX1_ok, nmX1, rfl, rfl, rfl⟩
theorem mw566 : Cond.classLink RX11 150 "java/lang/IndexOutOfBoundsException" ∈ pm_tbl := List.mem_filter.mpr ⟨List.mem_of_getElem? (i := 792) (by decide +kernel), by decide +kernel⟩
theorem mw567 : Cond.classLink RX11 66 "java/lang/IllegalArgumentException" ∈ pm_tbl := List.mem_filter.mpr ⟨List.mem_of_getElem? (i := 859) (by decide +kernel), by decide +kernel⟩
theorem mw568 : Cond.methodLink RX11 188 yX1_valueOf ∈ pm_tbl := List.mem_filter.mpr ⟨List.mem_of_getElem? (i := 875) (by decide +kernel), by decide +kernel⟩
abbrev mX1_valueOf : pm_M := (yX1_valueOf, cX1_valueOf, 3, 1, 23, some .int, [])
theorem mw569 : Cond.code yX1_valueOf cX1_valueOf 3 (some .int) ∈ pm_tbl := List.mem_filter.mpr ⟨List.mem_of_getElem? (i := 878) (by decide +kernel), by decide +kernel⟩
theorem my_X1_valueOf : pm_my mX1_valueOf 2 := ⟨mw569, mw70, by decide +kernel⟩
theorem mw571 : Cond.instanceMethod yX1_valueOf ∈ pm_tbl := List.mem_filter.mpr ⟨List.mem_of_getElem? (i := 876) (by decide +kernel), by decide +kernel⟩
theorem mw572 : Cond.selects RX1 yX1_valueOf yX1_valueOf ∈ pm_tbl := List.mem_filter.mpr ⟨List.mem_of_getElem? (i := 877) (by decide +kernel), by decide +kernel⟩
theorem cv_X1_valueOf : pm_cv mX1_valueOf 2 0 := ⟨my_X1_valueOf, mw571, mw572, rfl, TX1, 8, rfl⟩
theorem mw573 : Cond.methodLink RX1 57 yX1_countEntries ∈ pm_tbl := List.mem_filter.mpr ⟨List.mem_of_getElem? (i := 879) (by decide +kernel), by decide +kernel⟩
abbrev mX1_countEntries : pm_M := (yX1_countEntries, cX1_countEntries, 4, 0, 0, some .int, [])
theorem mw574 : Cond.code yX1_countEntries cX1_countEntries 4 (some .int) ∈ pm_tbl := List.mem_filter.mpr ⟨List.mem_of_getElem? (i := 882) (by decide +kernel), by decide +kernel⟩
theorem my_X1_countEntries : pm_my mX1_countEntries 1 := ⟨mw574, mw70, by decide +kernel⟩
theorem mw576 : Cond.instanceMethod yX1_countEntries ∈ pm_tbl := List.mem_filter.mpr ⟨List.mem_of_getElem? (i := 880) (by decide +kernel), by decide +kernel⟩
theorem mw577 : Cond.selects RX1 yX1_countEntries yX1_countEntries ∈ pm_tbl := List.mem_filter.mpr ⟨List.mem_of_getElem? (i := 881) (by decide +kernel), by decide +kernel⟩
theorem cv_X1_countEntries : pm_cv mX1_countEntries 1 0 := ⟨my_X1_countEntries, mw576, mw577, rfl, TX1, 8, rfl⟩
theorem mw578 : Cond.methodLink RX11 96 yX11_throwFor ∈ pm_tbl := List.mem_filter.mpr ⟨List.mem_of_getElem? (i := 887) (by decide +kernel), by decide +kernel⟩
abbrev mX11_throwFor : pm_M := (yX11_throwFor, cX11_throwFor, 1, 6, 90, none, [])
theorem mw579 : Cond.code yX11_throwFor cX11_throwFor 1 none ∈ pm_tbl := List.mem_filter.mpr ⟨List.mem_of_getElem? (i := 889) (by decide +kernel), by decide +kernel⟩
theorem my_X11_throwFor : pm_my mX11_throwFor 1 := ⟨mw579, mw230, by decide +kernel⟩
theorem mw581 : Cond.static yX11_throwFor ∈ pm_tbl := List.mem_filter.mpr ⟨List.mem_of_getElem? (i := 888) (by decide +kernel), by decide +kernel⟩
theorem cs_X11_throwFor : pm_cs mX11_throwFor 1 := ⟨my_X11_throwFor, mw581, rfl⟩
theorem mw582 : Cond.methodLink RX11 210 yX1_validEntry ∈ pm_tbl := List.mem_filter.mpr ⟨List.mem_of_getElem? (i := 908) (by decide +kernel), by decide +kernel⟩
abbrev mX1_validEntry : pm_M := (yX1_validEntry, cX1_validEntry, 5, 0, 0, some .int, [])
theorem mw583 : Cond.code yX1_validEntry cX1_validEntry 5 (some .int) ∈ pm_tbl := List.mem_filter.mpr ⟨List.mem_of_getElem? (i := 911) (by decide +kernel), by decide +kernel⟩
theorem my_X1_validEntry : pm_my mX1_validEntry 3 := ⟨mw583, mw70, by decide +kernel⟩
theorem mw585 : Cond.instanceMethod yX1_validEntry ∈ pm_tbl := List.mem_filter.mpr ⟨List.mem_of_getElem? (i := 909) (by decide +kernel), by decide +kernel⟩
theorem mw586 : Cond.selects RX1 yX1_validEntry yX1_validEntry ∈ pm_tbl := List.mem_filter.mpr ⟨List.mem_of_getElem? (i := 910) (by decide +kernel), by decide +kernel⟩
theorem cv_X1_validEntry : pm_cv mX1_validEntry 3 0 := ⟨my_X1_validEntry, mw585, mw586, rfl, TX1, 8, rfl⟩
theorem mw587 : Cond.classLink RX11 162 "java/lang/IllegalStateException" ∈ pm_tbl := List.mem_filter.mpr ⟨List.mem_of_getElem? (i := 892) (by decide +kernel), by decide +kernel⟩
theorem mw588 : Cond.methodLink RX11 313 yX11_link ∈ pm_tbl := List.mem_filter.mpr ⟨List.mem_of_getElem? (i := 916) (by decide +kernel), by decide +kernel⟩
abbrev mX11_link : pm_M := (yX11_link, cX11_link, 3, 6, 90, some .int, [])
theorem mw589 : Cond.code yX11_link cX11_link 3 (some .int) ∈ pm_tbl := List.mem_filter.mpr ⟨List.mem_of_getElem? (i := 919) (by decide +kernel), by decide +kernel⟩
theorem my_X11_link : pm_my mX11_link 2 := ⟨mw589, mw230, by decide +kernel⟩
theorem mw591 : Cond.instanceMethod yX11_link ∈ pm_tbl := List.mem_filter.mpr ⟨List.mem_of_getElem? (i := 917) (by decide +kernel), by decide +kernel⟩
theorem mw592 : Cond.selects RX11 yX11_link yX11_link ∈ pm_tbl := List.mem_filter.mpr ⟨List.mem_of_getElem? (i := 918) (by decide +kernel), by decide +kernel⟩
theorem cv_X11_link : pm_cv mX11_link 2 10 := ⟨my_X11_link, mw591, mw592, rfl, TX11, 7, rfl⟩
theorem mw593 : Cond.methodLink RX11 316 yX11_port ∈ pm_tbl := List.mem_filter.mpr ⟨List.mem_of_getElem? (i := 927) (by decide +kernel), by decide +kernel⟩
abbrev mX11_port : pm_M := (yX11_port, cX11_port, 5, 6, 90, some .int, [])
theorem mw594 : Cond.code yX11_port cX11_port 5 (some .int) ∈ pm_tbl := List.mem_filter.mpr ⟨List.mem_of_getElem? (i := 930) (by decide +kernel), by decide +kernel⟩
theorem my_X11_port : pm_my mX11_port 3 := ⟨mw594, mw230, by decide +kernel⟩
theorem mw596 : Cond.instanceMethod yX11_port ∈ pm_tbl := List.mem_filter.mpr ⟨List.mem_of_getElem? (i := 928) (by decide +kernel), by decide +kernel⟩
theorem mw597 : Cond.selects RX11 yX11_port yX11_port ∈ pm_tbl := List.mem_filter.mpr ⟨List.mem_of_getElem? (i := 929) (by decide +kernel), by decide +kernel⟩
theorem cv_X11_port : pm_cv mX11_port 3 10 := ⟨my_X11_port, mw596, mw597, rfl, TX11, 7, rfl⟩
theorem mw598 : Cond.methodLink RX11 320 yX11_bidOf ∈ pm_tbl := List.mem_filter.mpr ⟨List.mem_of_getElem? (i := 931) (by decide +kernel), by decide +kernel⟩
abbrev mX11_bidOf : pm_M := (yX11_bidOf, cX11_bidOf, 3, 7, 110, some .int, [])
theorem mw599 : Cond.code yX11_bidOf cX11_bidOf 3 (some .int) ∈ pm_tbl := List.mem_filter.mpr ⟨List.mem_of_getElem? (i := 934) (by decide +kernel), by decide +kernel⟩
theorem my_X11_bidOf : pm_my mX11_bidOf 2 := ⟨mw599, mw230, by decide +kernel⟩
theorem mw601 : Cond.instanceMethod yX11_bidOf ∈ pm_tbl := List.mem_filter.mpr ⟨List.mem_of_getElem? (i := 932) (by decide +kernel), by decide +kernel⟩
theorem mw602 : Cond.selects RX11 yX11_bidOf yX11_bidOf ∈ pm_tbl := List.mem_filter.mpr ⟨List.mem_of_getElem? (i := 933) (by decide +kernel), by decide +kernel⟩
theorem cv_X11_bidOf : pm_cv mX11_bidOf 2 10 := ⟨my_X11_bidOf, mw601, mw602, rfl, TX11, 7, rfl⟩
theorem mw603 : Cond.methodLink RX11 194 yX3_has ∈ pm_tbl := List.mem_filter.mpr ⟨List.mem_of_getElem? (i := 920) (by decide +kernel), by decide +kernel⟩
theorem mw604 : Cond.methodLink RX11 200 yX3_valueOf ∈ pm_tbl := List.mem_filter.mpr ⟨List.mem_of_getElem? (i := 922) (by decide +kernel), by decide +kernel⟩
abbrev mX3_valueOf : pm_M := (yX3_valueOf, cX3_valueOf, 3, 2, 42, some .int, [])
theorem mw605 : Cond.code yX3_valueOf cX3_valueOf 3 (some .int) ∈ pm_tbl := List.mem_filter.mpr ⟨List.mem_of_getElem? (i := 925) (by decide +kernel), by decide +kernel⟩
theorem my_X3_valueOf : pm_my mX3_valueOf 2 := ⟨mw605, mw78, by decide +kernel⟩
theorem mw607 : Cond.instanceMethod yX3_valueOf ∈ pm_tbl := List.mem_filter.mpr ⟨List.mem_of_getElem? (i := 923) (by decide +kernel), by decide +kernel⟩
theorem mw608 : Cond.selects RX3 yX3_valueOf yX3_valueOf ∈ pm_tbl := List.mem_filter.mpr ⟨List.mem_of_getElem? (i := 924) (by decide +kernel), by decide +kernel⟩
theorem cv_X3_valueOf : pm_cv mX3_valueOf 2 2 := ⟨my_X3_valueOf, mw607, mw608, rfl, TX3, 12, rfl⟩
theorem mw609 : Cond.methodLink RX3 69 yX3_carries ∈ pm_tbl := List.mem_filter.mpr ⟨List.mem_of_getElem? (i := 926) (by decide +kernel), by decide +kernel⟩
theorem mw610 : Cond.fieldLink RX11 201 RX3 "role" "[I" ∈ pm_tbl := List.mem_filter.mpr ⟨List.mem_of_getElem? (i := 197) (by decide +kernel), by decide +kernel⟩
theorem fa_X11_201 : pm_fa RX11 201 2 9 true (.array .int) := ⟨RX3, TX3, 12, tyX3, rfl, by decide, inX3_t, mw610, tyX3_ok, nmX3, rfl, rfl, rfl⟩
theorem mw611 : Cond.fieldLink RX11 204 RX3 "state" "[I" ∈ pm_tbl := List.mem_filter.mpr ⟨List.mem_of_getElem? (i := 200) (by decide +kernel), by decide +kernel⟩
theorem fa_X11_204 : pm_fa RX11 204 2 10 true (.array .int) := ⟨RX3, TX3, 12, tyX3, rfl, by decide, inX3_t, mw611, tyX3_ok, nmX3, rfl, rfl, rfl⟩
theorem mw612 : Cond.fieldLink RX11 207 RX3 "timer" "[I" ∈ pm_tbl := List.mem_filter.mpr ⟨List.mem_of_getElem? (i := 203) (by decide +kernel), by decide +kernel⟩
theorem fa_X11_207 : pm_fa RX11 207 2 11 true (.array .int) := ⟨RX3, TX3, 12, tyX3, rfl, by decide, inX3_t, mw612, tyX3_ok, nmX3, rfl, rfl, rfl⟩
theorem mw613 : Cond.fieldLink RX11 222 RX8 "bids" "[I" ∈ pm_tbl := List.mem_filter.mpr ⟨List.mem_of_getElem? (i := 247) (by decide +kernel), by decide +kernel⟩
theorem fa_X11_222 : pm_fa RX11 222 7 3 true (.array .int) := ⟨RX8, TX8, 4, tyX8, rfl, by decide, inX8_t, mw613, tyX8_ok, nmX8, rfl, rfl, rfl⟩
theorem mw614 : Cond.fieldLink RX11 157 RX8 "credits" "[I" ∈ pm_tbl := List.mem_filter.mpr ⟨List.mem_of_getElem? (i := 239) (by decide +kernel), by decide +kernel⟩
theorem fa_X11_157 : pm_fa RX11 157 7 0 true (.array .int) := ⟨RX8, TX8, 4, tyX8, rfl, by decide, inX8_t, mw614, tyX8_ok, nmX8, rfl, rfl, rfl⟩
theorem mw615 : Cond.methodLink RX11 213 yX3_countWonBy ∈ pm_tbl := List.mem_filter.mpr ⟨List.mem_of_getElem? (i := 940) (by decide +kernel), by decide +kernel⟩
abbrev mX3_countWonBy : pm_M := (yX3_countWonBy, cX3_countWonBy, 4, 0, 0, some .int, [])
theorem mw616 : Cond.code yX3_countWonBy cX3_countWonBy 4 (some .int) ∈ pm_tbl := List.mem_filter.mpr ⟨List.mem_of_getElem? (i := 943) (by decide +kernel), by decide +kernel⟩
theorem my_X3_countWonBy : pm_my mX3_countWonBy 1 := ⟨mw616, mw78, by decide +kernel⟩
theorem mw618 : Cond.instanceMethod yX3_countWonBy ∈ pm_tbl := List.mem_filter.mpr ⟨List.mem_of_getElem? (i := 941) (by decide +kernel), by decide +kernel⟩
theorem mw619 : Cond.selects RX3 yX3_countWonBy yX3_countWonBy ∈ pm_tbl := List.mem_filter.mpr ⟨List.mem_of_getElem? (i := 942) (by decide +kernel), by decide +kernel⟩
theorem cv_X3_countWonBy : pm_cv mX3_countWonBy 1 2 := ⟨my_X3_countWonBy, mw618, mw619, rfl, TX3, 12, rfl⟩
theorem mw620 : Cond.fieldLink RX11 216 RX8 "paid" "[I" ∈ pm_tbl := List.mem_filter.mpr ⟨List.mem_of_getElem? (i := 242) (by decide +kernel), by decide +kernel⟩
theorem fa_X11_216 : pm_fa RX11 216 7 1 true (.array .int) := ⟨RX8, TX8, 4, tyX8, rfl, by decide, inX8_t, mw620, tyX8_ok, nmX8, rfl, rfl, rfl⟩
theorem mw621 : Cond.fieldLink RX11 219 RX8 "refunded" "[I" ∈ pm_tbl := List.mem_filter.mpr ⟨List.mem_of_getElem? (i := 245) (by decide +kernel), by decide +kernel⟩
theorem fa_X11_219 : pm_fa RX11 219 7 2 true (.array .int) := ⟨RX8, TX8, 4, tyX8, rfl, by decide, inX8_t, mw621, tyX8_ok, nmX8, rfl, rfl, rfl⟩
theorem mw622 : Cond.fieldLink RX11 225 RX4 "auctions" "I" ∈ pm_tbl := List.mem_filter.mpr ⟨List.mem_of_getElem? (i := 274) (by decide +kernel), by decide +kernel⟩
theorem fa_X11_225 : pm_fa RX11 225 3 5 false .int := ⟨RX4, TX4, 13, tyX4, rfl, by decide, inX4_t, mw622, tyX4_ok, nmX4, rfl, rfl, rfl⟩
theorem mw623 : Cond.fieldLink RX11 228 RX4 "changes" "I" ∈ pm_tbl := List.mem_filter.mpr ⟨List.mem_of_getElem? (i := 277) (by decide +kernel), by decide +kernel⟩
theorem fa_X11_228 : pm_fa RX11 228 3 6 false .int := ⟨RX4, TX4, 13, tyX4, rfl, by decide, inX4_t, mw623, tyX4_ok, nmX4, rfl, rfl, rfl⟩
theorem mw624 : Cond.fieldLink RX11 231 RX4 "sent" "I" ∈ pm_tbl := List.mem_filter.mpr ⟨List.mem_of_getElem? (i := 280) (by decide +kernel), by decide +kernel⟩
theorem fa_X11_231 : pm_fa RX11 231 3 7 false .int := ⟨RX4, TX4, 13, tyX4, rfl, by decide, inX4_t, mw624, tyX4_ok, nmX4, rfl, rfl, rfl⟩
theorem mw625 : Cond.fieldLink RX11 234 RX4 "delivered" "I" ∈ pm_tbl := List.mem_filter.mpr ⟨List.mem_of_getElem? (i := 283) (by decide +kernel), by decide +kernel⟩
theorem fa_X11_234 : pm_fa RX11 234 3 8 false .int := ⟨RX4, TX4, 13, tyX4, rfl, by decide, inX4_t, mw625, tyX4_ok, nmX4, rfl, rfl, rfl⟩
theorem mw626 : Cond.fieldLink RX11 237 RX4 "used" "I" ∈ pm_tbl := List.mem_filter.mpr ⟨List.mem_of_getElem? (i := 286) (by decide +kernel), by decide +kernel⟩
theorem fa_X11_237 : pm_fa RX11 237 3 9 false .int := ⟨RX4, TX4, 13, tyX4, rfl, by decide, inX4_t, mw626, tyX4_ok, nmX4, rfl, rfl, rfl⟩
theorem mw627 : Cond.methodLink RX11 240 yX3_countCarrying ∈ pm_tbl := List.mem_filter.mpr ⟨List.mem_of_getElem? (i := 948) (by decide +kernel), by decide +kernel⟩
abbrev mX3_countCarrying : pm_M := (yX3_countCarrying, cX3_countCarrying, 3, 2, 42, some .int, [])
theorem mw628 : Cond.code yX3_countCarrying cX3_countCarrying 3 (some .int) ∈ pm_tbl := List.mem_filter.mpr ⟨List.mem_of_getElem? (i := 951) (by decide +kernel), by decide +kernel⟩
theorem my_X3_countCarrying : pm_my mX3_countCarrying 0 := ⟨mw628, mw78, by decide +kernel⟩
theorem mw630 : Cond.instanceMethod yX3_countCarrying ∈ pm_tbl := List.mem_filter.mpr ⟨List.mem_of_getElem? (i := 949) (by decide +kernel), by decide +kernel⟩
theorem mw631 : Cond.selects RX3 yX3_countCarrying yX3_countCarrying ∈ pm_tbl := List.mem_filter.mpr ⟨List.mem_of_getElem? (i := 950) (by decide +kernel), by decide +kernel⟩
theorem cv_X3_countCarrying : pm_cv mX3_countCarrying 0 2 := ⟨my_X3_countCarrying, mw630, mw631, rfl, TX3, 12, rfl⟩
theorem mw632 : Cond.methodLink RX11 248 yX5_countPairs ∈ pm_tbl := List.mem_filter.mpr ⟨List.mem_of_getElem? (i := 952) (by decide +kernel), by decide +kernel⟩
abbrev mX5_countPairs : pm_M := (yX5_countPairs, cX5_countPairs, 5, 1, 22, some .int, [])
theorem mw633 : Cond.code yX5_countPairs cX5_countPairs 5 (some .int) ∈ pm_tbl := List.mem_filter.mpr ⟨List.mem_of_getElem? (i := 955) (by decide +kernel), by decide +kernel⟩
theorem my_X5_countPairs : pm_my mX5_countPairs 1 := ⟨mw633, mw58, by decide +kernel⟩
theorem mw635 : Cond.instanceMethod yX5_countPairs ∈ pm_tbl := List.mem_filter.mpr ⟨List.mem_of_getElem? (i := 953) (by decide +kernel), by decide +kernel⟩
theorem mw636 : Cond.selects RX5 yX5_countPairs yX5_countPairs ∈ pm_tbl := List.mem_filter.mpr ⟨List.mem_of_getElem? (i := 954) (by decide +kernel), by decide +kernel⟩
theorem cv_X5_countPairs : pm_cv mX5_countPairs 1 4 := ⟨my_X5_countPairs, mw635, mw636, rfl, TX5, 1, rfl⟩
theorem mw637 : Cond.methodLink RX5 41 yX5_areJoined ∈ pm_tbl := List.mem_filter.mpr ⟨List.mem_of_getElem? (i := 956) (by decide +kernel), by decide +kernel⟩
theorem mw638 : Cond.methodLink RL 7 yX11_setBridges ∈ pm_tbl := List.mem_filter.mpr ⟨List.mem_of_getElem? (i := 962) (by decide +kernel), by decide +kernel⟩
abbrev mX11_setBridges : pm_M := (yX11_setBridges, cX11_setBridges, 3, 6, 101, some .int, [])
theorem mw639 : Cond.code yX11_setBridges cX11_setBridges 3 (some .int) ∈ pm_tbl := List.mem_filter.mpr ⟨List.mem_of_getElem? (i := 965) (by decide +kernel), by decide +kernel⟩
theorem my_X11_setBridges : pm_my mX11_setBridges 1 := ⟨mw639, mw230, by decide +kernel⟩
theorem mw641 : Cond.instanceMethod yX11_setBridges ∈ pm_tbl := List.mem_filter.mpr ⟨List.mem_of_getElem? (i := 963) (by decide +kernel), by decide +kernel⟩
theorem mw642 : Cond.selects RX11 yX11_setBridges yX11_setBridges ∈ pm_tbl := List.mem_filter.mpr ⟨List.mem_of_getElem? (i := 964) (by decide +kernel), by decide +kernel⟩
theorem cv_X11_setBridges : pm_cv mX11_setBridges 1 10 := ⟨my_X11_setBridges, mw641, mw642, rfl, TX11, 7, rfl⟩
abbrev mL_setBridges : pm_M := (yL_setBridges, cL_setBridges, 4, 7, 123, some .int, [(0, 9, 12, 13)])
theorem mw643 : Cond.methodLink RL 15 yX11_setTimes ∈ pm_tbl := List.mem_filter.mpr ⟨List.mem_of_getElem? (i := 970) (by decide +kernel), by decide +kernel⟩
abbrev mX11_setTimes : pm_M := (yX11_setTimes, cX11_setTimes, 5, 6, 101, some .int, [])
theorem mw644 : Cond.code yX11_setTimes cX11_setTimes 5 (some .int) ∈ pm_tbl := List.mem_filter.mpr ⟨List.mem_of_getElem? (i := 973) (by decide +kernel), by decide +kernel⟩
theorem my_X11_setTimes : pm_my mX11_setTimes 3 := ⟨mw644, mw230, by decide +kernel⟩
theorem mw646 : Cond.instanceMethod yX11_setTimes ∈ pm_tbl := List.mem_filter.mpr ⟨List.mem_of_getElem? (i := 971) (by decide +kernel), by decide +kernel⟩
theorem mw647 : Cond.selects RX11 yX11_setTimes yX11_setTimes ∈ pm_tbl := List.mem_filter.mpr ⟨List.mem_of_getElem? (i := 972) (by decide +kernel), by decide +kernel⟩
theorem cv_X11_setTimes : pm_cv mX11_setTimes 3 10 := ⟨my_X11_setTimes, mw646, mw647, rfl, TX11, 7, rfl⟩
abbrev mL_setTimes : pm_M := (yL_setTimes, cL_setTimes, 6, 7, 125, some .int, [(0, 12, 15, 13)])
theorem mw648 : Cond.methodLink RL 19 yX11_setPriority ∈ pm_tbl := List.mem_filter.mpr ⟨List.mem_of_getElem? (i := 979) (by decide +kernel), by decide +kernel⟩
abbrev mX11_setPriority : pm_M := (yX11_setPriority, cX11_setPriority, 3, 7, 110, some .int, [])
theorem mw649 : Cond.code yX11_setPriority cX11_setPriority 3 (some .int) ∈ pm_tbl := List.mem_filter.mpr ⟨List.mem_of_getElem? (i := 982) (by decide +kernel), by decide +kernel⟩
theorem my_X11_setPriority : pm_my mX11_setPriority 2 := ⟨mw649, mw230, by decide +kernel⟩
theorem mw651 : Cond.instanceMethod yX11_setPriority ∈ pm_tbl := List.mem_filter.mpr ⟨List.mem_of_getElem? (i := 980) (by decide +kernel), by decide +kernel⟩
theorem mw652 : Cond.selects RX11 yX11_setPriority yX11_setPriority ∈ pm_tbl := List.mem_filter.mpr ⟨List.mem_of_getElem? (i := 981) (by decide +kernel), by decide +kernel⟩
theorem cv_X11_setPriority : pm_cv mX11_setPriority 2 10 := ⟨my_X11_setPriority, mw651, mw652, rfl, TX11, 7, rfl⟩
abbrev mL_setPriority : pm_M := (yL_setPriority, cL_setPriority, 5, 8, 132, some .int, [(0, 10, 13, 23), (0, 10, 17, 13)])
theorem mw653 : Cond.methodLink RL 25 yX11_addLink ∈ pm_tbl := List.mem_filter.mpr ⟨List.mem_of_getElem? (i := 987) (by decide +kernel), by decide +kernel⟩
abbrev mX11_addLink : pm_M := (yX11_addLink, cX11_addLink, 4, 7, 110, some .int, [])
theorem mw654 : Cond.code yX11_addLink cX11_addLink 4 (some .int) ∈ pm_tbl := List.mem_filter.mpr ⟨List.mem_of_getElem? (i := 990) (by decide +kernel), by decide +kernel⟩
theorem my_X11_addLink : pm_my mX11_addLink 3 := ⟨mw654, mw230, by decide +kernel⟩
theorem mw656 : Cond.instanceMethod yX11_addLink ∈ pm_tbl := List.mem_filter.mpr ⟨List.mem_of_getElem? (i := 988) (by decide +kernel), by decide +kernel⟩
theorem mw657 : Cond.selects RX11 yX11_addLink yX11_addLink ∈ pm_tbl := List.mem_filter.mpr ⟨List.mem_of_getElem? (i := 989) (by decide +kernel), by decide +kernel⟩
theorem cv_X11_addLink : pm_cv mX11_addLink 3 10 := ⟨my_X11_addLink, mw656, mw657, rfl, TX11, 7, rfl⟩
abbrev mL_addLink : pm_M := (yL_addLink, cL_addLink, 6, 8, 133, some .int, [(0, 12, 15, 23), (0, 12, 19, 13), (0, 12, 23, 28)])
theorem mw658 : Cond.methodLink RL 30 yX11_fail ∈ pm_tbl := List.mem_filter.mpr ⟨List.mem_of_getElem? (i := 994) (by decide +kernel), by decide +kernel⟩
abbrev mX11_fail : pm_M := (yX11_fail, cX11_fail, 2, 7, 110, some .int, [])
theorem mw659 : Cond.code yX11_fail cX11_fail 2 (some .int) ∈ pm_tbl := List.mem_filter.mpr ⟨List.mem_of_getElem? (i := 997) (by decide +kernel), by decide +kernel⟩
theorem my_X11_fail : pm_my mX11_fail 1 := ⟨mw659, mw230, by decide +kernel⟩
theorem mw661 : Cond.instanceMethod yX11_fail ∈ pm_tbl := List.mem_filter.mpr ⟨List.mem_of_getElem? (i := 995) (by decide +kernel), by decide +kernel⟩
theorem mw662 : Cond.selects RX11 yX11_fail yX11_fail ∈ pm_tbl := List.mem_filter.mpr ⟨List.mem_of_getElem? (i := 996) (by decide +kernel), by decide +kernel⟩
theorem cv_X11_fail : pm_cv mX11_fail 1 10 := ⟨my_X11_fail, mw661, mw662, rfl, TX11, 7, rfl⟩
abbrev mL_fail : pm_M := (yL_fail, cL_fail, 4, 8, 131, some .int, [(0, 9, 12, 23), (0, 9, 15, 28)])
theorem mw663 : Cond.methodLink RL 33 yX11_fix ∈ pm_tbl := List.mem_filter.mpr ⟨List.mem_of_getElem? (i := 1001) (by decide +kernel), by decide +kernel⟩
abbrev mX11_fix : pm_M := (yX11_fix, cX11_fix, 2, 7, 110, some .int, [])
theorem mw664 : Cond.code yX11_fix cX11_fix 2 (some .int) ∈ pm_tbl := List.mem_filter.mpr ⟨List.mem_of_getElem? (i := 1004) (by decide +kernel), by decide +kernel⟩
theorem my_X11_fix : pm_my mX11_fix 1 := ⟨mw664, mw230, by decide +kernel⟩
theorem mw666 : Cond.instanceMethod yX11_fix ∈ pm_tbl := List.mem_filter.mpr ⟨List.mem_of_getElem? (i := 1002) (by decide +kernel), by decide +kernel⟩
theorem mw667 : Cond.selects RX11 yX11_fix yX11_fix ∈ pm_tbl := List.mem_filter.mpr ⟨List.mem_of_getElem? (i := 1003) (by decide +kernel), by decide +kernel⟩
theorem cv_X11_fix : pm_cv mX11_fix 1 10 := ⟨my_X11_fix, mw666, mw667, rfl, TX11, 7, rfl⟩
abbrev mL_fix : pm_M := (yL_fix, cL_fix, 4, 8, 131, some .int, [(0, 9, 12, 23), (0, 9, 15, 28)])
theorem mw668 : Cond.methodLink RL 36 yX11_moveHost ∈ pm_tbl := List.mem_filter.mpr ⟨List.mem_of_getElem? (i := 1008) (by decide +kernel), by decide +kernel⟩
abbrev mX11_moveHost : pm_M := (yX11_moveHost, cX11_moveHost, 3, 7, 110, some .int, [])
theorem mw669 : Cond.code yX11_moveHost cX11_moveHost 3 (some .int) ∈ pm_tbl := List.mem_filter.mpr ⟨List.mem_of_getElem? (i := 1011) (by decide +kernel), by decide +kernel⟩
theorem my_X11_moveHost : pm_my mX11_moveHost 2 := ⟨mw669, mw230, by decide +kernel⟩
theorem mw671 : Cond.instanceMethod yX11_moveHost ∈ pm_tbl := List.mem_filter.mpr ⟨List.mem_of_getElem? (i := 1009) (by decide +kernel), by decide +kernel⟩
theorem mw672 : Cond.selects RX11 yX11_moveHost yX11_moveHost ∈ pm_tbl := List.mem_filter.mpr ⟨List.mem_of_getElem? (i := 1010) (by decide +kernel), by decide +kernel⟩
theorem cv_X11_moveHost : pm_cv mX11_moveHost 2 10 := ⟨my_X11_moveHost, mw671, mw672, rfl, TX11, 7, rfl⟩
abbrev mL_moveHost : pm_M := (yL_moveHost, cL_moveHost, 5, 8, 132, some .int, [(0, 10, 13, 23)])
theorem mw673 : Cond.methodLink RL 39 yX11_bid ∈ pm_tbl := List.mem_filter.mpr ⟨List.mem_of_getElem? (i := 1015) (by decide +kernel), by decide +kernel⟩
abbrev mX11_bid : pm_M := (yX11_bid, cX11_bid, 4, 7, 110, some .int, [])
theorem mw674 : Cond.code yX11_bid cX11_bid 4 (some .int) ∈ pm_tbl := List.mem_filter.mpr ⟨List.mem_of_getElem? (i := 1018) (by decide +kernel), by decide +kernel⟩
theorem my_X11_bid : pm_my mX11_bid 3 := ⟨mw674, mw230, by decide +kernel⟩
theorem mw676 : Cond.instanceMethod yX11_bid ∈ pm_tbl := List.mem_filter.mpr ⟨List.mem_of_getElem? (i := 1016) (by decide +kernel), by decide +kernel⟩
theorem mw677 : Cond.selects RX11 yX11_bid yX11_bid ∈ pm_tbl := List.mem_filter.mpr ⟨List.mem_of_getElem? (i := 1017) (by decide +kernel), by decide +kernel⟩
theorem cv_X11_bid : pm_cv mX11_bid 3 10 := ⟨my_X11_bid, mw676, mw677, rfl, TX11, 7, rfl⟩
abbrev mL_bid : pm_M := (yL_bid, cL_bid, 6, 8, 133, some .int, [(0, 12, 15, 23), (0, 12, 19, 13)])
theorem mw678 : Cond.methodLink RL 42 yX11_grant ∈ pm_tbl := List.mem_filter.mpr ⟨List.mem_of_getElem? (i := 1022) (by decide +kernel), by decide +kernel⟩
abbrev mX11_grant : pm_M := (yX11_grant, cX11_grant, 3, 6, 101, some .int, [])
theorem mw679 : Cond.code yX11_grant cX11_grant 3 (some .int) ∈ pm_tbl := List.mem_filter.mpr ⟨List.mem_of_getElem? (i := 1025) (by decide +kernel), by decide +kernel⟩
theorem my_X11_grant : pm_my mX11_grant 2 := ⟨mw679, mw230, by decide +kernel⟩
theorem mw681 : Cond.instanceMethod yX11_grant ∈ pm_tbl := List.mem_filter.mpr ⟨List.mem_of_getElem? (i := 1023) (by decide +kernel), by decide +kernel⟩
theorem mw682 : Cond.selects RX11 yX11_grant yX11_grant ∈ pm_tbl := List.mem_filter.mpr ⟨List.mem_of_getElem? (i := 1024) (by decide +kernel), by decide +kernel⟩
theorem cv_X11_grant : pm_cv mX11_grant 2 10 := ⟨my_X11_grant, mw681, mw682, rfl, TX11, 7, rfl⟩
abbrev mL_grant : pm_M := (yL_grant, cL_grant, 5, 7, 123, some .int, [(0, 10, 13, 23), (0, 10, 17, 13), (0, 10, 21, 28)])
theorem mw683 : Jvm.Cond.constant RX11 161 1000000 ∈ pm_tbl := List.mem_filter.mpr ⟨List.mem_of_getElem? (i := 1027) (by decide +kernel), by decide +kernel⟩
theorem mw684 : Cond.methodLink RL 45 yX11_tick ∈ pm_tbl := List.mem_filter.mpr ⟨List.mem_of_getElem? (i := 1032) (by decide +kernel), by decide +kernel⟩
abbrev mX11_tick : pm_M := (yX11_tick, cX11_tick, 2, 7, 141, some .int, [])
theorem mw685 : Cond.code yX11_tick cX11_tick 2 (some .int) ∈ pm_tbl := List.mem_filter.mpr ⟨List.mem_of_getElem? (i := 1035) (by decide +kernel), by decide +kernel⟩
theorem my_X11_tick : pm_my mX11_tick 1 := ⟨mw685, mw230, by decide +kernel⟩
theorem mw687 : Cond.instanceMethod yX11_tick ∈ pm_tbl := List.mem_filter.mpr ⟨List.mem_of_getElem? (i := 1033) (by decide +kernel), by decide +kernel⟩
theorem mw688 : Cond.selects RX11 yX11_tick yX11_tick ∈ pm_tbl := List.mem_filter.mpr ⟨List.mem_of_getElem? (i := 1034) (by decide +kernel), by decide +kernel⟩
theorem cv_X11_tick : pm_cv mX11_tick 1 10 := ⟨my_X11_tick, mw687, mw688, rfl, TX11, 7, rfl⟩
abbrev mL_tick : pm_M := (yL_tick, cL_tick, 4, 8, 162, some .int, [(0, 9, 12, 13)])
theorem mw689 : Cond.methodLink RL 48 yX11_send ∈ pm_tbl := List.mem_filter.mpr ⟨List.mem_of_getElem? (i := 1039) (by decide +kernel), by decide +kernel⟩
abbrev mX11_send : pm_M := (yX11_send, cX11_send, 3, 6, 122, some .int, [])
theorem mw690 : Cond.code yX11_send cX11_send 3 (some .int) ∈ pm_tbl := List.mem_filter.mpr ⟨List.mem_of_getElem? (i := 1042) (by decide +kernel), by decide +kernel⟩
theorem my_X11_send : pm_my mX11_send 2 := ⟨mw690, mw230, by decide +kernel⟩
theorem mw692 : Cond.instanceMethod yX11_send ∈ pm_tbl := List.mem_filter.mpr ⟨List.mem_of_getElem? (i := 1040) (by decide +kernel), by decide +kernel⟩
theorem mw693 : Cond.selects RX11 yX11_send yX11_send ∈ pm_tbl := List.mem_filter.mpr ⟨List.mem_of_getElem? (i := 1041) (by decide +kernel), by decide +kernel⟩
theorem cv_X11_send : pm_cv mX11_send 2 10 := ⟨my_X11_send, mw692, mw693, rfl, TX11, 7, rfl⟩
abbrev mL_send : pm_M := (yL_send, cL_send, 5, 7, 144, some .int, [(0, 10, 13, 23), (0, 10, 17, 13)])
theorem mw694 : Cond.methodLink RX11 180 yX2_carry ∈ pm_tbl := List.mem_filter.mpr ⟨List.mem_of_getElem? (i := 1045) (by decide +kernel), by decide +kernel⟩
abbrev mX2_carry : pm_M := (yX2_carry, cX2_carry, 5, 4, 98, some .int, [])
theorem mw695 : Cond.code yX2_carry cX2_carry 5 (some .int) ∈ pm_tbl := List.mem_filter.mpr ⟨List.mem_of_getElem? (i := 1048) (by decide +kernel), by decide +kernel⟩
theorem my_X2_carry : pm_my mX2_carry 3 := ⟨mw695, mw50, by decide +kernel⟩
theorem mw697 : Cond.instanceMethod yX2_carry ∈ pm_tbl := List.mem_filter.mpr ⟨List.mem_of_getElem? (i := 1046) (by decide +kernel), by decide +kernel⟩
theorem mw698 : Cond.selects RX2 yX2_carry yX2_carry ∈ pm_tbl := List.mem_filter.mpr ⟨List.mem_of_getElem? (i := 1047) (by decide +kernel), by decide +kernel⟩
theorem cv_X2_carry : pm_cv mX2_carry 3 1 := ⟨my_X2_carry, mw697, mw698, rfl, TX2, 6, rfl⟩
theorem mw699 : Cond.fieldLink RX2 22 RX2 "receivers" "I" ∈ pm_tbl := List.mem_filter.mpr ⟨List.mem_of_getElem? (i := 443) (by decide +kernel), by decide +kernel⟩
theorem fa_X2_22 : pm_fa RX2 22 1 3 false .int := ⟨RX2, TX2, 6, tyX2, rfl, by decide, inX2_t, mw699, tyX2_ok, nmX2, rfl, rfl, rfl⟩
theorem mw700 : Cond.fieldLink RX2 26 RX2 "used" "I" ∈ pm_tbl := List.mem_filter.mpr ⟨List.mem_of_getElem? (i := 444) (by decide +kernel), by decide +kernel⟩
theorem fa_X2_26 : pm_fa RX2 26 1 4 false .int := ⟨RX2, TX2, 6, tyX2, rfl, by decide, inX2_t, mw700, tyX2_ok, nmX2, rfl, rfl, rfl⟩
theorem mw701 : Cond.fieldLink RX2 29 RX2 "delivered" "Z" ∈ pm_tbl := List.mem_filter.mpr ⟨List.mem_of_getElem? (i := 445) (by decide +kernel), by decide +kernel⟩
theorem fa_X2_29 : pm_fa RX2 29 1 5 false .boolean := ⟨RX2, TX2, 6, tyX2, rfl, by decide, inX2_t, mw701, tyX2_ok, nmX2, rfl, rfl, rfl⟩
theorem mw702 : Cond.fieldLink RX2 33 RX4 "bridges" "LBridgeAuction$BridgeRows;" ∈ pm_tbl := List.mem_filter.mpr ⟨List.mem_of_getElem? (i := 289) (by decide +kernel), by decide +kernel⟩
theorem fa_X2_33 : pm_fa RX2 33 3 10 true (.object "BridgeAuction$BridgeRows") := ⟨RX4, TX4, 13, tyX4, rfl, by decide, inX4_t, mw702, tyX4_ok, nmX4, rfl, rfl, rfl⟩
theorem mw703 : Cond.fieldLink RX2 39 RX1 "hostAt" "[I" ∈ pm_tbl := List.mem_filter.mpr ⟨List.mem_of_getElem? (i := 133) (by decide +kernel), by decide +kernel⟩
theorem fa_X2_39 : pm_fa RX2 39 0 5 true (.array .int) := ⟨RX1, TX1, 8, tyX1, rfl, by decide, inX1_t, mw703, tyX1_ok, nmX1, rfl, rfl, rfl⟩
theorem mw704 : Cond.methodLink RX2 44 yX2_receive ∈ pm_tbl := List.mem_filter.mpr ⟨List.mem_of_getElem? (i := 1049) (by decide +kernel), by decide +kernel⟩
abbrev mX2_receive : pm_M := (yX2_receive, cX2_receive, 5, 1, 24, none, [])
theorem mw705 : Cond.code yX2_receive cX2_receive 5 none ∈ pm_tbl := List.mem_filter.mpr ⟨List.mem_of_getElem? (i := 1052) (by decide +kernel), by decide +kernel⟩
theorem my_X2_receive : pm_my mX2_receive 4 := ⟨mw705, mw50, by decide +kernel⟩
theorem mw707 : Cond.instanceMethod yX2_receive ∈ pm_tbl := List.mem_filter.mpr ⟨List.mem_of_getElem? (i := 1051) (by decide +kernel), by decide +kernel⟩
theorem mw708 : Cond.selects RX2 yX2_receive yX2_receive ∈ pm_tbl := List.mem_filter.mpr ⟨List.mem_of_getElem? (i := 17) (by decide +kernel), by decide +kernel⟩
theorem cv_X2_receive : pm_cv mX2_receive 4 1 := ⟨my_X2_receive, mw707, mw708, rfl, TX2, 6, rfl⟩
theorem mw709 : Cond.methodLink RX2 48 yX2_serve ∈ pm_tbl := List.mem_filter.mpr ⟨List.mem_of_getElem? (i := 1054) (by decide +kernel), by decide +kernel⟩
abbrev mX2_serve : pm_M := (yX2_serve, cX2_serve, 7, 3, 72, none, [])
theorem mw710 : Cond.code yX2_serve cX2_serve 7 none ∈ pm_tbl := List.mem_filter.mpr ⟨List.mem_of_getElem? (i := 1057) (by decide +kernel), by decide +kernel⟩
theorem my_X2_serve : pm_my mX2_serve 4 := ⟨mw710, mw50, by decide +kernel⟩
theorem mw712 : Cond.instanceMethod yX2_serve ∈ pm_tbl := List.mem_filter.mpr ⟨List.mem_of_getElem? (i := 1056) (by decide +kernel), by decide +kernel⟩
theorem mw713 : Cond.selects RX2 yX2_serve yX2_serve ∈ pm_tbl := List.mem_filter.mpr ⟨List.mem_of_getElem? (i := 18) (by decide +kernel), by decide +kernel⟩
theorem cv_X2_serve : pm_cv mX2_serve 4 1 := ⟨my_X2_serve, mw712, mw713, rfl, TX2, 6, rfl⟩
theorem mw714 : Cond.fieldLink RX2 51 RX4 "sent" "I" ∈ pm_tbl := List.mem_filter.mpr ⟨List.mem_of_getElem? (i := 279) (by decide +kernel), by decide +kernel⟩
theorem fa_X2_51 : pm_fa RX2 51 3 7 false .int := ⟨RX4, TX4, 13, tyX4, rfl, by decide, inX4_t, mw714, tyX4_ok, nmX4, rfl, rfl, rfl⟩
theorem mw715 : Cond.fieldLink RX2 54 RX4 "used" "I" ∈ pm_tbl := List.mem_filter.mpr ⟨List.mem_of_getElem? (i := 285) (by decide +kernel), by decide +kernel⟩
theorem fa_X2_54 : pm_fa RX2 54 3 9 false .int := ⟨RX4, TX4, 13, tyX4, rfl, by decide, inX4_t, mw715, tyX4_ok, nmX4, rfl, rfl, rfl⟩
theorem mw716 : Cond.fieldLink RX2 55 RX4 "delivered" "I" ∈ pm_tbl := List.mem_filter.mpr ⟨List.mem_of_getElem? (i := 282) (by decide +kernel), by decide +kernel⟩
theorem fa_X2_55 : pm_fa RX2 55 3 8 false .int := ⟨RX4, TX4, 13, tyX4, rfl, by decide, inX4_t, mw716, tyX4_ok, nmX4, rfl, rfl, rfl⟩
theorem mw717 : Cond.fieldLink RX2 57 RX4 "clock" "I" ∈ pm_tbl := List.mem_filter.mpr ⟨List.mem_of_getElem? (i := 262) (by decide +kernel), by decide +kernel⟩
theorem fa_X2_57 : pm_fa RX2 57 3 1 false .int := ⟨RX4, TX4, 13, tyX4, rfl, by decide, inX4_t, mw717, tyX4_ok, nmX4, rfl, rfl, rfl⟩
theorem mw718 : Cond.methodLink RX2 60 yX1_makeEntry ∈ pm_tbl := List.mem_filter.mpr ⟨List.mem_of_getElem? (i := 1053) (by decide +kernel), by decide +kernel⟩
theorem mw719 : Cond.methodLink RX2 64 yX1_validEntry ∈ pm_tbl := List.mem_filter.mpr ⟨List.mem_of_getElem? (i := 1058) (by decide +kernel), by decide +kernel⟩
theorem mw720 : Cond.fieldLink RX2 68 RX4 "links" "LBridgeAuction$LinkRows;" ∈ pm_tbl := List.mem_filter.mpr ⟨List.mem_of_getElem? (i := 297) (by decide +kernel), by decide +kernel⟩
theorem fa_X2_68 : pm_fa RX2 68 3 11 true (.object "BridgeAuction$LinkRows") := ⟨RX4, TX4, 13, tyX4, rfl, by decide, inX4_t, mw720, tyX4_ok, nmX4, rfl, rfl, rfl⟩
theorem mw721 : Cond.methodLink RX2 72 yX3_carries ∈ pm_tbl := List.mem_filter.mpr ⟨List.mem_of_getElem? (i := 1059) (by decide +kernel), by decide +kernel⟩
theorem mw722 : Cond.methodLink RX2 78 yX2_sendOn ∈ pm_tbl := List.mem_filter.mpr ⟨List.mem_of_getElem? (i := 1060) (by decide +kernel), by decide +kernel⟩
abbrev mX2_sendOn : pm_M := (yX2_sendOn, cX2_sendOn, 5, 2, 48, none, [])
theorem mw723 : Cond.code yX2_sendOn cX2_sendOn 5 none ∈ pm_tbl := List.mem_filter.mpr ⟨List.mem_of_getElem? (i := 1063) (by decide +kernel), by decide +kernel⟩
theorem my_X2_sendOn : pm_my mX2_sendOn 4 := ⟨mw723, mw50, by decide +kernel⟩
theorem mw725 : Cond.instanceMethod yX2_sendOn ∈ pm_tbl := List.mem_filter.mpr ⟨List.mem_of_getElem? (i := 1062) (by decide +kernel), by decide +kernel⟩
theorem mw726 : Cond.selects RX2 yX2_sendOn yX2_sendOn ∈ pm_tbl := List.mem_filter.mpr ⟨List.mem_of_getElem? (i := 19) (by decide +kernel), by decide +kernel⟩
theorem cv_X2_sendOn : pm_cv mX2_sendOn 4 1 := ⟨my_X2_sendOn, mw725, mw726, rfl, TX2, 6, rfl⟩
theorem mw727 : Cond.fieldLink RX2 81 RX3 "total" "I" ∈ pm_tbl := List.mem_filter.mpr ⟨List.mem_of_getElem? (i := 167) (by decide +kernel), by decide +kernel⟩
theorem fa_X2_81 : pm_fa RX2 81 2 0 false .int := ⟨RX3, TX3, 12, tyX3, rfl, by decide, inX3_t, mw727, tyX3_ok, nmX3, rfl, rfl, rfl⟩
theorem mw728 : Cond.methodLink RX2 84 yX3_touches ∈ pm_tbl := List.mem_filter.mpr ⟨List.mem_of_getElem? (i := 1068) (by decide +kernel), by decide +kernel⟩
abbrev mX3_touches : pm_M := (yX3_touches, cX3_touches, 3, 0, 0, some .boolean, [])
theorem mw729 : Cond.code yX3_touches cX3_touches 3 (some .boolean) ∈ pm_tbl := List.mem_filter.mpr ⟨List.mem_of_getElem? (i := 1071) (by decide +kernel), by decide +kernel⟩
theorem my_X3_touches : pm_my mX3_touches 2 := ⟨mw729, mw78, by decide +kernel⟩
theorem mw731 : Cond.instanceMethod yX3_touches ∈ pm_tbl := List.mem_filter.mpr ⟨List.mem_of_getElem? (i := 1069) (by decide +kernel), by decide +kernel⟩
theorem mw732 : Cond.selects RX3 yX3_touches yX3_touches ∈ pm_tbl := List.mem_filter.mpr ⟨List.mem_of_getElem? (i := 1070) (by decide +kernel), by decide +kernel⟩
theorem cv_X3_touches : pm_cv mX3_touches 2 2 := ⟨my_X3_touches, mw731, mw732, rfl, TX3, 12, rfl⟩
theorem mw733 : Cond.methodLink RX2 88 yX3_otherEnd ∈ pm_tbl := List.mem_filter.mpr ⟨List.mem_of_getElem? (i := 1064) (by decide +kernel), by decide +kernel⟩
abbrev mX3_otherEnd : pm_M := (yX3_otherEnd, cX3_otherEnd, 3, 0, 0, some .int, [])
theorem mw734 : Cond.code yX3_otherEnd cX3_otherEnd 3 (some .int) ∈ pm_tbl := List.mem_filter.mpr ⟨List.mem_of_getElem? (i := 1067) (by decide +kernel), by decide +kernel⟩
theorem my_X3_otherEnd : pm_my mX3_otherEnd 2 := ⟨mw734, mw78, by decide +kernel⟩
theorem mw736 : Cond.instanceMethod yX3_otherEnd ∈ pm_tbl := List.mem_filter.mpr ⟨List.mem_of_getElem? (i := 1065) (by decide +kernel), by decide +kernel⟩
theorem mw737 : Cond.selects RX3 yX3_otherEnd yX3_otherEnd ∈ pm_tbl := List.mem_filter.mpr ⟨List.mem_of_getElem? (i := 1066) (by decide +kernel), by decide +kernel⟩
theorem cv_X3_otherEnd : pm_cv mX3_otherEnd 2 2 := ⟨my_X3_otherEnd, mw736, mw737, rfl, TX3, 12, rfl⟩
theorem mw738 : Cond.methodLink RL 51 yX11_bridge ∈ pm_tbl := List.mem_filter.mpr ⟨List.mem_of_getElem? (i := 1075) (by decide +kernel), by decide +kernel⟩
abbrev mL_bridge : pm_M := (yL_bridge, cL_bridge, 5, 7, 112, some .int, [(0, 10, 13, 23), (0, 10, 17, 13)])
theorem mw739 : Cond.methodLink RL 54 yX11_link ∈ pm_tbl := List.mem_filter.mpr ⟨List.mem_of_getElem? (i := 1079) (by decide +kernel), by decide +kernel⟩
abbrev mL_link : pm_M := (yL_link, cL_link, 5, 7, 112, some .int, [(0, 10, 13, 23), (0, 10, 17, 13)])
theorem mw740 : Cond.methodLink RL 57 yX11_port ∈ pm_tbl := List.mem_filter.mpr ⟨List.mem_of_getElem? (i := 1083) (by decide +kernel), by decide +kernel⟩
abbrev mL_port : pm_M := (yL_port, cL_port, 6, 7, 114, some .int, [(0, 12, 15, 23), (0, 12, 19, 13)])
theorem mw741 : Cond.methodLink RL 61 yX11_entry ∈ pm_tbl := List.mem_filter.mpr ⟨List.mem_of_getElem? (i := 1087) (by decide +kernel), by decide +kernel⟩
abbrev mL_entry : pm_M := (yL_entry, cL_entry, 5, 8, 132, some .int, [(0, 10, 13, 23)])
theorem mw742 : Cond.methodLink RL 64 yX11_tenant ∈ pm_tbl := List.mem_filter.mpr ⟨List.mem_of_getElem? (i := 1091) (by decide +kernel), by decide +kernel⟩
abbrev mL_tenant : pm_M := (yL_tenant, cL_tenant, 5, 7, 112, some .int, [(0, 10, 13, 23), (0, 10, 17, 13)])
theorem mw743 : Cond.methodLink RL 67 yX11_bidOf ∈ pm_tbl := List.mem_filter.mpr ⟨List.mem_of_getElem? (i := 1095) (by decide +kernel), by decide +kernel⟩
abbrev mL_bidOf : pm_M := (yL_bidOf, cL_bidOf, 5, 8, 132, some .int, [(0, 10, 13, 23)])
theorem mw744 : Cond.methodLink RL 70 yX11_count ∈ pm_tbl := List.mem_filter.mpr ⟨List.mem_of_getElem? (i := 1099) (by decide +kernel), by decide +kernel⟩
abbrev mL_count : pm_M := (yL_count, cL_count, 4, 7, 111, some .int, [(0, 9, 12, 13)])
theorem mw745 : Cond.methodLink RL 73 yX11_type ∈ pm_tbl := List.mem_filter.mpr ⟨List.mem_of_getElem? (i := 1103) (by decide +kernel), by decide +kernel⟩
abbrev mX11_type : pm_M := (yX11_type, cX11_type, 2, 6, 90, some .int, [])
theorem mw746 : Cond.code yX11_type cX11_type 2 (some .int) ∈ pm_tbl := List.mem_filter.mpr ⟨List.mem_of_getElem? (i := 1106) (by decide +kernel), by decide +kernel⟩
theorem my_X11_type : pm_my mX11_type 1 := ⟨mw746, mw230, by decide +kernel⟩
theorem mw748 : Cond.instanceMethod yX11_type ∈ pm_tbl := List.mem_filter.mpr ⟨List.mem_of_getElem? (i := 1104) (by decide +kernel), by decide +kernel⟩
theorem mw749 : Cond.selects RX11 yX11_type yX11_type ∈ pm_tbl := List.mem_filter.mpr ⟨List.mem_of_getElem? (i := 1105) (by decide +kernel), by decide +kernel⟩
theorem cv_X11_type : pm_cv mX11_type 1 10 := ⟨my_X11_type, mw748, mw749, rfl, TX11, 7, rfl⟩
abbrev mL_type : pm_M := (yL_type, cL_type, 4, 7, 111, some .int, [(0, 9, 12, 13), (0, 9, 15, 28)])
theorem mw750 : Cond.methodLink RX11 253 yX7_isFull ∈ pm_tbl := List.mem_filter.mpr ⟨List.mem_of_getElem? (i := 1108) (by decide +kernel), by decide +kernel⟩
abbrev mX7_isFull : pm_M := (yX7_isFull, cX7_isFull, 1, 0, 0, some .boolean, [])
theorem mw751 : Cond.code yX7_isFull cX7_isFull 1 (some .boolean) ∈ pm_tbl := List.mem_filter.mpr ⟨List.mem_of_getElem? (i := 1111) (by decide +kernel), by decide +kernel⟩
theorem my_X7_isFull : pm_my mX7_isFull 0 := ⟨mw751, mw26, by decide +kernel⟩
theorem mw753 : Cond.instanceMethod yX7_isFull ∈ pm_tbl := List.mem_filter.mpr ⟨List.mem_of_getElem? (i := 1109) (by decide +kernel), by decide +kernel⟩
theorem mw754 : Cond.selects RX7 yX7_isFull yX7_isFull ∈ pm_tbl := List.mem_filter.mpr ⟨List.mem_of_getElem? (i := 1110) (by decide +kernel), by decide +kernel⟩
theorem cv_X7_isFull : pm_cv mX7_isFull 0 6 := ⟨my_X7_isFull, mw753, mw754, rfl, TX7, 6, rfl⟩
theorem mw755 : Cond.methodLink RX11 259 yX7_append ∈ pm_tbl := List.mem_filter.mpr ⟨List.mem_of_getElem? (i := 1113) (by decide +kernel), by decide +kernel⟩
abbrev mX7_append : pm_M := (yX7_append, cX7_append, 2, 1, 20, some .int, [])
theorem mw756 : Cond.code yX7_append cX7_append 2 (some .int) ∈ pm_tbl := List.mem_filter.mpr ⟨List.mem_of_getElem? (i := 1116) (by decide +kernel), by decide +kernel⟩
theorem my_X7_append : pm_my mX7_append 1 := ⟨mw756, mw26, by decide +kernel⟩
theorem mw758 : Cond.instanceMethod yX7_append ∈ pm_tbl := List.mem_filter.mpr ⟨List.mem_of_getElem? (i := 1114) (by decide +kernel), by decide +kernel⟩
theorem mw759 : Cond.selects RX7 yX7_append yX7_append ∈ pm_tbl := List.mem_filter.mpr ⟨List.mem_of_getElem? (i := 1115) (by decide +kernel), by decide +kernel⟩
theorem cv_X7_append : pm_cv mX7_append 1 6 := ⟨my_X7_append, mw758, mw759, rfl, TX7, 6, rfl⟩
theorem mw760 : Cond.methodLink RX7 22 yX7_isFull ∈ pm_tbl := List.mem_filter.mpr ⟨List.mem_of_getElem? (i := 1117) (by decide +kernel), by decide +kernel⟩
theorem mw761 : Cond.methodLink RL 76 yX11_undo ∈ pm_tbl := List.mem_filter.mpr ⟨List.mem_of_getElem? (i := 1121) (by decide +kernel), by decide +kernel⟩
abbrev mX11_undo : pm_M := (yX11_undo, cX11_undo, 1, 6, 101, some .int, [])
theorem mw762 : Cond.code yX11_undo cX11_undo 1 (some .int) ∈ pm_tbl := List.mem_filter.mpr ⟨List.mem_of_getElem? (i := 1124) (by decide +kernel), by decide +kernel⟩
theorem my_X11_undo : pm_my mX11_undo 0 := ⟨mw762, mw230, by decide +kernel⟩
theorem mw764 : Cond.instanceMethod yX11_undo ∈ pm_tbl := List.mem_filter.mpr ⟨List.mem_of_getElem? (i := 1122) (by decide +kernel), by decide +kernel⟩
theorem mw765 : Cond.selects RX11 yX11_undo yX11_undo ∈ pm_tbl := List.mem_filter.mpr ⟨List.mem_of_getElem? (i := 1123) (by decide +kernel), by decide +kernel⟩
theorem cv_X11_undo : pm_cv mX11_undo 0 10 := ⟨my_X11_undo, mw764, mw765, rfl, TX11, 7, rfl⟩
abbrev mL_undo : pm_M := (yL_undo, cL_undo, 3, 7, 121, some .int, [(0, 8, 11, 28)])
theorem mw766 : Cond.methodLink RX11 279 yX9_restore ∈ pm_tbl := List.mem_filter.mpr ⟨List.mem_of_getElem? (i := 1126) (by decide +kernel), by decide +kernel⟩
abbrev mX9_restore : pm_M := (yX9_restore, cX9_restore, 2, 3, 80, none, [])
theorem mw767 : Cond.code yX9_restore cX9_restore 2 none ∈ pm_tbl := List.mem_filter.mpr ⟨List.mem_of_getElem? (i := 1129) (by decide +kernel), by decide +kernel⟩
theorem my_X9_restore : pm_my mX9_restore 1 := ⟨mw767, mw18, by decide +kernel⟩
theorem mw769 : Cond.instanceMethod yX9_restore ∈ pm_tbl := List.mem_filter.mpr ⟨List.mem_of_getElem? (i := 1127) (by decide +kernel), by decide +kernel⟩
theorem mw770 : Cond.selects RX9 yX9_restore yX9_restore ∈ pm_tbl := List.mem_filter.mpr ⟨List.mem_of_getElem? (i := 1128) (by decide +kernel), by decide +kernel⟩
theorem cv_X9_restore : pm_cv mX9_restore 1 8 := ⟨my_X9_restore, mw769, mw770, rfl, TX9, 2, rfl⟩
theorem mw771 : Cond.methodLink RX12 1 Lib.objectInit ∈ pm_tbl := List.mem_filter.mpr ⟨List.mem_of_getElem? (i := 1135) (by decide +kernel), by decide +kernel⟩
theorem mw772 : Cond.fieldLink RX12 7 RX12 "s" "[I" ∈ pm_tbl := List.mem_filter.mpr ⟨List.mem_of_getElem? (i := 1155) (by decide +kernel), by decide +kernel⟩
theorem inX12_t : ∀ w ∈ u_ws RX12 TX12 15, w ∈ pm_tbl := by decide +kernel
theorem fa_X12_7 : pm_fa RX12 7 11 0 true (.array .int) := ⟨RX12, TX12, 15, tyX12, rfl, by decide, inX12_t, mw772, tyX12_ok, nmX12, rfl, rfl, rfl⟩
theorem mw773 : Cond.fieldLink RX12 13 RX12 "past" "[I" ∈ pm_tbl := List.mem_filter.mpr ⟨List.mem_of_getElem? (i := 1156) (by decide +kernel), by decide +kernel⟩
theorem fa_X12_13 : pm_fa RX12 13 11 1 true (.array .int) := ⟨RX12, TX12, 15, tyX12, rfl, by decide, inX12_t, mw773, tyX12_ok, nmX12, rfl, rfl, rfl⟩
theorem mw774 : Cond.fieldLink RX12 16 RX12 "aside" "[I" ∈ pm_tbl := List.mem_filter.mpr ⟨List.mem_of_getElem? (i := 1157) (by decide +kernel), by decide +kernel⟩
theorem fa_X12_16 : pm_fa RX12 16 11 2 true (.array .int) := ⟨RX12, TX12, 15, tyX12, rfl, by decide, inX12_t, mw774, tyX12_ok, nmX12, rfl, rfl, rfl⟩
theorem mw775 : Cond.fieldLink RX12 19 RX12 "script" "[I" ∈ pm_tbl := List.mem_filter.mpr ⟨List.mem_of_getElem? (i := 1159) (by decide +kernel), by decide +kernel⟩
theorem fa_X12_19 : pm_fa RX12 19 11 4 true (.array .int) := ⟨RX12, TX12, 15, tyX12, rfl, by decide, inX12_t, mw775, tyX12_ok, nmX12, rfl, rfl, rfl⟩
theorem mw776 : Cond.fieldLink RX12 22 RX12 "fresh" "[I" ∈ pm_tbl := List.mem_filter.mpr ⟨List.mem_of_getElem? (i := 1163) (by decide +kernel), by decide +kernel⟩
theorem fa_X12_22 : pm_fa RX12 22 11 8 true (.array .int) := ⟨RX12, TX12, 15, tyX12, rfl, by decide, inX12_t, mw776, tyX12_ok, nmX12, rfl, rfl, rfl⟩
theorem mw777 : Cond.fieldLink RX12 25 RX12 "queue" "[I" ∈ pm_tbl := List.mem_filter.mpr ⟨List.mem_of_getElem? (i := 1164) (by decide +kernel), by decide +kernel⟩
theorem fa_X12_25 : pm_fa RX12 25 11 9 true (.array .int) := ⟨RX12, TX12, 15, tyX12, rfl, by decide, inX12_t, mw777, tyX12_ok, nmX12, rfl, rfl, rfl⟩
theorem mw778 : Cond.fieldLink RX12 28 RX12 "cameBy" "[I" ∈ pm_tbl := List.mem_filter.mpr ⟨List.mem_of_getElem? (i := 1165) (by decide +kernel), by decide +kernel⟩
theorem fa_X12_28 : pm_fa RX12 28 11 10 true (.array .int) := ⟨RX12, TX12, 15, tyX12, rfl, by decide, inX12_t, mw778, tyX12_ok, nmX12, rfl, rfl, rfl⟩
theorem mw779 : Cond.fieldLink RX12 31 RX12 "numbers" "[I" ∈ pm_tbl := List.mem_filter.mpr ⟨List.mem_of_getElem? (i := 1168) (by decide +kernel), by decide +kernel⟩
theorem fa_X12_31 : pm_fa RX12 31 11 13 true (.array .int) := ⟨RX12, TX12, 15, tyX12, rfl, by decide, inX12_t, mw779, tyX12_ok, nmX12, rfl, rfl, rfl⟩
theorem mw780 : Cond.methodLink RX12 34 yX12_begins ∈ pm_tbl := List.mem_filter.mpr ⟨List.mem_of_getElem? (i := 1136) (by decide +kernel), by decide +kernel⟩
abbrev mX12_begins : pm_M := (yX12_begins, cX12_begins, 3, 2, 43, none, [])
theorem mw781 : Cond.code yX12_begins cX12_begins 3 none ∈ pm_tbl := List.mem_filter.mpr ⟨List.mem_of_getElem? (i := 1139) (by decide +kernel), by decide +kernel⟩
theorem mw782 : Cond.initialized RX12 ∈ pm_tbl := List.mem_filter.mpr ⟨List.mem_of_getElem? (i := 86) (by decide +kernel), by decide +kernel⟩
theorem my_X12_begins : pm_my mX12_begins 1 := ⟨mw781, mw782, by decide +kernel⟩
theorem mw784 : Cond.instanceMethod yX12_begins ∈ pm_tbl := List.mem_filter.mpr ⟨List.mem_of_getElem? (i := 1138) (by decide +kernel), by decide +kernel⟩
theorem mw785 : Cond.selects RX12 yX12_begins yX12_begins ∈ pm_tbl := List.mem_filter.mpr ⟨List.mem_of_getElem? (i := 20) (by decide +kernel), by decide +kernel⟩
theorem cv_X12_begins : pm_cv mX12_begins 1 11 := ⟨my_X12_begins, mw784, mw785, rfl, TX12, 15, rfl⟩
abbrev mX12_init : pm_M := (yX12_init, cX12_init, 1, 3, 65, none, [])
theorem mw786 : Cond.methodLink RX12 49 yX12_in ∈ pm_tbl := List.mem_filter.mpr ⟨List.mem_of_getElem? (i := 1140) (by decide +kernel), by decide +kernel⟩
abbrev mX12_in : pm_M := (yX12_in, cX12_in, 3, 0, 0, some .boolean, [])
theorem mw787 : Cond.code yX12_in cX12_in 3 (some .boolean) ∈ pm_tbl := List.mem_filter.mpr ⟨List.mem_of_getElem? (i := 1142) (by decide +kernel), by decide +kernel⟩
theorem my_X12_in : pm_my mX12_in 3 := ⟨mw787, mw782, by decide +kernel⟩
theorem mw789 : Cond.static yX12_in ∈ pm_tbl := List.mem_filter.mpr ⟨List.mem_of_getElem? (i := 1141) (by decide +kernel), by decide +kernel⟩
theorem cs_X12_in : pm_cs mX12_in 3 := ⟨my_X12_in, mw789, rfl⟩
theorem mw790 : Cond.methodLink RX12 56 yX12_startsAnew ∈ pm_tbl := List.mem_filter.mpr ⟨List.mem_of_getElem? (i := 1143) (by decide +kernel), by decide +kernel⟩
abbrev mX12_startsAnew : pm_M := (yX12_startsAnew, cX12_startsAnew, 3, 1, 21, none, [])
theorem mw791 : Cond.code yX12_startsAnew cX12_startsAnew 3 none ∈ pm_tbl := List.mem_filter.mpr ⟨List.mem_of_getElem? (i := 1146) (by decide +kernel), by decide +kernel⟩
theorem my_X12_startsAnew : pm_my mX12_startsAnew 1 := ⟨mw791, mw782, by decide +kernel⟩
theorem mw793 : Cond.instanceMethod yX12_startsAnew ∈ pm_tbl := List.mem_filter.mpr ⟨List.mem_of_getElem? (i := 1145) (by decide +kernel), by decide +kernel⟩
theorem mw794 : Cond.selects RX12 yX12_startsAnew yX12_startsAnew ∈ pm_tbl := List.mem_filter.mpr ⟨List.mem_of_getElem? (i := 21) (by decide +kernel), by decide +kernel⟩
theorem cv_X12_startsAnew : pm_cv mX12_startsAnew 1 11 := ⟨my_X12_startsAnew, mw793, mw794, rfl, TX12, 15, rfl⟩
theorem mw795 : Cond.methodLink RX12 59 yX12_flushes ∈ pm_tbl := List.mem_filter.mpr ⟨List.mem_of_getElem? (i := 1151) (by decide +kernel), by decide +kernel⟩
abbrev mX12_flushes : pm_M := (yX12_flushes, cX12_flushes, 3, 0, 0, none, [])
theorem mw796 : Cond.code yX12_flushes cX12_flushes 3 none ∈ pm_tbl := List.mem_filter.mpr ⟨List.mem_of_getElem? (i := 1154) (by decide +kernel), by decide +kernel⟩
theorem my_X12_flushes : pm_my mX12_flushes 1 := ⟨mw796, mw782, by decide +kernel⟩
theorem mw798 : Cond.instanceMethod yX12_flushes ∈ pm_tbl := List.mem_filter.mpr ⟨List.mem_of_getElem? (i := 1153) (by decide +kernel), by decide +kernel⟩
theorem mw799 : Cond.selects RX12 yX12_flushes yX12_flushes ∈ pm_tbl := List.mem_filter.mpr ⟨List.mem_of_getElem? (i := 23) (by decide +kernel), by decide +kernel⟩
theorem cv_X12_flushes : pm_cv mX12_flushes 1 11 := ⟨my_X12_flushes, mw798, mw799, rfl, TX12, 15, rfl⟩
theorem mw800 : Cond.methodLink RX12 53 yX12_idOf ∈ pm_tbl := List.mem_filter.mpr ⟨List.mem_of_getElem? (i := 1147) (by decide +kernel), by decide +kernel⟩
abbrev mX12_idOf : pm_M := (yX12_idOf, cX12_idOf, 2, 0, 0, some .int, [])
theorem mw801 : Cond.code yX12_idOf cX12_idOf 2 (some .int) ∈ pm_tbl := List.mem_filter.mpr ⟨List.mem_of_getElem? (i := 1150) (by decide +kernel), by decide +kernel⟩
theorem my_X12_idOf : pm_my mX12_idOf 1 := ⟨mw801, mw782, by decide +kernel⟩
theorem mw803 : Cond.instanceMethod yX12_idOf ∈ pm_tbl := List.mem_filter.mpr ⟨List.mem_of_getElem? (i := 1149) (by decide +kernel), by decide +kernel⟩
theorem mw804 : Cond.selects RX12 yX12_idOf yX12_idOf ∈ pm_tbl := List.mem_filter.mpr ⟨List.mem_of_getElem? (i := 22) (by decide +kernel), by decide +kernel⟩
theorem cv_X12_idOf : pm_cv mX12_idOf 1 11 := ⟨my_X12_idOf, mw803, mw804, rfl, TX12, 15, rfl⟩
theorem mw805 : Cond.fieldLink RX12 38 RX12 "thrown" "I" ∈ pm_tbl := List.mem_filter.mpr ⟨List.mem_of_getElem? (i := 1161) (by decide +kernel), by decide +kernel⟩
theorem fa_X12_38 : pm_fa RX12 38 11 6 false .int := ⟨RX12, TX12, 15, tyX12, rfl, by decide, inX12_t, mw805, tyX12_ok, nmX12, rfl, rfl, rfl⟩
abbrev mX12_thrown : pm_M := (yX12_thrown, cX12_thrown, 1, 0, 0, some .int, [])
theorem mw806 : Cond.methodLink RX12 70 yX12_fails ∈ pm_tbl := List.mem_filter.mpr ⟨List.mem_of_getElem? (i := 1209) (by decide +kernel), by decide +kernel⟩
abbrev mX12_fails : pm_M := (yX12_fails, cX12_fails, 2, 0, 0, some .int, [])
theorem mw807 : Cond.code yX12_fails cX12_fails 2 (some .int) ∈ pm_tbl := List.mem_filter.mpr ⟨List.mem_of_getElem? (i := 1212) (by decide +kernel), by decide +kernel⟩
theorem my_X12_fails : pm_my mX12_fails 1 := ⟨mw807, mw782, by decide +kernel⟩
theorem mw809 : Cond.instanceMethod yX12_fails ∈ pm_tbl := List.mem_filter.mpr ⟨List.mem_of_getElem? (i := 1211) (by decide +kernel), by decide +kernel⟩
theorem mw810 : Cond.selects RX12 yX12_fails yX12_fails ∈ pm_tbl := List.mem_filter.mpr ⟨List.mem_of_getElem? (i := 24) (by decide +kernel), by decide +kernel⟩
theorem cv_X12_fails : pm_cv mX12_fails 1 11 := ⟨my_X12_fails, mw809, mw810, rfl, TX12, 15, rfl⟩
theorem mw811 : Cond.methodLink RX12 73 yX12_hold ∈ pm_tbl := List.mem_filter.mpr ⟨List.mem_of_getElem? (i := 1213) (by decide +kernel), by decide +kernel⟩
abbrev mX12_hold : pm_M := (yX12_hold, cX12_hold, 2, 0, 0, none, [])
theorem mw812 : Cond.code yX12_hold cX12_hold 2 none ∈ pm_tbl := List.mem_filter.mpr ⟨List.mem_of_getElem? (i := 1216) (by decide +kernel), by decide +kernel⟩
theorem my_X12_hold : pm_my mX12_hold 0 := ⟨mw812, mw782, by decide +kernel⟩
theorem mw814 : Cond.instanceMethod yX12_hold ∈ pm_tbl := List.mem_filter.mpr ⟨List.mem_of_getElem? (i := 1215) (by decide +kernel), by decide +kernel⟩
theorem mw815 : Cond.selects RX12 yX12_hold yX12_hold ∈ pm_tbl := List.mem_filter.mpr ⟨List.mem_of_getElem? (i := 25) (by decide +kernel), by decide +kernel⟩
theorem cv_X12_hold : pm_cv mX12_hold 0 11 := ⟨my_X12_hold, mw814, mw815, rfl, TX12, 15, rfl⟩
theorem mw816 : Cond.methodLink RX12 76 yX12_ends ∈ pm_tbl := List.mem_filter.mpr ⟨List.mem_of_getElem? (i := 1217) (by decide +kernel), by decide +kernel⟩
abbrev mX12_ends : pm_M := (yX12_ends, cX12_ends, 3, 1, 21, some .int, [])
theorem mw817 : Cond.code yX12_ends cX12_ends 3 (some .int) ∈ pm_tbl := List.mem_filter.mpr ⟨List.mem_of_getElem? (i := 1220) (by decide +kernel), by decide +kernel⟩
theorem my_X12_ends : pm_my mX12_ends 1 := ⟨mw817, mw782, by decide +kernel⟩
theorem mw819 : Cond.instanceMethod yX12_ends ∈ pm_tbl := List.mem_filter.mpr ⟨List.mem_of_getElem? (i := 1219) (by decide +kernel), by decide +kernel⟩
theorem mw820 : Cond.selects RX12 yX12_ends yX12_ends ∈ pm_tbl := List.mem_filter.mpr ⟨List.mem_of_getElem? (i := 26) (by decide +kernel), by decide +kernel⟩
theorem cv_X12_ends : pm_cv mX12_ends 1 11 := ⟨my_X12_ends, mw819, mw820, rfl, TX12, 15, rfl⟩
abbrev mX12_setBridges : pm_M := (yX12_setBridges, cX12_setBridges, 3, 3, 65, some .int, [])
theorem mw821 : Cond.fieldLink RX12 42 RX12 "pasts" "I" ∈ pm_tbl := List.mem_filter.mpr ⟨List.mem_of_getElem? (i := 1158) (by decide +kernel), by decide +kernel⟩
theorem fa_X12_42 : pm_fa RX12 42 11 3 false .int := ⟨RX12, TX12, 15, tyX12, rfl, by decide, inX12_t, mw821, tyX12_ok, nmX12, rfl, rfl, rfl⟩
theorem mw822 : Cond.methodLink RX12 45 yX12_tells ∈ pm_tbl := List.mem_filter.mpr ⟨List.mem_of_getElem? (i := 1221) (by decide +kernel), by decide +kernel⟩
abbrev mX12_tells : pm_M := (yX12_tells, cX12_tells, 2, 0, 0, some .int, [])
theorem mw823 : Cond.code yX12_tells cX12_tells 2 (some .int) ∈ pm_tbl := List.mem_filter.mpr ⟨List.mem_of_getElem? (i := 1224) (by decide +kernel), by decide +kernel⟩
theorem my_X12_tells : pm_my mX12_tells 1 := ⟨mw823, mw782, by decide +kernel⟩
theorem mw825 : Cond.instanceMethod yX12_tells ∈ pm_tbl := List.mem_filter.mpr ⟨List.mem_of_getElem? (i := 1223) (by decide +kernel), by decide +kernel⟩
theorem mw826 : Cond.selects RX12 yX12_tells yX12_tells ∈ pm_tbl := List.mem_filter.mpr ⟨List.mem_of_getElem? (i := 27) (by decide +kernel), by decide +kernel⟩
theorem cv_X12_tells : pm_cv mX12_tells 1 11 := ⟨my_X12_tells, mw825, mw826, rfl, TX12, 15, rfl⟩
abbrev mX12_setTimes : pm_M := (yX12_setTimes, cX12_setTimes, 5, 2, 43, some .int, [])
theorem mw827 : Cond.methodLink RX12 101 yX12_prioritizes ∈ pm_tbl := List.mem_filter.mpr ⟨List.mem_of_getElem? (i := 1233) (by decide +kernel), by decide +kernel⟩
abbrev mX12_prioritizes : pm_M := (yX12_prioritizes, cX12_prioritizes, 3, 2, 43, some .int, [])
theorem mw828 : Cond.code yX12_prioritizes cX12_prioritizes 3 (some .int) ∈ pm_tbl := List.mem_filter.mpr ⟨List.mem_of_getElem? (i := 1236) (by decide +kernel), by decide +kernel⟩
theorem my_X12_prioritizes : pm_my mX12_prioritizes 2 := ⟨mw828, mw782, by decide +kernel⟩
theorem mw830 : Cond.instanceMethod yX12_prioritizes ∈ pm_tbl := List.mem_filter.mpr ⟨List.mem_of_getElem? (i := 1235) (by decide +kernel), by decide +kernel⟩
theorem mw831 : Cond.selects RX12 yX12_prioritizes yX12_prioritizes ∈ pm_tbl := List.mem_filter.mpr ⟨List.mem_of_getElem? (i := 28) (by decide +kernel), by decide +kernel⟩
theorem cv_X12_prioritizes : pm_cv mX12_prioritizes 2 11 := ⟨my_X12_prioritizes, mw830, mw831, rfl, TX12, 15, rfl⟩
theorem mw832 : Cond.methodLink RX12 104 yX12_done ∈ pm_tbl := List.mem_filter.mpr ⟨List.mem_of_getElem? (i := 1241) (by decide +kernel), by decide +kernel⟩
abbrev mX12_done : pm_M := (yX12_done, cX12_done, 2, 2, 43, some .int, [])
theorem mw833 : Cond.code yX12_done cX12_done 2 (some .int) ∈ pm_tbl := List.mem_filter.mpr ⟨List.mem_of_getElem? (i := 1244) (by decide +kernel), by decide +kernel⟩
theorem my_X12_done : pm_my mX12_done 1 := ⟨mw833, mw782, by decide +kernel⟩
theorem mw835 : Cond.instanceMethod yX12_done ∈ pm_tbl := List.mem_filter.mpr ⟨List.mem_of_getElem? (i := 1243) (by decide +kernel), by decide +kernel⟩
theorem mw836 : Cond.selects RX12 yX12_done yX12_done ∈ pm_tbl := List.mem_filter.mpr ⟨List.mem_of_getElem? (i := 30) (by decide +kernel), by decide +kernel⟩
theorem cv_X12_done : pm_cv mX12_done 1 11 := ⟨my_X12_done, mw835, mw836, rfl, TX12, 15, rfl⟩
abbrev mX12_setPriority : pm_M := (yX12_setPriority, cX12_setPriority, 3, 3, 65, some .int, [])
theorem mw837 : Cond.methodLink RX12 79 yX12_isBridge ∈ pm_tbl := List.mem_filter.mpr ⟨List.mem_of_getElem? (i := 1237) (by decide +kernel), by decide +kernel⟩
abbrev mX12_isBridge : pm_M := (yX12_isBridge, cX12_isBridge, 2, 1, 22, some .boolean, [])
theorem mw838 : Cond.code yX12_isBridge cX12_isBridge 2 (some .boolean) ∈ pm_tbl := List.mem_filter.mpr ⟨List.mem_of_getElem? (i := 1240) (by decide +kernel), by decide +kernel⟩
theorem my_X12_isBridge : pm_my mX12_isBridge 1 := ⟨mw838, mw782, by decide +kernel⟩
theorem mw840 : Cond.instanceMethod yX12_isBridge ∈ pm_tbl := List.mem_filter.mpr ⟨List.mem_of_getElem? (i := 1239) (by decide +kernel), by decide +kernel⟩
theorem mw841 : Cond.selects RX12 yX12_isBridge yX12_isBridge ∈ pm_tbl := List.mem_filter.mpr ⟨List.mem_of_getElem? (i := 29) (by decide +kernel), by decide +kernel⟩
theorem cv_X12_isBridge : pm_cv mX12_isBridge 1 11 := ⟨my_X12_isBridge, mw840, mw841, rfl, TX12, 15, rfl⟩
theorem mw842 : Cond.fieldLink RX12 82 RX12 "answer" "I" ∈ pm_tbl := List.mem_filter.mpr ⟨List.mem_of_getElem? (i := 1162) (by decide +kernel), by decide +kernel⟩
theorem fa_X12_82 : pm_fa RX12 82 11 7 false .int := ⟨RX12, TX12, 15, tyX12, rfl, by decide, inX12_t, mw842, tyX12_ok, nmX12, rfl, rfl, rfl⟩
theorem mw843 : Cond.methodLink RX12 107 yX12_joins ∈ pm_tbl := List.mem_filter.mpr ⟨List.mem_of_getElem? (i := 1249) (by decide +kernel), by decide +kernel⟩
abbrev mX12_joins : pm_M := (yX12_joins, cX12_joins, 5, 2, 43, some .int, [])
theorem mw844 : Cond.code yX12_joins cX12_joins 5 (some .int) ∈ pm_tbl := List.mem_filter.mpr ⟨List.mem_of_getElem? (i := 1252) (by decide +kernel), by decide +kernel⟩
theorem my_X12_joins : pm_my mX12_joins 3 := ⟨mw844, mw782, by decide +kernel⟩
theorem mw846 : Cond.instanceMethod yX12_joins ∈ pm_tbl := List.mem_filter.mpr ⟨List.mem_of_getElem? (i := 1251) (by decide +kernel), by decide +kernel⟩
theorem mw847 : Cond.selects RX12 yX12_joins yX12_joins ∈ pm_tbl := List.mem_filter.mpr ⟨List.mem_of_getElem? (i := 31) (by decide +kernel), by decide +kernel⟩
theorem cv_X12_joins : pm_cv mX12_joins 3 11 := ⟨my_X12_joins, mw846, mw847, rfl, TX12, 15, rfl⟩
abbrev mX12_addLink : pm_M := (yX12_addLink, cX12_addLink, 4, 3, 67, some .int, [])
theorem mw848 : Cond.methodLink RX12 85 yX12_puts ∈ pm_tbl := List.mem_filter.mpr ⟨List.mem_of_getElem? (i := 1253) (by decide +kernel), by decide +kernel⟩
abbrev mX12_puts : pm_M := (yX12_puts, cX12_puts, 4, 0, 0, none, [])
theorem mw849 : Cond.code yX12_puts cX12_puts 4 none ∈ pm_tbl := List.mem_filter.mpr ⟨List.mem_of_getElem? (i := 1256) (by decide +kernel), by decide +kernel⟩
theorem my_X12_puts : pm_my mX12_puts 3 := ⟨mw849, mw782, by decide +kernel⟩
theorem mw851 : Cond.instanceMethod yX12_puts ∈ pm_tbl := List.mem_filter.mpr ⟨List.mem_of_getElem? (i := 1255) (by decide +kernel), by decide +kernel⟩
theorem mw852 : Cond.selects RX12 yX12_puts yX12_puts ∈ pm_tbl := List.mem_filter.mpr ⟨List.mem_of_getElem? (i := 32) (by decide +kernel), by decide +kernel⟩
theorem cv_X12_puts : pm_cv mX12_puts 3 11 := ⟨my_X12_puts, mw851, mw852, rfl, TX12, 15, rfl⟩
theorem mw853 : Cond.methodLink RX12 111 yX12_breaks ∈ pm_tbl := List.mem_filter.mpr ⟨List.mem_of_getElem? (i := 1261) (by decide +kernel), by decide +kernel⟩
abbrev mX12_breaks : pm_M := (yX12_breaks, cX12_breaks, 4, 2, 43, some .int, [])
theorem mw854 : Cond.code yX12_breaks cX12_breaks 4 (some .int) ∈ pm_tbl := List.mem_filter.mpr ⟨List.mem_of_getElem? (i := 1264) (by decide +kernel), by decide +kernel⟩
theorem my_X12_breaks : pm_my mX12_breaks 1 := ⟨mw854, mw782, by decide +kernel⟩
theorem mw856 : Cond.instanceMethod yX12_breaks ∈ pm_tbl := List.mem_filter.mpr ⟨List.mem_of_getElem? (i := 1263) (by decide +kernel), by decide +kernel⟩
theorem mw857 : Cond.selects RX12 yX12_breaks yX12_breaks ∈ pm_tbl := List.mem_filter.mpr ⟨List.mem_of_getElem? (i := 33) (by decide +kernel), by decide +kernel⟩
theorem cv_X12_breaks : pm_cv mX12_breaks 1 11 := ⟨my_X12_breaks, mw856, mw857, rfl, TX12, 15, rfl⟩
abbrev mX12_fail : pm_M := (yX12_fail, cX12_fail, 2, 3, 66, some .int, [])
theorem mw858 : Cond.methodLink RX12 89 yX12_isLink ∈ pm_tbl := List.mem_filter.mpr ⟨List.mem_of_getElem? (i := 1265) (by decide +kernel), by decide +kernel⟩
abbrev mX12_isLink : pm_M := (yX12_isLink, cX12_isLink, 2, 1, 22, some .boolean, [])
theorem mw859 : Cond.code yX12_isLink cX12_isLink 2 (some .boolean) ∈ pm_tbl := List.mem_filter.mpr ⟨List.mem_of_getElem? (i := 1268) (by decide +kernel), by decide +kernel⟩
theorem my_X12_isLink : pm_my mX12_isLink 1 := ⟨mw859, mw782, by decide +kernel⟩
theorem mw861 : Cond.instanceMethod yX12_isLink ∈ pm_tbl := List.mem_filter.mpr ⟨List.mem_of_getElem? (i := 1267) (by decide +kernel), by decide +kernel⟩
theorem mw862 : Cond.selects RX12 yX12_isLink yX12_isLink ∈ pm_tbl := List.mem_filter.mpr ⟨List.mem_of_getElem? (i := 34) (by decide +kernel), by decide +kernel⟩
theorem cv_X12_isLink : pm_cv mX12_isLink 1 11 := ⟨my_X12_isLink, mw861, mw862, rfl, TX12, 15, rfl⟩
theorem mw863 : Cond.methodLink RX12 62 yX12_of ∈ pm_tbl := List.mem_filter.mpr ⟨List.mem_of_getElem? (i := 1269) (by decide +kernel), by decide +kernel⟩
abbrev mX12_of : pm_M := (yX12_of, cX12_of, 3, 0, 0, some .int, [])
theorem mw864 : Cond.code yX12_of cX12_of 3 (some .int) ∈ pm_tbl := List.mem_filter.mpr ⟨List.mem_of_getElem? (i := 1272) (by decide +kernel), by decide +kernel⟩
theorem my_X12_of : pm_my mX12_of 2 := ⟨mw864, mw782, by decide +kernel⟩
theorem mw866 : Cond.instanceMethod yX12_of ∈ pm_tbl := List.mem_filter.mpr ⟨List.mem_of_getElem? (i := 1271) (by decide +kernel), by decide +kernel⟩
theorem mw867 : Cond.selects RX12 yX12_of yX12_of ∈ pm_tbl := List.mem_filter.mpr ⟨List.mem_of_getElem? (i := 35) (by decide +kernel), by decide +kernel⟩
theorem cv_X12_of : pm_cv mX12_of 2 11 := ⟨my_X12_of, mw866, mw867, rfl, TX12, 15, rfl⟩
theorem mw868 : Cond.methodLink RX12 114 yX12_mends ∈ pm_tbl := List.mem_filter.mpr ⟨List.mem_of_getElem? (i := 1277) (by decide +kernel), by decide +kernel⟩
abbrev mX12_mends : pm_M := (yX12_mends, cX12_mends, 3, 2, 43, some .int, [])
theorem mw869 : Cond.code yX12_mends cX12_mends 3 (some .int) ∈ pm_tbl := List.mem_filter.mpr ⟨List.mem_of_getElem? (i := 1280) (by decide +kernel), by decide +kernel⟩
theorem my_X12_mends : pm_my mX12_mends 1 := ⟨mw869, mw782, by decide +kernel⟩
theorem mw871 : Cond.instanceMethod yX12_mends ∈ pm_tbl := List.mem_filter.mpr ⟨List.mem_of_getElem? (i := 1279) (by decide +kernel), by decide +kernel⟩
theorem mw872 : Cond.selects RX12 yX12_mends yX12_mends ∈ pm_tbl := List.mem_filter.mpr ⟨List.mem_of_getElem? (i := 36) (by decide +kernel), by decide +kernel⟩
theorem cv_X12_mends : pm_cv mX12_mends 1 11 := ⟨my_X12_mends, mw871, mw872, rfl, TX12, 15, rfl⟩
abbrev mX12_fix : pm_M := (yX12_fix, cX12_fix, 2, 3, 65, some .int, [])
theorem mw873 : Cond.methodLink RX12 117 yX12_moves ∈ pm_tbl := List.mem_filter.mpr ⟨List.mem_of_getElem? (i := 1285) (by decide +kernel), by decide +kernel⟩
abbrev mX12_moves : pm_M := (yX12_moves, cX12_moves, 3, 2, 43, some .int, [])
theorem mw874 : Cond.code yX12_moves cX12_moves 3 (some .int) ∈ pm_tbl := List.mem_filter.mpr ⟨List.mem_of_getElem? (i := 1288) (by decide +kernel), by decide +kernel⟩
theorem my_X12_moves : pm_my mX12_moves 2 := ⟨mw874, mw782, by decide +kernel⟩
theorem mw876 : Cond.instanceMethod yX12_moves ∈ pm_tbl := List.mem_filter.mpr ⟨List.mem_of_getElem? (i := 1287) (by decide +kernel), by decide +kernel⟩
theorem mw877 : Cond.selects RX12 yX12_moves yX12_moves ∈ pm_tbl := List.mem_filter.mpr ⟨List.mem_of_getElem? (i := 37) (by decide +kernel), by decide +kernel⟩
theorem cv_X12_moves : pm_cv mX12_moves 2 11 := ⟨my_X12_moves, mw876, mw877, rfl, TX12, 15, rfl⟩
abbrev mX12_moveHost : pm_M := (yX12_moveHost, cX12_moveHost, 3, 3, 65, some .int, [])
theorem mw878 : Cond.methodLink RX12 92 yX12_isHost ∈ pm_tbl := List.mem_filter.mpr ⟨List.mem_of_getElem? (i := 1289) (by decide +kernel), by decide +kernel⟩
abbrev mX12_isHost : pm_M := (yX12_isHost, cX12_isHost, 1, 1, 22, some .boolean, [])
theorem mw879 : Cond.code yX12_isHost cX12_isHost 1 (some .boolean) ∈ pm_tbl := List.mem_filter.mpr ⟨List.mem_of_getElem? (i := 1291) (by decide +kernel), by decide +kernel⟩
theorem my_X12_isHost : pm_my mX12_isHost 1 := ⟨mw879, mw782, by decide +kernel⟩
theorem mw881 : Cond.static yX12_isHost ∈ pm_tbl := List.mem_filter.mpr ⟨List.mem_of_getElem? (i := 1290) (by decide +kernel), by decide +kernel⟩
theorem cs_X12_isHost : pm_cs mX12_isHost 1 := ⟨my_X12_isHost, mw881, rfl⟩
theorem mw882 : Cond.methodLink RX12 120 yX12_bids ∈ pm_tbl := List.mem_filter.mpr ⟨List.mem_of_getElem? (i := 1296) (by decide +kernel), by decide +kernel⟩
abbrev mX12_bids : pm_M := (yX12_bids, cX12_bids, 4, 2, 43, some .int, [])
theorem mw883 : Cond.code yX12_bids cX12_bids 4 (some .int) ∈ pm_tbl := List.mem_filter.mpr ⟨List.mem_of_getElem? (i := 1299) (by decide +kernel), by decide +kernel⟩
theorem my_X12_bids : pm_my mX12_bids 3 := ⟨mw883, mw782, by decide +kernel⟩
theorem mw885 : Cond.instanceMethod yX12_bids ∈ pm_tbl := List.mem_filter.mpr ⟨List.mem_of_getElem? (i := 1298) (by decide +kernel), by decide +kernel⟩
theorem mw886 : Cond.selects RX12 yX12_bids yX12_bids ∈ pm_tbl := List.mem_filter.mpr ⟨List.mem_of_getElem? (i := 38) (by decide +kernel), by decide +kernel⟩
theorem cv_X12_bids : pm_cv mX12_bids 3 11 := ⟨my_X12_bids, mw885, mw886, rfl, TX12, 15, rfl⟩
abbrev mX12_bid : pm_M := (yX12_bid, cX12_bid, 4, 3, 66, some .int, [])
theorem mw887 : Cond.methodLink RX12 95 yX12_isTenant ∈ pm_tbl := List.mem_filter.mpr ⟨List.mem_of_getElem? (i := 1300) (by decide +kernel), by decide +kernel⟩
abbrev mX12_isTenant : pm_M := (yX12_isTenant, cX12_isTenant, 1, 1, 22, some .boolean, [])
theorem mw888 : Cond.code yX12_isTenant cX12_isTenant 1 (some .boolean) ∈ pm_tbl := List.mem_filter.mpr ⟨List.mem_of_getElem? (i := 1302) (by decide +kernel), by decide +kernel⟩
theorem my_X12_isTenant : pm_my mX12_isTenant 1 := ⟨mw888, mw782, by decide +kernel⟩
theorem mw890 : Cond.static yX12_isTenant ∈ pm_tbl := List.mem_filter.mpr ⟨List.mem_of_getElem? (i := 1301) (by decide +kernel), by decide +kernel⟩
theorem cs_X12_isTenant : pm_cs mX12_isTenant 1 := ⟨my_X12_isTenant, mw890, rfl⟩
theorem mw891 : Jvm.Cond.constant RX12 123 1000000 ∈ pm_tbl := List.mem_filter.mpr ⟨List.mem_of_getElem? (i := 1307) (by decide +kernel), by decide +kernel⟩
abbrev mX12_grant : pm_M := (yX12_grant, cX12_grant, 3, 2, 43, some .int, [])
theorem mw892 : Cond.methodLink RX12 124 yX12_ticks ∈ pm_tbl := List.mem_filter.mpr ⟨List.mem_of_getElem? (i := 1312) (by decide +kernel), by decide +kernel⟩
abbrev mX12_ticks : pm_M := (yX12_ticks, cX12_ticks, 3, 6, 137, some .int, [])
theorem mw893 : Cond.code yX12_ticks cX12_ticks 3 (some .int) ∈ pm_tbl := List.mem_filter.mpr ⟨List.mem_of_getElem? (i := 1315) (by decide +kernel), by decide +kernel⟩
theorem my_X12_ticks : pm_my mX12_ticks 1 := ⟨mw893, mw782, by decide +kernel⟩
theorem mw895 : Cond.instanceMethod yX12_ticks ∈ pm_tbl := List.mem_filter.mpr ⟨List.mem_of_getElem? (i := 1314) (by decide +kernel), by decide +kernel⟩
theorem mw896 : Cond.selects RX12 yX12_ticks yX12_ticks ∈ pm_tbl := List.mem_filter.mpr ⟨List.mem_of_getElem? (i := 39) (by decide +kernel), by decide +kernel⟩
theorem cv_X12_ticks : pm_cv mX12_ticks 1 11 := ⟨my_X12_ticks, mw895, mw896, rfl, TX12, 15, rfl⟩
abbrev mX12_tick : pm_M := (yX12_tick, cX12_tick, 2, 7, 159, some .int, [])
theorem mw897 : Cond.methodLink RX12 98 yX12_ticksOnce ∈ pm_tbl := List.mem_filter.mpr ⟨List.mem_of_getElem? (i := 1316) (by decide +kernel), by decide +kernel⟩
abbrev mX12_ticksOnce : pm_M := (yX12_ticksOnce, cX12_ticksOnce, 1, 5, 117, none, [])
theorem mw898 : Cond.code yX12_ticksOnce cX12_ticksOnce 1 none ∈ pm_tbl := List.mem_filter.mpr ⟨List.mem_of_getElem? (i := 1319) (by decide +kernel), by decide +kernel⟩
theorem my_X12_ticksOnce : pm_my mX12_ticksOnce 0 := ⟨mw898, mw782, by decide +kernel⟩
theorem mw900 : Cond.instanceMethod yX12_ticksOnce ∈ pm_tbl := List.mem_filter.mpr ⟨List.mem_of_getElem? (i := 1318) (by decide +kernel), by decide +kernel⟩
theorem mw901 : Cond.selects RX12 yX12_ticksOnce yX12_ticksOnce ∈ pm_tbl := List.mem_filter.mpr ⟨List.mem_of_getElem? (i := 40) (by decide +kernel), by decide +kernel⟩
theorem cv_X12_ticksOnce : pm_cv mX12_ticksOnce 0 11 := ⟨my_X12_ticksOnce, mw900, mw901, rfl, TX12, 15, rfl⟩
theorem mw902 : Cond.methodLink RX12 127 yX12_auctions ∈ pm_tbl := List.mem_filter.mpr ⟨List.mem_of_getElem? (i := 1320) (by decide +kernel), by decide +kernel⟩
abbrev mX12_auctions : pm_M := (yX12_auctions, cX12_auctions, 2, 4, 96, none, [])
theorem mw903 : Cond.code yX12_auctions cX12_auctions 2 none ∈ pm_tbl := List.mem_filter.mpr ⟨List.mem_of_getElem? (i := 1323) (by decide +kernel), by decide +kernel⟩
theorem my_X12_auctions : pm_my mX12_auctions 0 := ⟨mw903, mw782, by decide +kernel⟩
theorem mw905 : Cond.instanceMethod yX12_auctions ∈ pm_tbl := List.mem_filter.mpr ⟨List.mem_of_getElem? (i := 1322) (by decide +kernel), by decide +kernel⟩
theorem mw906 : Cond.selects RX12 yX12_auctions yX12_auctions ∈ pm_tbl := List.mem_filter.mpr ⟨List.mem_of_getElem? (i := 41) (by decide +kernel), by decide +kernel⟩
theorem cv_X12_auctions : pm_cv mX12_auctions 0 11 := ⟨my_X12_auctions, mw905, mw906, rfl, TX12, 15, rfl⟩
theorem mw907 : Cond.methodLink RX12 130 yX12_vectors ∈ pm_tbl := List.mem_filter.mpr ⟨List.mem_of_getElem? (i := 1336) (by decide +kernel), by decide +kernel⟩
abbrev mX12_vectors : pm_M := (yX12_vectors, cX12_vectors, 3, 3, 75, none, [])
theorem mw908 : Cond.code yX12_vectors cX12_vectors 3 none ∈ pm_tbl := List.mem_filter.mpr ⟨List.mem_of_getElem? (i := 1339) (by decide +kernel), by decide +kernel⟩
theorem my_X12_vectors : pm_my mX12_vectors 0 := ⟨mw908, mw782, by decide +kernel⟩
theorem mw910 : Cond.instanceMethod yX12_vectors ∈ pm_tbl := List.mem_filter.mpr ⟨List.mem_of_getElem? (i := 1338) (by decide +kernel), by decide +kernel⟩
theorem mw911 : Cond.selects RX12 yX12_vectors yX12_vectors ∈ pm_tbl := List.mem_filter.mpr ⟨List.mem_of_getElem? (i := 45) (by decide +kernel), by decide +kernel⟩
theorem cv_X12_vectors : pm_cv mX12_vectors 0 11 := ⟨my_X12_vectors, mw910, mw911, rfl, TX12, 15, rfl⟩
theorem mw912 : Cond.methodLink RX12 133 yX12_ports ∈ pm_tbl := List.mem_filter.mpr ⟨List.mem_of_getElem? (i := 1352) (by decide +kernel), by decide +kernel⟩
abbrev mX12_ports : pm_M := (yX12_ports, cX12_ports, 4, 4, 91, none, [])
theorem mw913 : Cond.code yX12_ports cX12_ports 4 none ∈ pm_tbl := List.mem_filter.mpr ⟨List.mem_of_getElem? (i := 1355) (by decide +kernel), by decide +kernel⟩
theorem my_X12_ports : pm_my mX12_ports 0 := ⟨mw913, mw782, by decide +kernel⟩
theorem mw915 : Cond.instanceMethod yX12_ports ∈ pm_tbl := List.mem_filter.mpr ⟨List.mem_of_getElem? (i := 1354) (by decide +kernel), by decide +kernel⟩
theorem mw916 : Cond.selects RX12 yX12_ports yX12_ports ∈ pm_tbl := List.mem_filter.mpr ⟨List.mem_of_getElem? (i := 49) (by decide +kernel), by decide +kernel⟩
theorem cv_X12_ports : pm_cv mX12_ports 0 11 := ⟨my_X12_ports, mw915, mw916, rfl, TX12, 15, rfl⟩
theorem mw917 : Cond.methodLink RX12 143 yX12_sells ∈ pm_tbl := List.mem_filter.mpr ⟨List.mem_of_getElem? (i := 1324) (by decide +kernel), by decide +kernel⟩
abbrev mX12_sells : pm_M := (yX12_sells, cX12_sells, 8, 3, 69, none, [])
theorem mw918 : Cond.code yX12_sells cX12_sells 8 none ∈ pm_tbl := List.mem_filter.mpr ⟨List.mem_of_getElem? (i := 1327) (by decide +kernel), by decide +kernel⟩
theorem my_X12_sells : pm_my mX12_sells 1 := ⟨mw918, mw782, by decide +kernel⟩
theorem mw920 : Cond.instanceMethod yX12_sells ∈ pm_tbl := List.mem_filter.mpr ⟨List.mem_of_getElem? (i := 1326) (by decide +kernel), by decide +kernel⟩
theorem mw921 : Cond.selects RX12 yX12_sells yX12_sells ∈ pm_tbl := List.mem_filter.mpr ⟨List.mem_of_getElem? (i := 42) (by decide +kernel), by decide +kernel⟩
theorem cv_X12_sells : pm_cv mX12_sells 1 11 := ⟨my_X12_sells, mw920, mw921, rfl, TX12, 15, rfl⟩
theorem mw922 : Cond.methodLink RX12 140 yX12_greatest ∈ pm_tbl := List.mem_filter.mpr ⟨List.mem_of_getElem? (i := 1328) (by decide +kernel), by decide +kernel⟩
abbrev mX12_greatest : pm_M := (yX12_greatest, cX12_greatest, 5, 2, 45, some .int, [])
theorem mw923 : Cond.code yX12_greatest cX12_greatest 5 (some .int) ∈ pm_tbl := List.mem_filter.mpr ⟨List.mem_of_getElem? (i := 1331) (by decide +kernel), by decide +kernel⟩
theorem my_X12_greatest : pm_my mX12_greatest 2 := ⟨mw923, mw782, by decide +kernel⟩
theorem mw925 : Cond.instanceMethod yX12_greatest ∈ pm_tbl := List.mem_filter.mpr ⟨List.mem_of_getElem? (i := 1330) (by decide +kernel), by decide +kernel⟩
theorem mw926 : Cond.selects RX12 yX12_greatest yX12_greatest ∈ pm_tbl := List.mem_filter.mpr ⟨List.mem_of_getElem? (i := 43) (by decide +kernel), by decide +kernel⟩
theorem cv_X12_greatest : pm_cv mX12_greatest 2 11 := ⟨my_X12_greatest, mw925, mw926, rfl, TX12, 15, rfl⟩
theorem mw927 : Cond.methodLink RX12 136 yX12_counts ∈ pm_tbl := List.mem_filter.mpr ⟨List.mem_of_getElem? (i := 1332) (by decide +kernel), by decide +kernel⟩
abbrev mX12_counts : pm_M := (yX12_counts, cX12_counts, 4, 1, 22, some .boolean, [])
theorem mw928 : Cond.code yX12_counts cX12_counts 4 (some .boolean) ∈ pm_tbl := List.mem_filter.mpr ⟨List.mem_of_getElem? (i := 1335) (by decide +kernel), by decide +kernel⟩
theorem my_X12_counts : pm_my mX12_counts 2 := ⟨mw928, mw782, by decide +kernel⟩
theorem mw930 : Cond.instanceMethod yX12_counts ∈ pm_tbl := List.mem_filter.mpr ⟨List.mem_of_getElem? (i := 1334) (by decide +kernel), by decide +kernel⟩
theorem mw931 : Cond.selects RX12 yX12_counts yX12_counts ∈ pm_tbl := List.mem_filter.mpr ⟨List.mem_of_getElem? (i := 44) (by decide +kernel), by decide +kernel⟩
theorem cv_X12_counts : pm_cv mX12_counts 2 11 := ⟨my_X12_counts, mw930, mw931, rfl, TX12, 15, rfl⟩
theorem mw932 : Cond.methodLink RX12 152 yX12_finds ∈ pm_tbl := List.mem_filter.mpr ⟨List.mem_of_getElem? (i := 1340) (by decide +kernel), by decide +kernel⟩
abbrev mX12_finds : pm_M := (yX12_finds, cX12_finds, 12, 2, 44, none, [])
theorem mw933 : Cond.code yX12_finds cX12_finds 12 none ∈ pm_tbl := List.mem_filter.mpr ⟨List.mem_of_getElem? (i := 1343) (by decide +kernel), by decide +kernel⟩
theorem my_X12_finds : pm_my mX12_finds 1 := ⟨mw933, mw782, by decide +kernel⟩
theorem mw935 : Cond.instanceMethod yX12_finds ∈ pm_tbl := List.mem_filter.mpr ⟨List.mem_of_getElem? (i := 1342) (by decide +kernel), by decide +kernel⟩
theorem mw936 : Cond.selects RX12 yX12_finds yX12_finds ∈ pm_tbl := List.mem_filter.mpr ⟨List.mem_of_getElem? (i := 46) (by decide +kernel), by decide +kernel⟩
theorem cv_X12_finds : pm_cv mX12_finds 1 11 := ⟨my_X12_finds, mw935, mw936, rfl, TX12, 15, rfl⟩
theorem mw937 : Cond.methodLink RX12 146 yX12_other ∈ pm_tbl := List.mem_filter.mpr ⟨List.mem_of_getElem? (i := 1344) (by decide +kernel), by decide +kernel⟩
abbrev mX12_other : pm_M := (yX12_other, cX12_other, 3, 1, 22, some .int, [])
theorem mw938 : Cond.code yX12_other cX12_other 3 (some .int) ∈ pm_tbl := List.mem_filter.mpr ⟨List.mem_of_getElem? (i := 1347) (by decide +kernel), by decide +kernel⟩
theorem my_X12_other : pm_my mX12_other 2 := ⟨mw938, mw782, by decide +kernel⟩
theorem mw940 : Cond.instanceMethod yX12_other ∈ pm_tbl := List.mem_filter.mpr ⟨List.mem_of_getElem? (i := 1346) (by decide +kernel), by decide +kernel⟩
theorem mw941 : Cond.selects RX12 yX12_other yX12_other ∈ pm_tbl := List.mem_filter.mpr ⟨List.mem_of_getElem? (i := 47) (by decide +kernel), by decide +kernel⟩
theorem cv_X12_other : pm_cv mX12_other 2 11 := ⟨my_X12_other, mw940, mw941, rfl, TX12, 15, rfl⟩
theorem mw942 : Cond.methodLink RX12 149 yX12_isAt ∈ pm_tbl := List.mem_filter.mpr ⟨List.mem_of_getElem? (i := 1348) (by decide +kernel), by decide +kernel⟩
abbrev mX12_isAt : pm_M := (yX12_isAt, cX12_isAt, 3, 1, 22, some .boolean, [])
theorem mw943 : Cond.code yX12_isAt cX12_isAt 3 (some .boolean) ∈ pm_tbl := List.mem_filter.mpr ⟨List.mem_of_getElem? (i := 1351) (by decide +kernel), by decide +kernel⟩
theorem my_X12_isAt : pm_my mX12_isAt 2 := ⟨mw943, mw782, by decide +kernel⟩
theorem mw945 : Cond.instanceMethod yX12_isAt ∈ pm_tbl := List.mem_filter.mpr ⟨List.mem_of_getElem? (i := 1350) (by decide +kernel), by decide +kernel⟩
theorem mw946 : Cond.selects RX12 yX12_isAt yX12_isAt ∈ pm_tbl := List.mem_filter.mpr ⟨List.mem_of_getElem? (i := 48) (by decide +kernel), by decide +kernel⟩
theorem cv_X12_isAt : pm_cv mX12_isAt 2 11 := ⟨my_X12_isAt, mw945, mw946, rfl, TX12, 15, rfl⟩
theorem mw947 : Cond.methodLink RX12 161 yX12_goesOn ∈ pm_tbl := List.mem_filter.mpr ⟨List.mem_of_getElem? (i := 1356) (by decide +kernel), by decide +kernel⟩
abbrev mX12_goesOn : pm_M := (yX12_goesOn, cX12_goesOn, 5, 3, 67, some .boolean, [])
theorem mw948 : Cond.code yX12_goesOn cX12_goesOn 5 (some .boolean) ∈ pm_tbl := List.mem_filter.mpr ⟨List.mem_of_getElem? (i := 1359) (by decide +kernel), by decide +kernel⟩
theorem my_X12_goesOn : pm_my mX12_goesOn 2 := ⟨mw948, mw782, by decide +kernel⟩
theorem mw950 : Cond.instanceMethod yX12_goesOn ∈ pm_tbl := List.mem_filter.mpr ⟨List.mem_of_getElem? (i := 1358) (by decide +kernel), by decide +kernel⟩
theorem mw951 : Cond.selects RX12 yX12_goesOn yX12_goesOn ∈ pm_tbl := List.mem_filter.mpr ⟨List.mem_of_getElem? (i := 50) (by decide +kernel), by decide +kernel⟩
theorem cv_X12_goesOn : pm_cv mX12_goesOn 2 11 := ⟨my_X12_goesOn, mw950, mw951, rfl, TX12, 15, rfl⟩
theorem mw952 : Cond.methodLink RX12 164 yX12_reached ∈ pm_tbl := List.mem_filter.mpr ⟨List.mem_of_getElem? (i := 1368) (by decide +kernel), by decide +kernel⟩
abbrev mX12_reached : pm_M := (yX12_reached, cX12_reached, 5, 2, 43, some .int, [])
theorem mw953 : Cond.code yX12_reached cX12_reached 5 (some .int) ∈ pm_tbl := List.mem_filter.mpr ⟨List.mem_of_getElem? (i := 1371) (by decide +kernel), by decide +kernel⟩
theorem my_X12_reached : pm_my mX12_reached 1 := ⟨mw953, mw782, by decide +kernel⟩
theorem mw955 : Cond.instanceMethod yX12_reached ∈ pm_tbl := List.mem_filter.mpr ⟨List.mem_of_getElem? (i := 1370) (by decide +kernel), by decide +kernel⟩
theorem mw956 : Cond.selects RX12 yX12_reached yX12_reached ∈ pm_tbl := List.mem_filter.mpr ⟨List.mem_of_getElem? (i := 53) (by decide +kernel), by decide +kernel⟩
theorem cv_X12_reached : pm_cv mX12_reached 1 11 := ⟨my_X12_reached, mw955, mw956, rfl, TX12, 15, rfl⟩
theorem mw957 : Cond.methodLink RX12 158 yX12_roleOf ∈ pm_tbl := List.mem_filter.mpr ⟨List.mem_of_getElem? (i := 1360) (by decide +kernel), by decide +kernel⟩
abbrev mX12_roleOf : pm_M := (yX12_roleOf, cX12_roleOf, 3, 2, 45, some .int, [])
theorem mw958 : Cond.code yX12_roleOf cX12_roleOf 3 (some .int) ∈ pm_tbl := List.mem_filter.mpr ⟨List.mem_of_getElem? (i := 1363) (by decide +kernel), by decide +kernel⟩
theorem my_X12_roleOf : pm_my mX12_roleOf 2 := ⟨mw958, mw782, by decide +kernel⟩
theorem mw960 : Cond.instanceMethod yX12_roleOf ∈ pm_tbl := List.mem_filter.mpr ⟨List.mem_of_getElem? (i := 1362) (by decide +kernel), by decide +kernel⟩
theorem mw961 : Cond.selects RX12 yX12_roleOf yX12_roleOf ∈ pm_tbl := List.mem_filter.mpr ⟨List.mem_of_getElem? (i := 51) (by decide +kernel), by decide +kernel⟩
theorem cv_X12_roleOf : pm_cv mX12_roleOf 2 11 := ⟨my_X12_roleOf, mw960, mw961, rfl, TX12, 15, rfl⟩
theorem mw962 : Cond.methodLink RX12 155 yX12_isAhead ∈ pm_tbl := List.mem_filter.mpr ⟨List.mem_of_getElem? (i := 1364) (by decide +kernel), by decide +kernel⟩
abbrev mX12_isAhead : pm_M := (yX12_isAhead, cX12_isAhead, 5, 1, 21, some .boolean, [])
theorem mw963 : Cond.code yX12_isAhead cX12_isAhead 5 (some .boolean) ∈ pm_tbl := List.mem_filter.mpr ⟨List.mem_of_getElem? (i := 1367) (by decide +kernel), by decide +kernel⟩
theorem my_X12_isAhead : pm_my mX12_isAhead 2 := ⟨mw963, mw782, by decide +kernel⟩
theorem mw965 : Cond.instanceMethod yX12_isAhead ∈ pm_tbl := List.mem_filter.mpr ⟨List.mem_of_getElem? (i := 1366) (by decide +kernel), by decide +kernel⟩
theorem mw966 : Cond.selects RX12 yX12_isAhead yX12_isAhead ∈ pm_tbl := List.mem_filter.mpr ⟨List.mem_of_getElem? (i := 52) (by decide +kernel), by decide +kernel⟩
theorem cv_X12_isAhead : pm_cv mX12_isAhead 2 11 := ⟨my_X12_isAhead, mw965, mw966, rfl, TX12, 15, rfl⟩
theorem mw967 : Cond.methodLink RX12 66 yX12_carries ∈ pm_tbl := List.mem_filter.mpr ⟨List.mem_of_getElem? (i := 1372) (by decide +kernel), by decide +kernel⟩
abbrev mX12_carries : pm_M := (yX12_carries, cX12_carries, 2, 1, 22, some .boolean, [])
theorem mw968 : Cond.code yX12_carries cX12_carries 2 (some .boolean) ∈ pm_tbl := List.mem_filter.mpr ⟨List.mem_of_getElem? (i := 1375) (by decide +kernel), by decide +kernel⟩
theorem my_X12_carries : pm_my mX12_carries 1 := ⟨mw968, mw782, by decide +kernel⟩
theorem mw970 : Cond.instanceMethod yX12_carries ∈ pm_tbl := List.mem_filter.mpr ⟨List.mem_of_getElem? (i := 1374) (by decide +kernel), by decide +kernel⟩
theorem mw971 : Cond.selects RX12 yX12_carries yX12_carries ∈ pm_tbl := List.mem_filter.mpr ⟨List.mem_of_getElem? (i := 54) (by decide +kernel), by decide +kernel⟩
theorem cv_X12_carries : pm_cv mX12_carries 1 11 := ⟨my_X12_carries, mw970, mw971, rfl, TX12, 15, rfl⟩
abbrev mX12_time : pm_M := (yX12_time, cX12_time, 1, 1, 21, some .int, [])
theorem mw972 : Cond.methodLink RX12 167 yX12_learns ∈ pm_tbl := List.mem_filter.mpr ⟨List.mem_of_getElem? (i := 1384) (by decide +kernel), by decide +kernel⟩
abbrev mX12_learns : pm_M := (yX12_learns, cX12_learns, 4, 0, 0, none, [])
theorem mw973 : Cond.code yX12_learns cX12_learns 4 none ∈ pm_tbl := List.mem_filter.mpr ⟨List.mem_of_getElem? (i := 1387) (by decide +kernel), by decide +kernel⟩
theorem my_X12_learns : pm_my mX12_learns 3 := ⟨mw973, mw782, by decide +kernel⟩
theorem mw975 : Cond.instanceMethod yX12_learns ∈ pm_tbl := List.mem_filter.mpr ⟨List.mem_of_getElem? (i := 1386) (by decide +kernel), by decide +kernel⟩
theorem mw976 : Cond.selects RX12 yX12_learns yX12_learns ∈ pm_tbl := List.mem_filter.mpr ⟨List.mem_of_getElem? (i := 55) (by decide +kernel), by decide +kernel⟩
theorem cv_X12_learns : pm_cv mX12_learns 3 11 := ⟨my_X12_learns, mw975, mw976, rfl, TX12, 15, rfl⟩
theorem mw977 : Cond.methodLink RX12 170 yX12_entryOf ∈ pm_tbl := List.mem_filter.mpr ⟨List.mem_of_getElem? (i := 1388) (by decide +kernel), by decide +kernel⟩
abbrev mX12_entryOf : pm_M := (yX12_entryOf, cX12_entryOf, 4, 0, 0, some .int, [])
theorem mw978 : Cond.code yX12_entryOf cX12_entryOf 4 (some .int) ∈ pm_tbl := List.mem_filter.mpr ⟨List.mem_of_getElem? (i := 1391) (by decide +kernel), by decide +kernel⟩
theorem my_X12_entryOf : pm_my mX12_entryOf 2 := ⟨mw978, mw782, by decide +kernel⟩
theorem mw980 : Cond.instanceMethod yX12_entryOf ∈ pm_tbl := List.mem_filter.mpr ⟨List.mem_of_getElem? (i := 1390) (by decide +kernel), by decide +kernel⟩
theorem mw981 : Cond.selects RX12 yX12_entryOf yX12_entryOf ∈ pm_tbl := List.mem_filter.mpr ⟨List.mem_of_getElem? (i := 56) (by decide +kernel), by decide +kernel⟩
theorem cv_X12_entryOf : pm_cv mX12_entryOf 2 11 := ⟨my_X12_entryOf, mw980, mw981, rfl, TX12, 15, rfl⟩
abbrev mX12_send : pm_M := (yX12_send, cX12_send, 14, 2, 44, some .int, [])
theorem mw982 : Cond.methodLink RX12 176 yX12_bridgeValue ∈ pm_tbl := List.mem_filter.mpr ⟨List.mem_of_getElem? (i := 1396) (by decide +kernel), by decide +kernel⟩
abbrev mX12_bridgeValue : pm_M := (yX12_bridgeValue, cX12_bridgeValue, 3, 1, 23, some .int, [])
theorem mw983 : Cond.code yX12_bridgeValue cX12_bridgeValue 3 (some .int) ∈ pm_tbl := List.mem_filter.mpr ⟨List.mem_of_getElem? (i := 1399) (by decide +kernel), by decide +kernel⟩
theorem my_X12_bridgeValue : pm_my mX12_bridgeValue 2 := ⟨mw983, mw782, by decide +kernel⟩
theorem mw985 : Cond.instanceMethod yX12_bridgeValue ∈ pm_tbl := List.mem_filter.mpr ⟨List.mem_of_getElem? (i := 1398) (by decide +kernel), by decide +kernel⟩
theorem mw986 : Cond.selects RX12 yX12_bridgeValue yX12_bridgeValue ∈ pm_tbl := List.mem_filter.mpr ⟨List.mem_of_getElem? (i := 57) (by decide +kernel), by decide +kernel⟩
theorem cv_X12_bridgeValue : pm_cv mX12_bridgeValue 2 11 := ⟨my_X12_bridgeValue, mw985, mw986, rfl, TX12, 15, rfl⟩
abbrev mX12_bridge : pm_M := (yX12_bridge, cX12_bridge, 3, 2, 45, some .int, [])
theorem mw987 : Cond.methodLink RX12 173 yX12_entries ∈ pm_tbl := List.mem_filter.mpr ⟨List.mem_of_getElem? (i := 1400) (by decide +kernel), by decide +kernel⟩
abbrev mX12_entries : pm_M := (yX12_entries, cX12_entries, 4, 0, 0, some .int, [])
theorem mw988 : Cond.code yX12_entries cX12_entries 4 (some .int) ∈ pm_tbl := List.mem_filter.mpr ⟨List.mem_of_getElem? (i := 1403) (by decide +kernel), by decide +kernel⟩
theorem my_X12_entries : pm_my mX12_entries 1 := ⟨mw988, mw782, by decide +kernel⟩
theorem mw990 : Cond.instanceMethod yX12_entries ∈ pm_tbl := List.mem_filter.mpr ⟨List.mem_of_getElem? (i := 1402) (by decide +kernel), by decide +kernel⟩
theorem mw991 : Cond.selects RX12 yX12_entries yX12_entries ∈ pm_tbl := List.mem_filter.mpr ⟨List.mem_of_getElem? (i := 58) (by decide +kernel), by decide +kernel⟩
theorem cv_X12_entries : pm_cv mX12_entries 1 11 := ⟨my_X12_entries, mw990, mw991, rfl, TX12, 15, rfl⟩
abbrev mX12_links : pm_M := (yX12_links, cX12_links, 1, 1, 21, some .int, [])
theorem mw992 : Cond.methodLink RX12 179 yX12_linkValue ∈ pm_tbl := List.mem_filter.mpr ⟨List.mem_of_getElem? (i := 1412) (by decide +kernel), by decide +kernel⟩
abbrev mX12_linkValue : pm_M := (yX12_linkValue, cX12_linkValue, 3, 2, 43, some .int, [])
theorem mw993 : Cond.code yX12_linkValue cX12_linkValue 3 (some .int) ∈ pm_tbl := List.mem_filter.mpr ⟨List.mem_of_getElem? (i := 1415) (by decide +kernel), by decide +kernel⟩
theorem my_X12_linkValue : pm_my mX12_linkValue 2 := ⟨mw993, mw782, by decide +kernel⟩
theorem mw995 : Cond.instanceMethod yX12_linkValue ∈ pm_tbl := List.mem_filter.mpr ⟨List.mem_of_getElem? (i := 1414) (by decide +kernel), by decide +kernel⟩
theorem mw996 : Cond.selects RX12 yX12_linkValue yX12_linkValue ∈ pm_tbl := List.mem_filter.mpr ⟨List.mem_of_getElem? (i := 59) (by decide +kernel), by decide +kernel⟩
theorem cv_X12_linkValue : pm_cv mX12_linkValue 2 11 := ⟨my_X12_linkValue, mw995, mw996, rfl, TX12, 15, rfl⟩
abbrev mX12_link : pm_M := (yX12_link, cX12_link, 3, 3, 65, some .int, [])
abbrev mX12_port : pm_M := (yX12_port, cX12_port, 4, 2, 43, some .int, [])
abbrev mX12_entry : pm_M := (yX12_entry, cX12_entry, 3, 2, 43, some .int, [])
theorem mw997 : Cond.methodLink RX12 185 yX12_tenantValue ∈ pm_tbl := List.mem_filter.mpr ⟨List.mem_of_getElem? (i := 1428) (by decide +kernel), by decide +kernel⟩
abbrev mX12_tenantValue : pm_M := (yX12_tenantValue, cX12_tenantValue, 3, 2, 45, some .int, [])
theorem mw998 : Cond.code yX12_tenantValue cX12_tenantValue 3 (some .int) ∈ pm_tbl := List.mem_filter.mpr ⟨List.mem_of_getElem? (i := 1431) (by decide +kernel), by decide +kernel⟩
theorem my_X12_tenantValue : pm_my mX12_tenantValue 2 := ⟨mw998, mw782, by decide +kernel⟩
theorem mw1000 : Cond.instanceMethod yX12_tenantValue ∈ pm_tbl := List.mem_filter.mpr ⟨List.mem_of_getElem? (i := 1430) (by decide +kernel), by decide +kernel⟩
theorem mw1001 : Cond.selects RX12 yX12_tenantValue yX12_tenantValue ∈ pm_tbl := List.mem_filter.mpr ⟨List.mem_of_getElem? (i := 60) (by decide +kernel), by decide +kernel⟩
theorem cv_X12_tenantValue : pm_cv mX12_tenantValue 2 11 := ⟨my_X12_tenantValue, mw1000, mw1001, rfl, TX12, 15, rfl⟩
abbrev mX12_tenant : pm_M := (yX12_tenant, cX12_tenant, 3, 3, 67, some .int, [])
theorem mw1002 : Cond.methodLink RX12 182 yX12_won ∈ pm_tbl := List.mem_filter.mpr ⟨List.mem_of_getElem? (i := 1432) (by decide +kernel), by decide +kernel⟩
abbrev mX12_won : pm_M := (yX12_won, cX12_won, 4, 1, 22, some .int, [])
theorem mw1003 : Cond.code yX12_won cX12_won 4 (some .int) ∈ pm_tbl := List.mem_filter.mpr ⟨List.mem_of_getElem? (i := 1435) (by decide +kernel), by decide +kernel⟩
theorem my_X12_won : pm_my mX12_won 1 := ⟨mw1003, mw782, by decide +kernel⟩
theorem mw1005 : Cond.instanceMethod yX12_won ∈ pm_tbl := List.mem_filter.mpr ⟨List.mem_of_getElem? (i := 1434) (by decide +kernel), by decide +kernel⟩
theorem mw1006 : Cond.selects RX12 yX12_won yX12_won ∈ pm_tbl := List.mem_filter.mpr ⟨List.mem_of_getElem? (i := 61) (by decide +kernel), by decide +kernel⟩
theorem cv_X12_won : pm_cv mX12_won 1 11 := ⟨my_X12_won, mw1005, mw1006, rfl, TX12, 15, rfl⟩
abbrev mX12_bidOf : pm_M := (yX12_bidOf, cX12_bidOf, 3, 2, 43, some .int, [])
theorem mw1007 : Cond.methodLink RX12 195 yX12_counted ∈ pm_tbl := List.mem_filter.mpr ⟨List.mem_of_getElem? (i := 1444) (by decide +kernel), by decide +kernel⟩
abbrev mX12_counted : pm_M := (yX12_counted, cX12_counted, 2, 4, 91, some .int, [])
theorem mw1008 : Cond.code yX12_counted cX12_counted 2 (some .int) ∈ pm_tbl := List.mem_filter.mpr ⟨List.mem_of_getElem? (i := 1447) (by decide +kernel), by decide +kernel⟩
theorem my_X12_counted : pm_my mX12_counted 1 := ⟨mw1008, mw782, by decide +kernel⟩
theorem mw1010 : Cond.instanceMethod yX12_counted ∈ pm_tbl := List.mem_filter.mpr ⟨List.mem_of_getElem? (i := 1446) (by decide +kernel), by decide +kernel⟩
theorem mw1011 : Cond.selects RX12 yX12_counted yX12_counted ∈ pm_tbl := List.mem_filter.mpr ⟨List.mem_of_getElem? (i := 62) (by decide +kernel), by decide +kernel⟩
theorem cv_X12_counted : pm_cv mX12_counted 1 11 := ⟨my_X12_counted, mw1010, mw1011, rfl, TX12, 15, rfl⟩
abbrev mX12_count : pm_M := (yX12_count, cX12_count, 2, 5, 112, some .int, [])
theorem mw1012 : Cond.methodLink RX12 188 yX12_carrying ∈ pm_tbl := List.mem_filter.mpr ⟨List.mem_of_getElem? (i := 1448) (by decide +kernel), by decide +kernel⟩
abbrev mX12_carrying : pm_M := (yX12_carrying, cX12_carrying, 3, 2, 43, some .int, [])
theorem mw1013 : Cond.code yX12_carrying cX12_carrying 3 (some .int) ∈ pm_tbl := List.mem_filter.mpr ⟨List.mem_of_getElem? (i := 1451) (by decide +kernel), by decide +kernel⟩
theorem my_X12_carrying : pm_my mX12_carrying 0 := ⟨mw1013, mw782, by decide +kernel⟩
theorem mw1015 : Cond.instanceMethod yX12_carrying ∈ pm_tbl := List.mem_filter.mpr ⟨List.mem_of_getElem? (i := 1450) (by decide +kernel), by decide +kernel⟩
theorem mw1016 : Cond.selects RX12 yX12_carrying yX12_carrying ∈ pm_tbl := List.mem_filter.mpr ⟨List.mem_of_getElem? (i := 63) (by decide +kernel), by decide +kernel⟩
theorem cv_X12_carrying : pm_cv mX12_carrying 0 11 := ⟨my_X12_carrying, mw1015, mw1016, rfl, TX12, 15, rfl⟩
theorem mw1017 : Cond.methodLink RX12 192 yX12_pairs ∈ pm_tbl := List.mem_filter.mpr ⟨List.mem_of_getElem? (i := 1452) (by decide +kernel), by decide +kernel⟩
abbrev mX12_pairs : pm_M := (yX12_pairs, cX12_pairs, 5, 3, 67, some .int, [])
theorem mw1018 : Cond.code yX12_pairs cX12_pairs 5 (some .int) ∈ pm_tbl := List.mem_filter.mpr ⟨List.mem_of_getElem? (i := 1455) (by decide +kernel), by decide +kernel⟩
theorem my_X12_pairs : pm_my mX12_pairs 0 := ⟨mw1018, mw782, by decide +kernel⟩
theorem mw1020 : Cond.instanceMethod yX12_pairs ∈ pm_tbl := List.mem_filter.mpr ⟨List.mem_of_getElem? (i := 1454) (by decide +kernel), by decide +kernel⟩
theorem mw1021 : Cond.selects RX12 yX12_pairs yX12_pairs ∈ pm_tbl := List.mem_filter.mpr ⟨List.mem_of_getElem? (i := 64) (by decide +kernel), by decide +kernel⟩
theorem cv_X12_pairs : pm_cv mX12_pairs 0 11 := ⟨my_X12_pairs, mw1020, mw1021, rfl, TX12, 15, rfl⟩
theorem mw1022 : Cond.methodLink RX12 198 yX12_isWithoutCycle ∈ pm_tbl := List.mem_filter.mpr ⟨List.mem_of_getElem? (i := 1460) (by decide +kernel), by decide +kernel⟩
abbrev mX12_isWithoutCycle : pm_M := (yX12_isWithoutCycle, cX12_isWithoutCycle, 3, 3, 67, some .boolean, [])
theorem mw1023 : Cond.code yX12_isWithoutCycle cX12_isWithoutCycle 3 (some .boolean) ∈ pm_tbl := List.mem_filter.mpr ⟨List.mem_of_getElem? (i := 1463) (by decide +kernel), by decide +kernel⟩
theorem my_X12_isWithoutCycle : pm_my mX12_isWithoutCycle 0 := ⟨mw1023, mw782, by decide +kernel⟩
theorem mw1025 : Cond.instanceMethod yX12_isWithoutCycle ∈ pm_tbl := List.mem_filter.mpr ⟨List.mem_of_getElem? (i := 1462) (by decide +kernel), by decide +kernel⟩
theorem mw1026 : Cond.selects RX12 yX12_isWithoutCycle yX12_isWithoutCycle ∈ pm_tbl := List.mem_filter.mpr ⟨List.mem_of_getElem? (i := 65) (by decide +kernel), by decide +kernel⟩
theorem cv_X12_isWithoutCycle : pm_cv mX12_isWithoutCycle 0 11 := ⟨my_X12_isWithoutCycle, mw1025, mw1026, rfl, TX12, 15, rfl⟩
abbrev mX12_isForest : pm_M := (yX12_isForest, cX12_isForest, 1, 4, 89, some .boolean, [])
theorem mw1027 : Cond.fieldLink RX12 202 RX12 "typed" "I" ∈ pm_tbl := List.mem_filter.mpr ⟨List.mem_of_getElem? (i := 1160) (by decide +kernel), by decide +kernel⟩
theorem fa_X12_202 : pm_fa RX12 202 11 5 false .int := ⟨RX12, TX12, 15, tyX12, rfl, by decide, inX12_t, mw1027, tyX12_ok, nmX12, rfl, rfl, rfl⟩
abbrev mX12_type : pm_M := (yX12_type, cX12_type, 2, 1, 22, some .int, [])
abbrev mX12_clearScript : pm_M := (yX12_clearScript, cX12_clearScript, 2, 1, 21, some .int, [])
theorem mw1028 : Cond.fieldLink RX12 205 RX12 "at" "I" ∈ pm_tbl := List.mem_filter.mpr ⟨List.mem_of_getElem? (i := 1166) (by decide +kernel), by decide +kernel⟩
theorem fa_X12_205 : pm_fa RX12 205 11 11 false .int := ⟨RX12, TX12, 15, tyX12, rfl, by decide, inX12_t, mw1028, tyX12_ok, nmX12, rfl, rfl, rfl⟩
theorem mw1029 : Cond.methodLink RX12 227 yX12_skips ∈ pm_tbl := List.mem_filter.mpr ⟨List.mem_of_getElem? (i := 1476) (by decide +kernel), by decide +kernel⟩
abbrev mX12_skips : pm_M := (yX12_skips, cX12_skips, 1, 2, 44, none, [])
theorem mw1030 : Cond.code yX12_skips cX12_skips 1 none ∈ pm_tbl := List.mem_filter.mpr ⟨List.mem_of_getElem? (i := 1479) (by decide +kernel), by decide +kernel⟩
theorem my_X12_skips : pm_my mX12_skips 0 := ⟨mw1030, mw782, by decide +kernel⟩
theorem mw1032 : Cond.instanceMethod yX12_skips ∈ pm_tbl := List.mem_filter.mpr ⟨List.mem_of_getElem? (i := 1478) (by decide +kernel), by decide +kernel⟩
theorem mw1033 : Cond.selects RX12 yX12_skips yX12_skips ∈ pm_tbl := List.mem_filter.mpr ⟨List.mem_of_getElem? (i := 66) (by decide +kernel), by decide +kernel⟩
theorem cv_X12_skips : pm_cv mX12_skips 0 11 := ⟨my_X12_skips, mw1032, mw1033, rfl, TX12, 15, rfl⟩
theorem mw1034 : Cond.methodLink RX12 233 yX12_isCommand ∈ pm_tbl := List.mem_filter.mpr ⟨List.mem_of_getElem? (i := 1484) (by decide +kernel), by decide +kernel⟩
abbrev mX12_isCommand : pm_M := (yX12_isCommand, cX12_isCommand, 5, 3, 67, some .boolean, [])
theorem mw1035 : Cond.code yX12_isCommand cX12_isCommand 5 (some .boolean) ∈ pm_tbl := List.mem_filter.mpr ⟨List.mem_of_getElem? (i := 1487) (by decide +kernel), by decide +kernel⟩
theorem my_X12_isCommand : pm_my mX12_isCommand 0 := ⟨mw1035, mw782, by decide +kernel⟩
theorem mw1037 : Cond.instanceMethod yX12_isCommand ∈ pm_tbl := List.mem_filter.mpr ⟨List.mem_of_getElem? (i := 1486) (by decide +kernel), by decide +kernel⟩
theorem mw1038 : Cond.selects RX12 yX12_isCommand yX12_isCommand ∈ pm_tbl := List.mem_filter.mpr ⟨List.mem_of_getElem? (i := 68) (by decide +kernel), by decide +kernel⟩
theorem cv_X12_isCommand : pm_cv mX12_isCommand 0 11 := ⟨my_X12_isCommand, mw1037, mw1038, rfl, TX12, 15, rfl⟩
theorem mw1039 : Cond.methodLink RX12 236 yX12_does ∈ pm_tbl := List.mem_filter.mpr ⟨List.mem_of_getElem? (i := 1505) (by decide +kernel), by decide +kernel⟩
abbrev mX12_does : pm_M := (yX12_does, cX12_does, 1, 7, 159, some .int, [])
theorem mw1040 : Cond.code yX12_does cX12_does 1 (some .int) ∈ pm_tbl := List.mem_filter.mpr ⟨List.mem_of_getElem? (i := 1508) (by decide +kernel), by decide +kernel⟩
theorem my_X12_does : pm_my mX12_does 0 := ⟨mw1040, mw782, by decide +kernel⟩
theorem mw1042 : Cond.instanceMethod yX12_does ∈ pm_tbl := List.mem_filter.mpr ⟨List.mem_of_getElem? (i := 1507) (by decide +kernel), by decide +kernel⟩
theorem mw1043 : Cond.selects RX12 yX12_does yX12_does ∈ pm_tbl := List.mem_filter.mpr ⟨List.mem_of_getElem? (i := 70) (by decide +kernel), by decide +kernel⟩
theorem cv_X12_does : pm_cv mX12_does 0 11 := ⟨my_X12_does, mw1042, mw1043, rfl, TX12, 15, rfl⟩
abbrev mX12_run : pm_M := (yX12_run, cX12_run, 3, 8, 179, some .int, [])
theorem mw1044 : Cond.methodLink RX12 208 yX12_isIn ∈ pm_tbl := List.mem_filter.mpr ⟨List.mem_of_getElem? (i := 1480) (by decide +kernel), by decide +kernel⟩
abbrev mX12_isIn : pm_M := (yX12_isIn, cX12_isIn, 3, 1, 22, some .boolean, [])
theorem mw1045 : Cond.code yX12_isIn cX12_isIn 3 (some .boolean) ∈ pm_tbl := List.mem_filter.mpr ⟨List.mem_of_getElem? (i := 1483) (by decide +kernel), by decide +kernel⟩
theorem my_X12_isIn : pm_my mX12_isIn 2 := ⟨mw1045, mw782, by decide +kernel⟩
theorem mw1047 : Cond.instanceMethod yX12_isIn ∈ pm_tbl := List.mem_filter.mpr ⟨List.mem_of_getElem? (i := 1482) (by decide +kernel), by decide +kernel⟩
theorem mw1048 : Cond.selects RX12 yX12_isIn yX12_isIn ∈ pm_tbl := List.mem_filter.mpr ⟨List.mem_of_getElem? (i := 67) (by decide +kernel), by decide +kernel⟩
theorem cv_X12_isIn : pm_cv mX12_isIn 2 11 := ⟨my_X12_isIn, mw1047, mw1048, rfl, TX12, 15, rfl⟩
theorem mw1049 : Cond.methodLink RX12 218 yX12_wordOf ∈ pm_tbl := List.mem_filter.mpr ⟨List.mem_of_getElem? (i := 1488) (by decide +kernel), by decide +kernel⟩
abbrev mX12_wordOf : pm_M := (yX12_wordOf, cX12_wordOf, 2, 0, 0, some .int, [])
theorem mw1050 : Cond.code yX12_wordOf cX12_wordOf 2 (some .int) ∈ pm_tbl := List.mem_filter.mpr ⟨List.mem_of_getElem? (i := 1490) (by decide +kernel), by decide +kernel⟩
theorem my_X12_wordOf : pm_my mX12_wordOf 2 := ⟨mw1050, mw782, by decide +kernel⟩
theorem mw1052 : Cond.static yX12_wordOf ∈ pm_tbl := List.mem_filter.mpr ⟨List.mem_of_getElem? (i := 1489) (by decide +kernel), by decide +kernel⟩
theorem cs_X12_wordOf : pm_cs mX12_wordOf 2 := ⟨my_X12_wordOf, mw1052, rfl⟩
theorem mw1053 : Cond.fieldLink RX12 221 RX12 "word" "I" ∈ pm_tbl := List.mem_filter.mpr ⟨List.mem_of_getElem? (i := 1167) (by decide +kernel), by decide +kernel⟩
theorem fa_X12_221 : pm_fa RX12 221 11 12 false .int := ⟨RX12, TX12, 15, tyX12, rfl, by decide, inX12_t, mw1053, tyX12_ok, nmX12, rfl, rfl, rfl⟩
theorem mw1054 : Cond.methodLink RX12 224 yX12_numbersOf ∈ pm_tbl := List.mem_filter.mpr ⟨List.mem_of_getElem? (i := 1498) (by decide +kernel), by decide +kernel⟩
abbrev mX12_numbersOf : pm_M := (yX12_numbersOf, cX12_numbersOf, 1, 0, 0, some .int, [])
theorem mw1055 : Cond.code yX12_numbersOf cX12_numbersOf 1 (some .int) ∈ pm_tbl := List.mem_filter.mpr ⟨List.mem_of_getElem? (i := 1500) (by decide +kernel), by decide +kernel⟩
theorem my_X12_numbersOf : pm_my mX12_numbersOf 1 := ⟨mw1055, mw782, by decide +kernel⟩
theorem mw1057 : Cond.static yX12_numbersOf ∈ pm_tbl := List.mem_filter.mpr ⟨List.mem_of_getElem? (i := 1499) (by decide +kernel), by decide +kernel⟩
theorem cs_X12_numbersOf : pm_cs mX12_numbersOf 1 := ⟨my_X12_numbersOf, mw1057, rfl⟩
theorem mw1058 : Cond.methodLink RX12 230 yX12_isNumber ∈ pm_tbl := List.mem_filter.mpr ⟨List.mem_of_getElem? (i := 1501) (by decide +kernel), by decide +kernel⟩
abbrev mX12_isNumber : pm_M := (yX12_isNumber, cX12_isNumber, 4, 2, 44, some .boolean, [])
theorem mw1059 : Cond.code yX12_isNumber cX12_isNumber 4 (some .boolean) ∈ pm_tbl := List.mem_filter.mpr ⟨List.mem_of_getElem? (i := 1504) (by decide +kernel), by decide +kernel⟩
theorem my_X12_isNumber : pm_my mX12_isNumber 1 := ⟨mw1059, mw782, by decide +kernel⟩
theorem mw1061 : Cond.instanceMethod yX12_isNumber ∈ pm_tbl := List.mem_filter.mpr ⟨List.mem_of_getElem? (i := 1503) (by decide +kernel), by decide +kernel⟩
theorem mw1062 : Cond.selects RX12 yX12_isNumber yX12_isNumber ∈ pm_tbl := List.mem_filter.mpr ⟨List.mem_of_getElem? (i := 69) (by decide +kernel), by decide +kernel⟩
theorem cv_X12_isNumber : pm_cv mX12_isNumber 1 11 := ⟨my_X12_isNumber, mw1061, mw1062, rfl, TX12, 15, rfl⟩
theorem mw1063 : Jvm.Cond.constant RX12 211 6449508 ∈ pm_tbl := List.mem_filter.mpr ⟨List.mem_of_getElem? (i := 1491) (by decide +kernel), by decide +kernel⟩
theorem mw1064 : Jvm.Cond.constant RX12 212 6711672 ∈ pm_tbl := List.mem_filter.mpr ⟨List.mem_of_getElem? (i := 1492) (by decide +kernel), by decide +kernel⟩
theorem mw1065 : Jvm.Cond.constant RX12 213 1818848875 ∈ pm_tbl := List.mem_filter.mpr ⟨List.mem_of_getElem? (i := 1493) (by decide +kernel), by decide +kernel⟩
theorem mw1066 : Jvm.Cond.constant RX12 214 1717660012 ∈ pm_tbl := List.mem_filter.mpr ⟨List.mem_of_getElem? (i := 1494) (by decide +kernel), by decide +kernel⟩
theorem mw1067 : Jvm.Cond.constant RX12 215 1886546287 ∈ pm_tbl := List.mem_filter.mpr ⟨List.mem_of_getElem? (i := 1495) (by decide +kernel), by decide +kernel⟩
theorem mw1068 : Jvm.Cond.constant RX12 216 1752134516 ∈ pm_tbl := List.mem_filter.mpr ⟨List.mem_of_getElem? (i := 1496) (by decide +kernel), by decide +kernel⟩
theorem mw1069 : Jvm.Cond.constant RX12 217 1953063787 ∈ pm_tbl := List.mem_filter.mpr ⟨List.mem_of_getElem? (i := 1497) (by decide +kernel), by decide +kernel⟩
abbrev mX12_undo : pm_M := (yX12_undo, cX12_undo, 2, 1, 21, some .int, [])
theorem mw1070 : Jvm.Cond.constantLong RX12 248 18498 ∈ pm_tbl := List.mem_filter.mpr ⟨List.mem_of_getElem? (i := 1517) (by decide +kernel), by decide +kernel⟩
theorem mw1071 : Cond.fieldLink RX12 241 RX12 "h" "J" ∈ pm_tbl := List.mem_filter.mpr ⟨List.mem_of_getElem? (i := 1169) (by decide +kernel), by decide +kernel⟩
theorem fa_X12_241 : pm_fa RX12 241 11 14 false .long := ⟨RX12, TX12, 15, tyX12, rfl, by decide, inX12_t, mw1071, tyX12_ok, nmX12, rfl, rfl, rfl⟩
theorem mw1072 : Cond.methodLink RX12 245 yX12_mix ∈ pm_tbl := List.mem_filter.mpr ⟨List.mem_of_getElem? (i := 1518) (by decide +kernel), by decide +kernel⟩
abbrev mX12_mix : pm_M := (yX12_mix, cX12_mix, 2, 0, 0, none, [])
theorem mw1073 : Cond.code yX12_mix cX12_mix 2 none ∈ pm_tbl := List.mem_filter.mpr ⟨List.mem_of_getElem? (i := 1521) (by decide +kernel), by decide +kernel⟩
theorem my_X12_mix : pm_my mX12_mix 1 := ⟨mw1073, mw782, by decide +kernel⟩
theorem mw1075 : Cond.instanceMethod yX12_mix ∈ pm_tbl := List.mem_filter.mpr ⟨List.mem_of_getElem? (i := 1520) (by decide +kernel), by decide +kernel⟩
theorem mw1076 : Cond.selects RX12 yX12_mix yX12_mix ∈ pm_tbl := List.mem_filter.mpr ⟨List.mem_of_getElem? (i := 71) (by decide +kernel), by decide +kernel⟩
theorem cv_X12_mix : pm_cv mX12_mix 1 11 := ⟨my_X12_mix, mw1075, mw1076, rfl, TX12, 15, rfl⟩
theorem mw1077 : Cond.methodLink RX12 250 yX12_mixBridge ∈ pm_tbl := List.mem_filter.mpr ⟨List.mem_of_getElem? (i := 1523) (by decide +kernel), by decide +kernel⟩
abbrev mX12_mixBridge : pm_M := (yX12_mixBridge, cX12_mixBridge, 3, 2, 45, none, [])
theorem mw1078 : Cond.code yX12_mixBridge cX12_mixBridge 3 none ∈ pm_tbl := List.mem_filter.mpr ⟨List.mem_of_getElem? (i := 1526) (by decide +kernel), by decide +kernel⟩
theorem my_X12_mixBridge : pm_my mX12_mixBridge 1 := ⟨mw1078, mw782, by decide +kernel⟩
theorem mw1080 : Cond.instanceMethod yX12_mixBridge ∈ pm_tbl := List.mem_filter.mpr ⟨List.mem_of_getElem? (i := 1525) (by decide +kernel), by decide +kernel⟩
theorem mw1081 : Cond.selects RX12 yX12_mixBridge yX12_mixBridge ∈ pm_tbl := List.mem_filter.mpr ⟨List.mem_of_getElem? (i := 72) (by decide +kernel), by decide +kernel⟩
theorem cv_X12_mixBridge : pm_cv mX12_mixBridge 1 11 := ⟨my_X12_mixBridge, mw1080, mw1081, rfl, TX12, 15, rfl⟩
theorem mw1082 : Cond.methodLink RX12 253 yX12_mixLink ∈ pm_tbl := List.mem_filter.mpr ⟨List.mem_of_getElem? (i := 1527) (by decide +kernel), by decide +kernel⟩
abbrev mX12_mixLink : pm_M := (yX12_mixLink, cX12_mixLink, 3, 3, 65, none, [])
theorem mw1083 : Cond.code yX12_mixLink cX12_mixLink 3 none ∈ pm_tbl := List.mem_filter.mpr ⟨List.mem_of_getElem? (i := 1530) (by decide +kernel), by decide +kernel⟩
theorem my_X12_mixLink : pm_my mX12_mixLink 1 := ⟨mw1083, mw782, by decide +kernel⟩
theorem mw1085 : Cond.instanceMethod yX12_mixLink ∈ pm_tbl := List.mem_filter.mpr ⟨List.mem_of_getElem? (i := 1529) (by decide +kernel), by decide +kernel⟩
theorem mw1086 : Cond.selects RX12 yX12_mixLink yX12_mixLink ∈ pm_tbl := List.mem_filter.mpr ⟨List.mem_of_getElem? (i := 73) (by decide +kernel), by decide +kernel⟩
theorem cv_X12_mixLink : pm_cv mX12_mixLink 1 11 := ⟨my_X12_mixLink, mw1085, mw1086, rfl, TX12, 15, rfl⟩
abbrev mX12_digest : pm_M := (yX12_digest, cX12_digest, 2, 5, 112, some .long, [])
theorem mw1087 : Jvm.Cond.constantLong RX12 239 31 ∈ pm_tbl := List.mem_filter.mpr ⟨List.mem_of_getElem? (i := 1522) (by decide +kernel), by decide +kernel⟩
theorem mw1088 : Cond.classLink RL 8 RX11 ∈ pm_tbl := List.mem_filter.mpr ⟨List.mem_of_getElem? (i := 100) (by decide +kernel), by decide +kernel⟩
theorem mw1089 : Cond.instantiable RX11 7 ∈ pm_tbl := List.mem_filter.mpr ⟨List.mem_of_getElem? (i := 101) (by decide +kernel), by decide +kernel⟩
theorem mw1090 : Cond.methodLink RL 80 yX11_init ∈ pm_tbl := List.mem_filter.mpr ⟨List.mem_of_getElem? (i := 102) (by decide +kernel), by decide +kernel⟩
theorem mw1091 : Cond.code yX11_init cX11_init 1 none ∈ pm_tbl := List.mem_filter.mpr ⟨List.mem_of_getElem? (i := 104) (by decide +kernel), by decide +kernel⟩
theorem my_X11_init : pm_my mX11_init 0 := ⟨mw1091, mw230, by decide +kernel⟩
theorem mw1093 : Cond.instanceMethod yX11_init ∈ pm_tbl := List.mem_filter.mpr ⟨List.mem_of_getElem? (i := 103) (by decide +kernel), by decide +kernel⟩
theorem ci_X11_init : pm_ci mX11_init 0 := ⟨my_X11_init, mw1093, rfl, rfl, rfl⟩
theorem mw1094 : Cond.classLink RL 81 RX12 ∈ pm_tbl := List.mem_filter.mpr ⟨List.mem_of_getElem? (i := 1130) (by decide +kernel), by decide +kernel⟩
theorem mw1095 : Cond.instantiable RX12 15 ∈ pm_tbl := List.mem_filter.mpr ⟨List.mem_of_getElem? (i := 1131) (by decide +kernel), by decide +kernel⟩
theorem mw1096 : Cond.methodLink RL 83 yX12_init ∈ pm_tbl := List.mem_filter.mpr ⟨List.mem_of_getElem? (i := 1132) (by decide +kernel), by decide +kernel⟩
theorem mw1097 : Cond.code yX12_init cX12_init 1 none ∈ pm_tbl := List.mem_filter.mpr ⟨List.mem_of_getElem? (i := 1134) (by decide +kernel), by decide +kernel⟩
theorem my_X12_init : pm_my mX12_init 0 := ⟨mw1097, mw782, by decide +kernel⟩
theorem mw1099 : Cond.instanceMethod yX12_init ∈ pm_tbl := List.mem_filter.mpr ⟨List.mem_of_getElem? (i := 1133) (by decide +kernel), by decide +kernel⟩
theorem ci_X12_init : pm_ci mX12_init 0 := ⟨my_X12_init, mw1099, rfl, rfl, rfl⟩
theorem mw1100 : Cond.arrayClass .long ∈ pm_tbl := List.mem_filter.mpr ⟨List.mem_of_getElem? (i := 1531) (by decide +kernel), by decide +kernel⟩
theorem mw1101 : Cond.methodLink RL 84 yL_setBridges ∈ pm_tbl := List.mem_filter.mpr ⟨List.mem_of_getElem? (i := 958) (by decide +kernel), by decide +kernel⟩
theorem mw1102 : Cond.codeWith yL_setBridges cL_setBridges 4 (some .int) [(0, 9, 12, 13)] ∈ pm_tbl := List.mem_filter.mpr ⟨List.mem_of_getElem? (i := 960) (by decide +kernel), by decide +kernel⟩
theorem mw1103 : Cond.initialized RL ∈ pm_tbl := List.mem_filter.mpr ⟨List.mem_of_getElem? (i := 74) (by decide +kernel), by decide +kernel⟩
theorem my_L_setBridges : pm_my mL_setBridges 3 := ⟨mw1102, mw1103, by decide +kernel⟩
theorem mw1105 : Cond.static yL_setBridges ∈ pm_tbl := List.mem_filter.mpr ⟨List.mem_of_getElem? (i := 959) (by decide +kernel), by decide +kernel⟩
theorem mw1106 : Cond.methodLink RL 89 yX12_setBridges ∈ pm_tbl := List.mem_filter.mpr ⟨List.mem_of_getElem? (i := 1205) (by decide +kernel), by decide +kernel⟩
theorem mw1107 : Cond.code yX12_setBridges cX12_setBridges 3 (some .int) ∈ pm_tbl := List.mem_filter.mpr ⟨List.mem_of_getElem? (i := 1208) (by decide +kernel), by decide +kernel⟩
theorem my_X12_setBridges : pm_my mX12_setBridges 1 := ⟨mw1107, mw782, by decide +kernel⟩
theorem mw1109 : Cond.instanceMethod yX12_setBridges ∈ pm_tbl := List.mem_filter.mpr ⟨List.mem_of_getElem? (i := 1206) (by decide +kernel), by decide +kernel⟩
theorem mw1110 : Cond.selects RX12 yX12_setBridges yX12_setBridges ∈ pm_tbl := List.mem_filter.mpr ⟨List.mem_of_getElem? (i := 1207) (by decide +kernel), by decide +kernel⟩
theorem cv_X12_setBridges : pm_cv mX12_setBridges 1 11 := ⟨my_X12_setBridges, mw1109, mw1110, rfl, TX12, 15, rfl⟩
theorem mw1111 : Cond.methodLink RL 90 yX12_thrown ∈ pm_tbl := List.mem_filter.mpr ⟨List.mem_of_getElem? (i := 1201) (by decide +kernel), by decide +kernel⟩
theorem mw1112 : Cond.code yX12_thrown cX12_thrown 1 (some .int) ∈ pm_tbl := List.mem_filter.mpr ⟨List.mem_of_getElem? (i := 1204) (by decide +kernel), by decide +kernel⟩
theorem my_X12_thrown : pm_my mX12_thrown 0 := ⟨mw1112, mw782, by decide +kernel⟩
theorem mw1114 : Cond.instanceMethod yX12_thrown ∈ pm_tbl := List.mem_filter.mpr ⟨List.mem_of_getElem? (i := 1202) (by decide +kernel), by decide +kernel⟩
theorem mw1115 : Cond.selects RX12 yX12_thrown yX12_thrown ∈ pm_tbl := List.mem_filter.mpr ⟨List.mem_of_getElem? (i := 1203) (by decide +kernel), by decide +kernel⟩
theorem cv_X12_thrown : pm_cv mX12_thrown 0 11 := ⟨my_X12_thrown, mw1114, mw1115, rfl, TX12, 15, rfl⟩
theorem mw1116 : Cond.methodLink RL 93 yL_setTimes ∈ pm_tbl := List.mem_filter.mpr ⟨List.mem_of_getElem? (i := 967) (by decide +kernel), by decide +kernel⟩
theorem mw1117 : Cond.codeWith yL_setTimes cL_setTimes 6 (some .int) [(0, 12, 15, 13)] ∈ pm_tbl := List.mem_filter.mpr ⟨List.mem_of_getElem? (i := 969) (by decide +kernel), by decide +kernel⟩
theorem my_L_setTimes : pm_my mL_setTimes 5 := ⟨mw1117, mw1103, by decide +kernel⟩
theorem mw1119 : Cond.static yL_setTimes ∈ pm_tbl := List.mem_filter.mpr ⟨List.mem_of_getElem? (i := 968) (by decide +kernel), by decide +kernel⟩
theorem mw1120 : Cond.methodLink RL 96 yX12_setTimes ∈ pm_tbl := List.mem_filter.mpr ⟨List.mem_of_getElem? (i := 1225) (by decide +kernel), by decide +kernel⟩
theorem mw1121 : Cond.code yX12_setTimes cX12_setTimes 5 (some .int) ∈ pm_tbl := List.mem_filter.mpr ⟨List.mem_of_getElem? (i := 1228) (by decide +kernel), by decide +kernel⟩
theorem my_X12_setTimes : pm_my mX12_setTimes 3 := ⟨mw1121, mw782, by decide +kernel⟩
theorem mw1123 : Cond.instanceMethod yX12_setTimes ∈ pm_tbl := List.mem_filter.mpr ⟨List.mem_of_getElem? (i := 1226) (by decide +kernel), by decide +kernel⟩
theorem mw1124 : Cond.selects RX12 yX12_setTimes yX12_setTimes ∈ pm_tbl := List.mem_filter.mpr ⟨List.mem_of_getElem? (i := 1227) (by decide +kernel), by decide +kernel⟩
theorem cv_X12_setTimes : pm_cv mX12_setTimes 3 11 := ⟨my_X12_setTimes, mw1123, mw1124, rfl, TX12, 15, rfl⟩
theorem mw1125 : Cond.methodLink RL 97 yL_setPriority ∈ pm_tbl := List.mem_filter.mpr ⟨List.mem_of_getElem? (i := 975) (by decide +kernel), by decide +kernel⟩
theorem mw1126 : Cond.codeWith yL_setPriority cL_setPriority 5 (some .int) [(0, 10, 13, 23), (0, 10, 17, 13)] ∈ pm_tbl := List.mem_filter.mpr ⟨List.mem_of_getElem? (i := 977) (by decide +kernel), by decide +kernel⟩
theorem my_L_setPriority : pm_my mL_setPriority 4 := ⟨mw1126, mw1103, by decide +kernel⟩
theorem mw1128 : Cond.static yL_setPriority ∈ pm_tbl := List.mem_filter.mpr ⟨List.mem_of_getElem? (i := 976) (by decide +kernel), by decide +kernel⟩
theorem mw1129 : Cond.methodLink RL 100 yX12_setPriority ∈ pm_tbl := List.mem_filter.mpr ⟨List.mem_of_getElem? (i := 1229) (by decide +kernel), by decide +kernel⟩
theorem mw1130 : Cond.code yX12_setPriority cX12_setPriority 3 (some .int) ∈ pm_tbl := List.mem_filter.mpr ⟨List.mem_of_getElem? (i := 1232) (by decide +kernel), by decide +kernel⟩
theorem my_X12_setPriority : pm_my mX12_setPriority 2 := ⟨mw1130, mw782, by decide +kernel⟩
theorem mw1132 : Cond.instanceMethod yX12_setPriority ∈ pm_tbl := List.mem_filter.mpr ⟨List.mem_of_getElem? (i := 1230) (by decide +kernel), by decide +kernel⟩
theorem mw1133 : Cond.selects RX12 yX12_setPriority yX12_setPriority ∈ pm_tbl := List.mem_filter.mpr ⟨List.mem_of_getElem? (i := 1231) (by decide +kernel), by decide +kernel⟩
theorem cv_X12_setPriority : pm_cv mX12_setPriority 2 11 := ⟨my_X12_setPriority, mw1132, mw1133, rfl, TX12, 15, rfl⟩
theorem mw1134 : Cond.methodLink RL 101 yL_addLink ∈ pm_tbl := List.mem_filter.mpr ⟨List.mem_of_getElem? (i := 983) (by decide +kernel), by decide +kernel⟩
theorem mw1135 : Cond.codeWith yL_addLink cL_addLink 6 (some .int) [(0, 12, 15, 23), (0, 12, 19, 13), (0, 12, 23, 28)] ∈ pm_tbl := List.mem_filter.mpr ⟨List.mem_of_getElem? (i := 985) (by decide +kernel), by decide +kernel⟩
theorem my_L_addLink : pm_my mL_addLink 5 := ⟨mw1135, mw1103, by decide +kernel⟩
theorem mw1137 : Cond.static yL_addLink ∈ pm_tbl := List.mem_filter.mpr ⟨List.mem_of_getElem? (i := 984) (by decide +kernel), by decide +kernel⟩
theorem mw1138 : Cond.methodLink RL 103 yX12_addLink ∈ pm_tbl := List.mem_filter.mpr ⟨List.mem_of_getElem? (i := 1245) (by decide +kernel), by decide +kernel⟩
theorem mw1139 : Cond.code yX12_addLink cX12_addLink 4 (some .int) ∈ pm_tbl := List.mem_filter.mpr ⟨List.mem_of_getElem? (i := 1248) (by decide +kernel), by decide +kernel⟩
theorem my_X12_addLink : pm_my mX12_addLink 3 := ⟨mw1139, mw782, by decide +kernel⟩
theorem mw1141 : Cond.instanceMethod yX12_addLink ∈ pm_tbl := List.mem_filter.mpr ⟨List.mem_of_getElem? (i := 1246) (by decide +kernel), by decide +kernel⟩
theorem mw1142 : Cond.selects RX12 yX12_addLink yX12_addLink ∈ pm_tbl := List.mem_filter.mpr ⟨List.mem_of_getElem? (i := 1247) (by decide +kernel), by decide +kernel⟩
theorem cv_X12_addLink : pm_cv mX12_addLink 3 11 := ⟨my_X12_addLink, mw1141, mw1142, rfl, TX12, 15, rfl⟩
theorem mw1143 : Cond.methodLink RL 104 yL_fail ∈ pm_tbl := List.mem_filter.mpr ⟨List.mem_of_getElem? (i := 991) (by decide +kernel), by decide +kernel⟩
theorem mw1144 : Cond.codeWith yL_fail cL_fail 4 (some .int) [(0, 9, 12, 23), (0, 9, 15, 28)] ∈ pm_tbl := List.mem_filter.mpr ⟨List.mem_of_getElem? (i := 993) (by decide +kernel), by decide +kernel⟩
theorem my_L_fail : pm_my mL_fail 3 := ⟨mw1144, mw1103, by decide +kernel⟩
theorem mw1146 : Cond.static yL_fail ∈ pm_tbl := List.mem_filter.mpr ⟨List.mem_of_getElem? (i := 992) (by decide +kernel), by decide +kernel⟩
theorem mw1147 : Cond.methodLink RL 106 yX12_fail ∈ pm_tbl := List.mem_filter.mpr ⟨List.mem_of_getElem? (i := 1257) (by decide +kernel), by decide +kernel⟩
theorem mw1148 : Cond.code yX12_fail cX12_fail 2 (some .int) ∈ pm_tbl := List.mem_filter.mpr ⟨List.mem_of_getElem? (i := 1260) (by decide +kernel), by decide +kernel⟩
theorem my_X12_fail : pm_my mX12_fail 1 := ⟨mw1148, mw782, by decide +kernel⟩
theorem mw1150 : Cond.instanceMethod yX12_fail ∈ pm_tbl := List.mem_filter.mpr ⟨List.mem_of_getElem? (i := 1258) (by decide +kernel), by decide +kernel⟩
theorem mw1151 : Cond.selects RX12 yX12_fail yX12_fail ∈ pm_tbl := List.mem_filter.mpr ⟨List.mem_of_getElem? (i := 1259) (by decide +kernel), by decide +kernel⟩
theorem cv_X12_fail : pm_cv mX12_fail 1 11 := ⟨my_X12_fail, mw1150, mw1151, rfl, TX12, 15, rfl⟩
theorem mw1152 : Cond.methodLink RL 107 yL_fix ∈ pm_tbl := List.mem_filter.mpr ⟨List.mem_of_getElem? (i := 998) (by decide +kernel), by decide +kernel⟩
theorem mw1153 : Cond.codeWith yL_fix cL_fix 4 (some .int) [(0, 9, 12, 23), (0, 9, 15, 28)] ∈ pm_tbl := List.mem_filter.mpr ⟨List.mem_of_getElem? (i := 1000) (by decide +kernel), by decide +kernel⟩
theorem my_L_fix : pm_my mL_fix 3 := ⟨mw1153, mw1103, by decide +kernel⟩
theorem mw1155 : Cond.static yL_fix ∈ pm_tbl := List.mem_filter.mpr ⟨List.mem_of_getElem? (i := 999) (by decide +kernel), by decide +kernel⟩
theorem mw1156 : Cond.methodLink RL 109 yX12_fix ∈ pm_tbl := List.mem_filter.mpr ⟨List.mem_of_getElem? (i := 1273) (by decide +kernel), by decide +kernel⟩
theorem mw1157 : Cond.code yX12_fix cX12_fix 2 (some .int) ∈ pm_tbl := List.mem_filter.mpr ⟨List.mem_of_getElem? (i := 1276) (by decide +kernel), by decide +kernel⟩
theorem my_X12_fix : pm_my mX12_fix 1 := ⟨mw1157, mw782, by decide +kernel⟩
theorem mw1159 : Cond.instanceMethod yX12_fix ∈ pm_tbl := List.mem_filter.mpr ⟨List.mem_of_getElem? (i := 1274) (by decide +kernel), by decide +kernel⟩
theorem mw1160 : Cond.selects RX12 yX12_fix yX12_fix ∈ pm_tbl := List.mem_filter.mpr ⟨List.mem_of_getElem? (i := 1275) (by decide +kernel), by decide +kernel⟩
theorem cv_X12_fix : pm_cv mX12_fix 1 11 := ⟨my_X12_fix, mw1159, mw1160, rfl, TX12, 15, rfl⟩
theorem mw1161 : Cond.methodLink RL 110 yL_moveHost ∈ pm_tbl := List.mem_filter.mpr ⟨List.mem_of_getElem? (i := 1005) (by decide +kernel), by decide +kernel⟩
theorem mw1162 : Cond.codeWith yL_moveHost cL_moveHost 5 (some .int) [(0, 10, 13, 23)] ∈ pm_tbl := List.mem_filter.mpr ⟨List.mem_of_getElem? (i := 1007) (by decide +kernel), by decide +kernel⟩
theorem my_L_moveHost : pm_my mL_moveHost 4 := ⟨mw1162, mw1103, by decide +kernel⟩
theorem mw1164 : Cond.static yL_moveHost ∈ pm_tbl := List.mem_filter.mpr ⟨List.mem_of_getElem? (i := 1006) (by decide +kernel), by decide +kernel⟩
theorem mw1165 : Cond.methodLink RL 112 yX12_moveHost ∈ pm_tbl := List.mem_filter.mpr ⟨List.mem_of_getElem? (i := 1281) (by decide +kernel), by decide +kernel⟩
theorem mw1166 : Cond.code yX12_moveHost cX12_moveHost 3 (some .int) ∈ pm_tbl := List.mem_filter.mpr ⟨List.mem_of_getElem? (i := 1284) (by decide +kernel), by decide +kernel⟩
theorem my_X12_moveHost : pm_my mX12_moveHost 2 := ⟨mw1166, mw782, by decide +kernel⟩
theorem mw1168 : Cond.instanceMethod yX12_moveHost ∈ pm_tbl := List.mem_filter.mpr ⟨List.mem_of_getElem? (i := 1282) (by decide +kernel), by decide +kernel⟩
theorem mw1169 : Cond.selects RX12 yX12_moveHost yX12_moveHost ∈ pm_tbl := List.mem_filter.mpr ⟨List.mem_of_getElem? (i := 1283) (by decide +kernel), by decide +kernel⟩
theorem cv_X12_moveHost : pm_cv mX12_moveHost 2 11 := ⟨my_X12_moveHost, mw1168, mw1169, rfl, TX12, 15, rfl⟩
theorem mw1170 : Cond.methodLink RL 113 yL_bid ∈ pm_tbl := List.mem_filter.mpr ⟨List.mem_of_getElem? (i := 1012) (by decide +kernel), by decide +kernel⟩
theorem mw1171 : Cond.codeWith yL_bid cL_bid 6 (some .int) [(0, 12, 15, 23), (0, 12, 19, 13)] ∈ pm_tbl := List.mem_filter.mpr ⟨List.mem_of_getElem? (i := 1014) (by decide +kernel), by decide +kernel⟩
theorem my_L_bid : pm_my mL_bid 5 := ⟨mw1171, mw1103, by decide +kernel⟩
theorem mw1173 : Cond.static yL_bid ∈ pm_tbl := List.mem_filter.mpr ⟨List.mem_of_getElem? (i := 1013) (by decide +kernel), by decide +kernel⟩
theorem mw1174 : Cond.methodLink RL 115 yX12_bid ∈ pm_tbl := List.mem_filter.mpr ⟨List.mem_of_getElem? (i := 1292) (by decide +kernel), by decide +kernel⟩
theorem mw1175 : Cond.code yX12_bid cX12_bid 4 (some .int) ∈ pm_tbl := List.mem_filter.mpr ⟨List.mem_of_getElem? (i := 1295) (by decide +kernel), by decide +kernel⟩
theorem my_X12_bid : pm_my mX12_bid 3 := ⟨mw1175, mw782, by decide +kernel⟩
theorem mw1177 : Cond.instanceMethod yX12_bid ∈ pm_tbl := List.mem_filter.mpr ⟨List.mem_of_getElem? (i := 1293) (by decide +kernel), by decide +kernel⟩
theorem mw1178 : Cond.selects RX12 yX12_bid yX12_bid ∈ pm_tbl := List.mem_filter.mpr ⟨List.mem_of_getElem? (i := 1294) (by decide +kernel), by decide +kernel⟩
theorem cv_X12_bid : pm_cv mX12_bid 3 11 := ⟨my_X12_bid, mw1177, mw1178, rfl, TX12, 15, rfl⟩
theorem mw1179 : Cond.methodLink RL 116 yL_grant ∈ pm_tbl := List.mem_filter.mpr ⟨List.mem_of_getElem? (i := 1019) (by decide +kernel), by decide +kernel⟩
theorem mw1180 : Cond.codeWith yL_grant cL_grant 5 (some .int) [(0, 10, 13, 23), (0, 10, 17, 13), (0, 10, 21, 28)] ∈ pm_tbl := List.mem_filter.mpr ⟨List.mem_of_getElem? (i := 1021) (by decide +kernel), by decide +kernel⟩
theorem my_L_grant : pm_my mL_grant 4 := ⟨mw1180, mw1103, by decide +kernel⟩
theorem mw1182 : Cond.static yL_grant ∈ pm_tbl := List.mem_filter.mpr ⟨List.mem_of_getElem? (i := 1020) (by decide +kernel), by decide +kernel⟩
theorem mw1183 : Cond.methodLink RL 118 yX12_grant ∈ pm_tbl := List.mem_filter.mpr ⟨List.mem_of_getElem? (i := 1303) (by decide +kernel), by decide +kernel⟩
theorem mw1184 : Cond.code yX12_grant cX12_grant 3 (some .int) ∈ pm_tbl := List.mem_filter.mpr ⟨List.mem_of_getElem? (i := 1306) (by decide +kernel), by decide +kernel⟩
theorem my_X12_grant : pm_my mX12_grant 2 := ⟨mw1184, mw782, by decide +kernel⟩
theorem mw1186 : Cond.instanceMethod yX12_grant ∈ pm_tbl := List.mem_filter.mpr ⟨List.mem_of_getElem? (i := 1304) (by decide +kernel), by decide +kernel⟩
theorem mw1187 : Cond.selects RX12 yX12_grant yX12_grant ∈ pm_tbl := List.mem_filter.mpr ⟨List.mem_of_getElem? (i := 1305) (by decide +kernel), by decide +kernel⟩
theorem cv_X12_grant : pm_cv mX12_grant 2 11 := ⟨my_X12_grant, mw1186, mw1187, rfl, TX12, 15, rfl⟩
theorem mw1188 : Cond.methodLink RL 119 yL_tick ∈ pm_tbl := List.mem_filter.mpr ⟨List.mem_of_getElem? (i := 1029) (by decide +kernel), by decide +kernel⟩
theorem mw1189 : Cond.codeWith yL_tick cL_tick 4 (some .int) [(0, 9, 12, 13)] ∈ pm_tbl := List.mem_filter.mpr ⟨List.mem_of_getElem? (i := 1031) (by decide +kernel), by decide +kernel⟩
theorem my_L_tick : pm_my mL_tick 3 := ⟨mw1189, mw1103, by decide +kernel⟩
theorem mw1191 : Cond.static yL_tick ∈ pm_tbl := List.mem_filter.mpr ⟨List.mem_of_getElem? (i := 1030) (by decide +kernel), by decide +kernel⟩
theorem mw1192 : Cond.methodLink RL 121 yX12_tick ∈ pm_tbl := List.mem_filter.mpr ⟨List.mem_of_getElem? (i := 1308) (by decide +kernel), by decide +kernel⟩
theorem mw1193 : Cond.code yX12_tick cX12_tick 2 (some .int) ∈ pm_tbl := List.mem_filter.mpr ⟨List.mem_of_getElem? (i := 1311) (by decide +kernel), by decide +kernel⟩
theorem my_X12_tick : pm_my mX12_tick 1 := ⟨mw1193, mw782, by decide +kernel⟩
theorem mw1195 : Cond.instanceMethod yX12_tick ∈ pm_tbl := List.mem_filter.mpr ⟨List.mem_of_getElem? (i := 1309) (by decide +kernel), by decide +kernel⟩
theorem mw1196 : Cond.selects RX12 yX12_tick yX12_tick ∈ pm_tbl := List.mem_filter.mpr ⟨List.mem_of_getElem? (i := 1310) (by decide +kernel), by decide +kernel⟩
theorem cv_X12_tick : pm_cv mX12_tick 1 11 := ⟨my_X12_tick, mw1195, mw1196, rfl, TX12, 15, rfl⟩
theorem mw1197 : Cond.methodLink RL 122 yX11_time ∈ pm_tbl := List.mem_filter.mpr ⟨List.mem_of_getElem? (i := 491) (by decide +kernel), by decide +kernel⟩
theorem mw1198 : Cond.code yX11_time cX11_time 1 (some .int) ∈ pm_tbl := List.mem_filter.mpr ⟨List.mem_of_getElem? (i := 494) (by decide +kernel), by decide +kernel⟩
theorem my_X11_time : pm_my mX11_time 0 := ⟨mw1198, mw230, by decide +kernel⟩
theorem mw1200 : Cond.instanceMethod yX11_time ∈ pm_tbl := List.mem_filter.mpr ⟨List.mem_of_getElem? (i := 492) (by decide +kernel), by decide +kernel⟩
theorem mw1201 : Cond.selects RX11 yX11_time yX11_time ∈ pm_tbl := List.mem_filter.mpr ⟨List.mem_of_getElem? (i := 493) (by decide +kernel), by decide +kernel⟩
theorem cv_X11_time : pm_cv mX11_time 0 10 := ⟨my_X11_time, mw1200, mw1201, rfl, TX11, 7, rfl⟩
theorem mw1202 : Cond.methodLink RL 125 yX12_time ∈ pm_tbl := List.mem_filter.mpr ⟨List.mem_of_getElem? (i := 1376) (by decide +kernel), by decide +kernel⟩
theorem mw1203 : Cond.code yX12_time cX12_time 1 (some .int) ∈ pm_tbl := List.mem_filter.mpr ⟨List.mem_of_getElem? (i := 1379) (by decide +kernel), by decide +kernel⟩
theorem my_X12_time : pm_my mX12_time 0 := ⟨mw1203, mw782, by decide +kernel⟩
theorem mw1205 : Cond.instanceMethod yX12_time ∈ pm_tbl := List.mem_filter.mpr ⟨List.mem_of_getElem? (i := 1377) (by decide +kernel), by decide +kernel⟩
theorem mw1206 : Cond.selects RX12 yX12_time yX12_time ∈ pm_tbl := List.mem_filter.mpr ⟨List.mem_of_getElem? (i := 1378) (by decide +kernel), by decide +kernel⟩
theorem cv_X12_time : pm_cv mX12_time 0 11 := ⟨my_X12_time, mw1205, mw1206, rfl, TX12, 15, rfl⟩
theorem mw1207 : Cond.methodLink RL 126 yL_send ∈ pm_tbl := List.mem_filter.mpr ⟨List.mem_of_getElem? (i := 1036) (by decide +kernel), by decide +kernel⟩
theorem mw1208 : Cond.codeWith yL_send cL_send 5 (some .int) [(0, 10, 13, 23), (0, 10, 17, 13)] ∈ pm_tbl := List.mem_filter.mpr ⟨List.mem_of_getElem? (i := 1038) (by decide +kernel), by decide +kernel⟩
theorem my_L_send : pm_my mL_send 4 := ⟨mw1208, mw1103, by decide +kernel⟩
theorem mw1210 : Cond.static yL_send ∈ pm_tbl := List.mem_filter.mpr ⟨List.mem_of_getElem? (i := 1037) (by decide +kernel), by decide +kernel⟩
theorem mw1211 : Cond.methodLink RL 128 yX12_send ∈ pm_tbl := List.mem_filter.mpr ⟨List.mem_of_getElem? (i := 1380) (by decide +kernel), by decide +kernel⟩
theorem mw1212 : Cond.code yX12_send cX12_send 14 (some .int) ∈ pm_tbl := List.mem_filter.mpr ⟨List.mem_of_getElem? (i := 1383) (by decide +kernel), by decide +kernel⟩
theorem my_X12_send : pm_my mX12_send 2 := ⟨mw1212, mw782, by decide +kernel⟩
theorem mw1214 : Cond.instanceMethod yX12_send ∈ pm_tbl := List.mem_filter.mpr ⟨List.mem_of_getElem? (i := 1381) (by decide +kernel), by decide +kernel⟩
theorem mw1215 : Cond.selects RX12 yX12_send yX12_send ∈ pm_tbl := List.mem_filter.mpr ⟨List.mem_of_getElem? (i := 1382) (by decide +kernel), by decide +kernel⟩
theorem cv_X12_send : pm_cv mX12_send 2 11 := ⟨my_X12_send, mw1214, mw1215, rfl, TX12, 15, rfl⟩
theorem mw1216 : Cond.methodLink RL 129 yL_bridge ∈ pm_tbl := List.mem_filter.mpr ⟨List.mem_of_getElem? (i := 1072) (by decide +kernel), by decide +kernel⟩
theorem mw1217 : Cond.codeWith yL_bridge cL_bridge 5 (some .int) [(0, 10, 13, 23), (0, 10, 17, 13)] ∈ pm_tbl := List.mem_filter.mpr ⟨List.mem_of_getElem? (i := 1074) (by decide +kernel), by decide +kernel⟩
theorem my_L_bridge : pm_my mL_bridge 4 := ⟨mw1217, mw1103, by decide +kernel⟩
theorem mw1219 : Cond.static yL_bridge ∈ pm_tbl := List.mem_filter.mpr ⟨List.mem_of_getElem? (i := 1073) (by decide +kernel), by decide +kernel⟩
theorem mw1220 : Cond.methodLink RL 131 yX12_bridge ∈ pm_tbl := List.mem_filter.mpr ⟨List.mem_of_getElem? (i := 1392) (by decide +kernel), by decide +kernel⟩
theorem mw1221 : Cond.code yX12_bridge cX12_bridge 3 (some .int) ∈ pm_tbl := List.mem_filter.mpr ⟨List.mem_of_getElem? (i := 1395) (by decide +kernel), by decide +kernel⟩
theorem my_X12_bridge : pm_my mX12_bridge 2 := ⟨mw1221, mw782, by decide +kernel⟩
theorem mw1223 : Cond.instanceMethod yX12_bridge ∈ pm_tbl := List.mem_filter.mpr ⟨List.mem_of_getElem? (i := 1393) (by decide +kernel), by decide +kernel⟩
theorem mw1224 : Cond.selects RX12 yX12_bridge yX12_bridge ∈ pm_tbl := List.mem_filter.mpr ⟨List.mem_of_getElem? (i := 1394) (by decide +kernel), by decide +kernel⟩
theorem cv_X12_bridge : pm_cv mX12_bridge 2 11 := ⟨my_X12_bridge, mw1223, mw1224, rfl, TX12, 15, rfl⟩
theorem mw1225 : Cond.methodLink RL 132 yX11_links ∈ pm_tbl := List.mem_filter.mpr ⟨List.mem_of_getElem? (i := 495) (by decide +kernel), by decide +kernel⟩
theorem mw1226 : Cond.code yX11_links cX11_links 1 (some .int) ∈ pm_tbl := List.mem_filter.mpr ⟨List.mem_of_getElem? (i := 498) (by decide +kernel), by decide +kernel⟩
theorem my_X11_links : pm_my mX11_links 0 := ⟨mw1226, mw230, by decide +kernel⟩
theorem mw1228 : Cond.instanceMethod yX11_links ∈ pm_tbl := List.mem_filter.mpr ⟨List.mem_of_getElem? (i := 496) (by decide +kernel), by decide +kernel⟩
theorem mw1229 : Cond.selects RX11 yX11_links yX11_links ∈ pm_tbl := List.mem_filter.mpr ⟨List.mem_of_getElem? (i := 497) (by decide +kernel), by decide +kernel⟩
theorem cv_X11_links : pm_cv mX11_links 0 10 := ⟨my_X11_links, mw1228, mw1229, rfl, TX11, 7, rfl⟩
theorem mw1230 : Cond.methodLink RL 135 yX12_links ∈ pm_tbl := List.mem_filter.mpr ⟨List.mem_of_getElem? (i := 1404) (by decide +kernel), by decide +kernel⟩
theorem mw1231 : Cond.code yX12_links cX12_links 1 (some .int) ∈ pm_tbl := List.mem_filter.mpr ⟨List.mem_of_getElem? (i := 1407) (by decide +kernel), by decide +kernel⟩
theorem my_X12_links : pm_my mX12_links 0 := ⟨mw1231, mw782, by decide +kernel⟩
theorem mw1233 : Cond.instanceMethod yX12_links ∈ pm_tbl := List.mem_filter.mpr ⟨List.mem_of_getElem? (i := 1405) (by decide +kernel), by decide +kernel⟩
theorem mw1234 : Cond.selects RX12 yX12_links yX12_links ∈ pm_tbl := List.mem_filter.mpr ⟨List.mem_of_getElem? (i := 1406) (by decide +kernel), by decide +kernel⟩
theorem cv_X12_links : pm_cv mX12_links 0 11 := ⟨my_X12_links, mw1233, mw1234, rfl, TX12, 15, rfl⟩
theorem mw1235 : Cond.methodLink RL 136 yL_link ∈ pm_tbl := List.mem_filter.mpr ⟨List.mem_of_getElem? (i := 1076) (by decide +kernel), by decide +kernel⟩
theorem mw1236 : Cond.codeWith yL_link cL_link 5 (some .int) [(0, 10, 13, 23), (0, 10, 17, 13)] ∈ pm_tbl := List.mem_filter.mpr ⟨List.mem_of_getElem? (i := 1078) (by decide +kernel), by decide +kernel⟩
theorem my_L_link : pm_my mL_link 4 := ⟨mw1236, mw1103, by decide +kernel⟩
theorem mw1238 : Cond.static yL_link ∈ pm_tbl := List.mem_filter.mpr ⟨List.mem_of_getElem? (i := 1077) (by decide +kernel), by decide +kernel⟩
theorem mw1239 : Cond.methodLink RL 138 yX12_link ∈ pm_tbl := List.mem_filter.mpr ⟨List.mem_of_getElem? (i := 1408) (by decide +kernel), by decide +kernel⟩
theorem mw1240 : Cond.code yX12_link cX12_link 3 (some .int) ∈ pm_tbl := List.mem_filter.mpr ⟨List.mem_of_getElem? (i := 1411) (by decide +kernel), by decide +kernel⟩
theorem my_X12_link : pm_my mX12_link 2 := ⟨mw1240, mw782, by decide +kernel⟩
theorem mw1242 : Cond.instanceMethod yX12_link ∈ pm_tbl := List.mem_filter.mpr ⟨List.mem_of_getElem? (i := 1409) (by decide +kernel), by decide +kernel⟩
theorem mw1243 : Cond.selects RX12 yX12_link yX12_link ∈ pm_tbl := List.mem_filter.mpr ⟨List.mem_of_getElem? (i := 1410) (by decide +kernel), by decide +kernel⟩
theorem cv_X12_link : pm_cv mX12_link 2 11 := ⟨my_X12_link, mw1242, mw1243, rfl, TX12, 15, rfl⟩
theorem mw1244 : Cond.methodLink RL 139 yL_port ∈ pm_tbl := List.mem_filter.mpr ⟨List.mem_of_getElem? (i := 1080) (by decide +kernel), by decide +kernel⟩
theorem mw1245 : Cond.codeWith yL_port cL_port 6 (some .int) [(0, 12, 15, 23), (0, 12, 19, 13)] ∈ pm_tbl := List.mem_filter.mpr ⟨List.mem_of_getElem? (i := 1082) (by decide +kernel), by decide +kernel⟩
theorem my_L_port : pm_my mL_port 5 := ⟨mw1245, mw1103, by decide +kernel⟩
theorem mw1247 : Cond.static yL_port ∈ pm_tbl := List.mem_filter.mpr ⟨List.mem_of_getElem? (i := 1081) (by decide +kernel), by decide +kernel⟩
theorem mw1248 : Cond.methodLink RL 142 yX12_port ∈ pm_tbl := List.mem_filter.mpr ⟨List.mem_of_getElem? (i := 1416) (by decide +kernel), by decide +kernel⟩
theorem mw1249 : Cond.code yX12_port cX12_port 4 (some .int) ∈ pm_tbl := List.mem_filter.mpr ⟨List.mem_of_getElem? (i := 1419) (by decide +kernel), by decide +kernel⟩
theorem my_X12_port : pm_my mX12_port 3 := ⟨mw1249, mw782, by decide +kernel⟩
theorem mw1251 : Cond.instanceMethod yX12_port ∈ pm_tbl := List.mem_filter.mpr ⟨List.mem_of_getElem? (i := 1417) (by decide +kernel), by decide +kernel⟩
theorem mw1252 : Cond.selects RX12 yX12_port yX12_port ∈ pm_tbl := List.mem_filter.mpr ⟨List.mem_of_getElem? (i := 1418) (by decide +kernel), by decide +kernel⟩
theorem cv_X12_port : pm_cv mX12_port 3 11 := ⟨my_X12_port, mw1251, mw1252, rfl, TX12, 15, rfl⟩
theorem mw1253 : Cond.methodLink RL 143 yL_entry ∈ pm_tbl := List.mem_filter.mpr ⟨List.mem_of_getElem? (i := 1084) (by decide +kernel), by decide +kernel⟩
theorem mw1254 : Cond.codeWith yL_entry cL_entry 5 (some .int) [(0, 10, 13, 23)] ∈ pm_tbl := List.mem_filter.mpr ⟨List.mem_of_getElem? (i := 1086) (by decide +kernel), by decide +kernel⟩
theorem my_L_entry : pm_my mL_entry 4 := ⟨mw1254, mw1103, by decide +kernel⟩
theorem mw1256 : Cond.static yL_entry ∈ pm_tbl := List.mem_filter.mpr ⟨List.mem_of_getElem? (i := 1085) (by decide +kernel), by decide +kernel⟩
theorem mw1257 : Cond.methodLink RL 145 yX12_entry ∈ pm_tbl := List.mem_filter.mpr ⟨List.mem_of_getElem? (i := 1420) (by decide +kernel), by decide +kernel⟩
theorem mw1258 : Cond.code yX12_entry cX12_entry 3 (some .int) ∈ pm_tbl := List.mem_filter.mpr ⟨List.mem_of_getElem? (i := 1423) (by decide +kernel), by decide +kernel⟩
theorem my_X12_entry : pm_my mX12_entry 2 := ⟨mw1258, mw782, by decide +kernel⟩
theorem mw1260 : Cond.instanceMethod yX12_entry ∈ pm_tbl := List.mem_filter.mpr ⟨List.mem_of_getElem? (i := 1421) (by decide +kernel), by decide +kernel⟩
theorem mw1261 : Cond.selects RX12 yX12_entry yX12_entry ∈ pm_tbl := List.mem_filter.mpr ⟨List.mem_of_getElem? (i := 1422) (by decide +kernel), by decide +kernel⟩
theorem cv_X12_entry : pm_cv mX12_entry 2 11 := ⟨my_X12_entry, mw1260, mw1261, rfl, TX12, 15, rfl⟩
theorem mw1262 : Cond.methodLink RL 146 yL_tenant ∈ pm_tbl := List.mem_filter.mpr ⟨List.mem_of_getElem? (i := 1088) (by decide +kernel), by decide +kernel⟩
theorem mw1263 : Cond.codeWith yL_tenant cL_tenant 5 (some .int) [(0, 10, 13, 23), (0, 10, 17, 13)] ∈ pm_tbl := List.mem_filter.mpr ⟨List.mem_of_getElem? (i := 1090) (by decide +kernel), by decide +kernel⟩
theorem my_L_tenant : pm_my mL_tenant 4 := ⟨mw1263, mw1103, by decide +kernel⟩
theorem mw1265 : Cond.static yL_tenant ∈ pm_tbl := List.mem_filter.mpr ⟨List.mem_of_getElem? (i := 1089) (by decide +kernel), by decide +kernel⟩
theorem mw1266 : Cond.methodLink RL 148 yX12_tenant ∈ pm_tbl := List.mem_filter.mpr ⟨List.mem_of_getElem? (i := 1424) (by decide +kernel), by decide +kernel⟩
theorem mw1267 : Cond.code yX12_tenant cX12_tenant 3 (some .int) ∈ pm_tbl := List.mem_filter.mpr ⟨List.mem_of_getElem? (i := 1427) (by decide +kernel), by decide +kernel⟩
theorem my_X12_tenant : pm_my mX12_tenant 2 := ⟨mw1267, mw782, by decide +kernel⟩
theorem mw1269 : Cond.instanceMethod yX12_tenant ∈ pm_tbl := List.mem_filter.mpr ⟨List.mem_of_getElem? (i := 1425) (by decide +kernel), by decide +kernel⟩
theorem mw1270 : Cond.selects RX12 yX12_tenant yX12_tenant ∈ pm_tbl := List.mem_filter.mpr ⟨List.mem_of_getElem? (i := 1426) (by decide +kernel), by decide +kernel⟩
theorem cv_X12_tenant : pm_cv mX12_tenant 2 11 := ⟨my_X12_tenant, mw1269, mw1270, rfl, TX12, 15, rfl⟩
theorem mw1271 : Cond.methodLink RL 149 yL_bidOf ∈ pm_tbl := List.mem_filter.mpr ⟨List.mem_of_getElem? (i := 1092) (by decide +kernel), by decide +kernel⟩
theorem mw1272 : Cond.codeWith yL_bidOf cL_bidOf 5 (some .int) [(0, 10, 13, 23)] ∈ pm_tbl := List.mem_filter.mpr ⟨List.mem_of_getElem? (i := 1094) (by decide +kernel), by decide +kernel⟩
theorem my_L_bidOf : pm_my mL_bidOf 4 := ⟨mw1272, mw1103, by decide +kernel⟩
theorem mw1274 : Cond.static yL_bidOf ∈ pm_tbl := List.mem_filter.mpr ⟨List.mem_of_getElem? (i := 1093) (by decide +kernel), by decide +kernel⟩
theorem mw1275 : Cond.methodLink RL 151 yX12_bidOf ∈ pm_tbl := List.mem_filter.mpr ⟨List.mem_of_getElem? (i := 1436) (by decide +kernel), by decide +kernel⟩
theorem mw1276 : Cond.code yX12_bidOf cX12_bidOf 3 (some .int) ∈ pm_tbl := List.mem_filter.mpr ⟨List.mem_of_getElem? (i := 1439) (by decide +kernel), by decide +kernel⟩
theorem my_X12_bidOf : pm_my mX12_bidOf 2 := ⟨mw1276, mw782, by decide +kernel⟩
theorem mw1278 : Cond.instanceMethod yX12_bidOf ∈ pm_tbl := List.mem_filter.mpr ⟨List.mem_of_getElem? (i := 1437) (by decide +kernel), by decide +kernel⟩
theorem mw1279 : Cond.selects RX12 yX12_bidOf yX12_bidOf ∈ pm_tbl := List.mem_filter.mpr ⟨List.mem_of_getElem? (i := 1438) (by decide +kernel), by decide +kernel⟩
theorem cv_X12_bidOf : pm_cv mX12_bidOf 2 11 := ⟨my_X12_bidOf, mw1278, mw1279, rfl, TX12, 15, rfl⟩
theorem mw1280 : Cond.methodLink RL 152 yL_count ∈ pm_tbl := List.mem_filter.mpr ⟨List.mem_of_getElem? (i := 1096) (by decide +kernel), by decide +kernel⟩
theorem mw1281 : Cond.codeWith yL_count cL_count 4 (some .int) [(0, 9, 12, 13)] ∈ pm_tbl := List.mem_filter.mpr ⟨List.mem_of_getElem? (i := 1098) (by decide +kernel), by decide +kernel⟩
theorem my_L_count : pm_my mL_count 3 := ⟨mw1281, mw1103, by decide +kernel⟩
theorem mw1283 : Cond.static yL_count ∈ pm_tbl := List.mem_filter.mpr ⟨List.mem_of_getElem? (i := 1097) (by decide +kernel), by decide +kernel⟩
theorem mw1284 : Cond.methodLink RL 154 yX12_count ∈ pm_tbl := List.mem_filter.mpr ⟨List.mem_of_getElem? (i := 1440) (by decide +kernel), by decide +kernel⟩
theorem mw1285 : Cond.code yX12_count cX12_count 2 (some .int) ∈ pm_tbl := List.mem_filter.mpr ⟨List.mem_of_getElem? (i := 1443) (by decide +kernel), by decide +kernel⟩
theorem my_X12_count : pm_my mX12_count 1 := ⟨mw1285, mw782, by decide +kernel⟩
theorem mw1287 : Cond.instanceMethod yX12_count ∈ pm_tbl := List.mem_filter.mpr ⟨List.mem_of_getElem? (i := 1441) (by decide +kernel), by decide +kernel⟩
theorem mw1288 : Cond.selects RX12 yX12_count yX12_count ∈ pm_tbl := List.mem_filter.mpr ⟨List.mem_of_getElem? (i := 1442) (by decide +kernel), by decide +kernel⟩
theorem cv_X12_count : pm_cv mX12_count 1 11 := ⟨my_X12_count, mw1287, mw1288, rfl, TX12, 15, rfl⟩
theorem mw1289 : Cond.methodLink RL 155 yX11_isForest ∈ pm_tbl := List.mem_filter.mpr ⟨List.mem_of_getElem? (i := 499) (by decide +kernel), by decide +kernel⟩
theorem mw1290 : Cond.methodLink RL 159 yX12_isForest ∈ pm_tbl := List.mem_filter.mpr ⟨List.mem_of_getElem? (i := 1456) (by decide +kernel), by decide +kernel⟩
theorem mw1291 : Cond.code yX12_isForest cX12_isForest 1 (some .boolean) ∈ pm_tbl := List.mem_filter.mpr ⟨List.mem_of_getElem? (i := 1459) (by decide +kernel), by decide +kernel⟩
theorem my_X12_isForest : pm_my mX12_isForest 0 := ⟨mw1291, mw782, by decide +kernel⟩
theorem mw1293 : Cond.instanceMethod yX12_isForest ∈ pm_tbl := List.mem_filter.mpr ⟨List.mem_of_getElem? (i := 1457) (by decide +kernel), by decide +kernel⟩
theorem mw1294 : Cond.selects RX12 yX12_isForest yX12_isForest ∈ pm_tbl := List.mem_filter.mpr ⟨List.mem_of_getElem? (i := 1458) (by decide +kernel), by decide +kernel⟩
theorem cv_X12_isForest : pm_cv mX12_isForest 0 11 := ⟨my_X12_isForest, mw1293, mw1294, rfl, TX12, 15, rfl⟩
theorem mw1295 : Cond.methodLink RL 160 yL_type ∈ pm_tbl := List.mem_filter.mpr ⟨List.mem_of_getElem? (i := 1100) (by decide +kernel), by decide +kernel⟩
theorem mw1296 : Cond.codeWith yL_type cL_type 4 (some .int) [(0, 9, 12, 13), (0, 9, 15, 28)] ∈ pm_tbl := List.mem_filter.mpr ⟨List.mem_of_getElem? (i := 1102) (by decide +kernel), by decide +kernel⟩
theorem my_L_type : pm_my mL_type 3 := ⟨mw1296, mw1103, by decide +kernel⟩
theorem mw1298 : Cond.static yL_type ∈ pm_tbl := List.mem_filter.mpr ⟨List.mem_of_getElem? (i := 1101) (by decide +kernel), by decide +kernel⟩
theorem mw1299 : Cond.methodLink RL 162 yX12_type ∈ pm_tbl := List.mem_filter.mpr ⟨List.mem_of_getElem? (i := 1464) (by decide +kernel), by decide +kernel⟩
theorem mw1300 : Cond.code yX12_type cX12_type 2 (some .int) ∈ pm_tbl := List.mem_filter.mpr ⟨List.mem_of_getElem? (i := 1467) (by decide +kernel), by decide +kernel⟩
theorem my_X12_type : pm_my mX12_type 1 := ⟨mw1300, mw782, by decide +kernel⟩
theorem mw1302 : Cond.instanceMethod yX12_type ∈ pm_tbl := List.mem_filter.mpr ⟨List.mem_of_getElem? (i := 1465) (by decide +kernel), by decide +kernel⟩
theorem mw1303 : Cond.selects RX12 yX12_type yX12_type ∈ pm_tbl := List.mem_filter.mpr ⟨List.mem_of_getElem? (i := 1466) (by decide +kernel), by decide +kernel⟩
theorem cv_X12_type : pm_cv mX12_type 1 11 := ⟨my_X12_type, mw1302, mw1303, rfl, TX12, 15, rfl⟩
theorem mw1304 : Cond.methodLink RL 163 yX11_clearScript ∈ pm_tbl := List.mem_filter.mpr ⟨List.mem_of_getElem? (i := 519) (by decide +kernel), by decide +kernel⟩
theorem mw1305 : Cond.code yX11_clearScript cX11_clearScript 2 (some .int) ∈ pm_tbl := List.mem_filter.mpr ⟨List.mem_of_getElem? (i := 522) (by decide +kernel), by decide +kernel⟩
theorem my_X11_clearScript : pm_my mX11_clearScript 0 := ⟨mw1305, mw230, by decide +kernel⟩
theorem mw1307 : Cond.instanceMethod yX11_clearScript ∈ pm_tbl := List.mem_filter.mpr ⟨List.mem_of_getElem? (i := 520) (by decide +kernel), by decide +kernel⟩
theorem mw1308 : Cond.selects RX11 yX11_clearScript yX11_clearScript ∈ pm_tbl := List.mem_filter.mpr ⟨List.mem_of_getElem? (i := 521) (by decide +kernel), by decide +kernel⟩
theorem cv_X11_clearScript : pm_cv mX11_clearScript 0 10 := ⟨my_X11_clearScript, mw1307, mw1308, rfl, TX11, 7, rfl⟩
theorem mw1309 : Cond.methodLink RL 166 yX12_clearScript ∈ pm_tbl := List.mem_filter.mpr ⟨List.mem_of_getElem? (i := 1468) (by decide +kernel), by decide +kernel⟩
theorem mw1310 : Cond.code yX12_clearScript cX12_clearScript 2 (some .int) ∈ pm_tbl := List.mem_filter.mpr ⟨List.mem_of_getElem? (i := 1471) (by decide +kernel), by decide +kernel⟩
theorem my_X12_clearScript : pm_my mX12_clearScript 0 := ⟨mw1310, mw782, by decide +kernel⟩
theorem mw1312 : Cond.instanceMethod yX12_clearScript ∈ pm_tbl := List.mem_filter.mpr ⟨List.mem_of_getElem? (i := 1469) (by decide +kernel), by decide +kernel⟩
theorem mw1313 : Cond.selects RX12 yX12_clearScript yX12_clearScript ∈ pm_tbl := List.mem_filter.mpr ⟨List.mem_of_getElem? (i := 1470) (by decide +kernel), by decide +kernel⟩
theorem cv_X12_clearScript : pm_cv mX12_clearScript 0 11 := ⟨my_X12_clearScript, mw1312, mw1313, rfl, TX12, 15, rfl⟩
theorem mw1314 : Cond.methodLink RL 167 yX11_run ∈ pm_tbl := List.mem_filter.mpr ⟨List.mem_of_getElem? (i := 523) (by decide +kernel), by decide +kernel⟩
theorem mw1315 : Cond.code yX11_run cX11_run 4 (some .int) ∈ pm_tbl := List.mem_filter.mpr ⟨List.mem_of_getElem? (i := 526) (by decide +kernel), by decide +kernel⟩
theorem my_X11_run : pm_my mX11_run 0 := ⟨mw1315, mw230, by decide +kernel⟩
theorem mw1317 : Cond.instanceMethod yX11_run ∈ pm_tbl := List.mem_filter.mpr ⟨List.mem_of_getElem? (i := 524) (by decide +kernel), by decide +kernel⟩
theorem mw1318 : Cond.selects RX11 yX11_run yX11_run ∈ pm_tbl := List.mem_filter.mpr ⟨List.mem_of_getElem? (i := 525) (by decide +kernel), by decide +kernel⟩
theorem cv_X11_run : pm_cv mX11_run 0 10 := ⟨my_X11_run, mw1317, mw1318, rfl, TX11, 7, rfl⟩
theorem mw1319 : Cond.methodLink RL 170 yX12_run ∈ pm_tbl := List.mem_filter.mpr ⟨List.mem_of_getElem? (i := 1472) (by decide +kernel), by decide +kernel⟩
theorem mw1320 : Cond.code yX12_run cX12_run 3 (some .int) ∈ pm_tbl := List.mem_filter.mpr ⟨List.mem_of_getElem? (i := 1475) (by decide +kernel), by decide +kernel⟩
theorem my_X12_run : pm_my mX12_run 0 := ⟨mw1320, mw782, by decide +kernel⟩
theorem mw1322 : Cond.instanceMethod yX12_run ∈ pm_tbl := List.mem_filter.mpr ⟨List.mem_of_getElem? (i := 1473) (by decide +kernel), by decide +kernel⟩
theorem mw1323 : Cond.selects RX12 yX12_run yX12_run ∈ pm_tbl := List.mem_filter.mpr ⟨List.mem_of_getElem? (i := 1474) (by decide +kernel), by decide +kernel⟩
theorem cv_X12_run : pm_cv mX12_run 0 11 := ⟨my_X12_run, mw1322, mw1323, rfl, TX12, 15, rfl⟩
theorem mw1324 : Cond.methodLink RL 171 yL_undo ∈ pm_tbl := List.mem_filter.mpr ⟨List.mem_of_getElem? (i := 1118) (by decide +kernel), by decide +kernel⟩
theorem mw1325 : Cond.codeWith yL_undo cL_undo 3 (some .int) [(0, 8, 11, 28)] ∈ pm_tbl := List.mem_filter.mpr ⟨List.mem_of_getElem? (i := 1120) (by decide +kernel), by decide +kernel⟩
theorem my_L_undo : pm_my mL_undo 2 := ⟨mw1325, mw1103, by decide +kernel⟩
theorem mw1327 : Cond.static yL_undo ∈ pm_tbl := List.mem_filter.mpr ⟨List.mem_of_getElem? (i := 1119) (by decide +kernel), by decide +kernel⟩
theorem mw1328 : Cond.methodLink RL 174 yX12_undo ∈ pm_tbl := List.mem_filter.mpr ⟨List.mem_of_getElem? (i := 1509) (by decide +kernel), by decide +kernel⟩
theorem mw1329 : Cond.code yX12_undo cX12_undo 2 (some .int) ∈ pm_tbl := List.mem_filter.mpr ⟨List.mem_of_getElem? (i := 1512) (by decide +kernel), by decide +kernel⟩
theorem my_X12_undo : pm_my mX12_undo 0 := ⟨mw1329, mw782, by decide +kernel⟩
theorem mw1331 : Cond.instanceMethod yX12_undo ∈ pm_tbl := List.mem_filter.mpr ⟨List.mem_of_getElem? (i := 1510) (by decide +kernel), by decide +kernel⟩
theorem mw1332 : Cond.selects RX12 yX12_undo yX12_undo ∈ pm_tbl := List.mem_filter.mpr ⟨List.mem_of_getElem? (i := 1511) (by decide +kernel), by decide +kernel⟩
theorem cv_X12_undo : pm_cv mX12_undo 0 11 := ⟨my_X12_undo, mw1331, mw1332, rfl, TX12, 15, rfl⟩
theorem mw1333 : Cond.methodLink RL 175 yX11_digest ∈ pm_tbl := List.mem_filter.mpr ⟨List.mem_of_getElem? (i := 775) (by decide +kernel), by decide +kernel⟩
theorem mw1334 : Cond.code yX11_digest cX11_digest 5 (some .long) ∈ pm_tbl := List.mem_filter.mpr ⟨List.mem_of_getElem? (i := 778) (by decide +kernel), by decide +kernel⟩
theorem my_X11_digest : pm_my mX11_digest 0 := ⟨mw1334, mw230, by decide +kernel⟩
theorem mw1336 : Cond.instanceMethod yX11_digest ∈ pm_tbl := List.mem_filter.mpr ⟨List.mem_of_getElem? (i := 776) (by decide +kernel), by decide +kernel⟩
theorem mw1337 : Cond.selects RX11 yX11_digest yX11_digest ∈ pm_tbl := List.mem_filter.mpr ⟨List.mem_of_getElem? (i := 777) (by decide +kernel), by decide +kernel⟩
theorem cv_X11_digest : pm_cv mX11_digest 0 10 := ⟨my_X11_digest, mw1336, mw1337, rfl, TX11, 7, rfl⟩
theorem mw1338 : Cond.methodLink RL 179 yX12_digest ∈ pm_tbl := List.mem_filter.mpr ⟨List.mem_of_getElem? (i := 1513) (by decide +kernel), by decide +kernel⟩
theorem mw1339 : Cond.code yX12_digest cX12_digest 2 (some .long) ∈ pm_tbl := List.mem_filter.mpr ⟨List.mem_of_getElem? (i := 1516) (by decide +kernel), by decide +kernel⟩
theorem my_X12_digest : pm_my mX12_digest 0 := ⟨mw1339, mw782, by decide +kernel⟩
theorem mw1341 : Cond.instanceMethod yX12_digest ∈ pm_tbl := List.mem_filter.mpr ⟨List.mem_of_getElem? (i := 1514) (by decide +kernel), by decide +kernel⟩
theorem mw1342 : Cond.selects RX12 yX12_digest yX12_digest ∈ pm_tbl := List.mem_filter.mpr ⟨List.mem_of_getElem? (i := 1515) (by decide +kernel), by decide +kernel⟩
theorem cv_X12_digest : pm_cv mX12_digest 0 11 := ⟨my_X12_digest, mw1341, mw1342, rfl, TX12, 15, rfl⟩
