/-! ===== what the tables say of each method, field and call ===== -/
set_option maxRecDepth 20000 in
theorem uX0 : ∀ x ∈ u_ws RX0 TX0 3, x ∈ zT := by decide +kernel
set_option maxRecDepth 20000 in
theorem uX1 : ∀ x ∈ u_ws RX1 TX1 6, x ∈ zT := by decide +kernel
set_option maxRecDepth 20000 in
theorem uX2 : ∀ x ∈ u_ws RX2 TX2 9, x ∈ zT := by decide +kernel
set_option maxRecDepth 20000 in
theorem uX3 : ∀ x ∈ u_ws RX3 TX3 2, x ∈ zT := by decide +kernel
set_option maxRecDepth 20000 in
theorem uX4 : ∀ x ∈ u_ws RX4 TX4 5, x ∈ zT := by decide +kernel
set_option maxRecDepth 20000 in
theorem uX5 : ∀ x ∈ u_ws RX5 TX5 2, x ∈ zT := by decide +kernel
set_option maxRecDepth 20000 in
theorem uX6 : ∀ x ∈ u_ws RX6 TX6 4, x ∈ zT := by decide +kernel
set_option maxRecDepth 20000 in
theorem uX7 : ∀ x ∈ u_ws RX7 TX7 8, x ∈ zT := by decide +kernel
set_option maxRecDepth 20000 in
theorem uX8 : ∀ x ∈ u_ws RX8 TX8 14, x ∈ zT := by decide +kernel
set_option maxRecDepth 20000 in
theorem uX9 : ∀ x ∈ u_ws RX9 TX9 24, x ∈ zT := by decide +kernel
set_option maxRecDepth 20000 in
theorem iniJ0 : Cond.initialized RJ0 ∈ zT := zT_of 90 rfl rfl
set_option maxRecDepth 20000 in
theorem iniJ1 : Cond.initialized RJ1 ∈ zT := zT_of 91 rfl rfl
set_option maxRecDepth 20000 in
theorem iniJ2 : Cond.initialized RJ2 ∈ zT := zT_of 93 rfl rfl
set_option maxRecDepth 20000 in
theorem iniJ3 : Cond.initialized RJ3 ∈ zT := zT_of 92 rfl rfl
set_option maxRecDepth 20000 in
theorem iniJ6 : Cond.initialized RJ6 ∈ zT := zT_of 94 rfl rfl
set_option maxRecDepth 20000 in
theorem iniJ7 : Cond.initialized RJ7 ∈ zT := zT_of 95 rfl rfl
set_option maxRecDepth 20000 in
theorem iniJ9 : Cond.initialized RJ9 ∈ zT := zT_of 81 rfl rfl
set_option maxRecDepth 20000 in
theorem iniX0 : Cond.initialized RX0 ∈ zT := zT_of 84 rfl rfl
set_option maxRecDepth 20000 in
theorem iniX1 : Cond.initialized RX1 ∈ zT := zT_of 79 rfl rfl
set_option maxRecDepth 20000 in
theorem iniX2 : Cond.initialized RX2 ∈ zT := zT_of 86 rfl rfl
set_option maxRecDepth 20000 in
theorem iniX3 : Cond.initialized RX3 ∈ zT := zT_of 87 rfl rfl
set_option maxRecDepth 20000 in
theorem iniX4 : Cond.initialized RX4 ∈ zT := zT_of 83 rfl rfl
set_option maxRecDepth 20000 in
theorem iniX5 : Cond.initialized RX5 ∈ zT := zT_of 85 rfl rfl
set_option maxRecDepth 20000 in
theorem iniX6 : Cond.initialized RX6 ∈ zT := zT_of 80 rfl rfl
set_option maxRecDepth 20000 in
theorem iniX7 : Cond.initialized RX7 ∈ zT := zT_of 82 rfl rfl
set_option maxRecDepth 20000 in
theorem iniX8 : Cond.initialized RX8 ∈ zT := zT_of 78 rfl rfl
set_option maxRecDepth 20000 in
theorem iniX9 : Cond.initialized RX9 ∈ zT := zT_of 88 rfl rfl
abbrev mX8_init : ZM := (yX8_init, cX8_init, 1, none)
set_option maxRecDepth 20000 in
theorem oX8_init : zOk mX8_init 0 := ⟨zT_of 100 rfl rfl, iniX8, by decide +kernel, by decide +kernel, by decide +kernel⟩
set_option maxRecDepth 20000 in
theorem kX8_init : zCtor mX8_init := ⟨rfl, zT_of 99 rfl rfl, rfl⟩
abbrev mX1_init : ZM := (yX1_init, cX1_init, 1, none)
set_option maxRecDepth 20000 in
theorem oX1_init : zOk mX1_init 0 := ⟨zT_of 108 rfl rfl, iniX1, by decide +kernel, by decide +kernel, by decide +kernel⟩
set_option maxRecDepth 20000 in
theorem kX1_init : zCtor mX1_init := ⟨rfl, zT_of 107 rfl rfl, rfl⟩
abbrev mX6_init : ZM := (yX6_init, cX6_init, 3, none)
set_option maxRecDepth 20000 in
theorem oX6_init : zOk mX6_init 2 := ⟨zT_of 114 rfl rfl, iniX6, by decide +kernel, by decide +kernel, by decide +kernel⟩
set_option maxRecDepth 20000 in
theorem kX6_init : zCtor mX6_init := ⟨rfl, zT_of 113 rfl rfl, rfl⟩
set_option maxRecDepth 20000 in
theorem w_code_max : Cond.code Lib.Math.max.name Lib.Math.max.code 2 (some .int) ∈ zT := zT_of 118 rfl rfl
set_option maxRecDepth 20000 in
theorem w_stat_max : Cond.static Lib.Math.max.name ∈ zT := zT_of 117 rfl rfl
abbrev mX7_init : ZM := (yX7_init, cX7_init, 1, none)
set_option maxRecDepth 20000 in
theorem oX7_init : zOk mX7_init 0 := ⟨zT_of 165 rfl rfl, iniX7, by decide +kernel, by decide +kernel, by decide +kernel⟩
set_option maxRecDepth 20000 in
theorem kX7_init : zCtor mX7_init := ⟨rfl, zT_of 164 rfl rfl, rfl⟩
abbrev mX4_init : ZM := (yX4_init, cX4_init, 1, none)
set_option maxRecDepth 20000 in
theorem oX4_init : zOk mX4_init 0 := ⟨zT_of 197 rfl rfl, iniX4, by decide +kernel, by decide +kernel, by decide +kernel⟩
set_option maxRecDepth 20000 in
theorem kX4_init : zCtor mX4_init := ⟨rfl, zT_of 196 rfl rfl, rfl⟩
abbrev mX0_init : ZM := (yX0_init, cX0_init, 1, none)
set_option maxRecDepth 20000 in
theorem oX0_init : zOk mX0_init 0 := ⟨zT_of 219 rfl rfl, iniX0, by decide +kernel, by decide +kernel, by decide +kernel⟩
set_option maxRecDepth 20000 in
theorem kX0_init : zCtor mX0_init := ⟨rfl, zT_of 218 rfl rfl, rfl⟩
abbrev mX5_init : ZM := (yX5_init, cX5_init, 1, none)
set_option maxRecDepth 20000 in
theorem oX5_init : zOk mX5_init 0 := ⟨zT_of 236 rfl rfl, iniX5, by decide +kernel, by decide +kernel, by decide +kernel⟩
set_option maxRecDepth 20000 in
theorem kX5_init : zCtor mX5_init := ⟨rfl, zT_of 235 rfl rfl, rfl⟩
abbrev mX2_init : ZM := (yX2_init, cX2_init, 1, none)
set_option maxRecDepth 20000 in
theorem oX2_init : zOk mX2_init 0 := ⟨zT_of 249 rfl rfl, iniX2, by decide +kernel, by decide +kernel, by decide +kernel⟩
set_option maxRecDepth 20000 in
theorem kX2_init : zCtor mX2_init := ⟨rfl, zT_of 248 rfl rfl, rfl⟩
abbrev mX3_init : ZM := (yX3_init, cX3_init, 1, none)
set_option maxRecDepth 20000 in
theorem oX3_init : zOk mX3_init 0 := ⟨zT_of 283 rfl rfl, iniX3, by decide +kernel, by decide +kernel, by decide +kernel⟩
set_option maxRecDepth 20000 in
theorem kX3_init : zCtor mX3_init := ⟨rfl, zT_of 282 rfl rfl, rfl⟩
abbrev mX8_box : ZM := (yX8_box, cX8_box, 4, some (.int))
set_option maxRecDepth 20000 in
theorem oX8_box : zOk mX8_box 3 := ⟨zT_of 340 rfl rfl, iniX8, by decide +kernel, by decide +kernel, by decide +kernel⟩
set_option maxRecDepth 20000 in
theorem kX8_box : zVirt mX8_box := ⟨zT_of 338 rfl rfl, zT_of 339 rfl rfl⟩
abbrev mX1_addBox : ZM := (yX1_addBox, cX1_addBox, 5, some (.int))
set_option maxRecDepth 20000 in
theorem oX1_addBox : zOk mX1_addBox 3 := ⟨zT_of 344 rfl rfl, iniX1, by decide +kernel, by decide +kernel, by decide +kernel⟩
set_option maxRecDepth 20000 in
theorem kX1_addBox : zVirt mX1_addBox := ⟨zT_of 342 rfl rfl, zT_of 343 rfl rfl⟩
abbrev mX1_isFormAndSize : ZM := (yX1_isFormAndSize, cX1_isFormAndSize, 2, some (.boolean))
set_option maxRecDepth 20000 in
theorem oX1_isFormAndSize : zOk mX1_isFormAndSize 2 := ⟨zT_of 347 rfl rfl, iniX1, by decide +kernel, by decide +kernel, by decide +kernel⟩
set_option maxRecDepth 20000 in
theorem kX1_isFormAndSize : zStat mX1_isFormAndSize := zT_of 346 rfl rfl
abbrev mX8_within : ZM := (yX8_within, cX8_within, 3, some (.boolean))
set_option maxRecDepth 20000 in
theorem oX8_within : zOk mX8_within 3 := ⟨zT_of 350 rfl rfl, iniX8, by decide +kernel, by decide +kernel, by decide +kernel⟩
set_option maxRecDepth 20000 in
theorem kX8_within : zStat mX8_within := zT_of 349 rfl rfl
abbrev mX6_add : ZM := (yX6_add, cX6_add, 5, some (.int))
set_option maxRecDepth 20000 in
theorem oX6_add : zOk mX6_add 3 := ⟨zT_of 354 rfl rfl, iniX6, by decide +kernel, by decide +kernel, by decide +kernel⟩
set_option maxRecDepth 20000 in
theorem kX6_add : zVirt mX6_add := ⟨zT_of 352 rfl rfl, zT_of 353 rfl rfl⟩
abbrev mX6_change : ZM := (yX6_change, cX6_change, 4, none)
set_option maxRecDepth 20000 in
theorem oX6_change : zOk mX6_change 3 := ⟨zT_of 358 rfl rfl, iniX6, by decide +kernel, by decide +kernel, by decide +kernel⟩
set_option maxRecDepth 20000 in
theorem kX6_change : zVirt mX6_change := ⟨zT_of 356 rfl rfl, zT_of 357 rfl rfl⟩
abbrev mX6_isCell : ZM := (yX6_isCell, cX6_isCell, 3, some (.boolean))
set_option maxRecDepth 20000 in
theorem oX6_isCell : zOk mX6_isCell 2 := ⟨zT_of 362 rfl rfl, iniX6, by decide +kernel, by decide +kernel, by decide +kernel⟩
set_option maxRecDepth 20000 in
theorem kX6_isCell : zVirt mX6_isCell := ⟨zT_of 361 rfl rfl, zT_of 0 rfl rfl⟩
abbrev mX6_drop : ZM := (yX6_drop, cX6_drop, 2, some (.int))
set_option maxRecDepth 20000 in
theorem oX6_drop : zOk mX6_drop 0 := ⟨zT_of 367 rfl rfl, iniX6, by decide +kernel, by decide +kernel, by decide +kernel⟩
set_option maxRecDepth 20000 in
theorem kX6_drop : zVirt mX6_drop := ⟨zT_of 365 rfl rfl, zT_of 366 rfl rfl⟩
abbrev mX8_told : ZM := (yX8_told, cX8_told, 2, some (.int))
set_option maxRecDepth 20000 in
theorem oX8_told : zOk mX8_told 1 := ⟨zT_of 371 rfl rfl, iniX8, by decide +kernel, by decide +kernel, by decide +kernel⟩
set_option maxRecDepth 20000 in
theorem kX8_told : zVirt mX8_told := ⟨zT_of 370 rfl rfl, zT_of 1 rfl rfl⟩
abbrev mX8_lid : ZM := (yX8_lid, cX8_lid, 4, some (.int))
set_option maxRecDepth 20000 in
theorem oX8_lid : zOk mX8_lid 3 := ⟨zT_of 375 rfl rfl, iniX8, by decide +kernel, by decide +kernel, by decide +kernel⟩
set_option maxRecDepth 20000 in
theorem kX8_lid : zVirt mX8_lid := ⟨zT_of 373 rfl rfl, zT_of 374 rfl rfl⟩
abbrev mX1_addLid : ZM := (yX1_addLid, cX1_addLid, 5, some (.int))
set_option maxRecDepth 20000 in
theorem oX1_addLid : zOk mX1_addLid 3 := ⟨zT_of 379 rfl rfl, iniX1, by decide +kernel, by decide +kernel, by decide +kernel⟩
set_option maxRecDepth 20000 in
theorem kX1_addLid : zVirt mX1_addLid := ⟨zT_of 377 rfl rfl, zT_of 378 rfl rfl⟩
abbrev mX1_isKind : ZM := (yX1_isKind, cX1_isKind, 1, some (.boolean))
set_option maxRecDepth 20000 in
theorem oX1_isKind : zOk mX1_isKind 1 := ⟨zT_of 382 rfl rfl, iniX1, by decide +kernel, by decide +kernel, by decide +kernel⟩
set_option maxRecDepth 20000 in
theorem kX1_isKind : zStat mX1_isKind := zT_of 381 rfl rfl
abbrev mX8_put : ZM := (yX8_put, cX8_put, 3, some (.int))
set_option maxRecDepth 20000 in
theorem oX8_put : zOk mX8_put 2 := ⟨zT_of 386 rfl rfl, iniX8, by decide +kernel, by decide +kernel, by decide +kernel⟩
set_option maxRecDepth 20000 in
theorem kX8_put : zVirt mX8_put := ⟨zT_of 384 rfl rfl, zT_of 385 rfl rfl⟩
abbrev mX1_putOn : ZM := (yX1_putOn, cX1_putOn, 3, some (.int))
set_option maxRecDepth 20000 in
theorem oX1_putOn : zOk mX1_putOn 2 := ⟨zT_of 390 rfl rfl, iniX1, by decide +kernel, by decide +kernel, by decide +kernel⟩
set_option maxRecDepth 20000 in
theorem kX1_putOn : zVirt mX1_putOn := ⟨zT_of 388 rfl rfl, zT_of 389 rfl rfl⟩
abbrev mX6_contains : ZM := (yX6_contains, cX6_contains, 2, some (.boolean))
set_option maxRecDepth 20000 in
theorem oX6_contains : zOk mX6_contains 1 := ⟨zT_of 394 rfl rfl, iniX6, by decide +kernel, by decide +kernel, by decide +kernel⟩
set_option maxRecDepth 20000 in
theorem kX6_contains : zVirt mX6_contains := ⟨zT_of 392 rfl rfl, zT_of 393 rfl rfl⟩
abbrev mX1_rowFits : ZM := (yX1_rowFits, cX1_rowFits, 10, some (.boolean))
set_option maxRecDepth 20000 in
theorem oX1_rowFits : zOk mX1_rowFits 3 := ⟨zT_of 398 rfl rfl, iniX1, by decide +kernel, by decide +kernel, by decide +kernel⟩
set_option maxRecDepth 20000 in
theorem kX1_rowFits : zVirt mX1_rowFits := ⟨zT_of 397 rfl rfl, zT_of 2 rfl rfl⟩
abbrev mX6_at : ZM := (yX6_at, cX6_at, 3, some (.int))
set_option maxRecDepth 20000 in
theorem oX6_at : zOk mX6_at 2 := ⟨zT_of 402 rfl rfl, iniX6, by decide +kernel, by decide +kernel, by decide +kernel⟩
set_option maxRecDepth 20000 in
theorem kX6_at : zVirt mX6_at := ⟨zT_of 400 rfl rfl, zT_of 401 rfl rfl⟩
abbrev mX1_boxUnder : ZM := (yX1_boxUnder, cX1_boxUnder, 3, some (.int))
set_option maxRecDepth 20000 in
theorem oX1_boxUnder : zOk mX1_boxUnder 1 := ⟨zT_of 406 rfl rfl, iniX1, by decide +kernel, by decide +kernel, by decide +kernel⟩
set_option maxRecDepth 20000 in
theorem kX1_boxUnder : zVirt mX1_boxUnder := ⟨zT_of 405 rfl rfl, zT_of 3 rfl rfl⟩
abbrev mX6_size : ZM := (yX6_size, cX6_size, 1, some (.int))
set_option maxRecDepth 20000 in
theorem oX6_size : zOk mX6_size 0 := ⟨zT_of 410 rfl rfl, iniX6, by decide +kernel, by decide +kernel, by decide +kernel⟩
set_option maxRecDepth 20000 in
theorem kX6_size : zVirt mX6_size := ⟨zT_of 408 rfl rfl, zT_of 409 rfl rfl⟩
abbrev mX1_remember : ZM := (yX1_remember, cX1_remember, 4, none)
set_option maxRecDepth 20000 in
theorem oX1_remember : zOk mX1_remember 3 := ⟨zT_of 414 rfl rfl, iniX1, by decide +kernel, by decide +kernel, by decide +kernel⟩
set_option maxRecDepth 20000 in
theorem kX1_remember : zVirt mX1_remember := ⟨zT_of 413 rfl rfl, zT_of 4 rfl rfl⟩
abbrev mX6_dropFirst : ZM := (yX6_dropFirst, cX6_dropFirst, 1, none)
set_option maxRecDepth 20000 in
theorem oX6_dropFirst : zOk mX6_dropFirst 0 := ⟨zT_of 418 rfl rfl, iniX6, by decide +kernel, by decide +kernel, by decide +kernel⟩
set_option maxRecDepth 20000 in
theorem kX6_dropFirst : zVirt mX6_dropFirst := ⟨zT_of 416 rfl rfl, zT_of 417 rfl rfl⟩
abbrev mX8_off : ZM := (yX8_off, cX8_off, 2, some (.int))
set_option maxRecDepth 20000 in
theorem oX8_off : zOk mX8_off 1 := ⟨zT_of 425 rfl rfl, iniX8, by decide +kernel, by decide +kernel, by decide +kernel⟩
set_option maxRecDepth 20000 in
theorem kX8_off : zVirt mX8_off := ⟨zT_of 423 rfl rfl, zT_of 424 rfl rfl⟩
abbrev mX1_takeOff : ZM := (yX1_takeOff, cX1_takeOff, 3, some (.int))
set_option maxRecDepth 20000 in
theorem oX1_takeOff : zOk mX1_takeOff 1 := ⟨zT_of 429 rfl rfl, iniX1, by decide +kernel, by decide +kernel, by decide +kernel⟩
set_option maxRecDepth 20000 in
theorem kX1_takeOff : zVirt mX1_takeOff := ⟨zT_of 427 rfl rfl, zT_of 428 rfl rfl⟩
abbrev mX8_undo : ZM := (yX8_undo, cX8_undo, 1, some (.int))
set_option maxRecDepth 20000 in
theorem oX8_undo : zOk mX8_undo 0 := ⟨zT_of 433 rfl rfl, iniX8, by decide +kernel, by decide +kernel, by decide +kernel⟩
set_option maxRecDepth 20000 in
theorem kX8_undo : zVirt mX8_undo := ⟨zT_of 431 rfl rfl, zT_of 432 rfl rfl⟩
abbrev mX1_stepBack : ZM := (yX1_stepBack, cX1_stepBack, 3, some (.int))
set_option maxRecDepth 20000 in
theorem oX1_stepBack : zOk mX1_stepBack 0 := ⟨zT_of 437 rfl rfl, iniX1, by decide +kernel, by decide +kernel, by decide +kernel⟩
set_option maxRecDepth 20000 in
theorem kX1_stepBack : zVirt mX1_stepBack := ⟨zT_of 435 rfl rfl, zT_of 436 rfl rfl⟩
abbrev mX6_dropLast : ZM := (yX6_dropLast, cX6_dropLast, 1, none)
set_option maxRecDepth 20000 in
theorem oX6_dropLast : zOk mX6_dropLast 0 := ⟨zT_of 441 rfl rfl, iniX6, by decide +kernel, by decide +kernel, by decide +kernel⟩
set_option maxRecDepth 20000 in
theorem kX6_dropLast : zVirt mX6_dropLast := ⟨zT_of 439 rfl rfl, zT_of 440 rfl rfl⟩
abbrev mX8_on : ZM := (yX8_on, cX8_on, 2, some (.int))
set_option maxRecDepth 20000 in
theorem oX8_on : zOk mX8_on 1 := ⟨zT_of 445 rfl rfl, iniX8, by decide +kernel, by decide +kernel, by decide +kernel⟩
set_option maxRecDepth 20000 in
theorem kX8_on : zVirt mX8_on := ⟨zT_of 443 rfl rfl, zT_of 444 rfl rfl⟩
abbrev mX8_badToldApart : ZM := (yX8_badToldApart, cX8_badToldApart, 1, some (.int))
set_option maxRecDepth 20000 in
theorem oX8_badToldApart : zOk mX8_badToldApart 0 := ⟨zT_of 451 rfl rfl, iniX8, by decide +kernel, by decide +kernel, by decide +kernel⟩
set_option maxRecDepth 20000 in
theorem kX8_badToldApart : zVirt mX8_badToldApart := ⟨zT_of 450 rfl rfl, zT_of 5 rfl rfl⟩
abbrev mX8_grasp : ZM := (yX8_grasp, cX8_grasp, 3, some (.int))
set_option maxRecDepth 20000 in
theorem oX8_grasp : zOk mX8_grasp 2 := ⟨zT_of 455 rfl rfl, iniX8, by decide +kernel, by decide +kernel, by decide +kernel⟩
set_option maxRecDepth 20000 in
theorem kX8_grasp : zVirt mX8_grasp := ⟨zT_of 453 rfl rfl, zT_of 454 rfl rfl⟩
abbrev mX1_changeGrasps : ZM := (yX1_changeGrasps, cX1_changeGrasps, 4, some (.int))
set_option maxRecDepth 20000 in
theorem oX1_changeGrasps : zOk mX1_changeGrasps 2 := ⟨zT_of 459 rfl rfl, iniX1, by decide +kernel, by decide +kernel, by decide +kernel⟩
set_option maxRecDepth 20000 in
theorem kX1_changeGrasps : zVirt mX1_changeGrasps := ⟨zT_of 457 rfl rfl, zT_of 458 rfl rfl⟩
abbrev mX8_sort : ZM := (yX8_sort, cX8_sort, 5, some (.int))
set_option maxRecDepth 20000 in
theorem oX8_sort : zOk mX8_sort 4 := ⟨zT_of 463 rfl rfl, iniX8, by decide +kernel, by decide +kernel, by decide +kernel⟩
set_option maxRecDepth 20000 in
theorem kX8_sort : zVirt mX8_sort := ⟨zT_of 461 rfl rfl, zT_of 462 rfl rfl⟩
abbrev mX1_addSort : ZM := (yX1_addSort, cX1_addSort, 6, some (.int))
set_option maxRecDepth 20000 in
theorem oX1_addSort : zOk mX1_addSort 4 := ⟨zT_of 467 rfl rfl, iniX1, by decide +kernel, by decide +kernel, by decide +kernel⟩
set_option maxRecDepth 20000 in
theorem kX1_addSort : zVirt mX1_addSort := ⟨zT_of 465 rfl rfl, zT_of 466 rfl rfl⟩
abbrev mX8_eye : ZM := (yX8_eye, cX8_eye, 3, some (.int))
set_option maxRecDepth 20000 in
theorem oX8_eye : zOk mX8_eye 2 := ⟨zT_of 471 rfl rfl, iniX8, by decide +kernel, by decide +kernel, by decide +kernel⟩
set_option maxRecDepth 20000 in
theorem kX8_eye : zVirt mX8_eye := ⟨zT_of 469 rfl rfl, zT_of 470 rfl rfl⟩
abbrev mX1_changeChance : ZM := (yX1_changeChance, cX1_changeChance, 4, some (.int))
set_option maxRecDepth 20000 in
theorem oX1_changeChance : zOk mX1_changeChance 2 := ⟨zT_of 475 rfl rfl, iniX1, by decide +kernel, by decide +kernel, by decide +kernel⟩
set_option maxRecDepth 20000 in
theorem kX1_changeChance : zVirt mX1_changeChance := ⟨zT_of 473 rfl rfl, zT_of 474 rfl rfl⟩
abbrev mX8_type : ZM := (yX8_type, cX8_type, 2, some (.int))
set_option maxRecDepth 20000 in
theorem oX8_type : zOk mX8_type 1 := ⟨zT_of 479 rfl rfl, iniX8, by decide +kernel, by decide +kernel, by decide +kernel⟩
set_option maxRecDepth 20000 in
theorem kX8_type : zVirt mX8_type := ⟨zT_of 477 rfl rfl, zT_of 478 rfl rfl⟩
abbrev mX7_append : ZM := (yX7_append, cX7_append, 2, some (.int))
set_option maxRecDepth 20000 in
theorem oX7_append : zOk mX7_append 1 := ⟨zT_of 483 rfl rfl, iniX7, by decide +kernel, by decide +kernel, by decide +kernel⟩
set_option maxRecDepth 20000 in
theorem kX7_append : zVirt mX7_append := ⟨zT_of 481 rfl rfl, zT_of 482 rfl rfl⟩
abbrev mX8_clear : ZM := (yX8_clear, cX8_clear, 1, some (.int))
set_option maxRecDepth 20000 in
theorem oX8_clear : zOk mX8_clear 0 := ⟨zT_of 488 rfl rfl, iniX8, by decide +kernel, by decide +kernel, by decide +kernel⟩
set_option maxRecDepth 20000 in
theorem kX8_clear : zVirt mX8_clear := ⟨zT_of 486 rfl rfl, zT_of 487 rfl rfl⟩
abbrev mX7_drop : ZM := (yX7_drop, cX7_drop, 2, some (.int))
set_option maxRecDepth 20000 in
theorem oX7_drop : zOk mX7_drop 0 := ⟨zT_of 492 rfl rfl, iniX7, by decide +kernel, by decide +kernel, by decide +kernel⟩
set_option maxRecDepth 20000 in
theorem kX7_drop : zVirt mX7_drop := ⟨zT_of 490 rfl rfl, zT_of 491 rfl rfl⟩
abbrev mX8_read : ZM := (yX8_read, cX8_read, 3, some (.int))
set_option maxRecDepth 20000 in
theorem oX8_read : zOk mX8_read 0 := ⟨zT_of 496 rfl rfl, iniX8, by decide +kernel, by decide +kernel, by decide +kernel⟩
set_option maxRecDepth 20000 in
theorem kX8_read : zVirt mX8_read := ⟨zT_of 494 rfl rfl, zT_of 495 rfl rfl⟩
abbrev mX1_empty : ZM := (yX1_empty, cX1_empty, 1, none)
set_option maxRecDepth 20000 in
theorem oX1_empty : zOk mX1_empty 0 := ⟨zT_of 500 rfl rfl, iniX1, by decide +kernel, by decide +kernel, by decide +kernel⟩
set_option maxRecDepth 20000 in
theorem kX1_empty : zVirt mX1_empty := ⟨zT_of 498 rfl rfl, zT_of 499 rfl rfl⟩
abbrev mX7_rewind : ZM := (yX7_rewind, cX7_rewind, 1, none)
set_option maxRecDepth 20000 in
theorem oX7_rewind : zOk mX7_rewind 0 := ⟨zT_of 504 rfl rfl, iniX7, by decide +kernel, by decide +kernel, by decide +kernel⟩
set_option maxRecDepth 20000 in
theorem kX7_rewind : zVirt mX7_rewind := ⟨zT_of 502 rfl rfl, zT_of 503 rfl rfl⟩
abbrev mX7_advance : ZM := (yX7_advance, cX7_advance, 2, none)
set_option maxRecDepth 20000 in
theorem oX7_advance : zOk mX7_advance 0 := ⟨zT_of 508 rfl rfl, iniX7, by decide +kernel, by decide +kernel, by decide +kernel⟩
set_option maxRecDepth 20000 in
theorem kX7_advance : zVirt mX7_advance := ⟨zT_of 506 rfl rfl, zT_of 507 rfl rfl⟩
abbrev mX7_byteAt : ZM := (yX7_byteAt, cX7_byteAt, 2, some (.int))
set_option maxRecDepth 20000 in
theorem oX7_byteAt : zOk mX7_byteAt 1 := ⟨zT_of 512 rfl rfl, iniX7, by decide +kernel, by decide +kernel, by decide +kernel⟩
set_option maxRecDepth 20000 in
theorem kX7_byteAt : zVirt mX7_byteAt := ⟨zT_of 511 rfl rfl, zT_of 6 rfl rfl⟩
abbrev mX7_isLetter : ZM := (yX7_isLetter, cX7_isLetter, 1, some (.boolean))
set_option maxRecDepth 20000 in
theorem oX7_isLetter : zOk mX7_isLetter 1 := ⟨zT_of 515 rfl rfl, iniX7, by decide +kernel, by decide +kernel, by decide +kernel⟩
set_option maxRecDepth 20000 in
theorem kX7_isLetter : zStat mX7_isLetter := zT_of 514 rfl rfl
abbrev mX7_advanceOverWord : ZM := (yX7_advanceOverWord, cX7_advanceOverWord, 1, none)
set_option maxRecDepth 20000 in
theorem oX7_advanceOverWord : zOk mX7_advanceOverWord 0 := ⟨zT_of 519 rfl rfl, iniX7, by decide +kernel, by decide +kernel, by decide +kernel⟩
set_option maxRecDepth 20000 in
theorem kX7_advanceOverWord : zVirt mX7_advanceOverWord := ⟨zT_of 518 rfl rfl, zT_of 7 rfl rfl⟩
abbrev mX7_wordNumber : ZM := (yX7_wordNumber, cX7_wordNumber, 2, some (.int))
set_option maxRecDepth 20000 in
theorem oX7_wordNumber : zOk mX7_wordNumber 0 := ⟨zT_of 523 rfl rfl, iniX7, by decide +kernel, by decide +kernel, by decide +kernel⟩
set_option maxRecDepth 20000 in
theorem kX7_wordNumber : zVirt mX7_wordNumber := ⟨zT_of 522 rfl rfl, zT_of 8 rfl rfl⟩
abbrev mX7_nameOf : ZM := (yX7_nameOf, cX7_nameOf, 1, some (.object "java/lang/String"))
set_option maxRecDepth 20000 in
theorem oX7_nameOf : zOk mX7_nameOf 1 := ⟨zT_of 526 rfl rfl, iniX7, by decide +kernel, by decide +kernel, by decide +kernel⟩
set_option maxRecDepth 20000 in
theorem kX7_nameOf : zStat mX7_nameOf := zT_of 525 rfl rfl
abbrev mX7_spells : ZM := (yX7_spells, cX7_spells, 3, some (.boolean))
set_option maxRecDepth 20000 in
theorem oX7_spells : zOk mX7_spells 1 := ⟨zT_of 535 rfl rfl, iniX7, by decide +kernel, by decide +kernel, by decide +kernel⟩
set_option maxRecDepth 20000 in
theorem kX7_spells : zVirt mX7_spells := ⟨zT_of 534 rfl rfl, zT_of 9 rfl rfl⟩
abbrev mJ0_length_8abf5 : ZM := (yJ0_length_8abf5, cJ0_length_8abf5, 1, some (.int))
set_option maxRecDepth 20000 in
theorem oJ0_length_8abf5 : zOk mJ0_length_8abf5 0 := ⟨zT_of 539 rfl rfl, iniJ0, by decide +kernel, by decide +kernel, by decide +kernel⟩
set_option maxRecDepth 20000 in
theorem kJ0_length_8abf5 : zVirt mJ0_length_8abf5 := ⟨zT_of 537 rfl rfl, zT_of 538 rfl rfl⟩
abbrev mJ0_coder_7d493 : ZM := (yJ0_coder_7d493, cJ0_coder_7d493, 1, some (.byte))
set_option maxRecDepth 20000 in
theorem oJ0_coder_7d493 : zOk mJ0_coder_7d493 0 := ⟨zT_of 543 rfl rfl, iniJ0, by decide +kernel, by decide +kernel, by decide +kernel⟩
set_option maxRecDepth 20000 in
theorem kJ0_coder_7d493 : zVirt mJ0_coder_7d493 := ⟨zT_of 541 rfl rfl, zT_of 542 rfl rfl⟩
abbrev mJ0_charAt_5068e : ZM := (yJ0_charAt_5068e, cJ0_charAt_5068e, 2, some (.char))
set_option maxRecDepth 20000 in
theorem oJ0_charAt_5068e : zOk mJ0_charAt_5068e 1 := ⟨zT_of 549 rfl rfl, iniJ0, by decide +kernel, by decide +kernel, by decide +kernel⟩
set_option maxRecDepth 20000 in
theorem kJ0_charAt_5068e : zVirt mJ0_charAt_5068e := ⟨zT_of 547 rfl rfl, zT_of 548 rfl rfl⟩
abbrev mJ0_isLatin1_aae02 : ZM := (yJ0_isLatin1_aae02, cJ0_isLatin1_aae02, 1, some (.boolean))
set_option maxRecDepth 20000 in
theorem oJ0_isLatin1_aae02 : zOk mJ0_isLatin1_aae02 0 := ⟨zT_of 553 rfl rfl, iniJ0, by decide +kernel, by decide +kernel, by decide +kernel⟩
set_option maxRecDepth 20000 in
theorem kJ0_isLatin1_aae02 : zVirt mJ0_isLatin1_aae02 := ⟨zT_of 551 rfl rfl, zT_of 552 rfl rfl⟩
abbrev mJ1_charAt_3b067 : ZM := (yJ1_charAt_3b067, cJ1_charAt_3b067, 2, some (.char))
set_option maxRecDepth 20000 in
theorem oJ1_charAt_3b067 : zOk mJ1_charAt_3b067 2 := ⟨zT_of 556 rfl rfl, iniJ1, by decide +kernel, by decide +kernel, by decide +kernel⟩
set_option maxRecDepth 20000 in
theorem kJ1_charAt_3b067 : zStat mJ1_charAt_3b067 := zT_of 555 rfl rfl
abbrev mJ0_checkIndex_df160 : ZM := (yJ0_checkIndex_df160, cJ0_checkIndex_df160, 2, none)
set_option maxRecDepth 20000 in
theorem oJ0_checkIndex_df160 : zOk mJ0_checkIndex_df160 2 := ⟨zT_of 559 rfl rfl, iniJ0, by decide +kernel, by decide +kernel, by decide +kernel⟩
set_option maxRecDepth 20000 in
theorem kJ0_checkIndex_df160 : zStat mJ0_checkIndex_df160 := zT_of 558 rfl rfl
abbrev mJ3_checkIndex_8e157 : ZM := (yJ3_checkIndex_8e157, cJ3_checkIndex_8e157, 3, some (.int))
set_option maxRecDepth 20000 in
theorem oJ3_checkIndex_8e157 : zOk mJ3_checkIndex_8e157 3 := ⟨zT_of 564 rfl rfl, iniJ3, by decide +kernel, by decide +kernel, by decide +kernel⟩
set_option maxRecDepth 20000 in
theorem kJ3_checkIndex_8e157 : zStat mJ3_checkIndex_8e157 := zT_of 563 rfl rfl
abbrev mJ2_charAt_3b067 : ZM := (yJ2_charAt_3b067, cJ2_charAt_3b067, 2, some (.char))
set_option maxRecDepth 20000 in
theorem oJ2_charAt_3b067 : zOk mJ2_charAt_3b067 2 := ⟨zT_of 567 rfl rfl, iniJ2, by decide +kernel, by decide +kernel, by decide +kernel⟩
set_option maxRecDepth 20000 in
theorem kJ2_charAt_3b067 : zStat mJ2_charAt_3b067 := zT_of 566 rfl rfl
abbrev mJ2_checkIndex_2214a : ZM := (yJ2_checkIndex_2214a, cJ2_checkIndex_2214a, 2, none)
set_option maxRecDepth 20000 in
theorem oJ2_checkIndex_2214a : zOk mJ2_checkIndex_2214a 2 := ⟨zT_of 570 rfl rfl, iniJ2, by decide +kernel, by decide +kernel, by decide +kernel⟩
set_option maxRecDepth 20000 in
theorem kJ2_checkIndex_2214a : zStat mJ2_checkIndex_2214a := zT_of 569 rfl rfl
abbrev mJ2_length_9d52b : ZM := (yJ2_length_9d52b, cJ2_length_9d52b, 1, some (.int))
set_option maxRecDepth 20000 in
theorem oJ2_length_9d52b : zOk mJ2_length_9d52b 1 := ⟨zT_of 573 rfl rfl, iniJ2, by decide +kernel, by decide +kernel, by decide +kernel⟩
set_option maxRecDepth 20000 in
theorem kJ2_length_9d52b : zStat mJ2_length_9d52b := zT_of 572 rfl rfl
abbrev mJ2_getChar_3b067 : ZM := (yJ2_getChar_3b067, cJ2_getChar_3b067, 2, some (.char))
set_option maxRecDepth 20000 in
theorem oJ2_getChar_3b067 : zOk mJ2_getChar_3b067 2 := ⟨zT_of 577 rfl rfl, iniJ2, by decide +kernel, by decide +kernel, by decide +kernel⟩
set_option maxRecDepth 20000 in
theorem kJ2_getChar_3b067 : zStat mJ2_getChar_3b067 := zT_of 576 rfl rfl
abbrev mX7_isFigure : ZM := (yX7_isFigure, cX7_isFigure, 1, some (.boolean))
set_option maxRecDepth 20000 in
theorem oX7_isFigure : zOk mX7_isFigure 1 := ⟨zT_of 586 rfl rfl, iniX7, by decide +kernel, by decide +kernel, by decide +kernel⟩
set_option maxRecDepth 20000 in
theorem kX7_isFigure : zStat mX7_isFigure := zT_of 585 rfl rfl
abbrev mX7_advanceOverNumber : ZM := (yX7_advanceOverNumber, cX7_advanceOverNumber, 2, none)
set_option maxRecDepth 20000 in
theorem oX7_advanceOverNumber : zOk mX7_advanceOverNumber 0 := ⟨zT_of 590 rfl rfl, iniX7, by decide +kernel, by decide +kernel, by decide +kernel⟩
set_option maxRecDepth 20000 in
theorem kX7_advanceOverNumber : zVirt mX7_advanceOverNumber := ⟨zT_of 589 rfl rfl, zT_of 10 rfl rfl⟩
abbrev mX7_isAtEnd : ZM := (yX7_isAtEnd, cX7_isAtEnd, 1, some (.boolean))
set_option maxRecDepth 20000 in
theorem oX7_isAtEnd : zOk mX7_isAtEnd 0 := ⟨zT_of 594 rfl rfl, iniX7, by decide +kernel, by decide +kernel, by decide +kernel⟩
set_option maxRecDepth 20000 in
theorem kX7_isAtEnd : zVirt mX7_isAtEnd := ⟨zT_of 592 rfl rfl, zT_of 593 rfl rfl⟩
abbrev mX7_takeItem : ZM := (yX7_takeItem, cX7_takeItem, 3, some (.boolean))
set_option maxRecDepth 20000 in
theorem oX7_takeItem : zOk mX7_takeItem 0 := ⟨zT_of 598 rfl rfl, iniX7, by decide +kernel, by decide +kernel, by decide +kernel⟩
set_option maxRecDepth 20000 in
theorem kX7_takeItem : zVirt mX7_takeItem := ⟨zT_of 596 rfl rfl, zT_of 597 rfl rfl⟩
abbrev mX7_numbersDue : ZM := (yX7_numbersDue, cX7_numbersDue, 1, some (.int))
set_option maxRecDepth 20000 in
theorem oX7_numbersDue : zOk mX7_numbersDue 1 := ⟨zT_of 601 rfl rfl, iniX7, by decide +kernel, by decide +kernel, by decide +kernel⟩
set_option maxRecDepth 20000 in
theorem kX7_numbersDue : zStat mX7_numbersDue := zT_of 600 rfl rfl
abbrev mX7_place : ZM := (yX7_place, cX7_place, 1, some (.int))
set_option maxRecDepth 20000 in
theorem oX7_place : zOk mX7_place 0 := ⟨zT_of 606 rfl rfl, iniX7, by decide +kernel, by decide +kernel, by decide +kernel⟩
set_option maxRecDepth 20000 in
theorem kX7_place : zVirt mX7_place := ⟨zT_of 604 rfl rfl, zT_of 605 rfl rfl⟩
abbrev mX8_tellItem : ZM := (yX8_tellItem, cX8_tellItem, 5, some (.int))
set_option maxRecDepth 20000 in
theorem oX8_tellItem : zOk mX8_tellItem 1 := ⟨zT_of 610 rfl rfl, iniX8, by decide +kernel, by decide +kernel, by decide +kernel⟩
set_option maxRecDepth 20000 in
theorem kX8_tellItem : zVirt mX8_tellItem := ⟨zT_of 609 rfl rfl, zT_of 11 rfl rfl⟩
abbrev mX7_numberAt : ZM := (yX7_numberAt, cX7_numberAt, 2, some (.int))
set_option maxRecDepth 20000 in
theorem oX7_numberAt : zOk mX7_numberAt 1 := ⟨zT_of 614 rfl rfl, iniX7, by decide +kernel, by decide +kernel, by decide +kernel⟩
set_option maxRecDepth 20000 in
theorem kX7_numberAt : zVirt mX7_numberAt := ⟨zT_of 612 rfl rfl, zT_of 613 rfl rfl⟩
abbrev mX7_word : ZM := (yX7_word, cX7_word, 1, some (.int))
set_option maxRecDepth 20000 in
theorem oX7_word : zOk mX7_word 0 := ⟨zT_of 618 rfl rfl, iniX7, by decide +kernel, by decide +kernel, by decide +kernel⟩
set_option maxRecDepth 20000 in
theorem kX7_word : zVirt mX7_word := ⟨zT_of 616 rfl rfl, zT_of 617 rfl rfl⟩
abbrev mX1_become : ZM := (yX1_become, cX1_become, 2, none)
set_option maxRecDepth 20000 in
theorem oX1_become : zOk mX1_become 1 := ⟨zT_of 622 rfl rfl, iniX1, by decide +kernel, by decide +kernel, by decide +kernel⟩
set_option maxRecDepth 20000 in
theorem kX1_become : zVirt mX1_become := ⟨zT_of 620 rfl rfl, zT_of 621 rfl rfl⟩
abbrev mX6_become : ZM := (yX6_become, cX6_become, 2, none)
set_option maxRecDepth 20000 in
theorem oX6_become : zOk mX6_become 1 := ⟨zT_of 626 rfl rfl, iniX6, by decide +kernel, by decide +kernel, by decide +kernel⟩
set_option maxRecDepth 20000 in
theorem kX6_become : zVirt mX6_become := ⟨zT_of 624 rfl rfl, zT_of 625 rfl rfl⟩
abbrev mX8_fits : ZM := (yX8_fits, cX8_fits, 2, some (.int))
set_option maxRecDepth 20000 in
theorem oX8_fits : zOk mX8_fits 1 := ⟨zT_of 630 rfl rfl, iniX8, by decide +kernel, by decide +kernel, by decide +kernel⟩
set_option maxRecDepth 20000 in
theorem kX8_fits : zVirt mX8_fits := ⟨zT_of 628 rfl rfl, zT_of 629 rfl rfl⟩
abbrev mX1_lidsFor : ZM := (yX1_lidsFor, cX1_lidsFor, 4, some (.int))
set_option maxRecDepth 20000 in
theorem oX1_lidsFor : zOk mX1_lidsFor 1 := ⟨zT_of 634 rfl rfl, iniX1, by decide +kernel, by decide +kernel, by decide +kernel⟩
set_option maxRecDepth 20000 in
theorem kX1_lidsFor : zVirt mX1_lidsFor := ⟨zT_of 632 rfl rfl, zT_of 633 rfl rfl⟩
abbrev mX8_most : ZM := (yX8_most, cX8_most, 2, some (.int))
set_option maxRecDepth 20000 in
theorem oX8_most : zOk mX8_most 1 := ⟨zT_of 638 rfl rfl, iniX8, by decide +kernel, by decide +kernel, by decide +kernel⟩
set_option maxRecDepth 20000 in
theorem kX8_most : zVirt mX8_most := ⟨zT_of 636 rfl rfl, zT_of 637 rfl rfl⟩
abbrev mX8_pairLids : ZM := (yX8_pairLids, cX8_pairLids, 3, none)
set_option maxRecDepth 20000 in
theorem oX8_pairLids : zOk mX8_pairLids 1 := ⟨zT_of 642 rfl rfl, iniX8, by decide +kernel, by decide +kernel, by decide +kernel⟩
set_option maxRecDepth 20000 in
theorem kX8_pairLids : zVirt mX8_pairLids := ⟨zT_of 641 rfl rfl, zT_of 12 rfl rfl⟩
abbrev mX4_begin : ZM := (yX4_begin, cX4_begin, 2, none)
set_option maxRecDepth 20000 in
theorem oX4_begin : zOk mX4_begin 1 := ⟨zT_of 647 rfl rfl, iniX4, by decide +kernel, by decide +kernel, by decide +kernel⟩
set_option maxRecDepth 20000 in
theorem kX4_begin : zVirt mX4_begin := ⟨zT_of 645 rfl rfl, zT_of 646 rfl rfl⟩
set_option maxRecDepth 20000 in
theorem w_code_min : Cond.code Lib.Math.min.name Lib.Math.min.code 2 (some .int) ∈ zT := zT_of 650 rfl rfl
set_option maxRecDepth 20000 in
theorem w_stat_min : Cond.static Lib.Math.min.name ∈ zT := zT_of 649 rfl rfl
abbrev mX4_addRow : ZM := (yX4_addRow, cX4_addRow, 3, none)
set_option maxRecDepth 20000 in
theorem oX4_addRow : zOk mX4_addRow 2 := ⟨zT_of 655 rfl rfl, iniX4, by decide +kernel, by decide +kernel, by decide +kernel⟩
set_option maxRecDepth 20000 in
theorem kX4_addRow : zVirt mX4_addRow := ⟨zT_of 653 rfl rfl, zT_of 654 rfl rfl⟩
abbrev mX4_solve : ZM := (yX4_solve, cX4_solve, 3, none)
set_option maxRecDepth 20000 in
theorem oX4_solve : zOk mX4_solve 0 := ⟨zT_of 659 rfl rfl, iniX4, by decide +kernel, by decide +kernel, by decide +kernel⟩
set_option maxRecDepth 20000 in
theorem kX4_solve : zVirt mX4_solve := ⟨zT_of 657 rfl rfl, zT_of 658 rfl rfl⟩
abbrev mX4_bestOf : ZM := (yX4_bestOf, cX4_bestOf, 6, some (.int))
set_option maxRecDepth 20000 in
theorem oX4_bestOf : zOk mX4_bestOf 2 := ⟨zT_of 663 rfl rfl, iniX4, by decide +kernel, by decide +kernel, by decide +kernel⟩
set_option maxRecDepth 20000 in
theorem kX4_bestOf : zVirt mX4_bestOf := ⟨zT_of 662 rfl rfl, zT_of 13 rfl rfl⟩
abbrev mX4_bestFrom : ZM := (yX4_bestFrom, cX4_bestFrom, 4, some (.int))
set_option maxRecDepth 20000 in
theorem oX4_bestFrom : zOk mX4_bestFrom 2 := ⟨zT_of 667 rfl rfl, iniX4, by decide +kernel, by decide +kernel, by decide +kernel⟩
set_option maxRecDepth 20000 in
theorem kX4_bestFrom : zVirt mX4_bestFrom := ⟨zT_of 666 rfl rfl, zT_of 14 rfl rfl⟩
abbrev mX4_bestWith : ZM := (yX4_bestWith, cX4_bestWith, 4, some (.int))
set_option maxRecDepth 20000 in
theorem oX4_bestWith : zOk mX4_bestWith 3 := ⟨zT_of 672 rfl rfl, iniX4, by decide +kernel, by decide +kernel, by decide +kernel⟩
set_option maxRecDepth 20000 in
theorem kX4_bestWith : zVirt mX4_bestWith := ⟨zT_of 671 rfl rfl, zT_of 15 rfl rfl⟩
abbrev mX4_bestWithout : ZM := (yX4_bestWithout, cX4_bestWithout, 2, some (.int))
set_option maxRecDepth 20000 in
theorem oX4_bestWithout : zOk mX4_bestWithout 1 := ⟨zT_of 676 rfl rfl, iniX4, by decide +kernel, by decide +kernel, by decide +kernel⟩
set_option maxRecDepth 20000 in
theorem kX4_bestWithout : zVirt mX4_bestWithout := ⟨zT_of 674 rfl rfl, zT_of 675 rfl rfl⟩
abbrev mX4_partner : ZM := (yX4_partner, cX4_partner, 5, some (.int))
set_option maxRecDepth 20000 in
theorem oX4_partner : zOk mX4_partner 1 := ⟨zT_of 680 rfl rfl, iniX4, by decide +kernel, by decide +kernel, by decide +kernel⟩
set_option maxRecDepth 20000 in
theorem kX4_partner : zVirt mX4_partner := ⟨zT_of 678 rfl rfl, zT_of 679 rfl rfl⟩
abbrev mX4_leastColumn : ZM := (yX4_leastColumn, cX4_leastColumn, 5, some (.int))
set_option maxRecDepth 20000 in
theorem oX4_leastColumn : zOk mX4_leastColumn 2 := ⟨zT_of 684 rfl rfl, iniX4, by decide +kernel, by decide +kernel, by decide +kernel⟩
set_option maxRecDepth 20000 in
theorem kX4_leastColumn : zVirt mX4_leastColumn := ⟨zT_of 683 rfl rfl, zT_of 16 rfl rfl⟩
abbrev mX8_lacking : ZM := (yX8_lacking, cX8_lacking, 1, some (.int))
set_option maxRecDepth 20000 in
theorem oX8_lacking : zOk mX8_lacking 0 := ⟨zT_of 688 rfl rfl, iniX8, by decide +kernel, by decide +kernel, by decide +kernel⟩
set_option maxRecDepth 20000 in
theorem kX8_lacking : zVirt mX8_lacking := ⟨zT_of 686 rfl rfl, zT_of 687 rfl rfl⟩
abbrev mX0_lookAt : ZM := (yX0_lookAt, cX0_lookAt, 5, none)
set_option maxRecDepth 20000 in
theorem oX0_lookAt : zOk mX0_lookAt 1 := ⟨zT_of 692 rfl rfl, iniX0, by decide +kernel, by decide +kernel, by decide +kernel⟩
set_option maxRecDepth 20000 in
theorem kX0_lookAt : zVirt mX0_lookAt := ⟨zT_of 690 rfl rfl, zT_of 691 rfl rfl⟩
abbrev mX0_lackOf : ZM := (yX0_lackOf, cX0_lackOf, 2, some (.int))
set_option maxRecDepth 20000 in
theorem oX0_lackOf : zOk mX0_lackOf 1 := ⟨zT_of 699 rfl rfl, iniX0, by decide +kernel, by decide +kernel, by decide +kernel⟩
set_option maxRecDepth 20000 in
theorem kX0_lackOf : zVirt mX0_lackOf := ⟨zT_of 698 rfl rfl, zT_of 17 rfl rfl⟩
abbrev mJ6_bitCount_0f7a4 : ZM := (yJ6_bitCount_0f7a4, cJ6_bitCount_0f7a4, 1, some (.int))
set_option maxRecDepth 20000 in
theorem oJ6_bitCount_0f7a4 : zOk mJ6_bitCount_0f7a4 1 := ⟨zT_of 703 rfl rfl, iniJ6, by decide +kernel, by decide +kernel, by decide +kernel⟩
set_option maxRecDepth 20000 in
theorem kJ6_bitCount_0f7a4 : zStat mJ6_bitCount_0f7a4 := zT_of 702 rfl rfl
abbrev mX0_areLiddedWithoutOne : ZM := (yX0_areLiddedWithoutOne, cX0_areLiddedWithoutOne, 3, some (.boolean))
set_option maxRecDepth 20000 in
theorem oX0_areLiddedWithoutOne : zOk mX0_areLiddedWithoutOne 1 := ⟨zT_of 710 rfl rfl, iniX0, by decide +kernel, by decide +kernel, by decide +kernel⟩
set_option maxRecDepth 20000 in
theorem kX0_areLiddedWithoutOne : zVirt mX0_areLiddedWithoutOne := ⟨zT_of 709 rfl rfl, zT_of 18 rfl rfl⟩
abbrev mX0_shortest : ZM := (yX0_shortest, cX0_shortest, 4, some (.int))
set_option maxRecDepth 20000 in
theorem oX0_shortest : zOk mX0_shortest 0 := ⟨zT_of 714 rfl rfl, iniX0, by decide +kernel, by decide +kernel, by decide +kernel⟩
set_option maxRecDepth 20000 in
theorem kX0_shortest : zVirt mX0_shortest := ⟨zT_of 712 rfl rfl, zT_of 713 rfl rfl⟩
abbrev mX8_soup : ZM := (yX8_soup, cX8_soup, 4, some (.int))
set_option maxRecDepth 20000 in
theorem oX8_soup : zOk mX8_soup 2 := ⟨zT_of 718 rfl rfl, iniX8, by decide +kernel, by decide +kernel, by decide +kernel⟩
set_option maxRecDepth 20000 in
theorem kX8_soup : zVirt mX8_soup := ⟨zT_of 716 rfl rfl, zT_of 717 rfl rfl⟩
abbrev mX0_leastFor : ZM := (yX0_leastFor, cX0_leastFor, 7, some (.int))
set_option maxRecDepth 20000 in
theorem oX0_leastFor : zOk mX0_leastFor 2 := ⟨zT_of 723 rfl rfl, iniX0, by decide +kernel, by decide +kernel, by decide +kernel⟩
set_option maxRecDepth 20000 in
theorem kX0_leastFor : zVirt mX0_leastFor := ⟨zT_of 721 rfl rfl, zT_of 722 rfl rfl⟩
abbrev mX1_sumOver : ZM := (yX1_sumOver, cX1_sumOver, 5, some (.int))
set_option maxRecDepth 20000 in
theorem oX1_sumOver : zOk mX1_sumOver 2 := ⟨zT_of 728 rfl rfl, iniX1, by decide +kernel, by decide +kernel, by decide +kernel⟩
set_option maxRecDepth 20000 in
theorem kX1_sumOver : zVirt mX1_sumOver := ⟨zT_of 726 rfl rfl, zT_of 727 rfl rfl⟩
abbrev mX8_much : ZM := (yX8_much, cX8_much, 1, some (.int))
set_option maxRecDepth 20000 in
theorem oX8_much : zOk mX8_much 0 := ⟨zT_of 733 rfl rfl, iniX8, by decide +kernel, by decide +kernel, by decide +kernel⟩
set_option maxRecDepth 20000 in
theorem kX8_much : zVirt mX8_much := ⟨zT_of 731 rfl rfl, zT_of 732 rfl rfl⟩
abbrev mX8_worth : ZM := (yX8_worth, cX8_worth, 2, some (.int))
set_option maxRecDepth 20000 in
theorem oX8_worth : zOk mX8_worth 1 := ⟨zT_of 737 rfl rfl, iniX8, by decide +kernel, by decide +kernel, by decide +kernel⟩
set_option maxRecDepth 20000 in
theorem kX8_worth : zVirt mX8_worth := ⟨zT_of 735 rfl rfl, zT_of 736 rfl rfl⟩
abbrev mX8_spare : ZM := (yX8_spare, cX8_spare, 3, some (.int))
set_option maxRecDepth 20000 in
theorem oX8_spare : zOk mX8_spare 0 := ⟨zT_of 741 rfl rfl, iniX8, by decide +kernel, by decide +kernel, by decide +kernel⟩
set_option maxRecDepth 20000 in
theorem kX8_spare : zVirt mX8_spare := ⟨zT_of 739 rfl rfl, zT_of 740 rfl rfl⟩
abbrev mX8_piles : ZM := (yX8_piles, cX8_piles, 4, some (.int))
set_option maxRecDepth 20000 in
theorem oX8_piles : zOk mX8_piles 1 := ⟨zT_of 745 rfl rfl, iniX8, by decide +kernel, by decide +kernel, by decide +kernel⟩
set_option maxRecDepth 20000 in
theorem kX8_piles : zVirt mX8_piles := ⟨zT_of 743 rfl rfl, zT_of 744 rfl rfl⟩
abbrev mX1_boxesAround : ZM := (yX1_boxesAround, cX1_boxesAround, 4, some (.int))
set_option maxRecDepth 20000 in
theorem oX1_boxesAround : zOk mX1_boxesAround 1 := ⟨zT_of 749 rfl rfl, iniX1, by decide +kernel, by decide +kernel, by decide +kernel⟩
set_option maxRecDepth 20000 in
theorem kX1_boxesAround : zVirt mX1_boxesAround := ⟨zT_of 747 rfl rfl, zT_of 748 rfl rfl⟩
abbrev mX1_goesInto : ZM := (yX1_goesInto, cX1_goesInto, 5, some (.boolean))
set_option maxRecDepth 20000 in
theorem oX1_goesInto : zOk mX1_goesInto 2 := ⟨zT_of 753 rfl rfl, iniX1, by decide +kernel, by decide +kernel, by decide +kernel⟩
set_option maxRecDepth 20000 in
theorem kX1_goesInto : zVirt mX1_goesInto := ⟨zT_of 752 rfl rfl, zT_of 19 rfl rfl⟩
abbrev mX8_shelf : ZM := (yX8_shelf, cX8_shelf, 4, some (.int))
set_option maxRecDepth 20000 in
theorem oX8_shelf : zOk mX8_shelf 1 := ⟨zT_of 757 rfl rfl, iniX8, by decide +kernel, by decide +kernel, by decide +kernel⟩
set_option maxRecDepth 20000 in
theorem kX8_shelf : zVirt mX8_shelf := ⟨zT_of 755 rfl rfl, zT_of 756 rfl rfl⟩
abbrev mX5_begin : ZM := (yX5_begin, cX5_begin, 1, none)
set_option maxRecDepth 20000 in
theorem oX5_begin : zOk mX5_begin 0 := ⟨zT_of 761 rfl rfl, iniX5, by decide +kernel, by decide +kernel, by decide +kernel⟩
set_option maxRecDepth 20000 in
theorem kX5_begin : zVirt mX5_begin := ⟨zT_of 759 rfl rfl, zT_of 760 rfl rfl⟩
abbrev mX5_add : ZM := (yX5_add, cX5_add, 2, none)
set_option maxRecDepth 20000 in
theorem oX5_add : zOk mX5_add 1 := ⟨zT_of 765 rfl rfl, iniX5, by decide +kernel, by decide +kernel, by decide +kernel⟩
set_option maxRecDepth 20000 in
theorem kX5_add : zVirt mX5_add := ⟨zT_of 763 rfl rfl, zT_of 764 rfl rfl⟩
abbrev mX8_shelfCost : ZM := (yX8_shelfCost, cX8_shelfCost, 4, some (.int))
set_option maxRecDepth 20000 in
theorem oX8_shelfCost : zOk mX8_shelfCost 1 := ⟨zT_of 769 rfl rfl, iniX8, by decide +kernel, by decide +kernel, by decide +kernel⟩
set_option maxRecDepth 20000 in
theorem kX8_shelfCost : zVirt mX8_shelfCost := ⟨zT_of 768 rfl rfl, zT_of 20 rfl rfl⟩
abbrev mX5_itemAt : ZM := (yX5_itemAt, cX5_itemAt, 3, some (.int))
set_option maxRecDepth 20000 in
theorem oX5_itemAt : zOk mX5_itemAt 1 := ⟨zT_of 773 rfl rfl, iniX5, by decide +kernel, by decide +kernel, by decide +kernel⟩
set_option maxRecDepth 20000 in
theorem kX5_itemAt : zVirt mX5_itemAt := ⟨zT_of 771 rfl rfl, zT_of 772 rfl rfl⟩
abbrev mX5_placeOf : ZM := (yX5_placeOf, cX5_placeOf, 4, some (.int))
set_option maxRecDepth 20000 in
theorem oX5_placeOf : zOk mX5_placeOf 1 := ⟨zT_of 777 rfl rfl, iniX5, by decide +kernel, by decide +kernel, by decide +kernel⟩
set_option maxRecDepth 20000 in
theorem kX5_placeOf : zVirt mX5_placeOf := ⟨zT_of 776 rfl rfl, zT_of 21 rfl rfl⟩
abbrev mX8_buy : ZM := (yX8_buy, cX8_buy, 3, some (.int))
set_option maxRecDepth 20000 in
theorem oX8_buy : zOk mX8_buy 1 := ⟨zT_of 781 rfl rfl, iniX8, by decide +kernel, by decide +kernel, by decide +kernel⟩
set_option maxRecDepth 20000 in
theorem kX8_buy : zVirt mX8_buy := ⟨zT_of 779 rfl rfl, zT_of 780 rfl rfl⟩
abbrev mX8_leastPurchase : ZM := (yX8_leastPurchase, cX8_leastPurchase, 4, some (.int))
set_option maxRecDepth 20000 in
theorem oX8_leastPurchase : zOk mX8_leastPurchase 0 := ⟨zT_of 785 rfl rfl, iniX8, by decide +kernel, by decide +kernel, by decide +kernel⟩
set_option maxRecDepth 20000 in
theorem kX8_leastPurchase : zVirt mX8_leastPurchase := ⟨zT_of 784 rfl rfl, zT_of 22 rfl rfl⟩
abbrev mX1_purchaseFor : ZM := (yX1_purchaseFor, cX1_purchaseFor, 4, some (.int))
set_option maxRecDepth 20000 in
theorem oX1_purchaseFor : zOk mX1_purchaseFor 1 := ⟨zT_of 789 rfl rfl, iniX1, by decide +kernel, by decide +kernel, by decide +kernel⟩
set_option maxRecDepth 20000 in
theorem kX1_purchaseFor : zVirt mX1_purchaseFor := ⟨zT_of 787 rfl rfl, zT_of 788 rfl rfl⟩
abbrev mX8_sortShift : ZM := (yX8_sortShift, cX8_sortShift, 1, some (.int))
set_option maxRecDepth 20000 in
theorem oX8_sortShift : zOk mX8_sortShift 1 := ⟨zT_of 793 rfl rfl, iniX8, by decide +kernel, by decide +kernel, by decide +kernel⟩
set_option maxRecDepth 20000 in
theorem kX8_sortShift : zStat mX8_sortShift := zT_of 792 rfl rfl
abbrev mX8_tries : ZM := (yX8_tries, cX8_tries, 2, some (.int))
set_option maxRecDepth 20000 in
theorem oX8_tries : zOk mX8_tries 1 := ⟨zT_of 800 rfl rfl, iniX8, by decide +kernel, by decide +kernel, by decide +kernel⟩
set_option maxRecDepth 20000 in
theorem kX8_tries : zVirt mX8_tries := ⟨zT_of 798 rfl rfl, zT_of 799 rfl rfl⟩
abbrev mX8_rankTries : ZM := (yX8_rankTries, cX8_rankTries, 4, none)
set_option maxRecDepth 20000 in
theorem oX8_rankTries : zOk mX8_rankTries 0 := ⟨zT_of 804 rfl rfl, iniX8, by decide +kernel, by decide +kernel, by decide +kernel⟩
set_option maxRecDepth 20000 in
theorem kX8_rankTries : zVirt mX8_rankTries := ⟨zT_of 803 rfl rfl, zT_of 23 rfl rfl⟩
abbrev mX1_firstSureLid : ZM := (yX1_firstSureLid, cX1_firstSureLid, 2, some (.int))
set_option maxRecDepth 20000 in
theorem oX1_firstSureLid : zOk mX1_firstSureLid 0 := ⟨zT_of 808 rfl rfl, iniX1, by decide +kernel, by decide +kernel, by decide +kernel⟩
set_option maxRecDepth 20000 in
theorem kX1_firstSureLid : zVirt mX1_firstSureLid := ⟨zT_of 806 rfl rfl, zT_of 807 rfl rfl⟩
abbrev mX8_meanOfTries : ZM := (yX8_meanOfTries, cX8_meanOfTries, 8, none)
set_option maxRecDepth 20000 in
theorem oX8_meanOfTries : zOk mX8_meanOfTries 0 := ⟨zT_of 812 rfl rfl, iniX8, by decide +kernel, by decide +kernel, by decide +kernel⟩
set_option maxRecDepth 20000 in
theorem kX8_meanOfTries : zVirt mX8_meanOfTries := ⟨zT_of 811 rfl rfl, zT_of 24 rfl rfl⟩
abbrev mX3_become : ZM := (yX3_become, cX3_become, 7, none)
set_option maxRecDepth 20000 in
theorem oX3_become : zOk mX3_become 2 := ⟨zT_of 817 rfl rfl, iniX3, by decide +kernel, by decide +kernel, by decide +kernel⟩
set_option maxRecDepth 20000 in
theorem kX3_become : zVirt mX3_become := ⟨zT_of 815 rfl rfl, zT_of 816 rfl rfl⟩
abbrev mX3_greatestDivisor : ZM := (yX3_greatestDivisor, cX3_greatestDivisor, 7, some (.long))
set_option maxRecDepth 20000 in
theorem oX3_greatestDivisor : zOk mX3_greatestDivisor 2 := ⟨zT_of 820 rfl rfl, iniX3, by decide +kernel, by decide +kernel, by decide +kernel⟩
set_option maxRecDepth 20000 in
theorem kX3_greatestDivisor : zStat mX3_greatestDivisor := zT_of 819 rfl rfl
abbrev mX8_nuts : ZM := (yX8_nuts, cX8_nuts, 4, some (.int))
set_option maxRecDepth 20000 in
theorem oX8_nuts : zOk mX8_nuts 2 := ⟨zT_of 824 rfl rfl, iniX8, by decide +kernel, by decide +kernel, by decide +kernel⟩
set_option maxRecDepth 20000 in
theorem kX8_nuts : zVirt mX8_nuts := ⟨zT_of 822 rfl rfl, zT_of 823 rfl rfl⟩
abbrev mX8_factorial : ZM := (yX8_factorial, cX8_factorial, 3, some (.int))
set_option maxRecDepth 20000 in
theorem oX8_factorial : zOk mX8_factorial 1 := ⟨zT_of 827 rfl rfl, iniX8, by decide +kernel, by decide +kernel, by decide +kernel⟩
set_option maxRecDepth 20000 in
theorem kX8_factorial : zStat mX8_factorial := zT_of 826 rfl rfl
abbrev mX8_meanOfNuts : ZM := (yX8_meanOfNuts, cX8_meanOfNuts, 6, none)
set_option maxRecDepth 20000 in
theorem oX8_meanOfNuts : zOk mX8_meanOfNuts 2 := ⟨zT_of 831 rfl rfl, iniX8, by decide +kernel, by decide +kernel, by decide +kernel⟩
set_option maxRecDepth 20000 in
theorem kX8_meanOfNuts : zVirt mX8_meanOfNuts := ⟨zT_of 830 rfl rfl, zT_of 25 rfl rfl⟩
abbrev mX8_lend : ZM := (yX8_lend, cX8_lend, 4, some (.int))
set_option maxRecDepth 20000 in
theorem oX8_lend : zOk mX8_lend 3 := ⟨zT_of 835 rfl rfl, iniX8, by decide +kernel, by decide +kernel, by decide +kernel⟩
set_option maxRecDepth 20000 in
theorem kX8_lend : zVirt mX8_lend := ⟨zT_of 833 rfl rfl, zT_of 834 rfl rfl⟩
abbrev mX1_addTale : ZM := (yX1_addTale, cX1_addTale, 4, some (.int))
set_option maxRecDepth 20000 in
theorem oX1_addTale : zOk mX1_addTale 3 := ⟨zT_of 839 rfl rfl, iniX1, by decide +kernel, by decide +kernel, by decide +kernel⟩
set_option maxRecDepth 20000 in
theorem kX1_addTale : zVirt mX1_addTale := ⟨zT_of 837 rfl rfl, zT_of 838 rfl rfl⟩
abbrev mX8_has : ZM := (yX8_has, cX8_has, 2, some (.int))
set_option maxRecDepth 20000 in
theorem oX8_has : zOk mX8_has 1 := ⟨zT_of 843 rfl rfl, iniX8, by decide +kernel, by decide +kernel, by decide +kernel⟩
set_option maxRecDepth 20000 in
theorem kX8_has : zVirt mX8_has := ⟨zT_of 841 rfl rfl, zT_of 842 rfl rfl⟩
abbrev mX1_holderAfter : ZM := (yX1_holderAfter, cX1_holderAfter, 5, some (.int))
set_option maxRecDepth 20000 in
theorem oX1_holderAfter : zOk mX1_holderAfter 2 := ⟨zT_of 847 rfl rfl, iniX1, by decide +kernel, by decide +kernel, by decide +kernel⟩
set_option maxRecDepth 20000 in
theorem kX1_holderAfter : zVirt mX1_holderAfter := ⟨zT_of 845 rfl rfl, zT_of 846 rfl rfl⟩
abbrev mX8_wrong : ZM := (yX8_wrong, cX8_wrong, 1, some (.int))
set_option maxRecDepth 20000 in
theorem oX8_wrong : zOk mX8_wrong 0 := ⟨zT_of 851 rfl rfl, iniX8, by decide +kernel, by decide +kernel, by decide +kernel⟩
set_option maxRecDepth 20000 in
theorem kX8_wrong : zVirt mX8_wrong := ⟨zT_of 849 rfl rfl, zT_of 850 rfl rfl⟩
abbrev mX1_firstWrongTale : ZM := (yX1_firstWrongTale, cX1_firstWrongTale, 2, some (.int))
set_option maxRecDepth 20000 in
theorem oX1_firstWrongTale : zOk mX1_firstWrongTale 0 := ⟨zT_of 855 rfl rfl, iniX1, by decide +kernel, by decide +kernel, by decide +kernel⟩
set_option maxRecDepth 20000 in
theorem kX1_firstWrongTale : zVirt mX1_firstWrongTale := ⟨zT_of 853 rfl rfl, zT_of 854 rfl rfl⟩
abbrev mX8_hint : ZM := (yX8_hint, cX8_hint, 4, some (.int))
set_option maxRecDepth 20000 in
theorem oX8_hint : zOk mX8_hint 3 := ⟨zT_of 860 rfl rfl, iniX8, by decide +kernel, by decide +kernel, by decide +kernel⟩
set_option maxRecDepth 20000 in
theorem kX8_hint : zVirt mX8_hint := ⟨zT_of 858 rfl rfl, zT_of 859 rfl rfl⟩
abbrev mX1_addHint : ZM := (yX1_addHint, cX1_addHint, 4, some (.int))
set_option maxRecDepth 20000 in
theorem oX1_addHint : zOk mX1_addHint 3 := ⟨zT_of 864 rfl rfl, iniX1, by decide +kernel, by decide +kernel, by decide +kernel⟩
set_option maxRecDepth 20000 in
theorem kX1_addHint : zVirt mX1_addHint := ⟨zT_of 862 rfl rfl, zT_of 863 rfl rfl⟩
abbrev mX8_forget : ZM := (yX8_forget, cX8_forget, 2, some (.int))
set_option maxRecDepth 20000 in
theorem oX8_forget : zOk mX8_forget 1 := ⟨zT_of 868 rfl rfl, iniX8, by decide +kernel, by decide +kernel, by decide +kernel⟩
set_option maxRecDepth 20000 in
theorem kX8_forget : zVirt mX8_forget := ⟨zT_of 866 rfl rfl, zT_of 867 rfl rfl⟩
abbrev mX8_labels : ZM := (yX8_labels, cX8_labels, 4, some (.int))
set_option maxRecDepth 20000 in
theorem oX8_labels : zOk mX8_labels 2 := ⟨zT_of 873 rfl rfl, iniX8, by decide +kernel, by decide +kernel, by decide +kernel⟩
set_option maxRecDepth 20000 in
theorem kX8_labels : zVirt mX8_labels := ⟨zT_of 871 rfl rfl, zT_of 872 rfl rfl⟩
abbrev mX2_lookAt : ZM := (yX2_lookAt, cX2_lookAt, 4, none)
set_option maxRecDepth 20000 in
theorem oX2_lookAt : zOk mX2_lookAt 1 := ⟨zT_of 877 rfl rfl, iniX2, by decide +kernel, by decide +kernel, by decide +kernel⟩
set_option maxRecDepth 20000 in
theorem kX2_lookAt : zVirt mX2_lookAt := ⟨zT_of 875 rfl rfl, zT_of 876 rfl rfl⟩
abbrev mX2_heed : ZM := (yX2_heed, cX2_heed, 4, none)
set_option maxRecDepth 20000 in
theorem oX2_heed : zOk mX2_heed 3 := ⟨zT_of 884 rfl rfl, iniX2, by decide +kernel, by decide +kernel, by decide +kernel⟩
set_option maxRecDepth 20000 in
theorem kX2_heed : zVirt mX2_heed := ⟨zT_of 883 rfl rfl, zT_of 26 rfl rfl⟩
abbrev mJ7_fill_53178 : ZM := (yJ7_fill_53178, cJ7_fill_53178, 4, none)
set_option maxRecDepth 20000 in
theorem oJ7_fill_53178 : zOk mJ7_fill_53178 2 := ⟨zT_of 888 rfl rfl, iniJ7, by decide +kernel, by decide +kernel, by decide +kernel⟩
set_option maxRecDepth 20000 in
theorem kJ7_fill_53178 : zStat mJ7_fill_53178 := zT_of 887 rfl rfl
abbrev mX2_waysFrom : ZM := (yX2_waysFrom, cX2_waysFrom, 6, some (.int))
set_option maxRecDepth 20000 in
theorem oX2_waysFrom : zOk mX2_waysFrom 3 := ⟨zT_of 891 rfl rfl, iniX2, by decide +kernel, by decide +kernel, by decide +kernel⟩
set_option maxRecDepth 20000 in
theorem kX2_waysFrom : zStat mX2_waysFrom := zT_of 890 rfl rfl
abbrev mX2_mayBeIn : ZM := (yX2_mayBeIn, cX2_mayBeIn, 4, some (.boolean))
set_option maxRecDepth 20000 in
theorem oX2_mayBeIn : zOk mX2_mayBeIn 3 := ⟨zT_of 895 rfl rfl, iniX2, by decide +kernel, by decide +kernel, by decide +kernel⟩
set_option maxRecDepth 20000 in
theorem kX2_mayBeIn : zVirt mX2_mayBeIn := ⟨zT_of 894 rfl rfl, zT_of 27 rfl rfl⟩
abbrev mX2_agreesBySize : ZM := (yX2_agreesBySize, cX2_agreesBySize, 10, some (.boolean))
set_option maxRecDepth 20000 in
theorem oX2_agreesBySize : zOk mX2_agreesBySize 3 := ⟨zT_of 899 rfl rfl, iniX2, by decide +kernel, by decide +kernel, by decide +kernel⟩
set_option maxRecDepth 20000 in
theorem kX2_agreesBySize : zVirt mX2_agreesBySize := ⟨zT_of 898 rfl rfl, zT_of 28 rfl rfl⟩
abbrev mX2_sizeAt : ZM := (yX2_sizeAt, cX2_sizeAt, 2, some (.int))
set_option maxRecDepth 20000 in
theorem oX2_sizeAt : zOk mX2_sizeAt 1 := ⟨zT_of 903 rfl rfl, iniX2, by decide +kernel, by decide +kernel, by decide +kernel⟩
set_option maxRecDepth 20000 in
theorem kX2_sizeAt : zVirt mX2_sizeAt := ⟨zT_of 902 rfl rfl, zT_of 29 rfl rfl⟩
abbrev mX2_allWays : ZM := (yX2_allWays, cX2_allWays, 1, some (.int))
set_option maxRecDepth 20000 in
theorem oX2_allWays : zOk mX2_allWays 0 := ⟨zT_of 907 rfl rfl, iniX2, by decide +kernel, by decide +kernel, by decide +kernel⟩
set_option maxRecDepth 20000 in
theorem kX2_allWays : zVirt mX2_allWays := ⟨zT_of 905 rfl rfl, zT_of 906 rfl rfl⟩
abbrev mX2_boxesOf : ZM := (yX2_boxesOf, cX2_boxesOf, 4, some (.int))
set_option maxRecDepth 20000 in
theorem oX2_boxesOf : zOk mX2_boxesOf 1 := ⟨zT_of 911 rfl rfl, iniX2, by decide +kernel, by decide +kernel, by decide +kernel⟩
set_option maxRecDepth 20000 in
theorem kX2_boxesOf : zVirt mX2_boxesOf := ⟨zT_of 909 rfl rfl, zT_of 910 rfl rfl⟩
abbrev mX2_waysWith : ZM := (yX2_waysWith, cX2_waysWith, 4, some (.int))
set_option maxRecDepth 20000 in
theorem oX2_waysWith : zOk mX2_waysWith 2 := ⟨zT_of 915 rfl rfl, iniX2, by decide +kernel, by decide +kernel, by decide +kernel⟩
set_option maxRecDepth 20000 in
theorem kX2_waysWith : zVirt mX2_waysWith := ⟨zT_of 914 rfl rfl, zT_of 30 rfl rfl⟩
abbrev mX2_boxToOpen : ZM := (yX2_boxToOpen, cX2_boxToOpen, 5, some (.int))
set_option maxRecDepth 20000 in
theorem oX2_boxToOpen : zOk mX2_boxToOpen 0 := ⟨zT_of 919 rfl rfl, iniX2, by decide +kernel, by decide +kernel, by decide +kernel⟩
set_option maxRecDepth 20000 in
theorem kX2_boxToOpen : zVirt mX2_boxToOpen := ⟨zT_of 917 rfl rfl, zT_of 918 rfl rfl⟩
abbrev mX2_worstBehind : ZM := (yX2_worstBehind, cX2_worstBehind, 4, some (.int))
set_option maxRecDepth 20000 in
theorem oX2_worstBehind : zOk mX2_worstBehind 1 := ⟨zT_of 924 rfl rfl, iniX2, by decide +kernel, by decide +kernel, by decide +kernel⟩
set_option maxRecDepth 20000 in
theorem kX2_worstBehind : zVirt mX2_worstBehind := ⟨zT_of 923 rfl rfl, zT_of 31 rfl rfl⟩
abbrev mX8_evening : ZM := (yX8_evening, cX8_evening, 3, some (.int))
set_option maxRecDepth 20000 in
theorem oX8_evening : zOk mX8_evening 2 := ⟨zT_of 929 rfl rfl, iniX8, by decide +kernel, by decide +kernel, by decide +kernel⟩
set_option maxRecDepth 20000 in
theorem kX8_evening : zVirt mX8_evening := ⟨zT_of 927 rfl rfl, zT_of 928 rfl rfl⟩
abbrev mX1_openAfter : ZM := (yX1_openAfter, cX1_openAfter, 12, some (.int))
set_option maxRecDepth 20000 in
theorem oX1_openAfter : zOk mX1_openAfter 2 := ⟨zT_of 934 rfl rfl, iniX1, by decide +kernel, by decide +kernel, by decide +kernel⟩
set_option maxRecDepth 20000 in
theorem kX1_openAfter : zVirt mX1_openAfter := ⟨zT_of 932 rfl rfl, zT_of 933 rfl rfl⟩
abbrev mJ6_lowestOneBit_0f7a4 : ZM := (yJ6_lowestOneBit_0f7a4, cJ6_lowestOneBit_0f7a4, 1, some (.int))
set_option maxRecDepth 20000 in
theorem oJ6_lowestOneBit_0f7a4 : zOk mJ6_lowestOneBit_0f7a4 1 := ⟨zT_of 942 rfl rfl, iniJ6, by decide +kernel, by decide +kernel, by decide +kernel⟩
set_option maxRecDepth 20000 in
theorem kJ6_lowestOneBit_0f7a4 : zStat mJ6_lowestOneBit_0f7a4 := zT_of 941 rfl rfl
abbrev mX8_part : ZM := (yX8_part, cX8_part, 2, some (.long))
set_option maxRecDepth 20000 in
theorem oX8_part : zOk mX8_part 1 := ⟨zT_of 946 rfl rfl, iniX8, by decide +kernel, by decide +kernel, by decide +kernel⟩
set_option maxRecDepth 20000 in
theorem kX8_part : zVirt mX8_part := ⟨zT_of 944 rfl rfl, zT_of 945 rfl rfl⟩
abbrev mX8_image : ZM := (yX8_image, cX8_image, 2, some (.int))
set_option maxRecDepth 20000 in
theorem oX8_image : zOk mX8_image 1 := ⟨zT_of 950 rfl rfl, iniX8, by decide +kernel, by decide +kernel, by decide +kernel⟩
set_option maxRecDepth 20000 in
theorem kX8_image : zVirt mX8_image := ⟨zT_of 948 rfl rfl, zT_of 949 rfl rfl⟩
abbrev mX8_imageAt : ZM := (yX8_imageAt, cX8_imageAt, 2, some (.object "LidForEach$Cupboard"))
set_option maxRecDepth 20000 in
theorem oX8_imageAt : zOk mX8_imageAt 1 := ⟨zT_of 954 rfl rfl, iniX8, by decide +kernel, by decide +kernel, by decide +kernel⟩
set_option maxRecDepth 20000 in
theorem kX8_imageAt : zVirt mX8_imageAt := ⟨zT_of 953 rfl rfl, zT_of 32 rfl rfl⟩
abbrev mX8_from : ZM := (yX8_from, cX8_from, 2, some (.int))
set_option maxRecDepth 20000 in
theorem oX8_from : zOk mX8_from 1 := ⟨zT_of 958 rfl rfl, iniX8, by decide +kernel, by decide +kernel, by decide +kernel⟩
set_option maxRecDepth 20000 in
theorem kX8_from : zVirt mX8_from := ⟨zT_of 956 rfl rfl, zT_of 957 rfl rfl⟩
abbrev mX8_status : ZM := (yX8_status, cX8_status, 2, some (.int))
set_option maxRecDepth 20000 in
theorem oX8_status : zOk mX8_status 1 := ⟨zT_of 962 rfl rfl, iniX8, by decide +kernel, by decide +kernel, by decide +kernel⟩
set_option maxRecDepth 20000 in
theorem kX8_status : zVirt mX8_status := ⟨zT_of 960 rfl rfl, zT_of 961 rfl rfl⟩
abbrev mX8_count : ZM := (yX8_count, cX8_count, 2, some (.int))
set_option maxRecDepth 20000 in
theorem oX8_count : zOk mX8_count 1 := ⟨zT_of 966 rfl rfl, iniX8, by decide +kernel, by decide +kernel, by decide +kernel⟩
set_option maxRecDepth 20000 in
theorem kX8_count : zVirt mX8_count := ⟨zT_of 964 rfl rfl, zT_of 965 rfl rfl⟩
abbrev mX8_howMany : ZM := (yX8_howMany, cX8_howMany, 2, some (.int))
set_option maxRecDepth 20000 in
theorem oX8_howMany : zOk mX8_howMany 1 := ⟨zT_of 970 rfl rfl, iniX8, by decide +kernel, by decide +kernel, by decide +kernel⟩
set_option maxRecDepth 20000 in
theorem kX8_howMany : zVirt mX8_howMany := ⟨zT_of 969 rfl rfl, zT_of 33 rfl rfl⟩
abbrev mX1_lidsInUse : ZM := (yX1_lidsInUse, cX1_lidsInUse, 3, some (.int))
set_option maxRecDepth 20000 in
theorem oX1_lidsInUse : zOk mX1_lidsInUse 0 := ⟨zT_of 974 rfl rfl, iniX1, by decide +kernel, by decide +kernel, by decide +kernel⟩
set_option maxRecDepth 20000 in
theorem kX1_lidsInUse : zVirt mX1_lidsInUse := ⟨zT_of 972 rfl rfl, zT_of 973 rfl rfl⟩
abbrev mX7_size : ZM := (yX7_size, cX7_size, 1, some (.int))
set_option maxRecDepth 20000 in
theorem oX7_size : zOk mX7_size 0 := ⟨zT_of 978 rfl rfl, iniX7, by decide +kernel, by decide +kernel, by decide +kernel⟩
set_option maxRecDepth 20000 in
theorem kX7_size : zVirt mX7_size := ⟨zT_of 976 rfl rfl, zT_of 977 rfl rfl⟩
abbrev mX8_digest : ZM := (yX8_digest, cX8_digest, 4, some (.long))
set_option maxRecDepth 20000 in
theorem oX8_digest : zOk mX8_digest 0 := ⟨zT_of 982 rfl rfl, iniX8, by decide +kernel, by decide +kernel, by decide +kernel⟩
set_option maxRecDepth 20000 in
theorem kX8_digest : zVirt mX8_digest := ⟨zT_of 980 rfl rfl, zT_of 981 rfl rfl⟩
abbrev mX6_mixedInto : ZM := (yX6_mixedInto, cX6_mixedInto, 5, some (.long))
set_option maxRecDepth 20000 in
theorem oX6_mixedInto : zOk mX6_mixedInto 1 := ⟨zT_of 988 rfl rfl, iniX6, by decide +kernel, by decide +kernel, by decide +kernel⟩
set_option maxRecDepth 20000 in
theorem kX6_mixedInto : zVirt mX6_mixedInto := ⟨zT_of 986 rfl rfl, zT_of 987 rfl rfl⟩
abbrev mX9_init : ZM := (yX9_init, cX9_init, 1, none)
set_option maxRecDepth 20000 in
theorem oX9_init : zOk mX9_init 0 := ⟨zT_of 995 rfl rfl, iniX9, by decide +kernel, by decide +kernel, by decide +kernel⟩
set_option maxRecDepth 20000 in
theorem kX9_init : zCtor mX9_init := ⟨rfl, zT_of 994 rfl rfl, rfl⟩
abbrev mX9_box : ZM := (yX9_box, cX9_box, 4, some (.int))
set_option maxRecDepth 20000 in
theorem oX9_box : zOk mX9_box 3 := ⟨zT_of 1073 rfl rfl, iniX9, by decide +kernel, by decide +kernel, by decide +kernel⟩
set_option maxRecDepth 20000 in
theorem kX9_box : zVirt mX9_box := ⟨zT_of 1071 rfl rfl, zT_of 1072 rfl rfl⟩
abbrev mX9_addBox : ZM := (yX9_addBox, cX9_addBox, 5, some (.int))
set_option maxRecDepth 20000 in
theorem oX9_addBox : zOk mX9_addBox 3 := ⟨zT_of 1077 rfl rfl, iniX9, by decide +kernel, by decide +kernel, by decide +kernel⟩
set_option maxRecDepth 20000 in
theorem kX9_addBox : zVirt mX9_addBox := ⟨zT_of 1076 rfl rfl, zT_of 34 rfl rfl⟩
abbrev mX9_in : ZM := (yX9_in, cX9_in, 3, some (.boolean))
set_option maxRecDepth 20000 in
theorem oX9_in : zOk mX9_in 3 := ⟨zT_of 1080 rfl rfl, iniX9, by decide +kernel, by decide +kernel, by decide +kernel⟩
set_option maxRecDepth 20000 in
theorem kX9_in : zStat mX9_in := zT_of 1079 rfl rfl
abbrev mX9_get : ZM := (yX9_get, cX9_get, 2, some (.int))
set_option maxRecDepth 20000 in
theorem oX9_get : zOk mX9_get 1 := ⟨zT_of 1084 rfl rfl, iniX9, by decide +kernel, by decide +kernel, by decide +kernel⟩
set_option maxRecDepth 20000 in
theorem kX9_get : zVirt mX9_get := ⟨zT_of 1083 rfl rfl, zT_of 35 rfl rfl⟩
abbrev mX9_put1 : ZM := (yX9_put1, cX9_put1, 3, none)
set_option maxRecDepth 20000 in
theorem oX9_put1 : zOk mX9_put1 2 := ⟨zT_of 1088 rfl rfl, iniX9, by decide +kernel, by decide +kernel, by decide +kernel⟩
set_option maxRecDepth 20000 in
theorem kX9_put1 : zVirt mX9_put1 := ⟨zT_of 1087 rfl rfl, zT_of 36 rfl rfl⟩
abbrev mX9_told : ZM := (yX9_told, cX9_told, 2, some (.int))
set_option maxRecDepth 20000 in
theorem oX9_told : zOk mX9_told 1 := ⟨zT_of 1092 rfl rfl, iniX9, by decide +kernel, by decide +kernel, by decide +kernel⟩
set_option maxRecDepth 20000 in
theorem kX9_told : zVirt mX9_told := ⟨zT_of 1091 rfl rfl, zT_of 37 rfl rfl⟩
abbrev mX9_lid : ZM := (yX9_lid, cX9_lid, 4, some (.int))
set_option maxRecDepth 20000 in
theorem oX9_lid : zOk mX9_lid 3 := ⟨zT_of 1096 rfl rfl, iniX9, by decide +kernel, by decide +kernel, by decide +kernel⟩
set_option maxRecDepth 20000 in
theorem kX9_lid : zVirt mX9_lid := ⟨zT_of 1094 rfl rfl, zT_of 1095 rfl rfl⟩
abbrev mX9_addLid : ZM := (yX9_addLid, cX9_addLid, 5, some (.int))
set_option maxRecDepth 20000 in
theorem oX9_addLid : zOk mX9_addLid 3 := ⟨zT_of 1100 rfl rfl, iniX9, by decide +kernel, by decide +kernel, by decide +kernel⟩
set_option maxRecDepth 20000 in
theorem kX9_addLid : zVirt mX9_addLid := ⟨zT_of 1099 rfl rfl, zT_of 38 rfl rfl⟩
abbrev mX9_put : ZM := (yX9_put, cX9_put, 3, some (.int))
set_option maxRecDepth 20000 in
theorem oX9_put : zOk mX9_put 2 := ⟨zT_of 1104 rfl rfl, iniX9, by decide +kernel, by decide +kernel, by decide +kernel⟩
set_option maxRecDepth 20000 in
theorem kX9_put : zVirt mX9_put := ⟨zT_of 1102 rfl rfl, zT_of 1103 rfl rfl⟩
abbrev mX9_putOn : ZM := (yX9_putOn, cX9_putOn, 3, some (.int))
set_option maxRecDepth 20000 in
theorem oX9_putOn : zOk mX9_putOn 2 := ⟨zT_of 1108 rfl rfl, iniX9, by decide +kernel, by decide +kernel, by decide +kernel⟩
set_option maxRecDepth 20000 in
theorem kX9_putOn : zVirt mX9_putOn := ⟨zT_of 1107 rfl rfl, zT_of 39 rfl rfl⟩
abbrev mX9_isLid : ZM := (yX9_isLid, cX9_isLid, 2, some (.boolean))
set_option maxRecDepth 20000 in
theorem oX9_isLid : zOk mX9_isLid 1 := ⟨zT_of 1112 rfl rfl, iniX9, by decide +kernel, by decide +kernel, by decide +kernel⟩
set_option maxRecDepth 20000 in
theorem kX9_isLid : zVirt mX9_isLid := ⟨zT_of 1111 rfl rfl, zT_of 40 rfl rfl⟩
abbrev mX9_isBox : ZM := (yX9_isBox, cX9_isBox, 2, some (.boolean))
set_option maxRecDepth 20000 in
theorem oX9_isBox : zOk mX9_isBox 1 := ⟨zT_of 1116 rfl rfl, iniX9, by decide +kernel, by decide +kernel, by decide +kernel⟩
set_option maxRecDepth 20000 in
theorem kX9_isBox : zVirt mX9_isBox := ⟨zT_of 1115 rfl rfl, zT_of 41 rfl rfl⟩
abbrev mX9_doesFit : ZM := (yX9_doesFit, cX9_doesFit, 3, some (.boolean))
set_option maxRecDepth 20000 in
theorem oX9_doesFit : zOk mX9_doesFit 2 := ⟨zT_of 1120 rfl rfl, iniX9, by decide +kernel, by decide +kernel, by decide +kernel⟩
set_option maxRecDepth 20000 in
theorem kX9_doesFit : zVirt mX9_doesFit := ⟨zT_of 1119 rfl rfl, zT_of 42 rfl rfl⟩
abbrev mX9_ofLid : ZM := (yX9_ofLid, cX9_ofLid, 3, some (.int))
set_option maxRecDepth 20000 in
theorem oX9_ofLid : zOk mX9_ofLid 2 := ⟨zT_of 1124 rfl rfl, iniX9, by decide +kernel, by decide +kernel, by decide +kernel⟩
set_option maxRecDepth 20000 in
theorem kX9_ofLid : zVirt mX9_ofLid := ⟨zT_of 1123 rfl rfl, zT_of 43 rfl rfl⟩
abbrev mX9_fitsAs : ZM := (yX9_fitsAs, cX9_fitsAs, 9, some (.boolean))
set_option maxRecDepth 20000 in
theorem oX9_fitsAs : zOk mX9_fitsAs 4 := ⟨zT_of 1128 rfl rfl, iniX9, by decide +kernel, by decide +kernel, by decide +kernel⟩
set_option maxRecDepth 20000 in
theorem kX9_fitsAs : zVirt mX9_fitsAs := ⟨zT_of 1127 rfl rfl, zT_of 44 rfl rfl⟩
abbrev mX9_ofBox : ZM := (yX9_ofBox, cX9_ofBox, 3, some (.int))
set_option maxRecDepth 20000 in
theorem oX9_ofBox : zOk mX9_ofBox 2 := ⟨zT_of 1132 rfl rfl, iniX9, by decide +kernel, by decide +kernel, by decide +kernel⟩
set_option maxRecDepth 20000 in
theorem kX9_ofBox : zVirt mX9_ofBox := ⟨zT_of 1131 rfl rfl, zT_of 45 rfl rfl⟩
abbrev mX9_isPlain : ZM := (yX9_isPlain, cX9_isPlain, 4, some (.boolean))
set_option maxRecDepth 20000 in
theorem oX9_isPlain : zOk mX9_isPlain 3 := ⟨zT_of 1136 rfl rfl, iniX9, by decide +kernel, by decide +kernel, by decide +kernel⟩
set_option maxRecDepth 20000 in
theorem kX9_isPlain : zVirt mX9_isPlain := ⟨zT_of 1135 rfl rfl, zT_of 46 rfl rfl⟩
abbrev mX9_boxOf : ZM := (yX9_boxOf, cX9_boxOf, 4, some (.int))
set_option maxRecDepth 20000 in
theorem oX9_boxOf : zOk mX9_boxOf 1 := ⟨zT_of 1140 rfl rfl, iniX9, by decide +kernel, by decide +kernel, by decide +kernel⟩
set_option maxRecDepth 20000 in
theorem kX9_boxOf : zVirt mX9_boxOf := ⟨zT_of 1139 rfl rfl, zT_of 47 rfl rfl⟩
abbrev mX9_know : ZM := (yX9_know, cX9_know, 2, none)
set_option maxRecDepth 20000 in
theorem oX9_know : zOk mX9_know 0 := ⟨zT_of 1144 rfl rfl, iniX9, by decide +kernel, by decide +kernel, by decide +kernel⟩
set_option maxRecDepth 20000 in
theorem kX9_know : zVirt mX9_know := ⟨zT_of 1143 rfl rfl, zT_of 48 rfl rfl⟩
abbrev mX9_off : ZM := (yX9_off, cX9_off, 3, some (.int))
set_option maxRecDepth 20000 in
theorem oX9_off : zOk mX9_off 1 := ⟨zT_of 1148 rfl rfl, iniX9, by decide +kernel, by decide +kernel, by decide +kernel⟩
set_option maxRecDepth 20000 in
theorem kX9_off : zVirt mX9_off := ⟨zT_of 1146 rfl rfl, zT_of 1147 rfl rfl⟩
abbrev mX9_undo : ZM := (yX9_undo, cX9_undo, 2, some (.int))
set_option maxRecDepth 20000 in
theorem oX9_undo : zOk mX9_undo 0 := ⟨zT_of 1152 rfl rfl, iniX9, by decide +kernel, by decide +kernel, by decide +kernel⟩
set_option maxRecDepth 20000 in
theorem kX9_undo : zVirt mX9_undo := ⟨zT_of 1150 rfl rfl, zT_of 1151 rfl rfl⟩
abbrev mX9_on : ZM := (yX9_on, cX9_on, 2, some (.int))
set_option maxRecDepth 20000 in
theorem oX9_on : zOk mX9_on 1 := ⟨zT_of 1156 rfl rfl, iniX9, by decide +kernel, by decide +kernel, by decide +kernel⟩
set_option maxRecDepth 20000 in
theorem kX9_on : zVirt mX9_on := ⟨zT_of 1154 rfl rfl, zT_of 1155 rfl rfl⟩
abbrev mX9_bad10 : ZM := (yX9_bad10, cX9_bad10, 1, some (.int))
set_option maxRecDepth 20000 in
theorem oX9_bad10 : zOk mX9_bad10 0 := ⟨zT_of 1160 rfl rfl, iniX9, by decide +kernel, by decide +kernel, by decide +kernel⟩
set_option maxRecDepth 20000 in
theorem kX9_bad10 : zVirt mX9_bad10 := ⟨zT_of 1159 rfl rfl, zT_of 49 rfl rfl⟩
abbrev mX9_grasp : ZM := (yX9_grasp, cX9_grasp, 3, some (.int))
set_option maxRecDepth 20000 in
theorem oX9_grasp : zOk mX9_grasp 2 := ⟨zT_of 1164 rfl rfl, iniX9, by decide +kernel, by decide +kernel, by decide +kernel⟩
set_option maxRecDepth 20000 in
theorem kX9_grasp : zVirt mX9_grasp := ⟨zT_of 1162 rfl rfl, zT_of 1163 rfl rfl⟩
abbrev mX9_setGrasp : ZM := (yX9_setGrasp, cX9_setGrasp, 4, some (.int))
set_option maxRecDepth 20000 in
theorem oX9_setGrasp : zOk mX9_setGrasp 2 := ⟨zT_of 1168 rfl rfl, iniX9, by decide +kernel, by decide +kernel, by decide +kernel⟩
set_option maxRecDepth 20000 in
theorem kX9_setGrasp : zVirt mX9_setGrasp := ⟨zT_of 1167 rfl rfl, zT_of 50 rfl rfl⟩
abbrev mX9_sort : ZM := (yX9_sort, cX9_sort, 5, some (.int))
set_option maxRecDepth 20000 in
theorem oX9_sort : zOk mX9_sort 4 := ⟨zT_of 1172 rfl rfl, iniX9, by decide +kernel, by decide +kernel, by decide +kernel⟩
set_option maxRecDepth 20000 in
theorem kX9_sort : zVirt mX9_sort := ⟨zT_of 1170 rfl rfl, zT_of 1171 rfl rfl⟩
abbrev mX9_addSort : ZM := (yX9_addSort, cX9_addSort, 6, some (.int))
set_option maxRecDepth 20000 in
theorem oX9_addSort : zOk mX9_addSort 4 := ⟨zT_of 1176 rfl rfl, iniX9, by decide +kernel, by decide +kernel, by decide +kernel⟩
set_option maxRecDepth 20000 in
theorem kX9_addSort : zVirt mX9_addSort := ⟨zT_of 1175 rfl rfl, zT_of 51 rfl rfl⟩
abbrev mX9_eye : ZM := (yX9_eye, cX9_eye, 4, some (.int))
set_option maxRecDepth 20000 in
theorem oX9_eye : zOk mX9_eye 2 := ⟨zT_of 1180 rfl rfl, iniX9, by decide +kernel, by decide +kernel, by decide +kernel⟩
set_option maxRecDepth 20000 in
theorem kX9_eye : zVirt mX9_eye := ⟨zT_of 1178 rfl rfl, zT_of 1179 rfl rfl⟩
abbrev mX9_type : ZM := (yX9_type, cX9_type, 2, some (.int))
set_option maxRecDepth 20000 in
theorem oX9_type : zOk mX9_type 1 := ⟨zT_of 1184 rfl rfl, iniX9, by decide +kernel, by decide +kernel, by decide +kernel⟩
set_option maxRecDepth 20000 in
theorem kX9_type : zVirt mX9_type := ⟨zT_of 1182 rfl rfl, zT_of 1183 rfl rfl⟩
abbrev mX9_clear : ZM := (yX9_clear, cX9_clear, 2, some (.int))
set_option maxRecDepth 20000 in
theorem oX9_clear : zOk mX9_clear 0 := ⟨zT_of 1188 rfl rfl, iniX9, by decide +kernel, by decide +kernel, by decide +kernel⟩
set_option maxRecDepth 20000 in
theorem kX9_clear : zVirt mX9_clear := ⟨zT_of 1186 rfl rfl, zT_of 1187 rfl rfl⟩
abbrev mX9_read : ZM := (yX9_read, cX9_read, 5, some (.int))
set_option maxRecDepth 20000 in
theorem oX9_read : zOk mX9_read 0 := ⟨zT_of 1192 rfl rfl, iniX9, by decide +kernel, by decide +kernel, by decide +kernel⟩
set_option maxRecDepth 20000 in
theorem kX9_read : zVirt mX9_read := ⟨zT_of 1190 rfl rfl, zT_of 1191 rfl rfl⟩
abbrev mX9_next : ZM := (yX9_next, cX9_next, 3, none)
set_option maxRecDepth 20000 in
theorem oX9_next : zOk mX9_next 0 := ⟨zT_of 1196 rfl rfl, iniX9, by decide +kernel, by decide +kernel, by decide +kernel⟩
set_option maxRecDepth 20000 in
theorem kX9_next : zVirt mX9_next := ⟨zT_of 1195 rfl rfl, zT_of 52 rfl rfl⟩
abbrev mX9_here : ZM := (yX9_here, cX9_here, 1, some (.int))
set_option maxRecDepth 20000 in
theorem oX9_here : zOk mX9_here 0 := ⟨zT_of 1200 rfl rfl, iniX9, by decide +kernel, by decide +kernel, by decide +kernel⟩
set_option maxRecDepth 20000 in
theorem kX9_here : zVirt mX9_here := ⟨zT_of 1199 rfl rfl, zT_of 53 rfl rfl⟩
abbrev mX9_meaning : ZM := (yX9_meaning, cX9_meaning, 1, some (.int))
set_option maxRecDepth 20000 in
theorem oX9_meaning : zOk mX9_meaning 1 := ⟨zT_of 1203 rfl rfl, iniX9, by decide +kernel, by decide +kernel, by decide +kernel⟩
set_option maxRecDepth 20000 in
theorem kX9_meaning : zStat mX9_meaning := zT_of 1202 rfl rfl
abbrev mX9_due : ZM := (yX9_due, cX9_due, 2, none)
set_option maxRecDepth 20000 in
theorem oX9_due : zOk mX9_due 1 := ⟨zT_of 1207 rfl rfl, iniX9, by decide +kernel, by decide +kernel, by decide +kernel⟩
set_option maxRecDepth 20000 in
theorem kX9_due : zVirt mX9_due := ⟨zT_of 1206 rfl rfl, zT_of 54 rfl rfl⟩
abbrev mX9_doItem : ZM := (yX9_doItem, cX9_doItem, 2, some (.int))
set_option maxRecDepth 20000 in
theorem oX9_doItem : zOk mX9_doItem 1 := ⟨zT_of 1211 rfl rfl, iniX9, by decide +kernel, by decide +kernel, by decide +kernel⟩
set_option maxRecDepth 20000 in
theorem kX9_doItem : zVirt mX9_doItem := ⟨zT_of 1210 rfl rfl, zT_of 55 rfl rfl⟩
abbrev mX9_copy : ZM := (yX9_copy, cX9_copy, 4, none)
set_option maxRecDepth 20000 in
theorem oX9_copy : zOk mX9_copy 2 := ⟨zT_of 1215 rfl rfl, iniX9, by decide +kernel, by decide +kernel, by decide +kernel⟩
set_option maxRecDepth 20000 in
theorem kX9_copy : zVirt mX9_copy := ⟨zT_of 1214 rfl rfl, zT_of 56 rfl rfl⟩
abbrev mX9_fits : ZM := (yX9_fits, cX9_fits, 2, some (.int))
set_option maxRecDepth 20000 in
theorem oX9_fits : zOk mX9_fits 1 := ⟨zT_of 1219 rfl rfl, iniX9, by decide +kernel, by decide +kernel, by decide +kernel⟩
set_option maxRecDepth 20000 in
theorem kX9_fits : zVirt mX9_fits := ⟨zT_of 1217 rfl rfl, zT_of 1218 rfl rfl⟩
abbrev mX9_findFits : ZM := (yX9_findFits, cX9_findFits, 3, none)
set_option maxRecDepth 20000 in
theorem oX9_findFits : zOk mX9_findFits 0 := ⟨zT_of 1223 rfl rfl, iniX9, by decide +kernel, by decide +kernel, by decide +kernel⟩
set_option maxRecDepth 20000 in
theorem kX9_findFits : zVirt mX9_findFits := ⟨zT_of 1222 rfl rfl, zT_of 57 rfl rfl⟩
abbrev mX9_most : ZM := (yX9_most, cX9_most, 3, some (.int))
set_option maxRecDepth 20000 in
theorem oX9_most : zOk mX9_most 1 := ⟨zT_of 1227 rfl rfl, iniX9, by decide +kernel, by decide +kernel, by decide +kernel⟩
set_option maxRecDepth 20000 in
theorem kX9_most : zVirt mX9_most := ⟨zT_of 1225 rfl rfl, zT_of 1226 rfl rfl⟩
abbrev mX9_boxes : ZM := (yX9_boxes, cX9_boxes, 1, some (.int))
set_option maxRecDepth 20000 in
theorem oX9_boxes : zOk mX9_boxes 0 := ⟨zT_of 1231 rfl rfl, iniX9, by decide +kernel, by decide +kernel, by decide +kernel⟩
set_option maxRecDepth 20000 in
theorem kX9_boxes : zVirt mX9_boxes := ⟨zT_of 1230 rfl rfl, zT_of 58 rfl rfl⟩
abbrev mX9_lids : ZM := (yX9_lids, cX9_lids, 1, some (.int))
set_option maxRecDepth 20000 in
theorem oX9_lids : zOk mX9_lids 0 := ⟨zT_of 1235 rfl rfl, iniX9, by decide +kernel, by decide +kernel, by decide +kernel⟩
set_option maxRecDepth 20000 in
theorem kX9_lids : zVirt mX9_lids := ⟨zT_of 1234 rfl rfl, zT_of 59 rfl rfl⟩
abbrev mX9_findFirst : ZM := (yX9_findFirst, cX9_findFirst, 9, some (.int))
set_option maxRecDepth 20000 in
theorem oX9_findFirst : zOk mX9_findFirst 2 := ⟨zT_of 1239 rfl rfl, iniX9, by decide +kernel, by decide +kernel, by decide +kernel⟩
set_option maxRecDepth 20000 in
theorem kX9_findFirst : zVirt mX9_findFirst := ⟨zT_of 1238 rfl rfl, zT_of 60 rfl rfl⟩
abbrev mX9_mostOf : ZM := (yX9_mostOf, cX9_mostOf, 8, some (.int))
set_option maxRecDepth 20000 in
theorem oX9_mostOf : zOk mX9_mostOf 2 := ⟨zT_of 1243 rfl rfl, iniX9, by decide +kernel, by decide +kernel, by decide +kernel⟩
set_option maxRecDepth 20000 in
theorem kX9_mostOf : zVirt mX9_mostOf := ⟨zT_of 1242 rfl rfl, zT_of 61 rfl rfl⟩
abbrev mX9_lacking : ZM := (yX9_lacking, cX9_lacking, 6, some (.int))
set_option maxRecDepth 20000 in
theorem oX9_lacking : zOk mX9_lacking 0 := ⟨zT_of 1247 rfl rfl, iniX9, by decide +kernel, by decide +kernel, by decide +kernel⟩
set_option maxRecDepth 20000 in
theorem kX9_lacking : zVirt mX9_lacking := ⟨zT_of 1245 rfl rfl, zT_of 1246 rfl rfl⟩
abbrev mX9_manyOf : ZM := (yX9_manyOf, cX9_manyOf, 3, some (.int))
set_option maxRecDepth 20000 in
theorem oX9_manyOf : zOk mX9_manyOf 1 := ⟨zT_of 1250 rfl rfl, iniX9, by decide +kernel, by decide +kernel, by decide +kernel⟩
set_option maxRecDepth 20000 in
theorem kX9_manyOf : zStat mX9_manyOf := zT_of 1249 rfl rfl
abbrev mX9_soup : ZM := (yX9_soup, cX9_soup, 6, some (.int))
set_option maxRecDepth 20000 in
theorem oX9_soup : zOk mX9_soup 2 := ⟨zT_of 1254 rfl rfl, iniX9, by decide +kernel, by decide +kernel, by decide +kernel⟩
set_option maxRecDepth 20000 in
theorem kX9_soup : zVirt mX9_soup := ⟨zT_of 1252 rfl rfl, zT_of 1253 rfl rfl⟩
abbrev mX9_sumOf : ZM := (yX9_sumOf, cX9_sumOf, 5, some (.int))
set_option maxRecDepth 20000 in
theorem oX9_sumOf : zOk mX9_sumOf 2 := ⟨zT_of 1258 rfl rfl, iniX9, by decide +kernel, by decide +kernel, by decide +kernel⟩
set_option maxRecDepth 20000 in
theorem kX9_sumOf : zVirt mX9_sumOf := ⟨zT_of 1257 rfl rfl, zT_of 62 rfl rfl⟩
abbrev mX9_isCovered : ZM := (yX9_isCovered, cX9_isCovered, 3, some (.boolean))
set_option maxRecDepth 20000 in
theorem oX9_isCovered : zOk mX9_isCovered 2 := ⟨zT_of 1262 rfl rfl, iniX9, by decide +kernel, by decide +kernel, by decide +kernel⟩
set_option maxRecDepth 20000 in
theorem kX9_isCovered : zVirt mX9_isCovered := ⟨zT_of 1261 rfl rfl, zT_of 63 rfl rfl⟩
abbrev mX9_much : ZM := (yX9_much, cX9_much, 1, some (.int))
set_option maxRecDepth 20000 in
theorem oX9_much : zOk mX9_much 0 := ⟨zT_of 1266 rfl rfl, iniX9, by decide +kernel, by decide +kernel, by decide +kernel⟩
set_option maxRecDepth 20000 in
theorem kX9_much : zVirt mX9_much := ⟨zT_of 1264 rfl rfl, zT_of 1265 rfl rfl⟩
abbrev mX9_muchBy : ZM := (yX9_muchBy, cX9_muchBy, 5, some (.int))
set_option maxRecDepth 20000 in
theorem oX9_muchBy : zOk mX9_muchBy 1 := ⟨zT_of 1270 rfl rfl, iniX9, by decide +kernel, by decide +kernel, by decide +kernel⟩
set_option maxRecDepth 20000 in
theorem kX9_muchBy : zVirt mX9_muchBy := ⟨zT_of 1269 rfl rfl, zT_of 64 rfl rfl⟩
abbrev mX9_worth : ZM := (yX9_worth, cX9_worth, 2, some (.int))
set_option maxRecDepth 20000 in
theorem oX9_worth : zOk mX9_worth 1 := ⟨zT_of 1274 rfl rfl, iniX9, by decide +kernel, by decide +kernel, by decide +kernel⟩
set_option maxRecDepth 20000 in
theorem kX9_worth : zVirt mX9_worth := ⟨zT_of 1272 rfl rfl, zT_of 1273 rfl rfl⟩
abbrev mX9_spare : ZM := (yX9_spare, cX9_spare, 4, some (.int))
set_option maxRecDepth 20000 in
theorem oX9_spare : zOk mX9_spare 0 := ⟨zT_of 1278 rfl rfl, iniX9, by decide +kernel, by decide +kernel, by decide +kernel⟩
set_option maxRecDepth 20000 in
theorem kX9_spare : zVirt mX9_spare := ⟨zT_of 1276 rfl rfl, zT_of 1277 rfl rfl⟩
abbrev mX9_piles : ZM := (yX9_piles, cX9_piles, 5, some (.int))
set_option maxRecDepth 20000 in
theorem oX9_piles : zOk mX9_piles 1 := ⟨zT_of 1282 rfl rfl, iniX9, by decide +kernel, by decide +kernel, by decide +kernel⟩
set_option maxRecDepth 20000 in
theorem kX9_piles : zVirt mX9_piles := ⟨zT_of 1280 rfl rfl, zT_of 1281 rfl rfl⟩
abbrev mX9_shelf : ZM := (yX9_shelf, cX9_shelf, 9, some (.int))
set_option maxRecDepth 20000 in
theorem oX9_shelf : zOk mX9_shelf 1 := ⟨zT_of 1286 rfl rfl, iniX9, by decide +kernel, by decide +kernel, by decide +kernel⟩
set_option maxRecDepth 20000 in
theorem kX9_shelf : zVirt mX9_shelf := ⟨zT_of 1284 rfl rfl, zT_of 1285 rfl rfl⟩
abbrev mX9_buy : ZM := (yX9_buy, cX9_buy, 5, some (.int))
set_option maxRecDepth 20000 in
theorem oX9_buy : zOk mX9_buy 1 := ⟨zT_of 1290 rfl rfl, iniX9, by decide +kernel, by decide +kernel, by decide +kernel⟩
set_option maxRecDepth 20000 in
theorem kX9_buy : zVirt mX9_buy := ⟨zT_of 1288 rfl rfl, zT_of 1289 rfl rfl⟩
abbrev mX9_manyIn : ZM := (yX9_manyIn, cX9_manyIn, 1, some (.int))
set_option maxRecDepth 20000 in
theorem oX9_manyIn : zOk mX9_manyIn 1 := ⟨zT_of 1293 rfl rfl, iniX9, by decide +kernel, by decide +kernel, by decide +kernel⟩
set_option maxRecDepth 20000 in
theorem kX9_manyIn : zStat mX9_manyIn := zT_of 1292 rfl rfl
abbrev mX9_priceOf : ZM := (yX9_priceOf, cX9_priceOf, 5, some (.int))
set_option maxRecDepth 20000 in
theorem oX9_priceOf : zOk mX9_priceOf 1 := ⟨zT_of 1297 rfl rfl, iniX9, by decide +kernel, by decide +kernel, by decide +kernel⟩
set_option maxRecDepth 20000 in
theorem kX9_priceOf : zVirt mX9_priceOf := ⟨zT_of 1296 rfl rfl, zT_of 65 rfl rfl⟩
abbrev mX9_isEnough : ZM := (yX9_isEnough, cX9_isEnough, 5, some (.boolean))
set_option maxRecDepth 20000 in
theorem oX9_isEnough : zOk mX9_isEnough 1 := ⟨zT_of 1302 rfl rfl, iniX9, by decide +kernel, by decide +kernel, by decide +kernel⟩
set_option maxRecDepth 20000 in
theorem kX9_isEnough : zVirt mX9_isEnough := ⟨zT_of 1301 rfl rfl, zT_of 66 rfl rfl⟩
abbrev mX9_buyOne : ZM := (yX9_buyOne, cX9_buyOne, 5, none)
set_option maxRecDepth 20000 in
theorem oX9_buyOne : zOk mX9_buyOne 1 := ⟨zT_of 1306 rfl rfl, iniX9, by decide +kernel, by decide +kernel, by decide +kernel⟩
set_option maxRecDepth 20000 in
theorem kX9_buyOne : zVirt mX9_buyOne := ⟨zT_of 1305 rfl rfl, zT_of 67 rfl rfl⟩
abbrev mX9_tries : ZM := (yX9_tries, cX9_tries, 9, some (.int))
set_option maxRecDepth 20000 in
theorem oX9_tries : zOk mX9_tries 1 := ⟨zT_of 1310 rfl rfl, iniX9, by decide +kernel, by decide +kernel, by decide +kernel⟩
set_option maxRecDepth 20000 in
theorem kX9_tries : zVirt mX9_tries := ⟨zT_of 1308 rfl rfl, zT_of 1309 rfl rfl⟩
abbrev mX9_firstOrder : ZM := (yX9_firstOrder, cX9_firstOrder, 3, none)
set_option maxRecDepth 20000 in
theorem oX9_firstOrder : zOk mX9_firstOrder 1 := ⟨zT_of 1314 rfl rfl, iniX9, by decide +kernel, by decide +kernel, by decide +kernel⟩
set_option maxRecDepth 20000 in
theorem kX9_firstOrder : zVirt mX9_firstOrder := ⟨zT_of 1313 rfl rfl, zT_of 68 rfl rfl⟩
abbrev mX9_meanBy : ZM := (yX9_meanBy, cX9_meanBy, 9, some (.long))
set_option maxRecDepth 20000 in
theorem oX9_meanBy : zOk mX9_meanBy 1 := ⟨zT_of 1319 rfl rfl, iniX9, by decide +kernel, by decide +kernel, by decide +kernel⟩
set_option maxRecDepth 20000 in
theorem kX9_meanBy : zVirt mX9_meanBy := ⟨zT_of 1318 rfl rfl, zT_of 69 rfl rfl⟩
abbrev mX9_nextOrder : ZM := (yX9_nextOrder, cX9_nextOrder, 7, some (.boolean))
set_option maxRecDepth 20000 in
theorem oX9_nextOrder : zOk mX9_nextOrder 1 := ⟨zT_of 1324 rfl rfl, iniX9, by decide +kernel, by decide +kernel, by decide +kernel⟩
set_option maxRecDepth 20000 in
theorem kX9_nextOrder : zVirt mX9_nextOrder := ⟨zT_of 1323 rfl rfl, zT_of 70 rfl rfl⟩
abbrev mX9_fraction : ZM := (yX9_fraction, cX9_fraction, 11, none)
set_option maxRecDepth 20000 in
theorem oX9_fraction : zOk mX9_fraction 2 := ⟨zT_of 1328 rfl rfl, iniX9, by decide +kernel, by decide +kernel, by decide +kernel⟩
set_option maxRecDepth 20000 in
theorem kX9_fraction : zVirt mX9_fraction := ⟨zT_of 1327 rfl rfl, zT_of 71 rfl rfl⟩
abbrev mX9_nuts : ZM := (yX9_nuts, cX9_nuts, 12, some (.int))
set_option maxRecDepth 20000 in
theorem oX9_nuts : zOk mX9_nuts 2 := ⟨zT_of 1332 rfl rfl, iniX9, by decide +kernel, by decide +kernel, by decide +kernel⟩
set_option maxRecDepth 20000 in
theorem kX9_nuts : zVirt mX9_nuts := ⟨zT_of 1330 rfl rfl, zT_of 1331 rfl rfl⟩
abbrev mX9_lend : ZM := (yX9_lend, cX9_lend, 5, some (.int))
set_option maxRecDepth 20000 in
theorem oX9_lend : zOk mX9_lend 3 := ⟨zT_of 1336 rfl rfl, iniX9, by decide +kernel, by decide +kernel, by decide +kernel⟩
set_option maxRecDepth 20000 in
theorem kX9_lend : zVirt mX9_lend := ⟨zT_of 1334 rfl rfl, zT_of 1335 rfl rfl⟩
abbrev mX9_has : ZM := (yX9_has, cX9_has, 2, some (.int))
set_option maxRecDepth 20000 in
theorem oX9_has : zOk mX9_has 1 := ⟨zT_of 1340 rfl rfl, iniX9, by decide +kernel, by decide +kernel, by decide +kernel⟩
set_option maxRecDepth 20000 in
theorem kX9_has : zVirt mX9_has := ⟨zT_of 1338 rfl rfl, zT_of 1339 rfl rfl⟩
abbrev mX9_whoHas : ZM := (yX9_whoHas, cX9_whoHas, 6, some (.int))
set_option maxRecDepth 20000 in
theorem oX9_whoHas : zOk mX9_whoHas 2 := ⟨zT_of 1344 rfl rfl, iniX9, by decide +kernel, by decide +kernel, by decide +kernel⟩
set_option maxRecDepth 20000 in
theorem kX9_whoHas : zVirt mX9_whoHas := ⟨zT_of 1343 rfl rfl, zT_of 72 rfl rfl⟩
abbrev mX9_wrong : ZM := (yX9_wrong, cX9_wrong, 2, some (.int))
set_option maxRecDepth 20000 in
theorem oX9_wrong : zOk mX9_wrong 0 := ⟨zT_of 1348 rfl rfl, iniX9, by decide +kernel, by decide +kernel, by decide +kernel⟩
set_option maxRecDepth 20000 in
theorem kX9_wrong : zVirt mX9_wrong := ⟨zT_of 1346 rfl rfl, zT_of 1347 rfl rfl⟩
abbrev mX9_hint : ZM := (yX9_hint, cX9_hint, 5, some (.int))
set_option maxRecDepth 20000 in
theorem oX9_hint : zOk mX9_hint 3 := ⟨zT_of 1352 rfl rfl, iniX9, by decide +kernel, by decide +kernel, by decide +kernel⟩
set_option maxRecDepth 20000 in
theorem kX9_hint : zVirt mX9_hint := ⟨zT_of 1350 rfl rfl, zT_of 1351 rfl rfl⟩
abbrev mX9_forget : ZM := (yX9_forget, cX9_forget, 4, some (.int))
set_option maxRecDepth 20000 in
theorem oX9_forget : zOk mX9_forget 1 := ⟨zT_of 1356 rfl rfl, iniX9, by decide +kernel, by decide +kernel, by decide +kernel⟩
set_option maxRecDepth 20000 in
theorem kX9_forget : zVirt mX9_forget := ⟨zT_of 1354 rfl rfl, zT_of 1355 rfl rfl⟩
abbrev mX9_labels : ZM := (yX9_labels, cX9_labels, 10, some (.int))
set_option maxRecDepth 20000 in
theorem oX9_labels : zOk mX9_labels 2 := ⟨zT_of 1360 rfl rfl, iniX9, by decide +kernel, by decide +kernel, by decide +kernel⟩
set_option maxRecDepth 20000 in
theorem kX9_labels : zVirt mX9_labels := ⟨zT_of 1358 rfl rfl, zT_of 1359 rfl rfl⟩
abbrev mX9_findWays : ZM := (yX9_findWays, cX9_findWays, 5, some (.int))
set_option maxRecDepth 20000 in
theorem oX9_findWays : zOk mX9_findWays 0 := ⟨zT_of 1364 rfl rfl, iniX9, by decide +kernel, by decide +kernel, by decide +kernel⟩
set_option maxRecDepth 20000 in
theorem kX9_findWays : zVirt mX9_findWays := ⟨zT_of 1363 rfl rfl, zT_of 73 rfl rfl⟩
abbrev mX9_isSo : ZM := (yX9_isSo, cX9_isSo, 6, some (.boolean))
set_option maxRecDepth 20000 in
theorem oX9_isSo : zOk mX9_isSo 0 := ⟨zT_of 1368 rfl rfl, iniX9, by decide +kernel, by decide +kernel, by decide +kernel⟩
set_option maxRecDepth 20000 in
theorem kX9_isSo : zVirt mX9_isSo := ⟨zT_of 1367 rfl rfl, zT_of 74 rfl rfl⟩
abbrev mX9_evening : ZM := (yX9_evening, cX9_evening, 11, some (.int))
set_option maxRecDepth 20000 in
theorem oX9_evening : zOk mX9_evening 2 := ⟨zT_of 1372 rfl rfl, iniX9, by decide +kernel, by decide +kernel, by decide +kernel⟩
set_option maxRecDepth 20000 in
theorem kX9_evening : zVirt mX9_evening := ⟨zT_of 1370 rfl rfl, zT_of 1371 rfl rfl⟩
abbrev mX9_part : ZM := (yX9_part, cX9_part, 2, some (.long))
set_option maxRecDepth 20000 in
theorem oX9_part : zOk mX9_part 1 := ⟨zT_of 1381 rfl rfl, iniX9, by decide +kernel, by decide +kernel, by decide +kernel⟩
set_option maxRecDepth 20000 in
theorem kX9_part : zVirt mX9_part := ⟨zT_of 1379 rfl rfl, zT_of 1380 rfl rfl⟩
abbrev mX9_image : ZM := (yX9_image, cX9_image, 2, some (.int))
set_option maxRecDepth 20000 in
theorem oX9_image : zOk mX9_image 1 := ⟨zT_of 1385 rfl rfl, iniX9, by decide +kernel, by decide +kernel, by decide +kernel⟩
set_option maxRecDepth 20000 in
theorem kX9_image : zVirt mX9_image := ⟨zT_of 1383 rfl rfl, zT_of 1384 rfl rfl⟩
abbrev mX9_from : ZM := (yX9_from, cX9_from, 2, some (.int))
set_option maxRecDepth 20000 in
theorem oX9_from : zOk mX9_from 1 := ⟨zT_of 1389 rfl rfl, iniX9, by decide +kernel, by decide +kernel, by decide +kernel⟩
set_option maxRecDepth 20000 in
theorem kX9_from : zVirt mX9_from := ⟨zT_of 1387 rfl rfl, zT_of 1388 rfl rfl⟩
abbrev mX9_status : ZM := (yX9_status, cX9_status, 2, some (.int))
set_option maxRecDepth 20000 in
theorem oX9_status : zOk mX9_status 1 := ⟨zT_of 1393 rfl rfl, iniX9, by decide +kernel, by decide +kernel, by decide +kernel⟩
set_option maxRecDepth 20000 in
theorem kX9_status : zVirt mX9_status := ⟨zT_of 1391 rfl rfl, zT_of 1392 rfl rfl⟩
abbrev mX9_count : ZM := (yX9_count, cX9_count, 2, some (.int))
set_option maxRecDepth 20000 in
theorem oX9_count : zOk mX9_count 1 := ⟨zT_of 1397 rfl rfl, iniX9, by decide +kernel, by decide +kernel, by decide +kernel⟩
set_option maxRecDepth 20000 in
theorem kX9_count : zVirt mX9_count := ⟨zT_of 1395 rfl rfl, zT_of 1396 rfl rfl⟩
abbrev mX9_counted : ZM := (yX9_counted, cX9_counted, 4, some (.int))
set_option maxRecDepth 20000 in
theorem oX9_counted : zOk mX9_counted 1 := ⟨zT_of 1401 rfl rfl, iniX9, by decide +kernel, by decide +kernel, by decide +kernel⟩
set_option maxRecDepth 20000 in
theorem kX9_counted : zVirt mX9_counted := ⟨zT_of 1400 rfl rfl, zT_of 75 rfl rfl⟩
abbrev mX9_digest : ZM := (yX9_digest, cX9_digest, 4, some (.long))
set_option maxRecDepth 20000 in
theorem oX9_digest : zOk mX9_digest 0 := ⟨zT_of 1405 rfl rfl, iniX9, by decide +kernel, by decide +kernel, by decide +kernel⟩
set_option maxRecDepth 20000 in
theorem kX9_digest : zVirt mX9_digest := ⟨zT_of 1403 rfl rfl, zT_of 1404 rfl rfl⟩
abbrev mX9_digested : ZM := (yX9_digested, cX9_digested, 8, some (.long))
set_option maxRecDepth 20000 in
theorem oX9_digested : zOk mX9_digested 3 := ⟨zT_of 1411 rfl rfl, iniX9, by decide +kernel, by decide +kernel, by decide +kernel⟩
set_option maxRecDepth 20000 in
theorem kX9_digested : zVirt mX9_digested := ⟨zT_of 1410 rfl rfl, zT_of 76 rfl rfl⟩
set_option maxRecDepth 20000 in
theorem nL_7 : zNew RL 7 8 14 [.null, .null, .null, .null, .null, .null, .null, .null, .null, .null, .int 0, .int 0, .int 0, .int 0] := ⟨RX8, TX8, tyX8, rfl, uX8, tyX8_ok, zT_of 96 rfl rfl, zT_of 97 rfl rfl, zT_of 78 rfl rfl, by decide +kernel, fun _ => rfl⟩
set_option maxRecDepth 20000 in
theorem lL_9 : zLk RL 9 yX8_init := Or.inl (zT_of 98 rfl rfl)
set_option maxRecDepth 20000 in
theorem lX8_3 : Cond.methodLink RX8 3 Lib.objectInit ∈ zT := zT_of 101 rfl rfl
set_option maxRecDepth 20000 in
theorem nX8_9 : zNew RX8 9 1 6 [.null, .null, .null, .null, .null, .null] := ⟨RX1, TX1, tyX1, rfl, uX1, tyX1_ok, zT_of 104 rfl rfl, zT_of 105 rfl rfl, zT_of 79 rfl rfl, by decide +kernel, fun _ => rfl⟩
set_option maxRecDepth 20000 in
theorem lX8_11 : zLk RX8 11 yX1_init := Or.inr ⟨"LidForEach", zTN_of 106 rfl rfl⟩
set_option maxRecDepth 20000 in
theorem lX1_3 : Cond.methodLink RX1 3 Lib.objectInit ∈ zT := zT_of 109 rfl rfl
set_option maxRecDepth 20000 in
theorem nX1_9 : zNew RX1 9 6 4 [.int 0, .int 0, .null, .int 0] := ⟨RX6, TX6, tyX6, rfl, uX6, tyX6_ok, zT_of 110 rfl rfl, zT_of 111 rfl rfl, zT_of 80 rfl rfl, by decide +kernel, fun _ => rfl⟩
set_option maxRecDepth 20000 in
theorem lX1_11 : zLk RX1 11 yX6_init := Or.inl (zT_of 112 rfl rfl)
set_option maxRecDepth 20000 in
theorem lX6_3 : Cond.methodLink RX6 3 Lib.objectInit ∈ zT := zT_of 115 rfl rfl
set_option maxRecDepth 20000 in
theorem lX6_9 : Cond.methodLink RX6 9 Lib.Math.max.name ∈ zT := zT_of 116 rfl rfl
set_option maxRecDepth 20000 in
theorem fX6_15 : zF RX6 15 6 0 := ⟨RX6, TX6, 4, rfl, by decide, uX6, Or.inl (zT_of 119 rfl rfl)⟩
set_option maxRecDepth 20000 in
theorem pX6_15 : zP RX6 15 6 0 .int true := ⟨RX6, TX6, 4, tyX6, rfl, by decide, uX6, zT_of 119 rfl rfl, tyX6_ok, nmX6, by decide +kernel, rfl, rfl⟩
set_option maxRecDepth 20000 in
theorem fX6_21 : zF RX6 21 6 1 := ⟨RX6, TX6, 4, rfl, by decide, uX6, Or.inl (zT_of 120 rfl rfl)⟩
set_option maxRecDepth 20000 in
theorem pX6_21 : zP RX6 21 6 1 .int true := ⟨RX6, TX6, 4, tyX6, rfl, by decide, uX6, zT_of 120 rfl rfl, tyX6_ok, nmX6, by decide +kernel, rfl, rfl⟩
set_option maxRecDepth 20000 in
theorem fX6_24 : zF RX6 24 6 2 := ⟨RX6, TX6, 4, rfl, by decide, uX6, Or.inl (zT_of 121 rfl rfl)⟩
set_option maxRecDepth 20000 in
theorem pX6_24 : zP RX6 24 6 2 (.array .int) true := ⟨RX6, TX6, 4, tyX6, rfl, by decide, uX6, zT_of 121 rfl rfl, tyX6_ok, nmX6, by decide +kernel, rfl, rfl⟩
set_option maxRecDepth 20000 in
theorem fX6_28 : zF RX6 28 6 3 := ⟨RX6, TX6, 4, rfl, by decide, uX6, Or.inl (zT_of 122 rfl rfl)⟩
set_option maxRecDepth 20000 in
theorem pX6_28 : zP RX6 28 6 3 .int false := ⟨RX6, TX6, 4, tyX6, rfl, by decide, uX6, zT_of 122 rfl rfl, tyX6_ok, nmX6, by decide +kernel, rfl, rfl⟩
set_option maxRecDepth 20000 in
theorem w_arr_int : Cond.arrayClass .int ∈ zT := zT_of 132 rfl rfl
set_option maxRecDepth 20000 in
theorem fX1_14 : zF RX1 14 1 0 := ⟨RX1, TX1, 6, rfl, by decide, uX1, Or.inl (zT_of 133 rfl rfl)⟩
set_option maxRecDepth 20000 in
theorem pX1_14 : zP RX1 14 1 0 (.object "LidForEach$Table") true := ⟨RX1, TX1, 6, tyX1, rfl, by decide, uX1, zT_of 133 rfl rfl, tyX1_ok, nmX1, by decide +kernel, rfl, rfl⟩
set_option maxRecDepth 20000 in
theorem fX2_33 : zF RX2 33 1 0 := ⟨RX1, TX1, 6, rfl, by decide, uX1, Or.inr ⟨"LidForEach", zTN_of 134 rfl rfl⟩⟩
set_option maxRecDepth 20000 in
theorem fX0_19 : zF RX0 19 1 0 := ⟨RX1, TX1, 6, rfl, by decide, uX1, Or.inr ⟨"LidForEach", zTN_of 135 rfl rfl⟩⟩
set_option maxRecDepth 20000 in
theorem fX8_89 : zF RX8 89 1 0 := ⟨RX1, TX1, 6, rfl, by decide, uX1, Or.inr ⟨"LidForEach", zTN_of 136 rfl rfl⟩⟩
set_option maxRecDepth 20000 in
theorem fX1_20 : zF RX1 20 1 1 := ⟨RX1, TX1, 6, rfl, by decide, uX1, Or.inl (zT_of 137 rfl rfl)⟩
set_option maxRecDepth 20000 in
theorem pX1_20 : zP RX1 20 1 1 (.object "LidForEach$Table") true := ⟨RX1, TX1, 6, tyX1, rfl, by decide, uX1, zT_of 137 rfl rfl, tyX1_ok, nmX1, by decide +kernel, rfl, rfl⟩
set_option maxRecDepth 20000 in
theorem fX8_178 : zF RX8 178 1 1 := ⟨RX1, TX1, 6, rfl, by decide, uX1, Or.inr ⟨"LidForEach", zTN_of 138 rfl rfl⟩⟩
set_option maxRecDepth 20000 in
theorem fX1_23 : zF RX1 23 1 2 := ⟨RX1, TX1, 6, rfl, by decide, uX1, Or.inl (zT_of 139 rfl rfl)⟩
set_option maxRecDepth 20000 in
theorem pX1_23 : zP RX1 23 1 2 (.object "LidForEach$Table") true := ⟨RX1, TX1, 6, tyX1, rfl, by decide, uX1, zT_of 139 rfl rfl, tyX1_ok, nmX1, by decide +kernel, rfl, rfl⟩
set_option maxRecDepth 20000 in
theorem fX8_209 : zF RX8 209 1 2 := ⟨RX1, TX1, 6, rfl, by decide, uX1, Or.inr ⟨"LidForEach", zTN_of 140 rfl rfl⟩⟩
set_option maxRecDepth 20000 in
theorem fX1_26 : zF RX1 26 1 3 := ⟨RX1, TX1, 6, rfl, by decide, uX1, Or.inl (zT_of 141 rfl rfl)⟩
set_option maxRecDepth 20000 in
theorem pX1_26 : zP RX1 26 1 3 (.object "LidForEach$Table") true := ⟨RX1, TX1, 6, tyX1, rfl, by decide, uX1, zT_of 141 rfl rfl, tyX1_ok, nmX1, by decide +kernel, rfl, rfl⟩
set_option maxRecDepth 20000 in
theorem fX8_234 : zF RX8 234 1 3 := ⟨RX1, TX1, 6, rfl, by decide, uX1, Or.inr ⟨"LidForEach", zTN_of 142 rfl rfl⟩⟩
set_option maxRecDepth 20000 in
theorem fX1_29 : zF RX1 29 1 4 := ⟨RX1, TX1, 6, rfl, by decide, uX1, Or.inl (zT_of 143 rfl rfl)⟩
set_option maxRecDepth 20000 in
theorem pX1_29 : zP RX1 29 1 4 (.object "LidForEach$Table") true := ⟨RX1, TX1, 6, tyX1, rfl, by decide, uX1, zT_of 143 rfl rfl, tyX1_ok, nmX1, by decide +kernel, rfl, rfl⟩
set_option maxRecDepth 20000 in
theorem fX2_57 : zF RX2 57 1 4 := ⟨RX1, TX1, 6, rfl, by decide, uX1, Or.inr ⟨"LidForEach", zTN_of 144 rfl rfl⟩⟩
set_option maxRecDepth 20000 in
theorem fX8_247 : zF RX8 247 1 4 := ⟨RX1, TX1, 6, rfl, by decide, uX1, Or.inr ⟨"LidForEach", zTN_of 145 rfl rfl⟩⟩
set_option maxRecDepth 20000 in
theorem fX1_32 : zF RX1 32 1 5 := ⟨RX1, TX1, 6, rfl, by decide, uX1, Or.inl (zT_of 146 rfl rfl)⟩
set_option maxRecDepth 20000 in
theorem pX1_32 : zP RX1 32 1 5 (.object "LidForEach$Table") true := ⟨RX1, TX1, 6, tyX1, rfl, by decide, uX1, zT_of 146 rfl rfl, tyX1_ok, nmX1, by decide +kernel, rfl, rfl⟩
set_option maxRecDepth 20000 in
theorem fX8_302 : zF RX8 302 1 5 := ⟨RX1, TX1, 6, rfl, by decide, uX1, Or.inr ⟨"LidForEach", zTN_of 147 rfl rfl⟩⟩
set_option maxRecDepth 20000 in
theorem nX8_25 : zNew RX8 25 7 8 [.null, .null, .int 0, .int 0, .int 0, .int 0, .int 0, .int 0] := ⟨RX7, TX7, tyX7, rfl, uX7, tyX7_ok, zT_of 161 rfl rfl, zT_of 162 rfl rfl, zT_of 82 rfl rfl, by decide +kernel, fun _ => rfl⟩
set_option maxRecDepth 20000 in
theorem lX8_27 : zLk RX8 27 yX7_init := Or.inr ⟨"LidForEach", zTN_of 163 rfl rfl⟩
set_option maxRecDepth 20000 in
theorem lX7_3 : Cond.methodLink RX7 3 Lib.objectInit ∈ zT := zT_of 166 rfl rfl
set_option maxRecDepth 20000 in
theorem fX7_9 : zF RX7 9 7 0 := ⟨RX7, TX7, 8, rfl, by decide, uX7, Or.inl (zT_of 167 rfl rfl)⟩
set_option maxRecDepth 20000 in
theorem pX7_9 : zP RX7 9 7 0 (.array .byte) true := ⟨RX7, TX7, 8, tyX7, rfl, by decide, uX7, zT_of 167 rfl rfl, tyX7_ok, nmX7, by decide +kernel, rfl, rfl⟩
set_option maxRecDepth 20000 in
theorem fX7_15 : zF RX7 15 7 1 := ⟨RX7, TX7, 8, rfl, by decide, uX7, Or.inl (zT_of 168 rfl rfl)⟩
set_option maxRecDepth 20000 in
theorem pX7_15 : zP RX7 15 7 1 (.array .int) true := ⟨RX7, TX7, 8, tyX7, rfl, by decide, uX7, zT_of 168 rfl rfl, tyX7_ok, nmX7, by decide +kernel, rfl, rfl⟩
set_option maxRecDepth 20000 in
theorem fX7_19 : zF RX7 19 7 2 := ⟨RX7, TX7, 8, rfl, by decide, uX7, Or.inl (zT_of 169 rfl rfl)⟩
set_option maxRecDepth 20000 in
theorem pX7_19 : zP RX7 19 7 2 .int false := ⟨RX7, TX7, 8, tyX7, rfl, by decide, uX7, zT_of 169 rfl rfl, tyX7_ok, nmX7, by decide +kernel, rfl, rfl⟩
set_option maxRecDepth 20000 in
theorem fX7_27 : zF RX7 27 7 3 := ⟨RX7, TX7, 8, rfl, by decide, uX7, Or.inl (zT_of 170 rfl rfl)⟩
set_option maxRecDepth 20000 in
theorem pX7_27 : zP RX7 27 7 3 .int false := ⟨RX7, TX7, 8, tyX7, rfl, by decide, uX7, zT_of 170 rfl rfl, tyX7_ok, nmX7, by decide +kernel, rfl, rfl⟩
set_option maxRecDepth 20000 in
theorem fX7_30 : zF RX7 30 7 4 := ⟨RX7, TX7, 8, rfl, by decide, uX7, Or.inl (zT_of 171 rfl rfl)⟩
set_option maxRecDepth 20000 in
theorem pX7_30 : zP RX7 30 7 4 .int false := ⟨RX7, TX7, 8, tyX7, rfl, by decide, uX7, zT_of 171 rfl rfl, tyX7_ok, nmX7, by decide +kernel, rfl, rfl⟩
set_option maxRecDepth 20000 in
theorem fX7_33 : zF RX7 33 7 5 := ⟨RX7, TX7, 8, rfl, by decide, uX7, Or.inl (zT_of 172 rfl rfl)⟩
set_option maxRecDepth 20000 in
theorem pX7_33 : zP RX7 33 7 5 .int false := ⟨RX7, TX7, 8, tyX7, rfl, by decide, uX7, zT_of 172 rfl rfl, tyX7_ok, nmX7, by decide +kernel, rfl, rfl⟩
set_option maxRecDepth 20000 in
theorem fX7_36 : zF RX7 36 7 6 := ⟨RX7, TX7, 8, rfl, by decide, uX7, Or.inl (zT_of 173 rfl rfl)⟩
set_option maxRecDepth 20000 in
theorem pX7_36 : zP RX7 36 7 6 .int false := ⟨RX7, TX7, 8, tyX7, rfl, by decide, uX7, zT_of 173 rfl rfl, tyX7_ok, nmX7, by decide +kernel, rfl, rfl⟩
set_option maxRecDepth 20000 in
theorem fX7_39 : zF RX7 39 7 7 := ⟨RX7, TX7, 8, rfl, by decide, uX7, Or.inl (zT_of 174 rfl rfl)⟩
set_option maxRecDepth 20000 in
theorem pX7_39 : zP RX7 39 7 7 .int false := ⟨RX7, TX7, 8, tyX7, rfl, by decide, uX7, zT_of 174 rfl rfl, tyX7_ok, nmX7, by decide +kernel, rfl, rfl⟩
set_option maxRecDepth 20000 in
theorem w_arr_byte : Cond.arrayClass .byte ∈ zT := zT_of 192 rfl rfl
set_option maxRecDepth 20000 in
theorem nX8_32 : zNew RX8 32 4 5 [.null, .null, .null, .int 0, .int 0] := ⟨RX4, TX4, tyX4, rfl, uX4, tyX4_ok, zT_of 193 rfl rfl, zT_of 194 rfl rfl, zT_of 83 rfl rfl, by decide +kernel, fun _ => rfl⟩
set_option maxRecDepth 20000 in
theorem lX8_34 : zLk RX8 34 yX4_init := Or.inr ⟨"LidForEach", zTN_of 195 rfl rfl⟩
set_option maxRecDepth 20000 in
theorem lX4_3 : Cond.methodLink RX4 3 Lib.objectInit ∈ zT := zT_of 198 rfl rfl
set_option maxRecDepth 20000 in
theorem fX4_9 : zF RX4 9 4 0 := ⟨RX4, TX4, 5, rfl, by decide, uX4, Or.inl (zT_of 199 rfl rfl)⟩
set_option maxRecDepth 20000 in
theorem pX4_9 : zP RX4 9 4 0 (.array .int) true := ⟨RX4, TX4, 5, tyX4, rfl, by decide, uX4, zT_of 199 rfl rfl, tyX4_ok, nmX4, by decide +kernel, rfl, rfl⟩
set_option maxRecDepth 20000 in
theorem fX4_15 : zF RX4 15 4 1 := ⟨RX4, TX4, 5, rfl, by decide, uX4, Or.inl (zT_of 200 rfl rfl)⟩
set_option maxRecDepth 20000 in
theorem pX4_15 : zP RX4 15 4 1 (.array .int) true := ⟨RX4, TX4, 5, tyX4, rfl, by decide, uX4, zT_of 200 rfl rfl, tyX4_ok, nmX4, by decide +kernel, rfl, rfl⟩
set_option maxRecDepth 20000 in
theorem fX4_18 : zF RX4 18 4 2 := ⟨RX4, TX4, 5, rfl, by decide, uX4, Or.inl (zT_of 201 rfl rfl)⟩
set_option maxRecDepth 20000 in
theorem pX4_18 : zP RX4 18 4 2 (.array .int) true := ⟨RX4, TX4, 5, tyX4, rfl, by decide, uX4, zT_of 201 rfl rfl, tyX4_ok, nmX4, by decide +kernel, rfl, rfl⟩
set_option maxRecDepth 20000 in
theorem fX4_21 : zF RX4 21 4 3 := ⟨RX4, TX4, 5, rfl, by decide, uX4, Or.inl (zT_of 202 rfl rfl)⟩
set_option maxRecDepth 20000 in
theorem pX4_21 : zP RX4 21 4 3 .int false := ⟨RX4, TX4, 5, tyX4, rfl, by decide, uX4, zT_of 202 rfl rfl, tyX4_ok, nmX4, by decide +kernel, rfl, rfl⟩
set_option maxRecDepth 20000 in
theorem fX4_34 : zF RX4 34 4 4 := ⟨RX4, TX4, 5, rfl, by decide, uX4, Or.inl (zT_of 203 rfl rfl)⟩
set_option maxRecDepth 20000 in
theorem pX4_34 : zP RX4 34 4 4 .int false := ⟨RX4, TX4, 5, tyX4, rfl, by decide, uX4, zT_of 203 rfl rfl, tyX4_ok, nmX4, by decide +kernel, rfl, rfl⟩
set_option maxRecDepth 20000 in
theorem nX8_39 : zNew RX8 39 0 3 [.null, .null, .int 0] := ⟨RX0, TX0, tyX0, rfl, uX0, tyX0_ok, zT_of 215 rfl rfl, zT_of 216 rfl rfl, zT_of 84 rfl rfl, by decide +kernel, fun _ => rfl⟩
set_option maxRecDepth 20000 in
theorem lX8_41 : zLk RX8 41 yX0_init := Or.inr ⟨"LidForEach", zTN_of 217 rfl rfl⟩
set_option maxRecDepth 20000 in
theorem lX0_3 : Cond.methodLink RX0 3 Lib.objectInit ∈ zT := zT_of 220 rfl rfl
set_option maxRecDepth 20000 in
theorem fX0_9 : zF RX0 9 0 0 := ⟨RX0, TX0, 3, rfl, by decide, uX0, Or.inl (zT_of 221 rfl rfl)⟩
set_option maxRecDepth 20000 in
theorem pX0_9 : zP RX0 9 0 0 (.array .int) true := ⟨RX0, TX0, 3, tyX0, rfl, by decide, uX0, zT_of 221 rfl rfl, tyX0_ok, nmX0, by decide +kernel, rfl, rfl⟩
set_option maxRecDepth 20000 in
theorem fX0_15 : zF RX0 15 0 1 := ⟨RX0, TX0, 3, rfl, by decide, uX0, Or.inl (zT_of 222 rfl rfl)⟩
set_option maxRecDepth 20000 in
theorem pX0_15 : zP RX0 15 0 1 (.array .boolean) true := ⟨RX0, TX0, 3, tyX0, rfl, by decide, uX0, zT_of 222 rfl rfl, tyX0_ok, nmX0, by decide +kernel, rfl, rfl⟩
set_option maxRecDepth 20000 in
theorem fX0_37 : zF RX0 37 0 2 := ⟨RX0, TX0, 3, rfl, by decide, uX0, Or.inl (zT_of 223 rfl rfl)⟩
set_option maxRecDepth 20000 in
theorem pX0_37 : zP RX0 37 0 2 .int false := ⟨RX0, TX0, 3, tyX0, rfl, by decide, uX0, zT_of 223 rfl rfl, tyX0_ok, nmX0, by decide +kernel, rfl, rfl⟩
set_option maxRecDepth 20000 in
theorem w_arr_boolean : Cond.arrayClass .boolean ∈ zT := zT_of 231 rfl rfl
set_option maxRecDepth 20000 in
theorem nX8_46 : zNew RX8 46 5 2 [.null, .int 0] := ⟨RX5, TX5, tyX5, rfl, uX5, tyX5_ok, zT_of 232 rfl rfl, zT_of 233 rfl rfl, zT_of 85 rfl rfl, by decide +kernel, fun _ => rfl⟩
set_option maxRecDepth 20000 in
theorem lX8_48 : zLk RX8 48 yX5_init := Or.inr ⟨"LidForEach", zTN_of 234 rfl rfl⟩
set_option maxRecDepth 20000 in
theorem lX5_3 : Cond.methodLink RX5 3 Lib.objectInit ∈ zT := zT_of 237 rfl rfl
set_option maxRecDepth 20000 in
theorem fX5_9 : zF RX5 9 5 0 := ⟨RX5, TX5, 2, rfl, by decide, uX5, Or.inl (zT_of 238 rfl rfl)⟩
set_option maxRecDepth 20000 in
theorem pX5_9 : zP RX5 9 5 0 (.array .int) true := ⟨RX5, TX5, 2, tyX5, rfl, by decide, uX5, zT_of 238 rfl rfl, tyX5_ok, nmX5, by decide +kernel, rfl, rfl⟩
set_option maxRecDepth 20000 in
theorem fX5_15 : zF RX5 15 5 1 := ⟨RX5, TX5, 2, rfl, by decide, uX5, Or.inl (zT_of 239 rfl rfl)⟩
set_option maxRecDepth 20000 in
theorem pX5_15 : zP RX5 15 5 1 .int false := ⟨RX5, TX5, 2, tyX5, rfl, by decide, uX5, zT_of 239 rfl rfl, tyX5_ok, nmX5, by decide +kernel, rfl, rfl⟩
set_option maxRecDepth 20000 in
theorem nX8_53 : zNew RX8 53 2 9 [.null, .null, .null, .null, .null, .null, .null, .int 0, .int 0] := ⟨RX2, TX2, tyX2, rfl, uX2, tyX2_ok, zT_of 245 rfl rfl, zT_of 246 rfl rfl, zT_of 86 rfl rfl, by decide +kernel, fun _ => rfl⟩
set_option maxRecDepth 20000 in
theorem lX8_55 : zLk RX8 55 yX2_init := Or.inr ⟨"LidForEach", zTN_of 247 rfl rfl⟩
set_option maxRecDepth 20000 in
theorem lX2_3 : Cond.methodLink RX2 3 Lib.objectInit ∈ zT := zT_of 250 rfl rfl
set_option maxRecDepth 20000 in
theorem fX2_9 : zF RX2 9 2 0 := ⟨RX2, TX2, 9, rfl, by decide, uX2, Or.inl (zT_of 251 rfl rfl)⟩
set_option maxRecDepth 20000 in
theorem pX2_9 : zP RX2 9 2 0 (.array .int) true := ⟨RX2, TX2, 9, tyX2, rfl, by decide, uX2, zT_of 251 rfl rfl, tyX2_ok, nmX2, by decide +kernel, rfl, rfl⟩
set_option maxRecDepth 20000 in
theorem fX2_15 : zF RX2 15 2 1 := ⟨RX2, TX2, 9, rfl, by decide, uX2, Or.inl (zT_of 252 rfl rfl)⟩
set_option maxRecDepth 20000 in
theorem pX2_15 : zP RX2 15 2 1 (.array .int) true := ⟨RX2, TX2, 9, tyX2, rfl, by decide, uX2, zT_of 252 rfl rfl, tyX2_ok, nmX2, by decide +kernel, rfl, rfl⟩
set_option maxRecDepth 20000 in
theorem fX2_18 : zF RX2 18 2 2 := ⟨RX2, TX2, 9, rfl, by decide, uX2, Or.inl (zT_of 253 rfl rfl)⟩
set_option maxRecDepth 20000 in
theorem pX2_18 : zP RX2 18 2 2 (.array .int) true := ⟨RX2, TX2, 9, tyX2, rfl, by decide, uX2, zT_of 253 rfl rfl, tyX2_ok, nmX2, by decide +kernel, rfl, rfl⟩
set_option maxRecDepth 20000 in
theorem fX2_21 : zF RX2 21 2 3 := ⟨RX2, TX2, 9, rfl, by decide, uX2, Or.inl (zT_of 254 rfl rfl)⟩
set_option maxRecDepth 20000 in
theorem pX2_21 : zP RX2 21 2 3 (.array .int) true := ⟨RX2, TX2, 9, tyX2, rfl, by decide, uX2, zT_of 254 rfl rfl, tyX2_ok, nmX2, by decide +kernel, rfl, rfl⟩
set_option maxRecDepth 20000 in
theorem fX2_24 : zF RX2 24 2 4 := ⟨RX2, TX2, 9, rfl, by decide, uX2, Or.inl (zT_of 255 rfl rfl)⟩
set_option maxRecDepth 20000 in
theorem pX2_24 : zP RX2 24 2 4 (.array .int) true := ⟨RX2, TX2, 9, tyX2, rfl, by decide, uX2, zT_of 255 rfl rfl, tyX2_ok, nmX2, by decide +kernel, rfl, rfl⟩
set_option maxRecDepth 20000 in
theorem fX2_27 : zF RX2 27 2 5 := ⟨RX2, TX2, 9, rfl, by decide, uX2, Or.inl (zT_of 256 rfl rfl)⟩
set_option maxRecDepth 20000 in
theorem pX2_27 : zP RX2 27 2 5 (.array .int) true := ⟨RX2, TX2, 9, tyX2, rfl, by decide, uX2, zT_of 256 rfl rfl, tyX2_ok, nmX2, by decide +kernel, rfl, rfl⟩
set_option maxRecDepth 20000 in
theorem fX2_30 : zF RX2 30 2 6 := ⟨RX2, TX2, 9, rfl, by decide, uX2, Or.inl (zT_of 257 rfl rfl)⟩
set_option maxRecDepth 20000 in
theorem pX2_30 : zP RX2 30 2 6 (.array .int) true := ⟨RX2, TX2, 9, tyX2, rfl, by decide, uX2, zT_of 257 rfl rfl, tyX2_ok, nmX2, by decide +kernel, rfl, rfl⟩
set_option maxRecDepth 20000 in
theorem fX2_51 : zF RX2 51 2 7 := ⟨RX2, TX2, 9, rfl, by decide, uX2, Or.inl (zT_of 258 rfl rfl)⟩
set_option maxRecDepth 20000 in
theorem pX2_51 : zP RX2 51 2 7 .int false := ⟨RX2, TX2, 9, tyX2, rfl, by decide, uX2, zT_of 258 rfl rfl, tyX2_ok, nmX2, by decide +kernel, rfl, rfl⟩
set_option maxRecDepth 20000 in
theorem fX2_74 : zF RX2 74 2 8 := ⟨RX2, TX2, 9, rfl, by decide, uX2, Or.inl (zT_of 259 rfl rfl)⟩
set_option maxRecDepth 20000 in
theorem pX2_74 : zP RX2 74 2 8 .int false := ⟨RX2, TX2, 9, tyX2, rfl, by decide, uX2, zT_of 259 rfl rfl, tyX2_ok, nmX2, by decide +kernel, rfl, rfl⟩
set_option maxRecDepth 20000 in
theorem nX8_60 : zNew RX8 60 3 2 [.long 0, .long 0] := ⟨RX3, TX3, tyX3, rfl, uX3, tyX3_ok, zT_of 279 rfl rfl, zT_of 280 rfl rfl, zT_of 87 rfl rfl, by decide +kernel, fun _ => rfl⟩
set_option maxRecDepth 20000 in
theorem lX8_62 : zLk RX8 62 yX3_init := Or.inr ⟨"LidForEach", zTN_of 281 rfl rfl⟩
set_option maxRecDepth 20000 in
theorem lX3_1 : Cond.methodLink RX3 1 Lib.objectInit ∈ zT := zT_of 284 rfl rfl
set_option maxRecDepth 20000 in
theorem fX3_17 : zF RX3 17 3 0 := ⟨RX3, TX3, 2, rfl, by decide, uX3, Or.inl (zT_of 285 rfl rfl)⟩
set_option maxRecDepth 20000 in
theorem pX3_17 : zP RX3 17 3 0 .long false := ⟨RX3, TX3, 2, tyX3, rfl, by decide, uX3, zT_of 285 rfl rfl, tyX3_ok, nmX3, by decide +kernel, rfl, rfl⟩
set_option maxRecDepth 20000 in
theorem fX8_264 : zF RX8 264 3 0 := ⟨RX3, TX3, 2, rfl, by decide, uX3, Or.inr ⟨"LidForEach", zTN_of 286 rfl rfl⟩⟩
set_option maxRecDepth 20000 in
theorem fX3_7 : zF RX3 7 3 1 := ⟨RX3, TX3, 2, rfl, by decide, uX3, Or.inl (zT_of 287 rfl rfl)⟩
set_option maxRecDepth 20000 in
theorem pX3_7 : zP RX3 7 3 1 .long false := ⟨RX3, TX3, 2, tyX3, rfl, by decide, uX3, zT_of 287 rfl rfl, tyX3_ok, nmX3, by decide +kernel, rfl, rfl⟩
set_option maxRecDepth 20000 in
theorem fX8_268 : zF RX8 268 3 1 := ⟨RX3, TX3, 2, rfl, by decide, uX3, Or.inr ⟨"LidForEach", zTN_of 288 rfl rfl⟩⟩
set_option maxRecDepth 20000 in
theorem fX8_12 : zF RX8 12 8 0 := ⟨RX8, TX8, 14, rfl, by decide, uX8, Or.inl (zT_of 294 rfl rfl)⟩
set_option maxRecDepth 20000 in
theorem pX8_12 : zP RX8 12 8 0 (.object "LidForEach$Cupboard") true := ⟨RX8, TX8, 14, tyX8, rfl, by decide, uX8, zT_of 294 rfl rfl, tyX8_ok, nmX8, by decide +kernel, rfl, rfl⟩
set_option maxRecDepth 20000 in
theorem fX8_16 : zF RX8 16 8 1 := ⟨RX8, TX8, 14, rfl, by decide, uX8, Or.inl (zT_of 295 rfl rfl)⟩
set_option maxRecDepth 20000 in
theorem pX8_16 : zP RX8 16 8 1 (.object "LidForEach$Cupboard") true := ⟨RX8, TX8, 14, tyX8, rfl, by decide, uX8, zT_of 295 rfl rfl, tyX8_ok, nmX8, by decide +kernel, rfl, rfl⟩
set_option maxRecDepth 20000 in
theorem fX8_19 : zF RX8 19 8 2 := ⟨RX8, TX8, 14, rfl, by decide, uX8, Or.inl (zT_of 296 rfl rfl)⟩
set_option maxRecDepth 20000 in
theorem pX8_19 : zP RX8 19 8 2 (.object "LidForEach$Cupboard") true := ⟨RX8, TX8, 14, tyX8, rfl, by decide, uX8, zT_of 296 rfl rfl, tyX8_ok, nmX8, by decide +kernel, rfl, rfl⟩
set_option maxRecDepth 20000 in
theorem fX8_22 : zF RX8 22 8 3 := ⟨RX8, TX8, 14, rfl, by decide, uX8, Or.inl (zT_of 297 rfl rfl)⟩
set_option maxRecDepth 20000 in
theorem pX8_22 : zP RX8 22 8 3 (.object "LidForEach$Cupboard") true := ⟨RX8, TX8, 14, tyX8, rfl, by decide, uX8, zT_of 297 rfl rfl, tyX8_ok, nmX8, by decide +kernel, rfl, rfl⟩
set_option maxRecDepth 20000 in
theorem fX8_28 : zF RX8 28 8 4 := ⟨RX8, TX8, 14, rfl, by decide, uX8, Or.inl (zT_of 298 rfl rfl)⟩
set_option maxRecDepth 20000 in
theorem pX8_28 : zP RX8 28 8 4 (.object "LidForEach$Text") true := ⟨RX8, TX8, 14, tyX8, rfl, by decide, uX8, zT_of 298 rfl rfl, tyX8_ok, nmX8, by decide +kernel, rfl, rfl⟩
set_option maxRecDepth 20000 in
theorem fX8_35 : zF RX8 35 8 5 := ⟨RX8, TX8, 14, rfl, by decide, uX8, Or.inl (zT_of 299 rfl rfl)⟩
set_option maxRecDepth 20000 in
theorem pX8_35 : zP RX8 35 8 5 (.object "LidForEach$Pairs") true := ⟨RX8, TX8, 14, tyX8, rfl, by decide, uX8, zT_of 299 rfl rfl, tyX8_ok, nmX8, by decide +kernel, rfl, rfl⟩
set_option maxRecDepth 20000 in
theorem fX8_42 : zF RX8 42 8 6 := ⟨RX8, TX8, 14, rfl, by decide, uX8, Or.inl (zT_of 300 rfl rfl)⟩
set_option maxRecDepth 20000 in
theorem pX8_42 : zP RX8 42 8 6 (.object "LidForEach$Crowds") true := ⟨RX8, TX8, 14, tyX8, rfl, by decide, uX8, zT_of 300 rfl rfl, tyX8_ok, nmX8, by decide +kernel, rfl, rfl⟩
set_option maxRecDepth 20000 in
theorem fX8_49 : zF RX8 49 8 7 := ⟨RX8, TX8, 14, rfl, by decide, uX8, Or.inl (zT_of 301 rfl rfl)⟩
set_option maxRecDepth 20000 in
theorem pX8_49 : zP RX8 49 8 7 (.object "LidForEach$Ranking") true := ⟨RX8, TX8, 14, tyX8, rfl, by decide, uX8, zT_of 301 rfl rfl, tyX8_ok, nmX8, by decide +kernel, rfl, rfl⟩
set_option maxRecDepth 20000 in
theorem fX8_56 : zF RX8 56 8 8 := ⟨RX8, TX8, 14, rfl, by decide, uX8, Or.inl (zT_of 302 rfl rfl)⟩
set_option maxRecDepth 20000 in
theorem pX8_56 : zP RX8 56 8 8 (.object "LidForEach$Foods") true := ⟨RX8, TX8, 14, tyX8, rfl, by decide, uX8, zT_of 302 rfl rfl, tyX8_ok, nmX8, by decide +kernel, rfl, rfl⟩
set_option maxRecDepth 20000 in
theorem fX8_63 : zF RX8 63 8 9 := ⟨RX8, TX8, 14, rfl, by decide, uX8, Or.inl (zT_of 303 rfl rfl)⟩
set_option maxRecDepth 20000 in
theorem pX8_63 : zP RX8 63 8 9 (.object "LidForEach$Fraction") true := ⟨RX8, TX8, 14, tyX8, rfl, by decide, uX8, zT_of 303 rfl rfl, tyX8_ok, nmX8, by decide +kernel, rfl, rfl⟩
set_option maxRecDepth 20000 in
theorem fX8_275 : zF RX8 275 8 10 := ⟨RX8, TX8, 14, rfl, by decide, uX8, Or.inl (zT_of 304 rfl rfl)⟩
set_option maxRecDepth 20000 in
theorem pX8_275 : zP RX8 275 8 10 .int false := ⟨RX8, TX8, 14, tyX8, rfl, by decide, uX8, zT_of 304 rfl rfl, tyX8_ok, nmX8, by decide +kernel, rfl, rfl⟩
set_option maxRecDepth 20000 in
theorem fX8_279 : zF RX8 279 8 11 := ⟨RX8, TX8, 14, rfl, by decide, uX8, Or.inl (zT_of 305 rfl rfl)⟩
set_option maxRecDepth 20000 in
theorem pX8_279 : zP RX8 279 8 11 .int false := ⟨RX8, TX8, 14, tyX8, rfl, by decide, uX8, zT_of 305 rfl rfl, tyX8_ok, nmX8, by decide +kernel, rfl, rfl⟩
set_option maxRecDepth 20000 in
theorem fX8_282 : zF RX8 282 8 12 := ⟨RX8, TX8, 14, rfl, by decide, uX8, Or.inl (zT_of 306 rfl rfl)⟩
set_option maxRecDepth 20000 in
theorem pX8_282 : zP RX8 282 8 12 .int false := ⟨RX8, TX8, 14, tyX8, rfl, by decide, uX8, zT_of 306 rfl rfl, tyX8_ok, nmX8, by decide +kernel, rfl, rfl⟩
set_option maxRecDepth 20000 in
theorem fX8_285 : zF RX8 285 8 13 := ⟨RX8, TX8, 14, rfl, by decide, uX8, Or.inl (zT_of 307 rfl rfl)⟩
set_option maxRecDepth 20000 in
theorem pX8_285 : zP RX8 285 8 13 .int false := ⟨RX8, TX8, 14, tyX8, rfl, by decide, uX8, zT_of 307 rfl rfl, tyX8_ok, nmX8, by decide +kernel, rfl, rfl⟩
set_option maxRecDepth 20000 in
theorem lL_13 : zLk RL 13 yX8_box := Or.inl (zT_of 337 rfl rfl)
set_option maxRecDepth 20000 in
theorem lX8_67 : zLk RX8 67 yX1_addBox := Or.inl (zT_of 341 rfl rfl)
set_option maxRecDepth 20000 in
theorem lX1_43 : zLk RX1 43 yX1_isFormAndSize := Or.inl (zT_of 345 rfl rfl)
set_option maxRecDepth 20000 in
theorem lX1_47 : zLk RX1 47 yX8_within := Or.inr ⟨"LidForEach", zTN_of 348 rfl rfl⟩
set_option maxRecDepth 20000 in
theorem lX1_51 : zLk RX1 51 yX6_add := Or.inl (zT_of 351 rfl rfl)
set_option maxRecDepth 20000 in
theorem lX6_35 : zLk RX6 35 yX6_change := Or.inl (zT_of 355 rfl rfl)
set_option maxRecDepth 20000 in
theorem lX6_31 : zLk RX6 31 yX6_isCell := Or.inl (zT_of 359 rfl rfl)
set_option maxRecDepth 20000 in
theorem lX1_55 : zLk RX1 55 yX6_change := Or.inl (zT_of 363 rfl rfl)
set_option maxRecDepth 20000 in
theorem lX1_35 : zLk RX1 35 yX6_drop := Or.inl (zT_of 364 rfl rfl)
set_option maxRecDepth 20000 in
theorem lX8_71 : zLk RX8 71 yX8_told := Or.inl (zT_of 368 rfl rfl)
set_option maxRecDepth 20000 in
theorem lL_18 : zLk RL 18 yX8_lid := Or.inl (zT_of 372 rfl rfl)
set_option maxRecDepth 20000 in
theorem lX8_75 : zLk RX8 75 yX1_addLid := Or.inl (zT_of 376 rfl rfl)
set_option maxRecDepth 20000 in
theorem lX1_59 : zLk RX1 59 yX1_isKind := Or.inl (zT_of 380 rfl rfl)
set_option maxRecDepth 20000 in
theorem lL_22 : zLk RL 22 yX8_put := Or.inl (zT_of 383 rfl rfl)
set_option maxRecDepth 20000 in
theorem lX8_78 : zLk RX8 78 yX1_putOn := Or.inl (zT_of 387 rfl rfl)
set_option maxRecDepth 20000 in
theorem lX1_63 : zLk RX1 63 yX6_contains := Or.inl (zT_of 391 rfl rfl)
set_option maxRecDepth 20000 in
theorem lX1_66 : zLk RX1 66 yX1_rowFits := Or.inl (zT_of 395 rfl rfl)
set_option maxRecDepth 20000 in
theorem lX1_74 : zLk RX1 74 yX6_at := Or.inl (zT_of 399 rfl rfl)
set_option maxRecDepth 20000 in
theorem lX1_70 : zLk RX1 70 yX1_boxUnder := Or.inl (zT_of 403 rfl rfl)
set_option maxRecDepth 20000 in
theorem lX1_81 : zLk RX1 81 yX6_size := Or.inl (zT_of 407 rfl rfl)
set_option maxRecDepth 20000 in
theorem lX1_78 : zLk RX1 78 yX1_remember := Or.inl (zT_of 411 rfl rfl)
set_option maxRecDepth 20000 in
theorem lX1_84 : zLk RX1 84 yX6_dropFirst := Or.inl (zT_of 415 rfl rfl)
set_option maxRecDepth 20000 in
theorem lX6_39 : Cond.methodLink RX6 39 arraycopyName ∈ zT := zT_of 419 rfl rfl
set_option maxRecDepth 20000 in
theorem w_native : Cond.native arraycopyName ∈ zT := zT_of 421 rfl rfl
set_option maxRecDepth 20000 in
theorem lL_27 : zLk RL 27 yX8_off := Or.inl (zT_of 422 rfl rfl)
set_option maxRecDepth 20000 in
theorem lX8_82 : zLk RX8 82 yX1_takeOff := Or.inl (zT_of 426 rfl rfl)
set_option maxRecDepth 20000 in
theorem lL_32 : zLk RL 32 yX8_undo := Or.inl (zT_of 430 rfl rfl)
set_option maxRecDepth 20000 in
theorem lX8_85 : zLk RX8 85 yX1_stepBack := Or.inl (zT_of 434 rfl rfl)
set_option maxRecDepth 20000 in
theorem lX1_87 : zLk RX1 87 yX6_dropLast := Or.inl (zT_of 438 rfl rfl)
set_option maxRecDepth 20000 in
theorem lL_37 : zLk RL 37 yX8_on := Or.inl (zT_of 442 rfl rfl)
set_option maxRecDepth 20000 in
theorem lX8_93 : zLk RX8 93 yX6_contains := Or.inl (zT_of 446 rfl rfl)
set_option maxRecDepth 20000 in
theorem lX8_99 : zLk RX8 99 yX6_at := Or.inl (zT_of 447 rfl rfl)
set_option maxRecDepth 20000 in
theorem lX8_102 : zLk RX8 102 yX8_badToldApart := Or.inl (zT_of 448 rfl rfl)
set_option maxRecDepth 20000 in
theorem lL_41 : zLk RL 41 yX8_grasp := Or.inl (zT_of 452 rfl rfl)
set_option maxRecDepth 20000 in
theorem lX8_105 : zLk RX8 105 yX1_changeGrasps := Or.inl (zT_of 456 rfl rfl)
set_option maxRecDepth 20000 in
theorem lL_45 : zLk RL 45 yX8_sort := Or.inl (zT_of 460 rfl rfl)
set_option maxRecDepth 20000 in
theorem lX8_108 : zLk RX8 108 yX1_addSort := Or.inl (zT_of 464 rfl rfl)
set_option maxRecDepth 20000 in
theorem lL_50 : zLk RL 50 yX8_eye := Or.inl (zT_of 468 rfl rfl)
set_option maxRecDepth 20000 in
theorem lX8_112 : zLk RX8 112 yX1_changeChance := Or.inl (zT_of 472 rfl rfl)
set_option maxRecDepth 20000 in
theorem lL_54 : zLk RL 54 yX8_type := Or.inl (zT_of 476 rfl rfl)
set_option maxRecDepth 20000 in
theorem lX8_115 : zLk RX8 115 yX7_append := Or.inl (zT_of 480 rfl rfl)
set_option maxRecDepth 20000 in
theorem lX7_23 : zLk RX7 23 yX8_within := Or.inr ⟨"LidForEach", zTN_of 484 rfl rfl⟩
set_option maxRecDepth 20000 in
theorem lL_58 : zLk RL 58 yX8_clear := Or.inl (zT_of 485 rfl rfl)
set_option maxRecDepth 20000 in
theorem lX8_118 : zLk RX8 118 yX7_drop := Or.inl (zT_of 489 rfl rfl)
set_option maxRecDepth 20000 in
theorem lL_62 : zLk RL 62 yX8_read := Or.inl (zT_of 493 rfl rfl)
set_option maxRecDepth 20000 in
theorem lX8_121 : zLk RX8 121 yX1_empty := Or.inl (zT_of 497 rfl rfl)
set_option maxRecDepth 20000 in
theorem lX8_124 : zLk RX8 124 yX7_rewind := Or.inl (zT_of 501 rfl rfl)
set_option maxRecDepth 20000 in
theorem lX8_127 : zLk RX8 127 yX7_advance := Or.inl (zT_of 505 rfl rfl)
set_option maxRecDepth 20000 in
theorem lX7_49 : zLk RX7 49 yX7_byteAt := Or.inl (zT_of 509 rfl rfl)
set_option maxRecDepth 20000 in
theorem lX7_52 : zLk RX7 52 yX7_isLetter := Or.inl (zT_of 513 rfl rfl)
set_option maxRecDepth 20000 in
theorem lX7_56 : zLk RX7 56 yX7_advanceOverWord := Or.inl (zT_of 516 rfl rfl)
set_option maxRecDepth 20000 in
theorem lX7_65 : zLk RX7 65 yX7_wordNumber := Or.inl (zT_of 520 rfl rfl)
set_option maxRecDepth 20000 in
theorem lX7_69 : zLk RX7 69 yX7_nameOf := Or.inl (zT_of 524 rfl rfl)
set_option maxRecDepth 20000 in
theorem lX7_73 : zLk RX7 73 yX7_spells := Or.inl (zT_of 532 rfl rfl)
set_option maxRecDepth 20000 in
theorem lX7_87 : zLk RX7 87 yJ0_length_8abf5 := Or.inl (zT_of 536 rfl rfl)
set_option maxRecDepth 20000 in
theorem lJ0_335 : zLk RJ0 335 yJ0_coder_7d493 := Or.inl (zT_of 540 rfl rfl)
set_option maxRecDepth 20000 in
theorem lX7_91 : zLk RX7 91 yJ0_charAt_5068e := Or.inl (zT_of 546 rfl rfl)
set_option maxRecDepth 20000 in
theorem lJ0_492 : zLk RJ0 492 yJ0_isLatin1_aae02 := Or.inl (zT_of 550 rfl rfl)
set_option maxRecDepth 20000 in
theorem lJ0_495 : zLk RJ0 495 yJ1_charAt_3b067 := Or.inl (zT_of 554 rfl rfl)
set_option maxRecDepth 20000 in
theorem lJ1_9 : zLk RJ1 9 yJ0_checkIndex_df160 := Or.inl (zT_of 557 rfl rfl)
set_option maxRecDepth 20000 in
theorem lJ0_1059 : zLk RJ0 1059 yJ3_checkIndex_8e157 := Or.inl (zT_of 562 rfl rfl)
set_option maxRecDepth 20000 in
theorem lJ0_498 : zLk RJ0 498 yJ2_charAt_3b067 := Or.inl (zT_of 565 rfl rfl)
set_option maxRecDepth 20000 in
theorem lJ2_67 : zLk RJ2 67 yJ2_checkIndex_2214a := Or.inl (zT_of 568 rfl rfl)
set_option maxRecDepth 20000 in
theorem lJ2_48 : zLk RJ2 48 yJ2_length_9d52b := Or.inl (zT_of 571 rfl rfl)
set_option maxRecDepth 20000 in
theorem lJ2_414 : zLk RJ2 414 yJ0_checkIndex_df160 := Or.inl (zT_of 574 rfl rfl)
set_option maxRecDepth 20000 in
theorem lJ2_71 : zLk RJ2 71 yJ2_getChar_3b067 := Or.inl (zT_of 575 rfl rfl)
set_option maxRecDepth 20000 in
theorem lX7_59 : zLk RX7 59 yX7_isFigure := Or.inl (zT_of 584 rfl rfl)
set_option maxRecDepth 20000 in
theorem lX7_62 : zLk RX7 62 yX7_advanceOverNumber := Or.inl (zT_of 587 rfl rfl)
set_option maxRecDepth 20000 in
theorem lX8_130 : zLk RX8 130 yX7_isAtEnd := Or.inl (zT_of 591 rfl rfl)
set_option maxRecDepth 20000 in
theorem lX8_134 : zLk RX8 134 yX7_takeItem := Or.inl (zT_of 595 rfl rfl)
set_option maxRecDepth 20000 in
theorem lX7_42 : zLk RX7 42 yX7_numbersDue := Or.inl (zT_of 599 rfl rfl)
set_option maxRecDepth 20000 in
theorem lX7_46 : zLk RX7 46 yX7_advance := Or.inl (zT_of 602 rfl rfl)
set_option maxRecDepth 20000 in
theorem lX8_137 : zLk RX8 137 yX7_place := Or.inl (zT_of 603 rfl rfl)
set_option maxRecDepth 20000 in
theorem lX8_140 : zLk RX8 140 yX8_tellItem := Or.inl (zT_of 607 rfl rfl)
set_option maxRecDepth 20000 in
theorem lX8_306 : zLk RX8 306 yX7_numberAt := Or.inl (zT_of 611 rfl rfl)
set_option maxRecDepth 20000 in
theorem lX8_309 : zLk RX8 309 yX7_word := Or.inl (zT_of 615 rfl rfl)
set_option maxRecDepth 20000 in
theorem lX8_144 : zLk RX8 144 yX1_become := Or.inl (zT_of 619 rfl rfl)
set_option maxRecDepth 20000 in
theorem lX1_39 : zLk RX1 39 yX6_become := Or.inl (zT_of 623 rfl rfl)
set_option maxRecDepth 20000 in
theorem lL_66 : zLk RL 66 yX8_fits := Or.inl (zT_of 627 rfl rfl)
set_option maxRecDepth 20000 in
theorem lX8_148 : zLk RX8 148 yX1_lidsFor := Or.inl (zT_of 631 rfl rfl)
set_option maxRecDepth 20000 in
theorem lL_70 : zLk RL 70 yX8_most := Or.inl (zT_of 635 rfl rfl)
set_option maxRecDepth 20000 in
theorem lX8_151 : zLk RX8 151 yX8_pairLids := Or.inl (zT_of 639 rfl rfl)
set_option maxRecDepth 20000 in
theorem lX8_181 : zLk RX8 181 yX6_size := Or.inl (zT_of 643 rfl rfl)
set_option maxRecDepth 20000 in
theorem lX8_184 : zLk RX8 184 yX4_begin := Or.inl (zT_of 644 rfl rfl)
set_option maxRecDepth 20000 in
theorem lX4_25 : Cond.methodLink RX4 25 Lib.Math.min.name ∈ zT := zT_of 648 rfl rfl
set_option maxRecDepth 20000 in
theorem lX4_31 : Cond.methodLink RX4 31 Lib.Math.max.name ∈ zT := zT_of 651 rfl rfl
set_option maxRecDepth 20000 in
theorem lX8_191 : zLk RX8 191 yX4_addRow := Or.inl (zT_of 652 rfl rfl)
set_option maxRecDepth 20000 in
theorem lX8_195 : zLk RX8 195 yX4_solve := Or.inl (zT_of 656 rfl rfl)
set_option maxRecDepth 20000 in
theorem lX4_37 : zLk RX4 37 yX4_bestOf := Or.inl (zT_of 660 rfl rfl)
set_option maxRecDepth 20000 in
theorem lX4_40 : zLk RX4 40 yX4_bestFrom := Or.inl (zT_of 664 rfl rfl)
set_option maxRecDepth 20000 in
theorem lX4_47 : zLk RX4 47 yX8_within := Or.inr ⟨"LidForEach", zTN_of 668 rfl rfl⟩
set_option maxRecDepth 20000 in
theorem lX4_43 : zLk RX4 43 yX4_bestWith := Or.inl (zT_of 669 rfl rfl)
set_option maxRecDepth 20000 in
theorem lX8_155 : zLk RX8 155 yX4_bestWithout := Or.inl (zT_of 673 rfl rfl)
set_option maxRecDepth 20000 in
theorem lX8_158 : zLk RX8 158 yX4_partner := Or.inl (zT_of 677 rfl rfl)
set_option maxRecDepth 20000 in
theorem lX4_51 : zLk RX4 51 yX4_leastColumn := Or.inl (zT_of 681 rfl rfl)
set_option maxRecDepth 20000 in
theorem lL_74 : zLk RL 74 yX8_lacking := Or.inl (zT_of 685 rfl rfl)
set_option maxRecDepth 20000 in
theorem lX8_161 : zLk RX8 161 yX0_lookAt := Or.inl (zT_of 689 rfl rfl)
set_option maxRecDepth 20000 in
theorem lX0_25 : zLk RX0 25 yX6_size := Or.inl (zT_of 693 rfl rfl)
set_option maxRecDepth 20000 in
theorem lX0_31 : Cond.methodLink RX0 31 Lib.Math.min.name ∈ zT := zT_of 694 rfl rfl
set_option maxRecDepth 20000 in
theorem lX0_41 : zLk RX0 41 yX1_lidsFor := Or.inl (zT_of 695 rfl rfl)
set_option maxRecDepth 20000 in
theorem lX0_45 : zLk RX0 45 yX0_lackOf := Or.inl (zT_of 696 rfl rfl)
set_option maxRecDepth 20000 in
theorem lX0_52 : zLk RX0 52 yX8_within := Or.inr ⟨"LidForEach", zTN_of 700 rfl rfl⟩
set_option maxRecDepth 20000 in
theorem lX0_56 : zLk RX0 56 yJ6_bitCount_0f7a4 := Or.inl (zT_of 701 rfl rfl)
set_option maxRecDepth 20000 in
theorem qJ6_265 : Cond.constant RJ6 265 (1431655765) ∈ zT := zT_of 704 rfl rfl
set_option maxRecDepth 20000 in
theorem qJ6_266 : Cond.constant RJ6 266 (858993459) ∈ zT := zT_of 705 rfl rfl
set_option maxRecDepth 20000 in
theorem qJ6_267 : Cond.constant RJ6 267 (252645135) ∈ zT := zT_of 706 rfl rfl
set_option maxRecDepth 20000 in
theorem lX0_48 : zLk RX0 48 yX0_areLiddedWithoutOne := Or.inl (zT_of 707 rfl rfl)
set_option maxRecDepth 20000 in
theorem lX8_164 : zLk RX8 164 yX0_shortest := Or.inl (zT_of 711 rfl rfl)
set_option maxRecDepth 20000 in
theorem lL_78 : zLk RL 78 yX8_soup := Or.inl (zT_of 715 rfl rfl)
set_option maxRecDepth 20000 in
theorem lX8_167 : zLk RX8 167 yX8_within := Or.inl (zT_of 719 rfl rfl)
set_option maxRecDepth 20000 in
theorem lX8_171 : zLk RX8 171 yX0_leastFor := Or.inl (zT_of 720 rfl rfl)
set_option maxRecDepth 20000 in
theorem qX0_61 : Cond.constant RX0 61 (1073741824) ∈ zT := zT_of 724 rfl rfl
set_option maxRecDepth 20000 in
theorem lX0_62 : zLk RX0 62 yX1_sumOver := Or.inl (zT_of 725 rfl rfl)
set_option maxRecDepth 20000 in
theorem lX8_175 : zLk RX8 175 yX1_sumOver := Or.inl (zT_of 729 rfl rfl)
set_option maxRecDepth 20000 in
theorem lL_82 : zLk RL 82 yX8_much := Or.inl (zT_of 730 rfl rfl)
set_option maxRecDepth 20000 in
theorem lL_86 : zLk RL 86 yX8_worth := Or.inl (zT_of 734 rfl rfl)
set_option maxRecDepth 20000 in
theorem lL_90 : zLk RL 90 yX8_spare := Or.inl (zT_of 738 rfl rfl)
set_option maxRecDepth 20000 in
theorem lL_94 : zLk RL 94 yX8_piles := Or.inl (zT_of 742 rfl rfl)
set_option maxRecDepth 20000 in
theorem lX8_188 : zLk RX8 188 yX1_boxesAround := Or.inl (zT_of 746 rfl rfl)
set_option maxRecDepth 20000 in
theorem lX1_90 : zLk RX1 90 yX1_goesInto := Or.inl (zT_of 750 rfl rfl)
set_option maxRecDepth 20000 in
theorem lL_98 : zLk RL 98 yX8_shelf := Or.inl (zT_of 754 rfl rfl)
set_option maxRecDepth 20000 in
theorem lX8_198 : zLk RX8 198 yX5_begin := Or.inl (zT_of 758 rfl rfl)
set_option maxRecDepth 20000 in
theorem lX8_200 : zLk RX8 200 yX5_add := Or.inl (zT_of 762 rfl rfl)
set_option maxRecDepth 20000 in
theorem lX8_203 : zLk RX8 203 yX8_shelfCost := Or.inl (zT_of 766 rfl rfl)
set_option maxRecDepth 20000 in
theorem lX8_206 : zLk RX8 206 yX5_itemAt := Or.inl (zT_of 770 rfl rfl)
set_option maxRecDepth 20000 in
theorem lX5_19 : zLk RX5 19 yX5_placeOf := Or.inl (zT_of 774 rfl rfl)
set_option maxRecDepth 20000 in
theorem lL_102 : zLk RL 102 yX8_buy := Or.inl (zT_of 778 rfl rfl)
set_option maxRecDepth 20000 in
theorem lX8_212 : zLk RX8 212 yX8_leastPurchase := Or.inl (zT_of 782 rfl rfl)
set_option maxRecDepth 20000 in
theorem lX8_312 : zLk RX8 312 yX1_purchaseFor := Or.inl (zT_of 786 rfl rfl)
set_option maxRecDepth 20000 in
theorem qX1_93 : Cond.constant RX1 93 (67108864) ∈ zT := zT_of 790 rfl rfl
set_option maxRecDepth 20000 in
theorem lX1_94 : zLk RX1 94 yX8_sortShift := Or.inr ⟨"LidForEach", zTN_of 791 rfl rfl⟩
set_option maxRecDepth 20000 in
theorem lX1_97 : Cond.methodLink RX1 97 Lib.Math.min.name ∈ zT := zT_of 794 rfl rfl
set_option maxRecDepth 20000 in
theorem qX8_215 : Cond.constant RX8 215 (67108864) ∈ zT := zT_of 795 rfl rfl
set_option maxRecDepth 20000 in
theorem lX8_216 : zLk RX8 216 yX8_sortShift := Or.inl (zT_of 796 rfl rfl)
set_option maxRecDepth 20000 in
theorem lL_106 : zLk RL 106 yX8_tries := Or.inl (zT_of 797 rfl rfl)
set_option maxRecDepth 20000 in
theorem lX8_219 : zLk RX8 219 yX8_rankTries := Or.inl (zT_of 801 rfl rfl)
set_option maxRecDepth 20000 in
theorem lX8_315 : zLk RX8 315 yX1_firstSureLid := Or.inl (zT_of 805 rfl rfl)
set_option maxRecDepth 20000 in
theorem lX8_222 : zLk RX8 222 yX8_meanOfTries := Or.inl (zT_of 809 rfl rfl)
set_option maxRecDepth 20000 in
theorem qX8_318 : Cond.constantLong RX8 318 (10) ∈ zT := zT_of 813 rfl rfl
set_option maxRecDepth 20000 in
theorem lX8_320 : zLk RX8 320 yX3_become := Or.inl (zT_of 814 rfl rfl)
set_option maxRecDepth 20000 in
theorem lX3_13 : zLk RX3 13 yX3_greatestDivisor := Or.inl (zT_of 818 rfl rfl)
set_option maxRecDepth 20000 in
theorem lL_110 : zLk RL 110 yX8_nuts := Or.inl (zT_of 821 rfl rfl)
set_option maxRecDepth 20000 in
theorem lX8_225 : zLk RX8 225 yX8_factorial := Or.inl (zT_of 825 rfl rfl)
set_option maxRecDepth 20000 in
theorem lX8_228 : zLk RX8 228 yX8_meanOfNuts := Or.inl (zT_of 828 rfl rfl)
set_option maxRecDepth 20000 in
theorem lL_114 : zLk RL 114 yX8_lend := Or.inl (zT_of 832 rfl rfl)
set_option maxRecDepth 20000 in
theorem lX8_231 : zLk RX8 231 yX1_addTale := Or.inl (zT_of 836 rfl rfl)
set_option maxRecDepth 20000 in
theorem lL_118 : zLk RL 118 yX8_has := Or.inl (zT_of 840 rfl rfl)
set_option maxRecDepth 20000 in
theorem lX8_237 : zLk RX8 237 yX1_holderAfter := Or.inl (zT_of 844 rfl rfl)
set_option maxRecDepth 20000 in
theorem lL_122 : zLk RL 122 yX8_wrong := Or.inl (zT_of 848 rfl rfl)
set_option maxRecDepth 20000 in
theorem lX8_240 : zLk RX8 240 yX1_firstWrongTale := Or.inl (zT_of 852 rfl rfl)
set_option maxRecDepth 20000 in
theorem lX1_102 : zLk RX1 102 yX1_holderAfter := Or.inl (zT_of 856 rfl rfl)
set_option maxRecDepth 20000 in
theorem lL_126 : zLk RL 126 yX8_hint := Or.inl (zT_of 857 rfl rfl)
set_option maxRecDepth 20000 in
theorem lX8_243 : zLk RX8 243 yX1_addHint := Or.inl (zT_of 861 rfl rfl)
set_option maxRecDepth 20000 in
theorem lL_130 : zLk RL 130 yX8_forget := Or.inl (zT_of 865 rfl rfl)
set_option maxRecDepth 20000 in
theorem lX8_246 : zLk RX8 246 yX6_drop := Or.inl (zT_of 869 rfl rfl)
set_option maxRecDepth 20000 in
theorem lL_134 : zLk RL 134 yX8_labels := Or.inl (zT_of 870 rfl rfl)
set_option maxRecDepth 20000 in
theorem lX8_250 : zLk RX8 250 yX2_lookAt := Or.inl (zT_of 874 rfl rfl)
set_option maxRecDepth 20000 in
theorem lX2_39 : zLk RX2 39 yX6_size := Or.inl (zT_of 878 rfl rfl)
set_option maxRecDepth 20000 in
theorem lX2_45 : Cond.methodLink RX2 45 Lib.Math.min.name ∈ zT := zT_of 879 rfl rfl
set_option maxRecDepth 20000 in
theorem lX2_54 : zLk RX2 54 yX6_at := Or.inl (zT_of 880 rfl rfl)
set_option maxRecDepth 20000 in
theorem lX2_60 : zLk RX2 60 yX2_heed := Or.inl (zT_of 881 rfl rfl)
set_option maxRecDepth 20000 in
theorem lX2_77 : zLk RX2 77 yX8_within := Or.inr ⟨"LidForEach", zTN_of 885 rfl rfl⟩
set_option maxRecDepth 20000 in
theorem lX2_64 : zLk RX2 64 yJ7_fill_53178 := Or.inl (zT_of 886 rfl rfl)
set_option maxRecDepth 20000 in
theorem lX2_70 : zLk RX2 70 yX2_waysFrom := Or.inl (zT_of 889 rfl rfl)
set_option maxRecDepth 20000 in
theorem lX2_81 : zLk RX2 81 yX2_mayBeIn := Or.inl (zT_of 892 rfl rfl)
set_option maxRecDepth 20000 in
theorem lX2_84 : zLk RX2 84 yX2_agreesBySize := Or.inl (zT_of 896 rfl rfl)
set_option maxRecDepth 20000 in
theorem lX2_87 : zLk RX2 87 yX2_sizeAt := Or.inl (zT_of 900 rfl rfl)
set_option maxRecDepth 20000 in
theorem lX8_251 : zLk RX8 251 yX2_allWays := Or.inl (zT_of 904 rfl rfl)
set_option maxRecDepth 20000 in
theorem lX8_254 : zLk RX8 254 yX2_boxesOf := Or.inl (zT_of 908 rfl rfl)
set_option maxRecDepth 20000 in
theorem lX2_91 : zLk RX2 91 yX2_waysWith := Or.inl (zT_of 912 rfl rfl)
set_option maxRecDepth 20000 in
theorem lX8_257 : zLk RX8 257 yX2_boxToOpen := Or.inl (zT_of 916 rfl rfl)
set_option maxRecDepth 20000 in
theorem qX2_94 : Cond.constant RX2 94 (1073741824) ∈ zT := zT_of 920 rfl rfl
set_option maxRecDepth 20000 in
theorem lX2_95 : zLk RX2 95 yX2_worstBehind := Or.inl (zT_of 921 rfl rfl)
set_option maxRecDepth 20000 in
theorem lX2_98 : Cond.methodLink RX2 98 Lib.Math.max.name ∈ zT := zT_of 925 rfl rfl
set_option maxRecDepth 20000 in
theorem lL_138 : zLk RL 138 yX8_evening := Or.inl (zT_of 926 rfl rfl)
set_option maxRecDepth 20000 in
theorem qX8_260 : Cond.constant RX8 260 (999999) ∈ zT := zT_of 930 rfl rfl
set_option maxRecDepth 20000 in
theorem lX8_261 : zLk RX8 261 yX1_openAfter := Or.inl (zT_of 931 rfl rfl)
set_option maxRecDepth 20000 in
theorem qX1_105 : Cond.constantLong RX1 105 (1103515245) ∈ zT := zT_of 935 rfl rfl
set_option maxRecDepth 20000 in
theorem qX1_107 : Cond.constantLong RX1 107 (12345) ∈ zT := zT_of 936 rfl rfl
set_option maxRecDepth 20000 in
theorem qX1_109 : Cond.constantLong RX1 109 (2147483648) ∈ zT := zT_of 937 rfl rfl
set_option maxRecDepth 20000 in
theorem qX1_111 : Cond.constantLong RX1 111 (65536) ∈ zT := zT_of 938 rfl rfl
set_option maxRecDepth 20000 in
theorem lX1_113 : zLk RX1 113 yX1_lidsFor := Or.inl (zT_of 939 rfl rfl)
set_option maxRecDepth 20000 in
theorem lX1_116 : zLk RX1 116 yJ6_lowestOneBit_0f7a4 := Or.inl (zT_of 940 rfl rfl)
set_option maxRecDepth 20000 in
theorem lL_142 : zLk RL 142 yX8_part := Or.inl (zT_of 943 rfl rfl)
set_option maxRecDepth 20000 in
theorem lL_147 : zLk RL 147 yX8_image := Or.inl (zT_of 947 rfl rfl)
set_option maxRecDepth 20000 in
theorem lX8_271 : zLk RX8 271 yX8_imageAt := Or.inl (zT_of 951 rfl rfl)
set_option maxRecDepth 20000 in
theorem lL_151 : zLk RL 151 yX8_from := Or.inl (zT_of 955 rfl rfl)
set_option maxRecDepth 20000 in
theorem lL_155 : zLk RL 155 yX8_status := Or.inl (zT_of 959 rfl rfl)
set_option maxRecDepth 20000 in
theorem lL_159 : zLk RL 159 yX8_count := Or.inl (zT_of 963 rfl rfl)
set_option maxRecDepth 20000 in
theorem lX8_288 : zLk RX8 288 yX8_howMany := Or.inl (zT_of 967 rfl rfl)
set_option maxRecDepth 20000 in
theorem lX8_299 : zLk RX8 299 yX1_lidsInUse := Or.inl (zT_of 971 rfl rfl)
set_option maxRecDepth 20000 in
theorem lX8_305 : zLk RX8 305 yX7_size := Or.inl (zT_of 975 rfl rfl)
set_option maxRecDepth 20000 in
theorem lL_163 : zLk RL 163 yX8_digest := Or.inl (zT_of 979 rfl rfl)
set_option maxRecDepth 20000 in
theorem qX8_291 : Cond.constantLong RX8 291 (857) ∈ zT := zT_of 983 rfl rfl
set_option maxRecDepth 20000 in
theorem qX8_293 : Cond.constantLong RX8 293 (31) ∈ zT := zT_of 984 rfl rfl
set_option maxRecDepth 20000 in
theorem lX8_295 : zLk RX8 295 yX6_mixedInto := Or.inl (zT_of 985 rfl rfl)
set_option maxRecDepth 20000 in
theorem qX6_45 : Cond.constantLong RX6 45 (31) ∈ zT := zT_of 989 rfl rfl
set_option maxRecDepth 20000 in
theorem lX6_47 : zLk RX6 47 yX6_at := Or.inl (zT_of 990 rfl rfl)
set_option maxRecDepth 20000 in
theorem nL_10 : zNew RL 10 9 24 [.long 0, .long 0, .null, .int 0, .null, .null, .null, .int 0, .int 0, .int 0, .int 0, .int 0, .int 0, .int 0, .null, .null, .null, .null, .null, .null, .null, .null, .null, .null] := ⟨RX9, TX9, tyX9, rfl, uX9, tyX9_ok, zT_of 991 rfl rfl, zT_of 992 rfl rfl, zT_of 88 rfl rfl, by decide +kernel, fun _ => rfl⟩
set_option maxRecDepth 20000 in
theorem lL_12 : zLk RL 12 yX9_init := Or.inl (zT_of 993 rfl rfl)
set_option maxRecDepth 20000 in
theorem lX9_1 : Cond.methodLink RX9 1 Lib.objectInit ∈ zT := zT_of 996 rfl rfl
set_option maxRecDepth 20000 in
theorem fX9_210 : zF RX9 210 9 0 := ⟨RX9, TX9, 24, rfl, by decide, uX9, Or.inl (zT_of 997 rfl rfl)⟩
set_option maxRecDepth 20000 in
theorem pX9_210 : zP RX9 210 9 0 .long false := ⟨RX9, TX9, 24, tyX9, rfl, by decide, uX9, zT_of 997 rfl rfl, tyX9_ok, nmX9, by decide +kernel, rfl, rfl⟩
set_option maxRecDepth 20000 in
theorem fX9_54 : zF RX9 54 9 1 := ⟨RX9, TX9, 24, rfl, by decide, uX9, Or.inl (zT_of 998 rfl rfl)⟩
set_option maxRecDepth 20000 in
theorem pX9_54 : zP RX9 54 9 1 .long false := ⟨RX9, TX9, 24, tyX9, rfl, by decide, uX9, zT_of 998 rfl rfl, tyX9_ok, nmX9, by decide +kernel, rfl, rfl⟩
set_option maxRecDepth 20000 in
theorem fX9_7 : zF RX9 7 9 2 := ⟨RX9, TX9, 24, rfl, by decide, uX9, Or.inl (zT_of 999 rfl rfl)⟩
set_option maxRecDepth 20000 in
theorem pX9_7 : zP RX9 7 9 2 (.array .int) true := ⟨RX9, TX9, 24, tyX9, rfl, by decide, uX9, zT_of 999 rfl rfl, tyX9_ok, nmX9, by decide +kernel, rfl, rfl⟩
set_option maxRecDepth 20000 in
theorem fX9_58 : zF RX9 58 9 3 := ⟨RX9, TX9, 24, rfl, by decide, uX9, Or.inl (zT_of 1000 rfl rfl)⟩
set_option maxRecDepth 20000 in
theorem pX9_58 : zP RX9 58 9 3 .int false := ⟨RX9, TX9, 24, tyX9, rfl, by decide, uX9, zT_of 1000 rfl rfl, tyX9_ok, nmX9, by decide +kernel, rfl, rfl⟩
set_option maxRecDepth 20000 in
theorem fX9_13 : zF RX9 13 9 4 := ⟨RX9, TX9, 24, rfl, by decide, uX9, Or.inl (zT_of 1001 rfl rfl)⟩
set_option maxRecDepth 20000 in
theorem pX9_13 : zP RX9 13 9 4 (.array .boolean) true := ⟨RX9, TX9, 24, tyX9, rfl, by decide, uX9, zT_of 1001 rfl rfl, tyX9_ok, nmX9, by decide +kernel, rfl, rfl⟩
set_option maxRecDepth 20000 in
theorem fX9_17 : zF RX9 17 9 5 := ⟨RX9, TX9, 24, rfl, by decide, uX9, Or.inl (zT_of 1002 rfl rfl)⟩
set_option maxRecDepth 20000 in
theorem pX9_17 : zP RX9 17 9 5 (.array .int) true := ⟨RX9, TX9, 24, tyX9, rfl, by decide, uX9, zT_of 1002 rfl rfl, tyX9_ok, nmX9, by decide +kernel, rfl, rfl⟩
set_option maxRecDepth 20000 in
theorem fX9_20 : zF RX9 20 9 6 := ⟨RX9, TX9, 24, rfl, by decide, uX9, Or.inl (zT_of 1003 rfl rfl)⟩
set_option maxRecDepth 20000 in
theorem pX9_20 : zP RX9 20 9 6 (.array .byte) true := ⟨RX9, TX9, 24, tyX9, rfl, by decide, uX9, zT_of 1003 rfl rfl, tyX9_ok, nmX9, by decide +kernel, rfl, rfl⟩
set_option maxRecDepth 20000 in
theorem fX9_129 : zF RX9 129 9 7 := ⟨RX9, TX9, 24, rfl, by decide, uX9, Or.inl (zT_of 1004 rfl rfl)⟩
set_option maxRecDepth 20000 in
theorem pX9_129 : zP RX9 129 9 7 .int false := ⟨RX9, TX9, 24, tyX9, rfl, by decide, uX9, zT_of 1004 rfl rfl, tyX9_ok, nmX9, by decide +kernel, rfl, rfl⟩
set_option maxRecDepth 20000 in
theorem fX9_132 : zF RX9 132 9 8 := ⟨RX9, TX9, 24, rfl, by decide, uX9, Or.inl (zT_of 1005 rfl rfl)⟩
set_option maxRecDepth 20000 in
theorem pX9_132 : zP RX9 132 9 8 .int false := ⟨RX9, TX9, 24, tyX9, rfl, by decide, uX9, zT_of 1005 rfl rfl, tyX9_ok, nmX9, by decide +kernel, rfl, rfl⟩
set_option maxRecDepth 20000 in
theorem fX9_138 : zF RX9 138 9 9 := ⟨RX9, TX9, 24, rfl, by decide, uX9, Or.inl (zT_of 1006 rfl rfl)⟩
set_option maxRecDepth 20000 in
theorem pX9_138 : zP RX9 138 9 9 .int false := ⟨RX9, TX9, 24, tyX9, rfl, by decide, uX9, zT_of 1006 rfl rfl, tyX9_ok, nmX9, by decide +kernel, rfl, rfl⟩
set_option maxRecDepth 20000 in
theorem fX9_144 : zF RX9 144 9 10 := ⟨RX9, TX9, 24, rfl, by decide, uX9, Or.inl (zT_of 1007 rfl rfl)⟩
set_option maxRecDepth 20000 in
theorem pX9_144 : zP RX9 144 9 10 .int false := ⟨RX9, TX9, 24, tyX9, rfl, by decide, uX9, zT_of 1007 rfl rfl, tyX9_ok, nmX9, by decide +kernel, rfl, rfl⟩
set_option maxRecDepth 20000 in
theorem fX9_141 : zF RX9 141 9 11 := ⟨RX9, TX9, 24, rfl, by decide, uX9, Or.inl (zT_of 1008 rfl rfl)⟩
set_option maxRecDepth 20000 in
theorem pX9_141 : zP RX9 141 9 11 .int false := ⟨RX9, TX9, 24, tyX9, rfl, by decide, uX9, zT_of 1008 rfl rfl, tyX9_ok, nmX9, by decide +kernel, rfl, rfl⟩
set_option maxRecDepth 20000 in
theorem fX9_150 : zF RX9 150 9 12 := ⟨RX9, TX9, 24, rfl, by decide, uX9, Or.inl (zT_of 1009 rfl rfl)⟩
set_option maxRecDepth 20000 in
theorem pX9_150 : zP RX9 150 9 12 .int false := ⟨RX9, TX9, 24, tyX9, rfl, by decide, uX9, zT_of 1009 rfl rfl, tyX9_ok, nmX9, by decide +kernel, rfl, rfl⟩
set_option maxRecDepth 20000 in
theorem fX9_156 : zF RX9 156 9 13 := ⟨RX9, TX9, 24, rfl, by decide, uX9, Or.inl (zT_of 1010 rfl rfl)⟩
set_option maxRecDepth 20000 in
theorem pX9_156 : zP RX9 156 9 13 .int false := ⟨RX9, TX9, 24, tyX9, rfl, by decide, uX9, zT_of 1010 rfl rfl, tyX9_ok, nmX9, by decide +kernel, rfl, rfl⟩
set_option maxRecDepth 20000 in
theorem fX9_24 : zF RX9 24 9 14 := ⟨RX9, TX9, 24, rfl, by decide, uX9, Or.inl (zT_of 1011 rfl rfl)⟩
set_option maxRecDepth 20000 in
theorem pX9_24 : zP RX9 24 9 14 (.array .int) true := ⟨RX9, TX9, 24, tyX9, rfl, by decide, uX9, zT_of 1011 rfl rfl, tyX9_ok, nmX9, by decide +kernel, rfl, rfl⟩
set_option maxRecDepth 20000 in
theorem fX9_27 : zF RX9 27 9 15 := ⟨RX9, TX9, 24, rfl, by decide, uX9, Or.inl (zT_of 1012 rfl rfl)⟩
set_option maxRecDepth 20000 in
theorem pX9_27 : zP RX9 27 9 15 (.array .int) true := ⟨RX9, TX9, 24, tyX9, rfl, by decide, uX9, zT_of 1012 rfl rfl, tyX9_ok, nmX9, by decide +kernel, rfl, rfl⟩
set_option maxRecDepth 20000 in
theorem fX9_30 : zF RX9 30 9 16 := ⟨RX9, TX9, 24, rfl, by decide, uX9, Or.inl (zT_of 1013 rfl rfl)⟩
set_option maxRecDepth 20000 in
theorem pX9_30 : zP RX9 30 9 16 (.array .int) true := ⟨RX9, TX9, 24, tyX9, rfl, by decide, uX9, zT_of 1013 rfl rfl, tyX9_ok, nmX9, by decide +kernel, rfl, rfl⟩
set_option maxRecDepth 20000 in
theorem fX9_33 : zF RX9 33 9 17 := ⟨RX9, TX9, 24, rfl, by decide, uX9, Or.inl (zT_of 1014 rfl rfl)⟩
set_option maxRecDepth 20000 in
theorem pX9_33 : zP RX9 33 9 17 (.array .int) true := ⟨RX9, TX9, 24, tyX9, rfl, by decide, uX9, zT_of 1014 rfl rfl, tyX9_ok, nmX9, by decide +kernel, rfl, rfl⟩
set_option maxRecDepth 20000 in
theorem fX9_36 : zF RX9 36 9 18 := ⟨RX9, TX9, 24, rfl, by decide, uX9, Or.inl (zT_of 1015 rfl rfl)⟩
set_option maxRecDepth 20000 in
theorem pX9_36 : zP RX9 36 9 18 (.array .boolean) true := ⟨RX9, TX9, 24, tyX9, rfl, by decide, uX9, zT_of 1015 rfl rfl, tyX9_ok, nmX9, by decide +kernel, rfl, rfl⟩
set_option maxRecDepth 20000 in
theorem fX9_39 : zF RX9 39 9 19 := ⟨RX9, TX9, 24, rfl, by decide, uX9, Or.inl (zT_of 1016 rfl rfl)⟩
set_option maxRecDepth 20000 in
theorem pX9_39 : zP RX9 39 9 19 (.array .boolean) true := ⟨RX9, TX9, 24, tyX9, rfl, by decide, uX9, zT_of 1016 rfl rfl, tyX9_ok, nmX9, by decide +kernel, rfl, rfl⟩
set_option maxRecDepth 20000 in
theorem fX9_42 : zF RX9 42 9 20 := ⟨RX9, TX9, 24, rfl, by decide, uX9, Or.inl (zT_of 1017 rfl rfl)⟩
set_option maxRecDepth 20000 in
theorem pX9_42 : zP RX9 42 9 20 (.array .int) true := ⟨RX9, TX9, 24, tyX9, rfl, by decide, uX9, zT_of 1017 rfl rfl, tyX9_ok, nmX9, by decide +kernel, rfl, rfl⟩
set_option maxRecDepth 20000 in
theorem fX9_45 : zF RX9 45 9 21 := ⟨RX9, TX9, 24, rfl, by decide, uX9, Or.inl (zT_of 1018 rfl rfl)⟩
set_option maxRecDepth 20000 in
theorem pX9_45 : zP RX9 45 9 21 (.array .int) true := ⟨RX9, TX9, 24, tyX9, rfl, by decide, uX9, zT_of 1018 rfl rfl, tyX9_ok, nmX9, by decide +kernel, rfl, rfl⟩
set_option maxRecDepth 20000 in
theorem fX9_48 : zF RX9 48 9 22 := ⟨RX9, TX9, 24, rfl, by decide, uX9, Or.inl (zT_of 1019 rfl rfl)⟩
set_option maxRecDepth 20000 in
theorem pX9_48 : zP RX9 48 9 22 (.array .int) true := ⟨RX9, TX9, 24, tyX9, rfl, by decide, uX9, zT_of 1019 rfl rfl, tyX9_ok, nmX9, by decide +kernel, rfl, rfl⟩
set_option maxRecDepth 20000 in
theorem fX9_51 : zF RX9 51 9 23 := ⟨RX9, TX9, 24, rfl, by decide, uX9, Or.inl (zT_of 1020 rfl rfl)⟩
set_option maxRecDepth 20000 in
theorem pX9_51 : zP RX9 51 9 23 (.array .int) true := ⟨RX9, TX9, 24, tyX9, rfl, by decide, uX9, zT_of 1020 rfl rfl, tyX9_ok, nmX9, by decide +kernel, rfl, rfl⟩
set_option maxRecDepth 20000 in
theorem lL_17 : zLk RL 17 yX9_box := Or.inl (zT_of 1070 rfl rfl)
set_option maxRecDepth 20000 in
theorem lX9_108 : zLk RX9 108 yX9_addBox := Or.inl (zT_of 1074 rfl rfl)
set_option maxRecDepth 20000 in
theorem lX9_66 : zLk RX9 66 yX9_in := Or.inl (zT_of 1078 rfl rfl)
set_option maxRecDepth 20000 in
theorem lX9_62 : zLk RX9 62 yX9_get := Or.inl (zT_of 1081 rfl rfl)
set_option maxRecDepth 20000 in
theorem lX9_73 : zLk RX9 73 yX9_put1 := Or.inl (zT_of 1085 rfl rfl)
set_option maxRecDepth 20000 in
theorem lX9_70 : zLk RX9 70 yX9_told := Or.inl (zT_of 1089 rfl rfl)
set_option maxRecDepth 20000 in
theorem lL_21 : zLk RL 21 yX9_lid := Or.inl (zT_of 1093 rfl rfl)
set_option maxRecDepth 20000 in
theorem lX9_112 : zLk RX9 112 yX9_addLid := Or.inl (zT_of 1097 rfl rfl)
set_option maxRecDepth 20000 in
theorem lL_26 : zLk RL 26 yX9_put := Or.inl (zT_of 1101 rfl rfl)
set_option maxRecDepth 20000 in
theorem lX9_115 : zLk RX9 115 yX9_putOn := Or.inl (zT_of 1105 rfl rfl)
set_option maxRecDepth 20000 in
theorem lX9_91 : zLk RX9 91 yX9_isLid := Or.inl (zT_of 1109 rfl rfl)
set_option maxRecDepth 20000 in
theorem lX9_95 : zLk RX9 95 yX9_isBox := Or.inl (zT_of 1113 rfl rfl)
set_option maxRecDepth 20000 in
theorem lX9_98 : zLk RX9 98 yX9_doesFit := Or.inl (zT_of 1117 rfl rfl)
set_option maxRecDepth 20000 in
theorem lX9_84 : zLk RX9 84 yX9_ofLid := Or.inl (zT_of 1121 rfl rfl)
set_option maxRecDepth 20000 in
theorem lX9_87 : zLk RX9 87 yX9_fitsAs := Or.inl (zT_of 1125 rfl rfl)
set_option maxRecDepth 20000 in
theorem lX9_77 : zLk RX9 77 yX9_ofBox := Or.inl (zT_of 1129 rfl rfl)
set_option maxRecDepth 20000 in
theorem lX9_81 : zLk RX9 81 yX9_isPlain := Or.inl (zT_of 1133 rfl rfl)
set_option maxRecDepth 20000 in
theorem lX9_102 : zLk RX9 102 yX9_boxOf := Or.inl (zT_of 1137 rfl rfl)
set_option maxRecDepth 20000 in
theorem lX9_105 : zLk RX9 105 yX9_know := Or.inl (zT_of 1141 rfl rfl)
set_option maxRecDepth 20000 in
theorem lL_31 : zLk RL 31 yX9_off := Or.inl (zT_of 1145 rfl rfl)
set_option maxRecDepth 20000 in
theorem lL_36 : zLk RL 36 yX9_undo := Or.inl (zT_of 1149 rfl rfl)
set_option maxRecDepth 20000 in
theorem lL_40 : zLk RL 40 yX9_on := Or.inl (zT_of 1153 rfl rfl)
set_option maxRecDepth 20000 in
theorem lX9_118 : zLk RX9 118 yX9_bad10 := Or.inl (zT_of 1157 rfl rfl)
set_option maxRecDepth 20000 in
theorem lL_44 : zLk RL 44 yX9_grasp := Or.inl (zT_of 1161 rfl rfl)
set_option maxRecDepth 20000 in
theorem lX9_122 : zLk RX9 122 yX9_setGrasp := Or.inl (zT_of 1165 rfl rfl)
set_option maxRecDepth 20000 in
theorem lL_49 : zLk RL 49 yX9_sort := Or.inl (zT_of 1169 rfl rfl)
set_option maxRecDepth 20000 in
theorem lX9_125 : zLk RX9 125 yX9_addSort := Or.inl (zT_of 1173 rfl rfl)
set_option maxRecDepth 20000 in
theorem lL_53 : zLk RL 53 yX9_eye := Or.inl (zT_of 1177 rfl rfl)
set_option maxRecDepth 20000 in
theorem lL_57 : zLk RL 57 yX9_type := Or.inl (zT_of 1181 rfl rfl)
set_option maxRecDepth 20000 in
theorem lL_61 : zLk RL 61 yX9_clear := Or.inl (zT_of 1185 rfl rfl)
set_option maxRecDepth 20000 in
theorem lL_65 : zLk RL 65 yX9_read := Or.inl (zT_of 1189 rfl rfl)
set_option maxRecDepth 20000 in
theorem lX9_153 : zLk RX9 153 yX9_next := Or.inl (zT_of 1193 rfl rfl)
set_option maxRecDepth 20000 in
theorem lX9_135 : zLk RX9 135 yX9_here := Or.inl (zT_of 1197 rfl rfl)
set_option maxRecDepth 20000 in
theorem lX9_147 : zLk RX9 147 yX9_meaning := Or.inl (zT_of 1201 rfl rfl)
set_option maxRecDepth 20000 in
theorem lX9_159 : zLk RX9 159 yX9_due := Or.inl (zT_of 1204 rfl rfl)
set_option maxRecDepth 20000 in
theorem lX9_163 : zLk RX9 163 yX9_doItem := Or.inl (zT_of 1208 rfl rfl)
set_option maxRecDepth 20000 in
theorem lX9_166 : zLk RX9 166 yX9_copy := Or.inl (zT_of 1212 rfl rfl)
set_option maxRecDepth 20000 in
theorem lL_69 : zLk RL 69 yX9_fits := Or.inl (zT_of 1216 rfl rfl)
set_option maxRecDepth 20000 in
theorem lX9_172 : zLk RX9 172 yX9_findFits := Or.inl (zT_of 1220 rfl rfl)
set_option maxRecDepth 20000 in
theorem lL_73 : zLk RL 73 yX9_most := Or.inl (zT_of 1224 rfl rfl)
set_option maxRecDepth 20000 in
theorem lX9_175 : zLk RX9 175 yX9_boxes := Or.inl (zT_of 1228 rfl rfl)
set_option maxRecDepth 20000 in
theorem lX9_178 : zLk RX9 178 yX9_lids := Or.inl (zT_of 1232 rfl rfl)
set_option maxRecDepth 20000 in
theorem lX9_181 : zLk RX9 181 yX9_findFirst := Or.inl (zT_of 1236 rfl rfl)
set_option maxRecDepth 20000 in
theorem lX9_169 : zLk RX9 169 yX9_mostOf := Or.inl (zT_of 1240 rfl rfl)
set_option maxRecDepth 20000 in
theorem lL_77 : zLk RL 77 yX9_lacking := Or.inl (zT_of 1244 rfl rfl)
set_option maxRecDepth 20000 in
theorem lX9_184 : zLk RX9 184 yX9_manyOf := Or.inl (zT_of 1248 rfl rfl)
set_option maxRecDepth 20000 in
theorem lL_81 : zLk RL 81 yX9_soup := Or.inl (zT_of 1251 rfl rfl)
set_option maxRecDepth 20000 in
theorem lX9_187 : zLk RX9 187 yX9_sumOf := Or.inl (zT_of 1255 rfl rfl)
set_option maxRecDepth 20000 in
theorem lX9_190 : zLk RX9 190 yX9_isCovered := Or.inl (zT_of 1259 rfl rfl)
set_option maxRecDepth 20000 in
theorem lL_85 : zLk RL 85 yX9_much := Or.inl (zT_of 1263 rfl rfl)
set_option maxRecDepth 20000 in
theorem lX9_193 : zLk RX9 193 yX9_muchBy := Or.inl (zT_of 1267 rfl rfl)
set_option maxRecDepth 20000 in
theorem lL_89 : zLk RL 89 yX9_worth := Or.inl (zT_of 1271 rfl rfl)
set_option maxRecDepth 20000 in
theorem lL_93 : zLk RL 93 yX9_spare := Or.inl (zT_of 1275 rfl rfl)
set_option maxRecDepth 20000 in
theorem lL_97 : zLk RL 97 yX9_piles := Or.inl (zT_of 1279 rfl rfl)
set_option maxRecDepth 20000 in
theorem lL_101 : zLk RL 101 yX9_shelf := Or.inl (zT_of 1283 rfl rfl)
set_option maxRecDepth 20000 in
theorem lL_105 : zLk RL 105 yX9_buy := Or.inl (zT_of 1287 rfl rfl)
set_option maxRecDepth 20000 in
theorem lX9_201 : zLk RX9 201 yX9_manyIn := Or.inl (zT_of 1291 rfl rfl)
set_option maxRecDepth 20000 in
theorem lX9_204 : zLk RX9 204 yX9_priceOf := Or.inl (zT_of 1294 rfl rfl)
set_option maxRecDepth 20000 in
theorem qX9_200 : Cond.constant RX9 200 (100000) ∈ zT := zT_of 1298 rfl rfl
set_option maxRecDepth 20000 in
theorem lX9_207 : zLk RX9 207 yX9_isEnough := Or.inl (zT_of 1299 rfl rfl)
set_option maxRecDepth 20000 in
theorem lX9_196 : zLk RX9 196 yX9_buyOne := Or.inl (zT_of 1303 rfl rfl)
set_option maxRecDepth 20000 in
theorem lL_109 : zLk RL 109 yX9_tries := Or.inl (zT_of 1307 rfl rfl)
set_option maxRecDepth 20000 in
theorem lX9_215 : zLk RX9 215 yX9_firstOrder := Or.inl (zT_of 1311 rfl rfl)
set_option maxRecDepth 20000 in
theorem qX9_218 : Cond.constantLong RX9 218 (-1) ∈ zT := zT_of 1315 rfl rfl
set_option maxRecDepth 20000 in
theorem lX9_220 : zLk RX9 220 yX9_meanBy := Or.inl (zT_of 1316 rfl rfl)
set_option maxRecDepth 20000 in
theorem qX9_213 : Cond.constantLong RX9 213 (10) ∈ zT := zT_of 1320 rfl rfl
set_option maxRecDepth 20000 in
theorem lX9_224 : zLk RX9 224 yX9_nextOrder := Or.inl (zT_of 1321 rfl rfl)
set_option maxRecDepth 20000 in
theorem lX9_227 : zLk RX9 227 yX9_fraction := Or.inl (zT_of 1325 rfl rfl)
set_option maxRecDepth 20000 in
theorem lL_113 : zLk RL 113 yX9_nuts := Or.inl (zT_of 1329 rfl rfl)
set_option maxRecDepth 20000 in
theorem lL_117 : zLk RL 117 yX9_lend := Or.inl (zT_of 1333 rfl rfl)
set_option maxRecDepth 20000 in
theorem lL_121 : zLk RL 121 yX9_has := Or.inl (zT_of 1337 rfl rfl)
set_option maxRecDepth 20000 in
theorem lX9_231 : zLk RX9 231 yX9_whoHas := Or.inl (zT_of 1341 rfl rfl)
set_option maxRecDepth 20000 in
theorem lL_125 : zLk RL 125 yX9_wrong := Or.inl (zT_of 1345 rfl rfl)
set_option maxRecDepth 20000 in
theorem lL_129 : zLk RL 129 yX9_hint := Or.inl (zT_of 1349 rfl rfl)
set_option maxRecDepth 20000 in
theorem lL_133 : zLk RL 133 yX9_forget := Or.inl (zT_of 1353 rfl rfl)
set_option maxRecDepth 20000 in
theorem lL_137 : zLk RL 137 yX9_labels := Or.inl (zT_of 1357 rfl rfl)
set_option maxRecDepth 20000 in
theorem lX9_238 : zLk RX9 238 yX9_findWays := Or.inl (zT_of 1361 rfl rfl)
set_option maxRecDepth 20000 in
theorem lX9_234 : zLk RX9 234 yX9_isSo := Or.inl (zT_of 1365 rfl rfl)
set_option maxRecDepth 20000 in
theorem lL_141 : zLk RL 141 yX9_evening := Or.inl (zT_of 1369 rfl rfl)
set_option maxRecDepth 20000 in
theorem qX9_241 : Cond.constant RX9 241 (999999) ∈ zT := zT_of 1373 rfl rfl
set_option maxRecDepth 20000 in
theorem qX9_242 : Cond.constantLong RX9 242 (1103515245) ∈ zT := zT_of 1374 rfl rfl
set_option maxRecDepth 20000 in
theorem qX9_244 : Cond.constantLong RX9 244 (12345) ∈ zT := zT_of 1375 rfl rfl
set_option maxRecDepth 20000 in
theorem qX9_246 : Cond.constantLong RX9 246 (2147483648) ∈ zT := zT_of 1376 rfl rfl
set_option maxRecDepth 20000 in
theorem qX9_248 : Cond.constantLong RX9 248 (65536) ∈ zT := zT_of 1377 rfl rfl
set_option maxRecDepth 20000 in
theorem lL_146 : zLk RL 146 yX9_part := Or.inl (zT_of 1378 rfl rfl)
set_option maxRecDepth 20000 in
theorem lL_150 : zLk RL 150 yX9_image := Or.inl (zT_of 1382 rfl rfl)
set_option maxRecDepth 20000 in
theorem lL_154 : zLk RL 154 yX9_from := Or.inl (zT_of 1386 rfl rfl)
set_option maxRecDepth 20000 in
theorem lL_158 : zLk RL 158 yX9_status := Or.inl (zT_of 1390 rfl rfl)
set_option maxRecDepth 20000 in
theorem lL_162 : zLk RL 162 yX9_count := Or.inl (zT_of 1394 rfl rfl)
set_option maxRecDepth 20000 in
theorem lX9_250 : zLk RX9 250 yX9_counted := Or.inl (zT_of 1398 rfl rfl)
set_option maxRecDepth 20000 in
theorem lL_167 : zLk RL 167 yX9_digest := Or.inl (zT_of 1402 rfl rfl)
set_option maxRecDepth 20000 in
theorem qX9_255 : Cond.constantLong RX9 255 (857) ∈ zT := zT_of 1406 rfl rfl
set_option maxRecDepth 20000 in
theorem qX9_253 : Cond.constantLong RX9 253 (31) ∈ zT := zT_of 1407 rfl rfl
set_option maxRecDepth 20000 in
theorem lX9_257 : zLk RX9 257 yX9_digested := Or.inl (zT_of 1408 rfl rfl)
set_option maxRecDepth 20000 in
theorem w_objInst : Cond.instanceMethod Lib.objectInit ∈ zT := zT_of 102 rfl rfl
set_option maxRecDepth 20000 in
theorem w_objCode : Cond.code Lib.objectInit ⟨#[0xb1]⟩ 1 none ∈ zT := zT_of 103 rfl rfl
set_option maxRecDepth 20000 in
theorem w_copyStat : Cond.static arraycopyName ∈ zT := zT_of 420 rfl rfl
set_option maxRecDepth 20000 in
theorem w_copyIni : Cond.initialized "java/lang/System" ∈ zT := zT_of 89 rfl rfl
