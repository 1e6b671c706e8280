theorem tbl_at {w : Cond} (i : Nat) (h : tables_1[i]? = some w) (g : goodWord w = true) : w ∈ TBL := List.mem_filter.mpr ⟨List.mem_append_right _ (List.mem_of_getElem? h), g⟩
theorem tbl_sel {w : Cond} (i : Nat) (h : (k2_sels lw_privs)[i]? = some w) (g : goodWord w = true) : w ∈ TBL := List.mem_filter.mpr ⟨List.mem_append_left _ (List.mem_of_getElem? h), g⟩
set_option maxRecDepth 100000 in
theorem hv_J7_fill_53178 : MS yJ7_fill_53178 cJ7_fill_53178 4 none 2 := ⟨(tbl_at 502 (by decide +kernel) (by decide +kernel)), (tbl_at 17 (by decide +kernel) (by decide +kernel)), (tbl_at 503 rfl rfl), by decide, by decide, by decide +kernel⟩
set_option maxRecDepth 100000 in
theorem hv_X0_addAuxiliary : MV RX0 yX0_addAuxiliary cX0_addAuxiliary 9 none 4 := ⟨⟨(tbl_at 602 (by decide +kernel) (by decide +kernel)), (tbl_sel 28 (by decide +kernel) (by decide +kernel))⟩, (tbl_at 7 (by decide +kernel) (by decide +kernel)), (tbl_at 603 rfl rfl), by decide, by decide, by decide +kernel⟩
set_option maxRecDepth 100000 in
theorem hv_X0_addTree : MV RX0 yX0_addTree cX0_addTree 8 none 2 := ⟨⟨(tbl_at 598 (by decide +kernel) (by decide +kernel)), (tbl_sel 27 (by decide +kernel) (by decide +kernel))⟩, (tbl_at 7 (by decide +kernel) (by decide +kernel)), (tbl_at 599 rfl rfl), by decide, by decide, by decide +kernel⟩
set_option maxRecDepth 100000 in
theorem hv_X0_at : MS yX0_at cX0_at 4 (some .int) 4 := ⟨(tbl_at 531 (by decide +kernel) (by decide +kernel)), (tbl_at 7 (by decide +kernel) (by decide +kernel)), (tbl_at 532 rfl rfl), by decide, by decide, by decide +kernel⟩
set_option maxRecDepth 100000 in
theorem hv_X0_cut : MS yX0_cut cX0_cut 2 (some .int) 1 := ⟨(tbl_at 567 (by decide +kernel) (by decide +kernel)), (tbl_at 7 (by decide +kernel) (by decide +kernel)), (tbl_at 568 rfl rfl), by decide, by decide, by decide +kernel⟩
set_option maxRecDepth 100000 in
theorem hv_X0_fill : MV RX0 yX0_fill cX0_fill 4 none 1 := ⟨⟨(tbl_at 492 (by decide +kernel) (by decide +kernel)), (tbl_at 493 (by decide +kernel) (by decide +kernel))⟩, (tbl_at 7 (by decide +kernel) (by decide +kernel)), (tbl_at 494 rfl rfl), by decide, by decide, by decide +kernel⟩
set_option maxRecDepth 100000 in
theorem hv_X0_firstSplit : MV RX0 yX0_firstSplit cX0_firstSplit 4 (some .int) 3 := ⟨⟨(tbl_at 585 (by decide +kernel) (by decide +kernel)), (tbl_at 586 (by decide +kernel) (by decide +kernel))⟩, (tbl_at 7 (by decide +kernel) (by decide +kernel)), (tbl_at 587 rfl rfl), by decide, by decide, by decide +kernel⟩
set_option maxRecDepth 100000 in
theorem hv_X0_headWays : MV RX0 yX0_headWays cX0_headWays 7 (some .int) 5 := ⟨⟨(tbl_at 589 (by decide +kernel) (by decide +kernel)), (tbl_at 590 (by decide +kernel) (by decide +kernel))⟩, (tbl_at 7 (by decide +kernel) (by decide +kernel)), (tbl_at 591 rfl rfl), by decide, by decide, by decide +kernel⟩
set_option maxRecDepth 100000 in
theorem hv_X0_hear : MV RX0 yX0_hear cX0_hear 4 none 1 := ⟨⟨(tbl_at 497 (by decide +kernel) (by decide +kernel)), (tbl_sel 21 (by decide +kernel) (by decide +kernel))⟩, (tbl_at 7 (by decide +kernel) (by decide +kernel)), (tbl_at 498 rfl rfl), by decide, by decide, by decide +kernel⟩
set_option maxRecDepth 100000 in
theorem hv_X0_initialWays : MV RX0 yX0_initialWays cX0_initialWays 4 (some .int) 3 := ⟨⟨(tbl_at 544 (by decide +kernel) (by decide +kernel)), (tbl_at 545 (by decide +kernel) (by decide +kernel))⟩, (tbl_at 7 (by decide +kernel) (by decide +kernel)), (tbl_at 546 rfl rfl), by decide, by decide, by decide +kernel⟩
set_option maxRecDepth 100000 in
theorem hv_X0_lastBegin : MV RX0 yX0_lastBegin cX0_lastBegin 4 (some .int) 3 := ⟨⟨(tbl_at 560 (by decide +kernel) (by decide +kernel)), (tbl_at 561 (by decide +kernel) (by decide +kernel))⟩, (tbl_at 7 (by decide +kernel) (by decide +kernel)), (tbl_at 562 rfl rfl), by decide, by decide, by decide +kernel⟩
set_option maxRecDepth 100000 in
theorem hv_X0_lastSplit : MV RX0 yX0_lastSplit cX0_lastSplit 5 (some .int) 3 := ⟨⟨(tbl_at 580 (by decide +kernel) (by decide +kernel)), (tbl_at 581 (by decide +kernel) (by decide +kernel))⟩, (tbl_at 7 (by decide +kernel) (by decide +kernel)), (tbl_at 582 rfl rfl), by decide, by decide, by decide +kernel⟩
set_option maxRecDepth 100000 in
theorem hv_X0_lay : MV RX0 yX0_lay cX0_lay 14 none 3 := ⟨⟨(tbl_at 527 (by decide +kernel) (by decide +kernel)), (tbl_sel 23 (by decide +kernel) (by decide +kernel))⟩, (tbl_at 7 (by decide +kernel) (by decide +kernel)), (tbl_at 528 rfl rfl), by decide, by decide, by decide +kernel⟩
set_option maxRecDepth 100000 in
theorem hv_X0_layAll : MV RX0 yX0_layAll cX0_layAll 6 none 2 := ⟨⟨(tbl_at 518 (by decide +kernel) (by decide +kernel)), (tbl_sel 22 (by decide +kernel) (by decide +kernel))⟩, (tbl_at 7 (by decide +kernel) (by decide +kernel)), (tbl_at 519 rfl rfl), by decide, by decide, by decide +kernel⟩
set_option maxRecDepth 100000 in
theorem hv_X0_narrowest : MV RX0 yX0_narrowest cX0_narrowest 4 (some .int) 3 := ⟨⟨(tbl_at 556 (by decide +kernel) (by decide +kernel)), (tbl_at 557 (by decide +kernel) (by decide +kernel))⟩, (tbl_at 7 (by decide +kernel) (by decide +kernel)), (tbl_at 558 rfl rfl), by decide, by decide, by decide +kernel⟩
set_option maxRecDepth 100000 in
theorem hv_X0_nodeWays : MV RX0 yX0_nodeWays cX0_nodeWays 6 (some .int) 5 := ⟨⟨(tbl_at 576 (by decide +kernel) (by decide +kernel)), (tbl_at 577 (by decide +kernel) (by decide +kernel))⟩, (tbl_at 7 (by decide +kernel) (by decide +kernel)), (tbl_at 578 rfl rfl), by decide, by decide, by decide +kernel⟩
set_option maxRecDepth 100000 in
theorem hv_X0_partsWays : MV RX0 yX0_partsWays cX0_partsWays 6 (some .int) 5 := ⟨⟨(tbl_at 552 (by decide +kernel) (by decide +kernel)), (tbl_at 553 (by decide +kernel) (by decide +kernel))⟩, (tbl_at 7 (by decide +kernel) (by decide +kernel)), (tbl_at 554 rfl rfl), by decide, by decide, by decide +kernel⟩
set_option maxRecDepth 100000 in
theorem hv_X0_reckonInner : MV RX0 yX0_reckonInner cX0_reckonInner 15 (some .int) 5 := ⟨⟨(tbl_at 549 (by decide +kernel) (by decide +kernel)), (tbl_sel 25 (by decide +kernel) (by decide +kernel))⟩, (tbl_at 7 (by decide +kernel) (by decide +kernel)), (tbl_at 550 rfl rfl), by decide, by decide, by decide +kernel⟩
set_option maxRecDepth 100000 in
theorem hv_X0_reckonNode : MV RX0 yX0_reckonNode cX0_reckonNode 7 (some .int) 5 := ⟨⟨(tbl_at 541 (by decide +kernel) (by decide +kernel)), (tbl_sel 24 (by decide +kernel) (by decide +kernel))⟩, (tbl_at 7 (by decide +kernel) (by decide +kernel)), (tbl_at 542 rfl rfl), by decide, by decide, by decide +kernel⟩
set_option maxRecDepth 100000 in
theorem hv_X0_reckonOnward : MV RX0 yX0_reckonOnward cX0_reckonOnward 11 (some .int) 5 := ⟨⟨(tbl_at 573 (by decide +kernel) (by decide +kernel)), (tbl_sel 26 (by decide +kernel) (by decide +kernel))⟩, (tbl_at 7 (by decide +kernel) (by decide +kernel)), (tbl_at 574 rfl rfl), by decide, by decide, by decide +kernel⟩
set_option maxRecDepth 100000 in
theorem hv_X0_tailWays : MV RX0 yX0_tailWays cX0_tailWays 8 (some .int) 5 := ⟨⟨(tbl_at 593 (by decide +kernel) (by decide +kernel)), (tbl_at 594 (by decide +kernel) (by decide +kernel))⟩, (tbl_at 7 (by decide +kernel) (by decide +kernel)), (tbl_at 595 rfl rfl), by decide, by decide, by decide +kernel⟩
set_option maxRecDepth 100000 in
theorem hv_X1_addRow : MV RX1 yX1_addRow cX1_addRow 7 none 4 := ⟨⟨(tbl_at 397 (by decide +kernel) (by decide +kernel)), (tbl_at 398 (by decide +kernel) (by decide +kernel))⟩, (tbl_at 3 (by decide +kernel) (by decide +kernel)), (tbl_at 399 rfl rfl), by decide, by decide, by decide +kernel⟩
set_option maxRecDepth 100000 in
theorem hv_X1_cell : MV RX1 yX1_cell cX1_cell 3 (some .int) 2 := ⟨⟨(tbl_at 408 (by decide +kernel) (by decide +kernel)), (tbl_at 409 (by decide +kernel) (by decide +kernel))⟩, (tbl_at 3 (by decide +kernel) (by decide +kernel)), (tbl_at 410 rfl rfl), by decide, by decide, by decide +kernel⟩
set_option maxRecDepth 100000 in
theorem hv_X1_hasFoot : MV RX1 yX1_hasFoot cX1_hasFoot 2 (some .boolean) 1 := ⟨⟨(tbl_at 509 (by decide +kernel) (by decide +kernel)), (tbl_at 510 (by decide +kernel) (by decide +kernel))⟩, (tbl_at 3 (by decide +kernel) (by decide +kernel)), (tbl_at 511 rfl rfl), by decide, by decide, by decide +kernel⟩
set_option maxRecDepth 100000 in
theorem hv_X1_hasWord : MV RX1 yX1_hasWord cX1_hasWord 3 (some .boolean) 2 := ⟨⟨(tbl_at 522 (by decide +kernel) (by decide +kernel)), (tbl_at 523 (by decide +kernel) (by decide +kernel))⟩, (tbl_at 3 (by decide +kernel) (by decide +kernel)), (tbl_at 524 rfl rfl), by decide, by decide, by decide +kernel⟩
set_option maxRecDepth 100000 in
theorem hv_X1_isAuxiliary : MV RX1 yX1_isAuxiliary cX1_isAuxiliary 2 (some .boolean) 1 := ⟨⟨(tbl_at 505 (by decide +kernel) (by decide +kernel)), (tbl_at 506 (by decide +kernel) (by decide +kernel))⟩, (tbl_at 3 (by decide +kernel) (by decide +kernel)), (tbl_at 507 rfl rfl), by decide, by decide, by decide +kernel⟩
set_option maxRecDepth 100000 in
theorem hv_X1_link : MV RX1 yX1_link cX1_link 9 none 1 := ⟨⟨(tbl_at 443 (by decide +kernel) (by decide +kernel)), (tbl_at 444 (by decide +kernel) (by decide +kernel))⟩, (tbl_at 3 (by decide +kernel) (by decide +kernel)), (tbl_at 445 rfl rfl), by decide, by decide, by decide +kernel⟩
set_option maxRecDepth 100000 in
theorem hv_X1_nextPart : MV RX1 yX1_nextPart cX1_nextPart 5 (some .int) 2 := ⟨⟨(tbl_at 448 (by decide +kernel) (by decide +kernel)), (tbl_sel 16 (by decide +kernel) (by decide +kernel))⟩, (tbl_at 3 (by decide +kernel) (by decide +kernel)), (tbl_at 449 rfl rfl), by decide, by decide, by decide +kernel⟩
set_option maxRecDepth 100000 in
theorem hv_X1_rootLabel : MV RX1 yX1_rootLabel cX1_rootLabel 2 (some .int) 1 := ⟨⟨(tbl_at 513 (by decide +kernel) (by decide +kernel)), (tbl_at 514 (by decide +kernel) (by decide +kernel))⟩, (tbl_at 3 (by decide +kernel) (by decide +kernel)), (tbl_at 515 rfl rfl), by decide, by decide, by decide +kernel⟩
set_option maxRecDepth 100000 in
theorem hv_X1_row : MS yX1_row cX1_row 2 (some .int) 2 := ⟨(tbl_at 401 (by decide +kernel) (by decide +kernel)), (tbl_at 3 (by decide +kernel) (by decide +kernel)), (tbl_at 402 rfl rfl), by decide, by decide, by decide +kernel⟩
set_option maxRecDepth 100000 in
theorem hv_X1_set : MV RX1 yX1_set cX1_set 4 none 3 := ⟨⟨(tbl_at 404 (by decide +kernel) (by decide +kernel)), (tbl_at 405 (by decide +kernel) (by decide +kernel))⟩, (tbl_at 3 (by decide +kernel) (by decide +kernel)), (tbl_at 406 rfl rfl), by decide, by decide, by decide +kernel⟩
set_option maxRecDepth 100000 in
theorem hv_X2_add : MV RX2 yX2_add cX2_add 4 none 3 := ⟨⟨(tbl_at 385 (by decide +kernel) (by decide +kernel)), (tbl_at 386 (by decide +kernel) (by decide +kernel))⟩, (tbl_at 4 (by decide +kernel) (by decide +kernel)), (tbl_at 387 rfl rfl), by decide, by decide, by decide +kernel⟩
set_option maxRecDepth 100000 in
theorem hv_X2_begin : MV RX2 yX2_begin cX2_begin 2 (some .int) 1 := ⟨⟨(tbl_at 373 (by decide +kernel) (by decide +kernel)), (tbl_at 374 (by decide +kernel) (by decide +kernel))⟩, (tbl_at 4 (by decide +kernel) (by decide +kernel)), (tbl_at 375 rfl rfl), by decide, by decide, by decide +kernel⟩
set_option maxRecDepth 100000 in
theorem hv_X2_find : MV RX2 yX2_find cX2_find 5 (some .int) 3 := ⟨⟨(tbl_at 369 (by decide +kernel) (by decide +kernel)), (tbl_at 370 (by decide +kernel) (by decide +kernel))⟩, (tbl_at 4 (by decide +kernel) (by decide +kernel)), (tbl_at 371 rfl rfl), by decide, by decide, by decide +kernel⟩
set_option maxRecDepth 100000 in
theorem hv_X2_isFull : MV RX2 yX2_isFull cX2_isFull 1 (some .boolean) 0 := ⟨⟨(tbl_at 381 (by decide +kernel) (by decide +kernel)), (tbl_at 382 (by decide +kernel) (by decide +kernel))⟩, (tbl_at 4 (by decide +kernel) (by decide +kernel)), (tbl_at 383 rfl rfl), by decide, by decide, by decide +kernel⟩
set_option maxRecDepth 100000 in
theorem hv_X2_isSame : MV RX2 yX2_isSame cX2_isSame 6 (some .boolean) 4 := ⟨⟨(tbl_at 378 (by decide +kernel) (by decide +kernel)), (tbl_sel 8 (by decide +kernel) (by decide +kernel))⟩, (tbl_at 4 (by decide +kernel) (by decide +kernel)), (tbl_at 379 rfl rfl), by decide, by decide, by decide +kernel⟩
set_option maxRecDepth 100000 in
theorem hv_X3_findFault : MV RX3 yX3_findFault cX3_findFault 2 (some .int) 0 := ⟨⟨(tbl_at 466 (by decide +kernel) (by decide +kernel)), (tbl_sel 18 (by decide +kernel) (by decide +kernel))⟩, (tbl_at 6 (by decide +kernel) (by decide +kernel)), (tbl_at 467 rfl rfl), by decide, by decide, by decide +kernel⟩
set_option maxRecDepth 100000 in
theorem hv_X3_parse : MV RX3 yX3_parse cX3_parse 2 (some .int) 0 := ⟨⟨(tbl_at 461 (by decide +kernel) (by decide +kernel)), (tbl_at 462 (by decide +kernel) (by decide +kernel))⟩, (tbl_at 6 (by decide +kernel) (by decide +kernel)), (tbl_at 463 rfl rfl), by decide, by decide, by decide +kernel⟩
set_option maxRecDepth 100000 in
theorem hv_X3_take : MV RX3 yX3_take cX3_take 2 none 0 := ⟨⟨(tbl_at 476 (by decide +kernel) (by decide +kernel)), (tbl_sel 19 (by decide +kernel) (by decide +kernel))⟩, (tbl_at 6 (by decide +kernel) (by decide +kernel)), (tbl_at 477 rfl rfl), by decide, by decide, by decide +kernel⟩
set_option maxRecDepth 100000 in
theorem hv_X4_advance : MV RX4 yX4_advance cX4_advance 2 none 0 := ⟨⟨(tbl_at 326 (by decide +kernel) (by decide +kernel)), (tbl_at 327 (by decide +kernel) (by decide +kernel))⟩, (tbl_at 2 (by decide +kernel) (by decide +kernel)), (tbl_at 328 rfl rfl), by decide, by decide, by decide +kernel⟩
set_option maxRecDepth 100000 in
theorem hv_X4_isAt : MV RX4 yX4_isAt cX4_isAt 2 (some .boolean) 1 := ⟨⟨(tbl_at 416 (by decide +kernel) (by decide +kernel)), (tbl_at 417 (by decide +kernel) (by decide +kernel))⟩, (tbl_at 2 (by decide +kernel) (by decide +kernel)), (tbl_at 418 rfl rfl), by decide, by decide, by decide +kernel⟩
set_option maxRecDepth 100000 in
theorem hv_X4_isBlank : MS yX4_isBlank cX4_isBlank 1 (some .boolean) 1 := ⟨(tbl_at 334 (by decide +kernel) (by decide +kernel)), (tbl_at 2 (by decide +kernel) (by decide +kernel)), (tbl_at 335 rfl rfl), by decide, by decide, by decide +kernel⟩
set_option maxRecDepth 100000 in
theorem hv_X4_isDigit : MS yX4_isDigit cX4_isDigit 1 (some .boolean) 1 := ⟨(tbl_at 344 (by decide +kernel) (by decide +kernel)), (tbl_at 2 (by decide +kernel) (by decide +kernel)), (tbl_at 345 rfl rfl), by decide, by decide, by decide +kernel⟩
set_option maxRecDepth 100000 in
theorem hv_X4_isGreat : MS yX4_isGreat cX4_isGreat 1 (some .boolean) 1 := ⟨(tbl_at 337 (by decide +kernel) (by decide +kernel)), (tbl_at 2 (by decide +kernel) (by decide +kernel)), (tbl_at 338 rfl rfl), by decide, by decide, by decide +kernel⟩
set_option maxRecDepth 100000 in
theorem hv_X4_isSign : MS yX4_isSign cX4_isSign 1 (some .boolean) 1 := ⟨(tbl_at 354 (by decide +kernel) (by decide +kernel)), (tbl_at 2 (by decide +kernel) (by decide +kernel)), (tbl_at 355 rfl rfl), by decide, by decide, by decide +kernel⟩
set_option maxRecDepth 100000 in
theorem hv_X4_isSmall : MS yX4_isSmall cX4_isSmall 1 (some .boolean) 1 := ⟨(tbl_at 347 (by decide +kernel) (by decide +kernel)), (tbl_at 2 (by decide +kernel) (by decide +kernel)), (tbl_at 348 rfl rfl), by decide, by decide, by decide +kernel⟩
set_option maxRecDepth 100000 in
theorem hv_X4_misplaced : MV RX4 yX4_misplaced cX4_misplaced 1 (some .int) 0 := ⟨⟨(tbl_at 471 (by decide +kernel) (by decide +kernel)), (tbl_at 472 (by decide +kernel) (by decide +kernel))⟩, (tbl_at 2 (by decide +kernel) (by decide +kernel)), (tbl_at 473 rfl rfl), by decide, by decide, by decide +kernel⟩
set_option maxRecDepth 100000 in
theorem hv_X4_rewind : MV RX4 yX4_rewind cX4_rewind 1 none 0 := ⟨⟨(tbl_at 318 (by decide +kernel) (by decide +kernel)), (tbl_at 319 (by decide +kernel) (by decide +kernel))⟩, (tbl_at 2 (by decide +kernel) (by decide +kernel)), (tbl_at 320 rfl rfl), by decide, by decide, by decide +kernel⟩
set_option maxRecDepth 100000 in
theorem hv_X4_skipBlanks : MV RX4 yX4_skipBlanks cX4_skipBlanks 1 none 0 := ⟨⟨(tbl_at 331 (by decide +kernel) (by decide +kernel)), (tbl_sel 2 (by decide +kernel) (by decide +kernel))⟩, (tbl_at 2 (by decide +kernel) (by decide +kernel)), (tbl_at 332 rfl rfl), by decide, by decide, by decide +kernel⟩
set_option maxRecDepth 100000 in
theorem hv_X4_takeLabel : MV RX4 yX4_takeLabel cX4_takeLabel 1 none 0 := ⟨⟨(tbl_at 341 (by decide +kernel) (by decide +kernel)), (tbl_sel 3 (by decide +kernel) (by decide +kernel))⟩, (tbl_at 2 (by decide +kernel) (by decide +kernel)), (tbl_at 342 rfl rfl), by decide, by decide, by decide +kernel⟩
set_option maxRecDepth 100000 in
theorem hv_X4_takeWord : MV RX4 yX4_takeWord cX4_takeWord 1 none 0 := ⟨⟨(tbl_at 351 (by decide +kernel) (by decide +kernel)), (tbl_sel 4 (by decide +kernel) (by decide +kernel))⟩, (tbl_at 2 (by decide +kernel) (by decide +kernel)), (tbl_at 352 rfl rfl), by decide, by decide, by decide +kernel⟩
set_option maxRecDepth 100000 in
theorem hv_X5_addLeaf : MV RX5 yX5_addLeaf cX5_addLeaf 3 none 2 := ⟨⟨(tbl_at 394 (by decide +kernel) (by decide +kernel)), (tbl_sel 9 (by decide +kernel) (by decide +kernel))⟩, (tbl_at 5 (by decide +kernel) (by decide +kernel)), (tbl_at 395 rfl rfl), by decide, by decide, by decide +kernel⟩
set_option maxRecDepth 100000 in
theorem hv_X5_begin : MV RX5 yX5_begin cX5_begin 1 none 0 := ⟨⟨(tbl_at 315 (by decide +kernel) (by decide +kernel)), (tbl_sel 0 (by decide +kernel) (by decide +kernel))⟩, (tbl_at 5 (by decide +kernel) (by decide +kernel)), (tbl_at 316 rfl rfl), by decide, by decide, by decide +kernel⟩
set_option maxRecDepth 100000 in
theorem hv_X5_closeParts : MV RX5 yX5_closeParts cX5_closeParts 1 (some .int) 0 := ⟨⟨(tbl_at 431 (by decide +kernel) (by decide +kernel)), (tbl_sel 13 (by decide +kernel) (by decide +kernel))⟩, (tbl_at 5 (by decide +kernel) (by decide +kernel)), (tbl_at 432 rfl rfl), by decide, by decide, by decide +kernel⟩
set_option maxRecDepth 100000 in
theorem hv_X5_judge : MV RX5 yX5_judge cX5_judge 2 none 0 := ⟨⟨(tbl_at 436 (by decide +kernel) (by decide +kernel)), (tbl_sel 14 (by decide +kernel) (by decide +kernel))⟩, (tbl_at 5 (by decide +kernel) (by decide +kernel)), (tbl_at 437 rfl rfl), by decide, by decide, by decide +kernel⟩
set_option maxRecDepth 100000 in
theorem hv_X5_noteFoot : MV RX5 yX5_noteFoot cX5_noteFoot 1 none 0 := ⟨⟨(tbl_at 427 (by decide +kernel) (by decide +kernel)), (tbl_sel 12 (by decide +kernel) (by decide +kernel))⟩, (tbl_at 5 (by decide +kernel) (by decide +kernel)), (tbl_at 428 rfl rfl), by decide, by decide, by decide +kernel⟩
set_option maxRecDepth 100000 in
theorem hv_X5_openParts : MV RX5 yX5_openParts cX5_openParts 1 (some .int) 0 := ⟨⟨(tbl_at 421 (by decide +kernel) (by decide +kernel)), (tbl_sel 11 (by decide +kernel) (by decide +kernel))⟩, (tbl_at 5 (by decide +kernel) (by decide +kernel)), (tbl_at 422 rfl rfl), by decide, by decide, by decide +kernel⟩
set_option maxRecDepth 100000 in
theorem hv_X5_parse : MV RX5 yX5_parse cX5_parse 3 none 0 := ⟨⟨(tbl_at 310 (by decide +kernel) (by decide +kernel)), (tbl_at 311 (by decide +kernel) (by decide +kernel))⟩, (tbl_at 5 (by decide +kernel) (by decide +kernel)), (tbl_at 312 rfl rfl), by decide, by decide, by decide +kernel⟩
set_option maxRecDepth 100000 in
theorem hv_X5_refuse : MV RX5 yX5_refuse cX5_refuse 3 none 2 := ⟨⟨(tbl_at 440 (by decide +kernel) (by decide +kernel)), (tbl_sel 15 (by decide +kernel) (by decide +kernel))⟩, (tbl_at 5 (by decide +kernel) (by decide +kernel)), (tbl_at 441 rfl rfl), by decide, by decide, by decide +kernel⟩
set_option maxRecDepth 100000 in
theorem hv_X5_takeKind : MV RX5 yX5_takeKind cX5_takeKind 1 (some .int) 0 := ⟨⟨(tbl_at 413 (by decide +kernel) (by decide +kernel)), (tbl_sel 10 (by decide +kernel) (by decide +kernel))⟩, (tbl_at 5 (by decide +kernel) (by decide +kernel)), (tbl_at 414 rfl rfl), by decide, by decide, by decide +kernel⟩
set_option maxRecDepth 100000 in
theorem hv_X5_takeName : MV RX5 yX5_takeName cX5_takeName 3 (some .int) 1 := ⟨⟨(tbl_at 366 (by decide +kernel) (by decide +kernel)), (tbl_sel 7 (by decide +kernel) (by decide +kernel))⟩, (tbl_at 5 (by decide +kernel) (by decide +kernel)), (tbl_at 367 rfl rfl), by decide, by decide, by decide +kernel⟩
set_option maxRecDepth 100000 in
theorem hv_X5_takeNode : MV RX5 yX5_takeNode cX5_takeNode 3 (some .int) 0 := ⟨⟨(tbl_at 362 (by decide +kernel) (by decide +kernel)), (tbl_sel 6 (by decide +kernel) (by decide +kernel))⟩, (tbl_at 5 (by decide +kernel) (by decide +kernel)), (tbl_at 363 rfl rfl), by decide, by decide, by decide +kernel⟩
set_option maxRecDepth 100000 in
theorem hv_X5_takeToken : MV RX5 yX5_takeToken cX5_takeToken 1 (some .int) 0 := ⟨⟨(tbl_at 358 (by decide +kernel) (by decide +kernel)), (tbl_sel 5 (by decide +kernel) (by decide +kernel))⟩, (tbl_at 5 (by decide +kernel) (by decide +kernel)), (tbl_at 359 rfl rfl), by decide, by decide, by decide +kernel⟩
set_option maxRecDepth 100000 in
theorem hv_X5_takeTokens : MV RX5 yX5_takeTokens cX5_takeTokens 2 none 0 := ⟨⟨(tbl_at 323 (by decide +kernel) (by decide +kernel)), (tbl_sel 1 (by decide +kernel) (by decide +kernel))⟩, (tbl_at 5 (by decide +kernel) (by decide +kernel)), (tbl_at 324 rfl rfl), by decide, by decide, by decide +kernel⟩
set_option maxRecDepth 100000 in
theorem hv_X6_addUse : MV RX6 yX6_addUse cX6_addUse 5 (some .int) 3 := ⟨⟨(tbl_at 773 (by decide +kernel) (by decide +kernel)), (tbl_sel 31 (by decide +kernel) (by decide +kernel))⟩, (tbl_at 8 (by decide +kernel) (by decide +kernel)), (tbl_at 774 rfl rfl), by decide, by decide, by decide +kernel⟩
set_option maxRecDepth 100000 in
theorem hv_X6_lay : MV RX6 yX6_lay cX6_lay 8 none 7 := ⟨⟨(tbl_at 777 (by decide +kernel) (by decide +kernel)), (tbl_sel 32 (by decide +kernel) (by decide +kernel))⟩, (tbl_at 8 (by decide +kernel) (by decide +kernel)), (tbl_at 778 rfl rfl), by decide, by decide, by decide +kernel⟩
set_option maxRecDepth 100000 in
theorem hv_X6_layParts : MV RX6 yX6_layParts cX6_layParts 6 none 3 := ⟨⟨(tbl_at 811 (by decide +kernel) (by decide +kernel)), (tbl_sel 37 (by decide +kernel) (by decide +kernel))⟩, (tbl_at 8 (by decide +kernel) (by decide +kernel)), (tbl_at 812 rfl rfl), by decide, by decide, by decide +kernel⟩
set_option maxRecDepth 100000 in
theorem hv_X6_nodeCell : MV RX6 yX6_nodeCell cX6_nodeCell 4 (some .int) 3 := ⟨⟨(tbl_at 792 (by decide +kernel) (by decide +kernel)), (tbl_at 793 (by decide +kernel) (by decide +kernel))⟩, (tbl_at 8 (by decide +kernel) (by decide +kernel)), (tbl_at 794 rfl rfl), by decide, by decide, by decide +kernel⟩
set_option maxRecDepth 100000 in
theorem hv_X6_setNodeCell : MV RX6 yX6_setNodeCell cX6_setNodeCell 5 none 4 := ⟨⟨(tbl_at 781 (by decide +kernel) (by decide +kernel)), (tbl_sel 33 (by decide +kernel) (by decide +kernel))⟩, (tbl_at 8 (by decide +kernel) (by decide +kernel)), (tbl_at 782 rfl rfl), by decide, by decide, by decide +kernel⟩
set_option maxRecDepth 100000 in
theorem hv_X6_splitOff : MV RX6 yX6_splitOff cX6_splitOff 17 (some .int) 3 := ⟨⟨(tbl_at 815 (by decide +kernel) (by decide +kernel)), (tbl_sel 38 (by decide +kernel) (by decide +kernel))⟩, (tbl_at 8 (by decide +kernel) (by decide +kernel)), (tbl_at 816 rfl rfl), by decide, by decide, by decide +kernel⟩
set_option maxRecDepth 100000 in
theorem hv_X6_startAuxiliary : MV RX6 yX6_startAuxiliary cX6_startAuxiliary 9 (some .int) 3 := ⟨⟨(tbl_at 798 (by decide +kernel) (by decide +kernel)), (tbl_sel 35 (by decide +kernel) (by decide +kernel))⟩, (tbl_at 8 (by decide +kernel) (by decide +kernel)), (tbl_at 799 rfl rfl), by decide, by decide, by decide +kernel⟩
set_option maxRecDepth 100000 in
theorem hv_X6_startInitial : MV RX6 yX6_startInitial cX6_startInitial 11 (some .int) 6 := ⟨⟨(tbl_at 765 (by decide +kernel) (by decide +kernel)), (tbl_sel 30 (by decide +kernel) (by decide +kernel))⟩, (tbl_at 8 (by decide +kernel) (by decide +kernel)), (tbl_at 766 rfl rfl), by decide, by decide, by decide +kernel⟩
set_option maxRecDepth 100000 in
theorem hv_X6_tryAuxiliary : MV RX6 yX6_tryAuxiliary cX6_tryAuxiliary 19 (some .int) 4 := ⟨⟨(tbl_at 803 (by decide +kernel) (by decide +kernel)), (tbl_sel 36 (by decide +kernel) (by decide +kernel))⟩, (tbl_at 8 (by decide +kernel) (by decide +kernel)), (tbl_at 804 rfl rfl), by decide, by decide, by decide +kernel⟩
set_option maxRecDepth 100000 in
theorem hv_X6_unfoldUse : MV RX6 yX6_unfoldUse cX6_unfoldUse 7 none 1 := ⟨⟨(tbl_at 785 (by decide +kernel) (by decide +kernel)), (tbl_sel 34 (by decide +kernel) (by decide +kernel))⟩, (tbl_at 8 (by decide +kernel) (by decide +kernel)), (tbl_at 786 rfl rfl), by decide, by decide, by decide +kernel⟩
set_option maxRecDepth 100000 in
theorem hv_X6_useCell : MV RX6 yX6_useCell cX6_useCell 3 (some .int) 2 := ⟨⟨(tbl_at 788 (by decide +kernel) (by decide +kernel)), (tbl_at 789 (by decide +kernel) (by decide +kernel))⟩, (tbl_at 8 (by decide +kernel) (by decide +kernel)), (tbl_at 790 rfl rfl), by decide, by decide, by decide +kernel⟩
set_option maxRecDepth 100000 in
theorem hv_X7_add : MV RX7 yX7_add cX7_add 7 none 3 := ⟨⟨(tbl_at 839 (by decide +kernel) (by decide +kernel)), (tbl_sel 41 (by decide +kernel) (by decide +kernel))⟩, (tbl_at 9 (by decide +kernel) (by decide +kernel)), (tbl_at 840 rfl rfl), by decide, by decide, by decide +kernel⟩
set_option maxRecDepth 100000 in
theorem hv_X7_addInstead : MV RX7 yX7_addInstead cX7_addInstead 9 none 3 := ⟨⟨(tbl_at 832 (by decide +kernel) (by decide +kernel)), (tbl_sel 40 (by decide +kernel) (by decide +kernel))⟩, (tbl_at 9 (by decide +kernel) (by decide +kernel)), (tbl_at 833 rfl rfl), by decide, by decide, by decide +kernel⟩
set_option maxRecDepth 100000 in
theorem hv_X7_push : MV RX7 yX7_push cX7_push 4 none 3 := ⟨⟨(tbl_at 828 (by decide +kernel) (by decide +kernel)), (tbl_sel 39 (by decide +kernel) (by decide +kernel))⟩, (tbl_at 9 (by decide +kernel) (by decide +kernel)), (tbl_at 829 rfl rfl), by decide, by decide, by decide +kernel⟩
set_option maxRecDepth 100000 in
theorem hv_X8_forgetReading : MV RX8 yX8_forgetReading cX8_forgetReading 1 none 0 := ⟨⟨(tbl_at 454 (by decide +kernel) (by decide +kernel)), (tbl_sel 17 (by decide +kernel) (by decide +kernel))⟩, (tbl_at 1 (by decide +kernel) (by decide +kernel)), (tbl_at 455 rfl rfl), by decide, by decide, by decide +kernel⟩
set_option maxRecDepth 100000 in
theorem hv_X8_parseLabel : MV RX8 yX8_parseLabel cX8_parseLabel 1 (some .int) 0 := ⟨⟨(tbl_at 485 (by decide +kernel) (by decide +kernel)), (tbl_sel 20 (by decide +kernel) (by decide +kernel))⟩, (tbl_at 1 (by decide +kernel) (by decide +kernel)), (tbl_at 486 rfl rfl), by decide, by decide, by decide +kernel⟩
set_option maxRecDepth 100000 in
theorem hv_X9_at : MV RX9 yX9_at cX9_at 2 (some .int) 1 := ⟨⟨(tbl_at 1087 (by decide +kernel) (by decide +kernel)), (tbl_sel 44 (by decide +kernel) (by decide +kernel))⟩, (tbl_at 10 (by decide +kernel) (by decide +kernel)), (tbl_at 1088 rfl rfl), by decide, by decide, by decide +kernel⟩
set_option maxRecDepth 100000 in
theorem hv_X9_build : MV RX9 yX9_build cX9_build 7 none 0 := ⟨⟨(tbl_at 1236 (by decide +kernel) (by decide +kernel)), (tbl_sel 74 (by decide +kernel) (by decide +kernel))⟩, (tbl_at 10 (by decide +kernel) (by decide +kernel)), (tbl_at 1237 rfl rfl), by decide, by decide, by decide +kernel⟩
set_option maxRecDepth 100000 in
theorem hv_X9_cannot : MV RX9 yX9_cannot cX9_cannot 1 (some .boolean) 0 := ⟨⟨(tbl_at 1129 (by decide +kernel) (by decide +kernel)), (tbl_sel 53 (by decide +kernel) (by decide +kernel))⟩, (tbl_at 10 (by decide +kernel) (by decide +kernel)), (tbl_at 1130 rfl rfl), by decide, by decide, by decide +kernel⟩
set_option maxRecDepth 100000 in
theorem hv_X9_fill : MV RX9 yX9_fill cX9_fill 9 none 3 := ⟨⟨(tbl_at 1168 (by decide +kernel) (by decide +kernel)), (tbl_sel 59 (by decide +kernel) (by decide +kernel))⟩, (tbl_at 10 (by decide +kernel) (by decide +kernel)), (tbl_at 1169 rfl rfl), by decide, by decide, by decide +kernel⟩
set_option maxRecDepth 100000 in
theorem hv_X9_flaw : MV RX9 yX9_flaw cX9_flaw 3 (some .boolean) 2 := ⟨⟨(tbl_at 1094 (by decide +kernel) (by decide +kernel)), (tbl_sel 45 (by decide +kernel) (by decide +kernel))⟩, (tbl_at 10 (by decide +kernel) (by decide +kernel)), (tbl_at 1095 rfl rfl), by decide, by decide, by decide +kernel⟩
set_option maxRecDepth 100000 in
theorem hv_X9_forget : MV RX9 yX9_forget cX9_forget 1 none 0 := ⟨⟨(tbl_at 1141 (by decide +kernel) (by decide +kernel)), (tbl_sel 56 (by decide +kernel) (by decide +kernel))⟩, (tbl_at 10 (by decide +kernel) (by decide +kernel)), (tbl_at 1142 rfl rfl), by decide, by decide, by decide +kernel⟩
set_option maxRecDepth 100000 in
theorem hv_X9_here : MV RX9 yX9_here cX9_here 2 (some .int) 1 := ⟨⟨(tbl_at 1121 (by decide +kernel) (by decide +kernel)), (tbl_sel 51 (by decide +kernel) (by decide +kernel))⟩, (tbl_at 10 (by decide +kernel) (by decide +kernel)), (tbl_at 1122 rfl rfl), by decide, by decide, by decide +kernel⟩
set_option maxRecDepth 100000 in
theorem hv_X9_isFor : MV RX9 yX9_isFor cX9_isFor 4 (some .boolean) 3 := ⟨⟨(tbl_at 1204 (by decide +kernel) (by decide +kernel)), (tbl_sel 67 (by decide +kernel) (by decide +kernel))⟩, (tbl_at 10 (by decide +kernel) (by decide +kernel)), (tbl_at 1205 rfl rfl), by decide, by decide, by decide +kernel⟩
set_option maxRecDepth 100000 in
theorem hv_X9_isGoal : MV RX9 yX9_isGoal cX9_isGoal 2 (some .boolean) 1 := ⟨⟨(tbl_at 1212 (by decide +kernel) (by decide +kernel)), (tbl_sel 69 (by decide +kernel) (by decide +kernel))⟩, (tbl_at 10 (by decide +kernel) (by decide +kernel)), (tbl_at 1213 rfl rfl), by decide, by decide, by decide +kernel⟩
set_option maxRecDepth 100000 in
theorem hv_X9_isGood : MV RX9 yX9_isGood cX9_isGood 2 (some .boolean) 0 := ⟨⟨(tbl_at 1137 (by decide +kernel) (by decide +kernel)), (tbl_sel 55 (by decide +kernel) (by decide +kernel))⟩, (tbl_at 10 (by decide +kernel) (by decide +kernel)), (tbl_at 1138 rfl rfl), by decide, by decide, by decide +kernel⟩
set_option maxRecDepth 100000 in
theorem hv_X9_isGreat : MS yX9_isGreat cX9_isGreat 1 (some .boolean) 1 := ⟨(tbl_at 1090 (by decide +kernel) (by decide +kernel)), (tbl_at 10 (by decide +kernel) (by decide +kernel)), (tbl_at 1091 rfl rfl), by decide, by decide, by decide +kernel⟩
set_option maxRecDepth 100000 in
theorem hv_X9_isSmall : MS yX9_isSmall cX9_isSmall 1 (some .boolean) 1 := ⟨(tbl_at 1097 (by decide +kernel) (by decide +kernel)), (tbl_at 10 (by decide +kernel) (by decide +kernel)), (tbl_at 1098 rfl rfl), by decide, by decide, by decide +kernel⟩
set_option maxRecDepth 100000 in
theorem hv_X9_isWord : MV RX9 yX9_isWord cX9_isWord 4 (some .boolean) 2 := ⟨⟨(tbl_at 1200 (by decide +kernel) (by decide +kernel)), (tbl_sel 66 (by decide +kernel) (by decide +kernel))⟩, (tbl_at 10 (by decide +kernel) (by decide +kernel)), (tbl_at 1201 rfl rfl), by decide, by decide, by decide +kernel⟩
set_option maxRecDepth 100000 in
theorem hv_X9_job : MV RX9 yX9_job cX9_job 11 none 8 := ⟨⟨(tbl_at 1224 (by decide +kernel) (by decide +kernel)), (tbl_sel 71 (by decide +kernel) (by decide +kernel))⟩, (tbl_at 10 (by decide +kernel) (by decide +kernel)), (tbl_at 1225 rfl rfl), by decide, by decide, by decide +kernel⟩
set_option maxRecDepth 100000 in
theorem hv_X9_key : MS yX9_key cX9_key 4 (some .int) 4 := ⟨(tbl_at 1160 (by decide +kernel) (by decide +kernel)), (tbl_at 10 (by decide +kernel) (by decide +kernel)), (tbl_at 1161 rfl rfl), by decide, by decide, by decide +kernel⟩
set_option maxRecDepth 100000 in
theorem hv_X9_label : MV RX9 yX9_label cX9_label 4 (some .int) 0 := ⟨⟨(tbl_at 1117 (by decide +kernel) (by decide +kernel)), (tbl_sel 50 (by decide +kernel) (by decide +kernel))⟩, (tbl_at 10 (by decide +kernel) (by decide +kernel)), (tbl_at 1118 rfl rfl), by decide, by decide, by decide +kernel⟩
set_option maxRecDepth 100000 in
theorem hv_X9_labelled : MV RX9 yX9_labelled cX9_labelled 3 (some .boolean) 0 := ⟨⟨(tbl_at 1105 (by decide +kernel) (by decide +kernel)), (tbl_sel 47 (by decide +kernel) (by decide +kernel))⟩, (tbl_at 10 (by decide +kernel) (by decide +kernel)), (tbl_at 1106 rfl rfl), by decide, by decide, by decide +kernel⟩
set_option maxRecDepth 100000 in
theorem hv_X9_later : MV RX9 yX9_later cX9_later 6 none 4 := ⟨⟨(tbl_at 1240 (by decide +kernel) (by decide +kernel)), (tbl_sel 75 (by decide +kernel) (by decide +kernel))⟩, (tbl_at 10 (by decide +kernel) (by decide +kernel)), (tbl_at 1241 rfl rfl), by decide, by decide, by decide +kernel⟩
set_option maxRecDepth 100000 in
theorem hv_X9_lay : MV RX9 yX9_lay cX9_lay 21 none 7 := ⟨⟨(tbl_at 1232 (by decide +kernel) (by decide +kernel)), (tbl_sel 73 (by decide +kernel) (by decide +kernel))⟩, (tbl_at 10 (by decide +kernel) (by decide +kernel)), (tbl_at 1233 rfl rfl), by decide, by decide, by decide +kernel⟩
set_option maxRecDepth 100000 in
theorem hv_X9_layOn : MV RX9 yX9_layOn cX9_layOn 15 none 7 := ⟨⟨(tbl_at 1228 (by decide +kernel) (by decide +kernel)), (tbl_sel 72 (by decide +kernel) (by decide +kernel))⟩, (tbl_at 10 (by decide +kernel) (by decide +kernel)), (tbl_at 1229 rfl rfl), by decide, by decide, by decide +kernel⟩
set_option maxRecDepth 100000 in
theorem hv_X9_least : MS yX9_least cX9_least 2 (some .long) 1 := ⟨(tbl_at 1191 (by decide +kernel) (by decide +kernel)), (tbl_at 10 (by decide +kernel) (by decide +kernel)), (tbl_at 1192 rfl rfl), by decide, by decide, by decide +kernel⟩
set_option maxRecDepth 100000 in
theorem hv_X9_lie : MV RX9 yX9_lie cX9_lie 6 (some .long) 5 := ⟨⟨(tbl_at 1180 (by decide +kernel) (by decide +kernel)), (tbl_sel 62 (by decide +kernel) (by decide +kernel))⟩, (tbl_at 10 (by decide +kernel) (by decide +kernel)), (tbl_at 1181 rfl rfl), by decide, by decide, by decide +kernel⟩
set_option maxRecDepth 100000 in
theorem hv_X9_link : MV RX9 yX9_link cX9_link 4 none 2 := ⟨⟨(tbl_at 1125 (by decide +kernel) (by decide +kernel)), (tbl_sel 52 (by decide +kernel) (by decide +kernel))⟩, (tbl_at 10 (by decide +kernel) (by decide +kernel)), (tbl_at 1126 rfl rfl), by decide, by decide, by decide +kernel⟩
set_option maxRecDepth 100000 in
theorem hv_X9_look : MV RX9 yX9_look cX9_look 4 none 0 := ⟨⟨(tbl_at 1133 (by decide +kernel) (by decide +kernel)), (tbl_sel 54 (by decide +kernel) (by decide +kernel))⟩, (tbl_at 10 (by decide +kernel) (by decide +kernel)), (tbl_at 1134 rfl rfl), by decide, by decide, by decide +kernel⟩
set_option maxRecDepth 100000 in
theorem hv_X9_newNode : MV RX9 yX9_newNode cX9_newNode 4 (some .boolean) 0 := ⟨⟨(tbl_at 1109 (by decide +kernel) (by decide +kernel)), (tbl_sel 48 (by decide +kernel) (by decide +kernel))⟩, (tbl_at 10 (by decide +kernel) (by decide +kernel)), (tbl_at 1110 rfl rfl), by decide, by decide, by decide +kernel⟩
set_option maxRecDepth 100000 in
theorem hv_X9_next : MV RX9 yX9_next cX9_next 2 (some .boolean) 0 := ⟨⟨(tbl_at 1083 (by decide +kernel) (by decide +kernel)), (tbl_sel 43 (by decide +kernel) (by decide +kernel))⟩, (tbl_at 10 (by decide +kernel) (by decide +kernel)), (tbl_at 1084 rfl rfl), by decide, by decide, by decide +kernel⟩
set_option maxRecDepth 100000 in
theorem hv_X9_number : MV RX9 yX9_number cX9_number 6 none 0 := ⟨⟨(tbl_at 1157 (by decide +kernel) (by decide +kernel)), (tbl_sel 57 (by decide +kernel) (by decide +kernel))⟩, (tbl_at 10 (by decide +kernel) (by decide +kernel)), (tbl_at 1158 rfl rfl), by decide, by decide, by decide +kernel⟩
set_option maxRecDepth 100000 in
theorem hv_X9_put : MV RX9 yX9_put cX9_put 8 none 6 := ⟨⟨(tbl_at 1172 (by decide +kernel) (by decide +kernel)), (tbl_sel 60 (by decide +kernel) (by decide +kernel))⟩, (tbl_at 10 (by decide +kernel) (by decide +kernel)), (tbl_at 1173 rfl rfl), by decide, by decide, by decide +kernel⟩
set_option maxRecDepth 100000 in
theorem hv_X9_readTree : MV RX9 yX9_readTree cX9_readTree 2 (some .boolean) 0 := ⟨⟨(tbl_at 1101 (by decide +kernel) (by decide +kernel)), (tbl_sel 46 (by decide +kernel) (by decide +kernel))⟩, (tbl_at 10 (by decide +kernel) (by decide +kernel)), (tbl_at 1102 rfl rfl), by decide, by decide, by decide +kernel⟩
set_option maxRecDepth 100000 in
theorem hv_X9_reckon : MV RX9 yX9_reckon cX9_reckon 6 none 2 := ⟨⟨(tbl_at 1164 (by decide +kernel) (by decide +kernel)), (tbl_sel 58 (by decide +kernel) (by decide +kernel))⟩, (tbl_at 10 (by decide +kernel) (by decide +kernel)), (tbl_at 1165 rfl rfl), by decide, by decide, by decide +kernel⟩
set_option maxRecDepth 100000 in
theorem hv_X9_reckonLie : MV RX9 yX9_reckonLie cX9_reckonLie 11 (some .long) 5 := ⟨⟨(tbl_at 1196 (by decide +kernel) (by decide +kernel)), (tbl_sel 65 (by decide +kernel) (by decide +kernel))⟩, (tbl_at 10 (by decide +kernel) (by decide +kernel)), (tbl_at 1197 rfl rfl), by decide, by decide, by decide +kernel⟩
set_option maxRecDepth 100000 in
theorem hv_X9_reckonRun : MV RX9 yX9_reckonRun cX9_reckonRun 9 (some .long) 5 := ⟨⟨(tbl_at 1176 (by decide +kernel) (by decide +kernel)), (tbl_sel 61 (by decide +kernel) (by decide +kernel))⟩, (tbl_at 10 (by decide +kernel) (by decide +kernel)), (tbl_at 1177 rfl rfl), by decide, by decide, by decide +kernel⟩
set_option maxRecDepth 100000 in
theorem hv_X9_run : MV RX9 yX9_run cX9_run 6 (some .long) 5 := ⟨⟨(tbl_at 1188 (by decide +kernel) (by decide +kernel)), (tbl_sel 64 (by decide +kernel) (by decide +kernel))⟩, (tbl_at 10 (by decide +kernel) (by decide +kernel)), (tbl_at 1189 rfl rfl), by decide, by decide, by decide +kernel⟩
set_option maxRecDepth 100000 in
theorem hv_X9_set : MV RX9 yX9_set cX9_set 9 (some .long) 8 := ⟨⟨(tbl_at 1208 (by decide +kernel) (by decide +kernel)), (tbl_sel 68 (by decide +kernel) (by decide +kernel))⟩, (tbl_at 10 (by decide +kernel) (by decide +kernel)), (tbl_at 1209 rfl rfl), by decide, by decide, by decide +kernel⟩
set_option maxRecDepth 100000 in
theorem hv_X9_show : MV RX9 yX9_show cX9_show 7 none 4 := ⟨⟨(tbl_at 1244 (by decide +kernel) (by decide +kernel)), (tbl_sel 76 (by decide +kernel) (by decide +kernel))⟩, (tbl_at 10 (by decide +kernel) (by decide +kernel)), (tbl_at 1245 rfl rfl), by decide, by decide, by decide +kernel⟩
set_option maxRecDepth 100000 in
theorem hv_X9_split : MV RX9 yX9_split cX9_split 8 (some .long) 6 := ⟨⟨(tbl_at 1184 (by decide +kernel) (by decide +kernel)), (tbl_sel 63 (by decide +kernel) (by decide +kernel))⟩, (tbl_at 10 (by decide +kernel) (by decide +kernel)), (tbl_at 1185 rfl rfl), by decide, by decide, by decide +kernel⟩
set_option maxRecDepth 100000 in
theorem hv_X9_starts : MV RX9 yX9_starts cX9_starts 1 (some .boolean) 0 := ⟨⟨(tbl_at 1079 (by decide +kernel) (by decide +kernel)), (tbl_sel 42 (by decide +kernel) (by decide +kernel))⟩, (tbl_at 10 (by decide +kernel) (by decide +kernel)), (tbl_at 1080 rfl rfl), by decide, by decide, by decide +kernel⟩
set_option maxRecDepth 100000 in
theorem hv_X9_takeTree : MV RX9 yX9_takeTree cX9_takeTree 12 none 8 := ⟨⟨(tbl_at 1220 (by decide +kernel) (by decide +kernel)), (tbl_sel 70 (by decide +kernel) (by decide +kernel))⟩, (tbl_at 10 (by decide +kernel) (by decide +kernel)), (tbl_at 1221 rfl rfl), by decide, by decide, by decide +kernel⟩
set_option maxRecDepth 100000 in
theorem hv_X9_word : MV RX9 yX9_word cX9_word 4 (some .int) 0 := ⟨⟨(tbl_at 1113 (by decide +kernel) (by decide +kernel)), (tbl_sel 49 (by decide +kernel) (by decide +kernel))⟩, (tbl_at 10 (by decide +kernel) (by decide +kernel)), (tbl_at 1114 rfl rfl), by decide, by decide, by decide +kernel⟩
theorem tw_X0_102 : Cond.methodLink RX0 102 yX2_find ∈ TBL := (tbl_at 500 (by decide +kernel) (by decide +kernel))
theorem tw_X0_106 : Cond.fieldLink RX0 106 "TreeJoiner$Forest" "sizes" "[I" ∈ TBL := (tbl_at 110 (by decide +kernel) (by decide +kernel))
theorem tw_X0_109 : Cond.methodLink RX0 109 yX1_row ∈ TBL := (tbl_at 520 (by decide +kernel) (by decide +kernel))
theorem tw_X0_112 : Cond.methodLink RX0 112 yX1_hasWord ∈ TBL := (tbl_at 521 (by decide +kernel) (by decide +kernel))
theorem tw_X0_116 : Cond.methodLink RX0 116 yX0_lay ∈ TBL := (tbl_at 525 (by decide +kernel) (by decide +kernel))
theorem tw_X0_120 : Cond.methodLink RX0 120 yX0_reckonNode ∈ TBL := (tbl_at 539 (by decide +kernel) (by decide +kernel))
theorem tw_X0_124 : Cond.methodLink RX0 124 yX0_reckonOnward ∈ TBL := (tbl_at 571 (by decide +kernel) (by decide +kernel))
theorem tw_X0_127 : Cond.methodLink RX0 127 yX0_initialWays ∈ TBL := (tbl_at 543 (by decide +kernel) (by decide +kernel))
theorem tw_X0_131 : Cond.methodLink RX0 131 yX0_reckonInner ∈ TBL := (tbl_at 547 (by decide +kernel) (by decide +kernel))
theorem tw_X0_134 : Cond.methodLink RX0 134 yX0_partsWays ∈ TBL := (tbl_at 551 (by decide +kernel) (by decide +kernel))
theorem tw_X0_137 : Cond.methodLink RX0 137 yX0_narrowest ∈ TBL := (tbl_at 555 (by decide +kernel) (by decide +kernel))
theorem tw_X0_140 : Cond.methodLink RX0 140 yX0_lastBegin ∈ TBL := (tbl_at 559 (by decide +kernel) (by decide +kernel))
theorem tw_X0_143 : Cond.methodLink RX0 143 Lib.Math.max.name ∈ TBL := (tbl_at 563 (by decide +kernel) (by decide +kernel))
theorem tw_X0_148 : Cond.methodLink RX0 148 yX0_cut ∈ TBL := (tbl_at 566 (by decide +kernel) (by decide +kernel))
theorem tw_X0_152 : Cond.methodLink RX0 152 yX0_nodeWays ∈ TBL := (tbl_at 575 (by decide +kernel) (by decide +kernel))
theorem tw_X0_155 : Cond.methodLink RX0 155 yX0_lastSplit ∈ TBL := (tbl_at 579 (by decide +kernel) (by decide +kernel))
theorem tw_X0_158 : Cond.methodLink RX0 158 yX0_firstSplit ∈ TBL := (tbl_at 584 (by decide +kernel) (by decide +kernel))
theorem tw_X0_16 : Cond.fieldLink RX0 16 "TreeJoiner$Chart" "single" "[I" ∈ TBL := (tbl_at 203 (by decide +kernel) (by decide +kernel))
theorem tw_X0_161 : Cond.methodLink RX0 161 yX0_headWays ∈ TBL := (tbl_at 588 (by decide +kernel) (by decide +kernel))
theorem tw_X0_164 : Cond.methodLink RX0 164 yX0_tailWays ∈ TBL := (tbl_at 592 (by decide +kernel) (by decide +kernel))
theorem tw_X0_167 : Cond.methodLink RX0 167 yX0_addAuxiliary ∈ TBL := (tbl_at 600 (by decide +kernel) (by decide +kernel))
theorem tw_X0_171 : Cond.fieldLink RX0 171 "TreeJoiner$Chart" "SECOND" "[I" ∈ TBL := (tbl_at 533 (by decide +kernel) (by decide +kernel))
theorem tw_X0_174 : Cond.fieldLink RX0 174 "TreeJoiner$Chart" "THIRD" "[I" ∈ TBL := (tbl_at 535 (by decide +kernel) (by decide +kernel))
theorem tw_X0_177 : Cond.fieldLink RX0 177 "TreeJoiner$Chart" "FOURTH" "[I" ∈ TBL := (tbl_at 537 (by decide +kernel) (by decide +kernel))
theorem tw_X0_19 : Cond.fieldLink RX0 19 "TreeJoiner$Chart" "onward" "[I" ∈ TBL := (tbl_at 204 (by decide +kernel) (by decide +kernel))
theorem tw_X0_22 : Cond.fieldLink RX0 22 "TreeJoiner$Chart" "initial" "[I" ∈ TBL := (tbl_at 205 (by decide +kernel) (by decide +kernel))
theorem tw_X0_25 : Cond.fieldLink RX0 25 "TreeJoiner$Chart" "auxiliary" "[I" ∈ TBL := (tbl_at 206 (by decide +kernel) (by decide +kernel))
theorem tw_X0_28 : Cond.fieldLink RX0 28 "TreeJoiner$Chart" "auxiliaryTrees" "[I" ∈ TBL := (tbl_at 207 (by decide +kernel) (by decide +kernel))
theorem tw_X0_31 : Cond.fieldLink RX0 31 "TreeJoiner$Chart" "forest" "LTreeJoiner$Forest;" ∈ TBL := (tbl_at 201 (by decide +kernel) (by decide +kernel))
theorem tw_X0_35 : Cond.constantLong RX0 35 (Int64.ofInt 1000000000) ∈ TBL := (tbl_at 569 (by decide +kernel) (by decide +kernel))
theorem tw_X0_37 : Cond.constant RX0 37 (Int32.ofInt 1000000000) ∈ TBL := (tbl_at 570 (by decide +kernel) (by decide +kernel))
theorem tw_X0_38 : Cond.methodLink RX0 38 yX0_at ∈ TBL := (tbl_at 530 (by decide +kernel) (by decide +kernel))
theorem tw_X0_42 : Cond.methodLink RX0 42 yX1_hasFoot ∈ TBL := (tbl_at 583 (by decide +kernel) (by decide +kernel))
theorem tw_X0_48 : Cond.methodLink RX0 48 yX1_cell ∈ TBL := (tbl_at 529 (by decide +kernel) (by decide +kernel))
theorem tw_X0_52 : Cond.methodLink RX0 52 yX0_hear ∈ TBL := (tbl_at 495 (by decide +kernel) (by decide +kernel))
theorem tw_X0_56 : Cond.methodLink RX0 56 yJ7_fill_53178 ∈ TBL := (tbl_at 501 (by decide +kernel) (by decide +kernel))
theorem tw_X0_62 : Cond.fieldLink RX0 62 "TreeJoiner$Forest" "trees" "I" ∈ TBL := (tbl_at 115 (by decide +kernel) (by decide +kernel))
theorem tw_X0_66 : Cond.methodLink RX0 66 yX1_isAuxiliary ∈ TBL := (tbl_at 504 (by decide +kernel) (by decide +kernel))
theorem tw_X0_69 : Cond.methodLink RX0 69 yX1_rootLabel ∈ TBL := (tbl_at 512 (by decide +kernel) (by decide +kernel))
theorem tw_X0_73 : Cond.fieldLink RX0 73 "TreeJoiner$Chart" "length" "I" ∈ TBL := (tbl_at 200 (by decide +kernel) (by decide +kernel))
theorem tw_X0_76 : Cond.methodLink RX0 76 yX0_layAll ∈ TBL := (tbl_at 516 (by decide +kernel) (by decide +kernel))
theorem tw_X0_80 : Cond.methodLink RX0 80 yX0_addTree ∈ TBL := (tbl_at 596 (by decide +kernel) (by decide +kernel))
theorem tw_X0_84 : Cond.fieldLink RX0 84 "TreeJoiner$Names" "size" "I" ∈ TBL := (tbl_at 88 (by decide +kernel) (by decide +kernel))
theorem tw_X0_89 : Cond.methodLink RX0 89 yX2_begin ∈ TBL := (tbl_at 499 (by decide +kernel) (by decide +kernel))
theorem tw_X0_9 : Cond.fieldLink RX0 9 "TreeJoiner$Chart" "said" "[I" ∈ TBL := (tbl_at 202 (by decide +kernel) (by decide +kernel))
theorem tw_X0_92 : Cond.fieldLink RX0 92 "TreeJoiner$Forest" "words" "LTreeJoiner$Names;" ∈ TBL := (tbl_at 104 (by decide +kernel) (by decide +kernel))
theorem tw_X0_96 : Cond.fieldLink RX0 96 "TreeJoiner$Names" "letters" "[I" ∈ TBL := (tbl_at 80 (by decide +kernel) (by decide +kernel))
theorem tw_X0_99 : Cond.fieldLink RX0 99 "TreeJoiner$Names" "lengths" "[I" ∈ TBL := (tbl_at 83 (by decide +kernel) (by decide +kernel))
theorem tw_X1_23 : Cond.fieldLink RX1 23 "TreeJoiner$Forest" "sizes" "[I" ∈ TBL := (tbl_at 105 (by decide +kernel) (by decide +kernel))
theorem tw_X1_27 : Cond.fieldLink RX1 27 "TreeJoiner$Forest" "cells" "[I" ∈ TBL := (tbl_at 111 (by decide +kernel) (by decide +kernel))
theorem tw_X1_30 : Cond.methodLink RX1 30 yX1_cell ∈ TBL := (tbl_at 407 (by decide +kernel) (by decide +kernel))
theorem tw_X1_34 : Cond.methodLink RX1 34 yX1_row ∈ TBL := (tbl_at 400 (by decide +kernel) (by decide +kernel))
theorem tw_X1_37 : Cond.methodLink RX1 37 yX1_hasFoot ∈ TBL := (tbl_at 508 (by decide +kernel) (by decide +kernel))
theorem tw_X1_41 : Cond.methodLink RX1 41 yX1_set ∈ TBL := (tbl_at 403 (by decide +kernel) (by decide +kernel))
theorem tw_X1_45 : Cond.methodLink RX1 45 yX1_nextPart ∈ TBL := (tbl_at 446 (by decide +kernel) (by decide +kernel))
theorem tw_X1_48 : Cond.fieldLink RX1 48 "TreeJoiner$Forest" "OF_LEAF" "[I" ∈ TBL := (tbl_at 450 (by decide +kernel) (by decide +kernel))
theorem tw_X2_15 : Cond.fieldLink RX2 15 "TreeJoiner$Names" "letters" "[I" ∈ TBL := (tbl_at 78 (by decide +kernel) (by decide +kernel))
theorem tw_X2_19 : Cond.fieldLink RX2 19 "TreeJoiner$Names" "lengths" "[I" ∈ TBL := (tbl_at 81 (by decide +kernel) (by decide +kernel))
theorem tw_X2_22 : Cond.fieldLink RX2 22 "TreeJoiner$Names" "size" "I" ∈ TBL := (tbl_at 85 (by decide +kernel) (by decide +kernel))
theorem tw_X2_25 : Cond.methodLink RX2 25 yX2_isFull ∈ TBL := (tbl_at 388 (by decide +kernel) (by decide +kernel))
theorem tw_X2_29 : Cond.methodLink RX2 29 yX2_begin ∈ TBL := (tbl_at 372 (by decide +kernel) (by decide +kernel))
theorem tw_X2_33 : Cond.methodLink RX2 33 arraycopyName ∈ TBL := (tbl_at 389 (by decide +kernel) (by decide +kernel))
theorem tw_X2_39 : Cond.methodLink RX2 39 yX2_isSame ∈ TBL := (tbl_at 376 (by decide +kernel) (by decide +kernel))
theorem tw_X2_9 : Cond.fieldLink RX2 9 "TreeJoiner$Names" "width" "I" ∈ TBL := (tbl_at 77 (by decide +kernel) (by decide +kernel))
theorem tw_X3_14 : Cond.fieldLink RX3 14 "TreeJoiner$Sentence" "words" "LTreeJoiner$Names;" ∈ TBL := (tbl_at 183 (by decide +kernel) (by decide +kernel))
theorem tw_X3_20 : Cond.fieldLink RX3 20 "TreeJoiner$Sentence" "tape" "LTreeJoiner$Tape;" ∈ TBL := (tbl_at 185 (by decide +kernel) (by decide +kernel))
theorem tw_X3_24 : Cond.methodLink RX3 24 yX3_findFault ∈ TBL := (tbl_at 464 (by decide +kernel) (by decide +kernel))
theorem tw_X3_28 : Cond.methodLink RX3 28 yX3_take ∈ TBL := (tbl_at 474 (by decide +kernel) (by decide +kernel))
theorem tw_X3_31 : Cond.methodLink RX3 31 yX4_rewind ∈ TBL := (tbl_at 468 (by decide +kernel) (by decide +kernel))
theorem tw_X3_36 : Cond.methodLink RX3 36 yX4_advance ∈ TBL := (tbl_at 469 (by decide +kernel) (by decide +kernel))
theorem tw_X3_39 : Cond.fieldLink RX3 39 "TreeJoiner$Tape" "token" "I" ∈ TBL := (tbl_at 41 (by decide +kernel) (by decide +kernel))
theorem tw_X3_43 : Cond.methodLink RX3 43 yX4_misplaced ∈ TBL := (tbl_at 470 (by decide +kernel) (by decide +kernel))
theorem tw_X3_46 : Cond.fieldLink RX3 46 "TreeJoiner$Names" "size" "I" ∈ TBL := (tbl_at 86 (by decide +kernel) (by decide +kernel))
theorem tw_X3_49 : Cond.fieldLink RX3 49 "TreeJoiner$Tape" "bytes" "[I" ∈ TBL := (tbl_at 36 (by decide +kernel) (by decide +kernel))
theorem tw_X3_53 : Cond.fieldLink RX3 53 "TreeJoiner$Tape" "start" "I" ∈ TBL := (tbl_at 46 (by decide +kernel) (by decide +kernel))
theorem tw_X3_56 : Cond.fieldLink RX3 56 "TreeJoiner$Tape" "stop" "I" ∈ TBL := (tbl_at 50 (by decide +kernel) (by decide +kernel))
theorem tw_X3_59 : Cond.methodLink RX3 59 yX2_add ∈ TBL := (tbl_at 478 (by decide +kernel) (by decide +kernel))
theorem tw_X4_15 : Cond.fieldLink RX4 15 "TreeJoiner$Tape" "length" "I" ∈ TBL := (tbl_at 40 (by decide +kernel) (by decide +kernel))
theorem tw_X4_19 : Cond.fieldLink RX4 19 "TreeJoiner$Tape" "stop" "I" ∈ TBL := (tbl_at 49 (by decide +kernel) (by decide +kernel))
theorem tw_X4_22 : Cond.methodLink RX4 22 yX4_skipBlanks ∈ TBL := (tbl_at 329 (by decide +kernel) (by decide +kernel))
theorem tw_X4_25 : Cond.fieldLink RX4 25 "TreeJoiner$Tape" "start" "I" ∈ TBL := (tbl_at 45 (by decide +kernel) (by decide +kernel))
theorem tw_X4_28 : Cond.fieldLink RX4 28 "TreeJoiner$Tape" "token" "I" ∈ TBL := (tbl_at 42 (by decide +kernel) (by decide +kernel))
theorem tw_X4_31 : Cond.methodLink RX4 31 yX4_isGreat ∈ TBL := (tbl_at 336 (by decide +kernel) (by decide +kernel))
theorem tw_X4_35 : Cond.methodLink RX4 35 yX4_takeLabel ∈ TBL := (tbl_at 339 (by decide +kernel) (by decide +kernel))
theorem tw_X4_38 : Cond.methodLink RX4 38 yX4_isSmall ∈ TBL := (tbl_at 346 (by decide +kernel) (by decide +kernel))
theorem tw_X4_41 : Cond.methodLink RX4 41 yX4_takeWord ∈ TBL := (tbl_at 349 (by decide +kernel) (by decide +kernel))
theorem tw_X4_44 : Cond.methodLink RX4 44 yX4_isSign ∈ TBL := (tbl_at 353 (by decide +kernel) (by decide +kernel))
theorem tw_X4_47 : Cond.methodLink RX4 47 yX4_isBlank ∈ TBL := (tbl_at 333 (by decide +kernel) (by decide +kernel))
theorem tw_X4_50 : Cond.methodLink RX4 50 yX4_isDigit ∈ TBL := (tbl_at 343 (by decide +kernel) (by decide +kernel))
theorem tw_X4_9 : Cond.fieldLink RX4 9 "TreeJoiner$Tape" "bytes" "[I" ∈ TBL := (tbl_at 35 (by decide +kernel) (by decide +kernel))
theorem tw_X5_101 : Cond.methodLink RX5 101 yX5_openParts ∈ TBL := (tbl_at 419 (by decide +kernel) (by decide +kernel))
theorem tw_X5_104 : Cond.methodLink RX5 104 yX5_closeParts ∈ TBL := (tbl_at 429 (by decide +kernel) (by decide +kernel))
theorem tw_X5_107 : Cond.methodLink RX5 107 yX5_takeName ∈ TBL := (tbl_at 364 (by decide +kernel) (by decide +kernel))
theorem tw_X5_111 : Cond.methodLink RX5 111 yX5_addLeaf ∈ TBL := (tbl_at 392 (by decide +kernel) (by decide +kernel))
theorem tw_X5_115 : Cond.fieldLink RX5 115 "TreeJoiner$TreeParser" "label" "I" ∈ TBL := (tbl_at 141 (by decide +kernel) (by decide +kernel))
theorem tw_X5_118 : Cond.fieldLink RX5 118 "TreeJoiner$TreeParser" "labelPlace" "I" ∈ TBL := (tbl_at 142 (by decide +kernel) (by decide +kernel))
theorem tw_X5_121 : Cond.fieldLink RX5 121 "TreeJoiner$TreeParser" "mark" "I" ∈ TBL := (tbl_at 143 (by decide +kernel) (by decide +kernel))
theorem tw_X5_124 : Cond.fieldLink RX5 124 "TreeJoiner$Tape" "bytes" "[I" ∈ TBL := (tbl_at 37 (by decide +kernel) (by decide +kernel))
theorem tw_X5_127 : Cond.fieldLink RX5 127 "TreeJoiner$Tape" "stop" "I" ∈ TBL := (tbl_at 51 (by decide +kernel) (by decide +kernel))
theorem tw_X5_130 : Cond.methodLink RX5 130 yX2_find ∈ TBL := (tbl_at 368 (by decide +kernel) (by decide +kernel))
theorem tw_X5_134 : Cond.methodLink RX5 134 yX2_isFull ∈ TBL := (tbl_at 380 (by decide +kernel) (by decide +kernel))
theorem tw_X5_138 : Cond.methodLink RX5 138 yX2_add ∈ TBL := (tbl_at 384 (by decide +kernel) (by decide +kernel))
theorem tw_X5_142 : Cond.methodLink RX5 142 yX5_noteFoot ∈ TBL := (tbl_at 425 (by decide +kernel) (by decide +kernel))
theorem tw_X5_145 : Cond.fieldLink RX5 145 "TreeJoiner$TreeParser" "footPlace" "I" ∈ TBL := (tbl_at 145 (by decide +kernel) (by decide +kernel))
theorem tw_X5_148 : Cond.fieldLink RX5 148 "TreeJoiner$TreeParser" "footLabel" "I" ∈ TBL := (tbl_at 146 (by decide +kernel) (by decide +kernel))
theorem tw_X5_15 : Cond.fieldLink RX5 15 "TreeJoiner$TreeParser" "forest" "LTreeJoiner$Forest;" ∈ TBL := (tbl_at 138 (by decide +kernel) (by decide +kernel))
theorem tw_X5_151 : Cond.methodLink RX5 151 yX1_addRow ∈ TBL := (tbl_at 396 (by decide +kernel) (by decide +kernel))
theorem tw_X5_155 : Cond.methodLink RX5 155 yX1_row ∈ TBL := (tbl_at 423 (by decide +kernel) (by decide +kernel))
theorem tw_X5_159 : Cond.methodLink RX5 159 yX1_set ∈ TBL := (tbl_at 424 (by decide +kernel) (by decide +kernel))
theorem tw_X5_163 : Cond.methodLink RX5 163 yX1_cell ∈ TBL := (tbl_at 433 (by decide +kernel) (by decide +kernel))
theorem tw_X5_166 : Cond.methodLink RX5 166 yX5_refuse ∈ TBL := (tbl_at 438 (by decide +kernel) (by decide +kernel))
theorem tw_X5_19 : Cond.fieldLink RX5 19 "TreeJoiner$Forest" "labels" "LTreeJoiner$Names;" ∈ TBL := (tbl_at 99 (by decide +kernel) (by decide +kernel))
theorem tw_X5_25 : Cond.fieldLink RX5 25 "TreeJoiner$Names" "size" "I" ∈ TBL := (tbl_at 84 (by decide +kernel) (by decide +kernel))
theorem tw_X5_31 : Cond.fieldLink RX5 31 "TreeJoiner$Forest" "words" "LTreeJoiner$Names;" ∈ TBL := (tbl_at 102 (by decide +kernel) (by decide +kernel))
theorem tw_X5_34 : Cond.methodLink RX5 34 yX5_begin ∈ TBL := (tbl_at 313 (by decide +kernel) (by decide +kernel))
theorem tw_X5_37 : Cond.methodLink RX5 37 yX5_takeTokens ∈ TBL := (tbl_at 321 (by decide +kernel) (by decide +kernel))
theorem tw_X5_40 : Cond.fieldLink RX5 40 "TreeJoiner$TreeParser" "code" "I" ∈ TBL := (tbl_at 133 (by decide +kernel) (by decide +kernel))
theorem tw_X5_43 : Cond.methodLink RX5 43 yX5_judge ∈ TBL := (tbl_at 434 (by decide +kernel) (by decide +kernel))
theorem tw_X5_46 : Cond.fieldLink RX5 46 "TreeJoiner$Forest" "trees" "I" ∈ TBL := (tbl_at 112 (by decide +kernel) (by decide +kernel))
theorem tw_X5_49 : Cond.methodLink RX5 49 yX1_link ∈ TBL := (tbl_at 442 (by decide +kernel) (by decide +kernel))
theorem tw_X5_53 : Cond.fieldLink RX5 53 "TreeJoiner$TreeParser" "place" "I" ∈ TBL := (tbl_at 135 (by decide +kernel) (by decide +kernel))
theorem tw_X5_56 : Cond.fieldLink RX5 56 "TreeJoiner$TreeParser" "state" "I" ∈ TBL := (tbl_at 139 (by decide +kernel) (by decide +kernel))
theorem tw_X5_59 : Cond.fieldLink RX5 59 "TreeJoiner$TreeParser" "parent" "I" ∈ TBL := (tbl_at 140 (by decide +kernel) (by decide +kernel))
theorem tw_X5_62 : Cond.fieldLink RX5 62 "TreeJoiner$TreeParser" "feet" "I" ∈ TBL := (tbl_at 144 (by decide +kernel) (by decide +kernel))
theorem tw_X5_65 : Cond.fieldLink RX5 65 "TreeJoiner$TreeParser" "hasWord" "Z" ∈ TBL := (tbl_at 147 (by decide +kernel) (by decide +kernel))
theorem tw_X5_69 : Cond.fieldLink RX5 69 "TreeJoiner$Forest" "sizes" "[I" ∈ TBL := (tbl_at 106 (by decide +kernel) (by decide +kernel))
theorem tw_X5_73 : Cond.methodLink RX5 73 yX4_rewind ∈ TBL := (tbl_at 317 (by decide +kernel) (by decide +kernel))
theorem tw_X5_78 : Cond.methodLink RX5 78 yX4_advance ∈ TBL := (tbl_at 325 (by decide +kernel) (by decide +kernel))
theorem tw_X5_81 : Cond.fieldLink RX5 81 "TreeJoiner$Tape" "token" "I" ∈ TBL := (tbl_at 43 (by decide +kernel) (by decide +kernel))
theorem tw_X5_84 : Cond.methodLink RX5 84 yX5_takeToken ∈ TBL := (tbl_at 356 (by decide +kernel) (by decide +kernel))
theorem tw_X5_88 : Cond.fieldLink RX5 88 "TreeJoiner$Tape" "start" "I" ∈ TBL := (tbl_at 47 (by decide +kernel) (by decide +kernel))
theorem tw_X5_9 : Cond.fieldLink RX5 9 "TreeJoiner$TreeParser" "tape" "LTreeJoiner$Tape;" ∈ TBL := (tbl_at 137 (by decide +kernel) (by decide +kernel))
theorem tw_X5_91 : Cond.methodLink RX5 91 yX5_takeNode ∈ TBL := (tbl_at 360 (by decide +kernel) (by decide +kernel))
theorem tw_X5_94 : Cond.methodLink RX5 94 yX5_takeKind ∈ TBL := (tbl_at 411 (by decide +kernel) (by decide +kernel))
theorem tw_X5_97 : Cond.methodLink RX5 97 yX4_isAt ∈ TBL := (tbl_at 415 (by decide +kernel) (by decide +kernel))
theorem tw_X6_102 : Cond.methodLink RX6 102 yX0_narrowest ∈ TBL := (tbl_at 805 (by decide +kernel) (by decide +kernel))
theorem tw_X6_105 : Cond.methodLink RX6 105 yX0_lastBegin ∈ TBL := (tbl_at 806 (by decide +kernel) (by decide +kernel))
theorem tw_X6_108 : Cond.methodLink RX6 108 Lib.Math.max.name ∈ TBL := (tbl_at 807 (by decide +kernel) (by decide +kernel))
theorem tw_X6_11 : Cond.fieldLink RX6 11 "TreeJoiner$Way" "useCells" "[I" ∈ TBL := (tbl_at 235 (by decide +kernel) (by decide +kernel))
theorem tw_X6_113 : Cond.methodLink RX6 113 yX0_cut ∈ TBL := (tbl_at 808 (by decide +kernel) (by decide +kernel))
theorem tw_X6_117 : Cond.methodLink RX6 117 yX6_splitOff ∈ TBL := (tbl_at 813 (by decide +kernel) (by decide +kernel))
theorem tw_X6_120 : Cond.methodLink RX6 120 yX1_hasFoot ∈ TBL := (tbl_at 817 (by decide +kernel) (by decide +kernel))
theorem tw_X6_123 : Cond.methodLink RX6 123 yX0_lastSplit ∈ TBL := (tbl_at 818 (by decide +kernel) (by decide +kernel))
theorem tw_X6_126 : Cond.methodLink RX6 126 yX0_firstSplit ∈ TBL := (tbl_at 819 (by decide +kernel) (by decide +kernel))
theorem tw_X6_129 : Cond.methodLink RX6 129 yX0_headWays ∈ TBL := (tbl_at 820 (by decide +kernel) (by decide +kernel))
theorem tw_X6_132 : Cond.methodLink RX6 132 yX0_tailWays ∈ TBL := (tbl_at 821 (by decide +kernel) (by decide +kernel))
theorem tw_X6_15 : Cond.fieldLink RX6 15 "TreeJoiner$Way" "nodeCells" "[I" ∈ TBL := (tbl_at 236 (by decide +kernel) (by decide +kernel))
theorem tw_X6_18 : Cond.fieldLink RX6 18 "TreeJoiner$Way" "forest" "LTreeJoiner$Forest;" ∈ TBL := (tbl_at 233 (by decide +kernel) (by decide +kernel))
theorem tw_X6_22 : Cond.fieldLink RX6 22 "TreeJoiner$Way" "chart" "LTreeJoiner$Chart;" ∈ TBL := (tbl_at 234 (by decide +kernel) (by decide +kernel))
theorem tw_X6_26 : Cond.fieldLink RX6 26 "TreeJoiner$Way" "uses" "I" ∈ TBL := (tbl_at 231 (by decide +kernel) (by decide +kernel))
theorem tw_X6_30 : Cond.fieldLink RX6 30 "TreeJoiner$Chart" "length" "I" ∈ TBL := (tbl_at 198 (by decide +kernel) (by decide +kernel))
theorem tw_X6_35 : Cond.methodLink RX6 35 yX6_startInitial ∈ TBL := (tbl_at 763 (by decide +kernel) (by decide +kernel))
theorem tw_X6_39 : Cond.methodLink RX6 39 yX6_unfoldUse ∈ TBL := (tbl_at 783 (by decide +kernel) (by decide +kernel))
theorem tw_X6_43 : Cond.methodLink RX6 43 yX6_useCell ∈ TBL := (tbl_at 787 (by decide +kernel) (by decide +kernel))
theorem tw_X6_47 : Cond.methodLink RX6 47 yX6_nodeCell ∈ TBL := (tbl_at 791 (by decide +kernel) (by decide +kernel))
theorem tw_X6_51 : Cond.fieldLink RX6 51 "TreeJoiner$Forest" "sizes" "[I" ∈ TBL := (tbl_at 107 (by decide +kernel) (by decide +kernel))
theorem tw_X6_56 : Cond.methodLink RX6 56 yX1_row ∈ TBL := (tbl_at 769 (by decide +kernel) (by decide +kernel))
theorem tw_X6_59 : Cond.methodLink RX6 59 yX1_cell ∈ TBL := (tbl_at 795 (by decide +kernel) (by decide +kernel))
theorem tw_X6_62 : Cond.methodLink RX6 62 yX6_startAuxiliary ∈ TBL := (tbl_at 796 (by decide +kernel) (by decide +kernel))
theorem tw_X6_65 : Cond.methodLink RX6 65 yX6_layParts ∈ TBL := (tbl_at 809 (by decide +kernel) (by decide +kernel))
theorem tw_X6_69 : Cond.methodLink RX6 69 yX6_setNodeCell ∈ TBL := (tbl_at 779 (by decide +kernel) (by decide +kernel))
theorem tw_X6_73 : Cond.fieldLink RX6 73 "TreeJoiner$Forest" "trees" "I" ∈ TBL := (tbl_at 114 (by decide +kernel) (by decide +kernel))
theorem tw_X6_76 : Cond.methodLink RX6 76 yX1_rootLabel ∈ TBL := (tbl_at 767 (by decide +kernel) (by decide +kernel))
theorem tw_X6_80 : Cond.methodLink RX6 80 yX1_isAuxiliary ∈ TBL := (tbl_at 768 (by decide +kernel) (by decide +kernel))
theorem tw_X6_84 : Cond.methodLink RX6 84 yX0_nodeWays ∈ TBL := (tbl_at 770 (by decide +kernel) (by decide +kernel))
theorem tw_X6_88 : Cond.methodLink RX6 88 yX6_addUse ∈ TBL := (tbl_at 771 (by decide +kernel) (by decide +kernel))
theorem tw_X6_91 : Cond.methodLink RX6 91 yX6_lay ∈ TBL := (tbl_at 775 (by decide +kernel) (by decide +kernel))
theorem tw_X6_95 : Cond.methodLink RX6 95 yX0_partsWays ∈ TBL := (tbl_at 800 (by decide +kernel) (by decide +kernel))
theorem tw_X6_98 : Cond.methodLink RX6 98 yX6_tryAuxiliary ∈ TBL := (tbl_at 801 (by decide +kernel) (by decide +kernel))
theorem tw_X7_11 : Cond.fieldLink RX7 11 "TreeJoiner$WholeTree" "cells" "[I" ∈ TBL := (tbl_at 258 (by decide +kernel) (by decide +kernel))
theorem tw_X7_15 : Cond.fieldLink RX7 15 "TreeJoiner$WholeTree" "waiting" "[I" ∈ TBL := (tbl_at 259 (by decide +kernel) (by decide +kernel))
theorem tw_X7_18 : Cond.fieldLink RX7 18 "TreeJoiner$WholeTree" "forest" "LTreeJoiner$Forest;" ∈ TBL := (tbl_at 256 (by decide +kernel) (by decide +kernel))
theorem tw_X7_22 : Cond.fieldLink RX7 22 "TreeJoiner$WholeTree" "way" "LTreeJoiner$Way;" ∈ TBL := (tbl_at 257 (by decide +kernel) (by decide +kernel))
theorem tw_X7_26 : Cond.fieldLink RX7 26 "TreeJoiner$WholeTree" "size" "I" ∈ TBL := (tbl_at 254 (by decide +kernel) (by decide +kernel))
theorem tw_X7_30 : Cond.fieldLink RX7 30 "TreeJoiner$WholeTree" "waitingSize" "I" ∈ TBL := (tbl_at 260 (by decide +kernel) (by decide +kernel))
theorem tw_X7_33 : Cond.methodLink RX7 33 yX7_push ∈ TBL := (tbl_at 826 (by decide +kernel) (by decide +kernel))
theorem tw_X7_37 : Cond.methodLink RX7 37 yX7_addInstead ∈ TBL := (tbl_at 830 (by decide +kernel) (by decide +kernel))
theorem tw_X7_42 : Cond.methodLink RX7 42 yX6_useCell ∈ TBL := (tbl_at 834 (by decide +kernel) (by decide +kernel))
theorem tw_X7_46 : Cond.methodLink RX7 46 yX1_row ∈ TBL := (tbl_at 835 (by decide +kernel) (by decide +kernel))
theorem tw_X7_51 : Cond.methodLink RX7 51 yX1_cell ∈ TBL := (tbl_at 836 (by decide +kernel) (by decide +kernel))
theorem tw_X7_54 : Cond.methodLink RX7 54 yX7_add ∈ TBL := (tbl_at 837 (by decide +kernel) (by decide +kernel))
theorem tw_X7_57 : Cond.methodLink RX7 57 yX6_nodeCell ∈ TBL := (tbl_at 841 (by decide +kernel) (by decide +kernel))
theorem tw_X7_61 : Cond.fieldLink RX7 61 "TreeJoiner$Forest" "sizes" "[I" ∈ TBL := (tbl_at 108 (by decide +kernel) (by decide +kernel))
theorem tw_X8_100 : Cond.fieldLink RX8 100 "TreeJoiner$TreeParser" "code" "I" ∈ TBL := (tbl_at 134 (by decide +kernel) (by decide +kernel))
theorem tw_X8_103 : Cond.fieldLink RX8 103 "TreeJoiner$TreeParser" "place" "I" ∈ TBL := (tbl_at 136 (by decide +kernel) (by decide +kernel))
theorem tw_X8_106 : Cond.methodLink RX8 106 yX8_forgetReading ∈ TBL := (tbl_at 452 (by decide +kernel) (by decide +kernel))
theorem tw_X8_109 : Cond.fieldLink RX8 109 "TreeJoiner$Forest" "trees" "I" ∈ TBL := (tbl_at 113 (by decide +kernel) (by decide +kernel))
theorem tw_X8_112 : Cond.methodLink RX8 112 yX3_parse ∈ TBL := (tbl_at 460 (by decide +kernel) (by decide +kernel))
theorem tw_X8_115 : Cond.fieldLink RX8 115 "TreeJoiner$Tape" "start" "I" ∈ TBL := (tbl_at 48 (by decide +kernel) (by decide +kernel))
theorem tw_X8_118 : Cond.fieldLink RX8 118 "TreeJoiner$Sentence" "words" "LTreeJoiner$Names;" ∈ TBL := (tbl_at 184 (by decide +kernel) (by decide +kernel))
theorem tw_X8_12 : Cond.fieldLink RX8 12 "TreeJoiner" "tape" "LTreeJoiner$Tape;" ∈ TBL := (tbl_at 274 (by decide +kernel) (by decide +kernel))
theorem tw_X8_122 : Cond.fieldLink RX8 122 "TreeJoiner$Names" "size" "I" ∈ TBL := (tbl_at 87 (by decide +kernel) (by decide +kernel))
theorem tw_X8_127 : Cond.methodLink RX8 127 yX8_parseLabel ∈ TBL := (tbl_at 483 (by decide +kernel) (by decide +kernel))
theorem tw_X8_130 : Cond.methodLink RX8 130 yX0_fill ∈ TBL := (tbl_at 491 (by decide +kernel) (by decide +kernel))
theorem tw_X8_134 : Cond.fieldLink RX8 134 "TreeJoiner$Chart" "length" "I" ∈ TBL := (tbl_at 199 (by decide +kernel) (by decide +kernel))
theorem tw_X8_135 : Cond.methodLink RX8 135 yX0_initialWays ∈ TBL := (tbl_at 604 (by decide +kernel) (by decide +kernel))
theorem tw_X8_156 : Cond.fieldLink RX8 156 "TreeJoiner$Way" "uses" "I" ∈ TBL := (tbl_at 232 (by decide +kernel) (by decide +kernel))
theorem tw_X8_167 : Cond.fieldLink RX8 167 "TreeJoiner$WholeTree" "size" "I" ∈ TBL := (tbl_at 255 (by decide +kernel) (by decide +kernel))
theorem tw_X8_187 : Cond.fieldLink RX8 187 "TreeJoiner$Forest" "words" "LTreeJoiner$Names;" ∈ TBL := (tbl_at 103 (by decide +kernel) (by decide +kernel))
theorem tw_X8_188 : Cond.fieldLink RX8 188 "TreeJoiner$Forest" "labels" "LTreeJoiner$Names;" ∈ TBL := (tbl_at 100 (by decide +kernel) (by decide +kernel))
theorem tw_X8_19 : Cond.fieldLink RX8 19 "TreeJoiner" "forest" "LTreeJoiner$Forest;" ∈ TBL := (tbl_at 275 (by decide +kernel) (by decide +kernel))
theorem tw_X8_205 : Cond.methodLink RX8 205 yX4_rewind ∈ TBL := (tbl_at 487 (by decide +kernel) (by decide +kernel))
theorem tw_X8_208 : Cond.methodLink RX8 208 yX4_advance ∈ TBL := (tbl_at 488 (by decide +kernel) (by decide +kernel))
theorem tw_X8_211 : Cond.fieldLink RX8 211 "TreeJoiner$Tape" "token" "I" ∈ TBL := (tbl_at 44 (by decide +kernel) (by decide +kernel))
theorem tw_X8_214 : Cond.methodLink RX8 214 yX4_misplaced ∈ TBL := (tbl_at 489 (by decide +kernel) (by decide +kernel))
theorem tw_X8_217 : Cond.fieldLink RX8 217 "TreeJoiner$Tape" "bytes" "[I" ∈ TBL := (tbl_at 38 (by decide +kernel) (by decide +kernel))
theorem tw_X8_220 : Cond.fieldLink RX8 220 "TreeJoiner$Tape" "stop" "I" ∈ TBL := (tbl_at 52 (by decide +kernel) (by decide +kernel))
theorem tw_X8_223 : Cond.methodLink RX8 223 yX2_find ∈ TBL := (tbl_at 490 (by decide +kernel) (by decide +kernel))
theorem tw_X8_28 : Cond.fieldLink RX8 28 "TreeJoiner" "treeParser" "LTreeJoiner$TreeParser;" ∈ TBL := (tbl_at 276 (by decide +kernel) (by decide +kernel))
theorem tw_X8_37 : Cond.fieldLink RX8 37 "TreeJoiner" "spoken" "LTreeJoiner$Sentence;" ∈ TBL := (tbl_at 277 (by decide +kernel) (by decide +kernel))
theorem tw_X8_46 : Cond.fieldLink RX8 46 "TreeJoiner" "chart" "LTreeJoiner$Chart;" ∈ TBL := (tbl_at 278 (by decide +kernel) (by decide +kernel))
theorem tw_X8_55 : Cond.fieldLink RX8 55 "TreeJoiner" "way" "LTreeJoiner$Way;" ∈ TBL := (tbl_at 279 (by decide +kernel) (by decide +kernel))
theorem tw_X8_64 : Cond.fieldLink RX8 64 "TreeJoiner" "wholeTree" "LTreeJoiner$WholeTree;" ∈ TBL := (tbl_at 280 (by decide +kernel) (by decide +kernel))
theorem tw_X8_68 : Cond.fieldLink RX8 68 "TreeJoiner" "faultCode" "I" ∈ TBL := (tbl_at 281 (by decide +kernel) (by decide +kernel))
theorem tw_X8_72 : Cond.fieldLink RX8 72 "TreeJoiner" "readLabel" "I" ∈ TBL := (tbl_at 282 (by decide +kernel) (by decide +kernel))
theorem tw_X8_75 : Cond.fieldLink RX8 75 "TreeJoiner" "ways" "I" ∈ TBL := (tbl_at 283 (by decide +kernel) (by decide +kernel))
theorem tw_X8_78 : Cond.fieldLink RX8 78 "TreeJoiner$Tape" "length" "I" ∈ TBL := (tbl_at 39 (by decide +kernel) (by decide +kernel))
theorem tw_X8_97 : Cond.methodLink RX8 97 yX5_parse ∈ TBL := (tbl_at 309 (by decide +kernel) (by decide +kernel))
theorem tw_X9_101 : Cond.fieldLink RX9 101 "TreeJoinerModel" "jobWays" "[J" ∈ TBL := (tbl_at 948 (by decide +kernel) (by decide +kernel))
theorem tw_X9_104 : Cond.fieldLink RX9 104 "TreeJoinerModel" "wholeCells" "[I" ∈ TBL := (tbl_at 950 (by decide +kernel) (by decide +kernel))
theorem tw_X9_107 : Cond.fieldLink RX9 107 "TreeJoinerModel" "code" "I" ∈ TBL := (tbl_at 901 (by decide +kernel) (by decide +kernel))
theorem tw_X9_111 : Cond.fieldLink RX9 111 "TreeJoinerModel" "length" "I" ∈ TBL := (tbl_at 903 (by decide +kernel) (by decide +kernel))
theorem tw_X9_114 : Cond.fieldLink RX9 114 "TreeJoinerModel" "faultCode" "I" ∈ TBL := (tbl_at 904 (by decide +kernel) (by decide +kernel))
theorem tw_X9_117 : Cond.fieldLink RX9 117 "TreeJoinerModel" "faultPlace" "I" ∈ TBL := (tbl_at 905 (by decide +kernel) (by decide +kernel))
theorem tw_X9_120 : Cond.fieldLink RX9 120 "TreeJoinerModel" "to" "I" ∈ TBL := (tbl_at 930 (by decide +kernel) (by decide +kernel))
theorem tw_X9_123 : Cond.fieldLink RX9 123 "TreeJoinerModel" "from" "I" ∈ TBL := (tbl_at 929 (by decide +kernel) (by decide +kernel))
theorem tw_X9_126 : Cond.methodLink RX9 126 yX9_at ∈ TBL := (tbl_at 1085 (by decide +kernel) (by decide +kernel))
theorem tw_X9_13 : Cond.fieldLink RX9 13 "TreeJoinerModel" "labels" "[B" ∈ TBL := (tbl_at 906 (by decide +kernel) (by decide +kernel))
theorem tw_X9_130 : Cond.fieldLink RX9 130 "TreeJoinerModel" "token" "I" ∈ TBL := (tbl_at 928 (by decide +kernel) (by decide +kernel))
theorem tw_X9_133 : Cond.methodLink RX9 133 yX9_isGreat ∈ TBL := (tbl_at 1089 (by decide +kernel) (by decide +kernel))
theorem tw_X9_137 : Cond.methodLink RX9 137 yX9_flaw ∈ TBL := (tbl_at 1092 (by decide +kernel) (by decide +kernel))
theorem tw_X9_141 : Cond.methodLink RX9 141 yX9_isSmall ∈ TBL := (tbl_at 1096 (by decide +kernel) (by decide +kernel))
theorem tw_X9_144 : Cond.methodLink RX9 144 yX9_next ∈ TBL := (tbl_at 1081 (by decide +kernel) (by decide +kernel))
theorem tw_X9_148 : Cond.fieldLink RX9 148 "TreeJoinerModel" "labelCount" "I" ∈ TBL := (tbl_at 908 (by decide +kernel) (by decide +kernel))
theorem tw_X9_151 : Cond.fieldLink RX9 151 "TreeJoinerModel" "wordCount" "I" ∈ TBL := (tbl_at 911 (by decide +kernel) (by decide +kernel))
theorem tw_X9_154 : Cond.fieldLink RX9 154 "TreeJoinerModel" "trees" "I" ∈ TBL := (tbl_at 924 (by decide +kernel) (by decide +kernel))
theorem tw_X9_157 : Cond.fieldLink RX9 157 "TreeJoinerModel" "many" "I" ∈ TBL := (tbl_at 931 (by decide +kernel) (by decide +kernel))
theorem tw_X9_16 : Cond.fieldLink RX9 16 "TreeJoinerModel" "labelLengths" "[I" ∈ TBL := (tbl_at 907 (by decide +kernel) (by decide +kernel))
theorem tw_X9_160 : Cond.methodLink RX9 160 yX9_word ∈ TBL := (tbl_at 1111 (by decide +kernel) (by decide +kernel))
theorem tw_X9_164 : Cond.methodLink RX9 164 yX9_label ∈ TBL := (tbl_at 1115 (by decide +kernel) (by decide +kernel))
theorem tw_X9_167 : Cond.methodLink RX9 167 yX9_here ∈ TBL := (tbl_at 1119 (by decide +kernel) (by decide +kernel))
theorem tw_X9_170 : Cond.fieldLink RX9 170 "TreeJoinerModel" "open" "I" ∈ TBL := (tbl_at 932 (by decide +kernel) (by decide +kernel))
theorem tw_X9_173 : Cond.methodLink RX9 173 yX9_link ∈ TBL := (tbl_at 1123 (by decide +kernel) (by decide +kernel))
theorem tw_X9_177 : Cond.methodLink RX9 177 yX9_newNode ∈ TBL := (tbl_at 1107 (by decide +kernel) (by decide +kernel))
theorem tw_X9_180 : Cond.fieldLink RX9 180 "TreeJoinerModel" "foot" "I" ∈ TBL := (tbl_at 933 (by decide +kernel) (by decide +kernel))
theorem tw_X9_183 : Cond.fieldLink RX9 183 "TreeJoinerModel" "secondPlace" "I" ∈ TBL := (tbl_at 935 (by decide +kernel) (by decide +kernel))
theorem tw_X9_186 : Cond.fieldLink RX9 186 "TreeJoinerModel" "footPlace" "I" ∈ TBL := (tbl_at 934 (by decide +kernel) (by decide +kernel))
theorem tw_X9_189 : Cond.methodLink RX9 189 yX9_cannot ∈ TBL := (tbl_at 1127 (by decide +kernel) (by decide +kernel))
theorem tw_X9_192 : Cond.methodLink RX9 192 yX9_labelled ∈ TBL := (tbl_at 1103 (by decide +kernel) (by decide +kernel))
theorem tw_X9_195 : Cond.methodLink RX9 195 yX9_starts ∈ TBL := (tbl_at 1077 (by decide +kernel) (by decide +kernel))
theorem tw_X9_198 : Cond.methodLink RX9 198 yX9_readTree ∈ TBL := (tbl_at 1099 (by decide +kernel) (by decide +kernel))
theorem tw_X9_20 : Cond.fieldLink RX9 20 "TreeJoinerModel" "words" "[B" ∈ TBL := (tbl_at 909 (by decide +kernel) (by decide +kernel))
theorem tw_X9_201 : Cond.methodLink RX9 201 yX9_look ∈ TBL := (tbl_at 1131 (by decide +kernel) (by decide +kernel))
theorem tw_X9_204 : Cond.methodLink RX9 204 yX9_isGood ∈ TBL := (tbl_at 1135 (by decide +kernel) (by decide +kernel))
theorem tw_X9_207 : Cond.methodLink RX9 207 yX9_forget ∈ TBL := (tbl_at 1139 (by decide +kernel) (by decide +kernel))
theorem tw_X9_210 : Cond.fieldLink RX9 210 "TreeJoinerModel" "wasRead" "Z" ∈ TBL := (tbl_at 936 (by decide +kernel) (by decide +kernel))
theorem tw_X9_214 : Cond.fieldLink RX9 214 "TreeJoinerModel" "uses" "I" ∈ TBL := (tbl_at 943 (by decide +kernel) (by decide +kernel))
theorem tw_X9_217 : Cond.fieldLink RX9 217 "TreeJoinerModel" "wholes" "I" ∈ TBL := (tbl_at 951 (by decide +kernel) (by decide +kernel))
theorem tw_X9_220 : Cond.fieldLink RX9 220 "TreeJoinerModel" "n" "I" ∈ TBL := (tbl_at 927 (by decide +kernel) (by decide +kernel))
theorem tw_X9_223 : Cond.methodLink RX9 223 yX9_key ∈ TBL := (tbl_at 1159 (by decide +kernel) (by decide +kernel))
theorem tw_X9_227 : Cond.constantLong RX9 227 (Int64.ofInt 1000000000) ∈ TBL := (tbl_at 1193 (by decide +kernel) (by decide +kernel))
theorem tw_X9_229 : Cond.methodLink RX9 229 yX9_lie ∈ TBL := (tbl_at 1178 (by decide +kernel) (by decide +kernel))
theorem tw_X9_23 : Cond.fieldLink RX9 23 "TreeJoinerModel" "wordLengths" "[I" ∈ TBL := (tbl_at 910 (by decide +kernel) (by decide +kernel))
theorem tw_X9_233 : Cond.methodLink RX9 233 yX9_run ∈ TBL := (tbl_at 1186 (by decide +kernel) (by decide +kernel))
theorem tw_X9_236 : Cond.methodLink RX9 236 yX9_least ∈ TBL := (tbl_at 1190 (by decide +kernel) (by decide +kernel))
theorem tw_X9_240 : Cond.methodLink RX9 240 yX9_split ∈ TBL := (tbl_at 1182 (by decide +kernel) (by decide +kernel))
theorem tw_X9_244 : Cond.methodLink RX9 244 yX9_isWord ∈ TBL := (tbl_at 1198 (by decide +kernel) (by decide +kernel))
theorem tw_X9_247 : Cond.methodLink RX9 247 yX9_isFor ∈ TBL := (tbl_at 1202 (by decide +kernel) (by decide +kernel))
theorem tw_X9_251 : Cond.methodLink RX9 251 yX9_set ∈ TBL := (tbl_at 1206 (by decide +kernel) (by decide +kernel))
theorem tw_X9_255 : Cond.methodLink RX9 255 yX9_fill ∈ TBL := (tbl_at 1166 (by decide +kernel) (by decide +kernel))
theorem tw_X9_259 : Cond.methodLink RX9 259 yX9_put ∈ TBL := (tbl_at 1170 (by decide +kernel) (by decide +kernel))
theorem tw_X9_26 : Cond.fieldLink RX9 26 "TreeJoinerModel" "kinds" "[I" ∈ TBL := (tbl_at 912 (by decide +kernel) (by decide +kernel))
theorem tw_X9_263 : Cond.methodLink RX9 263 yX9_reckonRun ∈ TBL := (tbl_at 1174 (by decide +kernel) (by decide +kernel))
theorem tw_X9_266 : Cond.methodLink RX9 266 yX9_reckonLie ∈ TBL := (tbl_at 1194 (by decide +kernel) (by decide +kernel))
theorem tw_X9_269 : Cond.fieldLink RX9 269 "TreeJoinerModel" "goal" "I" ∈ TBL := (tbl_at 938 (by decide +kernel) (by decide +kernel))
theorem tw_X9_272 : Cond.methodLink RX9 272 yX9_number ∈ TBL := (tbl_at 1155 (by decide +kernel) (by decide +kernel))
theorem tw_X9_275 : Cond.methodLink RX9 275 yX9_reckon ∈ TBL := (tbl_at 1162 (by decide +kernel) (by decide +kernel))
theorem tw_X9_279 : Cond.methodLink RX9 279 yX9_isGoal ∈ TBL := (tbl_at 1210 (by decide +kernel) (by decide +kernel))
theorem tw_X9_282 : Cond.fieldLink RX9 282 "TreeJoinerModel" "jobCount" "I" ∈ TBL := (tbl_at 949 (by decide +kernel) (by decide +kernel))
theorem tw_X9_285 : Cond.methodLink RX9 285 yX9_job ∈ TBL := (tbl_at 1222 (by decide +kernel) (by decide +kernel))
theorem tw_X9_289 : Cond.methodLink RX9 289 yX9_takeTree ∈ TBL := (tbl_at 1218 (by decide +kernel) (by decide +kernel))
theorem tw_X9_29 : Cond.fieldLink RX9 29 "TreeJoinerModel" "names" "[I" ∈ TBL := (tbl_at 913 (by decide +kernel) (by decide +kernel))
theorem tw_X9_293 : Cond.methodLink RX9 293 yX9_layOn ∈ TBL := (tbl_at 1226 (by decide +kernel) (by decide +kernel))
theorem tw_X9_297 : Cond.methodLink RX9 297 yX9_lay ∈ TBL := (tbl_at 1230 (by decide +kernel) (by decide +kernel))
theorem tw_X9_300 : Cond.methodLink RX9 300 yX9_build ∈ TBL := (tbl_at 1234 (by decide +kernel) (by decide +kernel))
theorem tw_X9_303 : Cond.methodLink RX9 303 yX9_later ∈ TBL := (tbl_at 1238 (by decide +kernel) (by decide +kernel))
theorem tw_X9_307 : Cond.methodLink RX9 307 yX9_show ∈ TBL := (tbl_at 1242 (by decide +kernel) (by decide +kernel))
theorem tw_X9_32 : Cond.fieldLink RX9 32 "TreeJoinerModel" "aboves" "[I" ∈ TBL := (tbl_at 914 (by decide +kernel) (by decide +kernel))
theorem tw_X9_35 : Cond.fieldLink RX9 35 "TreeJoinerModel" "parts" "[I" ∈ TBL := (tbl_at 915 (by decide +kernel) (by decide +kernel))
theorem tw_X9_38 : Cond.fieldLink RX9 38 "TreeJoinerModel" "signs" "[I" ∈ TBL := (tbl_at 916 (by decide +kernel) (by decide +kernel))
theorem tw_X9_41 : Cond.fieldLink RX9 41 "TreeJoinerModel" "nexts" "[I" ∈ TBL := (tbl_at 917 (by decide +kernel) (by decide +kernel))
theorem tw_X9_44 : Cond.fieldLink RX9 44 "TreeJoinerModel" "firsts" "[I" ∈ TBL := (tbl_at 918 (by decide +kernel) (by decide +kernel))
theorem tw_X9_47 : Cond.fieldLink RX9 47 "TreeJoinerModel" "hasFoot" "[Z" ∈ TBL := (tbl_at 919 (by decide +kernel) (by decide +kernel))
theorem tw_X9_51 : Cond.fieldLink RX9 51 "TreeJoinerModel" "hasWord" "[Z" ∈ TBL := (tbl_at 920 (by decide +kernel) (by decide +kernel))
theorem tw_X9_54 : Cond.fieldLink RX9 54 "TreeJoinerModel" "footOn" "[Z" ∈ TBL := (tbl_at 921 (by decide +kernel) (by decide +kernel))
theorem tw_X9_57 : Cond.fieldLink RX9 57 "TreeJoinerModel" "wordOn" "[Z" ∈ TBL := (tbl_at 922 (by decide +kernel) (by decide +kernel))
theorem tw_X9_60 : Cond.fieldLink RX9 60 "TreeJoinerModel" "nodeCounts" "[I" ∈ TBL := (tbl_at 923 (by decide +kernel) (by decide +kernel))
theorem tw_X9_63 : Cond.fieldLink RX9 63 "TreeJoinerModel" "sentence" "[B" ∈ TBL := (tbl_at 925 (by decide +kernel) (by decide +kernel))
theorem tw_X9_66 : Cond.fieldLink RX9 66 "TreeJoinerModel" "sentenceLengths" "[I" ∈ TBL := (tbl_at 926 (by decide +kernel) (by decide +kernel))
theorem tw_X9_69 : Cond.constantLong RX9 69 (Int64.ofInt (-1)) ∈ TBL := (tbl_at 899 (by decide +kernel) (by decide +kernel))
theorem tw_X9_7 : Cond.fieldLink RX9 7 "TreeJoinerModel" "tape" "[B" ∈ TBL := (tbl_at 902 (by decide +kernel) (by decide +kernel))
theorem tw_X9_71 : Cond.fieldLink RX9 71 "TreeJoinerModel" "ways" "J" ∈ TBL := (tbl_at 937 (by decide +kernel) (by decide +kernel))
theorem tw_X9_75 : Cond.fieldLink RX9 75 "TreeJoinerModel" "spans" "[I" ∈ TBL := (tbl_at 939 (by decide +kernel) (by decide +kernel))
theorem tw_X9_78 : Cond.constant RX9 78 (Int32.ofInt 95040) ∈ TBL := (tbl_at 900 (by decide +kernel) (by decide +kernel))
theorem tw_X9_79 : Cond.fieldLink RX9 79 "TreeJoinerModel" "lies" "[J" ∈ TBL := (tbl_at 940 (by decide +kernel) (by decide +kernel))
theorem tw_X9_83 : Cond.fieldLink RX9 83 "TreeJoinerModel" "runs" "[J" ∈ TBL := (tbl_at 941 (by decide +kernel) (by decide +kernel))
theorem tw_X9_86 : Cond.fieldLink RX9 86 "TreeJoinerModel" "useCells" "[I" ∈ TBL := (tbl_at 942 (by decide +kernel) (by decide +kernel))
theorem tw_X9_89 : Cond.fieldLink RX9 89 "TreeJoinerModel" "nodeFrom" "[I" ∈ TBL := (tbl_at 944 (by decide +kernel) (by decide +kernel))
theorem tw_X9_92 : Cond.fieldLink RX9 92 "TreeJoinerModel" "nodeTo" "[I" ∈ TBL := (tbl_at 945 (by decide +kernel) (by decide +kernel))
theorem tw_X9_95 : Cond.fieldLink RX9 95 "TreeJoinerModel" "nodeUse" "[I" ∈ TBL := (tbl_at 946 (by decide +kernel) (by decide +kernel))
theorem tw_X9_98 : Cond.fieldLink RX9 98 "TreeJoinerModel" "jobs" "[I" ∈ TBL := (tbl_at 947 (by decide +kernel) (by decide +kernel))
