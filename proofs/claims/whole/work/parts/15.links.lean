theorem kl_ac : Cond.arrayClass .int ∈ lw_tbl := List.mem_of_getElem? (i := 106) (by decide +kernel)
theorem kl_az : Cond.arrayClass .boolean ∈ lw_tbl := List.mem_of_getElem? (i := 765) (by decide +kernel)
theorem kl_oi : Cond.instanceMethod objectInit ∈ lw_tbl := List.mem_of_getElem? (i := 74) (by decide +kernel)
theorem kl_oc : Cond.code objectInit ⟨#[0xb1]⟩ 1 none ∈ lw_tbl := List.mem_of_getElem? (i := 75) rfl
set_option maxRecDepth 20000 in
theorem kl_cl0 : ∀ w ∈ u_ws RX0 TX0 6, w ∈ lw_tbl ∧ kw w = true := by decide +kernel
set_option maxRecDepth 20000 in
theorem kl_cl1 : ∀ w ∈ u_ws RX1 TX1 2, w ∈ lw_tbl ∧ kw w = true := by decide +kernel
set_option maxRecDepth 20000 in
theorem kl_cl2 : ∀ w ∈ u_ws RX2 TX2 10, w ∈ lw_tbl ∧ kw w = true := by decide +kernel
set_option maxRecDepth 20000 in
theorem kl_cl3 : ∀ w ∈ u_ws RX3 TX3 3, w ∈ lw_tbl ∧ kw w = true := by decide +kernel
set_option maxRecDepth 20000 in
theorem kl_cl4 : ∀ w ∈ u_ws RX4 TX4 4, w ∈ lw_tbl ∧ kw w = true := by decide +kernel
set_option maxRecDepth 20000 in
theorem kl_cl5 : ∀ w ∈ u_ws RX5 TX5 7, w ∈ lw_tbl ∧ kw w = true := by decide +kernel
set_option maxRecDepth 20000 in
theorem kl_cl6 : ∀ w ∈ u_ws RX6 TX6 2, w ∈ lw_tbl ∧ kw w = true := by decide +kernel
set_option maxRecDepth 20000 in
theorem kl_cl7 : ∀ w ∈ u_ws RX7 TX7 5, w ∈ lw_tbl ∧ kw w = true := by decide +kernel
set_option maxRecDepth 20000 in
theorem kl_cl8 : ∀ w ∈ u_ws RX8 TX8 14, w ∈ lw_tbl ∧ kw w = true := by decide +kernel
set_option maxRecDepth 40000 in
theorem ms_J7_copyOf_59c91 : MS yJ7_copyOf_59c91 cJ7_copyOf_59c91 3 (some (.array .int)) 2 := ⟨⟨List.mem_of_getElem? (i := 324) rfl, rfl⟩, ⟨List.mem_of_getElem? (i := 64) (by decide +kernel), rfl⟩, by decide +kernel⟩
theorem mt_J7_copyOf_59c91 : MT yJ7_copyOf_59c91 := ⟨List.mem_of_getElem? (i := 323) (by decide +kernel), rfl⟩
set_option maxRecDepth 40000 in
theorem ms_J7_fill_53178 : MS yJ7_fill_53178 cJ7_fill_53178 4 none 2 := ⟨⟨List.mem_of_getElem? (i := 217) rfl, rfl⟩, ⟨List.mem_of_getElem? (i := 64) (by decide +kernel), rfl⟩, by decide +kernel⟩
theorem mt_J7_fill_53178 : MT yJ7_fill_53178 := ⟨List.mem_of_getElem? (i := 216) (by decide +kernel), rfl⟩
set_option maxRecDepth 40000 in
theorem ms_J7_fill_fda19 : MS yJ7_fill_fda19 cJ7_fill_fda19 5 none 4 := ⟨⟨List.mem_of_getElem? (i := 464) rfl, rfl⟩, ⟨List.mem_of_getElem? (i := 64) (by decide +kernel), rfl⟩, by decide +kernel⟩
theorem mt_J7_fill_fda19 : MT yJ7_fill_fda19 := ⟨List.mem_of_getElem? (i := 463) (by decide +kernel), rfl⟩
set_option maxRecDepth 40000 in
theorem ms_J7_rangeCheck_23922 : MS yJ7_rangeCheck_23922 cJ7_rangeCheck_23922 3 none 3 := ⟨⟨List.mem_of_getElem? (i := 467) rfl, rfl⟩, ⟨List.mem_of_getElem? (i := 64) (by decide +kernel), rfl⟩, by decide +kernel⟩
theorem mt_J7_rangeCheck_23922 : MT yJ7_rangeCheck_23922 := ⟨List.mem_of_getElem? (i := 466) (by decide +kernel), rfl⟩
set_option maxRecDepth 40000 in
theorem ms_J9_max_7cf53 : MS yJ9_max_7cf53 cJ9_max_7cf53 2 (some .int) 2 := ⟨⟨List.mem_of_getElem? (i := 605) rfl, rfl⟩, ⟨List.mem_of_getElem? (i := 67) (by decide +kernel), rfl⟩, by decide +kernel⟩
theorem mt_J9_max_7cf53 : MT yJ9_max_7cf53 := ⟨List.mem_of_getElem? (i := 604) (by decide +kernel), rfl⟩
set_option maxRecDepth 40000 in
theorem ms_J9_min_7cf53 : MS yJ9_min_7cf53 cJ9_min_7cf53 2 (some .int) 2 := ⟨⟨List.mem_of_getElem? (i := 334) rfl, rfl⟩, ⟨List.mem_of_getElem? (i := 67) (by decide +kernel), rfl⟩, by decide +kernel⟩
theorem mt_J9_min_7cf53 : MT yJ9_min_7cf53 := ⟨List.mem_of_getElem? (i := 333) (by decide +kernel), rfl⟩
set_option maxRecDepth 40000 in
theorem ms_X0_allowsEdge : MS yX0_allowsEdge cX0_allowsEdge 6 (some .boolean) 3 := ⟨⟨List.mem_of_getElem? (i := 389) rfl, rfl⟩, ⟨List.mem_of_getElem? (i := 59) (by decide +kernel), rfl⟩, by decide +kernel⟩
theorem mv_X0_allowsEdge : MV yX0_allowsEdge 0 := ⟨⟨List.mem_of_getElem? (i := 387) (by decide +kernel), rfl⟩, ⟨List.mem_of_getElem? (i := 388) (by decide +kernel), rfl⟩, _, _, rfl⟩
set_option maxRecDepth 40000 in
theorem ms_X0_appendEdge : MS yX0_appendEdge cX0_appendEdge 4 (some .int) 3 := ⟨⟨List.mem_of_getElem? (i := 411) rfl, rfl⟩, ⟨List.mem_of_getElem? (i := 59) (by decide +kernel), rfl⟩, by decide +kernel⟩
theorem mv_X0_appendEdge : MV yX0_appendEdge 0 := ⟨⟨List.mem_of_getElem? (i := 409) (by decide +kernel), rfl⟩, ⟨List.mem_of_getElem? (i := 410) (by decide +kernel), rfl⟩, _, _, rfl⟩
set_option maxRecDepth 40000 in
theorem ms_X0_appendNode : MS yX0_appendNode cX0_appendNode 2 (some .int) 1 := ⟨⟨List.mem_of_getElem? (i := 354) rfl, rfl⟩, ⟨List.mem_of_getElem? (i := 59) (by decide +kernel), rfl⟩, by decide +kernel⟩
theorem mv_X0_appendNode : MV yX0_appendNode 0 := ⟨⟨List.mem_of_getElem? (i := 352) (by decide +kernel), rfl⟩, ⟨List.mem_of_getElem? (i := 353) (by decide +kernel), rfl⟩, _, _, rfl⟩
set_option maxRecDepth 40000 in
theorem ms_X0_contains : MS yX0_contains cX0_contains 2 (some .boolean) 2 := ⟨⟨List.mem_of_getElem? (i := 403) rfl, rfl⟩, ⟨List.mem_of_getElem? (i := 59) (by decide +kernel), rfl⟩, by decide +kernel⟩
theorem mt_X0_contains : MT yX0_contains := ⟨List.mem_of_getElem? (i := 402) (by decide +kernel), rfl⟩
set_option maxRecDepth 40000 in
theorem ms_X0_copyFrom : MS yX0_copyFrom cX0_copyFrom 2 none 1 := ⟨⟨List.mem_of_getElem? (i := 300) rfl, rfl⟩, ⟨List.mem_of_getElem? (i := 59) (by decide +kernel), rfl⟩, by decide +kernel⟩
theorem mv_X0_copyFrom : MV yX0_copyFrom 0 := ⟨⟨List.mem_of_getElem? (i := 298) (by decide +kernel), rfl⟩, ⟨List.mem_of_getElem? (i := 299) (by decide +kernel), rfl⟩, _, _, rfl⟩
set_option maxRecDepth 40000 in
theorem ms_X0_hasEdge : MS yX0_hasEdge cX0_hasEdge 2 (some .boolean) 1 := ⟨⟨List.mem_of_getElem? (i := 419) rfl, rfl⟩, ⟨List.mem_of_getElem? (i := 59) (by decide +kernel), rfl⟩, by decide +kernel⟩
theorem mv_X0_hasEdge : MV yX0_hasEdge 0 := ⟨⟨List.mem_of_getElem? (i := 417) (by decide +kernel), rfl⟩, ⟨List.mem_of_getElem? (i := 418) (by decide +kernel), rfl⟩, _, _, rfl⟩
set_option maxRecDepth 40000 in
theorem ms_X0_hasEdges : MS yX0_hasEdges cX0_hasEdges 2 (some .boolean) 1 := ⟨⟨List.mem_of_getElem? (i := 535) rfl, rfl⟩, ⟨List.mem_of_getElem? (i := 59) (by decide +kernel), rfl⟩, by decide +kernel⟩
theorem mv_X0_hasEdges : MV yX0_hasEdges 0 := ⟨⟨List.mem_of_getElem? (i := 533) (by decide +kernel), rfl⟩, ⟨List.mem_of_getElem? (i := 534) (by decide +kernel), rfl⟩, _, _, rfl⟩
set_option maxRecDepth 40000 in
theorem ms_X0_hasLocation : MS yX0_hasLocation cX0_hasLocation 2 (some .boolean) 1 := ⟨⟨List.mem_of_getElem? (i := 431) rfl, rfl⟩, ⟨List.mem_of_getElem? (i := 59) (by decide +kernel), rfl⟩, by decide +kernel⟩
theorem mv_X0_hasLocation : MV yX0_hasLocation 0 := ⟨⟨List.mem_of_getElem? (i := 429) (by decide +kernel), rfl⟩, ⟨List.mem_of_getElem? (i := 430) (by decide +kernel), rfl⟩, _, _, rfl⟩
set_option maxRecDepth 40000 in
theorem ms_X0_hasNode : MS yX0_hasNode cX0_hasNode 2 (some .boolean) 1 := ⟨⟨List.mem_of_getElem? (i := 381) rfl, rfl⟩, ⟨List.mem_of_getElem? (i := 59) (by decide +kernel), rfl⟩, by decide +kernel⟩
theorem mv_X0_hasNode : MV yX0_hasNode 0 := ⟨⟨List.mem_of_getElem? (i := 379) (by decide +kernel), rfl⟩, ⟨List.mem_of_getElem? (i := 380) (by decide +kernel), rfl⟩, _, _, rfl⟩
set_option maxRecDepth 40000 in
theorem ms_X0_hasTime : MS yX0_hasTime cX0_hasTime 4 (some .boolean) 2 := ⟨⟨List.mem_of_getElem? (i := 427) rfl, rfl⟩, ⟨List.mem_of_getElem? (i := 59) (by decide +kernel), rfl⟩, by decide +kernel⟩
theorem mv_X0_hasTime : MV yX0_hasTime 0 := ⟨⟨List.mem_of_getElem? (i := 425) (by decide +kernel), rfl⟩, ⟨List.mem_of_getElem? (i := 426) (by decide +kernel), rfl⟩, _, _, rfl⟩
set_option maxRecDepth 40000 in
theorem ms_X0_init : MS yX0_init cX0_init 1 none 0 := ⟨⟨List.mem_of_getElem? (i := 116) rfl, rfl⟩, ⟨List.mem_of_getElem? (i := 59) (by decide +kernel), rfl⟩, by decide +kernel⟩
theorem mi_X0_init : MI yX0_init := ⟨rfl, List.mem_of_getElem? (i := 115) (by decide +kernel), rfl⟩
set_option maxRecDepth 40000 in
theorem ms_X0_isAsLargeAs : MS yX0_isAsLargeAs cX0_isAsLargeAs 2 (some .boolean) 1 := ⟨⟨List.mem_of_getElem? (i := 680) rfl, rfl⟩, ⟨List.mem_of_getElem? (i := 59) (by decide +kernel), rfl⟩, by decide +kernel⟩
theorem mv_X0_isAsLargeAs : MV yX0_isAsLargeAs 0 := ⟨⟨List.mem_of_getElem? (i := 678) (by decide +kernel), rfl⟩, ⟨List.mem_of_getElem? (i := 679) (by decide +kernel), rfl⟩, _, _, rfl⟩
set_option maxRecDepth 40000 in
theorem ms_X0_kindBetween : MS yX0_kindBetween cX0_kindBetween 3 (some .int) 3 := ⟨⟨List.mem_of_getElem? (i := 396) rfl, rfl⟩, ⟨List.mem_of_getElem? (i := 59) (by decide +kernel), rfl⟩, by decide +kernel⟩
theorem mt_X0_kindBetween : MT yX0_kindBetween := ⟨List.mem_of_getElem? (i := 395) (by decide +kernel), rfl⟩
set_option maxRecDepth 40000 in
theorem ms_X0_putEdge : MS yX0_putEdge cX0_putEdge 4 none 3 := ⟨⟨List.mem_of_getElem? (i := 393) rfl, rfl⟩, ⟨List.mem_of_getElem? (i := 59) (by decide +kernel), rfl⟩, by decide +kernel⟩
theorem mv_X0_putEdge : MV yX0_putEdge 0 := ⟨⟨List.mem_of_getElem? (i := 392) (by decide +kernel), rfl⟩, ⟨List.mem_of_getElem? (i := 7) (by decide +kernel), rfl⟩, _, _, rfl⟩
set_option maxRecDepth 40000 in
theorem ms_X0_returnsWithoutFeedback : MS yX0_returnsWithoutFeedback cX0_returnsWithoutFeedback 6 (some .boolean) 1 := ⟨⟨List.mem_of_getElem? (i := 400) rfl, rfl⟩, ⟨List.mem_of_getElem? (i := 59) (by decide +kernel), rfl⟩, by decide +kernel⟩
theorem mv_X0_returnsWithoutFeedback : MV yX0_returnsWithoutFeedback 0 := ⟨⟨List.mem_of_getElem? (i := 399) (by decide +kernel), rfl⟩, ⟨List.mem_of_getElem? (i := 8) (by decide +kernel), rfl⟩, _, _, rfl⟩
set_option maxRecDepth 40000 in
theorem ms_X0_startAllAt : MS yX0_startAllAt cX0_startAllAt 4 (some .boolean) 2 := ⟨⟨List.mem_of_getElem? (i := 540) rfl, rfl⟩, ⟨List.mem_of_getElem? (i := 59) (by decide +kernel), rfl⟩, by decide +kernel⟩
theorem mv_X0_startAllAt : MV yX0_startAllAt 0 := ⟨⟨List.mem_of_getElem? (i := 538) (by decide +kernel), rfl⟩, ⟨List.mem_of_getElem? (i := 539) (by decide +kernel), rfl⟩, _, _, rfl⟩
set_option maxRecDepth 40000 in
theorem ms_X0_staysWithoutFeedback : MS yX0_staysWithoutFeedback cX0_staysWithoutFeedback 4 (some .boolean) 2 := ⟨⟨List.mem_of_getElem? (i := 407) rfl, rfl⟩, ⟨List.mem_of_getElem? (i := 59) (by decide +kernel), rfl⟩, by decide +kernel⟩
theorem mv_X0_staysWithoutFeedback : MV yX0_staysWithoutFeedback 0 := ⟨⟨List.mem_of_getElem? (i := 406) (by decide +kernel), rfl⟩, ⟨List.mem_of_getElem? (i := 9) (by decide +kernel), rfl⟩, _, _, rfl⟩
set_option maxRecDepth 40000 in
theorem ms_X0_timeAfter : MS yX0_timeAfter cX0_timeAfter 6 (some .int) 2 := ⟨⟨List.mem_of_getElem? (i := 437) rfl, rfl⟩, ⟨List.mem_of_getElem? (i := 59) (by decide +kernel), rfl⟩, by decide +kernel⟩
theorem mv_X0_timeAfter : MV yX0_timeAfter 0 := ⟨⟨List.mem_of_getElem? (i := 435) (by decide +kernel), rfl⟩, ⟨List.mem_of_getElem? (i := 436) (by decide +kernel), rfl⟩, _, _, rfl⟩
set_option maxRecDepth 40000 in
theorem ms_X1_copyFrom : MS yX1_copyFrom cX1_copyFrom 2 none 1 := ⟨⟨List.mem_of_getElem? (i := 307) rfl, rfl⟩, ⟨List.mem_of_getElem? (i := 60) (by decide +kernel), rfl⟩, by decide +kernel⟩
theorem mv_X1_copyFrom : MV yX1_copyFrom 1 := ⟨⟨List.mem_of_getElem? (i := 305) (by decide +kernel), rfl⟩, ⟨List.mem_of_getElem? (i := 306) (by decide +kernel), rfl⟩, _, _, rfl⟩
set_option maxRecDepth 40000 in
theorem ms_X1_init : MS yX1_init cX1_init 1 none 0 := ⟨⟨List.mem_of_getElem? (i := 151) rfl, rfl⟩, ⟨List.mem_of_getElem? (i := 60) (by decide +kernel), rfl⟩, by decide +kernel⟩
theorem mi_X1_init : MI yX1_init := ⟨rfl, List.mem_of_getElem? (i := 150) (by decide +kernel), rfl⟩
set_option maxRecDepth 40000 in
theorem ms_X1_isAnyFull : MS yX1_isAnyFull cX1_isAnyFull 4 (some .boolean) 2 := ⟨⟨List.mem_of_getElem? (i := 544) rfl, rfl⟩, ⟨List.mem_of_getElem? (i := 60) (by decide +kernel), rfl⟩, by decide +kernel⟩
theorem mv_X1_isAnyFull : MV yX1_isAnyFull 1 := ⟨⟨List.mem_of_getElem? (i := 542) (by decide +kernel), rfl⟩, ⟨List.mem_of_getElem? (i := 543) (by decide +kernel), rfl⟩, _, _, rfl⟩
set_option maxRecDepth 40000 in
theorem ms_X1_isFull : MS yX1_isFull cX1_isFull 3 (some .boolean) 2 := ⟨⟨List.mem_of_getElem? (i := 490) rfl, rfl⟩, ⟨List.mem_of_getElem? (i := 60) (by decide +kernel), rfl⟩, by decide +kernel⟩
theorem mv_X1_isFull : MV yX1_isFull 1 := ⟨⟨List.mem_of_getElem? (i := 488) (by decide +kernel), rfl⟩, ⟨List.mem_of_getElem? (i := 489) (by decide +kernel), rfl⟩, _, _, rfl⟩
set_option maxRecDepth 40000 in
theorem ms_X1_put : MS yX1_put cX1_put 5 none 3 := ⟨⟨List.mem_of_getElem? (i := 506) rfl, rfl⟩, ⟨List.mem_of_getElem? (i := 60) (by decide +kernel), rfl⟩, by decide +kernel⟩
theorem mv_X1_put : MV yX1_put 1 := ⟨⟨List.mem_of_getElem? (i := 504) (by decide +kernel), rfl⟩, ⟨List.mem_of_getElem? (i := 505) (by decide +kernel), rfl⟩, _, _, rfl⟩
set_option maxRecDepth 40000 in
theorem ms_X1_sizeOf : MS yX1_sizeOf cX1_sizeOf 3 (some .int) 2 := ⟨⟨List.mem_of_getElem? (i := 494) rfl, rfl⟩, ⟨List.mem_of_getElem? (i := 60) (by decide +kernel), rfl⟩, by decide +kernel⟩
theorem mv_X1_sizeOf : MV yX1_sizeOf 1 := ⟨⟨List.mem_of_getElem? (i := 492) (by decide +kernel), rfl⟩, ⟨List.mem_of_getElem? (i := 493) (by decide +kernel), rfl⟩, _, _, rfl⟩
set_option maxRecDepth 40000 in
theorem ms_X1_take : MS yX1_take cX1_take 6 (some .int) 2 := ⟨⟨List.mem_of_getElem? (i := 554) rfl, rfl⟩, ⟨List.mem_of_getElem? (i := 60) (by decide +kernel), rfl⟩, by decide +kernel⟩
theorem mv_X1_take : MV yX1_take 1 := ⟨⟨List.mem_of_getElem? (i := 552) (by decide +kernel), rfl⟩, ⟨List.mem_of_getElem? (i := 553) (by decide +kernel), rfl⟩, _, _, rfl⟩
set_option maxRecDepth 40000 in
theorem ms_X1_timeOf : MS yX1_timeOf cX1_timeOf 4 (some .int) 3 := ⟨⟨List.mem_of_getElem? (i := 627) rfl, rfl⟩, ⟨List.mem_of_getElem? (i := 60) (by decide +kernel), rfl⟩, by decide +kernel⟩
theorem mv_X1_timeOf : MV yX1_timeOf 1 := ⟨⟨List.mem_of_getElem? (i := 625) (by decide +kernel), rfl⟩, ⟨List.mem_of_getElem? (i := 626) (by decide +kernel), rfl⟩, _, _, rfl⟩
set_option maxRecDepth 40000 in
theorem ms_X2_appendNode : MS yX2_appendNode cX2_appendNode 5 (some .int) 2 := ⟨⟨List.mem_of_getElem? (i := 350) rfl, rfl⟩, ⟨List.mem_of_getElem? (i := 58) (by decide +kernel), rfl⟩, by decide +kernel⟩
theorem mv_X2_appendNode : MV yX2_appendNode 2 := ⟨⟨List.mem_of_getElem? (i := 348) (by decide +kernel), rfl⟩, ⟨List.mem_of_getElem? (i := 349) (by decide +kernel), rfl⟩, _, _, rfl⟩
set_option maxRecDepth 40000 in
theorem ms_X2_copyFrom : MS yX2_copyFrom cX2_copyFrom 3 none 1 := ⟨⟨List.mem_of_getElem? (i := 296) rfl, rfl⟩, ⟨List.mem_of_getElem? (i := 58) (by decide +kernel), rfl⟩, by decide +kernel⟩
theorem mv_X2_copyFrom : MV yX2_copyFrom 2 := ⟨⟨List.mem_of_getElem? (i := 294) (by decide +kernel), rfl⟩, ⟨List.mem_of_getElem? (i := 295) (by decide +kernel), rfl⟩, _, _, rfl⟩
set_option maxRecDepth 40000 in
theorem ms_X2_init : MS yX2_init cX2_init 2 none 0 := ⟨⟨List.mem_of_getElem? (i := 110) rfl, rfl⟩, ⟨List.mem_of_getElem? (i := 58) (by decide +kernel), rfl⟩, by decide +kernel⟩
theorem mi_X2_init : MI yX2_init := ⟨rfl, List.mem_of_getElem? (i := 109) (by decide +kernel), rfl⟩
set_option maxRecDepth 40000 in
theorem ms_X2_isInput : MS yX2_isInput cX2_isInput 2 (some .boolean) 1 := ⟨⟨List.mem_of_getElem? (i := 385) rfl, rfl⟩, ⟨List.mem_of_getElem? (i := 58) (by decide +kernel), rfl⟩, by decide +kernel⟩
theorem mv_X2_isInput : MV yX2_isInput 2 := ⟨⟨List.mem_of_getElem? (i := 383) (by decide +kernel), rfl⟩, ⟨List.mem_of_getElem? (i := 384) (by decide +kernel), rfl⟩, _, _, rfl⟩
set_option maxRecDepth 40000 in
theorem ms_X2_putMessage : MS yX2_putMessage cX2_putMessage 5 none 4 := ⟨⟨List.mem_of_getElem? (i := 502) rfl, rfl⟩, ⟨List.mem_of_getElem? (i := 58) (by decide +kernel), rfl⟩, by decide +kernel⟩
theorem mv_X2_putMessage : MV yX2_putMessage 2 := ⟨⟨List.mem_of_getElem? (i := 500) (by decide +kernel), rfl⟩, ⟨List.mem_of_getElem? (i := 501) (by decide +kernel), rfl⟩, _, _, rfl⟩
set_option maxRecDepth 40000 in
theorem ms_X2_putMessages : MS yX2_putMessages cX2_putMessages 6 none 4 := ⟨⟨List.mem_of_getElem? (i := 558) rfl, rfl⟩, ⟨List.mem_of_getElem? (i := 58) (by decide +kernel), rfl⟩, by decide +kernel⟩
theorem mv_X2_putMessages : MV yX2_putMessages 2 := ⟨⟨List.mem_of_getElem? (i := 556) (by decide +kernel), rfl⟩, ⟨List.mem_of_getElem? (i := 557) (by decide +kernel), rfl⟩, _, _, rfl⟩
set_option maxRecDepth 40000 in
theorem ms_X2_recordArrival : MS yX2_recordArrival cX2_recordArrival 4 none 2 := ⟨⟨List.mem_of_getElem? (i := 568) rfl, rfl⟩, ⟨List.mem_of_getElem? (i := 58) (by decide +kernel), rfl⟩, by decide +kernel⟩
theorem mv_X2_recordArrival : MV yX2_recordArrival 2 := ⟨⟨List.mem_of_getElem? (i := 566) (by decide +kernel), rfl⟩, ⟨List.mem_of_getElem? (i := 567) (by decide +kernel), rfl⟩, _, _, rfl⟩
set_option maxRecDepth 40000 in
theorem ms_X2_recordDelivery : MS yX2_recordDelivery cX2_recordDelivery 4 none 2 := ⟨⟨List.mem_of_getElem? (i := 602) rfl, rfl⟩, ⟨List.mem_of_getElem? (i := 58) (by decide +kernel), rfl⟩, by decide +kernel⟩
theorem mv_X2_recordDelivery : MV yX2_recordDelivery 2 := ⟨⟨List.mem_of_getElem? (i := 600) (by decide +kernel), rfl⟩, ⟨List.mem_of_getElem? (i := 601) (by decide +kernel), rfl⟩, _, _, rfl⟩
set_option maxRecDepth 40000 in
theorem ms_X2_update : MS yX2_update cX2_update 4 none 3 := ⟨⟨List.mem_of_getElem? (i := 510) rfl, rfl⟩, ⟨List.mem_of_getElem? (i := 58) (by decide +kernel), rfl⟩, by decide +kernel⟩
theorem mv_X2_update : MV yX2_update 2 := ⟨⟨List.mem_of_getElem? (i := 508) (by decide +kernel), rfl⟩, ⟨List.mem_of_getElem? (i := 509) (by decide +kernel), rfl⟩, _, _, rfl⟩
set_option maxRecDepth 40000 in
theorem ms_X3_add : MS yX3_add cX3_add 3 none 2 := ⟨⟨List.mem_of_getElem? (i := 514) rfl, rfl⟩, ⟨List.mem_of_getElem? (i := 63) (by decide +kernel), rfl⟩, by decide +kernel⟩
theorem mv_X3_add : MV yX3_add 3 := ⟨⟨List.mem_of_getElem? (i := 512) (by decide +kernel), rfl⟩, ⟨List.mem_of_getElem? (i := 513) (by decide +kernel), rfl⟩, _, _, rfl⟩
set_option maxRecDepth 40000 in
theorem ms_X3_copyFrom : MS yX3_copyFrom cX3_copyFrom 2 none 1 := ⟨⟨List.mem_of_getElem? (i := 340) rfl, rfl⟩, ⟨List.mem_of_getElem? (i := 63) (by decide +kernel), rfl⟩, by decide +kernel⟩
theorem mv_X3_copyFrom : MV yX3_copyFrom 3 := ⟨⟨List.mem_of_getElem? (i := 338) (by decide +kernel), rfl⟩, ⟨List.mem_of_getElem? (i := 339) (by decide +kernel), rfl⟩, _, _, rfl⟩
set_option maxRecDepth 40000 in
theorem ms_X3_init : MS yX3_init cX3_init 1 none 0 := ⟨⟨List.mem_of_getElem? (i := 202) rfl, rfl⟩, ⟨List.mem_of_getElem? (i := 63) (by decide +kernel), rfl⟩, by decide +kernel⟩
theorem mi_X3_init : MI yX3_init := ⟨rfl, List.mem_of_getElem? (i := 201) (by decide +kernel), rfl⟩
set_option maxRecDepth 40000 in
theorem ms_X3_makeRoomAtEnd : MS yX3_makeRoomAtEnd cX3_makeRoomAtEnd 2 none 0 := ⟨⟨List.mem_of_getElem? (i := 518) rfl, rfl⟩, ⟨List.mem_of_getElem? (i := 63) (by decide +kernel), rfl⟩, by decide +kernel⟩
theorem mv_X3_makeRoomAtEnd : MV yX3_makeRoomAtEnd 3 := ⟨⟨List.mem_of_getElem? (i := 517) (by decide +kernel), rfl⟩, ⟨List.mem_of_getElem? (i := 14) (by decide +kernel), rfl⟩, _, _, rfl⟩
set_option maxRecDepth 40000 in
theorem ms_X3_moveTo : MS yX3_moveTo cX3_moveTo 6 (some .int) 2 := ⟨⟨List.mem_of_getElem? (i := 613) rfl, rfl⟩, ⟨List.mem_of_getElem? (i := 63) (by decide +kernel), rfl⟩, by decide +kernel⟩
theorem mv_X3_moveTo : MV yX3_moveTo 3 := ⟨⟨List.mem_of_getElem? (i := 611) (by decide +kernel), rfl⟩, ⟨List.mem_of_getElem? (i := 612) (by decide +kernel), rfl⟩, _, _, rfl⟩
set_option maxRecDepth 40000 in
theorem ms_X4_change : MS yX4_change cX4_change 4 none 2 := ⟨⟨List.mem_of_getElem? (i := 361) rfl, rfl⟩, ⟨List.mem_of_getElem? (i := 62) (by decide +kernel), rfl⟩, by decide +kernel⟩
theorem mv_X4_change : MV yX4_change 4 := ⟨⟨List.mem_of_getElem? (i := 359) (by decide +kernel), rfl⟩, ⟨List.mem_of_getElem? (i := 360) (by decide +kernel), rfl⟩, _, _, rfl⟩
set_option maxRecDepth 40000 in
theorem ms_X4_copyFrom : MS yX4_copyFrom cX4_copyFrom 2 none 1 := ⟨⟨List.mem_of_getElem? (i := 317) rfl, rfl⟩, ⟨List.mem_of_getElem? (i := 62) (by decide +kernel), rfl⟩, by decide +kernel⟩
theorem mv_X4_copyFrom : MV yX4_copyFrom 4 := ⟨⟨List.mem_of_getElem? (i := 315) (by decide +kernel), rfl⟩, ⟨List.mem_of_getElem? (i := 316) (by decide +kernel), rfl⟩, _, _, rfl⟩
set_option maxRecDepth 40000 in
theorem ms_X4_countActive : MS yX4_countActive cX4_countActive 3 (some .int) 0 := ⟨⟨List.mem_of_getElem? (i := 656) rfl, rfl⟩, ⟨List.mem_of_getElem? (i := 62) (by decide +kernel), rfl⟩, by decide +kernel⟩
theorem mv_X4_countActive : MV yX4_countActive 4 := ⟨⟨List.mem_of_getElem? (i := 654) (by decide +kernel), rfl⟩, ⟨List.mem_of_getElem? (i := 655) (by decide +kernel), rfl⟩, _, _, rfl⟩
set_option maxRecDepth 40000 in
theorem ms_X4_countOf : MS yX4_countOf cX4_countOf 3 (some .int) 1 := ⟨⟨List.mem_of_getElem? (i := 647) rfl, rfl⟩, ⟨List.mem_of_getElem? (i := 62) (by decide +kernel), rfl⟩, by decide +kernel⟩
theorem mv_X4_countOf : MV yX4_countOf 4 := ⟨⟨List.mem_of_getElem? (i := 645) (by decide +kernel), rfl⟩, ⟨List.mem_of_getElem? (i := 646) (by decide +kernel), rfl⟩, _, _, rfl⟩
set_option maxRecDepth 40000 in
theorem ms_X4_firstRowFrom : MS yX4_firstRowFrom cX4_firstRowFrom 3 (some .int) 1 := ⟨⟨List.mem_of_getElem? (i := 365) rfl, rfl⟩, ⟨List.mem_of_getElem? (i := 62) (by decide +kernel), rfl⟩, by decide +kernel⟩
theorem mv_X4_firstRowFrom : MV yX4_firstRowFrom 4 := ⟨⟨List.mem_of_getElem? (i := 364) (by decide +kernel), rfl⟩, ⟨List.mem_of_getElem? (i := 4) (by decide +kernel), rfl⟩, _, _, rfl⟩
set_option maxRecDepth 40000 in
theorem ms_X4_init : MS yX4_init cX4_init 1 none 0 := ⟨⟨List.mem_of_getElem? (i := 180) rfl, rfl⟩, ⟨List.mem_of_getElem? (i := 62) (by decide +kernel), rfl⟩, by decide +kernel⟩
theorem mi_X4_init : MI yX4_init := ⟨rfl, List.mem_of_getElem? (i := 179) (by decide +kernel), rfl⟩
set_option maxRecDepth 40000 in
theorem ms_X4_insert : MS yX4_insert cX4_insert 4 none 3 := ⟨⟨List.mem_of_getElem? (i := 369) rfl, rfl⟩, ⟨List.mem_of_getElem? (i := 62) (by decide +kernel), rfl⟩, by decide +kernel⟩
theorem mv_X4_insert : MV yX4_insert 4 := ⟨⟨List.mem_of_getElem? (i := 368) (by decide +kernel), rfl⟩, ⟨List.mem_of_getElem? (i := 5) (by decide +kernel), rfl⟩, _, _, rfl⟩
set_option maxRecDepth 40000 in
theorem ms_X4_makeRoom : MS yX4_makeRoom cX4_makeRoom 3 none 1 := ⟨⟨List.mem_of_getElem? (i := 321) rfl, rfl⟩, ⟨List.mem_of_getElem? (i := 62) (by decide +kernel), rfl⟩, by decide +kernel⟩
theorem mv_X4_makeRoom : MV yX4_makeRoom 4 := ⟨⟨List.mem_of_getElem? (i := 320) (by decide +kernel), rfl⟩, ⟨List.mem_of_getElem? (i := 3) (by decide +kernel), rfl⟩, _, _, rfl⟩
set_option maxRecDepth 40000 in
theorem ms_X4_remove : MS yX4_remove cX4_remove 2 none 1 := ⟨⟨List.mem_of_getElem? (i := 373) rfl, rfl⟩, ⟨List.mem_of_getElem? (i := 62) (by decide +kernel), rfl⟩, by decide +kernel⟩
theorem mv_X4_remove : MV yX4_remove 4 := ⟨⟨List.mem_of_getElem? (i := 372) (by decide +kernel), rfl⟩, ⟨List.mem_of_getElem? (i := 6) (by decide +kernel), rfl⟩, _, _, rfl⟩
set_option maxRecDepth 40000 in
theorem ms_X4_rowOf : MS yX4_rowOf cX4_rowOf 3 (some .int) 1 := ⟨⟨List.mem_of_getElem? (i := 589) rfl, rfl⟩, ⟨List.mem_of_getElem? (i := 62) (by decide +kernel), rfl⟩, by decide +kernel⟩
theorem mv_X4_rowOf : MV yX4_rowOf 4 := ⟨⟨List.mem_of_getElem? (i := 587) (by decide +kernel), rfl⟩, ⟨List.mem_of_getElem? (i := 588) (by decide +kernel), rfl⟩, _, _, rfl⟩
set_option maxRecDepth 40000 in
theorem ms_X5_addPlace : MS yX5_addPlace cX5_addPlace 4 none 2 := ⟨⟨List.mem_of_getElem? (i := 471) rfl, rfl⟩, ⟨List.mem_of_getElem? (i := 57) (by decide +kernel), rfl⟩, by decide +kernel⟩
theorem mv_X5_addPlace : MV yX5_addPlace 5 := ⟨⟨List.mem_of_getElem? (i := 470) (by decide +kernel), rfl⟩, ⟨List.mem_of_getElem? (i := 12) (by decide +kernel), rfl⟩, _, _, rfl⟩
set_option maxRecDepth 40000 in
theorem ms_X5_forget : MS yX5_forget cX5_forget 1 none 0 := ⟨⟨List.mem_of_getElem? (i := 346) rfl, rfl⟩, ⟨List.mem_of_getElem? (i := 57) (by decide +kernel), rfl⟩, by decide +kernel⟩
theorem mv_X5_forget : MV yX5_forget 5 := ⟨⟨List.mem_of_getElem? (i := 344) (by decide +kernel), rfl⟩, ⟨List.mem_of_getElem? (i := 345) (by decide +kernel), rfl⟩, _, _, rfl⟩
set_option maxRecDepth 40000 in
theorem ms_X5_init : MS yX5_init cX5_init 1 none 0 := ⟨⟨List.mem_of_getElem? (i := 82) rfl, rfl⟩, ⟨List.mem_of_getElem? (i := 57) (by decide +kernel), rfl⟩, by decide +kernel⟩
theorem mi_X5_init : MI yX5_init := ⟨rfl, List.mem_of_getElem? (i := 81) (by decide +kernel), rfl⟩
set_option maxRecDepth 40000 in
theorem ms_X5_lead : MS yX5_lead cX5_lead 6 (some .boolean) 3 := ⟨⟨List.mem_of_getElem? (i := 446) rfl, rfl⟩, ⟨List.mem_of_getElem? (i := 57) (by decide +kernel), rfl⟩, by decide +kernel⟩
theorem mv_X5_lead : MV yX5_lead 5 := ⟨⟨List.mem_of_getElem? (i := 444) (by decide +kernel), rfl⟩, ⟨List.mem_of_getElem? (i := 445) (by decide +kernel), rfl⟩, _, _, rfl⟩
set_option maxRecDepth 40000 in
theorem ms_X5_leastCounters : MS yX5_leastCounters cX5_leastCounters 5 (some .int) 3 := ⟨⟨List.mem_of_getElem? (i := 450) rfl, rfl⟩, ⟨List.mem_of_getElem? (i := 57) (by decide +kernel), rfl⟩, by decide +kernel⟩
theorem mv_X5_leastCounters : MV yX5_leastCounters 5 := ⟨⟨List.mem_of_getElem? (i := 448) (by decide +kernel), rfl⟩, ⟨List.mem_of_getElem? (i := 449) (by decide +kernel), rfl⟩, _, _, rfl⟩
set_option maxRecDepth 40000 in
theorem ms_X5_makeRows : MS yX5_makeRows cX5_makeRows 1 none 0 := ⟨⟨List.mem_of_getElem? (i := 457) rfl, rfl⟩, ⟨List.mem_of_getElem? (i := 57) (by decide +kernel), rfl⟩, by decide +kernel⟩
theorem mv_X5_makeRows : MV yX5_makeRows 5 := ⟨⟨List.mem_of_getElem? (i := 456) (by decide +kernel), rfl⟩, ⟨List.mem_of_getElem? (i := 10) (by decide +kernel), rfl⟩, _, _, rfl⟩
set_option maxRecDepth 40000 in
theorem ms_X5_search : MS yX5_search cX5_search 8 none 2 := ⟨⟨List.mem_of_getElem? (i := 461) rfl, rfl⟩, ⟨List.mem_of_getElem? (i := 57) (by decide +kernel), rfl⟩, by decide +kernel⟩
theorem mv_X5_search : MV yX5_search 5 := ⟨⟨List.mem_of_getElem? (i := 460) (by decide +kernel), rfl⟩, ⟨List.mem_of_getElem? (i := 11) (by decide +kernel), rfl⟩, _, _, rfl⟩
set_option maxRecDepth 40000 in
theorem ms_X6_copyFrom : MS yX6_copyFrom cX6_copyFrom 2 none 1 := ⟨⟨List.mem_of_getElem? (i := 312) rfl, rfl⟩, ⟨List.mem_of_getElem? (i := 61) (by decide +kernel), rfl⟩, by decide +kernel⟩
theorem mv_X6_copyFrom : MV yX6_copyFrom 6 := ⟨⟨List.mem_of_getElem? (i := 310) (by decide +kernel), rfl⟩, ⟨List.mem_of_getElem? (i := 311) (by decide +kernel), rfl⟩, _, _, rfl⟩
set_option maxRecDepth 40000 in
theorem ms_X6_countAt : MS yX6_countAt cX6_countAt 5 (some .int) 2 := ⟨⟨List.mem_of_getElem? (i := 635) rfl, rfl⟩, ⟨List.mem_of_getElem? (i := 61) (by decide +kernel), rfl⟩, by decide +kernel⟩
theorem mv_X6_countAt : MV yX6_countAt 6 := ⟨⟨List.mem_of_getElem? (i := 633) (by decide +kernel), rfl⟩, ⟨List.mem_of_getElem? (i := 634) (by decide +kernel), rfl⟩, _, _, rfl⟩
set_option maxRecDepth 40000 in
theorem ms_X6_init : MS yX6_init cX6_init 1 none 0 := ⟨⟨List.mem_of_getElem? (i := 164) rfl, rfl⟩, ⟨List.mem_of_getElem? (i := 61) (by decide +kernel), rfl⟩, by decide +kernel⟩
theorem mi_X6_init : MI yX6_init := ⟨rfl, List.mem_of_getElem? (i := 163) (by decide +kernel), rfl⟩
set_option maxRecDepth 40000 in
theorem ms_X6_isFull : MS yX6_isFull cX6_isFull 2 (some .boolean) 1 := ⟨⟨List.mem_of_getElem? (i := 550) rfl, rfl⟩, ⟨List.mem_of_getElem? (i := 61) (by decide +kernel), rfl⟩, by decide +kernel⟩
theorem mv_X6_isFull : MV yX6_isFull 6 := ⟨⟨List.mem_of_getElem? (i := 548) (by decide +kernel), rfl⟩, ⟨List.mem_of_getElem? (i := 549) (by decide +kernel), rfl⟩, _, _, rfl⟩
set_option maxRecDepth 40000 in
theorem ms_X6_put : MS yX6_put cX6_put 3 none 2 := ⟨⟨List.mem_of_getElem? (i := 564) rfl, rfl⟩, ⟨List.mem_of_getElem? (i := 61) (by decide +kernel), rfl⟩, by decide +kernel⟩
theorem mv_X6_put : MV yX6_put 6 := ⟨⟨List.mem_of_getElem? (i := 562) (by decide +kernel), rfl⟩, ⟨List.mem_of_getElem? (i := 563) (by decide +kernel), rfl⟩, _, _, rfl⟩
set_option maxRecDepth 40000 in
theorem ms_X6_remove : MS yX6_remove cX6_remove 4 none 2 := ⟨⟨List.mem_of_getElem? (i := 597) rfl, rfl⟩, ⟨List.mem_of_getElem? (i := 61) (by decide +kernel), rfl⟩, by decide +kernel⟩
theorem mv_X6_remove : MV yX6_remove 6 := ⟨⟨List.mem_of_getElem? (i := 595) (by decide +kernel), rfl⟩, ⟨List.mem_of_getElem? (i := 596) (by decide +kernel), rfl⟩, _, _, rfl⟩
set_option maxRecDepth 40000 in
theorem ms_X6_sizeOf : MS yX6_sizeOf cX6_sizeOf 2 (some .int) 1 := ⟨⟨List.mem_of_getElem? (i := 581) rfl, rfl⟩, ⟨List.mem_of_getElem? (i := 61) (by decide +kernel), rfl⟩, by decide +kernel⟩
theorem mv_X6_sizeOf : MV yX6_sizeOf 6 := ⟨⟨List.mem_of_getElem? (i := 579) (by decide +kernel), rfl⟩, ⟨List.mem_of_getElem? (i := 580) (by decide +kernel), rfl⟩, _, _, rfl⟩
set_option maxRecDepth 40000 in
theorem ms_X6_stampAt : MS yX6_stampAt cX6_stampAt 3 (some .int) 2 := ⟨⟨List.mem_of_getElem? (i := 585) rfl, rfl⟩, ⟨List.mem_of_getElem? (i := 61) (by decide +kernel), rfl⟩, by decide +kernel⟩
theorem mv_X6_stampAt : MV yX6_stampAt 6 := ⟨⟨List.mem_of_getElem? (i := 583) (by decide +kernel), rfl⟩, ⟨List.mem_of_getElem? (i := 584) (by decide +kernel), rfl⟩, _, _, rfl⟩
set_option maxRecDepth 40000 in
theorem ms_X7_active : MS yX7_active cX7_active 2 (some .int) 1 := ⟨⟨List.mem_of_getElem? (i := 652) rfl, rfl⟩, ⟨List.mem_of_getElem? (i := 56) (by decide +kernel), rfl⟩, by decide +kernel⟩
theorem mv_X7_active : MV yX7_active 7 := ⟨⟨List.mem_of_getElem? (i := 650) (by decide +kernel), rfl⟩, ⟨List.mem_of_getElem? (i := 651) (by decide +kernel), rfl⟩, _, _, rfl⟩
set_option maxRecDepth 40000 in
theorem ms_X7_addEdge : MS yX7_addEdge cX7_addEdge 5 (some .int) 3 := ⟨⟨List.mem_of_getElem? (i := 377) rfl, rfl⟩, ⟨List.mem_of_getElem? (i := 56) (by decide +kernel), rfl⟩, by decide +kernel⟩
theorem mv_X7_addEdge : MV yX7_addEdge 7 := ⟨⟨List.mem_of_getElem? (i := 375) (by decide +kernel), rfl⟩, ⟨List.mem_of_getElem? (i := 376) (by decide +kernel), rfl⟩, _, _, rfl⟩
set_option maxRecDepth 40000 in
theorem ms_X7_addNode : MS yX7_addNode cX7_addNode 3 (some .int) 2 := ⟨⟨List.mem_of_getElem? (i := 277) rfl, rfl⟩, ⟨List.mem_of_getElem? (i := 56) (by decide +kernel), rfl⟩, by decide +kernel⟩
theorem mv_X7_addNode : MV yX7_addNode 7 := ⟨⟨List.mem_of_getElem? (i := 275) (by decide +kernel), rfl⟩, ⟨List.mem_of_getElem? (i := 276) (by decide +kernel), rfl⟩, _, _, rfl⟩
set_option maxRecDepth 40000 in
theorem ms_X7_advance : MS yX7_advance cX7_advance 3 (some .int) 1 := ⟨⟨List.mem_of_getElem? (i := 522) rfl, rfl⟩, ⟨List.mem_of_getElem? (i := 56) (by decide +kernel), rfl⟩, by decide +kernel⟩
theorem mv_X7_advance : MV yX7_advance 7 := ⟨⟨List.mem_of_getElem? (i := 520) (by decide +kernel), rfl⟩, ⟨List.mem_of_getElem? (i := 521) (by decide +kernel), rfl⟩, _, _, rfl⟩
set_option maxRecDepth 40000 in
theorem ms_X7_beginEvent : MS yX7_beginEvent cX7_beginEvent 1 none 0 := ⟨⟨List.mem_of_getElem? (i := 498) rfl, rfl⟩, ⟨List.mem_of_getElem? (i := 56) (by decide +kernel), rfl⟩, by decide +kernel⟩
theorem mv_X7_beginEvent : MV yX7_beginEvent 7 := ⟨⟨List.mem_of_getElem? (i := 497) (by decide +kernel), rfl⟩, ⟨List.mem_of_getElem? (i := 13) (by decide +kernel), rfl⟩, _, _, rfl⟩
set_option maxRecDepth 40000 in
theorem ms_X7_close : MS yX7_close cX7_close 3 (some .int) 1 := ⟨⟨List.mem_of_getElem? (i := 527) rfl, rfl⟩, ⟨List.mem_of_getElem? (i := 56) (by decide +kernel), rfl⟩, by decide +kernel⟩
theorem mv_X7_close : MV yX7_close 7 := ⟨⟨List.mem_of_getElem? (i := 525) (by decide +kernel), rfl⟩, ⟨List.mem_of_getElem? (i := 526) (by decide +kernel), rfl⟩, _, _, rfl⟩
set_option maxRecDepth 40000 in
theorem ms_X7_couldResultIn : MS yX7_couldResultIn cX7_couldResultIn 5 (some .int) 4 := ⟨⟨List.mem_of_getElem? (i := 441) rfl, rfl⟩, ⟨List.mem_of_getElem? (i := 56) (by decide +kernel), rfl⟩, by decide +kernel⟩
theorem mv_X7_couldResultIn : MV yX7_couldResultIn 7 := ⟨⟨List.mem_of_getElem? (i := 439) (by decide +kernel), rfl⟩, ⟨List.mem_of_getElem? (i := 440) (by decide +kernel), rfl⟩, _, _, rfl⟩
set_option maxRecDepth 40000 in
theorem ms_X7_count : MS yX7_count cX7_count 4 (some .int) 3 := ⟨⟨List.mem_of_getElem? (i := 643) rfl, rfl⟩, ⟨List.mem_of_getElem? (i := 56) (by decide +kernel), rfl⟩, by decide +kernel⟩
theorem mv_X7_count : MV yX7_count 7 := ⟨⟨List.mem_of_getElem? (i := 641) (by decide +kernel), rfl⟩, ⟨List.mem_of_getElem? (i := 642) (by decide +kernel), rfl⟩, _, _, rfl⟩
set_option maxRecDepth 40000 in
theorem ms_X7_countersOf : MS yX7_countersOf cX7_countersOf 1 (some .int) 1 := ⟨⟨List.mem_of_getElem? (i := 453) rfl, rfl⟩, ⟨List.mem_of_getElem? (i := 56) (by decide +kernel), rfl⟩, by decide +kernel⟩
theorem mt_X7_countersOf : MT yX7_countersOf := ⟨List.mem_of_getElem? (i := 452) (by decide +kernel), rfl⟩
set_option maxRecDepth 40000 in
theorem ms_X7_deliver : MS yX7_deliver cX7_deliver 7 (some .int) 4 := ⟨⟨List.mem_of_getElem? (i := 573) rfl, rfl⟩, ⟨List.mem_of_getElem? (i := 56) (by decide +kernel), rfl⟩, by decide +kernel⟩
theorem mv_X7_deliver : MV yX7_deliver 7 := ⟨⟨List.mem_of_getElem? (i := 571) (by decide +kernel), rfl⟩, ⟨List.mem_of_getElem? (i := 572) (by decide +kernel), rfl⟩, _, _, rfl⟩
set_option maxRecDepth 40000 in
theorem ms_X7_deliverable : MS yX7_deliverable cX7_deliverable 3 (some .int) 2 := ⟨⟨List.mem_of_getElem? (i := 639) rfl, rfl⟩, ⟨List.mem_of_getElem? (i := 56) (by decide +kernel), rfl⟩, by decide +kernel⟩
theorem mv_X7_deliverable : MV yX7_deliverable 7 := ⟨⟨List.mem_of_getElem? (i := 637) (by decide +kernel), rfl⟩, ⟨List.mem_of_getElem? (i := 638) (by decide +kernel), rfl⟩, _, _, rfl⟩
set_option maxRecDepth 40000 in
theorem ms_X7_delivered : MS yX7_delivered cX7_delivered 1 (some .int) 0 := ⟨⟨List.mem_of_getElem? (i := 668) rfl, rfl⟩, ⟨List.mem_of_getElem? (i := 56) (by decide +kernel), rfl⟩, by decide +kernel⟩
theorem mv_X7_delivered : MV yX7_delivered 7 := ⟨⟨List.mem_of_getElem? (i := 666) (by decide +kernel), rfl⟩, ⟨List.mem_of_getElem? (i := 667) (by decide +kernel), rfl⟩, _, _, rfl⟩
set_option maxRecDepth 40000 in
theorem ms_X7_digest : MS yX7_digest cX7_digest 4 (some .long) 0 := ⟨⟨List.mem_of_getElem? (i := 688) rfl, rfl⟩, ⟨List.mem_of_getElem? (i := 56) (by decide +kernel), rfl⟩, by decide +kernel⟩
theorem mv_X7_digest : MV yX7_digest 7 := ⟨⟨List.mem_of_getElem? (i := 686) (by decide +kernel), rfl⟩, ⟨List.mem_of_getElem? (i := 687) (by decide +kernel), rfl⟩, _, _, rfl⟩
set_option maxRecDepth 40000 in
theorem ms_X7_dropOldest : MS yX7_dropOldest cX7_dropOldest 3 none 0 := ⟨⟨List.mem_of_getElem? (i := 292) rfl, rfl⟩, ⟨List.mem_of_getElem? (i := 56) (by decide +kernel), rfl⟩, by decide +kernel⟩
theorem mv_X7_dropOldest : MV yX7_dropOldest 7 := ⟨⟨List.mem_of_getElem? (i := 291) (by decide +kernel), rfl⟩, ⟨List.mem_of_getElem? (i := 2) (by decide +kernel), rfl⟩, _, _, rfl⟩
set_option maxRecDepth 40000 in
theorem ms_X7_earliest : MS yX7_earliest cX7_earliest 5 (some .int) 3 := ⟨⟨List.mem_of_getElem? (i := 476) rfl, rfl⟩, ⟨List.mem_of_getElem? (i := 56) (by decide +kernel), rfl⟩, by decide +kernel⟩
theorem mv_X7_earliest : MV yX7_earliest 7 := ⟨⟨List.mem_of_getElem? (i := 474) (by decide +kernel), rfl⟩, ⟨List.mem_of_getElem? (i := 475) (by decide +kernel), rfl⟩, _, _, rfl⟩
set_option maxRecDepth 40000 in
theorem ms_X7_errorCount : MS yX7_errorCount cX7_errorCount 2 (some .int) 1 := ⟨⟨List.mem_of_getElem? (i := 684) rfl, rfl⟩, ⟨List.mem_of_getElem? (i := 56) (by decide +kernel), rfl⟩, by decide +kernel⟩
theorem mv_X7_errorCount : MV yX7_errorCount 7 := ⟨⟨List.mem_of_getElem? (i := 682) (by decide +kernel), rfl⟩, ⟨List.mem_of_getElem? (i := 683) (by decide +kernel), rfl⟩, _, _, rfl⟩
set_option maxRecDepth 40000 in
theorem ms_X7_fail : MS yX7_fail cX7_fail 2 (some .int) 1 := ⟨⟨List.mem_of_getElem? (i := 284) rfl, rfl⟩, ⟨List.mem_of_getElem? (i := 56) (by decide +kernel), rfl⟩, by decide +kernel⟩
theorem mv_X7_fail : MV yX7_fail 7 := ⟨⟨List.mem_of_getElem? (i := 283) (by decide +kernel), rfl⟩, ⟨List.mem_of_getElem? (i := 0) (by decide +kernel), rfl⟩, _, _, rfl⟩
set_option maxRecDepth 40000 in
theorem ms_X7_frontier : MS yX7_frontier cX7_frontier 6 (some .int) 2 := ⟨⟨List.mem_of_getElem? (i := 660) rfl, rfl⟩, ⟨List.mem_of_getElem? (i := 56) (by decide +kernel), rfl⟩, by decide +kernel⟩
theorem mv_X7_frontier : MV yX7_frontier 7 := ⟨⟨List.mem_of_getElem? (i := 658) (by decide +kernel), rfl⟩, ⟨List.mem_of_getElem? (i := 659) (by decide +kernel), rfl⟩, _, _, rfl⟩
set_option maxRecDepth 40000 in
theorem ms_X7_init : MS yX7_init cX7_init 2 none 0 := ⟨⟨List.mem_of_getElem? (i := 72) rfl, rfl⟩, ⟨List.mem_of_getElem? (i := 56) (by decide +kernel), rfl⟩, by decide +kernel⟩
theorem mi_X7_init : MI yX7_init := ⟨rfl, List.mem_of_getElem? (i := 71) (by decide +kernel), rfl⟩
set_option maxRecDepth 40000 in
theorem ms_X7_isFlag : MS yX7_isFlag cX7_isFlag 1 (some .boolean) 1 := ⟨⟨List.mem_of_getElem? (i := 280) rfl, rfl⟩, ⟨List.mem_of_getElem? (i := 56) (by decide +kernel), rfl⟩, by decide +kernel⟩
theorem mt_X7_isFlag : MT yX7_isFlag := ⟨List.mem_of_getElem? (i := 279) (by decide +kernel), rfl⟩
set_option maxRecDepth 40000 in
theorem ms_X7_isOnFrontier : MS yX7_isOnFrontier cX7_isOnFrontier 5 (some .boolean) 2 := ⟨⟨List.mem_of_getElem? (i := 593) rfl, rfl⟩, ⟨List.mem_of_getElem? (i := 56) (by decide +kernel), rfl⟩, by decide +kernel⟩
theorem mv_X7_isOnFrontier : MV yX7_isOnFrontier 7 := ⟨⟨List.mem_of_getElem? (i := 592) (by decide +kernel), rfl⟩, ⟨List.mem_of_getElem? (i := 16) (by decide +kernel), rfl⟩, _, _, rfl⟩
set_option maxRecDepth 40000 in
theorem ms_X7_isWorker : MS yX7_isWorker cX7_isWorker 1 (some .boolean) 1 := ⟨⟨List.mem_of_getElem? (i := 486) rfl, rfl⟩, ⟨List.mem_of_getElem? (i := 56) (by decide +kernel), rfl⟩, by decide +kernel⟩
theorem mt_X7_isWorker : MT yX7_isWorker := ⟨List.mem_of_getElem? (i := 485) (by decide +kernel), rfl⟩
set_option maxRecDepth 40000 in
theorem ms_X7_kind : MS yX7_kind cX7_kind 2 (some .int) 1 := ⟨⟨List.mem_of_getElem? (i := 415) rfl, rfl⟩, ⟨List.mem_of_getElem? (i := 56) (by decide +kernel), rfl⟩, by decide +kernel⟩
theorem mv_X7_kind : MV yX7_kind 7 := ⟨⟨List.mem_of_getElem? (i := 413) (by decide +kernel), rfl⟩, ⟨List.mem_of_getElem? (i := 414) (by decide +kernel), rfl⟩, _, _, rfl⟩
set_option maxRecDepth 40000 in
theorem ms_X7_leastDeliverable : MS yX7_leastDeliverable cX7_leastDeliverable 10 (some .int) 2 := ⟨⟨List.mem_of_getElem? (i := 577) rfl, rfl⟩, ⟨List.mem_of_getElem? (i := 56) (by decide +kernel), rfl⟩, by decide +kernel⟩
theorem mv_X7_leastDeliverable : MV yX7_leastDeliverable 7 := ⟨⟨List.mem_of_getElem? (i := 576) (by decide +kernel), rfl⟩, ⟨List.mem_of_getElem? (i := 15) (by decide +kernel), rfl⟩, _, _, rfl⟩
set_option maxRecDepth 40000 in
theorem ms_X7_markFrontier : MS yX7_markFrontier cX7_markFrontier 4 (some .int) 1 := ⟨⟨List.mem_of_getElem? (i := 713) rfl, rfl⟩, ⟨List.mem_of_getElem? (i := 56) (by decide +kernel), rfl⟩, by decide +kernel⟩
theorem mv_X7_markFrontier : MV yX7_markFrontier 7 := ⟨⟨List.mem_of_getElem? (i := 712) (by decide +kernel), rfl⟩, ⟨List.mem_of_getElem? (i := 21) (by decide +kernel), rfl⟩, _, _, rfl⟩
set_option maxRecDepth 40000 in
theorem ms_X7_messageTime : MS yX7_messageTime cX7_messageTime 4 (some .int) 3 := ⟨⟨List.mem_of_getElem? (i := 623) rfl, rfl⟩, ⟨List.mem_of_getElem? (i := 56) (by decide +kernel), rfl⟩, by decide +kernel⟩
theorem mv_X7_messageTime : MV yX7_messageTime 7 := ⟨⟨List.mem_of_getElem? (i := 621) (by decide +kernel), rfl⟩, ⟨List.mem_of_getElem? (i := 622) (by decide +kernel), rfl⟩, _, _, rfl⟩
set_option maxRecDepth 40000 in
theorem ms_X7_messages : MS yX7_messages cX7_messages 3 (some .int) 2 := ⟨⟨List.mem_of_getElem? (i := 619) rfl, rfl⟩, ⟨List.mem_of_getElem? (i := 56) (by decide +kernel), rfl⟩, by decide +kernel⟩
theorem mv_X7_messages : MV yX7_messages 7 := ⟨⟨List.mem_of_getElem? (i := 617) (by decide +kernel), rfl⟩, ⟨List.mem_of_getElem? (i := 618) (by decide +kernel), rfl⟩, _, _, rfl⟩
set_option maxRecDepth 40000 in
theorem ms_X7_mix : MS yX7_mix cX7_mix 3 (some .long) 2 := ⟨⟨List.mem_of_getElem? (i := 692) rfl, rfl⟩, ⟨List.mem_of_getElem? (i := 56) (by decide +kernel), rfl⟩, by decide +kernel⟩
theorem mt_X7_mix : MT yX7_mix := ⟨List.mem_of_getElem? (i := 691) (by decide +kernel), rfl⟩
set_option maxRecDepth 40000 in
theorem ms_X7_mixGraph : MS yX7_mixGraph cX7_mixGraph 7 (some .long) 1 := ⟨⟨List.mem_of_getElem? (i := 697) rfl, rfl⟩, ⟨List.mem_of_getElem? (i := 56) (by decide +kernel), rfl⟩, by decide +kernel⟩
theorem mv_X7_mixGraph : MV yX7_mixGraph 7 := ⟨⟨List.mem_of_getElem? (i := 696) (by decide +kernel), rfl⟩, ⟨List.mem_of_getElem? (i := 17) (by decide +kernel), rfl⟩, _, _, rfl⟩
set_option maxRecDepth 40000 in
theorem ms_X7_mixMail : MS yX7_mixMail cX7_mixMail 9 (some .long) 2 := ⟨⟨List.mem_of_getElem? (i := 701) rfl, rfl⟩, ⟨List.mem_of_getElem? (i := 56) (by decide +kernel), rfl⟩, by decide +kernel⟩
theorem mv_X7_mixMail : MV yX7_mixMail 7 := ⟨⟨List.mem_of_getElem? (i := 700) (by decide +kernel), rfl⟩, ⟨List.mem_of_getElem? (i := 18) (by decide +kernel), rfl⟩, _, _, rfl⟩
set_option maxRecDepth 40000 in
theorem ms_X7_mixNotifications : MS yX7_mixNotifications cX7_mixNotifications 7 (some .long) 2 := ⟨⟨List.mem_of_getElem? (i := 705) rfl, rfl⟩, ⟨List.mem_of_getElem? (i := 56) (by decide +kernel), rfl⟩, by decide +kernel⟩
theorem mv_X7_mixNotifications : MV yX7_mixNotifications 7 := ⟨⟨List.mem_of_getElem? (i := 704) (by decide +kernel), rfl⟩, ⟨List.mem_of_getElem? (i := 19) (by decide +kernel), rfl⟩, _, _, rfl⟩
set_option maxRecDepth 40000 in
theorem ms_X7_mixView : MS yX7_mixView cX7_mixView 9 (some .long) 2 := ⟨⟨List.mem_of_getElem? (i := 709) rfl, rfl⟩, ⟨List.mem_of_getElem? (i := 56) (by decide +kernel), rfl⟩, by decide +kernel⟩
theorem mv_X7_mixView : MV yX7_mixView 7 := ⟨⟨List.mem_of_getElem? (i := 708) (by decide +kernel), rfl⟩, ⟨List.mem_of_getElem? (i := 20) (by decide +kernel), rfl⟩, _, _, rfl⟩
set_option maxRecDepth 40000 in
theorem ms_X7_move : MS yX7_move cX7_move 3 (some .int) 2 := ⟨⟨List.mem_of_getElem? (i := 423) rfl, rfl⟩, ⟨List.mem_of_getElem? (i := 56) (by decide +kernel), rfl⟩, by decide +kernel⟩
theorem mv_X7_move : MV yX7_move 7 := ⟨⟨List.mem_of_getElem? (i := 421) (by decide +kernel), rfl⟩, ⟨List.mem_of_getElem? (i := 422) (by decide +kernel), rfl⟩, _, _, rfl⟩
set_option maxRecDepth 40000 in
theorem ms_X7_pending : MS yX7_pending cX7_pending 2 (some .int) 1 := ⟨⟨List.mem_of_getElem? (i := 664) rfl, rfl⟩, ⟨List.mem_of_getElem? (i := 56) (by decide +kernel), rfl⟩, by decide +kernel⟩
theorem mv_X7_pending : MV yX7_pending 7 := ⟨⟨List.mem_of_getElem? (i := 662) (by decide +kernel), rfl⟩, ⟨List.mem_of_getElem? (i := 663) (by decide +kernel), rfl⟩, _, _, rfl⟩
set_option maxRecDepth 40000 in
theorem ms_X7_process : MS yX7_process cX7_process 10 (some .int) 5 := ⟨⟨List.mem_of_getElem? (i := 531) rfl, rfl⟩, ⟨List.mem_of_getElem? (i := 56) (by decide +kernel), rfl⟩, by decide +kernel⟩
theorem mv_X7_process : MV yX7_process 7 := ⟨⟨List.mem_of_getElem? (i := 529) (by decide +kernel), rfl⟩, ⟨List.mem_of_getElem? (i := 530) (by decide +kernel), rfl⟩, _, _, rfl⟩
set_option maxRecDepth 40000 in
theorem ms_X7_receive : MS yX7_receive cX7_receive 3 (some .int) 2 := ⟨⟨List.mem_of_getElem? (i := 609) rfl, rfl⟩, ⟨List.mem_of_getElem? (i := 56) (by decide +kernel), rfl⟩, by decide +kernel⟩
theorem mv_X7_receive : MV yX7_receive 7 := ⟨⟨List.mem_of_getElem? (i := 607) (by decide +kernel), rfl⟩, ⟨List.mem_of_getElem? (i := 608) (by decide +kernel), rfl⟩, _, _, rfl⟩
set_option maxRecDepth 40000 in
theorem ms_X7_requests : MS yX7_requests cX7_requests 3 (some .int) 2 := ⟨⟨List.mem_of_getElem? (i := 631) rfl, rfl⟩, ⟨List.mem_of_getElem? (i := 56) (by decide +kernel), rfl⟩, by decide +kernel⟩
theorem mv_X7_requests : MV yX7_requests 7 := ⟨⟨List.mem_of_getElem? (i := 629) (by decide +kernel), rfl⟩, ⟨List.mem_of_getElem? (i := 630) (by decide +kernel), rfl⟩, _, _, rfl⟩
set_option maxRecDepth 40000 in
theorem ms_X7_save : MS yX7_save cX7_save 1 none 0 := ⟨⟨List.mem_of_getElem? (i := 288) rfl, rfl⟩, ⟨List.mem_of_getElem? (i := 56) (by decide +kernel), rfl⟩, by decide +kernel⟩
theorem mv_X7_save : MV yX7_save 7 := ⟨⟨List.mem_of_getElem? (i := 287) (by decide +kernel), rfl⟩, ⟨List.mem_of_getElem? (i := 1) (by decide +kernel), rfl⟩, _, _, rfl⟩
set_option maxRecDepth 40000 in
theorem ms_X7_send : MS yX7_send cX7_send 5 (some .int) 2 := ⟨⟨List.mem_of_getElem? (i := 483) rfl, rfl⟩, ⟨List.mem_of_getElem? (i := 56) (by decide +kernel), rfl⟩, by decide +kernel⟩
theorem mv_X7_send : MV yX7_send 7 := ⟨⟨List.mem_of_getElem? (i := 481) (by decide +kernel), rfl⟩, ⟨List.mem_of_getElem? (i := 482) (by decide +kernel), rfl⟩, _, _, rfl⟩
set_option maxRecDepth 40000 in
theorem ms_X7_stampOf : MS yX7_stampOf cX7_stampOf 2 (some .int) 2 := ⟨⟨List.mem_of_getElem? (i := 357) rfl, rfl⟩, ⟨List.mem_of_getElem? (i := 56) (by decide +kernel), rfl⟩, by decide +kernel⟩
theorem mt_X7_stampOf : MT yX7_stampOf := ⟨List.mem_of_getElem? (i := 356) (by decide +kernel), rfl⟩
set_option maxRecDepth 40000 in
theorem ms_X7_undo : MS yX7_undo cX7_undo 2 (some .int) 0 := ⟨⟨List.mem_of_getElem? (i := 676) rfl, rfl⟩, ⟨List.mem_of_getElem? (i := 56) (by decide +kernel), rfl⟩, by decide +kernel⟩
theorem mv_X7_undo : MV yX7_undo 7 := ⟨⟨List.mem_of_getElem? (i := 674) (by decide +kernel), rfl⟩, ⟨List.mem_of_getElem? (i := 675) (by decide +kernel), rfl⟩, _, _, rfl⟩
set_option maxRecDepth 40000 in
theorem ms_X7_violations : MS yX7_violations cX7_violations 1 (some .int) 0 := ⟨⟨List.mem_of_getElem? (i := 672) rfl, rfl⟩, ⟨List.mem_of_getElem? (i := 56) (by decide +kernel), rfl⟩, by decide +kernel⟩
theorem mv_X7_violations : MV yX7_violations 7 := ⟨⟨List.mem_of_getElem? (i := 670) (by decide +kernel), rfl⟩, ⟨List.mem_of_getElem? (i := 671) (by decide +kernel), rfl⟩, _, _, rfl⟩
set_option maxRecDepth 40000 in
theorem ms_X8_active : MS yX8_active cX8_active 2 (some .int) 1 := ⟨⟨List.mem_of_getElem? (i := 975) rfl, rfl⟩, ⟨List.mem_of_getElem? (i := 65) (by decide +kernel), rfl⟩, by decide +kernel⟩
theorem mv_X8_active : MV yX8_active 8 := ⟨⟨List.mem_of_getElem? (i := 973) (by decide +kernel), rfl⟩, ⟨List.mem_of_getElem? (i := 974) (by decide +kernel), rfl⟩, _, _, rfl⟩
set_option maxRecDepth 40000 in
theorem ms_X8_addEdge : MS yX8_addEdge cX8_addEdge 4 (some .int) 3 := ⟨⟨List.mem_of_getElem? (i := 793) rfl, rfl⟩, ⟨List.mem_of_getElem? (i := 65) (by decide +kernel), rfl⟩, by decide +kernel⟩
theorem mv_X8_addEdge : MV yX8_addEdge 8 := ⟨⟨List.mem_of_getElem? (i := 791) (by decide +kernel), rfl⟩, ⟨List.mem_of_getElem? (i := 792) (by decide +kernel), rfl⟩, _, _, rfl⟩
set_option maxRecDepth 40000 in
theorem ms_X8_addNode : MS yX8_addNode cX8_addNode 4 (some .int) 2 := ⟨⟨List.mem_of_getElem? (i := 777) rfl, rfl⟩, ⟨List.mem_of_getElem? (i := 65) (by decide +kernel), rfl⟩, by decide +kernel⟩
theorem mv_X8_addNode : MV yX8_addNode 8 := ⟨⟨List.mem_of_getElem? (i := 775) (by decide +kernel), rfl⟩, ⟨List.mem_of_getElem? (i := 776) (by decide +kernel), rfl⟩, _, _, rfl⟩
set_option maxRecDepth 40000 in
theorem ms_X8_advance : MS yX8_advance cX8_advance 3 (some .int) 1 := ⟨⟨List.mem_of_getElem? (i := 885) rfl, rfl⟩, ⟨List.mem_of_getElem? (i := 65) (by decide +kernel), rfl⟩, by decide +kernel⟩
theorem mv_X8_advance : MV yX8_advance 8 := ⟨⟨List.mem_of_getElem? (i := 883) (by decide +kernel), rfl⟩, ⟨List.mem_of_getElem? (i := 884) (by decide +kernel), rfl⟩, _, _, rfl⟩
set_option maxRecDepth 40000 in
theorem ms_X8_areEdges : MS yX8_areEdges cX8_areEdges 2 (some .boolean) 1 := ⟨⟨List.mem_of_getElem? (i := 897) rfl, rfl⟩, ⟨List.mem_of_getElem? (i := 65) (by decide +kernel), rfl⟩, by decide +kernel⟩
theorem mv_X8_areEdges : MV yX8_areEdges 8 := ⟨⟨List.mem_of_getElem? (i := 896) (by decide +kernel), rfl⟩, ⟨List.mem_of_getElem? (i := 41) (by decide +kernel), rfl⟩, _, _, rfl⟩
set_option maxRecDepth 40000 in
theorem ms_X8_atMost : MS yX8_atMost cX8_atMost 2 (some .boolean) 2 := ⟨⟨List.mem_of_getElem? (i := 919) rfl, rfl⟩, ⟨List.mem_of_getElem? (i := 65) (by decide +kernel), rfl⟩, by decide +kernel⟩
theorem mt_X8_atMost : MT yX8_atMost := ⟨List.mem_of_getElem? (i := 918) (by decide +kernel), rfl⟩
set_option maxRecDepth 40000 in
theorem ms_X8_close : MS yX8_close cX8_close 3 (some .int) 1 := ⟨⟨List.mem_of_getElem? (i := 889) rfl, rfl⟩, ⟨List.mem_of_getElem? (i := 65) (by decide +kernel), rfl⟩, by decide +kernel⟩
theorem mv_X8_close : MV yX8_close 8 := ⟨⟨List.mem_of_getElem? (i := 887) (by decide +kernel), rfl⟩, ⟨List.mem_of_getElem? (i := 888) (by decide +kernel), rfl⟩, _, _, rfl⟩
set_option maxRecDepth 40000 in
theorem ms_X8_couldResultIn : MS yX8_couldResultIn cX8_couldResultIn 5 (some .int) 4 := ⟨⟨List.mem_of_getElem? (i := 841) rfl, rfl⟩, ⟨List.mem_of_getElem? (i := 65) (by decide +kernel), rfl⟩, by decide +kernel⟩
theorem mv_X8_couldResultIn : MV yX8_couldResultIn 8 := ⟨⟨List.mem_of_getElem? (i := 839) (by decide +kernel), rfl⟩, ⟨List.mem_of_getElem? (i := 840) (by decide +kernel), rfl⟩, _, _, rfl⟩
set_option maxRecDepth 40000 in
theorem ms_X8_count : MS yX8_count cX8_count 4 (some .int) 3 := ⟨⟨List.mem_of_getElem? (i := 971) rfl, rfl⟩, ⟨List.mem_of_getElem? (i := 65) (by decide +kernel), rfl⟩, by decide +kernel⟩
theorem mv_X8_count : MV yX8_count 8 := ⟨⟨List.mem_of_getElem? (i := 969) (by decide +kernel), rfl⟩, ⟨List.mem_of_getElem? (i := 970) (by decide +kernel), rfl⟩, _, _, rfl⟩
set_option maxRecDepth 40000 in
theorem ms_X8_deliver : MS yX8_deliver cX8_deliver 8 (some .int) 4 := ⟨⟨List.mem_of_getElem? (i := 927) rfl, rfl⟩, ⟨List.mem_of_getElem? (i := 65) (by decide +kernel), rfl⟩, by decide +kernel⟩
theorem mv_X8_deliver : MV yX8_deliver 8 := ⟨⟨List.mem_of_getElem? (i := 925) (by decide +kernel), rfl⟩, ⟨List.mem_of_getElem? (i := 926) (by decide +kernel), rfl⟩, _, _, rfl⟩
set_option maxRecDepth 40000 in
theorem ms_X8_deliverable : MS yX8_deliverable cX8_deliverable 3 (some .int) 2 := ⟨⟨List.mem_of_getElem? (i := 967) rfl, rfl⟩, ⟨List.mem_of_getElem? (i := 65) (by decide +kernel), rfl⟩, by decide +kernel⟩
theorem mv_X8_deliverable : MV yX8_deliverable 8 := ⟨⟨List.mem_of_getElem? (i := 965) (by decide +kernel), rfl⟩, ⟨List.mem_of_getElem? (i := 966) (by decide +kernel), rfl⟩, _, _, rfl⟩
set_option maxRecDepth 40000 in
theorem ms_X8_delivered : MS yX8_delivered cX8_delivered 1 (some .int) 0 := ⟨⟨List.mem_of_getElem? (i := 991) rfl, rfl⟩, ⟨List.mem_of_getElem? (i := 65) (by decide +kernel), rfl⟩, by decide +kernel⟩
theorem mv_X8_delivered : MV yX8_delivered 8 := ⟨⟨List.mem_of_getElem? (i := 989) (by decide +kernel), rfl⟩, ⟨List.mem_of_getElem? (i := 990) (by decide +kernel), rfl⟩, _, _, rfl⟩
set_option maxRecDepth 40000 in
theorem ms_X8_depthAt : MS yX8_depthAt cX8_depthAt 2 (some .int) 1 := ⟨⟨List.mem_of_getElem? (i := 833) rfl, rfl⟩, ⟨List.mem_of_getElem? (i := 65) (by decide +kernel), rfl⟩, by decide +kernel⟩
theorem mv_X8_depthAt : MV yX8_depthAt 8 := ⟨⟨List.mem_of_getElem? (i := 832) (by decide +kernel), rfl⟩, ⟨List.mem_of_getElem? (i := 32) (by decide +kernel), rfl⟩, _, _, rfl⟩
set_option maxRecDepth 40000 in
theorem ms_X8_digest : MS yX8_digest cX8_digest 2 (some .long) 0 := ⟨⟨List.mem_of_getElem? (i := 1003) rfl, rfl⟩, ⟨List.mem_of_getElem? (i := 65) (by decide +kernel), rfl⟩, by decide +kernel⟩
theorem mv_X8_digest : MV yX8_digest 8 := ⟨⟨List.mem_of_getElem? (i := 1001) (by decide +kernel), rfl⟩, ⟨List.mem_of_getElem? (i := 1002) (by decide +kernel), rfl⟩, _, _, rfl⟩
set_option maxRecDepth 40000 in
theorem ms_X8_earliest : MS yX8_earliest cX8_earliest 4 (some .int) 3 := ⟨⟨List.mem_of_getElem? (i := 857) rfl, rfl⟩, ⟨List.mem_of_getElem? (i := 65) (by decide +kernel), rfl⟩, by decide +kernel⟩
theorem mv_X8_earliest : MV yX8_earliest 8 := ⟨⟨List.mem_of_getElem? (i := 855) (by decide +kernel), rfl⟩, ⟨List.mem_of_getElem? (i := 856) (by decide +kernel), rfl⟩, _, _, rfl⟩
set_option maxRecDepth 40000 in
theorem ms_X8_errorCount : MS yX8_errorCount cX8_errorCount 2 (some .int) 1 := ⟨⟨List.mem_of_getElem? (i := 999) rfl, rfl⟩, ⟨List.mem_of_getElem? (i := 65) (by decide +kernel), rfl⟩, by decide +kernel⟩
theorem mv_X8_errorCount : MV yX8_errorCount 8 := ⟨⟨List.mem_of_getElem? (i := 997) (by decide +kernel), rfl⟩, ⟨List.mem_of_getElem? (i := 998) (by decide +kernel), rfl⟩, _, _, rfl⟩
set_option maxRecDepth 40000 in
theorem ms_X8_fails : MS yX8_fails cX8_fails 2 (some .int) 1 := ⟨⟨List.mem_of_getElem? (i := 773) rfl, rfl⟩, ⟨List.mem_of_getElem? (i := 65) (by decide +kernel), rfl⟩, by decide +kernel⟩
theorem mv_X8_fails : MV yX8_fails 8 := ⟨⟨List.mem_of_getElem? (i := 772) (by decide +kernel), rfl⟩, ⟨List.mem_of_getElem? (i := 22) (by decide +kernel), rfl⟩, _, _, rfl⟩
set_option maxRecDepth 40000 in
theorem ms_X8_findsActive : MS yX8_findsActive cX8_findsActive 3 none 1 := ⟨⟨List.mem_of_getElem? (i := 935) rfl, rfl⟩, ⟨List.mem_of_getElem? (i := 65) (by decide +kernel), rfl⟩, by decide +kernel⟩
theorem mv_X8_findsActive : MV yX8_findsActive 8 := ⟨⟨List.mem_of_getElem? (i := 934) (by decide +kernel), rfl⟩, ⟨List.mem_of_getElem? (i := 48) (by decide +kernel), rfl⟩, _, _, rfl⟩
set_option maxRecDepth 40000 in
theorem ms_X8_findsFrontier : MS yX8_findsFrontier cX8_findsFrontier 7 none 1 := ⟨⟨List.mem_of_getElem? (i := 931) rfl, rfl⟩, ⟨List.mem_of_getElem? (i := 65) (by decide +kernel), rfl⟩, by decide +kernel⟩
theorem mv_X8_findsFrontier : MV yX8_findsFrontier 8 := ⟨⟨List.mem_of_getElem? (i := 930) (by decide +kernel), rfl⟩, ⟨List.mem_of_getElem? (i := 47) (by decide +kernel), rfl⟩, _, _, rfl⟩
set_option maxRecDepth 40000 in
theorem ms_X8_frontier : MS yX8_frontier cX8_frontier 3 (some .int) 2 := ⟨⟨List.mem_of_getElem? (i := 979) rfl, rfl⟩, ⟨List.mem_of_getElem? (i := 65) (by decide +kernel), rfl⟩, by decide +kernel⟩
theorem mv_X8_frontier : MV yX8_frontier 8 := ⟨⟨List.mem_of_getElem? (i := 977) (by decide +kernel), rfl⟩, ⟨List.mem_of_getElem? (i := 978) (by decide +kernel), rfl⟩, _, _, rfl⟩
set_option maxRecDepth 40000 in
theorem ms_X8_frontierAt : MS yX8_frontierAt cX8_frontierAt 5 (some .int) 1 := ⟨⟨List.mem_of_getElem? (i := 983) rfl, rfl⟩, ⟨List.mem_of_getElem? (i := 65) (by decide +kernel), rfl⟩, by decide +kernel⟩
theorem mv_X8_frontierAt : MV yX8_frontierAt 8 := ⟨⟨List.mem_of_getElem? (i := 982) (by decide +kernel), rfl⟩, ⟨List.mem_of_getElem? (i := 52) (by decide +kernel), rfl⟩, _, _, rfl⟩
set_option maxRecDepth 40000 in
theorem ms_X8_goes : MS yX8_goes cX8_goes 7 none 2 := ⟨⟨List.mem_of_getElem? (i := 849) rfl, rfl⟩, ⟨List.mem_of_getElem? (i := 65) (by decide +kernel), rfl⟩, by decide +kernel⟩
theorem mv_X8_goes : MV yX8_goes 8 := ⟨⟨List.mem_of_getElem? (i := 848) (by decide +kernel), rfl⟩, ⟨List.mem_of_getElem? (i := 35) (by decide +kernel), rfl⟩, _, _, rfl⟩
set_option maxRecDepth 40000 in
theorem ms_X8_has : MS yX8_has cX8_has 2 (some .boolean) 2 := ⟨⟨List.mem_of_getElem? (i := 904) rfl, rfl⟩, ⟨List.mem_of_getElem? (i := 65) (by decide +kernel), rfl⟩, by decide +kernel⟩
theorem mt_X8_has : MT yX8_has := ⟨List.mem_of_getElem? (i := 903) (by decide +kernel), rfl⟩
set_option maxRecDepth 40000 in
theorem ms_X8_init : MS yX8_init cX8_init 1 none 0 := ⟨⟨List.mem_of_getElem? (i := 718) rfl, rfl⟩, ⟨List.mem_of_getElem? (i := 65) (by decide +kernel), rfl⟩, by decide +kernel⟩
theorem mi_X8_init : MI yX8_init := ⟨rfl, List.mem_of_getElem? (i := 717) (by decide +kernel), rfl⟩
set_option maxRecDepth 40000 in
theorem ms_X8_isEdge : MS yX8_isEdge cX8_isEdge 2 (some .boolean) 1 := ⟨⟨List.mem_of_getElem? (i := 817) rfl, rfl⟩, ⟨List.mem_of_getElem? (i := 65) (by decide +kernel), rfl⟩, by decide +kernel⟩
theorem mv_X8_isEdge : MV yX8_isEdge 8 := ⟨⟨List.mem_of_getElem? (i := 816) (by decide +kernel), rfl⟩, ⟨List.mem_of_getElem? (i := 29) (by decide +kernel), rfl⟩, _, _, rfl⟩
set_option maxRecDepth 40000 in
theorem ms_X8_isFullLine : MS yX8_isFullLine cX8_isFullLine 3 (some .boolean) 2 := ⟨⟨List.mem_of_getElem? (i := 868) rfl, rfl⟩, ⟨List.mem_of_getElem? (i := 65) (by decide +kernel), rfl⟩, by decide +kernel⟩
theorem mv_X8_isFullLine : MV yX8_isFullLine 8 := ⟨⟨List.mem_of_getElem? (i := 867) (by decide +kernel), rfl⟩, ⟨List.mem_of_getElem? (i := 37) (by decide +kernel), rfl⟩, _, _, rfl⟩
set_option maxRecDepth 40000 in
theorem ms_X8_isInput : MS yX8_isInput cX8_isInput 2 (some .boolean) 1 := ⟨⟨List.mem_of_getElem? (i := 805) rfl, rfl⟩, ⟨List.mem_of_getElem? (i := 65) (by decide +kernel), rfl⟩, by decide +kernel⟩
theorem mv_X8_isInput : MV yX8_isInput 8 := ⟨⟨List.mem_of_getElem? (i := 804) (by decide +kernel), rfl⟩, ⟨List.mem_of_getElem? (i := 27) (by decide +kernel), rfl⟩, _, _, rfl⟩
set_option maxRecDepth 40000 in
theorem ms_X8_isNode : MS yX8_isNode cX8_isNode 2 (some .boolean) 1 := ⟨⟨List.mem_of_getElem? (i := 797) rfl, rfl⟩, ⟨List.mem_of_getElem? (i := 65) (by decide +kernel), rfl⟩, by decide +kernel⟩
theorem mv_X8_isNode : MV yX8_isNode 8 := ⟨⟨List.mem_of_getElem? (i := 796) (by decide +kernel), rfl⟩, ⟨List.mem_of_getElem? (i := 25) (by decide +kernel), rfl⟩, _, _, rfl⟩
set_option maxRecDepth 40000 in
theorem ms_X8_isOnFrontier : MS yX8_isOnFrontier cX8_isOnFrontier 5 (some .boolean) 2 := ⟨⟨List.mem_of_getElem? (i := 943) rfl, rfl⟩, ⟨List.mem_of_getElem? (i := 65) (by decide +kernel), rfl⟩, by decide +kernel⟩
theorem mv_X8_isOnFrontier : MV yX8_isOnFrontier 8 := ⟨⟨List.mem_of_getElem? (i := 942) (by decide +kernel), rfl⟩, ⟨List.mem_of_getElem? (i := 50) (by decide +kernel), rfl⟩, _, _, rfl⟩
set_option maxRecDepth 40000 in
theorem ms_X8_isOneFull : MS yX8_isOneFull cX8_isOneFull 5 (some .boolean) 2 := ⟨⟨List.mem_of_getElem? (i := 908) rfl, rfl⟩, ⟨List.mem_of_getElem? (i := 65) (by decide +kernel), rfl⟩, by decide +kernel⟩
theorem mv_X8_isOneFull : MV yX8_isOneFull 8 := ⟨⟨List.mem_of_getElem? (i := 907) (by decide +kernel), rfl⟩, ⟨List.mem_of_getElem? (i := 43) (by decide +kernel), rfl⟩, _, _, rfl⟩
set_option maxRecDepth 40000 in
theorem ms_X8_isPlace : MS yX8_isPlace cX8_isPlace 2 (some .boolean) 1 := ⟨⟨List.mem_of_getElem? (i := 845) rfl, rfl⟩, ⟨List.mem_of_getElem? (i := 65) (by decide +kernel), rfl⟩, by decide +kernel⟩
theorem mv_X8_isPlace : MV yX8_isPlace 8 := ⟨⟨List.mem_of_getElem? (i := 844) (by decide +kernel), rfl⟩, ⟨List.mem_of_getElem? (i := 34) (by decide +kernel), rfl⟩, _, _, rfl⟩
set_option maxRecDepth 40000 in
theorem ms_X8_isTime : MS yX8_isTime cX8_isTime 4 (some .boolean) 2 := ⟨⟨List.mem_of_getElem? (i := 829) rfl, rfl⟩, ⟨List.mem_of_getElem? (i := 65) (by decide +kernel), rfl⟩, by decide +kernel⟩
theorem mv_X8_isTime : MV yX8_isTime 8 := ⟨⟨List.mem_of_getElem? (i := 828) (by decide +kernel), rfl⟩, ⟨List.mem_of_getElem? (i := 31) (by decide +kernel), rfl⟩, _, _, rfl⟩
set_option maxRecDepth 40000 in
theorem ms_X8_isWorker : MS yX8_isWorker cX8_isWorker 1 (some .boolean) 1 := ⟨⟨List.mem_of_getElem? (i := 864) rfl, rfl⟩, ⟨List.mem_of_getElem? (i := 65) (by decide +kernel), rfl⟩, by decide +kernel⟩
theorem mt_X8_isWorker : MT yX8_isWorker := ⟨List.mem_of_getElem? (i := 863) (by decide +kernel), rfl⟩
set_option maxRecDepth 40000 in
theorem ms_X8_kind : MS yX8_kind cX8_kind 2 (some .int) 1 := ⟨⟨List.mem_of_getElem? (i := 813) rfl, rfl⟩, ⟨List.mem_of_getElem? (i := 65) (by decide +kernel), rfl⟩, by decide +kernel⟩
theorem mv_X8_kind : MV yX8_kind 8 := ⟨⟨List.mem_of_getElem? (i := 811) (by decide +kernel), rfl⟩, ⟨List.mem_of_getElem? (i := 812) (by decide +kernel), rfl⟩, _, _, rfl⟩
set_option maxRecDepth 40000 in
theorem ms_X8_kindOf : MS yX8_kindOf cX8_kindOf 3 (some .int) 1 := ⟨⟨List.mem_of_getElem? (i := 821) rfl, rfl⟩, ⟨List.mem_of_getElem? (i := 65) (by decide +kernel), rfl⟩, by decide +kernel⟩
theorem mv_X8_kindOf : MV yX8_kindOf 8 := ⟨⟨List.mem_of_getElem? (i := 820) (by decide +kernel), rfl⟩, ⟨List.mem_of_getElem? (i := 30) (by decide +kernel), rfl⟩, _, _, rfl⟩
set_option maxRecDepth 40000 in
theorem ms_X8_lineOf : MS yX8_lineOf cX8_lineOf 3 (some .int) 2 := ⟨⟨List.mem_of_getElem? (i := 872) rfl, rfl⟩, ⟨List.mem_of_getElem? (i := 65) (by decide +kernel), rfl⟩, by decide +kernel⟩
theorem mv_X8_lineOf : MV yX8_lineOf 8 := ⟨⟨List.mem_of_getElem? (i := 871) (by decide +kernel), rfl⟩, ⟨List.mem_of_getElem? (i := 38) (by decide +kernel), rfl⟩, _, _, rfl⟩
set_option maxRecDepth 40000 in
theorem ms_X8_mayLead : MS yX8_mayLead cX8_mayLead 7 (some .boolean) 3 := ⟨⟨List.mem_of_getElem? (i := 801) rfl, rfl⟩, ⟨List.mem_of_getElem? (i := 65) (by decide +kernel), rfl⟩, by decide +kernel⟩
theorem mv_X8_mayLead : MV yX8_mayLead 8 := ⟨⟨List.mem_of_getElem? (i := 800) (by decide +kernel), rfl⟩, ⟨List.mem_of_getElem? (i := 26) (by decide +kernel), rfl⟩, _, _, rfl⟩
set_option maxRecDepth 40000 in
theorem ms_X8_messageTime : MS yX8_messageTime cX8_messageTime 5 (some .int) 3 := ⟨⟨List.mem_of_getElem? (i := 955) rfl, rfl⟩, ⟨List.mem_of_getElem? (i := 65) (by decide +kernel), rfl⟩, by decide +kernel⟩
theorem mv_X8_messageTime : MV yX8_messageTime 8 := ⟨⟨List.mem_of_getElem? (i := 953) (by decide +kernel), rfl⟩, ⟨List.mem_of_getElem? (i := 954) (by decide +kernel), rfl⟩, _, _, rfl⟩
set_option maxRecDepth 40000 in
theorem ms_X8_messages : MS yX8_messages cX8_messages 3 (some .int) 2 := ⟨⟨List.mem_of_getElem? (i := 951) rfl, rfl⟩, ⟨List.mem_of_getElem? (i := 65) (by decide +kernel), rfl⟩, by decide +kernel⟩
theorem mv_X8_messages : MV yX8_messages 8 := ⟨⟨List.mem_of_getElem? (i := 949) (by decide +kernel), rfl⟩, ⟨List.mem_of_getElem? (i := 950) (by decide +kernel), rfl⟩, _, _, rfl⟩
set_option maxRecDepth 40000 in
theorem ms_X8_mix : MS yX8_mix cX8_mix 2 none 1 := ⟨⟨List.mem_of_getElem? (i := 1008) rfl, rfl⟩, ⟨List.mem_of_getElem? (i := 65) (by decide +kernel), rfl⟩, by decide +kernel⟩
theorem mv_X8_mix : MV yX8_mix 8 := ⟨⟨List.mem_of_getElem? (i := 1007) (by decide +kernel), rfl⟩, ⟨List.mem_of_getElem? (i := 53) (by decide +kernel), rfl⟩, _, _, rfl⟩
set_option maxRecDepth 40000 in
theorem ms_X8_mixWorker : MS yX8_mixWorker cX8_mixWorker 5 none 1 := ⟨⟨List.mem_of_getElem? (i := 1013) rfl, rfl⟩, ⟨List.mem_of_getElem? (i := 65) (by decide +kernel), rfl⟩, by decide +kernel⟩
theorem mv_X8_mixWorker : MV yX8_mixWorker 8 := ⟨⟨List.mem_of_getElem? (i := 1012) (by decide +kernel), rfl⟩, ⟨List.mem_of_getElem? (i := 54) (by decide +kernel), rfl⟩, _, _, rfl⟩
set_option maxRecDepth 40000 in
theorem ms_X8_move : MS yX8_move cX8_move 3 (some .int) 2 := ⟨⟨List.mem_of_getElem? (i := 825) rfl, rfl⟩, ⟨List.mem_of_getElem? (i := 65) (by decide +kernel), rfl⟩, by decide +kernel⟩
theorem mv_X8_move : MV yX8_move 8 := ⟨⟨List.mem_of_getElem? (i := 823) (by decide +kernel), rfl⟩, ⟨List.mem_of_getElem? (i := 824) (by decide +kernel), rfl⟩, _, _, rfl⟩
set_option maxRecDepth 40000 in
theorem ms_X8_moved : MS yX8_moved cX8_moved 6 (some .int) 2 := ⟨⟨List.mem_of_getElem? (i := 837) rfl, rfl⟩, ⟨List.mem_of_getElem? (i := 65) (by decide +kernel), rfl⟩, by decide +kernel⟩
theorem mv_X8_moved : MV yX8_moved 8 := ⟨⟨List.mem_of_getElem? (i := 836) (by decide +kernel), rfl⟩, ⟨List.mem_of_getElem? (i := 33) (by decide +kernel), rfl⟩, _, _, rfl⟩
set_option maxRecDepth 40000 in
theorem ms_X8_nextAt : MS yX8_nextAt cX8_nextAt 6 (some .int) 2 := ⟨⟨List.mem_of_getElem? (i := 939) rfl, rfl⟩, ⟨List.mem_of_getElem? (i := 65) (by decide +kernel), rfl⟩, by decide +kernel⟩
theorem mv_X8_nextAt : MV yX8_nextAt 8 := ⟨⟨List.mem_of_getElem? (i := 938) (by decide +kernel), rfl⟩, ⟨List.mem_of_getElem? (i := 49) (by decide +kernel), rfl⟩, _, _, rfl⟩
set_option maxRecDepth 40000 in
theorem ms_X8_pending : MS yX8_pending cX8_pending 2 (some .int) 1 := ⟨⟨List.mem_of_getElem? (i := 987) rfl, rfl⟩, ⟨List.mem_of_getElem? (i := 65) (by decide +kernel), rfl⟩, by decide +kernel⟩
theorem mv_X8_pending : MV yX8_pending 8 := ⟨⟨List.mem_of_getElem? (i := 985) (by decide +kernel), rfl⟩, ⟨List.mem_of_getElem? (i := 986) (by decide +kernel), rfl⟩, _, _, rfl⟩
set_option maxRecDepth 40000 in
theorem ms_X8_process : MS yX8_process cX8_process 10 (some .int) 5 := ⟨⟨List.mem_of_getElem? (i := 893) rfl, rfl⟩, ⟨List.mem_of_getElem? (i := 65) (by decide +kernel), rfl⟩, by decide +kernel⟩
theorem mv_X8_process : MV yX8_process 8 := ⟨⟨List.mem_of_getElem? (i := 891) (by decide +kernel), rfl⟩, ⟨List.mem_of_getElem? (i := 892) (by decide +kernel), rfl⟩, _, _, rfl⟩
set_option maxRecDepth 40000 in
theorem ms_X8_puts : MS yX8_puts cX8_puts 5 none 3 := ⟨⟨List.mem_of_getElem? (i := 876) rfl, rfl⟩, ⟨List.mem_of_getElem? (i := 65) (by decide +kernel), rfl⟩, by decide +kernel⟩
theorem mv_X8_puts : MV yX8_puts 8 := ⟨⟨List.mem_of_getElem? (i := 875) (by decide +kernel), rfl⟩, ⟨List.mem_of_getElem? (i := 39) (by decide +kernel), rfl⟩, _, _, rfl⟩
set_option maxRecDepth 40000 in
theorem ms_X8_putsAll : MS yX8_putsAll cX8_putsAll 6 none 4 := ⟨⟨List.mem_of_getElem? (i := 923) rfl, rfl⟩, ⟨List.mem_of_getElem? (i := 65) (by decide +kernel), rfl⟩, by decide +kernel⟩
theorem mv_X8_putsAll : MV yX8_putsAll 8 := ⟨⟨List.mem_of_getElem? (i := 922) (by decide +kernel), rfl⟩, ⟨List.mem_of_getElem? (i := 46) (by decide +kernel), rfl⟩, _, _, rfl⟩
set_option maxRecDepth 40000 in
theorem ms_X8_reaches : MS yX8_reaches cX8_reaches 3 none 2 := ⟨⟨List.mem_of_getElem? (i := 853) rfl, rfl⟩, ⟨List.mem_of_getElem? (i := 65) (by decide +kernel), rfl⟩, by decide +kernel⟩
theorem mv_X8_reaches : MV yX8_reaches 8 := ⟨⟨List.mem_of_getElem? (i := 852) (by decide +kernel), rfl⟩, ⟨List.mem_of_getElem? (i := 36) (by decide +kernel), rfl⟩, _, _, rfl⟩
set_option maxRecDepth 40000 in
theorem ms_X8_receive : MS yX8_receive cX8_receive 7 (some .int) 2 := ⟨⟨List.mem_of_getElem? (i := 947) rfl, rfl⟩, ⟨List.mem_of_getElem? (i := 65) (by decide +kernel), rfl⟩, by decide +kernel⟩
theorem mv_X8_receive : MV yX8_receive 8 := ⟨⟨List.mem_of_getElem? (i := 945) (by decide +kernel), rfl⟩, ⟨List.mem_of_getElem? (i := 946) (by decide +kernel), rfl⟩, _, _, rfl⟩
set_option maxRecDepth 40000 in
theorem ms_X8_requests : MS yX8_requests cX8_requests 3 (some .int) 2 := ⟨⟨List.mem_of_getElem? (i := 959) rfl, rfl⟩, ⟨List.mem_of_getElem? (i := 65) (by decide +kernel), rfl⟩, by decide +kernel⟩
theorem mv_X8_requests : MV yX8_requests 8 := ⟨⟨List.mem_of_getElem? (i := 957) (by decide +kernel), rfl⟩, ⟨List.mem_of_getElem? (i := 958) (by decide +kernel), rfl⟩, _, _, rfl⟩
set_option maxRecDepth 40000 in
theorem ms_X8_requestsOf : MS yX8_requestsOf cX8_requestsOf 5 (some .int) 2 := ⟨⟨List.mem_of_getElem? (i := 963) rfl, rfl⟩, ⟨List.mem_of_getElem? (i := 65) (by decide +kernel), rfl⟩, by decide +kernel⟩
theorem mv_X8_requestsOf : MV yX8_requestsOf 8 := ⟨⟨List.mem_of_getElem? (i := 962) (by decide +kernel), rfl⟩, ⟨List.mem_of_getElem? (i := 51) (by decide +kernel), rfl⟩, _, _, rfl⟩
set_option maxRecDepth 40000 in
theorem ms_X8_returns : MS yX8_returns cX8_returns 11 (some .boolean) 4 := ⟨⟨List.mem_of_getElem? (i := 809) rfl, rfl⟩, ⟨List.mem_of_getElem? (i := 65) (by decide +kernel), rfl⟩, by decide +kernel⟩
theorem mv_X8_returns : MV yX8_returns 8 := ⟨⟨List.mem_of_getElem? (i := 808) (by decide +kernel), rfl⟩, ⟨List.mem_of_getElem? (i := 28) (by decide +kernel), rfl⟩, _, _, rfl⟩
set_option maxRecDepth 40000 in
theorem ms_X8_saves : MS yX8_saves cX8_saves 2 none 0 := ⟨⟨List.mem_of_getElem? (i := 784) rfl, rfl⟩, ⟨List.mem_of_getElem? (i := 65) (by decide +kernel), rfl⟩, by decide +kernel⟩
theorem mv_X8_saves : MV yX8_saves 8 := ⟨⟨List.mem_of_getElem? (i := 783) (by decide +kernel), rfl⟩, ⟨List.mem_of_getElem? (i := 23) (by decide +kernel), rfl⟩, _, _, rfl⟩
set_option maxRecDepth 40000 in
theorem ms_X8_send : MS yX8_send cX8_send 4 (some .int) 2 := ⟨⟨List.mem_of_getElem? (i := 861) rfl, rfl⟩, ⟨List.mem_of_getElem? (i := 65) (by decide +kernel), rfl⟩, by decide +kernel⟩
theorem mv_X8_send : MV yX8_send 8 := ⟨⟨List.mem_of_getElem? (i := 859) (by decide +kernel), rfl⟩, ⟨List.mem_of_getElem? (i := 860) (by decide +kernel), rfl⟩, _, _, rfl⟩
set_option maxRecDepth 40000 in
theorem ms_X8_startAt : MS yX8_startAt cX8_startAt 5 (some .boolean) 2 := ⟨⟨List.mem_of_getElem? (i := 901) rfl, rfl⟩, ⟨List.mem_of_getElem? (i := 65) (by decide +kernel), rfl⟩, by decide +kernel⟩
theorem mv_X8_startAt : MV yX8_startAt 8 := ⟨⟨List.mem_of_getElem? (i := 900) (by decide +kernel), rfl⟩, ⟨List.mem_of_getElem? (i := 42) (by decide +kernel), rfl⟩, _, _, rfl⟩
set_option maxRecDepth 40000 in
theorem ms_X8_takes : MS yX8_takes cX8_takes 4 (some .int) 1 := ⟨⟨List.mem_of_getElem? (i := 912) rfl, rfl⟩, ⟨List.mem_of_getElem? (i := 65) (by decide +kernel), rfl⟩, by decide +kernel⟩
theorem mv_X8_takes : MV yX8_takes 8 := ⟨⟨List.mem_of_getElem? (i := 911) (by decide +kernel), rfl⟩, ⟨List.mem_of_getElem? (i := 44) (by decide +kernel), rfl⟩, _, _, rfl⟩
set_option maxRecDepth 40000 in
theorem ms_X8_undo : MS yX8_undo cX8_undo 2 (some .int) 0 := ⟨⟨List.mem_of_getElem? (i := 769) rfl, rfl⟩, ⟨List.mem_of_getElem? (i := 65) (by decide +kernel), rfl⟩, by decide +kernel⟩
theorem mv_X8_undo : MV yX8_undo 8 := ⟨⟨List.mem_of_getElem? (i := 767) (by decide +kernel), rfl⟩, ⟨List.mem_of_getElem? (i := 768) (by decide +kernel), rfl⟩, _, _, rfl⟩
set_option maxRecDepth 40000 in
theorem ms_X8_updates : MS yX8_updates cX8_updates 6 none 4 := ⟨⟨List.mem_of_getElem? (i := 880) rfl, rfl⟩, ⟨List.mem_of_getElem? (i := 65) (by decide +kernel), rfl⟩, by decide +kernel⟩
theorem mv_X8_updates : MV yX8_updates 8 := ⟨⟨List.mem_of_getElem? (i := 879) (by decide +kernel), rfl⟩, ⟨List.mem_of_getElem? (i := 40) (by decide +kernel), rfl⟩, _, _, rfl⟩
set_option maxRecDepth 40000 in
theorem ms_X8_viewAt : MS yX8_viewAt cX8_viewAt 4 (some .int) 3 := ⟨⟨List.mem_of_getElem? (i := 789) rfl, rfl⟩, ⟨List.mem_of_getElem? (i := 65) (by decide +kernel), rfl⟩, by decide +kernel⟩
theorem mv_X8_viewAt : MV yX8_viewAt 8 := ⟨⟨List.mem_of_getElem? (i := 788) (by decide +kernel), rfl⟩, ⟨List.mem_of_getElem? (i := 24) (by decide +kernel), rfl⟩, _, _, rfl⟩
set_option maxRecDepth 40000 in
theorem ms_X8_violates : MS yX8_violates cX8_violates 5 (some .boolean) 2 := ⟨⟨List.mem_of_getElem? (i := 916) rfl, rfl⟩, ⟨List.mem_of_getElem? (i := 65) (by decide +kernel), rfl⟩, by decide +kernel⟩
theorem mv_X8_violates : MV yX8_violates 8 := ⟨⟨List.mem_of_getElem? (i := 915) (by decide +kernel), rfl⟩, ⟨List.mem_of_getElem? (i := 45) (by decide +kernel), rfl⟩, _, _, rfl⟩
set_option maxRecDepth 40000 in
theorem ms_X8_violations : MS yX8_violations cX8_violations 1 (some .int) 0 := ⟨⟨List.mem_of_getElem? (i := 995) rfl, rfl⟩, ⟨List.mem_of_getElem? (i := 65) (by decide +kernel), rfl⟩, by decide +kernel⟩
theorem mv_X8_violations : MV yX8_violations 8 := ⟨⟨List.mem_of_getElem? (i := 993) (by decide +kernel), rfl⟩, ⟨List.mem_of_getElem? (i := 994) (by decide +kernel), rfl⟩, _, _, rfl⟩
set_option maxRecDepth 40000 in
theorem ms_X8_within : MS yX8_within cX8_within 3 (some .boolean) 3 := ⟨⟨List.mem_of_getElem? (i := 780) rfl, rfl⟩, ⟨List.mem_of_getElem? (i := 65) (by decide +kernel), rfl⟩, by decide +kernel⟩
theorem mt_X8_within : MT yX8_within := ⟨List.mem_of_getElem? (i := 779) (by decide +kernel), rfl⟩
theorem nw_RL_7 : NW RL 7 7 [.null, .null, .null, .null, vi 0] := ⟨RX7, TX7, tyX7, rfl, kl_cl7, tyX7_ok, ⟨List.mem_of_getElem? (i := 68) (by decide +kernel), rfl⟩, ⟨List.mem_of_getElem? (i := 69) (by decide +kernel), rfl⟩, ⟨List.mem_of_getElem? (i := 56) (by decide +kernel), rfl⟩, fun j hj => by
  have h : j < 5 := hj
  rcases (show j = 0 ∨ j = 1 ∨ j = 2 ∨ j = 3 ∨ j = 4 by omega) with rfl | rfl | rfl | rfl | rfl <;> rfl⟩
theorem lk_RL_9 : LK RL 9 yX7_init := ⟨List.mem_of_getElem? (i := 70) (by decide +kernel), rfl⟩
theorem lk_RX7_3 : LK RX7 3 objectInit := ⟨List.mem_of_getElem? (i := 73) (by decide +kernel), rfl⟩
theorem aw_RX7_13 : (Cond.classLink RX7 13 RX2 ∈ lw_tbl ∧ kw (Cond.classLink RX7 13 RX2) = true) ∧ Cond.arrayOver (.object RX2) ∈ lw_tbl := ⟨⟨List.mem_of_getElem? (i := 76) (by decide +kernel), rfl⟩, List.mem_of_getElem? (i := 77) (by decide +kernel)⟩
theorem nw_RX7_13 : NW RX7 13 2 [vi 0, vi 0, vi 0, .null, .null, .null, .null, .null, .null, .null] := ⟨RX2, TX2, tyX2, rfl, kl_cl2, tyX2_ok, ⟨List.mem_of_getElem? (i := 76) (by decide +kernel), rfl⟩, ⟨List.mem_of_getElem? (i := 107) (by decide +kernel), rfl⟩, ⟨List.mem_of_getElem? (i := 58) (by decide +kernel), rfl⟩, fun j hj => by
  have h : j < 10 := hj
  rcases (show j = 0 ∨ j = 1 ∨ j = 2 ∨ j = 3 ∨ j = 4 ∨ j = 5 ∨ j = 6 ∨ j = 7 ∨ j = 8 ∨ j = 9 by omega) with rfl | rfl | rfl | rfl | rfl | rfl | rfl | rfl | rfl | rfl <;> rfl⟩
theorem nw_RX7_19 : NW RX7 19 5 [.null, .null, .null, .null, vi 0, vi 0, vi 0] := ⟨RX5, TX5, tyX5, rfl, kl_cl5, tyX5_ok, ⟨List.mem_of_getElem? (i := 78) (by decide +kernel), rfl⟩, ⟨List.mem_of_getElem? (i := 79) (by decide +kernel), rfl⟩, ⟨List.mem_of_getElem? (i := 57) (by decide +kernel), rfl⟩, fun j hj => by
  have h : j < 7 := hj
  rcases (show j = 0 ∨ j = 1 ∨ j = 2 ∨ j = 3 ∨ j = 4 ∨ j = 5 ∨ j = 6 by omega) with rfl | rfl | rfl | rfl | rfl | rfl | rfl <;> rfl⟩
theorem ln_RX7_21 : LN RX7 21 yX5_init := ⟨"ProgressTracker", List.mem_of_getElem? (i := 80) (by decide +kernel)⟩
theorem lk_RX5_5 : LK RX5 5 objectInit := ⟨List.mem_of_getElem? (i := 83) (by decide +kernel), rfl⟩
theorem fl_RX5_11 : FL RX5 11 5 0 false (.array .int) := ⟨RX5, TX5, 7, tyX5, rfl, kl_cl5, tyX5_ok, nmX5, by decide, ⟨List.mem_of_getElem? (i := 84) (by decide +kernel), rfl⟩, rfl, rfl, by decide⟩
theorem fl_RX5_15 : FL RX5 15 5 1 false (.array .int) := ⟨RX5, TX5, 7, tyX5, rfl, kl_cl5, tyX5_ok, nmX5, by decide, ⟨List.mem_of_getElem? (i := 85) (by decide +kernel), rfl⟩, rfl, rfl, by decide⟩
theorem fl_RX5_18 : FL RX5 18 5 2 false (.array .int) := ⟨RX5, TX5, 7, tyX5, rfl, kl_cl5, tyX5_ok, nmX5, by decide, ⟨List.mem_of_getElem? (i := 86) (by decide +kernel), rfl⟩, rfl, rfl, by decide⟩
theorem fl_RX5_21 : FL RX5 21 5 3 false (.array .int) := ⟨RX5, TX5, 7, tyX5, rfl, kl_cl5, tyX5_ok, nmX5, by decide, ⟨List.mem_of_getElem? (i := 87) (by decide +kernel), rfl⟩, rfl, rfl, by decide⟩
theorem fl_RX5_52 : FL RX5 52 5 4 false (.int) := ⟨RX5, TX5, 7, tyX5, rfl, kl_cl5, tyX5_ok, nmX5, by decide, ⟨List.mem_of_getElem? (i := 88) (by decide +kernel), rfl⟩, rfl, rfl, by decide⟩
theorem fl_RX5_24 : FL RX5 24 5 5 false (.int) := ⟨RX5, TX5, 7, tyX5, rfl, kl_cl5, tyX5_ok, nmX5, by decide, ⟨List.mem_of_getElem? (i := 89) (by decide +kernel), rfl⟩, rfl, rfl, by decide⟩
theorem fl_RX5_49 : FL RX5 49 5 6 false (.int) := ⟨RX5, TX5, 7, tyX5, rfl, kl_cl5, tyX5_ok, nmX5, by decide, ⟨List.mem_of_getElem? (i := 90) (by decide +kernel), rfl⟩, rfl, rfl, by decide⟩
theorem lk_RX7_26 : LK RX7 26 yX2_init := ⟨List.mem_of_getElem? (i := 108) (by decide +kernel), rfl⟩
theorem lk_RX2_3 : LK RX2 3 objectInit := ⟨List.mem_of_getElem? (i := 111) (by decide +kernel), rfl⟩
theorem nw_RX2_9 : NW RX2 9 0 [vi 0, vi 0, .null, .null, .null, .null] := ⟨RX0, TX0, tyX0, rfl, kl_cl0, tyX0_ok, ⟨List.mem_of_getElem? (i := 112) (by decide +kernel), rfl⟩, ⟨List.mem_of_getElem? (i := 113) (by decide +kernel), rfl⟩, ⟨List.mem_of_getElem? (i := 59) (by decide +kernel), rfl⟩, fun j hj => by
  have h : j < 6 := hj
  rcases (show j = 0 ∨ j = 1 ∨ j = 2 ∨ j = 3 ∨ j = 4 ∨ j = 5 by omega) with rfl | rfl | rfl | rfl | rfl | rfl <;> rfl⟩
theorem ln_RX2_11 : LN RX2 11 yX0_init := ⟨"ProgressTracker", List.mem_of_getElem? (i := 114) (by decide +kernel)⟩
theorem lk_RX0_3 : LK RX0 3 objectInit := ⟨List.mem_of_getElem? (i := 117) (by decide +kernel), rfl⟩
theorem fl_RX0_24 : FL RX0 24 0 0 false (.int) := ⟨RX0, TX0, 6, tyX0, rfl, kl_cl0, tyX0_ok, nmX0, by decide, ⟨List.mem_of_getElem? (i := 118) (by decide +kernel), rfl⟩, rfl, rfl, by decide⟩
theorem fl_RX7_47 : FL RX7 47 0 0 false (.int) := ⟨RX0, TX0, 6, tyX0, rfl, kl_cl0, tyX0_ok, nmX0, by decide, ⟨List.mem_of_getElem? (i := 119) (by decide +kernel), rfl⟩, rfl, rfl, by decide⟩
theorem fl_RX0_28 : FL RX0 28 0 1 false (.int) := ⟨RX0, TX0, 6, tyX0, rfl, kl_cl0, tyX0_ok, nmX0, by decide, ⟨List.mem_of_getElem? (i := 120) (by decide +kernel), rfl⟩, rfl, rfl, by decide⟩
theorem fl_RX7_73 : FL RX7 73 0 1 false (.int) := ⟨RX0, TX0, 6, tyX0, rfl, kl_cl0, tyX0_ok, nmX0, by decide, ⟨List.mem_of_getElem? (i := 121) (by decide +kernel), rfl⟩, rfl, rfl, by decide⟩
theorem fl_RX2_71 : FL RX2 71 0 1 false (.int) := ⟨RX0, TX0, 6, tyX0, rfl, kl_cl0, tyX0_ok, nmX0, by decide, ⟨List.mem_of_getElem? (i := 122) (by decide +kernel), rfl⟩, rfl, rfl, by decide⟩
theorem fl_RX5_59 : FL RX5 59 0 1 false (.int) := ⟨RX0, TX0, 6, tyX0, rfl, kl_cl0, tyX0_ok, nmX0, by decide, ⟨List.mem_of_getElem? (i := 123) (by decide +kernel), rfl⟩, rfl, rfl, by decide⟩
theorem fl_RX0_9 : FL RX0 9 0 2 true (.array .int) := ⟨RX0, TX0, 6, tyX0, rfl, kl_cl0, tyX0_ok, nmX0, by decide, ⟨List.mem_of_getElem? (i := 124) (by decide +kernel), rfl⟩, rfl, rfl, by decide⟩
theorem fl_RX7_258 : FL RX7 258 0 2 true (.array .int) := ⟨RX0, TX0, 6, tyX0, rfl, kl_cl0, tyX0_ok, nmX0, by decide, ⟨List.mem_of_getElem? (i := 125) (by decide +kernel), rfl⟩, rfl, rfl, by decide⟩
theorem fl_RX0_15 : FL RX0 15 0 3 true (.array .int) := ⟨RX0, TX0, 6, tyX0, rfl, kl_cl0, tyX0_ok, nmX0, by decide, ⟨List.mem_of_getElem? (i := 126) (by decide +kernel), rfl⟩, rfl, rfl, by decide⟩
theorem fl_RX5_64 : FL RX5 64 0 3 true (.array .int) := ⟨RX0, TX0, 6, tyX0, rfl, kl_cl0, tyX0_ok, nmX0, by decide, ⟨List.mem_of_getElem? (i := 127) (by decide +kernel), rfl⟩, rfl, rfl, by decide⟩
theorem fl_RX7_117 : FL RX7 117 0 3 true (.array .int) := ⟨RX0, TX0, 6, tyX0, rfl, kl_cl0, tyX0_ok, nmX0, by decide, ⟨List.mem_of_getElem? (i := 128) (by decide +kernel), rfl⟩, rfl, rfl, by decide⟩
theorem fl_RX0_18 : FL RX0 18 0 4 true (.array .int) := ⟨RX0, TX0, 6, tyX0, rfl, kl_cl0, tyX0_ok, nmX0, by decide, ⟨List.mem_of_getElem? (i := 129) (by decide +kernel), rfl⟩, rfl, rfl, by decide⟩
theorem fl_RX5_71 : FL RX5 71 0 4 true (.array .int) := ⟨RX0, TX0, 6, tyX0, rfl, kl_cl0, tyX0_ok, nmX0, by decide, ⟨List.mem_of_getElem? (i := 130) (by decide +kernel), rfl⟩, rfl, rfl, by decide⟩
theorem fl_RX7_143 : FL RX7 143 0 4 true (.array .int) := ⟨RX0, TX0, 6, tyX0, rfl, kl_cl0, tyX0_ok, nmX0, by decide, ⟨List.mem_of_getElem? (i := 131) (by decide +kernel), rfl⟩, rfl, rfl, by decide⟩
theorem fl_RX0_21 : FL RX0 21 0 5 true (.array .int) := ⟨RX0, TX0, 6, tyX0, rfl, kl_cl0, tyX0_ok, nmX0, by decide, ⟨List.mem_of_getElem? (i := 132) (by decide +kernel), rfl⟩, rfl, rfl, by decide⟩
theorem fl_RX7_83 : FL RX7 83 0 5 true (.array .int) := ⟨RX0, TX0, 6, tyX0, rfl, kl_cl0, tyX0_ok, nmX0, by decide, ⟨List.mem_of_getElem? (i := 133) (by decide +kernel), rfl⟩, rfl, rfl, by decide⟩
theorem nw_RX2_18 : NW RX2 18 1 [.null, .null] := ⟨RX1, TX1, tyX1, rfl, kl_cl1, tyX1_ok, ⟨List.mem_of_getElem? (i := 147) (by decide +kernel), rfl⟩, ⟨List.mem_of_getElem? (i := 148) (by decide +kernel), rfl⟩, ⟨List.mem_of_getElem? (i := 60) (by decide +kernel), rfl⟩, fun j hj => by
  have h : j < 2 := hj
  rcases (show j = 0 ∨ j = 1 by omega) with rfl | rfl <;> rfl⟩
theorem ln_RX2_20 : LN RX2 20 yX1_init := ⟨"ProgressTracker", List.mem_of_getElem? (i := 149) (by decide +kernel)⟩
theorem lk_RX1_3 : LK RX1 3 objectInit := ⟨List.mem_of_getElem? (i := 152) (by decide +kernel), rfl⟩
theorem fl_RX1_9 : FL RX1 9 1 0 true (.array .int) := ⟨RX1, TX1, 2, tyX1, rfl, kl_cl1, tyX1_ok, nmX1, by decide, ⟨List.mem_of_getElem? (i := 153) (by decide +kernel), rfl⟩, rfl, rfl, by decide⟩
theorem fl_RX1_15 : FL RX1 15 1 1 true (.array .int) := ⟨RX1, TX1, 2, tyX1, rfl, kl_cl1, tyX1_ok, nmX1, by decide, ⟨List.mem_of_getElem? (i := 154) (by decide +kernel), rfl⟩, rfl, rfl, by decide⟩
theorem nw_RX2_25 : NW RX2 25 6 [.null, .null] := ⟨RX6, TX6, tyX6, rfl, kl_cl6, tyX6_ok, ⟨List.mem_of_getElem? (i := 160) (by decide +kernel), rfl⟩, ⟨List.mem_of_getElem? (i := 161) (by decide +kernel), rfl⟩, ⟨List.mem_of_getElem? (i := 61) (by decide +kernel), rfl⟩, fun j hj => by
  have h : j < 2 := hj
  rcases (show j = 0 ∨ j = 1 by omega) with rfl | rfl <;> rfl⟩
theorem ln_RX2_27 : LN RX2 27 yX6_init := ⟨"ProgressTracker", List.mem_of_getElem? (i := 162) (by decide +kernel)⟩
theorem lk_RX6_3 : LK RX6 3 objectInit := ⟨List.mem_of_getElem? (i := 165) (by decide +kernel), rfl⟩
theorem fl_RX6_9 : FL RX6 9 6 0 true (.array .int) := ⟨RX6, TX6, 2, tyX6, rfl, kl_cl6, tyX6_ok, nmX6, by decide, ⟨List.mem_of_getElem? (i := 166) (by decide +kernel), rfl⟩, rfl, rfl, by decide⟩
theorem fl_RX6_15 : FL RX6 15 6 1 true (.array .int) := ⟨RX6, TX6, 2, tyX6, rfl, kl_cl6, tyX6_ok, nmX6, by decide, ⟨List.mem_of_getElem? (i := 167) (by decide +kernel), rfl⟩, rfl, rfl, by decide⟩
theorem aw_RX2_32 : (Cond.classLink RX2 32 RX4 ∈ lw_tbl ∧ kw (Cond.classLink RX2 32 RX4) = true) ∧ Cond.arrayOver (.object RX4) ∈ lw_tbl := ⟨⟨List.mem_of_getElem? (i := 173) (by decide +kernel), rfl⟩, List.mem_of_getElem? (i := 174) (by decide +kernel)⟩
theorem nw_RX2_32 : NW RX2 32 4 [vi 0, .null, .null, .null] := ⟨RX4, TX4, tyX4, rfl, kl_cl4, tyX4_ok, ⟨List.mem_of_getElem? (i := 173) (by decide +kernel), rfl⟩, ⟨List.mem_of_getElem? (i := 177) (by decide +kernel), rfl⟩, ⟨List.mem_of_getElem? (i := 62) (by decide +kernel), rfl⟩, fun j hj => by
  have h : j < 4 := hj
  rcases (show j = 0 ∨ j = 1 ∨ j = 2 ∨ j = 3 by omega) with rfl | rfl | rfl | rfl <;> rfl⟩
theorem aw_RX2_38 : (Cond.classLink RX2 38 RX3 ∈ lw_tbl ∧ kw (Cond.classLink RX2 38 RX3) = true) ∧ Cond.arrayOver (.object RX3) ∈ lw_tbl := ⟨⟨List.mem_of_getElem? (i := 175) (by decide +kernel), rfl⟩, List.mem_of_getElem? (i := 176) (by decide +kernel)⟩
theorem nw_RX2_38 : NW RX2 38 3 [vi 0, vi 0, .null] := ⟨RX3, TX3, tyX3, rfl, kl_cl3, tyX3_ok, ⟨List.mem_of_getElem? (i := 175) (by decide +kernel), rfl⟩, ⟨List.mem_of_getElem? (i := 199) (by decide +kernel), rfl⟩, ⟨List.mem_of_getElem? (i := 63) (by decide +kernel), rfl⟩, fun j hj => by
  have h : j < 3 := hj
  rcases (show j = 0 ∨ j = 1 ∨ j = 2 by omega) with rfl | rfl | rfl <;> rfl⟩
theorem ln_RX2_51 : LN RX2 51 yX4_init := ⟨"ProgressTracker", List.mem_of_getElem? (i := 178) (by decide +kernel)⟩
theorem lk_RX4_3 : LK RX4 3 objectInit := ⟨List.mem_of_getElem? (i := 181) (by decide +kernel), rfl⟩
theorem fl_RX4_28 : FL RX4 28 4 0 false (.int) := ⟨RX4, TX4, 4, tyX4, rfl, kl_cl4, tyX4_ok, nmX4, by decide, ⟨List.mem_of_getElem? (i := 182) (by decide +kernel), rfl⟩, rfl, rfl, by decide⟩
theorem fl_RX7_215 : FL RX7 215 4 0 false (.int) := ⟨RX4, TX4, 4, tyX4, rfl, kl_cl4, tyX4_ok, nmX4, by decide, ⟨List.mem_of_getElem? (i := 183) (by decide +kernel), rfl⟩, rfl, rfl, by decide⟩
theorem fl_RX4_11 : FL RX4 11 4 1 false (.array .int) := ⟨RX4, TX4, 4, tyX4, rfl, kl_cl4, tyX4_ok, nmX4, by decide, ⟨List.mem_of_getElem? (i := 184) (by decide +kernel), rfl⟩, rfl, rfl, by decide⟩
theorem fl_RX7_222 : FL RX7 222 4 1 false (.array .int) := ⟨RX4, TX4, 4, tyX4, rfl, kl_cl4, tyX4_ok, nmX4, by decide, ⟨List.mem_of_getElem? (i := 185) (by decide +kernel), rfl⟩, rfl, rfl, by decide⟩
theorem fl_RX4_15 : FL RX4 15 4 2 false (.array .int) := ⟨RX4, TX4, 4, tyX4, rfl, kl_cl4, tyX4_ok, nmX4, by decide, ⟨List.mem_of_getElem? (i := 186) (by decide +kernel), rfl⟩, rfl, rfl, by decide⟩
theorem fl_RX7_270 : FL RX7 270 4 2 false (.array .int) := ⟨RX4, TX4, 4, tyX4, rfl, kl_cl4, tyX4_ok, nmX4, by decide, ⟨List.mem_of_getElem? (i := 187) (by decide +kernel), rfl⟩, rfl, rfl, by decide⟩
theorem fl_RX4_18 : FL RX4 18 4 3 false (.array .int) := ⟨RX4, TX4, 4, tyX4, rfl, kl_cl4, tyX4_ok, nmX4, by decide, ⟨List.mem_of_getElem? (i := 188) (by decide +kernel), rfl⟩, rfl, rfl, by decide⟩
theorem fl_RX7_265 : FL RX7 265 4 3 false (.array .int) := ⟨RX4, TX4, 4, tyX4, rfl, kl_cl4, tyX4_ok, nmX4, by decide, ⟨List.mem_of_getElem? (i := 189) (by decide +kernel), rfl⟩, rfl, rfl, by decide⟩
theorem ln_RX2_52 : LN RX2 52 yX3_init := ⟨"ProgressTracker", List.mem_of_getElem? (i := 200) (by decide +kernel)⟩
theorem lk_RX3_1 : LK RX3 1 objectInit := ⟨List.mem_of_getElem? (i := 203) (by decide +kernel), rfl⟩
theorem fl_RX3_17 : FL RX3 17 3 0 false (.int) := ⟨RX3, TX3, 3, tyX3, rfl, kl_cl3, tyX3_ok, nmX3, by decide, ⟨List.mem_of_getElem? (i := 204) (by decide +kernel), rfl⟩, rfl, rfl, by decide⟩
theorem fl_RX3_13 : FL RX3 13 3 1 false (.int) := ⟨RX3, TX3, 3, tyX3, rfl, kl_cl3, tyX3_ok, nmX3, by decide, ⟨List.mem_of_getElem? (i := 205) (by decide +kernel), rfl⟩, rfl, rfl, by decide⟩
theorem fl_RX7_225 : FL RX7 225 3 1 false (.int) := ⟨RX3, TX3, 3, tyX3, rfl, kl_cl3, tyX3_ok, nmX3, by decide, ⟨List.mem_of_getElem? (i := 206) (by decide +kernel), rfl⟩, rfl, rfl, by decide⟩
theorem fl_RX3_9 : FL RX3 9 3 2 false (.array .int) := ⟨RX3, TX3, 3, tyX3, rfl, kl_cl3, tyX3_ok, nmX3, by decide, ⟨List.mem_of_getElem? (i := 207) (by decide +kernel), rfl⟩, rfl, rfl, by decide⟩
theorem lk_RX2_53 : LK RX2 53 yJ7_fill_53178 := ⟨List.mem_of_getElem? (i := 215) (by decide +kernel), rfl⟩
theorem fl_RX7_39 : FL RX7 39 2 0 false (.boolean) := ⟨RX2, TX2, 10, tyX2, rfl, kl_cl2, tyX2_ok, nmX2, by decide, ⟨List.mem_of_getElem? (i := 218) (by decide +kernel), rfl⟩, rfl, rfl, by decide⟩
theorem fl_RX2_107 : FL RX2 107 2 0 false (.boolean) := ⟨RX2, TX2, 10, tyX2, rfl, kl_cl2, tyX2_ok, nmX2, by decide, ⟨List.mem_of_getElem? (i := 219) (by decide +kernel), rfl⟩, rfl, rfl, by decide⟩
theorem fl_RX2_101 : FL RX2 101 2 1 false (.int) := ⟨RX2, TX2, 10, tyX2, rfl, kl_cl2, tyX2_ok, nmX2, by decide, ⟨List.mem_of_getElem? (i := 220) (by decide +kernel), rfl⟩, rfl, rfl, by decide⟩
theorem fl_RX7_226 : FL RX7 226 2 1 false (.int) := ⟨RX2, TX2, 10, tyX2, rfl, kl_cl2, tyX2_ok, nmX2, by decide, ⟨List.mem_of_getElem? (i := 221) (by decide +kernel), rfl⟩, rfl, rfl, by decide⟩
theorem fl_RX2_104 : FL RX2 104 2 2 false (.int) := ⟨RX2, TX2, 10, tyX2, rfl, kl_cl2, tyX2_ok, nmX2, by decide, ⟨List.mem_of_getElem? (i := 222) (by decide +kernel), rfl⟩, rfl, rfl, by decide⟩
theorem fl_RX7_229 : FL RX7 229 2 2 false (.int) := ⟨RX2, TX2, 10, tyX2, rfl, kl_cl2, tyX2_ok, nmX2, by decide, ⟨List.mem_of_getElem? (i := 223) (by decide +kernel), rfl⟩, rfl, rfl, by decide⟩
theorem fl_RX2_12 : FL RX2 12 2 3 true (.object "ProgressTracker$Graph") := ⟨RX2, TX2, 10, tyX2, rfl, kl_cl2, tyX2_ok, nmX2, by decide, ⟨List.mem_of_getElem? (i := 224) (by decide +kernel), rfl⟩, rfl, rfl, by decide⟩
theorem fl_RX7_43 : FL RX7 43 2 3 true (.object "ProgressTracker$Graph") := ⟨RX2, TX2, 10, tyX2, rfl, kl_cl2, tyX2_ok, nmX2, by decide, ⟨List.mem_of_getElem? (i := 225) (by decide +kernel), rfl⟩, rfl, rfl, by decide⟩
theorem fl_RX2_21 : FL RX2 21 2 4 true (.object "ProgressTracker$Mail") := ⟨RX2, TX2, 10, tyX2, rfl, kl_cl2, tyX2_ok, nmX2, by decide, ⟨List.mem_of_getElem? (i := 226) (by decide +kernel), rfl⟩, rfl, rfl, by decide⟩
theorem fl_RX7_120 : FL RX7 120 2 4 true (.object "ProgressTracker$Mail") := ⟨RX2, TX2, 10, tyX2, rfl, kl_cl2, tyX2_ok, nmX2, by decide, ⟨List.mem_of_getElem? (i := 227) (by decide +kernel), rfl⟩, rfl, rfl, by decide⟩
theorem fl_RX2_28 : FL RX2 28 2 5 true (.object "ProgressTracker$Wishes") := ⟨RX2, TX2, 10, tyX2, rfl, kl_cl2, tyX2_ok, nmX2, by decide, ⟨List.mem_of_getElem? (i := 228) (by decide +kernel), rfl⟩, rfl, rfl, by decide⟩
theorem fl_RX7_155 : FL RX7 155 2 5 true (.object "ProgressTracker$Wishes") := ⟨RX2, TX2, 10, tyX2, rfl, kl_cl2, tyX2_ok, nmX2, by decide, ⟨List.mem_of_getElem? (i := 229) (by decide +kernel), rfl⟩, rfl, rfl, by decide⟩
theorem fl_RX2_34 : FL RX2 34 2 6 true (.array (.object "ProgressTracker$View")) := ⟨RX2, TX2, 10, tyX2, rfl, kl_cl2, tyX2_ok, nmX2, by decide, ⟨List.mem_of_getElem? (i := 230) (by decide +kernel), rfl⟩, rfl, rfl, by decide⟩
theorem fl_RX7_189 : FL RX7 189 2 6 true (.array (.object "ProgressTracker$View")) := ⟨RX2, TX2, 10, tyX2, rfl, kl_cl2, tyX2_ok, nmX2, by decide, ⟨List.mem_of_getElem? (i := 231) (by decide +kernel), rfl⟩, rfl, rfl, by decide⟩
theorem fl_RX2_40 : FL RX2 40 2 7 true (.array (.object "ProgressTracker$UpdateQueue")) := ⟨RX2, TX2, 10, tyX2, rfl, kl_cl2, tyX2_ok, nmX2, by decide, ⟨List.mem_of_getElem? (i := 232) (by decide +kernel), rfl⟩, rfl, rfl, by decide⟩
theorem fl_RX7_185 : FL RX7 185 2 7 true (.array (.object "ProgressTracker$UpdateQueue")) := ⟨RX2, TX2, 10, tyX2, rfl, kl_cl2, tyX2_ok, nmX2, by decide, ⟨List.mem_of_getElem? (i := 233) (by decide +kernel), rfl⟩, rfl, rfl, by decide⟩
theorem fl_RX2_44 : FL RX2 44 2 8 true (.array .int) := ⟨RX2, TX2, 10, tyX2, rfl, kl_cl2, tyX2_ok, nmX2, by decide, ⟨List.mem_of_getElem? (i := 234) (by decide +kernel), rfl⟩, rfl, rfl, by decide⟩
theorem fl_RX7_114 : FL RX7 114 2 8 true (.array .int) := ⟨RX2, TX2, 10, tyX2, rfl, kl_cl2, tyX2_ok, nmX2, by decide, ⟨List.mem_of_getElem? (i := 235) (by decide +kernel), rfl⟩, rfl, rfl, by decide⟩
theorem fl_RX2_48 : FL RX2 48 2 9 true (.array .int) := ⟨RX2, TX2, 10, tyX2, rfl, kl_cl2, tyX2_ok, nmX2, by decide, ⟨List.mem_of_getElem? (i := 236) (by decide +kernel), rfl⟩, rfl, rfl, by decide⟩
theorem fl_RX7_9 : FL RX7 9 7 0 true (.array .int) := ⟨RX7, TX7, 5, tyX7, rfl, kl_cl7, tyX7_ok, nmX7, by decide, ⟨List.mem_of_getElem? (i := 258) (by decide +kernel), rfl⟩, rfl, rfl, by decide⟩
theorem fl_RX7_15 : FL RX7 15 7 1 true (.array (.object "ProgressTracker$State")) := ⟨RX7, TX7, 5, tyX7, rfl, kl_cl7, tyX7_ok, nmX7, by decide, ⟨List.mem_of_getElem? (i := 259) (by decide +kernel), rfl⟩, rfl, rfl, by decide⟩
theorem fl_RX7_22 : FL RX7 22 7 2 true (.object "ProgressTracker$Ways") := ⟨RX7, TX7, 5, tyX7, rfl, kl_cl7, tyX7_ok, nmX7, by decide, ⟨List.mem_of_getElem? (i := 260) (by decide +kernel), rfl⟩, rfl, rfl, by decide⟩
theorem fl_RX7_27 : FL RX7 27 7 3 false (.object "ProgressTracker$State") := ⟨RX7, TX7, 5, tyX7, rfl, kl_cl7, tyX7_ok, nmX7, by decide, ⟨List.mem_of_getElem? (i := 261) (by decide +kernel), rfl⟩, rfl, rfl, by decide⟩
theorem fl_RX7_232 : FL RX7 232 7 4 false (.int) := ⟨RX7, TX7, 5, tyX7, rfl, kl_cl7, tyX7_ok, nmX7, by decide, ⟨List.mem_of_getElem? (i := 262) (by decide +kernel), rfl⟩, rfl, rfl, by decide⟩
theorem lk_RL_13 : LK RL 13 yX7_addNode := ⟨List.mem_of_getElem? (i := 274) (by decide +kernel), rfl⟩
theorem lk_RX7_31 : LK RX7 31 yX7_isFlag := ⟨List.mem_of_getElem? (i := 278) (by decide +kernel), rfl⟩
theorem lk_RX7_35 : LK RX7 35 yX7_fail := ⟨List.mem_of_getElem? (i := 281) (by decide +kernel), rfl⟩
theorem lk_RX7_53 : LK RX7 53 yX7_save := ⟨List.mem_of_getElem? (i := 285) (by decide +kernel), rfl⟩
theorem lk_RX7_281 : LK RX7 281 yX7_dropOldest := ⟨List.mem_of_getElem? (i := 289) (by decide +kernel), rfl⟩
theorem lk_RX7_284 : LK RX7 284 yX2_copyFrom := ⟨List.mem_of_getElem? (i := 293) (by decide +kernel), rfl⟩
theorem lk_RX2_111 : LK RX2 111 yX0_copyFrom := ⟨List.mem_of_getElem? (i := 297) (by decide +kernel), rfl⟩
theorem lk_RX0_59 : LK RX0 59 arraycopyName := ⟨List.mem_of_getElem? (i := 301) (by decide +kernel), rfl⟩
theorem lk_RX2_115 : LK RX2 115 yX1_copyFrom := ⟨List.mem_of_getElem? (i := 304) (by decide +kernel), rfl⟩
theorem lk_RX1_31 : LK RX1 31 arraycopyName := ⟨List.mem_of_getElem? (i := 308) (by decide +kernel), rfl⟩
theorem lk_RX2_118 : LK RX2 118 yX6_copyFrom := ⟨List.mem_of_getElem? (i := 309) (by decide +kernel), rfl⟩
theorem lk_RX6_22 : LK RX6 22 arraycopyName := ⟨List.mem_of_getElem? (i := 313) (by decide +kernel), rfl⟩
theorem lk_RX2_121 : LK RX2 121 yX4_copyFrom := ⟨List.mem_of_getElem? (i := 314) (by decide +kernel), rfl⟩
theorem lk_RX4_40 : LK RX4 40 yX4_makeRoom := ⟨List.mem_of_getElem? (i := 318) (by decide +kernel), rfl⟩
theorem lk_RX4_49 : LK RX4 49 yJ7_copyOf_59c91 := ⟨List.mem_of_getElem? (i := 322) (by decide +kernel), rfl⟩
theorem lk_RJ7_304 : LK RJ7 304 yJ9_min_7cf53 := ⟨List.mem_of_getElem? (i := 332) (by decide +kernel), rfl⟩
theorem lk_RJ7_150 : LK RJ7 150 arraycopyName := ⟨List.mem_of_getElem? (i := 335) (by decide +kernel), rfl⟩
theorem lk_RX4_43 : LK RX4 43 arraycopyName := ⟨List.mem_of_getElem? (i := 336) (by decide +kernel), rfl⟩
theorem lk_RX2_124 : LK RX2 124 yX3_copyFrom := ⟨List.mem_of_getElem? (i := 337) (by decide +kernel), rfl⟩
theorem lk_RX3_35 : LK RX3 35 arraycopyName := ⟨List.mem_of_getElem? (i := 341) (by decide +kernel), rfl⟩
theorem lk_RX2_127 : LK RX2 127 arraycopyName := ⟨List.mem_of_getElem? (i := 342) (by decide +kernel), rfl⟩
theorem lk_RX7_56 : LK RX7 56 yX5_forget := ⟨List.mem_of_getElem? (i := 343) (by decide +kernel), rfl⟩
theorem lk_RX7_59 : LK RX7 59 yX2_appendNode := ⟨List.mem_of_getElem? (i := 347) (by decide +kernel), rfl⟩
theorem lk_RX2_59 : LK RX2 59 yX0_appendNode := ⟨List.mem_of_getElem? (i := 351) (by decide +kernel), rfl⟩
theorem ln_RX2_63 : LN RX2 63 yX7_stampOf := ⟨"ProgressTracker", List.mem_of_getElem? (i := 355) (by decide +kernel)⟩
theorem lk_RX2_67 : LK RX2 67 yX4_change := ⟨List.mem_of_getElem? (i := 358) (by decide +kernel), rfl⟩
theorem lk_RX4_25 : LK RX4 25 yX4_firstRowFrom := ⟨List.mem_of_getElem? (i := 362) (by decide +kernel), rfl⟩
theorem lk_RX4_32 : LK RX4 32 yX4_insert := ⟨List.mem_of_getElem? (i := 366) (by decide +kernel), rfl⟩
theorem lk_RX4_36 : LK RX4 36 yX4_remove := ⟨List.mem_of_getElem? (i := 370) (by decide +kernel), rfl⟩
theorem lk_RL_18 : LK RL 18 yX7_addEdge := ⟨List.mem_of_getElem? (i := 374) (by decide +kernel), rfl⟩
theorem lk_RX7_63 : LK RX7 63 yX0_hasNode := ⟨List.mem_of_getElem? (i := 378) (by decide +kernel), rfl⟩
theorem lk_RX7_66 : LK RX7 66 yX2_isInput := ⟨List.mem_of_getElem? (i := 382) (by decide +kernel), rfl⟩
theorem lk_RX7_69 : LK RX7 69 yX0_allowsEdge := ⟨List.mem_of_getElem? (i := 386) (by decide +kernel), rfl⟩
theorem lk_RX0_45 : LK RX0 45 yX0_putEdge := ⟨List.mem_of_getElem? (i := 390) (by decide +kernel), rfl⟩
theorem lk_RX0_52 : LK RX0 52 yX0_kindBetween := ⟨List.mem_of_getElem? (i := 394) (by decide +kernel), rfl⟩
theorem lk_RX0_49 : LK RX0 49 yX0_returnsWithoutFeedback := ⟨List.mem_of_getElem? (i := 397) (by decide +kernel), rfl⟩
theorem lk_RX0_31 : LK RX0 31 yX0_contains := ⟨List.mem_of_getElem? (i := 401) (by decide +kernel), rfl⟩
theorem lk_RX0_56 : LK RX0 56 yX0_staysWithoutFeedback := ⟨List.mem_of_getElem? (i := 404) (by decide +kernel), rfl⟩
theorem lk_RX7_76 : LK RX7 76 yX0_appendEdge := ⟨List.mem_of_getElem? (i := 408) (by decide +kernel), rfl⟩
theorem lk_RL_23 : LK RL 23 yX7_kind := ⟨List.mem_of_getElem? (i := 412) (by decide +kernel), rfl⟩
theorem lk_RX7_80 : LK RX7 80 yX0_hasEdge := ⟨List.mem_of_getElem? (i := 416) (by decide +kernel), rfl⟩
theorem lk_RL_28 : LK RL 28 yX7_move := ⟨List.mem_of_getElem? (i := 420) (by decide +kernel), rfl⟩
theorem lk_RX7_86 : LK RX7 86 yX0_hasTime := ⟨List.mem_of_getElem? (i := 424) (by decide +kernel), rfl⟩
theorem lk_RX0_42 : LK RX0 42 yX0_hasLocation := ⟨List.mem_of_getElem? (i := 428) (by decide +kernel), rfl⟩
theorem lk_RX0_35 : LK RX0 35 yX0_hasNode := ⟨List.mem_of_getElem? (i := 432) (by decide +kernel), rfl⟩
theorem lk_RX0_39 : LK RX0 39 yX0_hasEdge := ⟨List.mem_of_getElem? (i := 433) (by decide +kernel), rfl⟩
theorem lk_RX7_90 : LK RX7 90 yX0_timeAfter := ⟨List.mem_of_getElem? (i := 434) (by decide +kernel), rfl⟩
theorem lk_RL_32 : LK RL 32 yX7_couldResultIn := ⟨List.mem_of_getElem? (i := 438) (by decide +kernel), rfl⟩
theorem lk_RX7_94 : LK RX7 94 yX7_stampOf := ⟨List.mem_of_getElem? (i := 442) (by decide +kernel), rfl⟩
theorem lk_RX7_97 : LK RX7 97 yX5_lead := ⟨List.mem_of_getElem? (i := 443) (by decide +kernel), rfl⟩
theorem lk_RX5_28 : LK RX5 28 yX5_leastCounters := ⟨List.mem_of_getElem? (i := 447) (by decide +kernel), rfl⟩
theorem ln_RX5_32 : LN RX5 32 yX7_countersOf := ⟨"ProgressTracker", List.mem_of_getElem? (i := 451) (by decide +kernel)⟩
theorem lk_RX5_36 : LK RX5 36 yX5_makeRows := ⟨List.mem_of_getElem? (i := 454) (by decide +kernel), rfl⟩
theorem lk_RX5_39 : LK RX5 39 yX5_search := ⟨List.mem_of_getElem? (i := 458) (by decide +kernel), rfl⟩
theorem lk_RX5_43 : LK RX5 43 yJ7_fill_fda19 := ⟨List.mem_of_getElem? (i := 462) (by decide +kernel), rfl⟩
theorem lk_RJ7_13 : LK RJ7 13 yJ7_rangeCheck_23922 := ⟨List.mem_of_getElem? (i := 465) (by decide +kernel), rfl⟩
theorem lk_RX5_55 : LK RX5 55 yX5_addPlace := ⟨List.mem_of_getElem? (i := 468) (by decide +kernel), rfl⟩
theorem lk_RX5_67 : LK RX5 67 yX0_timeAfter := ⟨List.mem_of_getElem? (i := 472) (by decide +kernel), rfl⟩
theorem lk_RL_37 : LK RL 37 yX7_earliest := ⟨List.mem_of_getElem? (i := 473) (by decide +kernel), rfl⟩
theorem lk_RX7_101 : LK RX7 101 yX0_hasLocation := ⟨List.mem_of_getElem? (i := 477) (by decide +kernel), rfl⟩
theorem lk_RX7_104 : LK RX7 104 yX5_leastCounters := ⟨List.mem_of_getElem? (i := 478) (by decide +kernel), rfl⟩
theorem lk_RX7_108 : LK RX7 108 yX7_countersOf := ⟨List.mem_of_getElem? (i := 479) (by decide +kernel), rfl⟩
theorem lk_RL_41 : LK RL 41 yX7_send := ⟨List.mem_of_getElem? (i := 480) (by decide +kernel), rfl⟩
theorem lk_RX7_111 : LK RX7 111 yX7_isWorker := ⟨List.mem_of_getElem? (i := 484) (by decide +kernel), rfl⟩
theorem lk_RX7_124 : LK RX7 124 yX1_isFull := ⟨List.mem_of_getElem? (i := 487) (by decide +kernel), rfl⟩
theorem lk_RX1_18 : LK RX1 18 yX1_sizeOf := ⟨List.mem_of_getElem? (i := 491) (by decide +kernel), rfl⟩
theorem lk_RX7_129 : LK RX7 129 yX7_beginEvent := ⟨List.mem_of_getElem? (i := 495) (by decide +kernel), rfl⟩
theorem lk_RX7_132 : LK RX7 132 yX2_putMessage := ⟨List.mem_of_getElem? (i := 499) (by decide +kernel), rfl⟩
theorem lk_RX2_83 : LK RX2 83 yX1_put := ⟨List.mem_of_getElem? (i := 503) (by decide +kernel), rfl⟩
theorem lk_RX2_87 : LK RX2 87 yX2_update := ⟨List.mem_of_getElem? (i := 507) (by decide +kernel), rfl⟩
theorem lk_RX2_90 : LK RX2 90 yX3_add := ⟨List.mem_of_getElem? (i := 511) (by decide +kernel), rfl⟩
theorem lk_RX3_20 : LK RX3 20 yX3_makeRoomAtEnd := ⟨List.mem_of_getElem? (i := 515) (by decide +kernel), rfl⟩
theorem lk_RL_45 : LK RL 45 yX7_advance := ⟨List.mem_of_getElem? (i := 519) (by decide +kernel), rfl⟩
theorem lk_RX7_136 : LK RX7 136 yX2_update := ⟨List.mem_of_getElem? (i := 523) (by decide +kernel), rfl⟩
theorem lk_RL_49 : LK RL 49 yX7_close := ⟨List.mem_of_getElem? (i := 524) (by decide +kernel), rfl⟩
theorem lk_RL_53 : LK RL 53 yX7_process := ⟨List.mem_of_getElem? (i := 528) (by decide +kernel), rfl⟩
theorem lk_RX7_140 : LK RX7 140 yX0_hasEdges := ⟨List.mem_of_getElem? (i := 532) (by decide +kernel), rfl⟩
theorem lk_RX7_146 : LK RX7 146 yX1_sizeOf := ⟨List.mem_of_getElem? (i := 536) (by decide +kernel), rfl⟩
theorem lk_RX7_149 : LK RX7 149 yX0_startAllAt := ⟨List.mem_of_getElem? (i := 537) (by decide +kernel), rfl⟩
theorem lk_RX7_152 : LK RX7 152 yX1_isAnyFull := ⟨List.mem_of_getElem? (i := 541) (by decide +kernel), rfl⟩
theorem lk_RX1_22 : LK RX1 22 yX0_contains := ⟨List.mem_of_getElem? (i := 545) (by decide +kernel), rfl⟩
theorem lk_RX1_28 : LK RX1 28 yX1_isFull := ⟨List.mem_of_getElem? (i := 546) (by decide +kernel), rfl⟩
theorem lk_RX7_159 : LK RX7 159 yX6_isFull := ⟨List.mem_of_getElem? (i := 547) (by decide +kernel), rfl⟩
theorem lk_RX7_163 : LK RX7 163 yX1_take := ⟨List.mem_of_getElem? (i := 551) (by decide +kernel), rfl⟩
theorem lk_RX7_166 : LK RX7 166 yX2_putMessages := ⟨List.mem_of_getElem? (i := 555) (by decide +kernel), rfl⟩
theorem lk_RX2_75 : LK RX2 75 yX0_contains := ⟨List.mem_of_getElem? (i := 559) (by decide +kernel), rfl⟩
theorem lk_RX2_79 : LK RX2 79 yX2_putMessage := ⟨List.mem_of_getElem? (i := 560) (by decide +kernel), rfl⟩
theorem lk_RX7_169 : LK RX7 169 yX6_put := ⟨List.mem_of_getElem? (i := 561) (by decide +kernel), rfl⟩
theorem lk_RX7_173 : LK RX7 173 yX2_recordArrival := ⟨List.mem_of_getElem? (i := 565) (by decide +kernel), rfl⟩
theorem ln_RX2_93 : LN RX2 93 yX7_countersOf := ⟨"ProgressTracker", List.mem_of_getElem? (i := 569) (by decide +kernel)⟩
theorem lk_RL_58 : LK RL 58 yX7_deliver := ⟨List.mem_of_getElem? (i := 570) (by decide +kernel), rfl⟩
theorem lk_RX7_176 : LK RX7 176 yX7_leastDeliverable := ⟨List.mem_of_getElem? (i := 574) (by decide +kernel), rfl⟩
theorem lk_RX7_273 : LK RX7 273 yX6_sizeOf := ⟨List.mem_of_getElem? (i := 578) (by decide +kernel), rfl⟩
theorem lk_RX7_275 : LK RX7 275 yX6_stampAt := ⟨List.mem_of_getElem? (i := 582) (by decide +kernel), rfl⟩
theorem lk_RX7_278 : LK RX7 278 yX4_rowOf := ⟨List.mem_of_getElem? (i := 586) (by decide +kernel), rfl⟩
theorem lk_RX7_218 : LK RX7 218 yX7_isOnFrontier := ⟨List.mem_of_getElem? (i := 590) (by decide +kernel), rfl⟩
theorem lk_RX7_179 : LK RX7 179 yX6_remove := ⟨List.mem_of_getElem? (i := 594) (by decide +kernel), rfl⟩
theorem lk_RX6_18 : LK RX6 18 yX6_stampAt := ⟨List.mem_of_getElem? (i := 598) (by decide +kernel), rfl⟩
theorem lk_RX7_182 : LK RX7 182 yX2_recordDelivery := ⟨List.mem_of_getElem? (i := 599) (by decide +kernel), rfl⟩
theorem lk_RX2_96 : LK RX2 96 yJ9_max_7cf53 := ⟨List.mem_of_getElem? (i := 603) (by decide +kernel), rfl⟩
theorem lk_RL_62 : LK RL 62 yX7_receive := ⟨List.mem_of_getElem? (i := 606) (by decide +kernel), rfl⟩
theorem lk_RX7_193 : LK RX7 193 yX3_moveTo := ⟨List.mem_of_getElem? (i := 610) (by decide +kernel), rfl⟩
theorem lk_RX3_23 : LK RX3 23 yJ9_min_7cf53 := ⟨List.mem_of_getElem? (i := 614) (by decide +kernel), rfl⟩
theorem lk_RX3_29 : LK RX3 29 yX4_change := ⟨List.mem_of_getElem? (i := 615) (by decide +kernel), rfl⟩
theorem lk_RL_66 : LK RL 66 yX7_messages := ⟨List.mem_of_getElem? (i := 616) (by decide +kernel), rfl⟩
theorem lk_RL_70 : LK RL 70 yX7_messageTime := ⟨List.mem_of_getElem? (i := 620) (by decide +kernel), rfl⟩
theorem lk_RX7_199 : LK RX7 199 yX1_timeOf := ⟨List.mem_of_getElem? (i := 624) (by decide +kernel), rfl⟩
theorem lk_RL_74 : LK RL 74 yX7_requests := ⟨List.mem_of_getElem? (i := 628) (by decide +kernel), rfl⟩
theorem lk_RX7_203 : LK RX7 203 yX6_countAt := ⟨List.mem_of_getElem? (i := 632) (by decide +kernel), rfl⟩
theorem lk_RL_78 : LK RL 78 yX7_deliverable := ⟨List.mem_of_getElem? (i := 636) (by decide +kernel), rfl⟩
theorem lk_RL_82 : LK RL 82 yX7_count := ⟨List.mem_of_getElem? (i := 640) (by decide +kernel), rfl⟩
theorem lk_RX7_206 : LK RX7 206 yX4_countOf := ⟨List.mem_of_getElem? (i := 644) (by decide +kernel), rfl⟩
theorem lk_RX4_21 : LK RX4 21 yX4_rowOf := ⟨List.mem_of_getElem? (i := 648) (by decide +kernel), rfl⟩
theorem lk_RL_86 : LK RL 86 yX7_active := ⟨List.mem_of_getElem? (i := 649) (by decide +kernel), rfl⟩
theorem lk_RX7_211 : LK RX7 211 yX4_countActive := ⟨List.mem_of_getElem? (i := 653) (by decide +kernel), rfl⟩
theorem lk_RL_90 : LK RL 90 yX7_frontier := ⟨List.mem_of_getElem? (i := 657) (by decide +kernel), rfl⟩
theorem lk_RL_94 : LK RL 94 yX7_pending := ⟨List.mem_of_getElem? (i := 661) (by decide +kernel), rfl⟩
theorem lk_RL_98 : LK RL 98 yX7_delivered := ⟨List.mem_of_getElem? (i := 665) (by decide +kernel), rfl⟩
theorem lk_RL_103 : LK RL 103 yX7_violations := ⟨List.mem_of_getElem? (i := 669) (by decide +kernel), rfl⟩
theorem lk_RL_107 : LK RL 107 yX7_undo := ⟨List.mem_of_getElem? (i := 673) (by decide +kernel), rfl⟩
theorem lk_RX7_235 : LK RX7 235 yX0_isAsLargeAs := ⟨List.mem_of_getElem? (i := 677) (by decide +kernel), rfl⟩
theorem lk_RL_111 : LK RL 111 yX7_errorCount := ⟨List.mem_of_getElem? (i := 681) (by decide +kernel), rfl⟩
theorem lk_RL_115 : LK RL 115 yX7_digest := ⟨List.mem_of_getElem? (i := 685) (by decide +kernel), rfl⟩
theorem kc_RX7_239 : Cond.constantLong RX7 239 (2731 : Int64) ∈ lw_tbl ∧ kw (Cond.constantLong RX7 239 (2731 : Int64)) = true := ⟨List.mem_of_getElem? (i := 689) (by decide +kernel), rfl⟩
theorem lk_RX7_241 : LK RX7 241 yX7_mix := ⟨List.mem_of_getElem? (i := 690) (by decide +kernel), rfl⟩
theorem kc_RX7_268 : Cond.constantLong RX7 268 (31 : Int64) ∈ lw_tbl ∧ kw (Cond.constantLong RX7 268 (31 : Int64)) = true := ⟨List.mem_of_getElem? (i := 693) (by decide +kernel), rfl⟩
theorem lk_RX7_245 : LK RX7 245 yX7_mixGraph := ⟨List.mem_of_getElem? (i := 694) (by decide +kernel), rfl⟩
theorem lk_RX7_249 : LK RX7 249 yX7_mixMail := ⟨List.mem_of_getElem? (i := 698) (by decide +kernel), rfl⟩
theorem lk_RX7_252 : LK RX7 252 yX7_mixNotifications := ⟨List.mem_of_getElem? (i := 702) (by decide +kernel), rfl⟩
theorem lk_RX7_255 : LK RX7 255 yX7_mixView := ⟨List.mem_of_getElem? (i := 706) (by decide +kernel), rfl⟩
theorem lk_RX7_261 : LK RX7 261 yX7_markFrontier := ⟨List.mem_of_getElem? (i := 710) (by decide +kernel), rfl⟩
theorem nw_RL_10 : NW RL 10 8 [.null, .null, vi 0, .null, .null, .null, .null, .null, vi 0, .null, .null, .null, vi 0, .long 0] := ⟨RX8, TX8, tyX8, rfl, kl_cl8, tyX8_ok, ⟨List.mem_of_getElem? (i := 714) (by decide +kernel), rfl⟩, ⟨List.mem_of_getElem? (i := 715) (by decide +kernel), rfl⟩, ⟨List.mem_of_getElem? (i := 65) (by decide +kernel), rfl⟩, fun j hj => by
  have h : j < 14 := hj
  rcases (show j = 0 ∨ j = 1 ∨ j = 2 ∨ j = 3 ∨ j = 4 ∨ j = 5 ∨ j = 6 ∨ j = 7 ∨ j = 8 ∨ j = 9 ∨ j = 10 ∨ j = 11 ∨ j = 12 ∨ j = 13 by omega) with rfl | rfl | rfl | rfl | rfl | rfl | rfl | rfl | rfl | rfl | rfl | rfl | rfl | rfl <;> rfl⟩
theorem lk_RL_12 : LK RL 12 yX8_init := ⟨List.mem_of_getElem? (i := 716) (by decide +kernel), rfl⟩
theorem lk_RX8_1 : LK RX8 1 objectInit := ⟨List.mem_of_getElem? (i := 719) (by decide +kernel), rfl⟩
theorem kc_RX8_7 : Cond.constant RX8 7 (Int32.ofInt 54743) ∈ lw_tbl ∧ kw (Cond.constant RX8 7 (Int32.ofInt 54743)) = true := ⟨List.mem_of_getElem? (i := 720) (by decide +kernel), rfl⟩
theorem kc_RX8_14 : Cond.constant RX8 14 (Int32.ofInt 164229) ∈ lw_tbl ∧ kw (Cond.constant RX8 14 (Int32.ofInt 164229)) = true := ⟨List.mem_of_getElem? (i := 721) (by decide +kernel), rfl⟩
theorem fl_RX8_8 : FL RX8 8 8 0 true (.array .int) := ⟨RX8, TX8, 14, tyX8, rfl, kl_cl8, tyX8_ok, nmX8, by decide, ⟨List.mem_of_getElem? (i := 722) (by decide +kernel), rfl⟩, rfl, rfl, by decide⟩
theorem fl_RX8_15 : FL RX8 15 8 1 true (.array .int) := ⟨RX8, TX8, 14, tyX8, rfl, kl_cl8, tyX8_ok, nmX8, by decide, ⟨List.mem_of_getElem? (i := 723) (by decide +kernel), rfl⟩, rfl, rfl, by decide⟩
theorem fl_RX8_47 : FL RX8 47 8 2 false (.int) := ⟨RX8, TX8, 14, tyX8, rfl, kl_cl8, tyX8_ok, nmX8, by decide, ⟨List.mem_of_getElem? (i := 724) (by decide +kernel), rfl⟩, rfl, rfl, by decide⟩
theorem fl_RX8_18 : FL RX8 18 8 3 true (.array .int) := ⟨RX8, TX8, 14, tyX8, rfl, kl_cl8, tyX8_ok, nmX8, by decide, ⟨List.mem_of_getElem? (i := 725) (by decide +kernel), rfl⟩, rfl, rfl, by decide⟩
theorem fl_RX8_21 : FL RX8 21 8 4 true (.array .int) := ⟨RX8, TX8, 14, tyX8, rfl, kl_cl8, tyX8_ok, nmX8, by decide, ⟨List.mem_of_getElem? (i := 726) (by decide +kernel), rfl⟩, rfl, rfl, by decide⟩
theorem fl_RX8_24 : FL RX8 24 8 5 true (.array .int) := ⟨RX8, TX8, 14, tyX8, rfl, kl_cl8, tyX8_ok, nmX8, by decide, ⟨List.mem_of_getElem? (i := 727) (by decide +kernel), rfl⟩, rfl, rfl, by decide⟩
theorem fl_RX8_27 : FL RX8 27 8 6 true (.array .boolean) := ⟨RX8, TX8, 14, tyX8, rfl, kl_cl8, tyX8_ok, nmX8, by decide, ⟨List.mem_of_getElem? (i := 728) (by decide +kernel), rfl⟩, rfl, rfl, by decide⟩
theorem fl_RX8_31 : FL RX8 31 8 7 true (.array .int) := ⟨RX8, TX8, 14, tyX8, rfl, kl_cl8, tyX8_ok, nmX8, by decide, ⟨List.mem_of_getElem? (i := 729) (by decide +kernel), rfl⟩, rfl, rfl, by decide⟩
theorem fl_RX8_94 : FL RX8 94 8 8 false (.int) := ⟨RX8, TX8, 14, tyX8, rfl, kl_cl8, tyX8_ok, nmX8, by decide, ⟨List.mem_of_getElem? (i := 730) (by decide +kernel), rfl⟩, rfl, rfl, by decide⟩
theorem fl_RX8_34 : FL RX8 34 8 9 true (.array .int) := ⟨RX8, TX8, 14, tyX8, rfl, kl_cl8, tyX8_ok, nmX8, by decide, ⟨List.mem_of_getElem? (i := 731) (by decide +kernel), rfl⟩, rfl, rfl, by decide⟩
theorem fl_RX8_37 : FL RX8 37 8 10 true (.array .int) := ⟨RX8, TX8, 14, tyX8, rfl, kl_cl8, tyX8_ok, nmX8, by decide, ⟨List.mem_of_getElem? (i := 732) (by decide +kernel), rfl⟩, rfl, rfl, by decide⟩
theorem fl_RX8_40 : FL RX8 40 8 11 true (.array .boolean) := ⟨RX8, TX8, 14, tyX8, rfl, kl_cl8, tyX8_ok, nmX8, by decide, ⟨List.mem_of_getElem? (i := 733) (by decide +kernel), rfl⟩, rfl, rfl, by decide⟩
theorem fl_RX8_149 : FL RX8 149 8 12 false (.int) := ⟨RX8, TX8, 14, tyX8, rfl, kl_cl8, tyX8_ok, nmX8, by decide, ⟨List.mem_of_getElem? (i := 734) (by decide +kernel), rfl⟩, rfl, rfl, by decide⟩
theorem fl_RX8_173 : FL RX8 173 8 13 false (.long) := ⟨RX8, TX8, 14, tyX8, rfl, kl_cl8, tyX8_ok, nmX8, by decide, ⟨List.mem_of_getElem? (i := 735) (by decide +kernel), rfl⟩, rfl, rfl, by decide⟩
theorem lk_RL_110 : LK RL 110 yX8_undo := ⟨List.mem_of_getElem? (i := 766) (by decide +kernel), rfl⟩
theorem lk_RX8_52 : LK RX8 52 yX8_fails := ⟨List.mem_of_getElem? (i := 770) (by decide +kernel), rfl⟩
theorem lk_RL_17 : LK RL 17 yX8_addNode := ⟨List.mem_of_getElem? (i := 774) (by decide +kernel), rfl⟩
theorem lk_RX8_43 : LK RX8 43 yX8_within := ⟨List.mem_of_getElem? (i := 778) (by decide +kernel), rfl⟩
theorem lk_RX8_56 : LK RX8 56 yX8_saves := ⟨List.mem_of_getElem? (i := 781) (by decide +kernel), rfl⟩
theorem kc_RX8_51 : Cond.constant RX8 51 (Int32.ofInt 109486) ∈ lw_tbl ∧ kw (Cond.constant RX8 51 (Int32.ofInt 109486)) = true := ⟨List.mem_of_getElem? (i := 785) (by decide +kernel), rfl⟩
theorem lk_RX8_59 : LK RX8 59 yX8_viewAt := ⟨List.mem_of_getElem? (i := 786) (by decide +kernel), rfl⟩
theorem lk_RL_22 : LK RL 22 yX8_addEdge := ⟨List.mem_of_getElem? (i := 790) (by decide +kernel), rfl⟩
theorem lk_RX8_71 : LK RX8 71 yX8_isNode := ⟨List.mem_of_getElem? (i := 794) (by decide +kernel), rfl⟩
theorem lk_RX8_74 : LK RX8 74 yX8_mayLead := ⟨List.mem_of_getElem? (i := 798) (by decide +kernel), rfl⟩
theorem lk_RX8_63 : LK RX8 63 yX8_isInput := ⟨List.mem_of_getElem? (i := 802) (by decide +kernel), rfl⟩
theorem lk_RX8_67 : LK RX8 67 yX8_returns := ⟨List.mem_of_getElem? (i := 806) (by decide +kernel), rfl⟩
theorem lk_RL_27 : LK RL 27 yX8_kind := ⟨List.mem_of_getElem? (i := 810) (by decide +kernel), rfl⟩
theorem lk_RX8_77 : LK RX8 77 yX8_isEdge := ⟨List.mem_of_getElem? (i := 814) (by decide +kernel), rfl⟩
theorem lk_RX8_80 : LK RX8 80 yX8_kindOf := ⟨List.mem_of_getElem? (i := 818) (by decide +kernel), rfl⟩
theorem lk_RL_31 : LK RL 31 yX8_move := ⟨List.mem_of_getElem? (i := 822) (by decide +kernel), rfl⟩
theorem lk_RX8_86 : LK RX8 86 yX8_isTime := ⟨List.mem_of_getElem? (i := 826) (by decide +kernel), rfl⟩
theorem lk_RX8_83 : LK RX8 83 yX8_depthAt := ⟨List.mem_of_getElem? (i := 830) (by decide +kernel), rfl⟩
theorem lk_RX8_90 : LK RX8 90 yX8_moved := ⟨List.mem_of_getElem? (i := 834) (by decide +kernel), rfl⟩
theorem lk_RL_36 : LK RL 36 yX8_couldResultIn := ⟨List.mem_of_getElem? (i := 838) (by decide +kernel), rfl⟩
theorem lk_RX8_101 : LK RX8 101 yX8_isPlace := ⟨List.mem_of_getElem? (i := 842) (by decide +kernel), rfl⟩
theorem lk_RX8_104 : LK RX8 104 yX8_goes := ⟨List.mem_of_getElem? (i := 846) (by decide +kernel), rfl⟩
theorem lk_RX8_97 : LK RX8 97 yX8_reaches := ⟨List.mem_of_getElem? (i := 850) (by decide +kernel), rfl⟩
theorem lk_RL_40 : LK RL 40 yX8_earliest := ⟨List.mem_of_getElem? (i := 854) (by decide +kernel), rfl⟩
theorem lk_RL_44 : LK RL 44 yX8_send := ⟨List.mem_of_getElem? (i := 858) (by decide +kernel), rfl⟩
theorem lk_RX8_111 : LK RX8 111 yX8_isWorker := ⟨List.mem_of_getElem? (i := 862) (by decide +kernel), rfl⟩
theorem lk_RX8_114 : LK RX8 114 yX8_isFullLine := ⟨List.mem_of_getElem? (i := 865) (by decide +kernel), rfl⟩
theorem lk_RX8_108 : LK RX8 108 yX8_lineOf := ⟨List.mem_of_getElem? (i := 869) (by decide +kernel), rfl⟩
theorem lk_RX8_117 : LK RX8 117 yX8_puts := ⟨List.mem_of_getElem? (i := 873) (by decide +kernel), rfl⟩
theorem lk_RX8_121 : LK RX8 121 yX8_updates := ⟨List.mem_of_getElem? (i := 877) (by decide +kernel), rfl⟩
theorem kc_RX8_107 : Cond.constant RX8 107 (Int32.ofInt 38359) ∈ lw_tbl ∧ kw (Cond.constant RX8 107 (Int32.ofInt 38359)) = true := ⟨List.mem_of_getElem? (i := 881) (by decide +kernel), rfl⟩
theorem lk_RL_48 : LK RL 48 yX8_advance := ⟨List.mem_of_getElem? (i := 882) (by decide +kernel), rfl⟩
theorem lk_RL_52 : LK RL 52 yX8_close := ⟨List.mem_of_getElem? (i := 886) (by decide +kernel), rfl⟩
theorem lk_RL_57 : LK RL 57 yX8_process := ⟨List.mem_of_getElem? (i := 890) (by decide +kernel), rfl⟩
theorem lk_RX8_131 : LK RX8 131 yX8_areEdges := ⟨List.mem_of_getElem? (i := 894) (by decide +kernel), rfl⟩
theorem lk_RX8_134 : LK RX8 134 yX8_startAt := ⟨List.mem_of_getElem? (i := 898) (by decide +kernel), rfl⟩
theorem lk_RX8_125 : LK RX8 125 yX8_has := ⟨List.mem_of_getElem? (i := 902) (by decide +kernel), rfl⟩
theorem lk_RX8_137 : LK RX8 137 yX8_isOneFull := ⟨List.mem_of_getElem? (i := 905) (by decide +kernel), rfl⟩
theorem lk_RX8_140 : LK RX8 140 yX8_takes := ⟨List.mem_of_getElem? (i := 909) (by decide +kernel), rfl⟩
theorem lk_RX8_143 : LK RX8 143 yX8_violates := ⟨List.mem_of_getElem? (i := 913) (by decide +kernel), rfl⟩
theorem lk_RX8_128 : LK RX8 128 yX8_atMost := ⟨List.mem_of_getElem? (i := 917) (by decide +kernel), rfl⟩
theorem lk_RX8_146 : LK RX8 146 yX8_putsAll := ⟨List.mem_of_getElem? (i := 920) (by decide +kernel), rfl⟩
theorem lk_RL_61 : LK RL 61 yX8_deliver := ⟨List.mem_of_getElem? (i := 924) (by decide +kernel), rfl⟩
theorem lk_RX8_159 : LK RX8 159 yX8_findsFrontier := ⟨List.mem_of_getElem? (i := 928) (by decide +kernel), rfl⟩
theorem lk_RX8_152 : LK RX8 152 yX8_findsActive := ⟨List.mem_of_getElem? (i := 932) (by decide +kernel), rfl⟩
theorem lk_RX8_162 : LK RX8 162 yX8_nextAt := ⟨List.mem_of_getElem? (i := 936) (by decide +kernel), rfl⟩
theorem lk_RX8_156 : LK RX8 156 yX8_isOnFrontier := ⟨List.mem_of_getElem? (i := 940) (by decide +kernel), rfl⟩
theorem lk_RL_65 : LK RL 65 yX8_receive := ⟨List.mem_of_getElem? (i := 944) (by decide +kernel), rfl⟩
theorem lk_RL_69 : LK RL 69 yX8_messages := ⟨List.mem_of_getElem? (i := 948) (by decide +kernel), rfl⟩
theorem lk_RL_73 : LK RL 73 yX8_messageTime := ⟨List.mem_of_getElem? (i := 952) (by decide +kernel), rfl⟩
theorem lk_RL_77 : LK RL 77 yX8_requests := ⟨List.mem_of_getElem? (i := 956) (by decide +kernel), rfl⟩
theorem lk_RX8_165 : LK RX8 165 yX8_requestsOf := ⟨List.mem_of_getElem? (i := 960) (by decide +kernel), rfl⟩
theorem lk_RL_81 : LK RL 81 yX8_deliverable := ⟨List.mem_of_getElem? (i := 964) (by decide +kernel), rfl⟩
theorem lk_RL_85 : LK RL 85 yX8_count := ⟨List.mem_of_getElem? (i := 968) (by decide +kernel), rfl⟩
theorem lk_RL_89 : LK RL 89 yX8_active := ⟨List.mem_of_getElem? (i := 972) (by decide +kernel), rfl⟩
theorem lk_RL_93 : LK RL 93 yX8_frontier := ⟨List.mem_of_getElem? (i := 976) (by decide +kernel), rfl⟩
theorem lk_RX8_168 : LK RX8 168 yX8_frontierAt := ⟨List.mem_of_getElem? (i := 980) (by decide +kernel), rfl⟩
theorem lk_RL_97 : LK RL 97 yX8_pending := ⟨List.mem_of_getElem? (i := 984) (by decide +kernel), rfl⟩
theorem lk_RL_102 : LK RL 102 yX8_delivered := ⟨List.mem_of_getElem? (i := 988) (by decide +kernel), rfl⟩
theorem lk_RL_106 : LK RL 106 yX8_violations := ⟨List.mem_of_getElem? (i := 992) (by decide +kernel), rfl⟩
theorem lk_RL_114 : LK RL 114 yX8_errorCount := ⟨List.mem_of_getElem? (i := 996) (by decide +kernel), rfl⟩
theorem lk_RL_119 : LK RL 119 yX8_digest := ⟨List.mem_of_getElem? (i := 1000) (by decide +kernel), rfl⟩
theorem kc_RX8_180 : Cond.constantLong RX8 180 (2731 : Int64) ∈ lw_tbl ∧ kw (Cond.constantLong RX8 180 (2731 : Int64)) = true := ⟨List.mem_of_getElem? (i := 1004) (by decide +kernel), rfl⟩
theorem lk_RX8_177 : LK RX8 177 yX8_mix := ⟨List.mem_of_getElem? (i := 1005) (by decide +kernel), rfl⟩
theorem kc_RX8_171 : Cond.constantLong RX8 171 (31 : Int64) ∈ lw_tbl ∧ kw (Cond.constantLong RX8 171 (31 : Int64)) = true := ⟨List.mem_of_getElem? (i := 1009) (by decide +kernel), rfl⟩
theorem lk_RX8_182 : LK RX8 182 yX8_mixWorker := ⟨List.mem_of_getElem? (i := 1010) (by decide +kernel), rfl⟩
theorem ac_nat : Cond.native arraycopyName ∈ lw_tbl := List.mem_of_getElem? (i := 303) (by decide +kernel)
theorem ac_sta : Cond.static arraycopyName ∈ lw_tbl := List.mem_of_getElem? (i := 302) (by decide +kernel)
theorem ac_ini : Cond.initialized "java/lang/System" ∈ lw_tbl := List.mem_of_getElem? (i := 66) (by decide +kernel)
