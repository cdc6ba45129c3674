abbrev MX0_init : Mth := (yX0_init, cX0_init, 1, none, [], 0, 0, fun _ => 0)
set_option maxRecDepth 100000 in
theorem okX0_init : MOK MX0_init 0 := ⟨rfl, UU_in 182 rfl rfl, UU_in 17 (by decide +kernel) rfl, ⟨by decide +kernel, by decide +kernel, by decide +kernel⟩, by decide⟩
theorem imX0_init : Cond.instanceMethod yX0_init ∈ UU := UU_in 181 (by decide +kernel) rfl
abbrev MX0_nextOf : Mth := (yX0_nextOf, cX0_nextOf, 4, (some .int), [], 0, 0, fun _ => 0)
set_option maxRecDepth 100000 in
theorem okX0_nextOf : MOK MX0_nextOf 2 := ⟨rfl, UU_in 588 rfl rfl, UU_in 17 (by decide +kernel) rfl, ⟨by decide +kernel, by decide +kernel, by decide +kernel⟩, by decide⟩
theorem stX0_nextOf : Cond.static yX0_nextOf ∈ UU := UU_in 587 (by decide +kernel) rfl
abbrev MX0_search : Mth := (yX0_search, cX0_search, 8, (some .int), [], 0, 0, fun _ => 0)
set_option maxRecDepth 100000 in
theorem okX0_search : MOK MX0_search 2 := ⟨rfl, UU_in 640 rfl rfl, UU_in 17 (by decide +kernel) rfl, ⟨by decide +kernel, by decide +kernel, by decide +kernel⟩, by decide⟩
theorem imX0_search : Cond.instanceMethod yX0_search ∈ UU := UU_in 638 (by decide +kernel) rfl
theorem seX0_search : Cond.selects yX0_search.cls yX0_search yX0_search ∈ UU := UU_in 639 (by decide +kernel) rfl
abbrev MX0_fillTable : Mth := (yX0_fillTable, cX0_fillTable, 4, none, [], 0, 0, fun _ => 0)
set_option maxRecDepth 100000 in
theorem okX0_fillTable : MOK MX0_fillTable 1 := ⟨rfl, UU_in 585 rfl rfl, UU_in 17 (by decide +kernel) rfl, ⟨by decide +kernel, by decide +kernel, by decide +kernel⟩, by decide⟩
theorem imX0_fillTable : Cond.instanceMethod yX0_fillTable ∈ UU := UU_in 583 (by decide +kernel) rfl
theorem seX0_fillTable : Cond.selects yX0_fillTable.cls yX0_fillTable yX0_fillTable ∈ UU := UU_in 584 (by decide +kernel) rfl
abbrev MX1_init : Mth := (yX1_init, cX1_init, 2, none, [], 0, 0, fun _ => 0)
set_option maxRecDepth 100000 in
theorem okX1_init : MOK MX1_init 0 := ⟨rfl, UU_in 213 rfl rfl, UU_in 19 (by decide +kernel) rfl, ⟨by decide +kernel, by decide +kernel, by decide +kernel⟩, by decide⟩
theorem imX1_init : Cond.instanceMethod yX1_init ∈ UU := UU_in 212 (by decide +kernel) rfl
abbrev MX1_keep : Mth := (yX1_keep, cX1_keep, 2, none, [], 0, 0, fun _ => 0)
set_option maxRecDepth 100000 in
theorem okX1_keep : MOK MX1_keep 1 := ⟨rfl, UU_in 400 rfl rfl, UU_in 19 (by decide +kernel) rfl, ⟨by decide +kernel, by decide +kernel, by decide +kernel⟩, by decide⟩
theorem imX1_keep : Cond.instanceMethod yX1_keep ∈ UU := UU_in 398 (by decide +kernel) rfl
theorem seX1_keep : Cond.selects yX1_keep.cls yX1_keep yX1_keep ∈ UU := UU_in 399 (by decide +kernel) rfl
abbrev MX1_takeBack : Mth := (yX1_takeBack, cX1_takeBack, 2, none, [], 0, 0, fun _ => 0)
set_option maxRecDepth 100000 in
theorem okX1_takeBack : MOK MX1_takeBack 1 := ⟨rfl, UU_in 326 rfl rfl, UU_in 19 (by decide +kernel) rfl, ⟨by decide +kernel, by decide +kernel, by decide +kernel⟩, by decide⟩
theorem imX1_takeBack : Cond.instanceMethod yX1_takeBack ∈ UU := UU_in 324 (by decide +kernel) rfl
theorem seX1_takeBack : Cond.selects yX1_takeBack.cls yX1_takeBack yX1_takeBack ∈ UU := UU_in 325 (by decide +kernel) rfl
abbrev MX2_init : Mth := (yX2_init, cX2_init, 1, none, [], 0, 0, fun _ => 0)
set_option maxRecDepth 100000 in
theorem okX2_init : MOK MX2_init 0 := ⟨rfl, UU_in 48 rfl rfl, UU_in 14 (by decide +kernel) rfl, ⟨by decide +kernel, by decide +kernel, by decide +kernel⟩, by decide⟩
theorem imX2_init : Cond.instanceMethod yX2_init ∈ UU := UU_in 47 (by decide +kernel) rfl
abbrev MX2_copyFrom : Mth := (yX2_copyFrom, cX2_copyFrom, 2, none, [], 0, 0, fun _ => 0)
set_option maxRecDepth 100000 in
theorem okX2_copyFrom : MOK MX2_copyFrom 1 := ⟨rfl, UU_in 344 rfl rfl, UU_in 14 (by decide +kernel) rfl, ⟨by decide +kernel, by decide +kernel, by decide +kernel⟩, by decide⟩
theorem imX2_copyFrom : Cond.instanceMethod yX2_copyFrom ∈ UU := UU_in 342 (by decide +kernel) rfl
theorem seX2_copyFrom : Cond.selects yX2_copyFrom.cls yX2_copyFrom yX2_copyFrom ∈ UU := UU_in 343 (by decide +kernel) rfl
abbrev MX2_placeOf : Mth := (yX2_placeOf, cX2_placeOf, 2, (some .int), [], 0, 0, fun _ => 0)
set_option maxRecDepth 100000 in
theorem okX2_placeOf : MOK MX2_placeOf 1 := ⟨rfl, UU_in 447 rfl rfl, UU_in 14 (by decide +kernel) rfl, ⟨by decide +kernel, by decide +kernel, by decide +kernel⟩, by decide⟩
theorem imX2_placeOf : Cond.instanceMethod yX2_placeOf ∈ UU := UU_in 445 (by decide +kernel) rfl
theorem seX2_placeOf : Cond.selects yX2_placeOf.cls yX2_placeOf yX2_placeOf ∈ UU := UU_in 446 (by decide +kernel) rfl
abbrev MX2_note : Mth := (yX2_note, cX2_note, 3, none, [], 0, 0, fun _ => 0)
set_option maxRecDepth 100000 in
theorem okX2_note : MOK MX2_note 2 := ⟨rfl, UU_in 452 rfl rfl, UU_in 14 (by decide +kernel) rfl, ⟨by decide +kernel, by decide +kernel, by decide +kernel⟩, by decide⟩
theorem imX2_note : Cond.instanceMethod yX2_note ∈ UU := UU_in 450 (by decide +kernel) rfl
theorem seX2_note : Cond.selects yX2_note.cls yX2_note yX2_note ∈ UU := UU_in 451 (by decide +kernel) rfl
abbrev MX2_forget : Mth := (yX2_forget, cX2_forget, 7, none, [], 0, 0, fun _ => 0)
set_option maxRecDepth 100000 in
theorem okX2_forget : MOK MX2_forget 1 := ⟨rfl, UU_in 443 rfl rfl, UU_in 14 (by decide +kernel) rfl, ⟨by decide +kernel, by decide +kernel, by decide +kernel⟩, by decide⟩
theorem imX2_forget : Cond.instanceMethod yX2_forget ∈ UU := UU_in 441 (by decide +kernel) rfl
theorem seX2_forget : Cond.selects yX2_forget.cls yX2_forget yX2_forget ∈ UU := UU_in 442 (by decide +kernel) rfl
abbrev MX3_init : Mth := (yX3_init, cX3_init, 1, none, [], 0, 0, fun _ => 0)
set_option maxRecDepth 100000 in
theorem okX3_init : MOK MX3_init 0 := ⟨rfl, UU_in 71 rfl rfl, UU_in 15 (by decide +kernel) rfl, ⟨by decide +kernel, by decide +kernel, by decide +kernel⟩, by decide⟩
theorem imX3_init : Cond.instanceMethod yX3_init ∈ UU := UU_in 70 (by decide +kernel) rfl
abbrev MX3_start : Mth := (yX3_start, cX3_start, 4, none, [], 0, 0, fun _ => 0)
set_option maxRecDepth 100000 in
theorem okX3_start : MOK MX3_start 3 := ⟨rfl, UU_in 407 rfl rfl, UU_in 15 (by decide +kernel) rfl, ⟨by decide +kernel, by decide +kernel, by decide +kernel⟩, by decide⟩
theorem imX3_start : Cond.instanceMethod yX3_start ∈ UU := UU_in 405 (by decide +kernel) rfl
theorem seX3_start : Cond.selects yX3_start.cls yX3_start yX3_start ∈ UU := UU_in 406 (by decide +kernel) rfl
abbrev MX3_copyFrom : Mth := (yX3_copyFrom, cX3_copyFrom, 2, none, [], 0, 0, fun _ => 0)
set_option maxRecDepth 100000 in
theorem okX3_copyFrom : MOK MX3_copyFrom 1 := ⟨rfl, UU_in 340 rfl rfl, UU_in 15 (by decide +kernel) rfl, ⟨by decide +kernel, by decide +kernel, by decide +kernel⟩, by decide⟩
theorem imX3_copyFrom : Cond.instanceMethod yX3_copyFrom ∈ UU := UU_in 338 (by decide +kernel) rfl
theorem seX3_copyFrom : Cond.selects yX3_copyFrom.cls yX3_copyFrom yX3_copyFrom ∈ UU := UU_in 339 (by decide +kernel) rfl
abbrev MX3_setsOff : Mth := (yX3_setsOff, cX3_setsOff, 2, (some .boolean), [], 0, 0, fun _ => 0)
set_option maxRecDepth 100000 in
theorem okX3_setsOff : MOK MX3_setsOff 1 := ⟨rfl, UU_in 592 rfl rfl, UU_in 15 (by decide +kernel) rfl, ⟨by decide +kernel, by decide +kernel, by decide +kernel⟩, by decide⟩
theorem imX3_setsOff : Cond.instanceMethod yX3_setsOff ∈ UU := UU_in 590 (by decide +kernel) rfl
theorem seX3_setsOff : Cond.selects yX3_setsOff.cls yX3_setsOff yX3_setsOff ∈ UU := UU_in 591 (by decide +kernel) rfl
abbrev MX4_init : Mth := (yX4_init, cX4_init, 2, none, [], 0, 0, fun _ => 0)
set_option maxRecDepth 100000 in
theorem okX4_init : MOK MX4_init 0 := ⟨rfl, UU_in 40 rfl rfl, UU_in 13 (by decide +kernel) rfl, ⟨by decide +kernel, by decide +kernel, by decide +kernel⟩, by decide⟩
theorem imX4_init : Cond.instanceMethod yX4_init ∈ UU := UU_in 39 (by decide +kernel) rfl
abbrev MX4_copyFrom : Mth := (yX4_copyFrom, cX4_copyFrom, 3, none, [], 0, 0, fun _ => 0)
set_option maxRecDepth 100000 in
theorem okX4_copyFrom : MOK MX4_copyFrom 1 := ⟨rfl, UU_in 333 rfl rfl, UU_in 13 (by decide +kernel) rfl, ⟨by decide +kernel, by decide +kernel, by decide +kernel⟩, by decide⟩
theorem imX4_copyFrom : Cond.instanceMethod yX4_copyFrom ∈ UU := UU_in 331 (by decide +kernel) rfl
theorem seX4_copyFrom : Cond.selects yX4_copyFrom.cls yX4_copyFrom yX4_copyFrom ∈ UU := UU_in 332 (by decide +kernel) rfl
abbrev MX4_isThere : Mth := (yX4_isThere, cX4_isThere, 2, (some .boolean), [], 0, 0, fun _ => 0)
set_option maxRecDepth 100000 in
theorem okX4_isThere : MOK MX4_isThere 1 := ⟨rfl, UU_in 494 rfl rfl, UU_in 13 (by decide +kernel) rfl, ⟨by decide +kernel, by decide +kernel, by decide +kernel⟩, by decide⟩
theorem imX4_isThere : Cond.instanceMethod yX4_isThere ∈ UU := UU_in 492 (by decide +kernel) rfl
theorem seX4_isThere : Cond.selects yX4_isThere.cls yX4_isThere yX4_isThere ∈ UU := UU_in 493 (by decide +kernel) rfl
abbrev MX4_rowsThere : Mth := (yX4_rowsThere, cX4_rowsThere, 3, (some .int), [], 0, 0, fun _ => 0)
set_option maxRecDepth 100000 in
theorem okX4_rowsThere : MOK MX4_rowsThere 0 := ⟨rfl, UU_in 569 rfl rfl, UU_in 13 (by decide +kernel) rfl, ⟨by decide +kernel, by decide +kernel, by decide +kernel⟩, by decide⟩
theorem imX4_rowsThere : Cond.instanceMethod yX4_rowsThere ∈ UU := UU_in 567 (by decide +kernel) rfl
theorem seX4_rowsThere : Cond.selects yX4_rowsThere.cls yX4_rowsThere yX4_rowsThere ∈ UU := UU_in 568 (by decide +kernel) rfl
abbrev MX4_takeRuleAway : Mth := (yX4_takeRuleAway, cX4_takeRuleAway, 3, none, [], 0, 0, fun _ => 0)
set_option maxRecDepth 100000 in
theorem okX4_takeRuleAway : MOK MX4_takeRuleAway 1 := ⟨rfl, UU_in 439 rfl rfl, UU_in 13 (by decide +kernel) rfl, ⟨by decide +kernel, by decide +kernel, by decide +kernel⟩, by decide⟩
theorem imX4_takeRuleAway : Cond.instanceMethod yX4_takeRuleAway ∈ UU := UU_in 437 (by decide +kernel) rfl
theorem seX4_takeRuleAway : Cond.selects yX4_takeRuleAway.cls yX4_takeRuleAway yX4_takeRuleAway ∈ UU := UU_in 438 (by decide +kernel) rfl
abbrev MX5_init : Mth := (yX5_init, cX5_init, 1, none, [], 0, 0, fun _ => 0)
set_option maxRecDepth 100000 in
theorem okX5_init : MOK MX5_init 0 := ⟨rfl, UU_in 157 rfl rfl, UU_in 16 (by decide +kernel) rfl, ⟨by decide +kernel, by decide +kernel, by decide +kernel⟩, by decide⟩
theorem imX5_init : Cond.instanceMethod yX5_init ∈ UU := UU_in 156 (by decide +kernel) rfl
abbrev MX5_begin : Mth := (yX5_begin, cX5_begin, 2, none, [], 0, 0, fun _ => 0)
set_option maxRecDepth 100000 in
theorem okX5_begin : MOK MX5_begin 1 := ⟨rfl, UU_in 489 rfl rfl, UU_in 16 (by decide +kernel) rfl, ⟨by decide +kernel, by decide +kernel, by decide +kernel⟩, by decide⟩
theorem imX5_begin : Cond.instanceMethod yX5_begin ∈ UU := UU_in 488 (by decide +kernel) rfl
theorem seX5_begin : Cond.selects yX5_begin.cls yX5_begin yX5_begin ∈ UU := UU_in 3 (by decide +kernel) rfl
abbrev MX5_putIn : Mth := (yX5_putIn, cX5_putIn, 6, none, [], 0, 0, fun _ => 0)
set_option maxRecDepth 100000 in
theorem okX5_putIn : MOK MX5_putIn 5 := ⟨rfl, UU_in 557 rfl rfl, UU_in 16 (by decide +kernel) rfl, ⟨by decide +kernel, by decide +kernel, by decide +kernel⟩, by decide⟩
theorem imX5_putIn : Cond.instanceMethod yX5_putIn ∈ UU := UU_in 555 (by decide +kernel) rfl
theorem seX5_putIn : Cond.selects yX5_putIn.cls yX5_putIn yX5_putIn ∈ UU := UU_in 556 (by decide +kernel) rfl
abbrev MX5_change : Mth := (yX5_change, cX5_change, 5, none, [], 0, 0, fun _ => 0)
set_option maxRecDepth 100000 in
theorem okX5_change : MOK MX5_change 4 := ⟨rfl, UU_in 485 rfl rfl, UU_in 16 (by decide +kernel) rfl, ⟨by decide +kernel, by decide +kernel, by decide +kernel⟩, by decide⟩
theorem imX5_change : Cond.instanceMethod yX5_change ∈ UU := UU_in 483 (by decide +kernel) rfl
theorem seX5_change : Cond.selects yX5_change.cls yX5_change yX5_change ∈ UU := UU_in 484 (by decide +kernel) rfl
abbrev MX5_takeOut : Mth := (yX5_takeOut, cX5_takeOut, 3, none, [], 0, 0, fun _ => 0)
set_option maxRecDepth 100000 in
theorem okX5_takeOut : MOK MX5_takeOut 2 := ⟨rfl, UU_in 538 rfl rfl, UU_in 16 (by decide +kernel) rfl, ⟨by decide +kernel, by decide +kernel, by decide +kernel⟩, by decide⟩
theorem imX5_takeOut : Cond.instanceMethod yX5_takeOut ∈ UU := UU_in 536 (by decide +kernel) rfl
theorem seX5_takeOut : Cond.selects yX5_takeOut.cls yX5_takeOut yX5_takeOut ∈ UU := UU_in 537 (by decide +kernel) rfl
abbrev MX5_happen : Mth := (yX5_happen, cX5_happen, 8, none, [], 0, 0, fun _ => 0)
set_option maxRecDepth 100000 in
theorem okX5_happen : MOK MX5_happen 5 := ⟨rfl, UU_in 503 rfl rfl, UU_in 16 (by decide +kernel) rfl, ⟨by decide +kernel, by decide +kernel, by decide +kernel⟩, by decide⟩
theorem imX5_happen : Cond.instanceMethod yX5_happen ∈ UU := UU_in 502 (by decide +kernel) rfl
theorem seX5_happen : Cond.selects yX5_happen.cls yX5_happen yX5_happen ∈ UU := UU_in 4 (by decide +kernel) rfl
abbrev MX5_act : Mth := (yX5_act, cX5_act, 6, none, [], 0, 0, fun _ => 0)
set_option maxRecDepth 100000 in
theorem okX5_act : MOK MX5_act 2 := ⟨rfl, UU_in 522 rfl rfl, UU_in 16 (by decide +kernel) rfl, ⟨by decide +kernel, by decide +kernel, by decide +kernel⟩, by decide⟩
theorem imX5_act : Cond.instanceMethod yX5_act ∈ UU := UU_in 521 (by decide +kernel) rfl
theorem seX5_act : Cond.selects yX5_act.cls yX5_act yX5_act ∈ UU := UU_in 8 (by decide +kernel) rfl
abbrev MX5_alterTable : Mth := (yX5_alterTable, cX5_alterTable, 5, none, [], 0, 0, fun _ => 0)
set_option maxRecDepth 100000 in
theorem okX5_alterTable : MOK MX5_alterTable 4 := ⟨rfl, UU_in 515 rfl rfl, UU_in 16 (by decide +kernel) rfl, ⟨by decide +kernel, by decide +kernel, by decide +kernel⟩, by decide⟩
theorem imX5_alterTable : Cond.instanceMethod yX5_alterTable ∈ UU := UU_in 514 (by decide +kernel) rfl
theorem seX5_alterTable : Cond.selects yX5_alterTable.cls yX5_alterTable yX5_alterTable ∈ UU := UU_in 7 (by decide +kernel) rfl
abbrev MX5_matchingRules : Mth := (yX5_matchingRules, cX5_matchingRules, 9, (some .int), [], 0, 0, fun _ => 0)
set_option maxRecDepth 100000 in
theorem okX5_matchingRules : MOK MX5_matchingRules 4 := ⟨rfl, UU_in 507 rfl rfl, UU_in 16 (by decide +kernel) rfl, ⟨by decide +kernel, by decide +kernel, by decide +kernel⟩, by decide⟩
theorem imX5_matchingRules : Cond.instanceMethod yX5_matchingRules ∈ UU := UU_in 506 (by decide +kernel) rfl
theorem seX5_matchingRules : Cond.selects yX5_matchingRules.cls yX5_matchingRules yX5_matchingRules ∈ UU := UU_in 5 (by decide +kernel) rfl
abbrev MX5_hasRefusing : Mth := (yX5_hasRefusing, cX5_hasRefusing, 3, (some .boolean), [], 0, 0, fun _ => 0)
set_option maxRecDepth 100000 in
theorem okX5_hasRefusing : MOK MX5_hasRefusing 1 := ⟨rfl, UU_in 511 rfl rfl, UU_in 16 (by decide +kernel) rfl, ⟨by decide +kernel, by decide +kernel, by decide +kernel⟩, by decide⟩
theorem imX5_hasRefusing : Cond.instanceMethod yX5_hasRefusing ∈ UU := UU_in 510 (by decide +kernel) rfl
theorem seX5_hasRefusing : Cond.selects yX5_hasRefusing.cls yX5_hasRefusing yX5_hasRefusing ∈ UU := UU_in 6 (by decide +kernel) rfl
abbrev MX6_init : Mth := (yX6_init, cX6_init, 1, none, [], 0, 0, fun _ => 0)
set_option maxRecDepth 100000 in
theorem okX6_init : MOK MX6_init 0 := ⟨rfl, UU_in 193 rfl rfl, UU_in 18 (by decide +kernel) rfl, ⟨by decide +kernel, by decide +kernel, by decide +kernel⟩, by decide⟩
theorem imX6_init : Cond.instanceMethod yX6_init ∈ UU := UU_in 192 (by decide +kernel) rfl
abbrev MX7_init : Mth := (yX7_init, cX7_init, 2, none, [], 0, 0, fun _ => 0)
set_option maxRecDepth 100000 in
theorem okX7_init : MOK MX7_init 0 := ⟨rfl, UU_in 32 rfl rfl, UU_in 12 (by decide +kernel) rfl, ⟨by decide +kernel, by decide +kernel, by decide +kernel⟩, by decide⟩
theorem imX7_init : Cond.instanceMethod yX7_init ∈ UU := UU_in 31 (by decide +kernel) rfl
abbrev MX7_addRule : Mth := (yX7_addRule, cX7_addRule, 5, (some .int), [], 1, 0, fun _ => 0)
set_option maxRecDepth 100000 in
theorem okX7_addRule : MOK MX7_addRule 3 := ⟨rfl, UU_in 373 rfl rfl, UU_in 12 (by decide +kernel) rfl, ⟨by decide +kernel, by decide +kernel, by decide +kernel⟩, by decide⟩
theorem imX7_addRule : Cond.instanceMethod yX7_addRule ∈ UU := UU_in 371 (by decide +kernel) rfl
theorem seX7_addRule : Cond.selects yX7_addRule.cls yX7_addRule yX7_addRule ∈ UU := UU_in 372 (by decide +kernel) rfl
abbrev MX7_setAction : Mth := (yX7_setAction, cX7_setAction, 8, (some .int), [], 1, 0, fun _ => 0)
set_option maxRecDepth 100000 in
theorem okX7_setAction : MOK MX7_setAction 5 := ⟨rfl, UU_in 545 rfl rfl, UU_in 12 (by decide +kernel) rfl, ⟨by decide +kernel, by decide +kernel, by decide +kernel⟩, by decide⟩
theorem imX7_setAction : Cond.instanceMethod yX7_setAction ∈ UU := UU_in 543 (by decide +kernel) rfl
theorem seX7_setAction : Cond.selects yX7_setAction.cls yX7_setAction yX7_setAction ∈ UU := UU_in 544 (by decide +kernel) rfl
abbrev MX7_turnMute : Mth := (yX7_turnMute, cX7_turnMute, 3, (some .boolean), [], 1, 0, fun _ => 0)
set_option maxRecDepth 100000 in
theorem okX7_turnMute : MOK MX7_turnMute 1 := ⟨rfl, UU_in 411 rfl rfl, UU_in 12 (by decide +kernel) rfl, ⟨by decide +kernel, by decide +kernel, by decide +kernel⟩, by decide⟩
theorem imX7_turnMute : Cond.instanceMethod yX7_turnMute ∈ UU := UU_in 409 (by decide +kernel) rfl
theorem seX7_turnMute : Cond.selects yX7_turnMute.cls yX7_turnMute yX7_turnMute ∈ UU := UU_in 410 (by decide +kernel) rfl
abbrev MX7_dropRule : Mth := (yX7_dropRule, cX7_dropRule, 3, (some .int), [], 1, 0, fun _ => 0)
set_option maxRecDepth 100000 in
theorem okX7_dropRule : MOK MX7_dropRule 1 := ⟨rfl, UU_in 435 rfl rfl, UU_in 12 (by decide +kernel) rfl, ⟨by decide +kernel, by decide +kernel, by decide +kernel⟩, by decide⟩
theorem imX7_dropRule : Cond.instanceMethod yX7_dropRule ∈ UU := UU_in 433 (by decide +kernel) rfl
theorem seX7_dropRule : Cond.selects yX7_dropRule.cls yX7_dropRule yX7_dropRule ∈ UU := UU_in 434 (by decide +kernel) rfl
abbrev MX7_setDepth : Mth := (yX7_setDepth, cX7_setDepth, 3, (some .int), [], 1, 0, fun _ => 0)
set_option maxRecDepth 100000 in
theorem okX7_setDepth : MOK MX7_setDepth 1 := ⟨rfl, UU_in 457 rfl rfl, UU_in 12 (by decide +kernel) rfl, ⟨by decide +kernel, by decide +kernel, by decide +kernel⟩, by decide⟩
theorem imX7_setDepth : Cond.instanceMethod yX7_setDepth ∈ UU := UU_in 455 (by decide +kernel) rfl
theorem seX7_setDepth : Cond.selects yX7_setDepth.cls yX7_setDepth yX7_setDepth ∈ UU := UU_in 456 (by decide +kernel) rfl
abbrev MX7_insert : Mth := (yX7_insert, cX7_insert, 5, (some .int), [], 1, 0, fun _ => 0)
set_option maxRecDepth 100000 in
theorem okX7_insert : MOK MX7_insert 4 := ⟨rfl, UU_in 553 rfl rfl, UU_in 12 (by decide +kernel) rfl, ⟨by decide +kernel, by decide +kernel, by decide +kernel⟩, by decide⟩
theorem imX7_insert : Cond.instanceMethod yX7_insert ∈ UU := UU_in 551 (by decide +kernel) rfl
theorem seX7_insert : Cond.selects yX7_insert.cls yX7_insert yX7_insert ∈ UU := UU_in 552 (by decide +kernel) rfl
abbrev MX7_update : Mth := (yX7_update, cX7_update, 4, (some .int), [], 1, 0, fun _ => 0)
set_option maxRecDepth 100000 in
theorem okX7_update : MOK MX7_update 3 := ⟨rfl, UU_in 462 rfl rfl, UU_in 12 (by decide +kernel) rfl, ⟨by decide +kernel, by decide +kernel, by decide +kernel⟩, by decide⟩
theorem imX7_update : Cond.instanceMethod yX7_update ∈ UU := UU_in 460 (by decide +kernel) rfl
theorem seX7_update : Cond.selects yX7_update.cls yX7_update yX7_update ∈ UU := UU_in 461 (by decide +kernel) rfl
abbrev MX7_remove : Mth := (yX7_remove, cX7_remove, 2, (some .int), [], 1, 0, fun _ => 0)
set_option maxRecDepth 100000 in
theorem okX7_remove : MOK MX7_remove 1 := ⟨rfl, UU_in 534 rfl rfl, UU_in 12 (by decide +kernel) rfl, ⟨by decide +kernel, by decide +kernel, by decide +kernel⟩, by decide⟩
theorem imX7_remove : Cond.instanceMethod yX7_remove ∈ UU := UU_in 532 (by decide +kernel) rfl
theorem seX7_remove : Cond.selects yX7_remove.cls yX7_remove yX7_remove ∈ UU := UU_in 533 (by decide +kernel) rfl
abbrev MX7_whyNotUpdate : Mth := (yX7_whyNotUpdate, cX7_whyNotUpdate, 4, (some .int), [], 1, 0, fun _ => 0)
set_option maxRecDepth 100000 in
theorem okX7_whyNotUpdate : MOK MX7_whyNotUpdate 3 := ⟨rfl, UU_in 660 rfl rfl, UU_in 12 (by decide +kernel) rfl, ⟨by decide +kernel, by decide +kernel, by decide +kernel⟩, by decide⟩
theorem imX7_whyNotUpdate : Cond.instanceMethod yX7_whyNotUpdate ∈ UU := UU_in 658 (by decide +kernel) rfl
theorem seX7_whyNotUpdate : Cond.selects yX7_whyNotUpdate.cls yX7_whyNotUpdate yX7_whyNotUpdate ∈ UU := UU_in 659 (by decide +kernel) rfl
abbrev MX7_eventsOfUpdate : Mth := (yX7_eventsOfUpdate, cX7_eventsOfUpdate, 4, (some .int), [], 1, 0, fun _ => 0)
set_option maxRecDepth 100000 in
theorem okX7_eventsOfUpdate : MOK MX7_eventsOfUpdate 3 := ⟨rfl, UU_in 664 rfl rfl, UU_in 12 (by decide +kernel) rfl, ⟨by decide +kernel, by decide +kernel, by decide +kernel⟩, by decide⟩
theorem imX7_eventsOfUpdate : Cond.instanceMethod yX7_eventsOfUpdate ∈ UU := UU_in 662 (by decide +kernel) rfl
theorem seX7_eventsOfUpdate : Cond.selects yX7_eventsOfUpdate.cls yX7_eventsOfUpdate yX7_eventsOfUpdate ∈ UU := UU_in 663 (by decide +kernel) rfl
abbrev MX7_depthOfUpdate : Mth := (yX7_depthOfUpdate, cX7_depthOfUpdate, 4, (some .int), [], 1, 0, fun _ => 0)
set_option maxRecDepth 100000 in
theorem okX7_depthOfUpdate : MOK MX7_depthOfUpdate 3 := ⟨rfl, UU_in 668 rfl rfl, UU_in 12 (by decide +kernel) rfl, ⟨by decide +kernel, by decide +kernel, by decide +kernel⟩, by decide⟩
theorem imX7_depthOfUpdate : Cond.instanceMethod yX7_depthOfUpdate ∈ UU := UU_in 666 (by decide +kernel) rfl
theorem seX7_depthOfUpdate : Cond.selects yX7_depthOfUpdate.cls yX7_depthOfUpdate yX7_depthOfUpdate ∈ UU := UU_in 667 (by decide +kernel) rfl
abbrev MX7_tryUpdate : Mth := (yX7_tryUpdate, cX7_tryUpdate, 4, none, [], 1, 0, fun _ => 0)
set_option maxRecDepth 100000 in
theorem okX7_tryUpdate : MOK MX7_tryUpdate 3 := ⟨rfl, UU_in 466 rfl rfl, UU_in 12 (by decide +kernel) rfl, ⟨by decide +kernel, by decide +kernel, by decide +kernel⟩, by decide⟩
theorem imX7_tryUpdate : Cond.instanceMethod yX7_tryUpdate ∈ UU := UU_in 465 (by decide +kernel) rfl
theorem seX7_tryUpdate : Cond.selects yX7_tryUpdate.cls yX7_tryUpdate yX7_tryUpdate ∈ UU := UU_in 2 (by decide +kernel) rfl
abbrev MX7_finishStatement : Mth := (yX7_finishStatement, cX7_finishStatement, 1, (some .int), [], 1, 0, fun _ => 0)
set_option maxRecDepth 100000 in
theorem okX7_finishStatement : MOK MX7_finishStatement 0 := ⟨rfl, UU_in 528 rfl rfl, UU_in 12 (by decide +kernel) rfl, ⟨by decide +kernel, by decide +kernel, by decide +kernel⟩, by decide⟩
theorem imX7_finishStatement : Cond.instanceMethod yX7_finishStatement ∈ UU := UU_in 527 (by decide +kernel) rfl
theorem seX7_finishStatement : Cond.selects yX7_finishStatement.cls yX7_finishStatement yX7_finishStatement ∈ UU := UU_in 9 (by decide +kernel) rfl
abbrev MX7_hasRow : Mth := (yX7_hasRow, cX7_hasRow, 2, (some .boolean), [], 1, 0, fun _ => 0)
set_option maxRecDepth 100000 in
theorem okX7_hasRow : MOK MX7_hasRow 1 := ⟨rfl, UU_in 596 rfl rfl, UU_in 12 (by decide +kernel) rfl, ⟨by decide +kernel, by decide +kernel, by decide +kernel⟩, by decide⟩
theorem imX7_hasRow : Cond.instanceMethod yX7_hasRow ∈ UU := UU_in 594 (by decide +kernel) rfl
theorem seX7_hasRow : Cond.selects yX7_hasRow.cls yX7_hasRow yX7_hasRow ∈ UU := UU_in 595 (by decide +kernel) rfl
abbrev MX7_rowCount : Mth := (yX7_rowCount, cX7_rowCount, 1, (some .int), [], 0, 0, fun _ => 0)
set_option maxRecDepth 100000 in
theorem okX7_rowCount : MOK MX7_rowCount 0 := ⟨rfl, UU_in 565 rfl rfl, UU_in 12 (by decide +kernel) rfl, ⟨by decide +kernel, by decide +kernel, by decide +kernel⟩, by decide⟩
theorem imX7_rowCount : Cond.instanceMethod yX7_rowCount ∈ UU := UU_in 563 (by decide +kernel) rfl
theorem seX7_rowCount : Cond.selects yX7_rowCount.cls yX7_rowCount yX7_rowCount ∈ UU := UU_in 564 (by decide +kernel) rfl
abbrev MX7_valueAt : Mth := (yX7_valueAt, cX7_valueAt, 3, (some .int), [], 1, 0, fun _ => 0)
set_option maxRecDepth 100000 in
theorem okX7_valueAt : MOK MX7_valueAt 2 := ⟨rfl, UU_in 601 rfl rfl, UU_in 12 (by decide +kernel) rfl, ⟨by decide +kernel, by decide +kernel, by decide +kernel⟩, by decide⟩
theorem imX7_valueAt : Cond.instanceMethod yX7_valueAt ∈ UU := UU_in 599 (by decide +kernel) rfl
theorem seX7_valueAt : Cond.selects yX7_valueAt.cls yX7_valueAt yX7_valueAt ∈ UU := UU_in 600 (by decide +kernel) rfl
abbrev MX7_sumOf : Mth := (yX7_sumOf, cX7_sumOf, 4, (some .int), [], 1, 0, fun _ => 0)
set_option maxRecDepth 100000 in
theorem okX7_sumOf : MOK MX7_sumOf 1 := ⟨rfl, UU_in 653 rfl rfl, UU_in 12 (by decide +kernel) rfl, ⟨by decide +kernel, by decide +kernel, by decide +kernel⟩, by decide⟩
theorem imX7_sumOf : Cond.instanceMethod yX7_sumOf ∈ UU := UU_in 651 (by decide +kernel) rfl
theorem seX7_sumOf : Cond.selects yX7_sumOf.cls yX7_sumOf yX7_sumOf ∈ UU := UU_in 652 (by decide +kernel) rfl
abbrev MX7_ruleCount : Mth := (yX7_ruleCount, cX7_ruleCount, 1, (some .int), [], 0, 0, fun _ => 0)
set_option maxRecDepth 100000 in
theorem okX7_ruleCount : MOK MX7_ruleCount 0 := ⟨rfl, UU_in 363 rfl rfl, UU_in 12 (by decide +kernel) rfl, ⟨by decide +kernel, by decide +kernel, by decide +kernel⟩, by decide⟩
theorem imX7_ruleCount : Cond.instanceMethod yX7_ruleCount ∈ UU := UU_in 361 (by decide +kernel) rfl
theorem seX7_ruleCount : Cond.selects yX7_ruleCount.cls yX7_ruleCount yX7_ruleCount ∈ UU := UU_in 362 (by decide +kernel) rfl
abbrev MX7_actionOf : Mth := (yX7_actionOf, cX7_actionOf, 2, (some .int), [], 1, 0, fun _ => 0)
set_option maxRecDepth 100000 in
theorem okX7_actionOf : MOK MX7_actionOf 1 := ⟨rfl, UU_in 607 rfl rfl, UU_in 12 (by decide +kernel) rfl, ⟨by decide +kernel, by decide +kernel, by decide +kernel⟩, by decide⟩
theorem imX7_actionOf : Cond.instanceMethod yX7_actionOf ∈ UU := UU_in 605 (by decide +kernel) rfl
theorem seX7_actionOf : Cond.selects yX7_actionOf.cls yX7_actionOf yX7_actionOf ∈ UU := UU_in 606 (by decide +kernel) rfl
abbrev MX7_isMuted : Mth := (yX7_isMuted, cX7_isMuted, 2, (some .boolean), [], 1, 0, fun _ => 0)
set_option maxRecDepth 100000 in
theorem okX7_isMuted : MOK MX7_isMuted 1 := ⟨rfl, UU_in 611 rfl rfl, UU_in 12 (by decide +kernel) rfl, ⟨by decide +kernel, by decide +kernel, by decide +kernel⟩, by decide⟩
theorem imX7_isMuted : Cond.instanceMethod yX7_isMuted ∈ UU := UU_in 609 (by decide +kernel) rfl
theorem seX7_isMuted : Cond.selects yX7_isMuted.cls yX7_isMuted yX7_isMuted ∈ UU := UU_in 610 (by decide +kernel) rfl
abbrev MX7_actsOf : Mth := (yX7_actsOf, cX7_actsOf, 2, (some .int), [], 1, 0, fun _ => 0)
set_option maxRecDepth 100000 in
theorem okX7_actsOf : MOK MX7_actsOf 1 := ⟨rfl, UU_in 615 rfl rfl, UU_in 12 (by decide +kernel) rfl, ⟨by decide +kernel, by decide +kernel, by decide +kernel⟩, by decide⟩
theorem imX7_actsOf : Cond.instanceMethod yX7_actsOf ∈ UU := UU_in 613 (by decide +kernel) rfl
theorem seX7_actsOf : Cond.selects yX7_actsOf.cls yX7_actsOf yX7_actsOf ∈ UU := UU_in 614 (by decide +kernel) rfl
abbrev MX7_eventCount : Mth := (yX7_eventCount, cX7_eventCount, 1, (some .int), [], 0, 0, fun _ => 0)
set_option maxRecDepth 100000 in
theorem okX7_eventCount : MOK MX7_eventCount 0 := ⟨rfl, UU_in 573 rfl rfl, UU_in 12 (by decide +kernel) rfl, ⟨by decide +kernel, by decide +kernel, by decide +kernel⟩, by decide⟩
theorem imX7_eventCount : Cond.instanceMethod yX7_eventCount ∈ UU := UU_in 571 (by decide +kernel) rfl
theorem seX7_eventCount : Cond.selects yX7_eventCount.cls yX7_eventCount yX7_eventCount ∈ UU := UU_in 572 (by decide +kernel) rfl
abbrev MX7_logSize : Mth := (yX7_logSize, cX7_logSize, 1, (some .int), [], 0, 0, fun _ => 0)
set_option maxRecDepth 100000 in
theorem okX7_logSize : MOK MX7_logSize 0 := ⟨rfl, UU_in 577 rfl rfl, UU_in 12 (by decide +kernel) rfl, ⟨by decide +kernel, by decide +kernel, by decide +kernel⟩, by decide⟩
theorem imX7_logSize : Cond.instanceMethod yX7_logSize ∈ UU := UU_in 575 (by decide +kernel) rfl
theorem seX7_logSize : Cond.selects yX7_logSize.cls yX7_logSize yX7_logSize ∈ UU := UU_in 576 (by decide +kernel) rfl
abbrev MX7_loggedRule : Mth := (yX7_loggedRule, cX7_loggedRule, 2, (some .int), [], 1, 0, fun _ => 0)
set_option maxRecDepth 100000 in
theorem okX7_loggedRule : MOK MX7_loggedRule 1 := ⟨rfl, UU_in 619 rfl rfl, UU_in 12 (by decide +kernel) rfl, ⟨by decide +kernel, by decide +kernel, by decide +kernel⟩, by decide⟩
theorem imX7_loggedRule : Cond.instanceMethod yX7_loggedRule ∈ UU := UU_in 617 (by decide +kernel) rfl
theorem seX7_loggedRule : Cond.selects yX7_loggedRule.cls yX7_loggedRule yX7_loggedRule ∈ UU := UU_in 618 (by decide +kernel) rfl
abbrev MX7_loggedDepth : Mth := (yX7_loggedDepth, cX7_loggedDepth, 2, (some .int), [], 1, 0, fun _ => 0)
set_option maxRecDepth 100000 in
theorem okX7_loggedDepth : MOK MX7_loggedDepth 1 := ⟨rfl, UU_in 629 rfl rfl, UU_in 12 (by decide +kernel) rfl, ⟨by decide +kernel, by decide +kernel, by decide +kernel⟩, by decide⟩
theorem imX7_loggedDepth : Cond.instanceMethod yX7_loggedDepth ∈ UU := UU_in 627 (by decide +kernel) rfl
theorem seX7_loggedDepth : Cond.selects yX7_loggedDepth.cls yX7_loggedDepth yX7_loggedDepth ∈ UU := UU_in 628 (by decide +kernel) rfl
abbrev MX7_canSetOff : Mth := (yX7_canSetOff, cX7_canSetOff, 3, (some .boolean), [], 1, 0, fun _ => 0)
set_option maxRecDepth 100000 in
theorem okX7_canSetOff : MOK MX7_canSetOff 2 := ⟨rfl, UU_in 648 rfl rfl, UU_in 12 (by decide +kernel) rfl, ⟨by decide +kernel, by decide +kernel, by decide +kernel⟩, by decide⟩
theorem imX7_canSetOff : Cond.instanceMethod yX7_canSetOff ∈ UU := UU_in 646 (by decide +kernel) rfl
theorem seX7_canSetOff : Cond.selects yX7_canSetOff.cls yX7_canSetOff yX7_canSetOff ∈ UU := UU_in 647 (by decide +kernel) rfl
abbrev MX7_reachOf : Mth := (yX7_reachOf, cX7_reachOf, 2, (some .int), [], 1, 0, fun _ => 0)
set_option maxRecDepth 100000 in
theorem okX7_reachOf : MOK MX7_reachOf 1 := ⟨rfl, UU_in 636 rfl rfl, UU_in 12 (by decide +kernel) rfl, ⟨by decide +kernel, by decide +kernel, by decide +kernel⟩, by decide⟩
theorem imX7_reachOf : Cond.instanceMethod yX7_reachOf ∈ UU := UU_in 634 (by decide +kernel) rfl
theorem seX7_reachOf : Cond.selects yX7_reachOf.cls yX7_reachOf yX7_reachOf ∈ UU := UU_in 635 (by decide +kernel) rfl
abbrev MX7_reachByTable : Mth := (yX7_reachByTable, cX7_reachByTable, 2, (some .int), [], 1, 0, fun _ => 0)
set_option maxRecDepth 100000 in
theorem okX7_reachByTable : MOK MX7_reachByTable 1 := ⟨rfl, UU_in 644 rfl rfl, UU_in 12 (by decide +kernel) rfl, ⟨by decide +kernel, by decide +kernel, by decide +kernel⟩, by decide⟩
theorem imX7_reachByTable : Cond.instanceMethod yX7_reachByTable ∈ UU := UU_in 642 (by decide +kernel) rfl
theorem seX7_reachByTable : Cond.selects yX7_reachByTable.cls yX7_reachByTable yX7_reachByTable ∈ UU := UU_in 643 (by decide +kernel) rfl
abbrev MX7_circularRules : Mth := (yX7_circularRules, cX7_circularRules, 3, (some .int), [], 0, 0, fun _ => 0)
set_option maxRecDepth 100000 in
theorem okX7_circularRules : MOK MX7_circularRules 0 := ⟨rfl, UU_in 581 rfl rfl, UU_in 12 (by decide +kernel) rfl, ⟨by decide +kernel, by decide +kernel, by decide +kernel⟩, by decide⟩
theorem imX7_circularRules : Cond.instanceMethod yX7_circularRules ∈ UU := UU_in 579 (by decide +kernel) rfl
theorem seX7_circularRules : Cond.selects yX7_circularRules.cls yX7_circularRules yX7_circularRules ∈ UU := UU_in 580 (by decide +kernel) rfl
abbrev MX7_undo : Mth := (yX7_undo, cX7_undo, 1, (some .int), [], 1, 0, fun _ => 0)
set_option maxRecDepth 100000 in
theorem okX7_undo : MOK MX7_undo 0 := ⟨rfl, UU_in 254 rfl rfl, UU_in 12 (by decide +kernel) rfl, ⟨by decide +kernel, by decide +kernel, by decide +kernel⟩, by decide⟩
theorem imX7_undo : Cond.instanceMethod yX7_undo ∈ UU := UU_in 252 (by decide +kernel) rfl
theorem seX7_undo : Cond.selects yX7_undo.cls yX7_undo yX7_undo ∈ UU := UU_in 253 (by decide +kernel) rfl
abbrev MX7_undoCount : Mth := (yX7_undoCount, cX7_undoCount, 1, (some .int), [], 0, 0, fun _ => 0)
set_option maxRecDepth 100000 in
theorem okX7_undoCount : MOK MX7_undoCount 0 := ⟨rfl, UU_in 349 rfl rfl, UU_in 12 (by decide +kernel) rfl, ⟨by decide +kernel, by decide +kernel, by decide +kernel⟩, by decide⟩
theorem imX7_undoCount : Cond.instanceMethod yX7_undoCount ∈ UU := UU_in 347 (by decide +kernel) rfl
theorem seX7_undoCount : Cond.selects yX7_undoCount.cls yX7_undoCount yX7_undoCount ∈ UU := UU_in 348 (by decide +kernel) rfl
abbrev MX7_isRow : Mth := (yX7_isRow, cX7_isRow, 1, (some .boolean), [], 0, 0, fun _ => 0)
set_option maxRecDepth 100000 in
theorem okX7_isRow : MOK MX7_isRow 1 := ⟨rfl, UU_in 472 rfl rfl, UU_in 12 (by decide +kernel) rfl, ⟨by decide +kernel, by decide +kernel, by decide +kernel⟩, by decide⟩
theorem stX7_isRow : Cond.static yX7_isRow ∈ UU := UU_in 471 (by decide +kernel) rfl
abbrev MX7_isColumn : Mth := (yX7_isColumn, cX7_isColumn, 1, (some .boolean), [], 0, 0, fun _ => 0)
set_option maxRecDepth 100000 in
theorem okX7_isColumn : MOK MX7_isColumn 1 := ⟨rfl, UU_in 376 rfl rfl, UU_in 12 (by decide +kernel) rfl, ⟨by decide +kernel, by decide +kernel, by decide +kernel⟩, by decide⟩
theorem stX7_isColumn : Cond.static yX7_isColumn ∈ UU := UU_in 375 (by decide +kernel) rfl
abbrev MX7_isValue : Mth := (yX7_isValue, cX7_isValue, 1, (some .boolean), [], 0, 0, fun _ => 0)
set_option maxRecDepth 100000 in
theorem okX7_isValue : MOK MX7_isValue 1 := ⟨rfl, UU_in 379 rfl rfl, UU_in 12 (by decide +kernel) rfl, ⟨by decide +kernel, by decide +kernel, by decide +kernel⟩, by decide⟩
theorem stX7_isValue : Cond.static yX7_isValue ∈ UU := UU_in 378 (by decide +kernel) rfl
abbrev MX7_cell : Mth := (yX7_cell, cX7_cell, 2, (some .int), [], 0, 0, fun _ => 0)
set_option maxRecDepth 100000 in
theorem okX7_cell : MOK MX7_cell 2 := ⟨rfl, UU_in 499 rfl rfl, UU_in 12 (by decide +kernel) rfl, ⟨by decide +kernel, by decide +kernel, by decide +kernel⟩, by decide⟩
theorem stX7_cell : Cond.static yX7_cell ∈ UU := UU_in 498 (by decide +kernel) rfl
abbrev MX7_checkRow : Mth := (yX7_checkRow, cX7_checkRow, 1, none, [], 1, 0, fun _ => 0)
set_option maxRecDepth 100000 in
theorem okX7_checkRow : MOK MX7_checkRow 1 := ⟨rfl, UU_in 469 rfl rfl, UU_in 12 (by decide +kernel) rfl, ⟨by decide +kernel, by decide +kernel, by decide +kernel⟩, by decide⟩
theorem stX7_checkRow : Cond.static yX7_checkRow ∈ UU := UU_in 468 (by decide +kernel) rfl
abbrev MX7_checkColumn : Mth := (yX7_checkColumn, cX7_checkColumn, 1, none, [], 1, 0, fun _ => 0)
set_option maxRecDepth 100000 in
theorem okX7_checkColumn : MOK MX7_checkColumn 1 := ⟨rfl, UU_in 476 rfl rfl, UU_in 12 (by decide +kernel) rfl, ⟨by decide +kernel, by decide +kernel, by decide +kernel⟩, by decide⟩
theorem stX7_checkColumn : Cond.static yX7_checkColumn ∈ UU := UU_in 475 (by decide +kernel) rfl
abbrev MX7_checkValue : Mth := (yX7_checkValue, cX7_checkValue, 1, none, [], 1, 0, fun _ => 0)
set_option maxRecDepth 100000 in
theorem okX7_checkValue : MOK MX7_checkValue 1 := ⟨rfl, UU_in 480 rfl rfl, UU_in 12 (by decide +kernel) rfl, ⟨by decide +kernel, by decide +kernel, by decide +kernel⟩, by decide⟩
theorem stX7_checkValue : Cond.static yX7_checkValue ∈ UU := UU_in 479 (by decide +kernel) rfl
abbrev MX7_checkRule : Mth := (yX7_checkRule, cX7_checkRule, 2, none, [], 1, 0, fun _ => 0)
set_option maxRecDepth 100000 in
theorem okX7_checkRule : MOK MX7_checkRule 1 := ⟨rfl, UU_in 415 rfl rfl, UU_in 12 (by decide +kernel) rfl, ⟨by decide +kernel, by decide +kernel, by decide +kernel⟩, by decide⟩
theorem imX7_checkRule : Cond.instanceMethod yX7_checkRule ∈ UU := UU_in 414 (by decide +kernel) rfl
theorem seX7_checkRule : Cond.selects yX7_checkRule.cls yX7_checkRule yX7_checkRule ∈ UU := UU_in 1 (by decide +kernel) rfl
abbrev MX7_checkAgo : Mth := (yX7_checkAgo, cX7_checkAgo, 2, none, [], 1, 0, fun _ => 0)
set_option maxRecDepth 100000 in
theorem okX7_checkAgo : MOK MX7_checkAgo 1 := ⟨rfl, UU_in 623 rfl rfl, UU_in 12 (by decide +kernel) rfl, ⟨by decide +kernel, by decide +kernel, by decide +kernel⟩, by decide⟩
theorem imX7_checkAgo : Cond.instanceMethod yX7_checkAgo ∈ UU := UU_in 622 (by decide +kernel) rfl
theorem seX7_checkAgo : Cond.selects yX7_checkAgo.cls yX7_checkAgo yX7_checkAgo ∈ UU := UU_in 10 (by decide +kernel) rfl
abbrev MJ9_floorMod_7cf53 : Mth := (yJ9_floorMod_7cf53, cJ9_floorMod_7cf53, 3, (some .int), [], 0, 0, fun _ => 0)
set_option maxRecDepth 100000 in
theorem okJ9_floorMod_7cf53 : MOK MJ9_floorMod_7cf53 2 := ⟨rfl, UU_in 329 rfl rfl, UU_in 26 (by decide +kernel) rfl, ⟨by decide +kernel, by decide +kernel, by decide +kernel⟩, by decide⟩
theorem stJ9_floorMod_7cf53 : Cond.static yJ9_floorMod_7cf53 ∈ UU := UU_in 328 (by decide +kernel) rfl
abbrev ML_cell : Mth := (yL_cell, cL_cell, 2, (some .int), [], 0, 0, fun _ => 0)
set_option maxRecDepth 100000 in
theorem okL_cell : MOK ML_cell 2 := ⟨rfl, UU_in 352 rfl rfl, UU_in 11 (by decide +kernel) rfl, ⟨by decide +kernel, by decide +kernel, by decide +kernel⟩, by decide⟩
theorem stL_cell : Cond.static yL_cell ∈ UU := UU_in 351 (by decide +kernel) rfl
abbrev ML_low : Mth := (yL_low, cL_low, 2, (some .int), [], 0, 0, fun _ => 0)
set_option maxRecDepth 100000 in
theorem okL_low : MOK ML_low 2 := ⟨rfl, UU_in 355 rfl rfl, UU_in 11 (by decide +kernel) rfl, ⟨by decide +kernel, by decide +kernel, by decide +kernel⟩, by decide⟩
theorem stL_low : Cond.static yL_low ∈ UU := UU_in 354 (by decide +kernel) rfl
abbrev ML_changes : Mth := (yL_changes, cL_changes, 7, (some .int), [((0), (87), (90), (31)), ((0), (87), (94), (33)), ((0), (87), (98), (35))], 0, 0, fun _ => 0)
set_option maxRecDepth 100000 in
theorem cwL_changes : Cond.codeWith (mY ML_changes) (mC ML_changes) (mL ML_changes) (mR ML_changes) (mH ML_changes) ∈ UU := UU_in 366 rfl rfl
theorem stL_changes : Cond.static yL_changes ∈ UU := UU_in 365 (by decide +kernel) rfl
abbrev ML_inserts : Mth := (yL_inserts, cL_inserts, 6, (some .int), [((0), (29), (32), (31)), ((0), (29), (36), (33)), ((0), (29), (40), (35))], 0, 0, fun _ => 0)
set_option maxRecDepth 100000 in
theorem cwL_inserts : Cond.codeWith (mY ML_inserts) (mC ML_inserts) (mL ML_inserts) (mR ML_inserts) (mH ML_inserts) ∈ UU := UU_in 549 rfl rfl
theorem stL_inserts : Cond.static yL_inserts ∈ UU := UU_in 548 (by decide +kernel) rfl
abbrev ML_actions : Mth := (yL_actions, cL_actions, 6, (some .int), [((0), (72), (75), (31)), ((0), (72), (79), (33))], 0, 0, fun _ => 0)
set_option maxRecDepth 100000 in
theorem cwL_actions : Cond.codeWith (mY ML_actions) (mC ML_actions) (mL ML_actions) (mR ML_actions) (mH ML_actions) ∈ UU := UU_in 541 rfl rfl
theorem stL_actions : Cond.static yL_actions ∈ UU := UU_in 540 (by decide +kernel) rfl
abbrev ML_act : Mth := (yL_act, cL_act, 8, (some .int), [], 0, 0, fun _ => 0)
set_option maxRecDepth 100000 in
theorem okL_act : MOK ML_act 3 := ⟨rfl, UU_in 359 rfl rfl, UU_in 11 (by decide +kernel) rfl, ⟨by decide +kernel, by decide +kernel, by decide +kernel⟩, by decide⟩
theorem stL_act : Cond.static yL_act ∈ UU := UU_in 358 (by decide +kernel) rfl
abbrev ML_areAlike : Mth := (yL_areAlike, cL_areAlike, 5, (some .boolean), [], 0, 0, fun _ => 0)
set_option maxRecDepth 100000 in
theorem okL_areAlike : MOK ML_areAlike 2 := ⟨rfl, UU_in 561 rfl rfl, UU_in 11 (by decide +kernel) rfl, ⟨by decide +kernel, by decide +kernel, by decide +kernel⟩, by decide⟩
theorem stL_areAlike : Cond.static yL_areAlike ∈ UU := UU_in 560 (by decide +kernel) rfl
abbrev ML_isTableSo : Mth := (yL_isTableSo, cL_isTableSo, 9, (some .boolean), [], 0, 0, fun _ => 0)
set_option maxRecDepth 100000 in
theorem okL_isTableSo : MOK ML_isTableSo 1 := ⟨rfl, UU_in 632 rfl rfl, UU_in 11 (by decide +kernel) rfl, ⟨by decide +kernel, by decide +kernel, by decide +kernel⟩, by decide⟩
theorem stL_isTableSo : Cond.static yL_isTableSo ∈ UU := UU_in 631 (by decide +kernel) rfl
abbrev ML_isUpdateSo : Mth := (yL_isUpdateSo, cL_isUpdateSo, 15, (some .boolean), [], 0, 0, fun _ => 0)
set_option maxRecDepth 100000 in
theorem okL_isUpdateSo : MOK ML_isUpdateSo 5 := ⟨rfl, UU_in 656 rfl rfl, UU_in 11 (by decide +kernel) rfl, ⟨by decide +kernel, by decide +kernel, by decide +kernel⟩, by decide⟩
theorem stL_isUpdateSo : Cond.static yL_isUpdateSo ∈ UU := UU_in 655 (by decide +kernel) rfl
theorem okObj : Cond.instanceMethod objectInit ∈ UU := UU_in 34 (by decide +kernel) rfl
set_option maxRecDepth 100000 in
theorem coObj : Cond.code objectInit ⟨#[0xb1]⟩ 1 none ∈ UU := UU_in 35 rfl rfl
theorem st_max : Cond.static Lib.Math.max.name ∈ UU := UU_in 517 (by decide +kernel) rfl
set_option maxRecDepth 100000 in
theorem co_max : Cond.code Lib.Math.max.name Lib.Math.max.code 2 (some .int) ∈ UU := UU_in 518 rfl rfl
theorem st_min : Cond.static Lib.Math.min.name ∈ UU := UU_in 402 (by decide +kernel) rfl
set_option maxRecDepth 100000 in
theorem co_min : Cond.code Lib.Math.min.name Lib.Math.min.code 2 (some .int) ∈ UU := UU_in 403 rfl rfl
theorem in_Math : Cond.initialized "java/lang/Math" ∈ UU := UU_in 26 (by decide +kernel) rfl
theorem in_Sys : Cond.initialized "java/lang/System" ∈ UU := UU_in 25 (by decide +kernel) rfl
theorem na_copy : Cond.native arraycopyName ∈ UU := UU_in 336 (by decide +kernel) rfl
theorem st_copy : Cond.static arraycopyName ∈ UU := UU_in 335 (by decide +kernel) rfl
theorem ckL_9 : Cond.classLink RL 9 "RowTriggers" ∈ UU := UU_in 28 (by decide +kernel) rfl
theorem itX7 : Cond.instantiable RX7 7 ∈ UU := UU_in 29 (by decide +kernel) rfl
theorem iiX7 : Cond.initialized RX7 ∈ UU := UU_in 12 (by decide +kernel) rfl
theorem mkL_128 : Cond.methodLink RL 128 yX7_init ∈ UU := UU_in 30 (by decide +kernel) rfl
theorem mkX7_1 : Cond.methodLink RX7 1 objectInit ∈ UU := UU_in 33 (by decide +kernel) rfl
theorem ckX7_7 : Cond.classLink RX7 7 "RowTriggers$State" ∈ UU := UU_in 36 (by decide +kernel) rfl
theorem itX4 : Cond.instantiable RX4 7 ∈ UU := UU_in 37 (by decide +kernel) rfl
theorem iiX4 : Cond.initialized RX4 ∈ UU := UU_in 13 (by decide +kernel) rfl
theorem mkX7_9 : Cond.methodLink RX7 9 yX4_init ∈ UU := UU_in 38 (by decide +kernel) rfl
theorem mkX4_3 : Cond.methodLink RX4 3 objectInit ∈ UU := UU_in 41 (by decide +kernel) rfl
theorem ckX4_19 : Cond.classLink RX4 19 "RowTriggers$Rule" ∈ UU := UU_in 42 (by decide +kernel) rfl
theorem ckX4_25 : Cond.classLink RX4 25 "RowTriggers$Log" ∈ UU := UU_in 44 (by decide +kernel) rfl
theorem itX2 : Cond.instantiable RX2 4 ∈ UU := UU_in 45 (by decide +kernel) rfl
theorem iiX2 : Cond.initialized RX2 ∈ UU := UU_in 14 (by decide +kernel) rfl
theorem mkX4_27 : Cond.methodLinkNest RX4 27 yX2_init "RowTriggers" ∈ UN := UN_in 46 (by decide +kernel) rfl
theorem mkX2_3 : Cond.methodLink RX2 3 objectInit ∈ UU := UU_in 49 (by decide +kernel) rfl
theorem fkX2_9 : Cond.fieldLink RX2 9 "RowTriggers$Log" "rules" "[I" ∈ UU := UU_in 50 (by decide +kernel) rfl
theorem fkX7_199 : Cond.fieldLink RX7 199 "RowTriggers$Log" "rules" "[I" ∈ UU := UU_in 51 (by decide +kernel) rfl
theorem fkX2_15 : Cond.fieldLink RX2 15 "RowTriggers$Log" "depths" "[I" ∈ UU := UU_in 52 (by decide +kernel) rfl
theorem fkX7_205 : Cond.fieldLink RX7 205 "RowTriggers$Log" "depths" "[I" ∈ UU := UU_in 53 (by decide +kernel) rfl
theorem fkX2_24 : Cond.fieldLink RX2 24 "RowTriggers$Log" "size" "I" ∈ UU := UU_in 54 (by decide +kernel) rfl
theorem fkX7_191 : Cond.fieldLink RX7 191 "RowTriggers$Log" "size" "I" ∈ UU := UU_in 55 (by decide +kernel) rfl
theorem fkX2_28 : Cond.fieldLink RX2 28 "RowTriggers$Log" "latest" "I" ∈ UU := UU_in 56 (by decide +kernel) rfl
theorem ac_boolean : Cond.arrayClass .boolean ∈ UU := UU_in 66 (by decide +kernel) rfl
theorem ac_int : Cond.arrayClass .int ∈ UU := UU_in 67 (by decide +kernel) rfl
theorem itX3 : Cond.instantiable RX3 9 ∈ UU := UU_in 68 (by decide +kernel) rfl
theorem iiX3 : Cond.initialized RX3 ∈ UU := UU_in 15 (by decide +kernel) rfl
theorem mkX4_36 : Cond.methodLinkNest RX4 36 yX3_init "RowTriggers" ∈ UN := UN_in 69 (by decide +kernel) rfl
theorem mkX3_3 : Cond.methodLink RX3 3 objectInit ∈ UU := UU_in 72 (by decide +kernel) rfl
theorem fkX3_9 : Cond.fieldLink RX3 9 "RowTriggers$Rule" "event" "I" ∈ UU := UU_in 73 (by decide +kernel) rfl
theorem fkX5_125 : Cond.fieldLink RX5 125 "RowTriggers$Rule" "event" "I" ∈ UU := UU_in 74 (by decide +kernel) rfl
theorem fkX3_15 : Cond.fieldLink RX3 15 "RowTriggers$Rule" "column" "I" ∈ UU := UU_in 75 (by decide +kernel) rfl
theorem fkX5_128 : Cond.fieldLink RX5 128 "RowTriggers$Rule" "column" "I" ∈ UU := UU_in 76 (by decide +kernel) rfl
theorem fkX3_18 : Cond.fieldLink RX3 18 "RowTriggers$Rule" "least" "I" ∈ UU := UU_in 77 (by decide +kernel) rfl
theorem fkX5_131 : Cond.fieldLink RX5 131 "RowTriggers$Rule" "least" "I" ∈ UU := UU_in 78 (by decide +kernel) rfl
theorem fkX3_21 : Cond.fieldLink RX3 21 "RowTriggers$Rule" "action" "I" ∈ UU := UU_in 79 (by decide +kernel) rfl
theorem fkX7_98 : Cond.fieldLink RX7 98 "RowTriggers$Rule" "action" "I" ∈ UU := UU_in 80 (by decide +kernel) rfl
theorem fkX5_109 : Cond.fieldLink RX5 109 "RowTriggers$Rule" "action" "I" ∈ UU := UU_in 81 (by decide +kernel) rfl
theorem fkX3_24 : Cond.fieldLink RX3 24 "RowTriggers$Rule" "targetRow" "I" ∈ UU := UU_in 82 (by decide +kernel) rfl
theorem fkX7_101 : Cond.fieldLink RX7 101 "RowTriggers$Rule" "targetRow" "I" ∈ UU := UU_in 83 (by decide +kernel) rfl
theorem fkX5_106 : Cond.fieldLink RX5 106 "RowTriggers$Rule" "targetRow" "I" ∈ UU := UU_in 84 (by decide +kernel) rfl
theorem fkX3_27 : Cond.fieldLink RX3 27 "RowTriggers$Rule" "targetColumn" "I" ∈ UU := UU_in 85 (by decide +kernel) rfl
theorem fkX7_104 : Cond.fieldLink RX7 104 "RowTriggers$Rule" "targetColumn" "I" ∈ UU := UU_in 86 (by decide +kernel) rfl
theorem fkX5_112 : Cond.fieldLink RX5 112 "RowTriggers$Rule" "targetColumn" "I" ∈ UU := UU_in 87 (by decide +kernel) rfl
theorem fkX3_30 : Cond.fieldLink RX3 30 "RowTriggers$Rule" "amount" "I" ∈ UU := UU_in 88 (by decide +kernel) rfl
theorem fkX7_107 : Cond.fieldLink RX7 107 "RowTriggers$Rule" "amount" "I" ∈ UU := UU_in 89 (by decide +kernel) rfl
theorem fkX5_115 : Cond.fieldLink RX5 115 "RowTriggers$Rule" "amount" "I" ∈ UU := UU_in 90 (by decide +kernel) rfl
theorem fkX3_33 : Cond.fieldLink RX3 33 "RowTriggers$Rule" "muted" "Z" ∈ UU := UU_in 91 (by decide +kernel) rfl
theorem fkX7_110 : Cond.fieldLink RX7 110 "RowTriggers$Rule" "muted" "Z" ∈ UU := UU_in 92 (by decide +kernel) rfl
theorem fkX5_121 : Cond.fieldLink RX5 121 "RowTriggers$Rule" "muted" "Z" ∈ UU := UU_in 93 (by decide +kernel) rfl
theorem fkX3_37 : Cond.fieldLink RX3 37 "RowTriggers$Rule" "acts" "I" ∈ UU := UU_in 94 (by decide +kernel) rfl
theorem fkX7_114 : Cond.fieldLink RX7 114 "RowTriggers$Rule" "acts" "I" ∈ UU := UU_in 95 (by decide +kernel) rfl
theorem fkX5_92 : Cond.fieldLink RX5 92 "RowTriggers$Rule" "acts" "I" ∈ UU := UU_in 96 (by decide +kernel) rfl
theorem fkX4_9 : Cond.fieldLink RX4 9 "RowTriggers$State" "there" "[Z" ∈ UU := UU_in 116 (by decide +kernel) rfl
theorem fkX5_39 : Cond.fieldLink RX5 39 "RowTriggers$State" "there" "[Z" ∈ UU := UU_in 117 (by decide +kernel) rfl
theorem fkX4_15 : Cond.fieldLink RX4 15 "RowTriggers$State" "values" "[I" ∈ UU := UU_in 118 (by decide +kernel) rfl
theorem fkX5_43 : Cond.fieldLink RX5 43 "RowTriggers$State" "values" "[I" ∈ UU := UU_in 119 (by decide +kernel) rfl
theorem fkX7_178 : Cond.fieldLink RX7 178 "RowTriggers$State" "values" "[I" ∈ UU := UU_in 120 (by decide +kernel) rfl
theorem fkX4_21 : Cond.fieldLink RX4 21 "RowTriggers$State" "rules" "[LRowTriggers$Rule;" ∈ UU := UU_in 121 (by decide +kernel) rfl
theorem fkX0_21 : Cond.fieldLink RX0 21 "RowTriggers$State" "rules" "[LRowTriggers$Rule;" ∈ UU := UU_in 122 (by decide +kernel) rfl
theorem fkX7_79 : Cond.fieldLink RX7 79 "RowTriggers$State" "rules" "[LRowTriggers$Rule;" ∈ UU := UU_in 123 (by decide +kernel) rfl
theorem fkX5_88 : Cond.fieldLink RX5 88 "RowTriggers$State" "rules" "[LRowTriggers$Rule;" ∈ UU := UU_in 124 (by decide +kernel) rfl
theorem fkX4_28 : Cond.fieldLink RX4 28 "RowTriggers$State" "log" "LRowTriggers$Log;" ∈ UU := UU_in 125 (by decide +kernel) rfl
theorem fkX5_97 : Cond.fieldLink RX5 97 "RowTriggers$State" "log" "LRowTriggers$Log;" ∈ UU := UU_in 126 (by decide +kernel) rfl
theorem fkX7_187 : Cond.fieldLink RX7 187 "RowTriggers$State" "log" "LRowTriggers$Log;" ∈ UU := UU_in 127 (by decide +kernel) rfl
theorem fkX0_15 : Cond.fieldLink RX0 15 "RowTriggers$State" "rulesUsed" "I" ∈ UU := UU_in 128 (by decide +kernel) rfl
theorem fkX7_66 : Cond.fieldLink RX7 66 "RowTriggers$State" "rulesUsed" "I" ∈ UU := UU_in 129 (by decide +kernel) rfl
theorem fkX4_43 : Cond.fieldLink RX4 43 "RowTriggers$State" "rulesUsed" "I" ∈ UU := UU_in 130 (by decide +kernel) rfl
theorem fkX5_81 : Cond.fieldLink RX5 81 "RowTriggers$State" "rulesUsed" "I" ∈ UU := UU_in 131 (by decide +kernel) rfl
theorem fkX4_32 : Cond.fieldLink RX4 32 "RowTriggers$State" "depth" "I" ∈ UU := UU_in 132 (by decide +kernel) rfl
theorem fkX5_61 : Cond.fieldLink RX5 61 "RowTriggers$State" "depth" "I" ∈ UU := UU_in 133 (by decide +kernel) rfl
theorem fkX7_122 : Cond.fieldLink RX7 122 "RowTriggers$State" "depth" "I" ∈ UU := UU_in 134 (by decide +kernel) rfl
theorem fkX4_53 : Cond.fieldLink RX4 53 "RowTriggers$State" "events" "I" ∈ UU := UU_in 135 (by decide +kernel) rfl
theorem fkX5_75 : Cond.fieldLink RX5 75 "RowTriggers$State" "events" "I" ∈ UU := UU_in 136 (by decide +kernel) rfl
theorem fkX7_186 : Cond.fieldLink RX7 186 "RowTriggers$State" "events" "I" ∈ UU := UU_in 137 (by decide +kernel) rfl
theorem ckX7_16 : Cond.classLink RX7 16 "RowTriggers$Statement" ∈ UU := UU_in 153 (by decide +kernel) rfl
theorem itX5 : Cond.instantiable RX5 4 ∈ UU := UU_in 154 (by decide +kernel) rfl
theorem iiX5 : Cond.initialized RX5 ∈ UU := UU_in 16 (by decide +kernel) rfl
theorem mkX7_18 : Cond.methodLinkNest RX7 18 yX5_init "RowTriggers" ∈ UN := UN_in 155 (by decide +kernel) rfl
theorem mkX5_3 : Cond.methodLink RX5 3 objectInit ∈ UU := UU_in 158 (by decide +kernel) rfl
theorem ckX5_9 : Cond.classLink RX5 9 "RowTriggers$State" ∈ UU := UU_in 159 (by decide +kernel) rfl
theorem mkX5_11 : Cond.methodLink RX5 11 yX4_init ∈ UU := UU_in 160 (by decide +kernel) rfl
theorem fkX5_12 : Cond.fieldLink RX5 12 "RowTriggers$Statement" "state" "LRowTriggers$State;" ∈ UU := UU_in 161 (by decide +kernel) rfl
theorem fkX7_164 : Cond.fieldLink RX7 164 "RowTriggers$Statement" "state" "LRowTriggers$State;" ∈ UU := UU_in 162 (by decide +kernel) rfl
theorem fkX5_22 : Cond.fieldLink RX5 22 "RowTriggers$Statement" "events" "I" ∈ UU := UU_in 163 (by decide +kernel) rfl
theorem fkX7_149 : Cond.fieldLink RX7 149 "RowTriggers$Statement" "events" "I" ∈ UU := UU_in 164 (by decide +kernel) rfl
theorem fkX5_26 : Cond.fieldLink RX5 26 "RowTriggers$Statement" "deepest" "I" ∈ UU := UU_in 165 (by decide +kernel) rfl
theorem fkX7_152 : Cond.fieldLink RX7 152 "RowTriggers$Statement" "deepest" "I" ∈ UU := UU_in 166 (by decide +kernel) rfl
theorem fkX5_29 : Cond.fieldLink RX5 29 "RowTriggers$Statement" "refusal" "I" ∈ UU := UU_in 167 (by decide +kernel) rfl
theorem fkX7_146 : Cond.fieldLink RX7 146 "RowTriggers$Statement" "refusal" "I" ∈ UU := UU_in 168 (by decide +kernel) rfl
theorem ckX7_23 : Cond.classLink RX7 23 "RowTriggers$Chains" ∈ UU := UU_in 178 (by decide +kernel) rfl
theorem itX0 : Cond.instantiable RX0 1 ∈ UU := UU_in 179 (by decide +kernel) rfl
theorem iiX0 : Cond.initialized RX0 ∈ UU := UU_in 17 (by decide +kernel) rfl
theorem mkX7_25 : Cond.methodLinkNest RX7 25 yX0_init "RowTriggers" ∈ UN := UN_in 180 (by decide +kernel) rfl
theorem mkX0_3 : Cond.methodLink RX0 3 objectInit ∈ UU := UU_in 183 (by decide +kernel) rfl
theorem fkX0_9 : Cond.fieldLink RX0 9 "RowTriggers$Chains" "table" "[I" ∈ UU := UU_in 184 (by decide +kernel) rfl
theorem fkX7_219 : Cond.fieldLink RX7 219 "RowTriggers$Chains" "table" "[I" ∈ UU := UU_in 185 (by decide +kernel) rfl
theorem ckX7_30 : Cond.classLink RX7 30 "RowTriggers$Text" ∈ UU := UU_in 189 (by decide +kernel) rfl
theorem itX6 : Cond.instantiable RX6 5 ∈ UU := UU_in 190 (by decide +kernel) rfl
theorem iiX6 : Cond.initialized RX6 ∈ UU := UU_in 18 (by decide +kernel) rfl
theorem mkX7_32 : Cond.methodLinkNest RX7 32 yX6_init "RowTriggers" ∈ UN := UN_in 191 (by decide +kernel) rfl
theorem mkX6_3 : Cond.methodLink RX6 3 objectInit ∈ UU := UU_in 194 (by decide +kernel) rfl
theorem fkX6_9 : Cond.fieldLink RX6 9 "RowTriggers$Text" "signs" "[C" ∈ UU := UU_in 195 (by decide +kernel) rfl
theorem fkX6_15 : Cond.fieldLink RX6 15 "RowTriggers$Text" "numbers" "[I" ∈ UU := UU_in 196 (by decide +kernel) rfl
theorem ac_char : Cond.arrayClass .char ∈ UU := UU_in 208 (by decide +kernel) rfl
theorem ckX7_37 : Cond.classLink RX7 37 "RowTriggers$History" ∈ UU := UU_in 209 (by decide +kernel) rfl
theorem itX1 : Cond.instantiable RX1 3 ∈ UU := UU_in 210 (by decide +kernel) rfl
theorem iiX1 : Cond.initialized RX1 ∈ UU := UU_in 19 (by decide +kernel) rfl
theorem mkX7_39 : Cond.methodLink RX7 39 yX1_init ∈ UU := UU_in 211 (by decide +kernel) rfl
theorem mkX1_3 : Cond.methodLink RX1 3 objectInit ∈ UU := UU_in 214 (by decide +kernel) rfl
theorem ckX1_9 : Cond.classLink RX1 9 "RowTriggers$State" ∈ UU := UU_in 215 (by decide +kernel) rfl
theorem mkX1_17 : Cond.methodLink RX1 17 yX4_init ∈ UU := UU_in 217 (by decide +kernel) rfl
theorem fkX1_11 : Cond.fieldLink RX1 11 "RowTriggers$History" "states" "[LRowTriggers$State;" ∈ UU := UU_in 218 (by decide +kernel) rfl
theorem fkX1_26 : Cond.fieldLink RX1 26 "RowTriggers$History" "size" "I" ∈ UU := UU_in 219 (by decide +kernel) rfl
theorem fkX7_269 : Cond.fieldLink RX7 269 "RowTriggers$History" "size" "I" ∈ UU := UU_in 220 (by decide +kernel) rfl
theorem fkX1_18 : Cond.fieldLink RX1 18 "RowTriggers$History" "next" "I" ∈ UU := UU_in 221 (by decide +kernel) rfl
theorem fkX7_10 : Cond.fieldLink RX7 10 "RowTriggers" "now" "LRowTriggers$State;" ∈ UU := UU_in 229 (by decide +kernel) rfl
theorem fkX7_19 : Cond.fieldLink RX7 19 "RowTriggers" "trial" "LRowTriggers$Statement;" ∈ UU := UU_in 230 (by decide +kernel) rfl
theorem fkX7_26 : Cond.fieldLink RX7 26 "RowTriggers" "chains" "LRowTriggers$Chains;" ∈ UU := UU_in 231 (by decide +kernel) rfl
theorem fkX7_33 : Cond.fieldLink RX7 33 "RowTriggers" "text" "LRowTriggers$Text;" ∈ UU := UU_in 232 (by decide +kernel) rfl
theorem fkX7_40 : Cond.fieldLink RX7 40 "RowTriggers" "history" "LRowTriggers$History;" ∈ UU := UU_in 233 (by decide +kernel) rfl
theorem fkX7_44 : Cond.fieldLink RX7 44 "RowTriggers" "slots" "[LRowTriggers$State;" ∈ UU := UU_in 234 (by decide +kernel) rfl
theorem fkX7_48 : Cond.fieldLink RX7 48 "RowTriggers" "slotIsFilled" "[Z" ∈ UU := UU_in 235 (by decide +kernel) rfl
theorem mkL_125 : Cond.methodLink RL 125 yX7_undo ∈ UU := UU_in 251 (by decide +kernel) rfl
theorem ckX7_70 : Cond.classLink RX7 70 "java/lang/IllegalStateException" ∈ UU := UU_in 255 (by decide +kernel) rfl
theorem mkX7_272 : Cond.methodLink RX7 272 yX1_takeBack ∈ UU := UU_in 323 (by decide +kernel) rfl
theorem mkX1_35 : Cond.methodLink RX1 35 yJ9_floorMod_7cf53 ∈ UU := UU_in 327 (by decide +kernel) rfl
theorem mkX1_22 : Cond.methodLink RX1 22 yX4_copyFrom ∈ UU := UU_in 330 (by decide +kernel) rfl
theorem mkX4_37 : Cond.methodLink RX4 37 arraycopyName ∈ UU := UU_in 334 (by decide +kernel) rfl
theorem mkX4_46 : Cond.methodLink RX4 46 yX3_copyFrom ∈ UU := UU_in 337 (by decide +kernel) rfl
theorem mkX4_50 : Cond.methodLink RX4 50 yX2_copyFrom ∈ UU := UU_in 341 (by decide +kernel) rfl
theorem mkX2_18 : Cond.methodLink RX2 18 arraycopyName ∈ UU := UU_in 345 (by decide +kernel) rfl
theorem mkL_122 : Cond.methodLink RL 122 yX7_undoCount ∈ UU := UU_in 346 (by decide +kernel) rfl
theorem mkL_129 : Cond.methodLink RL 129 yL_cell ∈ UU := UU_in 350 (by decide +kernel) rfl
theorem mkL_37 : Cond.methodLink RL 37 yL_low ∈ UU := UU_in 353 (by decide +kernel) rfl
theorem mkL_133 : Cond.methodLink RL 133 yL_act ∈ UU := UU_in 357 (by decide +kernel) rfl
theorem mkL_51 : Cond.methodLink RL 51 yX7_ruleCount ∈ UU := UU_in 360 (by decide +kernel) rfl
theorem mkL_55 : Cond.methodLink RL 55 yL_changes ∈ UU := UU_in 364 (by decide +kernel) rfl
theorem ckL_31 : Cond.classLink RL 31 "java/lang/IndexOutOfBoundsException" ∈ UU := UU_in 367 (by decide +kernel) rfl
theorem ckL_33 : Cond.classLink RL 33 "java/lang/IllegalArgumentException" ∈ UU := UU_in 368 (by decide +kernel) rfl
theorem ckL_35 : Cond.classLink RL 35 "java/lang/IllegalStateException" ∈ UU := UU_in 369 (by decide +kernel) rfl
theorem mkL_8 : Cond.methodLink RL 8 yX7_addRule ∈ UU := UU_in 370 (by decide +kernel) rfl
theorem mkX7_52 : Cond.methodLink RX7 52 yX7_isColumn ∈ UU := UU_in 374 (by decide +kernel) rfl
theorem mkX7_56 : Cond.methodLink RX7 56 yX7_isValue ∈ UU := UU_in 377 (by decide +kernel) rfl
theorem ckX7_59 : Cond.classLink RX7 59 "java/lang/IllegalArgumentException" ∈ UU := UU_in 380 (by decide +kernel) rfl
theorem mkX7_75 : Cond.methodLink RX7 75 yX1_keep ∈ UU := UU_in 397 (by decide +kernel) rfl
theorem mkX1_29 : Cond.methodLink RX1 29 yJ9_min_7cf53 ∈ UU := UU_in 401 (by decide +kernel) rfl
theorem mkX7_83 : Cond.methodLink RX7 83 yX3_start ∈ UU := UU_in 404 (by decide +kernel) rfl
theorem mkL_14 : Cond.methodLink RL 14 yX7_turnMute ∈ UU := UU_in 408 (by decide +kernel) rfl
theorem mkX7_89 : Cond.methodLink RX7 89 yX7_checkRule ∈ UU := UU_in 412 (by decide +kernel) rfl
theorem ckX7_280 : Cond.classLink RX7 280 "java/lang/IndexOutOfBoundsException" ∈ UU := UU_in 416 (by decide +kernel) rfl
theorem mkL_18 : Cond.methodLink RL 18 yX7_dropRule ∈ UU := UU_in 432 (by decide +kernel) rfl
theorem mkX7_117 : Cond.methodLink RX7 117 yX4_takeRuleAway ∈ UU := UU_in 436 (by decide +kernel) rfl
theorem mkX4_60 : Cond.methodLink RX4 60 yX2_forget ∈ UU := UU_in 440 (by decide +kernel) rfl
theorem mkX2_40 : Cond.methodLink RX2 40 yX2_placeOf ∈ UU := UU_in 444 (by decide +kernel) rfl
theorem mkX2_31 : Cond.methodLink RX2 31 yJ9_floorMod_7cf53 ∈ UU := UU_in 448 (by decide +kernel) rfl
theorem mkX2_44 : Cond.methodLink RX2 44 yX2_note ∈ UU := UU_in 449 (by decide +kernel) rfl
theorem mkX2_37 : Cond.methodLink RX2 37 yJ9_min_7cf53 ∈ UU := UU_in 453 (by decide +kernel) rfl
theorem mkL_22 : Cond.methodLink RL 22 yX7_setDepth ∈ UU := UU_in 454 (by decide +kernel) rfl
theorem mkL_25 : Cond.methodLink RL 25 yX7_update ∈ UU := UU_in 459 (by decide +kernel) rfl
theorem mkX7_139 : Cond.methodLink RX7 139 yX7_tryUpdate ∈ UU := UU_in 463 (by decide +kernel) rfl
theorem mkX7_125 : Cond.methodLink RX7 125 yX7_checkRow ∈ UU := UU_in 467 (by decide +kernel) rfl
theorem mkX7_93 : Cond.methodLink RX7 93 yX7_isRow ∈ UU := UU_in 470 (by decide +kernel) rfl
theorem mkX7_155 : Cond.methodLink RX7 155 yX7_checkColumn ∈ UU := UU_in 474 (by decide +kernel) rfl
theorem mkX7_128 : Cond.methodLink RX7 128 yX7_checkValue ∈ UU := UU_in 478 (by decide +kernel) rfl
theorem mkX7_158 : Cond.methodLink RX7 158 yX5_change ∈ UU := UU_in 482 (by decide +kernel) rfl
theorem mkX5_32 : Cond.methodLink RX5 32 yX5_begin ∈ UU := UU_in 486 (by decide +kernel) rfl
theorem mkX5_18 : Cond.methodLink RX5 18 yX4_copyFrom ∈ UU := UU_in 490 (by decide +kernel) rfl
theorem mkX5_55 : Cond.methodLink RX5 55 yX4_isThere ∈ UU := UU_in 491 (by decide +kernel) rfl
theorem mkX4_56 : Cond.methodLinkNest RX4 56 yX7_isRow "RowTriggers" ∈ UN := UN_in 495 (by decide +kernel) rfl
theorem mkX5_58 : Cond.methodLinkNest RX5 58 yX7_isColumn "RowTriggers" ∈ UN := UN_in 496 (by decide +kernel) rfl
theorem mkX5_47 : Cond.methodLinkNest RX5 47 yX7_cell "RowTriggers" ∈ UN := UN_in 497 (by decide +kernel) rfl
theorem mkX5_51 : Cond.methodLink RX5 51 yX5_happen ∈ UU := UU_in 500 (by decide +kernel) rfl
theorem mkX5_64 : Cond.methodLink RX5 64 yX5_matchingRules ∈ UU := UU_in 504 (by decide +kernel) rfl
theorem mkX5_68 : Cond.methodLink RX5 68 yX5_hasRefusing ∈ UU := UU_in 508 (by decide +kernel) rfl
theorem mkX5_71 : Cond.methodLink RX5 71 yX5_alterTable ∈ UU := UU_in 512 (by decide +kernel) rfl
theorem mkX5_76 : Cond.methodLink RX5 76 yJ9_max_7cf53 ∈ UU := UU_in 516 (by decide +kernel) rfl
theorem mkX5_84 : Cond.methodLink RX5 84 yX5_act ∈ UU := UU_in 519 (by decide +kernel) rfl
theorem mkX5_101 : Cond.methodLink RX5 101 yX2_note ∈ UU := UU_in 523 (by decide +kernel) rfl
theorem mkX5_118 : Cond.methodLinkNest RX5 118 yX7_isValue "RowTriggers" ∈ UN := UN_in 524 (by decide +kernel) rfl
theorem mkX7_135 : Cond.methodLink RX7 135 yX7_finishStatement ∈ UU := UU_in 525 (by decide +kernel) rfl
theorem mkX7_167 : Cond.methodLink RX7 167 yX4_copyFrom ∈ UU := UU_in 530 (by decide +kernel) rfl
theorem mkL_28 : Cond.methodLink RL 28 yX7_remove ∈ UU := UU_in 531 (by decide +kernel) rfl
theorem mkX7_142 : Cond.methodLink RX7 142 yX5_takeOut ∈ UU := UU_in 535 (by decide +kernel) rfl
theorem mkL_59 : Cond.methodLink RL 59 yL_actions ∈ UU := UU_in 539 (by decide +kernel) rfl
theorem mkL_47 : Cond.methodLink RL 47 yX7_setAction ∈ UU := UU_in 542 (by decide +kernel) rfl
theorem mkL_63 : Cond.methodLink RL 63 yL_inserts ∈ UU := UU_in 547 (by decide +kernel) rfl
theorem mkL_43 : Cond.methodLink RL 43 yX7_insert ∈ UU := UU_in 550 (by decide +kernel) rfl
theorem mkX7_131 : Cond.methodLink RX7 131 yX5_putIn ∈ UU := UU_in 554 (by decide +kernel) rfl
theorem mkX5_35 : Cond.methodLinkNest RX5 35 yX7_isRow "RowTriggers" ∈ UN := UN_in 558 (by decide +kernel) rfl
theorem mkL_137 : Cond.methodLink RL 137 yL_areAlike ∈ UU := UU_in 559 (by decide +kernel) rfl
theorem mkL_67 : Cond.methodLink RL 67 yX7_rowCount ∈ UU := UU_in 562 (by decide +kernel) rfl
theorem mkX7_173 : Cond.methodLink RX7 173 yX4_rowsThere ∈ UU := UU_in 566 (by decide +kernel) rfl
theorem mkL_70 : Cond.methodLink RL 70 yX7_eventCount ∈ UU := UU_in 570 (by decide +kernel) rfl
theorem mkL_73 : Cond.methodLink RL 73 yX7_logSize ∈ UU := UU_in 574 (by decide +kernel) rfl
theorem mkL_76 : Cond.methodLink RL 76 yX7_circularRules ∈ UU := UU_in 578 (by decide +kernel) rfl
theorem mkX7_216 : Cond.methodLink RX7 216 yX0_fillTable ∈ UU := UU_in 582 (by decide +kernel) rfl
theorem mkX0_31 : Cond.methodLink RX0 31 yX0_nextOf ∈ UU := UU_in 586 (by decide +kernel) rfl
theorem mkX0_25 : Cond.methodLink RX0 25 yX3_setsOff ∈ UU := UU_in 589 (by decide +kernel) rfl
theorem mkL_79 : Cond.methodLink RL 79 yX7_hasRow ∈ UU := UU_in 593 (by decide +kernel) rfl
theorem mkX7_170 : Cond.methodLink RX7 170 yX4_isThere ∈ UU := UU_in 597 (by decide +kernel) rfl
theorem mkL_82 : Cond.methodLink RL 82 yX7_valueAt ∈ UU := UU_in 598 (by decide +kernel) rfl
theorem mkX7_182 : Cond.methodLink RX7 182 yX7_cell ∈ UU := UU_in 603 (by decide +kernel) rfl
theorem mkL_85 : Cond.methodLink RL 85 yX7_actionOf ∈ UU := UU_in 604 (by decide +kernel) rfl
theorem mkL_88 : Cond.methodLink RL 88 yX7_isMuted ∈ UU := UU_in 608 (by decide +kernel) rfl
theorem mkL_91 : Cond.methodLink RL 91 yX7_actsOf ∈ UU := UU_in 612 (by decide +kernel) rfl
theorem mkL_94 : Cond.methodLink RL 94 yX7_loggedRule ∈ UU := UU_in 616 (by decide +kernel) rfl
theorem mkX7_196 : Cond.methodLink RX7 196 yX7_checkAgo ∈ UU := UU_in 620 (by decide +kernel) rfl
theorem mkX7_201 : Cond.methodLink RX7 201 yX2_placeOf ∈ UU := UU_in 625 (by decide +kernel) rfl
theorem mkL_97 : Cond.methodLink RL 97 yX7_loggedDepth ∈ UU := UU_in 626 (by decide +kernel) rfl
theorem mkL_141 : Cond.methodLink RL 141 yL_isTableSo ∈ UU := UU_in 630 (by decide +kernel) rfl
theorem mkL_100 : Cond.methodLink RL 100 yX7_reachOf ∈ UU := UU_in 633 (by decide +kernel) rfl
theorem mkX7_212 : Cond.methodLink RX7 212 yX0_search ∈ UU := UU_in 637 (by decide +kernel) rfl
theorem mkL_103 : Cond.methodLink RL 103 yX7_reachByTable ∈ UU := UU_in 641 (by decide +kernel) rfl
theorem mkL_106 : Cond.methodLink RL 106 yX7_canSetOff ∈ UU := UU_in 645 (by decide +kernel) rfl
theorem mkX7_208 : Cond.methodLink RX7 208 yX3_setsOff ∈ UU := UU_in 649 (by decide +kernel) rfl
theorem mkL_110 : Cond.methodLink RL 110 yX7_sumOf ∈ UU := UU_in 650 (by decide +kernel) rfl
theorem mkL_145 : Cond.methodLink RL 145 yL_isUpdateSo ∈ UU := UU_in 654 (by decide +kernel) rfl
theorem mkL_113 : Cond.methodLink RL 113 yX7_whyNotUpdate ∈ UU := UU_in 657 (by decide +kernel) rfl
theorem mkL_116 : Cond.methodLink RL 116 yX7_eventsOfUpdate ∈ UU := UU_in 661 (by decide +kernel) rfl
theorem mkL_119 : Cond.methodLink RL 119 yX7_depthOfUpdate ∈ UU := UU_in 665 (by decide +kernel) rfl
theorem aoX3 (G : PG) (U : State) (h : OW G U) : va_AO "RowTriggers$Rule" U := h.2.2.2.2.2.1
theorem aoX4 (G : PG) (U : State) (h : OW G U) : va_AO "RowTriggers$State" U := h.2.2.2.2.2.2
abbrev EIAE : String := "java/lang/IllegalArgumentException"
set_option maxRecDepth 100000 in
theorem twIAE : TW 63 EIAE := ⟨by decide +kernel, UU_in 23 (by decide +kernel) rfl, by decide +kernel⟩
theorem caIAE : Cond.castable EIAE EIAE ∈ UN := UN_in 382 (by decide +kernel) rfl
abbrev EISE : String := "java/lang/IllegalStateException"
set_option maxRecDepth 100000 in
theorem twISE : TW 74 EISE := ⟨by decide +kernel, UU_in 24 (by decide +kernel) rfl, by decide +kernel⟩
theorem caISE : Cond.castable EISE EISE ∈ UN := UN_in 257 (by decide +kernel) rfl
abbrev EIOE : String := "java/lang/IndexOutOfBoundsException"
set_option maxRecDepth 100000 in
theorem twIOE : TW 284 EIOE := ⟨by decide +kernel, UU_in 27 (by decide +kernel) rfl, by decide +kernel⟩
theorem caIOE : Cond.castable EIOE EIOE ∈ UN := UN_in 418 (by decide +kernel) rfl
