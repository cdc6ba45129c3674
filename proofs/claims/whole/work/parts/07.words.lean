abbrev MX0_init : Mth := (yX0_init, cX0_init, 1, none, [], 0, 0, fun _ => 0)
set_option maxRecDepth 100000 in
theorem okX0_init : MOK MX0_init 0 := ⟨rfl, UU_in 216 rfl rfl, UU_in 46 (by decide +kernel) rfl, ⟨by decide +kernel, by decide +kernel, by decide +kernel⟩, by decide⟩
theorem imX0_init : Cond.instanceMethod yX0_init ∈ UU := UU_in 215 (by decide +kernel) rfl
abbrev MX0_nextOf : Mth := (yX0_nextOf, cX0_nextOf, 4, (some .int), [], 0, 0, fun _ => 0)
set_option maxRecDepth 100000 in
theorem okX0_nextOf : MOK MX0_nextOf 2 := ⟨rfl, UU_in 322 rfl rfl, UU_in 46 (by decide +kernel) rfl, ⟨by decide +kernel, by decide +kernel, by decide +kernel⟩, by decide⟩
theorem stX0_nextOf : Cond.static yX0_nextOf ∈ UU := UU_in 321 (by decide +kernel) rfl
abbrev MX0_search : Mth := (yX0_search, cX0_search, 8, (some .int), [], 0, 0, fun _ => 0)
set_option maxRecDepth 100000 in
theorem okX0_search : MOK MX0_search 2 := ⟨rfl, UU_in 821 rfl rfl, UU_in 46 (by decide +kernel) rfl, ⟨by decide +kernel, by decide +kernel, by decide +kernel⟩, by decide⟩
theorem imX0_search : Cond.instanceMethod yX0_search ∈ UU := UU_in 819 (by decide +kernel) rfl
theorem seX0_search : Cond.selects yX0_search.cls yX0_search yX0_search ∈ UU := UU_in 820 (by decide +kernel) rfl
abbrev MX0_fillTable : Mth := (yX0_fillTable, cX0_fillTable, 4, none, [], 0, 0, fun _ => 0)
set_option maxRecDepth 100000 in
theorem okX0_fillTable : MOK MX0_fillTable 1 := ⟨rfl, UU_in 319 rfl rfl, UU_in 46 (by decide +kernel) rfl, ⟨by decide +kernel, by decide +kernel, by decide +kernel⟩, by decide⟩
theorem imX0_fillTable : Cond.instanceMethod yX0_fillTable ∈ UU := UU_in 317 (by decide +kernel) rfl
theorem seX0_fillTable : Cond.selects yX0_fillTable.cls yX0_fillTable yX0_fillTable ∈ UU := UU_in 318 (by decide +kernel) rfl
abbrev MX1_init : Mth := (yX1_init, cX1_init, 2, none, [], 0, 0, fun _ => 0)
set_option maxRecDepth 100000 in
theorem okX1_init : MOK MX1_init 0 := ⟨rfl, UU_in 254 rfl rfl, UU_in 48 (by decide +kernel) rfl, ⟨by decide +kernel, by decide +kernel, by decide +kernel⟩, by decide⟩
theorem imX1_init : Cond.instanceMethod yX1_init ∈ UU := UU_in 253 (by decide +kernel) rfl
abbrev MX1_keep : Mth := (yX1_keep, cX1_keep, 2, none, [], 0, 0, fun _ => 0)
set_option maxRecDepth 100000 in
theorem okX1_keep : MOK MX1_keep 1 := ⟨rfl, UU_in 524 rfl rfl, UU_in 48 (by decide +kernel) rfl, ⟨by decide +kernel, by decide +kernel, by decide +kernel⟩, by decide⟩
theorem imX1_keep : Cond.instanceMethod yX1_keep ∈ UU := UU_in 522 (by decide +kernel) rfl
theorem seX1_keep : Cond.selects yX1_keep.cls yX1_keep yX1_keep ∈ UU := UU_in 523 (by decide +kernel) rfl
abbrev MX1_takeBack : Mth := (yX1_takeBack, cX1_takeBack, 2, none, [], 0, 0, fun _ => 0)
set_option maxRecDepth 100000 in
theorem okX1_takeBack : MOK MX1_takeBack 1 := ⟨rfl, UU_in 874 rfl rfl, UU_in 48 (by decide +kernel) rfl, ⟨by decide +kernel, by decide +kernel, by decide +kernel⟩, by decide⟩
theorem imX1_takeBack : Cond.instanceMethod yX1_takeBack ∈ UU := UU_in 872 (by decide +kernel) rfl
theorem seX1_takeBack : Cond.selects yX1_takeBack.cls yX1_takeBack yX1_takeBack ∈ UU := UU_in 873 (by decide +kernel) rfl
abbrev MX2_init : Mth := (yX2_init, cX2_init, 1, none, [], 0, 0, fun _ => 0)
set_option maxRecDepth 100000 in
theorem okX2_init : MOK MX2_init 0 := ⟨rfl, UU_in 82 rfl rfl, UU_in 43 (by decide +kernel) rfl, ⟨by decide +kernel, by decide +kernel, by decide +kernel⟩, by decide⟩
theorem imX2_init : Cond.instanceMethod yX2_init ∈ UU := UU_in 81 (by decide +kernel) rfl
abbrev MX2_copyFrom : Mth := (yX2_copyFrom, cX2_copyFrom, 2, none, [], 0, 0, fun _ => 0)
set_option maxRecDepth 100000 in
theorem okX2_copyFrom : MOK MX2_copyFrom 1 := ⟨rfl, UU_in 539 rfl rfl, UU_in 43 (by decide +kernel) rfl, ⟨by decide +kernel, by decide +kernel, by decide +kernel⟩, by decide⟩
theorem imX2_copyFrom : Cond.instanceMethod yX2_copyFrom ∈ UU := UU_in 537 (by decide +kernel) rfl
theorem seX2_copyFrom : Cond.selects yX2_copyFrom.cls yX2_copyFrom yX2_copyFrom ∈ UU := UU_in 538 (by decide +kernel) rfl
abbrev MX2_placeOf : Mth := (yX2_placeOf, cX2_placeOf, 2, (some .int), [], 0, 0, fun _ => 0)
set_option maxRecDepth 100000 in
theorem okX2_placeOf : MOK MX2_placeOf 1 := ⟨rfl, UU_in 605 rfl rfl, UU_in 43 (by decide +kernel) rfl, ⟨by decide +kernel, by decide +kernel, by decide +kernel⟩, by decide⟩
theorem imX2_placeOf : Cond.instanceMethod yX2_placeOf ∈ UU := UU_in 603 (by decide +kernel) rfl
theorem seX2_placeOf : Cond.selects yX2_placeOf.cls yX2_placeOf yX2_placeOf ∈ UU := UU_in 604 (by decide +kernel) rfl
abbrev MX2_note : Mth := (yX2_note, cX2_note, 3, none, [], 0, 0, fun _ => 0)
set_option maxRecDepth 100000 in
theorem okX2_note : MOK MX2_note 2 := ⟨rfl, UU_in 612 rfl rfl, UU_in 43 (by decide +kernel) rfl, ⟨by decide +kernel, by decide +kernel, by decide +kernel⟩, by decide⟩
theorem imX2_note : Cond.instanceMethod yX2_note ∈ UU := UU_in 610 (by decide +kernel) rfl
theorem seX2_note : Cond.selects yX2_note.cls yX2_note yX2_note ∈ UU := UU_in 611 (by decide +kernel) rfl
abbrev MX2_forget : Mth := (yX2_forget, cX2_forget, 7, none, [], 0, 0, fun _ => 0)
set_option maxRecDepth 100000 in
theorem okX2_forget : MOK MX2_forget 1 := ⟨rfl, UU_in 601 rfl rfl, UU_in 43 (by decide +kernel) rfl, ⟨by decide +kernel, by decide +kernel, by decide +kernel⟩, by decide⟩
theorem imX2_forget : Cond.instanceMethod yX2_forget ∈ UU := UU_in 599 (by decide +kernel) rfl
theorem seX2_forget : Cond.selects yX2_forget.cls yX2_forget yX2_forget ∈ UU := UU_in 600 (by decide +kernel) rfl
abbrev MX3_init : Mth := (yX3_init, cX3_init, 1, none, [], 0, 0, fun _ => 0)
set_option maxRecDepth 100000 in
theorem okX3_init : MOK MX3_init 0 := ⟨rfl, UU_in 105 rfl rfl, UU_in 44 (by decide +kernel) rfl, ⟨by decide +kernel, by decide +kernel, by decide +kernel⟩, by decide⟩
theorem imX3_init : Cond.instanceMethod yX3_init ∈ UU := UU_in 104 (by decide +kernel) rfl
abbrev MX3_start : Mth := (yX3_start, cX3_start, 4, none, [], 0, 0, fun _ => 0)
set_option maxRecDepth 100000 in
theorem okX3_start : MOK MX3_start 3 := ⟨rfl, UU_in 547 rfl rfl, UU_in 44 (by decide +kernel) rfl, ⟨by decide +kernel, by decide +kernel, by decide +kernel⟩, by decide⟩
theorem imX3_start : Cond.instanceMethod yX3_start ∈ UU := UU_in 545 (by decide +kernel) rfl
theorem seX3_start : Cond.selects yX3_start.cls yX3_start yX3_start ∈ UU := UU_in 546 (by decide +kernel) rfl
abbrev MX3_copyFrom : Mth := (yX3_copyFrom, cX3_copyFrom, 2, none, [], 0, 0, fun _ => 0)
set_option maxRecDepth 100000 in
theorem okX3_copyFrom : MOK MX3_copyFrom 1 := ⟨rfl, UU_in 535 rfl rfl, UU_in 44 (by decide +kernel) rfl, ⟨by decide +kernel, by decide +kernel, by decide +kernel⟩, by decide⟩
theorem imX3_copyFrom : Cond.instanceMethod yX3_copyFrom ∈ UU := UU_in 533 (by decide +kernel) rfl
theorem seX3_copyFrom : Cond.selects yX3_copyFrom.cls yX3_copyFrom yX3_copyFrom ∈ UU := UU_in 534 (by decide +kernel) rfl
abbrev MX3_setsOff : Mth := (yX3_setsOff, cX3_setsOff, 2, (some .boolean), [], 0, 0, fun _ => 0)
set_option maxRecDepth 100000 in
theorem okX3_setsOff : MOK MX3_setsOff 1 := ⟨rfl, UU_in 326 rfl rfl, UU_in 44 (by decide +kernel) rfl, ⟨by decide +kernel, by decide +kernel, by decide +kernel⟩, by decide⟩
theorem imX3_setsOff : Cond.instanceMethod yX3_setsOff ∈ UU := UU_in 324 (by decide +kernel) rfl
theorem seX3_setsOff : Cond.selects yX3_setsOff.cls yX3_setsOff yX3_setsOff ∈ UU := UU_in 325 (by decide +kernel) rfl
abbrev MX4_init : Mth := (yX4_init, cX4_init, 2, none, [], 0, 0, fun _ => 0)
set_option maxRecDepth 100000 in
theorem okX4_init : MOK MX4_init 0 := ⟨rfl, UU_in 74 rfl rfl, UU_in 42 (by decide +kernel) rfl, ⟨by decide +kernel, by decide +kernel, by decide +kernel⟩, by decide⟩
theorem imX4_init : Cond.instanceMethod yX4_init ∈ UU := UU_in 73 (by decide +kernel) rfl
abbrev MX4_copyFrom : Mth := (yX4_copyFrom, cX4_copyFrom, 3, none, [], 0, 0, fun _ => 0)
set_option maxRecDepth 100000 in
theorem okX4_copyFrom : MOK MX4_copyFrom 1 := ⟨rfl, UU_in 528 rfl rfl, UU_in 42 (by decide +kernel) rfl, ⟨by decide +kernel, by decide +kernel, by decide +kernel⟩, by decide⟩
theorem imX4_copyFrom : Cond.instanceMethod yX4_copyFrom ∈ UU := UU_in 526 (by decide +kernel) rfl
theorem seX4_copyFrom : Cond.selects yX4_copyFrom.cls yX4_copyFrom yX4_copyFrom ∈ UU := UU_in 527 (by decide +kernel) rfl
abbrev MX4_isThere : Mth := (yX4_isThere, cX4_isThere, 2, (some .boolean), [], 0, 0, fun _ => 0)
set_option maxRecDepth 100000 in
theorem okX4_isThere : MOK MX4_isThere 1 := ⟨rfl, UU_in 677 rfl rfl, UU_in 42 (by decide +kernel) rfl, ⟨by decide +kernel, by decide +kernel, by decide +kernel⟩, by decide⟩
theorem imX4_isThere : Cond.instanceMethod yX4_isThere ∈ UU := UU_in 675 (by decide +kernel) rfl
theorem seX4_isThere : Cond.selects yX4_isThere.cls yX4_isThere yX4_isThere ∈ UU := UU_in 676 (by decide +kernel) rfl
abbrev MX4_rowsThere : Mth := (yX4_rowsThere, cX4_rowsThere, 3, (some .int), [], 0, 0, fun _ => 0)
set_option maxRecDepth 100000 in
theorem okX4_rowsThere : MOK MX4_rowsThere 0 := ⟨rfl, UU_in 299 rfl rfl, UU_in 42 (by decide +kernel) rfl, ⟨by decide +kernel, by decide +kernel, by decide +kernel⟩, by decide⟩
theorem imX4_rowsThere : Cond.instanceMethod yX4_rowsThere ∈ UU := UU_in 297 (by decide +kernel) rfl
theorem seX4_rowsThere : Cond.selects yX4_rowsThere.cls yX4_rowsThere yX4_rowsThere ∈ UU := UU_in 298 (by decide +kernel) rfl
abbrev MX4_takeRuleAway : Mth := (yX4_takeRuleAway, cX4_takeRuleAway, 3, none, [], 0, 0, fun _ => 0)
set_option maxRecDepth 100000 in
theorem okX4_takeRuleAway : MOK MX4_takeRuleAway 1 := ⟨rfl, UU_in 597 rfl rfl, UU_in 42 (by decide +kernel) rfl, ⟨by decide +kernel, by decide +kernel, by decide +kernel⟩, by decide⟩
theorem imX4_takeRuleAway : Cond.instanceMethod yX4_takeRuleAway ∈ UU := UU_in 595 (by decide +kernel) rfl
theorem seX4_takeRuleAway : Cond.selects yX4_takeRuleAway.cls yX4_takeRuleAway yX4_takeRuleAway ∈ UU := UU_in 596 (by decide +kernel) rfl
abbrev MX5_init : Mth := (yX5_init, cX5_init, 1, none, [], 0, 0, fun _ => 0)
set_option maxRecDepth 100000 in
theorem okX5_init : MOK MX5_init 0 := ⟨rfl, UU_in 191 rfl rfl, UU_in 45 (by decide +kernel) rfl, ⟨by decide +kernel, by decide +kernel, by decide +kernel⟩, by decide⟩
theorem imX5_init : Cond.instanceMethod yX5_init ∈ UU := UU_in 190 (by decide +kernel) rfl
abbrev MX5_begin : Mth := (yX5_begin, cX5_begin, 2, none, [], 0, 0, fun _ => 0)
set_option maxRecDepth 100000 in
theorem okX5_begin : MOK MX5_begin 1 := ⟨rfl, UU_in 644 rfl rfl, UU_in 45 (by decide +kernel) rfl, ⟨by decide +kernel, by decide +kernel, by decide +kernel⟩, by decide⟩
theorem imX5_begin : Cond.instanceMethod yX5_begin ∈ UU := UU_in 643 (by decide +kernel) rfl
theorem seX5_begin : Cond.selects yX5_begin.cls yX5_begin yX5_begin ∈ UU := UU_in 4 (by decide +kernel) rfl
abbrev MX5_putIn : Mth := (yX5_putIn, cX5_putIn, 6, none, [], 0, 0, fun _ => 0)
set_option maxRecDepth 100000 in
theorem okX5_putIn : MOK MX5_putIn 5 := ⟨rfl, UU_in 640 rfl rfl, UU_in 45 (by decide +kernel) rfl, ⟨by decide +kernel, by decide +kernel, by decide +kernel⟩, by decide⟩
theorem imX5_putIn : Cond.instanceMethod yX5_putIn ∈ UU := UU_in 638 (by decide +kernel) rfl
theorem seX5_putIn : Cond.selects yX5_putIn.cls yX5_putIn yX5_putIn ∈ UU := UU_in 639 (by decide +kernel) rfl
abbrev MX5_change : Mth := (yX5_change, cX5_change, 5, none, [], 0, 0, fun _ => 0)
set_option maxRecDepth 100000 in
theorem okX5_change : MOK MX5_change 4 := ⟨rfl, UU_in 704 rfl rfl, UU_in 45 (by decide +kernel) rfl, ⟨by decide +kernel, by decide +kernel, by decide +kernel⟩, by decide⟩
theorem imX5_change : Cond.instanceMethod yX5_change ∈ UU := UU_in 702 (by decide +kernel) rfl
theorem seX5_change : Cond.selects yX5_change.cls yX5_change yX5_change ∈ UU := UU_in 703 (by decide +kernel) rfl
abbrev MX5_takeOut : Mth := (yX5_takeOut, cX5_takeOut, 3, none, [], 0, 0, fun _ => 0)
set_option maxRecDepth 100000 in
theorem okX5_takeOut : MOK MX5_takeOut 2 := ⟨rfl, UU_in 716 rfl rfl, UU_in 45 (by decide +kernel) rfl, ⟨by decide +kernel, by decide +kernel, by decide +kernel⟩, by decide⟩
theorem imX5_takeOut : Cond.instanceMethod yX5_takeOut ∈ UU := UU_in 714 (by decide +kernel) rfl
theorem seX5_takeOut : Cond.selects yX5_takeOut.cls yX5_takeOut yX5_takeOut ∈ UU := UU_in 715 (by decide +kernel) rfl
abbrev MX5_happen : Mth := (yX5_happen, cX5_happen, 8, none, [], 0, 0, fun _ => 0)
set_option maxRecDepth 100000 in
theorem okX5_happen : MOK MX5_happen 5 := ⟨rfl, UU_in 653 rfl rfl, UU_in 45 (by decide +kernel) rfl, ⟨by decide +kernel, by decide +kernel, by decide +kernel⟩, by decide⟩
theorem imX5_happen : Cond.instanceMethod yX5_happen ∈ UU := UU_in 652 (by decide +kernel) rfl
theorem seX5_happen : Cond.selects yX5_happen.cls yX5_happen yX5_happen ∈ UU := UU_in 5 (by decide +kernel) rfl
abbrev MX5_act : Mth := (yX5_act, cX5_act, 6, none, [], 0, 0, fun _ => 0)
set_option maxRecDepth 100000 in
theorem okX5_act : MOK MX5_act 2 := ⟨rfl, UU_in 672 rfl rfl, UU_in 45 (by decide +kernel) rfl, ⟨by decide +kernel, by decide +kernel, by decide +kernel⟩, by decide⟩
theorem imX5_act : Cond.instanceMethod yX5_act ∈ UU := UU_in 671 (by decide +kernel) rfl
theorem seX5_act : Cond.selects yX5_act.cls yX5_act yX5_act ∈ UU := UU_in 9 (by decide +kernel) rfl
abbrev MX5_alterTable : Mth := (yX5_alterTable, cX5_alterTable, 5, none, [], 0, 0, fun _ => 0)
set_option maxRecDepth 100000 in
theorem okX5_alterTable : MOK MX5_alterTable 4 := ⟨rfl, UU_in 665 rfl rfl, UU_in 45 (by decide +kernel) rfl, ⟨by decide +kernel, by decide +kernel, by decide +kernel⟩, by decide⟩
theorem imX5_alterTable : Cond.instanceMethod yX5_alterTable ∈ UU := UU_in 664 (by decide +kernel) rfl
theorem seX5_alterTable : Cond.selects yX5_alterTable.cls yX5_alterTable yX5_alterTable ∈ UU := UU_in 8 (by decide +kernel) rfl
abbrev MX5_matchingRules : Mth := (yX5_matchingRules, cX5_matchingRules, 9, (some .int), [], 0, 0, fun _ => 0)
set_option maxRecDepth 100000 in
theorem okX5_matchingRules : MOK MX5_matchingRules 4 := ⟨rfl, UU_in 657 rfl rfl, UU_in 45 (by decide +kernel) rfl, ⟨by decide +kernel, by decide +kernel, by decide +kernel⟩, by decide⟩
theorem imX5_matchingRules : Cond.instanceMethod yX5_matchingRules ∈ UU := UU_in 656 (by decide +kernel) rfl
theorem seX5_matchingRules : Cond.selects yX5_matchingRules.cls yX5_matchingRules yX5_matchingRules ∈ UU := UU_in 6 (by decide +kernel) rfl
abbrev MX5_hasRefusing : Mth := (yX5_hasRefusing, cX5_hasRefusing, 3, (some .boolean), [], 0, 0, fun _ => 0)
set_option maxRecDepth 100000 in
theorem okX5_hasRefusing : MOK MX5_hasRefusing 1 := ⟨rfl, UU_in 661 rfl rfl, UU_in 45 (by decide +kernel) rfl, ⟨by decide +kernel, by decide +kernel, by decide +kernel⟩, by decide⟩
theorem imX5_hasRefusing : Cond.instanceMethod yX5_hasRefusing ∈ UU := UU_in 660 (by decide +kernel) rfl
theorem seX5_hasRefusing : Cond.selects yX5_hasRefusing.cls yX5_hasRefusing yX5_hasRefusing ∈ UU := UU_in 7 (by decide +kernel) rfl
abbrev MX6_init : Mth := (yX6_init, cX6_init, 1, none, [], 0, 0, fun _ => 0)
set_option maxRecDepth 100000 in
theorem okX6_init : MOK MX6_init 0 := ⟨rfl, UU_in 227 rfl rfl, UU_in 47 (by decide +kernel) rfl, ⟨by decide +kernel, by decide +kernel, by decide +kernel⟩, by decide⟩
theorem imX6_init : Cond.instanceMethod yX6_init ∈ UU := UU_in 226 (by decide +kernel) rfl
abbrev MX6_append : Mth := (yX6_append, cX6_append, 2, none, [], 0, 0, fun _ => 0)
set_option maxRecDepth 100000 in
theorem okX6_append : MOK MX6_append 1 := ⟨rfl, UU_in 848 rfl rfl, UU_in 47 (by decide +kernel) rfl, ⟨by decide +kernel, by decide +kernel, by decide +kernel⟩, by decide⟩
theorem imX6_append : Cond.instanceMethod yX6_append ∈ UU := UU_in 846 (by decide +kernel) rfl
theorem seX6_append : Cond.selects yX6_append.cls yX6_append yX6_append ∈ UU := UU_in 847 (by decide +kernel) rfl
abbrev MX6_firstError : Mth := (yX6_firstError, cX6_firstError, 2, (some .int), [], 0, 0, fun _ => 0)
set_option maxRecDepth 100000 in
theorem okX6_firstError : MOK MX6_firstError 0 := ⟨rfl, UU_in 342 rfl rfl, UU_in 47 (by decide +kernel) rfl, ⟨by decide +kernel, by decide +kernel, by decide +kernel⟩, by decide⟩
theorem imX6_firstError : Cond.instanceMethod yX6_firstError ∈ UU := UU_in 340 (by decide +kernel) rfl
theorem seX6_firstError : Cond.selects yX6_firstError.cls yX6_firstError yX6_firstError ∈ UU := UU_in 341 (by decide +kernel) rfl
abbrev MX6_readCommand : Mth := (yX6_readCommand, cX6_readCommand, 6, (some .boolean), [], 0, 0, fun _ => 0)
set_option maxRecDepth 100000 in
theorem okX6_readCommand : MOK MX6_readCommand 0 := ⟨rfl, UU_in 346 rfl rfl, UU_in 47 (by decide +kernel) rfl, ⟨by decide +kernel, by decide +kernel, by decide +kernel⟩, by decide⟩
theorem imX6_readCommand : Cond.instanceMethod yX6_readCommand ∈ UU := UU_in 344 (by decide +kernel) rfl
theorem seX6_readCommand : Cond.selects yX6_readCommand.cls yX6_readCommand yX6_readCommand ∈ UU := UU_in 345 (by decide +kernel) rfl
abbrev MX6_formOf : Mth := (yX6_formOf, cX6_formOf, 1, (some (.object "java/lang/String")), [], 0, 0, fun _ => 0)
set_option maxRecDepth 100000 in
theorem okX6_formOf : MOK MX6_formOf 1 := ⟨rfl, UU_in 349 rfl rfl, UU_in 47 (by decide +kernel) rfl, ⟨by decide +kernel, by decide +kernel, by decide +kernel⟩, by decide⟩
theorem stX6_formOf : Cond.static yX6_formOf ∈ UU := UU_in 348 (by decide +kernel) rfl
abbrev MX6_readSign : Mth := (yX6_readSign, cX6_readSign, 2, (some .boolean), [], 0, 0, fun _ => 0)
set_option maxRecDepth 100000 in
theorem okX6_readSign : MOK MX6_readSign 1 := ⟨rfl, UU_in 417 rfl rfl, UU_in 47 (by decide +kernel) rfl, ⟨by decide +kernel, by decide +kernel, by decide +kernel⟩, by decide⟩
theorem imX6_readSign : Cond.instanceMethod yX6_readSign ∈ UU := UU_in 415 (by decide +kernel) rfl
theorem seX6_readSign : Cond.selects yX6_readSign.cls yX6_readSign yX6_readSign ∈ UU := UU_in 416 (by decide +kernel) rfl
abbrev MX6_readNumber : Mth := (yX6_readNumber, cX6_readNumber, 5, (some .int), [], 0, 0, fun _ => 0)
set_option maxRecDepth 100000 in
theorem okX6_readNumber : MOK MX6_readNumber 1 := ⟨rfl, UU_in 409 rfl rfl, UU_in 47 (by decide +kernel) rfl, ⟨by decide +kernel, by decide +kernel, by decide +kernel⟩, by decide⟩
theorem imX6_readNumber : Cond.instanceMethod yX6_readNumber ∈ UU := UU_in 408 (by decide +kernel) rfl
theorem seX6_readNumber : Cond.selects yX6_readNumber.cls yX6_readNumber yX6_readNumber ∈ UU := UU_in 0 (by decide +kernel) rfl
abbrev MX6_isDigitNext : Mth := (yX6_isDigitNext, cX6_isDigitNext, 1, (some .boolean), [], 0, 0, fun _ => 0)
set_option maxRecDepth 100000 in
theorem okX6_isDigitNext : MOK MX6_isDigitNext 0 := ⟨rfl, UU_in 413 rfl rfl, UU_in 47 (by decide +kernel) rfl, ⟨by decide +kernel, by decide +kernel, by decide +kernel⟩, by decide⟩
theorem imX6_isDigitNext : Cond.instanceMethod yX6_isDigitNext ∈ UU := UU_in 412 (by decide +kernel) rfl
theorem seX6_isDigitNext : Cond.selects yX6_isDigitNext.cls yX6_isDigitNext yX6_isDigitNext ∈ UU := UU_in 1 (by decide +kernel) rfl
abbrev MX7_init : Mth := (yX7_init, cX7_init, 2, none, [], 0, 0, fun _ => 0)
set_option maxRecDepth 100000 in
theorem okX7_init : MOK MX7_init 0 := ⟨rfl, UU_in 66 rfl rfl, UU_in 41 (by decide +kernel) rfl, ⟨by decide +kernel, by decide +kernel, by decide +kernel⟩, by decide⟩
theorem imX7_init : Cond.instanceMethod yX7_init ∈ UU := UU_in 65 (by decide +kernel) rfl
abbrev MX7_addRule : Mth := (yX7_addRule, cX7_addRule, 5, (some .int), [], 1, 0, fun _ => 0)
set_option maxRecDepth 100000 in
theorem okX7_addRule : MOK MX7_addRule 3 := ⟨rfl, UU_in 431 rfl rfl, UU_in 41 (by decide +kernel) rfl, ⟨by decide +kernel, by decide +kernel, by decide +kernel⟩, by decide⟩
theorem imX7_addRule : Cond.instanceMethod yX7_addRule ∈ UU := UU_in 429 (by decide +kernel) rfl
theorem seX7_addRule : Cond.selects yX7_addRule.cls yX7_addRule yX7_addRule ∈ UU := UU_in 430 (by decide +kernel) rfl
abbrev MX7_setAction : Mth := (yX7_setAction, cX7_setAction, 8, (some .int), [], 1, 0, fun _ => 0)
set_option maxRecDepth 100000 in
theorem okX7_setAction : MOK MX7_setAction 5 := ⟨rfl, UU_in 555 rfl rfl, UU_in 41 (by decide +kernel) rfl, ⟨by decide +kernel, by decide +kernel, by decide +kernel⟩, by decide⟩
theorem imX7_setAction : Cond.instanceMethod yX7_setAction ∈ UU := UU_in 553 (by decide +kernel) rfl
theorem seX7_setAction : Cond.selects yX7_setAction.cls yX7_setAction yX7_setAction ∈ UU := UU_in 554 (by decide +kernel) rfl
abbrev MX7_turnMute : Mth := (yX7_turnMute, cX7_turnMute, 3, (some .boolean), [], 1, 0, fun _ => 0)
set_option maxRecDepth 100000 in
theorem okX7_turnMute : MOK MX7_turnMute 1 := ⟨rfl, UU_in 586 rfl rfl, UU_in 41 (by decide +kernel) rfl, ⟨by decide +kernel, by decide +kernel, by decide +kernel⟩, by decide⟩
theorem imX7_turnMute : Cond.instanceMethod yX7_turnMute ∈ UU := UU_in 584 (by decide +kernel) rfl
theorem seX7_turnMute : Cond.selects yX7_turnMute.cls yX7_turnMute yX7_turnMute ∈ UU := UU_in 585 (by decide +kernel) rfl
abbrev MX7_dropRule : Mth := (yX7_dropRule, cX7_dropRule, 3, (some .int), [], 1, 0, fun _ => 0)
set_option maxRecDepth 100000 in
theorem okX7_dropRule : MOK MX7_dropRule 1 := ⟨rfl, UU_in 593 rfl rfl, UU_in 41 (by decide +kernel) rfl, ⟨by decide +kernel, by decide +kernel, by decide +kernel⟩, by decide⟩
theorem imX7_dropRule : Cond.instanceMethod yX7_dropRule ∈ UU := UU_in 591 (by decide +kernel) rfl
theorem seX7_dropRule : Cond.selects yX7_dropRule.cls yX7_dropRule yX7_dropRule ∈ UU := UU_in 592 (by decide +kernel) rfl
abbrev MX7_setDepth : Mth := (yX7_setDepth, cX7_setDepth, 3, (some .int), [], 1, 0, fun _ => 0)
set_option maxRecDepth 100000 in
theorem okX7_setDepth : MOK MX7_setDepth 1 := ⟨rfl, UU_in 620 rfl rfl, UU_in 41 (by decide +kernel) rfl, ⟨by decide +kernel, by decide +kernel, by decide +kernel⟩, by decide⟩
theorem imX7_setDepth : Cond.instanceMethod yX7_setDepth ∈ UU := UU_in 618 (by decide +kernel) rfl
theorem seX7_setDepth : Cond.selects yX7_setDepth.cls yX7_setDepth yX7_setDepth ∈ UU := UU_in 619 (by decide +kernel) rfl
abbrev MX7_insert : Mth := (yX7_insert, cX7_insert, 5, (some .int), [], 1, 0, fun _ => 0)
set_option maxRecDepth 100000 in
theorem okX7_insert : MOK MX7_insert 4 := ⟨rfl, UU_in 628 rfl rfl, UU_in 41 (by decide +kernel) rfl, ⟨by decide +kernel, by decide +kernel, by decide +kernel⟩, by decide⟩
theorem imX7_insert : Cond.instanceMethod yX7_insert ∈ UU := UU_in 626 (by decide +kernel) rfl
theorem seX7_insert : Cond.selects yX7_insert.cls yX7_insert yX7_insert ∈ UU := UU_in 627 (by decide +kernel) rfl
abbrev MX7_update : Mth := (yX7_update, cX7_update, 4, (some .int), [], 1, 0, fun _ => 0)
set_option maxRecDepth 100000 in
theorem okX7_update : MOK MX7_update 3 := ⟨rfl, UU_in 692 rfl rfl, UU_in 41 (by decide +kernel) rfl, ⟨by decide +kernel, by decide +kernel, by decide +kernel⟩, by decide⟩
theorem imX7_update : Cond.instanceMethod yX7_update ∈ UU := UU_in 690 (by decide +kernel) rfl
theorem seX7_update : Cond.selects yX7_update.cls yX7_update yX7_update ∈ UU := UU_in 691 (by decide +kernel) rfl
abbrev MX7_remove : Mth := (yX7_remove, cX7_remove, 2, (some .int), [], 1, 0, fun _ => 0)
set_option maxRecDepth 100000 in
theorem okX7_remove : MOK MX7_remove 1 := ⟨rfl, UU_in 712 rfl rfl, UU_in 41 (by decide +kernel) rfl, ⟨by decide +kernel, by decide +kernel, by decide +kernel⟩, by decide⟩
theorem imX7_remove : Cond.instanceMethod yX7_remove ∈ UU := UU_in 710 (by decide +kernel) rfl
theorem seX7_remove : Cond.selects yX7_remove.cls yX7_remove yX7_remove ∈ UU := UU_in 711 (by decide +kernel) rfl
abbrev MX7_whyNotUpdate : Mth := (yX7_whyNotUpdate, cX7_whyNotUpdate, 4, (some .int), [], 1, 0, fun _ => 0)
set_option maxRecDepth 100000 in
theorem okX7_whyNotUpdate : MOK MX7_whyNotUpdate 3 := ⟨rfl, UU_in 723 rfl rfl, UU_in 41 (by decide +kernel) rfl, ⟨by decide +kernel, by decide +kernel, by decide +kernel⟩, by decide⟩
theorem imX7_whyNotUpdate : Cond.instanceMethod yX7_whyNotUpdate ∈ UU := UU_in 721 (by decide +kernel) rfl
theorem seX7_whyNotUpdate : Cond.selects yX7_whyNotUpdate.cls yX7_whyNotUpdate yX7_whyNotUpdate ∈ UU := UU_in 722 (by decide +kernel) rfl
abbrev MX7_eventsOfUpdate : Mth := (yX7_eventsOfUpdate, cX7_eventsOfUpdate, 4, (some .int), [], 1, 0, fun _ => 0)
set_option maxRecDepth 100000 in
theorem okX7_eventsOfUpdate : MOK MX7_eventsOfUpdate 3 := ⟨rfl, UU_in 730 rfl rfl, UU_in 41 (by decide +kernel) rfl, ⟨by decide +kernel, by decide +kernel, by decide +kernel⟩, by decide⟩
theorem imX7_eventsOfUpdate : Cond.instanceMethod yX7_eventsOfUpdate ∈ UU := UU_in 728 (by decide +kernel) rfl
theorem seX7_eventsOfUpdate : Cond.selects yX7_eventsOfUpdate.cls yX7_eventsOfUpdate yX7_eventsOfUpdate ∈ UU := UU_in 729 (by decide +kernel) rfl
abbrev MX7_depthOfUpdate : Mth := (yX7_depthOfUpdate, cX7_depthOfUpdate, 4, (some .int), [], 1, 0, fun _ => 0)
set_option maxRecDepth 100000 in
theorem okX7_depthOfUpdate : MOK MX7_depthOfUpdate 3 := ⟨rfl, UU_in 737 rfl rfl, UU_in 41 (by decide +kernel) rfl, ⟨by decide +kernel, by decide +kernel, by decide +kernel⟩, by decide⟩
theorem imX7_depthOfUpdate : Cond.instanceMethod yX7_depthOfUpdate ∈ UU := UU_in 735 (by decide +kernel) rfl
theorem seX7_depthOfUpdate : Cond.selects yX7_depthOfUpdate.cls yX7_depthOfUpdate yX7_depthOfUpdate ∈ UU := UU_in 736 (by decide +kernel) rfl
abbrev MX7_tryUpdate : Mth := (yX7_tryUpdate, cX7_tryUpdate, 4, none, [], 1, 0, fun _ => 0)
set_option maxRecDepth 100000 in
theorem okX7_tryUpdate : MOK MX7_tryUpdate 3 := ⟨rfl, UU_in 696 rfl rfl, UU_in 41 (by decide +kernel) rfl, ⟨by decide +kernel, by decide +kernel, by decide +kernel⟩, by decide⟩
theorem imX7_tryUpdate : Cond.instanceMethod yX7_tryUpdate ∈ UU := UU_in 695 (by decide +kernel) rfl
theorem seX7_tryUpdate : Cond.selects yX7_tryUpdate.cls yX7_tryUpdate yX7_tryUpdate ∈ UU := UU_in 11 (by decide +kernel) rfl
abbrev MX7_finishStatement : Mth := (yX7_finishStatement, cX7_finishStatement, 1, (some .int), [], 1, 0, fun _ => 0)
set_option maxRecDepth 100000 in
theorem okX7_finishStatement : MOK MX7_finishStatement 0 := ⟨rfl, UU_in 683 rfl rfl, UU_in 41 (by decide +kernel) rfl, ⟨by decide +kernel, by decide +kernel, by decide +kernel⟩, by decide⟩
theorem imX7_finishStatement : Cond.instanceMethod yX7_finishStatement ∈ UU := UU_in 682 (by decide +kernel) rfl
theorem seX7_finishStatement : Cond.selects yX7_finishStatement.cls yX7_finishStatement yX7_finishStatement ∈ UU := UU_in 10 (by decide +kernel) rfl
abbrev MX7_hasRow : Mth := (yX7_hasRow, cX7_hasRow, 2, (some .boolean), [], 1, 0, fun _ => 0)
set_option maxRecDepth 100000 in
theorem okX7_hasRow : MOK MX7_hasRow 1 := ⟨rfl, UU_in 744 rfl rfl, UU_in 41 (by decide +kernel) rfl, ⟨by decide +kernel, by decide +kernel, by decide +kernel⟩, by decide⟩
theorem imX7_hasRow : Cond.instanceMethod yX7_hasRow ∈ UU := UU_in 742 (by decide +kernel) rfl
theorem seX7_hasRow : Cond.selects yX7_hasRow.cls yX7_hasRow yX7_hasRow ∈ UU := UU_in 743 (by decide +kernel) rfl
abbrev MX7_rowCount : Mth := (yX7_rowCount, cX7_rowCount, 1, (some .int), [], 0, 0, fun _ => 0)
set_option maxRecDepth 100000 in
theorem okX7_rowCount : MOK MX7_rowCount 0 := ⟨rfl, UU_in 295 rfl rfl, UU_in 41 (by decide +kernel) rfl, ⟨by decide +kernel, by decide +kernel, by decide +kernel⟩, by decide⟩
theorem imX7_rowCount : Cond.instanceMethod yX7_rowCount ∈ UU := UU_in 293 (by decide +kernel) rfl
theorem seX7_rowCount : Cond.selects yX7_rowCount.cls yX7_rowCount yX7_rowCount ∈ UU := UU_in 294 (by decide +kernel) rfl
abbrev MX7_valueAt : Mth := (yX7_valueAt, cX7_valueAt, 3, (some .int), [], 1, 0, fun _ => 0)
set_option maxRecDepth 100000 in
theorem okX7_valueAt : MOK MX7_valueAt 2 := ⟨rfl, UU_in 752 rfl rfl, UU_in 41 (by decide +kernel) rfl, ⟨by decide +kernel, by decide +kernel, by decide +kernel⟩, by decide⟩
theorem imX7_valueAt : Cond.instanceMethod yX7_valueAt ∈ UU := UU_in 750 (by decide +kernel) rfl
theorem seX7_valueAt : Cond.selects yX7_valueAt.cls yX7_valueAt yX7_valueAt ∈ UU := UU_in 751 (by decide +kernel) rfl
abbrev MX7_sumOf : Mth := (yX7_sumOf, cX7_sumOf, 4, (some .int), [], 1, 0, fun _ => 0)
set_option maxRecDepth 100000 in
theorem okX7_sumOf : MOK MX7_sumOf 1 := ⟨rfl, UU_in 761 rfl rfl, UU_in 41 (by decide +kernel) rfl, ⟨by decide +kernel, by decide +kernel, by decide +kernel⟩, by decide⟩
theorem imX7_sumOf : Cond.instanceMethod yX7_sumOf ∈ UU := UU_in 759 (by decide +kernel) rfl
theorem seX7_sumOf : Cond.selects yX7_sumOf.cls yX7_sumOf yX7_sumOf ∈ UU := UU_in 760 (by decide +kernel) rfl
abbrev MX7_ruleCount : Mth := (yX7_ruleCount, cX7_ruleCount, 1, (some .int), [], 0, 0, fun _ => 0)
set_option maxRecDepth 100000 in
theorem okX7_ruleCount : MOK MX7_ruleCount 0 := ⟨rfl, UU_in 303 rfl rfl, UU_in 41 (by decide +kernel) rfl, ⟨by decide +kernel, by decide +kernel, by decide +kernel⟩, by decide⟩
theorem imX7_ruleCount : Cond.instanceMethod yX7_ruleCount ∈ UU := UU_in 301 (by decide +kernel) rfl
theorem seX7_ruleCount : Cond.selects yX7_ruleCount.cls yX7_ruleCount yX7_ruleCount ∈ UU := UU_in 302 (by decide +kernel) rfl
abbrev MX7_actionOf : Mth := (yX7_actionOf, cX7_actionOf, 2, (some .int), [], 1, 0, fun _ => 0)
set_option maxRecDepth 100000 in
theorem okX7_actionOf : MOK MX7_actionOf 1 := ⟨rfl, UU_in 768 rfl rfl, UU_in 41 (by decide +kernel) rfl, ⟨by decide +kernel, by decide +kernel, by decide +kernel⟩, by decide⟩
theorem imX7_actionOf : Cond.instanceMethod yX7_actionOf ∈ UU := UU_in 766 (by decide +kernel) rfl
theorem seX7_actionOf : Cond.selects yX7_actionOf.cls yX7_actionOf yX7_actionOf ∈ UU := UU_in 767 (by decide +kernel) rfl
abbrev MX7_isMuted : Mth := (yX7_isMuted, cX7_isMuted, 2, (some .boolean), [], 1, 0, fun _ => 0)
set_option maxRecDepth 100000 in
theorem okX7_isMuted : MOK MX7_isMuted 1 := ⟨rfl, UU_in 775 rfl rfl, UU_in 41 (by decide +kernel) rfl, ⟨by decide +kernel, by decide +kernel, by decide +kernel⟩, by decide⟩
theorem imX7_isMuted : Cond.instanceMethod yX7_isMuted ∈ UU := UU_in 773 (by decide +kernel) rfl
theorem seX7_isMuted : Cond.selects yX7_isMuted.cls yX7_isMuted yX7_isMuted ∈ UU := UU_in 774 (by decide +kernel) rfl
abbrev MX7_actsOf : Mth := (yX7_actsOf, cX7_actsOf, 2, (some .int), [], 1, 0, fun _ => 0)
set_option maxRecDepth 100000 in
theorem okX7_actsOf : MOK MX7_actsOf 1 := ⟨rfl, UU_in 782 rfl rfl, UU_in 41 (by decide +kernel) rfl, ⟨by decide +kernel, by decide +kernel, by decide +kernel⟩, by decide⟩
theorem imX7_actsOf : Cond.instanceMethod yX7_actsOf ∈ UU := UU_in 780 (by decide +kernel) rfl
theorem seX7_actsOf : Cond.selects yX7_actsOf.cls yX7_actsOf yX7_actsOf ∈ UU := UU_in 781 (by decide +kernel) rfl
abbrev MX7_eventCount : Mth := (yX7_eventCount, cX7_eventCount, 1, (some .int), [], 0, 0, fun _ => 0)
set_option maxRecDepth 100000 in
theorem okX7_eventCount : MOK MX7_eventCount 0 := ⟨rfl, UU_in 307 rfl rfl, UU_in 41 (by decide +kernel) rfl, ⟨by decide +kernel, by decide +kernel, by decide +kernel⟩, by decide⟩
theorem imX7_eventCount : Cond.instanceMethod yX7_eventCount ∈ UU := UU_in 305 (by decide +kernel) rfl
theorem seX7_eventCount : Cond.selects yX7_eventCount.cls yX7_eventCount yX7_eventCount ∈ UU := UU_in 306 (by decide +kernel) rfl
abbrev MX7_logSize : Mth := (yX7_logSize, cX7_logSize, 1, (some .int), [], 0, 0, fun _ => 0)
set_option maxRecDepth 100000 in
theorem okX7_logSize : MOK MX7_logSize 0 := ⟨rfl, UU_in 311 rfl rfl, UU_in 41 (by decide +kernel) rfl, ⟨by decide +kernel, by decide +kernel, by decide +kernel⟩, by decide⟩
theorem imX7_logSize : Cond.instanceMethod yX7_logSize ∈ UU := UU_in 309 (by decide +kernel) rfl
theorem seX7_logSize : Cond.selects yX7_logSize.cls yX7_logSize yX7_logSize ∈ UU := UU_in 310 (by decide +kernel) rfl
abbrev MX7_loggedRule : Mth := (yX7_loggedRule, cX7_loggedRule, 2, (some .int), [], 1, 0, fun _ => 0)
set_option maxRecDepth 100000 in
theorem okX7_loggedRule : MOK MX7_loggedRule 1 := ⟨rfl, UU_in 789 rfl rfl, UU_in 41 (by decide +kernel) rfl, ⟨by decide +kernel, by decide +kernel, by decide +kernel⟩, by decide⟩
theorem imX7_loggedRule : Cond.instanceMethod yX7_loggedRule ∈ UU := UU_in 787 (by decide +kernel) rfl
theorem seX7_loggedRule : Cond.selects yX7_loggedRule.cls yX7_loggedRule yX7_loggedRule ∈ UU := UU_in 788 (by decide +kernel) rfl
abbrev MX7_loggedDepth : Mth := (yX7_loggedDepth, cX7_loggedDepth, 2, (some .int), [], 1, 0, fun _ => 0)
set_option maxRecDepth 100000 in
theorem okX7_loggedDepth : MOK MX7_loggedDepth 1 := ⟨rfl, UU_in 802 rfl rfl, UU_in 41 (by decide +kernel) rfl, ⟨by decide +kernel, by decide +kernel, by decide +kernel⟩, by decide⟩
theorem imX7_loggedDepth : Cond.instanceMethod yX7_loggedDepth ∈ UU := UU_in 800 (by decide +kernel) rfl
theorem seX7_loggedDepth : Cond.selects yX7_loggedDepth.cls yX7_loggedDepth yX7_loggedDepth ∈ UU := UU_in 801 (by decide +kernel) rfl
abbrev MX7_canSetOff : Mth := (yX7_canSetOff, cX7_canSetOff, 3, (some .boolean), [], 1, 0, fun _ => 0)
set_option maxRecDepth 100000 in
theorem okX7_canSetOff : MOK MX7_canSetOff 2 := ⟨rfl, UU_in 809 rfl rfl, UU_in 41 (by decide +kernel) rfl, ⟨by decide +kernel, by decide +kernel, by decide +kernel⟩, by decide⟩
theorem imX7_canSetOff : Cond.instanceMethod yX7_canSetOff ∈ UU := UU_in 807 (by decide +kernel) rfl
theorem seX7_canSetOff : Cond.selects yX7_canSetOff.cls yX7_canSetOff yX7_canSetOff ∈ UU := UU_in 808 (by decide +kernel) rfl
abbrev MX7_reachOf : Mth := (yX7_reachOf, cX7_reachOf, 2, (some .int), [], 1, 0, fun _ => 0)
set_option maxRecDepth 100000 in
theorem okX7_reachOf : MOK MX7_reachOf 1 := ⟨rfl, UU_in 817 rfl rfl, UU_in 41 (by decide +kernel) rfl, ⟨by decide +kernel, by decide +kernel, by decide +kernel⟩, by decide⟩
theorem imX7_reachOf : Cond.instanceMethod yX7_reachOf ∈ UU := UU_in 815 (by decide +kernel) rfl
theorem seX7_reachOf : Cond.selects yX7_reachOf.cls yX7_reachOf yX7_reachOf ∈ UU := UU_in 816 (by decide +kernel) rfl
abbrev MX7_reachByTable : Mth := (yX7_reachByTable, cX7_reachByTable, 2, (some .int), [], 1, 0, fun _ => 0)
set_option maxRecDepth 100000 in
theorem okX7_reachByTable : MOK MX7_reachByTable 1 := ⟨rfl, UU_in 828 rfl rfl, UU_in 41 (by decide +kernel) rfl, ⟨by decide +kernel, by decide +kernel, by decide +kernel⟩, by decide⟩
theorem imX7_reachByTable : Cond.instanceMethod yX7_reachByTable ∈ UU := UU_in 826 (by decide +kernel) rfl
theorem seX7_reachByTable : Cond.selects yX7_reachByTable.cls yX7_reachByTable yX7_reachByTable ∈ UU := UU_in 827 (by decide +kernel) rfl
abbrev MX7_circularRules : Mth := (yX7_circularRules, cX7_circularRules, 3, (some .int), [], 0, 0, fun _ => 0)
set_option maxRecDepth 100000 in
theorem okX7_circularRules : MOK MX7_circularRules 0 := ⟨rfl, UU_in 315 rfl rfl, UU_in 41 (by decide +kernel) rfl, ⟨by decide +kernel, by decide +kernel, by decide +kernel⟩, by decide⟩
theorem imX7_circularRules : Cond.instanceMethod yX7_circularRules ∈ UU := UU_in 313 (by decide +kernel) rfl
theorem seX7_circularRules : Cond.selects yX7_circularRules.cls yX7_circularRules yX7_circularRules ∈ UU := UU_in 314 (by decide +kernel) rfl
abbrev MX7_appendText : Mth := (yX7_appendText, cX7_appendText, 5, (some .int), [], 1, 0, fun _ => 0)
set_option maxRecDepth 100000 in
theorem okX7_appendText : MOK MX7_appendText 1 := ⟨rfl, UU_in 835 rfl rfl, UU_in 41 (by decide +kernel) rfl, ⟨by decide +kernel, by decide +kernel, by decide +kernel⟩, by decide⟩
theorem imX7_appendText : Cond.instanceMethod yX7_appendText ∈ UU := UU_in 833 (by decide +kernel) rfl
theorem seX7_appendText : Cond.selects yX7_appendText.cls yX7_appendText yX7_appendText ∈ UU := UU_in 834 (by decide +kernel) rfl
abbrev MX7_clearText : Mth := (yX7_clearText, cX7_clearText, 2, (some .int), [], 0, 0, fun _ => 0)
set_option maxRecDepth 100000 in
theorem okX7_clearText : MOK MX7_clearText 0 := ⟨rfl, UU_in 330 rfl rfl, UU_in 41 (by decide +kernel) rfl, ⟨by decide +kernel, by decide +kernel, by decide +kernel⟩, by decide⟩
theorem imX7_clearText : Cond.instanceMethod yX7_clearText ∈ UU := UU_in 328 (by decide +kernel) rfl
theorem seX7_clearText : Cond.selects yX7_clearText.cls yX7_clearText yX7_clearText ∈ UU := UU_in 329 (by decide +kernel) rfl
abbrev MX7_textLength : Mth := (yX7_textLength, cX7_textLength, 1, (some .int), [], 0, 0, fun _ => 0)
set_option maxRecDepth 100000 in
theorem okX7_textLength : MOK MX7_textLength 0 := ⟨rfl, UU_in 334 rfl rfl, UU_in 41 (by decide +kernel) rfl, ⟨by decide +kernel, by decide +kernel, by decide +kernel⟩, by decide⟩
theorem imX7_textLength : Cond.instanceMethod yX7_textLength ∈ UU := UU_in 332 (by decide +kernel) rfl
theorem seX7_textLength : Cond.selects yX7_textLength.cls yX7_textLength yX7_textLength ∈ UU := UU_in 333 (by decide +kernel) rfl
abbrev MX7_textError : Mth := (yX7_textError, cX7_textError, 1, (some .int), [], 0, 0, fun _ => 0)
set_option maxRecDepth 100000 in
theorem okX7_textError : MOK MX7_textError 0 := ⟨rfl, UU_in 338 rfl rfl, UU_in 41 (by decide +kernel) rfl, ⟨by decide +kernel, by decide +kernel, by decide +kernel⟩, by decide⟩
theorem imX7_textError : Cond.instanceMethod yX7_textError ∈ UU := UU_in 336 (by decide +kernel) rfl
theorem seX7_textError : Cond.selects yX7_textError.cls yX7_textError yX7_textError ∈ UU := UU_in 337 (by decide +kernel) rfl
abbrev MX7_runText : Mth := (yX7_runText, cX7_runText, 2, (some .int), [], 1, 0, fun _ => 0)
set_option maxRecDepth 100000 in
theorem okX7_runText : MOK MX7_runText 0 := ⟨rfl, UU_in 855 rfl rfl, UU_in 41 (by decide +kernel) rfl, ⟨by decide +kernel, by decide +kernel, by decide +kernel⟩, by decide⟩
theorem imX7_runText : Cond.instanceMethod yX7_runText ∈ UU := UU_in 853 (by decide +kernel) rfl
theorem seX7_runText : Cond.selects yX7_runText.cls yX7_runText yX7_runText ∈ UU := UU_in 854 (by decide +kernel) rfl
abbrev MX7_execute : Mth := (yX7_execute, cX7_execute, 2, (some .boolean), [], 0, 0, fun _ => 0)
set_option maxRecDepth 100000 in
theorem okX7_execute : MOK MX7_execute 0 := ⟨rfl, UU_in 861 rfl rfl, UU_in 41 (by decide +kernel) rfl, ⟨by decide +kernel, by decide +kernel, by decide +kernel⟩, by decide⟩
theorem imX7_execute : Cond.instanceMethod yX7_execute ∈ UU := UU_in 860 (by decide +kernel) rfl
theorem seX7_execute : Cond.selects yX7_execute.cls yX7_execute yX7_execute ∈ UU := UU_in 13 (by decide +kernel) rfl
abbrev MX7_codeOf : Mth := (yX7_codeOf, cX7_codeOf, 3, (some .int), [], 0, 0, fun _ => 0)
set_option maxRecDepth 100000 in
theorem okX7_codeOf : MOK MX7_codeOf 2 := ⟨rfl, UU_in 841 rfl rfl, UU_in 41 (by decide +kernel) rfl, ⟨by decide +kernel, by decide +kernel, by decide +kernel⟩, by decide⟩
theorem stX7_codeOf : Cond.static yX7_codeOf ∈ UU := UU_in 840 (by decide +kernel) rfl
abbrev MX7_charactersIn : Mth := (yX7_charactersIn, cX7_charactersIn, 4, (some .int), [], 0, 0, fun _ => 0)
set_option maxRecDepth 100000 in
theorem okX7_charactersIn : MOK MX7_charactersIn 1 := ⟨rfl, UU_in 838 rfl rfl, UU_in 41 (by decide +kernel) rfl, ⟨by decide +kernel, by decide +kernel, by decide +kernel⟩, by decide⟩
theorem stX7_charactersIn : Cond.static yX7_charactersIn ∈ UU := UU_in 837 (by decide +kernel) rfl
abbrev MX7_undo : Mth := (yX7_undo, cX7_undo, 1, (some .int), [], 1, 0, fun _ => 0)
set_option maxRecDepth 100000 in
theorem okX7_undo : MOK MX7_undo 0 := ⟨rfl, UU_in 869 rfl rfl, UU_in 41 (by decide +kernel) rfl, ⟨by decide +kernel, by decide +kernel, by decide +kernel⟩, by decide⟩
theorem imX7_undo : Cond.instanceMethod yX7_undo ∈ UU := UU_in 867 (by decide +kernel) rfl
theorem seX7_undo : Cond.selects yX7_undo.cls yX7_undo yX7_undo ∈ UU := UU_in 868 (by decide +kernel) rfl
abbrev MX7_undoCount : Mth := (yX7_undoCount, cX7_undoCount, 1, (some .int), [], 0, 0, fun _ => 0)
set_option maxRecDepth 100000 in
theorem okX7_undoCount : MOK MX7_undoCount 0 := ⟨rfl, UU_in 422 rfl rfl, UU_in 41 (by decide +kernel) rfl, ⟨by decide +kernel, by decide +kernel, by decide +kernel⟩, by decide⟩
theorem imX7_undoCount : Cond.instanceMethod yX7_undoCount ∈ UU := UU_in 420 (by decide +kernel) rfl
theorem seX7_undoCount : Cond.selects yX7_undoCount.cls yX7_undoCount yX7_undoCount ∈ UU := UU_in 421 (by decide +kernel) rfl
abbrev MX7_saveState : Mth := (yX7_saveState, cX7_saveState, 2, (some .int), [], 1, 0, fun _ => 0)
set_option maxRecDepth 100000 in
theorem okX7_saveState : MOK MX7_saveState 1 := ⟨rfl, UU_in 882 rfl rfl, UU_in 41 (by decide +kernel) rfl, ⟨by decide +kernel, by decide +kernel, by decide +kernel⟩, by decide⟩
theorem imX7_saveState : Cond.instanceMethod yX7_saveState ∈ UU := UU_in 880 (by decide +kernel) rfl
theorem seX7_saveState : Cond.selects yX7_saveState.cls yX7_saveState yX7_saveState ∈ UU := UU_in 881 (by decide +kernel) rfl
abbrev MX7_loadState : Mth := (yX7_loadState, cX7_loadState, 2, (some .int), [], 1, 0, fun _ => 0)
set_option maxRecDepth 100000 in
theorem okX7_loadState : MOK MX7_loadState 1 := ⟨rfl, UU_in 893 rfl rfl, UU_in 41 (by decide +kernel) rfl, ⟨by decide +kernel, by decide +kernel, by decide +kernel⟩, by decide⟩
theorem imX7_loadState : Cond.instanceMethod yX7_loadState ∈ UU := UU_in 891 (by decide +kernel) rfl
theorem seX7_loadState : Cond.selects yX7_loadState.cls yX7_loadState yX7_loadState ∈ UU := UU_in 892 (by decide +kernel) rfl
abbrev MX7_isRow : Mth := (yX7_isRow, cX7_isRow, 1, (some .boolean), [], 0, 0, fun _ => 0)
set_option maxRecDepth 100000 in
theorem okX7_isRow : MOK MX7_isRow 1 := ⟨rfl, UU_in 578 rfl rfl, UU_in 41 (by decide +kernel) rfl, ⟨by decide +kernel, by decide +kernel, by decide +kernel⟩, by decide⟩
theorem stX7_isRow : Cond.static yX7_isRow ∈ UU := UU_in 577 (by decide +kernel) rfl
abbrev MX7_isColumn : Mth := (yX7_isColumn, cX7_isColumn, 1, (some .boolean), [], 0, 0, fun _ => 0)
set_option maxRecDepth 100000 in
theorem okX7_isColumn : MOK MX7_isColumn 1 := ⟨rfl, UU_in 434 rfl rfl, UU_in 41 (by decide +kernel) rfl, ⟨by decide +kernel, by decide +kernel, by decide +kernel⟩, by decide⟩
theorem stX7_isColumn : Cond.static yX7_isColumn ∈ UU := UU_in 433 (by decide +kernel) rfl
abbrev MX7_isValue : Mth := (yX7_isValue, cX7_isValue, 1, (some .boolean), [], 0, 0, fun _ => 0)
set_option maxRecDepth 100000 in
theorem okX7_isValue : MOK MX7_isValue 1 := ⟨rfl, UU_in 437 rfl rfl, UU_in 41 (by decide +kernel) rfl, ⟨by decide +kernel, by decide +kernel, by decide +kernel⟩, by decide⟩
theorem stX7_isValue : Cond.static yX7_isValue ∈ UU := UU_in 436 (by decide +kernel) rfl
abbrev MX7_cell : Mth := (yX7_cell, cX7_cell, 2, (some .int), [], 0, 0, fun _ => 0)
set_option maxRecDepth 100000 in
theorem okX7_cell : MOK MX7_cell 2 := ⟨rfl, UU_in 649 rfl rfl, UU_in 41 (by decide +kernel) rfl, ⟨by decide +kernel, by decide +kernel, by decide +kernel⟩, by decide⟩
theorem stX7_cell : Cond.static yX7_cell ∈ UU := UU_in 648 (by decide +kernel) rfl
abbrev MX7_checkRow : Mth := (yX7_checkRow, cX7_checkRow, 1, none, [], 1, 0, fun _ => 0)
set_option maxRecDepth 100000 in
theorem okX7_checkRow : MOK MX7_checkRow 1 := ⟨rfl, UU_in 631 rfl rfl, UU_in 41 (by decide +kernel) rfl, ⟨by decide +kernel, by decide +kernel, by decide +kernel⟩, by decide⟩
theorem stX7_checkRow : Cond.static yX7_checkRow ∈ UU := UU_in 630 (by decide +kernel) rfl
abbrev MX7_checkColumn : Mth := (yX7_checkColumn, cX7_checkColumn, 1, none, [], 1, 0, fun _ => 0)
set_option maxRecDepth 100000 in
theorem okX7_checkColumn : MOK MX7_checkColumn 1 := ⟨rfl, UU_in 699 rfl rfl, UU_in 41 (by decide +kernel) rfl, ⟨by decide +kernel, by decide +kernel, by decide +kernel⟩, by decide⟩
theorem stX7_checkColumn : Cond.static yX7_checkColumn ∈ UU := UU_in 698 (by decide +kernel) rfl
abbrev MX7_checkValue : Mth := (yX7_checkValue, cX7_checkValue, 1, none, [], 1, 0, fun _ => 0)
set_option maxRecDepth 100000 in
theorem okX7_checkValue : MOK MX7_checkValue 1 := ⟨rfl, UU_in 635 rfl rfl, UU_in 41 (by decide +kernel) rfl, ⟨by decide +kernel, by decide +kernel, by decide +kernel⟩, by decide⟩
theorem stX7_checkValue : Cond.static yX7_checkValue ∈ UU := UU_in 634 (by decide +kernel) rfl
abbrev MX7_checkRule : Mth := (yX7_checkRule, cX7_checkRule, 2, none, [], 1, 0, fun _ => 0)
set_option maxRecDepth 100000 in
theorem okX7_checkRule : MOK MX7_checkRule 1 := ⟨rfl, UU_in 559 rfl rfl, UU_in 41 (by decide +kernel) rfl, ⟨by decide +kernel, by decide +kernel, by decide +kernel⟩, by decide⟩
theorem imX7_checkRule : Cond.instanceMethod yX7_checkRule ∈ UU := UU_in 558 (by decide +kernel) rfl
theorem seX7_checkRule : Cond.selects yX7_checkRule.cls yX7_checkRule yX7_checkRule ∈ UU := UU_in 3 (by decide +kernel) rfl
abbrev MX7_checkAgo : Mth := (yX7_checkAgo, cX7_checkAgo, 2, none, [], 1, 0, fun _ => 0)
set_option maxRecDepth 100000 in
theorem okX7_checkAgo : MOK MX7_checkAgo 1 := ⟨rfl, UU_in 793 rfl rfl, UU_in 41 (by decide +kernel) rfl, ⟨by decide +kernel, by decide +kernel, by decide +kernel⟩, by decide⟩
theorem imX7_checkAgo : Cond.instanceMethod yX7_checkAgo ∈ UU := UU_in 792 (by decide +kernel) rfl
theorem seX7_checkAgo : Cond.selects yX7_checkAgo.cls yX7_checkAgo yX7_checkAgo ∈ UU := UU_in 12 (by decide +kernel) rfl
abbrev MX7_checkSlot : Mth := (yX7_checkSlot, cX7_checkSlot, 1, none, [], 1, 0, fun _ => 0)
set_option maxRecDepth 100000 in
theorem okX7_checkSlot : MOK MX7_checkSlot 1 := ⟨rfl, UU_in 885 rfl rfl, UU_in 41 (by decide +kernel) rfl, ⟨by decide +kernel, by decide +kernel, by decide +kernel⟩, by decide⟩
theorem stX7_checkSlot : Cond.static yX7_checkSlot ∈ UU := UU_in 884 (by decide +kernel) rfl
abbrev MX8_init : Mth := (yX8_init, cX8_init, 1, none, [], 0, 0, fun _ => 0)
set_option maxRecDepth 100000 in
theorem okX8_init : MOK MX8_init 0 := ⟨rfl, UU_in 899 rfl rfl, UU_in 49 (by decide +kernel) rfl, ⟨by decide +kernel, by decide +kernel, by decide +kernel⟩, by decide⟩
theorem imX8_init : Cond.instanceMethod yX8_init ∈ UU := UU_in 898 (by decide +kernel) rfl
abbrev MX8_thrown : Mth := (yX8_thrown, cX8_thrown, 1, (some .int), [], 0, 0, fun _ => 0)
set_option maxRecDepth 100000 in
theorem okX8_thrown : MOK MX8_thrown 0 := ⟨rfl, UU_in 971 rfl rfl, UU_in 49 (by decide +kernel) rfl, ⟨by decide +kernel, by decide +kernel, by decide +kernel⟩, by decide⟩
theorem imX8_thrown : Cond.instanceMethod yX8_thrown ∈ UU := UU_in 969 (by decide +kernel) rfl
theorem seX8_thrown : Cond.selects yX8_thrown.cls yX8_thrown yX8_thrown ∈ UU := UU_in 970 (by decide +kernel) rfl
abbrev MX8_in : Mth := (yX8_in, cX8_in, 3, (some .boolean), [], 0, 0, fun _ => 0)
set_option maxRecDepth 100000 in
theorem okX8_in : MOK MX8_in 3 := ⟨rfl, UU_in 978 rfl rfl, UU_in 49 (by decide +kernel) rfl, ⟨by decide +kernel, by decide +kernel, by decide +kernel⟩, by decide⟩
theorem stX8_in : Cond.static yX8_in ∈ UU := UU_in 977 (by decide +kernel) rfl
abbrev MX8_holds : Mth := (yX8_holds, cX8_holds, 2, (some .boolean), [], 0, 0, fun _ => 0)
set_option maxRecDepth 100000 in
theorem okX8_holds : MOK MX8_holds 1 := ⟨rfl, UU_in 988 rfl rfl, UU_in 49 (by decide +kernel) rfl, ⟨by decide +kernel, by decide +kernel, by decide +kernel⟩, by decide⟩
theorem imX8_holds : Cond.instanceMethod yX8_holds ∈ UU := UU_in 987 (by decide +kernel) rfl
theorem seX8_holds : Cond.selects yX8_holds.cls yX8_holds yX8_holds ∈ UU := UU_in 14 (by decide +kernel) rfl
abbrev MX8_isRow : Mth := (yX8_isRow, cX8_isRow, 1, (some .boolean), [], 0, 0, fun _ => 0)
set_option maxRecDepth 100000 in
theorem okX8_isRow : MOK MX8_isRow 1 := ⟨rfl, UU_in 1011 rfl rfl, UU_in 49 (by decide +kernel) rfl, ⟨by decide +kernel, by decide +kernel, by decide +kernel⟩, by decide⟩
theorem stX8_isRow : Cond.static yX8_isRow ∈ UU := UU_in 1010 (by decide +kernel) rfl
abbrev MX8_isColumn : Mth := (yX8_isColumn, cX8_isColumn, 1, (some .boolean), [], 0, 0, fun _ => 0)
set_option maxRecDepth 100000 in
theorem okX8_isColumn : MOK MX8_isColumn 1 := ⟨rfl, UU_in 981 rfl rfl, UU_in 49 (by decide +kernel) rfl, ⟨by decide +kernel, by decide +kernel, by decide +kernel⟩, by decide⟩
theorem stX8_isColumn : Cond.static yX8_isColumn ∈ UU := UU_in 980 (by decide +kernel) rfl
abbrev MX8_isValue : Mth := (yX8_isValue, cX8_isValue, 1, (some .boolean), [], 0, 0, fun _ => 0)
set_option maxRecDepth 100000 in
theorem okX8_isValue : MOK MX8_isValue 1 := ⟨rfl, UU_in 984 rfl rfl, UU_in 49 (by decide +kernel) rfl, ⟨by decide +kernel, by decide +kernel, by decide +kernel⟩, by decide⟩
theorem stX8_isValue : Cond.static yX8_isValue ∈ UU := UU_in 983 (by decide +kernel) rfl
abbrev MX8_isRule : Mth := (yX8_isRule, cX8_isRule, 2, (some .boolean), [], 0, 0, fun _ => 0)
set_option maxRecDepth 100000 in
theorem okX8_isRule : MOK MX8_isRule 1 := ⟨rfl, UU_in 1008 rfl rfl, UU_in 49 (by decide +kernel) rfl, ⟨by decide +kernel, by decide +kernel, by decide +kernel⟩, by decide⟩
theorem imX8_isRule : Cond.instanceMethod yX8_isRule ∈ UU := UU_in 1007 (by decide +kernel) rfl
theorem seX8_isRule : Cond.selects yX8_isRule.cls yX8_isRule yX8_isRule ∈ UU := UU_in 18 (by decide +kernel) rfl
abbrev MX8_of : Mth := (yX8_of, cX8_of, 2, (some .int), [], 0, 0, fun _ => 0)
set_option maxRecDepth 100000 in
theorem okX8_of : MOK MX8_of 2 := ⟨rfl, UU_in 1038 rfl rfl, UU_in 49 (by decide +kernel) rfl, ⟨by decide +kernel, by decide +kernel, by decide +kernel⟩, by decide⟩
theorem stX8_of : Cond.static yX8_of ∈ UU := UU_in 1037 (by decide +kernel) rfl
abbrev MX8_at : Mth := (yX8_at, cX8_at, 3, (some .int), [], 0, 0, fun _ => 0)
set_option maxRecDepth 100000 in
theorem okX8_at : MOK MX8_at 2 := ⟨rfl, UU_in 1023 rfl rfl, UU_in 49 (by decide +kernel) rfl, ⟨by decide +kernel, by decide +kernel, by decide +kernel⟩, by decide⟩
theorem imX8_at : Cond.instanceMethod yX8_at ∈ UU := UU_in 1022 (by decide +kernel) rfl
theorem seX8_at : Cond.selects yX8_at.cls yX8_at yX8_at ∈ UU := UU_in 19 (by decide +kernel) rfl
abbrev MX8_recordAside : Mth := (yX8_recordAside, cX8_recordAside, 2, none, [], 0, 0, fun _ => 0)
set_option maxRecDepth 100000 in
theorem okX8_recordAside : MOK MX8_recordAside 0 := ⟨rfl, UU_in 1000 rfl rfl, UU_in 49 (by decide +kernel) rfl, ⟨by decide +kernel, by decide +kernel, by decide +kernel⟩, by decide⟩
theorem imX8_recordAside : Cond.instanceMethod yX8_recordAside ∈ UU := UU_in 999 (by decide +kernel) rfl
theorem seX8_recordAside : Cond.selects yX8_recordAside.cls yX8_recordAside yX8_recordAside ∈ UU := UU_in 17 (by decide +kernel) rfl
abbrev MX8_putAside : Mth := (yX8_putAside, cX8_putAside, 2, none, [], 0, 0, fun _ => 0)
set_option maxRecDepth 100000 in
theorem okX8_putAside : MOK MX8_putAside 0 := ⟨rfl, UU_in 996 rfl rfl, UU_in 49 (by decide +kernel) rfl, ⟨by decide +kernel, by decide +kernel, by decide +kernel⟩, by decide⟩
theorem imX8_putAside : Cond.instanceMethod yX8_putAside ∈ UU := UU_in 995 (by decide +kernel) rfl
theorem seX8_putAside : Cond.selects yX8_putAside.cls yX8_putAside yX8_putAside ∈ UU := UU_in 16 (by decide +kernel) rfl
abbrev MX8_putBack : Mth := (yX8_putBack, cX8_putBack, 2, none, [], 0, 0, fun _ => 0)
set_option maxRecDepth 100000 in
theorem okX8_putBack : MOK MX8_putBack 0 := ⟨rfl, UU_in 1066 rfl rfl, UU_in 49 (by decide +kernel) rfl, ⟨by decide +kernel, by decide +kernel, by decide +kernel⟩, by decide⟩
theorem imX8_putBack : Cond.instanceMethod yX8_putBack ∈ UU := UU_in 1065 (by decide +kernel) rfl
theorem seX8_putBack : Cond.selects yX8_putBack.cls yX8_putBack yX8_putBack ∈ UU := UU_in 27 (by decide +kernel) rfl
abbrev MX8_record : Mth := (yX8_record, cX8_record, 1, none, [], 0, 0, fun _ => 0)
set_option maxRecDepth 100000 in
theorem okX8_record : MOK MX8_record 0 := ⟨rfl, UU_in 992 rfl rfl, UU_in 49 (by decide +kernel) rfl, ⟨by decide +kernel, by decide +kernel, by decide +kernel⟩, by decide⟩
theorem imX8_record : Cond.instanceMethod yX8_record ∈ UU := UU_in 991 (by decide +kernel) rfl
theorem seX8_record : Cond.selects yX8_record.cls yX8_record yX8_record ∈ UU := UU_in 15 (by decide +kernel) rfl
abbrev MX8_rowsNow : Mth := (yX8_rowsNow, cX8_rowsNow, 3, (some .int), [], 0, 0, fun _ => 0)
set_option maxRecDepth 100000 in
theorem okX8_rowsNow : MOK MX8_rowsNow 0 := ⟨rfl, UU_in 1110 rfl rfl, UU_in 49 (by decide +kernel) rfl, ⟨by decide +kernel, by decide +kernel, by decide +kernel⟩, by decide⟩
theorem imX8_rowsNow : Cond.instanceMethod yX8_rowsNow ∈ UU := UU_in 1109 (by decide +kernel) rfl
theorem seX8_rowsNow : Cond.selects yX8_rowsNow.cls yX8_rowsNow yX8_rowsNow ∈ UU := UU_in 31 (by decide +kernel) rfl
abbrev MX8_matching : Mth := (yX8_matching, cX8_matching, 11, (some .int), [], 0, 0, fun _ => 0)
set_option maxRecDepth 100000 in
theorem okX8_matching : MOK MX8_matching 5 := ⟨rfl, UU_in 1050 rfl rfl, UU_in 49 (by decide +kernel) rfl, ⟨by decide +kernel, by decide +kernel, by decide +kernel⟩, by decide⟩
theorem imX8_matching : Cond.instanceMethod yX8_matching ∈ UU := UU_in 1049 (by decide +kernel) rfl
theorem seX8_matching : Cond.selects yX8_matching.cls yX8_matching yX8_matching ∈ UU := UU_in 23 (by decide +kernel) rfl
abbrev MX8_begins : Mth := (yX8_begins, cX8_begins, 6, (some .boolean), [], 0, 0, fun _ => 0)
set_option maxRecDepth 100000 in
theorem okX8_begins : MOK MX8_begins 5 := ⟨rfl, UU_in 1046 rfl rfl, UU_in 49 (by decide +kernel) rfl, ⟨by decide +kernel, by decide +kernel, by decide +kernel⟩, by decide⟩
theorem imX8_begins : Cond.instanceMethod yX8_begins ∈ UU := UU_in 1045 (by decide +kernel) rfl
theorem seX8_begins : Cond.selects yX8_begins.cls yX8_begins yX8_begins ∈ UU := UU_in 22 (by decide +kernel) rfl
abbrev MX8_logs : Mth := (yX8_logs, cX8_logs, 4, none, [], 0, 0, fun _ => 0)
set_option maxRecDepth 100000 in
theorem okX8_logs : MOK MX8_logs 1 := ⟨rfl, UU_in 1062 rfl rfl, UU_in 49 (by decide +kernel) rfl, ⟨by decide +kernel, by decide +kernel, by decide +kernel⟩, by decide⟩
theorem imX8_logs : Cond.instanceMethod yX8_logs ∈ UU := UU_in 1061 (by decide +kernel) rfl
theorem seX8_logs : Cond.selects yX8_logs.cls yX8_logs yX8_logs ∈ UU := UU_in 26 (by decide +kernel) rfl
abbrev MX8_acts : Mth := (yX8_acts, cX8_acts, 6, (some .boolean), [], 0, 0, fun _ => 0)
set_option maxRecDepth 100000 in
theorem okX8_acts : MOK MX8_acts 1 := ⟨rfl, UU_in 1058 rfl rfl, UU_in 49 (by decide +kernel) rfl, ⟨by decide +kernel, by decide +kernel, by decide +kernel⟩, by decide⟩
theorem imX8_acts : Cond.instanceMethod yX8_acts ∈ UU := UU_in 1057 (by decide +kernel) rfl
theorem seX8_acts : Cond.selects yX8_acts.cls yX8_acts yX8_acts ∈ UU := UU_in 25 (by decide +kernel) rfl
abbrev MX8_follows : Mth := (yX8_follows, cX8_follows, 2, (some .boolean), [], 0, 0, fun _ => 0)
set_option maxRecDepth 100000 in
theorem okX8_follows : MOK MX8_follows 0 := ⟨rfl, UU_in 1054 rfl rfl, UU_in 49 (by decide +kernel) rfl, ⟨by decide +kernel, by decide +kernel, by decide +kernel⟩, by decide⟩
theorem imX8_follows : Cond.instanceMethod yX8_follows ∈ UU := UU_in 1053 (by decide +kernel) rfl
theorem seX8_follows : Cond.selects yX8_follows.cls yX8_follows yX8_follows ∈ UU := UU_in 24 (by decide +kernel) rfl
abbrev MX8_states : Mth := (yX8_states, cX8_states, 6, (some .boolean), [], 0, 0, fun _ => 0)
set_option maxRecDepth 100000 in
theorem okX8_states : MOK MX8_states 4 := ⟨rfl, UU_in 1042 rfl rfl, UU_in 49 (by decide +kernel) rfl, ⟨by decide +kernel, by decide +kernel, by decide +kernel⟩, by decide⟩
theorem imX8_states : Cond.instanceMethod yX8_states ∈ UU := UU_in 1041 (by decide +kernel) rfl
theorem seX8_states : Cond.selects yX8_states.cls yX8_states yX8_states ∈ UU := UU_in 21 (by decide +kernel) rfl
abbrev MX8_inserts : Mth := (yX8_inserts, cX8_inserts, 5, (some .boolean), [], 0, 0, fun _ => 0)
set_option maxRecDepth 100000 in
theorem okX8_inserts : MOK MX8_inserts 4 := ⟨rfl, UU_in 1035 rfl rfl, UU_in 49 (by decide +kernel) rfl, ⟨by decide +kernel, by decide +kernel, by decide +kernel⟩, by decide⟩
theorem imX8_inserts : Cond.instanceMethod yX8_inserts ∈ UU := UU_in 1034 (by decide +kernel) rfl
theorem seX8_inserts : Cond.selects yX8_inserts.cls yX8_inserts yX8_inserts ∈ UU := UU_in 20 (by decide +kernel) rfl
abbrev MX8_updates : Mth := (yX8_updates, cX8_updates, 4, (some .boolean), [], 0, 0, fun _ => 0)
set_option maxRecDepth 100000 in
theorem okX8_updates : MOK MX8_updates 3 := ⟨rfl, UU_in 1074 rfl rfl, UU_in 49 (by decide +kernel) rfl, ⟨by decide +kernel, by decide +kernel, by decide +kernel⟩, by decide⟩
theorem imX8_updates : Cond.instanceMethod yX8_updates ∈ UU := UU_in 1073 (by decide +kernel) rfl
theorem seX8_updates : Cond.selects yX8_updates.cls yX8_updates yX8_updates ∈ UU := UU_in 28 (by decide +kernel) rfl
abbrev MX8_removes : Mth := (yX8_removes, cX8_removes, 2, (some .boolean), [], 0, 0, fun _ => 0)
set_option maxRecDepth 100000 in
theorem okX8_removes : MOK MX8_removes 1 := ⟨rfl, UU_in 1082 rfl rfl, UU_in 49 (by decide +kernel) rfl, ⟨by decide +kernel, by decide +kernel, by decide +kernel⟩, by decide⟩
theorem imX8_removes : Cond.instanceMethod yX8_removes ∈ UU := UU_in 1081 (by decide +kernel) rfl
theorem seX8_removes : Cond.selects yX8_removes.cls yX8_removes yX8_removes ∈ UU := UU_in 29 (by decide +kernel) rfl
abbrev MX8_addRule : Mth := (yX8_addRule, cX8_addRule, 6, (some .int), [], 0, 0, fun _ => 0)
set_option maxRecDepth 100000 in
theorem okX8_addRule : MOK MX8_addRule 3 := ⟨rfl, UU_in 975 rfl rfl, UU_in 49 (by decide +kernel) rfl, ⟨by decide +kernel, by decide +kernel, by decide +kernel⟩, by decide⟩
theorem imX8_addRule : Cond.instanceMethod yX8_addRule ∈ UU := UU_in 973 (by decide +kernel) rfl
theorem seX8_addRule : Cond.selects yX8_addRule.cls yX8_addRule yX8_addRule ∈ UU := UU_in 974 (by decide +kernel) rfl
abbrev MX8_setAction : Mth := (yX8_setAction, cX8_setAction, 8, (some .int), [], 0, 0, fun _ => 0)
set_option maxRecDepth 100000 in
theorem okX8_setAction : MOK MX8_setAction 5 := ⟨rfl, UU_in 1004 rfl rfl, UU_in 49 (by decide +kernel) rfl, ⟨by decide +kernel, by decide +kernel, by decide +kernel⟩, by decide⟩
theorem imX8_setAction : Cond.instanceMethod yX8_setAction ∈ UU := UU_in 1002 (by decide +kernel) rfl
theorem seX8_setAction : Cond.selects yX8_setAction.cls yX8_setAction yX8_setAction ∈ UU := UU_in 1003 (by decide +kernel) rfl
abbrev MX8_turnMute : Mth := (yX8_turnMute, cX8_turnMute, 3, (some .boolean), [], 0, 0, fun _ => 0)
set_option maxRecDepth 100000 in
theorem okX8_turnMute : MOK MX8_turnMute 1 := ⟨rfl, UU_in 1015 rfl rfl, UU_in 49 (by decide +kernel) rfl, ⟨by decide +kernel, by decide +kernel, by decide +kernel⟩, by decide⟩
theorem imX8_turnMute : Cond.instanceMethod yX8_turnMute ∈ UU := UU_in 1013 (by decide +kernel) rfl
theorem seX8_turnMute : Cond.selects yX8_turnMute.cls yX8_turnMute yX8_turnMute ∈ UU := UU_in 1014 (by decide +kernel) rfl
abbrev MX8_dropRule : Mth := (yX8_dropRule, cX8_dropRule, 6, (some .int), [], 0, 0, fun _ => 0)
set_option maxRecDepth 100000 in
theorem okX8_dropRule : MOK MX8_dropRule 1 := ⟨rfl, UU_in 1019 rfl rfl, UU_in 49 (by decide +kernel) rfl, ⟨by decide +kernel, by decide +kernel, by decide +kernel⟩, by decide⟩
theorem imX8_dropRule : Cond.instanceMethod yX8_dropRule ∈ UU := UU_in 1017 (by decide +kernel) rfl
theorem seX8_dropRule : Cond.selects yX8_dropRule.cls yX8_dropRule yX8_dropRule ∈ UU := UU_in 1018 (by decide +kernel) rfl
abbrev MX8_setDepth : Mth := (yX8_setDepth, cX8_setDepth, 3, (some .int), [], 0, 0, fun _ => 0)
set_option maxRecDepth 100000 in
theorem okX8_setDepth : MOK MX8_setDepth 1 := ⟨rfl, UU_in 1027 rfl rfl, UU_in 49 (by decide +kernel) rfl, ⟨by decide +kernel, by decide +kernel, by decide +kernel⟩, by decide⟩
theorem imX8_setDepth : Cond.instanceMethod yX8_setDepth ∈ UU := UU_in 1025 (by decide +kernel) rfl
theorem seX8_setDepth : Cond.selects yX8_setDepth.cls yX8_setDepth yX8_setDepth ∈ UU := UU_in 1026 (by decide +kernel) rfl
abbrev MX8_insert : Mth := (yX8_insert, cX8_insert, 6, (some .int), [], 0, 0, fun _ => 0)
set_option maxRecDepth 100000 in
theorem okX8_insert : MOK MX8_insert 4 := ⟨rfl, UU_in 1031 rfl rfl, UU_in 49 (by decide +kernel) rfl, ⟨by decide +kernel, by decide +kernel, by decide +kernel⟩, by decide⟩
theorem imX8_insert : Cond.instanceMethod yX8_insert ∈ UU := UU_in 1029 (by decide +kernel) rfl
theorem seX8_insert : Cond.selects yX8_insert.cls yX8_insert yX8_insert ∈ UU := UU_in 1030 (by decide +kernel) rfl
abbrev MX8_update : Mth := (yX8_update, cX8_update, 5, (some .int), [], 0, 0, fun _ => 0)
set_option maxRecDepth 100000 in
theorem okX8_update : MOK MX8_update 3 := ⟨rfl, UU_in 1070 rfl rfl, UU_in 49 (by decide +kernel) rfl, ⟨by decide +kernel, by decide +kernel, by decide +kernel⟩, by decide⟩
theorem imX8_update : Cond.instanceMethod yX8_update ∈ UU := UU_in 1068 (by decide +kernel) rfl
theorem seX8_update : Cond.selects yX8_update.cls yX8_update yX8_update ∈ UU := UU_in 1069 (by decide +kernel) rfl
abbrev MX8_remove : Mth := (yX8_remove, cX8_remove, 2, (some .int), [], 0, 0, fun _ => 0)
set_option maxRecDepth 100000 in
theorem okX8_remove : MOK MX8_remove 1 := ⟨rfl, UU_in 1078 rfl rfl, UU_in 49 (by decide +kernel) rfl, ⟨by decide +kernel, by decide +kernel, by decide +kernel⟩, by decide⟩
theorem imX8_remove : Cond.instanceMethod yX8_remove ∈ UU := UU_in 1076 (by decide +kernel) rfl
theorem seX8_remove : Cond.selects yX8_remove.cls yX8_remove yX8_remove ∈ UU := UU_in 1077 (by decide +kernel) rfl
abbrev MX8_triesUpdate : Mth := (yX8_triesUpdate, cX8_triesUpdate, 5, (some .boolean), [], 0, 0, fun _ => 0)
set_option maxRecDepth 100000 in
theorem okX8_triesUpdate : MOK MX8_triesUpdate 3 := ⟨rfl, UU_in 1090 rfl rfl, UU_in 49 (by decide +kernel) rfl, ⟨by decide +kernel, by decide +kernel, by decide +kernel⟩, by decide⟩
theorem imX8_triesUpdate : Cond.instanceMethod yX8_triesUpdate ∈ UU := UU_in 1089 (by decide +kernel) rfl
theorem seX8_triesUpdate : Cond.selects yX8_triesUpdate.cls yX8_triesUpdate yX8_triesUpdate ∈ UU := UU_in 30 (by decide +kernel) rfl
abbrev MX8_whyNotUpdate : Mth := (yX8_whyNotUpdate, cX8_whyNotUpdate, 4, (some .int), [], 0, 0, fun _ => 0)
set_option maxRecDepth 100000 in
theorem okX8_whyNotUpdate : MOK MX8_whyNotUpdate 3 := ⟨rfl, UU_in 1086 rfl rfl, UU_in 49 (by decide +kernel) rfl, ⟨by decide +kernel, by decide +kernel, by decide +kernel⟩, by decide⟩
theorem imX8_whyNotUpdate : Cond.instanceMethod yX8_whyNotUpdate ∈ UU := UU_in 1084 (by decide +kernel) rfl
theorem seX8_whyNotUpdate : Cond.selects yX8_whyNotUpdate.cls yX8_whyNotUpdate yX8_whyNotUpdate ∈ UU := UU_in 1085 (by decide +kernel) rfl
abbrev MX8_eventsOfUpdate : Mth := (yX8_eventsOfUpdate, cX8_eventsOfUpdate, 4, (some .int), [], 0, 0, fun _ => 0)
set_option maxRecDepth 100000 in
theorem okX8_eventsOfUpdate : MOK MX8_eventsOfUpdate 3 := ⟨rfl, UU_in 1094 rfl rfl, UU_in 49 (by decide +kernel) rfl, ⟨by decide +kernel, by decide +kernel, by decide +kernel⟩, by decide⟩
theorem imX8_eventsOfUpdate : Cond.instanceMethod yX8_eventsOfUpdate ∈ UU := UU_in 1092 (by decide +kernel) rfl
theorem seX8_eventsOfUpdate : Cond.selects yX8_eventsOfUpdate.cls yX8_eventsOfUpdate yX8_eventsOfUpdate ∈ UU := UU_in 1093 (by decide +kernel) rfl
abbrev MX8_depthOfUpdate : Mth := (yX8_depthOfUpdate, cX8_depthOfUpdate, 4, (some .int), [], 0, 0, fun _ => 0)
set_option maxRecDepth 100000 in
theorem okX8_depthOfUpdate : MOK MX8_depthOfUpdate 3 := ⟨rfl, UU_in 1098 rfl rfl, UU_in 49 (by decide +kernel) rfl, ⟨by decide +kernel, by decide +kernel, by decide +kernel⟩, by decide⟩
theorem imX8_depthOfUpdate : Cond.instanceMethod yX8_depthOfUpdate ∈ UU := UU_in 1096 (by decide +kernel) rfl
theorem seX8_depthOfUpdate : Cond.selects yX8_depthOfUpdate.cls yX8_depthOfUpdate yX8_depthOfUpdate ∈ UU := UU_in 1097 (by decide +kernel) rfl
abbrev MX8_hasRow : Mth := (yX8_hasRow, cX8_hasRow, 2, (some .boolean), [], 0, 0, fun _ => 0)
set_option maxRecDepth 100000 in
theorem okX8_hasRow : MOK MX8_hasRow 1 := ⟨rfl, UU_in 1102 rfl rfl, UU_in 49 (by decide +kernel) rfl, ⟨by decide +kernel, by decide +kernel, by decide +kernel⟩, by decide⟩
theorem imX8_hasRow : Cond.instanceMethod yX8_hasRow ∈ UU := UU_in 1100 (by decide +kernel) rfl
theorem seX8_hasRow : Cond.selects yX8_hasRow.cls yX8_hasRow yX8_hasRow ∈ UU := UU_in 1101 (by decide +kernel) rfl
abbrev MX8_rowCount : Mth := (yX8_rowCount, cX8_rowCount, 1, (some .int), [], 0, 0, fun _ => 0)
set_option maxRecDepth 100000 in
theorem okX8_rowCount : MOK MX8_rowCount 0 := ⟨rfl, UU_in 1106 rfl rfl, UU_in 49 (by decide +kernel) rfl, ⟨by decide +kernel, by decide +kernel, by decide +kernel⟩, by decide⟩
theorem imX8_rowCount : Cond.instanceMethod yX8_rowCount ∈ UU := UU_in 1104 (by decide +kernel) rfl
theorem seX8_rowCount : Cond.selects yX8_rowCount.cls yX8_rowCount yX8_rowCount ∈ UU := UU_in 1105 (by decide +kernel) rfl
abbrev MX8_valueAt : Mth := (yX8_valueAt, cX8_valueAt, 3, (some .int), [], 0, 0, fun _ => 0)
set_option maxRecDepth 100000 in
theorem okX8_valueAt : MOK MX8_valueAt 2 := ⟨rfl, UU_in 1114 rfl rfl, UU_in 49 (by decide +kernel) rfl, ⟨by decide +kernel, by decide +kernel, by decide +kernel⟩, by decide⟩
theorem imX8_valueAt : Cond.instanceMethod yX8_valueAt ∈ UU := UU_in 1112 (by decide +kernel) rfl
theorem seX8_valueAt : Cond.selects yX8_valueAt.cls yX8_valueAt yX8_valueAt ∈ UU := UU_in 1113 (by decide +kernel) rfl
abbrev MX8_sumOf : Mth := (yX8_sumOf, cX8_sumOf, 4, (some .int), [], 0, 0, fun _ => 0)
set_option maxRecDepth 100000 in
theorem okX8_sumOf : MOK MX8_sumOf 1 := ⟨rfl, UU_in 1118 rfl rfl, UU_in 49 (by decide +kernel) rfl, ⟨by decide +kernel, by decide +kernel, by decide +kernel⟩, by decide⟩
theorem imX8_sumOf : Cond.instanceMethod yX8_sumOf ∈ UU := UU_in 1116 (by decide +kernel) rfl
theorem seX8_sumOf : Cond.selects yX8_sumOf.cls yX8_sumOf yX8_sumOf ∈ UU := UU_in 1117 (by decide +kernel) rfl
abbrev MX8_ruleCount : Mth := (yX8_ruleCount, cX8_ruleCount, 1, (some .int), [], 0, 0, fun _ => 0)
set_option maxRecDepth 100000 in
theorem okX8_ruleCount : MOK MX8_ruleCount 0 := ⟨rfl, UU_in 1122 rfl rfl, UU_in 49 (by decide +kernel) rfl, ⟨by decide +kernel, by decide +kernel, by decide +kernel⟩, by decide⟩
theorem imX8_ruleCount : Cond.instanceMethod yX8_ruleCount ∈ UU := UU_in 1120 (by decide +kernel) rfl
theorem seX8_ruleCount : Cond.selects yX8_ruleCount.cls yX8_ruleCount yX8_ruleCount ∈ UU := UU_in 1121 (by decide +kernel) rfl
abbrev MX8_actionOf : Mth := (yX8_actionOf, cX8_actionOf, 2, (some .int), [], 0, 0, fun _ => 0)
set_option maxRecDepth 100000 in
theorem okX8_actionOf : MOK MX8_actionOf 1 := ⟨rfl, UU_in 1126 rfl rfl, UU_in 49 (by decide +kernel) rfl, ⟨by decide +kernel, by decide +kernel, by decide +kernel⟩, by decide⟩
theorem imX8_actionOf : Cond.instanceMethod yX8_actionOf ∈ UU := UU_in 1124 (by decide +kernel) rfl
theorem seX8_actionOf : Cond.selects yX8_actionOf.cls yX8_actionOf yX8_actionOf ∈ UU := UU_in 1125 (by decide +kernel) rfl
abbrev MX8_isMuted : Mth := (yX8_isMuted, cX8_isMuted, 2, (some .boolean), [], 0, 0, fun _ => 0)
set_option maxRecDepth 100000 in
theorem okX8_isMuted : MOK MX8_isMuted 1 := ⟨rfl, UU_in 1130 rfl rfl, UU_in 49 (by decide +kernel) rfl, ⟨by decide +kernel, by decide +kernel, by decide +kernel⟩, by decide⟩
theorem imX8_isMuted : Cond.instanceMethod yX8_isMuted ∈ UU := UU_in 1128 (by decide +kernel) rfl
theorem seX8_isMuted : Cond.selects yX8_isMuted.cls yX8_isMuted yX8_isMuted ∈ UU := UU_in 1129 (by decide +kernel) rfl
abbrev MX8_actsOf : Mth := (yX8_actsOf, cX8_actsOf, 2, (some .int), [], 0, 0, fun _ => 0)
set_option maxRecDepth 100000 in
theorem okX8_actsOf : MOK MX8_actsOf 1 := ⟨rfl, UU_in 1134 rfl rfl, UU_in 49 (by decide +kernel) rfl, ⟨by decide +kernel, by decide +kernel, by decide +kernel⟩, by decide⟩
theorem imX8_actsOf : Cond.instanceMethod yX8_actsOf ∈ UU := UU_in 1132 (by decide +kernel) rfl
theorem seX8_actsOf : Cond.selects yX8_actsOf.cls yX8_actsOf yX8_actsOf ∈ UU := UU_in 1133 (by decide +kernel) rfl
abbrev MX8_eventCount : Mth := (yX8_eventCount, cX8_eventCount, 1, (some .int), [], 0, 0, fun _ => 0)
set_option maxRecDepth 100000 in
theorem okX8_eventCount : MOK MX8_eventCount 0 := ⟨rfl, UU_in 1138 rfl rfl, UU_in 49 (by decide +kernel) rfl, ⟨by decide +kernel, by decide +kernel, by decide +kernel⟩, by decide⟩
theorem imX8_eventCount : Cond.instanceMethod yX8_eventCount ∈ UU := UU_in 1136 (by decide +kernel) rfl
theorem seX8_eventCount : Cond.selects yX8_eventCount.cls yX8_eventCount yX8_eventCount ∈ UU := UU_in 1137 (by decide +kernel) rfl
abbrev MX8_logSize : Mth := (yX8_logSize, cX8_logSize, 1, (some .int), [], 0, 0, fun _ => 0)
set_option maxRecDepth 100000 in
theorem okX8_logSize : MOK MX8_logSize 0 := ⟨rfl, UU_in 1142 rfl rfl, UU_in 49 (by decide +kernel) rfl, ⟨by decide +kernel, by decide +kernel, by decide +kernel⟩, by decide⟩
theorem imX8_logSize : Cond.instanceMethod yX8_logSize ∈ UU := UU_in 1140 (by decide +kernel) rfl
theorem seX8_logSize : Cond.selects yX8_logSize.cls yX8_logSize yX8_logSize ∈ UU := UU_in 1141 (by decide +kernel) rfl
abbrev MX8_loggedRule : Mth := (yX8_loggedRule, cX8_loggedRule, 2, (some .int), [], 0, 0, fun _ => 0)
set_option maxRecDepth 100000 in
theorem okX8_loggedRule : MOK MX8_loggedRule 1 := ⟨rfl, UU_in 1146 rfl rfl, UU_in 49 (by decide +kernel) rfl, ⟨by decide +kernel, by decide +kernel, by decide +kernel⟩, by decide⟩
theorem imX8_loggedRule : Cond.instanceMethod yX8_loggedRule ∈ UU := UU_in 1144 (by decide +kernel) rfl
theorem seX8_loggedRule : Cond.selects yX8_loggedRule.cls yX8_loggedRule yX8_loggedRule ∈ UU := UU_in 1145 (by decide +kernel) rfl
abbrev MX8_loggedDepth : Mth := (yX8_loggedDepth, cX8_loggedDepth, 2, (some .int), [], 0, 0, fun _ => 0)
set_option maxRecDepth 100000 in
theorem okX8_loggedDepth : MOK MX8_loggedDepth 1 := ⟨rfl, UU_in 1150 rfl rfl, UU_in 49 (by decide +kernel) rfl, ⟨by decide +kernel, by decide +kernel, by decide +kernel⟩, by decide⟩
theorem imX8_loggedDepth : Cond.instanceMethod yX8_loggedDepth ∈ UU := UU_in 1148 (by decide +kernel) rfl
theorem seX8_loggedDepth : Cond.selects yX8_loggedDepth.cls yX8_loggedDepth yX8_loggedDepth ∈ UU := UU_in 1149 (by decide +kernel) rfl
abbrev MX8_setsOff : Mth := (yX8_setsOff, cX8_setsOff, 5, (some .boolean), [], 0, 0, fun _ => 0)
set_option maxRecDepth 100000 in
theorem okX8_setsOff : MOK MX8_setsOff 2 := ⟨rfl, UU_in 1158 rfl rfl, UU_in 49 (by decide +kernel) rfl, ⟨by decide +kernel, by decide +kernel, by decide +kernel⟩, by decide⟩
theorem imX8_setsOff : Cond.instanceMethod yX8_setsOff ∈ UU := UU_in 1157 (by decide +kernel) rfl
theorem seX8_setsOff : Cond.selects yX8_setsOff.cls yX8_setsOff yX8_setsOff ∈ UU := UU_in 32 (by decide +kernel) rfl
abbrev MX8_straight : Mth := (yX8_straight, cX8_straight, 4, (some .int), [], 0, 0, fun _ => 0)
set_option maxRecDepth 100000 in
theorem okX8_straight : MOK MX8_straight 1 := ⟨rfl, UU_in 1170 rfl rfl, UU_in 49 (by decide +kernel) rfl, ⟨by decide +kernel, by decide +kernel, by decide +kernel⟩, by decide⟩
theorem imX8_straight : Cond.instanceMethod yX8_straight ∈ UU := UU_in 1169 (by decide +kernel) rfl
theorem seX8_straight : Cond.selects yX8_straight.cls yX8_straight yX8_straight ∈ UU := UU_in 34 (by decide +kernel) rfl
abbrev MX8_reach : Mth := (yX8_reach, cX8_reach, 6, (some .int), [], 0, 0, fun _ => 0)
set_option maxRecDepth 100000 in
theorem okX8_reach : MOK MX8_reach 1 := ⟨rfl, UU_in 1166 rfl rfl, UU_in 49 (by decide +kernel) rfl, ⟨by decide +kernel, by decide +kernel, by decide +kernel⟩, by decide⟩
theorem imX8_reach : Cond.instanceMethod yX8_reach ∈ UU := UU_in 1165 (by decide +kernel) rfl
theorem seX8_reach : Cond.selects yX8_reach.cls yX8_reach yX8_reach ∈ UU := UU_in 33 (by decide +kernel) rfl
abbrev MX8_canSetOff : Mth := (yX8_canSetOff, cX8_canSetOff, 3, (some .boolean), [], 0, 0, fun _ => 0)
set_option maxRecDepth 100000 in
theorem okX8_canSetOff : MOK MX8_canSetOff 2 := ⟨rfl, UU_in 1154 rfl rfl, UU_in 49 (by decide +kernel) rfl, ⟨by decide +kernel, by decide +kernel, by decide +kernel⟩, by decide⟩
theorem imX8_canSetOff : Cond.instanceMethod yX8_canSetOff ∈ UU := UU_in 1152 (by decide +kernel) rfl
theorem seX8_canSetOff : Cond.selects yX8_canSetOff.cls yX8_canSetOff yX8_canSetOff ∈ UU := UU_in 1153 (by decide +kernel) rfl
abbrev MX8_reachOf : Mth := (yX8_reachOf, cX8_reachOf, 2, (some .int), [], 0, 0, fun _ => 0)
set_option maxRecDepth 100000 in
theorem okX8_reachOf : MOK MX8_reachOf 1 := ⟨rfl, UU_in 1162 rfl rfl, UU_in 49 (by decide +kernel) rfl, ⟨by decide +kernel, by decide +kernel, by decide +kernel⟩, by decide⟩
theorem imX8_reachOf : Cond.instanceMethod yX8_reachOf ∈ UU := UU_in 1160 (by decide +kernel) rfl
theorem seX8_reachOf : Cond.selects yX8_reachOf.cls yX8_reachOf yX8_reachOf ∈ UU := UU_in 1161 (by decide +kernel) rfl
abbrev MX8_reachByTable : Mth := (yX8_reachByTable, cX8_reachByTable, 2, (some .int), [], 0, 0, fun _ => 0)
set_option maxRecDepth 100000 in
theorem okX8_reachByTable : MOK MX8_reachByTable 1 := ⟨rfl, UU_in 1174 rfl rfl, UU_in 49 (by decide +kernel) rfl, ⟨by decide +kernel, by decide +kernel, by decide +kernel⟩, by decide⟩
theorem imX8_reachByTable : Cond.instanceMethod yX8_reachByTable ∈ UU := UU_in 1172 (by decide +kernel) rfl
theorem seX8_reachByTable : Cond.selects yX8_reachByTable.cls yX8_reachByTable yX8_reachByTable ∈ UU := UU_in 1173 (by decide +kernel) rfl
abbrev MX8_circularRules : Mth := (yX8_circularRules, cX8_circularRules, 3, (some .int), [], 0, 0, fun _ => 0)
set_option maxRecDepth 100000 in
theorem okX8_circularRules : MOK MX8_circularRules 0 := ⟨rfl, UU_in 1179 rfl rfl, UU_in 49 (by decide +kernel) rfl, ⟨by decide +kernel, by decide +kernel, by decide +kernel⟩, by decide⟩
theorem imX8_circularRules : Cond.instanceMethod yX8_circularRules ∈ UU := UU_in 1177 (by decide +kernel) rfl
theorem seX8_circularRules : Cond.selects yX8_circularRules.cls yX8_circularRules yX8_circularRules ∈ UU := UU_in 1178 (by decide +kernel) rfl
abbrev MX8_appendText : Mth := (yX8_appendText, cX8_appendText, 7, (some .int), [], 0, 0, fun _ => 0)
set_option maxRecDepth 100000 in
theorem okX8_appendText : MOK MX8_appendText 1 := ⟨rfl, UU_in 1183 rfl rfl, UU_in 49 (by decide +kernel) rfl, ⟨by decide +kernel, by decide +kernel, by decide +kernel⟩, by decide⟩
theorem imX8_appendText : Cond.instanceMethod yX8_appendText ∈ UU := UU_in 1181 (by decide +kernel) rfl
theorem seX8_appendText : Cond.selects yX8_appendText.cls yX8_appendText yX8_appendText ∈ UU := UU_in 1182 (by decide +kernel) rfl
abbrev MX8_clearText : Mth := (yX8_clearText, cX8_clearText, 2, (some .int), [], 0, 0, fun _ => 0)
set_option maxRecDepth 100000 in
theorem okX8_clearText : MOK MX8_clearText 0 := ⟨rfl, UU_in 1188 rfl rfl, UU_in 49 (by decide +kernel) rfl, ⟨by decide +kernel, by decide +kernel, by decide +kernel⟩, by decide⟩
theorem imX8_clearText : Cond.instanceMethod yX8_clearText ∈ UU := UU_in 1186 (by decide +kernel) rfl
theorem seX8_clearText : Cond.selects yX8_clearText.cls yX8_clearText yX8_clearText ∈ UU := UU_in 1187 (by decide +kernel) rfl
abbrev MX8_textLength : Mth := (yX8_textLength, cX8_textLength, 1, (some .int), [], 0, 0, fun _ => 0)
set_option maxRecDepth 100000 in
theorem okX8_textLength : MOK MX8_textLength 0 := ⟨rfl, UU_in 1192 rfl rfl, UU_in 49 (by decide +kernel) rfl, ⟨by decide +kernel, by decide +kernel, by decide +kernel⟩, by decide⟩
theorem imX8_textLength : Cond.instanceMethod yX8_textLength ∈ UU := UU_in 1190 (by decide +kernel) rfl
theorem seX8_textLength : Cond.selects yX8_textLength.cls yX8_textLength yX8_textLength ∈ UU := UU_in 1191 (by decide +kernel) rfl
abbrev MX8_takes : Mth := (yX8_takes, cX8_takes, 5, (some .int), [], 0, 0, fun _ => 0)
set_option maxRecDepth 100000 in
theorem okX8_takes : MOK MX8_takes 2 := ⟨rfl, UU_in 1208 rfl rfl, UU_in 49 (by decide +kernel) rfl, ⟨by decide +kernel, by decide +kernel, by decide +kernel⟩, by decide⟩
theorem imX8_takes : Cond.instanceMethod yX8_takes ∈ UU := UU_in 1207 (by decide +kernel) rfl
theorem seX8_takes : Cond.selects yX8_takes.cls yX8_takes yX8_takes ∈ UU := UU_in 37 (by decide +kernel) rfl
abbrev MX8_number : Mth := (yX8_number, cX8_number, 2, (some .int), [], 0, 0, fun _ => 0)
set_option maxRecDepth 100000 in
theorem okX8_number : MOK MX8_number 0 := ⟨rfl, UU_in 1212 rfl rfl, UU_in 49 (by decide +kernel) rfl, ⟨by decide +kernel, by decide +kernel, by decide +kernel⟩, by decide⟩
theorem imX8_number : Cond.instanceMethod yX8_number ∈ UU := UU_in 1211 (by decide +kernel) rfl
theorem seX8_number : Cond.selects yX8_number.cls yX8_number yX8_number ∈ UU := UU_in 38 (by decide +kernel) rfl
abbrev MX8_readCommand : Mth := (yX8_readCommand, cX8_readCommand, 2, none, [], 0, 0, fun _ => 0)
set_option maxRecDepth 100000 in
theorem okX8_readCommand : MOK MX8_readCommand 0 := ⟨rfl, UU_in 1204 rfl rfl, UU_in 49 (by decide +kernel) rfl, ⟨by decide +kernel, by decide +kernel, by decide +kernel⟩, by decide⟩
theorem imX8_readCommand : Cond.instanceMethod yX8_readCommand ∈ UU := UU_in 1203 (by decide +kernel) rfl
theorem seX8_readCommand : Cond.selects yX8_readCommand.cls yX8_readCommand yX8_readCommand ∈ UU := UU_in 36 (by decide +kernel) rfl
abbrev MX8_does : Mth := (yX8_does, cX8_does, 1, (some .boolean), [], 0, 0, fun _ => 0)
set_option maxRecDepth 100000 in
theorem okX8_does : MOK MX8_does 0 := ⟨rfl, UU_in 1216 rfl rfl, UU_in 49 (by decide +kernel) rfl, ⟨by decide +kernel, by decide +kernel, by decide +kernel⟩, by decide⟩
theorem imX8_does : Cond.instanceMethod yX8_does ∈ UU := UU_in 1215 (by decide +kernel) rfl
theorem seX8_does : Cond.selects yX8_does.cls yX8_does yX8_does ∈ UU := UU_in 39 (by decide +kernel) rfl
abbrev MX8_goesThrough : Mth := (yX8_goesThrough, cX8_goesThrough, 5, none, [], 0, 0, fun _ => 0)
set_option maxRecDepth 100000 in
theorem okX8_goesThrough : MOK MX8_goesThrough 1 := ⟨rfl, UU_in 1200 rfl rfl, UU_in 49 (by decide +kernel) rfl, ⟨by decide +kernel, by decide +kernel, by decide +kernel⟩, by decide⟩
theorem imX8_goesThrough : Cond.instanceMethod yX8_goesThrough ∈ UU := UU_in 1199 (by decide +kernel) rfl
theorem seX8_goesThrough : Cond.selects yX8_goesThrough.cls yX8_goesThrough yX8_goesThrough ∈ UU := UU_in 35 (by decide +kernel) rfl
abbrev MX8_textError : Mth := (yX8_textError, cX8_textError, 1, (some .int), [], 0, 0, fun _ => 0)
set_option maxRecDepth 100000 in
theorem okX8_textError : MOK MX8_textError 0 := ⟨rfl, UU_in 1196 rfl rfl, UU_in 49 (by decide +kernel) rfl, ⟨by decide +kernel, by decide +kernel, by decide +kernel⟩, by decide⟩
theorem imX8_textError : Cond.instanceMethod yX8_textError ∈ UU := UU_in 1194 (by decide +kernel) rfl
theorem seX8_textError : Cond.selects yX8_textError.cls yX8_textError yX8_textError ∈ UU := UU_in 1195 (by decide +kernel) rfl
abbrev MX8_runText : Mth := (yX8_runText, cX8_runText, 1, (some .int), [], 0, 0, fun _ => 0)
set_option maxRecDepth 100000 in
theorem okX8_runText : MOK MX8_runText 0 := ⟨rfl, UU_in 1220 rfl rfl, UU_in 49 (by decide +kernel) rfl, ⟨by decide +kernel, by decide +kernel, by decide +kernel⟩, by decide⟩
theorem imX8_runText : Cond.instanceMethod yX8_runText ∈ UU := UU_in 1218 (by decide +kernel) rfl
theorem seX8_runText : Cond.selects yX8_runText.cls yX8_runText yX8_runText ∈ UU := UU_in 1219 (by decide +kernel) rfl
abbrev MX8_undo : Mth := (yX8_undo, cX8_undo, 2, (some .int), [], 0, 0, fun _ => 0)
set_option maxRecDepth 100000 in
theorem okX8_undo : MOK MX8_undo 0 := ⟨rfl, UU_in 1224 rfl rfl, UU_in 49 (by decide +kernel) rfl, ⟨by decide +kernel, by decide +kernel, by decide +kernel⟩, by decide⟩
theorem imX8_undo : Cond.instanceMethod yX8_undo ∈ UU := UU_in 1222 (by decide +kernel) rfl
theorem seX8_undo : Cond.selects yX8_undo.cls yX8_undo yX8_undo ∈ UU := UU_in 1223 (by decide +kernel) rfl
abbrev MX8_undoCount : Mth := (yX8_undoCount, cX8_undoCount, 1, (some .int), [], 0, 0, fun _ => 0)
set_option maxRecDepth 100000 in
theorem okX8_undoCount : MOK MX8_undoCount 0 := ⟨rfl, UU_in 1228 rfl rfl, UU_in 49 (by decide +kernel) rfl, ⟨by decide +kernel, by decide +kernel, by decide +kernel⟩, by decide⟩
theorem imX8_undoCount : Cond.instanceMethod yX8_undoCount ∈ UU := UU_in 1226 (by decide +kernel) rfl
theorem seX8_undoCount : Cond.selects yX8_undoCount.cls yX8_undoCount yX8_undoCount ∈ UU := UU_in 1227 (by decide +kernel) rfl
abbrev MX8_saveState : Mth := (yX8_saveState, cX8_saveState, 3, (some .int), [], 0, 0, fun _ => 0)
set_option maxRecDepth 100000 in
theorem okX8_saveState : MOK MX8_saveState 1 := ⟨rfl, UU_in 1232 rfl rfl, UU_in 49 (by decide +kernel) rfl, ⟨by decide +kernel, by decide +kernel, by decide +kernel⟩, by decide⟩
theorem imX8_saveState : Cond.instanceMethod yX8_saveState ∈ UU := UU_in 1230 (by decide +kernel) rfl
theorem seX8_saveState : Cond.selects yX8_saveState.cls yX8_saveState yX8_saveState ∈ UU := UU_in 1231 (by decide +kernel) rfl
abbrev MX8_loadState : Mth := (yX8_loadState, cX8_loadState, 3, (some .int), [], 0, 0, fun _ => 0)
set_option maxRecDepth 100000 in
theorem okX8_loadState : MOK MX8_loadState 1 := ⟨rfl, UU_in 1236 rfl rfl, UU_in 49 (by decide +kernel) rfl, ⟨by decide +kernel, by decide +kernel, by decide +kernel⟩, by decide⟩
theorem imX8_loadState : Cond.instanceMethod yX8_loadState ∈ UU := UU_in 1234 (by decide +kernel) rfl
theorem seX8_loadState : Cond.selects yX8_loadState.cls yX8_loadState yX8_loadState ∈ UU := UU_in 1235 (by decide +kernel) rfl
abbrev MJ9_floorMod_7cf53 : Mth := (yJ9_floorMod_7cf53, cJ9_floorMod_7cf53, 3, (some .int), [], 0, 0, fun _ => 0)
set_option maxRecDepth 100000 in
theorem okJ9_floorMod_7cf53 : MOK MJ9_floorMod_7cf53 2 := ⟨rfl, UU_in 608 rfl rfl, UU_in 56 (by decide +kernel) rfl, ⟨by decide +kernel, by decide +kernel, by decide +kernel⟩, by decide⟩
theorem stJ9_floorMod_7cf53 : Cond.static yJ9_floorMod_7cf53 ∈ UU := UU_in 607 (by decide +kernel) rfl
abbrev MJ0_length_8abf5 : Mth := (yJ0_length_8abf5, cJ0_length_8abf5, 1, (some .int), [], 0, 0, fun _ => 0)
set_option maxRecDepth 100000 in
theorem okJ0_length_8abf5 : MOK MJ0_length_8abf5 0 := ⟨rfl, UU_in 361 rfl rfl, UU_in 58 (by decide +kernel) rfl, ⟨by decide +kernel, by decide +kernel, by decide +kernel⟩, by decide⟩
theorem imJ0_length_8abf5 : Cond.instanceMethod yJ0_length_8abf5 ∈ UU := UU_in 359 (by decide +kernel) rfl
theorem seJ0_length_8abf5 : Cond.selects yJ0_length_8abf5.cls yJ0_length_8abf5 yJ0_length_8abf5 ∈ UU := UU_in 360 (by decide +kernel) rfl
abbrev MJ0_isEmpty_aae02 : Mth := (yJ0_isEmpty_aae02, cJ0_isEmpty_aae02, 1, (some .boolean), [], 0, 0, fun _ => 0)
set_option maxRecDepth 100000 in
theorem okJ0_isEmpty_aae02 : MOK MJ0_isEmpty_aae02 0 := ⟨rfl, UU_in 357 rfl rfl, UU_in 58 (by decide +kernel) rfl, ⟨by decide +kernel, by decide +kernel, by decide +kernel⟩, by decide⟩
theorem imJ0_isEmpty_aae02 : Cond.instanceMethod yJ0_isEmpty_aae02 ∈ UU := UU_in 355 (by decide +kernel) rfl
theorem seJ0_isEmpty_aae02 : Cond.selects yJ0_isEmpty_aae02.cls yJ0_isEmpty_aae02 yJ0_isEmpty_aae02 ∈ UU := UU_in 356 (by decide +kernel) rfl
abbrev MJ0_charAt_5068e : Mth := (yJ0_charAt_5068e, cJ0_charAt_5068e, 2, (some .char), [], 0, 0, fun _ => 0)
set_option maxRecDepth 100000 in
theorem okJ0_charAt_5068e : MOK MJ0_charAt_5068e 1 := ⟨rfl, UU_in 371 rfl rfl, UU_in 58 (by decide +kernel) rfl, ⟨by decide +kernel, by decide +kernel, by decide +kernel⟩, by decide⟩
theorem imJ0_charAt_5068e : Cond.instanceMethod yJ0_charAt_5068e ∈ UU := UU_in 369 (by decide +kernel) rfl
theorem seJ0_charAt_5068e : Cond.selects yJ0_charAt_5068e.cls yJ0_charAt_5068e yJ0_charAt_5068e ∈ UU := UU_in 370 (by decide +kernel) rfl
abbrev MJ0_coder_7d493 : Mth := (yJ0_coder_7d493, cJ0_coder_7d493, 1, (some .byte), [], 0, 0, fun _ => 0)
set_option maxRecDepth 100000 in
theorem okJ0_coder_7d493 : MOK MJ0_coder_7d493 0 := ⟨rfl, UU_in 365 rfl rfl, UU_in 58 (by decide +kernel) rfl, ⟨by decide +kernel, by decide +kernel, by decide +kernel⟩, by decide⟩
theorem imJ0_coder_7d493 : Cond.instanceMethod yJ0_coder_7d493 ∈ UU := UU_in 363 (by decide +kernel) rfl
theorem seJ0_coder_7d493 : Cond.selects yJ0_coder_7d493.cls yJ0_coder_7d493 yJ0_coder_7d493 ∈ UU := UU_in 364 (by decide +kernel) rfl
abbrev MJ0_isLatin1_aae02 : Mth := (yJ0_isLatin1_aae02, cJ0_isLatin1_aae02, 1, (some .boolean), [], 0, 0, fun _ => 0)
set_option maxRecDepth 100000 in
theorem okJ0_isLatin1_aae02 : MOK MJ0_isLatin1_aae02 0 := ⟨rfl, UU_in 375 rfl rfl, UU_in 58 (by decide +kernel) rfl, ⟨by decide +kernel, by decide +kernel, by decide +kernel⟩, by decide⟩
theorem imJ0_isLatin1_aae02 : Cond.instanceMethod yJ0_isLatin1_aae02 ∈ UU := UU_in 373 (by decide +kernel) rfl
theorem seJ0_isLatin1_aae02 : Cond.selects yJ0_isLatin1_aae02.cls yJ0_isLatin1_aae02 yJ0_isLatin1_aae02 ∈ UU := UU_in 374 (by decide +kernel) rfl
abbrev MJ0_checkIndex_df160 : Mth := (yJ0_checkIndex_df160, cJ0_checkIndex_df160, 2, none, [], 0, 0, fun _ => 0)
set_option maxRecDepth 100000 in
theorem okJ0_checkIndex_df160 : MOK MJ0_checkIndex_df160 2 := ⟨rfl, UU_in 381 rfl rfl, UU_in 58 (by decide +kernel) rfl, ⟨by decide +kernel, by decide +kernel, by decide +kernel⟩, by decide⟩
theorem stJ0_checkIndex_df160 : Cond.static yJ0_checkIndex_df160 ∈ UU := UU_in 380 (by decide +kernel) rfl
abbrev MJ1_charAt_3b067 : Mth := (yJ1_charAt_3b067, cJ1_charAt_3b067, 2, (some .char), [], 0, 0, fun _ => 0)
set_option maxRecDepth 100000 in
theorem okJ1_charAt_3b067 : MOK MJ1_charAt_3b067 2 := ⟨rfl, UU_in 378 rfl rfl, UU_in 59 (by decide +kernel) rfl, ⟨by decide +kernel, by decide +kernel, by decide +kernel⟩, by decide⟩
theorem stJ1_charAt_3b067 : Cond.static yJ1_charAt_3b067 ∈ UU := UU_in 377 (by decide +kernel) rfl
abbrev MJ2_getChar_3b067 : Mth := (yJ2_getChar_3b067, cJ2_getChar_3b067, 2, (some .char), [], 0, 0, fun _ => 0)
set_option maxRecDepth 100000 in
theorem okJ2_getChar_3b067 : MOK MJ2_getChar_3b067 2 := ⟨rfl, UU_in 399 rfl rfl, UU_in 61 (by decide +kernel) rfl, ⟨by decide +kernel, by decide +kernel, by decide +kernel⟩, by decide⟩
theorem stJ2_getChar_3b067 : Cond.static yJ2_getChar_3b067 ∈ UU := UU_in 398 (by decide +kernel) rfl
abbrev MJ2_length_9d52b : Mth := (yJ2_length_9d52b, cJ2_length_9d52b, 1, (some .int), [], 0, 0, fun _ => 0)
set_option maxRecDepth 100000 in
theorem okJ2_length_9d52b : MOK MJ2_length_9d52b 1 := ⟨rfl, UU_in 395 rfl rfl, UU_in 61 (by decide +kernel) rfl, ⟨by decide +kernel, by decide +kernel, by decide +kernel⟩, by decide⟩
theorem stJ2_length_9d52b : Cond.static yJ2_length_9d52b ∈ UU := UU_in 394 (by decide +kernel) rfl
abbrev MJ2_charAt_3b067 : Mth := (yJ2_charAt_3b067, cJ2_charAt_3b067, 2, (some .char), [], 0, 0, fun _ => 0)
set_option maxRecDepth 100000 in
theorem okJ2_charAt_3b067 : MOK MJ2_charAt_3b067 2 := ⟨rfl, UU_in 389 rfl rfl, UU_in 61 (by decide +kernel) rfl, ⟨by decide +kernel, by decide +kernel, by decide +kernel⟩, by decide⟩
theorem stJ2_charAt_3b067 : Cond.static yJ2_charAt_3b067 ∈ UU := UU_in 388 (by decide +kernel) rfl
abbrev MJ2_checkIndex_2214a : Mth := (yJ2_checkIndex_2214a, cJ2_checkIndex_2214a, 2, none, [], 0, 0, fun _ => 0)
set_option maxRecDepth 100000 in
theorem okJ2_checkIndex_2214a : MOK MJ2_checkIndex_2214a 2 := ⟨rfl, UU_in 392 rfl rfl, UU_in 61 (by decide +kernel) rfl, ⟨by decide +kernel, by decide +kernel, by decide +kernel⟩, by decide⟩
theorem stJ2_checkIndex_2214a : Cond.static yJ2_checkIndex_2214a ∈ UU := UU_in 391 (by decide +kernel) rfl
abbrev MJ3_checkIndex_8e157 : Mth := (yJ3_checkIndex_8e157, cJ3_checkIndex_8e157, 3, (some .int), [], 0, 0, fun _ => 0)
set_option maxRecDepth 100000 in
theorem okJ3_checkIndex_8e157 : MOK MJ3_checkIndex_8e157 3 := ⟨rfl, UU_in 386 rfl rfl, UU_in 60 (by decide +kernel) rfl, ⟨by decide +kernel, by decide +kernel, by decide +kernel⟩, by decide⟩
theorem stJ3_checkIndex_8e157 : Cond.static yJ3_checkIndex_8e157 ∈ UU := UU_in 385 (by decide +kernel) rfl
abbrev ML_addRule : Mth := (yL_addRule, cL_addRule, 6, (some .int), [((0), (12), (15), (13)), ((0), (12), (19), (15))], 0, 0, fun _ => 0)
set_option maxRecDepth 100000 in
theorem cwL_addRule : Cond.codeWith (mY ML_addRule) (mC ML_addRule) (mL ML_addRule) (mR ML_addRule) (mH ML_addRule) ∈ UU := UU_in 425 rfl rfl
theorem stL_addRule : Cond.static yL_addRule ∈ UU := UU_in 424 (by decide +kernel) rfl
abbrev ML_setAction : Mth := (yL_setAction, cL_setAction, 8, (some .int), [((0), (16), (19), (21)), ((0), (16), (23), (13))], 0, 0, fun _ => 0)
set_option maxRecDepth 100000 in
theorem cwL_setAction : Cond.codeWith (mY ML_setAction) (mC ML_setAction) (mL ML_setAction) (mR ML_setAction) (mH ML_setAction) ∈ UU := UU_in 550 rfl rfl
theorem stL_setAction : Cond.static yL_setAction ∈ UU := UU_in 549 (by decide +kernel) rfl
abbrev ML_turnMute : Mth := (yL_turnMute, cL_turnMute, 4, (some .int), [((0), (16), (19), (21))], 0, 0, fun _ => 0)
set_option maxRecDepth 100000 in
theorem cwL_turnMute : Cond.codeWith (mY ML_turnMute) (mC ML_turnMute) (mL ML_turnMute) (mR ML_turnMute) (mH ML_turnMute) ∈ UU := UU_in 582 rfl rfl
theorem stL_turnMute : Cond.static yL_turnMute ∈ UU := UU_in 581 (by decide +kernel) rfl
abbrev ML_dropRule : Mth := (yL_dropRule, cL_dropRule, 4, (some .int), [((0), (9), (12), (21))], 0, 0, fun _ => 0)
set_option maxRecDepth 100000 in
theorem cwL_dropRule : Cond.codeWith (mY ML_dropRule) (mC ML_dropRule) (mL ML_dropRule) (mR ML_dropRule) (mH ML_dropRule) ∈ UU := UU_in 589 rfl rfl
theorem stL_dropRule : Cond.static yL_dropRule ∈ UU := UU_in 588 (by decide +kernel) rfl
abbrev ML_setDepth : Mth := (yL_setDepth, cL_setDepth, 4, (some .int), [((0), (9), (12), (13))], 0, 0, fun _ => 0)
set_option maxRecDepth 100000 in
theorem cwL_setDepth : Cond.codeWith (mY ML_setDepth) (mC ML_setDepth) (mL ML_setDepth) (mR ML_setDepth) (mH ML_setDepth) ∈ UU := UU_in 616 rfl rfl
theorem stL_setDepth : Cond.static yL_setDepth ∈ UU := UU_in 615 (by decide +kernel) rfl
abbrev ML_insert : Mth := (yL_insert, cL_insert, 7, (some .int), [((0), (14), (17), (21)), ((0), (14), (21), (13)), ((0), (14), (25), (15))], 0, 0, fun _ => 0)
set_option maxRecDepth 100000 in
theorem cwL_insert : Cond.codeWith (mY ML_insert) (mC ML_insert) (mL ML_insert) (mR ML_insert) (mH ML_insert) ∈ UU := UU_in 624 rfl rfl
theorem stL_insert : Cond.static yL_insert ∈ UU := UU_in 623 (by decide +kernel) rfl
abbrev ML_update : Mth := (yL_update, cL_update, 6, (some .int), [((0), (12), (15), (21)), ((0), (12), (19), (13)), ((0), (12), (23), (15))], 0, 0, fun _ => 0)
set_option maxRecDepth 100000 in
theorem cwL_update : Cond.codeWith (mY ML_update) (mC ML_update) (mL ML_update) (mR ML_update) (mH ML_update) ∈ UU := UU_in 688 rfl rfl
theorem stL_update : Cond.static yL_update ∈ UU := UU_in 687 (by decide +kernel) rfl
abbrev ML_remove : Mth := (yL_remove, cL_remove, 4, (some .int), [((0), (9), (12), (21)), ((0), (9), (15), (15))], 0, 0, fun _ => 0)
set_option maxRecDepth 100000 in
theorem cwL_remove : Cond.codeWith (mY ML_remove) (mC ML_remove) (mL ML_remove) (mR ML_remove) (mH ML_remove) ∈ UU := UU_in 708 rfl rfl
theorem stL_remove : Cond.static yL_remove ∈ UU := UU_in 707 (by decide +kernel) rfl
abbrev ML_whyNotUpdate : Mth := (yL_whyNotUpdate, cL_whyNotUpdate, 6, (some .int), [((0), (12), (15), (21)), ((0), (12), (19), (13))], 0, 0, fun _ => 0)
set_option maxRecDepth 100000 in
theorem cwL_whyNotUpdate : Cond.codeWith (mY ML_whyNotUpdate) (mC ML_whyNotUpdate) (mL ML_whyNotUpdate) (mR ML_whyNotUpdate) (mH ML_whyNotUpdate) ∈ UU := UU_in 719 rfl rfl
theorem stL_whyNotUpdate : Cond.static yL_whyNotUpdate ∈ UU := UU_in 718 (by decide +kernel) rfl
abbrev ML_eventsOfUpdate : Mth := (yL_eventsOfUpdate, cL_eventsOfUpdate, 6, (some .int), [((0), (12), (15), (21)), ((0), (12), (19), (13))], 0, 0, fun _ => 0)
set_option maxRecDepth 100000 in
theorem cwL_eventsOfUpdate : Cond.codeWith (mY ML_eventsOfUpdate) (mC ML_eventsOfUpdate) (mL ML_eventsOfUpdate) (mR ML_eventsOfUpdate) (mH ML_eventsOfUpdate) ∈ UU := UU_in 726 rfl rfl
theorem stL_eventsOfUpdate : Cond.static yL_eventsOfUpdate ∈ UU := UU_in 725 (by decide +kernel) rfl
abbrev ML_depthOfUpdate : Mth := (yL_depthOfUpdate, cL_depthOfUpdate, 6, (some .int), [((0), (12), (15), (21)), ((0), (12), (19), (13))], 0, 0, fun _ => 0)
set_option maxRecDepth 100000 in
theorem cwL_depthOfUpdate : Cond.codeWith (mY ML_depthOfUpdate) (mC ML_depthOfUpdate) (mL ML_depthOfUpdate) (mR ML_depthOfUpdate) (mH ML_depthOfUpdate) ∈ UU := UU_in 733 rfl rfl
theorem stL_depthOfUpdate : Cond.static yL_depthOfUpdate ∈ UU := UU_in 732 (by decide +kernel) rfl
abbrev ML_hasRow : Mth := (yL_hasRow, cL_hasRow, 4, (some .int), [((0), (16), (19), (21))], 0, 0, fun _ => 0)
set_option maxRecDepth 100000 in
theorem cwL_hasRow : Cond.codeWith (mY ML_hasRow) (mC ML_hasRow) (mL ML_hasRow) (mR ML_hasRow) (mH ML_hasRow) ∈ UU := UU_in 740 rfl rfl
theorem stL_hasRow : Cond.static yL_hasRow ∈ UU := UU_in 739 (by decide +kernel) rfl
abbrev ML_valueAt : Mth := (yL_valueAt, cL_valueAt, 5, (some .int), [((0), (10), (13), (21)), ((0), (10), (17), (15))], 0, 0, fun _ => 0)
set_option maxRecDepth 100000 in
theorem cwL_valueAt : Cond.codeWith (mY ML_valueAt) (mC ML_valueAt) (mL ML_valueAt) (mR ML_valueAt) (mH ML_valueAt) ∈ UU := UU_in 748 rfl rfl
theorem stL_valueAt : Cond.static yL_valueAt ∈ UU := UU_in 747 (by decide +kernel) rfl
abbrev ML_sumOf : Mth := (yL_sumOf, cL_sumOf, 4, (some .int), [((0), (9), (12), (21))], 0, 0, fun _ => 0)
set_option maxRecDepth 100000 in
theorem cwL_sumOf : Cond.codeWith (mY ML_sumOf) (mC ML_sumOf) (mL ML_sumOf) (mR ML_sumOf) (mH ML_sumOf) ∈ UU := UU_in 757 rfl rfl
theorem stL_sumOf : Cond.static yL_sumOf ∈ UU := UU_in 756 (by decide +kernel) rfl
abbrev ML_actionOf : Mth := (yL_actionOf, cL_actionOf, 4, (some .int), [((0), (9), (12), (21))], 0, 0, fun _ => 0)
set_option maxRecDepth 100000 in
theorem cwL_actionOf : Cond.codeWith (mY ML_actionOf) (mC ML_actionOf) (mL ML_actionOf) (mR ML_actionOf) (mH ML_actionOf) ∈ UU := UU_in 764 rfl rfl
theorem stL_actionOf : Cond.static yL_actionOf ∈ UU := UU_in 763 (by decide +kernel) rfl
abbrev ML_isMuted : Mth := (yL_isMuted, cL_isMuted, 4, (some .int), [((0), (16), (19), (21))], 0, 0, fun _ => 0)
set_option maxRecDepth 100000 in
theorem cwL_isMuted : Cond.codeWith (mY ML_isMuted) (mC ML_isMuted) (mL ML_isMuted) (mR ML_isMuted) (mH ML_isMuted) ∈ UU := UU_in 771 rfl rfl
theorem stL_isMuted : Cond.static yL_isMuted ∈ UU := UU_in 770 (by decide +kernel) rfl
abbrev ML_actsOf : Mth := (yL_actsOf, cL_actsOf, 4, (some .int), [((0), (9), (12), (21))], 0, 0, fun _ => 0)
set_option maxRecDepth 100000 in
theorem cwL_actsOf : Cond.codeWith (mY ML_actsOf) (mC ML_actsOf) (mL ML_actsOf) (mR ML_actsOf) (mH ML_actsOf) ∈ UU := UU_in 778 rfl rfl
theorem stL_actsOf : Cond.static yL_actsOf ∈ UU := UU_in 777 (by decide +kernel) rfl
abbrev ML_loggedRule : Mth := (yL_loggedRule, cL_loggedRule, 4, (some .int), [((0), (9), (12), (21))], 0, 0, fun _ => 0)
set_option maxRecDepth 100000 in
theorem cwL_loggedRule : Cond.codeWith (mY ML_loggedRule) (mC ML_loggedRule) (mL ML_loggedRule) (mR ML_loggedRule) (mH ML_loggedRule) ∈ UU := UU_in 785 rfl rfl
theorem stL_loggedRule : Cond.static yL_loggedRule ∈ UU := UU_in 784 (by decide +kernel) rfl
abbrev ML_loggedDepth : Mth := (yL_loggedDepth, cL_loggedDepth, 4, (some .int), [((0), (9), (12), (21))], 0, 0, fun _ => 0)
set_option maxRecDepth 100000 in
theorem cwL_loggedDepth : Cond.codeWith (mY ML_loggedDepth) (mC ML_loggedDepth) (mL ML_loggedDepth) (mR ML_loggedDepth) (mH ML_loggedDepth) ∈ UU := UU_in 798 rfl rfl
theorem stL_loggedDepth : Cond.static yL_loggedDepth ∈ UU := UU_in 797 (by decide +kernel) rfl
abbrev ML_canSetOff : Mth := (yL_canSetOff, cL_canSetOff, 5, (some .int), [((0), (17), (20), (21))], 0, 0, fun _ => 0)
set_option maxRecDepth 100000 in
theorem cwL_canSetOff : Cond.codeWith (mY ML_canSetOff) (mC ML_canSetOff) (mL ML_canSetOff) (mR ML_canSetOff) (mH ML_canSetOff) ∈ UU := UU_in 805 rfl rfl
theorem stL_canSetOff : Cond.static yL_canSetOff ∈ UU := UU_in 804 (by decide +kernel) rfl
abbrev ML_reachOf : Mth := (yL_reachOf, cL_reachOf, 4, (some .int), [((0), (9), (12), (21))], 0, 0, fun _ => 0)
set_option maxRecDepth 100000 in
theorem cwL_reachOf : Cond.codeWith (mY ML_reachOf) (mC ML_reachOf) (mL ML_reachOf) (mR ML_reachOf) (mH ML_reachOf) ∈ UU := UU_in 813 rfl rfl
theorem stL_reachOf : Cond.static yL_reachOf ∈ UU := UU_in 812 (by decide +kernel) rfl
abbrev ML_reachByTable : Mth := (yL_reachByTable, cL_reachByTable, 4, (some .int), [((0), (9), (12), (21))], 0, 0, fun _ => 0)
set_option maxRecDepth 100000 in
theorem cwL_reachByTable : Cond.codeWith (mY ML_reachByTable) (mC ML_reachByTable) (mL ML_reachByTable) (mR ML_reachByTable) (mH ML_reachByTable) ∈ UU := UU_in 824 rfl rfl
theorem stL_reachByTable : Cond.static yL_reachByTable ∈ UU := UU_in 823 (by decide +kernel) rfl
abbrev ML_appendText : Mth := (yL_appendText, cL_appendText, 5, (some .int), [((0), (9), (12), (13)), ((0), (9), (16), (15))], 0, 0, fun _ => 0)
set_option maxRecDepth 100000 in
theorem cwL_appendText : Cond.codeWith (mY ML_appendText) (mC ML_appendText) (mL ML_appendText) (mR ML_appendText) (mH ML_appendText) ∈ UU := UU_in 831 rfl rfl
theorem stL_appendText : Cond.static yL_appendText ∈ UU := UU_in 830 (by decide +kernel) rfl
abbrev ML_runText : Mth := (yL_runText, cL_runText, 3, (some .int), [((0), (8), (11), (15))], 0, 0, fun _ => 0)
set_option maxRecDepth 100000 in
theorem cwL_runText : Cond.codeWith (mY ML_runText) (mC ML_runText) (mL ML_runText) (mR ML_runText) (mH ML_runText) ∈ UU := UU_in 851 rfl rfl
theorem stL_runText : Cond.static yL_runText ∈ UU := UU_in 850 (by decide +kernel) rfl
abbrev ML_undo : Mth := (yL_undo, cL_undo, 3, (some .int), [((0), (8), (11), (15))], 0, 0, fun _ => 0)
set_option maxRecDepth 100000 in
theorem cwL_undo : Cond.codeWith (mY ML_undo) (mC ML_undo) (mL ML_undo) (mR ML_undo) (mH ML_undo) ∈ UU := UU_in 865 rfl rfl
theorem stL_undo : Cond.static yL_undo ∈ UU := UU_in 864 (by decide +kernel) rfl
abbrev ML_saveState : Mth := (yL_saveState, cL_saveState, 4, (some .int), [((0), (9), (12), (21))], 0, 0, fun _ => 0)
set_option maxRecDepth 100000 in
theorem cwL_saveState : Cond.codeWith (mY ML_saveState) (mC ML_saveState) (mL ML_saveState) (mR ML_saveState) (mH ML_saveState) ∈ UU := UU_in 878 rfl rfl
theorem stL_saveState : Cond.static yL_saveState ∈ UU := UU_in 877 (by decide +kernel) rfl
abbrev ML_loadState : Mth := (yL_loadState, cL_loadState, 4, (some .int), [((0), (9), (12), (21)), ((0), (9), (15), (15))], 0, 0, fun _ => 0)
set_option maxRecDepth 100000 in
theorem cwL_loadState : Cond.codeWith (mY ML_loadState) (mC ML_loadState) (mL ML_loadState) (mR ML_loadState) (mH ML_loadState) ∈ UU := UU_in 889 rfl rfl
theorem stL_loadState : Cond.static yL_loadState ∈ UU := UU_in 888 (by decide +kernel) rfl
theorem okObj : Cond.instanceMethod objectInit ∈ UU := UU_in 68 (by decide +kernel) rfl
set_option maxRecDepth 100000 in
theorem coObj : Cond.code objectInit ⟨#[0xb1]⟩ 1 none ∈ UU := UU_in 69 rfl rfl
theorem st_max : Cond.static Lib.Math.max.name ∈ UU := UU_in 667 (by decide +kernel) rfl
set_option maxRecDepth 100000 in
theorem co_max : Cond.code Lib.Math.max.name Lib.Math.max.code 2 (some .int) ∈ UU := UU_in 668 rfl rfl
theorem st_min : Cond.static Lib.Math.min.name ∈ UU := UU_in 542 (by decide +kernel) rfl
set_option maxRecDepth 100000 in
theorem co_min : Cond.code Lib.Math.min.name Lib.Math.min.code 2 (some .int) ∈ UU := UU_in 543 rfl rfl
theorem in_Math : Cond.initialized "java/lang/Math" ∈ UU := UU_in 56 (by decide +kernel) rfl
theorem in_Sys : Cond.initialized "java/lang/System" ∈ UU := UU_in 55 (by decide +kernel) rfl
theorem na_copy : Cond.native arraycopyName ∈ UU := UU_in 531 (by decide +kernel) rfl
theorem st_copy : Cond.static arraycopyName ∈ UU := UU_in 530 (by decide +kernel) rfl
theorem ckL_8 : Cond.classLink RL 8 "RowTriggers" ∈ UU := UU_in 62 (by decide +kernel) rfl
theorem itX7 : Cond.instantiable RX7 7 ∈ UU := UU_in 63 (by decide +kernel) rfl
theorem iiX7 : Cond.initialized RX7 ∈ UU := UU_in 41 (by decide +kernel) rfl
theorem mkL_105 : Cond.methodLink RL 105 yX7_init ∈ UU := UU_in 64 (by decide +kernel) rfl
theorem mkX7_1 : Cond.methodLink RX7 1 objectInit ∈ UU := UU_in 67 (by decide +kernel) rfl
theorem ckX7_7 : Cond.classLink RX7 7 "RowTriggers$State" ∈ UU := UU_in 70 (by decide +kernel) rfl
theorem itX4 : Cond.instantiable RX4 7 ∈ UU := UU_in 71 (by decide +kernel) rfl
theorem iiX4 : Cond.initialized RX4 ∈ UU := UU_in 42 (by decide +kernel) rfl
theorem mkX7_9 : Cond.methodLink RX7 9 yX4_init ∈ UU := UU_in 72 (by decide +kernel) rfl
theorem mkX4_3 : Cond.methodLink RX4 3 objectInit ∈ UU := UU_in 75 (by decide +kernel) rfl
theorem ckX4_19 : Cond.classLink RX4 19 "RowTriggers$Rule" ∈ UU := UU_in 76 (by decide +kernel) rfl
theorem ckX4_25 : Cond.classLink RX4 25 "RowTriggers$Log" ∈ UU := UU_in 78 (by decide +kernel) rfl
theorem itX2 : Cond.instantiable RX2 4 ∈ UU := UU_in 79 (by decide +kernel) rfl
theorem iiX2 : Cond.initialized RX2 ∈ UU := UU_in 43 (by decide +kernel) rfl
theorem mkX4_27 : Cond.methodLinkNest RX4 27 yX2_init "RowTriggers" ∈ UN := UN_in 80 (by decide +kernel) rfl
theorem mkX2_3 : Cond.methodLink RX2 3 objectInit ∈ UU := UU_in 83 (by decide +kernel) rfl
theorem fkX2_9 : Cond.fieldLink RX2 9 "RowTriggers$Log" "rules" "[I" ∈ UU := UU_in 84 (by decide +kernel) rfl
theorem fkX7_199 : Cond.fieldLink RX7 199 "RowTriggers$Log" "rules" "[I" ∈ UU := UU_in 85 (by decide +kernel) rfl
theorem fkX2_15 : Cond.fieldLink RX2 15 "RowTriggers$Log" "depths" "[I" ∈ UU := UU_in 86 (by decide +kernel) rfl
theorem fkX7_205 : Cond.fieldLink RX7 205 "RowTriggers$Log" "depths" "[I" ∈ UU := UU_in 87 (by decide +kernel) rfl
theorem fkX2_24 : Cond.fieldLink RX2 24 "RowTriggers$Log" "size" "I" ∈ UU := UU_in 88 (by decide +kernel) rfl
theorem fkX7_191 : Cond.fieldLink RX7 191 "RowTriggers$Log" "size" "I" ∈ UU := UU_in 89 (by decide +kernel) rfl
theorem fkX2_28 : Cond.fieldLink RX2 28 "RowTriggers$Log" "latest" "I" ∈ UU := UU_in 90 (by decide +kernel) rfl
theorem ac_boolean : Cond.arrayClass .boolean ∈ UU := UU_in 100 (by decide +kernel) rfl
theorem ac_int : Cond.arrayClass .int ∈ UU := UU_in 101 (by decide +kernel) rfl
theorem itX3 : Cond.instantiable RX3 9 ∈ UU := UU_in 102 (by decide +kernel) rfl
theorem iiX3 : Cond.initialized RX3 ∈ UU := UU_in 44 (by decide +kernel) rfl
theorem mkX4_36 : Cond.methodLinkNest RX4 36 yX3_init "RowTriggers" ∈ UN := UN_in 103 (by decide +kernel) rfl
theorem mkX3_3 : Cond.methodLink RX3 3 objectInit ∈ UU := UU_in 106 (by decide +kernel) rfl
theorem fkX3_9 : Cond.fieldLink RX3 9 "RowTriggers$Rule" "event" "I" ∈ UU := UU_in 107 (by decide +kernel) rfl
theorem fkX5_125 : Cond.fieldLink RX5 125 "RowTriggers$Rule" "event" "I" ∈ UU := UU_in 108 (by decide +kernel) rfl
theorem fkX3_15 : Cond.fieldLink RX3 15 "RowTriggers$Rule" "column" "I" ∈ UU := UU_in 109 (by decide +kernel) rfl
theorem fkX5_128 : Cond.fieldLink RX5 128 "RowTriggers$Rule" "column" "I" ∈ UU := UU_in 110 (by decide +kernel) rfl
theorem fkX3_18 : Cond.fieldLink RX3 18 "RowTriggers$Rule" "least" "I" ∈ UU := UU_in 111 (by decide +kernel) rfl
theorem fkX5_131 : Cond.fieldLink RX5 131 "RowTriggers$Rule" "least" "I" ∈ UU := UU_in 112 (by decide +kernel) rfl
theorem fkX3_21 : Cond.fieldLink RX3 21 "RowTriggers$Rule" "action" "I" ∈ UU := UU_in 113 (by decide +kernel) rfl
theorem fkX7_98 : Cond.fieldLink RX7 98 "RowTriggers$Rule" "action" "I" ∈ UU := UU_in 114 (by decide +kernel) rfl
theorem fkX5_109 : Cond.fieldLink RX5 109 "RowTriggers$Rule" "action" "I" ∈ UU := UU_in 115 (by decide +kernel) rfl
theorem fkX3_24 : Cond.fieldLink RX3 24 "RowTriggers$Rule" "targetRow" "I" ∈ UU := UU_in 116 (by decide +kernel) rfl
theorem fkX7_101 : Cond.fieldLink RX7 101 "RowTriggers$Rule" "targetRow" "I" ∈ UU := UU_in 117 (by decide +kernel) rfl
theorem fkX5_106 : Cond.fieldLink RX5 106 "RowTriggers$Rule" "targetRow" "I" ∈ UU := UU_in 118 (by decide +kernel) rfl
theorem fkX3_27 : Cond.fieldLink RX3 27 "RowTriggers$Rule" "targetColumn" "I" ∈ UU := UU_in 119 (by decide +kernel) rfl
theorem fkX7_104 : Cond.fieldLink RX7 104 "RowTriggers$Rule" "targetColumn" "I" ∈ UU := UU_in 120 (by decide +kernel) rfl
theorem fkX5_112 : Cond.fieldLink RX5 112 "RowTriggers$Rule" "targetColumn" "I" ∈ UU := UU_in 121 (by decide +kernel) rfl
theorem fkX3_30 : Cond.fieldLink RX3 30 "RowTriggers$Rule" "amount" "I" ∈ UU := UU_in 122 (by decide +kernel) rfl
theorem fkX7_107 : Cond.fieldLink RX7 107 "RowTriggers$Rule" "amount" "I" ∈ UU := UU_in 123 (by decide +kernel) rfl
theorem fkX5_115 : Cond.fieldLink RX5 115 "RowTriggers$Rule" "amount" "I" ∈ UU := UU_in 124 (by decide +kernel) rfl
theorem fkX3_33 : Cond.fieldLink RX3 33 "RowTriggers$Rule" "muted" "Z" ∈ UU := UU_in 125 (by decide +kernel) rfl
theorem fkX7_110 : Cond.fieldLink RX7 110 "RowTriggers$Rule" "muted" "Z" ∈ UU := UU_in 126 (by decide +kernel) rfl
theorem fkX5_121 : Cond.fieldLink RX5 121 "RowTriggers$Rule" "muted" "Z" ∈ UU := UU_in 127 (by decide +kernel) rfl
theorem fkX3_37 : Cond.fieldLink RX3 37 "RowTriggers$Rule" "acts" "I" ∈ UU := UU_in 128 (by decide +kernel) rfl
theorem fkX7_114 : Cond.fieldLink RX7 114 "RowTriggers$Rule" "acts" "I" ∈ UU := UU_in 129 (by decide +kernel) rfl
theorem fkX5_92 : Cond.fieldLink RX5 92 "RowTriggers$Rule" "acts" "I" ∈ UU := UU_in 130 (by decide +kernel) rfl
theorem fkX4_9 : Cond.fieldLink RX4 9 "RowTriggers$State" "there" "[Z" ∈ UU := UU_in 150 (by decide +kernel) rfl
theorem fkX5_39 : Cond.fieldLink RX5 39 "RowTriggers$State" "there" "[Z" ∈ UU := UU_in 151 (by decide +kernel) rfl
theorem fkX4_15 : Cond.fieldLink RX4 15 "RowTriggers$State" "values" "[I" ∈ UU := UU_in 152 (by decide +kernel) rfl
theorem fkX5_43 : Cond.fieldLink RX5 43 "RowTriggers$State" "values" "[I" ∈ UU := UU_in 153 (by decide +kernel) rfl
theorem fkX7_178 : Cond.fieldLink RX7 178 "RowTriggers$State" "values" "[I" ∈ UU := UU_in 154 (by decide +kernel) rfl
theorem fkX4_21 : Cond.fieldLink RX4 21 "RowTriggers$State" "rules" "[LRowTriggers$Rule;" ∈ UU := UU_in 155 (by decide +kernel) rfl
theorem fkX0_21 : Cond.fieldLink RX0 21 "RowTriggers$State" "rules" "[LRowTriggers$Rule;" ∈ UU := UU_in 156 (by decide +kernel) rfl
theorem fkX7_79 : Cond.fieldLink RX7 79 "RowTriggers$State" "rules" "[LRowTriggers$Rule;" ∈ UU := UU_in 157 (by decide +kernel) rfl
theorem fkX5_88 : Cond.fieldLink RX5 88 "RowTriggers$State" "rules" "[LRowTriggers$Rule;" ∈ UU := UU_in 158 (by decide +kernel) rfl
theorem fkX4_28 : Cond.fieldLink RX4 28 "RowTriggers$State" "log" "LRowTriggers$Log;" ∈ UU := UU_in 159 (by decide +kernel) rfl
theorem fkX5_97 : Cond.fieldLink RX5 97 "RowTriggers$State" "log" "LRowTriggers$Log;" ∈ UU := UU_in 160 (by decide +kernel) rfl
theorem fkX7_187 : Cond.fieldLink RX7 187 "RowTriggers$State" "log" "LRowTriggers$Log;" ∈ UU := UU_in 161 (by decide +kernel) rfl
theorem fkX0_15 : Cond.fieldLink RX0 15 "RowTriggers$State" "rulesUsed" "I" ∈ UU := UU_in 162 (by decide +kernel) rfl
theorem fkX7_66 : Cond.fieldLink RX7 66 "RowTriggers$State" "rulesUsed" "I" ∈ UU := UU_in 163 (by decide +kernel) rfl
theorem fkX4_43 : Cond.fieldLink RX4 43 "RowTriggers$State" "rulesUsed" "I" ∈ UU := UU_in 164 (by decide +kernel) rfl
theorem fkX5_81 : Cond.fieldLink RX5 81 "RowTriggers$State" "rulesUsed" "I" ∈ UU := UU_in 165 (by decide +kernel) rfl
theorem fkX4_32 : Cond.fieldLink RX4 32 "RowTriggers$State" "depth" "I" ∈ UU := UU_in 166 (by decide +kernel) rfl
theorem fkX5_61 : Cond.fieldLink RX5 61 "RowTriggers$State" "depth" "I" ∈ UU := UU_in 167 (by decide +kernel) rfl
theorem fkX7_122 : Cond.fieldLink RX7 122 "RowTriggers$State" "depth" "I" ∈ UU := UU_in 168 (by decide +kernel) rfl
theorem fkX4_53 : Cond.fieldLink RX4 53 "RowTriggers$State" "events" "I" ∈ UU := UU_in 169 (by decide +kernel) rfl
theorem fkX5_75 : Cond.fieldLink RX5 75 "RowTriggers$State" "events" "I" ∈ UU := UU_in 170 (by decide +kernel) rfl
theorem fkX7_186 : Cond.fieldLink RX7 186 "RowTriggers$State" "events" "I" ∈ UU := UU_in 171 (by decide +kernel) rfl
theorem ckX7_16 : Cond.classLink RX7 16 "RowTriggers$Statement" ∈ UU := UU_in 187 (by decide +kernel) rfl
theorem itX5 : Cond.instantiable RX5 4 ∈ UU := UU_in 188 (by decide +kernel) rfl
theorem iiX5 : Cond.initialized RX5 ∈ UU := UU_in 45 (by decide +kernel) rfl
theorem mkX7_18 : Cond.methodLinkNest RX7 18 yX5_init "RowTriggers" ∈ UN := UN_in 189 (by decide +kernel) rfl
theorem mkX5_3 : Cond.methodLink RX5 3 objectInit ∈ UU := UU_in 192 (by decide +kernel) rfl
theorem ckX5_9 : Cond.classLink RX5 9 "RowTriggers$State" ∈ UU := UU_in 193 (by decide +kernel) rfl
theorem mkX5_11 : Cond.methodLink RX5 11 yX4_init ∈ UU := UU_in 194 (by decide +kernel) rfl
theorem fkX5_12 : Cond.fieldLink RX5 12 "RowTriggers$Statement" "state" "LRowTriggers$State;" ∈ UU := UU_in 195 (by decide +kernel) rfl
theorem fkX7_164 : Cond.fieldLink RX7 164 "RowTriggers$Statement" "state" "LRowTriggers$State;" ∈ UU := UU_in 196 (by decide +kernel) rfl
theorem fkX5_22 : Cond.fieldLink RX5 22 "RowTriggers$Statement" "events" "I" ∈ UU := UU_in 197 (by decide +kernel) rfl
theorem fkX7_149 : Cond.fieldLink RX7 149 "RowTriggers$Statement" "events" "I" ∈ UU := UU_in 198 (by decide +kernel) rfl
theorem fkX5_26 : Cond.fieldLink RX5 26 "RowTriggers$Statement" "deepest" "I" ∈ UU := UU_in 199 (by decide +kernel) rfl
theorem fkX7_152 : Cond.fieldLink RX7 152 "RowTriggers$Statement" "deepest" "I" ∈ UU := UU_in 200 (by decide +kernel) rfl
theorem fkX5_29 : Cond.fieldLink RX5 29 "RowTriggers$Statement" "refusal" "I" ∈ UU := UU_in 201 (by decide +kernel) rfl
theorem fkX7_146 : Cond.fieldLink RX7 146 "RowTriggers$Statement" "refusal" "I" ∈ UU := UU_in 202 (by decide +kernel) rfl
theorem ckX7_23 : Cond.classLink RX7 23 "RowTriggers$Chains" ∈ UU := UU_in 212 (by decide +kernel) rfl
theorem itX0 : Cond.instantiable RX0 1 ∈ UU := UU_in 213 (by decide +kernel) rfl
theorem iiX0 : Cond.initialized RX0 ∈ UU := UU_in 46 (by decide +kernel) rfl
theorem mkX7_25 : Cond.methodLinkNest RX7 25 yX0_init "RowTriggers" ∈ UN := UN_in 214 (by decide +kernel) rfl
theorem mkX0_3 : Cond.methodLink RX0 3 objectInit ∈ UU := UU_in 217 (by decide +kernel) rfl
theorem fkX0_9 : Cond.fieldLink RX0 9 "RowTriggers$Chains" "table" "[I" ∈ UU := UU_in 218 (by decide +kernel) rfl
theorem fkX7_219 : Cond.fieldLink RX7 219 "RowTriggers$Chains" "table" "[I" ∈ UU := UU_in 219 (by decide +kernel) rfl
theorem ckX7_30 : Cond.classLink RX7 30 "RowTriggers$Text" ∈ UU := UU_in 223 (by decide +kernel) rfl
theorem itX6 : Cond.instantiable RX6 5 ∈ UU := UU_in 224 (by decide +kernel) rfl
theorem iiX6 : Cond.initialized RX6 ∈ UU := UU_in 47 (by decide +kernel) rfl
theorem mkX7_32 : Cond.methodLinkNest RX7 32 yX6_init "RowTriggers" ∈ UN := UN_in 225 (by decide +kernel) rfl
theorem mkX6_3 : Cond.methodLink RX6 3 objectInit ∈ UU := UU_in 228 (by decide +kernel) rfl
theorem fkX6_9 : Cond.fieldLink RX6 9 "RowTriggers$Text" "signs" "[C" ∈ UU := UU_in 229 (by decide +kernel) rfl
theorem fkX6_19 : Cond.fieldLink RX6 19 "RowTriggers$Text" "length" "I" ∈ UU := UU_in 230 (by decide +kernel) rfl
theorem fkX7_228 : Cond.fieldLink RX7 228 "RowTriggers$Text" "length" "I" ∈ UU := UU_in 231 (by decide +kernel) rfl
theorem fkX6_23 : Cond.fieldLink RX6 23 "RowTriggers$Text" "at" "I" ∈ UU := UU_in 232 (by decide +kernel) rfl
theorem fkX7_246 : Cond.fieldLink RX7 246 "RowTriggers$Text" "at" "I" ∈ UU := UU_in 233 (by decide +kernel) rfl
theorem fkX6_34 : Cond.fieldLink RX6 34 "RowTriggers$Text" "command" "C" ∈ UU := UU_in 234 (by decide +kernel) rfl
theorem fkX7_263 : Cond.fieldLink RX7 263 "RowTriggers$Text" "command" "C" ∈ UU := UU_in 235 (by decide +kernel) rfl
theorem fkX6_15 : Cond.fieldLink RX6 15 "RowTriggers$Text" "numbers" "[I" ∈ UU := UU_in 236 (by decide +kernel) rfl
theorem fkX7_260 : Cond.fieldLink RX7 260 "RowTriggers$Text" "numbers" "[I" ∈ UU := UU_in 237 (by decide +kernel) rfl
theorem ac_char : Cond.arrayClass .char ∈ UU := UU_in 249 (by decide +kernel) rfl
theorem ckX7_37 : Cond.classLink RX7 37 "RowTriggers$History" ∈ UU := UU_in 250 (by decide +kernel) rfl
theorem itX1 : Cond.instantiable RX1 3 ∈ UU := UU_in 251 (by decide +kernel) rfl
theorem iiX1 : Cond.initialized RX1 ∈ UU := UU_in 48 (by decide +kernel) rfl
theorem mkX7_39 : Cond.methodLink RX7 39 yX1_init ∈ UU := UU_in 252 (by decide +kernel) rfl
theorem mkX1_3 : Cond.methodLink RX1 3 objectInit ∈ UU := UU_in 255 (by decide +kernel) rfl
theorem ckX1_9 : Cond.classLink RX1 9 "RowTriggers$State" ∈ UU := UU_in 256 (by decide +kernel) rfl
theorem mkX1_17 : Cond.methodLink RX1 17 yX4_init ∈ UU := UU_in 258 (by decide +kernel) rfl
theorem fkX1_11 : Cond.fieldLink RX1 11 "RowTriggers$History" "states" "[LRowTriggers$State;" ∈ UU := UU_in 259 (by decide +kernel) rfl
theorem fkX1_26 : Cond.fieldLink RX1 26 "RowTriggers$History" "size" "I" ∈ UU := UU_in 260 (by decide +kernel) rfl
theorem fkX7_269 : Cond.fieldLink RX7 269 "RowTriggers$History" "size" "I" ∈ UU := UU_in 261 (by decide +kernel) rfl
theorem fkX1_18 : Cond.fieldLink RX1 18 "RowTriggers$History" "next" "I" ∈ UU := UU_in 262 (by decide +kernel) rfl
theorem fkX7_10 : Cond.fieldLink RX7 10 "RowTriggers" "now" "LRowTriggers$State;" ∈ UU := UU_in 270 (by decide +kernel) rfl
theorem fkX7_19 : Cond.fieldLink RX7 19 "RowTriggers" "trial" "LRowTriggers$Statement;" ∈ UU := UU_in 271 (by decide +kernel) rfl
theorem fkX7_26 : Cond.fieldLink RX7 26 "RowTriggers" "chains" "LRowTriggers$Chains;" ∈ UU := UU_in 272 (by decide +kernel) rfl
theorem fkX7_33 : Cond.fieldLink RX7 33 "RowTriggers" "text" "LRowTriggers$Text;" ∈ UU := UU_in 273 (by decide +kernel) rfl
theorem fkX7_40 : Cond.fieldLink RX7 40 "RowTriggers" "history" "LRowTriggers$History;" ∈ UU := UU_in 274 (by decide +kernel) rfl
theorem fkX7_44 : Cond.fieldLink RX7 44 "RowTriggers" "slots" "[LRowTriggers$State;" ∈ UU := UU_in 275 (by decide +kernel) rfl
theorem fkX7_48 : Cond.fieldLink RX7 48 "RowTriggers" "slotIsFilled" "[Z" ∈ UU := UU_in 276 (by decide +kernel) rfl
theorem mkL_154 : Cond.methodLink RL 154 yX7_rowCount ∈ UU := UU_in 292 (by decide +kernel) rfl
theorem mkX7_173 : Cond.methodLink RX7 173 yX4_rowsThere ∈ UU := UU_in 296 (by decide +kernel) rfl
theorem mkL_165 : Cond.methodLink RL 165 yX7_ruleCount ∈ UU := UU_in 300 (by decide +kernel) rfl
theorem mkL_178 : Cond.methodLink RL 178 yX7_eventCount ∈ UU := UU_in 304 (by decide +kernel) rfl
theorem mkL_182 : Cond.methodLink RL 182 yX7_logSize ∈ UU := UU_in 308 (by decide +kernel) rfl
theorem mkL_201 : Cond.methodLink RL 201 yX7_circularRules ∈ UU := UU_in 312 (by decide +kernel) rfl
theorem mkX7_216 : Cond.methodLink RX7 216 yX0_fillTable ∈ UU := UU_in 316 (by decide +kernel) rfl
theorem mkX0_31 : Cond.methodLink RX0 31 yX0_nextOf ∈ UU := UU_in 320 (by decide +kernel) rfl
theorem mkX0_25 : Cond.methodLink RX0 25 yX3_setsOff ∈ UU := UU_in 323 (by decide +kernel) rfl
theorem mkL_211 : Cond.methodLink RL 211 yX7_clearText ∈ UU := UU_in 327 (by decide +kernel) rfl
theorem mkL_215 : Cond.methodLink RL 215 yX7_textLength ∈ UU := UU_in 331 (by decide +kernel) rfl
theorem mkL_219 : Cond.methodLink RL 219 yX7_textError ∈ UU := UU_in 335 (by decide +kernel) rfl
theorem mkX7_241 : Cond.methodLink RX7 241 yX6_firstError ∈ UU := UU_in 339 (by decide +kernel) rfl
theorem mkX6_26 : Cond.methodLink RX6 26 yX6_readCommand ∈ UU := UU_in 343 (by decide +kernel) rfl
theorem mkX6_38 : Cond.methodLink RX6 38 yX6_formOf ∈ UU := UU_in 347 (by decide +kernel) rfl
theorem mkX6_42 : Cond.methodLink RX6 42 yJ0_isEmpty_aae02 ∈ UU := UU_in 354 (by decide +kernel) rfl
theorem mkX6_47 : Cond.methodLink RX6 47 yJ0_length_8abf5 ∈ UU := UU_in 358 (by decide +kernel) rfl
theorem mkJ0_335 : Cond.methodLink RJ0 335 yJ0_coder_7d493 ∈ UU := UU_in 362 (by decide +kernel) rfl
theorem fkJ0_38 : Cond.fieldLink RJ0 38 "java/lang/String" "COMPACT_STRINGS" "Z" ∈ UU := UU_in 366 (by decide +kernel) rfl
theorem mkX6_50 : Cond.methodLink RX6 50 yJ0_charAt_5068e ∈ UU := UU_in 368 (by decide +kernel) rfl
theorem mkJ0_492 : Cond.methodLink RJ0 492 yJ0_isLatin1_aae02 ∈ UU := UU_in 372 (by decide +kernel) rfl
theorem mkJ0_495 : Cond.methodLink RJ0 495 yJ1_charAt_3b067 ∈ UU := UU_in 376 (by decide +kernel) rfl
theorem mkJ1_9 : Cond.methodLink RJ1 9 yJ0_checkIndex_df160 ∈ UU := UU_in 379 (by decide +kernel) rfl
theorem fkJ0_1053 : Cond.fieldLink RJ0 1053 "jdk/internal/util/Preconditions" "SIOOBE_FORMATTER" "Ljava/util/function/BiFunction;" ∈ UU := UU_in 382 (by decide +kernel) rfl
theorem mkJ0_1059 : Cond.methodLink RJ0 1059 yJ3_checkIndex_8e157 ∈ UU := UU_in 384 (by decide +kernel) rfl
theorem mkJ0_498 : Cond.methodLink RJ0 498 yJ2_charAt_3b067 ∈ UU := UU_in 387 (by decide +kernel) rfl
theorem mkJ2_67 : Cond.methodLink RJ2 67 yJ2_checkIndex_2214a ∈ UU := UU_in 390 (by decide +kernel) rfl
theorem mkJ2_48 : Cond.methodLink RJ2 48 yJ2_length_9d52b ∈ UU := UU_in 393 (by decide +kernel) rfl
theorem mkJ2_414 : Cond.methodLink RJ2 414 yJ0_checkIndex_df160 ∈ UU := UU_in 396 (by decide +kernel) rfl
theorem mkJ2_71 : Cond.methodLink RJ2 71 yJ2_getChar_3b067 ∈ UU := UU_in 397 (by decide +kernel) rfl
theorem fkJ2_44 : Cond.fieldLink RJ2 44 "java/lang/StringUTF16" "$assertionsDisabled" "Z" ∈ UU := UU_in 400 (by decide +kernel) rfl
theorem fkJ2_59 : Cond.fieldLink RJ2 59 "java/lang/StringUTF16" "HI_BYTE_SHIFT" "I" ∈ UU := UU_in 402 (by decide +kernel) rfl
theorem fkJ2_63 : Cond.fieldLink RJ2 63 "java/lang/StringUTF16" "LO_BYTE_SHIFT" "I" ∈ UU := UU_in 404 (by decide +kernel) rfl
theorem mkX6_54 : Cond.methodLink RX6 54 yX6_readNumber ∈ UU := UU_in 406 (by decide +kernel) rfl
theorem mkX6_66 : Cond.methodLink RX6 66 yX6_isDigitNext ∈ UU := UU_in 410 (by decide +kernel) rfl
theorem mkX6_30 : Cond.methodLink RX6 30 yX6_readSign ∈ UU := UU_in 414 (by decide +kernel) rfl
theorem mkL_230 : Cond.methodLink RL 230 yX7_undoCount ∈ UU := UU_in 419 (by decide +kernel) rfl
theorem mkL_109 : Cond.methodLink RL 109 yL_addRule ∈ UU := UU_in 423 (by decide +kernel) rfl
theorem ckL_13 : Cond.classLink RL 13 "java/lang/IllegalArgumentException" ∈ UU := UU_in 426 (by decide +kernel) rfl
theorem ckL_15 : Cond.classLink RL 15 "java/lang/IllegalStateException" ∈ UU := UU_in 427 (by decide +kernel) rfl
theorem mkL_7 : Cond.methodLink RL 7 yX7_addRule ∈ UU := UU_in 428 (by decide +kernel) rfl
theorem mkX7_52 : Cond.methodLink RX7 52 yX7_isColumn ∈ UU := UU_in 432 (by decide +kernel) rfl
theorem mkX7_56 : Cond.methodLink RX7 56 yX7_isValue ∈ UU := UU_in 435 (by decide +kernel) rfl
theorem ckX7_59 : Cond.classLink RX7 59 "java/lang/IllegalArgumentException" ∈ UU := UU_in 438 (by decide +kernel) rfl
theorem ckX7_70 : Cond.classLink RX7 70 "java/lang/IllegalStateException" ∈ UU := UU_in 505 (by decide +kernel) rfl
theorem mkX7_75 : Cond.methodLink RX7 75 yX1_keep ∈ UU := UU_in 521 (by decide +kernel) rfl
theorem mkX1_22 : Cond.methodLink RX1 22 yX4_copyFrom ∈ UU := UU_in 525 (by decide +kernel) rfl
theorem mkX4_37 : Cond.methodLink RX4 37 arraycopyName ∈ UU := UU_in 529 (by decide +kernel) rfl
theorem mkX4_46 : Cond.methodLink RX4 46 yX3_copyFrom ∈ UU := UU_in 532 (by decide +kernel) rfl
theorem mkX4_50 : Cond.methodLink RX4 50 yX2_copyFrom ∈ UU := UU_in 536 (by decide +kernel) rfl
theorem mkX2_18 : Cond.methodLink RX2 18 arraycopyName ∈ UU := UU_in 540 (by decide +kernel) rfl
theorem mkX1_29 : Cond.methodLink RX1 29 yJ9_min_7cf53 ∈ UU := UU_in 541 (by decide +kernel) rfl
theorem mkX7_83 : Cond.methodLink RX7 83 yX3_start ∈ UU := UU_in 544 (by decide +kernel) rfl
theorem mkL_118 : Cond.methodLink RL 118 yL_setAction ∈ UU := UU_in 548 (by decide +kernel) rfl
theorem ckL_21 : Cond.classLink RL 21 "java/lang/IndexOutOfBoundsException" ∈ UU := UU_in 551 (by decide +kernel) rfl
theorem mkL_17 : Cond.methodLink RL 17 yX7_setAction ∈ UU := UU_in 552 (by decide +kernel) rfl
theorem mkX7_89 : Cond.methodLink RX7 89 yX7_checkRule ∈ UU := UU_in 556 (by decide +kernel) rfl
theorem ckX7_280 : Cond.classLink RX7 280 "java/lang/IndexOutOfBoundsException" ∈ UU := UU_in 560 (by decide +kernel) rfl
theorem mkX7_93 : Cond.methodLink RX7 93 yX7_isRow ∈ UU := UU_in 576 (by decide +kernel) rfl
theorem mkL_122 : Cond.methodLink RL 122 yL_turnMute ∈ UU := UU_in 580 (by decide +kernel) rfl
theorem mkL_23 : Cond.methodLink RL 23 yX7_turnMute ∈ UU := UU_in 583 (by decide +kernel) rfl
theorem mkL_126 : Cond.methodLink RL 126 yL_dropRule ∈ UU := UU_in 587 (by decide +kernel) rfl
theorem mkL_27 : Cond.methodLink RL 27 yX7_dropRule ∈ UU := UU_in 590 (by decide +kernel) rfl
theorem mkX7_117 : Cond.methodLink RX7 117 yX4_takeRuleAway ∈ UU := UU_in 594 (by decide +kernel) rfl
theorem mkX4_60 : Cond.methodLink RX4 60 yX2_forget ∈ UU := UU_in 598 (by decide +kernel) rfl
theorem mkX2_40 : Cond.methodLink RX2 40 yX2_placeOf ∈ UU := UU_in 602 (by decide +kernel) rfl
theorem mkX2_31 : Cond.methodLink RX2 31 yJ9_floorMod_7cf53 ∈ UU := UU_in 606 (by decide +kernel) rfl
theorem mkX2_44 : Cond.methodLink RX2 44 yX2_note ∈ UU := UU_in 609 (by decide +kernel) rfl
theorem mkX2_37 : Cond.methodLink RX2 37 yJ9_min_7cf53 ∈ UU := UU_in 613 (by decide +kernel) rfl
theorem mkL_129 : Cond.methodLink RL 129 yL_setDepth ∈ UU := UU_in 614 (by decide +kernel) rfl
theorem mkL_31 : Cond.methodLink RL 31 yX7_setDepth ∈ UU := UU_in 617 (by decide +kernel) rfl
theorem mkL_132 : Cond.methodLink RL 132 yL_insert ∈ UU := UU_in 622 (by decide +kernel) rfl
theorem mkL_34 : Cond.methodLink RL 34 yX7_insert ∈ UU := UU_in 625 (by decide +kernel) rfl
theorem mkX7_125 : Cond.methodLink RX7 125 yX7_checkRow ∈ UU := UU_in 629 (by decide +kernel) rfl
theorem mkX7_128 : Cond.methodLink RX7 128 yX7_checkValue ∈ UU := UU_in 633 (by decide +kernel) rfl
theorem mkX7_131 : Cond.methodLink RX7 131 yX5_putIn ∈ UU := UU_in 637 (by decide +kernel) rfl
theorem mkX5_32 : Cond.methodLink RX5 32 yX5_begin ∈ UU := UU_in 641 (by decide +kernel) rfl
theorem mkX5_18 : Cond.methodLink RX5 18 yX4_copyFrom ∈ UU := UU_in 645 (by decide +kernel) rfl
theorem mkX5_35 : Cond.methodLinkNest RX5 35 yX7_isRow "RowTriggers" ∈ UN := UN_in 646 (by decide +kernel) rfl
theorem mkX5_47 : Cond.methodLinkNest RX5 47 yX7_cell "RowTriggers" ∈ UN := UN_in 647 (by decide +kernel) rfl
theorem mkX5_51 : Cond.methodLink RX5 51 yX5_happen ∈ UU := UU_in 650 (by decide +kernel) rfl
theorem mkX5_64 : Cond.methodLink RX5 64 yX5_matchingRules ∈ UU := UU_in 654 (by decide +kernel) rfl
theorem mkX5_68 : Cond.methodLink RX5 68 yX5_hasRefusing ∈ UU := UU_in 658 (by decide +kernel) rfl
theorem mkX5_71 : Cond.methodLink RX5 71 yX5_alterTable ∈ UU := UU_in 662 (by decide +kernel) rfl
theorem mkX5_76 : Cond.methodLink RX5 76 yJ9_max_7cf53 ∈ UU := UU_in 666 (by decide +kernel) rfl
theorem mkX5_84 : Cond.methodLink RX5 84 yX5_act ∈ UU := UU_in 669 (by decide +kernel) rfl
theorem mkX5_101 : Cond.methodLink RX5 101 yX2_note ∈ UU := UU_in 673 (by decide +kernel) rfl
theorem mkX5_55 : Cond.methodLink RX5 55 yX4_isThere ∈ UU := UU_in 674 (by decide +kernel) rfl
theorem mkX4_56 : Cond.methodLinkNest RX4 56 yX7_isRow "RowTriggers" ∈ UN := UN_in 678 (by decide +kernel) rfl
theorem mkX5_118 : Cond.methodLinkNest RX5 118 yX7_isValue "RowTriggers" ∈ UN := UN_in 679 (by decide +kernel) rfl
theorem mkX7_135 : Cond.methodLink RX7 135 yX7_finishStatement ∈ UU := UU_in 680 (by decide +kernel) rfl
theorem mkX7_167 : Cond.methodLink RX7 167 yX4_copyFrom ∈ UU := UU_in 685 (by decide +kernel) rfl
theorem mkL_136 : Cond.methodLink RL 136 yL_update ∈ UU := UU_in 686 (by decide +kernel) rfl
theorem mkL_38 : Cond.methodLink RL 38 yX7_update ∈ UU := UU_in 689 (by decide +kernel) rfl
theorem mkX7_139 : Cond.methodLink RX7 139 yX7_tryUpdate ∈ UU := UU_in 693 (by decide +kernel) rfl
theorem mkX7_155 : Cond.methodLink RX7 155 yX7_checkColumn ∈ UU := UU_in 697 (by decide +kernel) rfl
theorem mkX7_158 : Cond.methodLink RX7 158 yX5_change ∈ UU := UU_in 701 (by decide +kernel) rfl
theorem mkX5_58 : Cond.methodLinkNest RX5 58 yX7_isColumn "RowTriggers" ∈ UN := UN_in 705 (by decide +kernel) rfl
theorem mkL_139 : Cond.methodLink RL 139 yL_remove ∈ UU := UU_in 706 (by decide +kernel) rfl
theorem mkL_41 : Cond.methodLink RL 41 yX7_remove ∈ UU := UU_in 709 (by decide +kernel) rfl
theorem mkX7_142 : Cond.methodLink RX7 142 yX5_takeOut ∈ UU := UU_in 713 (by decide +kernel) rfl
theorem mkL_142 : Cond.methodLink RL 142 yL_whyNotUpdate ∈ UU := UU_in 717 (by decide +kernel) rfl
theorem mkL_44 : Cond.methodLink RL 44 yX7_whyNotUpdate ∈ UU := UU_in 720 (by decide +kernel) rfl
theorem mkL_145 : Cond.methodLink RL 145 yL_eventsOfUpdate ∈ UU := UU_in 724 (by decide +kernel) rfl
theorem mkL_47 : Cond.methodLink RL 47 yX7_eventsOfUpdate ∈ UU := UU_in 727 (by decide +kernel) rfl
theorem mkL_148 : Cond.methodLink RL 148 yL_depthOfUpdate ∈ UU := UU_in 731 (by decide +kernel) rfl
theorem mkL_50 : Cond.methodLink RL 50 yX7_depthOfUpdate ∈ UU := UU_in 734 (by decide +kernel) rfl
theorem mkL_151 : Cond.methodLink RL 151 yL_hasRow ∈ UU := UU_in 738 (by decide +kernel) rfl
theorem mkL_53 : Cond.methodLink RL 53 yX7_hasRow ∈ UU := UU_in 741 (by decide +kernel) rfl
theorem mkX7_170 : Cond.methodLink RX7 170 yX4_isThere ∈ UU := UU_in 745 (by decide +kernel) rfl
theorem mkL_158 : Cond.methodLink RL 158 yL_valueAt ∈ UU := UU_in 746 (by decide +kernel) rfl
theorem mkL_56 : Cond.methodLink RL 56 yX7_valueAt ∈ UU := UU_in 749 (by decide +kernel) rfl
theorem mkX7_182 : Cond.methodLink RX7 182 yX7_cell ∈ UU := UU_in 754 (by decide +kernel) rfl
theorem mkL_162 : Cond.methodLink RL 162 yL_sumOf ∈ UU := UU_in 755 (by decide +kernel) rfl
theorem mkL_60 : Cond.methodLink RL 60 yX7_sumOf ∈ UU := UU_in 758 (by decide +kernel) rfl
theorem mkL_169 : Cond.methodLink RL 169 yL_actionOf ∈ UU := UU_in 762 (by decide +kernel) rfl
theorem mkL_63 : Cond.methodLink RL 63 yX7_actionOf ∈ UU := UU_in 765 (by decide +kernel) rfl
theorem mkL_172 : Cond.methodLink RL 172 yL_isMuted ∈ UU := UU_in 769 (by decide +kernel) rfl
theorem mkL_66 : Cond.methodLink RL 66 yX7_isMuted ∈ UU := UU_in 772 (by decide +kernel) rfl
theorem mkL_175 : Cond.methodLink RL 175 yL_actsOf ∈ UU := UU_in 776 (by decide +kernel) rfl
theorem mkL_69 : Cond.methodLink RL 69 yX7_actsOf ∈ UU := UU_in 779 (by decide +kernel) rfl
theorem mkL_186 : Cond.methodLink RL 186 yL_loggedRule ∈ UU := UU_in 783 (by decide +kernel) rfl
theorem mkL_72 : Cond.methodLink RL 72 yX7_loggedRule ∈ UU := UU_in 786 (by decide +kernel) rfl
theorem mkX7_196 : Cond.methodLink RX7 196 yX7_checkAgo ∈ UU := UU_in 790 (by decide +kernel) rfl
theorem mkX7_201 : Cond.methodLink RX7 201 yX2_placeOf ∈ UU := UU_in 795 (by decide +kernel) rfl
theorem mkL_189 : Cond.methodLink RL 189 yL_loggedDepth ∈ UU := UU_in 796 (by decide +kernel) rfl
theorem mkL_75 : Cond.methodLink RL 75 yX7_loggedDepth ∈ UU := UU_in 799 (by decide +kernel) rfl
theorem mkL_192 : Cond.methodLink RL 192 yL_canSetOff ∈ UU := UU_in 803 (by decide +kernel) rfl
theorem mkL_78 : Cond.methodLink RL 78 yX7_canSetOff ∈ UU := UU_in 806 (by decide +kernel) rfl
theorem mkX7_208 : Cond.methodLink RX7 208 yX3_setsOff ∈ UU := UU_in 810 (by decide +kernel) rfl
theorem mkL_195 : Cond.methodLink RL 195 yL_reachOf ∈ UU := UU_in 811 (by decide +kernel) rfl
theorem mkL_82 : Cond.methodLink RL 82 yX7_reachOf ∈ UU := UU_in 814 (by decide +kernel) rfl
theorem mkX7_212 : Cond.methodLink RX7 212 yX0_search ∈ UU := UU_in 818 (by decide +kernel) rfl
theorem mkL_198 : Cond.methodLink RL 198 yL_reachByTable ∈ UU := UU_in 822 (by decide +kernel) rfl
theorem mkL_85 : Cond.methodLink RL 85 yX7_reachByTable ∈ UU := UU_in 825 (by decide +kernel) rfl
theorem mkL_207 : Cond.methodLink RL 207 yL_appendText ∈ UU := UU_in 829 (by decide +kernel) rfl
theorem mkL_88 : Cond.methodLink RL 88 yX7_appendText ∈ UU := UU_in 832 (by decide +kernel) rfl
theorem mkX7_222 : Cond.methodLink RX7 222 yX7_charactersIn ∈ UU := UU_in 836 (by decide +kernel) rfl
theorem mkX7_233 : Cond.methodLink RX7 233 yX7_codeOf ∈ UU := UU_in 839 (by decide +kernel) rfl
theorem lkX7_267 : Cond.constantLong RX7 267 (255 : Int64) ∈ UU := UU_in 842 (by decide +kernel) rfl
theorem mkX7_237 : Cond.methodLink RX7 237 yX6_append ∈ UU := UU_in 845 (by decide +kernel) rfl
theorem mkL_223 : Cond.methodLink RL 223 yL_runText ∈ UU := UU_in 849 (by decide +kernel) rfl
theorem mkL_92 : Cond.methodLink RL 92 yX7_runText ∈ UU := UU_in 852 (by decide +kernel) rfl
theorem mkX7_249 : Cond.methodLink RX7 249 yX6_readCommand ∈ UU := UU_in 857 (by decide +kernel) rfl
theorem mkX7_253 : Cond.methodLink RX7 253 yX7_execute ∈ UU := UU_in 858 (by decide +kernel) rfl
theorem mkX7_256 : Cond.methodLink RX7 256 yX6_readSign ∈ UU := UU_in 862 (by decide +kernel) rfl
theorem mkL_227 : Cond.methodLink RL 227 yL_undo ∈ UU := UU_in 863 (by decide +kernel) rfl
theorem mkL_96 : Cond.methodLink RL 96 yX7_undo ∈ UU := UU_in 866 (by decide +kernel) rfl
theorem mkX7_272 : Cond.methodLink RX7 272 yX1_takeBack ∈ UU := UU_in 871 (by decide +kernel) rfl
theorem mkX1_35 : Cond.methodLink RX1 35 yJ9_floorMod_7cf53 ∈ UU := UU_in 875 (by decide +kernel) rfl
theorem mkL_234 : Cond.methodLink RL 234 yL_saveState ∈ UU := UU_in 876 (by decide +kernel) rfl
theorem mkL_99 : Cond.methodLink RL 99 yX7_saveState ∈ UU := UU_in 879 (by decide +kernel) rfl
theorem mkX7_275 : Cond.methodLink RX7 275 yX7_checkSlot ∈ UU := UU_in 883 (by decide +kernel) rfl
theorem mkL_237 : Cond.methodLink RL 237 yL_loadState ∈ UU := UU_in 887 (by decide +kernel) rfl
theorem mkL_102 : Cond.methodLink RL 102 yX7_loadState ∈ UU := UU_in 890 (by decide +kernel) rfl
theorem ckL_106 : Cond.classLink RL 106 "RowTriggersModel" ∈ UU := UU_in 895 (by decide +kernel) rfl
theorem itX8 : Cond.instantiable RX8 22 ∈ UU := UU_in 896 (by decide +kernel) rfl
theorem iiX8 : Cond.initialized RX8 ∈ UU := UU_in 49 (by decide +kernel) rfl
theorem mkL_108 : Cond.methodLink RL 108 yX8_init ∈ UU := UU_in 897 (by decide +kernel) rfl
theorem mkX8_1 : Cond.methodLink RX8 1 objectInit ∈ UU := UU_in 900 (by decide +kernel) rfl
theorem fkX8_28 : Cond.fieldLink RX8 28 "RowTriggersModel" "thrown" "I" ∈ UU := UU_in 901 (by decide +kernel) rfl
theorem fkX8_7 : Cond.fieldLink RX8 7 "RowTriggersModel" "s" "[I" ∈ UU := UU_in 902 (by decide +kernel) rfl
theorem fkX8_13 : Cond.fieldLink RX8 13 "RowTriggersModel" "aside" "[I" ∈ UU := UU_in 903 (by decide +kernel) rfl
theorem fkX8_16 : Cond.fieldLink RX8 16 "RowTriggersModel" "history" "[I" ∈ UU := UU_in 904 (by decide +kernel) rfl
theorem fkX8_36 : Cond.fieldLink RX8 36 "RowTriggersModel" "known" "I" ∈ UU := UU_in 905 (by decide +kernel) rfl
theorem fkX8_19 : Cond.fieldLink RX8 19 "RowTriggersModel" "slots" "[I" ∈ UU := UU_in 906 (by decide +kernel) rfl
theorem fkX8_185 : Cond.fieldLink RX8 185 "RowTriggersModel" "kept" "I" ∈ UU := UU_in 907 (by decide +kernel) rfl
theorem fkX8_22 : Cond.fieldLink RX8 22 "RowTriggersModel" "text" "[I" ∈ UU := UU_in 908 (by decide +kernel) rfl
theorem fkX8_141 : Cond.fieldLink RX8 141 "RowTriggersModel" "length" "I" ∈ UU := UU_in 909 (by decide +kernel) rfl
theorem fkX8_25 : Cond.fieldLink RX8 25 "RowTriggersModel" "waiting" "[I" ∈ UU := UU_in 910 (by decide +kernel) rfl
theorem fkX8_62 : Cond.fieldLink RX8 62 "RowTriggersModel" "depth" "I" ∈ UU := UU_in 911 (by decide +kernel) rfl
theorem fkX8_65 : Cond.fieldLink RX8 65 "RowTriggersModel" "deepest" "I" ∈ UU := UU_in 912 (by decide +kernel) rfl
theorem fkX8_52 : Cond.fieldLink RX8 52 "RowTriggersModel" "happened" "I" ∈ UU := UU_in 913 (by decide +kernel) rfl
theorem fkX8_59 : Cond.fieldLink RX8 59 "RowTriggersModel" "refused" "I" ∈ UU := UU_in 914 (by decide +kernel) rfl
theorem fkX8_148 : Cond.fieldLink RX8 148 "RowTriggersModel" "spot" "I" ∈ UU := UU_in 915 (by decide +kernel) rfl
theorem fkX8_144 : Cond.fieldLink RX8 144 "RowTriggersModel" "isWrong" "Z" ∈ UU := UU_in 916 (by decide +kernel) rfl
theorem fkX8_154 : Cond.fieldLink RX8 154 "RowTriggersModel" "sign" "I" ∈ UU := UU_in 917 (by decide +kernel) rfl
theorem fkX8_157 : Cond.fieldLink RX8 157 "RowTriggersModel" "line" "I" ∈ UU := UU_in 918 (by decide +kernel) rfl
theorem fkX8_163 : Cond.fieldLink RX8 163 "RowTriggersModel" "one" "I" ∈ UU := UU_in 919 (by decide +kernel) rfl
theorem fkX8_166 : Cond.fieldLink RX8 166 "RowTriggersModel" "two" "I" ∈ UU := UU_in 920 (by decide +kernel) rfl
theorem fkX8_169 : Cond.fieldLink RX8 169 "RowTriggersModel" "three" "I" ∈ UU := UU_in 921 (by decide +kernel) rfl
theorem fkX8_172 : Cond.fieldLink RX8 172 "RowTriggersModel" "done" "I" ∈ UU := UU_in 922 (by decide +kernel) rfl
theorem mkL_115 : Cond.methodLink RL 115 yX8_thrown ∈ UU := UU_in 968 (by decide +kernel) rfl
theorem mkL_114 : Cond.methodLink RL 114 yX8_addRule ∈ UU := UU_in 972 (by decide +kernel) rfl
theorem mkX8_32 : Cond.methodLink RX8 32 yX8_in ∈ UU := UU_in 976 (by decide +kernel) rfl
theorem mkX8_94 : Cond.methodLink RX8 94 yX8_isColumn ∈ UU := UU_in 979 (by decide +kernel) rfl
theorem mkX8_76 : Cond.methodLink RX8 76 yX8_isValue ∈ UU := UU_in 982 (by decide +kernel) rfl
theorem mkX8_97 : Cond.methodLink RX8 97 yX8_holds ∈ UU := UU_in 985 (by decide +kernel) rfl
theorem mkX8_100 : Cond.methodLink RX8 100 yX8_record ∈ UU := UU_in 989 (by decide +kernel) rfl
theorem mkX8_39 : Cond.methodLink RX8 39 yX8_putAside ∈ UU := UU_in 993 (by decide +kernel) rfl
theorem mkX8_42 : Cond.methodLink RX8 42 yX8_recordAside ∈ UU := UU_in 997 (by decide +kernel) rfl
theorem mkL_121 : Cond.methodLink RL 121 yX8_setAction ∈ UU := UU_in 1001 (by decide +kernel) rfl
theorem mkX8_103 : Cond.methodLink RX8 103 yX8_isRule ∈ UU := UU_in 1005 (by decide +kernel) rfl
theorem mkX8_106 : Cond.methodLink RX8 106 yX8_isRow ∈ UU := UU_in 1009 (by decide +kernel) rfl
theorem mkL_125 : Cond.methodLink RL 125 yX8_turnMute ∈ UU := UU_in 1012 (by decide +kernel) rfl
theorem mkL_128 : Cond.methodLink RL 128 yX8_dropRule ∈ UU := UU_in 1016 (by decide +kernel) rfl
theorem mkX8_45 : Cond.methodLink RX8 45 yX8_at ∈ UU := UU_in 1020 (by decide +kernel) rfl
theorem mkL_131 : Cond.methodLink RL 131 yX8_setDepth ∈ UU := UU_in 1024 (by decide +kernel) rfl
theorem mkL_135 : Cond.methodLink RL 135 yX8_insert ∈ UU := UU_in 1028 (by decide +kernel) rfl
theorem mkX8_109 : Cond.methodLink RX8 109 yX8_inserts ∈ UU := UU_in 1032 (by decide +kernel) rfl
theorem mkX8_49 : Cond.methodLink RX8 49 yX8_of ∈ UU := UU_in 1036 (by decide +kernel) rfl
theorem mkX8_90 : Cond.methodLink RX8 90 yX8_states ∈ UU := UU_in 1039 (by decide +kernel) rfl
theorem mkX8_72 : Cond.methodLink RX8 72 yX8_begins ∈ UU := UU_in 1043 (by decide +kernel) rfl
theorem mkX8_55 : Cond.methodLink RX8 55 yX8_matching ∈ UU := UU_in 1047 (by decide +kernel) rfl
theorem mkX8_83 : Cond.methodLink RX8 83 yX8_follows ∈ UU := UU_in 1051 (by decide +kernel) rfl
theorem mkX8_80 : Cond.methodLink RX8 80 yX8_acts ∈ UU := UU_in 1055 (by decide +kernel) rfl
theorem mkX8_68 : Cond.methodLink RX8 68 yX8_logs ∈ UU := UU_in 1059 (by decide +kernel) rfl
theorem mkX8_87 : Cond.methodLink RX8 87 yX8_putBack ∈ UU := UU_in 1063 (by decide +kernel) rfl
theorem mkL_138 : Cond.methodLink RL 138 yX8_update ∈ UU := UU_in 1067 (by decide +kernel) rfl
theorem mkX8_112 : Cond.methodLink RX8 112 yX8_updates ∈ UU := UU_in 1071 (by decide +kernel) rfl
theorem mkL_141 : Cond.methodLink RL 141 yX8_remove ∈ UU := UU_in 1075 (by decide +kernel) rfl
theorem mkX8_115 : Cond.methodLink RX8 115 yX8_removes ∈ UU := UU_in 1079 (by decide +kernel) rfl
theorem mkL_144 : Cond.methodLink RL 144 yX8_whyNotUpdate ∈ UU := UU_in 1083 (by decide +kernel) rfl
theorem mkX8_118 : Cond.methodLink RX8 118 yX8_triesUpdate ∈ UU := UU_in 1087 (by decide +kernel) rfl
theorem mkL_147 : Cond.methodLink RL 147 yX8_eventsOfUpdate ∈ UU := UU_in 1091 (by decide +kernel) rfl
theorem mkL_150 : Cond.methodLink RL 150 yX8_depthOfUpdate ∈ UU := UU_in 1095 (by decide +kernel) rfl
theorem mkL_153 : Cond.methodLink RL 153 yX8_hasRow ∈ UU := UU_in 1099 (by decide +kernel) rfl
theorem mkL_157 : Cond.methodLink RL 157 yX8_rowCount ∈ UU := UU_in 1103 (by decide +kernel) rfl
theorem mkX8_121 : Cond.methodLink RX8 121 yX8_rowsNow ∈ UU := UU_in 1107 (by decide +kernel) rfl
theorem mkL_161 : Cond.methodLink RL 161 yX8_valueAt ∈ UU := UU_in 1111 (by decide +kernel) rfl
theorem mkL_164 : Cond.methodLink RL 164 yX8_sumOf ∈ UU := UU_in 1115 (by decide +kernel) rfl
theorem mkL_168 : Cond.methodLink RL 168 yX8_ruleCount ∈ UU := UU_in 1119 (by decide +kernel) rfl
theorem mkL_171 : Cond.methodLink RL 171 yX8_actionOf ∈ UU := UU_in 1123 (by decide +kernel) rfl
theorem mkL_174 : Cond.methodLink RL 174 yX8_isMuted ∈ UU := UU_in 1127 (by decide +kernel) rfl
theorem mkL_177 : Cond.methodLink RL 177 yX8_actsOf ∈ UU := UU_in 1131 (by decide +kernel) rfl
theorem mkL_181 : Cond.methodLink RL 181 yX8_eventCount ∈ UU := UU_in 1135 (by decide +kernel) rfl
theorem mkL_185 : Cond.methodLink RL 185 yX8_logSize ∈ UU := UU_in 1139 (by decide +kernel) rfl
theorem mkL_188 : Cond.methodLink RL 188 yX8_loggedRule ∈ UU := UU_in 1143 (by decide +kernel) rfl
theorem mkL_191 : Cond.methodLink RL 191 yX8_loggedDepth ∈ UU := UU_in 1147 (by decide +kernel) rfl
theorem mkL_194 : Cond.methodLink RL 194 yX8_canSetOff ∈ UU := UU_in 1151 (by decide +kernel) rfl
theorem mkX8_125 : Cond.methodLink RX8 125 yX8_setsOff ∈ UU := UU_in 1155 (by decide +kernel) rfl
theorem mkL_197 : Cond.methodLink RL 197 yX8_reachOf ∈ UU := UU_in 1159 (by decide +kernel) rfl
theorem mkX8_133 : Cond.methodLink RX8 133 yX8_reach ∈ UU := UU_in 1163 (by decide +kernel) rfl
theorem mkX8_129 : Cond.methodLink RX8 129 yX8_straight ∈ UU := UU_in 1167 (by decide +kernel) rfl
theorem mkL_200 : Cond.methodLink RL 200 yX8_reachByTable ∈ UU := UU_in 1171 (by decide +kernel) rfl
theorem mkX8_136 : Cond.methodLink RX8 136 yX8_reachOf ∈ UU := UU_in 1175 (by decide +kernel) rfl
theorem mkL_204 : Cond.methodLink RL 204 yX8_circularRules ∈ UU := UU_in 1176 (by decide +kernel) rfl
theorem mkL_210 : Cond.methodLink RL 210 yX8_appendText ∈ UU := UU_in 1180 (by decide +kernel) rfl
theorem lkX8_139 : Cond.constantLong RX8 139 (255 : Int64) ∈ UU := UU_in 1184 (by decide +kernel) rfl
theorem mkL_214 : Cond.methodLink RL 214 yX8_clearText ∈ UU := UU_in 1185 (by decide +kernel) rfl
theorem mkL_218 : Cond.methodLink RL 218 yX8_textLength ∈ UU := UU_in 1189 (by decide +kernel) rfl
theorem mkL_222 : Cond.methodLink RL 222 yX8_textError ∈ UU := UU_in 1193 (by decide +kernel) rfl
theorem mkX8_181 : Cond.methodLink RX8 181 yX8_goesThrough ∈ UU := UU_in 1197 (by decide +kernel) rfl
theorem mkX8_175 : Cond.methodLink RX8 175 yX8_readCommand ∈ UU := UU_in 1201 (by decide +kernel) rfl
theorem mkX8_151 : Cond.methodLink RX8 151 yX8_takes ∈ UU := UU_in 1205 (by decide +kernel) rfl
theorem mkX8_160 : Cond.methodLink RX8 160 yX8_number ∈ UU := UU_in 1209 (by decide +kernel) rfl
theorem mkX8_178 : Cond.methodLink RX8 178 yX8_does ∈ UU := UU_in 1213 (by decide +kernel) rfl
theorem mkL_226 : Cond.methodLink RL 226 yX8_runText ∈ UU := UU_in 1217 (by decide +kernel) rfl
theorem mkL_229 : Cond.methodLink RL 229 yX8_undo ∈ UU := UU_in 1221 (by decide +kernel) rfl
theorem mkL_233 : Cond.methodLink RL 233 yX8_undoCount ∈ UU := UU_in 1225 (by decide +kernel) rfl
theorem mkL_236 : Cond.methodLink RL 236 yX8_saveState ∈ UU := UU_in 1229 (by decide +kernel) rfl
theorem mkL_239 : Cond.methodLink RL 239 yX8_loadState ∈ UU := UU_in 1233 (by decide +kernel) rfl
theorem lkL_205 : Cond.constantLong RL 205 (4294967295 : Int64) ∈ UU := UU_in 1237 (by decide +kernel) rfl
theorem ac_long : Cond.arrayClass .long ∈ UU := UU_in 1238 (by decide +kernel) rfl
theorem fkJ0_9 : Cond.fieldLink RJ0 9 "java/lang/String" "value" "[B" ∈ UU := UU_in 1240 (by decide +kernel) rfl
theorem fkJ0_15 : Cond.fieldLink RJ0 15 "java/lang/String" "coder" "B" ∈ UU := UU_in 1241 (by decide +kernel) rfl
theorem aoX3 (G : PG) (U : State) (h : OW G U) : va_AO "RowTriggers$Rule" U := h.2.2.2.2.2.2.2.2.1
theorem aoX4 (G : PG) (U : State) (h : OW G U) : va_AO "RowTriggers$State" U := h.2.2.2.2.2.2.2.2.2
abbrev EIAE : String := "java/lang/IllegalArgumentException"
set_option maxRecDepth 100000 in
theorem twIAE : TW 63 EIAE := ⟨by decide +kernel, UU_in 53 (by decide +kernel) rfl, by decide +kernel⟩
theorem caIAE : Cond.castable EIAE EIAE ∈ UN := UN_in 440 (by decide +kernel) rfl
abbrev EISE : String := "java/lang/IllegalStateException"
set_option maxRecDepth 100000 in
theorem twISE : TW 74 EISE := ⟨by decide +kernel, UU_in 54 (by decide +kernel) rfl, by decide +kernel⟩
theorem caISE : Cond.castable EISE EISE ∈ UN := UN_in 507 (by decide +kernel) rfl
abbrev EIOE : String := "java/lang/IndexOutOfBoundsException"
set_option maxRecDepth 100000 in
theorem twIOE : TW 284 EIOE := ⟨by decide +kernel, UU_in 57 (by decide +kernel) rfl, by decide +kernel⟩
theorem caIOE : Cond.castable EIOE EIOE ∈ UN := UN_in 562 (by decide +kernel) rfl
