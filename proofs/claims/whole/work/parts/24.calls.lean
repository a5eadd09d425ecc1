/-! links: the methods that are called -/
set_option maxRecDepth 100000 in
theorem wc_Bench_init : Cond.code m_Bench_init.1 m_Bench_init.2.1 m_Bench_init.2.2.1 m_Bench_init.2.2.2 ∈ nm_ws := nm_at 63 rfl rfl
theorem wi_Bench_init : Cond.instanceMethod m_Bench_init.1 ∈ nm_ws := nm_at 62 (by decide +kernel) rfl
set_option maxRecDepth 100000 in
theorem wc_Bench_apart : Cond.code m_Bench_apart.1 m_Bench_apart.2.1 m_Bench_apart.2.2.1 m_Bench_apart.2.2.2 ∈ nm_ws := nm_at 622 rfl rfl
theorem wi_Bench_apart : Cond.instanceMethod m_Bench_apart.1 ∈ nm_ws := nm_at 620 (by decide +kernel) rfl
theorem wv_Bench_apart : Cond.selects m_Bench_apart.1.cls m_Bench_apart.1 m_Bench_apart.1 ∈ nm_ws := nm_at 621 (by decide +kernel) rfl
set_option maxRecDepth 100000 in
theorem wc_Bench_begin : Cond.code m_Bench_begin.1 m_Bench_begin.2.1 m_Bench_begin.2.2.1 m_Bench_begin.2.2.2 ∈ nm_ws := nm_at 729 rfl rfl
theorem wi_Bench_begin : Cond.instanceMethod m_Bench_begin.1 ∈ nm_ws := nm_at 727 (by decide +kernel) rfl
theorem wv_Bench_begin : Cond.selects m_Bench_begin.1.cls m_Bench_begin.1 m_Bench_begin.1 ∈ nm_ws := nm_at 728 (by decide +kernel) rfl
set_option maxRecDepth 100000 in
theorem wc_Bench_change : Cond.code m_Bench_change.1 m_Bench_change.2.1 m_Bench_change.2.2.1 m_Bench_change.2.2.2 ∈ nm_ws := nm_at 699 rfl rfl
theorem wi_Bench_change : Cond.instanceMethod m_Bench_change.1 ∈ nm_ws := nm_at 697 (by decide +kernel) rfl
theorem wv_Bench_change : Cond.selects m_Bench_change.1.cls m_Bench_change.1 m_Bench_change.1 ∈ nm_ws := nm_at 698 (by decide +kernel) rfl
set_option maxRecDepth 100000 in
theorem wc_Bench_covered : Cond.code m_Bench_covered.1 m_Bench_covered.2.1 m_Bench_covered.2.2.1 m_Bench_covered.2.2.2 ∈ nm_ws := nm_at 417 rfl rfl
theorem wi_Bench_covered : Cond.instanceMethod m_Bench_covered.1 ∈ nm_ws := nm_at 415 (by decide +kernel) rfl
theorem wv_Bench_covered : Cond.selects m_Bench_covered.1.cls m_Bench_covered.1 m_Bench_covered.1 ∈ nm_ws := nm_at 416 (by decide +kernel) rfl
set_option maxRecDepth 100000 in
theorem wc_Bench_edge : Cond.code m_Bench_edge.1 m_Bench_edge.2.1 m_Bench_edge.2.2.1 m_Bench_edge.2.2.2 ∈ nm_ws := nm_at 447 rfl rfl
theorem wi_Bench_edge : Cond.instanceMethod m_Bench_edge.1 ∈ nm_ws := nm_at 445 (by decide +kernel) rfl
theorem wv_Bench_edge : Cond.selects m_Bench_edge.1.cls m_Bench_edge.1 m_Bench_edge.1 ∈ nm_ws := nm_at 446 (by decide +kernel) rfl
set_option maxRecDepth 100000 in
theorem wc_Bench_failed : Cond.code m_Bench_failed.1 m_Bench_failed.2.1 m_Bench_failed.2.2.1 m_Bench_failed.2.2.2 ∈ nm_ws := nm_at 413 rfl rfl
theorem wi_Bench_failed : Cond.instanceMethod m_Bench_failed.1 ∈ nm_ws := nm_at 411 (by decide +kernel) rfl
theorem wv_Bench_failed : Cond.selects m_Bench_failed.1.cls m_Bench_failed.1 m_Bench_failed.1 ∈ nm_ws := nm_at 412 (by decide +kernel) rfl
set_option maxRecDepth 100000 in
theorem wc_Bench_family : Cond.code m_Bench_family.1 m_Bench_family.2.1 m_Bench_family.2.2.1 m_Bench_family.2.2.2 ∈ nm_ws := nm_at 372 rfl rfl
theorem wi_Bench_family : Cond.instanceMethod m_Bench_family.1 ∈ nm_ws := nm_at 370 (by decide +kernel) rfl
theorem wv_Bench_family : Cond.selects m_Bench_family.1.cls m_Bench_family.1 m_Bench_family.1 ∈ nm_ws := nm_at 371 (by decide +kernel) rfl
set_option maxRecDepth 100000 in
theorem wc_Bench_give : Cond.code m_Bench_give.1 m_Bench_give.2.1 m_Bench_give.2.2.1 m_Bench_give.2.2.2 ∈ nm_ws := nm_at 740 rfl rfl
theorem wi_Bench_give : Cond.instanceMethod m_Bench_give.1 ∈ nm_ws := nm_at 738 (by decide +kernel) rfl
theorem wv_Bench_give : Cond.selects m_Bench_give.1.cls m_Bench_give.1 m_Bench_give.1 ∈ nm_ws := nm_at 739 (by decide +kernel) rfl
set_option maxRecDepth 100000 in
theorem wc_Bench_look : Cond.code m_Bench_look.1 m_Bench_look.2.1 m_Bench_look.2.2.1 m_Bench_look.2.2.2 ∈ nm_ws := nm_at 435 rfl rfl
theorem wi_Bench_look : Cond.instanceMethod m_Bench_look.1 ∈ nm_ws := nm_at 433 (by decide +kernel) rfl
theorem wv_Bench_look : Cond.selects m_Bench_look.1.cls m_Bench_look.1 m_Bench_look.1 ∈ nm_ws := nm_at 434 (by decide +kernel) rfl
set_option maxRecDepth 100000 in
theorem wc_Bench_minimal : Cond.code m_Bench_minimal.1 m_Bench_minimal.2.1 m_Bench_minimal.2.2.1 m_Bench_minimal.2.2.2 ∈ nm_ws := nm_at 356 rfl rfl
theorem wi_Bench_minimal : Cond.instanceMethod m_Bench_minimal.1 ∈ nm_ws := nm_at 354 (by decide +kernel) rfl
theorem wv_Bench_minimal : Cond.selects m_Bench_minimal.1.cls m_Bench_minimal.1 m_Bench_minimal.1 ∈ nm_ws := nm_at 355 (by decide +kernel) rfl
set_option maxRecDepth 100000 in
theorem wc_Bench_own : Cond.code m_Bench_own.1 m_Bench_own.2.1 m_Bench_own.2.2.1 m_Bench_own.2.2.2 ∈ nm_ws := nm_at 380 rfl rfl
theorem wi_Bench_own : Cond.instanceMethod m_Bench_own.1 ∈ nm_ws := nm_at 378 (by decide +kernel) rfl
theorem wv_Bench_own : Cond.selects m_Bench_own.1.cls m_Bench_own.1 m_Bench_own.1 ∈ nm_ws := nm_at 379 (by decide +kernel) rfl
set_option maxRecDepth 100000 in
theorem wc_Bench_resize : Cond.code m_Bench_resize.1 m_Bench_resize.2.1 m_Bench_resize.2.2.1 m_Bench_resize.2.2.2 ∈ nm_ws := nm_at 691 rfl rfl
theorem wi_Bench_resize : Cond.instanceMethod m_Bench_resize.1 ∈ nm_ws := nm_at 689 (by decide +kernel) rfl
theorem wv_Bench_resize : Cond.selects m_Bench_resize.1.cls m_Bench_resize.1 m_Bench_resize.1 ∈ nm_ws := nm_at 690 (by decide +kernel) rfl
set_option maxRecDepth 100000 in
theorem wc_Bench_run : Cond.code m_Bench_run.1 m_Bench_run.2.1 m_Bench_run.2.2.1 m_Bench_run.2.2.2 ∈ nm_ws := nm_at 706 rfl rfl
theorem wi_Bench_run : Cond.instanceMethod m_Bench_run.1 ∈ nm_ws := nm_at 704 (by decide +kernel) rfl
theorem wv_Bench_run : Cond.selects m_Bench_run.1.cls m_Bench_run.1 m_Bench_run.1 ∈ nm_ws := nm_at 705 (by decide +kernel) rfl
set_option maxRecDepth 100000 in
theorem wc_Bench_same : Cond.code m_Bench_same.1 m_Bench_same.2.1 m_Bench_same.2.2.1 m_Bench_same.2.2.2 ∈ nm_ws := nm_at 748 rfl rfl
theorem wi_Bench_same : Cond.instanceMethod m_Bench_same.1 ∈ nm_ws := nm_at 746 (by decide +kernel) rfl
theorem wv_Bench_same : Cond.selects m_Bench_same.1.cls m_Bench_same.1 m_Bench_same.1 ∈ nm_ws := nm_at 747 (by decide +kernel) rfl
set_option maxRecDepth 100000 in
theorem wc_Bench_seal : Cond.code m_Bench_seal.1 m_Bench_seal.2.1 m_Bench_seal.2.2.1 m_Bench_seal.2.2.2 ∈ nm_ws := nm_at 549 rfl rfl
theorem wi_Bench_seal : Cond.instanceMethod m_Bench_seal.1 ∈ nm_ws := nm_at 547 (by decide +kernel) rfl
theorem wv_Bench_seal : Cond.selects m_Bench_seal.1.cls m_Bench_seal.1 m_Bench_seal.1 ∈ nm_ws := nm_at 548 (by decide +kernel) rfl
set_option maxRecDepth 100000 in
theorem wc_Bench_start : Cond.code m_Bench_start.1 m_Bench_start.2.1 m_Bench_start.2.2.1 m_Bench_start.2.2.2 ∈ nm_ws := nm_at 542 rfl rfl
theorem wi_Bench_start : Cond.instanceMethod m_Bench_start.1 ∈ nm_ws := nm_at 540 (by decide +kernel) rfl
theorem wv_Bench_start : Cond.selects m_Bench_start.1.cls m_Bench_start.1 m_Bench_start.1 ∈ nm_ws := nm_at 541 (by decide +kernel) rfl
set_option maxRecDepth 100000 in
theorem wc_Bench_suite : Cond.code m_Bench_suite.1 m_Bench_suite.2.1 m_Bench_suite.2.2.1 m_Bench_suite.2.2.2 ∈ nm_ws := nm_at 632 rfl rfl
theorem wi_Bench_suite : Cond.instanceMethod m_Bench_suite.1 ∈ nm_ws := nm_at 630 (by decide +kernel) rfl
theorem wv_Bench_suite : Cond.selects m_Bench_suite.1.cls m_Bench_suite.1 m_Bench_suite.1 ∈ nm_ws := nm_at 631 (by decide +kernel) rfl
set_option maxRecDepth 100000 in
theorem wc_Bench_tellInput : Cond.code m_Bench_tellInput.1 m_Bench_tellInput.2.1 m_Bench_tellInput.2.2.1 m_Bench_tellInput.2.2.2 ∈ nm_ws := nm_at 733 rfl rfl
theorem wi_Bench_tellInput : Cond.instanceMethod m_Bench_tellInput.1 ∈ nm_ws := nm_at 732 (by decide +kernel) rfl
theorem wv_Bench_tellInput : Cond.selects m_Bench_tellInput.1.cls m_Bench_tellInput.1 m_Bench_tellInput.1 ∈ nm_ws := nm_at 18 (by decide +kernel) rfl
set_option maxRecDepth 100000 in
theorem wc_Bench_test : Cond.code m_Bench_test.1 m_Bench_test.2.1 m_Bench_test.2.2.1 m_Bench_test.2.2.2 ∈ nm_ws := nm_at 384 rfl rfl
theorem wi_Bench_test : Cond.instanceMethod m_Bench_test.1 ∈ nm_ws := nm_at 382 (by decide +kernel) rfl
theorem wv_Bench_test : Cond.selects m_Bench_test.1.cls m_Bench_test.1 m_Bench_test.1 ∈ nm_ws := nm_at 383 (by decide +kernel) rfl
set_option maxRecDepth 100000 in
theorem wc_Bench_word : Cond.code m_Bench_word.1 m_Bench_word.2.1 m_Bench_word.2.2.1 m_Bench_word.2.2.2 ∈ nm_ws := nm_at 364 rfl rfl
theorem wi_Bench_word : Cond.instanceMethod m_Bench_word.1 ∈ nm_ws := nm_at 362 (by decide +kernel) rfl
theorem wv_Bench_word : Cond.selects m_Bench_word.1.cls m_Bench_word.1 m_Bench_word.1 ∈ nm_ws := nm_at 363 (by decide +kernel) rfl
set_option maxRecDepth 100000 in
theorem wc_Family_init : Cond.code m_Family_init.1 m_Family_init.2.1 m_Family_init.2.2.1 m_Family_init.2.2.2 ∈ nm_ws := nm_at 153 rfl rfl
theorem wi_Family_init : Cond.instanceMethod m_Family_init.1 ∈ nm_ws := nm_at 152 (by decide +kernel) rfl
set_option maxRecDepth 100000 in
theorem wc_Family_choose : Cond.code m_Family_choose.1 m_Family_choose.2.1 m_Family_choose.2.2.1 m_Family_choose.2.2.2 ∈ nm_ws := nm_at 586 rfl rfl
theorem wi_Family_choose : Cond.instanceMethod m_Family_choose.1 ∈ nm_ws := nm_at 584 (by decide +kernel) rfl
theorem wv_Family_choose : Cond.selects m_Family_choose.1.cls m_Family_choose.1 m_Family_choose.1 ∈ nm_ws := nm_at 585 (by decide +kernel) rfl
set_option maxRecDepth 100000 in
theorem wc_Family_chooseOwn : Cond.code m_Family_chooseOwn.1 m_Family_chooseOwn.2.1 m_Family_chooseOwn.2.2.1 m_Family_chooseOwn.2.2.2 ∈ nm_ws := nm_at 606 rfl rfl
theorem wi_Family_chooseOwn : Cond.instanceMethod m_Family_chooseOwn.1 ∈ nm_ws := nm_at 605 (by decide +kernel) rfl
theorem wv_Family_chooseOwn : Cond.selects m_Family_chooseOwn.1.cls m_Family_chooseOwn.1 m_Family_chooseOwn.1 ∈ nm_ws := nm_at 8 (by decide +kernel) rfl
set_option maxRecDepth 100000 in
theorem wc_Family_firstWord : Cond.code m_Family_firstWord.1 m_Family_firstWord.2.1 m_Family_firstWord.2.2.1 m_Family_firstWord.2.2.2 ∈ nm_ws := nm_at 590 rfl rfl
theorem wi_Family_firstWord : Cond.instanceMethod m_Family_firstWord.1 ∈ nm_ws := nm_at 589 (by decide +kernel) rfl
theorem wv_Family_firstWord : Cond.selects m_Family_firstWord.1.cls m_Family_firstWord.1 m_Family_firstWord.1 ∈ nm_ws := nm_at 7 (by decide +kernel) rfl
set_option maxRecDepth 100000 in
theorem wc_Family_has : Cond.code m_Family_has.1 m_Family_has.2.1 m_Family_has.2.2.1 m_Family_has.2.2.2 ∈ nm_ws := nm_at 376 rfl rfl
theorem wi_Family_has : Cond.instanceMethod m_Family_has.1 ∈ nm_ws := nm_at 374 (by decide +kernel) rfl
theorem wv_Family_has : Cond.selects m_Family_has.1.cls m_Family_has.1 m_Family_has.1 ∈ nm_ws := nm_at 375 (by decide +kernel) rfl
set_option maxRecDepth 100000 in
theorem wc_Family_ownTells : Cond.code m_Family_ownTells.1 m_Family_ownTells.2.1 m_Family_ownTells.2.2.1 m_Family_ownTells.2.2.2 ∈ nm_ws := nm_at 610 rfl rfl
theorem wi_Family_ownTells : Cond.instanceMethod m_Family_ownTells.1 ∈ nm_ws := nm_at 609 (by decide +kernel) rfl
theorem wv_Family_ownTells : Cond.selects m_Family_ownTells.1.cls m_Family_ownTells.1 m_Family_ownTells.1 ∈ nm_ws := nm_at 9 (by decide +kernel) rfl
set_option maxRecDepth 100000 in
theorem wc_Machine_init : Cond.code m_Machine_init.1 m_Machine_init.2.1 m_Machine_init.2.2.1 m_Machine_init.2.2.2 ∈ nm_ws := nm_at 77 rfl rfl
theorem wi_Machine_init : Cond.instanceMethod m_Machine_init.1 ∈ nm_ws := nm_at 76 (by decide +kernel) rfl
set_option maxRecDepth 100000 in
theorem wc_Machine_allows : Cond.code m_Machine_allows.1 m_Machine_allows.2.1 m_Machine_allows.2.2.1 m_Machine_allows.2.2.2 ∈ nm_ws := nm_at 451 rfl rfl
theorem wi_Machine_allows : Cond.instanceMethod m_Machine_allows.1 ∈ nm_ws := nm_at 449 (by decide +kernel) rfl
theorem wv_Machine_allows : Cond.selects m_Machine_allows.1.cls m_Machine_allows.1 m_Machine_allows.1 ∈ nm_ws := nm_at 450 (by decide +kernel) rfl
set_option maxRecDepth 100000 in
theorem wc_Machine_copy : Cond.code m_Machine_copy.1 m_Machine_copy.2.1 m_Machine_copy.2.2.1 m_Machine_copy.2.2.2 ∈ nm_ws := nm_at 614 rfl rfl
theorem wi_Machine_copy : Cond.instanceMethod m_Machine_copy.1 ∈ nm_ws := nm_at 612 (by decide +kernel) rfl
theorem wv_Machine_copy : Cond.selects m_Machine_copy.1.cls m_Machine_copy.1 m_Machine_copy.1 ∈ nm_ws := nm_at 613 (by decide +kernel) rfl
set_option maxRecDepth 100000 in
theorem wc_Machine_fitTo : Cond.code m_Machine_fitTo.1 m_Machine_fitTo.2.1 m_Machine_fitTo.2.2.1 m_Machine_fitTo.2.2.2 ∈ nm_ws := nm_at 82 rfl rfl
theorem wi_Machine_fitTo : Cond.instanceMethod m_Machine_fitTo.1 ∈ nm_ws := nm_at 80 (by decide +kernel) rfl
theorem wv_Machine_fitTo : Cond.selects m_Machine_fitTo.1.cls m_Machine_fitTo.1 m_Machine_fitTo.1 ∈ nm_ws := nm_at 81 (by decide +kernel) rfl
set_option maxRecDepth 100000 in
theorem wc_Machine_hasOutput : Cond.code m_Machine_hasOutput.1 m_Machine_hasOutput.2.1 m_Machine_hasOutput.2.2.1 m_Machine_hasOutput.2.2.2 ∈ nm_ws := nm_at 456 rfl rfl
theorem wi_Machine_hasOutput : Cond.instanceMethod m_Machine_hasOutput.1 ∈ nm_ws := nm_at 454 (by decide +kernel) rfl
theorem wv_Machine_hasOutput : Cond.selects m_Machine_hasOutput.1.cls m_Machine_hasOutput.1 m_Machine_hasOutput.1 ∈ nm_ws := nm_at 455 (by decide +kernel) rfl
set_option maxRecDepth 100000 in
theorem wc_Machine_hasState : Cond.code m_Machine_hasState.1 m_Machine_hasState.2.1 m_Machine_hasState.2.2.1 m_Machine_hasState.2.2.2 ∈ nm_ws := nm_at 360 rfl rfl
theorem wi_Machine_hasState : Cond.instanceMethod m_Machine_hasState.1 ∈ nm_ws := nm_at 358 (by decide +kernel) rfl
theorem wv_Machine_hasState : Cond.selects m_Machine_hasState.1.cls m_Machine_hasState.1 m_Machine_hasState.1 ∈ nm_ws := nm_at 359 (by decide +kernel) rfl
set_option maxRecDepth 100000 in
theorem wc_Machine_next : Cond.code m_Machine_next.1 m_Machine_next.2.1 m_Machine_next.2.2.1 m_Machine_next.2.2.2 ∈ nm_ws := nm_at 90 rfl rfl
theorem wi_Machine_next : Cond.instanceMethod m_Machine_next.1 ∈ nm_ws := nm_at 88 (by decide +kernel) rfl
theorem wv_Machine_next : Cond.selects m_Machine_next.1.cls m_Machine_next.1 m_Machine_next.1 ∈ nm_ws := nm_at 89 (by decide +kernel) rfl
set_option maxRecDepth 100000 in
theorem wc_Machine_output : Cond.code m_Machine_output.1 m_Machine_output.2.1 m_Machine_output.2.2.1 m_Machine_output.2.2.2 ∈ nm_ws := nm_at 94 rfl rfl
theorem wi_Machine_output : Cond.instanceMethod m_Machine_output.1 ∈ nm_ws := nm_at 92 (by decide +kernel) rfl
theorem wv_Machine_output : Cond.selects m_Machine_output.1.cls m_Machine_output.1 m_Machine_output.1 ∈ nm_ws := nm_at 93 (by decide +kernel) rfl
set_option maxRecDepth 100000 in
theorem wc_Machine_set : Cond.code m_Machine_set.1 m_Machine_set.2.1 m_Machine_set.2.2.1 m_Machine_set.2.2.2 ∈ nm_ws := nm_at 86 rfl rfl
theorem wi_Machine_set : Cond.instanceMethod m_Machine_set.1 ∈ nm_ws := nm_at 84 (by decide +kernel) rfl
theorem wv_Machine_set : Cond.selects m_Machine_set.1.cls m_Machine_set.1 m_Machine_set.1 ∈ nm_ws := nm_at 85 (by decide +kernel) rfl
set_option maxRecDepth 100000 in
theorem wc_Machine_tellsApart : Cond.code m_Machine_tellsApart.1 m_Machine_tellsApart.2.1 m_Machine_tellsApart.2.2.1 m_Machine_tellsApart.2.2.2 ∈ nm_ws := nm_at 594 rfl rfl
theorem wi_Machine_tellsApart : Cond.instanceMethod m_Machine_tellsApart.1 ∈ nm_ws := nm_at 592 (by decide +kernel) rfl
theorem wv_Machine_tellsApart : Cond.selects m_Machine_tellsApart.1.cls m_Machine_tellsApart.1 m_Machine_tellsApart.1 ∈ nm_ws := nm_at 593 (by decide +kernel) rfl
set_option maxRecDepth 100000 in
theorem wc_Search_find : Cond.code m_Search_find.1 m_Search_find.2.1 m_Search_find.2.2.1 m_Search_find.2.2.2 ∈ nm_ws := nm_at 561 rfl rfl
theorem wi_Search_find : Cond.instanceMethod m_Search_find.1 ∈ nm_ws := nm_at 559 (by decide +kernel) rfl
theorem wv_Search_find : Cond.selects m_Search_find.1.cls m_Search_find.1 m_Search_find.1 ∈ nm_ws := nm_at 560 (by decide +kernel) rfl
set_option maxRecDepth 100000 in
theorem wc_Search_forget : Cond.code m_Search_forget.1 m_Search_forget.2.1 m_Search_forget.2.2.1 m_Search_forget.2.2.2 ∈ nm_ws := nm_at 565 rfl rfl
theorem wi_Search_forget : Cond.instanceMethod m_Search_forget.1 ∈ nm_ws := nm_at 564 (by decide +kernel) rfl
theorem wv_Search_forget : Cond.selects m_Search_forget.1.cls m_Search_forget.1 m_Search_forget.1 ∈ nm_ws := nm_at 3 (by decide +kernel) rfl
set_option maxRecDepth 100000 in
theorem wc_Search_reach : Cond.code m_Search_reach.1 m_Search_reach.2.1 m_Search_reach.2.2.1 m_Search_reach.2.2.2 ∈ nm_ws := nm_at 569 rfl rfl
theorem wi_Search_reach : Cond.instanceMethod m_Search_reach.1 ∈ nm_ws := nm_at 568 (by decide +kernel) rfl
theorem wv_Search_reach : Cond.selects m_Search_reach.1.cls m_Search_reach.1 m_Search_reach.1 ∈ nm_ws := nm_at 4 (by decide +kernel) rfl
set_option maxRecDepth 100000 in
theorem wc_Search_spell : Cond.code m_Search_spell.1 m_Search_spell.2.1 m_Search_spell.2.2.1 m_Search_spell.2.2.2 ∈ nm_ws := nm_at 574 rfl rfl
theorem wi_Search_spell : Cond.instanceMethod m_Search_spell.1 ∈ nm_ws := nm_at 573 (by decide +kernel) rfl
theorem wv_Search_spell : Cond.selects m_Search_spell.1.cls m_Search_spell.1 m_Search_spell.1 ∈ nm_ws := nm_at 5 (by decide +kernel) rfl
set_option maxRecDepth 100000 in
theorem wc_Reduction_init : Cond.code m_Reduction_init.1 m_Reduction_init.2.1 m_Reduction_init.2.2.1 m_Reduction_init.2.2.2 ∈ nm_ws := nm_at 121 rfl rfl
theorem wi_Reduction_init : Cond.instanceMethod m_Reduction_init.1 ∈ nm_ws := nm_at 120 (by decide +kernel) rfl
set_option maxRecDepth 100000 in
theorem wc_Reduction_addState : Cond.code m_Reduction_addState.1 m_Reduction_addState.2.1 m_Reduction_addState.2.2.1 m_Reduction_addState.2.2.2 ∈ nm_ws := nm_at 579 rfl rfl
theorem wi_Reduction_addState : Cond.instanceMethod m_Reduction_addState.1 ∈ nm_ws := nm_at 578 (by decide +kernel) rfl
theorem wv_Reduction_addState : Cond.selects m_Reduction_addState.1.cls m_Reduction_addState.1 m_Reduction_addState.1 ∈ nm_ws := nm_at 6 (by decide +kernel) rfl
set_option maxRecDepth 100000 in
theorem wc_Reduction_findTwins : Cond.code m_Reduction_findTwins.1 m_Reduction_findTwins.2.1 m_Reduction_findTwins.2.2.1 m_Reduction_findTwins.2.2.2 ∈ nm_ws := nm_at 557 rfl rfl
theorem wi_Reduction_findTwins : Cond.instanceMethod m_Reduction_findTwins.1 ∈ nm_ws := nm_at 556 (by decide +kernel) rfl
theorem wv_Reduction_findTwins : Cond.selects m_Reduction_findTwins.1.cls m_Reduction_findTwins.1 m_Reduction_findTwins.1 ∈ nm_ws := nm_at 2 (by decide +kernel) rfl
set_option maxRecDepth 100000 in
theorem wc_Reduction_isAccess : Cond.code m_Reduction_isAccess.1 m_Reduction_isAccess.2.1 m_Reduction_isAccess.2.2.1 m_Reduction_isAccess.2.2.2 ∈ nm_ws := nm_at 665 rfl rfl
theorem wi_Reduction_isAccess : Cond.instanceMethod m_Reduction_isAccess.1 ∈ nm_ws := nm_at 663 (by decide +kernel) rfl
theorem wv_Reduction_isAccess : Cond.selects m_Reduction_isAccess.1.cls m_Reduction_isAccess.1 m_Reduction_isAccess.1 ∈ nm_ws := nm_at 664 (by decide +kernel) rfl
set_option maxRecDepth 100000 in
theorem wc_Reduction_reduce : Cond.code m_Reduction_reduce.1 m_Reduction_reduce.2.1 m_Reduction_reduce.2.2.1 m_Reduction_reduce.2.2.2 ∈ nm_ws := nm_at 553 rfl rfl
theorem wi_Reduction_reduce : Cond.instanceMethod m_Reduction_reduce.1 ∈ nm_ws := nm_at 551 (by decide +kernel) rfl
theorem wv_Reduction_reduce : Cond.selects m_Reduction_reduce.1.cls m_Reduction_reduce.1 m_Reduction_reduce.1 ∈ nm_ws := nm_at 552 (by decide +kernel) rfl
set_option maxRecDepth 100000 in
theorem wc_Suite_init : Cond.code m_Suite_init.1 m_Suite_init.2.1 m_Suite_init.2.2.1 m_Suite_init.2.2.2 ∈ nm_ws := nm_at 254 rfl rfl
theorem wi_Suite_init : Cond.instanceMethod m_Suite_init.1 ∈ nm_ws := nm_at 253 (by decide +kernel) rfl
set_option maxRecDepth 100000 in
theorem wc_Suite_addFamily : Cond.code m_Suite_addFamily.1 m_Suite_addFamily.2.1 m_Suite_addFamily.2.2.1 m_Suite_addFamily.2.2.2 ∈ nm_ws := nm_at 653 rfl rfl
theorem wi_Suite_addFamily : Cond.instanceMethod m_Suite_addFamily.1 ∈ nm_ws := nm_at 652 (by decide +kernel) rfl
theorem wv_Suite_addFamily : Cond.selects m_Suite_addFamily.1.cls m_Suite_addFamily.1 m_Suite_addFamily.1 ∈ nm_ws := nm_at 13 (by decide +kernel) rfl
set_option maxRecDepth 100000 in
theorem wc_Suite_addNode : Cond.code m_Suite_addNode.1 m_Suite_addNode.2.1 m_Suite_addNode.2.2.1 m_Suite_addNode.2.2.2 ∈ nm_ws := nm_at 640 rfl rfl
theorem wi_Suite_addNode : Cond.instanceMethod m_Suite_addNode.1 ∈ nm_ws := nm_at 639 (by decide +kernel) rfl
theorem wv_Suite_addNode : Cond.selects m_Suite_addNode.1.cls m_Suite_addNode.1 m_Suite_addNode.1 ∈ nm_ws := nm_at 10 (by decide +kernel) rfl
set_option maxRecDepth 100000 in
theorem wc_Suite_addOwn : Cond.code m_Suite_addOwn.1 m_Suite_addOwn.2.1 m_Suite_addOwn.2.2.1 m_Suite_addOwn.2.2.2 ∈ nm_ws := nm_at 661 rfl rfl
theorem wi_Suite_addOwn : Cond.instanceMethod m_Suite_addOwn.1 ∈ nm_ws := nm_at 660 (by decide +kernel) rfl
theorem wv_Suite_addOwn : Cond.selects m_Suite_addOwn.1.cls m_Suite_addOwn.1 m_Suite_addOwn.1 ∈ nm_ws := nm_at 15 (by decide +kernel) rfl
set_option maxRecDepth 100000 in
theorem wc_Suite_addWord : Cond.code m_Suite_addWord.1 m_Suite_addWord.2.1 m_Suite_addWord.2.2.1 m_Suite_addWord.2.2.2 ∈ nm_ws := nm_at 657 rfl rfl
theorem wi_Suite_addWord : Cond.instanceMethod m_Suite_addWord.1 ∈ nm_ws := nm_at 656 (by decide +kernel) rfl
theorem wv_Suite_addWord : Cond.selects m_Suite_addWord.1.cls m_Suite_addWord.1 m_Suite_addWord.1 ∈ nm_ws := nm_at 14 (by decide +kernel) rfl
set_option maxRecDepth 100000 in
theorem wc_Suite_behindInput : Cond.code m_Suite_behindInput.1 m_Suite_behindInput.2.1 m_Suite_behindInput.2.2.1 m_Suite_behindInput.2.2.2 ∈ nm_ws := nm_at 400 rfl rfl
theorem wi_Suite_behindInput : Cond.instanceMethod m_Suite_behindInput.1 ∈ nm_ws := nm_at 399 (by decide +kernel) rfl
theorem wv_Suite_behindInput : Cond.selects m_Suite_behindInput.1.cls m_Suite_behindInput.1 m_Suite_behindInput.1 ∈ nm_ws := nm_at 0 (by decide +kernel) rfl
set_option maxRecDepth 100000 in
theorem wc_Suite_build : Cond.code m_Suite_build.1 m_Suite_build.2.1 m_Suite_build.2.2.1 m_Suite_build.2.2.2 ∈ nm_ws := nm_at 636 rfl rfl
theorem wi_Suite_build : Cond.instanceMethod m_Suite_build.1 ∈ nm_ws := nm_at 634 (by decide +kernel) rfl
theorem wv_Suite_build : Cond.selects m_Suite_build.1.cls m_Suite_build.1 m_Suite_build.1 ∈ nm_ws := nm_at 635 (by decide +kernel) rfl
set_option maxRecDepth 100000 in
theorem wc_Suite_enter : Cond.code m_Suite_enter.1 m_Suite_enter.2.1 m_Suite_enter.2.2.1 m_Suite_enter.2.2.2 ∈ nm_ws := nm_at 644 rfl rfl
theorem wi_Suite_enter : Cond.instanceMethod m_Suite_enter.1 ∈ nm_ws := nm_at 643 (by decide +kernel) rfl
theorem wv_Suite_enter : Cond.selects m_Suite_enter.1.cls m_Suite_enter.1 m_Suite_enter.1 ∈ nm_ws := nm_at 11 (by decide +kernel) rfl
set_option maxRecDepth 100000 in
theorem wc_Suite_grow : Cond.code m_Suite_grow.1 m_Suite_grow.2.1 m_Suite_grow.2.2.1 m_Suite_grow.2.2.2 ∈ nm_ws := nm_at 649 rfl rfl
theorem wi_Suite_grow : Cond.instanceMethod m_Suite_grow.1 ∈ nm_ws := nm_at 648 (by decide +kernel) rfl
theorem wv_Suite_grow : Cond.selects m_Suite_grow.1.cls m_Suite_grow.1 m_Suite_grow.1 ∈ nm_ws := nm_at 12 (by decide +kernel) rfl
set_option maxRecDepth 100000 in
theorem wc_Suite_hasTest : Cond.code m_Suite_hasTest.1 m_Suite_hasTest.2.1 m_Suite_hasTest.2.2.1 m_Suite_hasTest.2.2.2 ∈ nm_ws := nm_at 388 rfl rfl
theorem wi_Suite_hasTest : Cond.instanceMethod m_Suite_hasTest.1 ∈ nm_ws := nm_at 386 (by decide +kernel) rfl
theorem wv_Suite_hasTest : Cond.selects m_Suite_hasTest.1.cls m_Suite_hasTest.1 m_Suite_hasTest.1 ∈ nm_ws := nm_at 387 (by decide +kernel) rfl
set_option maxRecDepth 100000 in
theorem wc_Suite_inputAt : Cond.code m_Suite_inputAt.1 m_Suite_inputAt.2.1 m_Suite_inputAt.2.2.1 m_Suite_inputAt.2.2.2 ∈ nm_ws := nm_at 409 rfl rfl
theorem wi_Suite_inputAt : Cond.instanceMethod m_Suite_inputAt.1 ∈ nm_ws := nm_at 407 (by decide +kernel) rfl
theorem wv_Suite_inputAt : Cond.selects m_Suite_inputAt.1.cls m_Suite_inputAt.1 m_Suite_inputAt.1 ∈ nm_ws := nm_at 408 (by decide +kernel) rfl
set_option maxRecDepth 100000 in
theorem wc_Suite_isMade : Cond.code m_Suite_isMade.1 m_Suite_isMade.2.1 m_Suite_isMade.2.2.1 m_Suite_isMade.2.2.2 ∈ nm_ws := nm_at 421 rfl rfl
theorem wi_Suite_isMade : Cond.instanceMethod m_Suite_isMade.1 ∈ nm_ws := nm_at 419 (by decide +kernel) rfl
theorem wv_Suite_isMade : Cond.selects m_Suite_isMade.1.cls m_Suite_isMade.1 m_Suite_isMade.1 ∈ nm_ws := nm_at 420 (by decide +kernel) rfl
set_option maxRecDepth 100000 in
theorem wc_Suite_lengthOf : Cond.code m_Suite_lengthOf.1 m_Suite_lengthOf.2.1 m_Suite_lengthOf.2.2.1 m_Suite_lengthOf.2.2.2 ∈ nm_ws := nm_at 392 rfl rfl
theorem wi_Suite_lengthOf : Cond.instanceMethod m_Suite_lengthOf.1 ∈ nm_ws := nm_at 390 (by decide +kernel) rfl
theorem wv_Suite_lengthOf : Cond.selects m_Suite_lengthOf.1.cls m_Suite_lengthOf.1 m_Suite_lengthOf.1 ∈ nm_ws := nm_at 391 (by decide +kernel) rfl
set_option maxRecDepth 100000 in
theorem wc_Suite_orderTests : Cond.code m_Suite_orderTests.1 m_Suite_orderTests.2.1 m_Suite_orderTests.2.2.1 m_Suite_orderTests.2.2.2 ∈ nm_ws := nm_at 669 rfl rfl
theorem wi_Suite_orderTests : Cond.instanceMethod m_Suite_orderTests.1 ∈ nm_ws := nm_at 668 (by decide +kernel) rfl
theorem wv_Suite_orderTests : Cond.selects m_Suite_orderTests.1.cls m_Suite_orderTests.1 m_Suite_orderTests.1 ∈ nm_ws := nm_at 16 (by decide +kernel) rfl
set_option maxRecDepth 100000 in
theorem wc_Suite_outputAt : Cond.code m_Suite_outputAt.1 m_Suite_outputAt.2.1 m_Suite_outputAt.2.2.1 m_Suite_outputAt.2.2.2 ∈ nm_ws := nm_at 396 rfl rfl
theorem wi_Suite_outputAt : Cond.instanceMethod m_Suite_outputAt.1 ∈ nm_ws := nm_at 394 (by decide +kernel) rfl
theorem wv_Suite_outputAt : Cond.selects m_Suite_outputAt.1.cls m_Suite_outputAt.1 m_Suite_outputAt.1 ∈ nm_ws := nm_at 395 (by decide +kernel) rfl
set_option maxRecDepth 100000 in
theorem wc_Suite_outputInto : Cond.code m_Suite_outputInto.1 m_Suite_outputInto.2.1 m_Suite_outputInto.2.2.1 m_Suite_outputInto.2.2.2 ∈ nm_ws := nm_at 404 rfl rfl
theorem wi_Suite_outputInto : Cond.instanceMethod m_Suite_outputInto.1 ∈ nm_ws := nm_at 402 (by decide +kernel) rfl
theorem wv_Suite_outputInto : Cond.selects m_Suite_outputInto.1.cls m_Suite_outputInto.1 m_Suite_outputInto.1 ∈ nm_ws := nm_at 403 (by decide +kernel) rfl
set_option maxRecDepth 100000 in
theorem wc_Suite_transitions : Cond.code m_Suite_transitions.1 m_Suite_transitions.2.1 m_Suite_transitions.2.2.1 m_Suite_transitions.2.2.2 ∈ nm_ws := nm_at 425 rfl rfl
theorem wi_Suite_transitions : Cond.instanceMethod m_Suite_transitions.1 ∈ nm_ws := nm_at 423 (by decide +kernel) rfl
theorem wv_Suite_transitions : Cond.selects m_Suite_transitions.1.cls m_Suite_transitions.1 m_Suite_transitions.1 ∈ nm_ws := nm_at 424 (by decide +kernel) rfl
set_option maxRecDepth 100000 in
theorem wc_Trial_firstFailure : Cond.code m_Trial_firstFailure.1 m_Trial_firstFailure.2.1 m_Trial_firstFailure.2.2.1 m_Trial_firstFailure.2.2.2 ∈ nm_ws := nm_at 710 rfl rfl
theorem wi_Trial_firstFailure : Cond.instanceMethod m_Trial_firstFailure.1 ∈ nm_ws := nm_at 708 (by decide +kernel) rfl
theorem wv_Trial_firstFailure : Cond.selects m_Trial_firstFailure.1.cls m_Trial_firstFailure.1 m_Trial_firstFailure.1 ∈ nm_ws := nm_at 709 (by decide +kernel) rfl
set_option maxRecDepth 100000 in
theorem wc_Trial_placeOf : Cond.code m_Trial_placeOf.1 m_Trial_placeOf.2.1 m_Trial_placeOf.2.2.1 m_Trial_placeOf.2.2.2 ∈ nm_ws := nm_at 721 rfl rfl
theorem wi_Trial_placeOf : Cond.instanceMethod m_Trial_placeOf.1 ∈ nm_ws := nm_at 719 (by decide +kernel) rfl
theorem wv_Trial_placeOf : Cond.selects m_Trial_placeOf.1.cls m_Trial_placeOf.1 m_Trial_placeOf.1 ∈ nm_ws := nm_at 720 (by decide +kernel) rfl
set_option maxRecDepth 100000 in
theorem wc_Trial_step : Cond.code m_Trial_step.1 m_Trial_step.2.1 m_Trial_step.2.2.1 m_Trial_step.2.2.2 ∈ nm_ws := nm_at 714 rfl rfl
theorem wi_Trial_step : Cond.instanceMethod m_Trial_step.1 ∈ nm_ws := nm_at 713 (by decide +kernel) rfl
theorem wv_Trial_step : Cond.selects m_Trial_step.1.cls m_Trial_step.1 m_Trial_step.1 ∈ nm_ws := nm_at 17 (by decide +kernel) rfl
set_option maxRecDepth 100000 in
theorem wc_Word_at : Cond.code m_Word_at.1 m_Word_at.2.1 m_Word_at.2.2.1 m_Word_at.2.2.2 ∈ nm_ws := nm_at 368 rfl rfl
theorem wi_Word_at : Cond.instanceMethod m_Word_at.1 ∈ nm_ws := nm_at 366 (by decide +kernel) rfl
theorem wv_Word_at : Cond.selects m_Word_at.1.cls m_Word_at.1 m_Word_at.1 ∈ nm_ws := nm_at 367 (by decide +kernel) rfl
set_option maxRecDepth 100000 in
theorem wc_Word_copy : Cond.code m_Word_copy.1 m_Word_copy.2.1 m_Word_copy.2.2.1 m_Word_copy.2.2.2 ∈ nm_ws := nm_at 599 rfl rfl
theorem wi_Word_copy : Cond.instanceMethod m_Word_copy.1 ∈ nm_ws := nm_at 597 (by decide +kernel) rfl
theorem wv_Word_copy : Cond.selects m_Word_copy.1.cls m_Word_copy.1 m_Word_copy.1 ∈ nm_ws := nm_at 598 (by decide +kernel) rfl
set_option maxRecDepth 100000 in
theorem wc_Law_cell : Cond.code m_Law_cell.1 m_Law_cell.2.1 m_Law_cell.2.2.1 m_Law_cell.2.2.2 ∈ nm_ws := nm_at 438 rfl rfl
theorem wt_Law_cell : Cond.static m_Law_cell.1 ∈ nm_ws := nm_at 437 (by decide +kernel) rfl
set_option maxRecDepth 100000 in
theorem wc_Model_init : Cond.code m_Model_init.1 m_Model_init.2.1 m_Model_init.2.2.1 m_Model_init.2.2.2 ∈ nm_ws := nm_at 753 rfl rfl
theorem wi_Model_init : Cond.instanceMethod m_Model_init.1 ∈ nm_ws := nm_at 752 (by decide +kernel) rfl
set_option maxRecDepth 100000 in
theorem wc_Model_apart : Cond.code m_Model_apart.1 m_Model_apart.2.1 m_Model_apart.2.2.1 m_Model_apart.2.2.2 ∈ nm_ws := nm_at 941 rfl rfl
theorem wi_Model_apart : Cond.instanceMethod m_Model_apart.1 ∈ nm_ws := nm_at 939 (by decide +kernel) rfl
theorem wv_Model_apart : Cond.selects m_Model_apart.1.cls m_Model_apart.1 m_Model_apart.1 ∈ nm_ws := nm_at 940 (by decide +kernel) rfl
set_option maxRecDepth 100000 in
theorem wc_Model_at : Cond.code m_Model_at.1 m_Model_at.2.1 m_Model_at.2.2.1 m_Model_at.2.2.2 ∈ nm_ws := nm_at 920 rfl rfl
theorem wt_Model_at : Cond.static m_Model_at.1 ∈ nm_ws := nm_at 919 (by decide +kernel) rfl
set_option maxRecDepth 100000 in
theorem wc_Model_begin : Cond.code m_Model_begin.1 m_Model_begin.2.1 m_Model_begin.2.2.1 m_Model_begin.2.2.2 ∈ nm_ws := nm_at 1025 rfl rfl
theorem wi_Model_begin : Cond.instanceMethod m_Model_begin.1 ∈ nm_ws := nm_at 1023 (by decide +kernel) rfl
theorem wv_Model_begin : Cond.selects m_Model_begin.1.cls m_Model_begin.1 m_Model_begin.1 ∈ nm_ws := nm_at 1024 (by decide +kernel) rfl
set_option maxRecDepth 100000 in
theorem wc_Model_change : Cond.code m_Model_change.1 m_Model_change.2.1 m_Model_change.2.2.1 m_Model_change.2.2.2 ∈ nm_ws := nm_at 1009 rfl rfl
theorem wi_Model_change : Cond.instanceMethod m_Model_change.1 ∈ nm_ws := nm_at 1007 (by decide +kernel) rfl
theorem wv_Model_change : Cond.selects m_Model_change.1.cls m_Model_change.1 m_Model_change.1 ∈ nm_ws := nm_at 1008 (by decide +kernel) rfl
set_option maxRecDepth 100000 in
theorem wc_Model_choose : Cond.code m_Model_choose.1 m_Model_choose.2.1 m_Model_choose.2.2.1 m_Model_choose.2.2.2 ∈ nm_ws := nm_at 910 rfl rfl
theorem wi_Model_choose : Cond.instanceMethod m_Model_choose.1 ∈ nm_ws := nm_at 909 (by decide +kernel) rfl
theorem wv_Model_choose : Cond.selects m_Model_choose.1.cls m_Model_choose.1 m_Model_choose.1 ∈ nm_ws := nm_at 24 (by decide +kernel) rfl
set_option maxRecDepth 100000 in
theorem wc_Model_chooseOwn : Cond.code m_Model_chooseOwn.1 m_Model_chooseOwn.2.1 m_Model_chooseOwn.2.2.1 m_Model_chooseOwn.2.2.2 ∈ nm_ws := nm_at 933 rfl rfl
theorem wi_Model_chooseOwn : Cond.instanceMethod m_Model_chooseOwn.1 ∈ nm_ws := nm_at 932 (by decide +kernel) rfl
theorem wv_Model_chooseOwn : Cond.selects m_Model_chooseOwn.1.cls m_Model_chooseOwn.1 m_Model_chooseOwn.1 ∈ nm_ws := nm_at 28 (by decide +kernel) rfl
set_option maxRecDepth 100000 in
theorem wc_Model_covered : Cond.code m_Model_covered.1 m_Model_covered.2.1 m_Model_covered.2.2.1 m_Model_covered.2.2.2 ∈ nm_ws := nm_at 1040 rfl rfl
theorem wi_Model_covered : Cond.instanceMethod m_Model_covered.1 ∈ nm_ws := nm_at 1038 (by decide +kernel) rfl
theorem wv_Model_covered : Cond.selects m_Model_covered.1.cls m_Model_covered.1 m_Model_covered.1 ∈ nm_ws := nm_at 1039 (by decide +kernel) rfl
set_option maxRecDepth 100000 in
theorem wc_Model_edge : Cond.code m_Model_edge.1 m_Model_edge.2.1 m_Model_edge.2.2.1 m_Model_edge.2.2.2 ∈ nm_ws := nm_at 875 rfl rfl
theorem wi_Model_edge : Cond.instanceMethod m_Model_edge.1 ∈ nm_ws := nm_at 873 (by decide +kernel) rfl
theorem wv_Model_edge : Cond.selects m_Model_edge.1.cls m_Model_edge.1 m_Model_edge.1 ∈ nm_ws := nm_at 874 (by decide +kernel) rfl
set_option maxRecDepth 100000 in
theorem wc_Model_expected : Cond.code m_Model_expected.1 m_Model_expected.2.1 m_Model_expected.2.2.1 m_Model_expected.2.2.2 ∈ nm_ws := nm_at 1001 rfl rfl
theorem wi_Model_expected : Cond.instanceMethod m_Model_expected.1 ∈ nm_ws := nm_at 1000 (by decide +kernel) rfl
theorem wv_Model_expected : Cond.selects m_Model_expected.1.cls m_Model_expected.1 m_Model_expected.1 ∈ nm_ws := nm_at 38 (by decide +kernel) rfl
set_option maxRecDepth 100000 in
theorem wc_Model_failed : Cond.code m_Model_failed.1 m_Model_failed.2.1 m_Model_failed.2.2.1 m_Model_failed.2.2.2 ∈ nm_ws := nm_at 1021 rfl rfl
theorem wi_Model_failed : Cond.instanceMethod m_Model_failed.1 ∈ nm_ws := nm_at 1019 (by decide +kernel) rfl
theorem wv_Model_failed : Cond.selects m_Model_failed.1.cls m_Model_failed.1 m_Model_failed.1 ∈ nm_ws := nm_at 1020 (by decide +kernel) rfl
set_option maxRecDepth 100000 in
theorem wc_Model_fails : Cond.code m_Model_fails.1 m_Model_fails.2.1 m_Model_fails.2.2.1 m_Model_fails.2.2.2 ∈ nm_ws := nm_at 1017 rfl rfl
theorem wi_Model_fails : Cond.instanceMethod m_Model_fails.1 ∈ nm_ws := nm_at 1016 (by decide +kernel) rfl
theorem wv_Model_fails : Cond.selects m_Model_fails.1.cls m_Model_fails.1 m_Model_fails.1 ∈ nm_ws := nm_at 39 (by decide +kernel) rfl
set_option maxRecDepth 100000 in
theorem wc_Model_family : Cond.code m_Model_family.1 m_Model_family.2.1 m_Model_family.2.2.1 m_Model_family.2.2.2 ∈ nm_ws := nm_at 949 rfl rfl
theorem wi_Model_family : Cond.instanceMethod m_Model_family.1 ∈ nm_ws := nm_at 947 (by decide +kernel) rfl
theorem wv_Model_family : Cond.selects m_Model_family.1.cls m_Model_family.1 m_Model_family.1 ∈ nm_ws := nm_at 948 (by decide +kernel) rfl
set_option maxRecDepth 100000 in
theorem wc_Model_fits : Cond.code m_Model_fits.1 m_Model_fits.2.1 m_Model_fits.2.2.1 m_Model_fits.2.2.2 ∈ nm_ws := nm_at 929 rfl rfl
theorem wi_Model_fits : Cond.instanceMethod m_Model_fits.1 ∈ nm_ws := nm_at 928 (by decide +kernel) rfl
theorem wv_Model_fits : Cond.selects m_Model_fits.1.cls m_Model_fits.1 m_Model_fits.1 ∈ nm_ws := nm_at 27 (by decide +kernel) rfl
set_option maxRecDepth 100000 in
theorem wc_Model_give : Cond.code m_Model_give.1 m_Model_give.2.1 m_Model_give.2.2.1 m_Model_give.2.2.2 ∈ nm_ws := nm_at 1029 rfl rfl
theorem wi_Model_give : Cond.instanceMethod m_Model_give.1 ∈ nm_ws := nm_at 1027 (by decide +kernel) rfl
theorem wv_Model_give : Cond.selects m_Model_give.1.cls m_Model_give.1 m_Model_give.1 ∈ nm_ws := nm_at 1028 (by decide +kernel) rfl
set_option maxRecDepth 100000 in
theorem wc_Model_isAccess : Cond.code m_Model_isAccess.1 m_Model_isAccess.2.1 m_Model_isAccess.2.2.1 m_Model_isAccess.2.2.2 ∈ nm_ws := nm_at 977 rfl rfl
theorem wi_Model_isAccess : Cond.instanceMethod m_Model_isAccess.1 ∈ nm_ws := nm_at 976 (by decide +kernel) rfl
theorem wv_Model_isAccess : Cond.selects m_Model_isAccess.1.cls m_Model_isAccess.1 m_Model_isAccess.1 ∈ nm_ws := nm_at 33 (by decide +kernel) rfl
set_option maxRecDepth 100000 in
theorem wc_Model_isEnd : Cond.code m_Model_isEnd.1 m_Model_isEnd.2.1 m_Model_isEnd.2.2.1 m_Model_isEnd.2.2.2 ∈ nm_ws := nm_at 985 rfl rfl
theorem wi_Model_isEnd : Cond.instanceMethod m_Model_isEnd.1 ∈ nm_ws := nm_at 984 (by decide +kernel) rfl
theorem wv_Model_isEnd : Cond.selects m_Model_isEnd.1.cls m_Model_isEnd.1 m_Model_isEnd.1 ∈ nm_ws := nm_at 35 (by decide +kernel) rfl
set_option maxRecDepth 100000 in
theorem wc_Model_isInput : Cond.code m_Model_isInput.1 m_Model_isInput.2.1 m_Model_isInput.2.2.1 m_Model_isInput.2.2.2 ∈ nm_ws := nm_at 883 rfl rfl
theorem wi_Model_isInput : Cond.instanceMethod m_Model_isInput.1 ∈ nm_ws := nm_at 882 (by decide +kernel) rfl
theorem wv_Model_isInput : Cond.selects m_Model_isInput.1.cls m_Model_isInput.1 m_Model_isInput.1 ∈ nm_ws := nm_at 20 (by decide +kernel) rfl
set_option maxRecDepth 100000 in
theorem wc_Model_isOutput : Cond.code m_Model_isOutput.1 m_Model_isOutput.2.1 m_Model_isOutput.2.2.1 m_Model_isOutput.2.2.2 ∈ nm_ws := nm_at 886 rfl rfl
theorem wt_Model_isOutput : Cond.static m_Model_isOutput.1 ∈ nm_ws := nm_at 885 (by decide +kernel) rfl
set_option maxRecDepth 100000 in
theorem wc_Model_isState : Cond.code m_Model_isState.1 m_Model_isState.2.1 m_Model_isState.2.2.1 m_Model_isState.2.2.2 ∈ nm_ws := nm_at 879 rfl rfl
theorem wi_Model_isState : Cond.instanceMethod m_Model_isState.1 ∈ nm_ws := nm_at 878 (by decide +kernel) rfl
theorem wv_Model_isState : Cond.selects m_Model_isState.1.cls m_Model_isState.1 m_Model_isState.1 ∈ nm_ws := nm_at 19 (by decide +kernel) rfl
set_option maxRecDepth 100000 in
theorem wc_Model_isTest : Cond.code m_Model_isTest.1 m_Model_isTest.2.1 m_Model_isTest.2.2.1 m_Model_isTest.2.2.2 ∈ nm_ws := nm_at 993 rfl rfl
theorem wi_Model_isTest : Cond.instanceMethod m_Model_isTest.1 ∈ nm_ws := nm_at 992 (by decide +kernel) rfl
theorem wv_Model_isTest : Cond.selects m_Model_isTest.1.cls m_Model_isTest.1 m_Model_isTest.1 ∈ nm_ws := nm_at 36 (by decide +kernel) rfl
set_option maxRecDepth 100000 in
theorem wc_Model_least : Cond.code m_Model_least.1 m_Model_least.2.1 m_Model_least.2.2.1 m_Model_least.2.2.2 ∈ nm_ws := nm_at 1036 rfl rfl
theorem wt_Model_least : Cond.static m_Model_least.1 ∈ nm_ws := nm_at 1035 (by decide +kernel) rfl
set_option maxRecDepth 100000 in
theorem wc_Model_leastWord : Cond.code m_Model_leastWord.1 m_Model_leastWord.2.1 m_Model_leastWord.2.2.1 m_Model_leastWord.2.2.2 ∈ nm_ws := nm_at 925 rfl rfl
theorem wi_Model_leastWord : Cond.instanceMethod m_Model_leastWord.1 ∈ nm_ws := nm_at 924 (by decide +kernel) rfl
theorem wv_Model_leastWord : Cond.selects m_Model_leastWord.1.cls m_Model_leastWord.1 m_Model_leastWord.1 ∈ nm_ws := nm_at 26 (by decide +kernel) rfl
set_option maxRecDepth 100000 in
theorem wc_Model_led : Cond.code m_Model_led.1 m_Model_led.2.1 m_Model_led.2.2.1 m_Model_led.2.2.2 ∈ nm_ws := nm_at 973 rfl rfl
theorem wi_Model_led : Cond.instanceMethod m_Model_led.1 ∈ nm_ws := nm_at 972 (by decide +kernel) rfl
theorem wv_Model_led : Cond.selects m_Model_led.1.cls m_Model_led.1 m_Model_led.1 ∈ nm_ws := nm_at 32 (by decide +kernel) rfl
set_option maxRecDepth 100000 in
theorem wc_Model_length : Cond.code m_Model_length.1 m_Model_length.2.1 m_Model_length.2.2.1 m_Model_length.2.2.2 ∈ nm_ws := nm_at 917 rfl rfl
theorem wt_Model_length : Cond.static m_Model_length.1 ∈ nm_ws := nm_at 916 (by decide +kernel) rfl
set_option maxRecDepth 100000 in
theorem wc_Model_list : Cond.code m_Model_list.1 m_Model_list.2.1 m_Model_list.2.2.1 m_Model_list.2.2.2 ∈ nm_ws := nm_at 981 rfl rfl
theorem wi_Model_list : Cond.instanceMethod m_Model_list.1 ∈ nm_ws := nm_at 980 (by decide +kernel) rfl
theorem wv_Model_list : Cond.selects m_Model_list.1.cls m_Model_list.1 m_Model_list.1 ∈ nm_ws := nm_at 34 (by decide +kernel) rfl
set_option maxRecDepth 100000 in
theorem wc_Model_look : Cond.code m_Model_look.1 m_Model_look.2.1 m_Model_look.2.2.1 m_Model_look.2.2.2 ∈ nm_ws := nm_at 1044 rfl rfl
theorem wi_Model_look : Cond.instanceMethod m_Model_look.1 ∈ nm_ws := nm_at 1042 (by decide +kernel) rfl
theorem wv_Model_look : Cond.selects m_Model_look.1.cls m_Model_look.1 m_Model_look.1 ∈ nm_ws := nm_at 1043 (by decide +kernel) rfl
set_option maxRecDepth 100000 in
theorem wc_Model_measure : Cond.code m_Model_measure.1 m_Model_measure.2.1 m_Model_measure.2.2.1 m_Model_measure.2.2.2 ∈ nm_ws := nm_at 898 rfl rfl
theorem wi_Model_measure : Cond.instanceMethod m_Model_measure.1 ∈ nm_ws := nm_at 897 (by decide +kernel) rfl
theorem wv_Model_measure : Cond.selects m_Model_measure.1.cls m_Model_measure.1 m_Model_measure.1 ∈ nm_ws := nm_at 21 (by decide +kernel) rfl
set_option maxRecDepth 100000 in
theorem wc_Model_minimal : Cond.code m_Model_minimal.1 m_Model_minimal.2.1 m_Model_minimal.2.2.1 m_Model_minimal.2.2.2 ∈ nm_ws := nm_at 937 rfl rfl
theorem wi_Model_minimal : Cond.instanceMethod m_Model_minimal.1 ∈ nm_ws := nm_at 935 (by decide +kernel) rfl
theorem wv_Model_minimal : Cond.selects m_Model_minimal.1.cls m_Model_minimal.1 m_Model_minimal.1 ∈ nm_ws := nm_at 936 (by decide +kernel) rfl
set_option maxRecDepth 100000 in
theorem wc_Model_number : Cond.code m_Model_number.1 m_Model_number.2.1 m_Model_number.2.2.1 m_Model_number.2.2.2 ∈ nm_ws := nm_at 902 rfl rfl
theorem wi_Model_number : Cond.instanceMethod m_Model_number.1 ∈ nm_ws := nm_at 901 (by decide +kernel) rfl
theorem wv_Model_number : Cond.selects m_Model_number.1.cls m_Model_number.1 m_Model_number.1 ∈ nm_ws := nm_at 22 (by decide +kernel) rfl
set_option maxRecDepth 100000 in
theorem wc_Model_own : Cond.code m_Model_own.1 m_Model_own.2.1 m_Model_own.2.2.1 m_Model_own.2.2.2 ∈ nm_ws := nm_at 953 rfl rfl
theorem wi_Model_own : Cond.instanceMethod m_Model_own.1 ∈ nm_ws := nm_at 951 (by decide +kernel) rfl
theorem wv_Model_own : Cond.selects m_Model_own.1.cls m_Model_own.1 m_Model_own.1 ∈ nm_ws := nm_at 952 (by decide +kernel) rfl
set_option maxRecDepth 100000 in
theorem wc_Model_put : Cond.code m_Model_put.1 m_Model_put.2.1 m_Model_put.2.2.1 m_Model_put.2.2.2 ∈ nm_ws := nm_at 969 rfl rfl
theorem wi_Model_put : Cond.instanceMethod m_Model_put.1 ∈ nm_ws := nm_at 968 (by decide +kernel) rfl
theorem wv_Model_put : Cond.selects m_Model_put.1.cls m_Model_put.1 m_Model_put.1 ∈ nm_ws := nm_at 31 (by decide +kernel) rfl
set_option maxRecDepth 100000 in
theorem wc_Model_putAll : Cond.code m_Model_putAll.1 m_Model_putAll.2.1 m_Model_putAll.2.2.1 m_Model_putAll.2.2.2 ∈ nm_ws := nm_at 961 rfl rfl
theorem wi_Model_putAll : Cond.instanceMethod m_Model_putAll.1 ∈ nm_ws := nm_at 960 (by decide +kernel) rfl
theorem wv_Model_putAll : Cond.selects m_Model_putAll.1.cls m_Model_putAll.1 m_Model_putAll.1 ∈ nm_ws := nm_at 29 (by decide +kernel) rfl
set_option maxRecDepth 100000 in
theorem wc_Model_putEnds : Cond.code m_Model_putEnds.1 m_Model_putEnds.2.1 m_Model_putEnds.2.2.1 m_Model_putEnds.2.2.2 ∈ nm_ws := nm_at 965 rfl rfl
theorem wi_Model_putEnds : Cond.instanceMethod m_Model_putEnds.1 ∈ nm_ws := nm_at 964 (by decide +kernel) rfl
theorem wv_Model_putEnds : Cond.selects m_Model_putEnds.1.cls m_Model_putEnds.1 m_Model_putEnds.1 ∈ nm_ws := nm_at 30 (by decide +kernel) rfl
set_option maxRecDepth 100000 in
theorem wc_Model_resize : Cond.code m_Model_resize.1 m_Model_resize.2.1 m_Model_resize.2.2.1 m_Model_resize.2.2.2 ∈ nm_ws := nm_at 1005 rfl rfl
theorem wi_Model_resize : Cond.instanceMethod m_Model_resize.1 ∈ nm_ws := nm_at 1003 (by decide +kernel) rfl
theorem wv_Model_resize : Cond.selects m_Model_resize.1.cls m_Model_resize.1 m_Model_resize.1 ∈ nm_ws := nm_at 1004 (by decide +kernel) rfl
set_option maxRecDepth 100000 in
theorem wc_Model_run : Cond.code m_Model_run.1 m_Model_run.2.1 m_Model_run.2.2.1 m_Model_run.2.2.2 ∈ nm_ws := nm_at 1013 rfl rfl
theorem wi_Model_run : Cond.instanceMethod m_Model_run.1 ∈ nm_ws := nm_at 1011 (by decide +kernel) rfl
theorem wv_Model_run : Cond.selects m_Model_run.1.cls m_Model_run.1 m_Model_run.1 ∈ nm_ws := nm_at 1012 (by decide +kernel) rfl
set_option maxRecDepth 100000 in
theorem wc_Model_same : Cond.code m_Model_same.1 m_Model_same.2.1 m_Model_same.2.2.1 m_Model_same.2.2.2 ∈ nm_ws := nm_at 1033 rfl rfl
theorem wi_Model_same : Cond.instanceMethod m_Model_same.1 ∈ nm_ws := nm_at 1031 (by decide +kernel) rfl
theorem wv_Model_same : Cond.selects m_Model_same.1.cls m_Model_same.1 m_Model_same.1 ∈ nm_ws := nm_at 1032 (by decide +kernel) rfl
set_option maxRecDepth 100000 in
theorem wc_Model_seal : Cond.code m_Model_seal.1 m_Model_seal.2.1 m_Model_seal.2.2.1 m_Model_seal.2.2.2 ∈ nm_ws := nm_at 894 rfl rfl
theorem wi_Model_seal : Cond.instanceMethod m_Model_seal.1 ∈ nm_ws := nm_at 892 (by decide +kernel) rfl
theorem wv_Model_seal : Cond.selects m_Model_seal.1.cls m_Model_seal.1 m_Model_seal.1 ∈ nm_ws := nm_at 893 (by decide +kernel) rfl
set_option maxRecDepth 100000 in
theorem wc_Model_start : Cond.code m_Model_start.1 m_Model_start.2.1 m_Model_start.2.2.1 m_Model_start.2.2.2 ∈ nm_ws := nm_at 890 rfl rfl
theorem wi_Model_start : Cond.instanceMethod m_Model_start.1 ∈ nm_ws := nm_at 888 (by decide +kernel) rfl
theorem wv_Model_start : Cond.selects m_Model_start.1.cls m_Model_start.1 m_Model_start.1 ∈ nm_ws := nm_at 889 (by decide +kernel) rfl
set_option maxRecDepth 100000 in
theorem wc_Model_suite : Cond.code m_Model_suite.1 m_Model_suite.2.1 m_Model_suite.2.2.1 m_Model_suite.2.2.2 ∈ nm_ws := nm_at 957 rfl rfl
theorem wi_Model_suite : Cond.instanceMethod m_Model_suite.1 ∈ nm_ws := nm_at 955 (by decide +kernel) rfl
theorem wv_Model_suite : Cond.selects m_Model_suite.1.cls m_Model_suite.1 m_Model_suite.1 ∈ nm_ws := nm_at 956 (by decide +kernel) rfl
set_option maxRecDepth 100000 in
theorem wc_Model_take : Cond.code m_Model_take.1 m_Model_take.2.1 m_Model_take.2.2.1 m_Model_take.2.2.2 ∈ nm_ws := nm_at 906 rfl rfl
theorem wi_Model_take : Cond.instanceMethod m_Model_take.1 ∈ nm_ws := nm_at 905 (by decide +kernel) rfl
theorem wv_Model_take : Cond.selects m_Model_take.1.cls m_Model_take.1 m_Model_take.1 ∈ nm_ws := nm_at 23 (by decide +kernel) rfl
set_option maxRecDepth 100000 in
theorem wc_Model_tells : Cond.code m_Model_tells.1 m_Model_tells.2.1 m_Model_tells.2.2.1 m_Model_tells.2.2.2 ∈ nm_ws := nm_at 914 rfl rfl
theorem wi_Model_tells : Cond.instanceMethod m_Model_tells.1 ∈ nm_ws := nm_at 913 (by decide +kernel) rfl
theorem wv_Model_tells : Cond.selects m_Model_tells.1.cls m_Model_tells.1 m_Model_tells.1 ∈ nm_ws := nm_at 25 (by decide +kernel) rfl
set_option maxRecDepth 100000 in
theorem wc_Model_test : Cond.code m_Model_test.1 m_Model_test.2.1 m_Model_test.2.2.1 m_Model_test.2.2.2 ∈ nm_ws := nm_at 989 rfl rfl
theorem wi_Model_test : Cond.instanceMethod m_Model_test.1 ∈ nm_ws := nm_at 987 (by decide +kernel) rfl
theorem wv_Model_test : Cond.selects m_Model_test.1.cls m_Model_test.1 m_Model_test.1 ∈ nm_ws := nm_at 988 (by decide +kernel) rfl
set_option maxRecDepth 100000 in
theorem wc_Model_thrown : Cond.code m_Model_thrown.1 m_Model_thrown.2.1 m_Model_thrown.2.2.1 m_Model_thrown.2.2.2 ∈ nm_ws := nm_at 871 rfl rfl
theorem wi_Model_thrown : Cond.instanceMethod m_Model_thrown.1 ∈ nm_ws := nm_at 869 (by decide +kernel) rfl
theorem wv_Model_thrown : Cond.selects m_Model_thrown.1.cls m_Model_thrown.1 m_Model_thrown.1 ∈ nm_ws := nm_at 870 (by decide +kernel) rfl
set_option maxRecDepth 100000 in
theorem wc_Model_unfold : Cond.code m_Model_unfold.1 m_Model_unfold.2.1 m_Model_unfold.2.2.1 m_Model_unfold.2.2.2 ∈ nm_ws := nm_at 997 rfl rfl
theorem wi_Model_unfold : Cond.instanceMethod m_Model_unfold.1 ∈ nm_ws := nm_at 996 (by decide +kernel) rfl
theorem wv_Model_unfold : Cond.selects m_Model_unfold.1.cls m_Model_unfold.1 m_Model_unfold.1 ∈ nm_ws := nm_at 37 (by decide +kernel) rfl
set_option maxRecDepth 100000 in
theorem wc_Model_word : Cond.code m_Model_word.1 m_Model_word.2.1 m_Model_word.2.2.1 m_Model_word.2.2.2 ∈ nm_ws := nm_at 945 rfl rfl
theorem wi_Model_word : Cond.instanceMethod m_Model_word.1 ∈ nm_ws := nm_at 943 (by decide +kernel) rfl
theorem wv_Model_word : Cond.selects m_Model_word.1.cls m_Model_word.1 m_Model_word.1 ∈ nm_ws := nm_at 944 (by decide +kernel) rfl
theorem wz_Bench : Cond.initialized "TestBench" ∈ nm_ws := nm_at 41 (by decide +kernel) rfl
theorem wz_Family : Cond.initialized "TestBench$Family" ∈ nm_ws := nm_at 45 (by decide +kernel) rfl
theorem wz_Machine : Cond.initialized "TestBench$Machine" ∈ nm_ws := nm_at 43 (by decide +kernel) rfl
theorem wz_Search : Cond.initialized "TestBench$PairSearch" ∈ nm_ws := nm_at 47 (by decide +kernel) rfl
theorem wz_Reduction : Cond.initialized "TestBench$Reduction" ∈ nm_ws := nm_at 44 (by decide +kernel) rfl
theorem wz_Suite : Cond.initialized "TestBench$Suite" ∈ nm_ws := nm_at 49 (by decide +kernel) rfl
theorem wz_Trial : Cond.initialized "TestBench$Trial" ∈ nm_ws := nm_at 48 (by decide +kernel) rfl
theorem wz_Word : Cond.initialized "TestBench$Word" ∈ nm_ws := nm_at 46 (by decide +kernel) rfl
theorem wz_Law : Cond.initialized "TestBenchLaw" ∈ nm_ws := nm_at 40 (by decide +kernel) rfl
theorem wz_Model : Cond.initialized "TestBenchModel" ∈ nm_ws := nm_at 50 (by decide +kernel) rfl
theorem c0_Bench_20 : aj_cl0 nE "TestBench" 20 m_Machine_init 3 := ⟨nm_at 75 (by decide +kernel) rfl, wc_Machine_init, wz_Machine, by decide +kernel, by decide, by decide, rfl⟩
theorem cl_Bench_20 : aj_il nE "TestBench" 20 m_Machine_init 3 := ⟨c0_Bench_20, wi_Machine_init, rfl, rfl⟩
theorem c0_Bench_29 : aj_cl0 nE "TestBench" 29 m_Reduction_init 1 := ⟨nm_at 119 (by decide +kernel) rfl, wc_Reduction_init, wz_Reduction, by decide +kernel, by decide, by decide, rfl⟩
theorem cl_Bench_29 : aj_il nE "TestBench" 29 m_Reduction_init 1 := ⟨c0_Bench_29, wi_Reduction_init, rfl, rfl⟩
theorem c0_Bench_38 : aj_cl0 nE "TestBench" 38 m_Family_init 0 := ⟨nm_at 151 (by decide +kernel) rfl, wc_Family_init, wz_Family, by decide +kernel, by decide, by decide, rfl⟩
theorem cl_Bench_38 : aj_il nE "TestBench" 38 m_Family_init 0 := ⟨c0_Bench_38, wi_Family_init, rfl, rfl⟩
theorem c0_Bench_69 : aj_cl0 nE "TestBench" 69 m_Suite_init 2 := ⟨nm_at 252 (by decide +kernel) rfl, wc_Suite_init, wz_Suite, by decide +kernel, by decide, by decide, rfl⟩
theorem cl_Bench_69 : aj_il nE "TestBench" 69 m_Suite_init 2 := ⟨c0_Bench_69, wi_Suite_init, rfl, rfl⟩
theorem c0_Bench_96 : aj_cl0 nE "TestBench" 96 m_Machine_allows 4 := ⟨nm_at 448 (by decide +kernel) rfl, wc_Machine_allows, wz_Machine, by decide +kernel, by decide, by decide, rfl⟩
theorem cl_Bench_96 : aj_vl nE "TestBench" 96 m_Machine_allows 4 0 := ⟨c0_Bench_96, wi_Machine_allows, wv_Machine_allows, _, rfl, rfl⟩
theorem c0_Bench_106 : aj_cl0 nE "TestBench" 106 m_Machine_set 4 := ⟨nm_at 535 (by decide +kernel) rfl, wc_Machine_set, wz_Machine, by decide +kernel, by decide, by decide, rfl⟩
theorem cl_Bench_106 : aj_vl nE "TestBench" 106 m_Machine_set 4 0 := ⟨c0_Bench_106, wi_Machine_set, wv_Machine_set, _, rfl, rfl⟩
theorem c0_Bench_110 : aj_cl0 nE "TestBench" 110 m_Machine_hasState 1 := ⟨nm_at 357 (by decide +kernel) rfl, wc_Machine_hasState, wz_Machine, by decide +kernel, by decide, by decide, rfl⟩
theorem cl_Bench_110 : aj_vl nE "TestBench" 110 m_Machine_hasState 1 0 := ⟨c0_Bench_110, wi_Machine_hasState, wv_Machine_hasState, _, rfl, rfl⟩
theorem c0_Bench_114 : aj_cl0 nE "TestBench" 114 m_Reduction_reduce 3 := ⟨nm_at 550 (by decide +kernel) rfl, wc_Reduction_reduce, wz_Reduction, by decide +kernel, by decide, by decide, rfl⟩
theorem cl_Bench_114 : aj_vl nE "TestBench" 114 m_Reduction_reduce 3 3 := ⟨c0_Bench_114, wi_Reduction_reduce, wv_Reduction_reduce, _, rfl, rfl⟩
theorem c0_Bench_121 : aj_cl0 nE "TestBench" 121 m_Family_choose 2 := ⟨nm_at 583 (by decide +kernel) rfl, wc_Family_choose, wz_Family, by decide +kernel, by decide, by decide, rfl⟩
theorem cl_Bench_121 : aj_vl nE "TestBench" 121 m_Family_choose 2 4 := ⟨c0_Bench_121, wi_Family_choose, wv_Family_choose, _, rfl, rfl⟩
theorem c0_Bench_125 : aj_cl0 nE "TestBench" 125 m_Machine_copy 1 := ⟨nm_at 611 (by decide +kernel) rfl, wc_Machine_copy, wz_Machine, by decide +kernel, by decide, by decide, rfl⟩
theorem cl_Bench_125 : aj_vl nE "TestBench" 125 m_Machine_copy 1 0 := ⟨c0_Bench_125, wi_Machine_copy, wv_Machine_copy, _, rfl, rfl⟩
theorem c0_Bench_136 : aj_cl0 nE "TestBench" 136 m_Search_find 4 := ⟨nm_at 623 (by decide +kernel) rfl, wc_Search_find, wz_Search, by decide +kernel, by decide, by decide, rfl⟩
theorem cl_Bench_136 : aj_vl nE "TestBench" 136 m_Search_find 4 2 := ⟨c0_Bench_136, wi_Search_find, wv_Search_find, _, rfl, rfl⟩
theorem c0_Bench_143 : aj_cl0 nE "TestBench" 143 m_Word_copy 1 := ⟨nm_at 624 (by decide +kernel) rfl, wc_Word_copy, wz_Word, by decide +kernel, by decide, by decide, rfl⟩
theorem cl_Bench_143 : aj_vl nE "TestBench" 143 m_Word_copy 1 1 := ⟨c0_Bench_143, wi_Word_copy, wv_Word_copy, _, rfl, rfl⟩
theorem c0_Bench_149 : aj_cl0 nE "TestBench" 149 m_Word_at 1 := ⟨nm_at 365 (by decide +kernel) rfl, wc_Word_at, wz_Word, by decide +kernel, by decide, by decide, rfl⟩
theorem cl_Bench_149 : aj_vl nE "TestBench" 149 m_Word_at 1 1 := ⟨c0_Bench_149, wi_Word_at, wv_Word_at, _, rfl, rfl⟩
theorem c0_Bench_156 : aj_cl0 nE "TestBench" 156 m_Family_has 1 := ⟨nm_at 373 (by decide +kernel) rfl, wc_Family_has, wz_Family, by decide +kernel, by decide, by decide, rfl⟩
theorem cl_Bench_156 : aj_vl nE "TestBench" 156 m_Family_has 1 4 := ⟨c0_Bench_156, wi_Family_has, wv_Family_has, _, rfl, rfl⟩
theorem c0_Bench_170 : aj_cl0 nE "TestBench" 170 m_Suite_build 2 := ⟨nm_at 633 (by decide +kernel) rfl, wc_Suite_build, wz_Suite, by decide +kernel, by decide, by decide, rfl⟩
theorem cl_Bench_170 : aj_vl nE "TestBench" 170 m_Suite_build 2 5 := ⟨c0_Bench_170, wi_Suite_build, wv_Suite_build, _, rfl, rfl⟩
theorem c0_Bench_180 : aj_cl0 nE "TestBench" 180 m_Suite_hasTest 1 := ⟨nm_at 385 (by decide +kernel) rfl, wc_Suite_hasTest, wz_Suite, by decide +kernel, by decide, by decide, rfl⟩
theorem cl_Bench_180 : aj_vl nE "TestBench" 180 m_Suite_hasTest 1 5 := ⟨c0_Bench_180, wi_Suite_hasTest, wv_Suite_hasTest, _, rfl, rfl⟩
theorem c0_Bench_183 : aj_cl0 nE "TestBench" 183 m_Suite_lengthOf 1 := ⟨nm_at 389 (by decide +kernel) rfl, wc_Suite_lengthOf, wz_Suite, by decide +kernel, by decide, by decide, rfl⟩
theorem cl_Bench_183 : aj_vl nE "TestBench" 183 m_Suite_lengthOf 1 5 := ⟨c0_Bench_183, wi_Suite_lengthOf, wv_Suite_lengthOf, _, rfl, rfl⟩
theorem c0_Bench_186 : aj_cl0 nE "TestBench" 186 m_Suite_outputAt 2 := ⟨nm_at 393 (by decide +kernel) rfl, wc_Suite_outputAt, wz_Suite, by decide +kernel, by decide, by decide, rfl⟩
theorem cl_Bench_186 : aj_vl nE "TestBench" 186 m_Suite_outputAt 2 5 := ⟨c0_Bench_186, wi_Suite_outputAt, wv_Suite_outputAt, _, rfl, rfl⟩
theorem c0_Bench_189 : aj_cl0 nE "TestBench" 189 m_Suite_inputAt 2 := ⟨nm_at 406 (by decide +kernel) rfl, wc_Suite_inputAt, wz_Suite, by decide +kernel, by decide, by decide, rfl⟩
theorem cl_Bench_189 : aj_vl nE "TestBench" 189 m_Suite_inputAt 2 5 := ⟨c0_Bench_189, wi_Suite_inputAt, wv_Suite_inputAt, _, rfl, rfl⟩
theorem c0_Bench_192 : aj_cl0 nE "TestBench" 192 m_Machine_fitTo 1 := ⟨nm_at 692 (by decide +kernel) rfl, wc_Machine_fitTo, wz_Machine, by decide +kernel, by decide, by decide, rfl⟩
theorem cl_Bench_192 : aj_vl nE "TestBench" 192 m_Machine_fitTo 1 0 := ⟨c0_Bench_192, wi_Machine_fitTo, wv_Machine_fitTo, _, rfl, rfl⟩
theorem c0_Bench_195 : aj_cl0 nE "TestBench" 195 m_Suite_isMade 0 := ⟨nm_at 418 (by decide +kernel) rfl, wc_Suite_isMade, wz_Suite, by decide +kernel, by decide, by decide, rfl⟩
theorem cl_Bench_195 : aj_vl nE "TestBench" 195 m_Suite_isMade 0 5 := ⟨c0_Bench_195, wi_Suite_isMade, wv_Suite_isMade, _, rfl, rfl⟩
theorem c0_Bench_199 : aj_cl0 nE "TestBench" 199 m_Trial_firstFailure 2 := ⟨nm_at 707 (by decide +kernel) rfl, wc_Trial_firstFailure, wz_Trial, by decide +kernel, by decide, by decide, rfl⟩
theorem cl_Bench_199 : aj_vl nE "TestBench" 199 m_Trial_firstFailure 2 6 := ⟨c0_Bench_199, wi_Trial_firstFailure, wv_Trial_firstFailure, _, rfl, rfl⟩
theorem c0_Bench_203 : aj_cl0 nE "TestBench" 203 m_Trial_placeOf 2 := ⟨nm_at 722 (by decide +kernel) rfl, wc_Trial_placeOf, wz_Trial, by decide +kernel, by decide, by decide, rfl⟩
theorem cl_Bench_203 : aj_vl nE "TestBench" 203 m_Trial_placeOf 2 6 := ⟨c0_Bench_203, wi_Trial_placeOf, wv_Trial_placeOf, _, rfl, rfl⟩
theorem c0_Bench_207 : aj_cl0 nE "TestBench" 207 m_Bench_tellInput 0 := ⟨nm_at 730 (by decide +kernel) rfl, wc_Bench_tellInput, wz_Bench, by decide +kernel, by decide, by decide, rfl⟩
theorem cl_Bench_207 : aj_vl nE "TestBench" 207 m_Bench_tellInput 0 7 := ⟨c0_Bench_207, wi_Bench_tellInput, wv_Bench_tellInput, _, rfl, rfl⟩
theorem c0_Bench_211 : aj_cl0 nE "TestBench" 211 m_Machine_hasOutput 1 := ⟨nm_at 741 (by decide +kernel) rfl, wc_Machine_hasOutput, wz_Machine, by decide +kernel, by decide, by decide, rfl⟩
theorem cl_Bench_211 : aj_vl nE "TestBench" 211 m_Machine_hasOutput 1 0 := ⟨c0_Bench_211, wi_Machine_hasOutput, wv_Machine_hasOutput, _, rfl, rfl⟩
theorem c0_Bench_214 : aj_cl0 nE "TestBench" 214 m_Suite_transitions 0 := ⟨nm_at 422 (by decide +kernel) rfl, wc_Suite_transitions, wz_Suite, by decide +kernel, by decide, by decide, rfl⟩
theorem cl_Bench_214 : aj_vl nE "TestBench" 214 m_Suite_transitions 0 5 := ⟨c0_Bench_214, wi_Suite_transitions, wv_Suite_transitions, _, rfl, rfl⟩
theorem c0_Family_36 : aj_cl0 nE "TestBench$Family" 36 m_Family_firstWord 3 := ⟨nm_at 587 (by decide +kernel) rfl, wc_Family_firstWord, wz_Family, by decide +kernel, by decide, by decide, rfl⟩
theorem cl_Family_36 : aj_vl nE "TestBench$Family" 36 m_Family_firstWord 3 4 := ⟨c0_Family_36, wi_Family_firstWord, wv_Family_firstWord, _, rfl, rfl⟩
theorem c0_Family_40 : aj_cl0 nE "TestBench$Family" 40 m_Search_find 4 := ⟨nm_at 595 (by decide +kernel) rfl, wc_Search_find, wz_Search, by decide +kernel, by decide, by decide, rfl⟩
theorem cl_Family_40 : aj_vl nE "TestBench$Family" 40 m_Search_find 4 2 := ⟨c0_Family_40, wi_Search_find, wv_Search_find, _, rfl, rfl⟩
theorem c0_Family_50 : aj_cl0 nE "TestBench$Family" 50 m_Word_copy 1 := ⟨nm_at 596 (by decide +kernel) rfl, wc_Word_copy, wz_Word, by decide +kernel, by decide, by decide, rfl⟩
theorem cl_Family_50 : aj_vl nE "TestBench$Family" 50 m_Word_copy 1 1 := ⟨c0_Family_50, wi_Word_copy, wv_Word_copy, _, rfl, rfl⟩
theorem c0_Family_54 : aj_cl0 nE "TestBench$Family" 54 m_Family_chooseOwn 2 := ⟨nm_at 603 (by decide +kernel) rfl, wc_Family_chooseOwn, wz_Family, by decide +kernel, by decide, by decide, rfl⟩
theorem cl_Family_54 : aj_vl nE "TestBench$Family" 54 m_Family_chooseOwn 2 4 := ⟨c0_Family_54, wi_Family_chooseOwn, wv_Family_chooseOwn, _, rfl, rfl⟩
theorem c0_Family_58 : aj_cl0 nE "TestBench$Family" 58 m_Family_ownTells 3 := ⟨nm_at 607 (by decide +kernel) rfl, wc_Family_ownTells, wz_Family, by decide +kernel, by decide, by decide, rfl⟩
theorem cl_Family_58 : aj_vl nE "TestBench$Family" 58 m_Family_ownTells 3 4 := ⟨c0_Family_58, wi_Family_ownTells, wv_Family_ownTells, _, rfl, rfl⟩
theorem c0_Family_62 : aj_cl0 nE "TestBench$Family" 62 m_Machine_tellsApart 3 := ⟨nm_at 591 (by decide +kernel) rfl, wc_Machine_tellsApart, wz_Machine, by decide +kernel, by decide, by decide, rfl⟩
theorem cl_Family_62 : aj_vl nE "TestBench$Family" 62 m_Machine_tellsApart 3 0 := ⟨c0_Family_62, wi_Machine_tellsApart, wv_Machine_tellsApart, _, rfl, rfl⟩
theorem c0_Machine_25 : aj_cl0 nE "TestBench$Machine" 25 m_Machine_fitTo 1 := ⟨nm_at 79 (by decide +kernel) rfl, wc_Machine_fitTo, wz_Machine, by decide +kernel, by decide, by decide, rfl⟩
theorem cl_Machine_25 : aj_vl nE "TestBench$Machine" 25 m_Machine_fitTo 1 0 := ⟨c0_Machine_25, wi_Machine_fitTo, wv_Machine_fitTo, _, rfl, rfl⟩
theorem c0_Machine_29 : aj_cl0 nE "TestBench$Machine" 29 m_Machine_hasState 1 := ⟨nm_at 452 (by decide +kernel) rfl, wc_Machine_hasState, wz_Machine, by decide +kernel, by decide, by decide, rfl⟩
theorem cl_Machine_29 : aj_vl nE "TestBench$Machine" 29 m_Machine_hasState 1 0 := ⟨c0_Machine_29, wi_Machine_hasState, wv_Machine_hasState, _, rfl, rfl⟩
theorem c0_Machine_33 : aj_cl0 nE "TestBench$Machine" 33 m_Machine_hasOutput 1 := ⟨nm_at 453 (by decide +kernel) rfl, wc_Machine_hasOutput, wz_Machine, by decide +kernel, by decide, by decide, rfl⟩
theorem cl_Machine_33 : aj_vl nE "TestBench$Machine" 33 m_Machine_hasOutput 1 0 := ⟨c0_Machine_33, wi_Machine_hasOutput, wv_Machine_hasOutput, _, rfl, rfl⟩
theorem c0_Machine_42 : aj_cl0 nE "TestBench$Machine" 42 m_Machine_set 4 := ⟨nm_at 83 (by decide +kernel) rfl, wc_Machine_set, wz_Machine, by decide +kernel, by decide, by decide, rfl⟩
theorem cl_Machine_42 : aj_vl nE "TestBench$Machine" 42 m_Machine_set 4 0 := ⟨c0_Machine_42, wi_Machine_set, wv_Machine_set, _, rfl, rfl⟩
theorem c0_Machine_46 : aj_cl0 nE "TestBench$Machine" 46 m_Machine_next 2 := ⟨nm_at 87 (by decide +kernel) rfl, wc_Machine_next, wz_Machine, by decide +kernel, by decide, by decide, rfl⟩
theorem cl_Machine_46 : aj_vl nE "TestBench$Machine" 46 m_Machine_next 2 0 := ⟨c0_Machine_46, wi_Machine_next, wv_Machine_next, _, rfl, rfl⟩
theorem c0_Machine_50 : aj_cl0 nE "TestBench$Machine" 50 m_Machine_output 2 := ⟨nm_at 91 (by decide +kernel) rfl, wc_Machine_output, wz_Machine, by decide +kernel, by decide, by decide, rfl⟩
theorem cl_Machine_50 : aj_vl nE "TestBench$Machine" 50 m_Machine_output 2 0 := ⟨c0_Machine_50, wi_Machine_output, wv_Machine_output, _, rfl, rfl⟩
theorem c0_Search_42 : aj_cl0 nE "TestBench$PairSearch" 42 m_Search_forget 0 := ⟨nm_at 562 (by decide +kernel) rfl, wc_Search_forget, wz_Search, by decide +kernel, by decide, by decide, rfl⟩
theorem cl_Search_42 : aj_vl nE "TestBench$PairSearch" 42 m_Search_forget 0 2 := ⟨c0_Search_42, wi_Search_forget, wv_Search_forget, _, rfl, rfl⟩
theorem c0_Search_45 : aj_cl0 nE "TestBench$PairSearch" 45 m_Search_reach 4 := ⟨nm_at 566 (by decide +kernel) rfl, wc_Search_reach, wz_Search, by decide +kernel, by decide, by decide, rfl⟩
theorem cl_Search_45 : aj_vl nE "TestBench$PairSearch" 45 m_Search_reach 4 2 := ⟨c0_Search_45, wi_Search_reach, wv_Search_reach, _, rfl, rfl⟩
theorem c0_Search_54 : aj_cl0 nE "TestBench$PairSearch" 54 m_Machine_output 2 := ⟨nm_at 570 (by decide +kernel) rfl, wc_Machine_output, wz_Machine, by decide +kernel, by decide, by decide, rfl⟩
theorem cl_Search_54 : aj_vl nE "TestBench$PairSearch" 54 m_Machine_output 2 0 := ⟨c0_Search_54, wi_Machine_output, wv_Machine_output, _, rfl, rfl⟩
theorem c0_Search_58 : aj_cl0 nE "TestBench$PairSearch" 58 m_Search_spell 2 := ⟨nm_at 571 (by decide +kernel) rfl, wc_Search_spell, wz_Search, by decide +kernel, by decide, by decide, rfl⟩
theorem cl_Search_58 : aj_vl nE "TestBench$PairSearch" 58 m_Search_spell 2 2 := ⟨c0_Search_58, wi_Search_spell, wv_Search_spell, _, rfl, rfl⟩
theorem c0_Search_62 : aj_cl0 nE "TestBench$PairSearch" 62 m_Machine_next 2 := ⟨nm_at 575 (by decide +kernel) rfl, wc_Machine_next, wz_Machine, by decide +kernel, by decide, by decide, rfl⟩
theorem cl_Search_62 : aj_vl nE "TestBench$PairSearch" 62 m_Machine_next 2 0 := ⟨c0_Search_62, wi_Machine_next, wv_Machine_next, _, rfl, rfl⟩
theorem c0_Reduction_29 : aj_cl0 nE "TestBench$Reduction" 29 m_Machine_init 3 := ⟨nm_at 124 (by decide +kernel) rfl, wc_Machine_init, wz_Machine, by decide +kernel, by decide, by decide, rfl⟩
theorem cl_Reduction_29 : aj_il nE "TestBench$Reduction" 29 m_Machine_init 3 := ⟨c0_Reduction_29, wi_Machine_init, rfl, rfl⟩
theorem c0_Reduction_36 : aj_cl0 nE "TestBench$Reduction" 36 m_Reduction_findTwins 2 := ⟨nm_at 554 (by decide +kernel) rfl, wc_Reduction_findTwins, wz_Reduction, by decide +kernel, by decide, by decide, rfl⟩
theorem cl_Reduction_36 : aj_vl nE "TestBench$Reduction" 36 m_Reduction_findTwins 2 3 := ⟨c0_Reduction_36, wi_Reduction_findTwins, wv_Reduction_findTwins, _, rfl, rfl⟩
theorem c0_Reduction_44 : aj_cl0 nE "TestBench$Reduction" 44 m_Reduction_addState 3 := ⟨nm_at 576 (by decide +kernel) rfl, wc_Reduction_addState, wz_Reduction, by decide +kernel, by decide, by decide, rfl⟩
theorem cl_Reduction_44 : aj_vl nE "TestBench$Reduction" 44 m_Reduction_addState 3 3 := ⟨c0_Reduction_44, wi_Reduction_addState, wv_Reduction_addState, _, rfl, rfl⟩
theorem c0_Reduction_50 : aj_cl0 nE "TestBench$Reduction" 50 m_Machine_next 2 := ⟨nm_at 580 (by decide +kernel) rfl, wc_Machine_next, wz_Machine, by decide +kernel, by decide, by decide, rfl⟩
theorem cl_Reduction_50 : aj_vl nE "TestBench$Reduction" 50 m_Machine_next 2 0 := ⟨c0_Reduction_50, wi_Machine_next, wv_Machine_next, _, rfl, rfl⟩
theorem c0_Reduction_54 : aj_cl0 nE "TestBench$Reduction" 54 m_Machine_output 2 := ⟨nm_at 581 (by decide +kernel) rfl, wc_Machine_output, wz_Machine, by decide +kernel, by decide, by decide, rfl⟩
theorem cl_Reduction_54 : aj_vl nE "TestBench$Reduction" 54 m_Machine_output 2 0 := ⟨c0_Reduction_54, wi_Machine_output, wv_Machine_output, _, rfl, rfl⟩
theorem c0_Reduction_57 : aj_cl0 nE "TestBench$Reduction" 57 m_Machine_set 4 := ⟨nm_at 582 (by decide +kernel) rfl, wc_Machine_set, wz_Machine, by decide +kernel, by decide, by decide, rfl⟩
theorem cl_Reduction_57 : aj_vl nE "TestBench$Reduction" 57 m_Machine_set 4 0 := ⟨c0_Reduction_57, wi_Machine_set, wv_Machine_set, _, rfl, rfl⟩
theorem c0_Reduction_61 : aj_cl0 nE "TestBench$Reduction" 61 m_Search_find 4 := ⟨nm_at 558 (by decide +kernel) rfl, wc_Search_find, wz_Search, by decide +kernel, by decide, by decide, rfl⟩
theorem cl_Reduction_61 : aj_vl nE "TestBench$Reduction" 61 m_Search_find 4 2 := ⟨c0_Reduction_61, wi_Search_find, wv_Search_find, _, rfl, rfl⟩
theorem c0_Suite_70 : aj_cl0 nE "TestBench$Suite" 70 m_Suite_behindInput 2 := ⟨nm_at 397 (by decide +kernel) rfl, wc_Suite_behindInput, wz_Suite, by decide +kernel, by decide, by decide, rfl⟩
theorem cl_Suite_70 : aj_vl nE "TestBench$Suite" 70 m_Suite_behindInput 2 5 := ⟨c0_Suite_70, wi_Suite_behindInput, wv_Suite_behindInput, _, rfl, rfl⟩
theorem c0_Suite_74 : aj_cl0 nE "TestBench$Suite" 74 m_Suite_outputInto 1 := ⟨nm_at 401 (by decide +kernel) rfl, wc_Suite_outputInto, wz_Suite, by decide +kernel, by decide, by decide, rfl⟩
theorem cl_Suite_74 : aj_vl nE "TestBench$Suite" 74 m_Suite_outputInto 1 5 := ⟨c0_Suite_74, wi_Suite_outputInto, wv_Suite_outputInto, _, rfl, rfl⟩
theorem c0_Suite_78 : aj_cl0 nE "TestBench$Suite" 78 m_Machine_output 2 := ⟨nm_at 405 (by decide +kernel) rfl, wc_Machine_output, wz_Machine, by decide +kernel, by decide, by decide, rfl⟩
theorem cl_Suite_78 : aj_vl nE "TestBench$Suite" 78 m_Machine_output 2 0 := ⟨c0_Suite_78, wi_Machine_output, wv_Machine_output, _, rfl, rfl⟩
theorem c0_Suite_86 : aj_cl0 nE "TestBench$Suite" 86 m_Suite_addNode 3 := ⟨nm_at 637 (by decide +kernel) rfl, wc_Suite_addNode, wz_Suite, by decide +kernel, by decide, by decide, rfl⟩
theorem cl_Suite_86 : aj_vl nE "TestBench$Suite" 86 m_Suite_addNode 3 5 := ⟨c0_Suite_86, wi_Suite_addNode, wv_Suite_addNode, _, rfl, rfl⟩
theorem c0_Suite_97 : aj_cl0 nE "TestBench$Suite" 97 m_Suite_enter 2 := ⟨nm_at 641 (by decide +kernel) rfl, wc_Suite_enter, wz_Suite, by decide +kernel, by decide, by decide, rfl⟩
theorem cl_Suite_97 : aj_vl nE "TestBench$Suite" 97 m_Suite_enter 2 5 := ⟨c0_Suite_97, wi_Suite_enter, wv_Suite_enter, _, rfl, rfl⟩
theorem c0_Suite_100 : aj_cl0 nE "TestBench$Suite" 100 m_Suite_grow 3 := ⟨nm_at 646 (by decide +kernel) rfl, wc_Suite_grow, wz_Suite, by decide +kernel, by decide, by decide, rfl⟩
theorem cl_Suite_100 : aj_vl nE "TestBench$Suite" 100 m_Suite_grow 3 5 := ⟨c0_Suite_100, wi_Suite_grow, wv_Suite_grow, _, rfl, rfl⟩
theorem c0_Suite_104 : aj_cl0 nE "TestBench$Suite" 104 m_Reduction_isAccess 2 := ⟨nm_at 662 (by decide +kernel) rfl, wc_Reduction_isAccess, wz_Reduction, by decide +kernel, by decide, by decide, rfl⟩
theorem cl_Suite_104 : aj_vl nE "TestBench$Suite" 104 m_Reduction_isAccess 2 3 := ⟨c0_Suite_104, wi_Reduction_isAccess, wv_Reduction_isAccess, _, rfl, rfl⟩
theorem c0_Suite_108 : aj_cl0 nE "TestBench$Suite" 108 m_Suite_orderTests 0 := ⟨nm_at 666 (by decide +kernel) rfl, wc_Suite_orderTests, wz_Suite, by decide +kernel, by decide, by decide, rfl⟩
theorem cl_Suite_108 : aj_vl nE "TestBench$Suite" 108 m_Suite_orderTests 0 5 := ⟨c0_Suite_108, wi_Suite_orderTests, wv_Suite_orderTests, _, rfl, rfl⟩
theorem c0_Suite_111 : aj_cl0 nE "TestBench$Suite" 111 m_Suite_addFamily 1 := ⟨nm_at 650 (by decide +kernel) rfl, wc_Suite_addFamily, wz_Suite, by decide +kernel, by decide, by decide, rfl⟩
theorem cl_Suite_111 : aj_vl nE "TestBench$Suite" 111 m_Suite_addFamily 1 5 := ⟨c0_Suite_111, wi_Suite_addFamily, wv_Suite_addFamily, _, rfl, rfl⟩
theorem c0_Suite_115 : aj_cl0 nE "TestBench$Suite" 115 m_Suite_addOwn 1 := ⟨nm_at 658 (by decide +kernel) rfl, wc_Suite_addOwn, wz_Suite, by decide +kernel, by decide, by decide, rfl⟩
theorem cl_Suite_115 : aj_vl nE "TestBench$Suite" 115 m_Suite_addOwn 1 5 := ⟨c0_Suite_115, wi_Suite_addOwn, wv_Suite_addOwn, _, rfl, rfl⟩
theorem c0_Suite_125 : aj_cl0 nE "TestBench$Suite" 125 m_Suite_addWord 2 := ⟨nm_at 654 (by decide +kernel) rfl, wc_Suite_addWord, wz_Suite, by decide +kernel, by decide, by decide, rfl⟩
theorem cl_Suite_125 : aj_vl nE "TestBench$Suite" 125 m_Suite_addWord 2 5 := ⟨c0_Suite_125, wi_Suite_addWord, wv_Suite_addWord, _, rfl, rfl⟩
theorem c0_Suite_144 : aj_cl0 nE "TestBench$Suite" 144 m_Machine_next 2 := ⟨nm_at 645 (by decide +kernel) rfl, wc_Machine_next, wz_Machine, by decide +kernel, by decide, by decide, rfl⟩
theorem cl_Suite_144 : aj_vl nE "TestBench$Suite" 144 m_Machine_next 2 0 := ⟨c0_Suite_144, wi_Machine_next, wv_Machine_next, _, rfl, rfl⟩
theorem c0_Trial_24 : aj_cl0 nE "TestBench$Trial" 24 m_Trial_step 3 := ⟨nm_at 711 (by decide +kernel) rfl, wc_Trial_step, wz_Trial, by decide +kernel, by decide, by decide, rfl⟩
theorem cl_Trial_24 : aj_vl nE "TestBench$Trial" 24 m_Trial_step 3 6 := ⟨c0_Trial_24, wi_Trial_step, wv_Trial_step, _, rfl, rfl⟩
theorem c0_Trial_31 : aj_cl0 nE "TestBench$Trial" 31 m_Trial_placeOf 2 := ⟨nm_at 718 (by decide +kernel) rfl, wc_Trial_placeOf, wz_Trial, by decide +kernel, by decide, by decide, rfl⟩
theorem cl_Trial_31 : aj_vl nE "TestBench$Trial" 31 m_Trial_placeOf 2 6 := ⟨c0_Trial_31, wi_Trial_placeOf, wv_Trial_placeOf, _, rfl, rfl⟩
theorem c0_Trial_44 : aj_cl0 nE "TestBench$Trial" 44 m_Machine_next 2 := ⟨nm_at 715 (by decide +kernel) rfl, wc_Machine_next, wz_Machine, by decide +kernel, by decide, by decide, rfl⟩
theorem cl_Trial_44 : aj_vl nE "TestBench$Trial" 44 m_Machine_next 2 0 := ⟨c0_Trial_44, wi_Machine_next, wv_Machine_next, _, rfl, rfl⟩
theorem c0_Trial_50 : aj_cl0 nE "TestBench$Trial" 50 m_Machine_output 2 := ⟨nm_at 716 (by decide +kernel) rfl, wc_Machine_output, wz_Machine, by decide +kernel, by decide, by decide, rfl⟩
theorem cl_Trial_50 : aj_vl nE "TestBench$Trial" 50 m_Machine_output 2 0 := ⟨c0_Trial_50, wi_Machine_output, wv_Machine_output, _, rfl, rfl⟩
theorem c0_Trial_53 : aj_cl0 nE "TestBench$Trial" 53 m_Suite_outputInto 1 := ⟨nm_at 717 (by decide +kernel) rfl, wc_Suite_outputInto, wz_Suite, by decide +kernel, by decide, by decide, rfl⟩
theorem cl_Trial_53 : aj_vl nE "TestBench$Trial" 53 m_Suite_outputInto 1 5 := ⟨c0_Trial_53, wi_Suite_outputInto, wv_Suite_outputInto, _, rfl, rfl⟩
theorem c0_Law_7 : aj_cl0 nE "TestBenchLaw" 7 m_Bench_edge 4 := ⟨nm_at 444 (by decide +kernel) rfl, wc_Bench_edge, wz_Bench, by decide +kernel, by decide, by decide, rfl⟩
theorem cl_Law_7 : aj_vl nE "TestBenchLaw" 7 m_Bench_edge 4 7 := ⟨c0_Law_7, wi_Bench_edge, wv_Bench_edge, _, rfl, rfl⟩
theorem c0_Law_17 : aj_cl0 nE "TestBenchLaw" 17 m_Bench_start 1 := ⟨nm_at 539 (by decide +kernel) rfl, wc_Bench_start, wz_Bench, by decide +kernel, by decide, by decide, rfl⟩
theorem cl_Law_17 : aj_vl nE "TestBenchLaw" 17 m_Bench_start 1 7 := ⟨c0_Law_17, wi_Bench_start, wv_Bench_start, _, rfl, rfl⟩
theorem c0_Law_21 : aj_cl0 nE "TestBenchLaw" 21 m_Bench_seal 0 := ⟨nm_at 546 (by decide +kernel) rfl, wc_Bench_seal, wz_Bench, by decide +kernel, by decide, by decide, rfl⟩
theorem cl_Law_21 : aj_vl nE "TestBenchLaw" 21 m_Bench_seal 0 7 := ⟨c0_Law_21, wi_Bench_seal, wv_Bench_seal, _, rfl, rfl⟩
theorem c0_Law_25 : aj_cl0 nE "TestBenchLaw" 25 m_Bench_apart 2 := ⟨nm_at 619 (by decide +kernel) rfl, wc_Bench_apart, wz_Bench, by decide +kernel, by decide, by decide, rfl⟩
theorem cl_Law_25 : aj_vl nE "TestBenchLaw" 25 m_Bench_apart 2 7 := ⟨c0_Law_25, wi_Bench_apart, wv_Bench_apart, _, rfl, rfl⟩
theorem c0_Law_29 : aj_cl0 nE "TestBenchLaw" 29 m_Bench_suite 2 := ⟨nm_at 629 (by decide +kernel) rfl, wc_Bench_suite, wz_Bench, by decide +kernel, by decide, by decide, rfl⟩
theorem cl_Law_29 : aj_vl nE "TestBenchLaw" 29 m_Bench_suite 2 7 := ⟨c0_Law_29, wi_Bench_suite, wv_Bench_suite, _, rfl, rfl⟩
theorem c0_Law_34 : aj_cl0 nE "TestBenchLaw" 34 m_Bench_resize 1 := ⟨nm_at 688 (by decide +kernel) rfl, wc_Bench_resize, wz_Bench, by decide +kernel, by decide, by decide, rfl⟩
theorem cl_Law_34 : aj_vl nE "TestBenchLaw" 34 m_Bench_resize 1 7 := ⟨c0_Law_34, wi_Bench_resize, wv_Bench_resize, _, rfl, rfl⟩
theorem c0_Law_37 : aj_cl0 nE "TestBenchLaw" 37 m_Bench_change 4 := ⟨nm_at 696 (by decide +kernel) rfl, wc_Bench_change, wz_Bench, by decide +kernel, by decide, by decide, rfl⟩
theorem cl_Law_37 : aj_vl nE "TestBenchLaw" 37 m_Bench_change 4 7 := ⟨c0_Law_37, wi_Bench_change, wv_Bench_change, _, rfl, rfl⟩
theorem c0_Law_40 : aj_cl0 nE "TestBenchLaw" 40 m_Bench_run 0 := ⟨nm_at 703 (by decide +kernel) rfl, wc_Bench_run, wz_Bench, by decide +kernel, by decide, by decide, rfl⟩
theorem cl_Law_40 : aj_vl nE "TestBenchLaw" 40 m_Bench_run 0 7 := ⟨c0_Law_40, wi_Bench_run, wv_Bench_run, _, rfl, rfl⟩
theorem c0_Law_43 : aj_cl0 nE "TestBenchLaw" 43 m_Bench_begin 1 := ⟨nm_at 726 (by decide +kernel) rfl, wc_Bench_begin, wz_Bench, by decide +kernel, by decide, by decide, rfl⟩
theorem cl_Law_43 : aj_vl nE "TestBenchLaw" 43 m_Bench_begin 1 7 := ⟨c0_Law_43, wi_Bench_begin, wv_Bench_begin, _, rfl, rfl⟩
theorem c0_Law_47 : aj_cl0 nE "TestBenchLaw" 47 m_Bench_give 1 := ⟨nm_at 737 (by decide +kernel) rfl, wc_Bench_give, wz_Bench, by decide +kernel, by decide, by decide, rfl⟩
theorem cl_Law_47 : aj_vl nE "TestBenchLaw" 47 m_Bench_give 1 7 := ⟨c0_Law_47, wi_Bench_give, wv_Bench_give, _, rfl, rfl⟩
theorem c0_Law_50 : aj_cl0 nE "TestBenchLaw" 50 m_Bench_same 0 := ⟨nm_at 745 (by decide +kernel) rfl, wc_Bench_same, wz_Bench, by decide +kernel, by decide, by decide, rfl⟩
theorem cl_Law_50 : aj_vl nE "TestBenchLaw" 50 m_Bench_same 0 7 := ⟨c0_Law_50, wi_Bench_same, wv_Bench_same, _, rfl, rfl⟩
theorem c0_Law_53 : aj_cl0 nE "TestBenchLaw" 53 m_Law_cell 2 := ⟨nm_at 436 (by decide +kernel) rfl, wc_Law_cell, wz_Law, by decide +kernel, by decide, by decide, rfl⟩
theorem cl_Law_53 : aj_sl nE "TestBenchLaw" 53 m_Law_cell 2 := ⟨c0_Law_53, wt_Law_cell⟩
theorem c0_Law_59 : aj_cl0 nE "TestBenchLaw" 59 m_Bench_init 2 := ⟨nm_at 61 (by decide +kernel) rfl, wc_Bench_init, wz_Bench, by decide +kernel, by decide, by decide, rfl⟩
theorem cl_Law_59 : aj_il nE "TestBenchLaw" 59 m_Bench_init 2 := ⟨c0_Law_59, wi_Bench_init, rfl, rfl⟩
theorem c0_Law_64 : aj_cl0 nE "TestBenchLaw" 64 m_Model_init 2 := ⟨nm_at 751 (by decide +kernel) rfl, wc_Model_init, wz_Model, by decide +kernel, by decide, by decide, rfl⟩
theorem cl_Law_64 : aj_il nE "TestBenchLaw" 64 m_Model_init 2 := ⟨c0_Law_64, wi_Model_init, rfl, rfl⟩
theorem c0_Law_68 : aj_cl0 nE "TestBenchLaw" 68 m_Model_edge 4 := ⟨nm_at 872 (by decide +kernel) rfl, wc_Model_edge, wz_Model, by decide +kernel, by decide, by decide, rfl⟩
theorem cl_Law_68 : aj_vl nE "TestBenchLaw" 68 m_Model_edge 4 8 := ⟨c0_Law_68, wi_Model_edge, wv_Model_edge, _, rfl, rfl⟩
theorem c0_Law_69 : aj_cl0 nE "TestBenchLaw" 69 m_Model_thrown 0 := ⟨nm_at 868 (by decide +kernel) rfl, wc_Model_thrown, wz_Model, by decide +kernel, by decide, by decide, rfl⟩
theorem cl_Law_69 : aj_vl nE "TestBenchLaw" 69 m_Model_thrown 0 8 := ⟨c0_Law_69, wi_Model_thrown, wv_Model_thrown, _, rfl, rfl⟩
theorem c0_Law_75 : aj_cl0 nE "TestBenchLaw" 75 m_Model_start 1 := ⟨nm_at 887 (by decide +kernel) rfl, wc_Model_start, wz_Model, by decide +kernel, by decide, by decide, rfl⟩
theorem cl_Law_75 : aj_vl nE "TestBenchLaw" 75 m_Model_start 1 8 := ⟨c0_Law_75, wi_Model_start, wv_Model_start, _, rfl, rfl⟩
theorem c0_Law_79 : aj_cl0 nE "TestBenchLaw" 79 m_Model_seal 0 := ⟨nm_at 891 (by decide +kernel) rfl, wc_Model_seal, wz_Model, by decide +kernel, by decide, by decide, rfl⟩
theorem cl_Law_79 : aj_vl nE "TestBenchLaw" 79 m_Model_seal 0 8 := ⟨c0_Law_79, wi_Model_seal, wv_Model_seal, _, rfl, rfl⟩
theorem c0_Law_80 : aj_cl0 nE "TestBenchLaw" 80 m_Bench_minimal 1 := ⟨nm_at 353 (by decide +kernel) rfl, wc_Bench_minimal, wz_Bench, by decide +kernel, by decide, by decide, rfl⟩
theorem cl_Law_80 : aj_vl nE "TestBenchLaw" 80 m_Bench_minimal 1 7 := ⟨c0_Law_80, wi_Bench_minimal, wv_Bench_minimal, _, rfl, rfl⟩
theorem c0_Law_83 : aj_cl0 nE "TestBenchLaw" 83 m_Model_minimal 1 := ⟨nm_at 934 (by decide +kernel) rfl, wc_Model_minimal, wz_Model, by decide +kernel, by decide, by decide, rfl⟩
theorem cl_Law_83 : aj_vl nE "TestBenchLaw" 83 m_Model_minimal 1 8 := ⟨c0_Law_83, wi_Model_minimal, wv_Model_minimal, _, rfl, rfl⟩
theorem c0_Law_87 : aj_cl0 nE "TestBenchLaw" 87 m_Model_apart 2 := ⟨nm_at 938 (by decide +kernel) rfl, wc_Model_apart, wz_Model, by decide +kernel, by decide, by decide, rfl⟩
theorem cl_Law_87 : aj_vl nE "TestBenchLaw" 87 m_Model_apart 2 8 := ⟨c0_Law_87, wi_Model_apart, wv_Model_apart, _, rfl, rfl⟩
theorem c0_Law_88 : aj_cl0 nE "TestBenchLaw" 88 m_Bench_word 1 := ⟨nm_at 361 (by decide +kernel) rfl, wc_Bench_word, wz_Bench, by decide +kernel, by decide, by decide, rfl⟩
theorem cl_Law_88 : aj_vl nE "TestBenchLaw" 88 m_Bench_word 1 7 := ⟨c0_Law_88, wi_Bench_word, wv_Bench_word, _, rfl, rfl⟩
theorem c0_Law_91 : aj_cl0 nE "TestBenchLaw" 91 m_Model_word 1 := ⟨nm_at 942 (by decide +kernel) rfl, wc_Model_word, wz_Model, by decide +kernel, by decide, by decide, rfl⟩
theorem cl_Law_91 : aj_vl nE "TestBenchLaw" 91 m_Model_word 1 8 := ⟨c0_Law_91, wi_Model_word, wv_Model_word, _, rfl, rfl⟩
theorem c0_Law_92 : aj_cl0 nE "TestBenchLaw" 92 m_Bench_family 2 := ⟨nm_at 369 (by decide +kernel) rfl, wc_Bench_family, wz_Bench, by decide +kernel, by decide, by decide, rfl⟩
theorem cl_Law_92 : aj_vl nE "TestBenchLaw" 92 m_Bench_family 2 7 := ⟨c0_Law_92, wi_Bench_family, wv_Bench_family, _, rfl, rfl⟩
theorem c0_Law_95 : aj_cl0 nE "TestBenchLaw" 95 m_Model_family 2 := ⟨nm_at 946 (by decide +kernel) rfl, wc_Model_family, wz_Model, by decide +kernel, by decide, by decide, rfl⟩
theorem cl_Law_95 : aj_vl nE "TestBenchLaw" 95 m_Model_family 2 8 := ⟨c0_Law_95, wi_Model_family, wv_Model_family, _, rfl, rfl⟩
theorem c0_Law_96 : aj_cl0 nE "TestBenchLaw" 96 m_Bench_own 2 := ⟨nm_at 377 (by decide +kernel) rfl, wc_Bench_own, wz_Bench, by decide +kernel, by decide, by decide, rfl⟩
theorem cl_Law_96 : aj_vl nE "TestBenchLaw" 96 m_Bench_own 2 7 := ⟨c0_Law_96, wi_Bench_own, wv_Bench_own, _, rfl, rfl⟩
theorem c0_Law_99 : aj_cl0 nE "TestBenchLaw" 99 m_Model_own 2 := ⟨nm_at 950 (by decide +kernel) rfl, wc_Model_own, wz_Model, by decide +kernel, by decide, by decide, rfl⟩
theorem cl_Law_99 : aj_vl nE "TestBenchLaw" 99 m_Model_own 2 8 := ⟨c0_Law_99, wi_Model_own, wv_Model_own, _, rfl, rfl⟩
theorem c0_Law_102 : aj_cl0 nE "TestBenchLaw" 102 m_Model_suite 2 := ⟨nm_at 954 (by decide +kernel) rfl, wc_Model_suite, wz_Model, by decide +kernel, by decide, by decide, rfl⟩
theorem cl_Law_102 : aj_vl nE "TestBenchLaw" 102 m_Model_suite 2 8 := ⟨c0_Law_102, wi_Model_suite, wv_Model_suite, _, rfl, rfl⟩
theorem c0_Law_103 : aj_cl0 nE "TestBenchLaw" 103 m_Bench_test 3 := ⟨nm_at 381 (by decide +kernel) rfl, wc_Bench_test, wz_Bench, by decide +kernel, by decide, by decide, rfl⟩
theorem cl_Law_103 : aj_vl nE "TestBenchLaw" 103 m_Bench_test 3 7 := ⟨c0_Law_103, wi_Bench_test, wv_Bench_test, _, rfl, rfl⟩
theorem c0_Law_107 : aj_cl0 nE "TestBenchLaw" 107 m_Model_test 3 := ⟨nm_at 986 (by decide +kernel) rfl, wc_Model_test, wz_Model, by decide +kernel, by decide, by decide, rfl⟩
theorem cl_Law_107 : aj_vl nE "TestBenchLaw" 107 m_Model_test 3 8 := ⟨c0_Law_107, wi_Model_test, wv_Model_test, _, rfl, rfl⟩
theorem c0_Law_110 : aj_cl0 nE "TestBenchLaw" 110 m_Model_resize 1 := ⟨nm_at 1002 (by decide +kernel) rfl, wc_Model_resize, wz_Model, by decide +kernel, by decide, by decide, rfl⟩
theorem cl_Law_110 : aj_vl nE "TestBenchLaw" 110 m_Model_resize 1 8 := ⟨c0_Law_110, wi_Model_resize, wv_Model_resize, _, rfl, rfl⟩
theorem c0_Law_113 : aj_cl0 nE "TestBenchLaw" 113 m_Model_change 4 := ⟨nm_at 1006 (by decide +kernel) rfl, wc_Model_change, wz_Model, by decide +kernel, by decide, by decide, rfl⟩
theorem cl_Law_113 : aj_vl nE "TestBenchLaw" 113 m_Model_change 4 8 := ⟨c0_Law_113, wi_Model_change, wv_Model_change, _, rfl, rfl⟩
theorem c0_Law_116 : aj_cl0 nE "TestBenchLaw" 116 m_Model_run 0 := ⟨nm_at 1010 (by decide +kernel) rfl, wc_Model_run, wz_Model, by decide +kernel, by decide, by decide, rfl⟩
theorem cl_Law_116 : aj_vl nE "TestBenchLaw" 116 m_Model_run 0 8 := ⟨c0_Law_116, wi_Model_run, wv_Model_run, _, rfl, rfl⟩
theorem c0_Law_117 : aj_cl0 nE "TestBenchLaw" 117 m_Bench_failed 0 := ⟨nm_at 410 (by decide +kernel) rfl, wc_Bench_failed, wz_Bench, by decide +kernel, by decide, by decide, rfl⟩
theorem cl_Law_117 : aj_vl nE "TestBenchLaw" 117 m_Bench_failed 0 7 := ⟨c0_Law_117, wi_Bench_failed, wv_Bench_failed, _, rfl, rfl⟩
theorem c0_Law_120 : aj_cl0 nE "TestBenchLaw" 120 m_Model_failed 0 := ⟨nm_at 1018 (by decide +kernel) rfl, wc_Model_failed, wz_Model, by decide +kernel, by decide, by decide, rfl⟩
theorem cl_Law_120 : aj_vl nE "TestBenchLaw" 120 m_Model_failed 0 8 := ⟨c0_Law_120, wi_Model_failed, wv_Model_failed, _, rfl, rfl⟩
theorem c0_Law_124 : aj_cl0 nE "TestBenchLaw" 124 m_Model_begin 1 := ⟨nm_at 1022 (by decide +kernel) rfl, wc_Model_begin, wz_Model, by decide +kernel, by decide, by decide, rfl⟩
theorem cl_Law_124 : aj_vl nE "TestBenchLaw" 124 m_Model_begin 1 8 := ⟨c0_Law_124, wi_Model_begin, wv_Model_begin, _, rfl, rfl⟩
theorem c0_Law_127 : aj_cl0 nE "TestBenchLaw" 127 m_Model_give 1 := ⟨nm_at 1026 (by decide +kernel) rfl, wc_Model_give, wz_Model, by decide +kernel, by decide, by decide, rfl⟩
theorem cl_Law_127 : aj_vl nE "TestBenchLaw" 127 m_Model_give 1 8 := ⟨c0_Law_127, wi_Model_give, wv_Model_give, _, rfl, rfl⟩
theorem c0_Law_130 : aj_cl0 nE "TestBenchLaw" 130 m_Model_same 0 := ⟨nm_at 1030 (by decide +kernel) rfl, wc_Model_same, wz_Model, by decide +kernel, by decide, by decide, rfl⟩
theorem cl_Law_130 : aj_vl nE "TestBenchLaw" 130 m_Model_same 0 8 := ⟨c0_Law_130, wi_Model_same, wv_Model_same, _, rfl, rfl⟩
theorem c0_Law_131 : aj_cl0 nE "TestBenchLaw" 131 m_Bench_covered 0 := ⟨nm_at 414 (by decide +kernel) rfl, wc_Bench_covered, wz_Bench, by decide +kernel, by decide, by decide, rfl⟩
theorem cl_Law_131 : aj_vl nE "TestBenchLaw" 131 m_Bench_covered 0 7 := ⟨c0_Law_131, wi_Bench_covered, wv_Bench_covered, _, rfl, rfl⟩
theorem c0_Law_134 : aj_cl0 nE "TestBenchLaw" 134 m_Model_covered 0 := ⟨nm_at 1037 (by decide +kernel) rfl, wc_Model_covered, wz_Model, by decide +kernel, by decide, by decide, rfl⟩
theorem cl_Law_134 : aj_vl nE "TestBenchLaw" 134 m_Model_covered 0 8 := ⟨c0_Law_134, wi_Model_covered, wv_Model_covered, _, rfl, rfl⟩
theorem c0_Law_135 : aj_cl0 nE "TestBenchLaw" 135 m_Bench_look 1 := ⟨nm_at 432 (by decide +kernel) rfl, wc_Bench_look, wz_Bench, by decide +kernel, by decide, by decide, rfl⟩
theorem cl_Law_135 : aj_vl nE "TestBenchLaw" 135 m_Bench_look 1 7 := ⟨c0_Law_135, wi_Bench_look, wv_Bench_look, _, rfl, rfl⟩
theorem c0_Law_138 : aj_cl0 nE "TestBenchLaw" 138 m_Model_look 1 := ⟨nm_at 1041 (by decide +kernel) rfl, wc_Model_look, wz_Model, by decide +kernel, by decide, by decide, rfl⟩
theorem cl_Law_138 : aj_vl nE "TestBenchLaw" 138 m_Model_look 1 8 := ⟨c0_Law_138, wi_Model_look, wv_Model_look, _, rfl, rfl⟩
theorem c0_Model_95 : aj_cl0 nE "TestBenchModel" 95 m_Model_isState 1 := ⟨nm_at 876 (by decide +kernel) rfl, wc_Model_isState, wz_Model, by decide +kernel, by decide, by decide, rfl⟩
theorem cl_Model_95 : aj_vl nE "TestBenchModel" 95 m_Model_isState 1 8 := ⟨c0_Model_95, wi_Model_isState, wv_Model_isState, _, rfl, rfl⟩
theorem c0_Model_99 : aj_cl0 nE "TestBenchModel" 99 m_Model_isInput 1 := ⟨nm_at 880 (by decide +kernel) rfl, wc_Model_isInput, wz_Model, by decide +kernel, by decide, by decide, rfl⟩
theorem cl_Model_99 : aj_vl nE "TestBenchModel" 99 m_Model_isInput 1 8 := ⟨c0_Model_99, wi_Model_isInput, wv_Model_isInput, _, rfl, rfl⟩
theorem c0_Model_102 : aj_cl0 nE "TestBenchModel" 102 m_Model_isOutput 1 := ⟨nm_at 884 (by decide +kernel) rfl, wc_Model_isOutput, wz_Model, by decide +kernel, by decide, by decide, rfl⟩
theorem cl_Model_102 : aj_sl nE "TestBenchModel" 102 m_Model_isOutput 1 := ⟨c0_Model_102, wt_Model_isOutput⟩
theorem c0_Model_112 : aj_cl0 nE "TestBenchModel" 112 m_Model_length 1 := ⟨nm_at 915 (by decide +kernel) rfl, wc_Model_length, wz_Model, by decide +kernel, by decide, by decide, rfl⟩
theorem cl_Model_112 : aj_sl nE "TestBenchModel" 112 m_Model_length 1 := ⟨c0_Model_112, wt_Model_length⟩
theorem c0_Model_118 : aj_cl0 nE "TestBenchModel" 118 m_Model_at 2 := ⟨nm_at 918 (by decide +kernel) rfl, wc_Model_at, wz_Model, by decide +kernel, by decide, by decide, rfl⟩
theorem cl_Model_118 : aj_sl nE "TestBenchModel" 118 m_Model_at 2 := ⟨c0_Model_118, wt_Model_at⟩
theorem c0_Model_122 : aj_cl0 nE "TestBenchModel" 122 m_Model_fits 4 := ⟨nm_at 926 (by decide +kernel) rfl, wc_Model_fits, wz_Model, by decide +kernel, by decide, by decide, rfl⟩
theorem cl_Model_122 : aj_vl nE "TestBenchModel" 122 m_Model_fits 4 8 := ⟨c0_Model_122, wi_Model_fits, wv_Model_fits, _, rfl, rfl⟩
theorem c0_Model_129 : aj_cl0 nE "TestBenchModel" 129 m_Model_take 2 := ⟨nm_at 903 (by decide +kernel) rfl, wc_Model_take, wz_Model, by decide +kernel, by decide, by decide, rfl⟩
theorem cl_Model_129 : aj_vl nE "TestBenchModel" 129 m_Model_take 2 8 := ⟨c0_Model_129, wi_Model_take, wv_Model_take, _, rfl, rfl⟩
theorem c0_Model_136 : aj_cl0 nE "TestBenchModel" 136 m_Model_tells 3 := ⟨nm_at 911 (by decide +kernel) rfl, wc_Model_tells, wz_Model, by decide +kernel, by decide, by decide, rfl⟩
theorem cl_Model_136 : aj_vl nE "TestBenchModel" 136 m_Model_tells 3 8 := ⟨c0_Model_136, wi_Model_tells, wv_Model_tells, _, rfl, rfl⟩
theorem c0_Model_140 : aj_cl0 nE "TestBenchModel" 140 m_Model_leastWord 2 := ⟨nm_at 922 (by decide +kernel) rfl, wc_Model_leastWord, wz_Model, by decide +kernel, by decide, by decide, rfl⟩
theorem cl_Model_140 : aj_vl nE "TestBenchModel" 140 m_Model_leastWord 2 8 := ⟨c0_Model_140, wi_Model_leastWord, wv_Model_leastWord, _, rfl, rfl⟩
theorem c0_Model_144 : aj_cl0 nE "TestBenchModel" 144 m_Model_chooseOwn 2 := ⟨nm_at 930 (by decide +kernel) rfl, wc_Model_chooseOwn, wz_Model, by decide +kernel, by decide, by decide, rfl⟩
theorem cl_Model_144 : aj_vl nE "TestBenchModel" 144 m_Model_chooseOwn 2 8 := ⟨c0_Model_144, wi_Model_chooseOwn, wv_Model_chooseOwn, _, rfl, rfl⟩
theorem c0_Model_148 : aj_cl0 nE "TestBenchModel" 148 m_Model_measure 0 := ⟨nm_at 895 (by decide +kernel) rfl, wc_Model_measure, wz_Model, by decide +kernel, by decide, by decide, rfl⟩
theorem cl_Model_148 : aj_vl nE "TestBenchModel" 148 m_Model_measure 0 8 := ⟨c0_Model_148, wi_Model_measure, wv_Model_measure, _, rfl, rfl⟩
theorem c0_Model_151 : aj_cl0 nE "TestBenchModel" 151 m_Model_number 0 := ⟨nm_at 899 (by decide +kernel) rfl, wc_Model_number, wz_Model, by decide +kernel, by decide, by decide, rfl⟩
theorem cl_Model_151 : aj_vl nE "TestBenchModel" 151 m_Model_number 0 8 := ⟨c0_Model_151, wi_Model_number, wv_Model_number, _, rfl, rfl⟩
theorem c0_Model_154 : aj_cl0 nE "TestBenchModel" 154 m_Model_choose 0 := ⟨nm_at 907 (by decide +kernel) rfl, wc_Model_choose, wz_Model, by decide +kernel, by decide, by decide, rfl⟩
theorem cl_Model_154 : aj_vl nE "TestBenchModel" 154 m_Model_choose 0 8 := ⟨c0_Model_154, wi_Model_choose, wv_Model_choose, _, rfl, rfl⟩
theorem c0_Model_163 : aj_cl0 nE "TestBenchModel" 163 m_Model_putEnds 5 := ⟨nm_at 962 (by decide +kernel) rfl, wc_Model_putEnds, wz_Model, by decide +kernel, by decide, by decide, rfl⟩
theorem cl_Model_163 : aj_vl nE "TestBenchModel" 163 m_Model_putEnds 5 8 := ⟨c0_Model_163, wi_Model_putEnds, wv_Model_putEnds, _, rfl, rfl⟩
theorem c0_Model_167 : aj_cl0 nE "TestBenchModel" 167 m_Model_put 3 := ⟨nm_at 966 (by decide +kernel) rfl, wc_Model_put, wz_Model, by decide +kernel, by decide, by decide, rfl⟩
theorem cl_Model_167 : aj_vl nE "TestBenchModel" 167 m_Model_put 3 8 := ⟨c0_Model_167, wi_Model_put, wv_Model_put, _, rfl, rfl⟩
theorem c0_Model_171 : aj_cl0 nE "TestBenchModel" 171 m_Model_led 2 := ⟨nm_at 970 (by decide +kernel) rfl, wc_Model_led, wz_Model, by decide +kernel, by decide, by decide, rfl⟩
theorem cl_Model_171 : aj_vl nE "TestBenchModel" 171 m_Model_led 2 8 := ⟨c0_Model_171, wi_Model_led, wv_Model_led, _, rfl, rfl⟩
theorem c0_Model_175 : aj_cl0 nE "TestBenchModel" 175 m_Model_putAll 4 := ⟨nm_at 958 (by decide +kernel) rfl, wc_Model_putAll, wz_Model, by decide +kernel, by decide, by decide, rfl⟩
theorem cl_Model_175 : aj_vl nE "TestBenchModel" 175 m_Model_putAll 4 8 := ⟨c0_Model_175, wi_Model_putAll, wv_Model_putAll, _, rfl, rfl⟩
theorem c0_Model_179 : aj_cl0 nE "TestBenchModel" 179 m_Model_isAccess 1 := ⟨nm_at 974 (by decide +kernel) rfl, wc_Model_isAccess, wz_Model, by decide +kernel, by decide, by decide, rfl⟩
theorem cl_Model_179 : aj_vl nE "TestBenchModel" 179 m_Model_isAccess 1 8 := ⟨c0_Model_179, wi_Model_isAccess, wv_Model_isAccess, _, rfl, rfl⟩
theorem c0_Model_186 : aj_cl0 nE "TestBenchModel" 186 m_Model_list 0 := ⟨nm_at 978 (by decide +kernel) rfl, wc_Model_list, wz_Model, by decide +kernel, by decide, by decide, rfl⟩
theorem cl_Model_186 : aj_vl nE "TestBenchModel" 186 m_Model_list 0 8 := ⟨c0_Model_186, wi_Model_list, wv_Model_list, _, rfl, rfl⟩
theorem c0_Model_195 : aj_cl0 nE "TestBenchModel" 195 m_Model_isEnd 1 := ⟨nm_at 982 (by decide +kernel) rfl, wc_Model_isEnd, wz_Model, by decide +kernel, by decide, by decide, rfl⟩
theorem cl_Model_195 : aj_vl nE "TestBenchModel" 195 m_Model_isEnd 1 8 := ⟨c0_Model_195, wi_Model_isEnd, wv_Model_isEnd, _, rfl, rfl⟩
theorem c0_Model_198 : aj_cl0 nE "TestBenchModel" 198 m_Model_isTest 1 := ⟨nm_at 990 (by decide +kernel) rfl, wc_Model_isTest, wz_Model, by decide +kernel, by decide, by decide, rfl⟩
theorem cl_Model_198 : aj_vl nE "TestBenchModel" 198 m_Model_isTest 1 8 := ⟨c0_Model_198, wi_Model_isTest, wv_Model_isTest, _, rfl, rfl⟩
theorem c0_Model_201 : aj_cl0 nE "TestBenchModel" 201 m_Model_unfold 1 := ⟨nm_at 994 (by decide +kernel) rfl, wc_Model_unfold, wz_Model, by decide +kernel, by decide, by decide, rfl⟩
theorem cl_Model_201 : aj_vl nE "TestBenchModel" 201 m_Model_unfold 1 8 := ⟨c0_Model_201, wi_Model_unfold, wv_Model_unfold, _, rfl, rfl⟩
theorem c0_Model_205 : aj_cl0 nE "TestBenchModel" 205 m_Model_expected 1 := ⟨nm_at 998 (by decide +kernel) rfl, wc_Model_expected, wz_Model, by decide +kernel, by decide, by decide, rfl⟩
theorem cl_Model_205 : aj_vl nE "TestBenchModel" 205 m_Model_expected 1 8 := ⟨c0_Model_205, wi_Model_expected, wv_Model_expected, _, rfl, rfl⟩
theorem c0_Model_208 : aj_cl0 nE "TestBenchModel" 208 m_Model_fails 1 := ⟨nm_at 1014 (by decide +kernel) rfl, wc_Model_fails, wz_Model, by decide +kernel, by decide, by decide, rfl⟩
theorem cl_Model_208 : aj_vl nE "TestBenchModel" 208 m_Model_fails 1 8 := ⟨c0_Model_208, wi_Model_fails, wv_Model_fails, _, rfl, rfl⟩
theorem c0_Model_214 : aj_cl0 nE "TestBenchModel" 214 m_Model_least 2 := ⟨nm_at 1034 (by decide +kernel) rfl, wc_Model_least, wz_Model, by decide +kernel, by decide, by decide, rfl⟩
theorem cl_Model_214 : aj_sl nE "TestBenchModel" 214 m_Model_least 2 := ⟨c0_Model_214, wt_Model_least⟩
