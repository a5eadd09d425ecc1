/-! links: the law's own methods, what is thrown, the nest mates' constructors, what is made -/
set_option maxRecDepth 100000 in
theorem ww_Law_edge : Cond.codeWith m_Law_edge.1 m_Law_edge.2.1 m_Law_edge.2.2.1 m_Law_edge.2.2.2 (aj_tb m_Law_edge.1) ∈ nm_ws := nm_at 441 rfl rfl
theorem wl_Law_65 : aj_wl nE "TestBenchLaw" 65 m_Law_edge 5 := ⟨nm_at 439 (by decide +kernel) rfl, ww_Law_edge, nm_at 40 (by decide +kernel) rfl, by decide +kernel, by decide, by decide, nm_at 440 (by decide +kernel) rfl⟩
set_option maxRecDepth 100000 in
theorem ww_Law_start : Cond.codeWith m_Law_start.1 m_Law_start.2.1 m_Law_start.2.2.1 m_Law_start.2.2.2 (aj_tb m_Law_start.1) ∈ nm_ws := nm_at 538 rfl rfl
theorem wl_Law_72 : aj_wl nE "TestBenchLaw" 72 m_Law_start 2 := ⟨nm_at 536 (by decide +kernel) rfl, ww_Law_start, nm_at 40 (by decide +kernel) rfl, by decide +kernel, by decide, by decide, nm_at 537 (by decide +kernel) rfl⟩
set_option maxRecDepth 100000 in
theorem ww_Law_seal : Cond.codeWith m_Law_seal.1 m_Law_seal.2.1 m_Law_seal.2.2.1 m_Law_seal.2.2.2 (aj_tb m_Law_seal.1) ∈ nm_ws := nm_at 545 rfl rfl
theorem wl_Law_76 : aj_wl nE "TestBenchLaw" 76 m_Law_seal 2 := ⟨nm_at 543 (by decide +kernel) rfl, ww_Law_seal, nm_at 40 (by decide +kernel) rfl, by decide +kernel, by decide, by decide, nm_at 544 (by decide +kernel) rfl⟩
set_option maxRecDepth 100000 in
theorem ww_Law_apart : Cond.codeWith m_Law_apart.1 m_Law_apart.2.1 m_Law_apart.2.2.1 m_Law_apart.2.2.2 (aj_tb m_Law_apart.1) ∈ nm_ws := nm_at 618 rfl rfl
theorem wl_Law_84 : aj_wl nE "TestBenchLaw" 84 m_Law_apart 4 := ⟨nm_at 616 (by decide +kernel) rfl, ww_Law_apart, nm_at 40 (by decide +kernel) rfl, by decide +kernel, by decide, by decide, nm_at 617 (by decide +kernel) rfl⟩
set_option maxRecDepth 100000 in
theorem ww_Law_suite : Cond.codeWith m_Law_suite.1 m_Law_suite.2.1 m_Law_suite.2.2.1 m_Law_suite.2.2.2 (aj_tb m_Law_suite.1) ∈ nm_ws := nm_at 627 rfl rfl
theorem wl_Law_100 : aj_wl nE "TestBenchLaw" 100 m_Law_suite 4 := ⟨nm_at 625 (by decide +kernel) rfl, ww_Law_suite, nm_at 40 (by decide +kernel) rfl, by decide +kernel, by decide, by decide, nm_at 626 (by decide +kernel) rfl⟩
set_option maxRecDepth 100000 in
theorem ww_Law_resize : Cond.codeWith m_Law_resize.1 m_Law_resize.2.1 m_Law_resize.2.2.1 m_Law_resize.2.2.2 (aj_tb m_Law_resize.1) ∈ nm_ws := nm_at 687 rfl rfl
theorem wl_Law_108 : aj_wl nE "TestBenchLaw" 108 m_Law_resize 2 := ⟨nm_at 685 (by decide +kernel) rfl, ww_Law_resize, nm_at 40 (by decide +kernel) rfl, by decide +kernel, by decide, by decide, nm_at 686 (by decide +kernel) rfl⟩
set_option maxRecDepth 100000 in
theorem ww_Law_change : Cond.codeWith m_Law_change.1 m_Law_change.2.1 m_Law_change.2.2.1 m_Law_change.2.2.2 (aj_tb m_Law_change.1) ∈ nm_ws := nm_at 695 rfl rfl
theorem wl_Law_111 : aj_wl nE "TestBenchLaw" 111 m_Law_change 5 := ⟨nm_at 693 (by decide +kernel) rfl, ww_Law_change, nm_at 40 (by decide +kernel) rfl, by decide +kernel, by decide, by decide, nm_at 694 (by decide +kernel) rfl⟩
set_option maxRecDepth 100000 in
theorem ww_Law_run : Cond.codeWith m_Law_run.1 m_Law_run.2.1 m_Law_run.2.2.1 m_Law_run.2.2.2 (aj_tb m_Law_run.1) ∈ nm_ws := nm_at 702 rfl rfl
theorem wl_Law_114 : aj_wl nE "TestBenchLaw" 114 m_Law_run 2 := ⟨nm_at 700 (by decide +kernel) rfl, ww_Law_run, nm_at 40 (by decide +kernel) rfl, by decide +kernel, by decide, by decide, nm_at 701 (by decide +kernel) rfl⟩
set_option maxRecDepth 100000 in
theorem ww_Law_begin : Cond.codeWith m_Law_begin.1 m_Law_begin.2.1 m_Law_begin.2.2.1 m_Law_begin.2.2.2 (aj_tb m_Law_begin.1) ∈ nm_ws := nm_at 725 rfl rfl
theorem wl_Law_121 : aj_wl nE "TestBenchLaw" 121 m_Law_begin 3 := ⟨nm_at 723 (by decide +kernel) rfl, ww_Law_begin, nm_at 40 (by decide +kernel) rfl, by decide +kernel, by decide, by decide, nm_at 724 (by decide +kernel) rfl⟩
set_option maxRecDepth 100000 in
theorem ww_Law_give : Cond.codeWith m_Law_give.1 m_Law_give.2.1 m_Law_give.2.2.1 m_Law_give.2.2.2 (aj_tb m_Law_give.1) ∈ nm_ws := nm_at 736 rfl rfl
theorem wl_Law_125 : aj_wl nE "TestBenchLaw" 125 m_Law_give 3 := ⟨nm_at 734 (by decide +kernel) rfl, ww_Law_give, nm_at 40 (by decide +kernel) rfl, by decide +kernel, by decide, by decide, nm_at 735 (by decide +kernel) rfl⟩
set_option maxRecDepth 100000 in
theorem ww_Law_same : Cond.codeWith m_Law_same.1 m_Law_same.2.1 m_Law_same.2.2.1 m_Law_same.2.2.2 (aj_tb m_Law_same.1) ∈ nm_ws := nm_at 744 rfl rfl
theorem wl_Law_128 : aj_wl nE "TestBenchLaw" 128 m_Law_same 2 := ⟨nm_at 742 (by decide +kernel) rfl, ww_Law_same, nm_at 40 (by decide +kernel) rfl, by decide +kernel, by decide, by decide, nm_at 743 (by decide +kernel) rfl⟩
theorem th_mem {L : List Cond} {X : String} (h : L.all (fun w => decide (w ∈ nm_ws) || (aj_dcl.any (fun x => decide (w = .declares x))) || decide (w = .castable X X) || decide (w = .laysStatic Bundle.tN "UNASSIGNED_STACK" Bundle.steD) || decide (w = .isRef (.static Bundle.tN "UNASSIGNED_STACK" Bundle.steD)) || decide (w = .laysStatic Bundle.tN "SUPPRESSED_SENTINEL" Bundle.listD) || decide (w = .isRef (.static Bundle.tN "SUPPRESSED_SENTINEL" Bundle.listD))) = true) :
    ∀ w ∈ L, w ∈ nE.2.2.2.1 ∨ (∃ x ∈ aj_dcl, w = .declares x) ∨ w = .castable X X ∨ w = .laysStatic Bundle.tN "UNASSIGNED_STACK" Bundle.steD ∨ w = .isRef (.static Bundle.tN "UNASSIGNED_STACK" Bundle.steD) ∨ w = .laysStatic Bundle.tN "SUPPRESSED_SENTINEL" Bundle.listD ∨ w = .isRef (.static Bundle.tN "SUPPRESSED_SENTINEL" Bundle.listD) := by
  intro w hw
  have h1 := List.all_eq_true.mp h w hw
  simp only [Bool.or_eq_true, decide_eq_true_eq, List.any_eq_true] at h1
  rcases h1 with (((((h | h) | h) | h) | h) | h) | h
  · exact Or.inl h
  · exact Or.inr (Or.inl h)
  · exact Or.inr (Or.inr (Or.inl h))
  · exact Or.inr (Or.inr (Or.inr (Or.inl h)))
  · exact Or.inr (Or.inr (Or.inr (Or.inr (Or.inl h))))
  · exact Or.inr (Or.inr (Or.inr (Or.inr (Or.inr (Or.inl h)))))
  · exact Or.inr (Or.inr (Or.inr (Or.inr (Or.inr (Or.inr h)))))
set_option maxRecDepth 100000 in
theorem th_IAE : aj_thw nE "TestBench" 100 102 0 "java/lang/IllegalArgumentException" := ⟨rfl, by decide +kernel, nm_at 457 (by decide +kernel) rfl, nm_at 54 (by decide +kernel) rfl, th_mem (by decide +kernel)⟩
set_option maxRecDepth 100000 in
theorem th_ISE : aj_thw nE "TestBench" 103 105 1 "java/lang/IllegalStateException" := ⟨rfl, by decide +kernel, nm_at 520 (by decide +kernel) rfl, nm_at 55 (by decide +kernel) rfl, th_mem (by decide +kernel)⟩
set_option maxRecDepth 100000 in
theorem th_UOE : aj_thw nE "TestBench" 174 176 2 "java/lang/UnsupportedOperationException" := ⟨rfl, by decide +kernel, nm_at 670 (by decide +kernel) rfl, nm_at 57 (by decide +kernel) rfl, th_mem (by decide +kernel)⟩
theorem hc_IAE : Cond.classLink "TestBenchLaw" 13 "java/lang/IllegalArgumentException" ∈ nm_ws := nm_at 442 (by decide +kernel) rfl
theorem hc_ISE : Cond.classLink "TestBenchLaw" 15 "java/lang/IllegalStateException" ∈ nm_ws := nm_at 443 (by decide +kernel) rfl
theorem hc_UOE : Cond.classLink "TestBenchLaw" 32 "java/lang/UnsupportedOperationException" ∈ nm_ws := nm_at 628 (by decide +kernel) rfl
set_option maxRecDepth 100000 in
theorem wk_Word_init : Cond.code m_Word_init.1 m_Word_init.2.1 m_Word_init.2.2.1 m_Word_init.2.2.2 ∈ nm_ws := nm_at 162 rfl rfl
theorem nl_Family_30 : aj_nl1 nE "TestBench$Family" "TestBench" 30 m_Word_init 0 := ⟨by decide +kernel, wk_Word_init, nm_at 46 (by decide +kernel) rfl, by decide +kernel, by decide, by decide, rfl, nm_at 161 (by decide +kernel) rfl, rfl, rfl⟩
set_option maxRecDepth 100000 in
theorem wk_Search_init : Cond.code m_Search_init.1 m_Search_init.2.1 m_Search_init.2.2.1 m_Search_init.2.2.2 ∈ nm_ws := nm_at 203 rfl rfl
theorem nl_Bench_48 : aj_nl1 nE "TestBench" "TestBench" 48 m_Search_init 0 := ⟨by decide +kernel, wk_Search_init, nm_at 47 (by decide +kernel) rfl, by decide +kernel, by decide, by decide, rfl, nm_at 202 (by decide +kernel) rfl, rfl, rfl⟩
theorem nl_Search_11 : aj_nl1 nE "TestBench$PairSearch" "TestBench" 11 m_Word_init 0 := ⟨by decide +kernel, wk_Word_init, nm_at 46 (by decide +kernel) rfl, by decide +kernel, by decide, by decide, rfl, nm_at 161 (by decide +kernel) rfl, rfl, rfl⟩
set_option maxRecDepth 100000 in
theorem wk_Trial_init : Cond.code m_Trial_init.1 m_Trial_init.2.1 m_Trial_init.2.2.1 m_Trial_init.2.2.2 ∈ nm_ws := nm_at 239 rfl rfl
theorem nl_Bench_55 : aj_nl1 nE "TestBench" "TestBench" 55 m_Trial_init 0 := ⟨by decide +kernel, wk_Trial_init, nm_at 48 (by decide +kernel) rfl, by decide +kernel, by decide, by decide, rfl, nm_at 238 (by decide +kernel) rfl, rfl, rfl⟩
theorem nl_Bench_62 : aj_nl1 nE "TestBench" "TestBench" 62 m_Word_init 0 := ⟨by decide +kernel, wk_Word_init, nm_at 46 (by decide +kernel) rfl, by decide +kernel, by decide, by decide, rfl, nm_at 161 (by decide +kernel) rfl, rfl, rfl⟩
theorem nw_Law_8 : aj_nl0 nE "TestBenchLaw" 8 7 14 := ⟨"TestBench", nm_T7, rfl, nm_at 59 (by decide +kernel) rfl, nm_at 60 (by decide +kernel) rfl, nm_at 41 (by decide +kernel) rfl⟩
theorem nw_Bench_18 : aj_nl0 nE "TestBench" 18 0 4 := ⟨"TestBench$Machine", nm_T0, rfl, nm_at 73 (by decide +kernel) rfl, nm_at 74 (by decide +kernel) rfl, nm_at 43 (by decide +kernel) rfl⟩
theorem nw_Bench_27 : aj_nl0 nE "TestBench" 27 3 6 := ⟨"TestBench$Reduction", nm_T3, rfl, nm_at 117 (by decide +kernel) rfl, nm_at 118 (by decide +kernel) rfl, nm_at 44 (by decide +kernel) rfl⟩
theorem nw_Reduction_27 : aj_nl0 nE "TestBench$Reduction" 27 0 4 := ⟨"TestBench$Machine", nm_T0, rfl, nm_at 123 (by decide +kernel) rfl, nm_at 74 (by decide +kernel) rfl, nm_at 43 (by decide +kernel) rfl⟩
theorem nw_Bench_36 : aj_nl0 nE "TestBench" 36 4 4 := ⟨"TestBench$Family", nm_T4, rfl, nm_at 149 (by decide +kernel) rfl, nm_at 150 (by decide +kernel) rfl, nm_at 45 (by decide +kernel) rfl⟩
theorem nw_Family_9 : aj_nl0 nE "TestBench$Family" 9 1 2 := ⟨"TestBench$Word", nm_T1, rfl, nm_at 155 (by decide +kernel) rfl, nm_at 159 (by decide +kernel) rfl, nm_at 46 (by decide +kernel) rfl⟩
theorem nw_Bench_46 : aj_nl0 nE "TestBench" 46 2 8 := ⟨"TestBench$PairSearch", nm_T2, rfl, nm_at 199 (by decide +kernel) rfl, nm_at 200 (by decide +kernel) rfl, nm_at 47 (by decide +kernel) rfl⟩
theorem nw_Search_9 : aj_nl0 nE "TestBench$PairSearch" 9 1 2 := ⟨"TestBench$Word", nm_T1, rfl, nm_at 205 (by decide +kernel) rfl, nm_at 159 (by decide +kernel) rfl, nm_at 46 (by decide +kernel) rfl⟩
theorem nw_Bench_53 : aj_nl0 nE "TestBench" 53 6 2 := ⟨"TestBench$Trial", nm_T6, rfl, nm_at 235 (by decide +kernel) rfl, nm_at 236 (by decide +kernel) rfl, nm_at 48 (by decide +kernel) rfl⟩
theorem nw_Bench_60 : aj_nl0 nE "TestBench" 60 1 2 := ⟨"TestBench$Word", nm_T1, rfl, nm_at 248 (by decide +kernel) rfl, nm_at 159 (by decide +kernel) rfl, nm_at 46 (by decide +kernel) rfl⟩
theorem nw_Bench_67 : aj_nl0 nE "TestBench" 67 5 15 := ⟨"TestBench$Suite", nm_T5, rfl, nm_at 250 (by decide +kernel) rfl, nm_at 251 (by decide +kernel) rfl, nm_at 49 (by decide +kernel) rfl⟩
theorem nw_Law_62 : aj_nl0 nE "TestBenchLaw" 62 8 37 := ⟨"TestBenchModel", nm_T8, rfl, nm_at 749 (by decide +kernel) rfl, nm_at 750 (by decide +kernel) rfl, nm_at 50 (by decide +kernel) rfl⟩
theorem ob_Bench_3 : Cond.methodLink "TestBench" 3 Lib.objectInit ∈ nm_ws ∧ Cond.instanceMethod Lib.objectInit ∈ nm_ws ∧ Cond.code Lib.objectInit ⟨#[0xb1]⟩ 1 none ∈ nm_ws := ⟨nm_at 64 (by decide +kernel) rfl, nm_at 65 (by decide +kernel) rfl, nm_at 66 (by decide +kernel) rfl⟩
theorem ob_Machine_3 : Cond.methodLink "TestBench$Machine" 3 Lib.objectInit ∈ nm_ws ∧ Cond.instanceMethod Lib.objectInit ∈ nm_ws ∧ Cond.code Lib.objectInit ⟨#[0xb1]⟩ 1 none ∈ nm_ws := ⟨nm_at 78 (by decide +kernel) rfl, nm_at 65 (by decide +kernel) rfl, nm_at 66 (by decide +kernel) rfl⟩
theorem ob_Reduction_3 : Cond.methodLink "TestBench$Reduction" 3 Lib.objectInit ∈ nm_ws ∧ Cond.instanceMethod Lib.objectInit ∈ nm_ws ∧ Cond.code Lib.objectInit ⟨#[0xb1]⟩ 1 none ∈ nm_ws := ⟨nm_at 122 (by decide +kernel) rfl, nm_at 65 (by decide +kernel) rfl, nm_at 66 (by decide +kernel) rfl⟩
theorem ob_Family_3 : Cond.methodLink "TestBench$Family" 3 Lib.objectInit ∈ nm_ws ∧ Cond.instanceMethod Lib.objectInit ∈ nm_ws ∧ Cond.code Lib.objectInit ⟨#[0xb1]⟩ 1 none ∈ nm_ws := ⟨nm_at 154 (by decide +kernel) rfl, nm_at 65 (by decide +kernel) rfl, nm_at 66 (by decide +kernel) rfl⟩
theorem ob_Word_3 : Cond.methodLink "TestBench$Word" 3 Lib.objectInit ∈ nm_ws ∧ Cond.instanceMethod Lib.objectInit ∈ nm_ws ∧ Cond.code Lib.objectInit ⟨#[0xb1]⟩ 1 none ∈ nm_ws := ⟨nm_at 163 (by decide +kernel) rfl, nm_at 65 (by decide +kernel) rfl, nm_at 66 (by decide +kernel) rfl⟩
theorem ob_Search_3 : Cond.methodLink "TestBench$PairSearch" 3 Lib.objectInit ∈ nm_ws ∧ Cond.instanceMethod Lib.objectInit ∈ nm_ws ∧ Cond.code Lib.objectInit ⟨#[0xb1]⟩ 1 none ∈ nm_ws := ⟨nm_at 204 (by decide +kernel) rfl, nm_at 65 (by decide +kernel) rfl, nm_at 66 (by decide +kernel) rfl⟩
theorem ob_Trial_3 : Cond.methodLink "TestBench$Trial" 3 Lib.objectInit ∈ nm_ws ∧ Cond.instanceMethod Lib.objectInit ∈ nm_ws ∧ Cond.code Lib.objectInit ⟨#[0xb1]⟩ 1 none ∈ nm_ws := ⟨nm_at 240 (by decide +kernel) rfl, nm_at 65 (by decide +kernel) rfl, nm_at 66 (by decide +kernel) rfl⟩
theorem ob_Suite_3 : Cond.methodLink "TestBench$Suite" 3 Lib.objectInit ∈ nm_ws ∧ Cond.instanceMethod Lib.objectInit ∈ nm_ws ∧ Cond.code Lib.objectInit ⟨#[0xb1]⟩ 1 none ∈ nm_ws := ⟨nm_at 255 (by decide +kernel) rfl, nm_at 65 (by decide +kernel) rfl, nm_at 66 (by decide +kernel) rfl⟩
theorem ob_Model_1 : Cond.methodLink "TestBenchModel" 1 Lib.objectInit ∈ nm_ws ∧ Cond.instanceMethod Lib.objectInit ∈ nm_ws ∧ Cond.code Lib.objectInit ⟨#[0xb1]⟩ 1 none ∈ nm_ws := ⟨nm_at 754 (by decide +kernel) rfl, nm_at 65 (by decide +kernel) rfl, nm_at 66 (by decide +kernel) rfl⟩
theorem mm_Bench_9 : Cond.methodLink "TestBench" 9 Lib.Math.min.name ∈ nm_ws ∧ Cond.static Lib.Math.min.name ∈ nm_ws ∧ Cond.initialized "java/lang/Math" ∈ nm_ws ∧ Cond.code Lib.Math.min.name Lib.Math.min.code 2 (some .int) ∈ nm_ws := ⟨nm_at 67 (by decide +kernel) rfl, nm_at 68 (by decide +kernel) rfl, nm_at 42 (by decide +kernel) rfl, nm_at 69 (by decide +kernel) rfl⟩
theorem mm_Bench_15 : Cond.methodLink "TestBench" 15 Lib.Math.max.name ∈ nm_ws ∧ Cond.static Lib.Math.max.name ∈ nm_ws ∧ Cond.initialized "java/lang/Math" ∈ nm_ws ∧ Cond.code Lib.Math.max.name Lib.Math.max.code 2 (some .int) ∈ nm_ws := ⟨nm_at 70 (by decide +kernel) rfl, nm_at 71 (by decide +kernel) rfl, nm_at 42 (by decide +kernel) rfl, nm_at 72 (by decide +kernel) rfl⟩
