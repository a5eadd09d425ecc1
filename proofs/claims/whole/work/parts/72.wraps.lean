/-! the law's own methods: a call that may throw, as a number -/
theorem hd_edge_0 : aj_hdl nE m_Law_edge 6 0 5 14 := ⟨[], [(0, 9, 16, 15)], (0, 9, 12, 13), "java/lang/IllegalArgumentException", by decide +kernel, rfl, by decide, by decide, hc_IAE, (fun z hz => by cases hz), Or.inr ⟨(dx d_Law_edge 7 rfl), rfl⟩⟩
theorem hd_edge_1 : aj_hdl nE m_Law_edge 6 1 5 18 := ⟨[(0, 9, 12, 13)], [], (0, 9, 16, 15), "java/lang/IllegalStateException", by decide +kernel, rfl, by decide, by decide, hc_ISE, (fun z hz => by
    rcases List.mem_cons.mp hz with rfl | hz
    · exact ⟨by decide, "java/lang/IllegalArgumentException", by decide, by decide, hc_IAE⟩
    · cases hz), Or.inr ⟨(dx d_Law_edge 10 rfl), rfl⟩⟩
theorem hd_start_0 : aj_hdl nE m_Law_start 2 0 2 9 := ⟨[], [(0, 5, 11, 15)], (0, 5, 8, 13), "java/lang/IllegalArgumentException", by decide +kernel, rfl, by decide, by decide, hc_IAE, (fun z hz => by cases hz), Or.inl ⟨2, rfl, (dx d_Law_start 4 rfl), rfl⟩⟩
theorem hd_start_1 : aj_hdl nE m_Law_start 2 1 2 12 := ⟨[(0, 5, 8, 13)], [], (0, 5, 11, 15), "java/lang/IllegalStateException", by decide +kernel, rfl, by decide, by decide, hc_ISE, (fun z hz => by
    rcases List.mem_cons.mp hz with rfl | hz
    · exact ⟨by decide, "java/lang/IllegalArgumentException", by decide, by decide, hc_IAE⟩
    · cases hz), Or.inl ⟨2, rfl, (dx d_Law_start 7 rfl), rfl⟩⟩
theorem hd_seal_1 : aj_hdl nE m_Law_seal 3 1 2 12 := ⟨[], [], (0, 8, 11, 15), "java/lang/IllegalStateException", by decide +kernel, rfl, by decide, by decide, hc_ISE, (fun z hz => by cases hz), Or.inl ⟨2, rfl, (dx d_Law_seal 7 rfl), rfl⟩⟩
theorem hd_apart_0 : aj_hdl nE m_Law_apart 5 0 4 15 := ⟨[], [(0, 10, 17, 15)], (0, 10, 13, 13), "java/lang/IllegalArgumentException", by decide +kernel, rfl, by decide, by decide, hc_IAE, (fun z hz => by cases hz), Or.inr ⟨(dx d_Law_apart 9 rfl), rfl⟩⟩
theorem hd_apart_1 : aj_hdl nE m_Law_apart 5 1 4 19 := ⟨[(0, 10, 13, 13)], [], (0, 10, 17, 15), "java/lang/IllegalStateException", by decide +kernel, rfl, by decide, by decide, hc_ISE, (fun z hz => by
    rcases List.mem_cons.mp hz with rfl | hz
    · exact ⟨by decide, "java/lang/IllegalArgumentException", by decide, by decide, hc_IAE⟩
    · cases hz), Or.inr ⟨(dx d_Law_apart 12 rfl), rfl⟩⟩
theorem hd_suite_0 : aj_hdl nE m_Law_suite 5 0 4 15 := ⟨[], [(0, 10, 17, 15), (0, 10, 21, 32)], (0, 10, 13, 13), "java/lang/IllegalArgumentException", by decide +kernel, rfl, by decide, by decide, hc_IAE, (fun z hz => by cases hz), Or.inr ⟨(dx d_Law_suite 9 rfl), rfl⟩⟩
theorem hd_suite_1 : aj_hdl nE m_Law_suite 5 1 4 19 := ⟨[(0, 10, 13, 13)], [(0, 10, 21, 32)], (0, 10, 17, 15), "java/lang/IllegalStateException", by decide +kernel, rfl, by decide, by decide, hc_ISE, (fun z hz => by
    rcases List.mem_cons.mp hz with rfl | hz
    · exact ⟨by decide, "java/lang/IllegalArgumentException", by decide, by decide, hc_IAE⟩
    · cases hz), Or.inr ⟨(dx d_Law_suite 12 rfl), rfl⟩⟩
theorem hd_suite_2 : aj_hdl nE m_Law_suite 5 2 4 23 := ⟨[(0, 10, 13, 13), (0, 10, 17, 15)], [], (0, 10, 21, 32), "java/lang/UnsupportedOperationException", by decide +kernel, rfl, by decide, by decide, hc_UOE, (fun z hz => by
    rcases List.mem_cons.mp hz with rfl | hz
    · exact ⟨by decide, "java/lang/IllegalArgumentException", by decide, by decide, hc_IAE⟩
    · rcases List.mem_cons.mp hz with rfl | hz
      · exact ⟨by decide, "java/lang/IllegalStateException", by decide, by decide, hc_ISE⟩
      · cases hz), Or.inr ⟨(dx d_Law_suite 15 rfl), rfl⟩⟩
theorem hd_resize_0 : aj_hdl nE m_Law_resize 2 0 2 9 := ⟨[], [(0, 5, 11, 15)], (0, 5, 8, 13), "java/lang/IllegalArgumentException", by decide +kernel, rfl, by decide, by decide, hc_IAE, (fun z hz => by cases hz), Or.inl ⟨2, rfl, (dx d_Law_resize 4 rfl), rfl⟩⟩
theorem hd_resize_1 : aj_hdl nE m_Law_resize 2 1 2 12 := ⟨[(0, 5, 8, 13)], [], (0, 5, 11, 15), "java/lang/IllegalStateException", by decide +kernel, rfl, by decide, by decide, hc_ISE, (fun z hz => by
    rcases List.mem_cons.mp hz with rfl | hz
    · exact ⟨by decide, "java/lang/IllegalArgumentException", by decide, by decide, hc_IAE⟩
    · cases hz), Or.inl ⟨2, rfl, (dx d_Law_resize 7 rfl), rfl⟩⟩
theorem hd_change_1 : aj_hdl nE m_Law_change 6 1 5 14 := ⟨[], [(0, 9, 16, 13)], (0, 9, 12, 15), "java/lang/IllegalStateException", by decide +kernel, rfl, by decide, by decide, hc_ISE, (fun z hz => by cases hz), Or.inr ⟨(dx d_Law_change 7 rfl), rfl⟩⟩
theorem hd_change_0 : aj_hdl nE m_Law_change 6 0 5 18 := ⟨[(0, 9, 12, 15)], [], (0, 9, 16, 13), "java/lang/IllegalArgumentException", by decide +kernel, rfl, by decide, by decide, hc_IAE, (fun z hz => by
    rcases List.mem_cons.mp hz with rfl | hz
    · exact ⟨by decide, "java/lang/IllegalStateException", by decide, by decide, hc_ISE⟩
    · cases hz), Or.inr ⟨(dx d_Law_change 10 rfl), rfl⟩⟩
theorem hd_run_1 : aj_hdl nE m_Law_run 3 1 2 12 := ⟨[], [], (0, 8, 11, 15), "java/lang/IllegalStateException", by decide +kernel, rfl, by decide, by decide, hc_ISE, (fun z hz => by cases hz), Or.inl ⟨2, rfl, (dx d_Law_run 7 rfl), rfl⟩⟩
theorem hd_begin_0 : aj_hdl nE m_Law_begin 4 0 3 13 := ⟨[], [], (0, 9, 12, 13), "java/lang/IllegalArgumentException", by decide +kernel, rfl, by decide, by decide, hc_IAE, (fun z hz => by cases hz), Or.inl ⟨3, rfl, (dx d_Law_begin 8 rfl), rfl⟩⟩
theorem hd_give_1 : aj_hdl nE m_Law_give 4 1 3 13 := ⟨[], [(0, 9, 15, 13)], (0, 9, 12, 15), "java/lang/IllegalStateException", by decide +kernel, rfl, by decide, by decide, hc_ISE, (fun z hz => by cases hz), Or.inl ⟨3, rfl, (dx d_Law_give 8 rfl), rfl⟩⟩
theorem hd_give_0 : aj_hdl nE m_Law_give 4 0 3 16 := ⟨[(0, 9, 12, 15)], [], (0, 9, 15, 13), "java/lang/IllegalArgumentException", by decide +kernel, rfl, by decide, by decide, hc_IAE, (fun z hz => by
    rcases List.mem_cons.mp hz with rfl | hz
    · exact ⟨by decide, "java/lang/IllegalStateException", by decide, by decide, hc_ISE⟩
    · cases hz), Or.inl ⟨3, rfl, (dx d_Law_give 11 rfl), rfl⟩⟩
theorem hd_same_1 : aj_hdl nE m_Law_same 3 1 2 12 := ⟨[], [], (0, 8, 11, 15), "java/lang/IllegalStateException", by decide +kernel, rfl, by decide, by decide, hc_ISE, (fun z hz => by cases hz), Or.inl ⟨2, rfl, (dx d_Law_same 7 rfl), rfl⟩⟩
theorem ltr_lt {k : Nat} {u : List Nat} (hk : 0 < k) (h : wd_ok k u) (i : Nat) : ltr u i < k := by
  by_cases c : i < u.length
  · rw [ltr_eq c]
    exact h _ (List.getElem_mem _)
  · unfold ltr
    rw [List.getD_eq_getElem?_getD]
    by_cases e : u.length = 0
    · rw [List.eq_nil_of_length_eq_zero e]
      exact hk
    · rw [List.getElem?_eq_getElem (by omega)]
      exact h _ (List.getElem_mem _)
theorem cI_T {sh : List aj_S} {g : aj_G} {r r2 : Int} {k n s0 : Nat} {nx ou : Nat → Nat → Nat} {z : Int} {tw : Nat → Nat} {N : Nat} {q : nb_T} {mnx mou : Nat → Nat → Nat} {mi : Nat} {ix io : Nat → Nat → Nat} {w : List Nat} {v : Int} {S : List Nat → Prop} {fp hd hp : Int} (h : cI sh g r r2 k n s0 nx ou z tw N q mnx mou mi ix io w v S fp hd hp) (hv : v = 1) : (lvF S k 20 []).length ≤ 800 ∧ ∀ t (ht : t < (lvF S k 20 []).length), wd_ok k (lvF S k 20 [])[t] := by
  rcases h.2.2.2.2.2.2.2 with ⟨t1, -⟩ | ⟨-, -, -, ⟨c, W, t5, -⟩, -⟩
  · omega
  · exact ⟨t5.2.2.2.2.2, fun t ht => (sT_t t5 ht).1⟩
set_option maxHeartbeats 4000000 in
theorem L_edge {al : Prop} {X : Option (Nat × (Int → Int))} {d : Nat} {sh : List aj_S} {g : aj_G} {Q : aj_R → List aj_S → aj_G → Prop} {r r2 : Int} {k n s0 : Nat} {nx ou : Nat → Nat → Nat} {z : Int} {tw : Nat → Nat} {N : Nat} {q : nb_T} {mnx mou : Nat → Nat → Nat} {mi : Nat} {ix io : Nat → Nat → Nat} {w : List Nat} {v : Int} {S : List Nat → Prop} {fp hd hp : Int} (hI : cI sh g r r2 k n s0 nx ou z tw N q mnx mou mi ix io w v S fp hd hp) (hal : ¬ al) {s i t u : Int} (x1 : aj_I s) (x2 : aj_I i) (x3 : aj_I t) (x4 : aj_I u) (hk0 : ((0 ≤ s ∧ s < (n : Int)) ∧ (0 ≤ i ∧ i < (k : Int)) ∧ (0 ≤ t ∧ t < (n : Int)) ∧ (0 ≤ u ∧ u < 4)) → z = 0 → ∀ g1 : aj_G, fr78 g g1 → cI sh g1 r r2 k n s0 (up2 nx s.toNat i.toNat t.toNat) (up2 ou s.toNat i.toNat u.toNat) z tw N q mnx mou mi ix io w v S fp hd hp → Q (.inl (some (0, 0))) sh g1) (hk1 : ¬ ((0 ≤ s ∧ s < (n : Int)) ∧ (0 ≤ i ∧ i < (k : Int)) ∧ (0 ≤ t ∧ t < (n : Int)) ∧ (0 ≤ u ∧ u < 4)) → Q (.inl (some (0, 1))) sh g) (hk2 : ((0 ≤ s ∧ s < (n : Int)) ∧ (0 ≤ i ∧ i < (k : Int)) ∧ (0 ≤ t ∧ t < (n : Int)) ∧ (0 ≤ u ∧ u < 4)) → z = 1 → Q (.inl (some (0, 2))) sh g) : aj_wp nE al al X m_Law_edge (d + 7) 1 6 0 [some (1, 0), some (0, s), some (0, i), some (0, t), some (0, u), none] [] sh g Q := by
  refine aj_aload_n 0 1 (dx d_Law_edge 0 rfl) rfl rfl rfl ?_
  refine aj_iload_n 1 2 (dx d_Law_edge 1 rfl) rfl rfl rfl ?_
  refine aj_iload_n 2 3 (dx d_Law_edge 2 rfl) rfl rfl rfl ?_
  refine aj_iload_n 3 4 (dx d_Law_edge 3 rfl) rfl rfl rfl ?_
  refine aj_iload 4 6 (dx d_Law_edge 4 rfl) rfl rfl ?_
  by_cases hok : ((0 ≤ s ∧ s < (n : Int)) ∧ (0 ≤ i ∧ i < (k : Int)) ∧ (0 ≤ t ∧ t < (n : Int)) ∧ (0 ≤ u ∧ u < 4)) ∧ z = 0
  · obtain ⟨hok, hz⟩ := hok
    refine aj_callV4 (bc1 := 0) (bc2 := 1) (bs1 := 0) (bs2 := 6) 9 cl_Law_7 (dx d_Law_edge 5 rfl) rfl rfl rfl rfl rfl rfl hI.1.1 (k_Bench_edge hI x1 x2 x3 x4 hok hz (fun g1 hF hc => ?_))
    change aj_wp _ _ _ _ _ _ _ _ _ _ _ _ _ _
    refine aj_goto 20 (dx d_Law_edge 6 rfl) rfl ?_
    refine aj_iconst 21 (dx d_Law_edge 13 rfl) rfl ?_
    refine aj_iret (dx d_Law_edge 14 rfl) rfl id ?_
    exact hk0 hok hz g1 hF hc
  · refine aj_callT (bc1 := 1) (bc2 := 0) (bs1 := 6) (bs2 := 0) [(0, s), (0, i), (0, t), (0, u)] cl_Law_7 (dx d_Law_edge 5 rfl) rfl rfl rfl rfl rfl rfl hI.1.1 rfl (k_Bench_edge_T hI hal x1 x2 x3 x4 (fun h => by have := hI.2.1.2.2.2.1; omega) (fun h => ⟨14, hd_edge_0, ?_⟩) (fun h h2 => ⟨18, hd_edge_1, ?_⟩))
    · refine aj_iconst 15 (dx d_Law_edge 8 rfl) rfl ?_
      refine aj_iret (dx d_Law_edge 9 rfl) rfl id ?_
      exact hk1 h
    · refine aj_iconst 19 (dx d_Law_edge 11 rfl) rfl ?_
      refine aj_iret (dx d_Law_edge 12 rfl) rfl id ?_
      exact hk2 h h2
  
set_option maxHeartbeats 4000000 in
theorem L_start {al : Prop} {X : Option (Nat × (Int → Int))} {d : Nat} {sh : List aj_S} {g : aj_G} {Q : aj_R → List aj_S → aj_G → Prop} {r r2 : Int} {k n s0 : Nat} {nx ou : Nat → Nat → Nat} {z : Int} {tw : Nat → Nat} {N : Nat} {q : nb_T} {mnx mou : Nat → Nat → Nat} {mi : Nat} {ix io : Nat → Nat → Nat} {w : List Nat} {v : Int} {S : List Nat → Prop} {fp hd hp : Int} (hI : cI sh g r r2 k n s0 nx ou z tw N q mnx mou mi ix io w v S fp hd hp) (hal : ¬ al) {s : Int} (x1 : aj_I s) (hk0 : (0 ≤ s ∧ s < (n : Int)) → z = 0 → ∀ g1 : aj_G, fr78 g g1 → cI sh g1 r r2 k n (s.toNat) nx ou z tw N q mnx mou mi ix io w v S fp hd hp → Q (.inl (some (0, 0))) sh g1) (hk1 : ¬ (0 ≤ s ∧ s < (n : Int)) → Q (.inl (some (0, 1))) sh g) (hk2 : (0 ≤ s ∧ s < (n : Int)) → z = 1 → Q (.inl (some (0, 2))) sh g) : aj_wp nE al al X m_Law_start (d + 7) 1 6 0 [some (1, 0), some (0, s), none] [] sh g Q := by
  refine aj_aload_n 0 1 (dx d_Law_start 0 rfl) rfl rfl rfl ?_
  refine aj_iload_n 1 2 (dx d_Law_start 1 rfl) rfl rfl rfl ?_
  by_cases hok : (0 ≤ s ∧ s < (n : Int)) ∧ z = 0
  · obtain ⟨hok, hz⟩ := hok
    refine aj_callV1 (bc1 := 0) (bc2 := 1) (bs1 := 0) (bs2 := 6) 5 cl_Law_17 (dx d_Law_start 2 rfl) rfl rfl rfl rfl rfl rfl hI.1.1 (k_Bench_start hI x1 hok hz (fun g1 hF hc => ?_))
    change aj_wp _ _ _ _ _ _ _ _ _ _ _ _ _ _
    refine aj_goto 14 (dx d_Law_start 3 rfl) rfl ?_
    refine aj_iconst 15 (dx d_Law_start 10 rfl) rfl ?_
    refine aj_iret (dx d_Law_start 11 rfl) rfl id ?_
    exact hk0 hok hz g1 hF hc
  · refine aj_callT (bc1 := 1) (bc2 := 0) (bs1 := 6) (bs2 := 0) [(0, s)] cl_Law_17 (dx d_Law_start 2 rfl) rfl rfl rfl rfl rfl rfl hI.1.1 rfl (k_Bench_start_T hI hal x1 (fun h => by have := hI.2.1.2.2.2.1; omega) (fun h => ⟨9, hd_start_0, ?_⟩) (fun h h2 => ⟨12, hd_start_1, ?_⟩))
    · refine aj_iconst 10 (dx d_Law_start 5 rfl) rfl ?_
      refine aj_iret (dx d_Law_start 6 rfl) rfl id ?_
      exact hk1 h
    · refine aj_iconst 13 (dx d_Law_start 8 rfl) rfl ?_
      refine aj_iret (dx d_Law_start 9 rfl) rfl id ?_
      exact hk2 h h2
  
set_option maxHeartbeats 4000000 in
theorem L_resize {al : Prop} {X : Option (Nat × (Int → Int))} {d : Nat} {sh : List aj_S} {g : aj_G} {Q : aj_R → List aj_S → aj_G → Prop} {r r2 : Int} {k n s0 : Nat} {nx ou : Nat → Nat → Nat} {z : Int} {tw : Nat → Nat} {N : Nat} {q : nb_T} {mnx mou : Nat → Nat → Nat} {mi : Nat} {ix io : Nat → Nat → Nat} {w : List Nat} {v : Int} {S : List Nat → Prop} {fp hd hp : Int} (hI : cI sh g r r2 k n s0 nx ou z tw N q mnx mou mi ix io w v S fp hd hp) (hal : ¬ al) {s : Int} (x1 : aj_I s) (hk0 : (1 ≤ s ∧ s ≤ 10) → z = 1 → ∀ g1 : aj_G, fr78 g g1 → cI sh g1 r r2 k n s0 nx ou z tw N q mnx mou (s.toNat) (rz_n mi s.toNat ix) (rz_o mi io) w v S fp hd hp → Q (.inl (some (0, 0))) sh g1) (hk1 : ¬ (1 ≤ s ∧ s ≤ 10) → Q (.inl (some (0, 1))) sh g) (hk2 : (1 ≤ s ∧ s ≤ 10) → z = 0 → Q (.inl (some (0, 2))) sh g) : aj_wp nE al al X m_Law_resize (d + 7) 1 6 0 [some (1, 0), some (0, s), none] [] sh g Q := by
  refine aj_aload_n 0 1 (dx d_Law_resize 0 rfl) rfl rfl rfl ?_
  refine aj_iload_n 1 2 (dx d_Law_resize 1 rfl) rfl rfl rfl ?_
  by_cases hok : (1 ≤ s ∧ s ≤ 10) ∧ z = 1
  · obtain ⟨hok, hz⟩ := hok
    refine aj_callV1 (bc1 := 0) (bc2 := 1) (bs1 := 0) (bs2 := 6) 5 cl_Law_34 (dx d_Law_resize 2 rfl) rfl rfl rfl rfl rfl rfl hI.1.1 (k_Bench_resize hI x1 hok hz (fun g1 hF hc => ?_))
    change aj_wp _ _ _ _ _ _ _ _ _ _ _ _ _ _
    refine aj_goto 14 (dx d_Law_resize 3 rfl) rfl ?_
    refine aj_iconst 15 (dx d_Law_resize 10 rfl) rfl ?_
    refine aj_iret (dx d_Law_resize 11 rfl) rfl id ?_
    exact hk0 hok hz g1 hF hc
  · refine aj_callT (bc1 := 1) (bc2 := 0) (bs1 := 6) (bs2 := 0) [(0, s)] cl_Law_34 (dx d_Law_resize 2 rfl) rfl rfl rfl rfl rfl rfl hI.1.1 rfl (k_Bench_resize_T hI hal x1 (fun h => by have := hI.2.1.2.2.2.1; omega) (fun h => ⟨9, hd_resize_0, ?_⟩) (fun h h2 => ⟨12, hd_resize_1, ?_⟩))
    · refine aj_iconst 10 (dx d_Law_resize 5 rfl) rfl ?_
      refine aj_iret (dx d_Law_resize 6 rfl) rfl id ?_
      exact hk1 h
    · refine aj_iconst 13 (dx d_Law_resize 8 rfl) rfl ?_
      refine aj_iret (dx d_Law_resize 9 rfl) rfl id ?_
      exact hk2 h h2
  
set_option maxHeartbeats 4000000 in
theorem L_change {al : Prop} {X : Option (Nat × (Int → Int))} {d : Nat} {sh : List aj_S} {g : aj_G} {Q : aj_R → List aj_S → aj_G → Prop} {r r2 : Int} {k n s0 : Nat} {nx ou : Nat → Nat → Nat} {z : Int} {tw : Nat → Nat} {N : Nat} {q : nb_T} {mnx mou : Nat → Nat → Nat} {mi : Nat} {ix io : Nat → Nat → Nat} {w : List Nat} {v : Int} {S : List Nat → Prop} {fp hd hp : Int} (hI : cI sh g r r2 k n s0 nx ou z tw N q mnx mou mi ix io w v S fp hd hp) (hal : ¬ al) {s i t u : Int} (x1 : aj_I s) (x2 : aj_I i) (x3 : aj_I t) (x4 : aj_I u) (hk0 : ((0 ≤ s ∧ s < (mi : Int)) ∧ (0 ≤ i ∧ i < (k : Int)) ∧ (0 ≤ t ∧ t < (mi : Int)) ∧ (0 ≤ u ∧ u < 4)) → z = 1 → ∀ g1 : aj_G, fr78 g g1 → cI sh g1 r r2 k n s0 nx ou z tw N q mnx mou mi (up2 ix s.toNat i.toNat t.toNat) (up2 io s.toNat i.toNat u.toNat) w v S fp hd hp → Q (.inl (some (0, 0))) sh g1) (hk1 : z = 0 → Q (.inl (some (0, 1))) sh g) (hk2 : z = 1 → ¬ ((0 ≤ s ∧ s < (mi : Int)) ∧ (0 ≤ i ∧ i < (k : Int)) ∧ (0 ≤ t ∧ t < (mi : Int)) ∧ (0 ≤ u ∧ u < 4)) → Q (.inl (some (0, 2))) sh g) : aj_wp nE al al X m_Law_change (d + 7) 1 6 0 [some (1, 0), some (0, s), some (0, i), some (0, t), some (0, u), none] [] sh g Q := by
  refine aj_aload_n 0 1 (dx d_Law_change 0 rfl) rfl rfl rfl ?_
  refine aj_iload_n 1 2 (dx d_Law_change 1 rfl) rfl rfl rfl ?_
  refine aj_iload_n 2 3 (dx d_Law_change 2 rfl) rfl rfl rfl ?_
  refine aj_iload_n 3 4 (dx d_Law_change 3 rfl) rfl rfl rfl ?_
  refine aj_iload 4 6 (dx d_Law_change 4 rfl) rfl rfl ?_
  by_cases hok : ((0 ≤ s ∧ s < (mi : Int)) ∧ (0 ≤ i ∧ i < (k : Int)) ∧ (0 ≤ t ∧ t < (mi : Int)) ∧ (0 ≤ u ∧ u < 4)) ∧ z = 1
  · obtain ⟨hok, hz⟩ := hok
    refine aj_callV4 (bc1 := 0) (bc2 := 1) (bs1 := 0) (bs2 := 6) 9 cl_Law_37 (dx d_Law_change 5 rfl) rfl rfl rfl rfl rfl rfl hI.1.1 (k_Bench_change hI x1 x2 x3 x4 hok hz (fun g1 hF hc => ?_))
    change aj_wp _ _ _ _ _ _ _ _ _ _ _ _ _ _
    refine aj_goto 20 (dx d_Law_change 6 rfl) rfl ?_
    refine aj_iconst 21 (dx d_Law_change 13 rfl) rfl ?_
    refine aj_iret (dx d_Law_change 14 rfl) rfl id ?_
    exact hk0 hok hz g1 hF hc
  · refine aj_callT (bc1 := 1) (bc2 := 0) (bs1 := 6) (bs2 := 0) [(0, s), (0, i), (0, t), (0, u)] cl_Law_37 (dx d_Law_change 5 rfl) rfl rfl rfl rfl rfl rfl hI.1.1 rfl (k_Bench_change_T hI hal x1 x2 x3 x4 (fun h h2 => hok ⟨h2, h⟩) (fun h => ⟨14, hd_change_1, ?_⟩) (fun h h2 => ⟨18, hd_change_0, ?_⟩))
    · refine aj_iconst 15 (dx d_Law_change 8 rfl) rfl ?_
      refine aj_iret (dx d_Law_change 9 rfl) rfl id ?_
      exact hk1 h
    · refine aj_iconst 19 (dx d_Law_change 11 rfl) rfl ?_
      refine aj_iret (dx d_Law_change 12 rfl) rfl id ?_
      exact hk2 h h2
  
set_option maxHeartbeats 4000000 in
theorem L_seal {al : Prop} {X : Option (Nat × (Int → Int))} {d : Nat} {sh : List aj_S} {g : aj_G} {Q : aj_R → List aj_S → aj_G → Prop} {r r2 : Int} {k n s0 : Nat} {nx ou : Nat → Nat → Nat} {z : Int} {tw : Nat → Nat} {N : Nat} {q : nb_T} {mnx mou : Nat → Nat → Nat} {mi : Nat} {ix io : Nat → Nat → Nat} {w : List Nat} {v : Int} {S : List Nat → Prop} {fp hd hp : Int} (hI : cI sh g r r2 k n s0 nx ou z tw N q mnx mou mi ix io w v S fp hd hp) (hal : ¬ al) (hout : aj_sh sh 100 = some (.inl (2, 1))) (hk0 : z = 0 → ∀ (g1 : aj_G) (tw1 : Nat → Nat) (N1 : Nat) (q1 : nb_T) (mnx1 mou1 : Nat → Nat → Nat), (∀ r', 78 ≤ r' → r' ≤ 99 → g1 r' = g r') → g1 100 0 = (N1 : Int) → cI sh g1 r r2 k n s0 nx ou (1) (tw1) (N1) (q1) (mnx1) (mou1) (N1) (mnx1) (mou1) w v S fp hd hp → Q (.inl (some (0, 0))) sh g1) (hk1 : z = 1 → Q (.inl (some (0, 1))) sh g) : aj_wp nE al al X m_Law_seal (d + 7) 1 6 0 [some (1, 0), some (1, 100), none] [] sh g Q := by
  refine aj_aload_n 1 1 (dx d_Law_seal 0 rfl) rfl rfl rfl ?_
  refine aj_iconst 2 (dx d_Law_seal 1 rfl) rfl ?_
  refine aj_aload_n 0 3 (dx d_Law_seal 2 rfl) rfl rfl rfl ?_
  by_cases hz : z = 0
  · refine aj_callV0 (bc1 := 0) (bc2 := 1) (bs1 := 0) (bs2 := 6) 6 cl_Law_21 (dx d_Law_seal 3 rfl) rfl rfl rfl rfl rfl rfl hI.1.1 (k_Bench_seal hI hal hz (fun g1 tw1 N1 q1 mnx1 mou1 hF hc => ?_))
    change aj_wp _ _ _ _ _ _ _ _ _ _ _ _ _ _
    have hN8 := (hc.2.2.2.2.2.2.1 rfl).2.1.2.2.2
    refine aj_i2l 7 (dx d_Law_seal 4 rfl) rfl (by unfold aj_I; omega) ?_
    refine aj_last 8 (dx d_Law_seal 5 rfl) rfl hout rfl (by omega) (by omega) ?_
    refine aj_goto 14 (dx d_Law_seal 6 rfl) rfl ?_
    refine aj_iconst 15 (dx d_Law_seal 10 rfl) rfl ?_
    refine aj_iret (dx d_Law_seal 11 rfl) rfl id ?_
    exact hk0 hz _ tw1 N1 q1 mnx1 mou1 (fun r' h h' => by rw [aj_up_ne _ _ _ (by omega)]; exact hF r' h) (aj_up_self _ _ _ _) (cI_of hc (fun r' h => by rw [aj_up_ne _ _ _ (by omega)]))
  · refine aj_callT (bc1 := 1) (bc2 := 0) (bs1 := 6) (bs2 := 0) [] cl_Law_21 (dx d_Law_seal 3 rfl) rfl rfl rfl rfl rfl rfl hI.1.1 rfl (k_Bench_seal_T hI hal (by have := hI.2.1.2.2.2.1; omega) ⟨12, hd_seal_1, ?_⟩)
    · refine aj_iconst 13 (dx d_Law_seal 8 rfl) rfl ?_
      refine aj_iret (dx d_Law_seal 9 rfl) rfl id ?_
      exact hk1 (by have := hI.2.1.2.2.2.1; omega)
  
set_option maxHeartbeats 4000000 in
theorem L_apart {al : Prop} {X : Option (Nat × (Int → Int))} {d : Nat} {sh : List aj_S} {g : aj_G} {Q : aj_R → List aj_S → aj_G → Prop} {r r2 : Int} {k n s0 : Nat} {nx ou : Nat → Nat → Nat} {z : Int} {tw : Nat → Nat} {N : Nat} {q : nb_T} {mnx mou : Nat → Nat → Nat} {mi : Nat} {ix io : Nat → Nat → Nat} {w : List Nat} {v : Int} {S : List Nat → Prop} {fp hd hp : Int} (hI : cI sh g r r2 k n s0 nx ou z tw N q mnx mou mi ix io w v S fp hd hp) (hal : ¬ al) {s t : Int} (x1 : aj_I s) (x2 : aj_I t) (hout : aj_sh sh 100 = some (.inl (2, 1))) (hk0 : ((0 ≤ s ∧ s < (n : Int)) ∧ (0 ≤ t ∧ t < (n : Int))) → z = 1 → ∀ (g1 : aj_G) (w1 : List Nat), (∀ r', 78 ≤ r' → r' ≤ 99 → g1 r' = g r') → g1 100 0 = (w1.length : Int) → (wd_least k nx ou s.toNat nx ou t.toNat w1 ∨ (al_k k nx ou s.toNat t.toNat ∧ w1 = [])) → cI sh g1 r r2 k n s0 nx ou z tw N q mnx mou mi ix io (w1) v S fp hd hp → Q (.inl (some (0, 0))) sh g1) (hk1 : ¬ ((0 ≤ s ∧ s < (n : Int)) ∧ (0 ≤ t ∧ t < (n : Int))) → Q (.inl (some (0, 1))) sh g) (hk2 : ((0 ≤ s ∧ s < (n : Int)) ∧ (0 ≤ t ∧ t < (n : Int))) → z = 0 → Q (.inl (some (0, 2))) sh g) : aj_wp nE al al X m_Law_apart (d + 7) 1 6 0 [some (1, 0), some (0, s), some (0, t), some (1, 100), none] [] sh g Q := by
  refine aj_aload_n 3 1 (dx d_Law_apart 0 rfl) rfl rfl rfl ?_
  refine aj_iconst 2 (dx d_Law_apart 1 rfl) rfl ?_
  refine aj_aload_n 0 3 (dx d_Law_apart 2 rfl) rfl rfl rfl ?_
  refine aj_iload_n 1 4 (dx d_Law_apart 3 rfl) rfl rfl rfl ?_
  refine aj_iload_n 2 5 (dx d_Law_apart 4 rfl) rfl rfl rfl ?_
  by_cases hok : ((0 ≤ s ∧ s < (n : Int)) ∧ (0 ≤ t ∧ t < (n : Int))) ∧ z = 1
  · obtain ⟨hok, hz⟩ := hok
    refine aj_callV2 (bc1 := 0) (bc2 := 1) (bs1 := 0) (bs2 := 6) 8 cl_Law_25 (dx d_Law_apart 5 rfl) rfl rfl rfl rfl rfl rfl hI.1.1 (k_Bench_apart hI x1 x2 hal hok hz (fun g1 w1 hF hr hc => ?_))
    change aj_wp _ _ _ _ _ _ _ _ _ _ _ _ _ _
    have hl1 := hc.2.2.2.2.1.2.2.2
    refine aj_i2l 9 (dx d_Law_apart 6 rfl) rfl (by unfold aj_I; omega) ?_
    refine aj_last 10 (dx d_Law_apart 7 rfl) rfl hout rfl (by omega) (by omega) ?_
    refine aj_goto 21 (dx d_Law_apart 8 rfl) rfl ?_
    refine aj_iconst 22 (dx d_Law_apart 15 rfl) rfl ?_
    refine aj_iret (dx d_Law_apart 16 rfl) rfl id ?_
    exact hk0 hok hz _ w1 (fun r' h h' => by rw [aj_up_ne _ _ _ (by omega)]; exact hF r' h) (aj_up_self _ _ _ _) hr (cI_of hc (fun r' h => by rw [aj_up_ne _ _ _ (by omega)]))
  · refine aj_callT (bc1 := 1) (bc2 := 0) (bs1 := 6) (bs2 := 0) [(0, s), (0, t)] cl_Law_25 (dx d_Law_apart 5 rfl) rfl rfl rfl rfl rfl rfl hI.1.1 rfl (k_Bench_apart_T hI hal x1 x2 (fun h => by have := hI.2.1.2.2.2.1; omega) (fun h => ⟨15, hd_apart_0, ?_⟩) (fun h h2 => ⟨19, hd_apart_1, ?_⟩))
    · refine aj_iconst 16 (dx d_Law_apart 10 rfl) rfl ?_
      refine aj_iret (dx d_Law_apart 11 rfl) rfl id ?_
      exact hk1 h
    · refine aj_iconst 20 (dx d_Law_apart 13 rfl) rfl ?_
      refine aj_iret (dx d_Law_apart 14 rfl) rfl id ?_
      exact hk2 h h2
  
set_option maxHeartbeats 4000000 in
theorem L_same {al : Prop} {X : Option (Nat × (Int → Int))} {d : Nat} {sh : List aj_S} {g : aj_G} {Q : aj_R → List aj_S → aj_G → Prop} {r r2 : Int} {k n s0 : Nat} {nx ou : Nat → Nat → Nat} {z : Int} {tw : Nat → Nat} {N : Nat} {q : nb_T} {mnx mou : Nat → Nat → Nat} {mi : Nat} {ix io : Nat → Nat → Nat} {w : List Nat} {v : Int} {S : List Nat → Prop} {fp hd hp : Int} (hI : cI sh g r r2 k n s0 nx ou z tw N q mnx mou mi ix io w v S fp hd hp) (hal : ¬ al) (hout : aj_sh sh 100 = some (.inl (2, 1))) (hk0 : z = 1 → ∀ (g1 : aj_G) (w1 : List Nat), (∀ r', 78 ≤ r' → r' ≤ 99 → g1 r' = g r') → g1 100 0 = (w1.length : Int) → (wd_least k ix io 0 mnx mou 0 w1 ∨ (wd_none k ix io 0 mnx mou 0 ∧ w1 = [])) → cI sh g1 r r2 k n s0 nx ou z tw N q mnx mou mi ix io (w1) v S fp hd hp → Q (.inl (some (0, 0))) sh g1) (hk1 : z = 0 → Q (.inl (some (0, 1))) sh g) : aj_wp nE al al X m_Law_same (d + 7) 1 6 0 [some (1, 0), some (1, 100), none] [] sh g Q := by
  refine aj_aload_n 1 1 (dx d_Law_same 0 rfl) rfl rfl rfl ?_
  refine aj_iconst 2 (dx d_Law_same 1 rfl) rfl ?_
  refine aj_aload_n 0 3 (dx d_Law_same 2 rfl) rfl rfl rfl ?_
  by_cases hz : z = 1
  · refine aj_callV0 (bc1 := 0) (bc2 := 1) (bs1 := 0) (bs2 := 6) 6 cl_Law_50 (dx d_Law_same 3 rfl) rfl rfl rfl rfl rfl rfl hI.1.1 (k_Bench_same hI hal hz (fun g1 w1 hF hr hc => ?_))
    change aj_wp _ _ _ _ _ _ _ _ _ _ _ _ _ _
    have hl1 := hc.2.2.2.2.1.2.2.2
    refine aj_i2l 7 (dx d_Law_same 4 rfl) rfl (by unfold aj_I; omega) ?_
    refine aj_last 8 (dx d_Law_same 5 rfl) rfl hout rfl (by omega) (by omega) ?_
    refine aj_goto 14 (dx d_Law_same 6 rfl) rfl ?_
    refine aj_iconst 15 (dx d_Law_same 10 rfl) rfl ?_
    refine aj_iret (dx d_Law_same 11 rfl) rfl id ?_
    exact hk0 hz _ w1 (fun r' h h' => by rw [aj_up_ne _ _ _ (by omega)]; exact hF r' h) (aj_up_self _ _ _ _) hr (cI_of hc (fun r' h => by rw [aj_up_ne _ _ _ (by omega)]))
  · refine aj_callT (bc1 := 1) (bc2 := 0) (bs1 := 6) (bs2 := 0) [] cl_Law_50 (dx d_Law_same 3 rfl) rfl rfl rfl rfl rfl rfl hI.1.1 rfl (k_Bench_same_T hI hal (by have := hI.2.1.2.2.2.1; omega) ⟨12, hd_same_1, ?_⟩)
    · refine aj_iconst 13 (dx d_Law_same 8 rfl) rfl ?_
      refine aj_iret (dx d_Law_same 9 rfl) rfl id ?_
      exact hk1 (by have := hI.2.1.2.2.2.1; omega)
  
set_option maxHeartbeats 4000000 in
theorem L_run {al : Prop} {X : Option (Nat × (Int → Int))} {d : Nat} {sh : List aj_S} {g : aj_G} {Q : aj_R → List aj_S → aj_G → Prop} {r r2 : Int} {k n s0 : Nat} {nx ou : Nat → Nat → Nat} {z : Int} {tw : Nat → Nat} {N : Nat} {q : nb_T} {mnx mou : Nat → Nat → Nat} {mi : Nat} {ix io : Nat → Nat → Nat} {w : List Nat} {v : Int} {S : List Nat → Prop} {fp hd hp : Int} (hI : cI sh g r r2 k n s0 nx ou z tw N q mnx mou mi ix io w v S fp hd hp) (hal : ¬ al) (hout : aj_sh sh 100 = some (.inl (2, 1))) (hk0 : v = 1 → ∀ (g1 : aj_G) (x fp1 : Int), (∀ r', 78 ≤ r' → r' ≤ 99 → g1 r' = g r') → g1 100 0 = x → rnR (dD ix io mnx mou) (lvF S k 20 []) x fp1 → cI sh g1 r r2 k n s0 nx ou z tw N q mnx mou mi ix io w v S (fp1) hd hp → Q (.inl (some (0, 0))) sh g1) (hk1 : v = 0 → Q (.inl (some (0, 1))) sh g) (hv : v = 0 ∨ v = 1) : aj_wp nE al al X m_Law_run (d + 7) 1 6 0 [some (1, 0), some (1, 100), none] [] sh g Q := by
  refine aj_aload_n 1 1 (dx d_Law_run 0 rfl) rfl rfl rfl ?_
  refine aj_iconst 2 (dx d_Law_run 1 rfl) rfl ?_
  refine aj_aload_n 0 3 (dx d_Law_run 2 rfl) rfl rfl rfl ?_
  by_cases hz : v = 1
  · refine aj_callV0 (bc1 := 0) (bc2 := 1) (bs1 := 0) (bs2 := 6) 6 cl_Law_40 (dx d_Law_run 3 rfl) rfl rfl rfl rfl rfl rfl hI.1.1 (k_Bench_run hI hz (fun g1 x fp1 hF hr hc => ?_))
    change aj_wp _ _ _ _ _ _ _ _ _ _ _ _ _ _
    have hT8 := (cI_T hI hz).1
    have hxI : aj_I x := by
      rcases hr with ⟨t, h, e, -⟩ | ⟨e, -⟩ <;> rw [e] <;> unfold aj_I <;> omega
    refine aj_i2l 7 (dx d_Law_run 4 rfl) rfl hxI ?_
    refine aj_last 8 (dx d_Law_run 5 rfl) rfl hout rfl (by omega) (by omega) ?_
    refine aj_goto 14 (dx d_Law_run 6 rfl) rfl ?_
    refine aj_iconst 15 (dx d_Law_run 10 rfl) rfl ?_
    refine aj_iret (dx d_Law_run 11 rfl) rfl id ?_
    exact hk0 hz _ x fp1 (fun r' h h' => by rw [aj_up_ne _ _ _ (by omega)]; exact hF r' h) (aj_up_self _ _ _ _) hr (cI_of hc (fun r' h => by rw [aj_up_ne _ _ _ (by omega)]))
  · refine aj_callT (bc1 := 1) (bc2 := 0) (bs1 := 6) (bs2 := 0) [] cl_Law_40 (dx d_Law_run 3 rfl) rfl rfl rfl rfl rfl rfl hI.1.1 rfl (k_Bench_run_T hI hal (by omega) ⟨12, hd_run_1, ?_⟩)
    · refine aj_iconst 13 (dx d_Law_run 8 rfl) rfl ?_
      refine aj_iret (dx d_Law_run 9 rfl) rfl id ?_
      exact hk1 (by omega)
  
set_option maxHeartbeats 4000000 in
theorem L_begin {al : Prop} {X : Option (Nat × (Int → Int))} {d : Nat} {sh : List aj_S} {g : aj_G} {Q : aj_R → List aj_S → aj_G → Prop} {r r2 : Int} {k n s0 : Nat} {nx ou : Nat → Nat → Nat} {z : Int} {tw : Nat → Nat} {N : Nat} {q : nb_T} {mnx mou : Nat → Nat → Nat} {mi : Nat} {ix io : Nat → Nat → Nat} {w : List Nat} {v : Int} {S : List Nat → Prop} {fp hd hp : Int} (hI : cI sh g r r2 k n s0 nx ou z tw N q mnx mou mi ix io w v S fp hd hp) (hal : ¬ al) {s : Int} (x1 : aj_I s) (hout : aj_sh sh 100 = some (.inl (2, 1))) (hk0 : (v = 1 ∧ 0 ≤ s ∧ s < ((lvF S k 20 []).length : Int)) → ∀ g1 : aj_G, (∀ r', 78 ≤ r' → r' ≤ 99 → g1 r' = g r') → g1 100 0 = (ltr ((lvF S k 20 []).getD s.toNat []) 0 : Int) → cI sh g1 r r2 k n s0 nx ou z tw N q mnx mou mi ix io w v S fp (s) (0) → Q (.inl (some (0, 0))) sh g1) (hk1 : ¬ (v = 1 ∧ 0 ≤ s ∧ s < ((lvF S k 20 []).length : Int)) → Q (.inl (some (0, 1))) sh g) : aj_wp nE al al X m_Law_begin (d + 7) 1 6 0 [some (1, 0), some (0, s), some (1, 100), none] [] sh g Q := by
  refine aj_aload_n 2 1 (dx d_Law_begin 0 rfl) rfl rfl rfl ?_
  refine aj_iconst 2 (dx d_Law_begin 1 rfl) rfl ?_
  refine aj_aload_n 0 3 (dx d_Law_begin 2 rfl) rfl rfl rfl ?_
  refine aj_iload_n 1 4 (dx d_Law_begin 3 rfl) rfl rfl rfl ?_
  by_cases hok : (v = 1 ∧ 0 ≤ s ∧ s < ((lvF S k 20 []).length : Int))
  · refine aj_callV1 (bc1 := 0) (bc2 := 1) (bs1 := 0) (bs2 := 6) 7 cl_Law_43 (dx d_Law_begin 4 rfl) rfl rfl rfl rfl rfl rfl hI.1.1 (k_Bench_begin hI x1 hok.1 hok.2 (fun g1 hF hc => ?_))
    change aj_wp _ _ _ _ _ _ _ _ _ _ _ _ _ _
    have hk3 := hI.2.2.1.2.2.2
    have hlt : ltr ((lvF S k 20 []).getD s.toNat []) 0 < k := by
      rw [List.getD_eq_getElem?_getD, List.getElem?_eq_getElem (show s.toNat < (lvF S k 20 []).length by omega)]
      exact ltr_lt (by omega) ((cI_T hI hok.1).2 _ _) 0
    refine aj_i2l 8 (dx d_Law_begin 5 rfl) rfl (by unfold aj_I; omega) ?_
    refine aj_last 9 (dx d_Law_begin 6 rfl) rfl hout rfl (by omega) (by omega) ?_
    refine aj_goto 15 (dx d_Law_begin 7 rfl) rfl ?_
    refine aj_iconst 16 (dx d_Law_begin 11 rfl) rfl ?_
    refine aj_iret (dx d_Law_begin 12 rfl) rfl id ?_
    exact hk0 hok _ (fun r' h h' => by rw [aj_up_ne _ _ _ (by omega)]; exact hF r' h) (aj_up_self _ _ _ _) (cI_of hc (fun r' h => by rw [aj_up_ne _ _ _ (by omega)]))
  · refine aj_callT (bc1 := 1) (bc2 := 0) (bs1 := 6) (bs2 := 0) [(0, s)] cl_Law_43 (dx d_Law_begin 4 rfl) rfl rfl rfl rfl rfl rfl hI.1.1 rfl (k_Bench_begin_T hI hal x1 hok ⟨13, hd_begin_0, ?_⟩)
    · refine aj_iconst 14 (dx d_Law_begin 9 rfl) rfl ?_
      refine aj_iret (dx d_Law_begin 10 rfl) rfl id ?_
      exact hk1 hok
  
set_option maxHeartbeats 4000000 in
theorem L_suite {al : Prop} {X : Option (Nat × (Int → Int))} {d : Nat} {sh : List aj_S} {g : aj_G} {Q : aj_R → List aj_S → aj_G → Prop} {r r2 : Int} {k n s0 : Nat} {nx ou : Nat → Nat → Nat} {z : Int} {tw : Nat → Nat} {N : Nat} {q : nb_T} {mnx mou : Nat → Nat → Nat} {mi : Nat} {ix io : Nat → Nat → Nat} {w : List Nat} {v : Int} {S : List Nat → Prop} {fp hd hp : Int} (hI : cI sh g r r2 k n s0 nx ou z tw N q mnx mou mi ix io w v S fp hd hp) (hal : ¬ al) {s m : Int} (x1 : aj_I s) (x2 : aj_I m) (hout : aj_sh sh 100 = some (.inl (2, 1))) (hlen : ((0 ≤ s ∧ s ≤ 1) ∧ (0 ≤ m ∧ m ≤ 2)) → z = 1 → ∀ u, (suS k n s0 nx ou N m.toNat s q mnx mou) u → u.length ≤ 18) (hk0 : ((0 ≤ s ∧ s ≤ 1) ∧ (0 ≤ m ∧ m ≤ 2)) → z = 1 → fitS k (suS k n s0 nx ou N m.toNat s q mnx mou) → ∀ g1 : aj_G, (∀ r', 78 ≤ r' → r' ≤ 99 → g1 r' = g r') → g1 100 0 = ((lvF (suS k n s0 nx ou N m.toNat s q mnx mou) k 20 []).length : Int) → cI sh g1 r2 r k n s0 nx ou z tw N q mnx mou mi ix io w (1) (suS k n s0 nx ou N m.toNat s q mnx mou) fp (-1) hp → Q (.inl (some (0, 0))) sh g1) (hk1 : ¬ ((0 ≤ s ∧ s ≤ 1) ∧ (0 ≤ m ∧ m ≤ 2)) → Q (.inl (some (0, 1))) sh g) (hk2 : ((0 ≤ s ∧ s ≤ 1) ∧ (0 ≤ m ∧ m ≤ 2)) → z = 0 → Q (.inl (some (0, 2))) sh g) (hk3 : ((0 ≤ s ∧ s ≤ 1) ∧ (0 ≤ m ∧ m ≤ 2)) → z = 1 → ¬ fitS k (suS k n s0 nx ou N m.toNat s q mnx mou) → ∀ g1 : aj_G, fr78 g g1 → cI sh g1 r r2 k n s0 nx ou z tw N q mnx mou mi ix io w v S fp hd hp → Q (.inl (some (0, 3))) sh g1) : aj_wp nE al al X m_Law_suite (d + 7) 1 6 0 [some (1, 0), some (0, s), some (0, m), some (1, 100), none] [] sh g Q := by
  refine aj_aload_n 3 1 (dx d_Law_suite 0 rfl) rfl rfl rfl ?_
  refine aj_iconst 2 (dx d_Law_suite 1 rfl) rfl ?_
  refine aj_aload_n 0 3 (dx d_Law_suite 2 rfl) rfl rfl rfl ?_
  refine aj_iload_n 1 4 (dx d_Law_suite 3 rfl) rfl rfl rfl ?_
  refine aj_iload_n 2 5 (dx d_Law_suite 4 rfl) rfl rfl rfl ?_
  by_cases hok : ((0 ≤ s ∧ s ≤ 1) ∧ (0 ≤ m ∧ m ≤ 2)) ∧ z = 1
  · obtain ⟨hok, hz⟩ := hok
    by_cases hfit : fitS k (suS k n s0 nx ou N m.toNat s q mnx mou)
    · refine aj_callV2 (bc1 := 0) (bc2 := 1) (bs1 := 0) (bs2 := 6) 8 cl_Law_29 (dx d_Law_suite 5 rfl) rfl rfl rfl rfl rfl rfl hI.1.1 (k_Bench_suite hI x1 x2 (hlen hok hz) hok hz hfit (fun g1 hF hc => ?_))
      change aj_wp _ _ _ _ _ _ _ _ _ _ _ _ _ _
      have hT8 := (cI_T hc rfl).1
      refine aj_i2l 9 (dx d_Law_suite 6 rfl) rfl (by unfold aj_I; omega) ?_
      refine aj_last 10 (dx d_Law_suite 7 rfl) rfl hout rfl (by omega) (by omega) ?_
      refine aj_goto 25 (dx d_Law_suite 8 rfl) rfl ?_
      refine aj_iconst 26 (dx d_Law_suite 18 rfl) rfl ?_
      refine aj_iret (dx d_Law_suite 19 rfl) rfl id ?_
      exact hk0 hok hz hfit _ (fun r' h h' => by rw [aj_up_ne _ _ _ (by omega)]; exact hF r' h) (aj_up_self _ _ _ _) (cI_of hc (fun r' h => by rw [aj_up_ne _ _ _ (by omega)]))
    · refine aj_callT (bc1 := 1) (bc2 := 0) (bs1 := 6) (bs2 := 0) [(0, s), (0, m)] cl_Law_29 (dx d_Law_suite 5 rfl) rfl rfl rfl rfl rfl rfl hI.1.1 rfl (k_Bench_suite_U hI hal x1 x2 (hlen hok hz) hok hz hfit (fun g1 hF hc => ⟨23, hd_suite_2, ?_⟩))
      · refine aj_iconst 24 (dx d_Law_suite 16 rfl) rfl ?_
        refine aj_iret (dx d_Law_suite 17 rfl) rfl id ?_
        exact hk3 hok hz hfit g1 hF hc
  · refine aj_callT (bc1 := 1) (bc2 := 0) (bs1 := 6) (bs2 := 0) [(0, s), (0, m)] cl_Law_29 (dx d_Law_suite 5 rfl) rfl rfl rfl rfl rfl rfl hI.1.1 rfl (k_Bench_suite_T hI hal x1 x2 (fun h => by have := hI.2.1.2.2.2.1; omega) (fun h => ⟨15, hd_suite_0, ?_⟩) (fun h h2 => ⟨19, hd_suite_1, ?_⟩))
    · refine aj_iconst 16 (dx d_Law_suite 10 rfl) rfl ?_
      refine aj_iret (dx d_Law_suite 11 rfl) rfl id ?_
      exact hk1 h
    · refine aj_iconst 20 (dx d_Law_suite 13 rfl) rfl ?_
      refine aj_iret (dx d_Law_suite 14 rfl) rfl id ?_
      exact hk2 h h2
  
set_option maxHeartbeats 4000000 in
theorem L_give {al : Prop} {X : Option (Nat × (Int → Int))} {d : Nat} {sh : List aj_S} {g : aj_G} {Q : aj_R → List aj_S → aj_G → Prop} {r r2 : Int} {k n s0 : Nat} {nx ou : Nat → Nat → Nat} {z : Int} {tw : Nat → Nat} {N : Nat} {q : nb_T} {mnx mou : Nat → Nat → Nat} {mi : Nat} {ix io : Nat → Nat → Nat} {w : List Nat} {v : Int} {S : List Nat → Prop} {fp hd hp : Int} (hI : cI sh g r r2 k n s0 nx ou z tw N q mnx mou mi ix io w v S fp hd hp) (hal : ¬ al) {s : Int} (x1 : aj_I s) (hout : aj_sh sh 100 = some (.inl (2, 1))) (hk1 : hd = -1 → Q (.inl (some (0, 1))) sh g) (hk2 : ¬ hd = -1 → ¬ (0 ≤ s ∧ s < 4) → Q (.inl (some (0, 2))) sh g)
    (hk3 : ¬ hd = -1 → (0 ≤ s ∧ s < 4) → ∀ (t j : Nat) (h : t < (lvF S k 20 []).length), hd = (t : Nat) → hp = (j : Nat) → j < (lvF S k 20 [])[t].length → s ≠ (eo mnx mou 0 ((lvF S k 20 [])[t].drop ((lvF S k 20 [])[t].length - 1 - j)) : Int) → ∀ g1 : aj_G, (∀ r', 78 ≤ r' → r' ≤ 99 → g1 r' = g r') → g1 100 0 = -2 → cI sh g1 r r2 k n s0 nx ou z tw N q mnx mou mi ix io w v S fp (-1) hp → Q (.inl (some (0, 0))) sh g1)
    (hk4 : ¬ hd = -1 → (0 ≤ s ∧ s < 4) → ∀ (t j : Nat) (h : t < (lvF S k 20 []).length), hd = (t : Nat) → hp = (j : Nat) → s = (eo mnx mou 0 ((lvF S k 20 [])[t].drop ((lvF S k 20 [])[t].length - 1 - j)) : Int) → j + 1 = (lvF S k 20 [])[t].length → ∀ g1 : aj_G, (∀ r', 78 ≤ r' → r' ≤ 99 → g1 r' = g r') → g1 100 0 = -1 → cI sh g1 r r2 k n s0 nx ou z tw N q mnx mou mi ix io w v S fp (-1) hp → Q (.inl (some (0, 0))) sh g1)
    (hk5 : ¬ hd = -1 → (0 ≤ s ∧ s < 4) → ∀ (t j : Nat) (h : t < (lvF S k 20 []).length), hd = (t : Nat) → hp = (j : Nat) → s = (eo mnx mou 0 ((lvF S k 20 [])[t].drop ((lvF S k 20 [])[t].length - 1 - j)) : Int) → j + 1 < (lvF S k 20 [])[t].length → ∀ g1 : aj_G, (∀ r', 78 ≤ r' → r' ≤ 99 → g1 r' = g r') → g1 100 0 = (ltr (lvF S k 20 [])[t] (j + 1) : Int) → cI sh g1 r r2 k n s0 nx ou z tw N q mnx mou mi ix io w v S fp hd ((j : Int) + 1) → Q (.inl (some (0, 0))) sh g1) : aj_wp nE al al X m_Law_give (d + 7) 1 6 0 [some (1, 0), some (0, s), some (1, 100), none] [] sh g Q := by
  refine aj_aload_n 2 1 (dx d_Law_give 0 rfl) rfl rfl rfl ?_
  refine aj_iconst 2 (dx d_Law_give 1 rfl) rfl ?_
  refine aj_aload_n 0 3 (dx d_Law_give 2 rfl) rfl rfl rfl ?_
  refine aj_iload_n 1 4 (dx d_Law_give 3 rfl) rfl rfl rfl ?_
  by_cases hok : ¬ hd = -1 ∧ (0 ≤ s ∧ s < 4)
  · obtain ⟨hne, hok⟩ := hok
    have hk3' := hI.2.2.1.2.2.2
    obtain ⟨hv, t, j, ht, e1, e2, e3⟩ : v = 1 ∧ ∃ (t j : Nat) (h : t < (lvF S k 20 []).length), hd = t ∧ hp = j ∧ j < (lvF S k 20 [])[t].length := by
      rcases hI.2.2.2.2.2.2.2 with ⟨-, -, -, t4⟩ | ⟨t1, -, -, -, t7⟩
      · exact absurd t4 hne
      · rcases t7 with e | e
        · exact absurd e hne
        · exact ⟨t1, e⟩
    have hlt : ltr (lvF S k 20 [])[t] (j + 1) < k := ltr_lt (by omega) ((cI_T hI hv).2 t ht) (j + 1)
    refine aj_callV1 (bc1 := 0) (bc2 := 1) (bs1 := 0) (bs2 := 6) 7 cl_Law_47 (dx d_Law_give 4 rfl) rfl rfl rfl rfl rfl rfl hI.1.1 (k_Bench_give hI x1 hv hok ht e1 e2 e3 (fun g1 h4 hF hc => ?_) (fun g1 h4 h5 hF hc => ?_) (fun g1 h4 h5 hF hc => ?_))
    · change aj_wp _ _ _ _ _ _ _ _ _ _ _ _ _ _
      refine aj_i2l 8 (dx d_Law_give 5 rfl) rfl (by unfold aj_I; omega) ?_
      refine aj_last 9 (dx d_Law_give 6 rfl) rfl hout rfl (by omega) (by omega) ?_
      refine aj_goto 18 (dx d_Law_give 7 rfl) rfl ?_
      refine aj_iconst 19 (dx d_Law_give 14 rfl) rfl ?_
      refine aj_iret (dx d_Law_give 15 rfl) rfl id ?_
      exact hk3 hne hok t j ht e1 e2 e3 h4 _ (fun r' h h' => by rw [aj_up_ne _ _ _ (by omega)]; exact hF r' h) (aj_up_self _ _ _ _) (cI_of hc (fun r' h => by rw [aj_up_ne _ _ _ (by omega)]))
    · change aj_wp _ _ _ _ _ _ _ _ _ _ _ _ _ _
      refine aj_i2l 8 (dx d_Law_give 5 rfl) rfl (by unfold aj_I; omega) ?_
      refine aj_last 9 (dx d_Law_give 6 rfl) rfl hout rfl (by omega) (by omega) ?_
      refine aj_goto 18 (dx d_Law_give 7 rfl) rfl ?_
      refine aj_iconst 19 (dx d_Law_give 14 rfl) rfl ?_
      refine aj_iret (dx d_Law_give 15 rfl) rfl id ?_
      exact hk4 hne hok t j ht e1 e2 h4 h5 _ (fun r' h h' => by rw [aj_up_ne _ _ _ (by omega)]; exact hF r' h) (aj_up_self _ _ _ _) (cI_of hc (fun r' h => by rw [aj_up_ne _ _ _ (by omega)]))
    · change aj_wp _ _ _ _ _ _ _ _ _ _ _ _ _ _
      refine aj_i2l 8 (dx d_Law_give 5 rfl) rfl (by unfold aj_I; omega) ?_
      refine aj_last 9 (dx d_Law_give 6 rfl) rfl hout rfl (by omega) (by omega) ?_
      refine aj_goto 18 (dx d_Law_give 7 rfl) rfl ?_
      refine aj_iconst 19 (dx d_Law_give 14 rfl) rfl ?_
      refine aj_iret (dx d_Law_give 15 rfl) rfl id ?_
      exact hk5 hne hok t j ht e1 e2 h4 h5 _ (fun r' h h' => by rw [aj_up_ne _ _ _ (by omega)]; exact hF r' h) (aj_up_self _ _ _ _) (cI_of hc (fun r' h => by rw [aj_up_ne _ _ _ (by omega)]))
  · refine aj_callT (bc1 := 1) (bc2 := 0) (bs1 := 6) (bs2 := 0) [(0, s)] cl_Law_47 (dx d_Law_give 4 rfl) rfl rfl rfl rfl rfl rfl hI.1.1 rfl (k_Bench_give_T hI hal x1 (fun h h2 => hok ⟨h, h2⟩) (fun h => ⟨13, hd_give_1, ?_⟩) (fun h h2 => ⟨16, hd_give_0, ?_⟩))
    · refine aj_iconst 14 (dx d_Law_give 9 rfl) rfl ?_
      refine aj_iret (dx d_Law_give 10 rfl) rfl id ?_
      exact hk1 h
    · refine aj_iconst 17 (dx d_Law_give 12 rfl) rfl ?_
      refine aj_iret (dx d_Law_give 13 rfl) rfl id ?_
      exact hk2 h h2
  
