/-! Bench: edge, start, resize, change, apart, same -/
def fr78 (g g1 : aj_G) : Prop := ∀ r', 78 ≤ r' → g1 r' = g r'
theorem fr78_refl (g : aj_G) : fr78 g g := fun _ _ => rfl
theorem mcm_set {sh : List aj_S} {g : aj_G} {r : Int} {L k n s i t u : Nat} {nx ou : Nat → Nat → Nat} (hm : mcm sh g r L k n nx ou) (hs : s < n) (hi : i < k) (ht : t < n) (hu : u < 4) : mcm sh (aj_up (aj_up g (r + 1) ((s : Int) * g r 0 + i) (t : Nat)) (r + 2) ((s : Int) * g r 0 + i) (u : Nat)) r L k n (up2 nx s i t) (up2 ou s i u) := by
  obtain ⟨h1, h2, h3, h4, h5, h6, h7⟩ := hm
  refine ⟨mcs_of h1 (by rw [aj_up_ne _ _ _ (by omega), aj_up_ne _ _ _ (by omega)]), by rw [aj_up_ne _ _ _ (by omega), aj_up_ne _ _ _ (by omega)]; exact h2, by rw [aj_up_ne _ _ _ (by omega), aj_up_ne _ _ _ (by omega)]; exact h3, h4, h5, h6, fun x j hx hj => ?_⟩
  obtain ⟨a1, a2, a3, a4⟩ := h7 x j hx hj
  unfold up2
  rw [h2]
  by_cases c : x = s ∧ j = i
  · obtain ⟨rfl, rfl⟩ := c
    rw [if_pos ⟨rfl, rfl⟩, if_pos ⟨rfl, rfl⟩, aj_up_ne _ _ _ (by omega), aj_up_self, aj_up_self]
    exact ⟨rfl, rfl, ht, hu⟩
  · have hne : (x : Int) * k + j ≠ (s : Int) * k + i := fun e => c (ik_inj (by omega) hj hi e)
    rw [if_neg c, if_neg c, aj_up_ne _ _ _ (by omega), aj_up_ni _ _ _ hne, aj_up_ni _ _ _ hne, aj_up_ne _ _ _ (by omega)]
    exact ⟨a1, a2, a3, a4⟩
section CI
variable {sh : List aj_S} {g g1 : aj_G} {r r2 : Int} {k n s0 : Nat} {nx ou : Nat → Nat → Nat} {z : Int} {tw : Nat → Nat} {N : Nat} {q : nb_T} {mnx mou : Nat → Nat → Nat} {mi : Nat} {ix io : Nat → Nat → Nat} {w : List Nat} {v : Int} {S : List Nat → Prop} {fp hd hp : Int}
theorem cI_spec {nx1 ou1 : Nat → Nat → Nat} (h : cI sh g r r2 k n s0 nx ou z tw N q mnx mou mi ix io w v S fp hd hp) (hz : z = 0) (e : ∀ r', r' ≠ 2 → r' ≠ 3 → g1 r' = g r') (hm : mcm sh g1 1 (8 * k) k n nx1 ou1) : cI sh g1 r r2 k n s0 (nx1) (ou1) z tw N q mnx mou mi ix io w v S fp hd hp := by
  obtain ⟨h1, h2, h3, h4, h5, h6, h7, h8⟩ := h
  have hr := bnO_r h1
  exact ⟨bnO_of h1 (fun j _ => by rw [e 0 (by omega) (by omega)]), cN_of h2 (fun j _ => by rw [e 0 (by omega) (by omega)]), ⟨hm, h3.2⟩, cO_of h4 (e _ (by omega) (by omega)) (fun j _ => by rw [e 10 (by omega) (by omega)]) (fun j _ => by rw [e 13 (by omega) (by omega)]) (e _ (by omega) (by omega)) (e _ (by omega) (by omega)) (fun w hw => by rw [e _ (by omega) (by omega)]) (fun j _ => by rw [e 41 (by omega) (by omega)]) (fun j _ => by rw [e 44 (by omega) (by omega)]) (by rw [e 45 (by omega) (by omega)]) (e _ (by omega) (by omega)) (fun j _ => by rw [e 58 (by omega) (by omega)]) (fun j _ => by rw [e 68 (by omega) (by omega)]), cW_of h5 (e _ (by omega) (by omega)) (e _ (by omega) (by omega)), fun hz => cU_of (h6 hz) (by rw [e 10 (by omega) (by omega)]) (by rw [e 13 (by omega) (by omega)]) (e _ (by omega) (by omega)) (by rw [e 41 (by omega) (by omega)]), fun hz1 => absurd hz1 (by omega), cT_of h8 (fun i _ => e _ (by omega) (by omega))⟩
/-- only the bench's own numbers change -/
theorem cI_num {s1 : Nat} {fp1 hd1 hp1 : Int} (h : cI sh g r r2 k n s0 nx ou z tw N q mnx mou mi ix io w v S fp hd hp) (hz : z = 1 → s1 = s0) (e : ∀ r', r' ≠ 0 → g1 r' = g r') (e0 : ∀ j, j ≤ 8 → g1 0 j = g 0 j) (hn : cN g1 n s1 z fp1 hd1 hp1) (hh : (v = 0 → hd1 = -1) ∧ (v = 1 → hnO (lvF S k 20 []) hd1 hp1)) : cI sh g1 r r2 k n (s1) nx ou z tw N q mnx mou mi ix io w v S (fp1) (hd1) (hp1) := by
  obtain ⟨h1, h2, h3, h4, h5, h6, h7, h8⟩ := h
  have hr := bnO_r h1
  refine ⟨bnO_of h1 e0, hn, ⟨mcm_of h3.1 (e _ (by omega)) (e _ (by omega)) (e _ (by omega)), h3.2⟩, cO_of h4 (e _ (by omega)) (fun j _ => by rw [e 10 (by omega)]) (fun j _ => by rw [e 13 (by omega)]) (e _ (by omega)) (e _ (by omega)) (fun w hw => by rw [e _ (by omega)]) (fun j _ => by rw [e 41 (by omega)]) (fun j _ => by rw [e 44 (by omega)]) (by rw [e 45 (by omega)]) (e _ (by omega)) (fun j _ => by rw [e 58 (by omega)]) (fun j _ => by rw [e 68 (by omega)]), cW_of h5 (e _ (by omega)) (e _ (by omega)), fun hz => cU_of (h6 hz) (by rw [e 10 (by omega)]) (by rw [e 13 (by omega)]) (e _ (by omega)) (by rw [e 41 (by omega)]), fun hz1 => ?_, ?_⟩
  · rw [hz hz1]
    obtain ⟨c1, c2, c3, c4, c5, c6⟩ := h7 hz1
    refine ⟨⟨rds_of c1.1 (e 4 (by omega)), ?_⟩, ⟨mcm_of c2.1 (e 10 (by omega)) (e (10 + 1) (by omega)) (e (10 + 2) (by omega)), c2.2⟩, c3, ?_, mcm_of c5 (e _ (by omega)) (e _ (by omega)) (e _ (by omega)), c6⟩
    · have h2 := c1.2
      unfold rd_P at h2 ⊢
      rw [e 10 (by omega), e 7 (by omega), e 8 (by omega), e 9 (by omega), e 11 (by omega), e 12 (by omega), e 5 (by omega)]
      exact h2
    · obtain ⟨f1, f2, f3⟩ := c4
      refine ⟨fms_of f1 (fun j _ => by rw [e 13 (by omega)]) (e _ (by omega)) (e _ (by omega)) (fun w hw => by rw [e _ (by omega)]), fam_of f2 (by rw [e 13 (by omega)]) (fun w hw => ⟨e _ (by omega), e _ (by omega)⟩), fun s hs => ⟨?_, (f3 s hs).2⟩⟩
      obtain ⟨⟨a1, a2⟩, -⟩ := f3 s hs
      exact ⟨by rw [e 24 (by omega)]; exact a1, fun v hv => by rw [e (16 + (s : Int)) (by omega)]; exact a2 v hv⟩
  · rcases h8 with ⟨a, b, c, d⟩ | ⟨a, b, c, ⟨c1, W, d1, d2⟩, e1⟩
    · exact Or.inl ⟨a, by rw [e r (by omega)]; exact b, by rw [e r (by omega)]; exact c, hh.1 a⟩
    · exact Or.inr ⟨a, b, c, ⟨c1, W, sT_of d1 (by rw [e r (by omega)]) (by rw [e r (by omega)]) (fun i hi => e _ (by omega)), d2⟩, hh.2 a⟩
/-- the implementation changes -/
theorem cI_impl {m1 : Nat} {ix1 io1 : Nat → Nat → Nat} (h : cI sh g r r2 k n s0 nx ou z tw N q mnx mou mi ix io w v S fp hd hp) (hz : z = 1) (e : ∀ r', r' ≠ 41 → r' ≠ 42 → r' ≠ 43 → g1 r' = g r') (e41 : ∀ j, j ≠ 3 → g1 41 j = g 41 j) (hm : mcm sh g1 41 (10 * k) k m1 ix1 io1) (hm0 : 0 < m1) : cI sh g1 r r2 k n s0 nx ou z tw N q mnx mou (m1) (ix1) (io1) w v S fp hd hp := by
  obtain ⟨h1, h2, h3, h4, h5, h6, h7, h8⟩ := h
  have hr := bnO_r h1
  refine ⟨bnO_of h1 (fun j _ => by rw [e 0 (by omega) (by omega) (by omega)]), cN_of h2 (fun j _ => by rw [e 0 (by omega) (by omega) (by omega)]), ⟨mcm_of h3.1 (e _ (by omega) (by omega) (by omega)) (e _ (by omega) (by omega) (by omega)) (e _ (by omega) (by omega) (by omega)), h3.2⟩, cO_of h4 (e _ (by omega) (by omega) (by omega)) (fun j _ => by rw [e 10 (by omega) (by omega) (by omega)]) (fun j _ => by rw [e 13 (by omega) (by omega) (by omega)]) (e _ (by omega) (by omega) (by omega)) (e _ (by omega) (by omega) (by omega)) (fun w hw => by rw [e _ (by omega) (by omega) (by omega)]) e41 (fun j _ => by rw [e 44 (by omega) (by omega) (by omega)]) (by rw [e 45 (by omega) (by omega) (by omega)]) (e _ (by omega) (by omega) (by omega)) (fun j _ => by rw [e 58 (by omega) (by omega) (by omega)]) (fun j _ => by rw [e 68 (by omega) (by omega) (by omega)]), cW_of h5 (e _ (by omega) (by omega) (by omega)) (e _ (by omega) (by omega) (by omega)), fun hz0 => absurd hz0 (by omega), fun hz1 => ?_, cT_of h8 (fun i _ => e _ (by omega) (by omega) (by omega))⟩
  obtain ⟨c1, c2, c3, c4, c5, c6⟩ := h7 hz1
  have hN := c2.2.2.2
  refine ⟨suR_of c1 (fun r' _ => e r' (by omega) (by omega) (by omega)), suC_of c2 (fun r' _ => e r' (by omega) (by omega) (by omega)), c3, ?_, hm, hm0⟩
  obtain ⟨f1, f2, f3⟩ := c4
  refine ⟨fms_of f1 (fun j _ => by rw [e 13 (by omega) (by omega) (by omega)]) (e _ (by omega) (by omega) (by omega)) (e _ (by omega) (by omega) (by omega)) (fun w hw => by rw [e _ (by omega) (by omega) (by omega)]), fam_of f2 (by rw [e 13 (by omega) (by omega) (by omega)]) (fun w hw => ⟨e _ (by omega) (by omega) (by omega), e _ (by omega) (by omega) (by omega)⟩), fun s hs => ⟨?_, (f3 s hs).2⟩⟩
  obtain ⟨⟨a1, a2⟩, -⟩ := f3 s hs
  exact ⟨by rw [e 24 (by omega) (by omega) (by omega)]; exact a1, fun v hv => by rw [e (16 + (s : Int)) (by omega) (by omega) (by omega)]; exact a2 v hv⟩
/-- the word changes, and the search's rows -/
theorem cI_word {u : List Nat} (h : cI sh g r r2 k n s0 nx ou z tw N q mnx mou mi ix io w v S fp hd hp) (e : ∀ r', r' < 44 ∨ (52 < r' ∧ r' < 56) ∨ 57 < r' → g1 r' = g r') (e44 : ∀ j, j ≠ 7 → g1 44 j = g 44 j) (e45 : g1 45 0 = g 45 0) (hw : cW sh g1 k u) : cI sh g1 r r2 k n s0 nx ou z tw N q mnx mou mi ix io (u) v S fp hd hp := by
  obtain ⟨h1, h2, h3, h4, h5, h6, h7, h8⟩ := h
  have hr := bnO_r h1
  exact ⟨bnO_of h1 (fun j _ => by rw [e 0 (by omega)]), cN_of h2 (fun j _ => by rw [e 0 (by omega)]), ⟨mcm_of h3.1 (e _ (by omega)) (e _ (by omega)) (e _ (by omega)), h3.2⟩, cO_of h4 (e _ (by omega)) (fun j _ => by rw [e 10 (by omega)]) (fun j _ => by rw [e 13 (by omega)]) (e _ (by omega)) (e _ (by omega)) (fun w hw => by rw [e _ (by omega)]) (fun j _ => by rw [e 41 (by omega)]) e44 e45 (e _ (by omega)) (fun j _ => by rw [e 58 (by omega)]) (fun j _ => by rw [e 68 (by omega)]), hw, fun hz => cU_of (h6 hz) (by rw [e 10 (by omega)]) (by rw [e 13 (by omega)]) (e _ (by omega)) (by rw [e 41 (by omega)]), fun hz => cS_of (h7 hz) (fun r' _ => e r' (by omega)), cT_of h8 (fun i _ => e _ (by omega))⟩
end CI
theorem wat_cpy {g : aj_G} {x y : Int} {u : List Nat} (h : wat g y u) (hxy : y ≠ x) (h1 : y + 1 ≠ x) (h2 : y ≠ x + 1) (h3 : y + 1 ≠ x + 1) : wat (aj_cpy (aj_up g x 1 (g y 1)) (y + 1) (x + 1) 0 0 (g y 1)) x u := by
  refine ⟨?_, fun j hj => ?_⟩
  · rw [aj_cpy_app, if_neg (by omega), aj_up_self]
    exact h.1
  · rw [aj_cpy_app, if_pos rfl]
    show (if (0 : Int) ≤ (u.length : Int) - 1 - j ∧ (u.length : Int) - 1 - j < 0 + g y 1 then _ else _) = _
    rw [if_pos (by rw [h.1]; omega), aj_up_ne _ _ _ (by omega), Int.sub_zero, Int.zero_add]
    exact h.2 j hj
theorem fit_mcm {sh : List aj_S} {g g1 : aj_G} {k b m : Nat} {ix io : Nat → Nat → Nat} (hm : mcm sh g 41 (10 * k) k b ix io) (hm10 : m ≤ 10) (h1 : 1 ≤ m) (h : fit_I g g1 41 (m : Int) (k : Int) (m : Int) 0) : mcm sh (aj_up g1 41 3 (m : Int)) 41 (10 * k) k m (rz_n b m ix) (rz_o b io) := by
  obtain ⟨c1, c2, c3, c4, c5, c6, c7⟩ := hm
  have e41 : g1 41 = g 41 := h.1 41 (by omega) (by omega)
  refine ⟨⟨c1.1, by rw [aj_up_ni _ _ _ (by omega), e41]; exact c1.2.1, by rw [aj_up_ni _ _ _ (by omega), e41]; exact c1.2.2.1, c1.2.2.2⟩, by rw [aj_up_ni _ _ _ (by omega), e41]; exact c2, by rw [aj_up_self], ?_, c5, hm10, fun x i hx hi => ?_⟩
  · rcases c5 with e | e | e <;> rw [e] <;> push_cast <;> omega
  · obtain ⟨f1, f2⟩ := h.2 x i (by omega) (by omega) (by omega) (by omega)
    rw [if_pos (by omega)] at f1 f2
    rw [aj_up_ne _ _ _ (by omega), aj_up_ne _ _ _ (by omega), f1, f2]
    unfold fit_n fit_o rz_n rz_o
    rw [c3]
    by_cases cb : b ≤ x
    · have e1 : (b : Int) ≤ x := by omega
      rw [if_pos e1, if_pos e1, if_pos cb, if_pos cb]
      exact ⟨rfl, rfl, hx, by omega⟩
    · have e1 : ¬ (b : Int) ≤ x := by omega
      rw [if_neg e1, if_neg e1, if_neg cb, if_neg cb]
      obtain ⟨d1, d2, d3, d4⟩ := c7 x i (by omega) hi
      rw [d1, d2]
      by_cases cm : m ≤ ix x i
      · have e2 : (m : Int) ≤ (ix x i : Nat) := by omega
        rw [if_pos e2, if_pos cm]
        exact ⟨rfl, rfl, by omega, d4⟩
      · have e2 : ¬ (m : Int) ≤ (ix x i : Nat) := by omega
        rw [if_neg e2, if_neg cm]
        exact ⟨rfl, rfl, by omega, d4⟩
set_option maxHeartbeats 4000000 in
theorem k_Bench_edge {al : Prop} {X : Option (Nat × (Int → Int))} {d : Nat} {sh : List aj_S} {g : aj_G} {Q : aj_R → List aj_S → aj_G → Prop} {r r2 : Int} {k n s0 : Nat} {nx ou : Nat → Nat → Nat} {z : Int} {tw : Nat → Nat} {N : Nat} {q : nb_T} {mnx mou : Nat → Nat → Nat} {mi : Nat} {ix io : Nat → Nat → Nat} {w : List Nat} {v : Int} {S : List Nat → Prop} {fp hd hp : Int} (hI : cI sh g r r2 k n s0 nx ou z tw N q mnx mou mi ix io w v S fp hd hp) {s i t u : Int} (x1 : aj_I s) (x2 : aj_I i) (x3 : aj_I t) (x4 : aj_I u) (hok : ((0 ≤ s ∧ s < (n : Int)) ∧ (0 ≤ i ∧ i < (k : Int)) ∧ (0 ≤ t ∧ t < (n : Int)) ∧ (0 ≤ u ∧ u < 4))) (hz : z = 0) (hk : ∀ g1 : aj_G, fr78 g g1 → cI sh g1 r r2 k n s0 (up2 nx s.toNat i.toNat t.toNat) (up2 ou s.toNat i.toNat u.toNat) z tw N q mnx mou mi ix io w v S fp hd hp → Q (.inl none) sh g1) : aj_wp nE al al X m_Bench_edge (d + 6) 0 0 0 [some (1, 0), some (0, s), some (0, i), some (0, t), some (0, u)] [] sh g Q := by
  have hI0 := hI
  obtain ⟨hb, ⟨n9, ns0, n10, nz, n11, nfp, n12, nhd, n13⟩, ⟨hm1, hn1, hn8, hk3⟩, hO, hW, hU, hS, hT⟩ := hI
  have hr := bnO_r hb
  obtain ⟨⟨a1, a2⟩, ⟨a3, a4⟩, ⟨a5, a6⟩, a7, a8⟩ := hok
  obtain ⟨s, rfl⟩ := Int.eq_ofNat_of_zero_le a1
  obtain ⟨i, rfl⟩ := Int.eq_ofNat_of_zero_le a3
  obtain ⟨t, rfl⟩ := Int.eq_ofNat_of_zero_le a5
  obtain ⟨u, rfl⟩ := Int.eq_ofNat_of_zero_le a7
  refine aj_aload_n 0 1 (dx d_Bench_edge 0 rfl) rfl rfl rfl ?_
  refine aj_getfv (v := 1) 4 fl_Bench_23 (dx d_Bench_edge 1 rfl) rfl hb.1 (by first | exact (bf_specification hb) | ((repeat (first | rw [aj_up_ne _ _ _ (by omega)] | rw [aj_up_ni _ _ _ (by omega)])); exact (bf_specification hb))) ?_
  refine aj_iload_n 1 5 (dx d_Bench_edge 2 rfl) rfl rfl rfl ?_
  refine aj_iload_n 2 6 (dx d_Bench_edge 3 rfl) rfl rfl rfl ?_
  refine aj_iload_n 3 7 (dx d_Bench_edge 4 rfl) rfl rfl rfl ?_
  refine aj_iload 4 9 (dx d_Bench_edge 5 rfl) rfl rfl ?_
  refine aj_callV4 12 cl_Bench_96 (dx d_Bench_edge 6 rfl) rfl rfl rfl rfl rfl rfl hm1.1.1 (k_Machine_allows hm1.1.1 x1 x2 x3 x4 (by rw [hm1.2.2.1]; unfold aj_I; omega) (by rw [hm1.2.1]; unfold aj_I; omega) ?_)
  change aj_wp _ _ _ _ _ _ _ _ _ _ _ _ _ _
  refine aj_if_ne 23 15 (dx d_Bench_edge 7 rfl) rfl rfl if_I (fun h12 => ?_) (fun h12 => ?_)
  · refine aj_aload_n 0 24 (dx d_Bench_edge 12 rfl) rfl rfl rfl ?_
    refine aj_getfv (v := z) 27 fl_Bench_83 (dx d_Bench_edge 13 rfl) rfl hb.1 (by first | exact n10 | ((repeat (first | rw [aj_up_ne _ _ _ (by omega)] | rw [aj_up_ni _ _ _ (by omega)])); exact n10)) ?_
    refine aj_if_eq 38 30 (dx d_Bench_edge 14 rfl) rfl rfl (by unfold aj_I; omega) (fun h27 => ?_) (fun h27 => ?_)
    · refine aj_aload_n 0 39 (dx d_Bench_edge 19 rfl) rfl rfl rfl ?_
      refine aj_getfv (v := 1) 42 fl_Bench_23 (dx d_Bench_edge 20 rfl) rfl hb.1 (by first | exact (bf_specification hb) | ((repeat (first | rw [aj_up_ne _ _ _ (by omega)] | rw [aj_up_ni _ _ _ (by omega)])); exact (bf_specification hb))) ?_
      refine aj_iload_n 1 43 (dx d_Bench_edge 21 rfl) rfl rfl rfl ?_
      refine aj_iload_n 2 44 (dx d_Bench_edge 22 rfl) rfl rfl rfl ?_
      refine aj_iload_n 3 45 (dx d_Bench_edge 23 rfl) rfl rfl rfl ?_
      refine aj_iload 4 47 (dx d_Bench_edge 24 rfl) rfl rfl ?_
      refine aj_callV4 50 cl_Bench_106 (dx d_Bench_edge 25 rfl) rfl rfl rfl rfl rfl rfl hm1.1.1 (k_Machine_set hm1.1 (mcm_lo hm1) (mcm_hi hm1 (by omega) (by omega)) ?_)
      change aj_wp _ _ _ _ _ _ _ _ _ _ _ _ _ _
      refine aj_vret (dx d_Bench_edge 26 rfl) rfl id ?_
      refine hk _ (fun r' h => by rw [aj_up_ne _ _ _ (by omega), aj_up_ne _ _ _ (by omega)]) (cI_spec hI0 hz (fun r' h1 h2 => by rw [aj_up_ne _ _ _ (by omega), aj_up_ne _ _ _ (by omega)]) ?_)
      simp only [Int.toNat_natCast]
      exact mcm_set hm1 (by omega) (by omega) (by omega) (by omega)
    · exact absurd hz h27
  · exact absurd (by rw [hm1.2.2.1, hm1.2.1]; omega) (if_e0 h12)
set_option maxHeartbeats 4000000 in
theorem k_Bench_edge_T {al : Prop} {X : Option (Nat × (Int → Int))} {d : Nat} {sh : List aj_S} {g : aj_G} {Q : aj_R → List aj_S → aj_G → Prop} {r r2 : Int} {k n s0 : Nat} {nx ou : Nat → Nat → Nat} {z : Int} {tw : Nat → Nat} {N : Nat} {q : nb_T} {mnx mou : Nat → Nat → Nat} {mi : Nat} {ix io : Nat → Nat → Nat} {w : List Nat} {v : Int} {S : List Nat → Prop} {fp hd hp : Int} (hI : cI sh g r r2 k n s0 nx ou z tw N q mnx mou mi ix io w v S fp hd hp) (hal : ¬ al) {s i t u : Int} (x1 : aj_I s) (x2 : aj_I i) (x3 : aj_I t) (x4 : aj_I u) (hbad : ((0 ≤ s ∧ s < (n : Int)) ∧ (0 ≤ i ∧ i < (k : Int)) ∧ (0 ≤ t ∧ t < (n : Int)) ∧ (0 ≤ u ∧ u < 4)) → z = 1) (hk1 : ¬ ((0 ≤ s ∧ s < (n : Int)) ∧ (0 ≤ i ∧ i < (k : Int)) ∧ (0 ≤ t ∧ t < (n : Int)) ∧ (0 ≤ u ∧ u < 4)) → Q (.inr 0) sh g) (hk2 : ((0 ≤ s ∧ s < (n : Int)) ∧ (0 ≤ i ∧ i < (k : Int)) ∧ (0 ≤ t ∧ t < (n : Int)) ∧ (0 ≤ u ∧ u < 4)) → z = 1 → Q (.inr 1) sh g) : aj_wp nE al al X m_Bench_edge (d + 6) 1 6 0 [some (1, 0), some (0, s), some (0, i), some (0, t), some (0, u)] [] sh g Q := by
  have hI0 := hI
  obtain ⟨hb, ⟨n9, ns0, n10, nz, n11, nfp, n12, nhd, n13⟩, ⟨hm1, hn1, hn8, hk3⟩, hO, hW, hU, hS, hT⟩ := hI
  have hr := bnO_r hb
  refine aj_aload_n 0 1 (dx d_Bench_edge 0 rfl) rfl rfl rfl ?_
  refine aj_getfv (v := 1) 4 fl_Bench_23 (dx d_Bench_edge 1 rfl) rfl hb.1 (by first | exact (bf_specification hb) | ((repeat (first | rw [aj_up_ne _ _ _ (by omega)] | rw [aj_up_ni _ _ _ (by omega)])); exact (bf_specification hb))) ?_
  refine aj_iload_n 1 5 (dx d_Bench_edge 2 rfl) rfl rfl rfl ?_
  refine aj_iload_n 2 6 (dx d_Bench_edge 3 rfl) rfl rfl rfl ?_
  refine aj_iload_n 3 7 (dx d_Bench_edge 4 rfl) rfl rfl rfl ?_
  refine aj_iload 4 9 (dx d_Bench_edge 5 rfl) rfl rfl ?_
  refine aj_callV4 (bc1 := 0) (bc2 := 1) (bs1 := 0) (bs2 := 6) 12 cl_Bench_96 (dx d_Bench_edge 6 rfl) rfl rfl rfl rfl rfl rfl hm1.1.1 (k_Machine_allows hm1.1.1 x1 x2 x3 x4 (by rw [hm1.2.2.1]; unfold aj_I; omega) (by rw [hm1.2.1]; unfold aj_I; omega) ?_)
  change aj_wp _ _ _ _ _ _ _ _ _ _ _ _ _ _
  refine aj_if_ne 23 15 (dx d_Bench_edge 7 rfl) rfl rfl if_I (fun h12 => ?_) (fun h12 => ?_)
  · have hc := if_n0 h12
    rw [hm1.2.2.1, hm1.2.1] at hc
    refine aj_aload_n 0 24 (dx d_Bench_edge 12 rfl) rfl rfl rfl ?_
    refine aj_getfv (v := z) 27 fl_Bench_83 (dx d_Bench_edge 13 rfl) rfl hb.1 (by first | exact n10 | ((repeat (first | rw [aj_up_ne _ _ _ (by omega)] | rw [aj_up_ni _ _ _ (by omega)])); exact n10)) ?_
    refine aj_if_eq 38 30 (dx d_Bench_edge 14 rfl) rfl rfl (by unfold aj_I; omega) (fun h27 => ?_) (fun h27 => ?_)
    · exact absurd (hbad (by omega)) (by omega)
    · refine aj_throw th_ISE (dx d_Bench_edge 15 rfl) (dx d_Bench_edge 16 rfl) (dx d_Bench_edge 17 rfl) (dx d_Bench_edge 18 rfl) rfl hal (by omega) (by omega) (by omega) ?_
      exact hk2 (by omega) (by omega)
  · have hc := if_e0 h12
    rw [hm1.2.2.1, hm1.2.1] at hc
    refine aj_throw th_IAE (dx d_Bench_edge 8 rfl) (dx d_Bench_edge 9 rfl) (dx d_Bench_edge 10 rfl) (dx d_Bench_edge 11 rfl) rfl hal (by omega) (by omega) (by omega) ?_
    exact hk1 (fun y => hc (by omega))
set_option maxHeartbeats 4000000 in
theorem k_Bench_start {al : Prop} {X : Option (Nat × (Int → Int))} {d : Nat} {sh : List aj_S} {g : aj_G} {Q : aj_R → List aj_S → aj_G → Prop} {r r2 : Int} {k n s0 : Nat} {nx ou : Nat → Nat → Nat} {z : Int} {tw : Nat → Nat} {N : Nat} {q : nb_T} {mnx mou : Nat → Nat → Nat} {mi : Nat} {ix io : Nat → Nat → Nat} {w : List Nat} {v : Int} {S : List Nat → Prop} {fp hd hp : Int} (hI : cI sh g r r2 k n s0 nx ou z tw N q mnx mou mi ix io w v S fp hd hp) {s : Int} (x1 : aj_I s) (hok : (0 ≤ s ∧ s < (n : Int))) (hz : z = 0) (hk : ∀ g1 : aj_G, fr78 g g1 → cI sh g1 r r2 k n (s.toNat) nx ou z tw N q mnx mou mi ix io w v S fp hd hp → Q (.inl none) sh g1) : aj_wp nE al al X m_Bench_start (d + 6) 0 0 0 [some (1, 0), some (0, s)] [] sh g Q := by
  have hI0 := hI
  obtain ⟨hb, ⟨n9, ns0, n10, nz, n11, nfp, n12, nhd, n13⟩, ⟨hm1, hn1, hn8, hk3⟩, hO, hW, hU, hS, hT⟩ := hI
  have hr := bnO_r hb
  refine aj_aload_n 0 1 (dx d_Bench_start 0 rfl) rfl rfl rfl ?_
  refine aj_getfv (v := 1) 4 fl_Bench_23 (dx d_Bench_start 1 rfl) rfl hb.1 (by first | exact (bf_specification hb) | ((repeat (first | rw [aj_up_ne _ _ _ (by omega)] | rw [aj_up_ni _ _ _ (by omega)])); exact (bf_specification hb))) ?_
  refine aj_iload_n 1 5 (dx d_Bench_start 2 rfl) rfl rfl rfl ?_
  refine aj_callV1 8 cl_Bench_110 (dx d_Bench_start 3 rfl) rfl rfl rfl rfl rfl rfl hm1.1.1 (k_Machine_hasState hm1.1.1 x1 (by rw [hm1.2.2.1]; unfold aj_I; omega) ?_)
  change aj_wp _ _ _ _ _ _ _ _ _ _ _ _ _ _
  refine aj_if_ne 19 11 (dx d_Bench_start 4 rfl) rfl rfl if_I (fun h8 => ?_) (fun h8 => ?_)
  · refine aj_aload_n 0 20 (dx d_Bench_start 9 rfl) rfl rfl rfl ?_
    refine aj_getfv (v := z) 23 fl_Bench_83 (dx d_Bench_start 10 rfl) rfl hb.1 (by first | exact n10 | ((repeat (first | rw [aj_up_ne _ _ _ (by omega)] | rw [aj_up_ni _ _ _ (by omega)])); exact n10)) ?_
    refine aj_if_eq 34 26 (dx d_Bench_start 11 rfl) rfl rfl (by unfold aj_I; omega) (fun h23 => ?_) (fun h23 => ?_)
    · refine aj_aload_n 0 35 (dx d_Bench_start 16 rfl) rfl rfl rfl ?_
      refine aj_iload_n 1 36 (dx d_Bench_start 17 rfl) rfl rfl rfl ?_
      refine aj_putf 39 (pl_Bench_79 _) (dx d_Bench_start 18 rfl) rfl hb.1 (aj_fitI _) ?_
      refine aj_vret (dx d_Bench_start 19 rfl) rfl id ?_
      refine hk _ (fun r' h => by rw [aj_up_ne _ _ _ (by omega)]) (cI_num hI0 (fun h => absurd h (by omega)) (fun r' h => aj_up_ne _ _ _ h) (fun j hj => aj_up_ni _ _ _ (by omega)) ⟨?_, ?_, ?_, nz, ?_, nfp, ?_, nhd, fun h => ?_⟩ ⟨fun h => ?_, fun h => ?_⟩)
      · rw [aj_up_self]; omega
      · omega
      · rw [aj_up_ni _ _ _ (by omega)]; exact n10
      · rw [aj_up_ni _ _ _ (by omega)]; exact n11
      · rw [aj_up_ni _ _ _ (by omega)]; exact n12
      · rw [aj_up_ni _ _ _ (by omega)]; exact n13 h
      · rcases hT with ⟨-, -, -, t4⟩ | ⟨t1, -⟩
        · exact t4
        · omega
      · rcases hT with ⟨t1, -⟩ | ⟨-, -, -, -, t7⟩
        · omega
        · exact t7
    · exact absurd hz h23
  · exact absurd (by rw [hm1.2.2.1]; exact hok) (if_e0 h8)
set_option maxHeartbeats 4000000 in
theorem k_Bench_start_T {al : Prop} {X : Option (Nat × (Int → Int))} {d : Nat} {sh : List aj_S} {g : aj_G} {Q : aj_R → List aj_S → aj_G → Prop} {r r2 : Int} {k n s0 : Nat} {nx ou : Nat → Nat → Nat} {z : Int} {tw : Nat → Nat} {N : Nat} {q : nb_T} {mnx mou : Nat → Nat → Nat} {mi : Nat} {ix io : Nat → Nat → Nat} {w : List Nat} {v : Int} {S : List Nat → Prop} {fp hd hp : Int} (hI : cI sh g r r2 k n s0 nx ou z tw N q mnx mou mi ix io w v S fp hd hp) (hal : ¬ al) {s : Int} (x1 : aj_I s) (hbad : (0 ≤ s ∧ s < (n : Int)) → z = 1) (hk1 : ¬ (0 ≤ s ∧ s < (n : Int)) → Q (.inr 0) sh g) (hk2 : (0 ≤ s ∧ s < (n : Int)) → z = 1 → Q (.inr 1) sh g) : aj_wp nE al al X m_Bench_start (d + 6) 1 6 0 [some (1, 0), some (0, s)] [] sh g Q := by
  have hI0 := hI
  obtain ⟨hb, ⟨n9, ns0, n10, nz, n11, nfp, n12, nhd, n13⟩, ⟨hm1, hn1, hn8, hk3⟩, hO, hW, hU, hS, hT⟩ := hI
  have hr := bnO_r hb
  refine aj_aload_n 0 1 (dx d_Bench_start 0 rfl) rfl rfl rfl ?_
  refine aj_getfv (v := 1) 4 fl_Bench_23 (dx d_Bench_start 1 rfl) rfl hb.1 (by first | exact (bf_specification hb) | ((repeat (first | rw [aj_up_ne _ _ _ (by omega)] | rw [aj_up_ni _ _ _ (by omega)])); exact (bf_specification hb))) ?_
  refine aj_iload_n 1 5 (dx d_Bench_start 2 rfl) rfl rfl rfl ?_
  refine aj_callV1 (bc1 := 0) (bc2 := 1) (bs1 := 0) (bs2 := 6) 8 cl_Bench_110 (dx d_Bench_start 3 rfl) rfl rfl rfl rfl rfl rfl hm1.1.1 (k_Machine_hasState hm1.1.1 x1 (by rw [hm1.2.2.1]; unfold aj_I; omega) ?_)
  change aj_wp _ _ _ _ _ _ _ _ _ _ _ _ _ _
  refine aj_if_ne 19 11 (dx d_Bench_start 4 rfl) rfl rfl if_I (fun h8 => ?_) (fun h8 => ?_)
  · have hc := if_n0 h8
    rw [hm1.2.2.1] at hc
    refine aj_aload_n 0 20 (dx d_Bench_start 9 rfl) rfl rfl rfl ?_
    refine aj_getfv (v := z) 23 fl_Bench_83 (dx d_Bench_start 10 rfl) rfl hb.1 (by first | exact n10 | ((repeat (first | rw [aj_up_ne _ _ _ (by omega)] | rw [aj_up_ni _ _ _ (by omega)])); exact n10)) ?_
    refine aj_if_eq 34 26 (dx d_Bench_start 11 rfl) rfl rfl (by unfold aj_I; omega) (fun h23 => ?_) (fun h23 => ?_)
    · exact absurd (hbad hc) (by omega)
    · refine aj_throw th_ISE (dx d_Bench_start 12 rfl) (dx d_Bench_start 13 rfl) (dx d_Bench_start 14 rfl) (dx d_Bench_start 15 rfl) rfl hal (by omega) (by omega) (by omega) ?_
      exact hk2 hc (by omega)
  · have hc := if_e0 h8
    rw [hm1.2.2.1] at hc
    refine aj_throw th_IAE (dx d_Bench_start 5 rfl) (dx d_Bench_start 6 rfl) (dx d_Bench_start 7 rfl) (dx d_Bench_start 8 rfl) rfl hal (by omega) (by omega) (by omega) ?_
    exact hk1 hc
set_option maxHeartbeats 4000000 in
theorem k_Bench_resize {al : Prop} {X : Option (Nat × (Int → Int))} {d : Nat} {sh : List aj_S} {g : aj_G} {Q : aj_R → List aj_S → aj_G → Prop} {r r2 : Int} {k n s0 : Nat} {nx ou : Nat → Nat → Nat} {z : Int} {tw : Nat → Nat} {N : Nat} {q : nb_T} {mnx mou : Nat → Nat → Nat} {mi : Nat} {ix io : Nat → Nat → Nat} {w : List Nat} {v : Int} {S : List Nat → Prop} {fp hd hp : Int} (hI : cI sh g r r2 k n s0 nx ou z tw N q mnx mou mi ix io w v S fp hd hp) {s : Int} (x1 : aj_I s) (hok : (1 ≤ s ∧ s ≤ 10)) (hz : z = 1) (hk : ∀ g1 : aj_G, fr78 g g1 → cI sh g1 r r2 k n s0 nx ou z tw N q mnx mou (s.toNat) (rz_n mi s.toNat ix) (rz_o mi io) w v S fp hd hp → Q (.inl none) sh g1) : aj_wp nE al al X m_Bench_resize (d + 6) 0 0 0 [some (1, 0), some (0, s)] [] sh g Q := by
  have hI0 := hI
  obtain ⟨hb, ⟨n9, ns0, n10, nz, n11, nfp, n12, nhd, n13⟩, ⟨hm1, hn1, hn8, hk3⟩, hO, hW, hU, hS, hT⟩ := hI
  have hr := bnO_r hb
  have hs1 := hS hz
  refine aj_iload_n 1 1 (dx d_Bench_resize 0 rfl) rfl rfl rfl ?_
  refine aj_iconst 2 (dx d_Bench_resize 1 rfl) rfl ?_
  refine aj_icmp_lt 11 5 (dx d_Bench_resize 2 rfl) rfl rfl x1 (by unfold aj_I; omega) (fun h2 => ?_) (fun h2 => ?_)
  · exact absurd h2 (by omega)
  · refine aj_iload_n 1 6 (dx d_Bench_resize 3 rfl) rfl rfl rfl ?_
    refine aj_bipush 8 (dx d_Bench_resize 4 rfl) rfl (by decide +kernel) ?_
    refine aj_icmp_le 19 11 (dx d_Bench_resize 5 rfl) rfl rfl x1 (by unfold aj_I; omega) (fun h8 => ?_) (fun h8 => ?_)
    · refine aj_aload_n 0 20 (dx d_Bench_resize 10 rfl) rfl rfl rfl ?_
      refine aj_getfv (v := z) 23 fl_Bench_83 (dx d_Bench_resize 11 rfl) rfl hb.1 (by first | exact n10 | ((repeat (first | rw [aj_up_ne _ _ _ (by omega)] | rw [aj_up_ni _ _ _ (by omega)])); exact n10)) ?_
      refine aj_if_ne 34 26 (dx d_Bench_resize 12 rfl) rfl rfl (by unfold aj_I; omega) (fun h23 => ?_) (fun h23 => ?_)
      · refine aj_aload_n 0 35 (dx d_Bench_resize 17 rfl) rfl rfl rfl ?_
        refine aj_getfv (v := 41) 38 fl_Bench_43 (dx d_Bench_resize 18 rfl) rfl hb.1 (by first | exact (bf_implementation hb) | ((repeat (first | rw [aj_up_ne _ _ _ (by omega)] | rw [aj_up_ni _ _ _ (by omega)])); exact (bf_implementation hb))) ?_
        refine aj_iload_n 1 39 (dx d_Bench_resize 19 rfl) rfl rfl rfl ?_
        refine aj_callV1 42 cl_Bench_192 (dx d_Bench_resize 20 rfl) rfl rfl rfl rfl rfl rfl hs1.2.2.2.2.1.1.1 (k_Machine_fitTo hO.2.2.2.2.1 hO.2.2.2.2.2.1 (by omega) (by omega) (by rcases hk3 with rfl | rfl | rfl <;> push_cast <;> omega) (by omega) (by rw [hs1.2.2.2.2.1.2.2.1]; have := hs1.2.2.2.2.1.2.2.2.2.2.1; unfold aj_I; omega) (fun s i h1 h2 h3 h4 => ?_) (fun g1 hF => ?_))
        · rw [hs1.2.2.2.2.1.2.2.1] at h2
          obtain ⟨s, rfl⟩ := Int.eq_ofNat_of_zero_le h1
          obtain ⟨i, rfl⟩ := Int.eq_ofNat_of_zero_le h3
          obtain ⟨d1, -, d3, -⟩ := hs1.2.2.2.2.1.2.2.2.2.2.2 s i (by omega) (by omega)
          have h10 := hs1.2.2.2.2.1.2.2.2.2.2.1
          rw [d1]
          unfold aj_I
          omega
        · change aj_wp _ _ _ _ _ _ _ _ _ _ _ _ _ _
          refine aj_vret (dx d_Bench_resize 21 rfl) rfl id ?_
          obtain ⟨m, rfl⟩ := Int.eq_ofNat_of_zero_le (show 0 ≤ s by omega)
          refine hk _ (fun r' h => ?_) (cI_impl hI0 hz (fun r' h1 h2 h3 => ?_) (fun j hj => ?_) ?_ ?_)
          · rw [aj_up_ne _ _ _ (by omega)]; exact hF.1 r' (by omega) (by omega)
          · rw [aj_up_ne _ _ _ h1]; exact hF.1 r' h2 h3
          · rw [aj_up_ni _ _ _ hj, hF.1 41 (by omega) (by omega)]
          · simp only [Int.toNat_natCast]
            exact fit_mcm hs1.2.2.2.2.1 (by omega) (by omega) hF
          · simp only [Int.toNat_natCast]
            omega
      · exact absurd h23 (by omega)
    · exact absurd h8 (by omega)
set_option maxHeartbeats 4000000 in
theorem k_Bench_resize_T {al : Prop} {X : Option (Nat × (Int → Int))} {d : Nat} {sh : List aj_S} {g : aj_G} {Q : aj_R → List aj_S → aj_G → Prop} {r r2 : Int} {k n s0 : Nat} {nx ou : Nat → Nat → Nat} {z : Int} {tw : Nat → Nat} {N : Nat} {q : nb_T} {mnx mou : Nat → Nat → Nat} {mi : Nat} {ix io : Nat → Nat → Nat} {w : List Nat} {v : Int} {S : List Nat → Prop} {fp hd hp : Int} (hI : cI sh g r r2 k n s0 nx ou z tw N q mnx mou mi ix io w v S fp hd hp) (hal : ¬ al) {s : Int} (x1 : aj_I s) (hbad : (1 ≤ s ∧ s ≤ 10) → z = 0) (hk1 : ¬ (1 ≤ s ∧ s ≤ 10) → Q (.inr 0) sh g) (hk2 : (1 ≤ s ∧ s ≤ 10) → z = 0 → Q (.inr 1) sh g) : aj_wp nE al al X m_Bench_resize (d + 6) 1 6 0 [some (1, 0), some (0, s)] [] sh g Q := by
  have hI0 := hI
  obtain ⟨hb, ⟨n9, ns0, n10, nz, n11, nfp, n12, nhd, n13⟩, ⟨hm1, hn1, hn8, hk3⟩, hO, hW, hU, hS, hT⟩ := hI
  have hr := bnO_r hb
  refine aj_iload_n 1 1 (dx d_Bench_resize 0 rfl) rfl rfl rfl ?_
  refine aj_iconst 2 (dx d_Bench_resize 1 rfl) rfl ?_
  refine aj_icmp_lt 11 5 (dx d_Bench_resize 2 rfl) rfl rfl x1 (by unfold aj_I; omega) (fun h2 => ?_) (fun h2 => ?_)
  · refine aj_throw th_IAE (dx d_Bench_resize 6 rfl) (dx d_Bench_resize 7 rfl) (dx d_Bench_resize 8 rfl) (dx d_Bench_resize 9 rfl) rfl hal (by omega) (by omega) (by omega) ?_
    exact hk1 (by omega)
  · refine aj_iload_n 1 6 (dx d_Bench_resize 3 rfl) rfl rfl rfl ?_
    refine aj_bipush 8 (dx d_Bench_resize 4 rfl) rfl (by decide +kernel) ?_
    refine aj_icmp_le 19 11 (dx d_Bench_resize 5 rfl) rfl rfl x1 (by unfold aj_I; omega) (fun h8 => ?_) (fun h8 => ?_)
    · refine aj_aload_n 0 20 (dx d_Bench_resize 10 rfl) rfl rfl rfl ?_
      refine aj_getfv (v := z) 23 fl_Bench_83 (dx d_Bench_resize 11 rfl) rfl hb.1 (by first | exact n10 | ((repeat (first | rw [aj_up_ne _ _ _ (by omega)] | rw [aj_up_ni _ _ _ (by omega)])); exact n10)) ?_
      refine aj_if_ne 34 26 (dx d_Bench_resize 12 rfl) rfl rfl (by unfold aj_I; omega) (fun h23 => ?_) (fun h23 => ?_)
      · exact absurd (hbad (by omega)) (by omega)
      · refine aj_throw th_ISE (dx d_Bench_resize 13 rfl) (dx d_Bench_resize 14 rfl) (dx d_Bench_resize 15 rfl) (dx d_Bench_resize 16 rfl) rfl hal (by omega) (by omega) (by omega) ?_
        exact hk2 (by omega) (by omega)
    · refine aj_throw th_IAE (dx d_Bench_resize 6 rfl) (dx d_Bench_resize 7 rfl) (dx d_Bench_resize 8 rfl) (dx d_Bench_resize 9 rfl) rfl hal (by omega) (by omega) (by omega) ?_
      exact hk1 (by omega)
set_option maxHeartbeats 4000000 in
theorem k_Bench_change {al : Prop} {X : Option (Nat × (Int → Int))} {d : Nat} {sh : List aj_S} {g : aj_G} {Q : aj_R → List aj_S → aj_G → Prop} {r r2 : Int} {k n s0 : Nat} {nx ou : Nat → Nat → Nat} {z : Int} {tw : Nat → Nat} {N : Nat} {q : nb_T} {mnx mou : Nat → Nat → Nat} {mi : Nat} {ix io : Nat → Nat → Nat} {w : List Nat} {v : Int} {S : List Nat → Prop} {fp hd hp : Int} (hI : cI sh g r r2 k n s0 nx ou z tw N q mnx mou mi ix io w v S fp hd hp) {s i t u : Int} (x1 : aj_I s) (x2 : aj_I i) (x3 : aj_I t) (x4 : aj_I u) (hok : ((0 ≤ s ∧ s < (mi : Int)) ∧ (0 ≤ i ∧ i < (k : Int)) ∧ (0 ≤ t ∧ t < (mi : Int)) ∧ (0 ≤ u ∧ u < 4))) (hz : z = 1) (hk : ∀ g1 : aj_G, fr78 g g1 → cI sh g1 r r2 k n s0 nx ou z tw N q mnx mou mi (up2 ix s.toNat i.toNat t.toNat) (up2 io s.toNat i.toNat u.toNat) w v S fp hd hp → Q (.inl none) sh g1) : aj_wp nE al al X m_Bench_change (d + 6) 0 0 0 [some (1, 0), some (0, s), some (0, i), some (0, t), some (0, u)] [] sh g Q := by
  have hI0 := hI
  obtain ⟨hb, ⟨n9, ns0, n10, nz, n11, nfp, n12, nhd, n13⟩, ⟨hm1, hn1, hn8, hk3⟩, hO, hW, hU, hS, hT⟩ := hI
  have hr := bnO_r hb
  obtain ⟨⟨a1, a2⟩, ⟨a3, a4⟩, ⟨a5, a6⟩, a7, a8⟩ := hok
  obtain ⟨s, rfl⟩ := Int.eq_ofNat_of_zero_le a1
  obtain ⟨i, rfl⟩ := Int.eq_ofNat_of_zero_le a3
  obtain ⟨t, rfl⟩ := Int.eq_ofNat_of_zero_le a5
  obtain ⟨u, rfl⟩ := Int.eq_ofNat_of_zero_le a7
  have hs1 := hS hz
  refine aj_aload_n 0 1 (dx d_Bench_change 0 rfl) rfl rfl rfl ?_
  refine aj_getfv (v := z) 4 fl_Bench_83 (dx d_Bench_change 1 rfl) rfl hb.1 (by first | exact n10 | ((repeat (first | rw [aj_up_ne _ _ _ (by omega)] | rw [aj_up_ni _ _ _ (by omega)])); exact n10)) ?_
  refine aj_if_ne 15 7 (dx d_Bench_change 2 rfl) rfl rfl (by unfold aj_I; omega) (fun h4 => ?_) (fun h4 => ?_)
  · refine aj_aload_n 0 16 (dx d_Bench_change 7 rfl) rfl rfl rfl ?_
    refine aj_getfv (v := 41) 19 fl_Bench_43 (dx d_Bench_change 8 rfl) rfl hb.1 (by first | exact (bf_implementation hb) | ((repeat (first | rw [aj_up_ne _ _ _ (by omega)] | rw [aj_up_ni _ _ _ (by omega)])); exact (bf_implementation hb))) ?_
    refine aj_iload_n 1 20 (dx d_Bench_change 9 rfl) rfl rfl rfl ?_
    refine aj_iload_n 2 21 (dx d_Bench_change 10 rfl) rfl rfl rfl ?_
    refine aj_iload_n 3 22 (dx d_Bench_change 11 rfl) rfl rfl rfl ?_
    refine aj_iload 4 24 (dx d_Bench_change 12 rfl) rfl rfl ?_
    refine aj_callV4 27 cl_Bench_96 (dx d_Bench_change 13 rfl) rfl rfl rfl rfl rfl rfl hs1.2.2.2.2.1.1.1 (k_Machine_allows hs1.2.2.2.2.1.1.1 x1 x2 x3 x4 (by have := hs1.2.2.2.2.1.2.2.2.2.2.1; rw [hs1.2.2.2.2.1.2.2.1]; unfold aj_I; omega) (by rw [hs1.2.2.2.2.1.2.1]; unfold aj_I; omega) ?_)
    change aj_wp _ _ _ _ _ _ _ _ _ _ _ _ _ _
    refine aj_if_ne 38 30 (dx d_Bench_change 14 rfl) rfl rfl if_I (fun h27 => ?_) (fun h27 => ?_)
    · refine aj_aload_n 0 39 (dx d_Bench_change 19 rfl) rfl rfl rfl ?_
      refine aj_getfv (v := 41) 42 fl_Bench_43 (dx d_Bench_change 20 rfl) rfl hb.1 (by first | exact (bf_implementation hb) | ((repeat (first | rw [aj_up_ne _ _ _ (by omega)] | rw [aj_up_ni _ _ _ (by omega)])); exact (bf_implementation hb))) ?_
      refine aj_iload_n 1 43 (dx d_Bench_change 21 rfl) rfl rfl rfl ?_
      refine aj_iload_n 2 44 (dx d_Bench_change 22 rfl) rfl rfl rfl ?_
      refine aj_iload_n 3 45 (dx d_Bench_change 23 rfl) rfl rfl rfl ?_
      refine aj_iload 4 47 (dx d_Bench_change 24 rfl) rfl rfl ?_
      refine aj_callV4 50 cl_Bench_106 (dx d_Bench_change 25 rfl) rfl rfl rfl rfl rfl rfl hs1.2.2.2.2.1.1.1 (k_Machine_set hs1.2.2.2.2.1.1 (mcm_lo hs1.2.2.2.2.1) (mcm_hi hs1.2.2.2.2.1 (by omega) (by omega)) ?_)
      change aj_wp _ _ _ _ _ _ _ _ _ _ _ _ _ _
      refine aj_vret (dx d_Bench_change 26 rfl) rfl id ?_
      refine hk _ (fun r' h => by rw [aj_up_ne _ _ _ (by omega), aj_up_ne _ _ _ (by omega)]) (cI_impl hI0 hz (fun r' h1 h2 h3 => by rw [aj_up_ne _ _ _ (by omega), aj_up_ne _ _ _ (by omega)]) (fun j _ => by rw [aj_up_ne _ _ _ (by omega), aj_up_ne _ _ _ (by omega)]) ?_ hs1.2.2.2.2.2)
      simp only [Int.toNat_natCast]
      exact mcm_set hs1.2.2.2.2.1 (by omega) (by omega) (by omega) (by omega)
    · exact absurd (by rw [hs1.2.2.2.2.1.2.2.1, hs1.2.2.2.2.1.2.1]; omega) (if_e0 h27)
  · exact absurd hz (by omega)
set_option maxHeartbeats 4000000 in
theorem k_Bench_change_T {al : Prop} {X : Option (Nat × (Int → Int))} {d : Nat} {sh : List aj_S} {g : aj_G} {Q : aj_R → List aj_S → aj_G → Prop} {r r2 : Int} {k n s0 : Nat} {nx ou : Nat → Nat → Nat} {z : Int} {tw : Nat → Nat} {N : Nat} {q : nb_T} {mnx mou : Nat → Nat → Nat} {mi : Nat} {ix io : Nat → Nat → Nat} {w : List Nat} {v : Int} {S : List Nat → Prop} {fp hd hp : Int} (hI : cI sh g r r2 k n s0 nx ou z tw N q mnx mou mi ix io w v S fp hd hp) (hal : ¬ al) {s i t u : Int} (x1 : aj_I s) (x2 : aj_I i) (x3 : aj_I t) (x4 : aj_I u) (hbad : z = 1 → ¬ ((0 ≤ s ∧ s < (mi : Int)) ∧ (0 ≤ i ∧ i < (k : Int)) ∧ (0 ≤ t ∧ t < (mi : Int)) ∧ (0 ≤ u ∧ u < 4))) (hk1 : z = 0 → Q (.inr 1) sh g) (hk2 : z = 1 → ¬ ((0 ≤ s ∧ s < (mi : Int)) ∧ (0 ≤ i ∧ i < (k : Int)) ∧ (0 ≤ t ∧ t < (mi : Int)) ∧ (0 ≤ u ∧ u < 4)) → Q (.inr 0) sh g) : aj_wp nE al al X m_Bench_change (d + 6) 1 6 0 [some (1, 0), some (0, s), some (0, i), some (0, t), some (0, u)] [] sh g Q := by
  have hI0 := hI
  obtain ⟨hb, ⟨n9, ns0, n10, nz, n11, nfp, n12, nhd, n13⟩, ⟨hm1, hn1, hn8, hk3⟩, hO, hW, hU, hS, hT⟩ := hI
  have hr := bnO_r hb
  refine aj_aload_n 0 1 (dx d_Bench_change 0 rfl) rfl rfl rfl ?_
  refine aj_getfv (v := z) 4 fl_Bench_83 (dx d_Bench_change 1 rfl) rfl hb.1 (by first | exact n10 | ((repeat (first | rw [aj_up_ne _ _ _ (by omega)] | rw [aj_up_ni _ _ _ (by omega)])); exact n10)) ?_
  refine aj_if_ne 15 7 (dx d_Bench_change 2 rfl) rfl rfl (by unfold aj_I; omega) (fun h4 => ?_) (fun h4 => ?_)
  · have hz1 : z = 1 := by omega
    have hs1 := hS hz1
    refine aj_aload_n 0 16 (dx d_Bench_change 7 rfl) rfl rfl rfl ?_
    refine aj_getfv (v := 41) 19 fl_Bench_43 (dx d_Bench_change 8 rfl) rfl hb.1 (by first | exact (bf_implementation hb) | ((repeat (first | rw [aj_up_ne _ _ _ (by omega)] | rw [aj_up_ni _ _ _ (by omega)])); exact (bf_implementation hb))) ?_
    refine aj_iload_n 1 20 (dx d_Bench_change 9 rfl) rfl rfl rfl ?_
    refine aj_iload_n 2 21 (dx d_Bench_change 10 rfl) rfl rfl rfl ?_
    refine aj_iload_n 3 22 (dx d_Bench_change 11 rfl) rfl rfl rfl ?_
    refine aj_iload 4 24 (dx d_Bench_change 12 rfl) rfl rfl ?_
    refine aj_callV4 (bc1 := 0) (bc2 := 1) (bs1 := 0) (bs2 := 6) 27 cl_Bench_96 (dx d_Bench_change 13 rfl) rfl rfl rfl rfl rfl rfl hs1.2.2.2.2.1.1.1 (k_Machine_allows hs1.2.2.2.2.1.1.1 x1 x2 x3 x4 (by have := hs1.2.2.2.2.1.2.2.2.2.2.1; rw [hs1.2.2.2.2.1.2.2.1]; unfold aj_I; omega) (by rw [hs1.2.2.2.2.1.2.1]; unfold aj_I; omega) ?_)
    change aj_wp _ _ _ _ _ _ _ _ _ _ _ _ _ _
    refine aj_if_ne 38 30 (dx d_Bench_change 14 rfl) rfl rfl if_I (fun h27 => ?_) (fun h27 => ?_)
    · have hc := if_n0 h27
      rw [hs1.2.2.2.2.1.2.2.1, hs1.2.2.2.2.1.2.1] at hc
      exact absurd (show ((0 ≤ s ∧ s < (mi : Int)) ∧ (0 ≤ i ∧ i < (k : Int)) ∧ (0 ≤ t ∧ t < (mi : Int)) ∧ (0 ≤ u ∧ u < 4)) by omega) (hbad hz1)
    · have hc := if_e0 h27
      rw [hs1.2.2.2.2.1.2.2.1, hs1.2.2.2.2.1.2.1] at hc
      refine aj_throw th_IAE (dx d_Bench_change 15 rfl) (dx d_Bench_change 16 rfl) (dx d_Bench_change 17 rfl) (dx d_Bench_change 18 rfl) rfl hal (by omega) (by omega) (by omega) ?_
      exact hk2 hz1 (fun y => hc (by omega))
  · refine aj_throw th_ISE (dx d_Bench_change 3 rfl) (dx d_Bench_change 4 rfl) (dx d_Bench_change 5 rfl) (dx d_Bench_change 6 rfl) rfl hal (by omega) (by omega) (by omega) ?_
    exact hk1 (by omega)
set_option maxHeartbeats 4000000 in
theorem k_Bench_apart {al : Prop} {X : Option (Nat × (Int → Int))} {d : Nat} {sh : List aj_S} {g : aj_G} {Q : aj_R → List aj_S → aj_G → Prop} {r r2 : Int} {k n s0 : Nat} {nx ou : Nat → Nat → Nat} {z : Int} {tw : Nat → Nat} {N : Nat} {q : nb_T} {mnx mou : Nat → Nat → Nat} {mi : Nat} {ix io : Nat → Nat → Nat} {w : List Nat} {v : Int} {S : List Nat → Prop} {fp hd hp : Int} (hI : cI sh g r r2 k n s0 nx ou z tw N q mnx mou mi ix io w v S fp hd hp) {s t : Int} (x1 : aj_I s) (x2 : aj_I t) (hal : ¬ al) (hok : ((0 ≤ s ∧ s < (n : Int)) ∧ (0 ≤ t ∧ t < (n : Int)))) (hz : z = 1) (hk : ∀ (g1 : aj_G) (u : List Nat), fr78 g g1 → (wd_least k nx ou s.toNat nx ou t.toNat u ∨ (al_k k nx ou s.toNat t.toNat ∧ u = [])) → cI sh g1 r r2 k n s0 nx ou z tw N q mnx mou mi ix io (u) v S fp hd hp → Q (.inl (some (0, (u.length : Int)))) sh g1) : aj_wp nE al al X m_Bench_apart (d + 6) 0 0 0 [some (1, 0), some (0, s), some (0, t)] [] sh g Q := by
  have hI0 := hI
  obtain ⟨hb, ⟨n9, ns0, n10, nz, n11, nfp, n12, nhd, n13⟩, ⟨hm1, hn1, hn8, hk3⟩, hO, hW, hU, hS, hT⟩ := hI
  have hr := bnO_r hb
  obtain ⟨⟨a1, a2⟩, a3, a4⟩ := hok
  obtain ⟨s, rfl⟩ := Int.eq_ofNat_of_zero_le a1
  obtain ⟨t, rfl⟩ := Int.eq_ofNat_of_zero_le a3
  simp only [Int.toNat_natCast] at hk
  refine aj_aload_n 0 1 (dx d_Bench_apart 0 rfl) rfl rfl rfl ?_
  refine aj_getfv (v := 1) 4 fl_Bench_23 (dx d_Bench_apart 1 rfl) rfl hb.1 (by first | exact (bf_specification hb) | ((repeat (first | rw [aj_up_ne _ _ _ (by omega)] | rw [aj_up_ni _ _ _ (by omega)])); exact (bf_specification hb))) ?_
  refine aj_iload_n 1 5 (dx d_Bench_apart 2 rfl) rfl rfl rfl ?_
  refine aj_callV1 8 cl_Bench_110 (dx d_Bench_apart 3 rfl) rfl rfl rfl rfl rfl rfl hm1.1.1 (k_Machine_hasState hm1.1.1 x1 (by rw [hm1.2.2.1]; unfold aj_I; omega) ?_)
  change aj_wp _ _ _ _ _ _ _ _ _ _ _ _ _ _
  refine aj_if_eq 22 11 (dx d_Bench_apart 4 rfl) rfl rfl if_I (fun h8 => ?_) (fun h8 => ?_)
  · exact absurd (by rw [hm1.2.2.1]; omega) (if_e0 h8)
  · refine aj_aload_n 0 12 (dx d_Bench_apart 5 rfl) rfl rfl rfl ?_
    refine aj_getfv (v := 1) 15 fl_Bench_23 (dx d_Bench_apart 6 rfl) rfl hb.1 (by first | exact (bf_specification hb) | ((repeat (first | rw [aj_up_ne _ _ _ (by omega)] | rw [aj_up_ni _ _ _ (by omega)])); exact (bf_specification hb))) ?_
    refine aj_iload_n 2 16 (dx d_Bench_apart 7 rfl) rfl rfl rfl ?_
    refine aj_callV1 19 cl_Bench_110 (dx d_Bench_apart 8 rfl) rfl rfl rfl rfl rfl rfl hm1.1.1 (k_Machine_hasState hm1.1.1 x2 (by rw [hm1.2.2.1]; unfold aj_I; omega) ?_)
    change aj_wp _ _ _ _ _ _ _ _ _ _ _ _ _ _
    refine aj_if_ne 30 22 (dx d_Bench_apart 9 rfl) rfl rfl if_I (fun h19 => ?_) (fun h19 => ?_)
    · refine aj_aload_n 0 31 (dx d_Bench_apart 14 rfl) rfl rfl rfl ?_
      refine aj_getfv (v := z) 34 fl_Bench_83 (dx d_Bench_apart 15 rfl) rfl hb.1 (by first | exact n10 | ((repeat (first | rw [aj_up_ne _ _ _ (by omega)] | rw [aj_up_ni _ _ _ (by omega)])); exact n10)) ?_
      refine aj_if_ne 45 37 (dx d_Bench_apart 16 rfl) rfl rfl (by unfold aj_I; omega) (fun h34 => ?_) (fun h34 => ?_)
      · refine aj_aload_n 0 46 (dx d_Bench_apart 21 rfl) rfl rfl rfl ?_
        refine aj_getfv (v := 44) 49 fl_Bench_49 (dx d_Bench_apart 22 rfl) rfl hb.1 (by first | exact (bf_search hb) | ((repeat (first | rw [aj_up_ne _ _ _ (by omega)] | rw [aj_up_ni _ _ _ (by omega)])); exact (bf_search hb))) ?_
        refine aj_aload_n 0 50 (dx d_Bench_apart 23 rfl) rfl rfl rfl ?_
        refine aj_getfv (v := 1) 53 fl_Bench_23 (dx d_Bench_apart 24 rfl) rfl hb.1 (by first | exact (bf_specification hb) | ((repeat (first | rw [aj_up_ne _ _ _ (by omega)] | rw [aj_up_ni _ _ _ (by omega)])); exact (bf_specification hb))) ?_
        refine aj_iload_n 1 54 (dx d_Bench_apart 25 rfl) rfl rfl rfl ?_
        refine aj_aload_n 0 55 (dx d_Bench_apart 26 rfl) rfl rfl rfl ?_
        refine aj_getfv (v := 1) 58 fl_Bench_23 (dx d_Bench_apart 27 rfl) rfl hb.1 (by first | exact (bf_specification hb) | ((repeat (first | rw [aj_up_ne _ _ _ (by omega)] | rw [aj_up_ni _ _ _ (by omega)])); exact (bf_specification hb))) ?_
        refine aj_iload_n 2 59 (dx d_Bench_apart 28 rfl) rfl rfl rfl ?_
        refine aj_callV4 62 cl_Bench_136 (dx d_Bench_apart 29 rfl) rfl rfl rfl rfl rfl rfl hO.2.2.2.2.2.2.1.1 (k_Search_find hO.2.2.2.2.2.2.1 hm1 hm1 (by omega) (by omega) (by omega) (by omega) (fun g1 w1 hF hl hw100 hwat => ?_) (fun g1 hF hno h1 => ?_))
        · change aj_wp _ _ _ _ _ _ _ _ _ _ _ _ _ _
          obtain ⟨u, hu, huok, hul, hres⟩ : ∃ u : List Nat, wat g1 45 u ∧ wd_ok k u ∧ u.length ≤ 100 ∧ (wd_least k nx ou s nx ou t u ∨ (al_k k nx ou s t ∧ u = [])) := ⟨w1, hwat, hl.1, hw100, Or.inl hl⟩
          have hp1 : pss sh g1 44 := pss_of hO.2.2.2.2.2.2.1 hF.2.1 (hF.2.2 0 (by omega))
          have hb1 : bnO sh g1 r r2 := bnO_of hb (fun j _ => by rw [hF.1 0 (by omega)])
          have hw1 : wds sh g1 56 := wds_of hW.1 (by rw [hF.1 56 (by omega)])
          have hw45 : wds sh g1 45 := ⟨hp1.2.2.1.1, hp1.2.2.1.2.1, hp1.2.2.1.2.2⟩
          refine aj_pop 63 (dx d_Bench_apart 30 rfl) rfl rfl ?_
          refine aj_aload_n 0 64 (dx d_Bench_apart 31 rfl) rfl rfl rfl ?_
          refine aj_getfv (v := 56) 67 fl_Bench_63 (dx d_Bench_apart 32 rfl) rfl hb1.1 (by first | exact (bf_word hb1) | ((repeat (first | rw [aj_up_ne _ _ _ (by omega)] | rw [aj_up_ni _ _ _ (by omega)])); exact (bf_word hb1))) ?_
          refine aj_aload_n 0 68 (dx d_Bench_apart 33 rfl) rfl rfl rfl ?_
          refine aj_getfv (v := 44) 71 fl_Bench_49 (dx d_Bench_apart 34 rfl) rfl hb1.1 (by first | exact (bf_search hb1) | ((repeat (first | rw [aj_up_ne _ _ _ (by omega)] | rw [aj_up_ni _ _ _ (by omega)])); exact (bf_search hb1))) ?_
          refine aj_getfv (v := 45) 74 fl_Bench_140 (dx d_Bench_apart 35 rfl) rfl hp1.1 hp1.2.1.1 ?_
          refine aj_callV1 77 cl_Bench_143 (dx d_Bench_apart 36 rfl) rfl rfl rfl rfl rfl rfl hw1.1 (k_Word_copy hal hw1 hw45 (by omega) (by rw [hu.1]; omega) (by rw [hu.1]; omega) ?_)
          change aj_wp _ _ _ _ _ _ _ _ _ _ _ _ _ _
          have hfr : ∀ r', r' < 44 ∨ (52 < r' ∧ r' < 56) ∨ 57 < r' → (aj_cpy (aj_up g1 56 1 (g1 45 1)) (45 + 1) (56 + 1) 0 0 (g1 45 1)) r' = g r' := fun r' h => by
            rw [aj_cpy_app, if_neg (by omega), aj_up_ne _ _ _ (by omega)]
            exact hF.1 r' (by omega)
          have h44 : ∀ r', r' < 56 → (aj_cpy (aj_up g1 56 1 (g1 45 1)) (45 + 1) (56 + 1) 0 0 (g1 45 1)) r' = g1 r' := fun r' h => by rw [aj_cpy_app, if_neg (by omega), aj_up_ne _ _ _ (by omega)]
          have hwa : wat (aj_cpy (aj_up g1 56 1 (g1 45 1)) (45 + 1) (56 + 1) 0 0 (g1 45 1)) 56 u := wat_cpy hu (by omega) (by omega) (by omega) (by omega)
          have hlen2 : (aj_cpy (aj_up g1 56 1 (g1 45 1)) (45 + 1) (56 + 1) 0 0 (g1 45 1)) 56 1 = (u.length : Int) := hwa.1
          have hb2 : bnO sh (aj_cpy (aj_up g1 56 1 (g1 45 1)) (45 + 1) (56 + 1) 0 0 (g1 45 1)) r r2 := bnO_of hb1 (fun j _ => by rw [h44 0 (by omega)])
          have hcw : cW sh (aj_cpy (aj_up g1 56 1 (g1 45 1)) (45 + 1) (56 + 1) 0 0 (g1 45 1)) k u := ⟨wds_of hw1 (by rw [aj_cpy_app, if_neg (by omega), aj_up_ni _ _ _ (by omega)]), hwa, huok, hul⟩
          have hci := cI_word hI0 hfr (fun j hj => by rw [h44 44 (by omega)]; exact hF.2.1 j hj) (by rw [h44 45 (by omega)]; exact hF.2.2 0 (by omega)) hcw
          refine aj_aload_n 0 78 (dx d_Bench_apart 37 rfl) rfl rfl rfl ?_
          refine aj_getfv (v := 56) 81 fl_Bench_63 (dx d_Bench_apart 38 rfl) rfl hb2.1 (by first | exact (bf_word hb2) | ((repeat (first | rw [aj_up_ne _ _ _ (by omega)] | rw [aj_up_ni _ _ _ (by omega)])); exact (bf_word hb2))) ?_
          refine aj_getfv (v := (u.length : Int)) 84 fl_Bench_146 (dx d_Bench_apart 39 rfl) rfl hW.1.1 hlen2 ?_
          refine aj_iret (dx d_Bench_apart 40 rfl) rfl id ?_
          exact hk _ u (fun r' h => hfr r' (by omega)) hres hci
        · change aj_wp _ _ _ _ _ _ _ _ _ _ _ _ _ _
          obtain ⟨u, hu, huok, hul, hres⟩ : ∃ u : List Nat, wat g1 45 u ∧ wd_ok k u ∧ u.length ≤ 100 ∧ (wd_least k nx ou s nx ou t u ∨ (al_k k nx ou s t ∧ u = [])) := ⟨[], ⟨h1, fun j hj => absurd hj (Nat.not_lt_zero _)⟩, wd_ok_nil k, Nat.zero_le _, Or.inr ⟨hno, rfl⟩⟩
          have hp1 : pss sh g1 44 := pss_of hO.2.2.2.2.2.2.1 hF.2.1 (hF.2.2 0 (by omega))
          have hb1 : bnO sh g1 r r2 := bnO_of hb (fun j _ => by rw [hF.1 0 (by omega)])
          have hw1 : wds sh g1 56 := wds_of hW.1 (by rw [hF.1 56 (by omega)])
          have hw45 : wds sh g1 45 := ⟨hp1.2.2.1.1, hp1.2.2.1.2.1, hp1.2.2.1.2.2⟩
          refine aj_pop 63 (dx d_Bench_apart 30 rfl) rfl rfl ?_
          refine aj_aload_n 0 64 (dx d_Bench_apart 31 rfl) rfl rfl rfl ?_
          refine aj_getfv (v := 56) 67 fl_Bench_63 (dx d_Bench_apart 32 rfl) rfl hb1.1 (by first | exact (bf_word hb1) | ((repeat (first | rw [aj_up_ne _ _ _ (by omega)] | rw [aj_up_ni _ _ _ (by omega)])); exact (bf_word hb1))) ?_
          refine aj_aload_n 0 68 (dx d_Bench_apart 33 rfl) rfl rfl rfl ?_
          refine aj_getfv (v := 44) 71 fl_Bench_49 (dx d_Bench_apart 34 rfl) rfl hb1.1 (by first | exact (bf_search hb1) | ((repeat (first | rw [aj_up_ne _ _ _ (by omega)] | rw [aj_up_ni _ _ _ (by omega)])); exact (bf_search hb1))) ?_
          refine aj_getfv (v := 45) 74 fl_Bench_140 (dx d_Bench_apart 35 rfl) rfl hp1.1 hp1.2.1.1 ?_
          refine aj_callV1 77 cl_Bench_143 (dx d_Bench_apart 36 rfl) rfl rfl rfl rfl rfl rfl hw1.1 (k_Word_copy hal hw1 hw45 (by omega) (by rw [hu.1]; omega) (by rw [hu.1]; omega) ?_)
          change aj_wp _ _ _ _ _ _ _ _ _ _ _ _ _ _
          have hfr : ∀ r', r' < 44 ∨ (52 < r' ∧ r' < 56) ∨ 57 < r' → (aj_cpy (aj_up g1 56 1 (g1 45 1)) (45 + 1) (56 + 1) 0 0 (g1 45 1)) r' = g r' := fun r' h => by
            rw [aj_cpy_app, if_neg (by omega), aj_up_ne _ _ _ (by omega)]
            exact hF.1 r' (by omega)
          have h44 : ∀ r', r' < 56 → (aj_cpy (aj_up g1 56 1 (g1 45 1)) (45 + 1) (56 + 1) 0 0 (g1 45 1)) r' = g1 r' := fun r' h => by rw [aj_cpy_app, if_neg (by omega), aj_up_ne _ _ _ (by omega)]
          have hwa : wat (aj_cpy (aj_up g1 56 1 (g1 45 1)) (45 + 1) (56 + 1) 0 0 (g1 45 1)) 56 u := wat_cpy hu (by omega) (by omega) (by omega) (by omega)
          have hlen2 : (aj_cpy (aj_up g1 56 1 (g1 45 1)) (45 + 1) (56 + 1) 0 0 (g1 45 1)) 56 1 = (u.length : Int) := hwa.1
          have hb2 : bnO sh (aj_cpy (aj_up g1 56 1 (g1 45 1)) (45 + 1) (56 + 1) 0 0 (g1 45 1)) r r2 := bnO_of hb1 (fun j _ => by rw [h44 0 (by omega)])
          have hcw : cW sh (aj_cpy (aj_up g1 56 1 (g1 45 1)) (45 + 1) (56 + 1) 0 0 (g1 45 1)) k u := ⟨wds_of hw1 (by rw [aj_cpy_app, if_neg (by omega), aj_up_ni _ _ _ (by omega)]), hwa, huok, hul⟩
          have hci := cI_word hI0 hfr (fun j hj => by rw [h44 44 (by omega)]; exact hF.2.1 j hj) (by rw [h44 45 (by omega)]; exact hF.2.2 0 (by omega)) hcw
          refine aj_aload_n 0 78 (dx d_Bench_apart 37 rfl) rfl rfl rfl ?_
          refine aj_getfv (v := 56) 81 fl_Bench_63 (dx d_Bench_apart 38 rfl) rfl hb2.1 (by first | exact (bf_word hb2) | ((repeat (first | rw [aj_up_ne _ _ _ (by omega)] | rw [aj_up_ni _ _ _ (by omega)])); exact (bf_word hb2))) ?_
          refine aj_getfv (v := (u.length : Int)) 84 fl_Bench_146 (dx d_Bench_apart 39 rfl) rfl hW.1.1 hlen2 ?_
          refine aj_iret (dx d_Bench_apart 40 rfl) rfl id ?_
          exact hk _ u (fun r' h => hfr r' (by omega)) hres hci
      · exact absurd hz (by omega)
    · exact absurd (by rw [hm1.2.2.1]; omega) (if_e0 h19)
set_option maxHeartbeats 4000000 in
theorem k_Bench_apart_T {al : Prop} {X : Option (Nat × (Int → Int))} {d : Nat} {sh : List aj_S} {g : aj_G} {Q : aj_R → List aj_S → aj_G → Prop} {r r2 : Int} {k n s0 : Nat} {nx ou : Nat → Nat → Nat} {z : Int} {tw : Nat → Nat} {N : Nat} {q : nb_T} {mnx mou : Nat → Nat → Nat} {mi : Nat} {ix io : Nat → Nat → Nat} {w : List Nat} {v : Int} {S : List Nat → Prop} {fp hd hp : Int} (hI : cI sh g r r2 k n s0 nx ou z tw N q mnx mou mi ix io w v S fp hd hp) (hal : ¬ al) {s t : Int} (x1 : aj_I s) (x2 : aj_I t) (hbad : ((0 ≤ s ∧ s < (n : Int)) ∧ (0 ≤ t ∧ t < (n : Int))) → z = 0) (hk1 : ¬ ((0 ≤ s ∧ s < (n : Int)) ∧ (0 ≤ t ∧ t < (n : Int))) → Q (.inr 0) sh g) (hk2 : ((0 ≤ s ∧ s < (n : Int)) ∧ (0 ≤ t ∧ t < (n : Int))) → z = 0 → Q (.inr 1) sh g) : aj_wp nE al al X m_Bench_apart (d + 6) 1 6 0 [some (1, 0), some (0, s), some (0, t)] [] sh g Q := by
  have hI0 := hI
  obtain ⟨hb, ⟨n9, ns0, n10, nz, n11, nfp, n12, nhd, n13⟩, ⟨hm1, hn1, hn8, hk3⟩, hO, hW, hU, hS, hT⟩ := hI
  have hr := bnO_r hb
  refine aj_aload_n 0 1 (dx d_Bench_apart 0 rfl) rfl rfl rfl ?_
  refine aj_getfv (v := 1) 4 fl_Bench_23 (dx d_Bench_apart 1 rfl) rfl hb.1 (by first | exact (bf_specification hb) | ((repeat (first | rw [aj_up_ne _ _ _ (by omega)] | rw [aj_up_ni _ _ _ (by omega)])); exact (bf_specification hb))) ?_
  refine aj_iload_n 1 5 (dx d_Bench_apart 2 rfl) rfl rfl rfl ?_
  refine aj_callV1 (bc1 := 0) (bc2 := 1) (bs1 := 0) (bs2 := 6) 8 cl_Bench_110 (dx d_Bench_apart 3 rfl) rfl rfl rfl rfl rfl rfl hm1.1.1 (k_Machine_hasState hm1.1.1 x1 (by rw [hm1.2.2.1]; unfold aj_I; omega) ?_)
  change aj_wp _ _ _ _ _ _ _ _ _ _ _ _ _ _
  refine aj_if_eq 22 11 (dx d_Bench_apart 4 rfl) rfl rfl if_I (fun h8 => ?_) (fun h8 => ?_)
  · have hc := if_e0 h8
    rw [hm1.2.2.1] at hc
    refine aj_throw th_IAE (dx d_Bench_apart 10 rfl) (dx d_Bench_apart 11 rfl) (dx d_Bench_apart 12 rfl) (dx d_Bench_apart 13 rfl) rfl hal (by omega) (by omega) (by omega) ?_
    exact hk1 (by omega)
  · have hc := if_n0 h8
    rw [hm1.2.2.1] at hc
    refine aj_aload_n 0 12 (dx d_Bench_apart 5 rfl) rfl rfl rfl ?_
    refine aj_getfv (v := 1) 15 fl_Bench_23 (dx d_Bench_apart 6 rfl) rfl hb.1 (by first | exact (bf_specification hb) | ((repeat (first | rw [aj_up_ne _ _ _ (by omega)] | rw [aj_up_ni _ _ _ (by omega)])); exact (bf_specification hb))) ?_
    refine aj_iload_n 2 16 (dx d_Bench_apart 7 rfl) rfl rfl rfl ?_
    refine aj_callV1 (bc1 := 0) (bc2 := 1) (bs1 := 0) (bs2 := 6) 19 cl_Bench_110 (dx d_Bench_apart 8 rfl) rfl rfl rfl rfl rfl rfl hm1.1.1 (k_Machine_hasState hm1.1.1 x2 (by rw [hm1.2.2.1]; unfold aj_I; omega) ?_)
    change aj_wp _ _ _ _ _ _ _ _ _ _ _ _ _ _
    refine aj_if_ne 30 22 (dx d_Bench_apart 9 rfl) rfl rfl if_I (fun h19 => ?_) (fun h19 => ?_)
    · have hc2 := if_n0 h19
      rw [hm1.2.2.1] at hc2
      refine aj_aload_n 0 31 (dx d_Bench_apart 14 rfl) rfl rfl rfl ?_
      refine aj_getfv (v := z) 34 fl_Bench_83 (dx d_Bench_apart 15 rfl) rfl hb.1 (by first | exact n10 | ((repeat (first | rw [aj_up_ne _ _ _ (by omega)] | rw [aj_up_ni _ _ _ (by omega)])); exact n10)) ?_
      refine aj_if_ne 45 37 (dx d_Bench_apart 16 rfl) rfl rfl (by unfold aj_I; omega) (fun h34 => ?_) (fun h34 => ?_)
      · exact absurd (hbad (by omega)) (by omega)
      · refine aj_throw th_ISE (dx d_Bench_apart 17 rfl) (dx d_Bench_apart 18 rfl) (dx d_Bench_apart 19 rfl) (dx d_Bench_apart 20 rfl) rfl hal (by omega) (by omega) (by omega) ?_
        exact hk2 (by omega) (by omega)
    · have hc2 := if_e0 h19
      rw [hm1.2.2.1] at hc2
      refine aj_throw th_IAE (dx d_Bench_apart 10 rfl) (dx d_Bench_apart 11 rfl) (dx d_Bench_apart 12 rfl) (dx d_Bench_apart 13 rfl) rfl hal (by omega) (by omega) (by omega) ?_
      exact hk1 (by omega)
set_option maxHeartbeats 4000000 in
theorem k_Bench_same {al : Prop} {X : Option (Nat × (Int → Int))} {d : Nat} {sh : List aj_S} {g : aj_G} {Q : aj_R → List aj_S → aj_G → Prop} {r r2 : Int} {k n s0 : Nat} {nx ou : Nat → Nat → Nat} {z : Int} {tw : Nat → Nat} {N : Nat} {q : nb_T} {mnx mou : Nat → Nat → Nat} {mi : Nat} {ix io : Nat → Nat → Nat} {w : List Nat} {v : Int} {S : List Nat → Prop} {fp hd hp : Int} (hI : cI sh g r r2 k n s0 nx ou z tw N q mnx mou mi ix io w v S fp hd hp)  (hal : ¬ al) (hz : z = 1) (hk : ∀ (g1 : aj_G) (u : List Nat), fr78 g g1 → (wd_least k ix io 0 mnx mou 0 u ∨ (wd_none k ix io 0 mnx mou 0 ∧ u = [])) → cI sh g1 r r2 k n s0 nx ou z tw N q mnx mou mi ix io (u) v S fp hd hp → Q (.inl (some (0, (u.length : Int)))) sh g1) : aj_wp nE al al X m_Bench_same (d + 6) 0 0 0 [some (1, 0)] [] sh g Q := by
  have hI0 := hI
  obtain ⟨hb, ⟨n9, ns0, n10, nz, n11, nfp, n12, nhd, n13⟩, ⟨hm1, hn1, hn8, hk3⟩, hO, hW, hU, hS, hT⟩ := hI
  have hr := bnO_r hb
  have hs1 := hS hz
  refine aj_aload_n 0 1 (dx d_Bench_same 0 rfl) rfl rfl rfl ?_
  refine aj_getfv (v := z) 4 fl_Bench_83 (dx d_Bench_same 1 rfl) rfl hb.1 (by first | exact n10 | ((repeat (first | rw [aj_up_ne _ _ _ (by omega)] | rw [aj_up_ni _ _ _ (by omega)])); exact n10)) ?_
  refine aj_if_ne 15 7 (dx d_Bench_same 2 rfl) rfl rfl (by unfold aj_I; omega) (fun h4 => ?_) (fun h4 => ?_)
  · refine aj_aload_n 0 16 (dx d_Bench_same 7 rfl) rfl rfl rfl ?_
    refine aj_getfv (v := 44) 19 fl_Bench_49 (dx d_Bench_same 8 rfl) rfl hb.1 (by first | exact (bf_search hb) | ((repeat (first | rw [aj_up_ne _ _ _ (by omega)] | rw [aj_up_ni _ _ _ (by omega)])); exact (bf_search hb))) ?_
    refine aj_aload_n 0 20 (dx d_Bench_same 9 rfl) rfl rfl rfl ?_
    refine aj_getfv (v := 41) 23 fl_Bench_43 (dx d_Bench_same 10 rfl) rfl hb.1 (by first | exact (bf_implementation hb) | ((repeat (first | rw [aj_up_ne _ _ _ (by omega)] | rw [aj_up_ni _ _ _ (by omega)])); exact (bf_implementation hb))) ?_
    refine aj_iconst 24 (dx d_Bench_same 11 rfl) rfl ?_
    refine aj_aload_n 0 25 (dx d_Bench_same 12 rfl) rfl rfl rfl ?_
    refine aj_getfv (v := 4) 28 fl_Bench_32 (dx d_Bench_same 13 rfl) rfl hb.1 (by first | exact (bf_reduction hb) | ((repeat (first | rw [aj_up_ne _ _ _ (by omega)] | rw [aj_up_ni _ _ _ (by omega)])); exact (bf_reduction hb))) ?_
    refine aj_getfv (v := 10) 31 fl_Bench_118 (dx d_Bench_same 14 rfl) rfl hO.1.1 (by first | exact hO.1.2.1.1 | ((repeat (first | rw [aj_up_ne _ _ _ (by omega)] | rw [aj_up_ni _ _ _ (by omega)])); exact hO.1.2.1.1)) ?_
    refine aj_iconst 32 (dx d_Bench_same 15 rfl) rfl ?_
    refine aj_callV4 35 cl_Bench_136 (dx d_Bench_same 16 rfl) rfl rfl rfl rfl rfl rfl hO.2.2.2.2.2.2.1.1 (k_Search_find (s := 0) (t := 0) hO.2.2.2.2.2.2.1 hs1.2.2.2.2.1 hs1.2.1.1 (by omega) (by omega) hs1.2.2.2.2.2 hs1.2.1.2.2.1 (fun g1 w1 hF hl hw100 hwat => ?_) (fun g1 hF hno h1 => ?_))
    · change aj_wp _ _ _ _ _ _ _ _ _ _ _ _ _ _
      obtain ⟨u, hu, huok, hul, hres⟩ : ∃ u : List Nat, wat g1 45 u ∧ wd_ok k u ∧ u.length ≤ 100 ∧ (wd_least k ix io 0 mnx mou 0 u ∨ (wd_none k ix io 0 mnx mou 0 ∧ u = [])) := ⟨w1, hwat, hl.1, hw100, Or.inl hl⟩
      have hp1 : pss sh g1 44 := pss_of hO.2.2.2.2.2.2.1 hF.2.1 (hF.2.2 0 (by omega))
      have hb1 : bnO sh g1 r r2 := bnO_of hb (fun j _ => by rw [hF.1 0 (by omega)])
      have hw1 : wds sh g1 56 := wds_of hW.1 (by rw [hF.1 56 (by omega)])
      have hw45 : wds sh g1 45 := ⟨hp1.2.2.1.1, hp1.2.2.1.2.1, hp1.2.2.1.2.2⟩
      refine aj_pop 36 (dx d_Bench_same 17 rfl) rfl rfl ?_
      refine aj_aload_n 0 37 (dx d_Bench_same 18 rfl) rfl rfl rfl ?_
      refine aj_getfv (v := 56) 40 fl_Bench_63 (dx d_Bench_same 19 rfl) rfl hb1.1 (by first | exact (bf_word hb1) | ((repeat (first | rw [aj_up_ne _ _ _ (by omega)] | rw [aj_up_ni _ _ _ (by omega)])); exact (bf_word hb1))) ?_
      refine aj_aload_n 0 41 (dx d_Bench_same 20 rfl) rfl rfl rfl ?_
      refine aj_getfv (v := 44) 44 fl_Bench_49 (dx d_Bench_same 21 rfl) rfl hb1.1 (by first | exact (bf_search hb1) | ((repeat (first | rw [aj_up_ne _ _ _ (by omega)] | rw [aj_up_ni _ _ _ (by omega)])); exact (bf_search hb1))) ?_
      refine aj_getfv (v := 45) 47 fl_Bench_140 (dx d_Bench_same 22 rfl) rfl hp1.1 hp1.2.1.1 ?_
      refine aj_callV1 50 cl_Bench_143 (dx d_Bench_same 23 rfl) rfl rfl rfl rfl rfl rfl hw1.1 (k_Word_copy hal hw1 hw45 (by omega) (by rw [hu.1]; omega) (by rw [hu.1]; omega) ?_)
      change aj_wp _ _ _ _ _ _ _ _ _ _ _ _ _ _
      have hfr : ∀ r', r' < 44 ∨ (52 < r' ∧ r' < 56) ∨ 57 < r' → (aj_cpy (aj_up g1 56 1 (g1 45 1)) (45 + 1) (56 + 1) 0 0 (g1 45 1)) r' = g r' := fun r' h => by
        rw [aj_cpy_app, if_neg (by omega), aj_up_ne _ _ _ (by omega)]
        exact hF.1 r' (by omega)
      have h44 : ∀ r', r' < 56 → (aj_cpy (aj_up g1 56 1 (g1 45 1)) (45 + 1) (56 + 1) 0 0 (g1 45 1)) r' = g1 r' := fun r' h => by rw [aj_cpy_app, if_neg (by omega), aj_up_ne _ _ _ (by omega)]
      have hwa : wat (aj_cpy (aj_up g1 56 1 (g1 45 1)) (45 + 1) (56 + 1) 0 0 (g1 45 1)) 56 u := wat_cpy hu (by omega) (by omega) (by omega) (by omega)
      have hlen2 : (aj_cpy (aj_up g1 56 1 (g1 45 1)) (45 + 1) (56 + 1) 0 0 (g1 45 1)) 56 1 = (u.length : Int) := hwa.1
      have hb2 : bnO sh (aj_cpy (aj_up g1 56 1 (g1 45 1)) (45 + 1) (56 + 1) 0 0 (g1 45 1)) r r2 := bnO_of hb1 (fun j _ => by rw [h44 0 (by omega)])
      have hcw : cW sh (aj_cpy (aj_up g1 56 1 (g1 45 1)) (45 + 1) (56 + 1) 0 0 (g1 45 1)) k u := ⟨wds_of hw1 (by rw [aj_cpy_app, if_neg (by omega), aj_up_ni _ _ _ (by omega)]), hwa, huok, hul⟩
      have hci := cI_word hI0 hfr (fun j hj => by rw [h44 44 (by omega)]; exact hF.2.1 j hj) (by rw [h44 45 (by omega)]; exact hF.2.2 0 (by omega)) hcw
      refine aj_aload_n 0 51 (dx d_Bench_same 24 rfl) rfl rfl rfl ?_
      refine aj_getfv (v := 56) 54 fl_Bench_63 (dx d_Bench_same 25 rfl) rfl hb2.1 (by first | exact (bf_word hb2) | ((repeat (first | rw [aj_up_ne _ _ _ (by omega)] | rw [aj_up_ni _ _ _ (by omega)])); exact (bf_word hb2))) ?_
      refine aj_getfv (v := (u.length : Int)) 57 fl_Bench_146 (dx d_Bench_same 26 rfl) rfl hW.1.1 hlen2 ?_
      refine aj_iret (dx d_Bench_same 27 rfl) rfl id ?_
      exact hk _ u (fun r' h => hfr r' (by omega)) hres hci
    · change aj_wp _ _ _ _ _ _ _ _ _ _ _ _ _ _
      obtain ⟨u, hu, huok, hul, hres⟩ : ∃ u : List Nat, wat g1 45 u ∧ wd_ok k u ∧ u.length ≤ 100 ∧ (wd_least k ix io 0 mnx mou 0 u ∨ (wd_none k ix io 0 mnx mou 0 ∧ u = [])) := ⟨[], ⟨h1, fun j hj => absurd hj (Nat.not_lt_zero _)⟩, wd_ok_nil k, Nat.zero_le _, Or.inr ⟨hno, rfl⟩⟩
      have hp1 : pss sh g1 44 := pss_of hO.2.2.2.2.2.2.1 hF.2.1 (hF.2.2 0 (by omega))
      have hb1 : bnO sh g1 r r2 := bnO_of hb (fun j _ => by rw [hF.1 0 (by omega)])
      have hw1 : wds sh g1 56 := wds_of hW.1 (by rw [hF.1 56 (by omega)])
      have hw45 : wds sh g1 45 := ⟨hp1.2.2.1.1, hp1.2.2.1.2.1, hp1.2.2.1.2.2⟩
      refine aj_pop 36 (dx d_Bench_same 17 rfl) rfl rfl ?_
      refine aj_aload_n 0 37 (dx d_Bench_same 18 rfl) rfl rfl rfl ?_
      refine aj_getfv (v := 56) 40 fl_Bench_63 (dx d_Bench_same 19 rfl) rfl hb1.1 (by first | exact (bf_word hb1) | ((repeat (first | rw [aj_up_ne _ _ _ (by omega)] | rw [aj_up_ni _ _ _ (by omega)])); exact (bf_word hb1))) ?_
      refine aj_aload_n 0 41 (dx d_Bench_same 20 rfl) rfl rfl rfl ?_
      refine aj_getfv (v := 44) 44 fl_Bench_49 (dx d_Bench_same 21 rfl) rfl hb1.1 (by first | exact (bf_search hb1) | ((repeat (first | rw [aj_up_ne _ _ _ (by omega)] | rw [aj_up_ni _ _ _ (by omega)])); exact (bf_search hb1))) ?_
      refine aj_getfv (v := 45) 47 fl_Bench_140 (dx d_Bench_same 22 rfl) rfl hp1.1 hp1.2.1.1 ?_
      refine aj_callV1 50 cl_Bench_143 (dx d_Bench_same 23 rfl) rfl rfl rfl rfl rfl rfl hw1.1 (k_Word_copy hal hw1 hw45 (by omega) (by rw [hu.1]; omega) (by rw [hu.1]; omega) ?_)
      change aj_wp _ _ _ _ _ _ _ _ _ _ _ _ _ _
      have hfr : ∀ r', r' < 44 ∨ (52 < r' ∧ r' < 56) ∨ 57 < r' → (aj_cpy (aj_up g1 56 1 (g1 45 1)) (45 + 1) (56 + 1) 0 0 (g1 45 1)) r' = g r' := fun r' h => by
        rw [aj_cpy_app, if_neg (by omega), aj_up_ne _ _ _ (by omega)]
        exact hF.1 r' (by omega)
      have h44 : ∀ r', r' < 56 → (aj_cpy (aj_up g1 56 1 (g1 45 1)) (45 + 1) (56 + 1) 0 0 (g1 45 1)) r' = g1 r' := fun r' h => by rw [aj_cpy_app, if_neg (by omega), aj_up_ne _ _ _ (by omega)]
      have hwa : wat (aj_cpy (aj_up g1 56 1 (g1 45 1)) (45 + 1) (56 + 1) 0 0 (g1 45 1)) 56 u := wat_cpy hu (by omega) (by omega) (by omega) (by omega)
      have hlen2 : (aj_cpy (aj_up g1 56 1 (g1 45 1)) (45 + 1) (56 + 1) 0 0 (g1 45 1)) 56 1 = (u.length : Int) := hwa.1
      have hb2 : bnO sh (aj_cpy (aj_up g1 56 1 (g1 45 1)) (45 + 1) (56 + 1) 0 0 (g1 45 1)) r r2 := bnO_of hb1 (fun j _ => by rw [h44 0 (by omega)])
      have hcw : cW sh (aj_cpy (aj_up g1 56 1 (g1 45 1)) (45 + 1) (56 + 1) 0 0 (g1 45 1)) k u := ⟨wds_of hw1 (by rw [aj_cpy_app, if_neg (by omega), aj_up_ni _ _ _ (by omega)]), hwa, huok, hul⟩
      have hci := cI_word hI0 hfr (fun j hj => by rw [h44 44 (by omega)]; exact hF.2.1 j hj) (by rw [h44 45 (by omega)]; exact hF.2.2 0 (by omega)) hcw
      refine aj_aload_n 0 51 (dx d_Bench_same 24 rfl) rfl rfl rfl ?_
      refine aj_getfv (v := 56) 54 fl_Bench_63 (dx d_Bench_same 25 rfl) rfl hb2.1 (by first | exact (bf_word hb2) | ((repeat (first | rw [aj_up_ne _ _ _ (by omega)] | rw [aj_up_ni _ _ _ (by omega)])); exact (bf_word hb2))) ?_
      refine aj_getfv (v := (u.length : Int)) 57 fl_Bench_146 (dx d_Bench_same 26 rfl) rfl hW.1.1 hlen2 ?_
      refine aj_iret (dx d_Bench_same 27 rfl) rfl id ?_
      exact hk _ u (fun r' h => hfr r' (by omega)) hres hci
  · exact absurd hz (by omega)
set_option maxHeartbeats 4000000 in
theorem k_Bench_same_T {al : Prop} {X : Option (Nat × (Int → Int))} {d : Nat} {sh : List aj_S} {g : aj_G} {Q : aj_R → List aj_S → aj_G → Prop} {r r2 : Int} {k n s0 : Nat} {nx ou : Nat → Nat → Nat} {z : Int} {tw : Nat → Nat} {N : Nat} {q : nb_T} {mnx mou : Nat → Nat → Nat} {mi : Nat} {ix io : Nat → Nat → Nat} {w : List Nat} {v : Int} {S : List Nat → Prop} {fp hd hp : Int} (hI : cI sh g r r2 k n s0 nx ou z tw N q mnx mou mi ix io w v S fp hd hp) (hal : ¬ al)  (hz : z = 0) (hk1 : Q (.inr 1) sh g) : aj_wp nE al al X m_Bench_same (d + 6) 1 6 0 [some (1, 0)] [] sh g Q := by
  have hI0 := hI
  obtain ⟨hb, ⟨n9, ns0, n10, nz, n11, nfp, n12, nhd, n13⟩, ⟨hm1, hn1, hn8, hk3⟩, hO, hW, hU, hS, hT⟩ := hI
  have hr := bnO_r hb
  refine aj_aload_n 0 1 (dx d_Bench_same 0 rfl) rfl rfl rfl ?_
  refine aj_getfv (v := z) 4 fl_Bench_83 (dx d_Bench_same 1 rfl) rfl hb.1 (by first | exact n10 | ((repeat (first | rw [aj_up_ne _ _ _ (by omega)] | rw [aj_up_ni _ _ _ (by omega)])); exact n10)) ?_
  refine aj_if_ne 15 7 (dx d_Bench_same 2 rfl) rfl rfl (by unfold aj_I; omega) (fun h4 => ?_) (fun h4 => ?_)
  · exact absurd hz h4
  · refine aj_throw th_ISE (dx d_Bench_same 3 rfl) (dx d_Bench_same 4 rfl) (dx d_Bench_same 5 rfl) (dx d_Bench_same 6 rfl) rfl hal (by omega) (by omega) (by omega) ?_
    exact hk1
