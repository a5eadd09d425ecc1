/-! Bench.seal -/
theorem fm_in_I {k N : Nat} {nx ou : Nat → Nat → Nat} {lw : Nat → Nat → List Nat} (hl : ∀ i j, i < j → j < N → wd_least k nx ou i nx ou j (lw i j) ∧ (lw i j).length ≤ 100) {i : Nat} {q : fm_T} (h : fm_I k N nx ou q i (i + 1)) : ∀ m, i + 1 + m ≤ N → fm_I k N nx ou (fm_in (tl nx ou) lw i m q) i (i + 1 + m)
  | 0, _ => h
  | m + 1, hm => by
    have ih := fm_in_I hl h m (by omega)
    show fm_I k N nx ou (fm_st (tl nx ou) lw i (i + 1 + m) (fm_in (tl nx ou) lw i m q)) i (i + 1 + m + 1)
    by_cases c : ∃ w, w < (fm_in (tl nx ou) lw i m q).1 ∧ tl nx ou i (i + 1 + m) ((fm_in (tl nx ou) lw i m q).2 w)
    · obtain ⟨w, w1, w2⟩ := c
      obtain ⟨e, e2⟩ := fm_I_old (lw := lw) ih w1 w2
      rw [e]; exact e2
    · obtain ⟨l1, l2⟩ := hl i (i + 1 + m) (by omega) (by omega)
      obtain ⟨e, e2⟩ := fm_I_new (lw := lw) ih (by omega) (by omega) (fun w w1 w2 => c ⟨w, w1, w2⟩) l1 l2
      rw [e]; exact e2
theorem fm_out_I {k N : Nat} {nx ou : Nat → Nat → Nat} {lw : Nat → Nat → List Nat} (hl : ∀ i j, i < j → j < N → wd_least k nx ou i nx ou j (lw i j) ∧ (lw i j).length ≤ 100) : ∀ i, i ≤ N → fm_I k N nx ou (fm_out (tl nx ou) lw N i) i (i + 1)
  | 0, _ => ⟨fun w hw => absurd hw (Nat.not_lt_zero _), fun a b h1 h2 h3 => by omega⟩
  | i + 1, hi => by
    have h := fm_in_I hl (fm_out_I hl i (by omega)) (N - 1 - i) (by omega)
    rw [show i + 1 + (N - 1 - i) = N by omega] at h
    exact fm_I_row h
section RD
variable {sh : List aj_S} {g : aj_G} {k n s0 : Nat} {nx ou mnx mou : Nat → Nat → Nat} {tw : Nat → Nat} {N : Nat} {q : nb_T}
theorem rd_mm (hP : rd_P g k n s0 nx ou tw N q) (hm : mcs sh g 10 (8 * k)) (h0 : g 10 0 = k) (hk3 : k = 1 ∨ k = 2 ∨ k = 3) (hn8 : n ≤ 8) (hou : ∀ s i, s < n → i < k → ou s i < 4) : ∃ mnx mou : Nat → Nat → Nat, mcm sh g 10 (8 * k) k N mnx mou ∧ smm k n nx ou tw N q mnx mou ∧ (0 < N ∧ N ≤ 8) := by
  obtain ⟨p1, p2, p3, p4, p5, p6, p7, p8⟩ := hP
  have hNn := nb_le p4
  have hN0 := p4.1
  have hx : ∀ a i : Nat, a < N → i < k → (g 11 ((a : Int) * k + i)).toNat < N ∧ q.2.1 (g 11 ((a : Int) * k + i)).toNat = tw (nx (q.2.1 a) i) ∧ (g 12 ((a : Int) * k + i)).toNat = ou (q.2.1 a) i ∧ g 11 ((a : Int) * k + i) = ((g 11 ((a : Int) * k + i)).toNat : Nat) ∧ g 12 ((a : Int) * k + i) = ((g 12 ((a : Int) * k + i)).toNat : Nat) := fun a i ha hi => by
    obtain ⟨b, b1, b2, b3, b4⟩ := p7 a i hi ha
    rw [b3, b4, Int.toNat_natCast, Int.toNat_natCast]
    exact ⟨b1, b2, rfl, rfl, rfl⟩
  refine ⟨fun a i => (g 11 ((a : Int) * k + i)).toNat, fun a i => (g 12 ((a : Int) * k + i)).toNat, ⟨hm, h0, p5, ?_, by omega, by omega, fun a i ha hi => ?_⟩, fun a i ha hi => ?_, by omega, by omega⟩
  · rcases hk3 with rfl | rfl | rfl <;> push_cast <;> omega
  · obtain ⟨x1, x2, x3, x4, x5⟩ := hx a i ha hi
    exact ⟨x4, x5, x1, by show (g 12 ((a : Int) * k + i)).toNat < 4; rw [x3]; exact hou _ i (p4.2.2.1 a (by omega)).1 hi⟩
  · obtain ⟨x1, x2, x3, -, -⟩ := hx a i ha hi
    exact ⟨x1, x2, x3⟩
theorem rd_no (hP : rd_P g k n s0 nx ou tw N q) (hcl : ∀ s i, s < n → i < k → nx s i < n) (hsm : smm k n nx ou tw N q mnx mou) {a : Nat} (ha : a < N) : wd_none k mnx mou a nx ou (q.2.1 a) := by
  obtain ⟨p1, p2, p3, p4, p5, p6, p7, p8⟩ := hP
  refine mm_none (mb := q.2.1) (N := N) (fun b i hb hi => ?_) (fun b i hb hi => (hsm b i hb hi).2.2) ha
  obtain ⟨x1, x2, -⟩ := hsm b i hb hi
  refine ⟨x1, ?_⟩
  rw [x2]
  exact al_symm (p1 _ (hcl _ i (p4.2.2.1 b (by omega)).1 hi)).2.1
theorem rd_dist (hP : rd_P g k n s0 nx ou tw N q) (hcl : ∀ s i, s < n → i < k → nx s i < n) (hsm : smm k n nx ou tw N q mnx mou) : ∀ a b, a < N → b < N → a ≠ b → ¬ wd_none k mnx mou a mnx mou b := fun a b ha hb hab h => by
  have h1 := (xa_none (rd_no hP hcl hsm ha) (rd_no hP hcl hsm hb)).mp h
  obtain ⟨p1, p2, p3, p4, p5, p6, p7, p8⟩ := hP
  obtain ⟨a1, a2⟩ := p4.2.2.1 a (by omega)
  obtain ⟨b1, b2⟩ := p4.2.2.1 b (by omega)
  have h2 := (tw_eq p1 a1 b1).mpr h1
  rw [a2, b2] at h2
  exact hab (p4.2.2.2.1 a b (by omega) (by omega) h2)
theorem lwd_ok (hk4 : k ≤ 4) (hN : 0 < N) (hN8 : N ≤ 8) (hmc : ∀ s i, s < N → i < k → mnx s i < N) (hd : ∀ a b, a < N → b < N → a ≠ b → ¬ wd_none k mnx mou a mnx mou b) : ∀ i j, i < j → j < N → wd_least k mnx mou i mnx mou j (lwd k mnx mou i j) ∧ (lwd k mnx mou i j).length ≤ 100 := fun i j hij hj => by
  obtain ⟨v, hv⟩ := Classical.not_forall.mp (hd i j (by omega) hj (by omega))
  obtain ⟨hv1, hv2⟩ := Classical.not_imp.mp hv
  obtain ⟨w, hw⟩ := least_ex hv1 (Classical.not_not.mp hv2)
  rw [lwd_eq hk4 hw]
  have := mo_len hk4 hN hmc (by omega) hj hw
  exact ⟨hw, by omega⟩
end RD
theorem mcm_cpy {sh : List aj_S} {g : aj_G} {L L2 k n b : Nat} {nx ou : Nat → Nat → Nat} (hm : mcm sh g 10 L k n nx ou) (hm2 : mcs sh g 41 L2) (h0 : g 41 0 = k) (hL : (n : Int) * k ≤ L2) : mcm sh (aj_cpy (aj_cpy (aj_up g 41 3 (g 10 3)) (10 + 1) (41 + 1) 0 0 (g 10 3 * g 41 0)) (10 + 2) (41 + 2) 0 0 (g 10 3 * g 41 0)) 41 L2 k n nx ou := by
  obtain ⟨c1, c2, c3, c4, c5, c6, c7⟩ := hm
  have e41 : ∀ j, aj_cpy (aj_cpy (aj_up g 41 3 (g 10 3)) (10 + 1) (41 + 1) 0 0 (g 10 3 * g 41 0)) (10 + 2) (41 + 2) 0 0 (g 10 3 * g 41 0) 41 j = aj_up g 41 3 (g 10 3) 41 j := fun j => by
    rw [aj_cpy_app, if_neg (by omega), aj_cpy_app, if_neg (by omega)]
  refine ⟨⟨hm2.1, by rw [e41, aj_up_ni _ _ _ (by omega)]; exact hm2.2.1, by rw [e41, aj_up_ni _ _ _ (by omega)]; exact hm2.2.2.1, hm2.2.2.2⟩, by rw [e41, aj_up_ni _ _ _ (by omega)]; exact h0, by rw [e41, aj_up_self]; exact c3, hL, c5, c6, fun x i hx hi => ?_⟩
  obtain ⟨d1, d2, d3, d4⟩ := c7 x i hx hi
  have h1 : (x : Int) * k + i < (n : Int) * k := ix_in c5 (by omega) (by omega)
  have h2 : 0 ≤ (x : Int) * k + i := ix_0 c5 (by omega) (by omega)
  have hz : ∀ y : Int, 0 + (y - 0) = y := fun y => by omega
  refine ⟨?_, ?_, d3, d4⟩
  · rw [aj_cpy_app, if_neg (by omega), aj_cpy_app, if_pos rfl]
    show (if (0 : Int) ≤ (x : Int) * k + i ∧ (x : Int) * k + i < 0 + g 10 3 * g 41 0 then _ else _) = _
    rw [if_pos (by rw [c3, h0]; omega), hz, aj_up_ne _ _ _ (by omega)]
    exact d1
  · rw [aj_cpy_app, if_pos rfl]
    show (if (0 : Int) ≤ (x : Int) * k + i ∧ (x : Int) * k + i < 0 + g 10 3 * g 41 0 then _ else _) = _
    rw [if_pos (by rw [c3, h0]; omega), hz, aj_cpy_app, if_neg (by omega), aj_up_ne _ _ _ (by omega)]
    exact d2
set_option maxHeartbeats 16000000 in
theorem k_Bench_seal {al : Prop} {X : Option (Nat × (Int → Int))} {d : Nat} {sh : List aj_S} {g : aj_G} {Q : aj_R → List aj_S → aj_G → Prop} {r r2 : Int} {k n s0 : Nat} {nx ou : Nat → Nat → Nat} {z : Int} {tw : Nat → Nat} {N : Nat} {q : nb_T} {mnx mou : Nat → Nat → Nat} {mi : Nat} {ix io : Nat → Nat → Nat} {w : List Nat} {v : Int} {S : List Nat → Prop} {fp hd hp : Int} (hI : cI sh g r r2 k n s0 nx ou z tw N q mnx mou mi ix io w v S fp hd hp) (hal : ¬ al) (hz : z = 0) (hk : ∀ (g1 : aj_G) (tw1 : Nat → Nat) (N1 : Nat) (q1 : nb_T) (mnx1 mou1 : Nat → Nat → Nat), fr78 g g1 → cI sh g1 r r2 k n s0 nx ou (1) (tw1) (N1) (q1) (mnx1) (mou1) (N1) (mnx1) (mou1) w v S fp hd hp → Q (.inl (some (0, (N1 : Int)))) sh g1) : aj_wp nE al al X m_Bench_seal (d + 6) 0 0 0 [some (1, 0)] [] sh g Q := by
  have hI0 := hI
  obtain ⟨hb, ⟨n9, ns0, n10, nz, n11, nfp, n12, nhd, n13⟩, ⟨hm1, hn1, hn8, hk3⟩, hO, hW, hU, hS, hT⟩ := hI
  have hr := bnO_r hb
  have hu := hU hz
  have hcl : ∀ s i, s < n → i < k → nx s i < n := fun s i h1 h2 => (hm1.2.2.2.2.2.2 s i h1 h2).2.2.1
  refine aj_aload_n 0 1 (dx d_Bench_seal 0 rfl) rfl rfl rfl ?_
  refine aj_getfv (v := z) 4 fl_Bench_83 (dx d_Bench_seal 1 rfl) rfl hb.1 (by first | exact n10 | ((repeat (first | rw [aj_up_ne _ _ _ (by omega)] | rw [aj_up_ni _ _ _ (by omega)])); exact n10)) ?_
  refine aj_if_eq 15 7 (dx d_Bench_seal 2 rfl) rfl rfl (by unfold aj_I; omega) (fun h4 => ?_) (fun h4 => ?_)
  · refine aj_aload_n 0 16 (dx d_Bench_seal 7 rfl) rfl rfl rfl ?_
    refine aj_getfv (v := 4) 19 fl_Bench_32 (dx d_Bench_seal 8 rfl) rfl hb.1 (by first | exact (bf_reduction hb) | ((repeat (first | rw [aj_up_ne _ _ _ (by omega)] | rw [aj_up_ni _ _ _ (by omega)])); exact (bf_reduction hb))) ?_
    refine aj_aload_n 0 20 (dx d_Bench_seal 9 rfl) rfl rfl rfl ?_
    refine aj_getfv (v := 1) 23 fl_Bench_23 (dx d_Bench_seal 10 rfl) rfl hb.1 (by first | exact (bf_specification hb) | ((repeat (first | rw [aj_up_ne _ _ _ (by omega)] | rw [aj_up_ni _ _ _ (by omega)])); exact (bf_specification hb))) ?_
    refine aj_aload_n 0 24 (dx d_Bench_seal 11 rfl) rfl rfl rfl ?_
    refine aj_getfv (v := (s0 : Int)) 27 fl_Bench_79 (dx d_Bench_seal 12 rfl) rfl hb.1 (by first | exact n9 | ((repeat (first | rw [aj_up_ne _ _ _ (by omega)] | rw [aj_up_ni _ _ _ (by omega)])); exact n9)) ?_
    refine aj_aload_n 0 28 (dx d_Bench_seal 13 rfl) rfl rfl rfl ?_
    refine aj_getfv (v := 44) 31 fl_Bench_49 (dx d_Bench_seal 14 rfl) rfl hb.1 (by first | exact (bf_search hb) | ((repeat (first | rw [aj_up_ne _ _ _ (by omega)] | rw [aj_up_ni _ _ _ (by omega)])); exact (bf_search hb))) ?_
    refine aj_callV3 34 cl_Bench_114 (dx d_Bench_seal 15 rfl) rfl rfl rfl rfl rfl rfl hO.1.1 (k_Reduction_reduce hO.1 hm1 hO.2.1 hO.2.2.1 (Nat.le_refl _) hn8 hO.2.2.2.2.2.2.1 ns0 hu.1 (fun g1 tw1 N1 q1 hF hP => ?_))
    · change aj_wp _ _ _ _ _ _ _ _ _ _ _ _ _ _
      have hb1 : bnO sh g1 r r2 := bnO_of hb (fun j _ => by rw [hF.1 0 (by omega)])
      have hO1 : cO sh g1 k := cO_of hO (hF.1 _ (by omega)) hF.2.1 (fun j _ => by rw [hF.1 13 (by omega)]) (hF.1 _ (by omega)) (hF.1 _ (by omega)) (fun w hw => by rw [hF.1 _ (by omega)]) (fun j _ => by rw [hF.1 41 (by omega)]) hF.2.2.1 (hF.2.2.2 0 (by omega)) (hF.1 _ (by omega)) (fun j _ => by rw [hF.1 58 (by omega)]) (fun j _ => by rw [hF.1 68 (by omega)])
      obtain ⟨mnx1, mou1, hmm, hsm, hN0, hN8⟩ := rd_mm hP hO1.2.1 hO1.2.2.1 hk3 hn8 (fun s i h1 h2 => (hm1.2.2.2.2.2.2 s i h1 h2).2.2.2)
      have hdist := rd_dist hP hcl hsm
      have hmc : ∀ s i, s < N1 → i < k → mnx1 s i < N1 := fun s i h1 h2 => (hsm s i h1 h2).1
      refine aj_aload_n 0 35 (dx d_Bench_seal 16 rfl) rfl rfl rfl ?_
      refine aj_getfv (v := 13) 38 fl_Bench_39 (dx d_Bench_seal 17 rfl) rfl hb1.1 (by first | exact (bf_family hb1) | ((repeat (first | rw [aj_up_ne _ _ _ (by omega)] | rw [aj_up_ni _ _ _ (by omega)])); exact (bf_family hb1))) ?_
      refine aj_aload_n 0 39 (dx d_Bench_seal 18 rfl) rfl rfl rfl ?_
      refine aj_getfv (v := 4) 42 fl_Bench_32 (dx d_Bench_seal 19 rfl) rfl hb1.1 (by first | exact (bf_reduction hb1) | ((repeat (first | rw [aj_up_ne _ _ _ (by omega)] | rw [aj_up_ni _ _ _ (by omega)])); exact (bf_reduction hb1))) ?_
      refine aj_getfv (v := 10) 45 fl_Bench_118 (dx d_Bench_seal 20 rfl) rfl hO1.1.1 hO1.1.2.1.1 ?_
      refine aj_aload_n 0 46 (dx d_Bench_seal 21 rfl) rfl rfl rfl ?_
      refine aj_getfv (v := 44) 49 fl_Bench_49 (dx d_Bench_seal 22 rfl) rfl hb1.1 (by first | exact (bf_search hb1) | ((repeat (first | rw [aj_up_ne _ _ _ (by omega)] | rw [aj_up_ni _ _ _ (by omega)])); exact (bf_search hb1))) ?_
      refine aj_callV2 52 cl_Bench_121 (dx d_Bench_seal 23 rfl) rfl rfl rfl rfl rfl rfl hO1.2.2.2.1.1 (k_Family_choose hal hO1.2.2.2.1 hmm hN8 hN0 hO1.2.2.2.2.2.2.1 hdist (fun g2 hF2 hfam hoat => ?_) (fun a ha => by rw [hF.1 24 (by omega)]; exact hu.2.2.1 a ha) (by rw [hF.1 13 (by omega)]; exact hu.2.1))
      · change aj_wp _ _ _ _ _ _ _ _ _ _ _ _ _ _
        have hb2 : bnO sh g2 r r2 := bnO_of hb1 (fun j _ => by rw [hF2.1 0 (by omega)])
        have hO2 : cO sh g2 k := cO_of hO1 (hF2.1 _ (by omega)) (fun j _ => by rw [hF2.1 10 (by omega)]) hF2.2.1 (hF2.1 _ (by omega)) (hF2.1 _ (by omega)) hF2.2.2.1 (fun j _ => by rw [hF2.1 41 (by omega)]) hF2.2.2.2.1 (hF2.2.2.2.2 0 (by omega)) (hF2.1 _ (by omega)) (fun j _ => by rw [hF2.1 58 (by omega)]) (fun j _ => by rw [hF2.1 68 (by omega)])
        have hm2 : mcm sh g2 10 (8 * k) k N1 mnx1 mou1 := mcm_of hmm (hF2.1 _ (by omega)) (hF2.1 _ (by omega)) (hF2.1 _ (by omega))
        have hNk : (N1 : Int) * k ≤ ((10 * k : Nat) : Int) ∧ (N1 : Int) * k ≤ ((8 * k : Nat) : Int) ∧ 0 ≤ (N1 : Int) * k := by rcases hk3 with rfl | rfl | rfl <;> push_cast <;> omega
        have hq0 : g2 10 3 * g2 41 0 = (N1 : Int) * k := by rw [hm2.2.2.1, hO2.2.2.2.2.2.1]
        refine aj_aload_n 0 53 (dx d_Bench_seal 24 rfl) rfl rfl rfl ?_
        refine aj_getfv (v := 41) 56 fl_Bench_43 (dx d_Bench_seal 25 rfl) rfl hb2.1 (by first | exact (bf_implementation hb2) | ((repeat (first | rw [aj_up_ne _ _ _ (by omega)] | rw [aj_up_ni _ _ _ (by omega)])); exact (bf_implementation hb2))) ?_
        refine aj_aload_n 0 57 (dx d_Bench_seal 26 rfl) rfl rfl rfl ?_
        refine aj_getfv (v := 4) 60 fl_Bench_32 (dx d_Bench_seal 27 rfl) rfl hb2.1 (by first | exact (bf_reduction hb2) | ((repeat (first | rw [aj_up_ne _ _ _ (by omega)] | rw [aj_up_ni _ _ _ (by omega)])); exact (bf_reduction hb2))) ?_
        refine aj_getfv (v := 10) 63 fl_Bench_118 (dx d_Bench_seal 28 rfl) rfl hO2.1.1 hO2.1.2.1.1 ?_
        refine aj_callV1 66 cl_Bench_125 (dx d_Bench_seal 29 rfl) rfl rfl rfl rfl rfl rfl hO2.2.2.2.2.1.1 (k_Machine_copy hal hO2.2.2.2.2.1 hm2.1 (by omega) (by omega) (by omega) (by rw [hq0]; exact hNk.2.2) (by rw [hq0]; exact hNk.1) (by rw [hq0]; exact hNk.2.1) ?_)
        · change aj_wp _ _ _ _ _ _ _ _ _ _ _ _ _ _
          have e3 : ∀ r', r' ≠ 41 → r' ≠ 42 → r' ≠ 43 → (aj_cpy (aj_cpy (aj_up g2 41 3 (g2 10 3)) (10 + 1) (41 + 1) 0 0 (g2 10 3 * g2 41 0)) (10 + 2) (41 + 2) 0 0 (g2 10 3 * g2 41 0)) r' = g2 r' := fun r' h1 h2 h3 => by rw [aj_cpy_app, if_neg (by omega), aj_cpy_app, if_neg (by omega), aj_up_ne _ _ _ h1]
          have e41 : ∀ j, j ≠ 3 → (aj_cpy (aj_cpy (aj_up g2 41 3 (g2 10 3)) (10 + 1) (41 + 1) 0 0 (g2 10 3 * g2 41 0)) (10 + 2) (41 + 2) 0 0 (g2 10 3 * g2 41 0)) 41 j = g2 41 j := fun j hj => by rw [aj_cpy_app, if_neg (by omega), aj_cpy_app, if_neg (by omega), aj_up_ni _ _ _ hj]
          have hb3 : bnO sh (aj_cpy (aj_cpy (aj_up g2 41 3 (g2 10 3)) (10 + 1) (41 + 1) 0 0 (g2 10 3 * g2 41 0)) (10 + 2) (41 + 2) 0 0 (g2 10 3 * g2 41 0)) r r2 := bnO_of hb2 (fun j _ => by rw [e3 0 (by omega) (by omega) (by omega)])
          refine aj_aload_n 0 67 (dx d_Bench_seal 30 rfl) rfl rfl rfl ?_
          refine aj_iconst 68 (dx d_Bench_seal 31 rfl) rfl ?_
          refine aj_putf 71 (pl_Bench_83 _) (dx d_Bench_seal 32 rfl) rfl hb3.1 (aj_fitZ (by omega)) ?_
          have e4 : ∀ r', r' ≠ 0 → r' ≠ 41 → r' ≠ 42 → r' ≠ 43 → (aj_up (aj_cpy (aj_cpy (aj_up g2 41 3 (g2 10 3)) (10 + 1) (41 + 1) 0 0 (g2 10 3 * g2 41 0)) (10 + 2) (41 + 2) 0 0 (g2 10 3 * g2 41 0)) 0 10 1) r' = g2 r' := fun r' h0 h1 h2 h3 => by rw [aj_up_ne _ _ _ h0]; exact e3 r' h1 h2 h3
          have e0 : ∀ j, j ≠ 10 → (aj_up (aj_cpy (aj_cpy (aj_up g2 41 3 (g2 10 3)) (10 + 1) (41 + 1) 0 0 (g2 10 3 * g2 41 0)) (10 + 2) (41 + 2) 0 0 (g2 10 3 * g2 41 0)) 0 10 1) 0 j = g 0 j := fun j hj => by rw [aj_up_ni _ _ _ hj, e3 0 (by omega) (by omega) (by omega), hF2.1 0 (by omega), hF.1 0 (by omega)]
          have hO4 : cO sh (aj_up (aj_cpy (aj_cpy (aj_up g2 41 3 (g2 10 3)) (10 + 1) (41 + 1) 0 0 (g2 10 3 * g2 41 0)) (10 + 2) (41 + 2) 0 0 (g2 10 3 * g2 41 0)) 0 10 1) k := cO_of hO2 (e4 _ (by omega) (by omega) (by omega) (by omega)) (fun j _ => by rw [e4 10 (by omega) (by omega) (by omega) (by omega)]) (fun j _ => by rw [e4 13 (by omega) (by omega) (by omega) (by omega)]) (e4 _ (by omega) (by omega) (by omega) (by omega)) (e4 _ (by omega) (by omega) (by omega) (by omega)) (fun w hw => by rw [e4 _ (by omega) (by omega) (by omega) (by omega)]) (fun j hj => by rw [aj_up_ne _ _ _ (by omega)]; exact e41 j hj) (fun j _ => by rw [e4 44 (by omega) (by omega) (by omega) (by omega)]) (by rw [e4 45 (by omega) (by omega) (by omega) (by omega)]) (e4 _ (by omega) (by omega) (by omega) (by omega)) (fun j _ => by rw [e4 58 (by omega) (by omega) (by omega) (by omega)]) (fun j _ => by rw [e4 68 (by omega) (by omega) (by omega) (by omega)])
          have hm4 : mcm sh (aj_up (aj_cpy (aj_cpy (aj_up g2 41 3 (g2 10 3)) (10 + 1) (41 + 1) 0 0 (g2 10 3 * g2 41 0)) (10 + 2) (41 + 2) 0 0 (g2 10 3 * g2 41 0)) 0 10 1) 10 (8 * k) k N1 mnx1 mou1 := mcm_of hm2 (e4 _ (by omega) (by omega) (by omega) (by omega)) (e4 _ (by omega) (by omega) (by omega) (by omega)) (e4 _ (by omega) (by omega) (by omega) (by omega))
          have hb4 : bnO sh (aj_up (aj_cpy (aj_cpy (aj_up g2 41 3 (g2 10 3)) (10 + 1) (41 + 1) 0 0 (g2 10 3 * g2 41 0)) (10 + 2) (41 + 2) 0 0 (g2 10 3 * g2 41 0)) 0 10 1) r r2 := bnO_of hb (fun j _ => e0 j (by omega))
          have hg4 : ∀ r', r' < 5 ∧ 0 < r' ∨ 52 < r' → (aj_up (aj_cpy (aj_cpy (aj_up g2 41 3 (g2 10 3)) (10 + 1) (41 + 1) 0 0 (g2 10 3 * g2 41 0)) (10 + 2) (41 + 2) 0 0 (g2 10 3 * g2 41 0)) 0 10 1) r' = g r' := fun r' h => by rw [e4 r' (by omega) (by omega) (by omega) (by omega), hF2.1 r' (by omega)]; exact hF.1 r' (by omega)
          have hcI : cI sh (aj_up (aj_cpy (aj_cpy (aj_up g2 41 3 (g2 10 3)) (10 + 1) (41 + 1) 0 0 (g2 10 3 * g2 41 0)) (10 + 2) (41 + 2) 0 0 (g2 10 3 * g2 41 0)) 0 10 1) r r2 k n s0 nx ou (1) (tw1) (N1) (q1) (mnx1) (mou1) (N1) (mnx1) (mou1) w v S fp hd hp := by
            refine ⟨hb4, ⟨by rw [e0 9 (by omega)]; exact n9, ns0, aj_up_self _ _ _ _, Or.inr rfl, by rw [e0 11 (by omega)]; exact n11, nfp, by rw [e0 12 (by omega)]; exact n12, nhd, fun h => by rw [e0 13 (by omega)]; exact n13 h⟩, ⟨mcm_of hm1 (hg4 _ (by omega)) (hg4 _ (by omega)) (hg4 _ (by omega)), hn1, hn8, hk3⟩, hO4, cW_of hW (hg4 _ (by omega)) (hg4 _ (by omega)), fun h => absurd h (by decide), fun _ => ?_, ?_⟩
            · refine ⟨⟨hO4.1, ?_⟩, ⟨hm4, hk3, hN0, hN8⟩, hsm, ⟨hO4.2.2.2.1, fam_of hfam (by rw [e4 13 (by omega) (by omega) (by omega) (by omega)]) (fun w hw => ⟨e4 _ (by omega) (by omega) (by omega) (by omega), e4 _ (by omega) (by omega) (by omega) (by omega)⟩), fun s hs => ⟨?_, ?_, ?_⟩⟩, ?_, hN0⟩
              · have h2 := hP
                unfold rd_P at h2 ⊢
                rw [e4 10 (by omega) (by omega) (by omega) (by omega), e4 7 (by omega) (by omega) (by omega) (by omega), e4 8 (by omega) (by omega) (by omega) (by omega), e4 9 (by omega) (by omega) (by omega) (by omega), e4 11 (by omega) (by omega) (by omega) (by omega), e4 12 (by omega) (by omega) (by omega) (by omega), e4 5 (by omega) (by omega) (by omega) (by omega), hF2.1 10 (by omega), hF2.1 7 (by omega), hF2.1 8 (by omega), hF2.1 9 (by omega), hF2.1 11 (by omega), hF2.1 12 (by omega), hF2.1 5 (by omega)]
                exact h2
              · obtain ⟨a1, a2⟩ := hoat s hs
                exact ⟨by rw [e4 24 (by omega) (by omega) (by omega) (by omega)]; exact a1, fun v hv => by rw [e4 (16 + (s : Int)) (by omega) (by omega) (by omega) (by omega)]; exact a2 v hv⟩
              · exact Nat.le_trans (ow_le N1) hN8
              · have hfi := fm_out_I (lwd_ok (by omega) hN0 hN8 hmc hdist) N1 (Nat.le_refl _)
                exact ow_lt (fun j hj hne => fm_cov hfi s j hs hj hne) N1 (Nat.le_refl _)
              · have h5 := mcm_cpy (b := 0) hm2 hO2.2.2.2.2.1 hO2.2.2.2.2.2.1 hNk.1
                exact mcm_of h5 (aj_up_ne _ _ _ (by omega)) (aj_up_ne _ _ _ (by omega)) (aj_up_ne _ _ _ (by omega))
            · rcases hT with ⟨t1, t2, t3, t4⟩ | ⟨t1, t2, -⟩
              · exact Or.inl ⟨t1, by rw [hg4 r (by omega)]; exact t2, by rw [hg4 r (by omega)]; exact t3, t4⟩
              · omega
          refine aj_aload_n 0 72 (dx d_Bench_seal 33 rfl) rfl rfl rfl ?_
          refine aj_getfv (v := 4) 75 fl_Bench_32 (dx d_Bench_seal 34 rfl) rfl hb4.1 (by first | exact (bf_reduction hb4) | ((repeat (first | rw [aj_up_ne _ _ _ (by omega)] | rw [aj_up_ni _ _ _ (by omega)])); exact (bf_reduction hb4))) ?_
          refine aj_getfv (v := 10) 78 fl_Bench_118 (dx d_Bench_seal 35 rfl) rfl hO4.1.1 hO4.1.2.1.1 ?_
          refine aj_getfv (v := (N1 : Int)) 81 fl_Bench_129 (dx d_Bench_seal 36 rfl) rfl hm4.1.1 hm4.2.2.1 ?_
          refine aj_iret (dx d_Bench_seal 37 rfl) rfl id ?_
          exact hk _ tw1 N1 q1 mnx1 mou1 (fun r' h => hg4 r' (by omega)) hcI
  · exact absurd hz h4
set_option maxHeartbeats 4000000 in
theorem k_Bench_seal_T {al : Prop} {X : Option (Nat × (Int → Int))} {d : Nat} {sh : List aj_S} {g : aj_G} {Q : aj_R → List aj_S → aj_G → Prop} {r r2 : Int} {k n s0 : Nat} {nx ou : Nat → Nat → Nat} {z : Int} {tw : Nat → Nat} {N : Nat} {q : nb_T} {mnx mou : Nat → Nat → Nat} {mi : Nat} {ix io : Nat → Nat → Nat} {w : List Nat} {v : Int} {S : List Nat → Prop} {fp hd hp : Int} (hI : cI sh g r r2 k n s0 nx ou z tw N q mnx mou mi ix io w v S fp hd hp) (hal : ¬ al) (hz : z = 1) (hk1 : Q (.inr 1) sh g) : aj_wp nE al al X m_Bench_seal (d + 6) 1 6 0 [some (1, 0)] [] sh g Q := by
  have hI0 := hI
  obtain ⟨hb, ⟨n9, ns0, n10, nz, n11, nfp, n12, nhd, n13⟩, ⟨hm1, hn1, hn8, hk3⟩, hO, hW, hU, hS, hT⟩ := hI
  have hr := bnO_r hb
  refine aj_aload_n 0 1 (dx d_Bench_seal 0 rfl) rfl rfl rfl ?_
  refine aj_getfv (v := z) 4 fl_Bench_83 (dx d_Bench_seal 1 rfl) rfl hb.1 (by first | exact n10 | ((repeat (first | rw [aj_up_ne _ _ _ (by omega)] | rw [aj_up_ni _ _ _ (by omega)])); exact n10)) ?_
  refine aj_if_eq 15 7 (dx d_Bench_seal 2 rfl) rfl rfl (by unfold aj_I; omega) (fun h4 => ?_) (fun h4 => ?_)
  · exact absurd hz (by omega)
  · refine aj_throw th_ISE (dx d_Bench_seal 3 rfl) (dx d_Bench_seal 4 rfl) (dx d_Bench_seal 5 rfl) (dx d_Bench_seal 6 rfl) rfl hal (by omega) (by omega) (by omega) ?_
    exact hk1
