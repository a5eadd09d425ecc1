/-! Bench: suite, run, begin, give -/
theorem fit_no {g : aj_G} {r : Int} {k : Nat} {W : Nat → List Nat} {mnx : Nat → Nat → Nat} {P : List Nat → Prop} (h : tS g r k 800 W mnx P 0) : ¬ fitS k P := by
  rintro ⟨c, W2, h1, h2, h3⟩
  obtain ⟨-, hI, hP, -, -, h6⟩ := h
  rcases h6 with e | ⟨-, -, v, v1, v2⟩
  · exact absurd e (by decide)
  · have hn : (v :: (List.range 800).map W).Nodup := by
      refine List.nodup_cons.mpr ⟨fun hm => ?_, ?_⟩
      · obtain ⟨p, p1, p2⟩ := List.mem_map.mp hm
        exact v2 ⟨p, List.mem_range.mp p1, p2⟩
      · refine List.pairwise_map.mpr (List.Pairwise.imp_of_mem (fun {a b} ha hb hab e => ?_) List.nodup_range)
        exact hab (hI.2.2.2.2 a b (List.mem_range.mp ha) (List.mem_range.mp hb) e)
    have hc := tr_cnt (c := c) (W := W2) hn (fun x hx => by
      rcases List.mem_cons.mp hx with e | e
      · rw [e]; exact (h3 _).mpr v1
      · obtain ⟨p, p1, p2⟩ := List.mem_map.mp e
        rw [← p2]
        exact (h3 _).mpr (hP p (List.mem_range.mp p1)))
    rw [List.length_cons, List.length_map, List.length_range] at hc
    omega
theorem lv_end {S : List Nat → Prop} {k : Nat} : ∀ f (w v : List Nat), v ∈ lvF S k f w → ∃ t, v = t ++ w
  | 0, w, v, h => ⟨[], by rw [List.mem_singleton.mp h]; rfl⟩
  | f + 1, w, v, h => by
    by_cases c : ∃ a, a < k ∧ S (a :: w)
    · rw [lv_more c] at h
      obtain ⟨a, -, -, -, a4⟩ := lvc_mem k (Nat.le_refl _) h
      obtain ⟨t, e⟩ := lv_end f (a :: w) v a4
      exact ⟨t ++ [a], by rw [e]; simp⟩
    · rw [lv_one (fun a h1 h2 => c ⟨a, h1, h2⟩)] at h
      exact ⟨[], by rw [List.mem_singleton.mp h]; rfl⟩
theorem lv_ne0 {S : List Nat → Prop} {k : Nat} (h : ∃ a, a < k ∧ S [a]) {v : List Nat} (hm : v ∈ lvF S k 20 []) : 0 < v.length := by
  rw [lv_more (f := 19) h] at hm
  obtain ⟨a, -, -, -, a4⟩ := lvc_mem k (Nat.le_refl _) hm
  obtain ⟨u, e⟩ := lv_end 19 [a] _ a4
  rw [e, List.length_append, List.length_singleton]
  omega
theorem lv_ne {S : List Nat → Prop} {k : Nat} (h : ∃ a, a < k ∧ S [a]) (t : Nat) (ht : t < (lvF S k 20 []).length) : 0 < (lvF S k 20 [])[t].length := lv_ne0 h (List.getElem_mem ht)
section CJ
variable {sh : List aj_S} {g g1 : aj_G} {r r2 : Int} {k n s0 : Nat} {nx ou : Nat → Nat → Nat} {z : Int} {tw : Nat → Nat} {N : Nat} {q : nb_T} {mnx mou : Nat → Nat → Nat} {mi : Nat} {ix io : Nat → Nat → Nat} {w : List Nat} {v : Int} {S : List Nat → Prop} {fp hd hp : Int}
/-- the spare suite and the trial's rows may change -/
theorem cI_free (h : cI sh g r r2 k n s0 nx ou z tw N q mnx mou mi ix io w v S fp hd hp) (e : ∀ r', r' ≠ 54 → r' ≠ 55 → r' < r2 ∨ r2 + 9 < r' → g1 r' = g r') (e2 : ∀ j, j ≤ 11 → g1 r2 j = g r2 j) : cI sh g1 r r2 k n s0 nx ou z tw N q mnx mou mi ix io w v S fp hd hp := by
  obtain ⟨h1, h2, h3, h4, h5, h6, h7, h8⟩ := h
  have hr := bnO_r h1
  have e5 : ∀ r', r' < 54 ∨ r' = 56 ∨ r' = 57 → g1 r' = g r' := fun r' h => e r' (by omega) (by omega) (by omega)
  refine ⟨bnO_of h1 (fun j _ => by rw [e5 0 (by omega)]), cN_of h2 (fun j _ => by rw [e5 0 (by omega)]), ⟨mcm_of h3.1 (e5 _ (by omega)) (e5 _ (by omega)) (e5 _ (by omega)), h3.2⟩, cO_of h4 (e5 _ (by omega)) (fun j _ => by rw [e5 10 (by omega)]) (fun j _ => by rw [e5 13 (by omega)]) (e5 _ (by omega)) (e5 _ (by omega)) (fun w hw => by rw [e5 _ (by omega)]) (fun j _ => by rw [e5 41 (by omega)]) (fun j _ => by rw [e5 44 (by omega)]) (by rw [e5 45 (by omega)]) (e5 _ (by omega)) (fun j hj => ?_) (fun j hj => ?_), cW_of h5 (e5 _ (by omega)) (e5 _ (by omega)), fun hz => cU_of (h6 hz) (by rw [e5 10 (by omega)]) (by rw [e5 13 (by omega)]) (e5 _ (by omega)) (by rw [e5 41 (by omega)]), fun hz => cS_of (h7 hz) (fun r' _ => e5 r' (by omega)), cT_of h8 (fun i _ => e _ (by omega) (by omega) (by omega))⟩
  · rcases hr.2.1 with x | x
    · subst x; exact e2 j hj
    · rw [e 58 (by omega) (by omega) (by omega)]
  · rcases hr.2.1 with x | x
    · rw [e 68 (by omega) (by omega) (by omega)]
    · subst x; exact e2 j hj
/-- the suites change places -/
theorem cI_swap {S1 : List Nat → Prop} {c1 : Nat} {W1 : Nat → List Nat} (h : cI sh g r r2 k n s0 nx ou z tw N q mnx mou mi ix io w v S fp hd hp) (hz : z = 1) (e : ∀ r', r' ≠ 0 → g1 r' = g r') (e0 : ∀ j, j ≠ 7 → j ≠ 8 → j ≠ 12 → g1 0 j = g 0 j) (e7 : g1 0 7 = r2) (e8 : g1 0 8 = r) (e12 : g1 0 12 = -1) (h1S : ∃ a, a < k ∧ S1 [a]) (hT : sT g r2 k c1 W1 mnx (lvF S1 k 20 [])) (hpr : ∀ u, pr c1 W1 u ↔ S1 u) : cI sh g1 r2 r k n s0 nx ou z tw N q mnx mou mi ix io w (1) (S1) fp (-1) hp := by
  obtain ⟨h1, h2, h3, h4, h5, h6, h7, h8⟩ := h
  have hr := bnO_r h1
  obtain ⟨b1, ⟨b2, b3, b4, b5, b6, b7, b8, b9, b10⟩, b11⟩ := h1
  obtain ⟨n9, ns0, n10, nz, n11, nfp, n12, nhd, n13⟩ := h2
  refine ⟨⟨b1, ⟨?_, ?_, ?_, ?_, ?_, ?_, ?_, e7, e8⟩, by omega⟩, ⟨by rw [e0 9 (by omega) (by omega) (by omega)]; exact n9, ns0, by rw [e0 10 (by omega) (by omega) (by omega)]; exact n10, nz, by rw [e0 11 (by omega) (by omega) (by omega)]; exact n11, nfp, e12, by unfold aj_I; omega, fun h => absurd h (by decide)⟩, ⟨mcm_of h3.1 (e _ (by omega)) (e _ (by omega)) (e _ (by omega)), h3.2⟩, cO_of h4 (e _ (by omega)) (fun j _ => by rw [e 10 (by omega)]) (fun j _ => by rw [e 13 (by omega)]) (e _ (by omega)) (e _ (by omega)) (fun w hw => by rw [e _ (by omega)]) (fun j _ => by rw [e 41 (by omega)]) (fun j _ => by rw [e 44 (by omega)]) (by rw [e 45 (by omega)]) (e _ (by omega)) (fun j _ => by rw [e 58 (by omega)]) (fun j _ => by rw [e 68 (by omega)]), cW_of h5 (e _ (by omega)) (e _ (by omega)), fun hz0 => absurd hz0 (by omega), fun hz1 => ?_, Or.inr ⟨rfl, hz, h1S, ⟨c1, W1, sT_of hT (by rw [e r2 (by omega)]) (by rw [e r2 (by omega)]) (fun i hi => e _ (by omega)), hpr⟩, Or.inl rfl⟩⟩
  · rw [e0 0 (by omega) (by omega) (by omega)]; exact b2
  · rw [e0 1 (by omega) (by omega) (by omega)]; exact b3
  · rw [e0 2 (by omega) (by omega) (by omega)]; exact b4
  · rw [e0 3 (by omega) (by omega) (by omega)]; exact b5
  · rw [e0 4 (by omega) (by omega) (by omega)]; exact b6
  · rw [e0 5 (by omega) (by omega) (by omega)]; exact b7
  · rw [e0 6 (by omega) (by omega) (by omega)]; exact b8
  · obtain ⟨c1, c2, c3, c4, c5, c6⟩ := h7 hz1
    have hN := c2.2.2.2
    refine ⟨⟨rds_of c1.1 (e 4 (by omega)), ?_⟩, ⟨mcm_of c2.1 (e 10 (by omega)) (e (10 + 1) (by omega)) (e (10 + 2) (by omega)), c2.2⟩, c3, ?_, mcm_of c5 (e _ (by omega)) (e _ (by omega)) (e _ (by omega)), c6⟩
    · have h2 := c1.2
      unfold rd_P at h2 ⊢
      rw [e 10 (by omega), e 7 (by omega), e 8 (by omega), e 9 (by omega), e 11 (by omega), e 12 (by omega), e 5 (by omega)]
      exact h2
    · obtain ⟨f1, f2, f3⟩ := c4
      refine ⟨fms_of f1 (fun j _ => by rw [e 13 (by omega)]) (e _ (by omega)) (e _ (by omega)) (fun w hw => by rw [e _ (by omega)]), fam_of f2 (by rw [e 13 (by omega)]) (fun w hw => ⟨e _ (by omega), e _ (by omega)⟩), fun s hs => ⟨?_, (f3 s hs).2⟩⟩
      obtain ⟨⟨a1, a2⟩, -⟩ := f3 s hs
      exact ⟨by rw [e 24 (by omega)]; exact a1, fun v hv => by rw [e (16 + (s : Int)) (by omega)]; exact a2 v hv⟩
end CJ
def rnR (D : List Nat → Prop) (T : List (List Nat)) (x fp1 : Int) : Prop := (∃ (t : Nat) (h : t < T.length), x = t ∧ fp1 = ffw D T[t] ∧ ffw D T[t] ≠ -1 ∧ ∀ (t' : Nat) (h' : t' < T.length), t' < t → ffw D T[t'] = -1) ∨ (x = -1 ∧ fp1 = -1 ∧ ∀ (t' : Nat) (h' : t' < T.length), ffw D T[t'] = -1)
set_option maxHeartbeats 8000000 in
theorem k_Bench_suite {al : Prop} {X : Option (Nat × (Int → Int))} {d : Nat} {sh : List aj_S} {g : aj_G} {Q : aj_R → List aj_S → aj_G → Prop} {r r2 : Int} {k n s0 : Nat} {nx ou : Nat → Nat → Nat} {z : Int} {tw : Nat → Nat} {N : Nat} {q : nb_T} {mnx mou : Nat → Nat → Nat} {mi : Nat} {ix io : Nat → Nat → Nat} {w : List Nat} {v : Int} {S : List Nat → Prop} {fp hd hp : Int} (hI : cI sh g r r2 k n s0 nx ou z tw N q mnx mou mi ix io w v S fp hd hp) {s m : Int} (x1 : aj_I s) (x2 : aj_I m) (hlen : ∀ u, (suS k n s0 nx ou N m.toNat s q mnx mou) u → u.length ≤ 18) (hok : ((0 ≤ s ∧ s ≤ 1) ∧ (0 ≤ m ∧ m ≤ 2))) (hz : z = 1) (hfit : fitS k (suS k n s0 nx ou N m.toNat s q mnx mou)) (hk : ∀ g1 : aj_G, fr78 g g1 → cI sh g1 r2 r k n s0 nx ou z tw N q mnx mou mi ix io w (1) (suS k n s0 nx ou N m.toNat s q mnx mou) fp (-1) hp → Q (.inl (some (0, ((lvF (suS k n s0 nx ou N m.toNat s q mnx mou) k 20 []).length : Int)))) sh g1) : aj_wp nE al al X m_Bench_suite (d + 6) 0 0 0 [some (1, 0), some (0, s), some (0, m), none] [] sh g Q := by
  have hI0 := hI
  obtain ⟨hb, ⟨n9, ns0, n10, nz, n11, nfp, n12, nhd, n13⟩, ⟨hm1, hn1, hn8, hk3⟩, hO, hW, hU, hS, hT⟩ := hI
  have hr := bnO_r hb
  have hsr : sus sh g r k := by
    rcases hr.1 with e | e <;> subst e
    · exact hO.2.2.2.2.2.2.2.2.1
    · exact hO.2.2.2.2.2.2.2.2.2
  have hsr2 : sus sh g r2 k := by
    rcases hr.2.1 with e | e <;> subst e
    · exact hO.2.2.2.2.2.2.2.2.1
    · exact hO.2.2.2.2.2.2.2.2.2
  obtain ⟨m2, rfl⟩ := Int.eq_ofNat_of_zero_le (show 0 ≤ m by omega)
  rw [Int.toNat_natCast] at hlen
  have hs1 := hS hz
  refine aj_iload_n 1 1 (dx d_Bench_suite 0 rfl) rfl rfl rfl ?_
  refine aj_if_lt 18 4 (dx d_Bench_suite 1 rfl) rfl rfl x1 (fun h1 => ?_) (fun h1 => ?_)
  · exact absurd h1 (by omega)
  · refine aj_iload_n 1 5 (dx d_Bench_suite 2 rfl) rfl rfl rfl ?_
    refine aj_iconst 6 (dx d_Bench_suite 3 rfl) rfl ?_
    refine aj_icmp_ge 18 9 (dx d_Bench_suite 4 rfl) rfl rfl x1 (by unfold aj_I; omega) (fun h6 => ?_) (fun h6 => ?_)
    · exact absurd h6 (by omega)
    · refine aj_iload_n 2 10 (dx d_Bench_suite 5 rfl) rfl rfl rfl ?_
      refine aj_if_lt 18 13 (dx d_Bench_suite 6 rfl) rfl rfl x2 (fun h10 => ?_) (fun h10 => ?_)
      · exact absurd h10 (by omega)
      · refine aj_iload_n 2 14 (dx d_Bench_suite 7 rfl) rfl rfl rfl ?_
        refine aj_iconst 15 (dx d_Bench_suite 8 rfl) rfl ?_
        refine aj_icmp_le 26 18 (dx d_Bench_suite 9 rfl) rfl rfl x2 (by unfold aj_I; omega) (fun h15 => ?_) (fun h15 => ?_)
        · refine aj_aload_n 0 27 (dx d_Bench_suite 14 rfl) rfl rfl rfl ?_
          refine aj_getfv (v := z) 30 fl_Bench_83 (dx d_Bench_suite 15 rfl) rfl hb.1 (by first | exact n10 | ((repeat (first | rw [aj_up_ne _ _ _ (by omega)] | rw [aj_up_ni _ _ _ (by omega)])); exact n10)) ?_
          refine aj_if_ne 41 33 (dx d_Bench_suite 16 rfl) rfl rfl (by unfold aj_I; omega) (fun h30 => ?_) (fun h30 => ?_)
          · refine aj_aload_n 0 42 (dx d_Bench_suite 21 rfl) rfl rfl rfl ?_
            refine aj_getfv (v := r2) 45 fl_Bench_76 (dx d_Bench_suite 22 rfl) rfl hb.1 (by first | exact (bf_spare hb) | ((repeat (first | rw [aj_up_ne _ _ _ (by omega)] | rw [aj_up_ni _ _ _ (by omega)])); exact (bf_spare hb))) ?_
            refine aj_iload_n 1 46 (dx d_Bench_suite 23 rfl) rfl rfl rfl ?_
            refine aj_iload_n 2 47 (dx d_Bench_suite 24 rfl) rfl rfl rfl ?_
            refine aj_callV2 50 cl_Bench_170 (dx d_Bench_suite 25 rfl) rfl rfl rfl rfl rfl rfl hsr2.1 (k_Suite_build (m := m2) hr.2.1 hsr2 hs1.2.1 hs1.2.2.2.1 hs1.1 hs1.2.2.1 (by omega) (by omega) (fun i hi => (ac_all hs1.1.2.2.2.2.1 (by rw [hs1.1.2.2.2.1]; exact hi)).1) hlen (fun g1 c1 W1 hF hpr hT1 h14 => ?_) (fun g1 W1 hF hT1 => ?_))
            · change aj_wp _ _ _ _ _ _ _ _ _ _ _ _ _ _
              have hb1 : bnO sh g1 r r2 := bnO_of hb (fun j _ => by rw [hF.1 0 (by omega)])
              have hci := cI_free hI0 (fun r' _ _ h => hF.1 r' h) hF.2
              have hlv : lvF (pr c1 W1) k 20 [] = lvF (su_P k N m2 s (ac q) (FW k N mnx mou) (FC k N mnx mou) (FO k N mnx mou) mnx) k 20 [] := by rw [lv_cg (k := k) hpr]
              rw [hlv] at hT1
              have h1S : ∃ a, a < k ∧ (su_P k N m2 s (ac q) (FW k N mnx mou) (FC k N mnx mou) (FO k N mnx mou) mnx) [a] := ⟨0, by omega, su_1 (by omega) hs1.2.1.2.2.1 (ac_0 q)⟩
              refine aj_if_ne 61 53 (dx d_Bench_suite 26 rfl) rfl rfl (by unfold aj_I; omega) (fun h50 => ?_) (fun h50 => ?_)
              · refine aj_aload_n 0 62 (dx d_Bench_suite 31 rfl) rfl rfl rfl ?_
                refine aj_getfv (v := r) 65 fl_Bench_72 (dx d_Bench_suite 32 rfl) rfl hb1.1 (by first | exact (bf_suite hb1) | ((repeat (first | rw [aj_up_ne _ _ _ (by omega)] | rw [aj_up_ni _ _ _ (by omega)])); exact (bf_suite hb1))) ?_
                refine aj_astore_n 3 66 (dx d_Bench_suite 33 rfl) rfl rfl rfl ?_
                simp only [List.set]
                refine aj_aload_n 0 67 (dx d_Bench_suite 34 rfl) rfl rfl rfl ?_
                refine aj_aload_n 0 68 (dx d_Bench_suite 35 rfl) rfl rfl rfl ?_
                refine aj_getfv (v := r2) 71 fl_Bench_76 (dx d_Bench_suite 36 rfl) rfl hb1.1 (by first | exact (bf_spare hb1) | ((repeat (first | rw [aj_up_ne _ _ _ (by omega)] | rw [aj_up_ni _ _ _ (by omega)])); exact (bf_spare hb1))) ?_
                refine aj_putf 74 (pl_Bench_72 _) (dx d_Bench_suite 37 rfl) rfl hb1.1 (aj_fitO _ _) ?_
                refine aj_aload_n 0 75 (dx d_Bench_suite 38 rfl) rfl rfl rfl ?_
                refine aj_aload_n 3 76 (dx d_Bench_suite 39 rfl) rfl rfl rfl ?_
                refine aj_putf 79 (pl_Bench_76 _) (dx d_Bench_suite 40 rfl) rfl hb1.1 (aj_fitO _ _) ?_
                refine aj_aload_n 0 80 (dx d_Bench_suite 41 rfl) rfl rfl rfl ?_
                refine aj_iconst 81 (dx d_Bench_suite 42 rfl) rfl ?_
                refine aj_putf 84 (pl_Bench_90 _) (dx d_Bench_suite 43 rfl) rfl hb1.1 (aj_fitI _) ?_
                refine aj_aload_n 0 85 (dx d_Bench_suite 44 rfl) rfl rfl rfl ?_
                refine aj_getfv (v := r2) 88 fl_Bench_72 (dx d_Bench_suite 45 rfl) rfl hb1.1 (by rw [aj_up_ni _ _ _ (by omega), aj_up_ni _ _ _ (by omega), aj_up_self]) ?_
                refine aj_getfv (v := ((lvF (su_P k N m2 s (ac q) (FW k N mnx mou) (FC k N mnx mou) (FO k N mnx mou) mnx) k 20 []).length : Int)) 91 fl_Bench_177 (dx d_Bench_suite 46 rfl) rfl hsr2.1 (by first | exact hT1.2.2.2.2.1.1 | ((repeat (first | rw [aj_up_ne _ _ _ (by omega)] | rw [aj_up_ni _ _ _ (by omega)])); exact hT1.2.2.2.2.1.1)) ?_
                refine aj_iret (dx d_Bench_suite 47 rfl) rfl id ?_
                have e2 : suS k n s0 nx ou N (m2 : Int).toNat s q mnx mou = su_P k N m2 s (ac q) (FW k N mnx mou) (FC k N mnx mou) (FO k N mnx mou) mnx := by rw [Int.toNat_natCast]; rfl
                rw [e2] at hk
                refine hk _ (fun r' h => by rw [aj_up_ne _ _ _ (by omega), aj_up_ne _ _ _ (by omega), aj_up_ne _ _ _ (by omega)]; exact hF.1 r' (by omega)) (cI_swap hci hz (fun r' h => by rw [aj_up_ne _ _ _ h, aj_up_ne _ _ _ h, aj_up_ne _ _ _ h]) (fun j a b c => by rw [aj_up_ni _ _ _ c, aj_up_ni _ _ _ b, aj_up_ni _ _ _ a]) (by rw [aj_up_ni _ _ _ (by omega), aj_up_ni _ _ _ (by omega), aj_up_self]) (by rw [aj_up_ni _ _ _ (by omega), aj_up_self]) (aj_up_self _ _ _ _) h1S hT1 hpr)
              · exact absurd h50 (by omega)
            · exact absurd (by rw [Int.toNat_natCast] at hfit; exact hfit) (fit_no hT1)
          · exact absurd hz (by omega)
        · exact absurd h15 (by omega)
set_option maxHeartbeats 8000000 in
theorem k_Bench_suite_U {al : Prop} {X : Option (Nat × (Int → Int))} {d : Nat} {sh : List aj_S} {g : aj_G} {Q : aj_R → List aj_S → aj_G → Prop} {r r2 : Int} {k n s0 : Nat} {nx ou : Nat → Nat → Nat} {z : Int} {tw : Nat → Nat} {N : Nat} {q : nb_T} {mnx mou : Nat → Nat → Nat} {mi : Nat} {ix io : Nat → Nat → Nat} {w : List Nat} {v : Int} {S : List Nat → Prop} {fp hd hp : Int} (hI : cI sh g r r2 k n s0 nx ou z tw N q mnx mou mi ix io w v S fp hd hp) (hal : ¬ al) {s m : Int} (x1 : aj_I s) (x2 : aj_I m) (hlen : ∀ u, (suS k n s0 nx ou N m.toNat s q mnx mou) u → u.length ≤ 18) (hok : ((0 ≤ s ∧ s ≤ 1) ∧ (0 ≤ m ∧ m ≤ 2))) (hz : z = 1) (hnf : ¬ fitS k (suS k n s0 nx ou N m.toNat s q mnx mou)) (hk1 : ∀ g1 : aj_G, fr78 g g1 → cI sh g1 r r2 k n s0 nx ou z tw N q mnx mou mi ix io w v S fp hd hp → Q (.inr 2) sh g1) : aj_wp nE al al X m_Bench_suite (d + 6) 1 6 0 [some (1, 0), some (0, s), some (0, m), none] [] sh g Q := by
  have hI0 := hI
  obtain ⟨hb, ⟨n9, ns0, n10, nz, n11, nfp, n12, nhd, n13⟩, ⟨hm1, hn1, hn8, hk3⟩, hO, hW, hU, hS, hT⟩ := hI
  have hr := bnO_r hb
  have hsr : sus sh g r k := by
    rcases hr.1 with e | e <;> subst e
    · exact hO.2.2.2.2.2.2.2.2.1
    · exact hO.2.2.2.2.2.2.2.2.2
  have hsr2 : sus sh g r2 k := by
    rcases hr.2.1 with e | e <;> subst e
    · exact hO.2.2.2.2.2.2.2.2.1
    · exact hO.2.2.2.2.2.2.2.2.2
  obtain ⟨m2, rfl⟩ := Int.eq_ofNat_of_zero_le (show 0 ≤ m by omega)
  rw [Int.toNat_natCast] at hlen
  have hs1 := hS hz
  refine aj_iload_n 1 1 (dx d_Bench_suite 0 rfl) rfl rfl rfl ?_
  refine aj_if_lt 18 4 (dx d_Bench_suite 1 rfl) rfl rfl x1 (fun h1 => ?_) (fun h1 => ?_)
  · exact absurd h1 (by omega)
  · refine aj_iload_n 1 5 (dx d_Bench_suite 2 rfl) rfl rfl rfl ?_
    refine aj_iconst 6 (dx d_Bench_suite 3 rfl) rfl ?_
    refine aj_icmp_ge 18 9 (dx d_Bench_suite 4 rfl) rfl rfl x1 (by unfold aj_I; omega) (fun h6 => ?_) (fun h6 => ?_)
    · exact absurd h6 (by omega)
    · refine aj_iload_n 2 10 (dx d_Bench_suite 5 rfl) rfl rfl rfl ?_
      refine aj_if_lt 18 13 (dx d_Bench_suite 6 rfl) rfl rfl x2 (fun h10 => ?_) (fun h10 => ?_)
      · exact absurd h10 (by omega)
      · refine aj_iload_n 2 14 (dx d_Bench_suite 7 rfl) rfl rfl rfl ?_
        refine aj_iconst 15 (dx d_Bench_suite 8 rfl) rfl ?_
        refine aj_icmp_le 26 18 (dx d_Bench_suite 9 rfl) rfl rfl x2 (by unfold aj_I; omega) (fun h15 => ?_) (fun h15 => ?_)
        · refine aj_aload_n 0 27 (dx d_Bench_suite 14 rfl) rfl rfl rfl ?_
          refine aj_getfv (v := z) 30 fl_Bench_83 (dx d_Bench_suite 15 rfl) rfl hb.1 (by first | exact n10 | ((repeat (first | rw [aj_up_ne _ _ _ (by omega)] | rw [aj_up_ni _ _ _ (by omega)])); exact n10)) ?_
          refine aj_if_ne 41 33 (dx d_Bench_suite 16 rfl) rfl rfl (by unfold aj_I; omega) (fun h30 => ?_) (fun h30 => ?_)
          · refine aj_aload_n 0 42 (dx d_Bench_suite 21 rfl) rfl rfl rfl ?_
            refine aj_getfv (v := r2) 45 fl_Bench_76 (dx d_Bench_suite 22 rfl) rfl hb.1 (by first | exact (bf_spare hb) | ((repeat (first | rw [aj_up_ne _ _ _ (by omega)] | rw [aj_up_ni _ _ _ (by omega)])); exact (bf_spare hb))) ?_
            refine aj_iload_n 1 46 (dx d_Bench_suite 23 rfl) rfl rfl rfl ?_
            refine aj_iload_n 2 47 (dx d_Bench_suite 24 rfl) rfl rfl rfl ?_
            refine aj_callV2 (bc1 := 0) (bc2 := 1) (bs1 := 0) (bs2 := 6) 50 cl_Bench_170 (dx d_Bench_suite 25 rfl) rfl rfl rfl rfl rfl rfl hsr2.1 (k_Suite_build (m := m2) hr.2.1 hsr2 hs1.2.1 hs1.2.2.2.1 hs1.1 hs1.2.2.1 (by omega) (by omega) (fun i hi => (ac_all hs1.1.2.2.2.2.1 (by rw [hs1.1.2.2.2.1]; exact hi)).1) hlen (fun g1 c1 W1 hF hpr hT1 h14 => ?_) (fun g1 W1 hF hT1 => ?_))
            · rw [Int.toNat_natCast] at hnf
              exact absurd (show fitS k _ from ⟨c1, W1, hT1.2.2.1, hT1.2.1, hpr⟩) hnf
            · change aj_wp _ _ _ _ _ _ _ _ _ _ _ _ _ _
              refine aj_if_ne 61 53 (dx d_Bench_suite 26 rfl) rfl rfl (by unfold aj_I; omega) (fun h50 => ?_) (fun h50 => ?_)
              · exact absurd rfl h50
              · refine aj_throw th_UOE (dx d_Bench_suite 27 rfl) (dx d_Bench_suite 28 rfl) (dx d_Bench_suite 29 rfl) (dx d_Bench_suite 30 rfl) rfl hal (by omega) (by omega) (by omega) ?_
                exact hk1 g1 (fun r' h => hF.1 r' (by omega)) (cI_free hI0 (fun r' _ _ h => hF.1 r' h) hF.2)
          · exact absurd hz (by omega)
        · exact absurd h15 (by omega)
set_option maxHeartbeats 8000000 in
theorem k_Bench_suite_T {al : Prop} {X : Option (Nat × (Int → Int))} {d : Nat} {sh : List aj_S} {g : aj_G} {Q : aj_R → List aj_S → aj_G → Prop} {r r2 : Int} {k n s0 : Nat} {nx ou : Nat → Nat → Nat} {z : Int} {tw : Nat → Nat} {N : Nat} {q : nb_T} {mnx mou : Nat → Nat → Nat} {mi : Nat} {ix io : Nat → Nat → Nat} {w : List Nat} {v : Int} {S : List Nat → Prop} {fp hd hp : Int} (hI : cI sh g r r2 k n s0 nx ou z tw N q mnx mou mi ix io w v S fp hd hp) (hal : ¬ al) {s m : Int} (x1 : aj_I s) (x2 : aj_I m) (hbad : ((0 ≤ s ∧ s ≤ 1) ∧ (0 ≤ m ∧ m ≤ 2)) → z = 0) (hk1 : ¬ ((0 ≤ s ∧ s ≤ 1) ∧ (0 ≤ m ∧ m ≤ 2)) → Q (.inr 0) sh g) (hk2 : ((0 ≤ s ∧ s ≤ 1) ∧ (0 ≤ m ∧ m ≤ 2)) → z = 0 → Q (.inr 1) sh g) : aj_wp nE al al X m_Bench_suite (d + 6) 1 6 0 [some (1, 0), some (0, s), some (0, m), none] [] sh g Q := by
  have hI0 := hI
  obtain ⟨hb, ⟨n9, ns0, n10, nz, n11, nfp, n12, nhd, n13⟩, ⟨hm1, hn1, hn8, hk3⟩, hO, hW, hU, hS, hT⟩ := hI
  have hr := bnO_r hb
  refine aj_iload_n 1 1 (dx d_Bench_suite 0 rfl) rfl rfl rfl ?_
  refine aj_if_lt 18 4 (dx d_Bench_suite 1 rfl) rfl rfl x1 (fun h1 => ?_) (fun h1 => ?_)
  · refine aj_throw th_IAE (dx d_Bench_suite 10 rfl) (dx d_Bench_suite 11 rfl) (dx d_Bench_suite 12 rfl) (dx d_Bench_suite 13 rfl) rfl hal (by omega) (by omega) (by omega) ?_
    exact hk1 (by omega)
  · refine aj_iload_n 1 5 (dx d_Bench_suite 2 rfl) rfl rfl rfl ?_
    refine aj_iconst 6 (dx d_Bench_suite 3 rfl) rfl ?_
    refine aj_icmp_ge 18 9 (dx d_Bench_suite 4 rfl) rfl rfl x1 (by unfold aj_I; omega) (fun h6 => ?_) (fun h6 => ?_)
    · refine aj_throw th_IAE (dx d_Bench_suite 10 rfl) (dx d_Bench_suite 11 rfl) (dx d_Bench_suite 12 rfl) (dx d_Bench_suite 13 rfl) rfl hal (by omega) (by omega) (by omega) ?_
      exact hk1 (by omega)
    · refine aj_iload_n 2 10 (dx d_Bench_suite 5 rfl) rfl rfl rfl ?_
      refine aj_if_lt 18 13 (dx d_Bench_suite 6 rfl) rfl rfl x2 (fun h10 => ?_) (fun h10 => ?_)
      · refine aj_throw th_IAE (dx d_Bench_suite 10 rfl) (dx d_Bench_suite 11 rfl) (dx d_Bench_suite 12 rfl) (dx d_Bench_suite 13 rfl) rfl hal (by omega) (by omega) (by omega) ?_
        exact hk1 (by omega)
      · refine aj_iload_n 2 14 (dx d_Bench_suite 7 rfl) rfl rfl rfl ?_
        refine aj_iconst 15 (dx d_Bench_suite 8 rfl) rfl ?_
        refine aj_icmp_le 26 18 (dx d_Bench_suite 9 rfl) rfl rfl x2 (by unfold aj_I; omega) (fun h15 => ?_) (fun h15 => ?_)
        · refine aj_aload_n 0 27 (dx d_Bench_suite 14 rfl) rfl rfl rfl ?_
          refine aj_getfv (v := z) 30 fl_Bench_83 (dx d_Bench_suite 15 rfl) rfl hb.1 (by first | exact n10 | ((repeat (first | rw [aj_up_ne _ _ _ (by omega)] | rw [aj_up_ni _ _ _ (by omega)])); exact n10)) ?_
          refine aj_if_ne 41 33 (dx d_Bench_suite 16 rfl) rfl rfl (by unfold aj_I; omega) (fun h30 => ?_) (fun h30 => ?_)
          · exact absurd (hbad (by omega)) (by omega)
          · refine aj_throw th_ISE (dx d_Bench_suite 17 rfl) (dx d_Bench_suite 18 rfl) (dx d_Bench_suite 19 rfl) (dx d_Bench_suite 20 rfl) rfl hal (by omega) (by omega) (by omega) ?_
            exact hk2 (by omega) (by omega)
        · refine aj_throw th_IAE (dx d_Bench_suite 10 rfl) (dx d_Bench_suite 11 rfl) (dx d_Bench_suite 12 rfl) (dx d_Bench_suite 13 rfl) rfl hal (by omega) (by omega) (by omega) ?_
          exact hk1 (by omega)
set_option maxHeartbeats 8000000 in
theorem k_Bench_run {al : Prop} {X : Option (Nat × (Int → Int))} {d : Nat} {sh : List aj_S} {g : aj_G} {Q : aj_R → List aj_S → aj_G → Prop} {r r2 : Int} {k n s0 : Nat} {nx ou : Nat → Nat → Nat} {z : Int} {tw : Nat → Nat} {N : Nat} {q : nb_T} {mnx mou : Nat → Nat → Nat} {mi : Nat} {ix io : Nat → Nat → Nat} {w : List Nat} {v : Int} {S : List Nat → Prop} {fp hd hp : Int} (hI : cI sh g r r2 k n s0 nx ou z tw N q mnx mou mi ix io w v S fp hd hp) (hv : v = 1) (hk : ∀ (g1 : aj_G) (x fp1 : Int), fr78 g g1 → rnR (dD ix io mnx mou) (lvF S k 20 []) x fp1 → cI sh g1 r r2 k n s0 nx ou z tw N q mnx mou mi ix io w v S (fp1) hd hp → Q (.inl (some (0, x))) sh g1) : aj_wp nE al al X m_Bench_run (d + 6) 0 0 0 [some (1, 0), none] [] sh g Q := by
  have hI0 := hI
  obtain ⟨hb, ⟨n9, ns0, n10, nz, n11, nfp, n12, nhd, n13⟩, ⟨hm1, hn1, hn8, hk3⟩, hO, hW, hU, hS, hT⟩ := hI
  have hr := bnO_r hb
  have hsr : sus sh g r k := by
    rcases hr.1 with e | e <;> subst e
    · exact hO.2.2.2.2.2.2.2.2.1
    · exact hO.2.2.2.2.2.2.2.2.2
  have hsr2 : sus sh g r2 k := by
    rcases hr.2.1 with e | e <;> subst e
    · exact hO.2.2.2.2.2.2.2.2.1
    · exact hO.2.2.2.2.2.2.2.2.2
  obtain ⟨t2, t3, ⟨c, W, t5, t6⟩, t7⟩ : z = 1 ∧ (∃ a, a < k ∧ S [a]) ∧ (∃ (c : Nat) (W : Nat → List Nat), sT g r k c W mnx (lvF S k 20 []) ∧ ∀ u, pr c W u ↔ S u) ∧ hnO (lvF S k 20 []) hd hp := by
    rcases hT with ⟨t1, -⟩ | ⟨-, t⟩
    · omega
    · exact t
  have hs1 := hS t2
  have hT8 := t5.2.2.2.2.2
  refine aj_aload_n 0 1 (dx d_Bench_run 0 rfl) rfl rfl rfl ?_
  refine aj_getfv (v := r) 4 fl_Bench_72 (dx d_Bench_run 1 rfl) rfl hb.1 (by first | exact (bf_suite hb) | ((repeat (first | rw [aj_up_ne _ _ _ (by omega)] | rw [aj_up_ni _ _ _ (by omega)])); exact (bf_suite hb))) ?_
  refine aj_callV0 7 cl_Bench_195 (dx d_Bench_run 2 rfl) rfl rfl rfl rfl rfl rfl hsr.1 (k_Suite_isMade (mnx := mnx) hsr t5.1.1 (by have := t5.2.2.1; unfold aj_I; omega) ?_)
  change aj_wp _ _ _ _ _ _ _ _ _ _ _ _ _ _
  refine aj_if_ne 18 10 (dx d_Bench_run 3 rfl) rfl rfl if_I (fun h7 => ?_) (fun h7 => ?_)
  · refine aj_aload_n 0 19 (dx d_Bench_run 8 rfl) rfl rfl rfl ?_
    refine aj_getfv (v := 53) 22 fl_Bench_56 (dx d_Bench_run 9 rfl) rfl hb.1 (by first | exact (bf_trial hb) | ((repeat (first | rw [aj_up_ne _ _ _ (by omega)] | rw [aj_up_ni _ _ _ (by omega)])); exact (bf_trial hb))) ?_
    refine aj_aload_n 0 23 (dx d_Bench_run 10 rfl) rfl rfl rfl ?_
    refine aj_getfv (v := r) 26 fl_Bench_72 (dx d_Bench_run 11 rfl) rfl hb.1 (by first | exact (bf_suite hb) | ((repeat (first | rw [aj_up_ne _ _ _ (by omega)] | rw [aj_up_ni _ _ _ (by omega)])); exact (bf_suite hb))) ?_
    refine aj_aload_n 0 27 (dx d_Bench_run 12 rfl) rfl rfl rfl ?_
    refine aj_getfv (v := 41) 30 fl_Bench_43 (dx d_Bench_run 13 rfl) rfl hb.1 (by first | exact (bf_implementation hb) | ((repeat (first | rw [aj_up_ne _ _ _ (by omega)] | rw [aj_up_ni _ _ _ (by omega)])); exact (bf_implementation hb))) ?_
    refine aj_callV2 33 cl_Bench_199 (dx d_Bench_run 14 rfl) rfl rfl rfl rfl rfl rfl hO.2.2.2.2.2.2.2.1.1 (k_Trial_firstFailure hr.1 hsr t5 hs1.2.1 hO.2.2.2.2.2.2.2.1 hs1.2.2.2.2.1 hs1.2.2.2.2.2 (fun g1 t ht hF hG hne hlt => ?_) (fun g1 hF hall => ?_))
    · have hb1 : bnO sh g1 r r2 := bnO_of hb (fun j _ => by rw [hF 0 (by omega) (by omega)])
      have hsr1 : sus sh g1 r k := sus_of hsr (fun j _ => by rw [hF r (by omega) (by omega)])
      have hts := trS_of hO.2.2.2.2.2.2.2.1 (hF 53 (by omega) (by omega))
      have hT1 : sT g1 r k c W mnx (lvF S k 20 []) := sT_of t5 (by rw [hF r (by omega) (by omega)]) (by rw [hF r (by omega) (by omega)]) (fun j _ => hF _ (by omega) (by omega))
      have hff := ffw_lt (D := (dD ix io mnx mou)) (lvF S k 20 [])[t]
      have hl18 := (sT_t t5 ht).2
      have hT8 := t5.2.2.2.2.2
      change aj_wp _ _ _ _ _ _ _ _ _ _ _ _ _ _
      refine aj_istore_n 1 34 (dx d_Bench_run 15 rfl) rfl rfl rfl ?_
      simp only [List.set]
      refine aj_aload_n 0 35 (dx d_Bench_run 16 rfl) rfl rfl rfl ?_
      refine aj_iload_n 1 36 (dx d_Bench_run 17 rfl) rfl rfl rfl ?_
      refine aj_iconst 37 (dx d_Bench_run 18 rfl) rfl ?_
      refine aj_icmp_ne 44 40 (dx d_Bench_run 19 rfl) rfl rfl (by unfold aj_I; omega) (by unfold aj_I; omega) (fun h37 => ?_) (fun h37 => ?_)
      · refine aj_aload_n 0 45 (dx d_Bench_run 22 rfl) rfl rfl rfl ?_
        refine aj_getfv (v := 53) 48 fl_Bench_56 (dx d_Bench_run 23 rfl) rfl hb1.1 (by first | exact (bf_trial hb1) | ((repeat (first | rw [aj_up_ne _ _ _ (by omega)] | rw [aj_up_ni _ _ _ (by omega)])); exact (bf_trial hb1))) ?_
        refine aj_aload_n 0 49 (dx d_Bench_run 24 rfl) rfl rfl rfl ?_
        refine aj_getfv (v := r) 52 fl_Bench_72 (dx d_Bench_run 25 rfl) rfl hb1.1 (by first | exact (bf_suite hb1) | ((repeat (first | rw [aj_up_ne _ _ _ (by omega)] | rw [aj_up_ni _ _ _ (by omega)])); exact (bf_suite hb1))) ?_
        refine aj_iload_n 1 53 (dx d_Bench_run 26 rfl) rfl rfl rfl ?_
        refine aj_callV2 56 cl_Bench_203 (dx d_Bench_run 27 rfl) rfl rfl rfl rfl rfl rfl hts.1 (k_Trial_placeOf hr.1 hsr1 hT1 hts hG ht ?_)
        change aj_wp _ _ _ _ _ _ _ _ _ _ _ _ _ _
        refine aj_putf 59 (pl_Bench_87 _) (dx d_Bench_run 28 rfl) rfl hb1.1 (aj_fitI _) ?_
        refine aj_iload_n 1 60 (dx d_Bench_run 29 rfl) rfl rfl rfl ?_
        refine aj_iret (dx d_Bench_run 30 rfl) rfl id ?_
        have hci := cI_free (g1 := g1) hI0 (fun r' a b _ => hF r' a b) (fun j _ => by rw [hF r2 (by omega) (by omega)])
        have hg0 : g1 0 = g 0 := hF 0 (by omega) (by omega)
        refine hk _ _ _ (fun r' h => by rw [aj_up_ne _ _ _ (by omega)]; exact hF r' (by omega) (by omega)) (Or.inl ⟨t, ht, rfl, rfl, hne, hlt⟩) (cI_num hci (fun _ => rfl) (fun r' h => aj_up_ne _ _ _ h) (fun j hj => aj_up_ni _ _ _ (by omega)) ⟨?_, ns0, ?_, nz, aj_up_self _ _ _ _, (by unfold aj_I; omega), ?_, nhd, fun h => ?_⟩ ⟨fun h => by omega, fun _ => t7⟩)
        · rw [aj_up_ni _ _ _ (by omega), hg0]; exact n9
        · rw [aj_up_ni _ _ _ (by omega), hg0]; exact n10
        · rw [aj_up_ni _ _ _ (by omega), hg0]; exact n12
        · rw [aj_up_ni _ _ _ (by omega), hg0]; exact n13 h
      · exact absurd h37 (by omega)
    · have hb1 : bnO sh g1 r r2 := bnO_of hb (fun j _ => by rw [hF 0 (by omega) (by omega)])
      have hsr1 : sus sh g1 r k := sus_of hsr (fun j _ => by rw [hF r (by omega) (by omega)])
      have hts := trS_of hO.2.2.2.2.2.2.2.1 (hF 53 (by omega) (by omega))
      change aj_wp _ _ _ _ _ _ _ _ _ _ _ _ _ _
      refine aj_istore_n 1 34 (dx d_Bench_run 15 rfl) rfl rfl rfl ?_
      simp only [List.set]
      refine aj_aload_n 0 35 (dx d_Bench_run 16 rfl) rfl rfl rfl ?_
      refine aj_iload_n 1 36 (dx d_Bench_run 17 rfl) rfl rfl rfl ?_
      refine aj_iconst 37 (dx d_Bench_run 18 rfl) rfl ?_
      refine aj_icmp_ne 44 40 (dx d_Bench_run 19 rfl) rfl rfl (by unfold aj_I; omega) (by unfold aj_I; omega) (fun h37 => ?_) (fun h37 => ?_)
      · exact absurd rfl h37
      · refine aj_iconst 41 (dx d_Bench_run 20 rfl) rfl ?_
        refine aj_goto 56 (dx d_Bench_run 21 rfl) rfl ?_
        refine aj_putf 59 (pl_Bench_87 _) (dx d_Bench_run 28 rfl) rfl hb1.1 (aj_fitI _) ?_
        refine aj_iload_n 1 60 (dx d_Bench_run 29 rfl) rfl rfl rfl ?_
        refine aj_iret (dx d_Bench_run 30 rfl) rfl id ?_
        have hci := cI_free (g1 := g1) hI0 (fun r' a b _ => hF r' a b) (fun j _ => by rw [hF r2 (by omega) (by omega)])
        have hg0 : g1 0 = g 0 := hF 0 (by omega) (by omega)
        refine hk _ _ _ (fun r' h => by rw [aj_up_ne _ _ _ (by omega)]; exact hF r' (by omega) (by omega)) (Or.inr ⟨rfl, rfl, hall⟩) (cI_num hci (fun _ => rfl) (fun r' h => aj_up_ne _ _ _ h) (fun j hj => aj_up_ni _ _ _ (by omega)) ⟨?_, ns0, ?_, nz, aj_up_self _ _ _ _, (by unfold aj_I; omega), ?_, nhd, fun h => ?_⟩ ⟨fun h => by omega, fun _ => t7⟩)
        · rw [aj_up_ni _ _ _ (by omega), hg0]; exact n9
        · rw [aj_up_ni _ _ _ (by omega), hg0]; exact n10
        · rw [aj_up_ni _ _ _ (by omega), hg0]; exact n12
        · rw [aj_up_ni _ _ _ (by omega), hg0]; exact n13 h
  · exact absurd (if_e0 h7) (by have := t5.2.1.1; omega)
set_option maxHeartbeats 8000000 in
theorem k_Bench_run_T {al : Prop} {X : Option (Nat × (Int → Int))} {d : Nat} {sh : List aj_S} {g : aj_G} {Q : aj_R → List aj_S → aj_G → Prop} {r r2 : Int} {k n s0 : Nat} {nx ou : Nat → Nat → Nat} {z : Int} {tw : Nat → Nat} {N : Nat} {q : nb_T} {mnx mou : Nat → Nat → Nat} {mi : Nat} {ix io : Nat → Nat → Nat} {w : List Nat} {v : Int} {S : List Nat → Prop} {fp hd hp : Int} (hI : cI sh g r r2 k n s0 nx ou z tw N q mnx mou mi ix io w v S fp hd hp) (hal : ¬ al) (hv : v = 0) (hk1 : Q (.inr 1) sh g) : aj_wp nE al al X m_Bench_run (d + 6) 1 6 0 [some (1, 0), none] [] sh g Q := by
  have hI0 := hI
  obtain ⟨hb, ⟨n9, ns0, n10, nz, n11, nfp, n12, nhd, n13⟩, ⟨hm1, hn1, hn8, hk3⟩, hO, hW, hU, hS, hT⟩ := hI
  have hr := bnO_r hb
  have hsr : sus sh g r k := by
    rcases hr.1 with e | e <;> subst e
    · exact hO.2.2.2.2.2.2.2.2.1
    · exact hO.2.2.2.2.2.2.2.2.2
  have hsr2 : sus sh g r2 k := by
    rcases hr.2.1 with e | e <;> subst e
    · exact hO.2.2.2.2.2.2.2.2.1
    · exact hO.2.2.2.2.2.2.2.2.2
  obtain ⟨t2, t3, t4⟩ : g r 12 = 0 ∧ g r 13 = 0 ∧ hd = -1 := by
    rcases hT with ⟨-, t⟩ | ⟨t1, -⟩
    · exact t
    · omega
  refine aj_aload_n 0 1 (dx d_Bench_run 0 rfl) rfl rfl rfl ?_
  refine aj_getfv (v := r) 4 fl_Bench_72 (dx d_Bench_run 1 rfl) rfl hb.1 (by first | exact (bf_suite hb) | ((repeat (first | rw [aj_up_ne _ _ _ (by omega)] | rw [aj_up_ni _ _ _ (by omega)])); exact (bf_suite hb))) ?_
  refine aj_callV0 (bc1 := 0) (bc2 := 1) (bs1 := 0) (bs2 := 6) 7 cl_Bench_195 (dx d_Bench_run 2 rfl) rfl rfl rfl rfl rfl rfl hsr.1 (k_Suite_isMade (mnx := mnx) hsr t2 (by unfold aj_I; omega) ?_)
  change aj_wp _ _ _ _ _ _ _ _ _ _ _ _ _ _
  refine aj_if_ne 18 10 (dx d_Bench_run 3 rfl) rfl rfl if_I (fun h7 => ?_) (fun h7 => ?_)
  · exact absurd (if_n0 h7) (by omega)
  · refine aj_throw th_ISE (dx d_Bench_run 4 rfl) (dx d_Bench_run 5 rfl) (dx d_Bench_run 6 rfl) (dx d_Bench_run 7 rfl) rfl hal (by omega) (by omega) (by omega) ?_
    exact hk1
set_option maxHeartbeats 8000000 in
theorem k_Bench_tellInput {al : Prop} {X : Option (Nat × (Int → Int))} {d : Nat} {sh : List aj_S} {g : aj_G} {Q : aj_R → List aj_S → aj_G → Prop} {r r2 : Int} {k c : Nat} {W : Nat → List Nat} {mnx : Nat → Nat → Nat} {T : List (List Nat)} (hb : bnO sh g r r2) (hsr : sus sh g r k) (t5 : sT g r k c W mnx T) {t j : Nat} (h12 : g 0 12 = (t : Nat)) (h13 : g 0 13 = (j : Nat)) (ht : t < T.length) (hj : j ≤ T[t].length) (hk1 : ∀ h : j < T[t].length, Q (.inl (some (0, (T[t][T[t].length - 1 - j] : Int)))) sh g) (hk0 : j = T[t].length → Q (.inl (some (0, -1))) sh (aj_up g 0 12 (-1))) : aj_wp nE al al X m_Bench_tellInput (d + 3) 0 0 0 [some (1, 0)] [] sh g Q := by
  have hl18 := (sT_t t5 ht).2
  refine aj_aload_n 0 1 (dx d_Bench_tellInput 0 rfl) rfl rfl rfl ?_
  refine aj_getfv (v := (j : Int)) 4 fl_Bench_93 (dx d_Bench_tellInput 1 rfl) rfl hb.1 (by first | exact h13 | ((repeat (first | rw [aj_up_ne _ _ _ (by omega)] | rw [aj_up_ni _ _ _ (by omega)])); exact h13)) ?_
  refine aj_aload_n 0 5 (dx d_Bench_tellInput 2 rfl) rfl rfl rfl ?_
  refine aj_getfv (v := r) 8 fl_Bench_72 (dx d_Bench_tellInput 3 rfl) rfl hb.1 (by first | exact (bf_suite hb) | ((repeat (first | rw [aj_up_ne _ _ _ (by omega)] | rw [aj_up_ni _ _ _ (by omega)])); exact (bf_suite hb))) ?_
  refine aj_aload_n 0 9 (dx d_Bench_tellInput 4 rfl) rfl rfl rfl ?_
  refine aj_getfv (v := (t : Int)) 12 fl_Bench_90 (dx d_Bench_tellInput 5 rfl) rfl hb.1 (by first | exact h12 | ((repeat (first | rw [aj_up_ne _ _ _ (by omega)] | rw [aj_up_ni _ _ _ (by omega)])); exact h12)) ?_
  refine aj_callV1 15 cl_Bench_183 (dx d_Bench_tellInput 6 rfl) rfl rfl rfl rfl rfl rfl hsr.1 (k_Suite_lengthOf hsr t5 ht ?_)
  change aj_wp _ _ _ _ _ _ _ _ _ _ _ _ _ _
  refine aj_icmp_ge 34 18 (dx d_Bench_tellInput 7 rfl) rfl rfl (by unfold aj_I; omega) (by unfold aj_I; omega) (fun h15 => ?_) (fun h15 => ?_)
  · refine aj_aload_n 0 35 (dx d_Bench_tellInput 16 rfl) rfl rfl rfl ?_
    refine aj_iconst 36 (dx d_Bench_tellInput 17 rfl) rfl ?_
    refine aj_putf 39 (pl_Bench_90 _) (dx d_Bench_tellInput 18 rfl) rfl hb.1 (aj_fitI _) ?_
    refine aj_iconst 40 (dx d_Bench_tellInput 19 rfl) rfl ?_
    refine aj_iret (dx d_Bench_tellInput 20 rfl) rfl id ?_
    exact hk0 (by omega)
  · refine aj_aload_n 0 19 (dx d_Bench_tellInput 8 rfl) rfl rfl rfl ?_
    refine aj_getfv (v := r) 22 fl_Bench_72 (dx d_Bench_tellInput 9 rfl) rfl hb.1 (by first | exact (bf_suite hb) | ((repeat (first | rw [aj_up_ne _ _ _ (by omega)] | rw [aj_up_ni _ _ _ (by omega)])); exact (bf_suite hb))) ?_
    refine aj_aload_n 0 23 (dx d_Bench_tellInput 10 rfl) rfl rfl rfl ?_
    refine aj_getfv (v := (t : Int)) 26 fl_Bench_90 (dx d_Bench_tellInput 11 rfl) rfl hb.1 (by first | exact h12 | ((repeat (first | rw [aj_up_ne _ _ _ (by omega)] | rw [aj_up_ni _ _ _ (by omega)])); exact h12)) ?_
    refine aj_aload_n 0 27 (dx d_Bench_tellInput 12 rfl) rfl rfl rfl ?_
    refine aj_getfv (v := (j : Int)) 30 fl_Bench_93 (dx d_Bench_tellInput 13 rfl) rfl hb.1 (by first | exact h13 | ((repeat (first | rw [aj_up_ne _ _ _ (by omega)] | rw [aj_up_ni _ _ _ (by omega)])); exact h13)) ?_
    refine aj_callV2 33 cl_Bench_189 (dx d_Bench_tellInput 14 rfl) rfl rfl rfl rfl rfl rfl hsr.1 (k_Suite_inputAt hsr t5 ht (show j < T[t].length by omega) ?_)
    change aj_wp _ _ _ _ _ _ _ _ _ _ _ _ _ _
    refine aj_iret (dx d_Bench_tellInput 15 rfl) rfl id ?_
    exact hk1 (by omega)
set_option maxHeartbeats 8000000 in
theorem k_Bench_begin {al : Prop} {X : Option (Nat × (Int → Int))} {d : Nat} {sh : List aj_S} {g : aj_G} {Q : aj_R → List aj_S → aj_G → Prop} {r r2 : Int} {k n s0 : Nat} {nx ou : Nat → Nat → Nat} {z : Int} {tw : Nat → Nat} {N : Nat} {q : nb_T} {mnx mou : Nat → Nat → Nat} {mi : Nat} {ix io : Nat → Nat → Nat} {w : List Nat} {v : Int} {S : List Nat → Prop} {fp hd hp : Int} (hI : cI sh g r r2 k n s0 nx ou z tw N q mnx mou mi ix io w v S fp hd hp) {s : Int} (x1 : aj_I s) (hv : v = 1) (hok : 0 ≤ s ∧ s < ((lvF S k 20 []).length : Int)) (hk : ∀ g1 : aj_G, fr78 g g1 → cI sh g1 r r2 k n s0 nx ou z tw N q mnx mou mi ix io w v S fp (s) (0) → Q (.inl (some (0, (ltr ((lvF S k 20 []).getD s.toNat []) 0 : Int)))) sh g1) : aj_wp nE al al X m_Bench_begin (d + 6) 0 0 0 [some (1, 0), some (0, s)] [] sh g Q := by
  have hI0 := hI
  obtain ⟨hb, ⟨n9, ns0, n10, nz, n11, nfp, n12, nhd, n13⟩, ⟨hm1, hn1, hn8, hk3⟩, hO, hW, hU, hS, hT⟩ := hI
  have hr := bnO_r hb
  have hsr : sus sh g r k := by
    rcases hr.1 with e | e <;> subst e
    · exact hO.2.2.2.2.2.2.2.2.1
    · exact hO.2.2.2.2.2.2.2.2.2
  have hsr2 : sus sh g r2 k := by
    rcases hr.2.1 with e | e <;> subst e
    · exact hO.2.2.2.2.2.2.2.2.1
    · exact hO.2.2.2.2.2.2.2.2.2
  obtain ⟨t2, t3, ⟨c, W, t5, t6⟩, t7⟩ : z = 1 ∧ (∃ a, a < k ∧ S [a]) ∧ (∃ (c : Nat) (W : Nat → List Nat), sT g r k c W mnx (lvF S k 20 []) ∧ ∀ u, pr c W u ↔ S u) ∧ hnO (lvF S k 20 []) hd hp := by
    rcases hT with ⟨t1, -⟩ | ⟨-, t⟩
    · omega
    · exact t
  have hs1 := hS t2
  have hT8 := t5.2.2.2.2.2
  obtain ⟨t, rfl⟩ := Int.eq_ofNat_of_zero_le hok.1
  have ht : t < (lvF S k 20 []).length := by omega
  have hpos := lv_ne t3 t ht
  have hgd : (lvF S k 20 []).getD t [] = (lvF S k 20 [])[t] := by rw [List.getD_eq_getElem?_getD, List.getElem?_eq_getElem ht]; rfl
  rw [Int.toNat_natCast, hgd] at hk
  refine aj_aload_n 0 1 (dx d_Bench_begin 0 rfl) rfl rfl rfl ?_
  refine aj_getfv (v := r) 4 fl_Bench_72 (dx d_Bench_begin 1 rfl) rfl hb.1 (by first | exact (bf_suite hb) | ((repeat (first | rw [aj_up_ne _ _ _ (by omega)] | rw [aj_up_ni _ _ _ (by omega)])); exact (bf_suite hb))) ?_
  refine aj_iload_n 1 5 (dx d_Bench_begin 2 rfl) rfl rfl rfl ?_
  refine aj_callV1 8 cl_Bench_180 (dx d_Bench_begin 3 rfl) rfl rfl rfl rfl rfl rfl hsr.1 (k_Suite_hasTest (mnx := mnx) hsr t5.2.2.2.2.1.1 (by have := t5.2.2.2.2.2; unfold aj_I; omega) x1 ?_)
  change aj_wp _ _ _ _ _ _ _ _ _ _ _ _ _ _
  refine aj_if_ne 19 11 (dx d_Bench_begin 4 rfl) rfl rfl if_I (fun h8 => ?_) (fun h8 => ?_)
  · refine aj_aload_n 0 20 (dx d_Bench_begin 9 rfl) rfl rfl rfl ?_
    refine aj_iload_n 1 21 (dx d_Bench_begin 10 rfl) rfl rfl rfl ?_
    refine aj_putf 24 (pl_Bench_90 _) (dx d_Bench_begin 11 rfl) rfl hb.1 (aj_fitI _) ?_
    refine aj_aload_n 0 25 (dx d_Bench_begin 12 rfl) rfl rfl rfl ?_
    refine aj_iconst 26 (dx d_Bench_begin 13 rfl) rfl ?_
    refine aj_putf 29 (pl_Bench_93 _) (dx d_Bench_begin 14 rfl) rfl hb.1 (aj_fitI _) ?_
    refine aj_aload_n 0 30 (dx d_Bench_begin 15 rfl) rfl rfl rfl ?_
    refine aj_callV0 33 cl_Bench_207 (dx d_Bench_begin 16 rfl) rfl rfl rfl rfl rfl rfl hb.1 (k_Bench_tellInput (r := r) (r2 := r2) (t := t) (j := 0) (bnO_of hb (fun j _ => by rw [aj_up_ni _ _ _ (by omega), aj_up_ni _ _ _ (by omega)])) (sus_of hsr (fun j _ => by rw [aj_up_ne _ _ _ (by omega), aj_up_ne _ _ _ (by omega)])) (sT_of t5 (by rw [aj_up_ne _ _ _ (by omega), aj_up_ne _ _ _ (by omega)]) (by rw [aj_up_ne _ _ _ (by omega), aj_up_ne _ _ _ (by omega)]) (fun j _ => by rw [aj_up_ne _ _ _ (by omega), aj_up_ne _ _ _ (by omega)])) (by rw [aj_up_ni _ _ _ (by omega), aj_up_self]) (by rw [aj_up_self]; rfl) ht (Nat.zero_le _) (fun h => ?_) (fun h => absurd h (by omega)))
    change aj_wp _ _ _ _ _ _ _ _ _ _ _ _ _ _
    refine aj_iret (dx d_Bench_begin 17 rfl) rfl id ?_
    rw [← ltr_eq hpos]
    refine hk _ (fun r' h => by rw [aj_up_ne _ _ _ (by omega), aj_up_ne _ _ _ (by omega)]) (cI_num hI0 (fun _ => rfl) (fun r' h => by rw [aj_up_ne _ _ _ h, aj_up_ne _ _ _ h]) (fun j hj => by rw [aj_up_ni _ _ _ (by omega), aj_up_ni _ _ _ (by omega)]) ⟨by rw [aj_up_ni _ _ _ (by omega), aj_up_ni _ _ _ (by omega)]; exact n9, ns0, by rw [aj_up_ni _ _ _ (by omega), aj_up_ni _ _ _ (by omega)]; exact n10, nz, by rw [aj_up_ni _ _ _ (by omega), aj_up_ni _ _ _ (by omega)]; exact n11, nfp, by rw [aj_up_ni _ _ _ (by omega), aj_up_self], by unfold aj_I; omega, fun _ => aj_up_self _ _ _ _⟩ ⟨fun h => by omega, fun _ => Or.inr ⟨t, 0, ht, rfl, rfl, hpos⟩⟩)
  · exact absurd hok (if_e0 h8)
set_option maxHeartbeats 8000000 in
theorem k_Bench_begin_T {al : Prop} {X : Option (Nat × (Int → Int))} {d : Nat} {sh : List aj_S} {g : aj_G} {Q : aj_R → List aj_S → aj_G → Prop} {r r2 : Int} {k n s0 : Nat} {nx ou : Nat → Nat → Nat} {z : Int} {tw : Nat → Nat} {N : Nat} {q : nb_T} {mnx mou : Nat → Nat → Nat} {mi : Nat} {ix io : Nat → Nat → Nat} {w : List Nat} {v : Int} {S : List Nat → Prop} {fp hd hp : Int} (hI : cI sh g r r2 k n s0 nx ou z tw N q mnx mou mi ix io w v S fp hd hp) (hal : ¬ al) {s : Int} (x1 : aj_I s) (hbad : ¬ (v = 1 ∧ 0 ≤ s ∧ s < ((lvF S k 20 []).length : Int))) (hk1 : Q (.inr 0) sh g) : aj_wp nE al al X m_Bench_begin (d + 6) 1 6 0 [some (1, 0), some (0, s)] [] sh g Q := by
  have hI0 := hI
  obtain ⟨hb, ⟨n9, ns0, n10, nz, n11, nfp, n12, nhd, n13⟩, ⟨hm1, hn1, hn8, hk3⟩, hO, hW, hU, hS, hT⟩ := hI
  have hr := bnO_r hb
  have hsr : sus sh g r k := by
    rcases hr.1 with e | e <;> subst e
    · exact hO.2.2.2.2.2.2.2.2.1
    · exact hO.2.2.2.2.2.2.2.2.2
  have hsr2 : sus sh g r2 k := by
    rcases hr.2.1 with e | e <;> subst e
    · exact hO.2.2.2.2.2.2.2.2.1
    · exact hO.2.2.2.2.2.2.2.2.2
  rcases hT with ⟨t1, t2, t3, t4⟩ | ⟨t1, t2, t3, ⟨c, W, t5, t6⟩, t7⟩
  · refine aj_aload_n 0 1 (dx d_Bench_begin 0 rfl) rfl rfl rfl ?_
    refine aj_getfv (v := r) 4 fl_Bench_72 (dx d_Bench_begin 1 rfl) rfl hb.1 (by first | exact (bf_suite hb) | ((repeat (first | rw [aj_up_ne _ _ _ (by omega)] | rw [aj_up_ni _ _ _ (by omega)])); exact (bf_suite hb))) ?_
    refine aj_iload_n 1 5 (dx d_Bench_begin 2 rfl) rfl rfl rfl ?_
    refine aj_callV1 (bc1 := 0) (bc2 := 1) (bs1 := 0) (bs2 := 6) 8 cl_Bench_180 (dx d_Bench_begin 3 rfl) rfl rfl rfl rfl rfl rfl hsr.1 (k_Suite_hasTest (mnx := mnx) hsr t3 (by unfold aj_I; omega) x1 ?_)
    change aj_wp _ _ _ _ _ _ _ _ _ _ _ _ _ _
    refine aj_if_ne 19 11 (dx d_Bench_begin 4 rfl) rfl rfl if_I (fun h8 => ?_) (fun h8 => ?_)
    · exact absurd (if_n0 h8) (by omega)
    · refine aj_throw th_IAE (dx d_Bench_begin 5 rfl) (dx d_Bench_begin 6 rfl) (dx d_Bench_begin 7 rfl) (dx d_Bench_begin 8 rfl) rfl hal (by omega) (by omega) (by omega) ?_
      exact hk1
  · refine aj_aload_n 0 1 (dx d_Bench_begin 0 rfl) rfl rfl rfl ?_
    refine aj_getfv (v := r) 4 fl_Bench_72 (dx d_Bench_begin 1 rfl) rfl hb.1 (by first | exact (bf_suite hb) | ((repeat (first | rw [aj_up_ne _ _ _ (by omega)] | rw [aj_up_ni _ _ _ (by omega)])); exact (bf_suite hb))) ?_
    refine aj_iload_n 1 5 (dx d_Bench_begin 2 rfl) rfl rfl rfl ?_
    refine aj_callV1 (bc1 := 0) (bc2 := 1) (bs1 := 0) (bs2 := 6) 8 cl_Bench_180 (dx d_Bench_begin 3 rfl) rfl rfl rfl rfl rfl rfl hsr.1 (k_Suite_hasTest (mnx := mnx) hsr t5.2.2.2.2.1.1 (by have := t5.2.2.2.2.2; unfold aj_I; omega) x1 ?_)
    change aj_wp _ _ _ _ _ _ _ _ _ _ _ _ _ _
    refine aj_if_ne 19 11 (dx d_Bench_begin 4 rfl) rfl rfl if_I (fun h8 => ?_) (fun h8 => ?_)
    · exact absurd ⟨t1, if_n0 h8⟩ hbad
    · refine aj_throw th_IAE (dx d_Bench_begin 5 rfl) (dx d_Bench_begin 6 rfl) (dx d_Bench_begin 7 rfl) (dx d_Bench_begin 8 rfl) rfl hal (by omega) (by omega) (by omega) ?_
      exact hk1
set_option maxHeartbeats 8000000 in
theorem k_Bench_give {al : Prop} {X : Option (Nat × (Int → Int))} {d : Nat} {sh : List aj_S} {g : aj_G} {Q : aj_R → List aj_S → aj_G → Prop} {r r2 : Int} {k n s0 : Nat} {nx ou : Nat → Nat → Nat} {z : Int} {tw : Nat → Nat} {N : Nat} {q : nb_T} {mnx mou : Nat → Nat → Nat} {mi : Nat} {ix io : Nat → Nat → Nat} {w : List Nat} {v : Int} {S : List Nat → Prop} {fp hd hp : Int} (hI : cI sh g r r2 k n s0 nx ou z tw N q mnx mou mi ix io w v S fp hd hp) {s : Int} (x1 : aj_I s) (hv : v = 1) (hok : 0 ≤ s ∧ s < 4) {t j : Nat} (ht : t < (lvF S k 20 []).length) (hhd : hd = (t : Nat)) (hhp : hp = (j : Nat)) (hj : j < (lvF S k 20 [])[t].length) (hk3 : ∀ g1 : aj_G, s ≠ (eo mnx mou 0 ((lvF S k 20 [])[t].drop ((lvF S k 20 [])[t].length - 1 - j)) : Int) → fr78 g g1 → cI sh g1 r r2 k n s0 nx ou z tw N q mnx mou mi ix io w v S fp (-1) hp → Q (.inl (some (0, -2))) sh g1)
    (hk4 : ∀ g1 : aj_G, s = (eo mnx mou 0 ((lvF S k 20 [])[t].drop ((lvF S k 20 [])[t].length - 1 - j)) : Int) → j + 1 = (lvF S k 20 [])[t].length → fr78 g g1 → cI sh g1 r r2 k n s0 nx ou z tw N q mnx mou mi ix io w v S fp (-1) hp → Q (.inl (some (0, -1))) sh g1)
    (hk5 : ∀ g1 : aj_G, s = (eo mnx mou 0 ((lvF S k 20 [])[t].drop ((lvF S k 20 [])[t].length - 1 - j)) : Int) → j + 1 < (lvF S k 20 [])[t].length → fr78 g g1 → cI sh g1 r r2 k n s0 nx ou z tw N q mnx mou mi ix io w v S fp hd ((j : Int) + 1) → Q (.inl (some (0, (ltr (lvF S k 20 [])[t] (j + 1) : Int)))) sh g1) : aj_wp nE al al X m_Bench_give (d + 6) 0 0 0 [some (1, 0), some (0, s)] [] sh g Q := by
  have hI0 := hI
  obtain ⟨hb, ⟨n9, ns0, n10, nz, n11, nfp, n12, nhd, n13⟩, ⟨hm1, hn1, hn8, hk3⟩, hO, hW, hU, hS, hT⟩ := hI
  have hr := bnO_r hb
  have hsr : sus sh g r k := by
    rcases hr.1 with e | e <;> subst e
    · exact hO.2.2.2.2.2.2.2.2.1
    · exact hO.2.2.2.2.2.2.2.2.2
  have hsr2 : sus sh g r2 k := by
    rcases hr.2.1 with e | e <;> subst e
    · exact hO.2.2.2.2.2.2.2.2.1
    · exact hO.2.2.2.2.2.2.2.2.2
  obtain ⟨t2, t3, ⟨c, W, t5, t6⟩, t7⟩ : z = 1 ∧ (∃ a, a < k ∧ S [a]) ∧ (∃ (c : Nat) (W : Nat → List Nat), sT g r k c W mnx (lvF S k 20 []) ∧ ∀ u, pr c W u ↔ S u) ∧ hnO (lvF S k 20 []) hd hp := by
    rcases hT with ⟨t1, -⟩ | ⟨-, t⟩
    · omega
    · exact t
  have hs1 := hS t2
  have hT8 := t5.2.2.2.2.2
  subst hhd hhp
  have hl18 := (sT_t t5 ht).2
  have hoI : aj_I (eo mnx mou 0 ((lvF S k 20 [])[t].drop ((lvF S k 20 [])[t].length - 1 - j)) : Int) := by
    have hok2 := (sT_t t5 ht).1
    rw [drop_s hj]
    have hok3 : wd_ok k ((lvF S k 20 [])[t][((lvF S k 20 [])[t].length - 1 - j)] :: (lvF S k 20 [])[t].drop ((lvF S k 20 [])[t].length - j)) := by
      rw [← drop_s hj]
      exact fun i hi => hok2 i (List.mem_of_mem_drop hi)
    have hb4 := (hs1.2.1.1.2.2.2.2.2.2 _ _ (rn_lt (fun s i h1 h2 => (hs1.2.1.1.2.2.2.2.2.2 s i h1 h2).2.2.1) hs1.2.1.2.2.1 _ (wd_ok_cons.mp hok3).2) (wd_ok_cons.mp hok3).1).2.2.2
    show aj_I ((mou _ _ : Nat) : Int)
    unfold aj_I
    omega
  refine aj_aload_n 0 1 (dx d_Bench_give 0 rfl) rfl rfl rfl ?_
  refine aj_getfv (v := (t : Int)) 4 fl_Bench_90 (dx d_Bench_give 1 rfl) rfl hb.1 (by first | exact n12 | ((repeat (first | rw [aj_up_ne _ _ _ (by omega)] | rw [aj_up_ni _ _ _ (by omega)])); exact n12)) ?_
  refine aj_iconst 5 (dx d_Bench_give 2 rfl) rfl ?_
  refine aj_icmp_ne 16 8 (dx d_Bench_give 3 rfl) rfl rfl (by unfold aj_I; omega) (by unfold aj_I; omega) (fun h5 => ?_) (fun h5 => ?_)
  · refine aj_aload_n 0 17 (dx d_Bench_give 8 rfl) rfl rfl rfl ?_
    refine aj_getfv (v := 1) 20 fl_Bench_23 (dx d_Bench_give 9 rfl) rfl hb.1 (by first | exact (bf_specification hb) | ((repeat (first | rw [aj_up_ne _ _ _ (by omega)] | rw [aj_up_ni _ _ _ (by omega)])); exact (bf_specification hb))) ?_
    refine aj_iload_n 1 21 (dx d_Bench_give 10 rfl) rfl rfl rfl ?_
    refine aj_callV1 24 cl_Bench_211 (dx d_Bench_give 11 rfl) rfl rfl rfl rfl rfl rfl hm1.1.1 (k_Machine_hasOutput x1 ?_)
    change aj_wp _ _ _ _ _ _ _ _ _ _ _ _ _ _
    refine aj_if_ne 35 27 (dx d_Bench_give 12 rfl) rfl rfl if_I (fun h24 => ?_) (fun h24 => ?_)
    · refine aj_iload_n 1 36 (dx d_Bench_give 17 rfl) rfl rfl rfl ?_
      refine aj_aload_n 0 37 (dx d_Bench_give 18 rfl) rfl rfl rfl ?_
      refine aj_getfv (v := r) 40 fl_Bench_72 (dx d_Bench_give 19 rfl) rfl hb.1 (by first | exact (bf_suite hb) | ((repeat (first | rw [aj_up_ne _ _ _ (by omega)] | rw [aj_up_ni _ _ _ (by omega)])); exact (bf_suite hb))) ?_
      refine aj_aload_n 0 41 (dx d_Bench_give 20 rfl) rfl rfl rfl ?_
      refine aj_getfv (v := (t : Int)) 44 fl_Bench_90 (dx d_Bench_give 21 rfl) rfl hb.1 (by first | exact n12 | ((repeat (first | rw [aj_up_ne _ _ _ (by omega)] | rw [aj_up_ni _ _ _ (by omega)])); exact n12)) ?_
      refine aj_aload_n 0 45 (dx d_Bench_give 22 rfl) rfl rfl rfl ?_
      refine aj_getfv (v := (j : Int)) 48 fl_Bench_93 (dx d_Bench_give 23 rfl) rfl hb.1 (by first | exact (n13 (by omega)) | ((repeat (first | rw [aj_up_ne _ _ _ (by omega)] | rw [aj_up_ni _ _ _ (by omega)])); exact (n13 (by omega)))) ?_
      refine aj_callV2 51 cl_Bench_186 (dx d_Bench_give 24 rfl) rfl rfl rfl rfl rfl rfl hsr.1 (k_Suite_outputAt hsr t5 hs1.2.1 ht hj ?_)
      change aj_wp _ _ _ _ _ _ _ _ _ _ _ _ _ _
      refine aj_icmp_eq 62 54 (dx d_Bench_give 25 rfl) rfl rfl x1 hoI (fun h51 => ?_) (fun h51 => ?_)
      · refine aj_aload_n 0 63 (dx d_Bench_give 31 rfl) rfl rfl rfl ?_
        refine aj_dup 64 (dx d_Bench_give 32 rfl) rfl rfl ?_
        refine aj_getfv (v := (j : Int)) 67 fl_Bench_93 (dx d_Bench_give 33 rfl) rfl hb.1 (by first | exact (n13 (by omega)) | ((repeat (first | rw [aj_up_ne _ _ _ (by omega)] | rw [aj_up_ni _ _ _ (by omega)])); exact (n13 (by omega)))) ?_
        refine aj_iconst 68 (dx d_Bench_give 34 rfl) rfl ?_
        refine aj_iadd 69 (dx d_Bench_give 35 rfl) rfl ?_
        refine aj_putf 72 (pl_Bench_93 _) (dx d_Bench_give 36 rfl) rfl hb.1 (aj_fitI _) ?_
        refine aj_aload_n 0 73 (dx d_Bench_give 37 rfl) rfl rfl rfl ?_
        refine aj_callV0 76 cl_Bench_207 (dx d_Bench_give 38 rfl) rfl rfl rfl rfl rfl rfl hb.1 (k_Bench_tellInput (r := r) (r2 := r2) (t := t) (j := j + 1) (bnO_of hb (fun j _ => by rw [aj_up_ni _ _ _ (by omega)])) (sus_of hsr (fun j _ => by rw [aj_up_ne _ _ _ (by omega)])) (sT_of t5 (by rw [aj_up_ne _ _ _ (by omega)]) (by rw [aj_up_ne _ _ _ (by omega)]) (fun j _ => by rw [aj_up_ne _ _ _ (by omega)])) (by rw [aj_up_ni _ _ _ (by omega)]; exact n12) (by rw [aj_up_self]; push_cast; rfl) ht (by omega) (fun h => ?_) (fun h => ?_))
        · change aj_wp _ _ _ _ _ _ _ _ _ _ _ _ _ _
          refine aj_iret (dx d_Bench_give 39 rfl) rfl id ?_
          rw [← ltr_eq h]
          refine hk5 _ h51 h (fun r' h => by rw [aj_up_ne _ _ _ (by omega)]) (cI_num hI0 (fun _ => rfl) (fun r' h => by rw [aj_up_ne _ _ _ h]) (fun j hj => by rw [aj_up_ni _ _ _ (by omega)]) ⟨by rw [aj_up_ni _ _ _ (by omega)]; exact n9, ns0, by rw [aj_up_ni _ _ _ (by omega)]; exact n10, nz, by rw [aj_up_ni _ _ _ (by omega)]; exact n11, nfp, by rw [aj_up_ni _ _ _ (by omega)]; exact n12, by unfold aj_I; omega, fun _ => aj_up_self _ _ _ _⟩ ⟨fun h => by omega, fun _ => Or.inr ⟨t, j + 1, ht, rfl, by push_cast; rfl, h⟩⟩)
        · change aj_wp _ _ _ _ _ _ _ _ _ _ _ _ _ _
          refine aj_iret (dx d_Bench_give 39 rfl) rfl id ?_
          refine hk4 _ h51 h (fun r' h => by rw [aj_up_ne _ _ _ (by omega), aj_up_ne _ _ _ (by omega)]) (cI_num hI0 (fun _ => rfl) (fun r' h => by rw [aj_up_ne _ _ _ h, aj_up_ne _ _ _ h]) (fun j hj => by rw [aj_up_ni _ _ _ (by omega), aj_up_ni _ _ _ (by omega)]) ⟨by rw [aj_up_ni _ _ _ (by omega), aj_up_ni _ _ _ (by omega)]; exact n9, ns0, by rw [aj_up_ni _ _ _ (by omega), aj_up_ni _ _ _ (by omega)]; exact n10, nz, by rw [aj_up_ni _ _ _ (by omega), aj_up_ni _ _ _ (by omega)]; exact n11, nfp, aj_up_self _ _ _ _, by unfold aj_I; omega, fun h => absurd h (by decide)⟩ ⟨fun h => by omega, fun _ => Or.inl rfl⟩)
      · refine aj_aload_n 0 55 (dx d_Bench_give 26 rfl) rfl rfl rfl ?_
        refine aj_iconst 56 (dx d_Bench_give 27 rfl) rfl ?_
        refine aj_putf 59 (pl_Bench_90 _) (dx d_Bench_give 28 rfl) rfl hb.1 (aj_fitI _) ?_
        refine aj_bipush 61 (dx d_Bench_give 29 rfl) rfl (by decide +kernel) ?_
        refine aj_iret (dx d_Bench_give 30 rfl) rfl id ?_
        refine hk3 _ h51 (fun r' h => by rw [aj_up_ne _ _ _ (by omega)]) (cI_num hI0 (fun _ => rfl) (fun r' h => by rw [aj_up_ne _ _ _ h]) (fun j hj => by rw [aj_up_ni _ _ _ (by omega)]) ⟨by rw [aj_up_ni _ _ _ (by omega)]; exact n9, ns0, by rw [aj_up_ni _ _ _ (by omega)]; exact n10, nz, by rw [aj_up_ni _ _ _ (by omega)]; exact n11, nfp, aj_up_self _ _ _ _, by unfold aj_I; omega, fun h => absurd h (by decide)⟩ ⟨fun h => by omega, fun _ => Or.inl rfl⟩)
    · exact absurd hok (if_e0 h24)
  · exact absurd h5 (by omega)
set_option maxHeartbeats 8000000 in
theorem k_Bench_give_T {al : Prop} {X : Option (Nat × (Int → Int))} {d : Nat} {sh : List aj_S} {g : aj_G} {Q : aj_R → List aj_S → aj_G → Prop} {r r2 : Int} {k n s0 : Nat} {nx ou : Nat → Nat → Nat} {z : Int} {tw : Nat → Nat} {N : Nat} {q : nb_T} {mnx mou : Nat → Nat → Nat} {mi : Nat} {ix io : Nat → Nat → Nat} {w : List Nat} {v : Int} {S : List Nat → Prop} {fp hd hp : Int} (hI : cI sh g r r2 k n s0 nx ou z tw N q mnx mou mi ix io w v S fp hd hp) (hal : ¬ al) {s : Int} (x1 : aj_I s) (hbad : ¬ hd = -1 → ¬ (0 ≤ s ∧ s < 4)) (hk1 : hd = -1 → Q (.inr 1) sh g) (hk2 : ¬ hd = -1 → ¬ (0 ≤ s ∧ s < 4) → Q (.inr 0) sh g) : aj_wp nE al al X m_Bench_give (d + 6) 1 6 0 [some (1, 0), some (0, s)] [] sh g Q := by
  have hI0 := hI
  obtain ⟨hb, ⟨n9, ns0, n10, nz, n11, nfp, n12, nhd, n13⟩, ⟨hm1, hn1, hn8, hk3⟩, hO, hW, hU, hS, hT⟩ := hI
  have hr := bnO_r hb
  refine aj_aload_n 0 1 (dx d_Bench_give 0 rfl) rfl rfl rfl ?_
  refine aj_getfv (v := hd) 4 fl_Bench_90 (dx d_Bench_give 1 rfl) rfl hb.1 (by first | exact n12 | ((repeat (first | rw [aj_up_ne _ _ _ (by omega)] | rw [aj_up_ni _ _ _ (by omega)])); exact n12)) ?_
  refine aj_iconst 5 (dx d_Bench_give 2 rfl) rfl ?_
  refine aj_icmp_ne 16 8 (dx d_Bench_give 3 rfl) rfl rfl nhd (by unfold aj_I; omega) (fun h5 => ?_) (fun h5 => ?_)
  · refine aj_aload_n 0 17 (dx d_Bench_give 8 rfl) rfl rfl rfl ?_
    refine aj_getfv (v := 1) 20 fl_Bench_23 (dx d_Bench_give 9 rfl) rfl hb.1 (by first | exact (bf_specification hb) | ((repeat (first | rw [aj_up_ne _ _ _ (by omega)] | rw [aj_up_ni _ _ _ (by omega)])); exact (bf_specification hb))) ?_
    refine aj_iload_n 1 21 (dx d_Bench_give 10 rfl) rfl rfl rfl ?_
    refine aj_callV1 (bc1 := 0) (bc2 := 1) (bs1 := 0) (bs2 := 6) 24 cl_Bench_211 (dx d_Bench_give 11 rfl) rfl rfl rfl rfl rfl rfl hm1.1.1 (k_Machine_hasOutput x1 ?_)
    change aj_wp _ _ _ _ _ _ _ _ _ _ _ _ _ _
    refine aj_if_ne 35 27 (dx d_Bench_give 12 rfl) rfl rfl if_I (fun h24 => ?_) (fun h24 => ?_)
    · exact absurd (if_n0 h24) (hbad h5)
    · refine aj_throw th_IAE (dx d_Bench_give 13 rfl) (dx d_Bench_give 14 rfl) (dx d_Bench_give 15 rfl) (dx d_Bench_give 16 rfl) rfl hal (by omega) (by omega) (by omega) ?_
      exact hk2 h5 (if_e0 h24)
  · refine aj_throw th_ISE (dx d_Bench_give 4 rfl) (dx d_Bench_give 5 rfl) (dx d_Bench_give 6 rfl) (dx d_Bench_give 7 rfl) rfl hal (by omega) (by omega) (by omega) ?_
    exact hk1 h5
