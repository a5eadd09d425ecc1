/-! Model: edge, start, minimal, apart, word, family, own, change, look, failed -/
theorem mmm_th {sh : List aj_S} {g : aj_G} {k n : Nat} {nx ou : Nat → Nat → Nat} (x : Int) (h : mmm sh g k n nx ou) : mmm sh (aj_up g 78 0 x) k n nx ou := mmm_of h (fun j hj => by rw [aj_up_ni _ _ _ (by unfold mo_fin at hj; omega)]) (aj_up_ne _ _ _ (by omega)) (aj_up_ne _ _ _ (by omega))
theorem tdm_th {g g1 : aj_G} {k n : Nat} {nx ou : Nat → Nat → Nat} (h : tdm g k n nx ou) (e : g1 81 = g 81) : tdm g1 k n nx ou := by unfold tdm; rw [e]; exact h
section ASK
variable {al : Prop} {X : Option (Nat × (Int → Int))} {d : Nat} {sh : List aj_S} {g : aj_G} {Q : aj_R → List aj_S → aj_G → Prop} {s : Int} {k n : Nat} {nx ou : Nat → Nat → Nat}
theorem k_isS (hM : mmm sh g k n nx ou) (hx : aj_I s) (h1 : 0 ≤ s ∧ s < n → Q (.inl (some (0, 1))) sh g) (h0 : ¬ (0 ≤ s ∧ s < n) → Q (.inl (some (0, 0))) sh g) : aj_wp nE al al X m_Model_isState d 0 0 0 [some (1, 78), some (0, s)] [] sh g Q := by
  by_cases c : 0 ≤ s ∧ s < n
  · exact k_Model_isState hM hx (by rw [if_pos c]; exact h1 c)
  · exact k_Model_isState hM hx (by rw [if_neg c]; exact h0 c)
theorem k_isI (hM : mmm sh g k n nx ou) (hx : aj_I s) (h1 : 0 ≤ s ∧ s < k → Q (.inl (some (0, 1))) sh g) (h0 : ¬ (0 ≤ s ∧ s < k) → Q (.inl (some (0, 0))) sh g) : aj_wp nE al al X m_Model_isInput d 0 0 0 [some (1, 78), some (0, s)] [] sh g Q := by
  by_cases c : 0 ≤ s ∧ s < k
  · exact k_Model_isInput hM hx (by rw [if_pos c]; exact h1 c)
  · exact k_Model_isInput hM hx (by rw [if_neg c]; exact h0 c)
theorem k_isO (hx : aj_I s) (h1 : 0 ≤ s ∧ s < 4 → Q (.inl (some (0, 1))) sh g) (h0 : ¬ (0 ≤ s ∧ s < 4) → Q (.inl (some (0, 0))) sh g) : aj_wp nE al al X m_Model_isOutput d 0 0 0 [some (0, s)] [] sh g Q := by
  by_cases c : 0 ≤ s ∧ s < 4
  · exact k_Model_isOutput hx (by rw [if_pos c]; exact h1 c)
  · exact k_Model_isOutput hx (by rw [if_neg c]; exact h0 c)
end ASK
set_option maxHeartbeats 4000000 in
theorem k_Model_edge {al : Prop} {X : Option (Nat × (Int → Int))} {d : Nat} {sh : List aj_S} {g : aj_G} {Q : aj_R → List aj_S → aj_G → Prop} {k n : Nat} {nx ou : Nat → Nat → Nat} {z : Int} (hM : mmm sh g k n nx ou) (hse : g 78 6 = z) (hz : z = 0 ∨ z = 1) {s i t u : Int} (hs : aj_I s) (hi : aj_I i) (ht : aj_I t) (hu : aj_I u) (hk1 : ¬ ((0 ≤ s ∧ s < n) ∧ (0 ≤ i ∧ i < k) ∧ (0 ≤ t ∧ t < n) ∧ (0 ≤ u ∧ u < 4)) → Q (.inl none) sh (aj_up g 78 0 1)) (hk2 : (0 ≤ s ∧ s < n) ∧ (0 ≤ i ∧ i < k) ∧ (0 ≤ t ∧ t < n) ∧ (0 ≤ u ∧ u < 4) → z = 1 → Q (.inl none) sh (aj_up g 78 0 2)) (hk0 : (0 ≤ s ∧ s < n) ∧ (0 ≤ i ∧ i < k) ∧ (0 ≤ t ∧ t < n) ∧ (0 ≤ u ∧ u < 4) → z = 0 → Q (.inl none) sh (aj_up (aj_up (aj_up g 78 0 0) 79 (3 * s + i) t) 80 (3 * s + i) u)) : aj_wp nE al al X m_Model_edge (d + 1) 0 0 0 [some (1, 78), some (0, s), some (0, i), some (0, t), some (0, u)] [] sh g Q := by
  have hk4 := hM.2.2.2.1
  have hn8 := hM.2.2.2.2.1
  refine aj_aload_n 0 1 (dx d_Model_edge 0 rfl) rfl rfl rfl ?_
  refine aj_aload_n 0 2 (dx d_Model_edge 1 rfl) rfl rfl rfl ?_
  refine aj_iload_n 1 3 (dx d_Model_edge 2 rfl) rfl rfl rfl ?_
  refine aj_callV1 6 cl_Model_95 (dx d_Model_edge 3 rfl) rfl rfl rfl rfl rfl rfl hM.1.1 (k_isS hM hs (fun c1 => ?_) (fun c1 => ?_))
  · change aj_wp _ _ _ _ _ _ _ _ _ _ _ _ _ _
    refine aj_if_eq 33 9 (dx d_Model_edge 4 rfl) rfl rfl (by unfold aj_I; omega) (fun h6 => ?_) (fun h6 => ?_)
    · exact absurd h6 (by decide)
    · refine aj_aload_n 0 10 (dx d_Model_edge 5 rfl) rfl rfl rfl ?_
      refine aj_iload_n 2 11 (dx d_Model_edge 6 rfl) rfl rfl rfl ?_
      refine aj_callV1 14 cl_Model_99 (dx d_Model_edge 7 rfl) rfl rfl rfl rfl rfl rfl hM.1.1 (k_isI hM hi (fun c2 => ?_) (fun c2 => ?_))
      · change aj_wp _ _ _ _ _ _ _ _ _ _ _ _ _ _
        refine aj_if_eq 33 17 (dx d_Model_edge 8 rfl) rfl rfl (by unfold aj_I; omega) (fun h14 => ?_) (fun h14 => ?_)
        · exact absurd h14 (by decide)
        · refine aj_aload_n 0 18 (dx d_Model_edge 9 rfl) rfl rfl rfl ?_
          refine aj_iload_n 3 19 (dx d_Model_edge 10 rfl) rfl rfl rfl ?_
          refine aj_callV1 22 cl_Model_95 (dx d_Model_edge 11 rfl) rfl rfl rfl rfl rfl rfl hM.1.1 (k_isS hM ht (fun c3 => ?_) (fun c3 => ?_))
          · change aj_wp _ _ _ _ _ _ _ _ _ _ _ _ _ _
            refine aj_if_eq 33 25 (dx d_Model_edge 12 rfl) rfl rfl (by unfold aj_I; omega) (fun h22 => ?_) (fun h22 => ?_)
            · exact absurd h22 (by decide)
            · refine aj_iload 4 27 (dx d_Model_edge 13 rfl) rfl rfl ?_
              refine aj_callS1 30 cl_Model_102 (dx d_Model_edge 14 rfl) rfl rfl rfl rfl rfl rfl (k_isO hu (fun c4 => ?_) (fun c4 => ?_))
              · change aj_wp _ _ _ _ _ _ _ _ _ _ _ _ _ _
                refine aj_if_ne 37 33 (dx d_Model_edge 15 rfl) rfl rfl (by unfold aj_I; omega) (fun h30 => ?_) (fun h30 => ?_)
                · refine aj_aload_n 0 38 (dx d_Model_edge 18 rfl) rfl rfl rfl ?_
                  refine aj_getfv (v := z) 41 fl_Model_105 (dx d_Model_edge 19 rfl) rfl hM.1.1 (by first | exact hse | (simp [aj_up_at]; exact hse)) ?_
                  refine aj_if_eq 48 44 (dx d_Model_edge 20 rfl) rfl rfl (by unfold aj_I; omega) (fun h41 => ?_) (fun h41 => ?_)
                  · refine aj_iconst 49 (dx d_Model_edge 23 rfl) rfl ?_
                    refine aj_putf 52 (pl_Model_92 _) (dx d_Model_edge 24 rfl) rfl hM.1.1 (aj_fitI _) ?_
                    refine aj_aload_n 0 53 (dx d_Model_edge 25 rfl) rfl rfl rfl ?_
                    refine aj_getf 56 fl_Model_92 (dx d_Model_edge 26 rfl) rfl hM.1.1 ?_
                    rw [show aj_up g 78 0 0 78 0 = 0 by rw [aj_up_self]]
                    refine aj_if_ne 82 59 (dx d_Model_edge 27 rfl) rfl rfl (by unfold aj_I; omega) (fun h56 => ?_) (fun h56 => ?_)
                    · exact absurd rfl h56
                    · refine aj_aload_n 0 60 (dx d_Model_edge 28 rfl) rfl rfl rfl ?_
                      refine aj_getfv (v := 79) 63 fl_Model_7 (dx d_Model_edge 29 rfl) rfl hM.1.1 (by first | exact mf_next hM.1 | (simp [aj_up_at]; exact mf_next hM.1) | exact mf_next (by assumption)) ?_
                      refine aj_iconst 64 (dx d_Model_edge 30 rfl) rfl ?_
                      refine aj_iload_n 1 65 (dx d_Model_edge 31 rfl) rfl rfl rfl ?_
                      refine aj_imul 66 (dx d_Model_edge 32 rfl) rfl ?_
                      refine aj_iload_n 2 67 (dx d_Model_edge 33 rfl) rfl rfl rfl ?_
                      refine aj_iadd 68 (dx d_Model_edge 34 rfl) rfl ?_
                      refine aj_iload_n 3 69 (dx d_Model_edge 35 rfl) rfl rfl rfl ?_
                      refine aj_iast 70 (dx d_Model_edge 36 rfl) rfl (ms_next hM.1) rfl (by omega) (by omega) ?_
                      refine aj_aload_n 0 71 (dx d_Model_edge 37 rfl) rfl rfl rfl ?_
                      refine aj_getfv (v := 80) 74 fl_Model_13 (dx d_Model_edge 38 rfl) rfl hM.1.1 (by first | exact mf_output hM.1 | (simp [aj_up_at]; exact mf_output hM.1) | exact mf_output (by assumption)) ?_
                      refine aj_iconst 75 (dx d_Model_edge 39 rfl) rfl ?_
                      refine aj_iload_n 1 76 (dx d_Model_edge 40 rfl) rfl rfl rfl ?_
                      refine aj_imul 77 (dx d_Model_edge 41 rfl) rfl ?_
                      refine aj_iload_n 2 78 (dx d_Model_edge 42 rfl) rfl rfl rfl ?_
                      refine aj_iadd 79 (dx d_Model_edge 43 rfl) rfl ?_
                      refine aj_iload 4 81 (dx d_Model_edge 44 rfl) rfl rfl ?_
                      refine aj_iast 82 (dx d_Model_edge 45 rfl) rfl (ms_output hM.1) rfl (by omega) (by omega) ?_
                      refine aj_vret (dx d_Model_edge 46 rfl) rfl id ?_
                      exact hk0 (by omega) (by omega)
                  · refine aj_iconst 45 (dx d_Model_edge 21 rfl) rfl ?_
                    refine aj_goto 49 (dx d_Model_edge 22 rfl) rfl ?_
                    refine aj_putf 52 (pl_Model_92 _) (dx d_Model_edge 24 rfl) rfl hM.1.1 (aj_fitI _) ?_
                    refine aj_aload_n 0 53 (dx d_Model_edge 25 rfl) rfl rfl rfl ?_
                    refine aj_getf 56 fl_Model_92 (dx d_Model_edge 26 rfl) rfl hM.1.1 ?_
                    rw [show aj_up g 78 0 2 78 0 = 2 by rw [aj_up_self]]
                    refine aj_if_ne 82 59 (dx d_Model_edge 27 rfl) rfl rfl (by unfold aj_I; omega) (fun h56 => ?_) (fun h56 => ?_)
                    · refine aj_vret (dx d_Model_edge 46 rfl) rfl id ?_
                      exact hk2 (by omega) (by omega)
                    · exact absurd h56 (by decide)
                · exact absurd h30 (by decide)
              · change aj_wp _ _ _ _ _ _ _ _ _ _ _ _ _ _
                refine aj_if_ne 37 33 (dx d_Model_edge 15 rfl) rfl rfl (by unfold aj_I; omega) (fun h30 => ?_) (fun h30 => ?_)
                · exact absurd rfl h30
                · refine aj_iconst 34 (dx d_Model_edge 16 rfl) rfl ?_
                  refine aj_goto 49 (dx d_Model_edge 17 rfl) rfl ?_
                  refine aj_putf 52 (pl_Model_92 _) (dx d_Model_edge 24 rfl) rfl hM.1.1 (aj_fitI _) ?_
                  refine aj_aload_n 0 53 (dx d_Model_edge 25 rfl) rfl rfl rfl ?_
                  refine aj_getf 56 fl_Model_92 (dx d_Model_edge 26 rfl) rfl hM.1.1 ?_
                  rw [show aj_up g 78 0 1 78 0 = 1 by rw [aj_up_self]]
                  refine aj_if_ne 82 59 (dx d_Model_edge 27 rfl) rfl rfl (by unfold aj_I; omega) (fun h56 => ?_) (fun h56 => ?_)
                  · refine aj_vret (dx d_Model_edge 46 rfl) rfl id ?_
                    exact hk1 (by omega)
                  · exact absurd h56 (by decide)
          · change aj_wp _ _ _ _ _ _ _ _ _ _ _ _ _ _
            refine aj_if_eq 33 25 (dx d_Model_edge 12 rfl) rfl rfl (by unfold aj_I; omega) (fun h22 => ?_) (fun h22 => ?_)
            · refine aj_iconst 34 (dx d_Model_edge 16 rfl) rfl ?_
              refine aj_goto 49 (dx d_Model_edge 17 rfl) rfl ?_
              refine aj_putf 52 (pl_Model_92 _) (dx d_Model_edge 24 rfl) rfl hM.1.1 (aj_fitI _) ?_
              refine aj_aload_n 0 53 (dx d_Model_edge 25 rfl) rfl rfl rfl ?_
              refine aj_getf 56 fl_Model_92 (dx d_Model_edge 26 rfl) rfl hM.1.1 ?_
              rw [show aj_up g 78 0 1 78 0 = 1 by rw [aj_up_self]]
              refine aj_if_ne 82 59 (dx d_Model_edge 27 rfl) rfl rfl (by unfold aj_I; omega) (fun h56 => ?_) (fun h56 => ?_)
              · refine aj_vret (dx d_Model_edge 46 rfl) rfl id ?_
                exact hk1 (by omega)
              · exact absurd h56 (by decide)
            · exact absurd rfl h22
      · change aj_wp _ _ _ _ _ _ _ _ _ _ _ _ _ _
        refine aj_if_eq 33 17 (dx d_Model_edge 8 rfl) rfl rfl (by unfold aj_I; omega) (fun h14 => ?_) (fun h14 => ?_)
        · refine aj_iconst 34 (dx d_Model_edge 16 rfl) rfl ?_
          refine aj_goto 49 (dx d_Model_edge 17 rfl) rfl ?_
          refine aj_putf 52 (pl_Model_92 _) (dx d_Model_edge 24 rfl) rfl hM.1.1 (aj_fitI _) ?_
          refine aj_aload_n 0 53 (dx d_Model_edge 25 rfl) rfl rfl rfl ?_
          refine aj_getf 56 fl_Model_92 (dx d_Model_edge 26 rfl) rfl hM.1.1 ?_
          rw [show aj_up g 78 0 1 78 0 = 1 by rw [aj_up_self]]
          refine aj_if_ne 82 59 (dx d_Model_edge 27 rfl) rfl rfl (by unfold aj_I; omega) (fun h56 => ?_) (fun h56 => ?_)
          · refine aj_vret (dx d_Model_edge 46 rfl) rfl id ?_
            exact hk1 (by omega)
          · exact absurd h56 (by decide)
        · exact absurd rfl h14
  · change aj_wp _ _ _ _ _ _ _ _ _ _ _ _ _ _
    refine aj_if_eq 33 9 (dx d_Model_edge 4 rfl) rfl rfl (by unfold aj_I; omega) (fun h6 => ?_) (fun h6 => ?_)
    · refine aj_iconst 34 (dx d_Model_edge 16 rfl) rfl ?_
      refine aj_goto 49 (dx d_Model_edge 17 rfl) rfl ?_
      refine aj_putf 52 (pl_Model_92 _) (dx d_Model_edge 24 rfl) rfl hM.1.1 (aj_fitI _) ?_
      refine aj_aload_n 0 53 (dx d_Model_edge 25 rfl) rfl rfl rfl ?_
      refine aj_getf 56 fl_Model_92 (dx d_Model_edge 26 rfl) rfl hM.1.1 ?_
      rw [show aj_up g 78 0 1 78 0 = 1 by rw [aj_up_self]]
      refine aj_if_ne 82 59 (dx d_Model_edge 27 rfl) rfl rfl (by unfold aj_I; omega) (fun h56 => ?_) (fun h56 => ?_)
      · refine aj_vret (dx d_Model_edge 46 rfl) rfl id ?_
        exact hk1 (by omega)
      · exact absurd h56 (by decide)
    · exact absurd rfl h6
set_option maxHeartbeats 4000000 in
theorem k_Model_start {al : Prop} {X : Option (Nat × (Int → Int))} {d : Nat} {sh : List aj_S} {g : aj_G} {Q : aj_R → List aj_S → aj_G → Prop} {k n : Nat} {nx ou : Nat → Nat → Nat} {z : Int} (hM : mmm sh g k n nx ou) (hse : g 78 6 = z) (hz : z = 0 ∨ z = 1) {s : Int} (hs : aj_I s) (hk1 : ¬ (0 ≤ s ∧ s < n) → Q (.inl none) sh (aj_up (aj_up g 78 0 1) 78 5 (g 78 5))) (hk2 : (0 ≤ s ∧ s < n) → z = 1 → Q (.inl none) sh (aj_up (aj_up g 78 0 2) 78 5 (g 78 5))) (hk0 : (0 ≤ s ∧ s < n) → z = 0 → Q (.inl none) sh (aj_up (aj_up g 78 0 0) 78 5 s)) : aj_wp nE al al X m_Model_start (d + 1) 0 0 0 [some (1, 78), some (0, s)] [] sh g Q := by
  refine aj_aload_n 0 1 (dx d_Model_start 0 rfl) rfl rfl rfl ?_
  refine aj_aload_n 0 2 (dx d_Model_start 1 rfl) rfl rfl rfl ?_
  refine aj_iload_n 1 3 (dx d_Model_start 2 rfl) rfl rfl rfl ?_
  refine aj_callV1 6 cl_Model_95 (dx d_Model_start 3 rfl) rfl rfl rfl rfl rfl rfl hM.1.1 (k_isS hM hs (fun c1 => ?_) (fun c1 => ?_))
  · change aj_wp _ _ _ _ _ _ _ _ _ _ _ _ _ _
    refine aj_if_ne 13 9 (dx d_Model_start 4 rfl) rfl rfl (by unfold aj_I; omega) (fun h6 => ?_) (fun h6 => ?_)
    · refine aj_aload_n 0 14 (dx d_Model_start 7 rfl) rfl rfl rfl ?_
      refine aj_getfv (v := z) 17 fl_Model_105 (dx d_Model_start 8 rfl) rfl hM.1.1 (by first | exact hse | (simp [aj_up_at]; exact hse)) ?_
      refine aj_if_eq 24 20 (dx d_Model_start 9 rfl) rfl rfl (by unfold aj_I; omega) (fun h17 => ?_) (fun h17 => ?_)
      · refine aj_iconst 25 (dx d_Model_start 12 rfl) rfl ?_
        refine aj_putf 28 (pl_Model_92 _) (dx d_Model_start 13 rfl) rfl hM.1.1 (aj_fitI _) ?_
        refine aj_aload_n 0 29 (dx d_Model_start 14 rfl) rfl rfl rfl ?_
        refine aj_aload_n 0 30 (dx d_Model_start 15 rfl) rfl rfl rfl ?_
        refine aj_getf 33 fl_Model_92 (dx d_Model_start 16 rfl) rfl hM.1.1 ?_
        rw [show aj_up g 78 0 0 78 0 = 0 by rw [aj_up_self]]
        refine aj_if_ne 40 36 (dx d_Model_start 17 rfl) rfl rfl (by unfold aj_I; omega) (fun h33 => ?_) (fun h33 => ?_)
        · exact absurd rfl h33
        · refine aj_iload_n 1 37 (dx d_Model_start 18 rfl) rfl rfl rfl ?_
          refine aj_goto 44 (dx d_Model_start 19 rfl) rfl ?_
          refine aj_putf 47 (pl_Model_109 _) (dx d_Model_start 22 rfl) rfl hM.1.1 (aj_fitI _) ?_
          refine aj_vret (dx d_Model_start 23 rfl) rfl id ?_
          exact hk0 (by omega) (by omega)
      · refine aj_iconst 21 (dx d_Model_start 10 rfl) rfl ?_
        refine aj_goto 25 (dx d_Model_start 11 rfl) rfl ?_
        refine aj_putf 28 (pl_Model_92 _) (dx d_Model_start 13 rfl) rfl hM.1.1 (aj_fitI _) ?_
        refine aj_aload_n 0 29 (dx d_Model_start 14 rfl) rfl rfl rfl ?_
        refine aj_aload_n 0 30 (dx d_Model_start 15 rfl) rfl rfl rfl ?_
        refine aj_getf 33 fl_Model_92 (dx d_Model_start 16 rfl) rfl hM.1.1 ?_
        rw [show aj_up g 78 0 2 78 0 = 2 by rw [aj_up_self]]
        refine aj_if_ne 40 36 (dx d_Model_start 17 rfl) rfl rfl (by unfold aj_I; omega) (fun h33 => ?_) (fun h33 => ?_)
        · refine aj_aload_n 0 41 (dx d_Model_start 20 rfl) rfl rfl rfl ?_
          refine aj_getf 44 fl_Model_109 (dx d_Model_start 21 rfl) rfl hM.1.1 ?_
          rw [show aj_up g 78 0 2 78 5 = g 78 5 by rw [aj_up_ni _ _ _ (by omega)]]
          refine aj_putf 47 (pl_Model_109 _) (dx d_Model_start 22 rfl) rfl hM.1.1 (aj_fitI _) ?_
          refine aj_vret (dx d_Model_start 23 rfl) rfl id ?_
          exact hk2 (by omega) (by omega)
        · exact absurd h33 (by decide)
    · exact absurd h6 (by decide)
  · change aj_wp _ _ _ _ _ _ _ _ _ _ _ _ _ _
    refine aj_if_ne 13 9 (dx d_Model_start 4 rfl) rfl rfl (by unfold aj_I; omega) (fun h6 => ?_) (fun h6 => ?_)
    · exact absurd rfl h6
    · refine aj_iconst 10 (dx d_Model_start 5 rfl) rfl ?_
      refine aj_goto 25 (dx d_Model_start 6 rfl) rfl ?_
      refine aj_putf 28 (pl_Model_92 _) (dx d_Model_start 13 rfl) rfl hM.1.1 (aj_fitI _) ?_
      refine aj_aload_n 0 29 (dx d_Model_start 14 rfl) rfl rfl rfl ?_
      refine aj_aload_n 0 30 (dx d_Model_start 15 rfl) rfl rfl rfl ?_
      refine aj_getf 33 fl_Model_92 (dx d_Model_start 16 rfl) rfl hM.1.1 ?_
      rw [show aj_up g 78 0 1 78 0 = 1 by rw [aj_up_self]]
      refine aj_if_ne 40 36 (dx d_Model_start 17 rfl) rfl rfl (by unfold aj_I; omega) (fun h33 => ?_) (fun h33 => ?_)
      · refine aj_aload_n 0 41 (dx d_Model_start 20 rfl) rfl rfl rfl ?_
        refine aj_getf 44 fl_Model_109 (dx d_Model_start 21 rfl) rfl hM.1.1 ?_
        rw [show aj_up g 78 0 1 78 5 = g 78 5 by rw [aj_up_ni _ _ _ (by omega)]]
        refine aj_putf 47 (pl_Model_109 _) (dx d_Model_start 22 rfl) rfl hM.1.1 (aj_fitI _) ?_
        refine aj_vret (dx d_Model_start 23 rfl) rfl id ?_
        exact hk1 (by omega)
      · exact absurd h33 (by decide)
set_option maxHeartbeats 4000000 in
theorem k_Model_minimal {al : Prop} {X : Option (Nat × (Int → Int))} {d : Nat} {sh : List aj_S} {g : aj_G} {Q : aj_R → List aj_S → aj_G → Prop} {k n : Nat} {nx ou : Nat → Nat → Nat} {z : Int} (hM : mmm sh g k n nx ou) (hse : g 78 6 = z) (hz : z = 0 ∨ z = 1) {s : Int} (hs : aj_I s) (hk1 : (0 ≤ s ∧ s < n) → z = 1 → Q (.inl (some (0, g 82 s))) sh (aj_up g 78 0 0)) (hk0 : ¬ (z = 1 ∧ 0 ≤ s ∧ s < n) → Q (.inl (some (0, -1))) sh (aj_up g 78 0 0)) : aj_wp nE al al X m_Model_minimal (d + 1) 0 0 0 [some (1, 78), some (0, s)] [] sh g Q := by
  have hn8 := hM.2.2.2.2.1
  refine aj_aload_n 0 1 (dx d_Model_minimal 0 rfl) rfl rfl rfl ?_
  refine aj_iconst 2 (dx d_Model_minimal 1 rfl) rfl ?_
  refine aj_putf 5 (pl_Model_92 _) (dx d_Model_minimal 2 rfl) rfl hM.1.1 (aj_fitI _) ?_
  refine aj_aload_n 0 6 (dx d_Model_minimal 3 rfl) rfl rfl rfl ?_
  refine aj_getfv (v := z) 9 fl_Model_105 (dx d_Model_minimal 4 rfl) rfl hM.1.1 (by first | exact hse | (simp [aj_up_at]; exact hse)) ?_
  refine aj_if_eq 20 12 (dx d_Model_minimal 5 rfl) rfl rfl (by unfold aj_I; omega) (fun h9 => ?_) (fun h9 => ?_)
  · refine aj_iconst 21 (dx d_Model_minimal 10 rfl) rfl ?_
    refine aj_goto 42 (dx d_Model_minimal 11 rfl) rfl ?_
    refine aj_iret (dx d_Model_minimal 22 rfl) rfl id ?_
    first | exact hk1 (by omega) (by omega) | exact hk0 (by omega)
  · refine aj_aload_n 0 13 (dx d_Model_minimal 6 rfl) rfl rfl rfl ?_
    refine aj_iload_n 1 14 (dx d_Model_minimal 7 rfl) rfl rfl rfl ?_
    refine aj_callV1 17 cl_Model_95 (dx d_Model_minimal 8 rfl) rfl rfl rfl rfl rfl rfl hM.1.1 (k_isS (mmm_th 0 hM) hs (fun c1 => ?_) (fun c1 => ?_))
    · change aj_wp _ _ _ _ _ _ _ _ _ _ _ _ _ _
      refine aj_if_ne 24 20 (dx d_Model_minimal 9 rfl) rfl rfl (by unfold aj_I; omega) (fun h17 => ?_) (fun h17 => ?_)
      · refine aj_aload_n 0 25 (dx d_Model_minimal 12 rfl) rfl rfl rfl ?_
        refine aj_getfv (v := 82) 28 fl_Model_19 (dx d_Model_minimal 13 rfl) rfl hM.1.1 (by first | exact mf_minimalOf hM.1 | (simp [aj_up_at]; exact mf_minimalOf hM.1) | exact mf_minimalOf (by assumption)) ?_
        refine aj_aload_n 0 29 (dx d_Model_minimal 14 rfl) rfl rfl rfl ?_
        refine aj_iload_n 1 30 (dx d_Model_minimal 15 rfl) rfl rfl rfl ?_
        refine aj_callV1 33 cl_Model_95 (dx d_Model_minimal 16 rfl) rfl rfl rfl rfl rfl rfl hM.1.1 (k_isS (mmm_th 0 hM) hs (fun c2 => ?_) (fun c2 => ?_))
        · change aj_wp _ _ _ _ _ _ _ _ _ _ _ _ _ _
          refine aj_if_eq 40 36 (dx d_Model_minimal 17 rfl) rfl rfl (by unfold aj_I; omega) (fun h33 => ?_) (fun h33 => ?_)
          · exact absurd h33 (by decide)
          · refine aj_iload_n 1 37 (dx d_Model_minimal 18 rfl) rfl rfl rfl ?_
            refine aj_goto 41 (dx d_Model_minimal 19 rfl) rfl ?_
            refine aj_iald 42 (dx d_Model_minimal 21 rfl) rfl (ms_minimalOf hM.1) rfl (by omega) (by omega) ?_
            rw [show aj_up g 78 0 0 82 s = g 82 s by rw [aj_up_ne _ _ _ (by omega)]]
            refine aj_iret (dx d_Model_minimal 22 rfl) rfl id ?_
            first | exact hk1 (by omega) (by omega) | exact hk0 (by omega)
        · change aj_wp _ _ _ _ _ _ _ _ _ _ _ _ _ _
          refine aj_if_eq 40 36 (dx d_Model_minimal 17 rfl) rfl rfl (by unfold aj_I; omega) (fun h33 => ?_) (fun h33 => ?_)
          · exact absurd c1 c2
          · exact absurd rfl h33
      · exact absurd h17 (by decide)
    · change aj_wp _ _ _ _ _ _ _ _ _ _ _ _ _ _
      refine aj_if_ne 24 20 (dx d_Model_minimal 9 rfl) rfl rfl (by unfold aj_I; omega) (fun h17 => ?_) (fun h17 => ?_)
      · exact absurd rfl h17
      · refine aj_iconst 21 (dx d_Model_minimal 10 rfl) rfl ?_
        refine aj_goto 42 (dx d_Model_minimal 11 rfl) rfl ?_
        refine aj_iret (dx d_Model_minimal 22 rfl) rfl id ?_
        first | exact hk1 (by omega) (by omega) | exact hk0 (by omega)
set_option maxHeartbeats 4000000 in
theorem k_Model_apart {al : Prop} {X : Option (Nat × (Int → Int))} {d : Nat} {sh : List aj_S} {g : aj_G} {Q : aj_R → List aj_S → aj_G → Prop} {k n : Nat} {nx ou : Nat → Nat → Nat} {z : Int} (hM : mmm sh g k n nx ou) (hse : g 78 6 = z) (hz : z = 0 ∨ z = 1) (hT : z = 1 → tdm g k n nx ou) {s t : Int} (hs : aj_I s) (ht : aj_I t) (hk1 : ¬ ((0 ≤ s ∧ s < n) ∧ (0 ≤ t ∧ t < n)) → Q (.inl (some (0, 0))) sh (aj_up g 78 0 1)) (hk2 : (0 ≤ s ∧ s < n) ∧ (0 ≤ t ∧ t < n) → z = 0 → Q (.inl (some (0, 0))) sh (aj_up g 78 0 2))
    (hk0 : ∀ (s' t' : Nat) (w : List Nat), s = s' → t = t' → s' < n → t' < n → z = 1 → w.length ≤ n → (wd_least k nx ou s' nx ou t' w ∨ (al_k k nx ou s' t' ∧ w = [])) → Q (.inl (some (0, (w.length : Int)))) sh (aj_up (aj_up g 78 0 0) 78 16 (wd_cd w : Nat))) : aj_wp nE al al X m_Model_apart (d + 2) 0 0 0 [some (1, 78), some (0, s), some (0, t)] [] sh g Q := by
  have hk4 := hM.2.2.2.1
  have hn8 := hM.2.2.2.2.1
  refine aj_aload_n 0 1 (dx d_Model_apart 0 rfl) rfl rfl rfl ?_
  refine aj_aload_n 0 2 (dx d_Model_apart 1 rfl) rfl rfl rfl ?_
  refine aj_iload_n 1 3 (dx d_Model_apart 2 rfl) rfl rfl rfl ?_
  refine aj_callV1 6 cl_Model_95 (dx d_Model_apart 3 rfl) rfl rfl rfl rfl rfl rfl hM.1.1 (k_isS hM hs (fun c1 => ?_) (fun c1 => ?_))
  · change aj_wp _ _ _ _ _ _ _ _ _ _ _ _ _ _
    refine aj_if_eq 17 9 (dx d_Model_apart 4 rfl) rfl rfl (by unfold aj_I; omega) (fun h6 => ?_) (fun h6 => ?_)
    · exact absurd h6 (by decide)
    · refine aj_aload_n 0 10 (dx d_Model_apart 5 rfl) rfl rfl rfl ?_
      refine aj_iload_n 2 11 (dx d_Model_apart 6 rfl) rfl rfl rfl ?_
      refine aj_callV1 14 cl_Model_95 (dx d_Model_apart 7 rfl) rfl rfl rfl rfl rfl rfl hM.1.1 (k_isS hM ht (fun c2 => ?_) (fun c2 => ?_))
      · change aj_wp _ _ _ _ _ _ _ _ _ _ _ _ _ _
        refine aj_if_ne 21 17 (dx d_Model_apart 8 rfl) rfl rfl (by unfold aj_I; omega) (fun h14 => ?_) (fun h14 => ?_)
        · refine aj_aload_n 0 22 (dx d_Model_apart 11 rfl) rfl rfl rfl ?_
          refine aj_getfv (v := z) 25 fl_Model_105 (dx d_Model_apart 12 rfl) rfl hM.1.1 (by first | exact hse | (simp [aj_up_at]; exact hse)) ?_
          refine aj_if_ne 32 28 (dx d_Model_apart 13 rfl) rfl rfl (by unfold aj_I; omega) (fun h25 => ?_) (fun h25 => ?_)
          · refine aj_iconst 33 (dx d_Model_apart 16 rfl) rfl ?_
            obtain ⟨s', rfl⟩ : ∃ s' : Nat, s = s' := ⟨s.toNat, by omega⟩
            obtain ⟨t', rfl⟩ : ∃ t' : Nat, t = t' := ⟨t.toNat, by omega⟩
            have hT0 := hT (by omega)
            refine aj_putf 36 (pl_Model_92 _) (dx d_Model_apart 17 rfl) rfl hM.1.1 (aj_fitI _) ?_
            refine aj_aload_n 0 37 (dx d_Model_apart 18 rfl) rfl rfl rfl ?_
            refine aj_getf 40 fl_Model_92 (dx d_Model_apart 19 rfl) rfl hM.1.1 ?_
            rw [show aj_up g 78 0 0 78 0 = 0 by rw [aj_up_self]]
            refine aj_if_le 45 43 (dx d_Model_apart 20 rfl) rfl rfl (by unfold aj_I; omega) (fun h40 => ?_) (fun h40 => ?_)
            · refine aj_aload_n 0 46 (dx d_Model_apart 23 rfl) rfl rfl rfl ?_
              refine aj_aload_n 0 47 (dx d_Model_apart 24 rfl) rfl rfl rfl ?_
              refine aj_iload_n 1 48 (dx d_Model_apart 25 rfl) rfl rfl rfl ?_
              refine aj_iload_n 2 49 (dx d_Model_apart 26 rfl) rfl rfl rfl ?_
              refine aj_callV2 52 cl_Model_140 (dx d_Model_apart 27 rfl) rfl rfl rfl rfl rfl rfl hM.1.1 (k_Model_leastWord (mmm_th 0 hM) (tdm_th hT0 (aj_up_ne _ _ _ (by omega))) (show s' < n by omega) (show t' < n by omega) (fun w hw hwl => ?_) (fun hal => ?_))
              · change aj_wp _ _ _ _ _ _ _ _ _ _ _ _ _ _
                refine aj_putf 55 (pl_Model_38 _) (dx d_Model_apart 28 rfl) rfl hM.1.1 (aj_fitJ _) ?_
                refine aj_aload_n 0 56 (dx d_Model_apart 29 rfl) rfl rfl rfl ?_
                refine aj_getfv (v := 81) 59 fl_Model_16 (dx d_Model_apart 30 rfl) rfl hM.1.1 (by first | exact mf_told hM.1 | (simp [aj_up_at]; exact mf_told hM.1) | exact mf_told (by assumption)) ?_
                refine aj_bipush 61 (dx d_Model_apart 31 rfl) rfl (by decide +kernel) ?_
                refine aj_iload_n 1 62 (dx d_Model_apart 32 rfl) rfl rfl rfl ?_
                refine aj_imul 63 (dx d_Model_apart 33 rfl) rfl ?_
                refine aj_iload_n 2 64 (dx d_Model_apart 34 rfl) rfl rfl rfl ?_
                refine aj_iadd 65 (dx d_Model_apart 35 rfl) rfl ?_
                refine aj_iald 66 (dx d_Model_apart 36 rfl) rfl (ms_told hM.1) rfl (by omega) (by omega) ?_
                rw [show aj_up (aj_up g 78 0 0) 78 16 (wd_cd w : Int) 81 (8 * ((s' : Nat) : Int) + ((t' : Nat) : Int)) = (w.length : Nat) by rw [aj_up_ne _ _ _ (by omega), aj_up_ne _ _ _ (by omega)]; exact (td_iff hT0 (by omega) (by omega) (ln_pos (least_len (by omega) hw))).mpr (least_len (by omega) hw)]
                refine aj_iret (dx d_Model_apart 37 rfl) rfl id ?_
                exact hk0 s' t' w rfl rfl (by omega) (by omega) (by omega) hwl (Or.inl hw)
              · change aj_wp _ _ _ _ _ _ _ _ _ _ _ _ _ _
                refine aj_putf 55 (pl_Model_38 _) (dx d_Model_apart 28 rfl) rfl hM.1.1 (aj_fitJ _) ?_
                refine aj_aload_n 0 56 (dx d_Model_apart 29 rfl) rfl rfl rfl ?_
                refine aj_getfv (v := 81) 59 fl_Model_16 (dx d_Model_apart 30 rfl) rfl hM.1.1 (by first | exact mf_told hM.1 | (simp [aj_up_at]; exact mf_told hM.1) | exact mf_told (by assumption)) ?_
                refine aj_bipush 61 (dx d_Model_apart 31 rfl) rfl (by decide +kernel) ?_
                refine aj_iload_n 1 62 (dx d_Model_apart 32 rfl) rfl rfl rfl ?_
                refine aj_imul 63 (dx d_Model_apart 33 rfl) rfl ?_
                refine aj_iload_n 2 64 (dx d_Model_apart 34 rfl) rfl rfl rfl ?_
                refine aj_iadd 65 (dx d_Model_apart 35 rfl) rfl ?_
                refine aj_iald 66 (dx d_Model_apart 36 rfl) rfl (ms_told hM.1) rfl (by omega) (by omega) ?_
                rw [show aj_up (aj_up g 78 0 0) 78 16 1 81 (8 * ((s' : Nat) : Int) + ((t' : Nat) : Int)) = (([] : List Nat).length : Nat) by rw [aj_up_ne _ _ _ (by omega), aj_up_ne _ _ _ (by omega)]; exact (td_al hT0 (by omega) (by omega)).mpr hal]
                refine aj_iret (dx d_Model_apart 37 rfl) rfl id ?_
                exact hk0 s' t' [] rfl rfl (by omega) (by omega) (by omega) (Nat.zero_le _) (Or.inr ⟨hal, rfl⟩)
            · exact absurd h40 (by decide)
          · refine aj_iconst 29 (dx d_Model_apart 14 rfl) rfl ?_
            refine aj_goto 33 (dx d_Model_apart 15 rfl) rfl ?_
            refine aj_putf 36 (pl_Model_92 _) (dx d_Model_apart 17 rfl) rfl hM.1.1 (aj_fitI _) ?_
            refine aj_aload_n 0 37 (dx d_Model_apart 18 rfl) rfl rfl rfl ?_
            refine aj_getf 40 fl_Model_92 (dx d_Model_apart 19 rfl) rfl hM.1.1 ?_
            rw [show aj_up g 78 0 2 78 0 = 2 by rw [aj_up_self]]
            refine aj_if_le 45 43 (dx d_Model_apart 20 rfl) rfl rfl (by unfold aj_I; omega) (fun h40 => ?_) (fun h40 => ?_)
            · exact absurd h40 (by decide)
            · refine aj_iconst 44 (dx d_Model_apart 21 rfl) rfl ?_
              refine aj_iret (dx d_Model_apart 22 rfl) rfl id ?_
              exact hk2 (by omega) (by omega)
        · exact absurd h14 (by decide)
      · change aj_wp _ _ _ _ _ _ _ _ _ _ _ _ _ _
        refine aj_if_ne 21 17 (dx d_Model_apart 8 rfl) rfl rfl (by unfold aj_I; omega) (fun h14 => ?_) (fun h14 => ?_)
        · exact absurd rfl h14
        · refine aj_iconst 18 (dx d_Model_apart 9 rfl) rfl ?_
          refine aj_goto 33 (dx d_Model_apart 10 rfl) rfl ?_
          refine aj_putf 36 (pl_Model_92 _) (dx d_Model_apart 17 rfl) rfl hM.1.1 (aj_fitI _) ?_
          refine aj_aload_n 0 37 (dx d_Model_apart 18 rfl) rfl rfl rfl ?_
          refine aj_getf 40 fl_Model_92 (dx d_Model_apart 19 rfl) rfl hM.1.1 ?_
          rw [show aj_up g 78 0 1 78 0 = 1 by rw [aj_up_self]]
          refine aj_if_le 45 43 (dx d_Model_apart 20 rfl) rfl rfl (by unfold aj_I; omega) (fun h40 => ?_) (fun h40 => ?_)
          · exact absurd h40 (by decide)
          · refine aj_iconst 44 (dx d_Model_apart 21 rfl) rfl ?_
            refine aj_iret (dx d_Model_apart 22 rfl) rfl id ?_
            exact hk1 (by omega)
  · change aj_wp _ _ _ _ _ _ _ _ _ _ _ _ _ _
    refine aj_if_eq 17 9 (dx d_Model_apart 4 rfl) rfl rfl (by unfold aj_I; omega) (fun h6 => ?_) (fun h6 => ?_)
    · refine aj_iconst 18 (dx d_Model_apart 9 rfl) rfl ?_
      refine aj_goto 33 (dx d_Model_apart 10 rfl) rfl ?_
      refine aj_putf 36 (pl_Model_92 _) (dx d_Model_apart 17 rfl) rfl hM.1.1 (aj_fitI _) ?_
      refine aj_aload_n 0 37 (dx d_Model_apart 18 rfl) rfl rfl rfl ?_
      refine aj_getf 40 fl_Model_92 (dx d_Model_apart 19 rfl) rfl hM.1.1 ?_
      rw [show aj_up g 78 0 1 78 0 = 1 by rw [aj_up_self]]
      refine aj_if_le 45 43 (dx d_Model_apart 20 rfl) rfl rfl (by unfold aj_I; omega) (fun h40 => ?_) (fun h40 => ?_)
      · exact absurd h40 (by decide)
      · refine aj_iconst 44 (dx d_Model_apart 21 rfl) rfl ?_
        refine aj_iret (dx d_Model_apart 22 rfl) rfl id ?_
        exact hk1 (by omega)
    · exact absurd rfl h6
set_option maxHeartbeats 4000000 in
theorem k_Model_word {al : Prop} {X : Option (Nat × (Int → Int))} {d : Nat} {sh : List aj_S} {g : aj_G} {Q : aj_R → List aj_S → aj_G → Prop} {w : List Nat} {i : Int} (hm : mos sh g) (h16 : g 78 16 = (wd_cd w : Nat)) (hw : wd_ok 4 w) (hl : w.length ≤ 24) (hi : aj_I i) (hk1 : ∀ i' : Nat, i = i' → (h : i' < w.length) → Q (.inl (some (0, (w[w.length - 1 - i'] : Int)))) sh (aj_up g 78 0 0)) (hk0 : ¬ (0 ≤ i ∧ i < w.length) → Q (.inl (some (0, -1))) sh (aj_up g 78 0 0)) : aj_wp nE al al X m_Model_word (d + 2) 0 0 0 [some (1, 78), some (0, i)] [] sh g Q := by
  refine aj_aload_n 0 1 (dx d_Model_word 0 rfl) rfl rfl rfl ?_
  refine aj_iconst 2 (dx d_Model_word 1 rfl) rfl ?_
  refine aj_putf 5 (pl_Model_92 _) (dx d_Model_word 2 rfl) rfl hm.1 (aj_fitI _) ?_
  refine aj_iload_n 1 6 (dx d_Model_word 3 rfl) rfl rfl rfl ?_
  refine aj_if_lt 20 9 (dx d_Model_word 4 rfl) rfl rfl hi (fun h6 => ?_) (fun h6 => ?_)
  · refine aj_iconst 21 (dx d_Model_word 10 rfl) rfl ?_
    refine aj_goto 32 (dx d_Model_word 11 rfl) rfl ?_
    refine aj_iret (dx d_Model_word 16 rfl) rfl id ?_
    first | exact hk1 _ rfl (by omega) | exact hk0 (by omega)
  · refine aj_iload_n 1 10 (dx d_Model_word 5 rfl) rfl rfl rfl ?_
    refine aj_aload_n 0 11 (dx d_Model_word 6 rfl) rfl rfl rfl ?_
    refine aj_getfv (v := (wd_cd w : Int)) 14 fl_Model_38 (dx d_Model_word 7 rfl) rfl hm.1 (by first | exact h16 | (simp [aj_up_at]; exact h16)) ?_
    refine aj_callS1 17 cl_Model_112 (dx d_Model_word 8 rfl) rfl rfl rfl rfl rfl rfl (k_Model_length hw hl ?_)
    change aj_wp _ _ _ _ _ _ _ _ _ _ _ _ _ _
    refine aj_icmp_lt 24 20 (dx d_Model_word 9 rfl) rfl rfl hi (by unfold aj_I; omega) (fun h17 => ?_) (fun h17 => ?_)
    · obtain ⟨i', rfl⟩ : ∃ i' : Nat, i = i' := ⟨i.toNat, by omega⟩
      refine aj_aload_n 0 25 (dx d_Model_word 12 rfl) rfl rfl rfl ?_
      refine aj_getfv (v := (wd_cd w : Int)) 28 fl_Model_38 (dx d_Model_word 13 rfl) rfl hm.1 (by first | exact h16 | (simp [aj_up_at]; exact h16)) ?_
      refine aj_iload_n 1 29 (dx d_Model_word 14 rfl) rfl rfl rfl ?_
      refine aj_callS2 32 cl_Model_118 (dx d_Model_word 15 rfl) rfl rfl rfl rfl rfl rfl (k_Model_at hw hl (show i' < w.length by omega) ?_)
      change aj_wp _ _ _ _ _ _ _ _ _ _ _ _ _ _
      refine aj_iret (dx d_Model_word 16 rfl) rfl id ?_
      first | exact hk1 _ rfl (by omega) | exact hk0 (by omega)
    · refine aj_iconst 21 (dx d_Model_word 10 rfl) rfl ?_
      refine aj_goto 32 (dx d_Model_word 11 rfl) rfl ?_
      refine aj_iret (dx d_Model_word 16 rfl) rfl id ?_
      first | exact hk1 _ rfl (by omega) | exact hk0 (by omega)
set_option maxHeartbeats 4000000 in
theorem k_Model_family {al : Prop} {X : Option (Nat × (Int → Int))} {d : Nat} {sh : List aj_S} {g : aj_G} {Q : aj_R → List aj_S → aj_G → Prop} {k c : Nat} {F : Nat → List Nat} {z w i : Int} (hm : mos sh g) (hse : g 78 6 = z) (hz : z = 0 ∨ z = 1) (hF : z = 1 → famM g k c F) (hk4 : k ≤ 4) (hw : aj_I w) (hi : aj_I i) (hk0 : ¬ (z = 1 ∧ -1 ≤ w ∧ w < c) → Q (.inl (some (0, -1))) sh (aj_up g 78 0 0)) (hk1 : z = 1 → w = -1 → Q (.inl (some (0, (c : Int)))) sh (aj_up g 78 0 0))
    (hk2 : ∀ w' : Nat, w = w' → z = 1 → w' < c → i = -1 → Q (.inl (some (0, ((F w').length : Int)))) sh (aj_up g 78 0 0)) (hk3 : ∀ w' i' : Nat, w = w' → i = i' → z = 1 → w' < c → (h : i' < (F w').length) → Q (.inl (some (0, ((F w')[(F w').length - 1 - i'] : Int)))) sh (aj_up g 78 0 0)) (hk4a : ∀ w' : Nat, w = w' → z = 1 → w' < c → i ≠ -1 → ¬ (0 ≤ i ∧ i < (F w').length) → Q (.inl (some (0, -1))) sh (aj_up g 78 0 0)) : aj_wp nE al al X m_Model_family (d + 2) 0 0 0 [some (1, 78), some (0, w), some (0, i)] [] sh g Q := by
  refine aj_aload_n 0 1 (dx d_Model_family 0 rfl) rfl rfl rfl ?_
  refine aj_iconst 2 (dx d_Model_family 1 rfl) rfl ?_
  refine aj_putf 5 (pl_Model_92 _) (dx d_Model_family 2 rfl) rfl hm.1 (aj_fitI _) ?_
  refine aj_aload_n 0 6 (dx d_Model_family 3 rfl) rfl rfl rfl ?_
  refine aj_getfv (v := z) 9 fl_Model_105 (dx d_Model_family 4 rfl) rfl hm.1 (by first | exact hse | (simp [aj_up_at]; exact hse)) ?_
  refine aj_if_eq 25 12 (dx d_Model_family 5 rfl) rfl rfl (by unfold aj_I; omega) (fun h9 => ?_) (fun h9 => ?_)
  · refine aj_iconst 26 (dx d_Model_family 13 rfl) rfl ?_
    refine aj_iret (dx d_Model_family 14 rfl) rfl id ?_
    exact hk0 (by omega)
  · refine aj_iload_n 1 13 (dx d_Model_family 6 rfl) rfl rfl rfl ?_
    refine aj_iconst 14 (dx d_Model_family 7 rfl) rfl ?_
    refine aj_icmp_lt 25 17 (dx d_Model_family 8 rfl) rfl rfl hw (by unfold aj_I; omega) (fun h14 => ?_) (fun h14 => ?_)
    · refine aj_iconst 26 (dx d_Model_family 13 rfl) rfl ?_
      refine aj_iret (dx d_Model_family 14 rfl) rfl id ?_
      exact hk0 (by omega)
    · refine aj_iload_n 1 18 (dx d_Model_family 9 rfl) rfl rfl rfl ?_
      refine aj_aload_n 0 19 (dx d_Model_family 10 rfl) rfl rfl rfl ?_
      refine aj_getfv (v := (c : Int)) 22 fl_Model_133 (dx d_Model_family 11 rfl) rfl hm.1 (by first | exact (hF (by omega)).1 | (simp [aj_up_at]; exact (hF (by omega)).1)) ?_
      refine aj_icmp_lt 27 25 (dx d_Model_family 12 rfl) rfl rfl hw (by have := (hF (by omega)).2.1; unfold aj_I; omega) (fun h22 => ?_) (fun h22 => ?_)
      · refine aj_iload_n 1 28 (dx d_Model_family 15 rfl) rfl rfl rfl ?_
        refine aj_iconst 29 (dx d_Model_family 16 rfl) rfl ?_
        refine aj_icmp_ne 37 32 (dx d_Model_family 17 rfl) rfl rfl hw (by unfold aj_I; omega) (fun h29 => ?_) (fun h29 => ?_)
        · have hFF := hF (by omega)
          obtain ⟨w', rfl⟩ : ∃ w' : Nat, w = w' := ⟨w.toNat, by omega⟩
          obtain ⟨f1, f2, f3⟩ := hFF.2.2 w' (by omega)
          have f4 : aj_up g 78 0 0 85 ((w' : Nat) : Int) = (wd_cd (F w') : Nat) := by rw [aj_up_ne _ _ _ (by omega)]; exact f1
          refine aj_iload_n 2 38 (dx d_Model_family 21 rfl) rfl rfl rfl ?_
          refine aj_iconst 39 (dx d_Model_family 22 rfl) rfl ?_
          refine aj_icmp_ne 54 42 (dx d_Model_family 23 rfl) rfl rfl hi (by unfold aj_I; omega) (fun h39 => ?_) (fun h39 => ?_)
          · refine aj_iload_n 2 55 (dx d_Model_family 30 rfl) rfl rfl rfl ?_
            refine aj_if_lt 71 58 (dx d_Model_family 31 rfl) rfl rfl hi (fun h55 => ?_) (fun h55 => ?_)
            · refine aj_iconst 72 (dx d_Model_family 39 rfl) rfl ?_
              refine aj_goto 85 (dx d_Model_family 40 rfl) rfl ?_
              refine aj_iret (dx d_Model_family 47 rfl) rfl id ?_
              first | exact hk2 w' rfl (by omega) (by omega) (by omega) | exact hk3 w' _ rfl rfl (by omega) (by omega) (by omega) | exact hk4a w' rfl (by omega) (by omega) (by omega) (by omega)
            · refine aj_iload_n 2 59 (dx d_Model_family 32 rfl) rfl rfl rfl ?_
              refine aj_aload_n 0 60 (dx d_Model_family 33 rfl) rfl rfl rfl ?_
              refine aj_getfv (v := 85) 63 fl_Model_29 (dx d_Model_family 34 rfl) rfl hm.1 (by first | exact mf_family hm | (simp [aj_up_at]; exact mf_family hm) | exact mf_family (by assumption)) ?_
              refine aj_iload_n 1 64 (dx d_Model_family 35 rfl) rfl rfl rfl ?_
              refine aj_lald 65 (dx d_Model_family 36 rfl) rfl (ms_family hm) rfl (by omega) (by have := (hF (by omega)).2.1; omega) ?_
              rw [f4]
              refine aj_callS1 68 cl_Model_112 (dx d_Model_family 37 rfl) rfl rfl rfl rfl rfl rfl (k_Model_length (wd_ok_le hk4 f2) (by omega) ?_)
              change aj_wp _ _ _ _ _ _ _ _ _ _ _ _ _ _
              refine aj_icmp_lt 75 71 (dx d_Model_family 38 rfl) rfl rfl hi (by unfold aj_I; omega) (fun h68 => ?_) (fun h68 => ?_)
              · obtain ⟨i', rfl⟩ : ∃ i' : Nat, i = i' := ⟨i.toNat, by omega⟩
                refine aj_aload_n 0 76 (dx d_Model_family 41 rfl) rfl rfl rfl ?_
                refine aj_getfv (v := 85) 79 fl_Model_29 (dx d_Model_family 42 rfl) rfl hm.1 (by first | exact mf_family hm | (simp [aj_up_at]; exact mf_family hm) | exact mf_family (by assumption)) ?_
                refine aj_iload_n 1 80 (dx d_Model_family 43 rfl) rfl rfl rfl ?_
                refine aj_lald 81 (dx d_Model_family 44 rfl) rfl (ms_family hm) rfl (by omega) (by have := (hF (by omega)).2.1; omega) ?_
                rw [f4]
                refine aj_iload_n 2 82 (dx d_Model_family 45 rfl) rfl rfl rfl ?_
                refine aj_callS2 85 cl_Model_118 (dx d_Model_family 46 rfl) rfl rfl rfl rfl rfl rfl (k_Model_at (wd_ok_le hk4 f2) (by omega) (show i' < (F w').length by omega) ?_)
                change aj_wp _ _ _ _ _ _ _ _ _ _ _ _ _ _
                refine aj_iret (dx d_Model_family 47 rfl) rfl id ?_
                first | exact hk2 w' rfl (by omega) (by omega) (by omega) | exact hk3 w' _ rfl rfl (by omega) (by omega) (by omega) | exact hk4a w' rfl (by omega) (by omega) (by omega) (by omega)
              · refine aj_iconst 72 (dx d_Model_family 39 rfl) rfl ?_
                refine aj_goto 85 (dx d_Model_family 40 rfl) rfl ?_
                refine aj_iret (dx d_Model_family 47 rfl) rfl id ?_
                first | exact hk2 w' rfl (by omega) (by omega) (by omega) | exact hk3 w' _ rfl rfl (by omega) (by omega) (by omega) | exact hk4a w' rfl (by omega) (by omega) (by omega) (by omega)
          · refine aj_aload_n 0 43 (dx d_Model_family 24 rfl) rfl rfl rfl ?_
            refine aj_getfv (v := 85) 46 fl_Model_29 (dx d_Model_family 25 rfl) rfl hm.1 (by first | exact mf_family hm | (simp [aj_up_at]; exact mf_family hm) | exact mf_family (by assumption)) ?_
            refine aj_iload_n 1 47 (dx d_Model_family 26 rfl) rfl rfl rfl ?_
            refine aj_lald 48 (dx d_Model_family 27 rfl) rfl (ms_family hm) rfl (by omega) (by have := (hF (by omega)).2.1; omega) ?_
            rw [f4]
            refine aj_callS1 51 cl_Model_112 (dx d_Model_family 28 rfl) rfl rfl rfl rfl rfl rfl (k_Model_length (wd_ok_le hk4 f2) (by omega) ?_)
            change aj_wp _ _ _ _ _ _ _ _ _ _ _ _ _ _
            refine aj_goto 85 (dx d_Model_family 29 rfl) rfl ?_
            refine aj_iret (dx d_Model_family 47 rfl) rfl id ?_
            first | exact hk2 w' rfl (by omega) (by omega) (by omega) | exact hk3 w' _ rfl rfl (by omega) (by omega) (by omega) | exact hk4a w' rfl (by omega) (by omega) (by omega) (by omega)
        · refine aj_aload_n 0 33 (dx d_Model_family 18 rfl) rfl rfl rfl ?_
          refine aj_getfv (v := (c : Int)) 36 fl_Model_133 (dx d_Model_family 19 rfl) rfl hm.1 (by first | exact (hF (by omega)).1 | (simp [aj_up_at]; exact (hF (by omega)).1)) ?_
          refine aj_iret (dx d_Model_family 20 rfl) rfl id ?_
          exact hk1 (by omega) (by omega)
      · refine aj_iconst 26 (dx d_Model_family 13 rfl) rfl ?_
        refine aj_iret (dx d_Model_family 14 rfl) rfl id ?_
        exact hk0 (by omega)
set_option maxHeartbeats 4000000 in
theorem k_Model_own {al : Prop} {X : Option (Nat × (Int → Int))} {d : Nat} {sh : List aj_S} {g : aj_G} {Q : aj_R → List aj_S → aj_G → Prop} {N : Nat} {O : Nat → ow_T} {z s w : Int} (hm : mos sh g) (hse : g 78 6 = z) (hz : z = 0 ∨ z = 1) (hN : z = 1 → g 78 8 = (N : Nat) ∧ N ≤ 8 ∧ ∀ a, a < N → g 86 (a : Nat) = ((O a).1 : Nat) ∧ (∀ v : Nat, v < (O a).1 → g 87 (8 * (a : Int) + v) = ((O a).2 v : Nat)) ∧ (O a).1 ≤ 8) (hs : aj_I s) (hw : aj_I w) (hk0 : ¬ (z = 1 ∧ 0 ≤ s ∧ s < N) → Q (.inl (some (0, -1))) sh (aj_up g 78 0 0))
    (hk2 : ∀ s' : Nat, s = s' → z = 1 → s' < N → w = -1 → Q (.inl (some (0, ((O s').1 : Int)))) sh (aj_up g 78 0 0)) (hk3 : ∀ s' w' : Nat, s = s' → w = w' → z = 1 → s' < N → w' < (O s').1 → Q (.inl (some (0, ((O s').2 w' : Int)))) sh (aj_up g 78 0 0)) (hk4 : ∀ s' : Nat, s = s' → z = 1 → s' < N → w ≠ -1 → ¬ (0 ≤ w ∧ w < (O s').1) → Q (.inl (some (0, -1))) sh (aj_up g 78 0 0)) : aj_wp nE al al X m_Model_own d 0 0 0 [some (1, 78), some (0, s), some (0, w)] [] sh g Q := by
  refine aj_aload_n 0 1 (dx d_Model_own 0 rfl) rfl rfl rfl ?_
  refine aj_iconst 2 (dx d_Model_own 1 rfl) rfl ?_
  refine aj_putf 5 (pl_Model_92 _) (dx d_Model_own 2 rfl) rfl hm.1 (aj_fitI _) ?_
  refine aj_aload_n 0 6 (dx d_Model_own 3 rfl) rfl rfl rfl ?_
  refine aj_getfv (v := z) 9 fl_Model_105 (dx d_Model_own 4 rfl) rfl hm.1 (by first | exact hse | (simp [aj_up_at]; exact hse)) ?_
  refine aj_if_eq 24 12 (dx d_Model_own 5 rfl) rfl rfl (by unfold aj_I; omega) (fun h9 => ?_) (fun h9 => ?_)
  · refine aj_iconst 25 (dx d_Model_own 12 rfl) rfl ?_
    refine aj_iret (dx d_Model_own 13 rfl) rfl id ?_
    exact hk0 (by omega)
  · refine aj_iload_n 1 13 (dx d_Model_own 6 rfl) rfl rfl rfl ?_
    refine aj_if_lt 24 16 (dx d_Model_own 7 rfl) rfl rfl hs (fun h13 => ?_) (fun h13 => ?_)
    · refine aj_iconst 25 (dx d_Model_own 12 rfl) rfl ?_
      refine aj_iret (dx d_Model_own 13 rfl) rfl id ?_
      exact hk0 (by omega)
    · refine aj_iload_n 1 17 (dx d_Model_own 8 rfl) rfl rfl rfl ?_
      refine aj_aload_n 0 18 (dx d_Model_own 9 rfl) rfl rfl rfl ?_
      refine aj_getfv (v := (N : Int)) 21 fl_Model_126 (dx d_Model_own 10 rfl) rfl hm.1 (by first | exact (hN (by omega)).1 | (simp [aj_up_at]; exact (hN (by omega)).1)) ?_
      refine aj_icmp_lt 26 24 (dx d_Model_own 11 rfl) rfl rfl hs (by have := (hN (by omega)).2.1; unfold aj_I; omega) (fun h21 => ?_) (fun h21 => ?_)
      · have hNN := hN (by omega)
        obtain ⟨s', rfl⟩ : ∃ s' : Nat, s = s' := ⟨s.toNat, by omega⟩
        obtain ⟨f1, f2, f3⟩ := hNN.2.2 s' (by omega)
        have f4 : aj_up g 78 0 0 86 ((s' : Nat) : Int) = ((O s').1 : Nat) := by rw [aj_up_ne _ _ _ (by omega)]; exact f1
        refine aj_iload_n 2 27 (dx d_Model_own 14 rfl) rfl rfl rfl ?_
        refine aj_iconst 28 (dx d_Model_own 15 rfl) rfl ?_
        refine aj_icmp_ne 40 31 (dx d_Model_own 16 rfl) rfl rfl hw (by unfold aj_I; omega) (fun h28 => ?_) (fun h28 => ?_)
        · refine aj_iload_n 2 41 (dx d_Model_own 22 rfl) rfl rfl rfl ?_
          refine aj_if_lt 54 44 (dx d_Model_own 23 rfl) rfl rfl hw (fun h41 => ?_) (fun h41 => ?_)
          · refine aj_iconst 55 (dx d_Model_own 30 rfl) rfl ?_
            refine aj_goto 69 (dx d_Model_own 31 rfl) rfl ?_
            refine aj_iret (dx d_Model_own 40 rfl) rfl id ?_
            first | exact hk2 s' rfl (by omega) (by omega) (by omega) | exact hk3 s' _ rfl rfl (by omega) (by omega) (by omega) | exact hk4 s' rfl (by omega) (by omega) (by omega) (by omega)
          · refine aj_iload_n 2 45 (dx d_Model_own 24 rfl) rfl rfl rfl ?_
            refine aj_aload_n 0 46 (dx d_Model_own 25 rfl) rfl rfl rfl ?_
            refine aj_getfv (v := 86) 49 fl_Model_32 (dx d_Model_own 26 rfl) rfl hm.1 (by first | exact mf_owns hm | (simp [aj_up_at]; exact mf_owns hm) | exact mf_owns (by assumption)) ?_
            refine aj_iload_n 1 50 (dx d_Model_own 27 rfl) rfl rfl rfl ?_
            refine aj_iald 51 (dx d_Model_own 28 rfl) rfl (ms_owns hm) rfl (by omega) (by omega) ?_
            rw [f4]
            refine aj_icmp_lt 58 54 (dx d_Model_own 29 rfl) rfl rfl hw (by unfold aj_I; omega) (fun h51 => ?_) (fun h51 => ?_)
            · obtain ⟨w', rfl⟩ : ∃ w' : Nat, w = w' := ⟨w.toNat, by omega⟩
              refine aj_aload_n 0 59 (dx d_Model_own 32 rfl) rfl rfl rfl ?_
              refine aj_getfv (v := 87) 62 fl_Model_35 (dx d_Model_own 33 rfl) rfl hm.1 (by first | exact mf_own hm | (simp [aj_up_at]; exact mf_own hm) | exact mf_own (by assumption)) ?_
              refine aj_bipush 64 (dx d_Model_own 34 rfl) rfl (by decide +kernel) ?_
              refine aj_iload_n 1 65 (dx d_Model_own 35 rfl) rfl rfl rfl ?_
              refine aj_imul 66 (dx d_Model_own 36 rfl) rfl ?_
              refine aj_iload_n 2 67 (dx d_Model_own 37 rfl) rfl rfl rfl ?_
              refine aj_iadd 68 (dx d_Model_own 38 rfl) rfl ?_
              refine aj_iald 69 (dx d_Model_own 39 rfl) rfl (ms_own hm) rfl (by omega) (by omega) ?_
              rw [show aj_up g 78 0 0 87 (8 * ((s' : Nat) : Int) + ((w' : Nat) : Int)) = ((O s').2 w' : Nat) by rw [aj_up_ne _ _ _ (by omega)]; exact f2 w' (by omega)]
              refine aj_iret (dx d_Model_own 40 rfl) rfl id ?_
              first | exact hk2 s' rfl (by omega) (by omega) (by omega) | exact hk3 s' _ rfl rfl (by omega) (by omega) (by omega) | exact hk4 s' rfl (by omega) (by omega) (by omega) (by omega)
            · refine aj_iconst 55 (dx d_Model_own 30 rfl) rfl ?_
              refine aj_goto 69 (dx d_Model_own 31 rfl) rfl ?_
              refine aj_iret (dx d_Model_own 40 rfl) rfl id ?_
              first | exact hk2 s' rfl (by omega) (by omega) (by omega) | exact hk3 s' _ rfl rfl (by omega) (by omega) (by omega) | exact hk4 s' rfl (by omega) (by omega) (by omega) (by omega)
        · refine aj_aload_n 0 32 (dx d_Model_own 17 rfl) rfl rfl rfl ?_
          refine aj_getfv (v := 86) 35 fl_Model_32 (dx d_Model_own 18 rfl) rfl hm.1 (by first | exact mf_owns hm | (simp [aj_up_at]; exact mf_owns hm) | exact mf_owns (by assumption)) ?_
          refine aj_iload_n 1 36 (dx d_Model_own 19 rfl) rfl rfl rfl ?_
          refine aj_iald 37 (dx d_Model_own 20 rfl) rfl (ms_owns hm) rfl (by omega) (by omega) ?_
          rw [f4]
          refine aj_goto 69 (dx d_Model_own 21 rfl) rfl ?_
          refine aj_iret (dx d_Model_own 40 rfl) rfl id ?_
          first | exact hk2 s' rfl (by omega) (by omega) (by omega) | exact hk3 s' _ rfl rfl (by omega) (by omega) (by omega) | exact hk4 s' rfl (by omega) (by omega) (by omega) (by omega)
      · refine aj_iconst 25 (dx d_Model_own 12 rfl) rfl ?_
        refine aj_iret (dx d_Model_own 13 rfl) rfl id ?_
        exact hk0 (by omega)
set_option maxHeartbeats 4000000 in
theorem k_Model_failed {al : Prop} {X : Option (Nat × (Int → Int))} {d : Nat} {sh : List aj_S} {g : aj_G} {Q : aj_R → List aj_S → aj_G → Prop} (hm : mos sh g) (hk : Q (.inl (some (0, g 78 29))) sh (aj_up g 78 0 0)) : aj_wp nE al al X m_Model_failed d 0 0 0 [some (1, 78)] [] sh g Q := by
  refine aj_aload_n 0 1 (dx d_Model_failed 0 rfl) rfl rfl rfl ?_
  refine aj_iconst 2 (dx d_Model_failed 1 rfl) rfl ?_
  refine aj_putf 5 (pl_Model_92 _) (dx d_Model_failed 2 rfl) rfl hm.1 (aj_fitI _) ?_
  refine aj_aload_n 0 6 (dx d_Model_failed 3 rfl) rfl rfl rfl ?_
  refine aj_getf 9 fl_Model_63 (dx d_Model_failed 4 rfl) rfl hm.1 ?_
  rw [show aj_up g 78 0 0 78 29 = g 78 29 by rw [aj_up_ni _ _ _ (by omega)]]
  refine aj_iret (dx d_Model_failed 5 rfl) rfl id ?_
  exact hk
set_option maxHeartbeats 4000000 in
theorem k_Model_look {al : Prop} {X : Option (Nat × (Int → Int))} {d : Nat} {sh : List aj_S} {g : aj_G} {Q : aj_R → List aj_S → aj_G → Prop} {k n : Nat} {nx ou : Nat → Nat → Nat} {z : Int} (hM : mmm sh g k n nx ou) (hse : g 78 6 = z) (hz : z = 0 ∨ z = 1) {x v8 v17 v20 v21 v25 : Int} (h8 : g 78 8 = v8) (h17 : g 78 17 = v17) (h20 : g 78 20 = v20) (hv : v20 = 0 ∨ v20 = 1) (h21 : g 78 21 = v21) (h25 : g 78 25 = v25) (hx : aj_I x) (hk : Q (.inl (some (0, if x = 0 then (n : Int) else if x = 1 then (k : Int) else if x = 2 then z else if x = 3 then v8 else if x = 4 then (if v20 = 1 then v25 else 0) else if x = 5 then v17 else if x = 6 then (if v20 = 1 then v21 else 0) else -1))) sh (aj_up g 78 0 0)) : aj_wp nE al al X m_Model_look d 0 0 0 [some (1, 78), some (0, x)] [] sh g Q := by
  refine aj_aload_n 0 1 (dx d_Model_look 0 rfl) rfl rfl rfl ?_
  refine aj_iconst 2 (dx d_Model_look 1 rfl) rfl ?_
  refine aj_putf 5 (pl_Model_92 _) (dx d_Model_look 2 rfl) rfl hM.1.1 (aj_fitI _) ?_
  refine aj_iload_n 1 6 (dx d_Model_look 3 rfl) rfl rfl rfl ?_
  refine aj_iconst 7 (dx d_Model_look 4 rfl) rfl ?_
  refine aj_icmp_ge 67 10 (dx d_Model_look 5 rfl) rfl rfl hx (by unfold aj_I; omega) (fun h7 => ?_) (fun h7 => ?_)
  · refine aj_iload_n 1 68 (dx d_Model_look 35 rfl) rfl rfl rfl ?_
    refine aj_iconst 69 (dx d_Model_look 36 rfl) rfl ?_
    refine aj_icmp_ne 90 72 (dx d_Model_look 37 rfl) rfl rfl hx (by unfold aj_I; omega) (fun h69 => ?_) (fun h69 => ?_)
    · refine aj_iload_n 1 91 (dx d_Model_look 46 rfl) rfl rfl rfl ?_
      refine aj_iconst 92 (dx d_Model_look 47 rfl) rfl ?_
      refine aj_icmp_ne 102 95 (dx d_Model_look 48 rfl) rfl rfl hx (by unfold aj_I; omega) (fun h92 => ?_) (fun h92 => ?_)
      · refine aj_iload_n 1 103 (dx d_Model_look 52 rfl) rfl rfl rfl ?_
        refine aj_bipush 105 (dx d_Model_look 53 rfl) rfl (by decide +kernel) ?_
        refine aj_icmp_ne 126 108 (dx d_Model_look 54 rfl) rfl rfl hx (by unfold aj_I; omega) (fun h105 => ?_) (fun h105 => ?_)
        · refine aj_iconst 127 (dx d_Model_look 63 rfl) rfl ?_
          refine aj_iret (dx d_Model_look 64 rfl) rfl id ?_
          repeat (first | rw [if_pos (by omega)] at hk | rw [if_neg (by omega)] at hk)
          first | exact hk | (rw [show z = 1 by omega] at hk; exact hk) | (rw [show z = 0 by omega] at hk; exact hk)
        · refine aj_aload_n 0 109 (dx d_Model_look 55 rfl) rfl rfl rfl ?_
          refine aj_getfv (v := v20) 112 fl_Model_189 (dx d_Model_look 56 rfl) rfl hM.1.1 (by first | exact h20 | (simp [aj_up_at]; exact h20)) ?_
          refine aj_if_eq 122 115 (dx d_Model_look 57 rfl) rfl rfl (by unfold aj_I; omega) (fun h112 => ?_) (fun h112 => ?_)
          · refine aj_iconst 123 (dx d_Model_look 61 rfl) rfl ?_
            refine aj_goto 127 (dx d_Model_look 62 rfl) rfl ?_
            refine aj_iret (dx d_Model_look 64 rfl) rfl id ?_
            repeat (first | rw [if_pos (by omega)] at hk | rw [if_neg (by omega)] at hk)
            first | exact hk | (rw [show z = 1 by omega] at hk; exact hk) | (rw [show z = 0 by omega] at hk; exact hk)
          · refine aj_aload_n 0 116 (dx d_Model_look 58 rfl) rfl rfl rfl ?_
            refine aj_getfv (v := v21) 119 fl_Model_183 (dx d_Model_look 59 rfl) rfl hM.1.1 (by first | exact h21 | (simp [aj_up_at]; exact h21)) ?_
            refine aj_goto 127 (dx d_Model_look 60 rfl) rfl ?_
            refine aj_iret (dx d_Model_look 64 rfl) rfl id ?_
            repeat (first | rw [if_pos (by omega)] at hk | rw [if_neg (by omega)] at hk)
            first | exact hk | (rw [show z = 1 by omega] at hk; exact hk) | (rw [show z = 0 by omega] at hk; exact hk)
      · refine aj_aload_n 0 96 (dx d_Model_look 49 rfl) rfl rfl rfl ?_
        refine aj_getfv (v := v17) 99 fl_Model_157 (dx d_Model_look 50 rfl) rfl hM.1.1 (by first | exact h17 | (simp [aj_up_at]; exact h17)) ?_
        refine aj_goto 127 (dx d_Model_look 51 rfl) rfl ?_
        refine aj_iret (dx d_Model_look 64 rfl) rfl id ?_
        repeat (first | rw [if_pos (by omega)] at hk | rw [if_neg (by omega)] at hk)
        first | exact hk | (rw [show z = 1 by omega] at hk; exact hk) | (rw [show z = 0 by omega] at hk; exact hk)
    · refine aj_aload_n 0 73 (dx d_Model_look 38 rfl) rfl rfl rfl ?_
      refine aj_getfv (v := v20) 76 fl_Model_189 (dx d_Model_look 39 rfl) rfl hM.1.1 (by first | exact h20 | (simp [aj_up_at]; exact h20)) ?_
      refine aj_if_eq 86 79 (dx d_Model_look 40 rfl) rfl rfl (by unfold aj_I; omega) (fun h76 => ?_) (fun h76 => ?_)
      · refine aj_iconst 87 (dx d_Model_look 44 rfl) rfl ?_
        refine aj_goto 127 (dx d_Model_look 45 rfl) rfl ?_
        refine aj_iret (dx d_Model_look 64 rfl) rfl id ?_
        repeat (first | rw [if_pos (by omega)] at hk | rw [if_neg (by omega)] at hk)
        first | exact hk | (rw [show z = 1 by omega] at hk; exact hk) | (rw [show z = 0 by omega] at hk; exact hk)
      · refine aj_aload_n 0 80 (dx d_Model_look 41 rfl) rfl rfl rfl ?_
        refine aj_getfv (v := v25) 83 fl_Model_192 (dx d_Model_look 42 rfl) rfl hM.1.1 (by first | exact h25 | (simp [aj_up_at]; exact h25)) ?_
        refine aj_goto 127 (dx d_Model_look 43 rfl) rfl ?_
        refine aj_iret (dx d_Model_look 64 rfl) rfl id ?_
        repeat (first | rw [if_pos (by omega)] at hk | rw [if_neg (by omega)] at hk)
        first | exact hk | (rw [show z = 1 by omega] at hk; exact hk) | (rw [show z = 0 by omega] at hk; exact hk)
  · refine aj_iload_n 1 11 (dx d_Model_look 6 rfl) rfl rfl rfl ?_
    refine aj_if_ne 21 14 (dx d_Model_look 7 rfl) rfl rfl hx (fun h11 => ?_) (fun h11 => ?_)
    · refine aj_iload_n 1 22 (dx d_Model_look 11 rfl) rfl rfl rfl ?_
      refine aj_iconst 23 (dx d_Model_look 12 rfl) rfl ?_
      refine aj_icmp_ne 33 26 (dx d_Model_look 13 rfl) rfl rfl hx (by unfold aj_I; omega) (fun h23 => ?_) (fun h23 => ?_)
      · refine aj_iload_n 1 34 (dx d_Model_look 17 rfl) rfl rfl rfl ?_
        refine aj_iconst 35 (dx d_Model_look 18 rfl) rfl ?_
        refine aj_icmp_ne 53 38 (dx d_Model_look 19 rfl) rfl rfl hx (by unfold aj_I; omega) (fun h35 => ?_) (fun h35 => ?_)
        · refine aj_iload_n 1 54 (dx d_Model_look 27 rfl) rfl rfl rfl ?_
          refine aj_iconst 55 (dx d_Model_look 28 rfl) rfl ?_
          refine aj_icmp_ne 65 58 (dx d_Model_look 29 rfl) rfl rfl hx (by unfold aj_I; omega) (fun h55 => ?_) (fun h55 => ?_)
          · refine aj_iconst 66 (dx d_Model_look 33 rfl) rfl ?_
            refine aj_iret (dx d_Model_look 34 rfl) rfl id ?_
            repeat (first | rw [if_pos (by omega)] at hk | rw [if_neg (by omega)] at hk)
            first | exact hk | (rw [show z = 1 by omega] at hk; exact hk) | (rw [show z = 0 by omega] at hk; exact hk)
          · refine aj_aload_n 0 59 (dx d_Model_look 30 rfl) rfl rfl rfl ?_
            refine aj_getfv (v := v8) 62 fl_Model_126 (dx d_Model_look 31 rfl) rfl hM.1.1 (by first | exact h8 | (simp [aj_up_at]; exact h8)) ?_
            refine aj_goto 66 (dx d_Model_look 32 rfl) rfl ?_
            refine aj_iret (dx d_Model_look 34 rfl) rfl id ?_
            repeat (first | rw [if_pos (by omega)] at hk | rw [if_neg (by omega)] at hk)
            first | exact hk | (rw [show z = 1 by omega] at hk; exact hk) | (rw [show z = 0 by omega] at hk; exact hk)
        · refine aj_aload_n 0 39 (dx d_Model_look 20 rfl) rfl rfl rfl ?_
          refine aj_getfv (v := z) 42 fl_Model_105 (dx d_Model_look 21 rfl) rfl hM.1.1 (by first | exact hse | (simp [aj_up_at]; exact hse)) ?_
          refine aj_if_eq 49 45 (dx d_Model_look 22 rfl) rfl rfl (by unfold aj_I; omega) (fun h42 => ?_) (fun h42 => ?_)
          · refine aj_iconst 50 (dx d_Model_look 25 rfl) rfl ?_
            refine aj_goto 66 (dx d_Model_look 26 rfl) rfl ?_
            refine aj_iret (dx d_Model_look 34 rfl) rfl id ?_
            repeat (first | rw [if_pos (by omega)] at hk | rw [if_neg (by omega)] at hk)
            first | exact hk | (rw [show z = 1 by omega] at hk; exact hk) | (rw [show z = 0 by omega] at hk; exact hk)
          · refine aj_iconst 46 (dx d_Model_look 23 rfl) rfl ?_
            refine aj_goto 66 (dx d_Model_look 24 rfl) rfl ?_
            refine aj_iret (dx d_Model_look 34 rfl) rfl id ?_
            repeat (first | rw [if_pos (by omega)] at hk | rw [if_neg (by omega)] at hk)
            first | exact hk | (rw [show z = 1 by omega] at hk; exact hk) | (rw [show z = 0 by omega] at hk; exact hk)
      · refine aj_aload_n 0 27 (dx d_Model_look 14 rfl) rfl rfl rfl ?_
        refine aj_getfv (v := (k : Int)) 30 fl_Model_89 (dx d_Model_look 15 rfl) rfl hM.1.1 (by first | exact hM.2.2.1 | (simp [aj_up_at]; exact hM.2.2.1)) ?_
        refine aj_goto 66 (dx d_Model_look 16 rfl) rfl ?_
        refine aj_iret (dx d_Model_look 34 rfl) rfl id ?_
        repeat (first | rw [if_pos (by omega)] at hk | rw [if_neg (by omega)] at hk)
        first | exact hk | (rw [show z = 1 by omega] at hk; exact hk) | (rw [show z = 0 by omega] at hk; exact hk)
    · refine aj_aload_n 0 15 (dx d_Model_look 8 rfl) rfl rfl rfl ?_
      refine aj_getfv (v := (n : Int)) 18 fl_Model_86 (dx d_Model_look 9 rfl) rfl hM.1.1 (by first | exact hM.2.1 | (simp [aj_up_at]; exact hM.2.1)) ?_
      refine aj_goto 66 (dx d_Model_look 10 rfl) rfl ?_
      refine aj_iret (dx d_Model_look 34 rfl) rfl id ?_
      repeat (first | rw [if_pos (by omega)] at hk | rw [if_neg (by omega)] at hk)
      first | exact hk | (rw [show z = 1 by omega] at hk; exact hk) | (rw [show z = 0 by omega] at hk; exact hk)
set_option maxHeartbeats 4000000 in
theorem k_Model_change {al : Prop} {X : Option (Nat × (Int → Int))} {d : Nat} {sh : List aj_S} {g : aj_G} {Q : aj_R → List aj_S → aj_G → Prop} {k n : Nat} {nx ou : Nat → Nat → Nat} {z : Int} (hM : mmm sh g k n nx ou) (hse : g 78 6 = z) (hz : z = 0 ∨ z = 1) {m : Nat} (hI : z = 1 → g 78 17 = (m : Nat) ∧ m ≤ 10) {s i t u : Int} (hs : aj_I s) (hi : aj_I i) (ht : aj_I t) (hu : aj_I u) (hk1 : z = 0 → Q (.inl none) sh (aj_up g 78 0 1)) (hk2 : ¬ ((0 ≤ s ∧ s < m) ∧ (0 ≤ i ∧ i < k) ∧ (0 ≤ t ∧ t < m) ∧ (0 ≤ u ∧ u < 4)) → z = 1 → Q (.inl none) sh (aj_up g 78 0 2)) (hk0 : (0 ≤ s ∧ s < m) ∧ (0 ≤ i ∧ i < k) ∧ (0 ≤ t ∧ t < m) ∧ (0 ≤ u ∧ u < 4) → z = 1 → Q (.inl none) sh (aj_up (aj_up (aj_up g 78 0 0) 88 (3 * s + i) t) 89 (3 * s + i) u)) : aj_wp nE al al X m_Model_change (d + 1) 0 0 0 [some (1, 78), some (0, s), some (0, i), some (0, t), some (0, u)] [] sh g Q := by
  have hk4 := hM.2.2.2.1
  refine aj_aload_n 0 1 (dx d_Model_change 0 rfl) rfl rfl rfl ?_
  refine aj_aload_n 0 2 (dx d_Model_change 1 rfl) rfl rfl rfl ?_
  refine aj_getfv (v := z) 5 fl_Model_105 (dx d_Model_change 2 rfl) rfl hM.1.1 (by first | exact hse | (simp [aj_up_at]; exact hse)) ?_
  refine aj_if_ne 12 8 (dx d_Model_change 3 rfl) rfl rfl (by unfold aj_I; omega) (fun h5 => ?_) (fun h5 => ?_)
  · refine aj_iload_n 1 13 (dx d_Model_change 6 rfl) rfl rfl rfl ?_
    refine aj_if_lt 52 16 (dx d_Model_change 7 rfl) rfl rfl hs (fun h13 => ?_) (fun h13 => ?_)
    · refine aj_iconst 53 (dx d_Model_change 25 rfl) rfl ?_
      refine aj_goto 57 (dx d_Model_change 26 rfl) rfl ?_
      refine aj_putf 60 (pl_Model_92 _) (dx d_Model_change 28 rfl) rfl hM.1.1 (aj_fitI _) ?_
      refine aj_aload_n 0 61 (dx d_Model_change 29 rfl) rfl rfl rfl ?_
      refine aj_getf 64 fl_Model_92 (dx d_Model_change 30 rfl) rfl hM.1.1 ?_
      rw [show aj_up g 78 0 2 78 0 = 2 by rw [aj_up_self]]
      refine aj_if_ne 90 67 (dx d_Model_change 31 rfl) rfl rfl (by unfold aj_I; omega) (fun h64 => ?_) (fun h64 => ?_)
      · refine aj_vret (dx d_Model_change 50 rfl) rfl id ?_
        exact hk2 (by omega) (by omega)
      · exact absurd h64 (by decide)
    · refine aj_iload_n 1 17 (dx d_Model_change 8 rfl) rfl rfl rfl ?_
      refine aj_aload_n 0 18 (dx d_Model_change 9 rfl) rfl rfl rfl ?_
      refine aj_getfv (v := (m : Int)) 21 fl_Model_157 (dx d_Model_change 10 rfl) rfl hM.1.1 (by first | exact (hI (by omega)).1 | (simp [aj_up_at]; exact (hI (by omega)).1)) ?_
      refine aj_icmp_ge 52 24 (dx d_Model_change 11 rfl) rfl rfl hs (by have := (hI (by omega)).2; unfold aj_I; omega) (fun h21 => ?_) (fun h21 => ?_)
      · refine aj_iconst 53 (dx d_Model_change 25 rfl) rfl ?_
        refine aj_goto 57 (dx d_Model_change 26 rfl) rfl ?_
        refine aj_putf 60 (pl_Model_92 _) (dx d_Model_change 28 rfl) rfl hM.1.1 (aj_fitI _) ?_
        refine aj_aload_n 0 61 (dx d_Model_change 29 rfl) rfl rfl rfl ?_
        refine aj_getf 64 fl_Model_92 (dx d_Model_change 30 rfl) rfl hM.1.1 ?_
        rw [show aj_up g 78 0 2 78 0 = 2 by rw [aj_up_self]]
        refine aj_if_ne 90 67 (dx d_Model_change 31 rfl) rfl rfl (by unfold aj_I; omega) (fun h64 => ?_) (fun h64 => ?_)
        · refine aj_vret (dx d_Model_change 50 rfl) rfl id ?_
          exact hk2 (by omega) (by omega)
        · exact absurd h64 (by decide)
      · refine aj_aload_n 0 25 (dx d_Model_change 12 rfl) rfl rfl rfl ?_
        refine aj_iload_n 2 26 (dx d_Model_change 13 rfl) rfl rfl rfl ?_
        refine aj_callV1 29 cl_Model_99 (dx d_Model_change 14 rfl) rfl rfl rfl rfl rfl rfl hM.1.1 (k_isI hM hi (fun c2 => ?_) (fun c2 => ?_))
        · change aj_wp _ _ _ _ _ _ _ _ _ _ _ _ _ _
          refine aj_if_eq 52 32 (dx d_Model_change 15 rfl) rfl rfl (by unfold aj_I; omega) (fun h29 => ?_) (fun h29 => ?_)
          · exact absurd h29 (by decide)
          · refine aj_iload_n 3 33 (dx d_Model_change 16 rfl) rfl rfl rfl ?_
            refine aj_if_lt 52 36 (dx d_Model_change 17 rfl) rfl rfl ht (fun h33 => ?_) (fun h33 => ?_)
            · refine aj_iconst 53 (dx d_Model_change 25 rfl) rfl ?_
              refine aj_goto 57 (dx d_Model_change 26 rfl) rfl ?_
              refine aj_putf 60 (pl_Model_92 _) (dx d_Model_change 28 rfl) rfl hM.1.1 (aj_fitI _) ?_
              refine aj_aload_n 0 61 (dx d_Model_change 29 rfl) rfl rfl rfl ?_
              refine aj_getf 64 fl_Model_92 (dx d_Model_change 30 rfl) rfl hM.1.1 ?_
              rw [show aj_up g 78 0 2 78 0 = 2 by rw [aj_up_self]]
              refine aj_if_ne 90 67 (dx d_Model_change 31 rfl) rfl rfl (by unfold aj_I; omega) (fun h64 => ?_) (fun h64 => ?_)
              · refine aj_vret (dx d_Model_change 50 rfl) rfl id ?_
                exact hk2 (by omega) (by omega)
              · exact absurd h64 (by decide)
            · refine aj_iload_n 3 37 (dx d_Model_change 18 rfl) rfl rfl rfl ?_
              refine aj_aload_n 0 38 (dx d_Model_change 19 rfl) rfl rfl rfl ?_
              refine aj_getfv (v := (m : Int)) 41 fl_Model_157 (dx d_Model_change 20 rfl) rfl hM.1.1 (by first | exact (hI (by omega)).1 | (simp [aj_up_at]; exact (hI (by omega)).1)) ?_
              refine aj_icmp_ge 52 44 (dx d_Model_change 21 rfl) rfl rfl ht (by have := (hI (by omega)).2; unfold aj_I; omega) (fun h41 => ?_) (fun h41 => ?_)
              · refine aj_iconst 53 (dx d_Model_change 25 rfl) rfl ?_
                refine aj_goto 57 (dx d_Model_change 26 rfl) rfl ?_
                refine aj_putf 60 (pl_Model_92 _) (dx d_Model_change 28 rfl) rfl hM.1.1 (aj_fitI _) ?_
                refine aj_aload_n 0 61 (dx d_Model_change 29 rfl) rfl rfl rfl ?_
                refine aj_getf 64 fl_Model_92 (dx d_Model_change 30 rfl) rfl hM.1.1 ?_
                rw [show aj_up g 78 0 2 78 0 = 2 by rw [aj_up_self]]
                refine aj_if_ne 90 67 (dx d_Model_change 31 rfl) rfl rfl (by unfold aj_I; omega) (fun h64 => ?_) (fun h64 => ?_)
                · refine aj_vret (dx d_Model_change 50 rfl) rfl id ?_
                  exact hk2 (by omega) (by omega)
                · exact absurd h64 (by decide)
              · refine aj_iload 4 46 (dx d_Model_change 22 rfl) rfl rfl ?_
                refine aj_callS1 49 cl_Model_102 (dx d_Model_change 23 rfl) rfl rfl rfl rfl rfl rfl (k_isO hu (fun c4 => ?_) (fun c4 => ?_))
                · change aj_wp _ _ _ _ _ _ _ _ _ _ _ _ _ _
                  refine aj_if_ne 56 52 (dx d_Model_change 24 rfl) rfl rfl (by unfold aj_I; omega) (fun h49 => ?_) (fun h49 => ?_)
                  · refine aj_iconst 57 (dx d_Model_change 27 rfl) rfl ?_
                    have hm10 := (hI (by omega)).2
                    refine aj_putf 60 (pl_Model_92 _) (dx d_Model_change 28 rfl) rfl hM.1.1 (aj_fitI _) ?_
                    refine aj_aload_n 0 61 (dx d_Model_change 29 rfl) rfl rfl rfl ?_
                    refine aj_getf 64 fl_Model_92 (dx d_Model_change 30 rfl) rfl hM.1.1 ?_
                    rw [show aj_up g 78 0 0 78 0 = 0 by rw [aj_up_self]]
                    refine aj_if_ne 90 67 (dx d_Model_change 31 rfl) rfl rfl (by unfold aj_I; omega) (fun h64 => ?_) (fun h64 => ?_)
                    · exact absurd rfl h64
                    · refine aj_aload_n 0 68 (dx d_Model_change 32 rfl) rfl rfl rfl ?_
                      refine aj_getfv (v := 88) 71 fl_Model_42 (dx d_Model_change 33 rfl) rfl hM.1.1 (by first | exact mf_goes hM.1 | (simp [aj_up_at]; exact mf_goes hM.1) | exact mf_goes (by assumption)) ?_
                      refine aj_iconst 72 (dx d_Model_change 34 rfl) rfl ?_
                      refine aj_iload_n 1 73 (dx d_Model_change 35 rfl) rfl rfl rfl ?_
                      refine aj_imul 74 (dx d_Model_change 36 rfl) rfl ?_
                      refine aj_iload_n 2 75 (dx d_Model_change 37 rfl) rfl rfl rfl ?_
                      refine aj_iadd 76 (dx d_Model_change 38 rfl) rfl ?_
                      refine aj_iload_n 3 77 (dx d_Model_change 39 rfl) rfl rfl rfl ?_
                      refine aj_iast 78 (dx d_Model_change 40 rfl) rfl (ms_goes hM.1) rfl (by omega) (by omega) ?_
                      refine aj_aload_n 0 79 (dx d_Model_change 41 rfl) rfl rfl rfl ?_
                      refine aj_getfv (v := 89) 82 fl_Model_45 (dx d_Model_change 42 rfl) rfl hM.1.1 (by first | exact mf_gives hM.1 | (simp [aj_up_at]; exact mf_gives hM.1) | exact mf_gives (by assumption)) ?_
                      refine aj_iconst 83 (dx d_Model_change 43 rfl) rfl ?_
                      refine aj_iload_n 1 84 (dx d_Model_change 44 rfl) rfl rfl rfl ?_
                      refine aj_imul 85 (dx d_Model_change 45 rfl) rfl ?_
                      refine aj_iload_n 2 86 (dx d_Model_change 46 rfl) rfl rfl rfl ?_
                      refine aj_iadd 87 (dx d_Model_change 47 rfl) rfl ?_
                      refine aj_iload 4 89 (dx d_Model_change 48 rfl) rfl rfl ?_
                      refine aj_iast 90 (dx d_Model_change 49 rfl) rfl (ms_gives hM.1) rfl (by omega) (by omega) ?_
                      refine aj_vret (dx d_Model_change 50 rfl) rfl id ?_
                      exact hk0 (by omega) (by omega)
                  · exact absurd h49 (by decide)
                · change aj_wp _ _ _ _ _ _ _ _ _ _ _ _ _ _
                  refine aj_if_ne 56 52 (dx d_Model_change 24 rfl) rfl rfl (by unfold aj_I; omega) (fun h49 => ?_) (fun h49 => ?_)
                  · exact absurd rfl h49
                  · refine aj_iconst 53 (dx d_Model_change 25 rfl) rfl ?_
                    refine aj_goto 57 (dx d_Model_change 26 rfl) rfl ?_
                    refine aj_putf 60 (pl_Model_92 _) (dx d_Model_change 28 rfl) rfl hM.1.1 (aj_fitI _) ?_
                    refine aj_aload_n 0 61 (dx d_Model_change 29 rfl) rfl rfl rfl ?_
                    refine aj_getf 64 fl_Model_92 (dx d_Model_change 30 rfl) rfl hM.1.1 ?_
                    rw [show aj_up g 78 0 2 78 0 = 2 by rw [aj_up_self]]
                    refine aj_if_ne 90 67 (dx d_Model_change 31 rfl) rfl rfl (by unfold aj_I; omega) (fun h64 => ?_) (fun h64 => ?_)
                    · refine aj_vret (dx d_Model_change 50 rfl) rfl id ?_
                      exact hk2 (by omega) (by omega)
                    · exact absurd h64 (by decide)
        · change aj_wp _ _ _ _ _ _ _ _ _ _ _ _ _ _
          refine aj_if_eq 52 32 (dx d_Model_change 15 rfl) rfl rfl (by unfold aj_I; omega) (fun h29 => ?_) (fun h29 => ?_)
          · refine aj_iconst 53 (dx d_Model_change 25 rfl) rfl ?_
            refine aj_goto 57 (dx d_Model_change 26 rfl) rfl ?_
            refine aj_putf 60 (pl_Model_92 _) (dx d_Model_change 28 rfl) rfl hM.1.1 (aj_fitI _) ?_
            refine aj_aload_n 0 61 (dx d_Model_change 29 rfl) rfl rfl rfl ?_
            refine aj_getf 64 fl_Model_92 (dx d_Model_change 30 rfl) rfl hM.1.1 ?_
            rw [show aj_up g 78 0 2 78 0 = 2 by rw [aj_up_self]]
            refine aj_if_ne 90 67 (dx d_Model_change 31 rfl) rfl rfl (by unfold aj_I; omega) (fun h64 => ?_) (fun h64 => ?_)
            · refine aj_vret (dx d_Model_change 50 rfl) rfl id ?_
              exact hk2 (by omega) (by omega)
            · exact absurd h64 (by decide)
          · exact absurd rfl h29
  · refine aj_iconst 9 (dx d_Model_change 4 rfl) rfl ?_
    refine aj_goto 57 (dx d_Model_change 5 rfl) rfl ?_
    refine aj_putf 60 (pl_Model_92 _) (dx d_Model_change 28 rfl) rfl hM.1.1 (aj_fitI _) ?_
    refine aj_aload_n 0 61 (dx d_Model_change 29 rfl) rfl rfl rfl ?_
    refine aj_getf 64 fl_Model_92 (dx d_Model_change 30 rfl) rfl hM.1.1 ?_
    rw [show aj_up g 78 0 1 78 0 = 1 by rw [aj_up_self]]
    refine aj_if_ne 90 67 (dx d_Model_change 31 rfl) rfl rfl (by unfold aj_I; omega) (fun h64 => ?_) (fun h64 => ?_)
    · refine aj_vret (dx d_Model_change 50 rfl) rfl id ?_
      exact hk1 (by omega)
    · exact absurd h64 (by decide)
