/-! Model: choose, chooseOwn -/
/-- the numbered states, as the model's family sees them: nx, ou the whole machine, mnx, mou the small one -/
def chH (g : aj_G) (k n : Nat) (nx ou : Nat → Nat → Nat) (N : Nat) (sf : Nat → Nat) (mnx mou : Nat → Nat → Nat) (lw : Nat → Nat → List Nat) : Prop := (∀ a : Nat, a < N → g 83 a = sf a ∧ sf a < n) ∧ g 78 8 = N ∧ (0 < N ∧ N ≤ 8) ∧
  (∀ i j w, i < N → j < N → wd_ok k w → (tl nx ou (sf i) (sf j) w ↔ tl mnx mou i j w)) ∧ (∀ i j, i < N → j < N → i ≠ j → wd_least k nx ou (sf i) nx ou (sf j) (lw i j) ∧ wd_least k mnx mou i mnx mou j (lw i j) ∧ (lw i j).length ≤ 8)
theorem chH_of {g g1 : aj_G} {k n : Nat} {nx ou : Nat → Nat → Nat} {N : Nat} {sf : Nat → Nat} {mnx mou : Nat → Nat → Nat} {lw : Nat → Nat → List Nat} (h : chH g k n nx ou N sf mnx mou lw) (e1 : g1 83 = g 83) (e2 : g1 78 8 = g 78 8) : chH g1 k n nx ou N sf mnx mou lw :=
  ⟨fun a ha => by rw [e1]; exact h.1 a ha, by rw [e2]; exact h.2.1, h.2.2⟩
def famM (g : aj_G) (k c : Nat) (F : Nat → List Nat) : Prop := g 78 12 = c ∧ c ≤ 8 ∧ ∀ w : Nat, w < c → g 85 w = wd_cd (F w) ∧ wd_ok k (F w) ∧ (F w).length ≤ 8
theorem famM_of {g g1 : aj_G} {k c : Nat} {F : Nat → List Nat} (h : famM g k c F) (e1 : g1 78 12 = g 78 12) (e2 : g1 85 = g 85) : famM g1 k c F := ⟨by rw [e1]; exact h.1, h.2.1, fun w hw => by rw [e2]; exact h.2.2 w hw⟩
theorem famM_add {g : aj_G} {k c : Nat} {F : Nat → List Nat} {w : List Nat} (h : famM g k c F) (hc : c < 8) (hw : wd_ok k w) (hl : w.length ≤ 8) : famM (aj_up (aj_up g 85 (c : Nat) (wd_cd w : Nat)) 78 12 ((c : Int) + 1)) k (c + 1) (fm_up F c w) := by
  refine ⟨by rw [aj_up_self]; push_cast; rfl, by omega, fun v hv => ?_⟩
  rw [aj_up_ne _ _ _ (by omega)]
  by_cases e : v = c
  · subst e
    rw [aj_up_self, fm_up_self]
    exact ⟨rfl, hw, hl⟩
  · rw [aj_up_ni _ _ _ (by omega), fm_up_ne _ _ e]
    exact h.2.2 v (by omega)
def mc_F (g g1 : aj_G) : Prop := (∀ r, r ≠ 78 → r ≠ 85 → g1 r = g r) ∧ ∀ j, j ≠ 12 → g1 78 j = g 78 j
theorem mc_M {sh : List aj_S} {k n : Nat} {nx ou : Nat → Nat → Nat} {g g1 : aj_G} (hM : mmm sh g k n nx ou) (h : mc_F g g1) : mmm sh g1 k n nx ou := mmm_of hM (fun j hj => h.2 j (by unfold mo_fin at hj; omega)) (h.1 79 (by omega) (by omega)) (h.1 80 (by omega) (by omega))
theorem mc_T {k n : Nat} {nx ou : Nat → Nat → Nat} {g g1 : aj_G} (hT : tdm g k n nx ou) (h : mc_F g g1) : tdm g1 k n nx ou := by
  unfold tdm
  rw [h.1 81 (by omega) (by omega)]
  exact hT
set_option maxHeartbeats 4000000 in
theorem k_mc_w {al : Prop} {X : Option (Nat × (Int → Int))} {d : Nat} {sh : List aj_S} {g : aj_G} {Q : aj_R → List aj_S → aj_G → Prop} {k n : Nat} {nx ou : Nat → Nat → Nat} {N : Nat} {sf : Nat → Nat} {mnx mou : Nat → Nat → Nat} {lw : Nat → Nat → List Nat} {c i j : Nat} {F : Nat → List Nat} (hM : mmm sh g k n nx ou) (hC : chH g k n nx ou N sf mnx mou lw) (hF : famM g k c F) (hi : i < N) (hj : j < N)
    (hgo1 : (∃ v, v < c ∧ tl mnx mou i j (F v)) → aj_wp nE al al X m_Model_choose (d + 3) 0 0 83 [some (1, 78), some (0, (i : Int)), some (0, (j : Int)), some (0, 1), none] [] sh g Q) (hgo0 : (∀ v, v < c → ¬ tl mnx mou i j (F v)) → aj_wp nE al al X m_Model_choose (d + 3) 0 0 83 [some (1, 78), some (0, (i : Int)), some (0, (j : Int)), some (0, 0), none] [] sh g Q) :
    ∀ (m w : Nat) (x : Int), w ≤ c → c - w = m → ((x = 1 ∧ ∃ v, v < w ∧ tl mnx mou i j (F v)) ∨ (x = 0 ∧ ∀ v, v < w → ¬ tl mnx mou i j (F v))) →
    aj_wp nE al al X m_Model_choose (d + 3) 0 0 32 [some (1, 78), some (0, (i : Int)), some (0, (j : Int)), some (0, x), some (0, (w : Int))] [] sh g Q := by
  have hN8 := hC.2.2.1
  have hc8 := hF.2.1
  intro m
  induction m using Nat.strongRecOn with
  | ind m ih =>
    intro w x hw hmm hx
    refine aj_iload 4 34 (dx d_Model_choose 21 rfl) rfl rfl ?_
    refine aj_aload_n 0 35 (dx d_Model_choose 22 rfl) rfl rfl rfl ?_
    refine aj_getfv (v := (c : Int)) 38 fl_Model_133 (dx d_Model_choose 23 rfl) rfl hM.1.1 (by first | exact hF.1 | (simp [aj_up_at]; exact hF.1)) ?_
    refine aj_icmp_ge 83 41 (dx d_Model_choose 24 rfl) rfl rfl (by unfold aj_I; omega) (by unfold aj_I; omega) (fun h38 => ?_) (fun h38 => ?_)
    · refine aj_forget 4 ?_
      simp only [List.set]
      have e : w = c := by omega
      subst e
      rcases hx with ⟨rfl, h⟩ | ⟨rfl, h⟩
      · exact hgo1 h
      · exact hgo0 h
    · have hwc : w < c := by omega
      obtain ⟨f1, f2, f3⟩ := hF.2.2 w hwc
      refine aj_iload_n 3 42 (dx d_Model_choose 25 rfl) rfl rfl rfl ?_
      refine aj_if_ne 71 45 (dx d_Model_choose 26 rfl) rfl rfl (by rcases hx with ⟨h, -⟩ | ⟨h, -⟩ <;> rw [h] <;> unfold aj_I <;> omega) (fun h42 => ?_) (fun h42 => ?_)
      · have hyes : ∃ v, v < w ∧ tl mnx mou i j (F v) := by
          rcases hx with ⟨-, h⟩ | ⟨h, -⟩
          · exact h
          · omega
        refine aj_iconst 72 (dx d_Model_choose 42 rfl) rfl ?_
        refine aj_goto 76 (dx d_Model_choose 43 rfl) rfl ?_
        refine aj_istore_n 3 77 (dx d_Model_choose 45 rfl) rfl rfl rfl ?_
        simp only [List.set]
        refine aj_iinc 4 80 (dx d_Model_choose 46 rfl) rfl rfl rfl ?_
        simp only [List.set]
        refine aj_goto 32 (dx d_Model_choose 47 rfl) rfl ?_
        have hih := ih _ (by omega) (w + 1) 1 (by omega) rfl (Or.inl ⟨rfl, by obtain ⟨v, y1, y2⟩ := hyes; exact ⟨v, by omega, y2⟩⟩)
        rw [show ((w : Nat) : Int) + 1 = ((w + 1 : Nat) : Int) by omega]
        exact hih
      · have hno : ∀ v, v < w → ¬ tl mnx mou i j (F v) := by
          rcases hx with ⟨h, -⟩ | ⟨-, h⟩
          · omega
          · exact h
        refine aj_aload_n 0 46 (dx d_Model_choose 27 rfl) rfl rfl rfl ?_
        refine aj_aload_n 0 47 (dx d_Model_choose 28 rfl) rfl rfl rfl ?_
        refine aj_getfv (v := 85) 50 fl_Model_29 (dx d_Model_choose 29 rfl) rfl hM.1.1 (by first | exact mf_family hM.1 | (simp [aj_up_at]; exact mf_family hM.1) | exact mf_family (by assumption)) ?_
        refine aj_iload 4 52 (dx d_Model_choose 30 rfl) rfl rfl ?_
        refine aj_lald 53 (dx d_Model_choose 31 rfl) rfl (ms_family hM.1) rfl (by omega) (by omega) ?_
        rw [f1]
        refine aj_aload_n 0 54 (dx d_Model_choose 32 rfl) rfl rfl rfl ?_
        refine aj_getfv (v := 83) 57 fl_Model_22 (dx d_Model_choose 33 rfl) rfl hM.1.1 (by first | exact mf_stateOf hM.1 | (simp [aj_up_at]; exact mf_stateOf hM.1) | exact mf_stateOf (by assumption)) ?_
        refine aj_iload_n 1 58 (dx d_Model_choose 34 rfl) rfl rfl rfl ?_
        refine aj_iald 59 (dx d_Model_choose 35 rfl) rfl (ms_stateOf hM.1) rfl (by omega) (by omega) ?_
        rw [(hC.1 i hi).1]
        refine aj_aload_n 0 60 (dx d_Model_choose 36 rfl) rfl rfl rfl ?_
        refine aj_getfv (v := 83) 63 fl_Model_22 (dx d_Model_choose 37 rfl) rfl hM.1.1 (by first | exact mf_stateOf hM.1 | (simp [aj_up_at]; exact mf_stateOf hM.1) | exact mf_stateOf (by assumption)) ?_
        refine aj_iload_n 2 64 (dx d_Model_choose 38 rfl) rfl rfl rfl ?_
        refine aj_iald 65 (dx d_Model_choose 39 rfl) rfl (ms_stateOf hM.1) rfl (by omega) (by omega) ?_
        rw [(hC.1 j hj).1]
        refine aj_callV3 68 cl_Model_136 (dx d_Model_choose 40 rfl) rfl rfl rfl rfl rfl rfl hM.1.1 (k_Model_tells hM f2 (by omega) (hC.1 i hi).2 (hC.1 j hj).2 (fun ht => ?_) (fun ht => ?_))
        · change aj_wp _ _ _ _ _ _ _ _ _ _ _ _ _ _
          refine aj_if_eq 75 71 (dx d_Model_choose 41 rfl) rfl rfl (by unfold aj_I; omega) (fun h68 => ?_) (fun h68 => ?_)
          · exact absurd h68 (by decide)
          · refine aj_iconst 72 (dx d_Model_choose 42 rfl) rfl ?_
            refine aj_goto 76 (dx d_Model_choose 43 rfl) rfl ?_
            refine aj_istore_n 3 77 (dx d_Model_choose 45 rfl) rfl rfl rfl ?_
            simp only [List.set]
            refine aj_iinc 4 80 (dx d_Model_choose 46 rfl) rfl rfl rfl ?_
            simp only [List.set]
            refine aj_goto 32 (dx d_Model_choose 47 rfl) rfl ?_
            have hih := ih _ (by omega) (w + 1) 1 (by omega) rfl (Or.inl ⟨rfl, w, by omega, (hC.2.2.2.1 i j (F w) hi hj f2).mp ht⟩)
            rw [show ((w : Nat) : Int) + 1 = ((w + 1 : Nat) : Int) by omega]
            exact hih
        · change aj_wp _ _ _ _ _ _ _ _ _ _ _ _ _ _
          refine aj_if_eq 75 71 (dx d_Model_choose 41 rfl) rfl rfl (by unfold aj_I; omega) (fun h68 => ?_) (fun h68 => ?_)
          · refine aj_iconst 76 (dx d_Model_choose 44 rfl) rfl ?_
            have hnt : ¬ tl mnx mou i j (F w) := fun z => ht ((hC.2.2.2.1 i j (F w) hi hj f2).mpr z)
            refine aj_istore_n 3 77 (dx d_Model_choose 45 rfl) rfl rfl rfl ?_
            simp only [List.set]
            refine aj_iinc 4 80 (dx d_Model_choose 46 rfl) rfl rfl rfl ?_
            simp only [List.set]
            refine aj_goto 32 (dx d_Model_choose 47 rfl) rfl ?_
            have hih := ih _ (by omega) (w + 1) 0 (by omega) rfl (Or.inr ⟨rfl, fun v hv => by
              rcases Nat.lt_or_ge v w with z | z
              · exact hno v z
              · rw [show v = w by omega]; exact hnt⟩)
            rw [show ((w : Nat) : Int) + 1 = ((w + 1 : Nat) : Int) by omega]
            exact hih
          · exact absurd rfl h68
set_option maxHeartbeats 4000000 in
theorem k_mc_j {al : Prop} {X : Option (Nat × (Int → Int))} {d : Nat} {sh : List aj_S} {g : aj_G} {Q : aj_R → List aj_S → aj_G → Prop} {k n : Nat} {nx ou : Nat → Nat → Nat} {N : Nat} {sf : Nat → Nat} {mnx mou : Nat → Nat → Nat} {lw : Nat → Nat → List Nat} {i : Nat} (hM : mmm sh g k n nx ou) (hT : tdm g k n nx ou) (hC : chH g k n nx ou N sf mnx mou lw) (hi : i < N)
    (hgo : ∀ g1 q, mc_F g g1 → q = (fm_in (tl mnx mou) lw i (N - (i + 1)) (fm_out (tl mnx mou) lw N i)) → famM g1 k q.1 q.2 → fm_I k N mnx mou q i N → aj_wp nE al al X m_Model_choose (d + 3) 0 0 128 [some (1, 78), some (0, (i : Int)), none, none, none] [] sh g1 Q) :
    ∀ (m j : Nat) (g1 : aj_G) (q : fm_T), i + 1 ≤ j → j ≤ N → N - j = m → mc_F g g1 → q = (fm_in (tl mnx mou) lw i (j - (i + 1)) (fm_out (tl mnx mou) lw N i)) → famM g1 k q.1 q.2 → fm_I k N mnx mou q i j →
    aj_wp nE al al X m_Model_choose (d + 3) 0 0 19 [some (1, 78), some (0, (i : Int)), some (0, (j : Int)), none, none] [] sh g1 Q := by
  have hN8 := hC.2.2.1
  have hk4 := hM.2.2.2.1
  intro m
  induction m using Nat.strongRecOn with
  | ind m ih =>
    intro j g1 q hj1 hjn hmm hF hq hFm hI
    have hM1 := mc_M hM hF
    have hC1 : chH g1 k n nx ou N sf mnx mou lw := chH_of hC (hF.1 83 (by omega) (by omega)) (hF.2 8 (by omega))
    have hq9 := fm_I_le (by omega) hI
    refine aj_iload_n 2 20 (dx d_Model_choose 13 rfl) rfl rfl rfl ?_
    refine aj_aload_n 0 21 (dx d_Model_choose 14 rfl) rfl rfl rfl ?_
    refine aj_getfv (v := (N : Int)) 24 fl_Model_126 (dx d_Model_choose 15 rfl) rfl hM1.1.1 hC1.2.1 ?_
    refine aj_icmp_ge 128 27 (dx d_Model_choose 16 rfl) rfl rfl (by unfold aj_I; omega) (by unfold aj_I; omega) (fun h24 => ?_) (fun h24 => ?_)
    · refine aj_forget 2 ?_
      simp only [List.set]
      have e : j = N := by omega
      subst e
      exact hgo g1 q hF hq hFm hI
    · have hjN : j < N := by omega
      refine aj_iconst 28 (dx d_Model_choose 17 rfl) rfl ?_
      refine aj_istore_n 3 29 (dx d_Model_choose 18 rfl) rfl rfl rfl ?_
      simp only [List.set]
      refine aj_iconst 30 (dx d_Model_choose 19 rfl) rfl ?_
      refine aj_istore 4 32 (dx d_Model_choose 20 rfl) rfl rfl ?_
      simp only [List.set]
      refine k_mc_w hM1 hC1 hFm hi hjN (fun hv => ?_) (fun hv => ?_) _ 0 0 (by omega) rfl (Or.inr ⟨rfl, fun v hv => absurd hv (Nat.not_lt_zero _)⟩)
      · refine aj_iload_n 3 84 (dx d_Model_choose 48 rfl) rfl rfl rfl ?_
        refine aj_if_ne 122 87 (dx d_Model_choose 49 rfl) rfl rfl (by unfold aj_I; omega) (fun h84 => ?_) (fun h84 => ?_)
        · refine aj_iinc 2 125 (dx d_Model_choose 71 rfl) rfl rfl rfl ?_
          simp only [List.set]
          refine aj_goto 19 (dx d_Model_choose 72 rfl) rfl ?_
          obtain ⟨v, hv1, hv2⟩ := hv
          refine aj_forget 3 ?_
          simp only [List.set]
          rw [show ((j : Nat) : Int) + 1 = ((j + 1 : Nat) : Int) by omega]
          have hqe : fm_in (tl mnx mou) lw i (j + 1 - (i + 1)) (fm_out (tl mnx mou) lw N i) = q := by
            rw [show j + 1 - (i + 1) = (j - (i + 1)) + 1 by omega]
            show fm_st (tl mnx mou) lw i (i + 1 + (j - (i + 1))) (fm_in (tl mnx mou) lw i (j - (i + 1)) (fm_out (tl mnx mou) lw N i)) = _
            rw [show i + 1 + (j - (i + 1)) = j by omega, ← hq]
            exact (fm_I_old hI hv1 hv2).1
          exact ih _ (by omega) (j + 1) g1 q (by omega) (by omega) rfl hF hqe.symm hFm (fm_I_old (lw := lw) hI hv1 hv2).2
        · exact absurd h84 (by decide)
      · obtain ⟨l1, l2, l3⟩ := hC.2.2.2.2 i j hi hjN (by omega)
        refine aj_iload_n 3 84 (dx d_Model_choose 48 rfl) rfl rfl rfl ?_
        refine aj_if_ne 122 87 (dx d_Model_choose 49 rfl) rfl rfl (by unfold aj_I; omega) (fun h84 => ?_) (fun h84 => ?_)
        · exact absurd rfl h84
        · refine aj_aload_n 0 88 (dx d_Model_choose 50 rfl) rfl rfl rfl ?_
          refine aj_getfv (v := 85) 91 fl_Model_29 (dx d_Model_choose 51 rfl) rfl hM1.1.1 (by first | exact mf_family hM1.1 | (simp [aj_up_at]; exact mf_family hM1.1) | exact mf_family (by assumption)) ?_
          refine aj_aload_n 0 92 (dx d_Model_choose 52 rfl) rfl rfl rfl ?_
          refine aj_getfv (v := (q.1 : Int)) 95 fl_Model_133 (dx d_Model_choose 53 rfl) rfl hM1.1.1 (by first | exact hFm.1 | (simp [aj_up_at]; exact hFm.1)) ?_
          refine aj_aload_n 0 96 (dx d_Model_choose 54 rfl) rfl rfl rfl ?_
          refine aj_aload_n 0 97 (dx d_Model_choose 55 rfl) rfl rfl rfl ?_
          refine aj_getfv (v := 83) 100 fl_Model_22 (dx d_Model_choose 56 rfl) rfl hM1.1.1 (by first | exact mf_stateOf hM1.1 | (simp [aj_up_at]; exact mf_stateOf hM1.1) | exact mf_stateOf (by assumption)) ?_
          refine aj_iload_n 1 101 (dx d_Model_choose 57 rfl) rfl rfl rfl ?_
          refine aj_iald 102 (dx d_Model_choose 58 rfl) rfl (ms_stateOf hM1.1) rfl (by omega) (by omega) ?_
          rw [(hC1.1 i hi).1]
          refine aj_aload_n 0 103 (dx d_Model_choose 59 rfl) rfl rfl rfl ?_
          refine aj_getfv (v := 83) 106 fl_Model_22 (dx d_Model_choose 60 rfl) rfl hM1.1.1 (by first | exact mf_stateOf hM1.1 | (simp [aj_up_at]; exact mf_stateOf hM1.1) | exact mf_stateOf (by assumption)) ?_
          refine aj_iload_n 2 107 (dx d_Model_choose 61 rfl) rfl rfl rfl ?_
          refine aj_iald 108 (dx d_Model_choose 62 rfl) rfl (ms_stateOf hM1.1) rfl (by omega) (by omega) ?_
          rw [(hC1.1 j hjN).1]
          refine aj_callV2 111 cl_Model_140 (dx d_Model_choose 63 rfl) rfl rfl rfl rfl rfl rfl hM1.1.1 (k_Model_leastWord hM1 (mc_T hT hF) (hC1.1 i hi).2 (hC1.1 j hjN).2 (fun w hw hwl => ?_) (fun hal => ?_))
          · have hwe : w = lw i j := least_uniq (by omega) hw l1
            subst hwe
            have hF2 : mc_F g (aj_up (aj_up g1 85 (q.1 : Nat) (wd_cd (lw i j) : Nat)) 78 12 ((q.1 : Int) + 1)) := ⟨fun r a b => by rw [aj_up_ne _ _ _ a, aj_up_ne _ _ _ b]; exact hF.1 r a b, fun j hj => by rw [aj_up_ni _ _ _ hj, aj_up_ne _ _ _ (by omega)]; exact hF.2 j hj⟩
            change aj_wp _ _ _ _ _ _ _ _ _ _ _ _ _ _
            refine aj_last 112 (dx d_Model_choose 64 rfl) rfl (ms_family hM1.1) rfl (by omega) (by omega) ?_
            refine aj_aload_n 0 113 (dx d_Model_choose 65 rfl) rfl rfl rfl ?_
            refine aj_dup 114 (dx d_Model_choose 66 rfl) rfl rfl ?_
            refine aj_getfv (v := (q.1 : Int)) 117 fl_Model_133 (dx d_Model_choose 67 rfl) rfl hM1.1.1 (by first | exact hFm.1 | (simp [aj_up_at]; exact hFm.1)) ?_
            refine aj_iconst 118 (dx d_Model_choose 68 rfl) rfl ?_
            refine aj_iadd 119 (dx d_Model_choose 69 rfl) rfl ?_
            refine aj_putf 122 (pl_Model_133 _) (dx d_Model_choose 70 rfl) rfl hM1.1.1 (aj_fitI _) ?_
            refine aj_iinc 2 125 (dx d_Model_choose 71 rfl) rfl rfl rfl ?_
            simp only [List.set]
            refine aj_goto 19 (dx d_Model_choose 72 rfl) rfl ?_
            refine aj_forget 3 ?_
            simp only [List.set]
            rw [show ((j : Nat) : Int) + 1 = ((j + 1 : Nat) : Int) by omega]
            have hqe : fm_in (tl mnx mou) lw i (j + 1 - (i + 1)) (fm_out (tl mnx mou) lw N i) = (q.1 + 1, fm_up q.2 q.1 (lw i j)) := by
              rw [show j + 1 - (i + 1) = (j - (i + 1)) + 1 by omega]
              show fm_st (tl mnx mou) lw i (i + 1 + (j - (i + 1))) (fm_in (tl mnx mou) lw i (j - (i + 1)) (fm_out (tl mnx mou) lw N i)) = _
              rw [show i + 1 + (j - (i + 1)) = j by omega, ← hq]
              exact (fm_I_new hI (by omega) hjN hv l2 (by omega)).1
            exact ih _ (by omega) (j + 1) _ (q.1 + 1, fm_up q.2 q.1 (lw i j)) (by omega) (by omega) rfl hF2 hqe.symm (famM_add hFm (by omega) l2.1 l3) (fm_I_new hI (by omega) hjN hv l2 (by omega)).2
          · exact (l1.2.1 |> fun z => (hal _ l1.1 z)).elim
set_option maxHeartbeats 4000000 in
theorem k_mc_i {al : Prop} {X : Option (Nat × (Int → Int))} {d : Nat} {sh : List aj_S} {g : aj_G} {Q : aj_R → List aj_S → aj_G → Prop} {k n : Nat} {nx ou : Nat → Nat → Nat} {N : Nat} {sf : Nat → Nat} {mnx mou : Nat → Nat → Nat} {lw : Nat → Nat → List Nat} (hM : mmm sh g k n nx ou) (hT : tdm g k n nx ou) (hC : chH g k n nx ou N sf mnx mou lw)
    (hgo : ∀ g1, mc_F g g1 → famM g1 k (fm_out (tl mnx mou) lw N N).1 (fm_out (tl mnx mou) lw N N).2 → fm_I k N mnx mou (fm_out (tl mnx mou) lw N N) N (N + 1) → aj_wp nE al al X m_Model_choose (d + 3) 0 0 134 [some (1, 78), none, none, none, none] [] sh g1 Q) :
    ∀ (m i : Nat) (g1 : aj_G) (q : fm_T), i ≤ N → N - i = m → mc_F g g1 → q = fm_out (tl mnx mou) lw N i → famM g1 k q.1 q.2 → fm_I k N mnx mou q i (i + 1) →
    aj_wp nE al al X m_Model_choose (d + 3) 0 0 7 [some (1, 78), some (0, (i : Int)), none, none, none] [] sh g1 Q := by
  have hN8 := hC.2.2.1
  intro m
  induction m using Nat.strongRecOn with
  | ind m ih =>
    intro i g1 q hin hmm hF hq hFm hI
    have hM1 := mc_M hM hF
    have hC1 : chH g1 k n nx ou N sf mnx mou lw := chH_of hC (hF.1 83 (by omega) (by omega)) (hF.2 8 (by omega))
    refine aj_iload_n 1 8 (dx d_Model_choose 5 rfl) rfl rfl rfl ?_
    refine aj_aload_n 0 9 (dx d_Model_choose 6 rfl) rfl rfl rfl ?_
    refine aj_getfv (v := (N : Int)) 12 fl_Model_126 (dx d_Model_choose 7 rfl) rfl hM1.1.1 hC1.2.1 ?_
    refine aj_icmp_ge 134 15 (dx d_Model_choose 8 rfl) rfl rfl (by unfold aj_I; omega) (by unfold aj_I; omega) (fun h12 => ?_) (fun h12 => ?_)
    · refine aj_forget 1 ?_
      simp only [List.set]
      have e : i = N := by omega
      subst e
      exact hgo g1 hF (by rw [← hq]; exact hFm) (by rw [← hq]; exact hI)
    · refine aj_iload_n 1 16 (dx d_Model_choose 9 rfl) rfl rfl rfl ?_
      refine aj_iconst 17 (dx d_Model_choose 10 rfl) rfl ?_
      refine aj_iadd 18 (dx d_Model_choose 11 rfl) rfl ?_
      refine aj_istore_n 2 19 (dx d_Model_choose 12 rfl) rfl rfl rfl ?_
      simp only [List.set]
      have e1 : ((i : Nat) : Int) + 1 = ((i + 1 : Nat) : Int) := by omega
      rw [e1]
      refine k_mc_j hM1 (mc_T hT hF) hC1 (show i < N by omega) (fun g2 q2 hF2 hq2 hFm2 hI2 => ?_) _ (i + 1) g1 q (Nat.le_refl _) (by omega) rfl ⟨fun _ _ _ => rfl, fun _ _ => rfl⟩ (by rw [Nat.sub_self]; exact hq) hFm hI
      have hF3 : mc_F g g2 := ⟨fun r a b => (hF2.1 r a b).trans (hF.1 r a b), fun j hj => (hF2.2 j hj).trans (hF.2 j hj)⟩
      refine aj_iinc 1 131 (dx d_Model_choose 73 rfl) rfl rfl rfl ?_
      simp only [List.set]
      refine aj_goto 7 (dx d_Model_choose 74 rfl) rfl ?_
      rw [show ((i : Nat) : Int) + 1 = ((i + 1 : Nat) : Int) by omega]
      exact ih _ (by omega) (i + 1) g2 q2 (by omega) rfl hF3 (by rw [hq2, show N - (i + 1) = N - 1 - i by omega]; rfl) hFm2 (fm_I_row hI2)
def oatM (g : aj_G) (i : Nat) (o : ow_T) : Prop := g 86 i = o.1 ∧ ∀ v : Nat, v < o.1 → g 87 (8 * (i : Int) + v) = o.2 v
def mo_F (g g1 : aj_G) (i : Nat) : Prop := (∀ r, r ≠ 86 → r ≠ 87 → g1 r = g r) ∧ (∀ x, x ≠ (i : Int) → g1 86 x = g 86 x) ∧ ∀ x, x < 8 * (i : Int) ∨ 8 * (i : Int) + 8 ≤ x → g1 87 x = g 87 x
theorem mo_M {sh : List aj_S} {k n i : Nat} {nx ou : Nat → Nat → Nat} {g g1 : aj_G} (hM : mmm sh g k n nx ou) (h : mo_F g g1 i) : mmm sh g1 k n nx ou := mmm_of hM (fun j _ => by rw [h.1 78 (by omega) (by omega)]) (h.1 79 (by omega) (by omega)) (h.1 80 (by omega) (by omega))
set_option maxHeartbeats 4000000 in
theorem k_mo_2 {al : Prop} {X : Option (Nat × (Int → Int))} {d : Nat} {sh : List aj_S} {g : aj_G} {Q : aj_R → List aj_S → aj_G → Prop} {k n : Nat} {nx ou : Nat → Nat → Nat} {N : Nat} {sf : Nat → Nat} {mnx mou : Nat → Nat → Nat} {lw : Nat → Nat → List Nat} {c i j : Nat} {F : Nat → List Nat} {w : ow_T} (hM : mmm sh g k n nx ou) (hC : chH g k n nx ou N sf mnx mou lw) (hF : famM g k c F) (hi : i < N) (hj : j < N) (hcov : i ≠ j → ∃ v, v < c ∧ tl mnx mou i j (F v)) (ho : oatM g i w) (hoj : w.1 ≤ j) (hoc : ∀ v, v < w.1 → w.2 v < c) (hij : ¬ i = j) (hnv : ∀ v, v < w.1 → ¬ tl mnx mou i j (F (w.2 v)))
    (hgo : ∀ g1, mo_F g g1 i → oatM g1 i (ow_st (tl mnx mou) F c i j w) → ∀ x : Int, aj_I x → aj_wp nE al al X m_Model_chooseOwn (d + 3) 0 0 80 [some (1, 78), some (0, (i : Int)), some (0, (j : Int)), some (0, 1), some (0, x)] [] sh g1 Q) :
    ∀ (m v : Nat), v ≤ c → c - v = m → (∀ y, y < v → ¬ tl mnx mou i j (F y)) →
    aj_wp nE al al X m_Model_chooseOwn (d + 3) 0 0 80 [some (1, 78), some (0, (i : Int)), some (0, (j : Int)), some (0, 0), some (0, (v : Int))] [] sh g Q := by
  have hN8 := hC.2.2.1
  have hc8 := hF.2.1
  intro m
  induction m using Nat.strongRecOn with
  | ind m ih =>
    intro v hv hmm hno
    refine aj_iload 4 82 (dx d_Model_chooseOwn 47 rfl) rfl rfl ?_
    refine aj_aload_n 0 83 (dx d_Model_chooseOwn 48 rfl) rfl rfl rfl ?_
    refine aj_getfv (v := (c : Int)) 86 fl_Model_133 (dx d_Model_chooseOwn 49 rfl) rfl hM.1.1 (by first | exact hF.1 | (simp [aj_up_at]; exact hF.1)) ?_
    refine aj_icmp_ge 155 89 (dx d_Model_chooseOwn 50 rfl) rfl rfl (by unfold aj_I; omega) (by unfold aj_I; omega) (fun h86 => ?_) (fun h86 => ?_)
    · obtain ⟨y, y1, y2⟩ := hcov hij
      exact (hno y (by omega) y2).elim
    · have hvc : v < c := by omega
      obtain ⟨f1, f2, f3⟩ := hF.2.2 v hvc
      refine aj_iload_n 3 90 (dx d_Model_chooseOwn 51 rfl) rfl rfl rfl ?_
      refine aj_if_ne 155 93 (dx d_Model_chooseOwn 52 rfl) rfl rfl (by unfold aj_I; omega) (fun h90 => ?_) (fun h90 => ?_)
      · exact absurd rfl h90
      · refine aj_aload_n 0 94 (dx d_Model_chooseOwn 53 rfl) rfl rfl rfl ?_
        refine aj_aload_n 0 95 (dx d_Model_chooseOwn 54 rfl) rfl rfl rfl ?_
        refine aj_getfv (v := 85) 98 fl_Model_29 (dx d_Model_chooseOwn 55 rfl) rfl hM.1.1 (by first | exact mf_family hM.1 | (simp [aj_up_at]; exact mf_family hM.1) | exact mf_family (by assumption)) ?_
        refine aj_iload 4 100 (dx d_Model_chooseOwn 56 rfl) rfl rfl ?_
        refine aj_lald 101 (dx d_Model_chooseOwn 57 rfl) rfl (ms_family hM.1) rfl (by omega) (by omega) ?_
        rw [f1]
        refine aj_aload_n 0 102 (dx d_Model_chooseOwn 58 rfl) rfl rfl rfl ?_
        refine aj_getfv (v := 83) 105 fl_Model_22 (dx d_Model_chooseOwn 59 rfl) rfl hM.1.1 (by first | exact mf_stateOf hM.1 | (simp [aj_up_at]; exact mf_stateOf hM.1) | exact mf_stateOf (by assumption)) ?_
        refine aj_iload_n 1 106 (dx d_Model_chooseOwn 60 rfl) rfl rfl rfl ?_
        refine aj_iald 107 (dx d_Model_chooseOwn 61 rfl) rfl (ms_stateOf hM.1) rfl (by omega) (by omega) ?_
        rw [(hC.1 i hi).1]
        refine aj_aload_n 0 108 (dx d_Model_chooseOwn 62 rfl) rfl rfl rfl ?_
        refine aj_getfv (v := 83) 111 fl_Model_22 (dx d_Model_chooseOwn 63 rfl) rfl hM.1.1 (by first | exact mf_stateOf hM.1 | (simp [aj_up_at]; exact mf_stateOf hM.1) | exact mf_stateOf (by assumption)) ?_
        refine aj_iload_n 2 112 (dx d_Model_chooseOwn 64 rfl) rfl rfl rfl ?_
        refine aj_iald 113 (dx d_Model_chooseOwn 65 rfl) rfl (ms_stateOf hM.1) rfl (by omega) (by omega) ?_
        rw [(hC.1 j hj).1]
        refine aj_callV3 116 cl_Model_136 (dx d_Model_chooseOwn 66 rfl) rfl rfl rfl rfl rfl rfl hM.1.1 (k_Model_tells hM f2 (by omega) (hC.1 i hi).2 (hC.1 j hj).2 (fun ht => ?_) (fun ht => ?_))
        · change aj_wp _ _ _ _ _ _ _ _ _ _ _ _ _ _
          refine aj_if_eq 149 119 (dx d_Model_chooseOwn 67 rfl) rfl rfl (by unfold aj_I; omega) (fun h116 => ?_) (fun h116 => ?_)
          · exact absurd h116 (by decide)
          · refine aj_aload_n 0 120 (dx d_Model_chooseOwn 68 rfl) rfl rfl rfl ?_
            refine aj_getfv (v := 87) 123 fl_Model_35 (dx d_Model_chooseOwn 69 rfl) rfl hM.1.1 (by first | exact mf_own hM.1 | (simp [aj_up_at]; exact mf_own hM.1) | exact mf_own (by assumption)) ?_
            refine aj_bipush 125 (dx d_Model_chooseOwn 70 rfl) rfl (by decide +kernel) ?_
            refine aj_iload_n 1 126 (dx d_Model_chooseOwn 71 rfl) rfl rfl rfl ?_
            refine aj_imul 127 (dx d_Model_chooseOwn 72 rfl) rfl ?_
            refine aj_aload_n 0 128 (dx d_Model_chooseOwn 73 rfl) rfl rfl rfl ?_
            refine aj_getfv (v := 86) 131 fl_Model_32 (dx d_Model_chooseOwn 74 rfl) rfl hM.1.1 (by first | exact mf_owns hM.1 | (simp [aj_up_at]; exact mf_owns hM.1) | exact mf_owns (by assumption)) ?_
            refine aj_iload_n 1 132 (dx d_Model_chooseOwn 75 rfl) rfl rfl rfl ?_
            refine aj_iald 133 (dx d_Model_chooseOwn 76 rfl) rfl (ms_owns hM.1) rfl (by omega) (by omega) ?_
            rw [ho.1]
            refine aj_iadd 134 (dx d_Model_chooseOwn 77 rfl) rfl ?_
            refine aj_iload 4 136 (dx d_Model_chooseOwn 78 rfl) rfl rfl ?_
            refine aj_iast 137 (dx d_Model_chooseOwn 79 rfl) rfl (ms_own hM.1) rfl (by omega) (by omega) ?_
            refine aj_aload_n 0 138 (dx d_Model_chooseOwn 80 rfl) rfl rfl rfl ?_
            refine aj_getfv (v := 86) 141 fl_Model_32 (dx d_Model_chooseOwn 81 rfl) rfl hM.1.1 (by first | exact mf_owns hM.1 | (simp [aj_up_at]; exact mf_owns hM.1) | exact mf_owns (by assumption)) ?_
            refine aj_iload_n 1 142 (dx d_Model_chooseOwn 82 rfl) rfl rfl rfl ?_
            refine aj_dup2 143 (dx d_Model_chooseOwn 83 rfl) rfl rfl rfl ?_
            refine aj_iald 144 (dx d_Model_chooseOwn 84 rfl) rfl (ms_owns hM.1) rfl (by omega) (by omega) ?_
            rw [show aj_up g 87 (8 * (i : Int) + (w.1 : Int)) (v : Int) 86 (i : Int) = (w.1 : Nat) by rw [aj_up_ne _ _ _ (by omega)]; exact ho.1]
            refine aj_iconst 145 (dx d_Model_chooseOwn 85 rfl) rfl ?_
            refine aj_iadd 146 (dx d_Model_chooseOwn 86 rfl) rfl ?_
            refine aj_iast 147 (dx d_Model_chooseOwn 87 rfl) rfl (ms_owns hM.1) rfl (by omega) (by omega) ?_
            refine aj_iconst 148 (dx d_Model_chooseOwn 88 rfl) rfl ?_
            refine aj_istore_n 3 149 (dx d_Model_chooseOwn 89 rfl) rfl rfl rfl ?_
            simp only [List.set]
            refine aj_iinc 4 152 (dx d_Model_chooseOwn 90 rfl) rfl rfl rfl ?_
            simp only [List.set]
            refine aj_goto 80 (dx d_Model_chooseOwn 91 rfl) rfl ?_
            have ht2 := (hC.2.2.2.1 i j (F v) hi hj f2).mp ht
            refine hgo _ ?_ ?_ _ (by unfold aj_I; omega)
            · exact ⟨fun r a b => by rw [aj_up_ne _ _ _ a, aj_up_ne _ _ _ b], fun x hx => by rw [aj_up_ni _ _ _ hx, aj_up_ne _ _ _ (by omega)], fun x hx => by rw [aj_up_ne _ _ _ (by omega), aj_up_ni _ _ _ (by omega)]⟩
            · have hst : ow_st (tl mnx mou) F c i j w = (w.1 + 1, nb_up w.2 w.1 v) := by
                unfold ow_st
                rw [if_neg (by
                  rintro (z | ⟨y, z1, z2⟩)
                  · exact hij z
                  · exact hnv y z1 z2), fwd_eq hvc ht2 hno]
              rw [hst]
              refine ⟨by rw [aj_up_self]; push_cast; rfl, fun y hy => ?_⟩
              have hy' : y < w.1 + 1 := hy
              rw [aj_up_ne _ _ _ (by omega)]
              by_cases e : y = w.1
              · rw [e, aj_up_self]
                show (v : Int) = (nb_up w.2 w.1 v w.1 : Nat)
                rw [nb_up_self]
              · rw [aj_up_ni _ _ _ (by omega)]
                show g 87 (8 * (i : Int) + y) = (nb_up w.2 w.1 v y : Nat)
                rw [nb_up_ne _ _ e]
                exact ho.2 y (by omega)
        · change aj_wp _ _ _ _ _ _ _ _ _ _ _ _ _ _
          refine aj_if_eq 149 119 (dx d_Model_chooseOwn 67 rfl) rfl rfl (by unfold aj_I; omega) (fun h116 => ?_) (fun h116 => ?_)
          · refine aj_iinc 4 152 (dx d_Model_chooseOwn 90 rfl) rfl rfl rfl ?_
            simp only [List.set]
            refine aj_goto 80 (dx d_Model_chooseOwn 91 rfl) rfl ?_
            have hih := ih _ (by omega) (v + 1) (by omega) rfl (fun y hy => by
              rcases Nat.lt_or_ge y v with z | z
              · exact hno y z
              · rw [show y = v by omega]; exact fun z => ht ((hC.2.2.2.1 i j (F v) hi hj f2).mpr z))
            rw [show ((v : Nat) : Int) + 1 = ((v + 1 : Nat) : Int) by omega]
            exact hih
          · exact absurd rfl h116
set_option maxHeartbeats 4000000 in
theorem k_mo_end {al : Prop} {X : Option (Nat × (Int → Int))} {d : Nat} {sh : List aj_S} {g : aj_G} {Q : aj_R → List aj_S → aj_G → Prop} {i j x : Int} (hm1 : mos sh g) (hx : aj_I x) (hc : aj_I (g 78 12)) (hk : Q (.inl none) sh g) : aj_wp nE al al X m_Model_chooseOwn d 0 0 80 [some (1, 78), some (0, i), some (0, j), some (0, 1), some (0, x)] [] sh g Q := by
  refine aj_iload 4 82 (dx d_Model_chooseOwn 47 rfl) rfl rfl ?_
  refine aj_aload_n 0 83 (dx d_Model_chooseOwn 48 rfl) rfl rfl rfl ?_
  refine aj_getf 86 fl_Model_133 (dx d_Model_chooseOwn 49 rfl) rfl hm1.1 ?_
  refine aj_icmp_ge 155 89 (dx d_Model_chooseOwn 50 rfl) rfl rfl hx hc (fun h86 => ?_) (fun h86 => ?_)
  · refine aj_vret (dx d_Model_chooseOwn 92 rfl) rfl id ?_
    exact hk
  · refine aj_iload_n 3 90 (dx d_Model_chooseOwn 51 rfl) rfl rfl rfl ?_
    refine aj_if_ne 155 93 (dx d_Model_chooseOwn 52 rfl) rfl rfl (by unfold aj_I; omega) (fun h90 => ?_) (fun h90 => ?_)
    · refine aj_vret (dx d_Model_chooseOwn 92 rfl) rfl id ?_
      exact hk
    · exact absurd h90 (by decide)
set_option maxHeartbeats 4000000 in
theorem k_mo_1 {al : Prop} {X : Option (Nat × (Int → Int))} {d : Nat} {sh : List aj_S} {g : aj_G} {Q : aj_R → List aj_S → aj_G → Prop} {k n : Nat} {nx ou : Nat → Nat → Nat} {N : Nat} {sf : Nat → Nat} {mnx mou : Nat → Nat → Nat} {lw : Nat → Nat → List Nat} {c i j : Nat} {F : Nat → List Nat} {w : ow_T} (hM : mmm sh g k n nx ou) (hC : chH g k n nx ou N sf mnx mou lw) (hF : famM g k c F) (hi : i < N) (hj : j < N) (hcov : i ≠ j → ∃ v, v < c ∧ tl mnx mou i j (F v)) (ho : oatM g i w) (hoj : w.1 ≤ j) (hoc : ∀ v, v < w.1 → w.2 v < c) (hk : ∀ g1, mo_F g g1 i → oatM g1 i (ow_st (tl mnx mou) F c i j w) → Q (.inl none) sh g1) :
    ∀ (m v : Nat) (x : Int), v ≤ w.1 → w.1 - v = m → ((x = 1 ∧ (i = j ∨ ∃ y, y < v ∧ tl mnx mou i j (F (w.2 y)))) ∨ (x = 0 ∧ (¬ i = j) ∧ ∀ y, y < v → ¬ tl mnx mou i j (F (w.2 y)))) →
    aj_wp nE al al X m_Model_chooseOwn (d + 3) 0 0 14 [some (1, 78), some (0, (i : Int)), some (0, (j : Int)), some (0, x), some (0, (v : Int))] [] sh g Q := by
  have hN8 := hC.2.2.1
  have hc8 := hF.2.1
  intro m
  induction m using Nat.strongRecOn with
  | ind m ih =>
    intro v x hv hmm hx
    refine aj_iload 4 16 (dx d_Model_chooseOwn 9 rfl) rfl rfl ?_
    refine aj_aload_n 0 17 (dx d_Model_chooseOwn 10 rfl) rfl rfl rfl ?_
    refine aj_getfv (v := 86) 20 fl_Model_32 (dx d_Model_chooseOwn 11 rfl) rfl hM.1.1 (by first | exact mf_owns hM.1 | (simp [aj_up_at]; exact mf_owns hM.1) | exact mf_owns (by assumption)) ?_
    refine aj_iload_n 1 21 (dx d_Model_chooseOwn 12 rfl) rfl rfl rfl ?_
    refine aj_iald 22 (dx d_Model_chooseOwn 13 rfl) rfl (ms_owns hM.1) rfl (by omega) (by omega) ?_
    rw [ho.1]
    refine aj_icmp_ge 77 25 (dx d_Model_chooseOwn 14 rfl) rfl rfl (by unfold aj_I; omega) (by unfold aj_I; omega) (fun h22 => ?_) (fun h22 => ?_)
    · refine aj_iconst 78 (dx d_Model_chooseOwn 45 rfl) rfl ?_
      refine aj_istore 4 80 (dx d_Model_chooseOwn 46 rfl) rfl rfl ?_
      simp only [List.set]
      have e : v = w.1 := by omega
      subst e
      rcases hx with ⟨rfl, h⟩ | ⟨rfl, hne, h⟩
      · refine k_mo_end hM.1 (by unfold aj_I; omega) (by rw [hF.1]; unfold aj_I; omega) (hk g ⟨fun _ _ _ => rfl, fun _ _ => rfl, fun _ _ => rfl⟩ ?_)
        have hst : ow_st (tl mnx mou) F c i j w = w := by unfold ow_st; rw [if_pos h]
        rw [hst]
        exact ho
      · refine k_mo_2 hM hC hF hi hj hcov ho hoj hoc hne h (fun g1 hF1 ho1 x hxx => ?_) _ 0 (by omega) rfl (fun y hy => absurd hy (Nat.not_lt_zero _))
        exact k_mo_end (mo_M hM hF1).1 hxx (by rw [hF1.1 78 (by omega) (by omega), hF.1]; unfold aj_I; omega) (hk g1 hF1 ho1)
    · have hvw : v < w.1 := by omega
      have hvc := hoc v hvw
      obtain ⟨f1, f2, f3⟩ := hF.2.2 (w.2 v) hvc
      refine aj_iload_n 3 26 (dx d_Model_chooseOwn 15 rfl) rfl rfl rfl ?_
      refine aj_if_ne 65 29 (dx d_Model_chooseOwn 16 rfl) rfl rfl (by rcases hx with ⟨h, -⟩ | ⟨h, -⟩ <;> rw [h] <;> unfold aj_I <;> omega) (fun h26 => ?_) (fun h26 => ?_)
      · have hyes : i = j ∨ ∃ y, y < v ∧ tl mnx mou i j (F (w.2 y)) := by
          rcases hx with ⟨-, h⟩ | ⟨h, -⟩
          · exact h
          · omega
        refine aj_iconst 66 (dx d_Model_chooseOwn 39 rfl) rfl ?_
        refine aj_goto 70 (dx d_Model_chooseOwn 40 rfl) rfl ?_
        have hlt : w.1 - (v + 1) < m := by clear hyes hx; omega
        have hle : v + 1 ≤ w.1 := by clear hyes hx; omega
        refine aj_istore_n 3 71 (dx d_Model_chooseOwn 42 rfl) rfl rfl rfl ?_
        simp only [List.set]
        refine aj_iinc 4 74 (dx d_Model_chooseOwn 43 rfl) rfl rfl rfl ?_
        simp only [List.set]
        refine aj_goto 14 (dx d_Model_chooseOwn 44 rfl) rfl ?_
        have hih := ih _ hlt (v + 1) 1 hle rfl (Or.inl ⟨rfl, by
          rcases hyes with z | ⟨y, y1, y2⟩
          · exact Or.inl z
          · exact Or.inr ⟨y, Nat.lt_succ_of_lt y1, y2⟩⟩)
        rw [show ((v : Nat) : Int) + 1 = ((v + 1 : Nat) : Int) from rfl]
        exact hih
      · obtain ⟨hne, hno⟩ : (¬ i = j) ∧ ∀ y, y < v → ¬ tl mnx mou i j (F (w.2 y)) := by
          rcases hx with ⟨h, -⟩ | ⟨-, h⟩
          · omega
          · exact h
        refine aj_aload_n 0 30 (dx d_Model_chooseOwn 17 rfl) rfl rfl rfl ?_
        refine aj_aload_n 0 31 (dx d_Model_chooseOwn 18 rfl) rfl rfl rfl ?_
        refine aj_getfv (v := 85) 34 fl_Model_29 (dx d_Model_chooseOwn 19 rfl) rfl hM.1.1 (by first | exact mf_family hM.1 | (simp [aj_up_at]; exact mf_family hM.1) | exact mf_family (by assumption)) ?_
        refine aj_aload_n 0 35 (dx d_Model_chooseOwn 20 rfl) rfl rfl rfl ?_
        refine aj_getfv (v := 87) 38 fl_Model_35 (dx d_Model_chooseOwn 21 rfl) rfl hM.1.1 (by first | exact mf_own hM.1 | (simp [aj_up_at]; exact mf_own hM.1) | exact mf_own (by assumption)) ?_
        refine aj_bipush 40 (dx d_Model_chooseOwn 22 rfl) rfl (by decide +kernel) ?_
        refine aj_iload_n 1 41 (dx d_Model_chooseOwn 23 rfl) rfl rfl rfl ?_
        refine aj_imul 42 (dx d_Model_chooseOwn 24 rfl) rfl ?_
        refine aj_iload 4 44 (dx d_Model_chooseOwn 25 rfl) rfl rfl ?_
        refine aj_iadd 45 (dx d_Model_chooseOwn 26 rfl) rfl ?_
        refine aj_iald 46 (dx d_Model_chooseOwn 27 rfl) rfl (ms_own hM.1) rfl (by omega) (by omega) ?_
        rw [ho.2 v hvw]
        refine aj_lald 47 (dx d_Model_chooseOwn 28 rfl) rfl (ms_family hM.1) rfl (by omega) (by omega) ?_
        rw [f1]
        refine aj_aload_n 0 48 (dx d_Model_chooseOwn 29 rfl) rfl rfl rfl ?_
        refine aj_getfv (v := 83) 51 fl_Model_22 (dx d_Model_chooseOwn 30 rfl) rfl hM.1.1 (by first | exact mf_stateOf hM.1 | (simp [aj_up_at]; exact mf_stateOf hM.1) | exact mf_stateOf (by assumption)) ?_
        refine aj_iload_n 1 52 (dx d_Model_chooseOwn 31 rfl) rfl rfl rfl ?_
        refine aj_iald 53 (dx d_Model_chooseOwn 32 rfl) rfl (ms_stateOf hM.1) rfl (by omega) (by omega) ?_
        rw [(hC.1 i hi).1]
        refine aj_aload_n 0 54 (dx d_Model_chooseOwn 33 rfl) rfl rfl rfl ?_
        refine aj_getfv (v := 83) 57 fl_Model_22 (dx d_Model_chooseOwn 34 rfl) rfl hM.1.1 (by first | exact mf_stateOf hM.1 | (simp [aj_up_at]; exact mf_stateOf hM.1) | exact mf_stateOf (by assumption)) ?_
        refine aj_iload_n 2 58 (dx d_Model_chooseOwn 35 rfl) rfl rfl rfl ?_
        refine aj_iald 59 (dx d_Model_chooseOwn 36 rfl) rfl (ms_stateOf hM.1) rfl (by omega) (by omega) ?_
        rw [(hC.1 j hj).1]
        refine aj_callV3 62 cl_Model_136 (dx d_Model_chooseOwn 37 rfl) rfl rfl rfl rfl rfl rfl hM.1.1 (k_Model_tells hM f2 (by omega) (hC.1 i hi).2 (hC.1 j hj).2 (fun ht => ?_) (fun ht => ?_))
        · change aj_wp _ _ _ _ _ _ _ _ _ _ _ _ _ _
          refine aj_if_eq 69 65 (dx d_Model_chooseOwn 38 rfl) rfl rfl (by unfold aj_I; omega) (fun h62 => ?_) (fun h62 => ?_)
          · exact absurd h62 (by decide)
          · refine aj_iconst 66 (dx d_Model_chooseOwn 39 rfl) rfl ?_
            refine aj_goto 70 (dx d_Model_chooseOwn 40 rfl) rfl ?_
            refine aj_istore_n 3 71 (dx d_Model_chooseOwn 42 rfl) rfl rfl rfl ?_
            simp only [List.set]
            refine aj_iinc 4 74 (dx d_Model_chooseOwn 43 rfl) rfl rfl rfl ?_
            simp only [List.set]
            refine aj_goto 14 (dx d_Model_chooseOwn 44 rfl) rfl ?_
            have hih := ih _ (by omega) (v + 1) 1 (by omega) rfl (Or.inl ⟨rfl, Or.inr ⟨v, by omega, (hC.2.2.2.1 i j _ hi hj f2).mp ht⟩⟩)
            rw [show ((v : Nat) : Int) + 1 = ((v + 1 : Nat) : Int) by omega]
            exact hih
        · change aj_wp _ _ _ _ _ _ _ _ _ _ _ _ _ _
          refine aj_if_eq 69 65 (dx d_Model_chooseOwn 38 rfl) rfl rfl (by unfold aj_I; omega) (fun h62 => ?_) (fun h62 => ?_)
          · refine aj_iconst 70 (dx d_Model_chooseOwn 41 rfl) rfl ?_
            have hnt : ¬ tl mnx mou i j (F (w.2 v)) := fun z => ht ((hC.2.2.2.1 i j _ hi hj f2).mpr z)
            refine aj_istore_n 3 71 (dx d_Model_chooseOwn 42 rfl) rfl rfl rfl ?_
            simp only [List.set]
            refine aj_iinc 4 74 (dx d_Model_chooseOwn 43 rfl) rfl rfl rfl ?_
            simp only [List.set]
            refine aj_goto 14 (dx d_Model_chooseOwn 44 rfl) rfl ?_
            have hih := ih _ (by omega) (v + 1) 0 (by omega) rfl (Or.inr ⟨rfl, hne, fun y hy => by
              rcases Nat.lt_or_ge y v with z | z
              · exact hno y z
              · rw [show y = v by omega]; exact hnt⟩)
            rw [show ((v : Nat) : Int) + 1 = ((v + 1 : Nat) : Int) by omega]
            exact hih
          · exact absurd rfl h62
set_option maxHeartbeats 4000000 in
theorem k_Model_chooseOwn {al : Prop} {X : Option (Nat × (Int → Int))} {d : Nat} {sh : List aj_S} {g : aj_G} {Q : aj_R → List aj_S → aj_G → Prop} {k n : Nat} {nx ou : Nat → Nat → Nat} {N : Nat} {sf : Nat → Nat} {mnx mou : Nat → Nat → Nat} {lw : Nat → Nat → List Nat} {c i j : Nat} {F : Nat → List Nat} {w : ow_T} (hM : mmm sh g k n nx ou) (hC : chH g k n nx ou N sf mnx mou lw) (hF : famM g k c F) (hi : i < N) (hj : j < N) (hcov : i ≠ j → ∃ v, v < c ∧ tl mnx mou i j (F v)) (ho : oatM g i w) (hoj : w.1 ≤ j) (hoc : ∀ v, v < w.1 → w.2 v < c) (hk : ∀ g1, mo_F g g1 i → oatM g1 i (ow_st (tl mnx mou) F c i j w) → Q (.inl none) sh g1) : aj_wp nE al al X m_Model_chooseOwn (d + 3) 0 0 0 [some (1, 78), some (0, (i : Int)), some (0, (j : Int)), none, none] [] sh g Q := by
  refine aj_iload_n 1 1 (dx d_Model_chooseOwn 0 rfl) rfl rfl rfl ?_
  refine aj_iload_n 2 2 (dx d_Model_chooseOwn 1 rfl) rfl rfl rfl ?_
  refine aj_icmp_ne 9 5 (dx d_Model_chooseOwn 2 rfl) rfl rfl (by have := hC.2.2.1; unfold aj_I; omega) (by have := hC.2.2.1; unfold aj_I; omega) (fun h2 => ?_) (fun h2 => ?_)
  · refine aj_iconst 10 (dx d_Model_chooseOwn 5 rfl) rfl ?_
    refine aj_istore_n 3 11 (dx d_Model_chooseOwn 6 rfl) rfl rfl rfl ?_
    simp only [List.set]
    refine aj_iconst 12 (dx d_Model_chooseOwn 7 rfl) rfl ?_
    refine aj_istore 4 14 (dx d_Model_chooseOwn 8 rfl) rfl rfl ?_
    simp only [List.set]
    exact k_mo_1 hM hC hF hi hj hcov ho hoj hoc hk _ 0 0 (by omega) rfl (Or.inr ⟨rfl, by omega, fun y hy => absurd hy (Nat.not_lt_zero _)⟩)
  · refine aj_iconst 6 (dx d_Model_chooseOwn 3 rfl) rfl ?_
    refine aj_goto 10 (dx d_Model_chooseOwn 4 rfl) rfl ?_
    refine aj_istore_n 3 11 (dx d_Model_chooseOwn 6 rfl) rfl rfl rfl ?_
    simp only [List.set]
    refine aj_iconst 12 (dx d_Model_chooseOwn 7 rfl) rfl ?_
    refine aj_istore 4 14 (dx d_Model_chooseOwn 8 rfl) rfl rfl ?_
    simp only [List.set]
    exact k_mo_1 hM hC hF hi hj hcov ho hoj hoc hk _ 0 1 (by omega) rfl (Or.inl ⟨rfl, Or.inl (by omega)⟩)
