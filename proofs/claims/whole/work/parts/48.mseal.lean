/-! Model: choose, seal -/
theorem fwd_lt {T : Nat → Nat → List Nat → Prop} {F : Nat → List Nat} {c i j : Nat} (h : ∃ w, w < c ∧ T i j (F w)) : fwd T F c i j < c := by
  obtain ⟨w, ⟨h1, h2⟩, h3⟩ := mo_least h
  have h4 : ∀ w', w' < w → ¬ T i j (F w') := fun w' hw z => h3 w' hw ⟨by omega, z⟩
  rw [fwd_eq h1 h2 h4]
  exact h1
theorem ow_lt {T : Nat → Nat → List Nat → Prop} {F : Nat → List Nat} {c i N : Nat} (hcov : ∀ j, j < N → i ≠ j → ∃ w, w < c ∧ T i j (F w)) : ∀ j, j ≤ N → ∀ v, v < (ow T F c i j).1 → (ow T F c i j).2 v < c
  | 0, _, v, h => absurd h (Nat.not_lt_zero _)
  | j + 1, hj, v, h => by
    have ih := ow_lt hcov j (by omega)
    have h' : v < (ow_st T F c i j (ow T F c i j)).1 := h
    show (ow_st T F c i j (ow T F c i j)).2 v < c
    by_cases z : i = j ∨ ∃ y, y < (ow T F c i j).1 ∧ T i j (F ((ow T F c i j).2 y))
    · have e : ow_st T F c i j (ow T F c i j) = ow T F c i j := by unfold ow_st; rw [if_pos z]
      rw [e] at h' ⊢
      exact ih v h'
    · have e : ow_st T F c i j (ow T F c i j) = ((ow T F c i j).1 + 1, nb_up (ow T F c i j).2 (ow T F c i j).1 (fwd T F c i j)) := by unfold ow_st; rw [if_neg z]
      rw [e] at h' ⊢
      have h'' : v < (ow T F c i j).1 + 1 := h'
      show nb_up _ _ _ v < c
      by_cases e2 : v = (ow T F c i j).1
      · rw [e2, nb_up_self]
        exact fwd_lt (hcov j (by omega) (fun y => z (Or.inl y)))
      · rw [nb_up_ne _ _ e2]
        exact ih v (by omega)
def cm_F (g g1 : aj_G) : Prop := (∀ r, r ≠ 78 → r ≠ 85 → r ≠ 86 → r ≠ 87 → g1 r = g r) ∧ ∀ j, j ≠ 12 → g1 78 j = g 78 j
theorem cm_M {sh : List aj_S} {k n : Nat} {nx ou : Nat → Nat → Nat} {g g1 : aj_G} (hM : mmm sh g k n nx ou) (h : cm_F g g1) : mmm sh g1 k n nx ou := mmm_of hM (fun j hj => h.2 j (by unfold mo_fin at hj; omega)) (h.1 79 (by omega) (by omega) (by omega) (by omega)) (h.1 80 (by omega) (by omega) (by omega) (by omega))
set_option maxHeartbeats 4000000 in
theorem k_cm_j {al : Prop} {X : Option (Nat × (Int → Int))} {d : Nat} {sh : List aj_S} {g : aj_G} {Q : aj_R → List aj_S → aj_G → Prop} {k n : Nat} {nx ou : Nat → Nat → Nat} {N : Nat} {sf : Nat → Nat} {mnx mou : Nat → Nat → Nat} {lw : Nat → Nat → List Nat} {c : Nat} {F : Nat → List Nat} (hM : mmm sh g k n nx ou) (hC : chH g k n nx ou N sf mnx mou lw) (hF : famM g k c F) (hcov : ∀ i j, i < N → j < N → i ≠ j → ∃ w, w < c ∧ tl mnx mou i j (F w)) {i : Nat} (hi : i < N)
    (hgo : ∀ g1 : aj_G, (∀ r, r ≠ 86 → r ≠ 87 → g1 r = g r) → oatM g1 i (ow (tl mnx mou) F c i N) → (∀ a, a < i → oatM g1 a (ow (tl mnx mou) F c a N)) → aj_wp nE al al X m_Model_choose (d + 4) 0 0 173 [some (1, 78), some (0, (i : Int)), none, none, none] [] sh g1 Q) :
    ∀ (m j : Nat) (g1 : aj_G), j ≤ N → N - j = m → (∀ r, r ≠ 86 → r ≠ 87 → g1 r = g r) → oatM g1 i (ow (tl mnx mou) F c i j) → (∀ a, a < i → oatM g1 a (ow (tl mnx mou) F c a N)) →
    aj_wp nE al al X m_Model_choose (d + 4) 0 0 153 [some (1, 78), some (0, (i : Int)), some (0, (j : Int)), none, none] [] sh g1 Q := by
  have hN8 := hC.2.2.1
  intro m
  induction m using Nat.strongRecOn with
  | ind m ih =>
    intro j g1 hj hmm hG ho hK
    have hM1 : mmm sh g1 k n nx ou := mmm_of hM (fun j _ => by rw [hG 78 (by omega) (by omega)]) (hG 79 (by omega) (by omega)) (hG 80 (by omega) (by omega))
    have hC1 : chH g1 k n nx ou N sf mnx mou lw := chH_of hC (hG 83 (by omega) (by omega)) (by rw [hG 78 (by omega) (by omega)])
    have hF1 : famM g1 k c F := famM_of hF (by rw [hG 78 (by omega) (by omega)]) (hG 85 (by omega) (by omega))
    refine aj_iload_n 2 154 (dx d_Model_choose 88 rfl) rfl rfl rfl ?_
    refine aj_aload_n 0 155 (dx d_Model_choose 89 rfl) rfl rfl rfl ?_
    refine aj_getfv (v := (N : Int)) 158 fl_Model_126 (dx d_Model_choose 90 rfl) rfl hM1.1.1 hC1.2.1 ?_
    refine aj_icmp_ge 173 161 (dx d_Model_choose 91 rfl) rfl rfl (by unfold aj_I; omega) (by unfold aj_I; omega) (fun h158 => ?_) (fun h158 => ?_)
    · refine aj_forget 2 ?_
      simp only [List.set]
      have e : j = N := by omega
      subst e
      exact hgo g1 hG ho hK
    · refine aj_aload_n 0 162 (dx d_Model_choose 92 rfl) rfl rfl rfl ?_
      refine aj_iload_n 1 163 (dx d_Model_choose 93 rfl) rfl rfl rfl ?_
      refine aj_iload_n 2 164 (dx d_Model_choose 94 rfl) rfl rfl rfl ?_
      refine aj_callV2 167 cl_Model_144 (dx d_Model_choose 95 rfl) rfl rfl rfl rfl rfl rfl hM1.1.1 (k_Model_chooseOwn hM1 hC1 hF1 hi (show j < N by omega) (hcov i j hi (by omega)) ho (ow_le j) (ow_lt (hcov i · hi) j (by omega)) (fun g2 hF2 ho2 => ?_))
      change aj_wp _ _ _ _ _ _ _ _ _ _ _ _ _ _
      refine aj_iinc 2 170 (dx d_Model_choose 96 rfl) rfl rfl rfl ?_
      simp only [List.set]
      refine aj_goto 153 (dx d_Model_choose 97 rfl) rfl ?_
      rw [show ((j : Nat) : Int) + 1 = ((j + 1 : Nat) : Int) by omega]
      exact ih _ (by omega) (j + 1) g2 (by omega) rfl (fun r a b => (hF2.1 r a b).trans (hG r a b)) ho2 (fun a ha => by
        obtain ⟨x1, x2⟩ := hK a ha
        exact ⟨by rw [hF2.2.1 _ (by omega)]; exact x1, fun v hv => by
          have hle := ow_le (T := tl mnx mou) (F := F) (c := c) (i := a) N
          rw [hF2.2.2 _ (by omega)]; exact x2 v hv⟩)
set_option maxHeartbeats 4000000 in
theorem k_cm_i {al : Prop} {X : Option (Nat × (Int → Int))} {d : Nat} {sh : List aj_S} {g : aj_G} {Q : aj_R → List aj_S → aj_G → Prop} {k n : Nat} {nx ou : Nat → Nat → Nat} {N : Nat} {sf : Nat → Nat} {mnx mou : Nat → Nat → Nat} {lw : Nat → Nat → List Nat} {c : Nat} {F : Nat → List Nat} (hM : mmm sh g k n nx ou) (hC : chH g k n nx ou N sf mnx mou lw) (hF : famM g k c F) (hcov : ∀ i j, i < N → j < N → i ≠ j → ∃ w, w < c ∧ tl mnx mou i j (F w)) (hk : ∀ g1 : aj_G, (∀ r, r ≠ 86 → r ≠ 87 → g1 r = g r) → (∀ a, a < N → oatM g1 a (ow (tl mnx mou) F c a N)) → Q (.inl none) sh g1) :
    ∀ (m i : Nat) (g1 : aj_G), i ≤ N → N - i = m → (∀ r, r ≠ 86 → r ≠ 87 → g1 r = g r) → (∀ a, a < i → oatM g1 a (ow (tl mnx mou) F c a N)) →
    aj_wp nE al al X m_Model_choose (d + 4) 0 0 136 [some (1, 78), some (0, (i : Int)), none, none, none] [] sh g1 Q := by
  have hN8 := hC.2.2.1
  intro m
  induction m using Nat.strongRecOn with
  | ind m ih =>
    intro i g1 hi hmm hG hK
    have hM1 : mmm sh g1 k n nx ou := mmm_of hM (fun j _ => by rw [hG 78 (by omega) (by omega)]) (hG 79 (by omega) (by omega)) (hG 80 (by omega) (by omega))
    have hC1 : chH g1 k n nx ou N sf mnx mou lw := chH_of hC (hG 83 (by omega) (by omega)) (by rw [hG 78 (by omega) (by omega)])
    have hF1 : famM g1 k c F := famM_of hF (by rw [hG 78 (by omega) (by omega)]) (hG 85 (by omega) (by omega))
    refine aj_iload_n 1 137 (dx d_Model_choose 77 rfl) rfl rfl rfl ?_
    refine aj_aload_n 0 138 (dx d_Model_choose 78 rfl) rfl rfl rfl ?_
    refine aj_getfv (v := (N : Int)) 141 fl_Model_126 (dx d_Model_choose 79 rfl) rfl hM1.1.1 hC1.2.1 ?_
    refine aj_icmp_ge 179 144 (dx d_Model_choose 80 rfl) rfl rfl (by unfold aj_I; omega) (by unfold aj_I; omega) (fun h141 => ?_) (fun h141 => ?_)
    · refine aj_vret (dx d_Model_choose 100 rfl) rfl id ?_
      have e : i = N := by omega
      subst e
      exact hk g1 hG hK
    · refine aj_aload_n 0 145 (dx d_Model_choose 81 rfl) rfl rfl rfl ?_
      refine aj_getfv (v := 86) 148 fl_Model_32 (dx d_Model_choose 82 rfl) rfl hM1.1.1 (by first | exact mf_owns hM1.1 | (simp [aj_up_at]; exact mf_owns hM1.1) | exact mf_owns (by assumption)) ?_
      refine aj_iload_n 1 149 (dx d_Model_choose 83 rfl) rfl rfl rfl ?_
      refine aj_iconst 150 (dx d_Model_choose 84 rfl) rfl ?_
      refine aj_iast 151 (dx d_Model_choose 85 rfl) rfl (ms_owns hM1.1) rfl (by omega) (by omega) ?_
      refine aj_iconst 152 (dx d_Model_choose 86 rfl) rfl ?_
      refine aj_istore_n 2 153 (dx d_Model_choose 87 rfl) rfl rfl rfl ?_
      simp only [List.set]
      refine k_cm_j (g := aj_up g1 86 (i : Int) 0) (mmm_of hM1 (fun j _ => by rw [aj_up_ne _ _ _ (by omega)]) (aj_up_ne _ _ _ (by omega)) (aj_up_ne _ _ _ (by omega))) (chH_of hC1 (aj_up_ne _ _ _ (by omega)) (by rw [aj_up_ne _ _ _ (by omega)])) (famM_of hF1 (by rw [aj_up_ne _ _ _ (by omega)]) (aj_up_ne _ _ _ (by omega))) hcov (show i < N by omega) (fun g2 hG2 ho2 hK2 => ?_) _ 0 _ (by omega) rfl (fun r _ _ => rfl) ⟨by rw [aj_up_self]; rfl, fun v hv => absurd hv (Nat.not_lt_zero _)⟩ (fun a ha => by
        obtain ⟨x1, x2⟩ := hK a ha
        exact ⟨by rw [aj_up_ni _ _ _ (by omega)]; exact x1, fun v hv => by rw [aj_up_ne _ _ _ (by omega)]; exact x2 v hv⟩)
      refine aj_iinc 1 176 (dx d_Model_choose 98 rfl) rfl rfl rfl ?_
      simp only [List.set]
      refine aj_goto 136 (dx d_Model_choose 99 rfl) rfl ?_
      rw [show ((i : Nat) : Int) + 1 = ((i + 1 : Nat) : Int) by omega]
      exact ih _ (by omega) (i + 1) g2 (by omega) rfl (fun r a b => (hG2 r a b).trans (by rw [aj_up_ne _ _ _ a]; exact hG r a b)) (fun a ha => by
        by_cases e : a = i
        · rw [e]; exact ho2
        · exact hK2 a (by omega))
theorem fm_cov {k N : Nat} {mnx mou : Nat → Nat → Nat} {q : fm_T} (h : fm_I k N mnx mou q N (N + 1)) : ∀ i j, i < N → j < N → i ≠ j → ∃ w, w < q.1 ∧ tl mnx mou i j (q.2 w) := by
  intro i j hi hj hij
  rcases Nat.lt_or_gt_of_ne hij with z | z
  · exact h.2 i j z hj (Or.inl hi)
  · obtain ⟨w, w1, w2⟩ := h.2 j i z hi (Or.inl hj)
    exact ⟨w, w1, tl_symm w2⟩
set_option maxHeartbeats 4000000 in
theorem k_Model_choose {al : Prop} {X : Option (Nat × (Int → Int))} {d : Nat} {sh : List aj_S} {g : aj_G} {Q : aj_R → List aj_S → aj_G → Prop} {k n : Nat} {nx ou : Nat → Nat → Nat} {N : Nat} {sf : Nat → Nat} {mnx mou : Nat → Nat → Nat} {lw : Nat → Nat → List Nat} (hM : mmm sh g k n nx ou) (hT : tdm g k n nx ou) (hC : chH g k n nx ou N sf mnx mou lw)
    (hk : ∀ g1, cm_F g g1 → famM g1 k (fm_out (tl mnx mou) lw N N).1 (fm_out (tl mnx mou) lw N N).2 → fm_I k N mnx mou (fm_out (tl mnx mou) lw N N) N (N + 1) → (∀ a, a < N → oatM g1 a (ow (tl mnx mou) (fm_out (tl mnx mou) lw N N).2 (fm_out (tl mnx mou) lw N N).1 a N)) → Q (.inl none) sh g1) :
    aj_wp nE al al X m_Model_choose (d + 4) 0 0 0 [some (1, 78), none, none, none, none] [] sh g Q := by
  refine aj_aload_n 0 1 (dx d_Model_choose 0 rfl) rfl rfl rfl ?_
  refine aj_iconst 2 (dx d_Model_choose 1 rfl) rfl ?_
  refine aj_putf 5 (pl_Model_133 _) (dx d_Model_choose 2 rfl) rfl hM.1.1 (aj_fitI _) ?_
  refine aj_iconst 6 (dx d_Model_choose 3 rfl) rfl ?_
  refine aj_istore_n 1 7 (dx d_Model_choose 4 rfl) rfl rfl rfl ?_
  simp only [List.set]
  have hF0 : mc_F g (aj_up g 78 12 0) := ⟨fun r a _ => by rw [aj_up_ne _ _ _ a], fun j hj => by rw [aj_up_ni _ _ _ hj]⟩
  refine k_mc_i (d := d + 1) (mc_M hM hF0) (mc_T hT hF0) (chH_of hC (aj_up_ne _ _ _ (by omega)) (by rw [aj_up_ni _ _ _ (by omega)])) (fun g1 hG hFm hI => ?_) _ 0 _ (0, fun _ => []) (by omega) rfl ⟨fun _ _ _ => rfl, fun _ _ => rfl⟩ rfl ⟨by rw [aj_up_self]; rfl, by show 0 ≤ 8; omega, fun w hw => absurd hw (Nat.not_lt_zero _)⟩ ⟨fun w hw => absurd hw (Nat.not_lt_zero _), fun a b h1 h2 h3 => by omega⟩
  have hG2 : mc_F g g1 := ⟨fun r a b => (hG.1 r a b).trans (hF0.1 r a b), fun j hj => (hG.2 j hj).trans (hF0.2 j hj)⟩
  have hM1 := mc_M hM hG2
  have hC1 : chH g1 k n nx ou N sf mnx mou lw := chH_of hC (hG2.1 83 (by omega) (by omega)) (hG2.2 8 (by omega))
  refine aj_iconst 135 (dx d_Model_choose 75 rfl) rfl ?_
  refine aj_istore_n 1 136 (dx d_Model_choose 76 rfl) rfl rfl rfl ?_
  simp only [List.set]
  refine k_cm_i hM1 hC1 hFm (fm_cov hI) (fun g2 hG3 hO => hk g2 ⟨fun r a b c e => (hG3 r c e).trans (hG2.1 r a b), fun j hj => by rw [hG3 78 (by omega) (by omega)]; exact hG2.2 j hj⟩ (famM_of hFm (by rw [hG3 78 (by omega) (by omega)]) (hG3 85 (by omega) (by omega))) hI hO) _ 0 g1 (by omega) rfl (fun r _ _ => rfl) (fun a ha => absurd ha (Nat.not_lt_zero _))
theorem none_flip {k : Nat} {nx ou nx' ou' : Nat → Nat → Nat} {s t : Nat} (h : wd_none k nx ou s nx' ou' t) : wd_none k nx' ou' t nx ou s := by
  intro v hv hd
  cases v with
  | nil => exact hd
  | cons i w => exact h (i :: w) hv (Ne.symm hd)
/-- the small machine over the numbering -/
def smm (k n : Nat) (nx ou : Nat → Nat → Nat) (tw : Nat → Nat) (N : Nat) (q : nb_T) (mnx mou : Nat → Nat → Nat) : Prop := ∀ a i, a < N → i < k → mnx a i < N ∧ q.2.1 (mnx a i) = tw (nx (q.2.1 a) i) ∧ mou a i = ou (q.2.1 a) i
section SEAL
variable {g : aj_G} {k n s0 : Nat} {nx ou : Nat → Nat → Nat} {tw sf : Nat → Nat} {N : Nat} {q : nb_T} {mnx mou : Nat → Nat → Nat}
theorem sl_none (htw : tw_ok k n nx ou tw) (hc : ∀ s i, s < n → i < k → nx s i < n) (h : nbm g k n s0 nx ou tw (N * k) q sf) (hN : q.1 = N) (hs : smm k n nx ou tw N q mnx mou) {a : Nat} (ha : a < N) : wd_none k nx ou (sf a) nx ou (q.2.1 a) ∧ wd_none k mnx mou a nx ou (sf a) := by
  subst hN
  have hal : ∀ b, b < q.1 → al_k k nx ou (sf b) (q.2.1 b) := fun b hb => by
    obtain ⟨-, s1, s2, -⟩ := h.2.2.2.1 b hb
    obtain ⟨m1, m2⟩ := h.2.1.2.2.1 b hb
    exact (tw_eq htw s1 m1).mp (by rw [m2, s2])
  refine ⟨hal a ha, mm_none (mb := sf) (N := q.1) (fun b i hb hi => ?_) (fun b i hb hi => ?_) ha⟩
  · obtain ⟨x1, x2, -⟩ := hs b i hb hi
    refine ⟨x1, (tw_eq htw (h.2.2.2.1 _ x1).2.1 (hc _ _ (h.2.2.2.1 b hb).2.1 hi)).mp ?_⟩
    rw [(h.2.2.2.1 _ x1).2.2.1, x2]
    exact nbm_tw htw hc h hb hi
  · rw [(hs b i hb hi).2.2]
    exact (al_out (hal b hb) hi).symm
theorem sl_chH (hk4 : k ≤ 4) (hn : 0 < n) (hn8 : n ≤ 8) (htw : tw_ok k n nx ou tw) (hc : ∀ s i, s < n → i < k → nx s i < n) (h : nbm g k n s0 nx ou tw (N * k) q sf) (hN : q.1 = N) (hs : smm k n nx ou tw N q mnx mou) : chH g k n nx ou N sf mnx mou (lwd k mnx mou) := by
  have hno : ∀ a, a < N → wd_none k nx ou (sf a) mnx mou a := fun a ha => none_flip (sl_none htw hc h hN hs ha).2
  have hle := nb_le h.2.1
  have h0 := h.2.1.1
  refine ⟨fun a ha => ⟨(h.2.2.2.1 a (by omega)).1, (h.2.2.2.1 a (by omega)).2.1⟩, by rw [h.2.2.1, hN], ⟨by omega, by omega⟩, fun i j w hi hj hw => xa_tl (hno i hi) (hno j hj) w hw, fun i j hi hj hij => ?_⟩
  have hna : ¬ al_k k nx ou (sf i) (sf j) := fun z => by
    have e := (tw_eq htw (h.2.2.2.1 i (by omega)).2.1 (h.2.2.2.1 j (by omega)).2.1).mpr z
    rw [(h.2.2.2.1 i (by omega)).2.2.1, (h.2.2.2.1 j (by omega)).2.2.1] at e
    exact hij (h.2.1.2.2.2.1 i j (by omega) (by omega) e)
  obtain ⟨v, hv⟩ := Classical.not_forall.mp hna
  obtain ⟨hv1, hv2⟩ := Classical.not_imp.mp hv
  obtain ⟨w, hw⟩ := least_ex hv1 (Classical.not_not.mp hv2)
  have hw2 := (xa_least (hno i hi) (hno j hj)).mp hw
  rw [lwd_eq hk4 hw2]
  have hl := mo_len hk4 hn hc (h.2.2.2.1 i (by omega)).2.1 (h.2.2.2.1 j (by omega)).2.1 hw
  exact ⟨hw, hw2, by omega⟩
end SEAL
def mim (g : aj_G) (k m : Nat) (ix io : Nat → Nat → Nat) : Prop := g 78 17 = m ∧ m ≤ 10 ∧ ∀ x i : Nat, x < m → i < k → g 88 (3 * (x : Int) + i) = ix x i ∧ g 89 (3 * (x : Int) + i) = io x i ∧ ix x i < m ∧ io x i < 4
def ms_F (g g1 : aj_G) : Prop := (∀ r, r ≠ 78 → (r < 81 ∨ 89 < r) → g1 r = g r) ∧ ∀ j, j ≠ 0 → j ≠ 6 → j ≠ 8 → j ≠ 12 → j ≠ 17 → g1 78 j = g 78 j
/-- what seal leaves in the model -/
def mS (sh : List aj_S) (g : aj_G) (k n s0 : Nat) (nx ou : Nat → Nat → Nat) (tw : Nat → Nat) (N : Nat) (q : nb_T) (sf : Nat → Nat) (mnx mou : Nat → Nat → Nat) : Prop :=
  mmm sh g k n nx ou ∧ tdm g k n nx ou ∧ nbm g k n s0 nx ou tw (N * k) q sf ∧ famM g k (fm_out (tl mnx mou) (lwd k mnx mou) N N).1 (fm_out (tl mnx mou) (lwd k mnx mou) N N).2 ∧
  fm_I k N mnx mou (fm_out (tl mnx mou) (lwd k mnx mou) N N) N (N + 1) ∧ ∀ a, a < N → oatM g a (ow (tl mnx mou) (fm_out (tl mnx mou) (lwd k mnx mou) N N).2 (fm_out (tl mnx mou) (lwd k mnx mou) N N).1 a N)
theorem mS_of {sh : List aj_S} {g g1 : aj_G} {k n s0 : Nat} {nx ou : Nat → Nat → Nat} {tw : Nat → Nat} {N : Nat} {q : nb_T} {sf : Nat → Nat} {mnx mou : Nat → Nat → Nat} (h : mS sh g k n s0 nx ou tw N q sf mnx mou) (e : ∀ r, 79 ≤ r → r ≤ 87 → g1 r = g r) (e8 : ∀ j, mo_fin j ∨ j = 1 ∨ j = 2 ∨ j = 8 ∨ j = 12 → g1 78 j = g 78 j) : mS sh g1 k n s0 nx ou tw N q sf mnx mou := by
  obtain ⟨h1, h2, h3, h4, h5, h6⟩ := h
  refine ⟨mmm_of h1 (fun j hj => e8 j (by
    rcases hj with z | z | z
    · exact Or.inl z
    · exact Or.inr (Or.inl z)
    · exact Or.inr (Or.inr (Or.inl z)))) (e 79 (by omega) (by omega)) (e 80 (by omega) (by omega)), ?_, ?_, famM_of h4 (e8 12 (by omega)) (e 85 (by omega) (by omega)), h5, fun a ha => ?_⟩
  · unfold tdm; rw [e 81 (by omega) (by omega)]; exact h2
  · obtain ⟨a1, a2, a3, a4, a5⟩ := h3
    refine ⟨a1, a2, by rw [e8 8 (by omega)]; exact a3, ?_, ?_⟩
    · rw [e 83 (by omega) (by omega), e 84 (by omega) (by omega)]; exact a4
    · rw [e 82 (by omega) (by omega)]; exact a5
  · obtain ⟨b1, b2⟩ := h6 a ha
    exact ⟨by rw [e 86 (by omega) (by omega)]; exact b1, by rw [e 87 (by omega) (by omega)]; exact b2⟩
set_option maxHeartbeats 4000000 in
theorem k_sl_i {al : Prop} {X : Option (Nat × (Int → Int))} {d : Nat} {sh : List aj_S} {g : aj_G} {Q : aj_R → List aj_S → aj_G → Prop} {k n s0 : Nat} {nx ou : Nat → Nat → Nat} {tw : Nat → Nat} {N : Nat} {q : nb_T} {sf : Nat → Nat} {mnx mou : Nat → Nat → Nat} (hS : mS sh g k n s0 nx ou tw N q sf mnx mou) (htw : tw_ok k n nx ou tw) (hcl : ∀ s i, s < n → i < k → nx s i < n) (hN : q.1 = N) (hm : smm k n nx ou tw N q mnx mou) {a : Nat} (ha : a < N)
    (hgo : ∀ g1 : aj_G, (∀ r, r ≠ 88 → r ≠ 89 → g1 r = g r) → (∀ x i : Nat, x < a + 1 → i < k → g1 88 (3 * (x : Int) + i) = mnx x i ∧ g1 89 (3 * (x : Int) + i) = mou x i) → aj_wp nE al al X m_Model_seal d 0 0 131 [some (1, 78), some (0, (a : Int)), none] [] sh g1 Q) :
    ∀ (m i : Nat) (g1 : aj_G), i ≤ k → k - i = m → (∀ r, r ≠ 88 → r ≠ 89 → g1 r = g r) → (∀ x j : Nat, (x < a ∨ (x = a ∧ j < i)) → j < k → g1 88 (3 * (x : Int) + j) = mnx x j ∧ g1 89 (3 * (x : Int) + j) = mou x j) →
    aj_wp nE al al X m_Model_seal d 0 0 62 [some (1, 78), some (0, (a : Int)), some (0, (i : Int))] [] sh g1 Q := by
  have hN8 := nb_le hS.2.2.1.2.1
  have hn8 := hS.1.2.2.2.2.1
  have hk4 := hS.1.2.2.2.1
  intro m
  induction m using Nat.strongRecOn with
  | ind m ih =>
    intro i g1 hi hmm hG hK
    have hS1 : mS sh g1 k n s0 nx ou tw N q sf mnx mou := mS_of hS (fun r a b => hG r (by omega) (by omega)) (fun j _ => by rw [hG 78 (by omega) (by omega)])
    have hM1 := hS1.1
    refine aj_iload_n 2 63 (dx d_Model_seal 34 rfl) rfl rfl rfl ?_
    refine aj_aload_n 0 64 (dx d_Model_seal 35 rfl) rfl rfl rfl ?_
    refine aj_getfv (v := (k : Int)) 67 fl_Model_89 (dx d_Model_seal 36 rfl) rfl hM1.1.1 hM1.2.2.1 ?_
    refine aj_icmp_ge 131 70 (dx d_Model_seal 37 rfl) rfl rfl (by unfold aj_I; omega) (by unfold aj_I; omega) (fun h67 => ?_) (fun h67 => ?_)
    · refine aj_forget 2 ?_
      simp only [List.set]
      have e : i = k := by omega
      subst e
      exact hgo g1 hG (fun x i hx hi => hK x i (by omega) hi)
    · have hik : i < k := by omega
      obtain ⟨s1, s2, s3, s4⟩ := hS1.2.2.1.2.2.2.1 a (by omega)
      obtain ⟨e1, e2, e3, e4⟩ := hM1.2.2.2.2.2 (sf a) i s2 hik
      obtain ⟨m1, m2, m3⟩ := hm a i ha hik
      have hmo : g1 82 ((nx (sf a) i : Nat) : Int) = (mnx a i : Nat) := (hS1.2.2.1.2.2.2.2 _ e3).1 (mnx a i) (by omega) (by rw [m2]; exact nbm_tw htw hcl hS1.2.2.1 (by omega) hik)
      have hou : ou (sf a) i = mou a i := by
        have := (sl_none htw hcl hS1.2.2.1 hN hm ha).1
        rw [m3]
        exact al_out this hik
      refine aj_aload_n 0 71 (dx d_Model_seal 38 rfl) rfl rfl rfl ?_
      refine aj_getfv (v := 88) 74 fl_Model_42 (dx d_Model_seal 39 rfl) rfl hM1.1.1 (by first | exact mf_goes hM1.1 | (simp [aj_up_at]; exact mf_goes hM1.1) | exact mf_goes (by assumption)) ?_
      refine aj_iconst 75 (dx d_Model_seal 40 rfl) rfl ?_
      refine aj_iload_n 1 76 (dx d_Model_seal 41 rfl) rfl rfl rfl ?_
      refine aj_imul 77 (dx d_Model_seal 42 rfl) rfl ?_
      refine aj_iload_n 2 78 (dx d_Model_seal 43 rfl) rfl rfl rfl ?_
      refine aj_iadd 79 (dx d_Model_seal 44 rfl) rfl ?_
      refine aj_aload_n 0 80 (dx d_Model_seal 45 rfl) rfl rfl rfl ?_
      refine aj_getfv (v := 82) 83 fl_Model_19 (dx d_Model_seal 46 rfl) rfl hM1.1.1 (by first | exact mf_minimalOf hM1.1 | (simp [aj_up_at]; exact mf_minimalOf hM1.1) | exact mf_minimalOf (by assumption)) ?_
      refine aj_aload_n 0 84 (dx d_Model_seal 47 rfl) rfl rfl rfl ?_
      refine aj_getfv (v := 79) 87 fl_Model_7 (dx d_Model_seal 48 rfl) rfl hM1.1.1 (by first | exact mf_next hM1.1 | (simp [aj_up_at]; exact mf_next hM1.1) | exact mf_next (by assumption)) ?_
      refine aj_iconst 88 (dx d_Model_seal 49 rfl) rfl ?_
      refine aj_aload_n 0 89 (dx d_Model_seal 50 rfl) rfl rfl rfl ?_
      refine aj_getfv (v := 83) 92 fl_Model_22 (dx d_Model_seal 51 rfl) rfl hM1.1.1 (by first | exact mf_stateOf hM1.1 | (simp [aj_up_at]; exact mf_stateOf hM1.1) | exact mf_stateOf (by assumption)) ?_
      refine aj_iload_n 1 93 (dx d_Model_seal 52 rfl) rfl rfl rfl ?_
      refine aj_iald 94 (dx d_Model_seal 53 rfl) rfl (ms_stateOf hM1.1) rfl (by omega) (by omega) ?_
      rw [s1]
      refine aj_imul 95 (dx d_Model_seal 54 rfl) rfl ?_
      refine aj_iload_n 2 96 (dx d_Model_seal 55 rfl) rfl rfl rfl ?_
      refine aj_iadd 97 (dx d_Model_seal 56 rfl) rfl ?_
      refine aj_iald 98 (dx d_Model_seal 57 rfl) rfl (ms_next hM1.1) rfl (by omega) (by omega) ?_
      rw [e1]
      refine aj_iald 99 (dx d_Model_seal 58 rfl) rfl (ms_minimalOf hM1.1) rfl (by omega) (by omega) ?_
      rw [hmo]
      refine aj_iast 100 (dx d_Model_seal 59 rfl) rfl (ms_goes hM1.1) rfl (by omega) (by omega) ?_
      refine aj_aload_n 0 101 (dx d_Model_seal 60 rfl) rfl rfl rfl ?_
      refine aj_getfv (v := 89) 104 fl_Model_45 (dx d_Model_seal 61 rfl) rfl hM1.1.1 (by first | exact mf_gives hM1.1 | (simp [aj_up_at]; exact mf_gives hM1.1) | exact mf_gives (by assumption)) ?_
      refine aj_iconst 105 (dx d_Model_seal 62 rfl) rfl ?_
      refine aj_iload_n 1 106 (dx d_Model_seal 63 rfl) rfl rfl rfl ?_
      refine aj_imul 107 (dx d_Model_seal 64 rfl) rfl ?_
      refine aj_iload_n 2 108 (dx d_Model_seal 65 rfl) rfl rfl rfl ?_
      refine aj_iadd 109 (dx d_Model_seal 66 rfl) rfl ?_
      refine aj_aload_n 0 110 (dx d_Model_seal 67 rfl) rfl rfl rfl ?_
      refine aj_getfv (v := 80) 113 fl_Model_13 (dx d_Model_seal 68 rfl) rfl hM1.1.1 (by first | exact mf_output hM1.1 | (simp [aj_up_at]; exact mf_output hM1.1) | exact mf_output (by assumption)) ?_
      refine aj_iconst 114 (dx d_Model_seal 69 rfl) rfl ?_
      refine aj_aload_n 0 115 (dx d_Model_seal 70 rfl) rfl rfl rfl ?_
      refine aj_getfv (v := 83) 118 fl_Model_22 (dx d_Model_seal 71 rfl) rfl hM1.1.1 (by first | exact mf_stateOf hM1.1 | (simp [aj_up_at]; exact mf_stateOf hM1.1) | exact mf_stateOf (by assumption)) ?_
      refine aj_iload_n 1 119 (dx d_Model_seal 72 rfl) rfl rfl rfl ?_
      refine aj_iald 120 (dx d_Model_seal 73 rfl) rfl (ms_stateOf hM1.1) rfl (by omega) (by omega) ?_
      rw [show aj_up g1 88 (3 * (a : Int) + (i : Int)) (mnx a i : Int) 83 (a : Int) = (sf a : Nat) by rw [aj_up_ne _ _ _ (by omega)]; exact s1]
      refine aj_imul 121 (dx d_Model_seal 74 rfl) rfl ?_
      refine aj_iload_n 2 122 (dx d_Model_seal 75 rfl) rfl rfl rfl ?_
      refine aj_iadd 123 (dx d_Model_seal 76 rfl) rfl ?_
      refine aj_iald 124 (dx d_Model_seal 77 rfl) rfl (ms_output hM1.1) rfl (by omega) (by omega) ?_
      rw [show aj_up g1 88 (3 * (a : Int) + (i : Int)) (mnx a i : Int) 80 (3 * (sf a : Int) + (i : Int)) = (mou a i : Nat) by rw [aj_up_ne _ _ _ (by omega), e2, hou]]
      refine aj_iast 125 (dx d_Model_seal 78 rfl) rfl (ms_gives hM1.1) rfl (by omega) (by omega) ?_
      refine aj_iinc 2 128 (dx d_Model_seal 79 rfl) rfl rfl rfl ?_
      simp only [List.set]
      refine aj_goto 62 (dx d_Model_seal 80 rfl) rfl ?_
      rw [show ((i : Nat) : Int) + 1 = ((i + 1 : Nat) : Int) by omega]
      exact ih _ (by omega) (i + 1) _ (by omega) rfl (fun r a b => by rw [aj_up_ne _ _ _ b, aj_up_ne _ _ _ a]; exact hG r a b) (fun x j hx hj => by
        by_cases e : x = a ∧ j = i
        · obtain ⟨rfl, rfl⟩ := e
          exact ⟨by rw [aj_up_ne _ _ _ (by omega), aj_up_self], by rw [aj_up_self]⟩
        · rw [aj_up_ne _ _ _ (by omega), aj_up_ni _ _ _ (by omega), aj_up_ni _ _ _ (by omega), aj_up_ne _ _ _ (by omega)]
          exact hK x j (by omega) hj)
set_option maxHeartbeats 4000000 in
theorem k_sl_a {al : Prop} {X : Option (Nat × (Int → Int))} {d : Nat} {sh : List aj_S} {g : aj_G} {Q : aj_R → List aj_S → aj_G → Prop} {k n s0 : Nat} {nx ou : Nat → Nat → Nat} {tw : Nat → Nat} {N : Nat} {q : nb_T} {sf : Nat → Nat} {mnx mou : Nat → Nat → Nat} (hS : mS sh g k n s0 nx ou tw N q sf mnx mou) (htw : tw_ok k n nx ou tw) (hcl : ∀ s i, s < n → i < k → nx s i < n) (hN : q.1 = N) (hm : smm k n nx ou tw N q mnx mou) (hk : ∀ g1 : aj_G, (∀ r, r ≠ 88 → r ≠ 89 → g1 r = g r) → (∀ x i : Nat, x < N → i < k → g1 88 (3 * (x : Int) + i) = mnx x i ∧ g1 89 (3 * (x : Int) + i) = mou x i) → Q (.inl (some (0, (N : Int)))) sh g1) :
    ∀ (m a : Nat) (g1 : aj_G), a ≤ N → N - a = m → (∀ r, r ≠ 88 → r ≠ 89 → g1 r = g r) → (∀ x i : Nat, x < a → i < k → g1 88 (3 * (x : Int) + i) = mnx x i ∧ g1 89 (3 * (x : Int) + i) = mou x i) →
    aj_wp nE al al X m_Model_seal d 0 0 52 [some (1, 78), some (0, (a : Int)), none] [] sh g1 Q := by
  have hN8 := nb_le hS.2.2.1.2.1
  have hn8 := hS.1.2.2.2.2.1
  intro m
  induction m using Nat.strongRecOn with
  | ind m ih =>
    intro a g1 ha hmm hG hK
    have hS1 : mS sh g1 k n s0 nx ou tw N q sf mnx mou := mS_of hS (fun r a b => hG r (by omega) (by omega)) (fun j _ => by rw [hG 78 (by omega) (by omega)])
    have hM1 := hS1.1
    refine aj_iload_n 1 53 (dx d_Model_seal 28 rfl) rfl rfl rfl ?_
    refine aj_aload_n 0 54 (dx d_Model_seal 29 rfl) rfl rfl rfl ?_
    refine aj_getfv (v := (N : Int)) 57 fl_Model_126 (dx d_Model_seal 30 rfl) rfl hM1.1.1 (by rw [hS1.2.2.1.2.2.1, hN]) ?_
    refine aj_icmp_ge 137 60 (dx d_Model_seal 31 rfl) rfl rfl (by unfold aj_I; omega) (by unfold aj_I; omega) (fun h57 => ?_) (fun h57 => ?_)
    · refine aj_aload_n 0 138 (dx d_Model_seal 83 rfl) rfl rfl rfl ?_
      refine aj_getfv (v := (N : Int)) 141 fl_Model_126 (dx d_Model_seal 84 rfl) rfl hM1.1.1 (by rw [hS1.2.2.1.2.2.1, hN]) ?_
      refine aj_iret (dx d_Model_seal 85 rfl) rfl id ?_
      have e : a = N := by omega
      subst e
      exact hk g1 hG hK
    · refine aj_iconst 61 (dx d_Model_seal 32 rfl) rfl ?_
      refine aj_istore_n 2 62 (dx d_Model_seal 33 rfl) rfl rfl rfl ?_
      simp only [List.set]
      refine k_sl_i hS1 htw hcl hN hm (show a < N by omega) (fun g2 hG2 hK2 => ?_) _ 0 g1 (by omega) rfl (fun r _ _ => rfl) (fun x j hx hj => hK x j (by omega) hj)
      refine aj_iinc 1 134 (dx d_Model_seal 81 rfl) rfl rfl rfl ?_
      simp only [List.set]
      refine aj_goto 52 (dx d_Model_seal 82 rfl) rfl ?_
      rw [show ((a : Nat) : Int) + 1 = ((a + 1 : Nat) : Int) by omega]
      exact ih _ (by omega) (a + 1) g2 (by omega) rfl (fun r a b => (hG2 r a b).trans (hG r a b)) hK2
set_option maxHeartbeats 4000000 in
theorem k_Model_seal {al : Prop} {X : Option (Nat × (Int → Int))} {d : Nat} {sh : List aj_S} {g : aj_G} {Q : aj_R → List aj_S → aj_G → Prop} {k n s0 : Nat} {nx ou : Nat → Nat → Nat} {tw : Nat → Nat} {N : Nat} {q : nb_T} {mnx mou : Nat → Nat → Nat} (hM : mmm sh g k n nx ou) (hcl : ∀ s i, s < n → i < k → nx s i < n) (h6 : g 78 6 = 0) (h5 : g 78 5 = (s0 : Nat)) (hs0 : s0 < n) (htw : tw_ok k n nx ou tw) (hqe : q = nb k nx tw s0 (N * k)) (hq1 : q.1 = N) (hI : nb_I k n nx tw s0 (N * k) q) (hsm : smm k n nx ou tw N q mnx mou)
    (hk : ∀ g1 sf, ms_F g g1 → mS sh g1 k n s0 nx ou tw N q sf mnx mou → g1 78 0 = 0 → g1 78 6 = 1 → mim g1 k N mnx mou → Q (.inl (some (0, (N : Int)))) sh g1) :
    aj_wp nE al al X m_Model_seal (d + 5) 0 0 0 [some (1, 78), none, none] [] sh g Q := by
  have h5x := h5
  refine aj_aload_n 0 1 (dx d_Model_seal 0 rfl) rfl rfl rfl ?_
  refine aj_aload_n 0 2 (dx d_Model_seal 1 rfl) rfl rfl rfl ?_
  refine aj_getfv (v := 0) 5 fl_Model_105 (dx d_Model_seal 2 rfl) rfl hM.1.1 h6 ?_
  refine aj_if_eq 12 8 (dx d_Model_seal 3 rfl) rfl rfl (by unfold aj_I; omega) (fun h5z => ?_) (fun h5z => ?_)
  · refine aj_iconst 13 (dx d_Model_seal 6 rfl) rfl ?_
    refine aj_putf 16 (pl_Model_92 _) (dx d_Model_seal 7 rfl) rfl hM.1.1 (aj_fitI _) ?_
    refine aj_aload_n 0 17 (dx d_Model_seal 8 rfl) rfl rfl rfl ?_
    refine aj_getf 20 fl_Model_92 (dx d_Model_seal 9 rfl) rfl hM.1.1 ?_
    rw [show aj_up g 78 0 0 78 0 = 0 by rw [aj_up_self]]
    refine aj_if_le 25 23 (dx d_Model_seal 10 rfl) rfl rfl (by simp [aj_up_at, aj_I]) (fun h20 => ?_) (fun h20 => ?_)
    · refine aj_aload_n 0 26 (dx d_Model_seal 13 rfl) rfl rfl rfl ?_
      refine aj_iconst 27 (dx d_Model_seal 14 rfl) rfl ?_
      refine aj_putf 30 (pl_Model_105 _) (dx d_Model_seal 15 rfl) rfl hM.1.1 (aj_fitZ (by omega)) ?_
      refine aj_aload_n 0 31 (dx d_Model_seal 16 rfl) rfl rfl rfl ?_
      have hM1 : mmm sh (aj_up (aj_up g 78 0 0) 78 6 1) k n nx ou := mmm_of hM (fun j hj => by simp only [aj_up_at]; rw [if_neg (by unfold mo_fin at hj; omega), if_neg (by unfold mo_fin at hj; omega)]) (by rw [aj_up_ne _ _ _ (by omega), aj_up_ne _ _ _ (by omega)]) (by rw [aj_up_ne _ _ _ (by omega), aj_up_ne _ _ _ (by omega)])
      refine aj_callV0 34 cl_Model_148 (dx d_Model_seal 17 rfl) rfl rfl rfl rfl rfl rfl hM.1.1 (k_Model_measure hM1 hcl (fun g1 hG1 hM2 hT2 => ?_))
      change aj_wp _ _ _ _ _ _ _ _ _ _ _ _ _ _
      refine aj_aload_n 0 35 (dx d_Model_seal 18 rfl) rfl rfl rfl ?_
      refine aj_callV0 38 cl_Model_151 (dx d_Model_seal 19 rfl) rfl rfl rfl rfl rfl rfl hM.1.1 (k_Model_number hM2 hT2 htw hcl hs0 (by rw [hG1 78 (by omega)]; simp [aj_up_at]; exact h5) (fun g2 q2 sf N2 hG2 hB hq2 => ?_))
      change aj_wp _ _ _ _ _ _ _ _ _ _ _ _ _ _
      have hNN : N2 = N := by
        obtain ⟨b1, b2, -⟩ := id hB
        rw [b1] at hq2 b2
        rw [hqe] at hq1 hI
        exact nb_uniq (by have := hM.2.2.2.1; omega) hq2 b2 hq1 hI
      subst hNN
      have hqq : q2 = q := hB.1.trans hqe.symm
      subst hqq
      have hM3 := nu_M hM2 hG2
      have hT3 := nu_T hT2 hG2
      have hk4 := hM.2.2.2.1
      have hn8 := hM.2.2.2.2.1
      have hC := sl_chH (by omega) (by omega) (by omega) htw hcl hB hq2 hsm
      refine aj_aload_n 0 39 (dx d_Model_seal 20 rfl) rfl rfl rfl ?_
      refine aj_callV0 42 cl_Model_154 (dx d_Model_seal 21 rfl) rfl rfl rfl rfl rfl rfl hM.1.1 (k_Model_choose hM3 hT3 hC (fun g3 hG3 hFm hFI hO => ?_))
      change aj_wp _ _ _ _ _ _ _ _ _ _ _ _ _ _
      have hM4 := cm_M hM3 hG3
      have hS : mS sh g3 k n s0 nx ou tw N2 q2 sf mnx mou := by
        refine ⟨hM4, ?_, ?_, hFm, hFI, hO⟩
        · unfold tdm; rw [hG3.1 81 (by omega) (by omega) (by omega) (by omega)]; exact hT3
        · obtain ⟨a1, a2, a3, a4, a5⟩ := hB
          refine ⟨a1, a2, by rw [hG3.2 8 (by omega)]; exact a3, ?_, ?_⟩
          · rw [hG3.1 83 (by omega) (by omega) (by omega) (by omega), hG3.1 84 (by omega) (by omega) (by omega) (by omega)]; exact a4
          · rw [hG3.1 82 (by omega) (by omega) (by omega) (by omega)]; exact a5
      have h38 : g3 78 8 = (N2 : Nat) := by rw [hS.2.2.1.2.2.1, hq2]
      refine aj_aload_n 0 43 (dx d_Model_seal 22 rfl) rfl rfl rfl ?_
      refine aj_aload_n 0 44 (dx d_Model_seal 23 rfl) rfl rfl rfl ?_
      refine aj_getfv (v := (N2 : Int)) 47 fl_Model_126 (dx d_Model_seal 24 rfl) rfl hM4.1.1 h38 ?_
      refine aj_putf 50 (pl_Model_157 _) (dx d_Model_seal 25 rfl) rfl hM4.1.1 (aj_fitI _) ?_
      refine aj_iconst 51 (dx d_Model_seal 26 rfl) rfl ?_
      refine aj_istore_n 1 52 (dx d_Model_seal 27 rfl) rfl rfl rfl ?_
      simp only [List.set]
      have hS2 : mS sh (aj_up g3 78 17 (N2 : Nat)) k n s0 nx ou tw N2 q2 sf mnx mou := mS_of hS (fun r a b => by rw [aj_up_ne _ _ _ (by omega)]) (fun j hj => by rw [aj_up_ni _ _ _ (by unfold mo_fin at hj; omega)])
      have hq8 := nb_le hI
      refine k_sl_a hS2 htw hcl hq2 hsm (fun g4 hG4 hK4 => ?_) _ 0 _ (by omega) rfl (fun r _ _ => rfl) (fun x i hx _ => absurd hx (Nat.not_lt_zero _))
      refine hk g4 sf ⟨fun r a b => ?_, fun j b0 b1 b2 b3 b4 => ?_⟩ (mS_of hS2 (fun r a b => hG4 r (by omega) (by omega)) (fun j _ => by rw [hG4 78 (by omega) (by omega)])) ?_ ?_ ⟨?_, by omega, fun x i hx hi => ?_⟩
      · rw [hG4 r (by omega) (by omega), aj_up_ne _ _ _ a, hG3.1 r a (by omega) (by omega) (by omega), hG2.1 r a (by omega) (by omega) (by omega), hG1 r (by omega), aj_up_ne _ _ _ a, aj_up_ne _ _ _ a]
      · rw [hG4 78 (by omega) (by omega), aj_up_ni _ _ _ b4, hG3.2 j b3, hG2.2 j b2, hG1 78 (by omega), aj_up_ni _ _ _ b1, aj_up_ni _ _ _ b0]
      · rw [hG4 78 (by omega) (by omega), aj_up_ni _ _ _ (by omega), hG3.2 0 (by omega), hG2.2 0 (by omega), hG1 78 (by omega)]; simp [aj_up_at]
      · rw [hG4 78 (by omega) (by omega), aj_up_ni _ _ _ (by omega), hG3.2 6 (by omega), hG2.2 6 (by omega), hG1 78 (by omega)]; simp [aj_up_at]
      · rw [hG4 78 (by omega) (by omega), aj_up_self]
      · obtain ⟨x1, x2⟩ := hK4 x i hx hi
        obtain ⟨m1, m2, m3⟩ := hsm x i hx hi
        exact ⟨x1, x2, m1, by rw [m3]; exact (hM.2.2.2.2.2 _ i (hI.2.2.1 x (by omega)).1 hi).2.2.2⟩
    · exact absurd h20 (by decide)
  · exact absurd rfl h5z
set_option maxHeartbeats 4000000 in
theorem k_Model_seal1 {al : Prop} {X : Option (Nat × (Int → Int))} {d : Nat} {sh : List aj_S} {g : aj_G} {Q : aj_R → List aj_S → aj_G → Prop} (hm : mos sh g) (h6 : g 78 6 = 1) (hk : Q (.inl (some (0, 0))) sh (aj_up g 78 0 1)) : aj_wp nE al al X m_Model_seal d 0 0 0 [some (1, 78), none, none] [] sh g Q := by
  refine aj_aload_n 0 1 (dx d_Model_seal 0 rfl) rfl rfl rfl ?_
  refine aj_aload_n 0 2 (dx d_Model_seal 1 rfl) rfl rfl rfl ?_
  refine aj_getfv (v := 1) 5 fl_Model_105 (dx d_Model_seal 2 rfl) rfl hm.1 h6 ?_
  refine aj_if_eq 12 8 (dx d_Model_seal 3 rfl) rfl rfl (by unfold aj_I; omega) (fun h5 => ?_) (fun h5 => ?_)
  · exact absurd h5 (by decide)
  · refine aj_iconst 9 (dx d_Model_seal 4 rfl) rfl ?_
    refine aj_goto 13 (dx d_Model_seal 5 rfl) rfl ?_
    refine aj_putf 16 (pl_Model_92 _) (dx d_Model_seal 7 rfl) rfl hm.1 (aj_fitI _) ?_
    refine aj_aload_n 0 17 (dx d_Model_seal 8 rfl) rfl rfl rfl ?_
    refine aj_getf 20 fl_Model_92 (dx d_Model_seal 9 rfl) rfl hm.1 ?_
    rw [show aj_up g 78 0 1 78 0 = 1 by rw [aj_up_self]]
    refine aj_if_le 25 23 (dx d_Model_seal 10 rfl) rfl rfl (by unfold aj_I; omega) (fun h20 => ?_) (fun h20 => ?_)
    · exact absurd h20 (by decide)
    · refine aj_iconst 24 (dx d_Model_seal 11 rfl) rfl ?_
      refine aj_iret (dx d_Model_seal 12 rfl) rfl id ?_
      exact hk
