/-! Reduction: findTwins, addState. From here on places are numbers: 1 the specification (tables 2, 3), 4 the reduction (5 number, 6 twin, 7 member, 8 earlier, 9 by), 10 its machine (11, 12), 44 the search -/
def rds (sh : List aj_S) (g : aj_G) : Prop := aj_sh sh 4 = some (.inr 3) ∧ (g 4 0 = 10 ∧ g 4 1 = 5 ∧ g 4 2 = 6 ∧ g 4 3 = 7 ∧ g 4 4 = 8 ∧ g 4 5 = 9) ∧ aj_sh sh 5 = some (.inl (0, 8)) ∧ aj_sh sh 6 = some (.inl (0, 8)) ∧ aj_sh sh 7 = some (.inl (0, 8)) ∧ aj_sh sh 8 = some (.inl (0, 8)) ∧ aj_sh sh 9 = some (.inl (0, 8)) ∧ aj_sh sh 10 = some (.inr 0)
theorem rds_of {sh : List aj_S} {g g1 : aj_G} (h : rds sh g) (e : g1 4 = g 4) : rds sh g1 := by
  unfold rds at h ⊢
  rw [e]
  exact h
def tw1 (k : Nat) (nx ou : Nat → Nat → Nat) (x c : Nat) : Prop := c ≤ x ∧ al_k k nx ou x c ∧ ∀ t, t < c → ¬ al_k k nx ou x t
/-- what findTwins may have changed -/
def tw_F (g g1 : aj_G) : Prop := (∀ r', r' ≠ 6 → r' < 44 ∨ 52 < r' → g1 r' = g r') ∧ (∀ j, j ≠ 7 → g1 44 j = g 44 j) ∧ ∀ j, j ≠ 1 → g1 45 j = g 45 j
theorem tw_F_0 (g : aj_G) : tw_F g g := ⟨fun _ _ _ => rfl, fun _ _ => rfl, fun _ _ => rfl⟩
theorem tw_F_up {g g1 : aj_G} {i x : Int} (h : tw_F g g1) : tw_F g (aj_up g1 6 i x) := ⟨fun r' a b => by rw [aj_up_ne _ _ _ a]; exact h.1 r' a b, fun j hj => by rw [aj_up_ne _ _ _ (by omega)]; exact h.2.1 j hj, fun j hj => by rw [aj_up_ne _ _ _ (by omega)]; exact h.2.2 j hj⟩
theorem tw_F_fd {g g1 g2 : aj_G} (h : tw_F g g1) (h2 : fd_F g1 g2 44) : tw_F g g2 ∧ g2 6 = g1 6 := ⟨⟨fun r' a b => by rw [h2.1 r' (by omega)]; exact h.1 r' a b, fun j hj => by rw [h2.2.1 j hj]; exact h.2.1 j hj, fun j hj => by
  have := h2.2.2 j hj
  rw [show (44 : Int) + 1 = 45 by omega] at this
  rw [this]; exact h.2.2 j hj⟩, h2.1 6 (by omega)⟩
set_option maxHeartbeats 4000000 in
theorem k_findTwins_in {al : Prop} {X : Option (Nat × (Int → Int))} {d : Nat} {sh : List aj_S} {g : aj_G} {Q : aj_R → List aj_S → aj_G → Prop} {L k n : Nat} {nx ou : Nat → Nat → Nat} (hr : rds sh g) (hA : mcm sh g 1 L k n nx ou) (hn8 : n ≤ 8) (hp : pss sh g 44) (hk : ∀ g1, tw_F g g1 → (∀ x : Nat, x < n → ∃ c : Nat, g1 6 x = c ∧ tw1 k nx ou x c) → Q (.inl none) sh g1) {s : Nat} (hs : s < n)
    (K : ∀ g1, tw_F g g1 → (∀ x : Nat, x < s + 1 → ∃ c : Nat, g1 6 x = c ∧ tw1 k nx ou x c) → aj_wp nE al al X m_Reduction_findTwins (d + 2) 0 0 2 [some (1, 4), some (1, 1), some (1, 44), some (0, (s : Int) + 1), none] [] sh g1 Q) :
    ∀ (m : Nat) (t : Int) (c : Nat) (g1 : aj_G), -1 ≤ t → t < s → (t + 1).toNat = m → tw_F g g1 → (∀ x : Nat, x < s → ∃ c : Nat, g1 6 x = c ∧ tw1 k nx ou x c) → g1 6 s = c → t < c → c ≤ s → al_k k nx ou s c → (∀ t' : Nat, t < t' → t' < c → ¬ al_k k nx ou s t') →
    aj_wp nE al al X m_Reduction_findTwins (d + 2) 0 0 22 [some (1, 4), some (1, 1), some (1, 44), some (0, (s : Int)), some (0, t)] [] sh g1 Q := by
  intro m
  induction m using Nat.strongRecOn with
  | ind m ih =>
    intro t c g1 ht0 ht1 hmm hF hdone hcur htc hcs hal hno
    have hr1 := rds_of hr (hF.1 4 (by omega) (by omega))
    have hA1 := mcm_of hA (hF.1 _ (by omega) (by omega)) (hF.1 _ (by omega) (by omega)) (hF.1 _ (by omega) (by omega))
    have hp1 := pss_of hp hF.2.1 (hF.2.2 0 (by omega))
    refine aj_iload 4 24 (dx d_Reduction_findTwins 15 rfl) rfl rfl ?_
    refine aj_if_lt 53 27 (dx d_Reduction_findTwins 16 rfl) rfl rfl (by unfold aj_I; omega) (fun h24 => ?_) (fun h24 => ?_)
    · refine aj_iinc 3 56 (dx d_Reduction_findTwins 31 rfl) rfl rfl rfl ?_
      simp only [List.set]
      refine aj_goto 2 (dx d_Reduction_findTwins 32 rfl) rfl ?_
      refine aj_forget 4 ?_
      simp only [List.set]
      refine K g1 hF (fun x hx => ?_)
      by_cases e : x = s
      · subst e
        exact ⟨c, hcur, by omega, hal, fun t' h2 => hno t' (by omega) h2⟩
      · exact hdone x (by omega)
    · obtain ⟨u, rfl⟩ : ∃ u : Nat, t = u := ⟨t.toNat, by omega⟩
      refine aj_aload_n 2 28 (dx d_Reduction_findTwins 17 rfl) rfl rfl rfl ?_
      refine aj_aload_n 1 29 (dx d_Reduction_findTwins 18 rfl) rfl rfl rfl ?_
      refine aj_iload_n 3 30 (dx d_Reduction_findTwins 19 rfl) rfl rfl rfl ?_
      refine aj_aload_n 1 31 (dx d_Reduction_findTwins 20 rfl) rfl rfl rfl ?_
      refine aj_iload 4 33 (dx d_Reduction_findTwins 21 rfl) rfl rfl ?_
      refine aj_callV4 36 cl_Reduction_61 (dx d_Reduction_findTwins 22 rfl) rfl rfl rfl rfl rfl rfl hp1.1 (k_Search_find hp1 hA1 hA1 (by omega) (by omega) hs (show u < n by omega) (fun g2 w hfd hw _ _ => ?_) (fun g2 hfd hw _ => ?_))
      · obtain ⟨hF2, e6⟩ := tw_F_fd hF hfd
        change aj_wp _ _ _ _ _ _ _ _ _ _ _ _ _ _
        refine aj_if_ne 47 39 (dx d_Reduction_findTwins 23 rfl) rfl rfl (by unfold aj_I; omega) (fun h36 => ?_) (fun h36 => ?_)
        · refine aj_iinc 4 50 (dx d_Reduction_findTwins 29 rfl) rfl rfl rfl ?_
          simp only [List.set]
          refine aj_goto 22 (dx d_Reduction_findTwins 30 rfl) rfl ?_
          have hih := ih _ (by omega) ((u : Int) - 1) c g2 (by omega) (by omega) rfl hF2 (fun x hx => by rw [e6]; exact hdone x hx) (by rw [e6]; exact hcur) (by omega) hcs hal (fun t' h1 h2 => by
            rcases Nat.lt_or_ge u t' with z | z
            · exact hno t' (by omega) h2
            · have : t' = u := by omega
              subst this
              exact fun z2 => z2 w hw.1 hw.2.1)
          rw [show (u : Int) + -1 = (u : Int) - 1 by omega]
          exact hih
        · exact absurd h36 (by omega)
      · obtain ⟨hF2, e6⟩ := tw_F_fd hF hfd
        change aj_wp _ _ _ _ _ _ _ _ _ _ _ _ _ _
        refine aj_if_ne 47 39 (dx d_Reduction_findTwins 23 rfl) rfl rfl (by unfold aj_I; omega) (fun h36 => ?_) (fun h36 => ?_)
        · exact absurd rfl h36
        · refine aj_aload_n 0 40 (dx d_Reduction_findTwins 24 rfl) rfl rfl rfl ?_
          refine aj_getf 43 fl_Reduction_15 (dx d_Reduction_findTwins 25 rfl) rfl (rds_of hr (hF2.1 4 (by omega) (by omega))).1 ?_
          rw [(rds_of hr (hF2.1 4 (by omega) (by omega))).2.1.2.2.1]
          refine aj_iload_n 3 44 (dx d_Reduction_findTwins 26 rfl) rfl rfl rfl ?_
          refine aj_iload 4 46 (dx d_Reduction_findTwins 27 rfl) rfl rfl ?_
          refine aj_iast 47 (dx d_Reduction_findTwins 28 rfl) rfl hr.2.2.2.1 rfl (by omega) (by omega) ?_
          refine aj_iinc 4 50 (dx d_Reduction_findTwins 29 rfl) rfl rfl rfl ?_
          simp only [List.set]
          refine aj_goto 22 (dx d_Reduction_findTwins 30 rfl) rfl ?_
          have hih := ih _ (by omega) ((u : Int) - 1) u (aj_up g2 6 (s : Int) (u : Int)) (by omega) (by omega) rfl (tw_F_up hF2) (fun x hx => by rw [aj_up_ni _ _ _ (show (x : Int) ≠ s by omega), e6]; exact hdone x hx) (by rw [aj_up_self]) (by omega) (by omega) hw (fun t' h1 h2 => by omega)
          rw [show (u : Int) + -1 = (u : Int) - 1 by omega]
          exact hih
set_option maxHeartbeats 4000000 in
theorem k_findTwins_out {al : Prop} {X : Option (Nat × (Int → Int))} {d : Nat} {sh : List aj_S} {g : aj_G} {Q : aj_R → List aj_S → aj_G → Prop} {L k n : Nat} {nx ou : Nat → Nat → Nat} (hr : rds sh g) (hA : mcm sh g 1 L k n nx ou) (hn8 : n ≤ 8) (hp : pss sh g 44) (hk : ∀ g1, tw_F g g1 → (∀ x : Nat, x < n → ∃ c : Nat, g1 6 x = c ∧ tw1 k nx ou x c) → Q (.inl none) sh g1) : ∀ (m s : Nat) (g1 : aj_G), s ≤ n → n - s = m → tw_F g g1 → (∀ x : Nat, x < s → ∃ c : Nat, g1 6 x = c ∧ tw1 k nx ou x c) →
    aj_wp nE al al X m_Reduction_findTwins (d + 2) 0 0 2 [some (1, 4), some (1, 1), some (1, 44), some (0, (s : Int)), none] [] sh g1 Q := by
  intro m
  induction m using Nat.strongRecOn with
  | ind m ih =>
    intro s g1 hs0 hmm hF hdone
    have hr1 := rds_of hr (hF.1 4 (by omega) (by omega))
    have hA1 := mcm_of hA (hF.1 _ (by omega) (by omega)) (hF.1 _ (by omega) (by omega)) (hF.1 _ (by omega) (by omega))
    have hp1 := pss_of hp hF.2.1 (hF.2.2 0 (by omega))
    refine aj_iload_n 3 3 (dx d_Reduction_findTwins 2 rfl) rfl rfl rfl ?_
    refine aj_aload_n 1 4 (dx d_Reduction_findTwins 3 rfl) rfl rfl rfl ?_
    refine aj_getf 7 fl_Reduction_40 (dx d_Reduction_findTwins 4 rfl) rfl hA1.1.1 ?_
    refine aj_icmp_ge 59 10 (dx d_Reduction_findTwins 5 rfl) rfl rfl (by unfold aj_I; omega) (by rw [hA1.2.2.1]; unfold aj_I; omega) (fun h7 => ?_) (fun h7 => ?_)
    · rw [hA1.2.2.1] at h7
      refine aj_vret (dx d_Reduction_findTwins 33 rfl) rfl id ?_
      exact hk g1 hF (fun x hx => hdone x (by omega))
    · rw [hA1.2.2.1] at h7
      have hs : s < n := by omega
      refine aj_aload_n 0 11 (dx d_Reduction_findTwins 6 rfl) rfl rfl rfl ?_
      refine aj_getf 14 fl_Reduction_15 (dx d_Reduction_findTwins 7 rfl) rfl hr1.1 ?_
      rw [hr1.2.1.2.2.1]
      refine aj_iload_n 3 15 (dx d_Reduction_findTwins 8 rfl) rfl rfl rfl ?_
      refine aj_iload_n 3 16 (dx d_Reduction_findTwins 9 rfl) rfl rfl rfl ?_
      refine aj_iast 17 (dx d_Reduction_findTwins 10 rfl) rfl hr1.2.2.2.1 rfl (by omega) (by omega) ?_
      refine aj_iload_n 3 18 (dx d_Reduction_findTwins 11 rfl) rfl rfl rfl ?_
      refine aj_iconst 19 (dx d_Reduction_findTwins 12 rfl) rfl ?_
      refine aj_isub 20 (dx d_Reduction_findTwins 13 rfl) rfl ?_
      refine aj_istore 4 22 (dx d_Reduction_findTwins 14 rfl) rfl rfl ?_
      simp only [List.set]
      refine k_findTwins_in hr hA hn8 hp hk hs (fun g2 hF2 hd2 => ?_) _ ((s : Int) - 1) s _ (by omega) (by omega) rfl (tw_F_up hF) (fun x hx => by rw [aj_up_ni _ _ _ (show (x : Int) ≠ s by omega)]; exact hdone x hx) (by rw [aj_up_self]) (by omega) (Nat.le_refl _) (al_refl s) (fun t' h1 h2 => by omega)
      have := ih _ (by omega) (s + 1) g2 (by omega) rfl hF2 hd2
      rw [show ((s : Nat) : Int) + 1 = ((s + 1 : Nat) : Int) by omega]
      exact this
set_option maxHeartbeats 4000000 in
theorem k_findTwins {al : Prop} {X : Option (Nat × (Int → Int))} {d : Nat} {sh : List aj_S} {g : aj_G} {Q : aj_R → List aj_S → aj_G → Prop} {L k n : Nat} {nx ou : Nat → Nat → Nat} (hr : rds sh g) (hA : mcm sh g 1 L k n nx ou) (hn8 : n ≤ 8) (hp : pss sh g 44) (hk : ∀ g1, tw_F g g1 → (∀ x : Nat, x < n → ∃ c : Nat, g1 6 x = c ∧ tw1 k nx ou x c) → Q (.inl none) sh g1) : aj_wp nE al al X m_Reduction_findTwins (d + 2) 0 0 0 [some (1, 4), some (1, 1), some (1, 44), none, none] [] sh g Q := by
  refine aj_iconst 1 (dx d_Reduction_findTwins 0 rfl) rfl ?_
  refine aj_istore_n 3 2 (dx d_Reduction_findTwins 1 rfl) rfl rfl rfl ?_
  simp only [List.set]
  exact k_findTwins_out hr hA hn8 hp hk _ 0 g (Nat.zero_le _) rfl (tw_F_0 g) (fun x hx => absurd hx (Nat.not_lt_zero _))
def as_g (g : aj_G) (s b i : Int) : aj_G := aj_up (aj_up (aj_up (aj_up (aj_up g 10 3 (g 10 3 + 1)) 5 s (g 10 3)) 7 (g 10 3) s) 8 (g 10 3) b) 9 (g 10 3) i
set_option maxHeartbeats 4000000 in
theorem k_addState {al : Prop} {X : Option (Nat × (Int → Int))} {d : Nat} {sh : List aj_S} {g : aj_G} {Q : aj_R → List aj_S → aj_G → Prop} {s b i : Int}
    (hr : rds sh g) (h0 : 0 ≤ g 10 3) (h1 : g 10 3 < 8) (s0 : 0 ≤ s) (s1 : s < 8) (hk : Q (.inl none) sh (as_g g s b i)) : aj_wp nE al al X m_Reduction_addState (d) 0 0 0 [some (1, 4), some (0, s), some (0, b), some (0, i), none] [] sh g Q := by
  refine aj_aload_n 0 1 (dx d_Reduction_addState 0 rfl) rfl rfl rfl ?_
  refine aj_getf 4 fl_Reduction_32 (dx d_Reduction_addState 1 rfl) rfl hr.1 ?_
  rw [hr.2.1.1]
  refine aj_getf 7 fl_Reduction_40 (dx d_Reduction_addState 2 rfl) rfl hr.2.2.2.2.2.2.2 ?_
  refine aj_istore 4 9 (dx d_Reduction_addState 3 rfl) rfl rfl ?_
  simp only [List.set]
  refine aj_aload_n 0 10 (dx d_Reduction_addState 4 rfl) rfl rfl rfl ?_
  refine aj_getf 13 fl_Reduction_32 (dx d_Reduction_addState 5 rfl) rfl hr.1 ?_
  rw [hr.2.1.1]
  refine aj_iload 4 15 (dx d_Reduction_addState 6 rfl) rfl rfl ?_
  refine aj_iconst 16 (dx d_Reduction_addState 7 rfl) rfl ?_
  refine aj_iadd 17 (dx d_Reduction_addState 8 rfl) rfl ?_
  refine aj_putf 20 (pl_Reduction_40 _) (dx d_Reduction_addState 9 rfl) rfl hr.2.2.2.2.2.2.2 (aj_fitI _) ?_
  refine aj_aload_n 0 21 (dx d_Reduction_addState 10 rfl) rfl rfl rfl ?_
  refine aj_getf 24 fl_Reduction_9 (dx d_Reduction_addState 11 rfl) rfl hr.1 ?_
  simp only [aj_up_app, Int.reduceEq, ↓reduceIte]
  rw [hr.2.1.2.1]
  refine aj_iload_n 1 25 (dx d_Reduction_addState 12 rfl) rfl rfl rfl ?_
  refine aj_iload 4 27 (dx d_Reduction_addState 13 rfl) rfl rfl ?_
  refine aj_iast 28 (dx d_Reduction_addState 14 rfl) rfl hr.2.2.1 rfl (by omega) (by omega) ?_
  refine aj_aload_n 0 29 (dx d_Reduction_addState 15 rfl) rfl rfl rfl ?_
  refine aj_getf 32 fl_Reduction_18 (dx d_Reduction_addState 16 rfl) rfl hr.1 ?_
  simp only [aj_up_app, Int.reduceEq, ↓reduceIte]
  rw [hr.2.1.2.2.2.1]
  refine aj_iload 4 34 (dx d_Reduction_addState 17 rfl) rfl rfl ?_
  refine aj_iload_n 1 35 (dx d_Reduction_addState 18 rfl) rfl rfl rfl ?_
  refine aj_iast 36 (dx d_Reduction_addState 19 rfl) rfl hr.2.2.2.2.1 rfl (by omega) (by omega) ?_
  refine aj_aload_n 0 37 (dx d_Reduction_addState 20 rfl) rfl rfl rfl ?_
  refine aj_getf 40 fl_Reduction_21 (dx d_Reduction_addState 21 rfl) rfl hr.1 ?_
  simp only [aj_up_app, Int.reduceEq, ↓reduceIte]
  rw [hr.2.1.2.2.2.2.1]
  refine aj_iload 4 42 (dx d_Reduction_addState 22 rfl) rfl rfl ?_
  refine aj_iload_n 2 43 (dx d_Reduction_addState 23 rfl) rfl rfl rfl ?_
  refine aj_iast 44 (dx d_Reduction_addState 24 rfl) rfl hr.2.2.2.2.2.1 rfl (by omega) (by omega) ?_
  refine aj_aload_n 0 45 (dx d_Reduction_addState 25 rfl) rfl rfl rfl ?_
  refine aj_getf 48 fl_Reduction_24 (dx d_Reduction_addState 26 rfl) rfl hr.1 ?_
  simp only [aj_up_app, Int.reduceEq, ↓reduceIte]
  rw [hr.2.1.2.2.2.2.2]
  refine aj_iload 4 50 (dx d_Reduction_addState 27 rfl) rfl rfl ?_
  refine aj_iload_n 3 51 (dx d_Reduction_addState 28 rfl) rfl rfl rfl ?_
  refine aj_iast 52 (dx d_Reduction_addState 29 rfl) rfl hr.2.2.2.2.2.2.1 rfl (by omega) (by omega) ?_
  refine aj_vret (dx d_Reduction_addState 30 rfl) rfl id ?_
  exact hk

