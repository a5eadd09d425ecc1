/-! the family and the own words as traces; Family.chooseOwn -/
abbrev fm_T : Type := Nat × (Nat → List Nat)
def fm_up (f : Nat → List Nat) (a : Nat) (x : List Nat) : Nat → List Nat := fun b => if b = a then x else f b
theorem fm_up_self (f : Nat → List Nat) (a : Nat) (x : List Nat) : fm_up f a x a = x := if_pos rfl
theorem fm_up_ne (f : Nat → List Nat) {a b : Nat} (x : List Nat) (h : b ≠ a) : fm_up f a x b = f b := if_neg h
/-- the least word that tells two states apart -/
noncomputable def lwd (k : Nat) (nx ou : Nat → Nat → Nat) (i j : Nat) : List Nat := @dite (List Nat) (∃ w, wd_least k nx ou i nx ou j w) (Classical.propDecidable _) (fun h => Classical.choose h) (fun _ => [])
theorem lwd_eq {k : Nat} {nx ou : Nat → Nat → Nat} {i j : Nat} {w : List Nat} (hk : k ≤ 4) (h : wd_least k nx ou i nx ou j w) : lwd k nx ou i j = w := by
  have hx : ∃ w, wd_least k nx ou i nx ou j w := ⟨w, h⟩
  unfold lwd
  rw [dif_pos hx]
  exact least_uniq hk (Classical.choose_spec hx) h
noncomputable def fm_st (T : Nat → Nat → List Nat → Prop) (lw : Nat → Nat → List Nat) (i j : Nat) (q : fm_T) : fm_T := @ite fm_T (∃ w, w < q.1 ∧ T i j (q.2 w)) (Classical.propDecidable _) q (q.1 + 1, fm_up q.2 q.1 (lw i j))
noncomputable def fm_in (T : Nat → Nat → List Nat → Prop) (lw : Nat → Nat → List Nat) (i : Nat) : Nat → fm_T → fm_T
  | 0, q => q
  | m + 1, q => fm_st T lw i (i + 1 + m) (fm_in T lw i m q)
noncomputable def fm_out (T : Nat → Nat → List Nat → Prop) (lw : Nat → Nat → List Nat) (N : Nat) : Nat → fm_T
  | 0 => (0, fun _ => [])
  | i + 1 => fm_in T lw i (N - 1 - i) (fm_out T lw N i)
def fm_I (k N : Nat) (nx ou : Nat → Nat → Nat) (q : fm_T) (i j : Nat) : Prop := (∀ w, w < q.1 → wd_ok k (q.2 w) ∧ (q.2 w).length ≤ 100 ∧ ∃ s t, s < N ∧ t < N ∧ fm_un nx ou q.2 w s t ∧ tl nx ou s t (q.2 w)) ∧ ∀ a b, a < b → b < N → (a < i ∨ (a = i ∧ b < j)) → ∃ w, w < q.1 ∧ tl nx ou a b (q.2 w)
section FI
variable {k N : Nat} {nx ou : Nat → Nat → Nat} {lw : Nat → Nat → List Nat} {q : fm_T} {i j : Nat}
theorem fm_I_le (hN : 0 < N) (h : fm_I k N nx ou q i j) : q.1 + 1 ≤ N := fm_le hN (fun w hw => (h.1 w hw).2.2)
theorem fm_I_old (h : fm_I k N nx ou q i j) {w : Nat} (hw : w < q.1) (ht : tl nx ou i j (q.2 w)) : fm_st (tl nx ou) lw i j q = q ∧ fm_I k N nx ou q i (j + 1) := by
  refine ⟨if_pos ⟨w, hw, ht⟩, h.1, fun a b h1 h2 h3 => ?_⟩
  by_cases c : a < i ∨ (a = i ∧ b < j)
  · exact h.2 a b h1 h2 c
  · have e1 : a = i := by omega
    have e2 : b = j := by omega
    rw [e1, e2]
    exact ⟨w, hw, ht⟩
theorem fm_I_new (h : fm_I k N nx ou q i j) (hij : i < j) (hj : j < N) (hno : ∀ w, w < q.1 → ¬ tl nx ou i j (q.2 w)) (hl : wd_least k nx ou i nx ou j (lw i j)) (hl2 : (lw i j).length ≤ 100) : fm_st (tl nx ou) lw i j q = (q.1 + 1, fm_up q.2 q.1 (lw i j)) ∧ fm_I k N nx ou (q.1 + 1, fm_up q.2 q.1 (lw i j)) i (j + 1) := by
  refine ⟨if_neg (fun z => by obtain ⟨w, h1, h2⟩ := z; exact hno w h1 h2), fun w hw => ?_, fun a b h1 h2 h3 => ?_⟩
  · have hw' : w < q.1 + 1 := hw
    show wd_ok k (fm_up q.2 q.1 (lw i j) w) ∧ (fm_up q.2 q.1 (lw i j) w).length ≤ 100 ∧ ∃ s t, s < N ∧ t < N ∧ fm_un nx ou (fm_up q.2 q.1 (lw i j)) w s t ∧ tl nx ou s t (fm_up q.2 q.1 (lw i j) w)
    have hun : ∀ s t, fm_un nx ou q.2 w s t → w ≤ q.1 → fm_un nx ou (fm_up q.2 q.1 (lw i j)) w s t := fun s t z hle w2 h2 => by
      rw [fm_up_ne _ _ (by omega)]
      exact z w2 h2
    by_cases c : w = q.1
    · subst c
      rw [fm_up_self]
      exact ⟨hl.1, hl2, i, j, by omega, hj, hun i j (fun w2 h2 => hno w2 h2) (Nat.le_refl _), tl_df hl.2.1⟩
    · rw [fm_up_ne _ _ c]
      obtain ⟨b1, b2, s, t, b3, b4, b5, b6⟩ := h.1 w (by omega)
      exact ⟨b1, b2, s, t, b3, b4, hun s t b5 (by omega), b6⟩
  · show ∃ w, w < q.1 + 1 ∧ tl nx ou a b (fm_up q.2 q.1 (lw i j) w)
    by_cases c : a < i ∨ (a = i ∧ b < j)
    · obtain ⟨w, x1, x2⟩ := h.2 a b h1 h2 c
      exact ⟨w, by omega, by rw [fm_up_ne _ _ (by omega)]; exact x2⟩
    · have e1 : a = i := by omega
      have e2 : b = j := by omega
      exact ⟨q.1, Nat.lt_succ_self _, by rw [fm_up_self, e1, e2]; exact tl_df hl.2.1⟩
theorem fm_I_row (h : fm_I k N nx ou q i N) : fm_I k N nx ou q (i + 1) (i + 2) :=
  ⟨h.1, fun a b h1 h2 h3 => h.2 a b h1 h2 (by omega)⟩
end FI
/-- the first word of the family that tells i and j -/
noncomputable def fwd (T : Nat → Nat → List Nat → Prop) (F : Nat → List Nat) (c i j : Nat) : Nat := @dite Nat (∃ w, w < c ∧ T i j (F w) ∧ ∀ w', w' < w → ¬ T i j (F w')) (Classical.propDecidable _) (fun h => Classical.choose h) (fun _ => 0)
theorem fwd_eq {T : Nat → Nat → List Nat → Prop} {F : Nat → List Nat} {c i j w : Nat} (h1 : w < c) (h2 : T i j (F w)) (h3 : ∀ w', w' < w → ¬ T i j (F w')) : fwd T F c i j = w := by
  have hx : ∃ w, w < c ∧ T i j (F w) ∧ ∀ w', w' < w → ¬ T i j (F w') := ⟨w, h1, h2, h3⟩
  unfold fwd
  rw [dif_pos hx]
  obtain ⟨a1, a2, a3⟩ := Classical.choose_spec hx
  rcases Nat.lt_trichotomy (Classical.choose hx) w with z | z | z
  · exact absurd a2 (h3 _ z)
  · exact z
  · exact absurd h2 (a3 _ z)
abbrev ow_T : Type := Nat × (Nat → Nat)
noncomputable def ow_st (T : Nat → Nat → List Nat → Prop) (F : Nat → List Nat) (c i j : Nat) (o : ow_T) : ow_T := @ite ow_T (i = j ∨ ∃ v, v < o.1 ∧ T i j (F (o.2 v))) (Classical.propDecidable _) o (o.1 + 1, nb_up o.2 o.1 (fwd T F c i j))
noncomputable def ow (T : Nat → Nat → List Nat → Prop) (F : Nat → List Nat) (c i : Nat) : Nat → ow_T
  | 0 => (0, fun _ => 0)
  | j + 1 => ow_st T F c i j (ow T F c i j)
theorem ow_le {T : Nat → Nat → List Nat → Prop} {F : Nat → List Nat} {c i : Nat} : ∀ j, (ow T F c i j).1 ≤ j
  | 0 => Nat.le_refl _
  | j + 1 => by
    have ih := ow_le (T := T) (F := F) (c := c) (i := i) j
    show (ow_st T F c i j (ow T F c i j)).1 ≤ j + 1
    unfold ow_st
    split
    · omega
    · show (ow T F c i j).1 + 1 ≤ j + 1; omega
def co_F (g g1 : aj_G) (i : Nat) : Prop := (∀ r', r' ≠ 24 → r' ≠ 16 + (i : Int) → g1 r' = g r') ∧ ∀ x, x ≠ (i : Int) → g1 24 x = g 24 x
theorem co_up {g g1 : aj_G} {i : Nat} {o : ow_T} {w : Nat} (hF : co_F g g1 i) (hi : i < 8) (ho : oat g1 i o) : co_F g (aj_up (aj_up g1 (16 + (i : Int)) (o.1 : Int) (w : Int)) 24 (i : Int) ((o.1 : Int) + 1)) i ∧ oat (aj_up (aj_up g1 (16 + (i : Int)) (o.1 : Int) (w : Int)) 24 (i : Int) ((o.1 : Int) + 1)) i (o.1 + 1, nb_up o.2 o.1 w) := by
  refine ⟨⟨fun r' c1 c2 => by rw [aj_up_ne _ _ _ c1, aj_up_ne _ _ _ c2]; exact hF.1 r' c1 c2, fun x hx => by rw [aj_up_ni _ _ _ hx, aj_up_ne _ _ _ (by omega)]; exact hF.2 x hx⟩, by rw [aj_up_self]; push_cast; rfl, fun v hv => ?_⟩
  have hv' : v < o.1 + 1 := hv
  rw [aj_up_ne _ _ _ (by omega), aj_up_at]
  by_cases c : v = o.1
  · rw [if_pos ⟨rfl, by omega⟩, c]
    show (w : Int) = (nb_up o.2 o.1 w o.1 : Nat)
    rw [nb_up_self]
  · rw [if_neg (by omega)]
    show g1 (16 + (i : Int)) v = (nb_up o.2 o.1 w v : Nat)
    rw [nb_up_ne _ _ c]
    exact ho.2 v (by omega)
set_option maxHeartbeats 4000000 in
theorem k_chooseOwn_loop {al : Prop} {X : Option (Nat × (Int → Int))} {d : Nat} {sh : List aj_S} {g : aj_G} {Q : aj_R → List aj_S → aj_G → Prop} {L k n c i : Nat} {nx ou : Nat → Nat → Nat} {F : Nat → List Nat} (hf : fms sh g) (hm : mcm sh g 10 L k n nx ou) (hn8 : n ≤ 8) (hF : fam g k c F) (hi : i < n) (hcov : ∀ a b, a < n → b < n → a ≠ b → ∃ w, w < c ∧ tl nx ou a b (F w)) (hk : ∀ g1, co_F g g1 i → oat g1 i (ow (tl nx ou) F c i n) → Q (.inl none) sh g1) : ∀ (m j : Nat) (g1 : aj_G), j ≤ n → n - j = m → co_F g g1 i → oat g1 i (ow (tl nx ou) F c i j) → (∀ v, v < (ow (tl nx ou) F c i j).1 → (ow (tl nx ou) F c i j).2 v < c) →
    aj_wp nE al al X m_Family_chooseOwn (d + 3) 0 0 2 [some (1, 13), some (1, 10), some (0, (i : Int)), some (0, (j : Int))] [] sh g1 Q := by
  intro m
  induction m using Nat.strongRecOn with
  | ind m ih =>
    intro j g1 hj0 hmm hC ho hoc
    have hf1 := fms_of hf (fun j _ => by rw [hC.1 13 (by omega) (by omega)]) (hC.1 14 (by omega) (by omega)) (hC.1 15 (by omega) (by omega)) (fun w hw => by rw [hC.1 _ (by omega) (by omega)])
    have hm1 := mcm_of hm (hC.1 10 (by omega) (by omega)) (hC.1 _ (by omega) (by omega)) (hC.1 _ (by omega) (by omega))
    have hF1 := fam_of hF (by rw [hC.1 13 (by omega) (by omega)]) (fun w hw => ⟨hC.1 _ (by omega) (by omega), hC.1 _ (by omega) (by omega)⟩)
    have hole := ow_le (T := tl nx ou) (F := F) (c := c) (i := i) j
    refine aj_iload_n 3 3 (dx d_Family_chooseOwn 2 rfl) rfl rfl rfl ?_
    refine aj_aload_n 1 4 (dx d_Family_chooseOwn 3 rfl) rfl rfl rfl ?_
    refine aj_getf 7 fl_Family_31 (dx d_Family_chooseOwn 4 rfl) rfl hm1.1.1 ?_
    refine aj_icmp_ge 61 10 (dx d_Family_chooseOwn 5 rfl) rfl rfl (by unfold aj_I; omega) (by rw [hm1.2.2.1]; unfold aj_I; omega) (fun h7 => ?_) (fun h7 => ?_)
    · rw [hm1.2.2.1] at h7
      refine aj_vret (dx d_Family_chooseOwn 39 rfl) rfl id ?_
      have hjn : j = n := by omega
      subst hjn
      exact hk g1 hC ho
    · rw [hm1.2.2.1] at h7
      have hj : j < n := by omega
      refine aj_iload_n 3 11 (dx d_Family_chooseOwn 6 rfl) rfl rfl rfl ?_
      refine aj_iload_n 2 12 (dx d_Family_chooseOwn 7 rfl) rfl rfl rfl ?_
      refine aj_icmp_eq 55 15 (dx d_Family_chooseOwn 8 rfl) rfl rfl (by unfold aj_I; omega) (by unfold aj_I; omega) (fun h12 => ?_) (fun h12 => ?_)
      · refine aj_iinc 3 58 (dx d_Family_chooseOwn 37 rfl) rfl rfl rfl ?_
        simp only [List.set]
        refine aj_goto 2 (dx d_Family_chooseOwn 38 rfl) rfl ?_
        have hst : ow (tl nx ou) F c i (j + 1) = ow (tl nx ou) F c i j := if_pos (Or.inl (by omega))
        have hih := ih _ (by omega) (j + 1) g1 (by omega) rfl hC (by rw [hst]; exact ho) (by rw [hst]; exact hoc)
        rw [show ((j : Nat) : Int) + 1 = ((j + 1 : Nat) : Int) by omega]
        exact hih
      · refine aj_aload_n 0 16 (dx d_Family_chooseOwn 9 rfl) rfl rfl rfl ?_
        refine aj_aload_n 1 17 (dx d_Family_chooseOwn 10 rfl) rfl rfl rfl ?_
        refine aj_iload_n 2 18 (dx d_Family_chooseOwn 11 rfl) rfl rfl rfl ?_
        refine aj_iload_n 3 19 (dx d_Family_chooseOwn 12 rfl) rfl rfl rfl ?_
        refine aj_callV3 22 cl_Family_58 (dx d_Family_chooseOwn 13 rfl) rfl rfl rfl rfl rfl rfl hf1.1 (k_ownTells hf1 hm1 hn8 hF1 hi hj ho (by omega) hoc (fun ht => ?_) (fun ht => ?_))
        · change aj_wp _ _ _ _ _ _ _ _ _ _ _ _ _ _
          refine aj_if_ne 55 25 (dx d_Family_chooseOwn 14 rfl) rfl rfl (by unfold aj_I; omega) (fun h22 => ?_) (fun h22 => ?_)
          · refine aj_iinc 3 58 (dx d_Family_chooseOwn 37 rfl) rfl rfl rfl ?_
            simp only [List.set]
            refine aj_goto 2 (dx d_Family_chooseOwn 38 rfl) rfl ?_
            have hst : ow (tl nx ou) F c i (j + 1) = ow (tl nx ou) F c i j := if_pos (Or.inr ht)
            have hih := ih _ (by omega) (j + 1) g1 (by omega) rfl hC (by rw [hst]; exact ho) (by rw [hst]; exact hoc)
            rw [show ((j : Nat) : Int) + 1 = ((j + 1 : Nat) : Int) by omega]
            exact hih
          · exact absurd h22 (by omega)
        · change aj_wp _ _ _ _ _ _ _ _ _ _ _ _ _ _
          refine aj_if_ne 55 25 (dx d_Family_chooseOwn 14 rfl) rfl rfl (by unfold aj_I; omega) (fun h22 => ?_) (fun h22 => ?_)
          · exact absurd rfl h22
          · refine aj_aload_n 0 26 (dx d_Family_chooseOwn 15 rfl) rfl rfl rfl ?_
            refine aj_getf 29 fl_Family_19 (dx d_Family_chooseOwn 16 rfl) rfl hf1.1 ?_
            rw [hf1.2.1.2.1]
            refine aj_iload_n 2 30 (dx d_Family_chooseOwn 17 rfl) rfl rfl rfl ?_
            refine aj_aald 31 (dx d_Family_chooseOwn 18 rfl) rfl hf1.2.2.2.1 rfl rfl (by omega) (by omega) ?_
            rw [(hf1.2.2.2.2.2 i (by omega)).2.2.1]
            refine aj_aload_n 0 32 (dx d_Family_chooseOwn 19 rfl) rfl rfl rfl ?_
            refine aj_getf 35 fl_Family_22 (dx d_Family_chooseOwn 20 rfl) rfl hf1.1 ?_
            rw [hf1.2.1.2.2]
            refine aj_iload_n 2 36 (dx d_Family_chooseOwn 21 rfl) rfl rfl rfl ?_
            refine aj_iald 37 (dx d_Family_chooseOwn 22 rfl) rfl hf1.2.2.2.2.1 rfl (by omega) (by omega) ?_
            rw [ho.1]
            refine aj_aload_n 0 38 (dx d_Family_chooseOwn 23 rfl) rfl rfl rfl ?_
            refine aj_aload_n 1 39 (dx d_Family_chooseOwn 24 rfl) rfl rfl rfl ?_
            refine aj_iload_n 2 40 (dx d_Family_chooseOwn 25 rfl) rfl rfl rfl ?_
            refine aj_iload_n 3 41 (dx d_Family_chooseOwn 26 rfl) rfl rfl rfl ?_
            refine aj_callV3 44 cl_Family_36 (dx d_Family_chooseOwn 27 rfl) rfl rfl rfl rfl rfl rfl hf1.1 (k_firstWord hf1 hm1 hF1 hi hj (fun w hw1 hw2 hw3 => ?_) (fun hnone => ?_))
            · change aj_wp _ _ _ _ _ _ _ _ _ _ _ _ _ _
              refine aj_iast 45 (dx d_Family_chooseOwn 28 rfl) rfl (hf1.2.2.2.2.2 i (by omega)).2.2.2 rfl (by omega) (by omega) ?_
              refine aj_aload_n 0 46 (dx d_Family_chooseOwn 29 rfl) rfl rfl rfl ?_
              refine aj_getf 49 fl_Family_22 (dx d_Family_chooseOwn 30 rfl) rfl hf1.1 ?_
              rw [aj_up_ne _ _ _ (by omega), hf1.2.1.2.2]
              refine aj_iload_n 2 50 (dx d_Family_chooseOwn 31 rfl) rfl rfl rfl ?_
              refine aj_dup2 51 (dx d_Family_chooseOwn 32 rfl) rfl rfl rfl ?_
              refine aj_iald 52 (dx d_Family_chooseOwn 33 rfl) rfl hf1.2.2.2.2.1 rfl (by omega) (by omega) ?_
              rw [aj_up_ne _ _ _ (by omega), ho.1]
              refine aj_iconst 53 (dx d_Family_chooseOwn 34 rfl) rfl ?_
              refine aj_iadd 54 (dx d_Family_chooseOwn 35 rfl) rfl ?_
              refine aj_iast 55 (dx d_Family_chooseOwn 36 rfl) rfl hf1.2.2.2.2.1 rfl (by omega) (by omega) ?_
              refine aj_iinc 3 58 (dx d_Family_chooseOwn 37 rfl) rfl rfl rfl ?_
              simp only [List.set]
              refine aj_goto 2 (dx d_Family_chooseOwn 38 rfl) rfl ?_
              have hne : i ≠ j := by omega
              have hst : ow (tl nx ou) F c i (j + 1) = ((ow (tl nx ou) F c i j).1 + 1, nb_up (ow (tl nx ou) F c i j).2 (ow (tl nx ou) F c i j).1 w) := by
                show ow_st (tl nx ou) F c i j (ow (tl nx ou) F c i j) = _
                unfold ow_st
                rw [if_neg (by rintro (z | ⟨v, z1, z2⟩); exact hne z; exact ht v z1 z2), fwd_eq hw1 hw2 hw3]
              obtain ⟨hC2, ho2⟩ := co_up (w := w) hC (by omega) ho
              have hih := ih _ (by omega) (j + 1) _ (by omega) rfl hC2 (by rw [hst]; exact ho2) (by
                rw [hst]
                intro v hv
                have hv' : v < (ow (tl nx ou) F c i j).1 + 1 := hv
                show nb_up _ _ _ v < c
                by_cases e : v = (ow (tl nx ou) F c i j).1
                · rw [e, nb_up_self]; exact hw1
                · rw [nb_up_ne _ _ e]; exact hoc v (by omega))
              rw [show ((j : Nat) : Int) + 1 = ((j + 1 : Nat) : Int) by omega]
              exact hih
            · obtain ⟨w, z1, z2⟩ := hcov i j hi hj (by omega)
              exact absurd z2 (hnone w z1)
set_option maxHeartbeats 4000000 in
theorem k_chooseOwn {al : Prop} {X : Option (Nat × (Int → Int))} {d : Nat} {sh : List aj_S} {g : aj_G} {Q : aj_R → List aj_S → aj_G → Prop} {L k n c i : Nat} {nx ou : Nat → Nat → Nat} {F : Nat → List Nat} (hf : fms sh g) (hm : mcm sh g 10 L k n nx ou) (hn8 : n ≤ 8) (hF : fam g k c F) (hi : i < n) (hcov : ∀ a b, a < n → b < n → a ≠ b → ∃ w, w < c ∧ tl nx ou a b (F w)) (hk : ∀ g1, co_F g g1 i → oat g1 i (ow (tl nx ou) F c i n) → Q (.inl none) sh g1) (h24 : g 24 i = 0) : aj_wp nE al al X m_Family_chooseOwn (d + 3) 0 0 0 [some (1, 13), some (1, 10), some (0, (i : Int)), none] [] sh g Q := by
  refine aj_iconst 1 (dx d_Family_chooseOwn 0 rfl) rfl ?_
  refine aj_istore_n 3 2 (dx d_Family_chooseOwn 1 rfl) rfl rfl rfl ?_
  simp only [List.set]
  exact k_chooseOwn_loop hf hm hn8 hF hi hcov hk _ 0 g (Nat.zero_le _) rfl ⟨fun _ _ _ => rfl, fun _ _ => rfl⟩ ⟨h24, fun v hv => absurd hv (Nat.not_lt_zero _)⟩ (fun v hv => absurd hv (Nat.not_lt_zero _))
