/-! PairSearch: forget, reach, spell -/
def pss (sh : List aj_S) (g : aj_G) (r : Int) : Prop := aj_sh sh r = some (.inr 2) ∧ (g r 0 = r + 1 ∧ g r 1 = r + 3 ∧ g r 2 = r + 4 ∧ g r 3 = r + 5 ∧ g r 4 = r + 6 ∧ g r 5 = r + 7 ∧ g r 6 = r + 8) ∧ (aj_sh sh (r + 1) = some (.inr 1) ∧ g (r + 1) 0 = r + 2 ∧ aj_sh sh (r + 2) = some (.inl (0, 100))) ∧
  aj_sh sh (r + 3) = some (.inl (0, 100)) ∧ aj_sh sh (r + 4) = some (.inl (0, 100)) ∧ aj_sh sh (r + 5) = some (.inl (0, 100)) ∧ aj_sh sh (r + 6) = some (.inl (0, 100)) ∧ aj_sh sh (r + 7) = some (.inl (0, 100)) ∧ aj_sh sh (r + 8) = some (.inl (1, 100))
theorem pss_of {sh : List aj_S} {g g1 : aj_G} {r : Int} (h : pss sh g r) (e : ∀ j, j ≠ 7 → g1 r j = g r j) (e1 : g1 (r + 1) 0 = g (r + 1) 0) : pss sh g1 r := by
  obtain ⟨h1, ⟨a0, a1, a2, a3, a4, a5, a6⟩, ⟨b1, b2, b3⟩, h4⟩ := h
  exact ⟨h1, ⟨by rw [e _ (by omega)]; exact a0, by rw [e _ (by omega)]; exact a1, by rw [e _ (by omega)]; exact a2, by rw [e _ (by omega)]; exact a3, by rw [e _ (by omega)]; exact a4, by rw [e _ (by omega)]; exact a5, by rw [e _ (by omega)]; exact a6⟩, ⟨b1, by rw [e1]; exact b2, b3⟩, h4⟩
def fg_P (g g1 : aj_G) (r : Int) : Prop := (∀ r', r' ≠ r → r' ≠ r + 1 → r' ≠ r + 8 → g1 r' = g r') ∧ (∀ j, j ≠ 7 → g1 r j = g r j) ∧ g1 r 7 = 0 ∧ (∀ j, j ≠ 1 → g1 (r + 1) j = g (r + 1) j) ∧ g1 (r + 1) 1 = 0
set_option maxHeartbeats 4000000 in
theorem k_forget_loop {al : Prop} {X : Option (Nat × (Int → Int))} {d : Nat} {sh : List aj_S} {g : aj_G} {Q : aj_R → List aj_S → aj_G → Prop} {r : Int} (hp : pss sh g r) (hk : ∀ g1, fg_P g g1 r → (∀ j, 0 ≤ j → j < 100 → g1 (r + 8) j = 0) → Q (.inl none) sh g1) : ∀ (m : Nat) (i : Int) (g1 : aj_G), 0 ≤ i → i ≤ 100 → (100 - i).toNat = m → fg_P g g1 r → (∀ j, 0 ≤ j → j < i → g1 (r + 8) j = 0) →
    aj_wp nE al al X m_Search_forget d 0 0 15 [some (1, r), some (0, i)] [] sh g1 Q := by
  intro m
  induction m using Nat.strongRecOn with
  | ind m ih =>
    intro i g1 i0 i1 hmm hP hz
    have hp1 := pss_of hp hP.2.1 (hP.2.2.2.1 0 (by omega))
    refine aj_iload_n 1 16 (dx d_Search_forget 9 rfl) rfl rfl rfl ?_
    refine aj_bipush 18 (dx d_Search_forget 10 rfl) rfl (by decide +kernel) ?_
    refine aj_icmp_ge 34 21 (dx d_Search_forget 11 rfl) rfl rfl (by unfold aj_I; omega) (by unfold aj_I; omega) (fun h18 => ?_) (fun h18 => ?_)
    · refine aj_vret (dx d_Search_forget 19 rfl) rfl id ?_
      exact hk g1 hP (fun j j0 j1 => hz j j0 (by omega))
    · refine aj_aload_n 0 22 (dx d_Search_forget 12 rfl) rfl rfl rfl ?_
      refine aj_getf 25 fl_Search_34 (dx d_Search_forget 13 rfl) rfl hp1.1 ?_
      rw [hp1.2.1.2.2.2.2.2.2]
      refine aj_iload_n 1 26 (dx d_Search_forget 14 rfl) rfl rfl rfl ?_
      refine aj_iconst 27 (dx d_Search_forget 15 rfl) rfl ?_
      refine aj_zast 28 (dx d_Search_forget 16 rfl) rfl hp1.2.2.2.2.2.2.2.2 rfl (by omega) (by omega) (Or.inl rfl) ?_
      refine aj_iinc 1 31 (dx d_Search_forget 17 rfl) rfl rfl rfl ?_
      simp only [List.set]
      refine aj_goto 15 (dx d_Search_forget 18 rfl) rfl ?_
      exact ih _ (by omega) (i + 1) _ (by omega) (by omega) rfl ⟨fun r' c1 c2 c3 => by rw [aj_up_ne _ _ _ c3]; exact hP.1 r' c1 c2 c3, fun j hj => by rw [aj_up_ne _ _ _ (by omega)]; exact hP.2.1 j hj, by rw [aj_up_ne _ _ _ (by omega)]; exact hP.2.2.1, fun j hj => by rw [aj_up_ne _ _ _ (by omega)]; exact hP.2.2.2.1 j hj, by rw [aj_up_ne _ _ _ (by omega)]; exact hP.2.2.2.2⟩ (fun j j0 j1 => by
        rw [aj_up_at]
        by_cases e : j = i
        · rw [if_pos ⟨rfl, e⟩]
        · rw [if_neg (fun z => e z.2)]
          exact hz j j0 (by omega))
set_option maxHeartbeats 4000000 in
theorem k_Search_forget {al : Prop} {X : Option (Nat × (Int → Int))} {d : Nat} {sh : List aj_S} {g : aj_G} {Q : aj_R → List aj_S → aj_G → Prop} {r : Int} (hp : pss sh g r) (hk : ∀ g1, fg_P g g1 r → (∀ j, 0 ≤ j → j < 100 → g1 (r + 8) j = 0) → Q (.inl none) sh g1) : aj_wp nE al al X m_Search_forget d 0 0 0 [some (1, r), none] [] sh g Q := by
  refine aj_aload_n 0 1 (dx d_Search_forget 0 rfl) rfl rfl rfl ?_
  refine aj_iconst 2 (dx d_Search_forget 1 rfl) rfl ?_
  refine aj_putf 5 (pl_Search_38 _) (dx d_Search_forget 2 rfl) rfl hp.1 (aj_fitI _) ?_
  refine aj_aload_n 0 6 (dx d_Search_forget 3 rfl) rfl rfl rfl ?_
  refine aj_getf 9 fl_Search_12 (dx d_Search_forget 4 rfl) rfl hp.1 ?_
  rw [aj_up_ni _ _ _ (show (0 : Int) ≠ 7 by omega), hp.2.1.1]
  refine aj_iconst 10 (dx d_Search_forget 5 rfl) rfl ?_
  refine aj_putf 13 (pl_Search_65 _) (dx d_Search_forget 6 rfl) rfl hp.2.2.1.1 (aj_fitI _) ?_
  refine aj_iconst 14 (dx d_Search_forget 7 rfl) rfl ?_
  refine aj_istore_n 1 15 (dx d_Search_forget 8 rfl) rfl rfl rfl ?_
  simp only [List.set]
  refine k_forget_loop hp hk _ 0 _ (by omega) (by omega) rfl ⟨fun r' c1 c2 c3 => ?_, fun j hj => ?_, ?_, fun j hj => ?_, ?_⟩ (fun j j0 j1 => by omega)
  · rw [aj_up_ne _ _ _ c2, aj_up_ne _ _ _ c1]
  · rw [aj_up_ne _ _ _ (by omega), aj_up_ni _ _ _ hj]
  · rw [aj_up_ne _ _ _ (by omega), aj_up_self]
  · rw [aj_up_ni _ _ _ hj, aj_up_ne _ _ _ (by omega)]
  · rw [aj_up_self]
def rc_g (g : aj_G) (r s t b i : Int) : aj_G := aj_up (aj_up (aj_up (aj_up (aj_up (aj_up (aj_up g (r + 8) (s * 10 + t) 1) (r + 3) (g r 7) s) (r + 4) (g r 7) t) (r + 5) (g r 7) b) (r + 6) (g r 7) i) (r + 7) (g r 7) (if b = -1 then 0 else g (r + 7) b + 1)) r 7 (g r 7 + 1)
set_option maxHeartbeats 4000000 in
theorem k_Search_reach {al : Prop} {X : Option (Nat × (Int → Int))} {d : Nat} {sh : List aj_S} {g : aj_G} {Q : aj_R → List aj_S → aj_G → Prop} {r : Int} {s t b i : Int} (hp : pss sh g r) (h0 : 0 ≤ s * 10 + t) (h1 : s * 10 + t < 100) (hz : aj_I (g (r + 8) (s * 10 + t))) (hc0 : 0 ≤ g r 7) (hc1 : g (r + 8) (s * 10 + t) = 0 → g r 7 < 100) (hb : aj_I b) (hb0 : b ≠ -1 → 0 ≤ b ∧ b < g r 7)
    (hk1 : g (r + 8) (s * 10 + t) ≠ 0 → Q (.inl none) sh g) (hk0 : g (r + 8) (s * 10 + t) = 0 → Q (.inl none) sh (rc_g g r s t b i)) : aj_wp nE al al X m_Search_reach d 0 0 0 [some (1, r), some (0, s), some (0, t), some (0, b), some (0, i), none] [] sh g Q := by
  refine aj_iload_n 1 1 (dx d_Search_reach 0 rfl) rfl rfl rfl ?_
  refine aj_bipush 3 (dx d_Search_reach 1 rfl) rfl (by decide +kernel) ?_
  refine aj_imul 4 (dx d_Search_reach 2 rfl) rfl ?_
  refine aj_iload_n 2 5 (dx d_Search_reach 3 rfl) rfl rfl rfl ?_
  refine aj_iadd 6 (dx d_Search_reach 4 rfl) rfl ?_
  refine aj_istore 5 8 (dx d_Search_reach 5 rfl) rfl rfl ?_
  simp only [List.set]
  refine aj_aload_n 0 9 (dx d_Search_reach 6 rfl) rfl rfl rfl ?_
  refine aj_getf 12 fl_Search_34 (dx d_Search_reach 7 rfl) rfl hp.1 ?_
  rw [hp.2.1.2.2.2.2.2.2]
  refine aj_iload 5 14 (dx d_Search_reach 8 rfl) rfl rfl ?_
  refine aj_zald 15 (dx d_Search_reach 9 rfl) rfl hp.2.2.2.2.2.2.2.2 rfl (by omega) (by omega) ?_
  refine aj_if_eq 19 18 (dx d_Search_reach 10 rfl) rfl rfl hz (fun h15 => ?_) (fun h15 => ?_)
  · have hc2 := hc1 h15
    refine aj_aload_n 0 20 (dx d_Search_reach 12 rfl) rfl rfl rfl ?_
    refine aj_getf 23 fl_Search_34 (dx d_Search_reach 13 rfl) rfl hp.1 ?_
    rw [hp.2.1.2.2.2.2.2.2]
    refine aj_iload 5 25 (dx d_Search_reach 14 rfl) rfl rfl ?_
    refine aj_iconst 26 (dx d_Search_reach 15 rfl) rfl ?_
    refine aj_zast 27 (dx d_Search_reach 16 rfl) rfl hp.2.2.2.2.2.2.2.2 rfl (by omega) (by omega) (Or.inr rfl) ?_
    refine aj_aload_n 0 28 (dx d_Search_reach 17 rfl) rfl rfl rfl ?_
    refine aj_getf 31 fl_Search_18 (dx d_Search_reach 18 rfl) rfl hp.1 ?_
    simp only [aj_up_app, ne_1, ne_2, ne_3, Int.reduceEq, ↓reduceIte]
    rw [hp.2.1.2.1]
    refine aj_aload_n 0 32 (dx d_Search_reach 19 rfl) rfl rfl rfl ?_
    refine aj_getf 35 fl_Search_38 (dx d_Search_reach 20 rfl) rfl hp.1 ?_
    simp only [aj_up_app, ne_1, ne_2, ne_3, Int.reduceEq, ↓reduceIte]
    refine aj_iload_n 1 36 (dx d_Search_reach 21 rfl) rfl rfl rfl ?_
    refine aj_iast 37 (dx d_Search_reach 22 rfl) rfl hp.2.2.2.1 rfl (by omega) (by omega) ?_
    refine aj_aload_n 0 38 (dx d_Search_reach 23 rfl) rfl rfl rfl ?_
    refine aj_getf 41 fl_Search_22 (dx d_Search_reach 24 rfl) rfl hp.1 ?_
    simp only [aj_up_app, ne_1, ne_2, ne_3, Int.reduceEq, ↓reduceIte]
    rw [hp.2.1.2.2.1]
    refine aj_aload_n 0 42 (dx d_Search_reach 25 rfl) rfl rfl rfl ?_
    refine aj_getf 45 fl_Search_38 (dx d_Search_reach 26 rfl) rfl hp.1 ?_
    simp only [aj_up_app, ne_1, ne_2, ne_3, Int.reduceEq, ↓reduceIte]
    refine aj_iload_n 2 46 (dx d_Search_reach 27 rfl) rfl rfl rfl ?_
    refine aj_iast 47 (dx d_Search_reach 28 rfl) rfl hp.2.2.2.2.1 rfl (by omega) (by omega) ?_
    refine aj_aload_n 0 48 (dx d_Search_reach 29 rfl) rfl rfl rfl ?_
    refine aj_getf 51 fl_Search_25 (dx d_Search_reach 30 rfl) rfl hp.1 ?_
    simp only [aj_up_app, ne_1, ne_2, ne_3, Int.reduceEq, ↓reduceIte]
    rw [hp.2.1.2.2.2.1]
    refine aj_aload_n 0 52 (dx d_Search_reach 31 rfl) rfl rfl rfl ?_
    refine aj_getf 55 fl_Search_38 (dx d_Search_reach 32 rfl) rfl hp.1 ?_
    simp only [aj_up_app, ne_1, ne_2, ne_3, Int.reduceEq, ↓reduceIte]
    refine aj_iload_n 3 56 (dx d_Search_reach 33 rfl) rfl rfl rfl ?_
    refine aj_iast 57 (dx d_Search_reach 34 rfl) rfl hp.2.2.2.2.2.1 rfl (by omega) (by omega) ?_
    refine aj_aload_n 0 58 (dx d_Search_reach 35 rfl) rfl rfl rfl ?_
    refine aj_getf 61 fl_Search_28 (dx d_Search_reach 36 rfl) rfl hp.1 ?_
    simp only [aj_up_app, ne_1, ne_2, ne_3, Int.reduceEq, ↓reduceIte]
    rw [hp.2.1.2.2.2.2.1]
    refine aj_aload_n 0 62 (dx d_Search_reach 37 rfl) rfl rfl rfl ?_
    refine aj_getf 65 fl_Search_38 (dx d_Search_reach 38 rfl) rfl hp.1 ?_
    simp only [aj_up_app, ne_1, ne_2, ne_3, Int.reduceEq, ↓reduceIte]
    refine aj_iload 4 67 (dx d_Search_reach 39 rfl) rfl rfl ?_
    refine aj_iast 68 (dx d_Search_reach 40 rfl) rfl hp.2.2.2.2.2.2.1 rfl (by omega) (by omega) ?_
    refine aj_aload_n 0 69 (dx d_Search_reach 41 rfl) rfl rfl rfl ?_
    refine aj_getf 72 fl_Search_31 (dx d_Search_reach 42 rfl) rfl hp.1 ?_
    simp only [aj_up_app, ne_1, ne_2, ne_3, Int.reduceEq, ↓reduceIte]
    rw [hp.2.1.2.2.2.2.2.1]
    refine aj_aload_n 0 73 (dx d_Search_reach 43 rfl) rfl rfl rfl ?_
    refine aj_getf 76 fl_Search_38 (dx d_Search_reach 44 rfl) rfl hp.1 ?_
    simp only [aj_up_app, ne_1, ne_2, ne_3, Int.reduceEq, ↓reduceIte]
    refine aj_iload_n 3 77 (dx d_Search_reach 45 rfl) rfl rfl rfl ?_
    refine aj_iconst 78 (dx d_Search_reach 46 rfl) rfl ?_
    refine aj_icmp_ne 85 81 (dx d_Search_reach 47 rfl) rfl rfl hb (by unfold aj_I; omega) (fun h78 => ?_) (fun h78 => ?_)
    · obtain ⟨hb1, hb2⟩ := hb0 h78
      refine aj_aload_n 0 86 (dx d_Search_reach 50 rfl) rfl rfl rfl ?_
      refine aj_getf 89 fl_Search_31 (dx d_Search_reach 51 rfl) rfl hp.1 ?_
      simp only [aj_up_app, ne_1, ne_2, ne_3, Int.reduceEq, ↓reduceIte]
      rw [hp.2.1.2.2.2.2.2.1]
      refine aj_iload_n 3 90 (dx d_Search_reach 52 rfl) rfl rfl rfl ?_
      refine aj_iald 91 (dx d_Search_reach 53 rfl) rfl hp.2.2.2.2.2.2.2.1 rfl (by omega) (by omega) ?_
      simp only [aj_up_app, ne_1, ne_2, ne_3, Int.reduceEq, ↓reduceIte]
      refine aj_iconst 92 (dx d_Search_reach 54 rfl) rfl ?_
      refine aj_iadd 93 (dx d_Search_reach 55 rfl) rfl ?_
      refine aj_iast 94 (dx d_Search_reach 56 rfl) rfl hp.2.2.2.2.2.2.2.1 rfl (by omega) (by omega) ?_
      refine aj_aload_n 0 95 (dx d_Search_reach 57 rfl) rfl rfl rfl ?_
      refine aj_dup 96 (dx d_Search_reach 58 rfl) rfl rfl ?_
      refine aj_getf 99 fl_Search_38 (dx d_Search_reach 59 rfl) rfl hp.1 ?_
      simp only [aj_up_app, ne_1, ne_2, ne_3, Int.reduceEq, ↓reduceIte]
      refine aj_iconst 100 (dx d_Search_reach 60 rfl) rfl ?_
      refine aj_iadd 101 (dx d_Search_reach 61 rfl) rfl ?_
      refine aj_putf 104 (pl_Search_38 _) (dx d_Search_reach 62 rfl) rfl hp.1 (aj_fitI _) ?_
      refine aj_vret (dx d_Search_reach 63 rfl) rfl id ?_
      have hkk := hk0 h15
      unfold rc_g at hkk
      first
      | (rw [if_pos h78] at hkk; exact hkk)
      | (rw [if_neg h78] at hkk; exact hkk)
    · refine aj_iconst 82 (dx d_Search_reach 48 rfl) rfl ?_
      refine aj_goto 93 (dx d_Search_reach 49 rfl) rfl ?_
      refine aj_iast 94 (dx d_Search_reach 56 rfl) rfl hp.2.2.2.2.2.2.2.1 rfl (by omega) (by omega) ?_
      refine aj_aload_n 0 95 (dx d_Search_reach 57 rfl) rfl rfl rfl ?_
      refine aj_dup 96 (dx d_Search_reach 58 rfl) rfl rfl ?_
      refine aj_getf 99 fl_Search_38 (dx d_Search_reach 59 rfl) rfl hp.1 ?_
      simp only [aj_up_app, ne_1, ne_2, ne_3, Int.reduceEq, ↓reduceIte]
      refine aj_iconst 100 (dx d_Search_reach 60 rfl) rfl ?_
      refine aj_iadd 101 (dx d_Search_reach 61 rfl) rfl ?_
      refine aj_putf 104 (pl_Search_38 _) (dx d_Search_reach 62 rfl) rfl hp.1 (aj_fitI _) ?_
      refine aj_vret (dx d_Search_reach 63 rfl) rfl id ?_
      have hkk := hk0 h15
      unfold rc_g at hkk
      first
      | (rw [if_pos h78] at hkk; exact hkk)
      | (rw [if_neg h78] at hkk; exact hkk)
  · refine aj_vret (dx d_Search_reach 11 rfl) rfl id ?_
    exact hk1 h15
