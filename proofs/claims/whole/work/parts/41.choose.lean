/-! Family.choose -/
def fc_F (g g1 : aj_G) : Prop := (∀ r', r' < 13 ∨ (13 < r' ∧ r' < 25) ∨ (40 < r' ∧ r' < 44) ∨ 52 < r' → g1 r' = g r') ∧ (∀ j, j ≠ 3 → g1 13 j = g 13 j) ∧ (∀ w : Nat, w < 8 → g1 (25 + 2 * (w : Int)) 0 = g (25 + 2 * (w : Int)) 0) ∧ (∀ j, j ≠ 7 → g1 44 j = g 44 j) ∧ ∀ j, j ≠ 1 → g1 45 j = g 45 j
theorem fc_F_0 (g : aj_G) : fc_F g g := ⟨fun _ _ => rfl, fun _ _ => rfl, fun _ _ => rfl, fun _ _ => rfl, fun _ _ => rfl⟩
theorem fc_F_fd {g g1 g2 : aj_G} (h : fc_F g g1) (h2 : fd_F g1 g2 44) : fc_F g g2 := ⟨fun r' z => by rw [h2.1 r' (by omega)]; exact h.1 r' z, fun j z => by rw [h2.1 13 (by omega)]; exact h.2.1 j z, fun w hw => by rw [h2.1 _ (by omega)]; exact h.2.2.1 w hw, fun j z => by rw [h2.2.1 j z]; exact h.2.2.2.1 j z, fun j z => by
  have := h2.2.2 j z
  rw [show (44 : Int) + 1 = 45 from rfl] at this
  rw [this]; exact h.2.2.2.2 j z⟩
theorem fam_fd {g1 g2 : aj_G} {k c : Nat} {F : Nat → List Nat} (h : fam g1 k c F) (h2 : fd_F g1 g2 44) : fam g2 k c F := fam_of h (by rw [h2.1 13 (by omega)]) (fun w hw => ⟨h2.1 _ (by omega), h2.1 _ (by omega)⟩)
/-- the memory behind words[size].copy(search.found); size++ -/
def fc_g (g : aj_G) (c : Nat) : aj_G := aj_up (aj_cpy (aj_up g (25 + 2 * (c : Int)) 1 (g 45 1)) (45 + 1) (25 + 2 * (c : Int) + 1) 0 0 (g 45 1)) 13 3 ((c : Int) + 1)
theorem fc_new {g g2 : aj_G} {k c : Nat} {F : Nat → List Nat} {w : List Nat} (h : fc_F g g2) (hF : fam g2 k c F) (hc : c < 8) (hw : wat g2 45 w) (hok : wd_ok k w) (hl : w.length ≤ 100) : fc_F g (fc_g g2 c) ∧ fam (fc_g g2 c) k (c + 1) (fm_up F c w) := by
  have far : ∀ r', r' ≠ 13 → r' ≠ 25 + 2 * (c : Int) → r' ≠ 25 + 2 * (c : Int) + 1 → fc_g g2 c r' = g2 r' := fun r' c1 c2 c3 => by
    unfold fc_g
    rw [aj_up_ne _ _ _ c1, aj_cpy_ne _ _ _ _ _ c3, aj_up_ne _ _ _ c2]
  have r13 : ∀ j, fc_g g2 c 13 j = if j = 3 then (c : Int) + 1 else g2 13 j := fun j => by
    unfold fc_g
    rw [aj_up_at]
    by_cases e : j = 3
    · rw [if_pos ⟨rfl, e⟩, if_pos e]
    · rw [if_neg (fun z => e z.2), if_neg e, aj_cpy_ne _ _ _ _ _ (by omega), aj_up_ne _ _ _ (by omega)]
  have rw0 : ∀ j, fc_g g2 c (25 + 2 * (c : Int)) j = if j = 1 then g2 45 1 else g2 (25 + 2 * (c : Int)) j := fun j => by
    unfold fc_g
    rw [aj_up_ne _ _ _ (by omega), aj_cpy_ne _ _ _ _ _ (by omega), aj_up_at]
    by_cases e : j = 1
    · rw [if_pos ⟨rfl, e⟩, if_pos e]
    · rw [if_neg (fun z => e z.2), if_neg e]
  have rw1 : ∀ j, 0 ≤ j → j < g2 45 1 → fc_g g2 c (25 + 2 * (c : Int) + 1) j = g2 46 j := fun j h0 h1 => by
    unfold fc_g
    rw [aj_up_ne _ _ _ (by omega), aj_cpy_at, if_pos ⟨h0, by omega⟩, aj_up_ne _ _ _ (by omega)]
    rw [show (0 : Int) + (j - 0) = j by omega]
    rfl
  refine ⟨⟨fun r' z => by rw [far r' (by omega) (by omega) (by omega)]; exact h.1 r' z, fun j z => by rw [r13, if_neg z]; exact h.2.1 j z, fun w2 hw2 => ?_, fun j z => by rw [far 44 (by omega) (by omega) (by omega)]; exact h.2.2.2.1 j z, fun j z => by rw [far 45 (by omega) (by omega) (by omega)]; exact h.2.2.2.2 j z⟩, by rw [r13, if_pos rfl]; push_cast; rfl, by omega, fun w2 hw2 => ?_⟩
  · by_cases e : w2 = c
    · subst e
      rw [rw0, if_neg (by omega)]
      exact h.2.2.1 w2 hw2
    · rw [far _ (by omega) (by omega) (by omega)]
      exact h.2.2.1 w2 hw2
  · by_cases e : w2 = c
    · subst e
      rw [fm_up_self]
      refine ⟨⟨by rw [rw0, if_pos rfl]; exact hw.1, fun j hj => ?_⟩, hok, hl⟩
      rw [rw1 _ (by omega) (by rw [hw.1]; omega)]
      exact hw.2 j hj
    · rw [fm_up_ne _ _ e]
      obtain ⟨a, b⟩ := hF.2.2 w2 (by omega)
      refine ⟨?_, b⟩
      unfold wat at a ⊢
      rw [far (25 + 2 * (w2 : Int)) (by omega) (by omega) (by omega), far (25 + 2 * (w2 : Int) + 1) (by omega) (by omega) (by omega)]
      exact a
set_option maxHeartbeats 4000000 in
theorem k_choose_in {al : Prop} {X : Option (Nat × (Int → Int))} {d : Nat} {sh : List aj_S} {g : aj_G} {Q : aj_R → List aj_S → aj_G → Prop} {L k n : Nat} {nx ou : Nat → Nat → Nat} (hal : ¬ al) (hf : fms sh g) (hm : mcm sh g 10 L k n nx ou) (hn8 : n ≤ 8) (hn0 : 0 < n) (hp : pss sh g 44) (hdist : ∀ a b, a < n → b < n → a ≠ b → ¬ wd_none k nx ou a nx ou b) {i : Nat} (hi : i < n)
    (K : ∀ g1, fc_F g g1 → fam g1 k (fm_in (tl nx ou) (lwd k nx ou) i (n - 1 - i) (fm_out (tl nx ou) (lwd k nx ou) n i)).1 (fm_in (tl nx ou) (lwd k nx ou) i (n - 1 - i) (fm_out (tl nx ou) (lwd k nx ou) n i)).2 → fm_I k n nx ou (fm_in (tl nx ou) (lwd k nx ou) i (n - 1 - i) (fm_out (tl nx ou) (lwd k nx ou) n i)) (i + 1) (i + 2) → aj_wp nE al al X m_Family_choose (d + 4) 0 0 2 [some (1, 13), some (1, 10), some (1, 44), some (0, (i : Int) + 1), none] [] sh g1 Q) :
    ∀ (m j : Nat) (g1 : aj_G), i + 1 ≤ j → j ≤ n → n - j = m → fc_F g g1 → fam g1 k (fm_in (tl nx ou) (lwd k nx ou) i (j - (i + 1)) (fm_out (tl nx ou) (lwd k nx ou) n i)).1 (fm_in (tl nx ou) (lwd k nx ou) i (j - (i + 1)) (fm_out (tl nx ou) (lwd k nx ou) n i)).2 → fm_I k n nx ou (fm_in (tl nx ou) (lwd k nx ou) i (j - (i + 1)) (fm_out (tl nx ou) (lwd k nx ou) n i)) i j →
    aj_wp nE al al X m_Family_choose (d + 4) 0 0 15 [some (1, 13), some (1, 10), some (1, 44), some (0, (i : Int)), some (0, (j : Int))] [] sh g1 Q := by
  intro m
  induction m using Nat.strongRecOn with
  | ind m ih =>
    intro j g1 hj0 hj1 hmm hC hF hI
    have hf1 := fms_of hf hC.2.1 (hC.1 14 (by omega)) (hC.1 15 (by omega)) hC.2.2.1
    have hm1 := mcm_of hm (hC.1 10 (by omega)) (hC.1 _ (by omega)) (hC.1 _ (by omega))
    have hp1 := pss_of hp hC.2.2.2.1 (hC.2.2.2.2 0 (by omega))
    have hk3 := hm.2.2.2.2.1
    refine aj_iload 4 17 (dx d_Family_choose 10 rfl) rfl rfl ?_
    refine aj_aload_n 1 18 (dx d_Family_choose 11 rfl) rfl rfl rfl ?_
    refine aj_getf 21 fl_Family_31 (dx d_Family_choose 12 rfl) rfl hm1.1.1 ?_
    refine aj_icmp_ge 80 24 (dx d_Family_choose 13 rfl) rfl rfl (by unfold aj_I; omega) (by rw [hm1.2.2.1]; unfold aj_I; omega) (fun h21 => ?_) (fun h21 => ?_)
    · rw [hm1.2.2.1] at h21
      have hj : j = n := by omega
      refine aj_iinc 3 83 (dx d_Family_choose 44 rfl) rfl rfl rfl ?_
      simp only [List.set]
      refine aj_goto 2 (dx d_Family_choose 45 rfl) rfl ?_
      refine aj_forget 4 ?_
      simp only [List.set]
      rw [hj] at hF hI
      exact K g1 hC (by rw [show n - 1 - i = n - (i + 1) by omega]; exact hF) (by rw [show n - 1 - i = n - (i + 1) by omega]; exact fm_I_row hI)
    · rw [hm1.2.2.1] at h21
      have hj : j < n := by omega
      have hqn := fm_I_le hn0 hI
      have hidx : j + 1 - (i + 1) = j - (i + 1) + 1 := by omega
      have hjj : i + 1 + (j - (i + 1)) = j := by omega
      have hq2 : fm_in (tl nx ou) (lwd k nx ou) i (j + 1 - (i + 1)) (fm_out (tl nx ou) (lwd k nx ou) n i) = fm_st (tl nx ou) (lwd k nx ou) i j (fm_in (tl nx ou) (lwd k nx ou) i (j - (i + 1)) (fm_out (tl nx ou) (lwd k nx ou) n i)) := by
        rw [hidx]
        show fm_st (tl nx ou) (lwd k nx ou) i (i + 1 + (j - (i + 1))) _ = _
        rw [hjj]
      refine aj_aload_n 0 25 (dx d_Family_choose 14 rfl) rfl rfl rfl ?_
      refine aj_aload_n 1 26 (dx d_Family_choose 15 rfl) rfl rfl rfl ?_
      refine aj_iload_n 3 27 (dx d_Family_choose 16 rfl) rfl rfl rfl ?_
      refine aj_iload 4 29 (dx d_Family_choose 17 rfl) rfl rfl ?_
      refine aj_callV3 32 cl_Family_36 (dx d_Family_choose 18 rfl) rfl rfl rfl rfl rfl rfl hf1.1 (k_firstWord hf1 hm1 hF (show i < n by omega) hj (fun w hw1 hw2 hw3 => ?_) (fun hnone => ?_))
      · change aj_wp _ _ _ _ _ _ _ _ _ _ _ _ _ _
        refine aj_iconst 33 (dx d_Family_choose 19 rfl) rfl ?_
        refine aj_icmp_ne 74 36 (dx d_Family_choose 20 rfl) rfl rfl (by unfold aj_I; omega) (by unfold aj_I; omega) (fun h33 => ?_) (fun h33 => ?_)
        · refine aj_iinc 4 77 (dx d_Family_choose 42 rfl) rfl rfl rfl ?_
          simp only [List.set]
          refine aj_goto 15 (dx d_Family_choose 43 rfl) rfl ?_
          obtain ⟨e1, e2⟩ := fm_I_old (lw := lwd k nx ou) hI hw1 hw2
          rw [e1] at hq2
          have hih := ih _ (by omega) (j + 1) g1 (by omega) (by omega) rfl hC (by rw [hq2]; exact hF) (by rw [hq2]; exact e2)
          rw [show ((j : Nat) : Int) + 1 = ((j + 1 : Nat) : Int) by omega]
          exact hih
        · exact absurd h33 (by omega)
      · change aj_wp _ _ _ _ _ _ _ _ _ _ _ _ _ _
        refine aj_iconst 33 (dx d_Family_choose 19 rfl) rfl ?_
        refine aj_icmp_ne 74 36 (dx d_Family_choose 20 rfl) rfl rfl (by unfold aj_I; omega) (by unfold aj_I; omega) (fun h33 => ?_) (fun h33 => ?_)
        · exact absurd rfl h33
        · refine aj_aload_n 2 37 (dx d_Family_choose 21 rfl) rfl rfl rfl ?_
          refine aj_aload_n 1 38 (dx d_Family_choose 22 rfl) rfl rfl rfl ?_
          refine aj_iload_n 3 39 (dx d_Family_choose 23 rfl) rfl rfl rfl ?_
          refine aj_aload_n 1 40 (dx d_Family_choose 24 rfl) rfl rfl rfl ?_
          refine aj_iload 4 42 (dx d_Family_choose 25 rfl) rfl rfl ?_
          refine aj_callV4 45 cl_Family_40 (dx d_Family_choose 26 rfl) rfl rfl rfl rfl rfl rfl hp1.1 (k_Search_find hp1 hm1 hm1 (by omega) (by omega) (show i < n by omega) hj (fun g2 w hfd hw hwl hwat => ?_) (fun g2 hfd hw _ => ?_))
          · have hC2 := fc_F_fd hC hfd
            have hF2 := fam_fd hF hfd
            have hf2 := fms_of hf hC2.2.1 (hC2.1 14 (by omega)) (hC2.1 15 (by omega)) hC2.2.2.1
            have hp2 := pss_of hp hC2.2.2.2.1 (hC2.2.2.2.2 0 (by omega))
            have hc8 : (fm_in (tl nx ou) (lwd k nx ou) i (j - (i + 1)) (fm_out (tl nx ou) (lwd k nx ou) n i)).1 < 8 := by omega
            have hw2 := (hf2.2.2.2.2.2 _ hc8).2.1
            have hlw := lwd_eq (by omega) hw
            have hwat : wat g2 45 w := hwat
            change aj_wp _ _ _ _ _ _ _ _ _ _ _ _ _ _
            refine aj_if_eq 74 48 (dx d_Family_choose 27 rfl) rfl rfl (by unfold aj_I; omega) (fun h45 => ?_) (fun h45 => ?_)
            · exact absurd h45 (by omega)
            · refine aj_aload_n 0 49 (dx d_Family_choose 28 rfl) rfl rfl rfl ?_
              refine aj_getf 52 fl_Family_11 (dx d_Family_choose 29 rfl) rfl hf2.1 ?_
              rw [hf2.2.1.1]
              refine aj_aload_n 0 53 (dx d_Family_choose 30 rfl) rfl rfl rfl ?_
              refine aj_getf 56 fl_Family_26 (dx d_Family_choose 31 rfl) rfl hf2.1 ?_
              refine aj_aald 57 (dx d_Family_choose 32 rfl) rfl hf2.2.2.1 rfl rfl (by rw [hF2.1]; omega) (by rw [hF2.1]; omega) ?_
              rw [hF2.1, (hf2.2.2.2.2.2 _ hc8).1]
              refine aj_aload_n 2 58 (dx d_Family_choose 33 rfl) rfl rfl rfl ?_
              refine aj_getf 61 fl_Family_46 (dx d_Family_choose 34 rfl) rfl hp2.1 ?_
              rw [show g2 44 0 = 45 from hp2.2.1.1]
              refine aj_callV1 64 cl_Family_50 (dx d_Family_choose 35 rfl) rfl rfl rfl rfl rfl rfl hw2.1 (k_Word_copy hal hw2 ⟨hp2.2.2.1.1, hp2.2.2.1.2.1, hp2.2.2.1.2.2⟩ (by omega) (by rw [hwat.1]; omega) (by rw [hwat.1]; omega) ?_)
              change aj_wp _ _ _ _ _ _ _ _ _ _ _ _ _ _
              refine aj_aload_n 0 65 (dx d_Family_choose 36 rfl) rfl rfl rfl ?_
              refine aj_dup 66 (dx d_Family_choose 37 rfl) rfl rfl ?_
              refine aj_getf 69 fl_Family_26 (dx d_Family_choose 38 rfl) rfl hf2.1 ?_
              rw [aj_cpy_ne _ _ _ _ _ (by omega), aj_up_ne _ _ _ (by omega), hF2.1]
              refine aj_iconst 70 (dx d_Family_choose 39 rfl) rfl ?_
              refine aj_iadd 71 (dx d_Family_choose 40 rfl) rfl ?_
              refine aj_putf 74 (pl_Family_26 _) (dx d_Family_choose 41 rfl) rfl hf2.1 (aj_fitI _) ?_
              refine aj_iinc 4 77 (dx d_Family_choose 42 rfl) rfl rfl rfl ?_
              simp only [List.set]
              refine aj_goto 15 (dx d_Family_choose 43 rfl) rfl ?_
              obtain ⟨e1, e2⟩ := fm_I_new (lw := lwd k nx ou) hI (by omega) hj hnone (by rw [hlw]; exact hw) (by rw [hlw]; exact hwl)
              rw [e1, hlw] at hq2
              rw [hlw] at e2
              obtain ⟨hC3, hF3⟩ := fc_new hC2 hF2 hc8 hwat hw.1 hwl
              have hih := ih _ (by omega) (j + 1) _ (by omega) (by omega) rfl hC3 (by rw [hq2]; exact hF3) (by rw [hq2]; exact e2)
              rw [show ((j : Nat) : Int) + 1 = ((j + 1 : Nat) : Int) by omega]
              exact hih
          · exact absurd hw (hdist i j (by omega) hj (by omega))
def ch_F (g g1 : aj_G) : Prop := (∀ r', r' < 13 ∨ r' = 14 ∨ r' = 15 ∨ (40 < r' ∧ r' < 44) ∨ 52 < r' → g1 r' = g r') ∧ (∀ j, j ≠ 3 → g1 13 j = g 13 j) ∧ (∀ w : Nat, w < 8 → g1 (25 + 2 * (w : Int)) 0 = g (25 + 2 * (w : Int)) 0) ∧ (∀ j, j ≠ 7 → g1 44 j = g 44 j) ∧ ∀ j, j ≠ 1 → g1 45 j = g 45 j
set_option maxHeartbeats 4000000 in
theorem k_choose_2 {al : Prop} {X : Option (Nat × (Int → Int))} {d : Nat} {sh : List aj_S} {g : aj_G} {Q : aj_R → List aj_S → aj_G → Prop} {L k n : Nat} {nx ou : Nat → Nat → Nat} (hal : ¬ al) (hf : fms sh g) (hm : mcm sh g 10 L k n nx ou) (hn8 : n ≤ 8) (hn0 : 0 < n) (hp : pss sh g 44) (hdist : ∀ a b, a < n → b < n → a ≠ b → ¬ wd_none k nx ou a nx ou b) (hk : ∀ g1, ch_F g g1 → fam g1 k (fm_out (tl nx ou) (lwd k nx ou) n n).1 (fm_out (tl nx ou) (lwd k nx ou) n n).2 → (∀ a, a < n → oat g1 a (ow (tl nx ou) (fm_out (tl nx ou) (lwd k nx ou) n n).2 (fm_out (tl nx ou) (lwd k nx ou) n n).1 a n)) → Q (.inl none) sh g1) {gb : aj_G} (hC : fc_F g gb) (hF : fam gb k (fm_out (tl nx ou) (lwd k nx ou) n n).1 (fm_out (tl nx ou) (lwd k nx ou) n n).2) (hcov : ∀ a b, a < n → b < n → a ≠ b → ∃ w, w < (fm_out (tl nx ou) (lwd k nx ou) n n).1 ∧ tl nx ou a b ((fm_out (tl nx ou) (lwd k nx ou) n n).2 w)) :
    ∀ (m i : Nat) (g1 : aj_G), i ≤ n → n - i = m → (∀ r', r' ≠ 24 → (r' < 16 ∨ 23 < r') → g1 r' = gb r') → (∀ a, a < i → oat g1 a (ow (tl nx ou) (fm_out (tl nx ou) (lwd k nx ou) n n).2 (fm_out (tl nx ou) (lwd k nx ou) n n).1 a n)) → (∀ a : Nat, i ≤ a → a < 8 → g1 24 a = 0) →
    aj_wp nE al al X m_Family_choose (d + 4) 0 0 88 [some (1, 13), some (1, 10), some (1, 44), some (0, (i : Int)), none] [] sh g1 Q := by
  intro m
  induction m using Nat.strongRecOn with
  | ind m ih =>
    intro i g1 hi0 hmm hE hd hz
    have hf1 := fms_of (g1 := g1) hf (fun j z => by rw [hE 13 (by omega) (by omega)]; exact hC.2.1 j z) (by rw [hE 14 (by omega) (by omega)]; exact hC.1 14 (by omega)) (by rw [hE 15 (by omega) (by omega)]; exact hC.1 15 (by omega)) (fun w hw => by rw [hE _ (by omega) (by omega)]; exact hC.2.2.1 w hw)
    have hm1 := mcm_of (g1 := g1) hm (by rw [hE 10 (by omega) (by omega)]; exact hC.1 10 (by omega)) (by rw [hE _ (by omega) (by omega)]; exact hC.1 _ (by omega)) (by rw [hE _ (by omega) (by omega)]; exact hC.1 _ (by omega))
    have hF1 := fam_of (g1 := g1) hF (by rw [hE 13 (by omega) (by omega)]) (fun w hw => ⟨hE _ (by omega) (by omega), hE _ (by omega) (by omega)⟩)
    refine aj_iload_n 3 89 (dx d_Family_choose 48 rfl) rfl rfl rfl ?_
    refine aj_aload_n 1 90 (dx d_Family_choose 49 rfl) rfl rfl rfl ?_
    refine aj_getf 93 fl_Family_31 (dx d_Family_choose 50 rfl) rfl hm1.1.1 ?_
    refine aj_icmp_ge 108 96 (dx d_Family_choose 51 rfl) rfl rfl (by unfold aj_I; omega) (by rw [hm1.2.2.1]; unfold aj_I; omega) (fun h93 => ?_) (fun h93 => ?_)
    · rw [hm1.2.2.1] at h93
      refine aj_vret (dx d_Family_choose 58 rfl) rfl id ?_
      exact hk g1 ⟨fun r' z => by rw [hE r' (by omega) (by omega)]; exact hC.1 r' (by omega), fun j z => by rw [hE 13 (by omega) (by omega)]; exact hC.2.1 j z, fun w hw => by rw [hE _ (by omega) (by omega)]; exact hC.2.2.1 w hw, fun j z => by rw [hE 44 (by omega) (by omega)]; exact hC.2.2.2.1 j z, fun j z => by rw [hE 45 (by omega) (by omega)]; exact hC.2.2.2.2 j z⟩ hF1 (fun a ha => hd a (by omega))
    · rw [hm1.2.2.1] at h93
      have hi : i < n := by omega
      refine aj_aload_n 0 97 (dx d_Family_choose 52 rfl) rfl rfl rfl ?_
      refine aj_aload_n 1 98 (dx d_Family_choose 53 rfl) rfl rfl rfl ?_
      refine aj_iload_n 3 99 (dx d_Family_choose 54 rfl) rfl rfl rfl ?_
      refine aj_callV2 102 cl_Family_54 (dx d_Family_choose 55 rfl) rfl rfl rfl rfl rfl rfl hf1.1 (k_chooseOwn hf1 hm1 hn8 hF1 hi hcov (fun g2 hco ho => ?_) (hz i (Nat.le_refl _) (by omega)))
      change aj_wp _ _ _ _ _ _ _ _ _ _ _ _ _ _
      refine aj_iinc 3 105 (dx d_Family_choose 56 rfl) rfl rfl rfl ?_
      simp only [List.set]
      refine aj_goto 88 (dx d_Family_choose 57 rfl) rfl ?_
      have hih := ih _ (by omega) (i + 1) g2 (by omega) rfl (fun r' c1 c2 => by rw [hco.1 r' c1 (by omega)]; exact hE r' c1 c2) (fun a ha => by
        by_cases e : a = i
        · subst e; exact ho
        · have := hd a (by omega)
          unfold oat at this ⊢
          rw [hco.2 a (by omega), hco.1 (16 + (a : Int)) (by omega) (by omega)]
          exact this) (fun a h1 h2 => by rw [hco.2 a (by omega)]; exact hz a (by omega) h2)
      rw [show ((i : Nat) : Int) + 1 = ((i + 1 : Nat) : Int) by omega]
      exact hih
set_option maxHeartbeats 4000000 in
theorem k_choose_1 {al : Prop} {X : Option (Nat × (Int → Int))} {d : Nat} {sh : List aj_S} {g : aj_G} {Q : aj_R → List aj_S → aj_G → Prop} {L k n : Nat} {nx ou : Nat → Nat → Nat} (hal : ¬ al) (hf : fms sh g) (hm : mcm sh g 10 L k n nx ou) (hn8 : n ≤ 8) (hn0 : 0 < n) (hp : pss sh g 44) (hdist : ∀ a b, a < n → b < n → a ≠ b → ¬ wd_none k nx ou a nx ou b) (hk : ∀ g1, ch_F g g1 → fam g1 k (fm_out (tl nx ou) (lwd k nx ou) n n).1 (fm_out (tl nx ou) (lwd k nx ou) n n).2 → (∀ a, a < n → oat g1 a (ow (tl nx ou) (fm_out (tl nx ou) (lwd k nx ou) n n).2 (fm_out (tl nx ou) (lwd k nx ou) n n).1 a n)) → Q (.inl none) sh g1) (hz : ∀ a : Nat, a < 8 → g 24 a = 0) :
    ∀ (m i : Nat) (g1 : aj_G), i ≤ n → n - i = m → fc_F g g1 → fam g1 k (fm_out (tl nx ou) (lwd k nx ou) n i).1 (fm_out (tl nx ou) (lwd k nx ou) n i).2 → fm_I k n nx ou (fm_out (tl nx ou) (lwd k nx ou) n i) i (i + 1) →
    aj_wp nE al al X m_Family_choose (d + 4) 0 0 2 [some (1, 13), some (1, 10), some (1, 44), some (0, (i : Int)), none] [] sh g1 Q := by
  intro m
  induction m using Nat.strongRecOn with
  | ind m ih =>
    intro i g1 hi0 hmm hC hF hI
    have hf1 := fms_of hf hC.2.1 (hC.1 14 (by omega)) (hC.1 15 (by omega)) hC.2.2.1
    have hm1 := mcm_of hm (hC.1 10 (by omega)) (hC.1 _ (by omega)) (hC.1 _ (by omega))
    have hp1 := pss_of hp hC.2.2.2.1 (hC.2.2.2.2 0 (by omega))
    have hk3 := hm.2.2.2.2.1
    refine aj_iload_n 3 3 (dx d_Family_choose 2 rfl) rfl rfl rfl ?_
    refine aj_aload_n 1 4 (dx d_Family_choose 3 rfl) rfl rfl rfl ?_
    refine aj_getf 7 fl_Family_31 (dx d_Family_choose 4 rfl) rfl hm1.1.1 ?_
    refine aj_icmp_ge 86 10 (dx d_Family_choose 5 rfl) rfl rfl (by unfold aj_I; omega) (by rw [hm1.2.2.1]; unfold aj_I; omega) (fun h7 => ?_) (fun h7 => ?_)
    · rw [hm1.2.2.1] at h7
      have hi : i = n := by omega
      subst hi
      refine aj_iconst 87 (dx d_Family_choose 46 rfl) rfl ?_
      refine aj_istore_n 3 88 (dx d_Family_choose 47 rfl) rfl rfl rfl ?_
      simp only [List.set]
      refine k_choose_2 hal hf hm hn8 hn0 hp hdist hk hC hF (fun a b h1 h2 h3 => ?_) _ 0 g1 (Nat.zero_le _) rfl (fun _ _ _ => rfl) (fun a ha => absurd ha (Nat.not_lt_zero _)) (fun a h1 h2 => by rw [hC.1 24 (by omega)]; exact hz a h2)
      rcases Nat.lt_or_ge a b with z | z
      · exact hI.2 a b z h2 (by omega)
      · obtain ⟨w, w1, w2⟩ := hI.2 b a (by omega) h1 (by omega)
        exact ⟨w, w1, tl_symm w2⟩
    · rw [hm1.2.2.1] at h7
      have hi : i < n := by omega
      refine aj_iload_n 3 11 (dx d_Family_choose 6 rfl) rfl rfl rfl ?_
      refine aj_iconst 12 (dx d_Family_choose 7 rfl) rfl ?_
      refine aj_iadd 13 (dx d_Family_choose 8 rfl) rfl ?_
      refine aj_istore 4 15 (dx d_Family_choose 9 rfl) rfl rfl ?_
      simp only [List.set]
      rw [show ((i : Nat) : Int) + 1 = ((i + 1 : Nat) : Int) by omega]
      refine k_choose_in hal hf hm hn8 hn0 hp hdist hi (fun g2 hC2 hF2 hI2 => ?_) _ (i + 1) g1 (Nat.le_refl _) (by omega) rfl hC (by rw [Nat.sub_self]; exact hF) (by rw [Nat.sub_self]; exact hI)
      have := ih _ (by omega) (i + 1) g2 (by omega) rfl hC2 hF2 hI2
      rw [show ((i : Nat) : Int) + 1 = ((i + 1 : Nat) : Int) by omega]
      exact this
set_option maxHeartbeats 4000000 in
theorem k_Family_choose {al : Prop} {X : Option (Nat × (Int → Int))} {d : Nat} {sh : List aj_S} {g : aj_G} {Q : aj_R → List aj_S → aj_G → Prop} {L k n : Nat} {nx ou : Nat → Nat → Nat} (hal : ¬ al) (hf : fms sh g) (hm : mcm sh g 10 L k n nx ou) (hn8 : n ≤ 8) (hn0 : 0 < n) (hp : pss sh g 44) (hdist : ∀ a b, a < n → b < n → a ≠ b → ¬ wd_none k nx ou a nx ou b) (hk : ∀ g1, ch_F g g1 → fam g1 k (fm_out (tl nx ou) (lwd k nx ou) n n).1 (fm_out (tl nx ou) (lwd k nx ou) n n).2 → (∀ a, a < n → oat g1 a (ow (tl nx ou) (fm_out (tl nx ou) (lwd k nx ou) n n).2 (fm_out (tl nx ou) (lwd k nx ou) n n).1 a n)) → Q (.inl none) sh g1) (hz : ∀ a : Nat, a < 8 → g 24 a = 0) (h133 : g 13 3 = 0) : aj_wp nE al al X m_Family_choose (d + 4) 0 0 0 [some (1, 13), some (1, 10), some (1, 44), none, none] [] sh g Q := by
  refine aj_iconst 1 (dx d_Family_choose 0 rfl) rfl ?_
  refine aj_istore_n 3 2 (dx d_Family_choose 1 rfl) rfl rfl rfl ?_
  simp only [List.set]
  exact k_choose_1 hal hf hm hn8 hn0 hp hdist hk hz _ 0 g (Nat.zero_le _) rfl (fc_F_0 g) ⟨h133, Nat.zero_le _, fun w hw => absurd hw (Nat.not_lt_zero _)⟩ ⟨fun w hw => absurd hw (Nat.not_lt_zero _), fun a b h1 h2 h3 => by omega⟩
