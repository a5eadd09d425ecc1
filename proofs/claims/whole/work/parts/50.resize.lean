/-! Model: resize, least, same -/
def rz_n (b m : Nat) (ix : Nat → Nat → Nat) (s i : Nat) : Nat := if b ≤ s then s else if m ≤ ix s i then 0 else ix s i
def rz_o (b : Nat) (io : Nat → Nat → Nat) (s i : Nat) : Nat := if b ≤ s then 0 else io s i
def rz_I (g g1 : aj_G) (k b m : Nat) (ix io : Nat → Nat → Nat) (s i : Nat) : Prop := (∀ r, r ≠ 88 → r ≠ 89 → g1 r = g r) ∧ ∀ x j : Nat, x < m → j < k → (((x < s ∨ (x = s ∧ j < i)) → g1 88 (3 * (x : Int) + j) = rz_n b m ix x j ∧ g1 89 (3 * (x : Int) + j) = rz_o b io x j) ∧ (¬ (x < s ∨ (x = s ∧ j < i)) → x < b → g1 88 (3 * (x : Int) + j) = ix x j ∧ g1 89 (3 * (x : Int) + j) = io x j))
theorem rz_up {g g1 : aj_G} {k b m : Nat} {ix io : Nat → Nat → Nat} {s i : Nat} (hk3 : k ≤ 3) (h : rz_I g g1 k b m ix io s i) (hs : s < m) (hi : i < k) : rz_I g (aj_up (aj_up g1 89 (3 * (s : Int) + i) (rz_o b io s i : Nat)) 88 (3 * (s : Int) + i) (rz_n b m ix s i : Nat)) k b m ix io s (i + 1) := by
  refine ⟨fun r a c => by rw [aj_up_ne _ _ _ a, aj_up_ne _ _ _ c]; exact h.1 r a c, fun x j hx hj => ?_⟩
  obtain ⟨h1, h2⟩ := h.2 x j hx hj
  by_cases e : x = s ∧ j = i
  · obtain ⟨rfl, rfl⟩ := e
    exact ⟨fun _ => ⟨by rw [aj_up_self], by rw [aj_up_ne _ _ _ (by omega), aj_up_self]⟩, fun z => absurd (Or.inr ⟨rfl, by omega⟩) z⟩
  · rw [aj_up_ni _ _ _ (by omega), aj_up_ne _ _ _ (by omega), aj_up_ne _ _ _ (by omega), aj_up_ni _ _ _ (by omega)]
    exact ⟨fun z => h1 (by omega), fun z => h2 (by omega)⟩
theorem rz_row {g g1 : aj_G} {k b m : Nat} {ix io : Nat → Nat → Nat} {s : Nat} (h : rz_I g g1 k b m ix io s k) : rz_I g g1 k b m ix io (s + 1) 0 := by
  refine ⟨h.1, fun x j hx hj => ?_⟩
  obtain ⟨h1, h2⟩ := h.2 x j hx hj
  exact ⟨fun z => h1 (by omega), fun z => h2 (by omega)⟩
set_option maxHeartbeats 4000000 in
theorem k_rz_i {al : Prop} {X : Option (Nat × (Int → Int))} {d : Nat} {sh : List aj_S} {g : aj_G} {Q : aj_R → List aj_S → aj_G → Prop} {k n : Nat} {nx ou : Nat → Nat → Nat} {b m s : Nat} {ix io : Nat → Nat → Nat} (hM : mmm sh g k n nx ou) (hI : mim g k b ix io) (hm1 : 1 ≤ m) (hm10 : m ≤ 10) (hs : s < m)
    (hgo : ∀ g1, rz_I g g1 k b m ix io s k → aj_wp nE al al X m_Model_resize d 0 0 136 [some (1, 78), some (0, (m : Int)), some (0, (s : Int)), none, none] [] sh g1 Q) :
    ∀ (y i : Nat) (g1 : aj_G), i ≤ k → k - i = y → rz_I g g1 k b m ix io s i → aj_wp nE al al X m_Model_resize d 0 0 48 [some (1, 78), some (0, (m : Int)), some (0, (s : Int)), some (0, (i : Int)), none] [] sh g1 Q := by
  have hk4 := hM.2.2.2.1
  have hb10 := hI.2.1
  intro y
  induction y using Nat.strongRecOn with
  | ind y ih =>
    intro i g1 hi hyy hR
    have hM1 : mmm sh g1 k n nx ou := mmm_of hM (fun j _ => by rw [hR.1 78 (by omega) (by omega)]) (hR.1 79 (by omega) (by omega)) (hR.1 80 (by omega) (by omega))
    have hb1 : g1 78 17 = (b : Nat) := by rw [hR.1 78 (by omega) (by omega)]; exact hI.1
    refine aj_iload_n 3 49 (dx d_Model_resize 27 rfl) rfl rfl rfl ?_
    refine aj_aload_n 0 50 (dx d_Model_resize 28 rfl) rfl rfl rfl ?_
    refine aj_getfv (v := (k : Int)) 53 fl_Model_89 (dx d_Model_resize 29 rfl) rfl hM1.1.1 hM1.2.2.1 ?_
    refine aj_icmp_ge 136 56 (dx d_Model_resize 30 rfl) rfl rfl (by unfold aj_I; omega) (by unfold aj_I; omega) (fun h53 => ?_) (fun h53 => ?_)
    · refine aj_forget 3 ?_
      simp only [List.set]
      have e : i = k := by omega
      subst e
      exact hgo g1 hR
    · have hik : i < k := by omega
      refine aj_iconst 57 (dx d_Model_resize 31 rfl) rfl ?_
      refine aj_iload_n 2 58 (dx d_Model_resize 32 rfl) rfl rfl rfl ?_
      refine aj_imul 59 (dx d_Model_resize 33 rfl) rfl ?_
      refine aj_iload_n 3 60 (dx d_Model_resize 34 rfl) rfl rfl rfl ?_
      refine aj_iadd 61 (dx d_Model_resize 35 rfl) rfl ?_
      refine aj_istore 4 63 (dx d_Model_resize 36 rfl) rfl rfl ?_
      simp only [List.set]
      refine aj_aload_n 0 64 (dx d_Model_resize 37 rfl) rfl rfl rfl ?_
      refine aj_getfv (v := 89) 67 fl_Model_45 (dx d_Model_resize 38 rfl) rfl hM1.1.1 (by first | exact mf_gives hM1.1 | (simp [aj_up_at]; exact mf_gives hM1.1) | exact mf_gives (by assumption)) ?_
      refine aj_iload 4 69 (dx d_Model_resize 39 rfl) rfl rfl ?_
      refine aj_iload_n 2 70 (dx d_Model_resize 40 rfl) rfl rfl rfl ?_
      refine aj_aload_n 0 71 (dx d_Model_resize 41 rfl) rfl rfl rfl ?_
      refine aj_getfv (v := (b : Int)) 74 fl_Model_157 (dx d_Model_resize 42 rfl) rfl hM1.1.1 (by first | exact hb1 | (simp [aj_up_at]; exact hb1)) ?_
      refine aj_icmp_ge 87 77 (dx d_Model_resize 43 rfl) rfl rfl (by unfold aj_I; omega) (by unfold aj_I; omega) (fun h74 => ?_) (fun h74 => ?_)
      · refine aj_iconst 88 (dx d_Model_resize 49 rfl) rfl ?_
        have hsb : b ≤ s := by omega
        have hO : rz_o b io s i = 0 := by unfold rz_o; rw [if_pos hsb]
        refine aj_iast 89 (dx d_Model_resize 50 rfl) rfl (ms_gives hM1.1) rfl (by omega) (by omega) ?_
        refine aj_aload_n 0 90 (dx d_Model_resize 51 rfl) rfl rfl rfl ?_
        refine aj_getfv (v := 88) 93 fl_Model_42 (dx d_Model_resize 52 rfl) rfl hM1.1.1 (by first | exact mf_goes hM1.1 | (simp [aj_up_at]; exact mf_goes hM1.1) | exact mf_goes (by assumption)) ?_
        refine aj_iload 4 95 (dx d_Model_resize 53 rfl) rfl rfl ?_
        refine aj_iload_n 2 96 (dx d_Model_resize 54 rfl) rfl rfl rfl ?_
        refine aj_aload_n 0 97 (dx d_Model_resize 55 rfl) rfl rfl rfl ?_
        refine aj_getfv (v := (b : Int)) 100 fl_Model_157 (dx d_Model_resize 56 rfl) rfl hM1.1.1 (by first | exact hb1 | (simp [aj_up_at]; exact hb1)) ?_
        refine aj_icmp_lt 107 103 (dx d_Model_resize 57 rfl) rfl rfl (by unfold aj_I; omega) (by unfold aj_I; omega) (fun h100 => ?_) (fun h100 => ?_)
        · exact absurd h100 (by omega)
        · refine aj_iload_n 2 104 (dx d_Model_resize 58 rfl) rfl rfl rfl ?_
          refine aj_goto 129 (dx d_Model_resize 59 rfl) rfl ?_
          have hN : rz_n b m ix s i = s := by unfold rz_n; rw [if_pos hsb]
          refine aj_iast 130 (dx d_Model_resize 72 rfl) rfl (ms_goes hM1.1) rfl (by omega) (by omega) ?_
          refine aj_iinc 3 133 (dx d_Model_resize 73 rfl) rfl rfl rfl ?_
          simp only [List.set]
          refine aj_goto 48 (dx d_Model_resize 74 rfl) rfl ?_
          refine aj_forget 4 ?_
          simp only [List.set]
          rw [show ((i : Nat) : Int) + 1 = ((i + 1 : Nat) : Int) by omega]
          have hup := rz_up (by omega) hR hs hik
          rw [hO, hN] at hup
          exact ih _ (by omega) (i + 1) _ (by omega) rfl hup
      · have v0 := ((hR.2 s i hs hik).2 (by omega) (by omega)).2
        refine aj_aload_n 0 78 (dx d_Model_resize 44 rfl) rfl rfl rfl ?_
        refine aj_getfv (v := 89) 81 fl_Model_45 (dx d_Model_resize 45 rfl) rfl hM1.1.1 (by first | exact mf_gives hM1.1 | (simp [aj_up_at]; exact mf_gives hM1.1) | exact mf_gives (by assumption)) ?_
        refine aj_iload 4 83 (dx d_Model_resize 46 rfl) rfl rfl ?_
        refine aj_iald 84 (dx d_Model_resize 47 rfl) rfl (ms_gives hM1.1) rfl (by omega) (by omega) ?_
        rw [v0]
        refine aj_goto 88 (dx d_Model_resize 48 rfl) rfl ?_
        have hsb : s < b := by omega
        obtain ⟨v1, v2⟩ := (hR.2 s i hs hik).2 (by omega) hsb
        obtain ⟨w1, w2, w3, w4⟩ := hI.2.2 s i hsb hik
        have hO : rz_o b io s i = io s i := by unfold rz_o; rw [if_neg (by omega)]
        refine aj_iast 89 (dx d_Model_resize 50 rfl) rfl (ms_gives hM1.1) rfl (by omega) (by omega) ?_
        refine aj_aload_n 0 90 (dx d_Model_resize 51 rfl) rfl rfl rfl ?_
        refine aj_getfv (v := 88) 93 fl_Model_42 (dx d_Model_resize 52 rfl) rfl hM1.1.1 (by first | exact mf_goes hM1.1 | (simp [aj_up_at]; exact mf_goes hM1.1) | exact mf_goes (by assumption)) ?_
        refine aj_iload 4 95 (dx d_Model_resize 53 rfl) rfl rfl ?_
        refine aj_iload_n 2 96 (dx d_Model_resize 54 rfl) rfl rfl rfl ?_
        refine aj_aload_n 0 97 (dx d_Model_resize 55 rfl) rfl rfl rfl ?_
        refine aj_getfv (v := (b : Int)) 100 fl_Model_157 (dx d_Model_resize 56 rfl) rfl hM1.1.1 (by first | exact hb1 | (simp [aj_up_at]; exact hb1)) ?_
        refine aj_icmp_lt 107 103 (dx d_Model_resize 57 rfl) rfl rfl (by unfold aj_I; omega) (by unfold aj_I; omega) (fun h100 => ?_) (fun h100 => ?_)
        · refine aj_aload_n 0 108 (dx d_Model_resize 60 rfl) rfl rfl rfl ?_
          refine aj_getfv (v := 88) 111 fl_Model_42 (dx d_Model_resize 61 rfl) rfl hM1.1.1 (by first | exact mf_goes hM1.1 | (simp [aj_up_at]; exact mf_goes hM1.1) | exact mf_goes (by assumption)) ?_
          refine aj_iload 4 113 (dx d_Model_resize 62 rfl) rfl rfl ?_
          refine aj_iald 114 (dx d_Model_resize 63 rfl) rfl (ms_goes hM1.1) rfl (by omega) (by omega) ?_
          rw [show aj_up g1 89 (3 * (s : Int) + (i : Int)) ((io s i : Int)) 88 (3 * (s : Int) + (i : Int)) = (ix s i : Nat) by rw [aj_up_ne _ _ _ (by omega)]; exact v1]
          refine aj_iload_n 1 115 (dx d_Model_resize 64 rfl) rfl rfl rfl ?_
          refine aj_icmp_lt 122 118 (dx d_Model_resize 65 rfl) rfl rfl (by unfold aj_I; omega) (by unfold aj_I; omega) (fun h115 => ?_) (fun h115 => ?_)
          · refine aj_aload_n 0 123 (dx d_Model_resize 68 rfl) rfl rfl rfl ?_
            refine aj_getfv (v := 88) 126 fl_Model_42 (dx d_Model_resize 69 rfl) rfl hM1.1.1 (by first | exact mf_goes hM1.1 | (simp [aj_up_at]; exact mf_goes hM1.1) | exact mf_goes (by assumption)) ?_
            refine aj_iload 4 128 (dx d_Model_resize 70 rfl) rfl rfl ?_
            refine aj_iald 129 (dx d_Model_resize 71 rfl) rfl (ms_goes hM1.1) rfl (by omega) (by omega) ?_
            rw [show aj_up g1 89 (3 * (s : Int) + (i : Int)) ((io s i : Int)) 88 (3 * (s : Int) + (i : Int)) = (ix s i : Nat) by rw [aj_up_ne _ _ _ (by omega)]; exact v1]
            have hN : rz_n b m ix s i = ix s i := by unfold rz_n; rw [if_neg (by omega), if_neg (by omega)]
            refine aj_iast 130 (dx d_Model_resize 72 rfl) rfl (ms_goes hM1.1) rfl (by omega) (by omega) ?_
            refine aj_iinc 3 133 (dx d_Model_resize 73 rfl) rfl rfl rfl ?_
            simp only [List.set]
            refine aj_goto 48 (dx d_Model_resize 74 rfl) rfl ?_
            refine aj_forget 4 ?_
            simp only [List.set]
            rw [show ((i : Nat) : Int) + 1 = ((i + 1 : Nat) : Int) by omega]
            have hup := rz_up (by omega) hR hs hik
            rw [hO, hN] at hup
            exact ih _ (by omega) (i + 1) _ (by omega) rfl hup
          · refine aj_iconst 119 (dx d_Model_resize 66 rfl) rfl ?_
            refine aj_goto 129 (dx d_Model_resize 67 rfl) rfl ?_
            have hN : rz_n b m ix s i = 0 := by unfold rz_n; rw [if_neg (by omega), if_pos (by omega)]
            refine aj_iast 130 (dx d_Model_resize 72 rfl) rfl (ms_goes hM1.1) rfl (by omega) (by omega) ?_
            refine aj_iinc 3 133 (dx d_Model_resize 73 rfl) rfl rfl rfl ?_
            simp only [List.set]
            refine aj_goto 48 (dx d_Model_resize 74 rfl) rfl ?_
            refine aj_forget 4 ?_
            simp only [List.set]
            rw [show ((i : Nat) : Int) + 1 = ((i + 1 : Nat) : Int) by omega]
            have hup := rz_up (by omega) hR hs hik
            rw [hO, hN] at hup
            exact ih _ (by omega) (i + 1) _ (by omega) rfl hup
        · exact absurd h100 (by omega)
set_option maxHeartbeats 4000000 in
theorem k_rz_s {al : Prop} {X : Option (Nat × (Int → Int))} {d : Nat} {sh : List aj_S} {g : aj_G} {Q : aj_R → List aj_S → aj_G → Prop} {k n : Nat} {nx ou : Nat → Nat → Nat} {b m : Nat} {ix io : Nat → Nat → Nat} (hM : mmm sh g k n nx ou) (hI : mim g k b ix io) (hm1 : 1 ≤ m) (hm10 : m ≤ 10) (hk : ∀ g1, (∀ r, r ≠ 78 → r ≠ 88 → r ≠ 89 → g1 r = g r) → (∀ j, j ≠ 17 → g1 78 j = g 78 j) → mim g1 k m (rz_n b m ix) (rz_o b io) → Q (.inl none) sh g1) :
    ∀ (y s : Nat) (g1 : aj_G), s ≤ m → m - s = y → rz_I g g1 k b m ix io s 0 → aj_wp nE al al X m_Model_resize d 0 0 41 [some (1, 78), some (0, (m : Int)), some (0, (s : Int)), none, none] [] sh g1 Q := by
  intro y
  induction y using Nat.strongRecOn with
  | ind y ih =>
    intro s g1 hs hyy hR
    have hM1 : mmm sh g1 k n nx ou := mmm_of hM (fun j _ => by rw [hR.1 78 (by omega) (by omega)]) (hR.1 79 (by omega) (by omega)) (hR.1 80 (by omega) (by omega))
    refine aj_iload_n 2 42 (dx d_Model_resize 22 rfl) rfl rfl rfl ?_
    refine aj_iload_n 1 43 (dx d_Model_resize 23 rfl) rfl rfl rfl ?_
    refine aj_icmp_ge 142 46 (dx d_Model_resize 24 rfl) rfl rfl (by unfold aj_I; omega) (by unfold aj_I; omega) (fun h43 => ?_) (fun h43 => ?_)
    · refine aj_aload_n 0 143 (dx d_Model_resize 77 rfl) rfl rfl rfl ?_
      refine aj_iload_n 1 144 (dx d_Model_resize 78 rfl) rfl rfl rfl ?_
      refine aj_putf 147 (pl_Model_157 _) (dx d_Model_resize 79 rfl) rfl hM1.1.1 (aj_fitI _) ?_
      refine aj_vret (dx d_Model_resize 80 rfl) rfl id ?_
      have e : s = m := by omega
      subst e
      refine hk _ (fun r a c e2 => by rw [aj_up_ne _ _ _ a]; exact hR.1 r c e2) (fun j hj => by rw [aj_up_ni _ _ _ hj, hR.1 78 (by omega) (by omega)]) ⟨by rw [aj_up_self], hm10, fun x j hx hj => ?_⟩
      obtain ⟨v1, v2⟩ := (hR.2 x j hx hj).1 (by omega)
      rw [aj_up_ne _ _ _ (by omega), aj_up_ne _ _ _ (by omega)]
      refine ⟨v1, v2, ?_, ?_⟩
      · unfold rz_n
        by_cases c1 : b ≤ x
        · rw [if_pos c1]; exact hx
        · rw [if_neg c1]
          by_cases c2 : s ≤ ix x j
          · rw [if_pos c2]; omega
          · rw [if_neg c2]; omega
      · unfold rz_o
        by_cases c1 : b ≤ x
        · rw [if_pos c1]; omega
        · rw [if_neg c1]; exact (hI.2.2 x j (by omega) hj).2.2.2
    · refine aj_iconst 47 (dx d_Model_resize 25 rfl) rfl ?_
      refine aj_istore_n 3 48 (dx d_Model_resize 26 rfl) rfl rfl rfl ?_
      simp only [List.set]
      refine k_rz_i (g := g) hM hI hm1 hm10 (show s < m by omega) (fun g2 hR2 => ?_) _ 0 g1 (by omega) rfl hR
      refine aj_iinc 2 139 (dx d_Model_resize 75 rfl) rfl rfl rfl ?_
      simp only [List.set]
      refine aj_goto 41 (dx d_Model_resize 76 rfl) rfl ?_
      rw [show ((s : Nat) : Int) + 1 = ((s + 1 : Nat) : Int) by omega]
      exact ih _ (by omega) (s + 1) g2 (by omega) rfl (rz_row hR2)
set_option maxHeartbeats 4000000 in
theorem k_Model_resize {al : Prop} {X : Option (Nat × (Int → Int))} {d : Nat} {sh : List aj_S} {g : aj_G} {Q : aj_R → List aj_S → aj_G → Prop} {k n : Nat} {nx ou : Nat → Nat → Nat} {z x : Int} {b : Nat} {ix io : Nat → Nat → Nat} (hM : mmm sh g k n nx ou) (hse : g 78 6 = z) (hz : z = 0 ∨ z = 1) (hI : z = 1 → mim g k b ix io) (hx : aj_I x) (hk1 : ¬ (1 ≤ x ∧ x ≤ 10) → Q (.inl none) sh (aj_up g 78 0 1)) (hk2 : 1 ≤ x ∧ x ≤ 10 → z = 0 → Q (.inl none) sh (aj_up g 78 0 2))
    (hk0 : ∀ (m : Nat) (g1 : aj_G), x = m → 1 ≤ m → m ≤ 10 → z = 1 → (∀ r, r ≠ 78 → r ≠ 88 → r ≠ 89 → g1 r = aj_up g 78 0 0 r) → (∀ j, j ≠ 17 → g1 78 j = aj_up g 78 0 0 78 j) → mim g1 k m (rz_n b m ix) (rz_o b io) → Q (.inl none) sh g1) : aj_wp nE al al X m_Model_resize d 0 0 0 [some (1, 78), some (0, x), none, none, none] [] sh g Q := by
  refine aj_aload_n 0 1 (dx d_Model_resize 0 rfl) rfl rfl rfl ?_
  refine aj_iload_n 1 2 (dx d_Model_resize 1 rfl) rfl rfl rfl ?_
  refine aj_iconst 3 (dx d_Model_resize 2 rfl) rfl ?_
  refine aj_icmp_lt 12 6 (dx d_Model_resize 3 rfl) rfl rfl hx (by unfold aj_I; omega) (fun h3 => ?_) (fun h3 => ?_)
  · refine aj_iconst 13 (dx d_Model_resize 7 rfl) rfl ?_
    refine aj_goto 28 (dx d_Model_resize 8 rfl) rfl ?_
    refine aj_putf 31 (pl_Model_92 _) (dx d_Model_resize 15 rfl) rfl hM.1.1 (aj_fitI _) ?_
    refine aj_aload_n 0 32 (dx d_Model_resize 16 rfl) rfl rfl rfl ?_
    refine aj_getf 35 fl_Model_92 (dx d_Model_resize 17 rfl) rfl hM.1.1 ?_
    rw [show aj_up g 78 0 1 78 0 = 1 by rw [aj_up_self]]
    refine aj_if_le 39 38 (dx d_Model_resize 18 rfl) rfl rfl (by unfold aj_I; omega) (fun h35 => ?_) (fun h35 => ?_)
    · exact absurd h35 (by decide)
    · refine aj_vret (dx d_Model_resize 19 rfl) rfl id ?_
      exact hk1 (by omega)
  · refine aj_iload_n 1 7 (dx d_Model_resize 4 rfl) rfl rfl rfl ?_
    refine aj_bipush 9 (dx d_Model_resize 5 rfl) rfl (by decide +kernel) ?_
    refine aj_icmp_le 16 12 (dx d_Model_resize 6 rfl) rfl rfl hx (by unfold aj_I; omega) (fun h9 => ?_) (fun h9 => ?_)
    · refine aj_aload_n 0 17 (dx d_Model_resize 9 rfl) rfl rfl rfl ?_
      refine aj_getfv (v := z) 20 fl_Model_105 (dx d_Model_resize 10 rfl) rfl hM.1.1 (by first | exact hse | (simp [aj_up_at]; exact hse)) ?_
      refine aj_if_ne 27 23 (dx d_Model_resize 11 rfl) rfl rfl (by unfold aj_I; omega) (fun h20 => ?_) (fun h20 => ?_)
      · refine aj_iconst 28 (dx d_Model_resize 14 rfl) rfl ?_
        obtain ⟨m, rfl⟩ : ∃ m : Nat, x = m := ⟨x.toNat, by omega⟩
        have hI1 := hI (by omega)
        refine aj_putf 31 (pl_Model_92 _) (dx d_Model_resize 15 rfl) rfl hM.1.1 (aj_fitI _) ?_
        refine aj_aload_n 0 32 (dx d_Model_resize 16 rfl) rfl rfl rfl ?_
        refine aj_getf 35 fl_Model_92 (dx d_Model_resize 17 rfl) rfl hM.1.1 ?_
        rw [show aj_up g 78 0 0 78 0 = 0 by rw [aj_up_self]]
        refine aj_if_le 39 38 (dx d_Model_resize 18 rfl) rfl rfl (by unfold aj_I; omega) (fun h35 => ?_) (fun h35 => ?_)
        · refine aj_iconst 40 (dx d_Model_resize 20 rfl) rfl ?_
          refine aj_istore_n 2 41 (dx d_Model_resize 21 rfl) rfl rfl rfl ?_
          simp only [List.set]
          refine k_rz_s (g := aj_up g 78 0 0) (b := b) (ix := ix) (io := io) (mmm_th 0 hM) ⟨by rw [aj_up_ni _ _ _ (by omega)]; exact hI1.1, hI1.2.1, fun x i hx hi => by rw [aj_up_ne _ _ _ (by omega), aj_up_ne _ _ _ (by omega)]; exact hI1.2.2 x i hx hi⟩ (by omega) (by omega) (fun g1 h1 h2 h3 => hk0 m g1 rfl (by omega) (by omega) (by omega) h1 h2 h3) _ 0 _ (by omega) rfl ⟨fun r _ _ => rfl, fun x j hx hj => ⟨fun z => absurd z (by omega), fun _ hxb => ?_⟩⟩
          rw [aj_up_ne _ _ _ (by omega), aj_up_ne _ _ _ (by omega)]
          obtain ⟨w1, w2, -, -⟩ := hI1.2.2 x j hxb hj
          exact ⟨w1, w2⟩
        · exact absurd h35 (by decide)
      · refine aj_iconst 24 (dx d_Model_resize 12 rfl) rfl ?_
        refine aj_goto 28 (dx d_Model_resize 13 rfl) rfl ?_
        refine aj_putf 31 (pl_Model_92 _) (dx d_Model_resize 15 rfl) rfl hM.1.1 (aj_fitI _) ?_
        refine aj_aload_n 0 32 (dx d_Model_resize 16 rfl) rfl rfl rfl ?_
        refine aj_getf 35 fl_Model_92 (dx d_Model_resize 17 rfl) rfl hM.1.1 ?_
        rw [show aj_up g 78 0 2 78 0 = 2 by rw [aj_up_self]]
        refine aj_if_le 39 38 (dx d_Model_resize 18 rfl) rfl rfl (by unfold aj_I; omega) (fun h35 => ?_) (fun h35 => ?_)
        · exact absurd h35 (by decide)
        · refine aj_vret (dx d_Model_resize 19 rfl) rfl id ?_
          exact hk2 (by omega) (by omega)
    · refine aj_iconst 13 (dx d_Model_resize 7 rfl) rfl ?_
      refine aj_goto 28 (dx d_Model_resize 8 rfl) rfl ?_
      refine aj_putf 31 (pl_Model_92 _) (dx d_Model_resize 15 rfl) rfl hM.1.1 (aj_fitI _) ?_
      refine aj_aload_n 0 32 (dx d_Model_resize 16 rfl) rfl rfl rfl ?_
      refine aj_getf 35 fl_Model_92 (dx d_Model_resize 17 rfl) rfl hM.1.1 ?_
      rw [show aj_up g 78 0 1 78 0 = 1 by rw [aj_up_self]]
      refine aj_if_le 39 38 (dx d_Model_resize 18 rfl) rfl rfl (by unfold aj_I; omega) (fun h35 => ?_) (fun h35 => ?_)
      · exact absurd h35 (by decide)
      · refine aj_vret (dx d_Model_resize 19 rfl) rfl id ?_
        exact hk1 (by omega)
def un_n (n : Nat) (nx ix : Nat → Nat → Nat) (s i : Nat) : Nat := if s < n then nx s i else n + ix (s - n) i
def un_o (n : Nat) (ou io : Nat → Nat → Nat) (s i : Nat) : Nat := if s < n then ou s i else io (s - n) i
theorem un_rn {n k : Nat} {nx ix : Nat → Nat → Nat} (hc : ∀ s i, s < n → i < k → nx s i < n) {s : Nat} (hs : s < n) : ∀ w, wd_ok k w → rn (un_n n nx ix) s w = rn nx s w
  | [], _ => rfl
  | i :: w, hw => by
    obtain ⟨h1, h2⟩ := wd_ok_cons.mp hw
    show un_n n nx ix (rn (un_n n nx ix) s w) i = nx (rn nx s w) i
    rw [un_rn hc hs w h2]
    unfold un_n
    rw [if_pos (rn_lt hc hs w h2)]
theorem un_rn2 {n : Nat} {nx ix : Nat → Nat → Nat} {t : Nat} : ∀ w, rn (un_n n nx ix) (n + t) w = n + rn ix t w
  | [] => rfl
  | i :: w => by
    show un_n n nx ix (rn (un_n n nx ix) (n + t) w) i = n + ix (rn ix t w) i
    rw [un_rn2 w]
    unfold un_n
    rw [if_neg (by omega), Nat.add_sub_cancel_left]
theorem un_df {n k : Nat} {nx ou ix io : Nat → Nat → Nat} (hc : ∀ s i, s < n → i < k → nx s i < n) {s t : Nat} (hs : s < n) {w : List Nat} (hw : wd_ok k w) : df (un_n n nx ix) (un_o n ou io) s (un_n n nx ix) (un_o n ou io) (n + t) w ↔ df nx ou s ix io t w := by
  cases w with
  | nil => exact Iff.rfl
  | cons i w =>
    obtain ⟨h1, h2⟩ := wd_ok_cons.mp hw
    show un_o n ou io (rn (un_n n nx ix) s w) i ≠ un_o n ou io (rn (un_n n nx ix) (n + t) w) i ↔ ou (rn nx s w) i ≠ io (rn ix t w) i
    rw [un_rn hc hs w h2, un_rn2 w]
    unfold un_o
    rw [if_pos (rn_lt hc hs w h2), if_neg (by omega), Nat.add_sub_cancel_left]
theorem un_len {n m k : Nat} {nx ou ix io : Nat → Nat → Nat} (hk : k ≤ 4) (hc : ∀ s i, s < n → i < k → nx s i < n) (hc' : ∀ s i, s < m → i < k → ix s i < m) {s t : Nat} (hs : s < n) (ht : t < m) {w : List Nat} (h : wd_least k nx ou s ix io t w) : w.length ≤ n + m - 1 := by
  refine mo_len (n := n + m) (nx := un_n n nx ix) (ou := un_o n ou io) hk (by omega) (fun x i hx hi => ?_) (s := s) (t := n + t) (by omega) (by omega) ⟨h.1, (un_df hc hs h.1).mpr h.2.1, fun v hv hd => h.2.2 v hv ((un_df hc hs hv).mp hd)⟩
  unfold un_n
  by_cases c : x < n
  · rw [if_pos c]; have := hc x i c hi; omega
  · rw [if_neg c]; have := hc' (x - n) i (by omega) hi; omega
set_option maxHeartbeats 4000000 in
theorem k_least_new {al : Prop} {X : Option (Nat × (Int → Int))} {d : Nat} {sh : List aj_S} {g : aj_G} {Q : aj_R → List aj_S → aj_G → Prop} {a b : List Nat} (ha : wd_ok 4 a) (hb : wd_ok 4 b) (hla : a.length ≤ 24) (hlb : b.length ≤ 24) (he : a = []) (hk : Q (.inl (some (2, (wd_cd b : Int)))) sh g) : aj_wp nE al al X m_Model_least (d + 1) 0 0 0 [some (2, (wd_cd a : Int)), none, some (2, (wd_cd b : Int)), none] [] sh g Q := by
  have h1 := wd_lt63 ha hla
  have h2 := wd_lt63 hb hlb
  have h3 := wd_pos a
  subst he
  refine aj_lload_n 0 1 (dx d_Model_least 0 rfl) rfl rfl rfl ?_
  refine aj_lconst (x := 1) 2 (dx d_Model_least 1 rfl) rfl rfl ?_
  refine aj_lcmp 3 (dx d_Model_least 2 rfl) rfl (by unfold aj_L; omega) (by unfold aj_L; omega) ?_
  refine aj_if_eq 34 6 (dx d_Model_least 3 rfl) rfl rfl (by unfold aj_I aj_sg; split <;> (try split) <;> omega) (fun h3 => ?_) (fun h3 => ?_)
  · refine aj_lload_n 2 35 (dx d_Model_least 18 rfl) rfl rfl rfl ?_
    refine aj_goto 39 (dx d_Model_least 19 rfl) rfl ?_
    refine aj_lret (dx d_Model_least 21 rfl) rfl id ?_
    exact hk
  · exact absurd rfl h3
set_option maxHeartbeats 4000000 in
theorem k_least_old {al : Prop} {X : Option (Nat × (Int → Int))} {d : Nat} {sh : List aj_S} {g : aj_G} {Q : aj_R → List aj_S → aj_G → Prop} {a b : List Nat} (ha : wd_ok 4 a) (hb : wd_ok 4 b) (hla : a.length ≤ 24) (hlb : b.length ≤ 24) (he : a ≠ []) (hab : wd_cd a ≤ wd_cd b) (hk : Q (.inl (some (2, (wd_cd a : Int)))) sh g) : aj_wp nE al al X m_Model_least (d + 1) 0 0 0 [some (2, (wd_cd a : Int)), none, some (2, (wd_cd b : Int)), none] [] sh g Q := by
  have h1 := wd_lt63 ha hla
  have h2 := wd_lt63 hb hlb
  have h3 := wd_pos a
  have h4 := wd_len_le hb hab
  have h5 : 1 < wd_cd a := wd_gt1.mpr (by cases a with
                                          | nil => exact absurd rfl he
                                          | cons i w => rw [List.length_cons]; omega)
  refine aj_lload_n 0 1 (dx d_Model_least 0 rfl) rfl rfl rfl ?_
  refine aj_lconst (x := 1) 2 (dx d_Model_least 1 rfl) rfl rfl ?_
  refine aj_lcmp 3 (dx d_Model_least 2 rfl) rfl (by unfold aj_L; omega) (by unfold aj_L; omega) ?_
  refine aj_if_eq 34 6 (dx d_Model_least 3 rfl) rfl rfl (by unfold aj_I aj_sg; split <;> (try split) <;> omega) (fun h3 => ?_) (fun h3 => ?_)
  · rw [aj_sg, if_pos (by omega)] at h3; exact absurd h3 (by decide)
  · refine aj_lload_n 2 7 (dx d_Model_least 4 rfl) rfl rfl rfl ?_
    refine aj_callS1 10 cl_Model_112 (dx d_Model_least 5 rfl) rfl rfl rfl rfl rfl rfl (k_Model_length hb hlb ?_)
    change aj_wp _ _ _ _ _ _ _ _ _ _ _ _ _ _
    refine aj_lload_n 0 11 (dx d_Model_least 6 rfl) rfl rfl rfl ?_
    refine aj_callS1 14 cl_Model_112 (dx d_Model_least 7 rfl) rfl rfl rfl rfl rfl rfl (k_Model_length ha hla ?_)
    change aj_wp _ _ _ _ _ _ _ _ _ _ _ _ _ _
    refine aj_icmp_lt 34 17 (dx d_Model_least 8 rfl) rfl rfl (by unfold aj_I; omega) (by unfold aj_I; omega) (fun h14 => ?_) (fun h14 => ?_)
    · exact absurd h14 (by omega)
    · refine aj_lload_n 2 18 (dx d_Model_least 9 rfl) rfl rfl rfl ?_
      refine aj_callS1 21 cl_Model_112 (dx d_Model_least 10 rfl) rfl rfl rfl rfl rfl rfl (k_Model_length hb hlb ?_)
      change aj_wp _ _ _ _ _ _ _ _ _ _ _ _ _ _
      refine aj_lload_n 0 22 (dx d_Model_least 11 rfl) rfl rfl rfl ?_
      refine aj_callS1 25 cl_Model_112 (dx d_Model_least 12 rfl) rfl rfl rfl rfl rfl rfl (k_Model_length ha hla ?_)
      change aj_wp _ _ _ _ _ _ _ _ _ _ _ _ _ _
      refine aj_icmp_ne 38 28 (dx d_Model_least 13 rfl) rfl rfl (by unfold aj_I; omega) (by unfold aj_I; omega) (fun h25 => ?_) (fun h25 => ?_)
      · refine aj_lload_n 0 39 (dx d_Model_least 20 rfl) rfl rfl rfl ?_
        refine aj_lret (dx d_Model_least 21 rfl) rfl id ?_
        exact hk
      · refine aj_lload_n 2 29 (dx d_Model_least 14 rfl) rfl rfl rfl ?_
        refine aj_lload_n 0 30 (dx d_Model_least 15 rfl) rfl rfl rfl ?_
        refine aj_lcmp 31 (dx d_Model_least 16 rfl) rfl (by unfold aj_L; omega) (by unfold aj_L; omega) ?_
        refine aj_if_ge 38 34 (dx d_Model_least 17 rfl) rfl rfl (by unfold aj_I aj_sg; split <;> (try split) <;> omega) (fun h31 => ?_) (fun h31 => ?_)
        · refine aj_lload_n 0 39 (dx d_Model_least 20 rfl) rfl rfl rfl ?_
          refine aj_lret (dx d_Model_least 21 rfl) rfl id ?_
          exact hk
        · rw [aj_sg] at h31; split at h31 <;> (try split at h31) <;> omega
