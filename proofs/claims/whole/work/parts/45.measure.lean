/-! Model.measure: the table of the distances -/
def tdi (g : aj_G) (k n : Nat) (nx ou : Nat → Nat → Nat) (L : Nat → Nat → Nat) : Prop := ∀ s t : Nat, s < n → t < n → ∃ m : Nat, g 81 (8 * (s : Int) + t) = m ∧ ((m = 0 ∧ mo_el k nx ou (L s t) s t) ∨ (wd_ln k nx ou s t m ∧ m ≤ L s t))
theorem tdi_up {g : aj_G} {k n l s t : Nat} {nx ou : Nat → Nat → Nat} {L L' : Nat → Nat → Nat} {v : Nat} (h : tdi g k n nx ou L) (ht : t < 8) (hn : n ≤ 8) (hv : (v = 0 ∧ mo_el k nx ou l s t) ∨ (wd_ln k nx ou s t v ∧ v ≤ l)) (hL : ∀ a b, a < n → b < n → ¬ (a = s ∧ b = t) → L' a b = L a b) (hs : L' s t = l) : tdi (aj_up g 81 (8 * (s : Int) + t) (v : Nat)) k n nx ou L' := by
  intro a b ha hb
  by_cases e : a = s ∧ b = t
  · obtain ⟨rfl, rfl⟩ := e
    exact ⟨v, by rw [aj_up_self], by rw [hs]; exact hv⟩
  · obtain ⟨m, h1, h2⟩ := h a b ha hb
    exact ⟨m, by rw [aj_up_ni _ _ _ (by omega)]; exact h1, by rw [hL a b ha hb e]; exact h2⟩
theorem ms_iff {k : Nat} {nx ou : Nat → Nat → Nat} {s t l : Nat} (hl : 0 < l) (h : mo_el k nx ou (l - 1) s t) : wd_ln k nx ou s t l ↔ ∃ i, i < k ∧ ftP k nx ou s t l i := by
  refine ⟨ft_ex, ?_⟩
  rintro ⟨i, hi, ⟨h1, h2⟩ | ⟨h1, h2⟩⟩
  · subst h1
    exact ln_one.mpr ⟨i, hi, h2⟩
  · obtain ⟨m, rfl⟩ : ∃ m, l = m + 1 := ⟨l - 1, by omega⟩
    exact (ln_succ (by omega)).mpr ⟨fun w hw hwl => h w hw hwl, i, hi, h2⟩
theorem mz_next {k : Nat} {nx ou : Nat → Nat → Nat} {s t l : Nat} (hl : 0 < l) (h : mo_el k nx ou (l - 1) s t) (hn : ¬ wd_ln k nx ou s t l) : mo_el k nx ou l s t := by
  intro w hw hwl hd
  rcases Nat.lt_or_ge w.length l with z | z
  · exact h w hw (by omega) hd
  · exact hn ⟨⟨w, hw, by omega, hd⟩, fun v hv hvl => h v hv (by omega)⟩
theorem ms_far {g : aj_G} {k n : Nat} {nx ou : Nat → Nat → Nat} {L : Nat → Nat → Nat} {l a b m : Nat} (h : tdi g k n nx ou L) (hL : ∀ a b, l ≤ L a b + 1) (ha : a < n) (hb : b < n) (hl : 1 < l) (hm : g 81 (8 * (a : Int) + b) = (m : Nat)) : m = l - 1 ↔ wd_ln k nx ou a b (l - 1) := by
  obtain ⟨m', e, h1⟩ := h a b ha hb
  have hL1 := hL a b
  have em : m = m' := by omega
  subst em
  constructor
  · intro z
    rcases h1 with ⟨h2, -⟩ | ⟨h2, -⟩
    · omega
    · rw [← z]; exact h2
  · intro z
    rcases h1 with ⟨-, h2⟩ | ⟨h2, -⟩
    · obtain ⟨⟨w, w1, w2, w3⟩, -⟩ := z
      exact (h2 w w1 (by omega) w3).elim
    · exact ln_uniq h2 z
def ms_L (l s t a b : Nat) : Nat := if a < s ∨ (a = s ∧ b < t) then l else l - 1
theorem ms_L_up {l s t a b : Nat} (h : ¬ (a = s ∧ b = t)) : ms_L l s (t + 1) a b = ms_L l s t a b := by
  unfold ms_L
  by_cases z : a < s ∨ (a = s ∧ b < t)
  · rw [if_pos z, if_pos (by omega)]
  · rw [if_neg z, if_neg (by omega)]
set_option maxHeartbeats 4000000 in
theorem k_ms_in {al : Prop} {X : Option (Nat × (Int → Int))} {d : Nat} {sh : List aj_S} {g : aj_G} {Q : aj_R → List aj_S → aj_G → Prop} {k n : Nat} {nx ou : Nat → Nat → Nat} (hM : mmm sh g k n nx ou) {L : Nat → Nat → Nat} {l s t m1 : Nat} (hT : tdi g k n nx ou L) (hL : ∀ a b, l ≤ L a b + 1) (hL2 : ∀ a b, L a b ≤ l) (hl0 : 0 < l) (hl9 : l ≤ 8) (hs : s < n) (ht : t < n) (hm1 : g 81 (8 * (s : Int) + t) = (m1 : Nat)) (hm9 : m1 ≤ 9) (hm2 : (m1 = 0 ∧ mo_el k nx ou (l - 1) s t) ∨ m1 ≠ 0)
    (hgo0 : m1 ≠ 0 ∨ (m1 = 0 ∧ mo_el k nx ou (l - 1) s t ∧ ¬ wd_ln k nx ou s t l) → aj_wp nE al al X m_Model_measure d 0 0 172 [some (1, 78), some (0, (l : Int)), some (0, (s : Int)), some (0, (t : Int)), some (0, 0), none, none] [] sh g Q) (hgo1 : m1 = 0 → wd_ln k nx ou s t l → aj_wp nE al al X m_Model_measure d 0 0 172 [some (1, 78), some (0, (l : Int)), some (0, (s : Int)), some (0, (t : Int)), some (0, 1), none, none] [] sh g Q) :
    ∀ (m i : Nat) (x : Int), i ≤ k → k - i = m → ((x = 1 ∧ ∃ i0, i0 < i ∧ ftP k nx ou s t l i0) ∨ (x = 0 ∧ ∀ i0, i0 < i → ¬ ftP k nx ou s t l i0)) → (m1 ≠ 0 → ∀ i0, ¬ i0 < i) →
    aj_wp nE al al X m_Model_measure d 0 0 57 [some (1, 78), some (0, (l : Int)), some (0, (s : Int)), some (0, (t : Int)), some (0, x), some (0, (i : Int)), none] [] sh g Q := by
  have hk4 := hM.2.2.2.1
  have hn8 := hM.2.2.2.2.1
  intro m
  induction m using Nat.strongRecOn with
  | ind m ih =>
    intro i x hi hmm hx hm3
    refine aj_iload 5 59 (dx d_Model_measure 34 rfl) rfl rfl ?_
    refine aj_aload_n 0 60 (dx d_Model_measure 35 rfl) rfl rfl rfl ?_
    refine aj_getfv (v := (k : Int)) 63 fl_Model_89 (dx d_Model_measure 36 rfl) rfl hM.1.1 hM.2.2.1 ?_
    refine aj_icmp_ge 172 66 (dx d_Model_measure 37 rfl) rfl rfl (by unfold aj_I; omega) (by unfold aj_I; omega) (fun h63 => ?_) (fun h63 => ?_)
    · refine aj_forget 5 ?_
      simp only [List.set]
      rcases hx with ⟨rfl, i0, h1, h2⟩ | ⟨rfl, h1⟩
      · rcases hm2 with h3 | h3
        · exact hgo1 h3.1 ((ms_iff hl0 h3.2).mpr ⟨i0, by omega, h2⟩)
        · exact (hm3 h3 i0 h1).elim
      · exact hgo0 (by
          rcases hm2 with h3 | h3
          · exact Or.inr ⟨h3.1, h3.2, fun z => by
              obtain ⟨i0, y1, y2⟩ := (ms_iff hl0 h3.2).mp z
              exact h1 i0 (by omega) y2⟩
          · exact Or.inl h3)
    · have hik : i < k := by omega
      obtain ⟨e1, e2, e3, e4⟩ := hM.2.2.2.2.2 s i hs hik
      obtain ⟨f1, f2, f3, f4⟩ := hM.2.2.2.2.2 t i ht hik
      obtain ⟨mf, t1, t2⟩ := hT (nx s i) (nx t i) e3 f3
      have hmf : mf ≤ 9 := by
        have := hL2 (nx s i) (nx t i)
        rcases t2 with ⟨z, -⟩ | ⟨-, z⟩ <;> omega
      have hfar := fun h1 : 1 < l => ms_far hT hL e3 f3 h1 t1
      refine aj_aload_n 0 67 (dx d_Model_measure 38 rfl) rfl rfl rfl ?_
      refine aj_getfv (v := 81) 70 fl_Model_16 (dx d_Model_measure 39 rfl) rfl hM.1.1 (by first | exact mf_told hM.1 | (simp [aj_up_at]; exact mf_told hM.1) | exact mf_told (by assumption)) ?_
      refine aj_bipush 72 (dx d_Model_measure 40 rfl) rfl (by decide +kernel) ?_
      refine aj_iload_n 2 73 (dx d_Model_measure 41 rfl) rfl rfl rfl ?_
      refine aj_imul 74 (dx d_Model_measure 42 rfl) rfl ?_
      refine aj_iload_n 3 75 (dx d_Model_measure 43 rfl) rfl rfl rfl ?_
      refine aj_iadd 76 (dx d_Model_measure 44 rfl) rfl ?_
      refine aj_iald 77 (dx d_Model_measure 45 rfl) rfl (ms_told hM.1) rfl (by omega) (by omega) ?_
      rw [hm1]
      refine aj_if_ne 172 80 (dx d_Model_measure 46 rfl) rfl rfl (by unfold aj_I; omega) (fun h77 => ?_) (fun h77 => ?_)
      · refine aj_forget 5 ?_
        simp only [List.set]
        have h3 : m1 ≠ 0 := by omega
        rcases hx with ⟨-, i0, h1, -⟩ | ⟨rfl, -⟩
        · exact (hm3 h3 i0 h1).elim
        · exact hgo0 (Or.inl h3)
      · refine aj_aload_n 0 81 (dx d_Model_measure 47 rfl) rfl rfl rfl ?_
        refine aj_getfv (v := 81) 84 fl_Model_16 (dx d_Model_measure 48 rfl) rfl hM.1.1 (by first | exact mf_told hM.1 | (simp [aj_up_at]; exact mf_told hM.1) | exact mf_told (by assumption)) ?_
        refine aj_bipush 86 (dx d_Model_measure 49 rfl) rfl (by decide +kernel) ?_
        refine aj_aload_n 0 87 (dx d_Model_measure 50 rfl) rfl rfl rfl ?_
        refine aj_getfv (v := 79) 90 fl_Model_7 (dx d_Model_measure 51 rfl) rfl hM.1.1 (by first | exact mf_next hM.1 | (simp [aj_up_at]; exact mf_next hM.1) | exact mf_next (by assumption)) ?_
        refine aj_iconst 91 (dx d_Model_measure 52 rfl) rfl ?_
        refine aj_iload_n 2 92 (dx d_Model_measure 53 rfl) rfl rfl rfl ?_
        refine aj_imul 93 (dx d_Model_measure 54 rfl) rfl ?_
        refine aj_iload 5 95 (dx d_Model_measure 55 rfl) rfl rfl ?_
        refine aj_iadd 96 (dx d_Model_measure 56 rfl) rfl ?_
        refine aj_iald 97 (dx d_Model_measure 57 rfl) rfl (ms_next hM.1) rfl (by omega) (by omega) ?_
        rw [e1]
        refine aj_imul 98 (dx d_Model_measure 58 rfl) rfl ?_
        refine aj_aload_n 0 99 (dx d_Model_measure 59 rfl) rfl rfl rfl ?_
        refine aj_getfv (v := 79) 102 fl_Model_7 (dx d_Model_measure 60 rfl) rfl hM.1.1 (by first | exact mf_next hM.1 | (simp [aj_up_at]; exact mf_next hM.1) | exact mf_next (by assumption)) ?_
        refine aj_iconst 103 (dx d_Model_measure 61 rfl) rfl ?_
        refine aj_iload_n 3 104 (dx d_Model_measure 62 rfl) rfl rfl rfl ?_
        refine aj_imul 105 (dx d_Model_measure 63 rfl) rfl ?_
        refine aj_iload 5 107 (dx d_Model_measure 64 rfl) rfl rfl ?_
        refine aj_iadd 108 (dx d_Model_measure 65 rfl) rfl ?_
        refine aj_iald 109 (dx d_Model_measure 66 rfl) rfl (ms_next hM.1) rfl (by omega) (by omega) ?_
        rw [f1]
        refine aj_iadd 110 (dx d_Model_measure 67 rfl) rfl ?_
        refine aj_iald 111 (dx d_Model_measure 68 rfl) rfl (ms_told hM.1) rfl (by omega) (by omega) ?_
        rw [t1]
        refine aj_istore 6 113 (dx d_Model_measure 69 rfl) rfl rfl ?_
        simp only [List.set]
        refine aj_iload 4 115 (dx d_Model_measure 70 rfl) rfl rfl ?_
        refine aj_if_ne 159 118 (dx d_Model_measure 71 rfl) rfl rfl (by rcases hx with ⟨h, -⟩ | ⟨h, -⟩ <;> rw [h] <;> unfold aj_I <;> omega) (fun h115 => ?_) (fun h115 => ?_)
        · have hyes : ∃ i0, i0 < i ∧ ftP k nx ou s t l i0 := by
            rcases hx with ⟨-, h⟩ | ⟨h, -⟩
            · exact h
            · omega
          refine aj_iconst 160 (dx d_Model_measure 98 rfl) rfl ?_
          refine aj_goto 164 (dx d_Model_measure 99 rfl) rfl ?_
          refine aj_istore 4 166 (dx d_Model_measure 101 rfl) rfl rfl ?_
          simp only [List.set]
          refine aj_iinc 5 169 (dx d_Model_measure 102 rfl) rfl rfl rfl ?_
          simp only [List.set]
          refine aj_goto 57 (dx d_Model_measure 103 rfl) rfl ?_
          refine aj_forget 6 ?_
          simp only [List.set]
          have hih := ih _ (by omega) (i + 1) 1 (by omega) rfl (Or.inl ⟨rfl, by obtain ⟨i0, y1, y2⟩ := hyes; exact ⟨i0, by omega, y2⟩⟩) (fun z => absurd (show m1 = 0 by omega) z)
          rw [show ((i : Nat) : Int) + 1 = ((i + 1 : Nat) : Int) by omega]
          exact hih
        · have hno : ∀ i0, i0 < i → ¬ ftP k nx ou s t l i0 := by
            rcases hx with ⟨h, -⟩ | ⟨-, h⟩
            · omega
            · exact h
          refine aj_iload_n 1 119 (dx d_Model_measure 72 rfl) rfl rfl rfl ?_
          refine aj_iconst 120 (dx d_Model_measure 73 rfl) rfl ?_
          refine aj_icmp_ne 151 123 (dx d_Model_measure 74 rfl) rfl rfl (by unfold aj_I; omega) (by unfold aj_I; omega) (fun h120 => ?_) (fun h120 => ?_)
          · refine aj_iload 6 153 (dx d_Model_measure 93 rfl) rfl rfl ?_
            refine aj_iload_n 1 154 (dx d_Model_measure 94 rfl) rfl rfl rfl ?_
            refine aj_iconst 155 (dx d_Model_measure 95 rfl) rfl ?_
            refine aj_isub 156 (dx d_Model_measure 96 rfl) rfl ?_
            refine aj_icmp_ne 163 159 (dx d_Model_measure 97 rfl) rfl rfl (by unfold aj_I; omega) (by unfold aj_I; omega) (fun h156 => ?_) (fun h156 => ?_)
            · refine aj_iconst 164 (dx d_Model_measure 100 rfl) rfl ?_
              refine aj_istore 4 166 (dx d_Model_measure 101 rfl) rfl rfl ?_
              simp only [List.set]
              refine aj_iinc 5 169 (dx d_Model_measure 102 rfl) rfl rfl rfl ?_
              simp only [List.set]
              refine aj_goto 57 (dx d_Model_measure 103 rfl) rfl ?_
              refine aj_forget 6 ?_
              simp only [List.set]
              have hih := ih _ (by omega) (i + 1) 0 (by omega) rfl (Or.inr ⟨rfl, fun i0 h0 => by
                rcases Nat.lt_or_ge i0 i with z | z
                · exact hno i0 z
                · rw [show i0 = i by omega]
                  rintro (⟨y1, y2⟩ | ⟨y1, y2⟩)
                  · omega
                  · have := (hfar y1).mpr y2
                    omega⟩) (fun z => absurd (show m1 = 0 by omega) z)
              rw [show ((i : Nat) : Int) + 1 = ((i + 1 : Nat) : Int) by omega]
              exact hih
            · refine aj_iconst 160 (dx d_Model_measure 98 rfl) rfl ?_
              refine aj_goto 164 (dx d_Model_measure 99 rfl) rfl ?_
              refine aj_istore 4 166 (dx d_Model_measure 101 rfl) rfl rfl ?_
              simp only [List.set]
              refine aj_iinc 5 169 (dx d_Model_measure 102 rfl) rfl rfl rfl ?_
              simp only [List.set]
              refine aj_goto 57 (dx d_Model_measure 103 rfl) rfl ?_
              refine aj_forget 6 ?_
              simp only [List.set]
              have hih := ih _ (by omega) (i + 1) 1 (by omega) rfl (Or.inl ⟨rfl, i, by omega, Or.inr ⟨by omega, (hfar (by omega)).mp (by omega)⟩⟩) (fun z => absurd (show m1 = 0 by omega) z)
              rw [show ((i : Nat) : Int) + 1 = ((i + 1 : Nat) : Int) by omega]
              exact hih
          · refine aj_aload_n 0 124 (dx d_Model_measure 75 rfl) rfl rfl rfl ?_
            refine aj_getfv (v := 80) 127 fl_Model_13 (dx d_Model_measure 76 rfl) rfl hM.1.1 (by first | exact mf_output hM.1 | (simp [aj_up_at]; exact mf_output hM.1) | exact mf_output (by assumption)) ?_
            refine aj_iconst 128 (dx d_Model_measure 77 rfl) rfl ?_
            refine aj_iload_n 2 129 (dx d_Model_measure 78 rfl) rfl rfl rfl ?_
            refine aj_imul 130 (dx d_Model_measure 79 rfl) rfl ?_
            refine aj_iload 5 132 (dx d_Model_measure 80 rfl) rfl rfl ?_
            refine aj_iadd 133 (dx d_Model_measure 81 rfl) rfl ?_
            refine aj_iald 134 (dx d_Model_measure 82 rfl) rfl (ms_output hM.1) rfl (by omega) (by omega) ?_
            rw [e2]
            refine aj_aload_n 0 135 (dx d_Model_measure 83 rfl) rfl rfl rfl ?_
            refine aj_getfv (v := 80) 138 fl_Model_13 (dx d_Model_measure 84 rfl) rfl hM.1.1 (by first | exact mf_output hM.1 | (simp [aj_up_at]; exact mf_output hM.1) | exact mf_output (by assumption)) ?_
            refine aj_iconst 139 (dx d_Model_measure 85 rfl) rfl ?_
            refine aj_iload_n 3 140 (dx d_Model_measure 86 rfl) rfl rfl rfl ?_
            refine aj_imul 141 (dx d_Model_measure 87 rfl) rfl ?_
            refine aj_iload 5 143 (dx d_Model_measure 88 rfl) rfl rfl ?_
            refine aj_iadd 144 (dx d_Model_measure 89 rfl) rfl ?_
            refine aj_iald 145 (dx d_Model_measure 90 rfl) rfl (ms_output hM.1) rfl (by omega) (by omega) ?_
            rw [f2]
            refine aj_icmp_eq 163 148 (dx d_Model_measure 91 rfl) rfl rfl (by unfold aj_I; omega) (by unfold aj_I; omega) (fun h145 => ?_) (fun h145 => ?_)
            · refine aj_iconst 164 (dx d_Model_measure 100 rfl) rfl ?_
              refine aj_istore 4 166 (dx d_Model_measure 101 rfl) rfl rfl ?_
              simp only [List.set]
              refine aj_iinc 5 169 (dx d_Model_measure 102 rfl) rfl rfl rfl ?_
              simp only [List.set]
              refine aj_goto 57 (dx d_Model_measure 103 rfl) rfl ?_
              refine aj_forget 6 ?_
              simp only [List.set]
              have hih := ih _ (by omega) (i + 1) 0 (by omega) rfl (Or.inr ⟨rfl, fun i0 h0 => by
                rcases Nat.lt_or_ge i0 i with z | z
                · exact hno i0 z
                · rw [show i0 = i by omega]
                  rintro (⟨y1, y2⟩ | ⟨y1, y2⟩)
                  · exact y2 (by omega)
                  · omega⟩) (fun z => absurd (show m1 = 0 by omega) z)
              rw [show ((i : Nat) : Int) + 1 = ((i + 1 : Nat) : Int) by omega]
              exact hih
            · refine aj_goto 159 (dx d_Model_measure 92 rfl) rfl ?_
              refine aj_iconst 160 (dx d_Model_measure 98 rfl) rfl ?_
              refine aj_goto 164 (dx d_Model_measure 99 rfl) rfl ?_
              refine aj_istore 4 166 (dx d_Model_measure 101 rfl) rfl rfl ?_
              simp only [List.set]
              refine aj_iinc 5 169 (dx d_Model_measure 102 rfl) rfl rfl rfl ?_
              simp only [List.set]
              refine aj_goto 57 (dx d_Model_measure 103 rfl) rfl ?_
              refine aj_forget 6 ?_
              simp only [List.set]
              have hih := ih _ (by omega) (i + 1) 1 (by omega) rfl (Or.inl ⟨rfl, i, by omega, Or.inl ⟨by omega, by omega⟩⟩) (fun z => absurd (show m1 = 0 by omega) z)
              rw [show ((i : Nat) : Int) + 1 = ((i + 1 : Nat) : Int) by omega]
              exact hih
set_option maxHeartbeats 4000000 in
theorem k_ms_t {al : Prop} {X : Option (Nat × (Int → Int))} {d : Nat} {sh : List aj_S} {g : aj_G} {Q : aj_R → List aj_S → aj_G → Prop} {k n : Nat} {nx ou : Nat → Nat → Nat} {l s : Nat} (hl0 : 0 < l) (hl9 : l ≤ 8) (hs : s < n) (hn9 : n ≤ 8)
    (hgo : ∀ g1, (∀ r, r ≠ 81 → g1 r = g r) → mmm sh g1 k n nx ou → tdi g1 k n nx ou (ms_L l s n) → aj_wp nE al al X m_Model_measure d 0 0 209 [some (1, 78), some (0, (l : Int)), some (0, (s : Int)), none, none, none, none] [] sh g1 Q) :
    ∀ (m t : Nat) (g1 : aj_G), t ≤ n → n - t = m → (∀ r, r ≠ 81 → g1 r = g r) → mmm sh g1 k n nx ou → tdi g1 k n nx ou (ms_L l s t) →
    aj_wp nE al al X m_Model_measure d 0 0 43 [some (1, 78), some (0, (l : Int)), some (0, (s : Int)), some (0, (t : Int)), none, none, none] [] sh g1 Q := by
  intro m
  induction m using Nat.strongRecOn with
  | ind m ih =>
    intro t g1 ht hmm hF hM1 hT
    refine aj_iload_n 3 44 (dx d_Model_measure 26 rfl) rfl rfl rfl ?_
    refine aj_aload_n 0 45 (dx d_Model_measure 27 rfl) rfl rfl rfl ?_
    refine aj_getfv (v := (n : Int)) 48 fl_Model_86 (dx d_Model_measure 28 rfl) rfl hM1.1.1 hM1.2.1 ?_
    refine aj_icmp_ge 209 51 (dx d_Model_measure 29 rfl) rfl rfl (by unfold aj_I; omega) (by unfold aj_I; omega) (fun h48 => ?_) (fun h48 => ?_)
    · refine aj_forget 3 ?_
      refine aj_forget 4 ?_
      refine aj_forget 5 ?_
      simp only [List.set]
      rw [show t = n by omega] at hT
      exact hgo g1 hF hM1 hT
    · refine aj_iconst 52 (dx d_Model_measure 30 rfl) rfl ?_
      refine aj_istore 4 54 (dx d_Model_measure 31 rfl) rfl rfl ?_
      simp only [List.set]
      refine aj_iconst 55 (dx d_Model_measure 32 rfl) rfl ?_
      refine aj_istore 5 57 (dx d_Model_measure 33 rfl) rfl rfl ?_
      simp only [List.set]
      obtain ⟨m1, hm1, hm2⟩ := hT s t hs (by omega)
      have hLe : ms_L l s t s t = l - 1 := by unfold ms_L; rw [if_neg (by omega)]
      rw [hLe] at hm2
      have hL2 : ∀ a b, ms_L l s t a b ≤ l := fun a b => by unfold ms_L; split <;> omega
      have hstep : ∀ v : Nat, ((v = 0 ∧ mo_el k nx ou l s t) ∨ (wd_ln k nx ou s t v ∧ v ≤ l)) → aj_wp nE al al X m_Model_measure d 0 0 43 [some (1, 78), some (0, (l : Int)), some (0, (s : Int)), some (0, ((t + 1 : Nat) : Int)), none, none, none] [] sh (aj_up g1 81 (8 * (s : Int) + t) (v : Nat)) Q := fun v hv =>
        ih _ (by omega) (t + 1) (aj_up g1 81 (8 * (s : Int) + t) (v : Nat)) (by omega) rfl (fun r hr => by rw [aj_up_ne _ _ _ hr]; exact hF r hr) (mmm_of hM1 (fun j hj => by rw [aj_up_ne _ _ _ (by omega)]) (aj_up_ne _ _ _ (by omega)) (aj_up_ne _ _ _ (by omega))) (tdi_up hT (by omega) (by omega) hv (fun a b ha hb hne => ms_L_up hne) (by unfold ms_L; rw [if_pos (by omega)]))
      refine k_ms_in hM1 hT (fun a b => by unfold ms_L; split <;> omega) hL2 hl0 hl9 hs (by omega) hm1 (by rcases hm2 with ⟨z, -⟩ | ⟨-, z⟩ <;> omega) (by
        rcases hm2 with z | ⟨z, -⟩
        · exact Or.inl z
        · exact Or.inr (by have := ln_pos z; omega)) (fun hz => ?_) (fun hz hw => ?_) _ 0 0 (by omega) rfl (Or.inr ⟨rfl, fun i0 h => absurd h (Nat.not_lt_zero _)⟩) (fun _ i0 h => absurd h (Nat.not_lt_zero _))
      · refine aj_aload_n 0 173 (dx d_Model_measure 104 rfl) rfl rfl rfl ?_
        refine aj_getfv (v := 81) 176 fl_Model_16 (dx d_Model_measure 105 rfl) rfl hM1.1.1 (by first | exact mf_told hM1.1 | (simp [aj_up_at]; exact mf_told hM1.1) | exact mf_told (by assumption)) ?_
        refine aj_bipush 178 (dx d_Model_measure 106 rfl) rfl (by decide +kernel) ?_
        refine aj_iload_n 2 179 (dx d_Model_measure 107 rfl) rfl rfl rfl ?_
        refine aj_imul 180 (dx d_Model_measure 108 rfl) rfl ?_
        refine aj_iload_n 3 181 (dx d_Model_measure 109 rfl) rfl rfl rfl ?_
        refine aj_iadd 182 (dx d_Model_measure 110 rfl) rfl ?_
        refine aj_iload 4 184 (dx d_Model_measure 111 rfl) rfl rfl ?_
        refine aj_if_eq 191 187 (dx d_Model_measure 112 rfl) rfl rfl (by unfold aj_I; omega) (fun h184 => ?_) (fun h184 => ?_)
        · refine aj_aload_n 0 192 (dx d_Model_measure 115 rfl) rfl rfl rfl ?_
          refine aj_getfv (v := 81) 195 fl_Model_16 (dx d_Model_measure 116 rfl) rfl hM1.1.1 (by first | exact mf_told hM1.1 | (simp [aj_up_at]; exact mf_told hM1.1) | exact mf_told (by assumption)) ?_
          refine aj_bipush 197 (dx d_Model_measure 117 rfl) rfl (by decide +kernel) ?_
          refine aj_iload_n 2 198 (dx d_Model_measure 118 rfl) rfl rfl rfl ?_
          refine aj_imul 199 (dx d_Model_measure 119 rfl) rfl ?_
          refine aj_iload_n 3 200 (dx d_Model_measure 120 rfl) rfl rfl rfl ?_
          refine aj_iadd 201 (dx d_Model_measure 121 rfl) rfl ?_
          refine aj_iald 202 (dx d_Model_measure 122 rfl) rfl (ms_told hM1.1) rfl (by omega) (by omega) ?_
          rw [hm1]
          refine aj_iast 203 (dx d_Model_measure 123 rfl) rfl (ms_told hM1.1) rfl (by omega) (by omega) ?_
          refine aj_iinc 3 206 (dx d_Model_measure 124 rfl) rfl rfl rfl ?_
          simp only [List.set]
          refine aj_goto 43 (dx d_Model_measure 125 rfl) rfl ?_
          refine aj_forget 4 ?_
          simp only [List.set]
          rw [show ((t : Nat) : Int) + 1 = ((t + 1 : Nat) : Int) by omega]
          refine hstep m1 ?_
          rcases hz with z | ⟨z1, z2, z3⟩
          · rcases hm2 with ⟨y, -⟩ | ⟨y1, y2⟩
            · exact absurd y z
            · exact Or.inr ⟨y1, by omega⟩
          · exact Or.inl ⟨z1, mz_next hl0 z2 z3⟩
        · exact absurd rfl h184
      · refine aj_aload_n 0 173 (dx d_Model_measure 104 rfl) rfl rfl rfl ?_
        refine aj_getfv (v := 81) 176 fl_Model_16 (dx d_Model_measure 105 rfl) rfl hM1.1.1 (by first | exact mf_told hM1.1 | (simp [aj_up_at]; exact mf_told hM1.1) | exact mf_told (by assumption)) ?_
        refine aj_bipush 178 (dx d_Model_measure 106 rfl) rfl (by decide +kernel) ?_
        refine aj_iload_n 2 179 (dx d_Model_measure 107 rfl) rfl rfl rfl ?_
        refine aj_imul 180 (dx d_Model_measure 108 rfl) rfl ?_
        refine aj_iload_n 3 181 (dx d_Model_measure 109 rfl) rfl rfl rfl ?_
        refine aj_iadd 182 (dx d_Model_measure 110 rfl) rfl ?_
        refine aj_iload 4 184 (dx d_Model_measure 111 rfl) rfl rfl ?_
        refine aj_if_eq 191 187 (dx d_Model_measure 112 rfl) rfl rfl (by unfold aj_I; omega) (fun h184 => ?_) (fun h184 => ?_)
        · exact absurd h184 (by decide)
        · refine aj_iload_n 1 188 (dx d_Model_measure 113 rfl) rfl rfl rfl ?_
          refine aj_goto 202 (dx d_Model_measure 114 rfl) rfl ?_
          refine aj_iast 203 (dx d_Model_measure 123 rfl) rfl (ms_told hM1.1) rfl (by omega) (by omega) ?_
          refine aj_iinc 3 206 (dx d_Model_measure 124 rfl) rfl rfl rfl ?_
          simp only [List.set]
          refine aj_goto 43 (dx d_Model_measure 125 rfl) rfl ?_
          refine aj_forget 4 ?_
          simp only [List.set]
          rw [show ((t : Nat) : Int) + 1 = ((t + 1 : Nat) : Int) by omega]
          exact hstep l (Or.inr ⟨hw, Nat.le_refl _⟩)
set_option maxHeartbeats 4000000 in
theorem k_ms_s {al : Prop} {X : Option (Nat × (Int → Int))} {d : Nat} {sh : List aj_S} {g : aj_G} {Q : aj_R → List aj_S → aj_G → Prop} {k n : Nat} {nx ou : Nat → Nat → Nat} {l : Nat} (hl0 : 0 < l) (hl9 : l ≤ 8) (hn9 : n ≤ 8)
    (hgo : ∀ g1, (∀ r, r ≠ 81 → g1 r = g r) → mmm sh g1 k n nx ou → tdi g1 k n nx ou (fun _ _ => l) → aj_wp nE al al X m_Model_measure d 0 0 215 [some (1, 78), some (0, (l : Int)), none, none, none, none, none] [] sh g1 Q) :
    ∀ (m s : Nat) (g1 : aj_G), s ≤ n → n - s = m → (∀ r, r ≠ 81 → g1 r = g r) → mmm sh g1 k n nx ou → tdi g1 k n nx ou (ms_L l s 0) →
    aj_wp nE al al X m_Model_measure d 0 0 33 [some (1, 78), some (0, (l : Int)), some (0, (s : Int)), none, none, none, none] [] sh g1 Q := by
  intro m
  induction m using Nat.strongRecOn with
  | ind m ih =>
    intro s g1 hs hmm hF hM1 hT
    refine aj_iload_n 2 34 (dx d_Model_measure 20 rfl) rfl rfl rfl ?_
    refine aj_aload_n 0 35 (dx d_Model_measure 21 rfl) rfl rfl rfl ?_
    refine aj_getfv (v := (n : Int)) 38 fl_Model_86 (dx d_Model_measure 22 rfl) rfl hM1.1.1 hM1.2.1 ?_
    refine aj_icmp_ge 215 41 (dx d_Model_measure 23 rfl) rfl rfl (by unfold aj_I; omega) (by unfold aj_I; omega) (fun h38 => ?_) (fun h38 => ?_)
    · refine aj_forget 2 ?_
      simp only [List.set]
      rw [show s = n by omega] at hT
      exact hgo g1 hF hM1 (fun a b ha hb => by
        obtain ⟨m', e1, e2⟩ := hT a b ha hb
        refine ⟨m', e1, ?_⟩
        have : ms_L l n 0 a b = l := by unfold ms_L; rw [if_pos (by omega)]
        rw [this] at e2
        exact e2)
    · refine aj_iconst 42 (dx d_Model_measure 24 rfl) rfl ?_
      refine aj_istore_n 3 43 (dx d_Model_measure 25 rfl) rfl rfl rfl ?_
      simp only [List.set]
      refine k_ms_t hl0 hl9 (show s < n by omega) hn9 (g := g1) (fun g2 hF2 hM2 hT2 => ?_) _ 0 g1 (by omega) rfl (fun r _ => rfl) hM1 hT
      refine aj_iinc 2 212 (dx d_Model_measure 126 rfl) rfl rfl rfl ?_
      simp only [List.set]
      refine aj_goto 33 (dx d_Model_measure 127 rfl) rfl ?_
      rw [show ((s : Nat) : Int) + 1 = ((s + 1 : Nat) : Int) by omega]
      exact ih _ (by omega) (s + 1) g2 (by omega) rfl (fun r hr => (hF2 r hr).trans (hF r hr)) hM2 (fun a b ha hb => by
        obtain ⟨m', e1, e2⟩ := hT2 a b ha hb
        refine ⟨m', e1, ?_⟩
        have : ms_L l (s + 1) 0 a b = ms_L l s n a b := by
          unfold ms_L
          by_cases z : a < s ∨ (a = s ∧ b < n)
          · rw [if_pos z, if_pos (by omega)]
          · rw [if_neg z, if_neg (by omega)]
        rw [this]
        exact e2)
set_option maxHeartbeats 4000000 in
theorem k_ms_l {al : Prop} {X : Option (Nat × (Int → Int))} {d : Nat} {sh : List aj_S} {g : aj_G} {Q : aj_R → List aj_S → aj_G → Prop} {k n : Nat} {nx ou : Nat → Nat → Nat} (hs0 : ∀ s i, s < n → i < k → nx s i < n) (hk : ∀ g1, (∀ r, r ≠ 81 → g1 r = g r) → mmm sh g1 k n nx ou → tdm g1 k n nx ou → Q (.inl none) sh g1) : ∀ (m l : Nat) (g1 : aj_G), 1 ≤ l → l ≤ n + 1 → n + 1 - l = m → (∀ r, r ≠ 81 → g1 r = g r) → mmm sh g1 k n nx ou → tdi g1 k n nx ou (fun _ _ => l - 1) →
    aj_wp nE al al X m_Model_measure d 0 0 23 [some (1, 78), some (0, (l : Int)), none, none, none, none, none] [] sh g1 Q := by
  intro m
  induction m using Nat.strongRecOn with
  | ind m ih =>
    intro l g1 hl1 hln hmm hF hM1 hT
    have hn8 := hM1.2.2.2.2.1
    refine aj_iload_n 1 24 (dx d_Model_measure 14 rfl) rfl rfl rfl ?_
    refine aj_aload_n 0 25 (dx d_Model_measure 15 rfl) rfl rfl rfl ?_
    refine aj_getfv (v := (n : Int)) 28 fl_Model_86 (dx d_Model_measure 16 rfl) rfl hM1.1.1 hM1.2.1 ?_
    refine aj_icmp_gt 221 31 (dx d_Model_measure 17 rfl) rfl rfl (by unfold aj_I; omega) (by unfold aj_I; omega) (fun h28 => ?_) (fun h28 => ?_)
    · refine aj_vret (dx d_Model_measure 130 rfl) rfl id ?_
      refine hk g1 hF hM1 (fun a b ha hb => ?_)
      obtain ⟨m', e1, e2⟩ := hT a b ha hb
      rw [show l - 1 = n by omega] at e2
      rcases e2 with ⟨z1, z2⟩ | ⟨z1, z2⟩
      · exact ⟨m', e1, by omega, Or.inl ⟨z1, fun w hw hd => mo_bound (by omega) hs0 ha hb (mo_el_le (show mo_el k nx ou n a b from z2) (by omega)) w.length w hw (Nat.le_refl _) hd⟩⟩
      · exact ⟨m', e1, z2, Or.inr z1⟩
    · refine aj_iconst 32 (dx d_Model_measure 18 rfl) rfl ?_
      refine aj_istore_n 2 33 (dx d_Model_measure 19 rfl) rfl rfl rfl ?_
      simp only [List.set]
      refine k_ms_s (l := l) (by omega) (by omega) (by omega) (g := g1) (fun g2 hF2 hM2 hT2 => ?_) _ 0 g1 (by omega) rfl (fun r _ => rfl) hM1 (fun a b ha hb => by
        obtain ⟨m', e1, e2⟩ := hT a b ha hb
        refine ⟨m', e1, ?_⟩
        have : ms_L l 0 0 a b = l - 1 := by unfold ms_L; rw [if_neg (by omega)]
        rw [this]
        exact e2)
      refine aj_iinc 1 218 (dx d_Model_measure 128 rfl) rfl rfl rfl ?_
      simp only [List.set]
      refine aj_goto 23 (dx d_Model_measure 129 rfl) rfl ?_
      rw [show ((l : Nat) : Int) + 1 = ((l + 1 : Nat) : Int) by omega]
      exact ih _ (by omega) (l + 1) g2 (by omega) (by omega) rfl (fun r hr => (hF2 r hr).trans (hF r hr)) hM2 hT2
set_option maxHeartbeats 4000000 in
theorem k_ms_z {al : Prop} {X : Option (Nat × (Int → Int))} {d : Nat} {sh : List aj_S} {g : aj_G} {Q : aj_R → List aj_S → aj_G → Prop} {k n : Nat} {nx ou : Nat → Nat → Nat} (hs0 : ∀ s i, s < n → i < k → nx s i < n) (hk : ∀ g1, (∀ r, r ≠ 81 → g1 r = g r) → mmm sh g1 k n nx ou → tdm g1 k n nx ou → Q (.inl none) sh g1) : ∀ (m x : Nat) (g1 : aj_G), x ≤ 64 → 64 - x = m → (∀ r, r ≠ 81 → g1 r = g r) → mmm sh g1 k n nx ou → (∀ y : Nat, y < x → g1 81 (y : Nat) = 0) →
    aj_wp nE al al X m_Model_measure d 0 0 2 [some (1, 78), some (0, (x : Int)), none, none, none, none, none] [] sh g1 Q := by
  intro m
  induction m using Nat.strongRecOn with
  | ind m ih =>
    intro x g1 hx hmm hF hM1 hZ
    have hn8 := hM1.2.2.2.2.1
    refine aj_iload_n 1 3 (dx d_Model_measure 2 rfl) rfl rfl rfl ?_
    refine aj_bipush 5 (dx d_Model_measure 3 rfl) rfl (by decide +kernel) ?_
    refine aj_icmp_ge 21 8 (dx d_Model_measure 4 rfl) rfl rfl (by unfold aj_I; omega) (by unfold aj_I; omega) (fun h5 => ?_) (fun h5 => ?_)
    · refine aj_iconst 22 (dx d_Model_measure 12 rfl) rfl ?_
      refine aj_istore_n 1 23 (dx d_Model_measure 13 rfl) rfl rfl rfl ?_
      simp only [List.set]
      refine k_ms_l hs0 hk _ 1 g1 (by omega) (by omega) rfl hF hM1 (fun a b ha hb => ⟨0, ?_, Or.inl ⟨rfl, ?_⟩⟩)
      · exact hZ (8 * a + b) (by omega)
      · intro w hw hwl hd
        have hwl0 : w.length ≤ 1 - 1 := hwl
        have : w = [] := List.length_eq_zero_iff.mp (by omega)
        subst this
        exact hd
    · refine aj_aload_n 0 9 (dx d_Model_measure 5 rfl) rfl rfl rfl ?_
      refine aj_getfv (v := 81) 12 fl_Model_16 (dx d_Model_measure 6 rfl) rfl hM1.1.1 (by first | exact mf_told hM1.1 | (simp [aj_up_at]; exact mf_told hM1.1) | exact mf_told (by assumption)) ?_
      refine aj_iload_n 1 13 (dx d_Model_measure 7 rfl) rfl rfl rfl ?_
      refine aj_iconst 14 (dx d_Model_measure 8 rfl) rfl ?_
      refine aj_iast 15 (dx d_Model_measure 9 rfl) rfl (ms_told hM1.1) rfl (by omega) (by omega) ?_
      refine aj_iinc 1 18 (dx d_Model_measure 10 rfl) rfl rfl rfl ?_
      simp only [List.set]
      refine aj_goto 2 (dx d_Model_measure 11 rfl) rfl ?_
      rw [show ((x : Nat) : Int) + 1 = ((x + 1 : Nat) : Int) by omega]
      exact ih _ (by omega) (x + 1) _ (by omega) rfl (fun r hr => by rw [aj_up_ne _ _ _ hr]; exact hF r hr) (mmm_of hM1 (fun j hj => by rw [aj_up_ne _ _ _ (by omega)]) (aj_up_ne _ _ _ (by omega)) (aj_up_ne _ _ _ (by omega))) (fun y hy => by
        by_cases e : y = x
        · subst e; rw [aj_up_self]
        · rw [aj_up_ni _ _ _ (by omega)]; exact hZ y (by omega))
set_option maxHeartbeats 4000000 in
theorem k_Model_measure {al : Prop} {X : Option (Nat × (Int → Int))} {d : Nat} {sh : List aj_S} {g : aj_G} {Q : aj_R → List aj_S → aj_G → Prop} {k n : Nat} {nx ou : Nat → Nat → Nat} (hM : mmm sh g k n nx ou) (hs0 : ∀ s i, s < n → i < k → nx s i < n) (hk : ∀ g1, (∀ r, r ≠ 81 → g1 r = g r) → mmm sh g1 k n nx ou → tdm g1 k n nx ou → Q (.inl none) sh g1) : aj_wp nE al al X m_Model_measure d 0 0 0 [some (1, 78), none, none, none, none, none, none] [] sh g Q := by
  refine aj_iconst 1 (dx d_Model_measure 0 rfl) rfl ?_
  refine aj_istore_n 1 2 (dx d_Model_measure 1 rfl) rfl rfl rfl ?_
  simp only [List.set]
  exact k_ms_z hs0 hk _ 0 g (by omega) rfl (fun r _ => rfl) hM (fun y hy => absurd hy (Nat.not_lt_zero _))
