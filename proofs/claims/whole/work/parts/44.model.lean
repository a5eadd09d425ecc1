/-! Model: the small questions, led, tells, fits, leastWord -/
def mmm (sh : List aj_S) (g : aj_G) (k n : Nat) (nx ou : Nat → Nat → Nat) : Prop := mos sh g ∧ g 78 1 = n ∧ g 78 2 = k ∧ (1 ≤ k ∧ k ≤ 3) ∧ (1 ≤ n ∧ n ≤ 8) ∧ ∀ x i : Nat, x < n → i < k → g 79 (3 * (x : Int) + i) = nx x i ∧ g 80 (3 * (x : Int) + i) = ou x i ∧ nx x i < n ∧ ou x i < 4
theorem mmm_of {sh : List aj_S} {g g1 : aj_G} {k n : Nat} {nx ou : Nat → Nat → Nat} (h : mmm sh g k n nx ou) (e : ∀ j, mo_fin j ∨ j = 1 ∨ j = 2 → g1 78 j = g 78 j) (e1 : g1 79 = g 79) (e2 : g1 80 = g 80) : mmm sh g1 k n nx ou :=
  ⟨mos_of h.1 (fun j hj => e j (Or.inl hj)), by rw [e 1 (by omega)]; exact h.2.1, by rw [e 2 (by omega)]; exact h.2.2.1, h.2.2.2.1, h.2.2.2.2.1, fun x i hx hi => by rw [e1, e2]; exact h.2.2.2.2.2 x i hx hi⟩
set_option maxHeartbeats 4000000 in
theorem k_Model_isState {al : Prop} {X : Option (Nat × (Int → Int))} {d : Nat} {sh : List aj_S} {g : aj_G} {Q : aj_R → List aj_S → aj_G → Prop} {s : Int} {k n : Nat} {nx ou : Nat → Nat → Nat}
    (hM : mmm sh g k n nx ou) (hx : aj_I s) (hk : Q (.inl (some (0, if 0 ≤ s ∧ s < n then 1 else 0))) sh g) : aj_wp nE al al X m_Model_isState (d) 0 0 0 [some (1, 78), some (0, s)] [] sh g Q := by
  refine aj_iload_n 1 1 (dx d_Model_isState 0 rfl) rfl rfl rfl ?_
  refine aj_if_lt 16 4 (dx d_Model_isState 1 rfl) rfl rfl hx (fun h1 => ?_) (fun h1 => ?_)
  · refine aj_iconst 17 (dx d_Model_isState 8 rfl) rfl ?_
    refine aj_zret (dx d_Model_isState 9 rfl) rfl (by omega) id ?_
    first | (rw [if_pos (by omega)] at hk; exact hk) | (rw [if_neg (by omega)] at hk; exact hk)
  · refine aj_iload_n 1 5 (dx d_Model_isState 2 rfl) rfl rfl rfl ?_
    refine aj_aload_n 0 6 (dx d_Model_isState 3 rfl) rfl rfl rfl ?_
    refine aj_getf 9 fl_Model_86 (dx d_Model_isState 4 rfl) rfl hM.1.1 ?_
    refine aj_icmp_ge 16 12 (dx d_Model_isState 5 rfl) rfl rfl hx (by rw [hM.2.1]; have := hM.2.2.2.2.1; unfold aj_I; omega) (fun h9 => ?_) (fun h9 => ?_)
    · rw [hM.2.1] at h9
      refine aj_iconst 17 (dx d_Model_isState 8 rfl) rfl ?_
      refine aj_zret (dx d_Model_isState 9 rfl) rfl (by omega) id ?_
      first | (rw [if_pos (by omega)] at hk; exact hk) | (rw [if_neg (by omega)] at hk; exact hk)
    · rw [hM.2.1] at h9
      refine aj_iconst 13 (dx d_Model_isState 6 rfl) rfl ?_
      refine aj_goto 17 (dx d_Model_isState 7 rfl) rfl ?_
      refine aj_zret (dx d_Model_isState 9 rfl) rfl (by omega) id ?_
      first | (rw [if_pos (by omega)] at hk; exact hk) | (rw [if_neg (by omega)] at hk; exact hk)

set_option maxHeartbeats 4000000 in
theorem k_Model_isInput {al : Prop} {X : Option (Nat × (Int → Int))} {d : Nat} {sh : List aj_S} {g : aj_G} {Q : aj_R → List aj_S → aj_G → Prop} {s : Int} {k n : Nat} {nx ou : Nat → Nat → Nat}
    (hM : mmm sh g k n nx ou) (hx : aj_I s) (hk : Q (.inl (some (0, if 0 ≤ s ∧ s < k then 1 else 0))) sh g) : aj_wp nE al al X m_Model_isInput (d) 0 0 0 [some (1, 78), some (0, s)] [] sh g Q := by
  refine aj_iload_n 1 1 (dx d_Model_isInput 0 rfl) rfl rfl rfl ?_
  refine aj_if_lt 16 4 (dx d_Model_isInput 1 rfl) rfl rfl hx (fun h1 => ?_) (fun h1 => ?_)
  · refine aj_iconst 17 (dx d_Model_isInput 8 rfl) rfl ?_
    refine aj_zret (dx d_Model_isInput 9 rfl) rfl (by omega) id ?_
    first | (rw [if_pos (by omega)] at hk; exact hk) | (rw [if_neg (by omega)] at hk; exact hk)
  · refine aj_iload_n 1 5 (dx d_Model_isInput 2 rfl) rfl rfl rfl ?_
    refine aj_aload_n 0 6 (dx d_Model_isInput 3 rfl) rfl rfl rfl ?_
    refine aj_getf 9 fl_Model_89 (dx d_Model_isInput 4 rfl) rfl hM.1.1 ?_
    refine aj_icmp_ge 16 12 (dx d_Model_isInput 5 rfl) rfl rfl hx (by rw [hM.2.2.1]; have := hM.2.2.2.1; unfold aj_I; omega) (fun h9 => ?_) (fun h9 => ?_)
    · rw [hM.2.2.1] at h9
      refine aj_iconst 17 (dx d_Model_isInput 8 rfl) rfl ?_
      refine aj_zret (dx d_Model_isInput 9 rfl) rfl (by omega) id ?_
      first | (rw [if_pos (by omega)] at hk; exact hk) | (rw [if_neg (by omega)] at hk; exact hk)
    · rw [hM.2.2.1] at h9
      refine aj_iconst 13 (dx d_Model_isInput 6 rfl) rfl ?_
      refine aj_goto 17 (dx d_Model_isInput 7 rfl) rfl ?_
      refine aj_zret (dx d_Model_isInput 9 rfl) rfl (by omega) id ?_
      first | (rw [if_pos (by omega)] at hk; exact hk) | (rw [if_neg (by omega)] at hk; exact hk)

set_option maxHeartbeats 4000000 in
theorem k_Model_isOutput {al : Prop} {X : Option (Nat × (Int → Int))} {d : Nat} {sh : List aj_S} {g : aj_G} {Q : aj_R → List aj_S → aj_G → Prop} {s : Int}
    (hx : aj_I s) (hk : Q (.inl (some (0, if 0 ≤ s ∧ s < 4 then 1 else 0))) sh g) : aj_wp nE al al X m_Model_isOutput (d) 0 0 0 [some (0, s)] [] sh g Q := by
  refine aj_iload_n 0 1 (dx d_Model_isOutput 0 rfl) rfl rfl rfl ?_
  refine aj_if_lt 13 4 (dx d_Model_isOutput 1 rfl) rfl rfl hx (fun h1 => ?_) (fun h1 => ?_)
  · refine aj_iconst 14 (dx d_Model_isOutput 7 rfl) rfl ?_
    refine aj_zret (dx d_Model_isOutput 8 rfl) rfl (by omega) id ?_
    first | (rw [if_pos (by omega)] at hk; exact hk) | (rw [if_neg (by omega)] at hk; exact hk)
  · refine aj_iload_n 0 5 (dx d_Model_isOutput 2 rfl) rfl rfl rfl ?_
    refine aj_iconst 6 (dx d_Model_isOutput 3 rfl) rfl ?_
    refine aj_icmp_ge 13 9 (dx d_Model_isOutput 4 rfl) rfl rfl hx (by unfold aj_I; omega) (fun h6 => ?_) (fun h6 => ?_)
    · refine aj_iconst 14 (dx d_Model_isOutput 7 rfl) rfl ?_
      refine aj_zret (dx d_Model_isOutput 8 rfl) rfl (by omega) id ?_
      first | (rw [if_pos (by omega)] at hk; exact hk) | (rw [if_neg (by omega)] at hk; exact hk)
    · refine aj_iconst 10 (dx d_Model_isOutput 5 rfl) rfl ?_
      refine aj_goto 14 (dx d_Model_isOutput 6 rfl) rfl ?_
      refine aj_zret (dx d_Model_isOutput 8 rfl) rfl (by omega) id ?_
      first | (rw [if_pos (by omega)] at hk; exact hk) | (rw [if_neg (by omega)] at hk; exact hk)

set_option maxHeartbeats 4000000 in
theorem k_Model_thrown {al : Prop} {X : Option (Nat × (Int → Int))} {d : Nat} {sh : List aj_S} {g : aj_G} {Q : aj_R → List aj_S → aj_G → Prop} 
    (hm : aj_sh sh 78 = some (.inr 8)) (hk : Q (.inl (some (0, g 78 0))) sh g) : aj_wp nE al al X m_Model_thrown (d) 0 0 0 [some (1, 78)] [] sh g Q := by
  refine aj_aload_n 0 1 (dx d_Model_thrown 0 rfl) rfl rfl rfl ?_
  refine aj_getf 4 fl_Model_92 (dx d_Model_thrown 1 rfl) rfl (by assumption) ?_
  refine aj_iret (dx d_Model_thrown 2 rfl) rfl id ?_
  exact hk

set_option maxHeartbeats 4000000 in
theorem k_led_loop {al : Prop} {X : Option (Nat × (Int → Int))} {d : Nat} {sh : List aj_S} {g : aj_G} {Q : aj_R → List aj_S → aj_G → Prop} {k n : Nat} {nx ou : Nat → Nat → Nat} (hM : mmm sh g k n nx ou) {w : List Nat} (hok : wd_ok k w) (hl : w.length ≤ 24) {s : Nat} (hs : s < n) (hk : Q (.inl (some (0, (rn nx s w : Int)))) sh g) : ∀ (m i a : Nat), i ≤ w.length → w.length - i = m → a < n → a = rn nx s (w.drop (w.length - i)) →
    aj_wp nE al al X m_Model_led (d + 2) 0 0 6 [some (1, 78), some (0, (s : Int)), some (2, (wd_cd w : Int)), none, some (0, (a : Int)), some (0, (i : Int))] [] sh g Q := by
  have hk4 := hM.2.2.2.1
  have hn8 := hM.2.2.2.2.1
  intro m
  induction m using Nat.strongRecOn with
  | ind m ih =>
    intro i a hi hmm ha hd1
    refine aj_iload 5 8 (dx d_Model_led 4 rfl) rfl rfl ?_
    refine aj_lload_n 2 9 (dx d_Model_led 5 rfl) rfl rfl rfl ?_
    refine aj_callS1 12 cl_Model_112 (dx d_Model_led 6 rfl) rfl rfl rfl rfl rfl rfl (k_Model_length (wd_ok_le (by omega) hok) hl ?_)
    change aj_wp _ _ _ _ _ _ _ _ _ _ _ _ _ _
    refine aj_icmp_ge 39 15 (dx d_Model_led 7 rfl) rfl rfl (by unfold aj_I; omega) (by unfold aj_I; omega) (fun h12 => ?_) (fun h12 => ?_)
    · refine aj_iload 4 41 (dx d_Model_led 21 rfl) rfl rfl ?_
      refine aj_iret (dx d_Model_led 22 rfl) rfl id ?_
      rw [hd1, show w.length - i = 0 by omega]
      exact hk
    · obtain ⟨j, hj⟩ : ∃ j : Nat, w.length = i + 1 + j := ⟨w.length - (i + 1), by omega⟩
      have hjl : j < w.length := by omega
      have hlk : w[j] < k := hok _ (List.getElem_mem hjl)
      have hdr : w.drop j = w[j] :: w.drop (j + 1) := List.drop_eq_getElem_cons hjl
      have he : w.length - i = j + 1 := by omega
      have hwi : w[w.length - 1 - i]'(by omega) = w[j] := by congr 1; omega
      rw [he] at hd1
      refine aj_aload_n 0 16 (dx d_Model_led 8 rfl) rfl rfl rfl ?_
      refine aj_getfv (v := 79) 19 fl_Model_7 (dx d_Model_led 9 rfl) rfl hM.1.1 (by first | exact mf_next hM.1 | (simp [aj_up_at]; exact mf_next hM.1) | exact mf_next (by assumption)) ?_
      refine aj_iconst 20 (dx d_Model_led 10 rfl) rfl ?_
      refine aj_iload 4 22 (dx d_Model_led 11 rfl) rfl rfl ?_
      refine aj_imul 23 (dx d_Model_led 12 rfl) rfl ?_
      refine aj_lload_n 2 24 (dx d_Model_led 13 rfl) rfl rfl rfl ?_
      refine aj_iload 5 26 (dx d_Model_led 14 rfl) rfl rfl ?_
      refine aj_callS2 29 cl_Model_118 (dx d_Model_led 15 rfl) rfl rfl rfl rfl rfl rfl (k_Model_at (wd_ok_le (by omega) hok) hl (show i < w.length by omega) ?_)
      change aj_wp _ _ _ _ _ _ _ _ _ _ _ _ _ _
      rw [hwi]
      refine aj_iadd 30 (dx d_Model_led 16 rfl) rfl ?_
      refine aj_iald 31 (dx d_Model_led 17 rfl) rfl (ms_next hM.1) rfl (by omega) (by omega) ?_
      rw [(hM.2.2.2.2.2 a w[j] ha hlk).1]
      refine aj_istore 4 33 (dx d_Model_led 18 rfl) rfl rfl ?_
      simp only [List.set]
      refine aj_iinc 5 36 (dx d_Model_led 19 rfl) rfl rfl rfl ?_
      simp only [List.set]
      refine aj_goto 6 (dx d_Model_led 20 rfl) rfl ?_
      have hih := ih _ (by omega) (i + 1) (nx a w[j]) (by omega) rfl (hM.2.2.2.2.2 a w[j] ha hlk).2.2.1 (by rw [show w.length - (i + 1) = j by omega, hdr, hd1]; rfl)
      rw [show ((i : Nat) : Int) + 1 = ((i + 1 : Nat) : Int) by omega]
      exact hih
set_option maxHeartbeats 4000000 in
theorem k_Model_led {al : Prop} {X : Option (Nat × (Int → Int))} {d : Nat} {sh : List aj_S} {g : aj_G} {Q : aj_R → List aj_S → aj_G → Prop} {k n : Nat} {nx ou : Nat → Nat → Nat} (hM : mmm sh g k n nx ou) {w : List Nat} (hok : wd_ok k w) (hl : w.length ≤ 24) {s : Nat} (hs : s < n) (hk : Q (.inl (some (0, (rn nx s w : Int)))) sh g) : aj_wp nE al al X m_Model_led (d + 2) 0 0 0 [some (1, 78), some (0, (s : Int)), some (2, (wd_cd w : Int)), none, none, none] [] sh g Q := by
  refine aj_iload_n 1 1 (dx d_Model_led 0 rfl) rfl rfl rfl ?_
  refine aj_istore 4 3 (dx d_Model_led 1 rfl) rfl rfl ?_
  simp only [List.set]
  refine aj_iconst 4 (dx d_Model_led 2 rfl) rfl ?_
  refine aj_istore 5 6 (dx d_Model_led 3 rfl) rfl rfl ?_
  simp only [List.set]
  exact k_led_loop hM hok hl hs hk _ 0 s (by omega) rfl hs (by rw [Nat.sub_zero, List.drop_length]; rfl)
set_option maxHeartbeats 4000000 in
theorem k_mtells_loop {al : Prop} {X : Option (Nat × (Int → Int))} {d : Nat} {sh : List aj_S} {g : aj_G} {Q : aj_R → List aj_S → aj_G → Prop} {k n : Nat} {nx ou : Nat → Nat → Nat} (hM : mmm sh g k n nx ou) {w : List Nat} (hok : wd_ok k w) (hl : w.length ≤ 24) {s t : Nat} (hs : s < n) (ht : t < n) (hk1 : tl nx ou s t w → Q (.inl (some (0, 1))) sh g) (hk0 : ¬ tl nx ou s t w → Q (.inl (some (0, 0))) sh g) : ∀ (m i a b : Nat) (x : Int), i ≤ w.length → w.length - i = m → a < n → b < n → a = rn nx s (w.drop (w.length - i)) → b = rn nx t (w.drop (w.length - i)) → ((x = 1 ∧ tl nx ou s t (w.drop (w.length - i))) ∨ (x = 0 ∧ ¬ tl nx ou s t (w.drop (w.length - i)))) →
    aj_wp nE al al X m_Model_tells (d + 2) 0 0 13 [some (1, 78), some (2, (wd_cd w : Int)), none, some (0, (s : Int)), some (0, (t : Int)), some (0, (a : Int)), some (0, (b : Int)), some (0, x), some (0, (i : Int)), none] [] sh g Q := by
  have hk4 := hM.2.2.2.1
  have hn8 := hM.2.2.2.2.1
  intro m
  induction m using Nat.strongRecOn with
  | ind m ih =>
    intro i a b x hi hmm ha hb hd1 hd2 hdf
    refine aj_iload 8 15 (dx d_Model_tells 8 rfl) rfl rfl ?_
    refine aj_lload_n 1 16 (dx d_Model_tells 9 rfl) rfl rfl rfl ?_
    refine aj_callS1 19 cl_Model_112 (dx d_Model_tells 10 rfl) rfl rfl rfl rfl rfl rfl (k_Model_length (wd_ok_le (by omega) hok) hl ?_)
    change aj_wp _ _ _ _ _ _ _ _ _ _ _ _ _ _
    refine aj_icmp_ge 103 22 (dx d_Model_tells 11 rfl) rfl rfl (by unfold aj_I; omega) (by unfold aj_I; omega) (fun h19 => ?_) (fun h19 => ?_)
    · refine aj_iload 7 105 (dx d_Model_tells 59 rfl) rfl rfl ?_
      refine aj_zret (dx d_Model_tells 60 rfl) rfl (by omega) id ?_
      rw [show w.length - i = 0 by omega] at hdf
      rcases hdf with ⟨h, h2⟩ | ⟨h, h2⟩
      · rw [h]; exact hk1 h2
      · rw [h]; exact hk0 h2
    · obtain ⟨j, hj⟩ : ∃ j : Nat, w.length = i + 1 + j := ⟨w.length - (i + 1), by omega⟩
      have hjl : j < w.length := by omega
      have hlk : w[j] < k := hok _ (List.getElem_mem hjl)
      have hdr : w.drop j = w[j] :: w.drop (j + 1) := List.drop_eq_getElem_cons hjl
      have he : w.length - i = j + 1 := by omega
      have hwi : w[w.length - 1 - i]'(by omega) = w[j] := by congr 1; omega
      rw [he] at hd1 hd2 hdf
      have ho1 := (hM.2.2.2.2.2 a w[j] ha hlk).2.2.2
      have ho2 := (hM.2.2.2.2.2 b w[j] hb hlk).2.2.2
      refine aj_lload_n 1 23 (dx d_Model_tells 12 rfl) rfl rfl rfl ?_
      refine aj_iload 8 25 (dx d_Model_tells 13 rfl) rfl rfl ?_
      refine aj_callS2 28 cl_Model_118 (dx d_Model_tells 14 rfl) rfl rfl rfl rfl rfl rfl (k_Model_at (wd_ok_le (by omega) hok) hl (show i < w.length by omega) ?_)
      change aj_wp _ _ _ _ _ _ _ _ _ _ _ _ _ _
      rw [hwi]
      refine aj_istore 9 30 (dx d_Model_tells 15 rfl) rfl rfl ?_
      simp only [List.set]
      refine aj_iload 7 32 (dx d_Model_tells 16 rfl) rfl rfl ?_
      refine aj_if_ne 62 35 (dx d_Model_tells 17 rfl) rfl rfl (by rcases hdf with ⟨h, -⟩ | ⟨h, -⟩ <;> rw [h] <;> unfold aj_I <;> omega) (fun h32 => ?_) (fun h32 => ?_)
      · have hz : x = 1 := by rcases hdf with ⟨h, -⟩ | ⟨h, -⟩ <;> omega
        have htl : tl nx ou s t (w.drop (j + 1)) := by rcases hdf with ⟨-, h⟩ | ⟨h, -⟩
                                                       · exact h
                                                       · omega
        refine aj_iconst 63 (dx d_Model_tells 35 rfl) rfl ?_
        refine aj_goto 67 (dx d_Model_tells 36 rfl) rfl ?_
        refine aj_istore 7 69 (dx d_Model_tells 38 rfl) rfl rfl ?_
        simp only [List.set]
        refine aj_aload_n 0 70 (dx d_Model_tells 39 rfl) rfl rfl rfl ?_
        refine aj_getfv (v := 79) 73 fl_Model_7 (dx d_Model_tells 40 rfl) rfl hM.1.1 (by first | exact mf_next hM.1 | (simp [aj_up_at]; exact mf_next hM.1) | exact mf_next (by assumption)) ?_
        refine aj_iconst 74 (dx d_Model_tells 41 rfl) rfl ?_
        refine aj_iload 5 76 (dx d_Model_tells 42 rfl) rfl rfl ?_
        refine aj_imul 77 (dx d_Model_tells 43 rfl) rfl ?_
        refine aj_iload 9 79 (dx d_Model_tells 44 rfl) rfl rfl ?_
        refine aj_iadd 80 (dx d_Model_tells 45 rfl) rfl ?_
        refine aj_iald 81 (dx d_Model_tells 46 rfl) rfl (ms_next hM.1) rfl (by omega) (by omega) ?_
        rw [(hM.2.2.2.2.2 a w[j] ha hlk).1]
        refine aj_istore 5 83 (dx d_Model_tells 47 rfl) rfl rfl ?_
        simp only [List.set]
        refine aj_aload_n 0 84 (dx d_Model_tells 48 rfl) rfl rfl rfl ?_
        refine aj_getfv (v := 79) 87 fl_Model_7 (dx d_Model_tells 49 rfl) rfl hM.1.1 (by first | exact mf_next hM.1 | (simp [aj_up_at]; exact mf_next hM.1) | exact mf_next (by assumption)) ?_
        refine aj_iconst 88 (dx d_Model_tells 50 rfl) rfl ?_
        refine aj_iload 6 90 (dx d_Model_tells 51 rfl) rfl rfl ?_
        refine aj_imul 91 (dx d_Model_tells 52 rfl) rfl ?_
        refine aj_iload 9 93 (dx d_Model_tells 53 rfl) rfl rfl ?_
        refine aj_iadd 94 (dx d_Model_tells 54 rfl) rfl ?_
        refine aj_iald 95 (dx d_Model_tells 55 rfl) rfl (ms_next hM.1) rfl (by omega) (by omega) ?_
        rw [(hM.2.2.2.2.2 b w[j] hb hlk).1]
        refine aj_istore 6 97 (dx d_Model_tells 56 rfl) rfl rfl ?_
        simp only [List.set]
        refine aj_iinc 8 100 (dx d_Model_tells 57 rfl) rfl rfl rfl ?_
        simp only [List.set]
        refine aj_goto 13 (dx d_Model_tells 58 rfl) rfl ?_
        refine aj_forget 9 ?_
        simp only [List.set]
        have hih := ih _ (by omega) (i + 1) (nx a w[j]) (nx b w[j]) 1 (by omega) rfl (hM.2.2.2.2.2 a w[j] ha hlk).2.2.1 (hM.2.2.2.2.2 b w[j] hb hlk).2.2.1 (by rw [show w.length - (i + 1) = j by omega, hdr, hd1]; rfl) (by rw [show w.length - (i + 1) = j by omega, hdr, hd2]; rfl) (Or.inl ⟨rfl, by rw [show w.length - (i + 1) = j by omega, hdr]; exact Or.inl htl⟩)
        rw [show ((i : Nat) : Int) + 1 = ((i + 1 : Nat) : Int) by omega]
        exact hih
      · have hz : x = 0 := by omega
        have hnt : ¬ tl nx ou s t (w.drop (j + 1)) := by rcases hdf with ⟨h, -⟩ | ⟨-, h⟩
                                                         · omega
                                                         · exact h
        refine aj_aload_n 0 36 (dx d_Model_tells 18 rfl) rfl rfl rfl ?_
        refine aj_getfv (v := 80) 39 fl_Model_13 (dx d_Model_tells 19 rfl) rfl hM.1.1 (by first | exact mf_output hM.1 | (simp [aj_up_at]; exact mf_output hM.1) | exact mf_output (by assumption)) ?_
        refine aj_iconst 40 (dx d_Model_tells 20 rfl) rfl ?_
        refine aj_iload 5 42 (dx d_Model_tells 21 rfl) rfl rfl ?_
        refine aj_imul 43 (dx d_Model_tells 22 rfl) rfl ?_
        refine aj_iload 9 45 (dx d_Model_tells 23 rfl) rfl rfl ?_
        refine aj_iadd 46 (dx d_Model_tells 24 rfl) rfl ?_
        refine aj_iald 47 (dx d_Model_tells 25 rfl) rfl (ms_output hM.1) rfl (by omega) (by omega) ?_
        rw [(hM.2.2.2.2.2 a w[j] ha hlk).2.1]
        refine aj_aload_n 0 48 (dx d_Model_tells 26 rfl) rfl rfl rfl ?_
        refine aj_getfv (v := 80) 51 fl_Model_13 (dx d_Model_tells 27 rfl) rfl hM.1.1 (by first | exact mf_output hM.1 | (simp [aj_up_at]; exact mf_output hM.1) | exact mf_output (by assumption)) ?_
        refine aj_iconst 52 (dx d_Model_tells 28 rfl) rfl ?_
        refine aj_iload 6 54 (dx d_Model_tells 29 rfl) rfl rfl ?_
        refine aj_imul 55 (dx d_Model_tells 30 rfl) rfl ?_
        refine aj_iload 9 57 (dx d_Model_tells 31 rfl) rfl rfl ?_
        refine aj_iadd 58 (dx d_Model_tells 32 rfl) rfl ?_
        refine aj_iald 59 (dx d_Model_tells 33 rfl) rfl (ms_output hM.1) rfl (by omega) (by omega) ?_
        rw [(hM.2.2.2.2.2 b w[j] hb hlk).2.1]
        refine aj_icmp_eq 66 62 (dx d_Model_tells 34 rfl) rfl rfl (by unfold aj_I; omega) (by unfold aj_I; omega) (fun h59 => ?_) (fun h59 => ?_)
        · refine aj_iconst 67 (dx d_Model_tells 37 rfl) rfl ?_
          refine aj_istore 7 69 (dx d_Model_tells 38 rfl) rfl rfl ?_
          simp only [List.set]
          refine aj_aload_n 0 70 (dx d_Model_tells 39 rfl) rfl rfl rfl ?_
          refine aj_getfv (v := 79) 73 fl_Model_7 (dx d_Model_tells 40 rfl) rfl hM.1.1 (by first | exact mf_next hM.1 | (simp [aj_up_at]; exact mf_next hM.1) | exact mf_next (by assumption)) ?_
          refine aj_iconst 74 (dx d_Model_tells 41 rfl) rfl ?_
          refine aj_iload 5 76 (dx d_Model_tells 42 rfl) rfl rfl ?_
          refine aj_imul 77 (dx d_Model_tells 43 rfl) rfl ?_
          refine aj_iload 9 79 (dx d_Model_tells 44 rfl) rfl rfl ?_
          refine aj_iadd 80 (dx d_Model_tells 45 rfl) rfl ?_
          refine aj_iald 81 (dx d_Model_tells 46 rfl) rfl (ms_next hM.1) rfl (by omega) (by omega) ?_
          rw [(hM.2.2.2.2.2 a w[j] ha hlk).1]
          refine aj_istore 5 83 (dx d_Model_tells 47 rfl) rfl rfl ?_
          simp only [List.set]
          refine aj_aload_n 0 84 (dx d_Model_tells 48 rfl) rfl rfl rfl ?_
          refine aj_getfv (v := 79) 87 fl_Model_7 (dx d_Model_tells 49 rfl) rfl hM.1.1 (by first | exact mf_next hM.1 | (simp [aj_up_at]; exact mf_next hM.1) | exact mf_next (by assumption)) ?_
          refine aj_iconst 88 (dx d_Model_tells 50 rfl) rfl ?_
          refine aj_iload 6 90 (dx d_Model_tells 51 rfl) rfl rfl ?_
          refine aj_imul 91 (dx d_Model_tells 52 rfl) rfl ?_
          refine aj_iload 9 93 (dx d_Model_tells 53 rfl) rfl rfl ?_
          refine aj_iadd 94 (dx d_Model_tells 54 rfl) rfl ?_
          refine aj_iald 95 (dx d_Model_tells 55 rfl) rfl (ms_next hM.1) rfl (by omega) (by omega) ?_
          rw [(hM.2.2.2.2.2 b w[j] hb hlk).1]
          refine aj_istore 6 97 (dx d_Model_tells 56 rfl) rfl rfl ?_
          simp only [List.set]
          refine aj_iinc 8 100 (dx d_Model_tells 57 rfl) rfl rfl rfl ?_
          simp only [List.set]
          refine aj_goto 13 (dx d_Model_tells 58 rfl) rfl ?_
          refine aj_forget 9 ?_
          simp only [List.set]
          have hih := ih _ (by omega) (i + 1) (nx a w[j]) (nx b w[j]) 0 (by omega) rfl (hM.2.2.2.2.2 a w[j] ha hlk).2.2.1 (hM.2.2.2.2.2 b w[j] hb hlk).2.2.1 (by rw [show w.length - (i + 1) = j by omega, hdr, hd1]; rfl) (by rw [show w.length - (i + 1) = j by omega, hdr, hd2]; rfl) (Or.inr ⟨rfl, by
            rw [show w.length - (i + 1) = j by omega, hdr]
            rintro (z | z)
            · exact hnt z
            · exact z (by rw [← hd1, ← hd2]; omega)⟩)
          rw [show ((i : Nat) : Int) + 1 = ((i + 1 : Nat) : Int) by omega]
          exact hih
        · refine aj_iconst 63 (dx d_Model_tells 35 rfl) rfl ?_
          refine aj_goto 67 (dx d_Model_tells 36 rfl) rfl ?_
          refine aj_istore 7 69 (dx d_Model_tells 38 rfl) rfl rfl ?_
          simp only [List.set]
          refine aj_aload_n 0 70 (dx d_Model_tells 39 rfl) rfl rfl rfl ?_
          refine aj_getfv (v := 79) 73 fl_Model_7 (dx d_Model_tells 40 rfl) rfl hM.1.1 (by first | exact mf_next hM.1 | (simp [aj_up_at]; exact mf_next hM.1) | exact mf_next (by assumption)) ?_
          refine aj_iconst 74 (dx d_Model_tells 41 rfl) rfl ?_
          refine aj_iload 5 76 (dx d_Model_tells 42 rfl) rfl rfl ?_
          refine aj_imul 77 (dx d_Model_tells 43 rfl) rfl ?_
          refine aj_iload 9 79 (dx d_Model_tells 44 rfl) rfl rfl ?_
          refine aj_iadd 80 (dx d_Model_tells 45 rfl) rfl ?_
          refine aj_iald 81 (dx d_Model_tells 46 rfl) rfl (ms_next hM.1) rfl (by omega) (by omega) ?_
          rw [(hM.2.2.2.2.2 a w[j] ha hlk).1]
          refine aj_istore 5 83 (dx d_Model_tells 47 rfl) rfl rfl ?_
          simp only [List.set]
          refine aj_aload_n 0 84 (dx d_Model_tells 48 rfl) rfl rfl rfl ?_
          refine aj_getfv (v := 79) 87 fl_Model_7 (dx d_Model_tells 49 rfl) rfl hM.1.1 (by first | exact mf_next hM.1 | (simp [aj_up_at]; exact mf_next hM.1) | exact mf_next (by assumption)) ?_
          refine aj_iconst 88 (dx d_Model_tells 50 rfl) rfl ?_
          refine aj_iload 6 90 (dx d_Model_tells 51 rfl) rfl rfl ?_
          refine aj_imul 91 (dx d_Model_tells 52 rfl) rfl ?_
          refine aj_iload 9 93 (dx d_Model_tells 53 rfl) rfl rfl ?_
          refine aj_iadd 94 (dx d_Model_tells 54 rfl) rfl ?_
          refine aj_iald 95 (dx d_Model_tells 55 rfl) rfl (ms_next hM.1) rfl (by omega) (by omega) ?_
          rw [(hM.2.2.2.2.2 b w[j] hb hlk).1]
          refine aj_istore 6 97 (dx d_Model_tells 56 rfl) rfl rfl ?_
          simp only [List.set]
          refine aj_iinc 8 100 (dx d_Model_tells 57 rfl) rfl rfl rfl ?_
          simp only [List.set]
          refine aj_goto 13 (dx d_Model_tells 58 rfl) rfl ?_
          refine aj_forget 9 ?_
          simp only [List.set]
          have hih := ih _ (by omega) (i + 1) (nx a w[j]) (nx b w[j]) 1 (by omega) rfl (hM.2.2.2.2.2 a w[j] ha hlk).2.2.1 (hM.2.2.2.2.2 b w[j] hb hlk).2.2.1 (by rw [show w.length - (i + 1) = j by omega, hdr, hd1]; rfl) (by rw [show w.length - (i + 1) = j by omega, hdr, hd2]; rfl) (Or.inl ⟨rfl, by rw [show w.length - (i + 1) = j by omega, hdr]; exact Or.inr (fun z => h59 (by rw [hd1, hd2]; exact congrArg _ z))⟩)
          rw [show ((i : Nat) : Int) + 1 = ((i + 1 : Nat) : Int) by omega]
          exact hih
set_option maxHeartbeats 4000000 in
theorem k_Model_tells {al : Prop} {X : Option (Nat × (Int → Int))} {d : Nat} {sh : List aj_S} {g : aj_G} {Q : aj_R → List aj_S → aj_G → Prop} {k n : Nat} {nx ou : Nat → Nat → Nat} (hM : mmm sh g k n nx ou) {w : List Nat} (hok : wd_ok k w) (hl : w.length ≤ 24) {s t : Nat} (hs : s < n) (ht : t < n) (hk1 : tl nx ou s t w → Q (.inl (some (0, 1))) sh g) (hk0 : ¬ tl nx ou s t w → Q (.inl (some (0, 0))) sh g) : aj_wp nE al al X m_Model_tells (d + 2) 0 0 0 [some (1, 78), some (2, (wd_cd w : Int)), none, some (0, (s : Int)), some (0, (t : Int)), none, none, none, none, none] [] sh g Q := by
  refine aj_iload_n 3 1 (dx d_Model_tells 0 rfl) rfl rfl rfl ?_
  refine aj_istore 5 3 (dx d_Model_tells 1 rfl) rfl rfl ?_
  simp only [List.set]
  refine aj_iload 4 5 (dx d_Model_tells 2 rfl) rfl rfl ?_
  refine aj_istore 6 7 (dx d_Model_tells 3 rfl) rfl rfl ?_
  simp only [List.set]
  refine aj_iconst 8 (dx d_Model_tells 4 rfl) rfl ?_
  refine aj_istore 7 10 (dx d_Model_tells 5 rfl) rfl rfl ?_
  simp only [List.set]
  refine aj_iconst 11 (dx d_Model_tells 6 rfl) rfl ?_
  refine aj_istore 8 13 (dx d_Model_tells 7 rfl) rfl rfl ?_
  simp only [List.set]
  exact k_mtells_loop hM hok hl hs ht hk1 hk0 _ 0 s t 0 (by omega) rfl hs ht (by rw [Nat.sub_zero, List.drop_length]; rfl) (by rw [Nat.sub_zero, List.drop_length]; rfl) (Or.inr ⟨rfl, by rw [Nat.sub_zero, List.drop_length]; exact id⟩)
/-- the table of the distances -/
def tdm (g : aj_G) (k n : Nat) (nx ou : Nat → Nat → Nat) : Prop := ∀ s t : Nat, s < n → t < n → ∃ m : Nat, g 81 (8 * (s : Int) + t) = m ∧ m ≤ n ∧ ((m = 0 ∧ al_k k nx ou s t) ∨ wd_ln k nx ou s t m)
theorem ln_al {k : Nat} {nx ou : Nat → Nat → Nat} {s t m : Nat} (h : wd_ln k nx ou s t m) (h2 : al_k k nx ou s t) : False := by
  obtain ⟨⟨w, h3, -, h5⟩, -⟩ := h
  exact h2 w h3 h5
theorem td_iff {g : aj_G} {k n : Nat} {nx ou : Nat → Nat → Nat} (h : tdm g k n nx ou) {s t m : Nat} (hs : s < n) (ht : t < n) (hm : 0 < m) : g 81 (8 * (s : Int) + t) = m ↔ wd_ln k nx ou s t m := by
  obtain ⟨m', e, -, h1⟩ := h s t hs ht
  rw [e]
  constructor
  · intro z
    rcases h1 with ⟨h2, -⟩ | h2
    · omega
    · rw [show m = m' by omega]; exact h2
  · intro z
    rcases h1 with ⟨-, h2⟩ | h2
    · exact (ln_al z h2).elim
    · rw [ln_uniq z h2]
def ftP (k : Nat) (nx ou : Nat → Nat → Nat) (a b l i : Nat) : Prop := (l = 1 ∧ ou a i ≠ ou b i) ∨ (1 < l ∧ wd_ln k nx ou (nx a i) (nx b i) (l - 1))
set_option maxHeartbeats 4000000 in
theorem k_Model_fits {al : Prop} {X : Option (Nat × (Int → Int))} {d : Nat} {sh : List aj_S} {g : aj_G} {Q : aj_R → List aj_S → aj_G → Prop} {k n : Nat} {nx ou : Nat → Nat → Nat} (hM : mmm sh g k n nx ou) (hT : tdm g k n nx ou) {a b i l : Nat} (ha : a < n) (hb : b < n) (hi : i < k) (hl0 : 0 < l) (hl9 : l ≤ 9) (hk1 : ftP k nx ou a b l i → Q (.inl (some (0, 1))) sh g) (hk0 : ¬ ftP k nx ou a b l i → Q (.inl (some (0, 0))) sh g) : aj_wp nE al al X m_Model_fits d 0 0 0 [some (1, 78), some (0, (a : Int)), some (0, (b : Int)), some (0, (i : Int)), some (0, (l : Int))] [] sh g Q := by
  have hk4 := hM.2.2.2.1
  have hn8 := hM.2.2.2.2.1
  obtain ⟨e1, e2, e3, e4⟩ := hM.2.2.2.2.2 a i ha hi
  obtain ⟨f1, f2, f3, f4⟩ := hM.2.2.2.2.2 b i hb hi
  obtain ⟨m', t1, t2, -⟩ := hT (nx a i) (nx b i) e3 f3
  refine aj_iload 4 2 (dx d_Model_fits 0 rfl) rfl rfl ?_
  refine aj_iconst 3 (dx d_Model_fits 1 rfl) rfl ?_
  refine aj_icmp_ne 37 6 (dx d_Model_fits 2 rfl) rfl rfl (by unfold aj_I; omega) (by unfold aj_I; omega) (fun h3 => ?_) (fun h3 => ?_)
  · refine aj_aload_n 0 38 (dx d_Model_fits 24 rfl) rfl rfl rfl ?_
    refine aj_getfv (v := 81) 41 fl_Model_16 (dx d_Model_fits 25 rfl) rfl hM.1.1 (by first | exact mf_told hM.1 | (simp [aj_up_at]; exact mf_told hM.1) | exact mf_told (by assumption)) ?_
    refine aj_bipush 43 (dx d_Model_fits 26 rfl) rfl (by decide +kernel) ?_
    refine aj_aload_n 0 44 (dx d_Model_fits 27 rfl) rfl rfl rfl ?_
    refine aj_getfv (v := 79) 47 fl_Model_7 (dx d_Model_fits 28 rfl) rfl hM.1.1 (by first | exact mf_next hM.1 | (simp [aj_up_at]; exact mf_next hM.1) | exact mf_next (by assumption)) ?_
    refine aj_iconst 48 (dx d_Model_fits 29 rfl) rfl ?_
    refine aj_iload_n 1 49 (dx d_Model_fits 30 rfl) rfl rfl rfl ?_
    refine aj_imul 50 (dx d_Model_fits 31 rfl) rfl ?_
    refine aj_iload_n 3 51 (dx d_Model_fits 32 rfl) rfl rfl rfl ?_
    refine aj_iadd 52 (dx d_Model_fits 33 rfl) rfl ?_
    refine aj_iald 53 (dx d_Model_fits 34 rfl) rfl (ms_next hM.1) rfl (by omega) (by omega) ?_
    rw [e1]
    refine aj_imul 54 (dx d_Model_fits 35 rfl) rfl ?_
    refine aj_aload_n 0 55 (dx d_Model_fits 36 rfl) rfl rfl rfl ?_
    refine aj_getfv (v := 79) 58 fl_Model_7 (dx d_Model_fits 37 rfl) rfl hM.1.1 (by first | exact mf_next hM.1 | (simp [aj_up_at]; exact mf_next hM.1) | exact mf_next (by assumption)) ?_
    refine aj_iconst 59 (dx d_Model_fits 38 rfl) rfl ?_
    refine aj_iload_n 2 60 (dx d_Model_fits 39 rfl) rfl rfl rfl ?_
    refine aj_imul 61 (dx d_Model_fits 40 rfl) rfl ?_
    refine aj_iload_n 3 62 (dx d_Model_fits 41 rfl) rfl rfl rfl ?_
    refine aj_iadd 63 (dx d_Model_fits 42 rfl) rfl ?_
    refine aj_iald 64 (dx d_Model_fits 43 rfl) rfl (ms_next hM.1) rfl (by omega) (by omega) ?_
    rw [f1]
    refine aj_iadd 65 (dx d_Model_fits 44 rfl) rfl ?_
    refine aj_iald 66 (dx d_Model_fits 45 rfl) rfl (ms_told hM.1) rfl (by omega) (by omega) ?_
    rw [t1]
    refine aj_iload 4 68 (dx d_Model_fits 46 rfl) rfl rfl ?_
    refine aj_iconst 69 (dx d_Model_fits 47 rfl) rfl ?_
    refine aj_isub 70 (dx d_Model_fits 48 rfl) rfl ?_
    refine aj_icmp_ne 77 73 (dx d_Model_fits 49 rfl) rfl rfl (by unfold aj_I; omega) (by unfold aj_I; omega) (fun h70 => ?_) (fun h70 => ?_)
    · refine aj_iconst 78 (dx d_Model_fits 52 rfl) rfl ?_
      refine aj_zret (dx d_Model_fits 53 rfl) rfl (by omega) id ?_
      refine hk0 ?_
      rintro (⟨z, -⟩ | ⟨-, z⟩)
      · omega
      · have := (td_iff hT e3 f3 (by omega)).mpr z
        rw [t1] at this
        omega
    · refine aj_iconst 74 (dx d_Model_fits 50 rfl) rfl ?_
      refine aj_goto 78 (dx d_Model_fits 51 rfl) rfl ?_
      refine aj_zret (dx d_Model_fits 53 rfl) rfl (by omega) id ?_
      refine hk1 (Or.inr ⟨by omega, (td_iff hT e3 f3 (by omega)).mp (by rw [t1]; omega)⟩)
  · refine aj_aload_n 0 7 (dx d_Model_fits 3 rfl) rfl rfl rfl ?_
    refine aj_getfv (v := 80) 10 fl_Model_13 (dx d_Model_fits 4 rfl) rfl hM.1.1 (by first | exact mf_output hM.1 | (simp [aj_up_at]; exact mf_output hM.1) | exact mf_output (by assumption)) ?_
    refine aj_iconst 11 (dx d_Model_fits 5 rfl) rfl ?_
    refine aj_iload_n 1 12 (dx d_Model_fits 6 rfl) rfl rfl rfl ?_
    refine aj_imul 13 (dx d_Model_fits 7 rfl) rfl ?_
    refine aj_iload_n 3 14 (dx d_Model_fits 8 rfl) rfl rfl rfl ?_
    refine aj_iadd 15 (dx d_Model_fits 9 rfl) rfl ?_
    refine aj_iald 16 (dx d_Model_fits 10 rfl) rfl (ms_output hM.1) rfl (by omega) (by omega) ?_
    rw [e2]
    refine aj_aload_n 0 17 (dx d_Model_fits 11 rfl) rfl rfl rfl ?_
    refine aj_getfv (v := 80) 20 fl_Model_13 (dx d_Model_fits 12 rfl) rfl hM.1.1 (by first | exact mf_output hM.1 | (simp [aj_up_at]; exact mf_output hM.1) | exact mf_output (by assumption)) ?_
    refine aj_iconst 21 (dx d_Model_fits 13 rfl) rfl ?_
    refine aj_iload_n 2 22 (dx d_Model_fits 14 rfl) rfl rfl rfl ?_
    refine aj_imul 23 (dx d_Model_fits 15 rfl) rfl ?_
    refine aj_iload_n 3 24 (dx d_Model_fits 16 rfl) rfl rfl rfl ?_
    refine aj_iadd 25 (dx d_Model_fits 17 rfl) rfl ?_
    refine aj_iald 26 (dx d_Model_fits 18 rfl) rfl (ms_output hM.1) rfl (by omega) (by omega) ?_
    rw [f2]
    refine aj_icmp_eq 33 29 (dx d_Model_fits 19 rfl) rfl rfl (by unfold aj_I; omega) (by unfold aj_I; omega) (fun h26 => ?_) (fun h26 => ?_)
    · refine aj_iconst 34 (dx d_Model_fits 22 rfl) rfl ?_
      refine aj_goto 78 (dx d_Model_fits 23 rfl) rfl ?_
      refine aj_zret (dx d_Model_fits 53 rfl) rfl (by omega) id ?_
      refine hk0 ?_
      rintro (⟨-, z⟩ | ⟨z, -⟩)
      · omega
      · omega
    · refine aj_iconst 30 (dx d_Model_fits 20 rfl) rfl ?_
      refine aj_goto 78 (dx d_Model_fits 21 rfl) rfl ?_
      refine aj_zret (dx d_Model_fits 53 rfl) rfl (by omega) id ?_
      exact hk1 (Or.inl ⟨by omega, by omega⟩)
theorem ft_ex {k : Nat} {nx ou : Nat → Nat → Nat} {a b l : Nat} (h : wd_ln k nx ou a b l) : ∃ i, i < k ∧ ftP k nx ou a b l i := by
  have h0 := ln_pos h
  rcases Nat.lt_or_ge 1 l with h1 | h1
  · obtain ⟨m, rfl⟩ : ∃ m, l = m + 1 := ⟨l - 1, by omega⟩
    obtain ⟨-, i, hi, h2⟩ := (ln_succ (by omega)).mp h
    exact ⟨i, hi, Or.inr ⟨h1, h2⟩⟩
  · have e : l = 1 := by omega
    subst e
    obtain ⟨i, hi, h2⟩ := ln_one.mp h
    exact ⟨i, hi, Or.inl ⟨rfl, h2⟩⟩
set_option maxHeartbeats 4000000 in
theorem k_least_in {al : Prop} {X : Option (Nat × (Int → Int))} {d : Nat} {sh : List aj_S} {g : aj_G} {Q : aj_R → List aj_S → aj_G → Prop} {k n : Nat} {nx ou : Nat → Nat → Nat} (hM : mmm sh g k n nx ou) (hT : tdm g k n nx ou) {s t a b l : Nat} {pre : List Nat} (ha : a < n) (hb : b < n) (hl0 : 0 < l) (hl9 : l ≤ 9) (hpb : wd_cd pre < 2 ^ 60)
    (hgo : ∀ i : Nat, i < k → ftP k nx ou a b l i → (∀ j, j < i → ¬ ftP k nx ou a b l j) → aj_wp nE al al X m_Model_leastWord (d + 1) 0 0 21 [some (1, 78), some (0, (s : Int)), some (0, (t : Int)), some (2, (wd_cd (i :: pre) : Int)), none, some (0, (nx a i : Int)), some (0, (nx b i : Int)), some (0, (l : Int) - 1), none, none] [] sh g Q) :
    ∀ (m i : Nat), (∃ i0, i0 < k ∧ i ≤ i0 ∧ ftP k nx ou a b l i0) → k - i = m → (∀ j, j < i → ¬ ftP k nx ou a b l j) →
    aj_wp nE al al X m_Model_leastWord (d + 1) 0 0 29 [some (1, 78), some (0, (s : Int)), some (0, (t : Int)), some (2, (wd_cd pre : Int)), none, some (0, (a : Int)), some (0, (b : Int)), some (0, (l : Int)), some (0, (i : Int)), none] [] sh g Q := by
  have hk4 := hM.2.2.2.1
  have hn8 := hM.2.2.2.2.1
  intro m
  induction m using Nat.strongRecOn with
  | ind m ih =>
    intro i hex0 hmm hno
    have hik : i < k := by obtain ⟨i0, h1, h2, -⟩ := hex0; omega
    have hex : ∃ i0, i0 < k ∧ ftP k nx ou a b l i0 := by obtain ⟨i0, h1, -, h2⟩ := hex0; exact ⟨i0, h1, h2⟩
    refine aj_aload_n 0 30 (dx d_Model_leastWord 19 rfl) rfl rfl rfl ?_
    refine aj_iload 5 32 (dx d_Model_leastWord 20 rfl) rfl rfl ?_
    refine aj_iload 6 34 (dx d_Model_leastWord 21 rfl) rfl rfl ?_
    refine aj_iload 8 36 (dx d_Model_leastWord 22 rfl) rfl rfl ?_
    refine aj_iload 7 38 (dx d_Model_leastWord 23 rfl) rfl rfl ?_
    refine aj_callV4 41 cl_Model_122 (dx d_Model_leastWord 24 rfl) rfl rfl rfl rfl rfl rfl hM.1.1 (k_Model_fits hM hT ha hb hik hl0 hl9 (fun hf => ?_) (fun hf => ?_))
    · change aj_wp _ _ _ _ _ _ _ _ _ _ _ _ _ _
      refine aj_if_ne 50 44 (dx d_Model_leastWord 25 rfl) rfl rfl (by unfold aj_I; omega) (fun h41 => ?_) (fun h41 => ?_)
      · refine aj_lload_n 3 51 (dx d_Model_leastWord 28 rfl) rfl rfl rfl ?_
        refine aj_iconst 52 (dx d_Model_leastWord 29 rfl) rfl ?_
        refine aj_lshl 53 (dx d_Model_leastWord 30 rfl) rfl (lg_shl hpb) ?_
        refine aj_iload 8 55 (dx d_Model_leastWord 31 rfl) rfl rfl ?_
        refine aj_i2l 56 (dx d_Model_leastWord 32 rfl) rfl (by unfold aj_I; omega) ?_
        refine aj_lor 57 (dx d_Model_leastWord 33 rfl) rfl (lg_or hpb (by omega)) ?_
        rw [show 4 * wd_cd pre + i = wd_cd (i :: pre) from rfl]
        refine aj_lstore_n 3 58 (dx d_Model_leastWord 34 rfl) rfl rfl rfl rfl ?_
        simp only [List.set]
        refine aj_aload_n 0 59 (dx d_Model_leastWord 35 rfl) rfl rfl rfl ?_
        refine aj_getfv (v := 79) 62 fl_Model_7 (dx d_Model_leastWord 36 rfl) rfl hM.1.1 (by first | exact mf_next hM.1 | (simp [aj_up_at]; exact mf_next hM.1) | exact mf_next (by assumption)) ?_
        refine aj_iconst 63 (dx d_Model_leastWord 37 rfl) rfl ?_
        refine aj_iload 5 65 (dx d_Model_leastWord 38 rfl) rfl rfl ?_
        refine aj_imul 66 (dx d_Model_leastWord 39 rfl) rfl ?_
        refine aj_iload 8 68 (dx d_Model_leastWord 40 rfl) rfl rfl ?_
        refine aj_iadd 69 (dx d_Model_leastWord 41 rfl) rfl ?_
        refine aj_iald 70 (dx d_Model_leastWord 42 rfl) rfl (ms_next hM.1) rfl (by omega) (by omega) ?_
        rw [(hM.2.2.2.2.2 a i ha hik).1]
        refine aj_istore 9 72 (dx d_Model_leastWord 43 rfl) rfl rfl ?_
        simp only [List.set]
        refine aj_aload_n 0 73 (dx d_Model_leastWord 44 rfl) rfl rfl rfl ?_
        refine aj_getfv (v := 79) 76 fl_Model_7 (dx d_Model_leastWord 45 rfl) rfl hM.1.1 (by first | exact mf_next hM.1 | (simp [aj_up_at]; exact mf_next hM.1) | exact mf_next (by assumption)) ?_
        refine aj_iconst 77 (dx d_Model_leastWord 46 rfl) rfl ?_
        refine aj_iload 6 79 (dx d_Model_leastWord 47 rfl) rfl rfl ?_
        refine aj_imul 80 (dx d_Model_leastWord 48 rfl) rfl ?_
        refine aj_iload 8 82 (dx d_Model_leastWord 49 rfl) rfl rfl ?_
        refine aj_iadd 83 (dx d_Model_leastWord 50 rfl) rfl ?_
        refine aj_iald 84 (dx d_Model_leastWord 51 rfl) rfl (ms_next hM.1) rfl (by omega) (by omega) ?_
        rw [(hM.2.2.2.2.2 b i hb hik).1]
        refine aj_istore 6 86 (dx d_Model_leastWord 52 rfl) rfl rfl ?_
        simp only [List.set]
        refine aj_iload 9 88 (dx d_Model_leastWord 53 rfl) rfl rfl ?_
        refine aj_istore 5 90 (dx d_Model_leastWord 54 rfl) rfl rfl ?_
        simp only [List.set]
        refine aj_iinc 7 93 (dx d_Model_leastWord 55 rfl) rfl rfl rfl ?_
        simp only [List.set]
        refine aj_goto 21 (dx d_Model_leastWord 56 rfl) rfl ?_
        refine aj_forget 8 ?_
        refine aj_forget 9 ?_
        simp only [List.set]
        exact hgo i hik hf hno
      · exact absurd h41 (by decide)
    · change aj_wp _ _ _ _ _ _ _ _ _ _ _ _ _ _
      refine aj_if_ne 50 44 (dx d_Model_leastWord 25 rfl) rfl rfl (by unfold aj_I; omega) (fun h41 => ?_) (fun h41 => ?_)
      · exact absurd rfl h41
      · refine aj_iinc 8 47 (dx d_Model_leastWord 26 rfl) rfl rfl rfl ?_
        simp only [List.set]
        refine aj_goto 29 (dx d_Model_leastWord 27 rfl) rfl ?_
        have hih := ih (k - (i + 1)) (by omega) (i + 1) (by
          obtain ⟨i0, h1, h2⟩ := hex
          refine ⟨i0, h1, ?_, h2⟩
          rcases Nat.lt_trichotomy i0 i with z | z | z
          · exact (hno i0 z h2).elim
          · rw [z] at h2; exact (hf h2).elim
          · omega) rfl (fun j hj => by
          rcases Nat.lt_or_ge j i with z | z
          · exact hno j z
          · rw [show j = i by omega]; exact hf)
        rw [show ((i : Nat) : Int) + 1 = ((i + 1 : Nat) : Int) by omega]
        exact hih
set_option maxHeartbeats 4000000 in
theorem k_least_out {al : Prop} {X : Option (Nat × (Int → Int))} {d : Nat} {sh : List aj_S} {g : aj_G} {Q : aj_R → List aj_S → aj_G → Prop} {k n : Nat} {nx ou : Nat → Nat → Nat} (hM : mmm sh g k n nx ou) (hT : tdm g k n nx ou) {s t : Nat} (hs : s < n) (ht : t < n) (hk1 : ∀ w, wd_least k nx ou s nx ou t w → w.length ≤ n → Q (.inl (some (2, (wd_cd w : Int)))) sh g) (hk0 : al_k k nx ou s t → Q (.inl (some (2, 1))) sh g) : ∀ (m l a b : Nat) (pre : List Nat), l = m → a < n → b < n → wd_ok k pre → pre.length + l ≤ n → ((0 < l ∧ wd_ln k nx ou a b l ∧ ∀ v, wd_least k nx ou a nx ou b v → wd_least k nx ou s nx ou t (v ++ pre)) ∨ (l = 0 ∧ wd_least k nx ou s nx ou t pre)) →
    aj_wp nE al al X m_Model_leastWord (d + 1) 0 0 21 [some (1, 78), some (0, (s : Int)), some (0, (t : Int)), some (2, (wd_cd pre : Int)), none, some (0, (a : Int)), some (0, (b : Int)), some (0, (l : Int)), none, none] [] sh g Q := by
  have hk4 := hM.2.2.2.1
  have hn8 := hM.2.2.2.2.1
  intro m
  induction m using Nat.strongRecOn with
  | ind m ih =>
    intro l a b pre hlm ha hb hpo hpl hst
    refine aj_iload 7 23 (dx d_Model_leastWord 15 rfl) rfl rfl ?_
    refine aj_if_le 96 26 (dx d_Model_leastWord 16 rfl) rfl rfl (by unfold aj_I; omega) (fun h23 => ?_) (fun h23 => ?_)
    · refine aj_lload_n 3 97 (dx d_Model_leastWord 57 rfl) rfl rfl rfl ?_
      refine aj_lret (dx d_Model_leastWord 58 rfl) rfl id ?_
      have hfin : wd_least k nx ou s nx ou t pre := by
        rcases hst with ⟨h, -⟩ | ⟨-, h⟩
        · omega
        · exact h
      exact hk1 pre hfin (by omega)
    · have hl0 : 0 < l := by omega
      obtain ⟨-, hln, hgl⟩ : 0 < l ∧ wd_ln k nx ou a b l ∧ ∀ v, wd_least k nx ou a nx ou b v → wd_least k nx ou s nx ou t (v ++ pre) := by
        rcases hst with h | ⟨h, -⟩
        · exact h
        · omega
      refine aj_iconst 27 (dx d_Model_leastWord 17 rfl) rfl ?_
      refine aj_istore 8 29 (dx d_Model_leastWord 18 rfl) rfl rfl ?_
      simp only [List.set]
      refine k_least_in (pre := pre) hM hT ha hb hl0 (by omega) (wd_lt63 (wd_ok_le (by omega) hpo) (by omega)) (fun i hi hf hno => ?_) _ 0 (by
        obtain ⟨i0, h1, h2⟩ := ft_ex hln
        exact ⟨i0, h1, Nat.zero_le _, h2⟩) rfl (fun j hj => absurd hj (Nat.not_lt_zero _))
      obtain ⟨l', rfl⟩ : ∃ l', l = l' + 1 := ⟨l - 1, by omega⟩
      rw [show ((l' + 1 : Nat) : Int) - 1 = (l' : Nat) by omega]
      rcases hf with ⟨h1, h2⟩ | ⟨h1, h2⟩
      · have e : l' = 0 := by omega
        subst e
        refine ih 0 (by omega) 0 (nx a i) (nx b i) (i :: pre) rfl (hM.2.2.2.2.2 a i ha hi).2.2.1 (hM.2.2.2.2.2 b i hb hi).2.2.1 (wd_ok_cons.mpr ⟨hi, hpo⟩) (by rw [List.length_cons]; omega) (Or.inr ⟨rfl, ?_⟩)
        exact hgl [i] (least_one (by omega) hi h2 (fun j hj => Decidable.byContradiction fun z => hno j hj (Or.inl ⟨rfl, z⟩)))
      · refine ih l' (by omega) l' (nx a i) (nx b i) (i :: pre) rfl (hM.2.2.2.2.2 a i ha hi).2.2.1 (hM.2.2.2.2.2 b i hb hi).2.2.1 (wd_ok_cons.mpr ⟨hi, hpo⟩) (by rw [List.length_cons]; omega) (Or.inl ⟨by omega, h2, fun v hv => ?_⟩)
        have h3 := least_app (by omega) (by omega) hln hi h2 (fun j hj z => hno j hj (Or.inr ⟨h1, z⟩)) hv
        have h4 := hgl _ h3
        rw [List.append_assoc] at h4
        exact h4
set_option maxHeartbeats 4000000 in
theorem k_Model_leastWord {al : Prop} {X : Option (Nat × (Int → Int))} {d : Nat} {sh : List aj_S} {g : aj_G} {Q : aj_R → List aj_S → aj_G → Prop} {k n : Nat} {nx ou : Nat → Nat → Nat} (hM : mmm sh g k n nx ou) (hT : tdm g k n nx ou) {s t : Nat} (hs : s < n) (ht : t < n) (hk1 : ∀ w, wd_least k nx ou s nx ou t w → w.length ≤ n → Q (.inl (some (2, (wd_cd w : Int)))) sh g) (hk0 : al_k k nx ou s t → Q (.inl (some (2, 1))) sh g) : aj_wp nE al al X m_Model_leastWord (d + 1) 0 0 0 [some (1, 78), some (0, (s : Int)), some (0, (t : Int)), none, none, none, none, none, none, none] [] sh g Q := by
  have hn8 := hM.2.2.2.2.1
  obtain ⟨m, e1, e2, e3⟩ := hT s t hs ht
  refine aj_lconst (x := 1) 1 (dx d_Model_leastWord 0 rfl) rfl rfl ?_
  refine aj_lstore_n 3 2 (dx d_Model_leastWord 1 rfl) rfl rfl rfl rfl ?_
  simp only [List.set]
  refine aj_iload_n 1 3 (dx d_Model_leastWord 2 rfl) rfl rfl rfl ?_
  refine aj_istore 5 5 (dx d_Model_leastWord 3 rfl) rfl rfl ?_
  simp only [List.set]
  refine aj_iload_n 2 6 (dx d_Model_leastWord 4 rfl) rfl rfl rfl ?_
  refine aj_istore 6 8 (dx d_Model_leastWord 5 rfl) rfl rfl ?_
  simp only [List.set]
  refine aj_aload_n 0 9 (dx d_Model_leastWord 6 rfl) rfl rfl rfl ?_
  refine aj_getfv (v := 81) 12 fl_Model_16 (dx d_Model_leastWord 7 rfl) rfl hM.1.1 (by first | exact mf_told hM.1 | (simp [aj_up_at]; exact mf_told hM.1) | exact mf_told (by assumption)) ?_
  refine aj_bipush 14 (dx d_Model_leastWord 8 rfl) rfl (by decide +kernel) ?_
  refine aj_iload_n 1 15 (dx d_Model_leastWord 9 rfl) rfl rfl rfl ?_
  refine aj_imul 16 (dx d_Model_leastWord 10 rfl) rfl ?_
  refine aj_iload_n 2 17 (dx d_Model_leastWord 11 rfl) rfl rfl rfl ?_
  refine aj_iadd 18 (dx d_Model_leastWord 12 rfl) rfl ?_
  refine aj_iald 19 (dx d_Model_leastWord 13 rfl) rfl (ms_told hM.1) rfl (by omega) (by omega) ?_
  rw [e1]
  refine aj_istore 7 21 (dx d_Model_leastWord 14 rfl) rfl rfl ?_
  simp only [List.set]
  rcases e3 with ⟨rfl, h⟩ | h
  · refine aj_iload 7 23 (dx d_Model_leastWord 15 rfl) rfl rfl ?_
    refine aj_if_le 96 26 (dx d_Model_leastWord 16 rfl) rfl rfl (by unfold aj_I; omega) (fun h23 => ?_) (fun h23 => absurd h23 (by decide))
    refine aj_lload_n 3 97 (dx d_Model_leastWord 57 rfl) rfl rfl rfl ?_
    refine aj_lret (dx d_Model_leastWord 58 rfl) rfl id ?_
    exact hk0 h
  · exact k_least_out hM hT hs ht hk1 hk0 m m s t [] rfl hs ht (wd_ok_nil k) (by simpa using e2) (Or.inl ⟨ln_pos h, h, fun v hv => by rw [List.append_nil]; exact hv⟩)
