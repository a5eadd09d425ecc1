/-! Reduction.reduce: the walk -/
set_option maxHeartbeats 4000000 in
theorem k_red_tail {al : Prop} {X : Option (Nat × (Int → Int))} {d : Nat} {sh : List aj_S} {Q : aj_R → List aj_S → aj_G → Prop} {L L10 k n s0 : Nat} {nx ou : Nat → Nat → Nat} {g2 : aj_G} {i inp j x t : Nat} {v : Int} (hr : rds sh g2) (hA : mcm sh g2 1 L k n nx ou) (hM : mcs sh g2 10 L10) (h10 : g2 10 0 = k) (hj : i * k + inp = j) (hjL : j < L10) (hi8 : i < 8) (h7 : g2 7 i = (x : Nat)) (hx : x < n) (hin : inp < k) (ht8 : t < 8) (h5 : g2 5 t = v)
    (K : aj_wp nE al al X m_Reduction_reduce (d + 3) 0 0 69 [some (1, 4), some (1, 1), some (0, (s0 : Int)), some (1, 44), some (0, (i : Int)), some (0, (inp : Int) + 1), none] [] sh (aj_up (aj_up g2 11 (j : Int) v) 12 (j : Int) (ou x inp : Nat)) Q) : aj_wp nE al al X m_Reduction_reduce (d + 3) 0 0 119 [some (1, 4), some (1, 1), some (0, (s0 : Int)), some (1, 44), some (0, (i : Int)), some (0, (inp : Int)), some (0, (t : Int))] [] sh g2 Q := by
  have hid := ij_cast hj
  refine aj_aload_n 0 120 (dx d_Reduction_reduce 63 rfl) rfl rfl rfl ?_
  refine aj_getf 123 fl_Reduction_32 (dx d_Reduction_reduce 64 rfl) rfl hr.1 ?_
  rw [hr.2.1.1]
  refine aj_iload 4 125 (dx d_Reduction_reduce 65 rfl) rfl rfl ?_
  refine aj_iload 5 127 (dx d_Reduction_reduce 66 rfl) rfl rfl ?_
  refine aj_aload_n 0 128 (dx d_Reduction_reduce 67 rfl) rfl rfl rfl ?_
  refine aj_getf 131 fl_Reduction_9 (dx d_Reduction_reduce 68 rfl) rfl hr.1 ?_
  rw [hr.2.1.2.1]
  refine aj_iload 6 133 (dx d_Reduction_reduce 69 rfl) rfl rfl ?_
  refine aj_iald 134 (dx d_Reduction_reduce 70 rfl) rfl hr.2.2.1 rfl (by omega) (by omega) ?_
  rw [h5]
  refine aj_aload_n 1 135 (dx d_Reduction_reduce 71 rfl) rfl rfl rfl ?_
  refine aj_aload_n 0 136 (dx d_Reduction_reduce 72 rfl) rfl rfl rfl ?_
  refine aj_getf 139 fl_Reduction_18 (dx d_Reduction_reduce 73 rfl) rfl hr.1 ?_
  rw [hr.2.1.2.2.2.1]
  refine aj_iload 4 141 (dx d_Reduction_reduce 74 rfl) rfl rfl ?_
  refine aj_iald 142 (dx d_Reduction_reduce 75 rfl) rfl hr.2.2.2.2.1 rfl (by omega) (by omega) ?_
  rw [h7]
  refine aj_iload 5 144 (dx d_Reduction_reduce 76 rfl) rfl rfl ?_
  refine aj_callV2 147 cl_Reduction_54 (dx d_Reduction_reduce 77 rfl) rfl rfl rfl rfl rfl rfl hA.1.1 (s_output hA hx hin ?_)
  change aj_wp _ _ _ _ _ _ _ _ _ _ _ _ _ _
  refine aj_callV4 150 cl_Reduction_57 (dx d_Reduction_reduce 78 rfl) rfl rfl rfl rfl rfl rfl hr.2.2.2.2.2.2.2 (k_Machine_set hM (by rw [h10, hid]; omega) (by rw [h10, hid]; omega) ?_)
  change aj_wp _ _ _ _ _ _ _ _ _ _ _ _ _ _
  rw [h10, hid, show (10 : Int) + 1 = 11 from rfl, show (10 : Int) + 2 = 12 from rfl]
  refine aj_iinc 5 153 (dx d_Reduction_reduce 79 rfl) rfl rfl rfl ?_
  simp only [List.set]
  refine aj_goto 69 (dx d_Reduction_reduce 80 rfl) rfl ?_
  refine aj_forget 6 ?_
  simp only [List.set]
  exact K
theorem nb_mono_st {k : Nat} {nx : Nat → Nat → Nat} {tw : Nat → Nat} {j : Nat} (q : nb_T) : q.1 ≤ (nb_st k nx tw j q).1 := by
  unfold nb_st
  split
  · exact Nat.le_refl _
  · exact Nat.le_succ _
theorem pg_lt8 {k n s0 : Nat} {nx : Nat → Nat → Nat} {tw : Nat → Nat} {j : Nat} {q : nb_T} (hn8 : n ≤ 8) {t : Nat} (ht : t < n) (h : nb_I k n nx tw s0 j q) (hne : ∀ a, a < q.1 → q.2.1 a ≠ t) : q.1 < 8 := by
  have := pg_hole n (q.1 + 1) (fun a => if a < q.1 then q.2.1 a else t) (fun a ha => by
    by_cases c : a < q.1
    · rw [if_pos c]; exact (h.2.2.1 a c).1
    · rw [if_neg c]; exact ht) (fun a b ha hb e => by
    by_cases c : a < q.1
    · by_cases c2 : b < q.1
      · rw [if_pos c, if_pos c2] at e
        exact h.2.2.2.1 a b c c2 e
      · rw [if_pos c, if_neg c2] at e
        exact absurd e (hne a c)
    · by_cases c2 : b < q.1
      · rw [if_neg c, if_pos c2] at e
        exact absurd e.symm (hne b c2)
      · omega)
  omega
set_option maxHeartbeats 4000000 in
theorem k_red_in {al : Prop} {X : Option (Nat × (Int → Int))} {d : Nat} {sh : List aj_S} {Q : aj_R → List aj_S → aj_G → Prop} {L L10 k n s0 : Nat} {nx ou : Nat → Nat → Nat} {gt : aj_G} {tw : Nat → Nat} (hr : rds sh gt) (hA : mcm sh gt 1 L k n nx ou) (hM : mcs sh gt 10 L10) (h10 : gt 10 0 = k) (hL10 : 8 * k ≤ L10) (hn8 : n ≤ 8) (htw : tw_ok k n nx ou tw) (ht6 : ∀ x : Nat, x < n → gt 6 x = tw x) {i : Nat}
    (K : ∀ g1, rd_I gt g1 k n s0 nx ou tw ((i + 1) * k) (nb k nx tw s0 ((i + 1) * k)) → i < (nb k nx tw s0 ((i + 1) * k)).1 → aj_wp nE al al X m_Reduction_reduce (d + 3) 0 0 47 [some (1, 4), some (1, 1), some (0, (s0 : Int)), some (1, 44), some (0, (i : Int) + 1), none, none] [] sh g1 Q) :
    ∀ (m inp : Nat) (g1 : aj_G), inp ≤ k → k - inp = m → rd_I gt g1 k n s0 nx ou tw (i * k + inp) (nb k nx tw s0 (i * k + inp)) → i < (nb k nx tw s0 (i * k + inp)).1 →
    aj_wp nE al al X m_Reduction_reduce (d + 3) 0 0 69 [some (1, 4), some (1, 1), some (0, (s0 : Int)), some (1, 44), some (0, (i : Int)), some (0, (inp : Int)), none] [] sh g1 Q := by
  intro m
  induction m using Nat.strongRecOn with
  | ind m ih =>
    intro inp g1 hin0 hmm hI hi
    have hr1 := rds_of hr (hI.1 4 (by omega) (by omega))
    have hA1 := mcm_of hA (hI.1 1 (by omega) (by omega)) (hI.1 2 (by omega) (by omega)) (hI.1 3 (by omega) (by omega))
    have hc : ∀ s i, s < n → i < k → nx s i < n := fun s i h1 h2 => (hA.2.2.2.2.2.2 s i h1 h2).2.2.1
    have hk3 := hA.2.2.2.2.1
    have hk0 : 0 < k := by omega
    have hNn := nb_le hI.2.2.2.2.2.2
    have h100 : g1 10 0 = k := by rw [hI.2.1 0 (by omega)]; exact h10
    have hM1 : mcs sh g1 10 L10 := ⟨hM.1, by rw [hI.2.1 1 (by omega)]; exact hM.2.1, by rw [hI.2.1 2 (by omega)]; exact hM.2.2.1, hM.2.2.2⟩
    refine aj_iload 5 71 (dx d_Reduction_reduce 37 rfl) rfl rfl ?_
    refine aj_aload_n 1 72 (dx d_Reduction_reduce 38 rfl) rfl rfl rfl ?_
    refine aj_getf 75 fl_Reduction_47 (dx d_Reduction_reduce 39 rfl) rfl hA1.1.1 ?_
    refine aj_icmp_ge 156 78 (dx d_Reduction_reduce 40 rfl) rfl rfl (by unfold aj_I; omega) (by rw [hA1.2.1]; unfold aj_I; omega) (fun h75 => ?_) (fun h75 => ?_)
    · rw [hA1.2.1] at h75
      have he : inp = k := by omega
      rw [he] at hI hi
      have he2 : (i + 1) * k = i * k + k := by rw [Nat.add_mul, Nat.one_mul]
      rw [← he2] at hI hi
      refine aj_iinc 4 159 (dx d_Reduction_reduce 81 rfl) rfl rfl rfl ?_
      simp only [List.set]
      refine aj_goto 47 (dx d_Reduction_reduce 82 rfl) rfl ?_
      refine aj_forget 5 ?_
      simp only [List.set]
      exact K g1 hI hi
    · rw [hA1.2.1] at h75
      have hin : inp < k := by omega
      obtain ⟨ek1, ek2⟩ := ij_key hk0 hin rfl
      have hmb := (hI.2.2.2.2.2.2.2.2.1 i hi)
      have hnx : nx ((nb k nx tw s0 (i * k + inp)).2.1 i) inp < n := hc _ _ hmb.1 hin
      have htl := tw_lt htw hnx
      have hjL : i * k + inp < L10 := by
        have h1 : (i + 1) * k ≤ 8 * k := Nat.mul_le_mul_right k (by omega)
        rw [Nat.add_mul] at h1
        omega
      have hjd : (i * k + inp) / k < (nb k nx tw s0 (i * k + inp)).1 := by rw [ek1]; exact hi
      have hnum : (g1 5 (tw (nx ((nb k nx tw s0 (i * k + inp)).2.1 i) inp) : Nat) = -1 ∧ ∀ a, a < (nb k nx tw s0 (i * k + inp)).1 → (nb k nx tw s0 (i * k + inp)).2.1 a ≠ tw (nx ((nb k nx tw s0 (i * k + inp)).2.1 i) inp)) ∨ ∃ b : Nat, g1 5 (tw (nx ((nb k nx tw s0 (i * k + inp)).2.1 i) inp) : Nat) = b ∧ b < (nb k nx tw s0 (i * k + inp)).1 ∧ (nb k nx tw s0 (i * k + inp)).2.1 b = tw (nx ((nb k nx tw s0 (i * k + inp)).2.1 i) inp) := by
        by_cases hm : ∃ b, b < (nb k nx tw s0 (i * k + inp)).1 ∧ (nb k nx tw s0 (i * k + inp)).2.1 b = tw (nx ((nb k nx tw s0 (i * k + inp)).2.1 i) inp)
        · obtain ⟨b, b1, b2⟩ := hm
          exact Or.inr ⟨b, by rw [← b2]; exact (hI.2.2.2.1 b b1).2.1, b1, b2⟩
        · have hne : ∀ a, a < (nb k nx tw s0 (i * k + inp)).1 → (nb k nx tw s0 (i * k + inp)).2.1 a ≠ tw (nx ((nb k nx tw s0 (i * k + inp)).2.1 i) inp) := fun a h1 h2 => hm ⟨a, h1, h2⟩
          exact Or.inl ⟨hI.2.2.2.2.1 _ htl hne, hne⟩
      refine aj_aload_n 0 79 (dx d_Reduction_reduce 41 rfl) rfl rfl rfl ?_
      refine aj_getf 82 fl_Reduction_15 (dx d_Reduction_reduce 42 rfl) rfl hr1.1 ?_
      rw [hr1.2.1.2.2.1]
      refine aj_aload_n 1 83 (dx d_Reduction_reduce 43 rfl) rfl rfl rfl ?_
      refine aj_aload_n 0 84 (dx d_Reduction_reduce 44 rfl) rfl rfl rfl ?_
      refine aj_getf 87 fl_Reduction_18 (dx d_Reduction_reduce 45 rfl) rfl hr1.1 ?_
      rw [hr1.2.1.2.2.2.1]
      refine aj_iload 4 89 (dx d_Reduction_reduce 46 rfl) rfl rfl ?_
      refine aj_iald 90 (dx d_Reduction_reduce 47 rfl) rfl hr1.2.2.2.2.1 rfl (by omega) (by omega) ?_
      rw [(hI.2.2.2.1 i hi).1]
      refine aj_iload 5 92 (dx d_Reduction_reduce 48 rfl) rfl rfl ?_
      refine aj_callV2 95 cl_Reduction_50 (dx d_Reduction_reduce 49 rfl) rfl rfl rfl rfl rfl rfl hA1.1.1 (s_next hA1 hmb.1 hin ?_)
      change aj_wp _ _ _ _ _ _ _ _ _ _ _ _ _ _
      refine aj_iald 96 (dx d_Reduction_reduce 50 rfl) rfl hr1.2.2.2.1 rfl (by omega) (by omega) ?_
      rw [show g1 6 = gt 6 from hI.1 6 (by omega) (by omega), ht6 _ hnx]
      refine aj_istore 6 98 (dx d_Reduction_reduce 51 rfl) rfl rfl ?_
      simp only [List.set]
      refine aj_aload_n 0 99 (dx d_Reduction_reduce 52 rfl) rfl rfl rfl ?_
      refine aj_getf 102 fl_Reduction_9 (dx d_Reduction_reduce 53 rfl) rfl hr1.1 ?_
      rw [hr1.2.1.2.1]
      refine aj_iload 6 104 (dx d_Reduction_reduce 54 rfl) rfl rfl ?_
      refine aj_iald 105 (dx d_Reduction_reduce 55 rfl) rfl hr1.2.2.1 rfl (by omega) (by omega) ?_
      refine aj_iconst 106 (dx d_Reduction_reduce 56 rfl) rfl ?_
      refine aj_icmp_ne 119 109 (dx d_Reduction_reduce 57 rfl) rfl rfl (by rcases hnum with z | ⟨b, z, zb, -⟩; (rw [z.1]; unfold aj_I; omega); (rw [z]; unfold aj_I; omega)) (by unfold aj_I; omega) (fun h106 => ?_) (fun h106 => ?_)
      · rcases hnum with ⟨z, -⟩ | ⟨b, z, hb, eb⟩
        · exact absurd z h106
        · refine k_red_tail hr1 hA1 hM1 h100 rfl hjL (by omega) (hI.2.2.2.1 i hi).1 hmb.1 hin (by omega) z ?_
          have hst := rd_old hk0 htw hc hI hjd hb (by rw [ek1, ek2]; exact eb)
          rw [ek1, ek2] at hst
          exact ih _ (by omega) (inp + 1) _ (by omega) rfl hst (Nat.lt_of_lt_of_le hi (nb_mono_st _))
      · refine aj_aload_n 0 110 (dx d_Reduction_reduce 58 rfl) rfl rfl rfl ?_
        refine aj_iload 6 112 (dx d_Reduction_reduce 59 rfl) rfl rfl ?_
        refine aj_iload 4 114 (dx d_Reduction_reduce 60 rfl) rfl rfl ?_
        refine aj_iload 5 116 (dx d_Reduction_reduce 61 rfl) rfl rfl ?_
        refine aj_callV3 119 cl_Reduction_44 (dx d_Reduction_reduce 62 rfl) rfl rfl rfl rfl rfl rfl hr1.1 (k_addState hr1 (by rw [hI.2.2.1]; omega) (by rw [hI.2.2.1]; have := pg_lt8 hn8 htl hI.2.2.2.2.2.2 (by rcases hnum with z | ⟨b, z, -, -⟩; exact z.2; rw [z] at h106; omega); omega) (by omega) (by omega) ?_)
        change aj_wp _ _ _ _ _ _ _ _ _ _ _ _ _ _
        have hne := (by rcases hnum with z | ⟨b, z, -, -⟩; exact z.2; rw [z] at h106; omega : ∀ a, a < (nb k nx tw s0 (i * k + inp)).1 → (nb k nx tw s0 (i * k + inp)).2.1 a ≠ tw (nx ((nb k nx tw s0 (i * k + inp)).2.1 i) inp))
        have hst := rd_new hk0 htw hc hI hjd (by rw [ek1, ek2]; exact hne)
        rw [ek1, ek2] at hst
        refine k_red_tail (L := L) (nx := nx) (v := ((nb k nx tw s0 (i * k + inp)).1 : Nat)) (x := (nb k nx tw s0 (i * k + inp)).2.1 i) ?_ ?_ ?_ ?_ rfl hjL (by omega) ?_ hmb.1 hin (by omega) ?_ (ih _ (by omega) (inp + 1) _ (by omega) rfl hst (Nat.lt_of_lt_of_le hi (nb_mono_st _)))
        · refine rds_of hr1 ?_
          unfold as_g
          simp only [aj_up_app, Int.reduceEq, Int.reduceAdd, ↓reduceIte]
        · refine mcm_of hA1 ?_ ?_ ?_ <;> (unfold as_g; simp only [aj_up_app, Int.reduceEq, Int.reduceAdd, ↓reduceIte])
        · refine ⟨hM.1, ?_, ?_, hM.2.2.2⟩
          · unfold as_g
            simp only [aj_up_app, Int.reduceEq, Int.reduceAdd, ↓reduceIte]
            exact hM1.2.1
          · unfold as_g
            simp only [aj_up_app, Int.reduceEq, Int.reduceAdd, ↓reduceIte]
            exact hM1.2.2.1
        · unfold as_g
          simp only [aj_up_app, Int.reduceEq, Int.reduceAdd, ↓reduceIte]
          exact h100
        · unfold as_g
          simp only [aj_up_app, Int.reduceEq, Int.reduceAdd, ↓reduceIte]
          rw [hI.2.2.1, if_neg (by omega)]
          exact (hI.2.2.2.1 i hi).1
        · unfold as_g
          simp only [aj_up_app, Int.reduceEq, Int.reduceAdd, ↓reduceIte]
          exact hI.2.2.1
set_option maxHeartbeats 4000000 in
theorem k_red_3 {al : Prop} {X : Option (Nat × (Int → Int))} {d : Nat} {sh : List aj_S} {Q : aj_R → List aj_S → aj_G → Prop} {L L10 k n s0 : Nat} {nx ou : Nat → Nat → Nat} {gt : aj_G} {tw : Nat → Nat} (hr : rds sh gt) (hA : mcm sh gt 1 L k n nx ou) (hM : mcs sh gt 10 L10) (h10 : gt 10 0 = k) (hL10 : 8 * k ≤ L10) (hn8 : n ≤ 8) (htw : tw_ok k n nx ou tw) (ht6 : ∀ x : Nat, x < n → gt 6 x = tw x) (hk : ∀ g1 N q, (∀ r', r' ≠ 5 → (r' < 7 ∨ 12 < r') → g1 r' = gt r') → (∀ x, x ≠ 3 → g1 10 x = gt 10 x) → rd_P g1 k n s0 nx ou tw N q → Q (.inl none) sh g1) {g3 : aj_G} {N : Nat} (hN : (nb k nx tw s0 (N * k)).1 = N) (hI : rd_I gt g3 k n s0 nx ou tw (N * k) (nb k nx tw s0 (N * k))) :
    ∀ (m x : Nat) (g1 : aj_G), x ≤ n → n - x = m → (∀ r', r' ≠ 5 → g1 r' = g3 r') → (∀ y : Nat, y < n → g1 5 y = if y < x then g3 5 (tw y : Nat) else g3 5 y) →
    aj_wp nE al al X m_Reduction_reduce (d + 3) 0 0 165 [some (1, 4), some (1, 1), some (0, (s0 : Int)), some (1, 44), some (0, (x : Int)), none, none] [] sh g1 Q := by
  intro m
  induction m using Nat.strongRecOn with
  | ind m ih =>
    intro x g1 hx0 hmm hE hV
    have hr1 := rds_of hr (by rw [hE 4 (by omega)]; exact hI.1 4 (by omega) (by omega) : g1 4 = gt 4)
    have hA1 := mcm_of hA (by rw [hE 1 (by omega)]; exact hI.1 1 (by omega) (by omega) : g1 1 = gt 1) (by rw [show (1 : Int) + 1 = 2 from rfl, hE 2 (by omega)]; exact hI.1 2 (by omega) (by omega) : g1 (1 + 1) = gt (1 + 1)) (by rw [show (1 : Int) + 2 = 3 from rfl, hE 3 (by omega)]; exact hI.1 3 (by omega) (by omega) : g1 (1 + 2) = gt (1 + 2))
    refine aj_iload 4 167 (dx d_Reduction_reduce 85 rfl) rfl rfl ?_
    refine aj_aload_n 1 168 (dx d_Reduction_reduce 86 rfl) rfl rfl rfl ?_
    refine aj_getf 171 fl_Reduction_40 (dx d_Reduction_reduce 87 rfl) rfl hA1.1.1 ?_
    refine aj_icmp_ge 199 174 (dx d_Reduction_reduce 88 rfl) rfl rfl (by unfold aj_I; omega) (by rw [hA1.2.2.1]; unfold aj_I; omega) (fun h171 => ?_) (fun h171 => ?_)
    · rw [hA1.2.2.1] at h171
      refine aj_vret (dx d_Reduction_reduce 102 rfl) rfl id ?_
      have hxn : x = n := by omega
      subst hxn
      refine hk g1 N _ (fun r' c1 c2 => by rw [hE r' c1]; exact hI.1 r' c1 c2) (fun y hy => by rw [hE 10 (by omega)]; exact hI.2.1 y hy) ⟨htw, rfl, hN, hI.2.2.2.2.2.2, by rw [hE 10 (by omega), hI.2.2.1, hN], fun a ha => ?_, fun a i hi ha => ?_, fun y hy => ⟨fun a ha e => ?_, fun hne => ?_⟩⟩
      · rw [hE 7 (by omega), hE 8 (by omega), hE 9 (by omega)]
        obtain ⟨z1, z2, z3, z4⟩ := hI.2.2.2.1 a (by omega)
        exact ⟨z1, z3, z4⟩
      · rw [hE 11 (by omega), hE 12 (by omega)]
        have hl : a * k + i < N * k := by
          have h1 : (a + 1) * k ≤ N * k := Nat.mul_le_mul_right k ha
          rw [Nat.add_mul] at h1
          omega
        obtain ⟨b, b1, b2, b3, b4⟩ := hI.2.2.2.2.2.1 a i hi hl
        rw [ij_cast (rfl : a * k + i = a * k + i)]
        exact ⟨b, by omega, b2, b3, b4⟩
      · rw [hV y hy, if_pos hy, ← e]
        exact (hI.2.2.2.1 a (by omega)).2.1
      · rw [hV y hy, if_pos hy]
        exact hI.2.2.2.2.1 _ (tw_lt htw hy) (fun a ha => hne a (by omega))
    · rw [hA1.2.2.1] at h171
      have hx : x < n := by omega
      have e6 : g1 6 x = tw x := by rw [hE 6 (by omega), hI.1 6 (by omega) (by omega)]; exact ht6 x hx
      have htl := tw_lt htw hx
      have hval : g1 5 (tw x : Nat) = g3 5 (tw x : Nat) := by
        rw [hV _ htl]
        by_cases c : tw x < x
        · rw [if_pos c, tw_tw htw hx]
        · rw [if_neg c]
      refine aj_aload_n 0 175 (dx d_Reduction_reduce 89 rfl) rfl rfl rfl ?_
      refine aj_getf 178 fl_Reduction_9 (dx d_Reduction_reduce 90 rfl) rfl hr1.1 ?_
      rw [hr1.2.1.2.1]
      refine aj_iload 4 180 (dx d_Reduction_reduce 91 rfl) rfl rfl ?_
      refine aj_aload_n 0 181 (dx d_Reduction_reduce 92 rfl) rfl rfl rfl ?_
      refine aj_getf 184 fl_Reduction_9 (dx d_Reduction_reduce 93 rfl) rfl hr1.1 ?_
      rw [hr1.2.1.2.1]
      refine aj_aload_n 0 185 (dx d_Reduction_reduce 94 rfl) rfl rfl rfl ?_
      refine aj_getf 188 fl_Reduction_15 (dx d_Reduction_reduce 95 rfl) rfl hr1.1 ?_
      rw [hr1.2.1.2.2.1]
      refine aj_iload 4 190 (dx d_Reduction_reduce 96 rfl) rfl rfl ?_
      refine aj_iald 191 (dx d_Reduction_reduce 97 rfl) rfl hr1.2.2.2.1 rfl (by omega) (by omega) ?_
      rw [e6]
      refine aj_iald 192 (dx d_Reduction_reduce 98 rfl) rfl hr1.2.2.1 rfl (by omega) (by omega) ?_
      rw [hval]
      refine aj_iast 193 (dx d_Reduction_reduce 99 rfl) rfl hr1.2.2.1 rfl (by omega) (by omega) ?_
      refine aj_iinc 4 196 (dx d_Reduction_reduce 100 rfl) rfl rfl rfl ?_
      simp only [List.set]
      refine aj_goto 165 (dx d_Reduction_reduce 101 rfl) rfl ?_
      have hih := ih _ (by omega) (x + 1) (aj_up g1 5 (x : Int) (g3 5 (tw x : Nat))) (by omega) rfl (fun r' c => by rw [aj_up_ne _ _ _ c]; exact hE r' c) (fun y hy => by
        rw [aj_up_at]
        by_cases c : y = x
        · subst c
          rw [if_pos ⟨rfl, rfl⟩, if_pos (by omega)]
        · rw [if_neg (by omega), hV y hy]
          by_cases c2 : y < x
          · rw [if_pos c2, if_pos (by omega)]
          · rw [if_neg c2, if_neg (by omega)])
      rw [show ((x : Nat) : Int) + 1 = ((x + 1 : Nat) : Int) by omega]
      exact hih
set_option maxHeartbeats 4000000 in
theorem k_red_2 {al : Prop} {X : Option (Nat × (Int → Int))} {d : Nat} {sh : List aj_S} {Q : aj_R → List aj_S → aj_G → Prop} {L L10 k n s0 : Nat} {nx ou : Nat → Nat → Nat} {gt : aj_G} {tw : Nat → Nat} (hr : rds sh gt) (hA : mcm sh gt 1 L k n nx ou) (hM : mcs sh gt 10 L10) (h10 : gt 10 0 = k) (hL10 : 8 * k ≤ L10) (hn8 : n ≤ 8) (htw : tw_ok k n nx ou tw) (ht6 : ∀ x : Nat, x < n → gt 6 x = tw x) (hk : ∀ g1 N q, (∀ r', r' ≠ 5 → (r' < 7 ∨ 12 < r') → g1 r' = gt r') → (∀ x, x ≠ 3 → g1 10 x = gt 10 x) → rd_P g1 k n s0 nx ou tw N q → Q (.inl none) sh g1) :
    ∀ (m i : Nat) (g1 : aj_G), i ≤ (nb k nx tw s0 (i * k)).1 → 8 - i = m → rd_I gt g1 k n s0 nx ou tw (i * k) (nb k nx tw s0 (i * k)) →
    aj_wp nE al al X m_Reduction_reduce (d + 3) 0 0 47 [some (1, 4), some (1, 1), some (0, (s0 : Int)), some (1, 44), some (0, (i : Int)), none, none] [] sh g1 Q := by
  intro m
  induction m using Nat.strongRecOn with
  | ind m ih =>
    intro i g1 hi0 hmm hI
    have hr1 := rds_of hr (hI.1 4 (by omega) (by omega))
    have hA1 := mcm_of hA (hI.1 1 (by omega) (by omega)) (hI.1 2 (by omega) (by omega)) (hI.1 3 (by omega) (by omega))
    have hc : ∀ s i, s < n → i < k → nx s i < n := fun s i h1 h2 => (hA.2.2.2.2.2.2 s i h1 h2).2.2.1
    have hk3 := hA.2.2.2.2.1
    have hk0 : 0 < k := by omega
    have hNn := nb_le hI.2.2.2.2.2.2
    have h100 : g1 10 0 = k := by rw [hI.2.1 0 (by omega)]; exact h10
    have hM1 : mcs sh g1 10 L10 := ⟨hM.1, by rw [hI.2.1 1 (by omega)]; exact hM.2.1, by rw [hI.2.1 2 (by omega)]; exact hM.2.2.1, hM.2.2.2⟩
    refine aj_iload 4 49 (dx d_Reduction_reduce 27 rfl) rfl rfl ?_
    refine aj_bipush 51 (dx d_Reduction_reduce 28 rfl) rfl (by decide +kernel) ?_
    refine aj_icmp_ge 162 54 (dx d_Reduction_reduce 29 rfl) rfl rfl (by unfold aj_I; omega) (by unfold aj_I; omega) (fun h51 => ?_) (fun h51 => ?_)
    · have hNi : (nb k nx tw s0 (i * k)).1 = i := by omega
      refine aj_iconst 163 (dx d_Reduction_reduce 83 rfl) rfl ?_
      refine aj_istore 4 165 (dx d_Reduction_reduce 84 rfl) rfl rfl ?_
      simp only [List.set]
      exact k_red_3 hr hA hM h10 hL10 hn8 htw ht6 hk (N := i) hNi hI _ 0 g1 (Nat.zero_le _) rfl (fun _ _ => rfl) (fun y _ => by rw [if_neg (by omega)])
    · refine aj_iload 4 56 (dx d_Reduction_reduce 30 rfl) rfl rfl ?_
      refine aj_aload_n 0 57 (dx d_Reduction_reduce 31 rfl) rfl rfl rfl ?_
      refine aj_getf 60 fl_Reduction_32 (dx d_Reduction_reduce 32 rfl) rfl hr1.1 ?_
      rw [hr1.2.1.1]
      refine aj_getf 63 fl_Reduction_40 (dx d_Reduction_reduce 33 rfl) rfl hM1.1 ?_
      refine aj_icmp_ge 162 66 (dx d_Reduction_reduce 34 rfl) rfl rfl (by unfold aj_I; omega) (by rw [hI.2.2.1]; unfold aj_I; omega) (fun h63 => ?_) (fun h63 => ?_)
      · rw [hI.2.2.1] at h63
        have hNi : (nb k nx tw s0 (i * k)).1 = i := by omega
        refine aj_iconst 163 (dx d_Reduction_reduce 83 rfl) rfl ?_
        refine aj_istore 4 165 (dx d_Reduction_reduce 84 rfl) rfl rfl ?_
        simp only [List.set]
        exact k_red_3 hr hA hM h10 hL10 hn8 htw ht6 hk (N := i) hNi hI _ 0 g1 (Nat.zero_le _) rfl (fun _ _ => rfl) (fun y _ => by rw [if_neg (by omega)])
      · rw [hI.2.2.1] at h63
        refine aj_iconst 67 (dx d_Reduction_reduce 35 rfl) rfl ?_
        refine aj_istore 5 69 (dx d_Reduction_reduce 36 rfl) rfl rfl ?_
        simp only [List.set]
        refine k_red_in hr hA hM h10 hL10 hn8 htw ht6 (fun g2 hI2 hi2 => ?_) _ 0 g1 (Nat.zero_le _) rfl hI (by show i < (nb k nx tw s0 (i * k)).1; omega)
        have := ih _ (by omega) (i + 1) g2 hi2 rfl hI2
        rw [show ((i : Nat) : Int) + 1 = ((i + 1 : Nat) : Int) by omega]
        exact this
set_option maxHeartbeats 4000000 in
theorem k_red_1 {al : Prop} {X : Option (Nat × (Int → Int))} {d : Nat} {sh : List aj_S} {Q : aj_R → List aj_S → aj_G → Prop} {L L10 k n s0 : Nat} {nx ou : Nat → Nat → Nat} {gt : aj_G} {tw : Nat → Nat} (hr : rds sh gt) (hA : mcm sh gt 1 L k n nx ou) (hM : mcs sh gt 10 L10) (h10 : gt 10 0 = k) (hL10 : 8 * k ≤ L10) (hn8 : n ≤ 8) (htw : tw_ok k n nx ou tw) (ht6 : ∀ x : Nat, x < n → gt 6 x = tw x) (hk : ∀ g1 N q, (∀ r', r' ≠ 5 → (r' < 7 ∨ 12 < r') → g1 r' = gt r') → (∀ x, x ≠ 3 → g1 10 x = gt 10 x) → rd_P g1 k n s0 nx ou tw N q → Q (.inl none) sh g1) (hs0 : s0 < n) (h103 : gt 10 3 = 0) :
    ∀ (m x : Nat) (g1 : aj_G), x ≤ n → n - x = m → (∀ r', r' ≠ 5 → g1 r' = gt r') → (∀ y : Nat, y < x → g1 5 y = -1) →
    aj_wp nE al al X m_Reduction_reduce (d + 3) 0 0 9 [some (1, 4), some (1, 1), some (0, (s0 : Int)), some (1, 44), some (0, (x : Int)), none, none] [] sh g1 Q := by
  intro m
  induction m using Nat.strongRecOn with
  | ind m ih =>
    intro x g1 hx0 hmm hE hV
    have hr1 := rds_of hr (hE 4 (by omega))
    have hA1 := mcm_of hA (hE 1 (by omega)) (hE _ (by omega)) (hE _ (by omega))
    refine aj_iload 4 11 (dx d_Reduction_reduce 6 rfl) rfl rfl ?_
    refine aj_aload_n 1 12 (dx d_Reduction_reduce 7 rfl) rfl rfl rfl ?_
    refine aj_getf 15 fl_Reduction_40 (dx d_Reduction_reduce 8 rfl) rfl hA1.1.1 ?_
    refine aj_icmp_ge 32 18 (dx d_Reduction_reduce 9 rfl) rfl rfl (by unfold aj_I; omega) (by rw [hA1.2.2.1]; unfold aj_I; omega) (fun h15 => ?_) (fun h15 => ?_)
    · rw [hA1.2.2.1] at h15
      have htl := tw_lt htw hs0
      refine aj_aload_n 0 33 (dx d_Reduction_reduce 17 rfl) rfl rfl rfl ?_
      refine aj_aload_n 0 34 (dx d_Reduction_reduce 18 rfl) rfl rfl rfl ?_
      refine aj_getf 37 fl_Reduction_15 (dx d_Reduction_reduce 19 rfl) rfl hr1.1 ?_
      rw [hr1.2.1.2.2.1]
      refine aj_iload_n 2 38 (dx d_Reduction_reduce 20 rfl) rfl rfl rfl ?_
      refine aj_iald 39 (dx d_Reduction_reduce 21 rfl) rfl hr1.2.2.2.1 rfl (by omega) (by omega) ?_
      rw [hE 6 (by omega), ht6 _ hs0]
      refine aj_iconst 40 (dx d_Reduction_reduce 22 rfl) rfl ?_
      refine aj_iconst 41 (dx d_Reduction_reduce 23 rfl) rfl ?_
      refine aj_callV3 44 cl_Reduction_44 (dx d_Reduction_reduce 24 rfl) rfl rfl rfl rfl rfl rfl hr1.1 (k_addState hr1 (by rw [hE 10 (by omega), h103]; omega) (by rw [hE 10 (by omega), h103]; omega) (by omega) (by omega) ?_)
      change aj_wp _ _ _ _ _ _ _ _ _ _ _ _ _ _
      refine aj_iconst 45 (dx d_Reduction_reduce 25 rfl) rfl ?_
      refine aj_istore 4 47 (dx d_Reduction_reduce 26 rfl) rfl rfl ?_
      simp only [List.set]
      have h103' : g1 10 3 = 0 := by rw [hE 10 (by omega)]; exact h103
      refine k_red_2 hr hA hM h10 hL10 hn8 htw ht6 hk _ 0 _ (by rw [Nat.zero_mul]; exact Nat.zero_le _) rfl ?_
      rw [Nat.zero_mul]
      have hn0 := nb_0 (k := k) hs0 htw
      refine ⟨fun r' c1 c2 => ?_, fun y hy => ?_, ?_, fun a ha => ?_, fun y hy hne => ?_, fun a i hi hl => absurd hl (Nat.not_lt_zero _), hn0⟩
      · unfold as_g
        rw [aj_up_ne _ _ _ (by omega), aj_up_ne _ _ _ (by omega), aj_up_ne _ _ _ (by omega), aj_up_ne _ _ _ c1, aj_up_ne _ _ _ (by omega)]
        exact hE r' c1
      · unfold as_g
        simp only [aj_up_app, Int.reduceEq, Int.reduceAdd, ↓reduceIte]
        rw [if_neg hy, hE 10 (by omega)]
      · unfold as_g
        simp only [aj_up_app, Int.reduceEq, Int.reduceAdd, ↓reduceIte]
        rw [h103']
        rfl
      · have ha0 : a = 0 := by
          have : a < 1 := ha
          omega
        subst ha0
        unfold as_g
        simp only [aj_up_app, Int.reduceEq, Int.reduceAdd, ↓reduceIte]
        rw [h103']
        exact ⟨if_pos rfl, if_pos rfl, fun _ => ⟨if_pos rfl, if_pos rfl⟩, fun z => absurd z (Nat.lt_irrefl _)⟩
      · have hne0 : tw s0 ≠ y := hne 0 Nat.one_pos
        unfold as_g
        simp only [aj_up_app, Int.reduceEq, Int.reduceAdd, ↓reduceIte]
        rw [if_neg (fun z => hne0 (by omega))]
        exact hV y (by omega)
    · rw [hA1.2.2.1] at h15
      refine aj_aload_n 0 19 (dx d_Reduction_reduce 10 rfl) rfl rfl rfl ?_
      refine aj_getf 22 fl_Reduction_9 (dx d_Reduction_reduce 11 rfl) rfl hr1.1 ?_
      rw [hr1.2.1.2.1]
      refine aj_iload 4 24 (dx d_Reduction_reduce 12 rfl) rfl rfl ?_
      refine aj_iconst 25 (dx d_Reduction_reduce 13 rfl) rfl ?_
      refine aj_iast 26 (dx d_Reduction_reduce 14 rfl) rfl hr1.2.2.1 rfl (by omega) (by omega) ?_
      refine aj_iinc 4 29 (dx d_Reduction_reduce 15 rfl) rfl rfl rfl ?_
      simp only [List.set]
      refine aj_goto 9 (dx d_Reduction_reduce 16 rfl) rfl ?_
      have hih := ih _ (by omega) (x + 1) (aj_up g1 5 (x : Int) (-1)) (by omega) rfl (fun r' c => by rw [aj_up_ne _ _ _ c]; exact hE r' c) (fun y hy => by
        rw [aj_up_at]
        by_cases c : y = x
        · rw [if_pos ⟨rfl, by omega⟩]
        · rw [if_neg (by omega)]
          exact hV y (by omega))
      rw [show ((x : Nat) : Int) + 1 = ((x + 1 : Nat) : Int) by omega]
      exact hih
set_option maxHeartbeats 4000000 in
theorem k_Reduction_reduce {al : Prop} {X : Option (Nat × (Int → Int))} {d : Nat} {sh : List aj_S} {Q : aj_R → List aj_S → aj_G → Prop} {L L10 k n s0 : Nat} {nx ou : Nat → Nat → Nat} {g : aj_G} (hr : rds sh g) (hA : mcm sh g 1 L k n nx ou) (hM : mcs sh g 10 L10) (h10 : g 10 0 = k) (hL10 : 8 * k ≤ L10) (hn8 : n ≤ 8) (hp : pss sh g 44) (hs0 : s0 < n) (h103 : g 10 3 = 0)
    (hk : ∀ g1 tw N q, rd_F g g1 → rd_P g1 k n s0 nx ou tw N q → Q (.inl none) sh g1) : aj_wp nE al al X m_Reduction_reduce (d + 3) 0 0 0 [some (1, 4), some (1, 1), some (0, (s0 : Int)), some (1, 44), none, none, none] [] sh g Q := by
  refine aj_aload_n 0 1 (dx d_Reduction_reduce 0 rfl) rfl rfl rfl ?_
  refine aj_aload_n 1 2 (dx d_Reduction_reduce 1 rfl) rfl rfl rfl ?_
  refine aj_aload_n 3 3 (dx d_Reduction_reduce 2 rfl) rfl rfl rfl ?_
  refine aj_callV2 6 cl_Reduction_36 (dx d_Reduction_reduce 3 rfl) rfl rfl rfl rfl rfl rfl hr.1 (k_findTwins hr hA hn8 hp (fun gt hF hT => ?_))
  change aj_wp _ _ _ _ _ _ _ _ _ _ _ _ _ _
  refine aj_iconst 7 (dx d_Reduction_reduce 4 rfl) rfl ?_
  refine aj_istore 4 9 (dx d_Reduction_reduce 5 rfl) rfl rfl ?_
  simp only [List.set]
  have htw : tw_ok k n nx ou (fun x => (gt 6 x).toNat) := by
    intro x hx
    obtain ⟨c, e, h1⟩ := hT x hx
    show (gt 6 x).toNat ≤ x ∧ al_k k nx ou x (gt 6 x).toNat ∧ ∀ t, t < (gt 6 x).toNat → ¬ al_k k nx ou x t
    rw [e, Int.toNat_natCast]
    exact h1
  have ht6 : ∀ x : Nat, x < n → gt 6 x = ((fun x : Nat => (gt 6 x).toNat) x : Nat) := by
    intro x hx
    obtain ⟨c, e, h1⟩ := hT x hx
    show gt 6 x = ((gt 6 x).toNat : Int)
    rw [e, Int.toNat_natCast]
  refine k_red_1 (rds_of hr (hF.1 4 (by omega) (by omega))) (mcm_of hA (hF.1 _ (by omega) (by omega)) (hF.1 _ (by omega) (by omega)) (hF.1 _ (by omega) (by omega))) (mcs_of hM (hF.1 10 (by omega) (by omega))) (by rw [hF.1 10 (by omega) (by omega)]; exact h10) hL10 hn8 htw ht6 (fun g1 N q c1 c2 c3 => hk g1 _ N q ⟨fun r' z => ?_, fun j z => ?_, fun j z => ?_, fun j z => ?_⟩ c3) hs0 (by rw [hF.1 10 (by omega) (by omega)]; exact h103) _ 0 gt (Nat.zero_le _) rfl (fun _ _ => rfl) (fun y hy => absurd hy (Nat.not_lt_zero _))
  · rw [c1 r' (by omega) (by omega)]
    exact hF.1 r' (by omega) (by omega)
  · rw [c2 j z, hF.1 10 (by omega) (by omega)]
  · rw [c1 44 (by omega) (by omega)]
    exact hF.2.1 j z
  · rw [c1 45 (by omega) (by omega)]
    exact hF.2.2 j z
