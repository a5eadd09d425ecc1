/-! Machine.fitTo -/
theorem mcs_of {sh : List aj_S} {g g1 : aj_G} {r : Int} {L : Nat} (h : mcs sh g r L) (e : g1 r = g r) : mcs sh g1 r L := by
  unfold mcs at h ⊢
  rw [e]
  exact h
def fit_n (g : aj_G) (r n k s i : Int) : Int := if g r 3 ≤ s then s else if n ≤ g (r + 1) (s * k + i) then 0 else g (r + 1) (s * k + i)
def fit_o (g : aj_G) (r k s i : Int) : Int := if g r 3 ≤ s then 0 else g (r + 2) (s * k + i)
def fit_I (g g1 : aj_G) (r n k s i : Int) : Prop := (∀ r', r' ≠ r + 1 → r' ≠ r + 2 → g1 r' = g r') ∧ ∀ s' i', 0 ≤ s' → s' < n → 0 ≤ i' → i' < k →
  g1 (r + 1) (s' * k + i') = (if s' < s ∨ (s' = s ∧ i' < i) then fit_n g r n k s' i' else g (r + 1) (s' * k + i')) ∧ g1 (r + 2) (s' * k + i') = (if s' < s ∨ (s' = s ∧ i' < i) then fit_o g r k s' i' else g (r + 2) (s' * k + i'))
theorem fit_0 {g : aj_G} {r n k : Int} : fit_I g g r n k 0 0 := by
  refine ⟨fun _ _ _ => rfl, fun s' i' h1 h2 h3 h4 => ?_⟩
  rw [if_neg (by omega), if_neg (by omega)]
  exact ⟨rfl, rfl⟩
theorem fit_row {g g1 : aj_G} {r n k s : Int} (h : fit_I g g1 r n k s k) : fit_I g g1 r n k (s + 1) 0 := by
  refine ⟨h.1, fun s' i' h1 h2 h3 h4 => ?_⟩
  obtain ⟨a, b⟩ := h.2 s' i' h1 h2 h3 h4
  by_cases c : s' < s ∨ (s' = s ∧ i' < k)
  · rw [if_pos c] at a b
    rw [if_pos (by omega), if_pos (by omega)]
    exact ⟨a, b⟩
  · rw [if_neg c] at a b
    rw [if_neg (by omega), if_neg (by omega)]
    exact ⟨a, b⟩
theorem fit_skip {g g1 : aj_G} {r n k s i : Int} (h : fit_I g g1 r n k s i) (ha : fit_n g r n k s i = g (r + 1) (s * k + i)) (hb : fit_o g r k s i = g (r + 2) (s * k + i)) : fit_I g g1 r n k s (i + 1) := by
  refine ⟨h.1, fun s' i' h1 h2 h3 h4 => ?_⟩
  obtain ⟨a, b⟩ := h.2 s' i' h1 h2 h3 h4
  by_cases c : s' < s ∨ (s' = s ∧ i' < i)
  · rw [if_pos c] at a b
    rw [if_pos (by omega), if_pos (by omega)]
    exact ⟨a, b⟩
  · rw [if_neg c] at a b
    by_cases e : s' = s ∧ i' = i
    · obtain ⟨rfl, rfl⟩ := e
      rw [if_pos (by omega), if_pos (by omega), ha, hb]
      exact ⟨a, b⟩
    · rw [if_neg (by omega), if_neg (by omega)]
      exact ⟨a, b⟩
theorem fit_step {g g1 : aj_G} {r n k s i a0 b0 : Int} (hk : k = 1 ∨ k = 2 ∨ k = 3) (h : fit_I g g1 r n k s i) (hi0 : 0 ≤ i) (hi1 : i < k) (ha : fit_n g r n k s i = a0) (hb : fit_o g r k s i = b0) : fit_I g (aj_up (aj_up g1 (r + 1) (s * k + i) a0) (r + 2) (s * k + i) b0) r n k s (i + 1) := by
  refine ⟨fun r' e1 e2 => by rw [aj_up_ne _ _ _ e2, aj_up_ne _ _ _ e1]; exact h.1 r' e1 e2, fun s' i' h1 h2 h3 h4 => ?_⟩
  obtain ⟨a, b⟩ := h.2 s' i' h1 h2 h3 h4
  have e3 := ix_inj (s := s) (s' := s') hk hi0 hi1 h3 h4
  have u1 : aj_up (aj_up g1 (r + 1) (s * k + i) a0) (r + 2) (s * k + i) b0 (r + 1) (s' * k + i') = (if s' = s ∧ i' = i then a0 else g1 (r + 1) (s' * k + i')) := by
    rw [aj_up_ne _ _ _ (show r + 1 ≠ r + 2 by omega), aj_up_at]
    by_cases e : s' = s ∧ i' = i
    · rw [if_pos e, if_pos ⟨rfl, e3.mpr e⟩]
    · rw [if_neg e, if_neg (fun z => e (e3.mp z.2))]
  have u2 : aj_up (aj_up g1 (r + 1) (s * k + i) a0) (r + 2) (s * k + i) b0 (r + 2) (s' * k + i') = (if s' = s ∧ i' = i then b0 else g1 (r + 2) (s' * k + i')) := by
    rw [aj_up_at]
    by_cases e : s' = s ∧ i' = i
    · rw [if_pos e, if_pos ⟨rfl, e3.mpr e⟩]
    · rw [if_neg e, if_neg (fun z => e (e3.mp z.2)), aj_up_ne _ _ _ (show r + 2 ≠ r + 1 by omega)]
  rw [u1, u2]
  by_cases e : s' = s ∧ i' = i
  · obtain ⟨rfl, rfl⟩ := e
    have c2 : s' < s' ∨ (s' = s' ∧ i' < i' + 1) := by omega
    have c1 : s' = s' ∧ i' = i' := ⟨rfl, rfl⟩
    rw [if_pos c1, if_pos c1, if_pos c2, if_pos c2]
    exact ⟨ha.symm, hb.symm⟩
  · rw [if_neg e, if_neg e]
    by_cases c : s' < s ∨ (s' = s ∧ i' < i)
    · rw [if_pos c] at a b
      have c2 : s' < s ∨ (s' = s ∧ i' < i + 1) := by omega
      rw [if_pos c2, if_pos c2]
      exact ⟨a, b⟩
    · rw [if_neg c] at a b
      have c2 : ¬ (s' < s ∨ (s' = s ∧ i' < i + 1)) := by omega
      rw [if_neg c2, if_neg c2]
      exact ⟨a, b⟩
theorem fit_at {g g1 : aj_G} {r n k s i : Int} (h : fit_I g g1 r n k s i) (h0 : 0 ≤ s) (h1 : s < n) (h2 : 0 ≤ i) (h3 : i < k) : g1 (r + 1) (s * k + i) = g (r + 1) (s * k + i) ∧ g1 (r + 2) (s * k + i) = g (r + 2) (s * k + i) := by
  obtain ⟨a, b⟩ := h.2 s i h0 h1 h2 h3
  rw [if_neg (by omega)] at a b
  exact ⟨a, b⟩
set_option maxHeartbeats 4000000 in
theorem k_fitTo_in {al : Prop} {X : Option (Nat × (Int → Int))} {d : Nat} {sh : List aj_S} {g : aj_G} {Q : aj_R → List aj_S → aj_G → Prop} {r n k : Int} {L : Nat} (hm : mcs sh g r L) (hg0 : g r 0 = k) (hk3 : k = 1 ∨ k = 2 ∨ k = 3) (hn0 : 0 ≤ n) (hnL : n * k ≤ L) (hn9 : n ≤ 1000) (hst : aj_I (g r 3)) (hv : ∀ s i, 0 ≤ s → s < g r 3 → 0 ≤ i → i < k → aj_I (g (r + 1) (s * k + i))) {s : Int} (h0 : 0 ≤ s) (h1 : s < n)
    (K : ∀ g1, fit_I g g1 r n k (s + 1) 0 → aj_wp nE al al X m_Machine_fitTo (d + 1) 0 0 2 [some (1, r), some (0, n), some (0, s + 1), none] [] sh g1 Q) : ∀ (m : Nat) (i : Int) (g1 : aj_G), 0 ≤ i → i ≤ k → (k - i).toNat = m → fit_I g g1 r n k s i →
    aj_wp nE al al X m_Machine_fitTo (d + 1) 0 0 9 [some (1, r), some (0, n), some (0, s), some (0, i)] [] sh g1 Q := by
  intro m
  induction m using Nat.strongRecOn with
  | ind m ih =>
    intro i g1 hi0 hi1 hmm hI
    have hr := hI.1 r (by omega) (by omega)
    have hm1 := mcs_of hm hr
    have hr0 : g1 r 0 = k := by rw [hr]; exact hg0
    have hr3 : g1 r 3 = g r 3 := by rw [hr]
    refine aj_iload_n 3 10 (dx d_Machine_fitTo 7 rfl) rfl rfl rfl ?_
    refine aj_aload_n 0 11 (dx d_Machine_fitTo 8 rfl) rfl rfl rfl ?_
    refine aj_getf 14 fl_Machine_9 (dx d_Machine_fitTo 9 rfl) rfl hm1.1 ?_
    refine aj_icmp_ge 65 17 (dx d_Machine_fitTo 10 rfl) rfl rfl (by unfold aj_I; omega) (by rw [hr0]; unfold aj_I; omega) (fun h14 => ?_) (fun h14 => ?_)
    · rw [hr0] at h14
      have he : i = k := by omega
      subst he
      refine aj_iinc 2 68 (dx d_Machine_fitTo 39 rfl) rfl rfl rfl ?_
      simp only [List.set]
      refine aj_goto 2 (dx d_Machine_fitTo 40 rfl) rfl ?_
      refine aj_forget 3 ?_
      simp only [List.set]
      exact K g1 (fit_row hI)
    · rw [hr0] at h14
      have hx0 : 0 ≤ s * k + i := ix_0 hk3 h0 hi0
      have hx1 : s * k + i < L := by have := ix_in (n := n) hk3 h1 h14; omega
      have hat := fit_at hI h0 h1 hi0 h14
      refine aj_iload_n 2 18 (dx d_Machine_fitTo 11 rfl) rfl rfl rfl ?_
      refine aj_aload_n 0 19 (dx d_Machine_fitTo 12 rfl) rfl rfl rfl ?_
      refine aj_getf 22 fl_Machine_22 (dx d_Machine_fitTo 13 rfl) rfl hm1.1 ?_
      refine aj_icmp_lt 36 25 (dx d_Machine_fitTo 14 rfl) rfl rfl (by unfold aj_I; omega) (by rw [hr3]; exact hst) (fun h22 => ?_) (fun h22 => ?_)
      · rw [hr3] at h22
        refine aj_aload_n 0 37 (dx d_Machine_fitTo 22 rfl) rfl rfl rfl ?_
        refine aj_iload_n 2 38 (dx d_Machine_fitTo 23 rfl) rfl rfl rfl ?_
        refine aj_iload_n 3 39 (dx d_Machine_fitTo 24 rfl) rfl rfl rfl ?_
        refine aj_callV2 42 cl_Machine_46 (dx d_Machine_fitTo 25 rfl) rfl rfl rfl rfl rfl rfl hm1.1 (k_Machine_next hm1 (by rw [hr0]; exact hx0) (by rw [hr0]; exact hx1) ?_)
        change aj_wp _ _ _ _ _ _ _ _ _ _ _ _ _ _
        rw [hr0]
        refine aj_iload_n 1 43 (dx d_Machine_fitTo 26 rfl) rfl rfl rfl ?_
        refine aj_icmp_lt 59 46 (dx d_Machine_fitTo 27 rfl) rfl rfl (by rw [hat.1]; exact hv s i h0 (by omega) hi0 (by omega)) (by unfold aj_I; omega) (fun h43 => ?_) (fun h43 => ?_)
        · rw [hat.1] at h43
          refine aj_iinc 3 62 (dx d_Machine_fitTo 37 rfl) rfl rfl rfl ?_
          simp only [List.set]
          refine aj_goto 9 (dx d_Machine_fitTo 38 rfl) rfl ?_
          first
          | exact ih _ (by omega) (i + 1) _ (by omega) (by omega) rfl (fit_step hk3 hI hi0 h14 (by unfold fit_n; rw [if_pos h22]) (by unfold fit_o; rw [if_pos h22]))
          | exact ih _ (by omega) (i + 1) _ (by omega) (by omega) rfl (fit_skip hI (by unfold fit_n; rw [if_neg (by omega), if_neg (by omega)]) (by unfold fit_o; rw [if_neg (by omega)]))
          | exact ih _ (by omega) (i + 1) _ (by omega) (by omega) rfl (fit_step hk3 hI hi0 h14 (by unfold fit_n; rw [if_neg (by omega), if_pos h43]) (by unfold fit_o; rw [if_neg (by omega), hat.2]))
        · rw [hat.1] at h43
          refine aj_aload_n 0 47 (dx d_Machine_fitTo 28 rfl) rfl rfl rfl ?_
          refine aj_iload_n 2 48 (dx d_Machine_fitTo 29 rfl) rfl rfl rfl ?_
          refine aj_iload_n 3 49 (dx d_Machine_fitTo 30 rfl) rfl rfl rfl ?_
          refine aj_iconst 50 (dx d_Machine_fitTo 31 rfl) rfl ?_
          refine aj_aload_n 0 51 (dx d_Machine_fitTo 32 rfl) rfl rfl rfl ?_
          refine aj_iload_n 2 52 (dx d_Machine_fitTo 33 rfl) rfl rfl rfl ?_
          refine aj_iload_n 3 53 (dx d_Machine_fitTo 34 rfl) rfl rfl rfl ?_
          refine aj_callV2 56 cl_Machine_50 (dx d_Machine_fitTo 35 rfl) rfl rfl rfl rfl rfl rfl hm1.1 (k_Machine_output hm1 (by rw [hr0]; exact hx0) (by rw [hr0]; exact hx1) ?_)
          change aj_wp _ _ _ _ _ _ _ _ _ _ _ _ _ _
          rw [hr0]
          refine aj_callV4 59 cl_Machine_42 (dx d_Machine_fitTo 36 rfl) rfl rfl rfl rfl rfl rfl hm1.1 (k_Machine_set hm1 (by rw [hr0]; exact hx0) (by rw [hr0]; exact hx1) ?_)
          change aj_wp _ _ _ _ _ _ _ _ _ _ _ _ _ _
          rw [hr0]
          refine aj_iinc 3 62 (dx d_Machine_fitTo 37 rfl) rfl rfl rfl ?_
          simp only [List.set]
          refine aj_goto 9 (dx d_Machine_fitTo 38 rfl) rfl ?_
          first
          | exact ih _ (by omega) (i + 1) _ (by omega) (by omega) rfl (fit_step hk3 hI hi0 h14 (by unfold fit_n; rw [if_pos h22]) (by unfold fit_o; rw [if_pos h22]))
          | exact ih _ (by omega) (i + 1) _ (by omega) (by omega) rfl (fit_skip hI (by unfold fit_n; rw [if_neg (by omega), if_neg (by omega)]) (by unfold fit_o; rw [if_neg (by omega)]))
          | exact ih _ (by omega) (i + 1) _ (by omega) (by omega) rfl (fit_step hk3 hI hi0 h14 (by unfold fit_n; rw [if_neg (by omega), if_pos h43]) (by unfold fit_o; rw [if_neg (by omega), hat.2]))
      · rw [hr3] at h22
        refine aj_aload_n 0 26 (dx d_Machine_fitTo 15 rfl) rfl rfl rfl ?_
        refine aj_iload_n 2 27 (dx d_Machine_fitTo 16 rfl) rfl rfl rfl ?_
        refine aj_iload_n 3 28 (dx d_Machine_fitTo 17 rfl) rfl rfl rfl ?_
        refine aj_iload_n 2 29 (dx d_Machine_fitTo 18 rfl) rfl rfl rfl ?_
        refine aj_iconst 30 (dx d_Machine_fitTo 19 rfl) rfl ?_
        refine aj_callV4 33 cl_Machine_42 (dx d_Machine_fitTo 20 rfl) rfl rfl rfl rfl rfl rfl hm1.1 (k_Machine_set hm1 (by rw [hr0]; exact hx0) (by rw [hr0]; exact hx1) ?_)
        change aj_wp _ _ _ _ _ _ _ _ _ _ _ _ _ _
        rw [hr0]
        refine aj_goto 59 (dx d_Machine_fitTo 21 rfl) rfl ?_
        refine aj_iinc 3 62 (dx d_Machine_fitTo 37 rfl) rfl rfl rfl ?_
        simp only [List.set]
        refine aj_goto 9 (dx d_Machine_fitTo 38 rfl) rfl ?_
        first
        | exact ih _ (by omega) (i + 1) _ (by omega) (by omega) rfl (fit_step hk3 hI hi0 h14 (by unfold fit_n; rw [if_pos h22]) (by unfold fit_o; rw [if_pos h22]))
        | exact ih _ (by omega) (i + 1) _ (by omega) (by omega) rfl (fit_skip hI (by unfold fit_n; rw [if_neg (by omega), if_neg (by omega)]) (by unfold fit_o; rw [if_neg (by omega)]))
        | exact ih _ (by omega) (i + 1) _ (by omega) (by omega) rfl (fit_step hk3 hI hi0 h14 (by unfold fit_n; rw [if_neg (by omega), if_pos h43]) (by unfold fit_o; rw [if_neg (by omega), hat.2]))
set_option maxHeartbeats 4000000 in
theorem k_fitTo_out {al : Prop} {X : Option (Nat × (Int → Int))} {d : Nat} {sh : List aj_S} {g : aj_G} {Q : aj_R → List aj_S → aj_G → Prop} {r n k : Int} {L : Nat} (hm : mcs sh g r L) (hg0 : g r 0 = k) (hk3 : k = 1 ∨ k = 2 ∨ k = 3) (hn0 : 0 ≤ n) (hnL : n * k ≤ L) (hn9 : n ≤ 1000) (hst : aj_I (g r 3)) (hv : ∀ s i, 0 ≤ s → s < g r 3 → 0 ≤ i → i < k → aj_I (g (r + 1) (s * k + i)))
    (hk : ∀ g1, fit_I g g1 r n k n 0 → Q (.inl none) sh (aj_up g1 r 3 n)) : ∀ (m : Nat) (s : Int) (g1 : aj_G), 0 ≤ s → s ≤ n → (n - s).toNat = m → fit_I g g1 r n k s 0 →
    aj_wp nE al al X m_Machine_fitTo (d + 1) 0 0 2 [some (1, r), some (0, n), some (0, s), none] [] sh g1 Q := by
  intro m
  induction m using Nat.strongRecOn with
  | ind m ih =>
    intro s g1 h0 h1 hmm hI
    refine aj_iload_n 2 3 (dx d_Machine_fitTo 2 rfl) rfl rfl rfl ?_
    refine aj_iload_n 1 4 (dx d_Machine_fitTo 3 rfl) rfl rfl rfl ?_
    refine aj_icmp_ge 71 7 (dx d_Machine_fitTo 4 rfl) rfl rfl (by unfold aj_I; omega) (by unfold aj_I; omega) (fun h4 => ?_) (fun h4 => ?_)
    · have hr := hI.1 r (by omega) (by omega)
      refine aj_aload_n 0 72 (dx d_Machine_fitTo 41 rfl) rfl rfl rfl ?_
      refine aj_iload_n 1 73 (dx d_Machine_fitTo 42 rfl) rfl rfl rfl ?_
      refine aj_putf 76 (pl_Machine_22 _) (dx d_Machine_fitTo 43 rfl) rfl (mcs_of hm hr).1 (aj_fitI _) ?_
      refine aj_vret (dx d_Machine_fitTo 44 rfl) rfl id ?_
      exact hk g1 (by have e : s = n := by omega
                      subst e; exact hI)
    · refine aj_iconst 8 (dx d_Machine_fitTo 5 rfl) rfl ?_
      refine aj_istore_n 3 9 (dx d_Machine_fitTo 6 rfl) rfl rfl rfl ?_
      simp only [List.set]
      exact k_fitTo_in hm hg0 hk3 hn0 hnL hn9 hst hv h0 h4 (fun g2 hI2 => ih _ (by omega) (s + 1) g2 (by omega) (by omega) rfl hI2) _ 0 g1 (by omega) (by omega) rfl hI
set_option maxHeartbeats 4000000 in
theorem k_Machine_fitTo {al : Prop} {X : Option (Nat × (Int → Int))} {d : Nat} {sh : List aj_S} {g : aj_G} {Q : aj_R → List aj_S → aj_G → Prop} {r n k : Int} {L : Nat} (hm : mcs sh g r L) (hg0 : g r 0 = k) (hk3 : k = 1 ∨ k = 2 ∨ k = 3) (hn0 : 0 ≤ n) (hnL : n * k ≤ L) (hn9 : n ≤ 1000) (hst : aj_I (g r 3)) (hv : ∀ s i, 0 ≤ s → s < g r 3 → 0 ≤ i → i < k → aj_I (g (r + 1) (s * k + i)))
    (hk : ∀ g1, fit_I g g1 r n k n 0 → Q (.inl none) sh (aj_up g1 r 3 n)) : aj_wp nE al al X m_Machine_fitTo (d + 1) 0 0 0 [some (1, r), some (0, n), none, none] [] sh g Q := by
  refine aj_iconst 1 (dx d_Machine_fitTo 0 rfl) rfl ?_
  refine aj_istore_n 2 2 (dx d_Machine_fitTo 1 rfl) rfl rfl rfl ?_
  simp only [List.set]
  exact k_fitTo_out hm hg0 hk3 hn0 hnL hn9 hst hv hk _ 0 g (by omega) hn0 rfl fit_0
