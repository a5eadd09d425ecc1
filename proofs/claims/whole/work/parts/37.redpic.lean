/-! Reduction.reduce: the pictures -/
theorem ij_key {k a i j : Nat} (hk : 0 < k) (hi : i < k) (e : a * k + i = j) : j / k = a ∧ j % k = i := by
  rw [← e]
  exact ⟨by rw [Nat.mul_comm, Nat.mul_add_div hk, Nat.div_eq_of_lt hi]; rfl, by rw [Nat.mul_comm, Nat.mul_add_mod, Nat.mod_eq_of_lt hi]⟩
theorem ij_cast {k a i j : Nat} (e : a * k + i = j) : (a : Int) * (k : Int) + (i : Int) = (j : Int) := by
  rw [← e]
  push_cast
  rfl
/-- the reduction's cells at the place j of the numbering -/
def rd_I (gt g1 : aj_G) (k n s0 : Nat) (nx ou : Nat → Nat → Nat) (tw : Nat → Nat) (j : Nat) (q : nb_T) : Prop :=
  (∀ r', r' ≠ 5 → (r' < 7 ∨ 12 < r') → g1 r' = gt r') ∧ (∀ x, x ≠ 3 → g1 10 x = gt 10 x) ∧ g1 10 3 = q.1 ∧
  (∀ a : Nat, a < q.1 → g1 7 a = q.2.1 a ∧ g1 5 (q.2.1 a : Nat) = a ∧ (a = 0 → g1 8 a = -1 ∧ g1 9 a = -1) ∧ (0 < a → g1 8 a = q.2.2.1 a ∧ g1 9 a = q.2.2.2 a)) ∧
  (∀ x : Nat, x < n → (∀ a, a < q.1 → q.2.1 a ≠ x) → g1 5 x = -1) ∧
  (∀ a i : Nat, i < k → a * k + i < j → ∃ b : Nat, b < q.1 ∧ q.2.1 b = tw (nx (q.2.1 a) i) ∧ g1 11 ((a * k + i : Nat) : Int) = b ∧ g1 12 ((a * k + i : Nat) : Int) = ou (q.2.1 a) i) ∧
  nb_I k n nx tw s0 j q
section RD
variable {gt g1 : aj_G} {k n s0 : Nat} {nx ou : Nat → Nat → Nat} {tw : Nat → Nat} {j : Nat} {q : nb_T}
theorem rd_old (hk : 0 < k) (htw : tw_ok k n nx ou tw) (hc : ∀ s i, s < n → i < k → nx s i < n) (h : rd_I gt g1 k n s0 nx ou tw j q) (hj : j / k < q.1) {b : Nat} (hb : b < q.1) (e : q.2.1 b = tw (nx (q.2.1 (j / k)) (j % k))) :
    rd_I gt (aj_up (aj_up g1 11 (j : Int) (b : Int)) 12 (j : Int) (ou (q.2.1 (j / k)) (j % k) : Nat)) k n s0 nx ou tw (j + 1) (nb_st k nx tw j q) := by
  have hn := nb_step hk htw hc h.2.2.2.2.2.2 hj
  have hq : nb_st k nx tw j q = q := if_pos (nb_in_iff.mpr ⟨b, hb, e⟩)
  rw [hq] at hn ⊢
  obtain ⟨a1, a2, a3, a4, a5, a6, a7⟩ := h
  refine ⟨fun r' c1 c2 => by rw [aj_up_ne _ _ _ (by omega), aj_up_ne _ _ _ (by omega)]; exact a1 r' c1 c2, fun x hx => by rw [aj_up_ne _ _ _ (by omega), aj_up_ne _ _ _ (by omega)]; exact a2 x hx, by rw [aj_up_ne _ _ _ (by omega), aj_up_ne _ _ _ (by omega)]; exact a3, fun a ha => ?_, fun x hx hne => by rw [aj_up_ne _ _ _ (by omega), aj_up_ne _ _ _ (by omega)]; exact a5 x hx hne, fun a i hi hl => ?_, hn⟩
  · simp only [aj_up_app, Int.reduceEq, ↓reduceIte]
    exact a4 a ha
  · simp only [aj_up_app, Int.reduceEq, ↓reduceIte]
    by_cases c : a * k + i = j
    · obtain ⟨e1, e2⟩ := ij_key hk hi c
      rw [if_pos (by rw [c]), if_pos (by rw [c])]
      exact ⟨b, hb, by rw [e, e1, e2], rfl, by rw [e1, e2]⟩
    · rw [if_neg (by omega), if_neg (by omega)]
      exact a6 a i hi (by omega)
theorem rd_new (hk : 0 < k) (htw : tw_ok k n nx ou tw) (hc : ∀ s i, s < n → i < k → nx s i < n) (h : rd_I gt g1 k n s0 nx ou tw j q) (hj : j / k < q.1) (hne : ∀ a, a < q.1 → q.2.1 a ≠ tw (nx (q.2.1 (j / k)) (j % k))) :
    rd_I gt (aj_up (aj_up (as_g g1 (tw (nx (q.2.1 (j / k)) (j % k)) : Nat) (j / k : Nat) (j % k : Nat)) 11 (j : Int) (q.1 : Int)) 12 (j : Int) (ou (q.2.1 (j / k)) (j % k) : Nat)) k n s0 nx ou tw (j + 1) (nb_st k nx tw j q) := by
  have hn := nb_step hk htw hc h.2.2.2.2.2.2 hj
  have hq : nb_st k nx tw j q = (q.1 + 1, nb_up q.2.1 q.1 (tw (nx (q.2.1 (j / k)) (j % k))), nb_up q.2.2.1 q.1 (j / k), nb_up q.2.2.2 q.1 (j % k)) := if_neg (fun z => by obtain ⟨a, h1, h2⟩ := nb_in_iff.mp z; exact hne a h1 h2)
  rw [hq] at hn ⊢
  obtain ⟨a1, a2, a3, a4, a5, a6, a7⟩ := h
  generalize htt : tw (nx (q.2.1 (j / k)) (j % k)) = t at hne hn ⊢
  unfold as_g
  rw [a3]
  refine ⟨fun r' c1 c2 => by rw [aj_up_ne _ _ _ (by omega), aj_up_ne _ _ _ (by omega), aj_up_ne _ _ _ (by omega), aj_up_ne _ _ _ (by omega), aj_up_ne _ _ _ (by omega), aj_up_ne _ _ _ c1, aj_up_ne _ _ _ (by omega)]; exact a1 r' c1 c2, fun x hx => ?_, ?_, fun a ha => ?_, fun x hx hne2 => ?_, fun a i hi hl => ?_, hn⟩
  · simp only [aj_up_app, Int.reduceEq, ↓reduceIte]
    rw [if_neg hx]
    exact a2 x hx
  · simp only [aj_up_app, Int.reduceEq, ↓reduceIte]
    push_cast
    rfl
  · simp only [aj_up_app, Int.reduceEq, ↓reduceIte]
    have ha' : a < q.1 + 1 := ha
    show (if (a : Int) = (q.1 : Int) then (t : Int) else g1 7 a) = (nb_up q.2.1 q.1 t a : Nat) ∧ (if ((nb_up q.2.1 q.1 t a : Nat) : Int) = (t : Int) then (q.1 : Int) else g1 5 (nb_up q.2.1 q.1 t a : Nat)) = a ∧ (a = 0 → (if (a : Int) = (q.1 : Int) then ((j / k : Nat) : Int) else g1 8 a) = -1 ∧ (if (a : Int) = (q.1 : Int) then ((j % k : Nat) : Int) else g1 9 a) = -1) ∧ (0 < a → (if (a : Int) = (q.1 : Int) then ((j / k : Nat) : Int) else g1 8 a) = (nb_up q.2.2.1 q.1 (j / k) a : Nat) ∧ (if (a : Int) = (q.1 : Int) then ((j % k : Nat) : Int) else g1 9 a) = (nb_up q.2.2.2 q.1 (j % k) a : Nat))
    have hpos : 0 < q.1 := a7.1
    by_cases e : a = q.1
    · subst e
      rw [if_pos rfl, if_pos rfl, if_pos rfl, nb_up_self, nb_up_self, nb_up_self, if_pos rfl]
      exact ⟨rfl, rfl, fun z => by omega, fun _ => ⟨rfl, rfl⟩⟩
    · have hca : ¬ (a : Int) = (q.1 : Int) := by omega
      have hcm : ¬ ((q.2.1 a : Nat) : Int) = (t : Int) := fun z => hne a (by omega) (by omega)
      rw [nb_up_ne _ _ e, nb_up_ne _ _ e, nb_up_ne _ _ e]
      simp only [if_neg hca, if_neg hcm]
      exact a4 a (by omega)
  · simp only [aj_up_app, Int.reduceEq, ↓reduceIte]
    have h1 : nb_up q.2.1 q.1 t q.1 ≠ x := hne2 q.1 (Nat.lt_succ_self _)
    rw [nb_up_self] at h1
    rw [if_neg (fun z => h1 (by omega))]
    refine a5 x hx (fun a ha z => hne2 a (Nat.lt_succ_of_lt ha) ?_)
    show nb_up q.2.1 q.1 t a = x
    rw [nb_up_ne _ _ (by omega)]
    exact z
  · simp only [aj_up_app, Int.reduceEq, ↓reduceIte]
    show ∃ b : Nat, b < q.1 + 1 ∧ nb_up q.2.1 q.1 t b = tw (nx (nb_up q.2.1 q.1 t a) i) ∧ _ = (b : Int) ∧ _ = ((ou (nb_up q.2.1 q.1 t a) i : Nat) : Int)
    by_cases c : a * k + i = j
    · obtain ⟨e1, e2⟩ := ij_key hk hi c
      rw [if_pos (by rw [c]), if_pos (by rw [c])]
      have : nb_up q.2.1 q.1 t a = q.2.1 (j / k) := by rw [nb_up_ne _ _ (by omega), e1]
      rw [this, ← e2]
      exact ⟨q.1, Nat.lt_succ_self _, by rw [nb_up_self, htt], rfl, rfl⟩
    · rw [if_neg (by omega), if_neg (by omega)]
      have ha : a < q.1 := by
        have : a ≤ j / k := by rw [Nat.le_div_iff_mul_le hk]; omega
        omega
      obtain ⟨b, b1, b2, b3, b4⟩ := a6 a i hi (by omega)
      exact ⟨b, by omega, by rw [nb_up_ne _ _ (by omega), nb_up_ne _ _ (by omega)]; exact b2, b3, by rw [nb_up_ne _ _ (by omega)]; exact b4⟩
end RD
theorem tw1_eq {k : Nat} {nx ou : Nat → Nat → Nat} {x c c' : Nat} (h : tw1 k nx ou x c) (h' : tw1 k nx ou x c') : c = c' := by
  rcases Nat.lt_trichotomy c c' with z | z | z
  · exact absurd h.2.1 (h'.2.2 c z)
  · exact z
  · exact absurd h'.2.1 (h.2.2 c' z)
/-- what reduce leaves -/
def rd_P (g : aj_G) (k n s0 : Nat) (nx ou : Nat → Nat → Nat) (tw : Nat → Nat) (N : Nat) (q : nb_T) : Prop :=
  tw_ok k n nx ou tw ∧ q = nb k nx tw s0 (N * k) ∧ q.1 = N ∧ nb_I k n nx tw s0 (N * k) q ∧ g 10 3 = N ∧
  (∀ a : Nat, a < N → g 7 a = q.2.1 a ∧ (a = 0 → g 8 a = -1 ∧ g 9 a = -1) ∧ (0 < a → g 8 a = q.2.2.1 a ∧ g 9 a = q.2.2.2 a)) ∧
  (∀ a i : Nat, i < k → a < N → ∃ b : Nat, b < N ∧ q.2.1 b = tw (nx (q.2.1 a) i) ∧ g 11 ((a : Int) * k + i) = b ∧ g 12 ((a : Int) * k + i) = ou (q.2.1 a) i) ∧
  ∀ x : Nat, x < n → (∀ a : Nat, a < N → q.2.1 a = tw x → g 5 x = a) ∧ ((∀ a, a < N → q.2.1 a ≠ tw x) → g 5 x = -1)
def rd_F (g g1 : aj_G) : Prop := (∀ r', r' < 5 ∨ (12 < r' ∧ r' < 44) ∨ 52 < r' → g1 r' = g r') ∧ (∀ j, j ≠ 3 → g1 10 j = g 10 j) ∧ (∀ j, j ≠ 7 → g1 44 j = g 44 j) ∧ ∀ j, j ≠ 1 → g1 45 j = g 45 j
