/-! pigeonhole; states that are alike; the numbering as a trace that class and reference share -/
theorem pg_hole : ∀ (n N : Nat) (f : Nat → Nat), (∀ a, a < N → f a < n) → (∀ a b, a < N → b < N → f a = f b → a = b) → N ≤ n
  | 0, N, f, h, _ => by
    rcases Nat.eq_zero_or_pos N with g | g
    · omega
    · exact absurd (h 0 g) (Nat.not_lt_zero _)
  | n + 1, N, f, h, hi => by
    by_cases g : ∃ a, a < N ∧ f a = n
    · obtain ⟨a, ha, hf⟩ := g
      have h1 := pg_hole n (N - 1) (fun b => if b < a then f b else f (b + 1)) (fun b hb => by
          skip
          by_cases hba : b < a
          · rw [if_pos hba]
            have h2 := h b (by omega)
            have h3 : f b ≠ n := fun e => by have := hi b a (by omega) ha (e.trans hf.symm); omega
            omega
          · rw [if_neg hba]
            have h2 := h (b + 1) (by omega)
            have h3 : f (b + 1) ≠ n := fun e => by have := hi (b + 1) a (by omega) ha (e.trans hf.symm); omega
            omega) (fun b c hb hc e => by
          skip
          by_cases hba : b < a
          · rw [if_pos hba] at e
            by_cases hca : c < a
            · rw [if_pos hca] at e
              exact hi b c (by omega) (by omega) e
            · rw [if_neg hca] at e
              have := hi b (c + 1) (by omega) (by omega) e
              omega
          · rw [if_neg hba] at e
            by_cases hca : c < a
            · rw [if_pos hca] at e
              have := hi (b + 1) c (by omega) (by omega) e
              omega
            · rw [if_neg hca] at e
              have := hi (b + 1) (c + 1) (by omega) (by omega) e
              omega)
      omega
    · have h1 := pg_hole n N f (fun a ha => by
        have h2 := h a ha
        have h3 : f a ≠ n := fun e => g ⟨a, ha, e⟩
        omega) hi
      omega
/-! alike -/
def al_k (k : Nat) (nx ou : Nat → Nat → Nat) (s t : Nat) : Prop := wd_none k nx ou s nx ou t
section ALK
variable {k : Nat} {nx ou : Nat → Nat → Nat}
theorem al_refl (s : Nat) : al_k k nx ou s s := by
  intro v _ h
  cases v with
  | nil => exact h
  | cons i v => exact h rfl
theorem al_symm {s t : Nat} (h : al_k k nx ou s t) : al_k k nx ou t s := by
  intro v hv hd
  cases v with
  | nil => exact hd
  | cons i v => exact h (i :: v) hv (fun e => hd e.symm)
theorem al_trans {s t u : Nat} (h1 : al_k k nx ou s t) (h2 : al_k k nx ou t u) : al_k k nx ou s u := by
  intro v hv hd
  cases v with
  | nil => exact hd
  | cons i v =>
    have e1 : ou (rn nx s v) i = ou (rn nx t v) i := Decidable.byContradiction fun e => h1 (i :: v) hv e
    have e2 : ou (rn nx t v) i = ou (rn nx u v) i := Decidable.byContradiction fun e => h2 (i :: v) hv e
    exact hd (e1.trans e2)
theorem al_out {s t i : Nat} (h : al_k k nx ou s t) (hi : i < k) : ou s i = ou t i := Decidable.byContradiction fun e => h [i] (wd_ok_cons.mpr ⟨hi, wd_ok_nil k⟩) e
theorem al_next {s t i : Nat} (h : al_k k nx ou s t) (hi : i < k) : al_k k nx ou (nx s i) (nx t i) := by
  intro v hv hd
  cases v with
  | nil => exact hd
  | cons j v => exact h ((j :: v) ++ [i]) (wd_ok_app.mpr ⟨hv, hi⟩) (df_app.mpr hd)
theorem al_run {s t : Nat} (h : al_k k nx ou s t) : ∀ w, wd_ok k w → al_k k nx ou (rn nx s w) (rn nx t w)
  | [], _ => h
  | i :: w, hw => by
    obtain ⟨h1, h2⟩ := wd_ok_cons.mp hw
    exact al_next (al_run h w h2) h1
end ALK
/-- the twin: the first state that is alike -/
def tw_ok (k n : Nat) (nx ou : Nat → Nat → Nat) (tw : Nat → Nat) : Prop := ∀ s, s < n → tw s ≤ s ∧ al_k k nx ou s (tw s) ∧ ∀ t, t < tw s → ¬ al_k k nx ou s t
section TW
variable {k n : Nat} {nx ou : Nat → Nat → Nat} {tw : Nat → Nat}
theorem tw_eq (h : tw_ok k n nx ou tw) {s t : Nat} (hs : s < n) (ht : t < n) : tw s = tw t ↔ al_k k nx ou s t := by
  obtain ⟨a1, a2, a3⟩ := h s hs
  obtain ⟨b1, b2, b3⟩ := h t ht
  constructor
  · intro e
    rw [← e] at b2
    exact al_trans a2 (al_symm b2)
  · intro e
    rcases Nat.lt_trichotomy (tw s) (tw t) with g | g | g
    · exact absurd (al_trans (al_symm e) a2) (b3 _ g)
    · exact g
    · exact absurd (al_trans e b2) (a3 _ g)
theorem tw_lt (h : tw_ok k n nx ou tw) {s : Nat} (hs : s < n) : tw s < n := Nat.lt_of_le_of_lt (h s hs).1 hs
theorem tw_tw (h : tw_ok k n nx ou tw) {s : Nat} (hs : s < n) : tw (tw s) = tw s := (tw_eq h (tw_lt h hs) hs).mpr (al_symm (h s hs).2.1)
end TW
/-! the trace -/
def nb_up (f : Nat → Nat) (a x : Nat) : Nat → Nat := fun b => if b = a then x else f b
theorem nb_up_self (f : Nat → Nat) (a x : Nat) : nb_up f a x a = x := if_pos rfl
theorem nb_up_ne (f : Nat → Nat) {a b : Nat} (x : Nat) (h : b ≠ a) : nb_up f a x b = f b := if_neg h
def nb_in (N : Nat) (mb : Nat → Nat) (t : Nat) : Bool := (List.range N).any (fun a => mb a == t)
theorem nb_in_iff {N : Nat} {mb : Nat → Nat} {t : Nat} : nb_in N mb t = true ↔ ∃ a, a < N ∧ mb a = t := by
  unfold nb_in
  rw [List.any_eq_true]
  constructor
  · rintro ⟨a, h1, h2⟩
    exact ⟨a, List.mem_range.mp h1, by simpa using h2⟩
  · rintro ⟨a, h1, h2⟩
    exact ⟨a, List.mem_range.mpr h1, by simpa using h2⟩
abbrev nb_T : Type := Nat × (Nat → Nat) × (Nat → Nat) × (Nat → Nat)
def nb_st (k : Nat) (nx : Nat → Nat → Nat) (tw : Nat → Nat) (j : Nat) (q : nb_T) : nb_T :=
  if nb_in q.1 q.2.1 (tw (nx (q.2.1 (j / k)) (j % k))) = true then q
  else (q.1 + 1, nb_up q.2.1 q.1 (tw (nx (q.2.1 (j / k)) (j % k))), nb_up q.2.2.1 q.1 (j / k), nb_up q.2.2.2 q.1 (j % k))
def nb (k : Nat) (nx : Nat → Nat → Nat) (tw : Nat → Nat) (s0 : Nat) : Nat → nb_T
  | 0 => (1, fun _ => tw s0, fun _ => 0, fun _ => 0)
  | j + 1 => nb_st k nx tw j (nb k nx tw s0 j)
/-- what holds all along, as long as the place is in the list -/
def nb_I (k n : Nat) (nx : Nat → Nat → Nat) (tw : Nat → Nat) (s0 j : Nat) (q : nb_T) : Prop :=
  0 < q.1 ∧ q.2.1 0 = tw s0 ∧ (∀ a, a < q.1 → q.2.1 a < n ∧ tw (q.2.1 a) = q.2.1 a) ∧ (∀ a b, a < q.1 → b < q.1 → q.2.1 a = q.2.1 b → a = b) ∧
  (∀ a, 0 < a → a < q.1 → q.2.2.1 a < a ∧ q.2.2.2 a < k ∧ q.2.1 a = tw (nx (q.2.1 (q.2.2.1 a)) (q.2.2.2 a))) ∧
  ∀ a i, i < k → a * k + i < j → ∃ b, b < q.1 ∧ q.2.1 b = tw (nx (q.2.1 a) i)
section NB
variable {k n s0 : Nat} {nx ou : Nat → Nat → Nat} {tw : Nat → Nat}
theorem nb_le {j : Nat} {q : nb_T} (h : nb_I k n nx tw s0 j q) : q.1 ≤ n := pg_hole n q.1 q.2.1 (fun a ha => (h.2.2.1 a ha).1) h.2.2.2.1
theorem nb_step (hk : 0 < k) (htw : tw_ok k n nx ou tw) (hc : ∀ s i, s < n → i < k → nx s i < n) {j : Nat} {q : nb_T} (h : nb_I k n nx tw s0 j q) (hj : j / k < q.1) : nb_I k n nx tw s0 (j + 1) (nb_st k nx tw j q) := by
  have hlt : j % k < k := Nat.mod_lt _ hk
  have hjj : j / k * k + j % k = j := by rw [Nat.mul_comm]; exact Nat.div_add_mod j k
  obtain ⟨h1, h2, h3, h4, h5, h6⟩ := h
  have hm := h3 _ hj
  have ht : tw (nx (q.2.1 (j / k)) (j % k)) < n := tw_lt htw (hc _ _ hm.1 hlt)
  have htt := tw_tw htw (hc _ _ hm.1 hlt)
  have key : ∀ a i, i < k → a * k + i = j → a = j / k ∧ i = j % k := by
    intro a i hi e
    rw [← e]
    exact ⟨by rw [Nat.mul_comm, Nat.mul_add_div hk, Nat.div_eq_of_lt hi]; rfl, by rw [Nat.mul_comm, Nat.mul_add_mod, Nat.mod_eq_of_lt hi]⟩
  unfold nb_st
  by_cases g : nb_in q.1 q.2.1 (tw (nx (q.2.1 (j / k)) (j % k))) = true
  · rw [if_pos g]
    refine ⟨h1, h2, h3, h4, h5, fun a i hi hl => ?_⟩
    rcases Nat.lt_or_ge (a * k + i) j with g2 | g2
    · exact h6 a i hi g2
    · obtain ⟨rfl, rfl⟩ := key a i hi (by omega)
      exact nb_in_iff.mp g
  · rw [if_neg g]
    have hne : ∀ a, a < q.1 → q.2.1 a ≠ tw (nx (q.2.1 (j / k)) (j % k)) := fun a ha e => g (nb_in_iff.mpr ⟨a, ha, e⟩)
    refine ⟨by show 0 < q.1 + 1; omega, ?_, fun a ha => ?_, fun a b ha hb e => ?_, fun a ha0 ha => ?_, fun a i hi hl => ?_⟩
    · show nb_up _ _ _ 0 = _
      rw [nb_up_ne _ _ (by omega)]; exact h2
    · show nb_up _ _ _ a < n ∧ tw (nb_up _ _ _ a) = nb_up _ _ _ a
      by_cases e : a = q.1
      · subst e
        rw [nb_up_self]
        exact ⟨ht, htt⟩
      · rw [nb_up_ne _ _ e]
        exact h3 a (by have : a < q.1 + 1 := ha; omega)
    · have ha' : a < q.1 + 1 := ha
      have hb' : b < q.1 + 1 := hb
      have e' : nb_up q.2.1 q.1 (tw (nx (q.2.1 (j / k)) (j % k))) a = nb_up q.2.1 q.1 (tw (nx (q.2.1 (j / k)) (j % k))) b := e
      by_cases ea : a = q.1
      · by_cases eb : b = q.1
        · omega
        · rw [ea, nb_up_self, nb_up_ne _ _ eb] at e'
          exact absurd e'.symm (hne b (by omega))
      · by_cases eb : b = q.1
        · rw [eb, nb_up_self, nb_up_ne _ _ ea] at e'
          exact absurd e' (hne a (by omega))
        · rw [nb_up_ne _ _ ea, nb_up_ne _ _ eb] at e'
          exact h4 a b (by omega) (by omega) e'
    · have ha' : a < q.1 + 1 := ha
      show nb_up q.2.2.1 q.1 (j / k) a < a ∧ nb_up q.2.2.2 q.1 (j % k) a < k ∧ nb_up q.2.1 q.1 _ a = tw (nx (nb_up q.2.1 q.1 _ (nb_up q.2.2.1 q.1 (j / k) a)) (nb_up q.2.2.2 q.1 (j % k) a))
      by_cases ea : a = q.1
      · subst ea
        rw [nb_up_self, nb_up_self, nb_up_self, nb_up_ne _ _ (by omega)]
        exact ⟨hj, hlt, rfl⟩
      · rw [nb_up_ne _ _ ea, nb_up_ne _ _ ea, nb_up_ne _ _ ea]
        obtain ⟨c1, c2, c3⟩ := h5 a ha0 (by omega)
        rw [nb_up_ne _ _ (by omega)]
        exact ⟨c1, c2, c3⟩
    · show ∃ b, b < q.1 + 1 ∧ nb_up q.2.1 q.1 _ b = tw (nx (nb_up q.2.1 q.1 _ a) i)
      rcases Nat.lt_or_ge (a * k + i) j with g2 | g2
      · have ha : a < q.1 := by
          have : a ≤ j / k := by
            rw [Nat.le_div_iff_mul_le hk]; omega
          omega
        obtain ⟨b, b1, b2⟩ := h6 a i hi g2
        exact ⟨b, by omega, by rw [nb_up_ne _ _ (by omega), nb_up_ne _ _ (by omega)]; exact b2⟩
      · obtain ⟨rfl, rfl⟩ := key a i hi (by omega)
        exact ⟨q.1, by omega, by rw [nb_up_self, nb_up_ne _ _ (by omega)]⟩
theorem nb_0 (hn : s0 < n) (htw : tw_ok k n nx ou tw) : nb_I k n nx tw s0 0 (nb k nx tw s0 0) := by
  refine ⟨Nat.one_pos, rfl, fun a _ => ⟨tw_lt htw hn, tw_tw htw hn⟩, fun a b ha hb _ => ?_, fun a h0 ha => ?_, fun a i _ h => absurd h (Nat.not_lt_zero _)⟩
  · have ha' : a < 1 := ha
    have hb' : b < 1 := hb
    omega
  · have ha' : a < 1 := ha
    omega
end NB
