/-! Counting, refinement, Moore's bound. -/
theorem mo_least {P : Nat → Prop} (h : ∃ n, P n) : ∃ n, P n ∧ ∀ m, m < n → ¬ P m := by
  obtain ⟨n, hn⟩ := h
  induction n using Nat.strongRecOn with
  | ind n ih =>
    by_cases hx : ∃ m, m < n ∧ P m
    · obtain ⟨m, h1, h2⟩ := hx
      exact ih m h1 h2
    · exact ⟨n, hn, fun m h1 h2 => hx ⟨m, h1, h2⟩⟩
noncomputable def mo_c (P : Nat → Prop) : Nat → Nat
  | 0 => 0
  | n + 1 => mo_c P n + @ite Nat (P n) (Classical.propDecidable _) 1 0
theorem mo_c_t {P : Nat → Prop} {n : Nat} (h : P n) : mo_c P (n + 1) = mo_c P n + 1 := by
  show mo_c P n + @ite Nat (P n) (Classical.propDecidable _) 1 0 = _
  rw [if_pos h]
theorem mo_c_f {P : Nat → Prop} {n : Nat} (h : ¬ P n) : mo_c P (n + 1) = mo_c P n := by
  show mo_c P n + @ite Nat (P n) (Classical.propDecidable _) 1 0 = _
  rw [if_neg h]; rfl
theorem mo_c_le (P : Nat → Prop) (n : Nat) : mo_c P n ≤ n := by
  induction n with
  | zero => exact Nat.le_refl 0
  | succ n ih =>
    by_cases h : P n
    · rw [mo_c_t h]; omega
    · rw [mo_c_f h]; omega
theorem mo_c_mono {P P' : Nat → Prop} {n : Nat} (h : ∀ s, s < n → P s → P' s) : mo_c P n ≤ mo_c P' n := by
  induction n with
  | zero => exact Nat.le_refl 0
  | succ n ih =>
    have h1 := ih (fun s hs => h s (by omega))
    by_cases hp : P n
    · rw [mo_c_t hp, mo_c_t (h n (by omega) hp)]; omega
    · rw [mo_c_f hp]
      by_cases hq : P' n
      · rw [mo_c_t hq]; omega
      · rw [mo_c_f hq]; exact h1
theorem mo_c_strict {P P' : Nat → Prop} {n x : Nat} (h : ∀ s, s < n → P s → P' s) (hx : x < n) (h1 : P' x) (h2 : ¬ P x) : mo_c P n + 1 ≤ mo_c P' n := by
  induction n with
  | zero => omega
  | succ n ih =>
    rcases Nat.lt_or_ge x n with g | g
    · have h3 := ih (fun s hs => h s (by omega)) g
      by_cases hp : P n
      · rw [mo_c_t hp, mo_c_t (h n (by omega) hp)]; omega
      · rw [mo_c_f hp]
        by_cases hq : P' n
        · rw [mo_c_t hq]; omega
        · rw [mo_c_f hq]; exact h3
    · have e : x = n := by omega
      subst e
      rw [mo_c_f h2, mo_c_t h1]
      have := mo_c_mono (n := x) (fun s hs => h s (by omega))
      omega
theorem mo_one : ∀ m, 1 ≤ mo_c (fun s => s = 0) (m + 1)
  | 0 => by rw [mo_c_t (P := fun s => s = 0) rfl]; exact Nat.le_add_left 1 _
  | m + 1 => by rw [mo_c_f (P := fun s => s = 0) (by omega)]; exact mo_one m
/-- a state that is the least of its class -/
def mo_rep (E : Nat → Nat → Prop) (s : Nat) : Prop := ∀ t, t < s → ¬ E t s
def mo_eq (E : Nat → Nat → Prop) : Prop := (∀ a, E a a) ∧ (∀ a b, E a b → E b a) ∧ ∀ a b c, E a b → E b c → E a c
theorem mo_refine {E E' : Nat → Nat → Prop} (hE : mo_eq E) (hE' : mo_eq E') (hsub : ∀ a b, E' a b → E a b) {n a b : Nat} (ha : a < n) (hb : b < n) (h1 : E a b) (h2 : ¬ E' a b) : mo_c (mo_rep E) n + 1 ≤ mo_c (mo_rep E') n := by
  obtain ⟨r, hr, hrm⟩ := mo_least (P := fun r => E r a) ⟨a, hE.1 a⟩
  obtain ⟨y, hy, hyr, hyn⟩ : ∃ y, y < n ∧ E y r ∧ ¬ E' y r := by
    by_cases g : E' a r
    · refine ⟨b, hb, hE.2.2 b a r (hE.2.1 a b h1) (hE.2.1 r a hr), fun g2 => h2 ?_⟩
      exact hE'.2.2 a r b g (hE'.2.1 b r g2)
    · exact ⟨a, ha, hE.2.1 r a hr, g⟩
  obtain ⟨x, ⟨hx1, hx2⟩, hxm⟩ := mo_least (P := fun x => E x r ∧ ¬ E' x r) ⟨y, hyr, hyn⟩
  have hxy : x ≤ y := Nat.le_of_not_lt fun g => hxm y g ⟨hyr, hyn⟩
  refine mo_c_strict (x := x) (fun s _ h t ht g => h t ht (hsub t s g)) (Nat.lt_of_le_of_lt hxy hy) (fun t ht g => ?_) (fun h => ?_)
  · refine hxm t ht ⟨hE.2.2 t x r (hsub t x g) hx1, fun g2 => hx2 ?_⟩
    exact hE'.2.2 x t r (hE'.2.1 t x g) g2
  · have hxa : E x a := hE.2.2 x r a hx1 hr
    have hne : r ≠ x := fun e => hx2 (by rw [← e]; exact hE'.1 r)
    have hle : r ≤ x := Nat.le_of_not_lt fun g => hrm x g hxa
    exact h r (by omega) (hE.2.1 x r hx1)

theorem rn_app (nx : Nat → Nat → Nat) (s i : Nat) (w : List Nat) : rn nx s (w ++ [i]) = rn nx (nx s i) w := by
  induction w with
  | nil => rfl
  | cons j w ih => show nx (rn nx s (w ++ [i])) j = nx (rn nx (nx s i) w) j; rw [ih]
theorem df_app {nx ou nx' ou' : Nat → Nat → Nat} {s t i j : Nat} {w : List Nat} : df nx ou s nx' ou' t ((j :: w) ++ [i]) ↔ df nx ou (nx s i) nx' ou' (nx' t i) (j :: w) := by
  show ou (rn nx s (w ++ [i])) j ≠ ou' (rn nx' t (w ++ [i])) j ↔ _
  rw [rn_app, rn_app]
  exact Iff.rfl
theorem wd_ok_app {k i : Nat} {w : List Nat} : wd_ok k (w ++ [i]) ↔ wd_ok k w ∧ i < k := by
  unfold wd_ok
  constructor
  · intro h
    exact ⟨fun j hj => h j (List.mem_append_left _ hj), h i (List.mem_append_right _ List.mem_cons_self)⟩
  · rintro ⟨h1, h2⟩ j hj
    rcases List.mem_append.mp hj with g | g
    · exact h1 j g
    · rw [List.mem_singleton.mp g]; exact h2
/-- alike under words of at most l letters -/
def mo_el (k : Nat) (nx ou : Nat → Nat → Nat) (l s t : Nat) : Prop := ∀ w, wd_ok k w → w.length ≤ l → ¬ df nx ou s nx ou t w
section MO
variable {k n : Nat} {nx ou : Nat → Nat → Nat}
theorem mo_el_eq (l : Nat) : mo_eq (mo_el k nx ou l) := by
  refine ⟨fun a w _ _ h => ?_, fun a b h w hw hl g => ?_, fun a b c h1 h2 w hw hl g => ?_⟩
  · cases w with
    | nil => exact h
    | cons i w => exact h rfl
  · cases w with
    | nil => exact g
    | cons i w => exact h (i :: w) hw hl (fun e => g e.symm)
  · cases w with
    | nil => exact g
    | cons i w =>
      have e1 : ou (rn nx a w) i = ou (rn nx b w) i := Decidable.byContradiction fun e => h1 (i :: w) hw hl e
      have e2 : ou (rn nx b w) i = ou (rn nx c w) i := Decidable.byContradiction fun e => h2 (i :: w) hw hl e
      exact g (e1.trans e2)
theorem mo_el_le {l l' s t : Nat} (h : mo_el k nx ou l' s t) (hl : l ≤ l') : mo_el k nx ou l s t := fun w hw g => h w hw (Nat.le_trans g hl)
def mo_stable (k n : Nat) (nx ou : Nat → Nat → Nat) (l : Nat) : Prop := ∀ s t, s < n → t < n → mo_el k nx ou l s t → mo_el k nx ou (l + 1) s t
theorem mo_all (hc : ∀ s i, s < n → i < k → nx s i < n) {l : Nat} (hs : mo_stable k n nx ou l) : ∀ m s t, s < n → t < n → mo_el k nx ou l s t → mo_el k nx ou m s t := by
  intro m
  induction m with
  | zero => exact fun s t _ _ h => mo_el_le h (Nat.zero_le l)
  | succ m ih =>
    intro s t h1 h2 h w hw hl
    rcases Nat.lt_or_ge (l + 1) w.length with g | g
    · rcases List.eq_nil_or_concat w with rfl | ⟨u, i, rfl⟩
      · exact fun x => x
      · rw [List.concat_eq_append] at *
        obtain ⟨hu, hi⟩ := wd_ok_app.mp hw
        have hlen : u.length + 1 ≤ m + 1 := by simpa using hl
        cases u with
        | nil => simp at g
        | cons j u =>
          rw [df_app]
          have h3 := hs s t h1 h2 h
          have h4 : mo_el k nx ou l (nx s i) (nx t i) := by
            intro v hv hvl g2
            cases v with
            | nil => exact g2
            | cons x v =>
              refine h3 ((x :: v) ++ [i]) (wd_ok_app.mpr ⟨hv, hi⟩) (by simp at hvl ⊢; omega) ?_
              rw [df_app]; exact g2
          exact ih (nx s i) (nx t i) (hc s i h1 hi) (hc t i h2 hi) h4 (j :: u) hu (by omega)
    · exact hs s t h1 h2 h w hw g
theorem mo_steps (hn : 0 < n) : ∀ l, (∀ j, j < l → ¬ mo_stable k n nx ou j) → l + 1 ≤ mo_c (mo_rep (mo_el k nx ou l)) n := by
  intro l
  induction l with
  | zero =>
    intro _
    obtain ⟨m, rfl⟩ : ∃ m, n = m + 1 := ⟨n - 1, by omega⟩
    have : mo_c (fun s => s = 0) (m + 1) ≤ mo_c (mo_rep (mo_el k nx ou 0)) (m + 1) := mo_c_mono fun s _ e t ht => by omega
    have h1 := mo_one m
    omega
  | succ l ih =>
    intro h
    have h1 := ih fun j hj => h j (by omega)
    have h2 := h l (by omega)
    unfold mo_stable at h2
    have h3 : ∃ s t, s < n ∧ t < n ∧ mo_el k nx ou l s t ∧ ¬ mo_el k nx ou (l + 1) s t := by
      refine Classical.byContradiction fun g => h2 fun s t a b c => Classical.byContradiction fun d => g ⟨s, t, a, b, c, d⟩
    obtain ⟨s, t, a, b, c, d⟩ := h3
    have := mo_refine (mo_el_eq l) (mo_el_eq (l + 1)) (fun x y g => mo_el_le g (by omega)) a b c d
    omega
/-- Moore: what n - 1 letters don't tell apart, no word does -/
theorem mo_bound (hn : 0 < n) (hc : ∀ s i, s < n → i < k → nx s i < n) {s t : Nat} (hs : s < n) (ht : t < n) (h : mo_el k nx ou (n - 1) s t) (m : Nat) : mo_el k nx ou m s t := by
  by_cases g : ∃ j, j < n ∧ mo_stable k n nx ou j
  · obtain ⟨j, hj, hst⟩ := g
    exact mo_all hc hst m s t hs ht (mo_el_le h (by omega))
  · have h1 := mo_steps (k := k) (nx := nx) (ou := ou) hn n fun j hj g2 => g ⟨j, hj, g2⟩
    have h2 := mo_c_le (mo_rep (mo_el k nx ou n)) n
    omega
theorem mo_len (hk : k ≤ 4) (hn : 0 < n) (hc : ∀ s i, s < n → i < k → nx s i < n) {s t : Nat} (hs : s < n) (ht : t < n) {w : List Nat} (h : wd_least k nx ou s nx ou t w) : w.length ≤ n - 1 := by
  rcases Nat.lt_or_ge (n - 1) w.length with g | g
  · refine absurd h.2.1 (mo_bound hn hc hs ht (fun v hv hl hd => ?_) w.length w h.1 (Nat.le_refl _))
    have h1 := h.2.2 v hv hd
    have h2 : wd_cd v < wd_cd w := wd_len_lt (fun i hi => Nat.lt_of_lt_of_le (hv i hi) hk) (by omega)
    omega
  · exact g
end MO
