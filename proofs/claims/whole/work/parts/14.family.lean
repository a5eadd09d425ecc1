/-! states of two machines that are alike; words that tell; the family as a trace -/
section XA
variable {k : Nat} {nx ou nx' ou' : Nat → Nat → Nat}
theorem xa_out {s s' : Nat} (h : wd_none k nx ou s nx' ou' s') {w : List Nat} {i : Nat} (hw : wd_ok k w) (hi : i < k) : ou (rn nx s w) i = ou' (rn nx' s' w) i :=
  Decidable.byContradiction fun e => h (i :: w) (wd_ok_cons.mpr ⟨hi, hw⟩) e
theorem xa_df {s t s' t' : Nat} (h1 : wd_none k nx ou s nx' ou' s') (h2 : wd_none k nx ou t nx' ou' t') {w : List Nat} (hw : wd_ok k w) : df nx ou s nx ou t w ↔ df nx' ou' s' nx' ou' t' w := by
  cases w with
  | nil => exact Iff.rfl
  | cons i w =>
    obtain ⟨a, b⟩ := wd_ok_cons.mp hw
    show ou (rn nx s w) i ≠ ou (rn nx t w) i ↔ ou' (rn nx' s' w) i ≠ ou' (rn nx' t' w) i
    rw [xa_out h1 b a, xa_out h2 b a]
theorem xa_least {s t s' t' : Nat} (h1 : wd_none k nx ou s nx' ou' s') (h2 : wd_none k nx ou t nx' ou' t') {w : List Nat} : wd_least k nx ou s nx ou t w ↔ wd_least k nx' ou' s' nx' ou' t' w := by
  constructor
  · rintro ⟨a, b, c⟩
    exact ⟨a, (xa_df h1 h2 a).mp b, fun v hv hd => c v hv ((xa_df h1 h2 hv).mpr hd)⟩
  · rintro ⟨a, b, c⟩
    exact ⟨a, (xa_df h1 h2 a).mpr b, fun v hv hd => c v hv ((xa_df h1 h2 hv).mp hd)⟩
theorem xa_none {s t s' t' : Nat} (h1 : wd_none k nx ou s nx' ou' s') (h2 : wd_none k nx ou t nx' ou' t') : wd_none k nx ou s nx ou t ↔ wd_none k nx' ou' s' nx' ou' t' :=
  ⟨fun h v hv hd => h v hv ((xa_df h1 h2 hv).mpr hd), fun h v hv hd => h v hv ((xa_df h1 h2 hv).mp hd)⟩
/-- a word tells two states apart: somewhere on its way their outputs differ -/
def tl (nx ou : Nat → Nat → Nat) (s t : Nat) : List Nat → Prop
  | [] => False
  | i :: w => tl nx ou s t w ∨ df nx ou s nx ou t (i :: w)
theorem xa_tl {s t s' t' : Nat} (h1 : wd_none k nx ou s nx' ou' s') (h2 : wd_none k nx ou t nx' ou' t') : ∀ w : List Nat, wd_ok k w → (tl nx ou s t w ↔ tl nx' ou' s' t' w)
  | [], _ => Iff.rfl
  | i :: w, hw => by
    obtain ⟨a, b⟩ := wd_ok_cons.mp hw
    show (tl nx ou s t w ∨ df nx ou s nx ou t (i :: w)) ↔ (tl nx' ou' s' t' w ∨ df nx' ou' s' nx' ou' t' (i :: w))
    rw [xa_tl h1 h2 w b, xa_df h1 h2 hw]
theorem tl_df {s t : Nat} {w : List Nat} (h : df nx ou s nx ou t w) : tl nx ou s t w := by
  cases w with
  | nil => exact h
  | cons i w => exact Or.inr h
theorem tl_ex {s t : Nat} : ∀ {w : List Nat}, wd_ok k w → tl nx ou s t w → ∃ v, wd_ok k v ∧ df nx ou s nx ou t v
  | [], _, h => absurd h (fun z => z)
  | i :: w, hw, h => by
    rcases h with h | h
    · exact tl_ex (wd_ok_cons.mp hw).2 h
    · exact ⟨_, hw, h⟩
theorem tl_symm {s t : Nat} : ∀ {w : List Nat}, tl nx ou s t w → tl nx ou t s w
  | [], h => h
  | i :: w, h => by
    rcases h with h | h
    · exact Or.inl (tl_symm h)
    · exact Or.inr (fun e => h e.symm)
theorem tl_trans {s t u : Nat} : ∀ {w : List Nat}, ¬ tl nx ou s t w → ¬ tl nx ou t u w → ¬ tl nx ou s u w
  | [], _, _, h => h
  | i :: w, h1, h2, h => by
    rcases h with h | h
    · exact tl_trans (fun z => h1 (Or.inl z)) (fun z => h2 (Or.inl z)) h
    · have e1 : ou (rn nx s w) i = ou (rn nx t w) i := Decidable.byContradiction fun e => h1 (Or.inr e)
      have e2 : ou (rn nx t w) i = ou (rn nx u w) i := Decidable.byContradiction fun e => h2 (Or.inr e)
      exact h (e1.trans e2)
theorem tl_irr {s : Nat} : ∀ w : List Nat, ¬ tl nx ou s s w
  | [], h => h
  | i :: w, h => by
    rcases h with h | h
    · exact tl_irr w h
    · exact h rfl
end XA
/-! a machine whose states stand for states of another -/
theorem mm_run {k N : Nat} {nx ou mnx : Nat → Nat → Nat} {mb : Nat → Nat} (hc : ∀ a i, a < N → i < k → mnx a i < N ∧ al_k k nx ou (mb (mnx a i)) (nx (mb a) i)) {a : Nat} (ha : a < N) : ∀ w, wd_ok k w → rn mnx a w < N ∧ al_k k nx ou (mb (rn mnx a w)) (rn nx (mb a) w)
  | [], _ => ⟨ha, al_refl _⟩
  | i :: w, hw => by
    obtain ⟨h1, h2⟩ := wd_ok_cons.mp hw
    obtain ⟨a1, a2⟩ := mm_run hc ha w h2
    obtain ⟨b1, b2⟩ := hc _ i a1 h1
    exact ⟨b1, al_trans b2 (al_next a2 h1)⟩
theorem mm_none {k N : Nat} {nx ou mnx mou : Nat → Nat → Nat} {mb : Nat → Nat} (hc : ∀ a i, a < N → i < k → mnx a i < N ∧ al_k k nx ou (mb (mnx a i)) (nx (mb a) i)) (ho : ∀ a i, a < N → i < k → mou a i = ou (mb a) i) {a : Nat} (ha : a < N) : wd_none k mnx mou a nx ou (mb a) := by
  intro v hv hd
  cases v with
  | nil => exact hd
  | cons i w =>
    obtain ⟨h1, h2⟩ := wd_ok_cons.mp hv
    obtain ⟨a1, a2⟩ := mm_run hc ha w h2
    exact hd ((ho _ i a1 h1).trans (al_out a2 h1))
/-! the family -/
section FM
variable {k N : Nat} {nx ou : Nat → Nat → Nat}
def fm_un (nx ou : Nat → Nat → Nat) (F : Nat → List Nat) (c s t : Nat) : Prop := ∀ w, w < c → ¬ tl nx ou s t (F w)
theorem fm_eq (F : Nat → List Nat) (c : Nat) : mo_eq (fm_un nx ou F c) :=
  ⟨fun a w _ => tl_irr _, fun a b h w hw z => h w hw (tl_symm z), fun a b d h1 h2 w hw => tl_trans (h1 w hw) (h2 w hw)⟩
/-- each word of the family told a pair that none before it told: so there are fewer than states -/
theorem fm_size (hN : 0 < N) {F : Nat → List Nat} : ∀ c, (∀ w, w < c → ∃ s t, s < N ∧ t < N ∧ fm_un nx ou F w s t ∧ tl nx ou s t (F w)) → c + 1 ≤ mo_c (mo_rep (fm_un nx ou F c)) N
  | 0, _ => by
    obtain ⟨m, rfl⟩ : ∃ m, N = m + 1 := ⟨N - 1, by omega⟩
    have h1 := mo_one m
    have h2 : mo_c (fun s => s = 0) (m + 1) ≤ mo_c (mo_rep (fm_un nx ou F 0)) (m + 1) := mo_c_mono fun s _ e t ht => by omega
    omega
  | c + 1, h => by
    have ih := fm_size hN c (fun w hw => h w (by omega))
    obtain ⟨s, t, a1, a2, a3, a4⟩ := h c (by omega)
    have := mo_refine (fm_eq (nx := nx) (ou := ou) F c) (fm_eq F (c + 1)) (fun x y g w hw => g w (by omega)) a1 a2 a3 (fun g => g c (by omega) a4)
    omega
theorem fm_le (hN : 0 < N) {F : Nat → List Nat} {c : Nat} (h : ∀ w, w < c → ∃ s t, s < N ∧ t < N ∧ fm_un nx ou F w s t ∧ tl nx ou s t (F w)) : c + 1 ≤ N :=
  Nat.le_trans (fm_size hN c h) (mo_c_le _ N)
end FM
