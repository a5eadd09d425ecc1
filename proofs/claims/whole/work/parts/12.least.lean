/-! codes and digits; lengths of shortest words; the greedy least word -/
theorem wd_div : ∀ (j : Nat) (w : List Nat), wd_ok 4 w → j ≤ w.length → wd_cd w / 4 ^ j = wd_cd (w.drop j)
  | 0, w, _, _ => by simp
  | j + 1, [], _, h => by simp at h
  | j + 1, i :: w, hw, h => by
    obtain ⟨h1, h2⟩ := wd_ok_cons.mp hw
    have ih := wd_div j w h2 (by simpa using h)
    rw [List.drop_succ_cons, ← ih]
    show (4 * wd_cd w + i) / 4 ^ (j + 1) = _
    rw [Nat.pow_succ, Nat.mul_comm (4 ^ j) 4, ← Nat.div_div_eq_div_mul]
    congr 1
    omega
theorem wd_dig {w : List Nat} {j : Nat} (hw : wd_ok 4 w) (hj : j < w.length) : wd_cd w / 4 ^ j % 4 = w[j] := by
  rw [wd_div j w hw (by omega), List.drop_eq_getElem_cons hj]
  show (4 * wd_cd _ + w[j]) % 4 = w[j]
  have := hw w[j] (List.getElem_mem hj)
  omega
theorem wd_gt1 {w : List Nat} : 1 < wd_cd w ↔ 0 < w.length := by
  cases w with
  | nil => simp [wd_cd]
  | cons i w =>
    have := wd_pos w
    show 1 < 4 * wd_cd w + i ↔ _
    simp
    omega
theorem wd_bound {w : List Nat} (hw : wd_ok 4 w) {n : Nat} (h : w.length ≤ n) : wd_cd w < 2 * 4 ^ n := by
  have h1 := wd_hi hw
  have h2 : 4 ^ w.length ≤ 4 ^ n := Nat.pow_le_pow_right (by decide) h
  omega
theorem wd_cd_app (i : Nat) (v : List Nat) : wd_cd (v ++ [i]) = wd_cd v + (3 + i) * 4 ^ v.length := by
  induction v with
  | nil => show 4 * 1 + i = 1 + (3 + i) * 4 ^ 0; omega
  | cons j v ih =>
    show 4 * wd_cd (v ++ [i]) + j = 4 * wd_cd v + j + (3 + i) * 4 ^ (v.length + 1)
    rw [ih, Nat.pow_succ, Nat.mul_add, ← Nat.mul_assoc, Nat.mul_comm 4 (3 + i), Nat.mul_assoc (3 + i) 4, Nat.mul_comm 4 (4 ^ v.length)]
    omega
theorem wd_app_lt {v u : List Nat} {i j : Nat} (hv : wd_ok 4 v) (hl : v.length = u.length) (h : i < j) : wd_cd (v ++ [i]) < wd_cd (u ++ [j]) := by
  rw [wd_cd_app, wd_cd_app, ← hl]
  have h1 := wd_hi hv
  have h2 := wd_lo u
  rw [← hl] at h2
  have h3 : (3 + i + 1) * 4 ^ v.length ≤ (3 + j) * 4 ^ v.length := Nat.mul_le_mul_right _ (by omega)
  rw [Nat.add_mul] at h3
  omega
theorem wd_ok_le {k k' : Nat} (h : k ≤ k') {w : List Nat} (hw : wd_ok k w) : wd_ok k' w := fun i hi => Nat.lt_of_lt_of_le (hw i hi) h
/-- the shortest words that tell s and t apart have m letters -/
def wd_ln (k : Nat) (nx ou : Nat → Nat → Nat) (s t m : Nat) : Prop := (∃ w, wd_ok k w ∧ w.length = m ∧ df nx ou s nx ou t w) ∧ ∀ w, wd_ok k w → w.length < m → ¬ df nx ou s nx ou t w
section LN
variable {k s t m : Nat} {nx ou : Nat → Nat → Nat}
theorem ln_pos (h : wd_ln k nx ou s t m) : 0 < m := by
  obtain ⟨⟨w, -, h1, h2⟩, -⟩ := h
  cases w with
  | nil => exact absurd h2 (fun z => z)
  | cons i w => rw [← h1]; exact Nat.succ_pos _
theorem ln_uniq {m' : Nat} (h : wd_ln k nx ou s t m) (h' : wd_ln k nx ou s t m') : m = m' := by
  obtain ⟨⟨w, a1, a2, a3⟩, a4⟩ := h
  obtain ⟨⟨v, b1, b2, b3⟩, b4⟩ := h'
  rcases Nat.lt_trichotomy m m' with g | g | g
  · exact absurd a3 (b4 w a1 (by omega))
  · exact g
  · exact absurd b3 (a4 v b1 (by omega))
theorem ln_one : wd_ln k nx ou s t 1 ↔ ∃ i, i < k ∧ ou s i ≠ ou t i := by
  constructor
  · rintro ⟨⟨w, a1, a2, a3⟩, -⟩
    match w, a2 with
    | [i], _ => exact ⟨i, (wd_ok_cons.mp a1).1, a3⟩
  · rintro ⟨i, hi, h⟩
    refine ⟨⟨[i], wd_ok_cons.mpr ⟨hi, wd_ok_nil k⟩, rfl, h⟩, fun w _ hl => ?_⟩
    have : w = [] := List.eq_nil_of_length_eq_zero (by omega)
    subst this
    exact fun z => z
theorem df_nil_not {w : List Nat} (h : df nx ou s nx ou t w) : w ≠ [] := by
  intro e
  subst e
  exact h
theorem ln_app {i : Nat} {u : List Nat} (hu : u ≠ []) : df nx ou s nx ou t (u ++ [i]) ↔ df nx ou (nx s i) nx ou (nx t i) u := by
  cases u with
  | nil => exact absurd rfl hu
  | cons j u => exact df_app
theorem ln_succ (hm : 0 < m) : wd_ln k nx ou s t (m + 1) ↔ (∀ w, wd_ok k w → w.length ≤ m → ¬ df nx ou s nx ou t w) ∧ ∃ i, i < k ∧ wd_ln k nx ou (nx s i) (nx t i) m := by
  have key : (∀ w, wd_ok k w → w.length ≤ m → ¬ df nx ou s nx ou t w) → ∀ i, i < k → ∀ v, wd_ok k v → v.length < m → ¬ df nx ou (nx s i) nx ou (nx t i) v := by
    intro h i hi v hv hl hd
    exact h (v ++ [i]) (wd_ok_app.mpr ⟨hv, hi⟩) (by rw [List.length_append, List.length_singleton]; omega) ((ln_app (df_nil_not hd)).mpr hd)
  constructor
  · rintro ⟨⟨w, a1, a2, a3⟩, a4⟩
    have hs : ∀ w, wd_ok k w → w.length ≤ m → ¬ df nx ou s nx ou t w := fun w hw hl => a4 w hw (by omega)
    refine ⟨hs, ?_⟩
    rcases List.eq_nil_or_concat w with rfl | ⟨u, i, rfl⟩
    · simp at a2
    · rw [List.concat_eq_append] at a1 a2 a3
      obtain ⟨b1, b2⟩ := wd_ok_app.mp a1
      have b3 : u.length = m := by rw [List.length_append, List.length_singleton] at a2; omega
      have b4 : u ≠ [] := fun e => by subst e; simp at b3; omega
      exact ⟨i, b2, ⟨u, b1, b3, (ln_app b4).mp a3⟩, key hs i b2⟩
  · rintro ⟨hs, i, hi, ⟨v, b1, b2, b3⟩, -⟩
    refine ⟨⟨v ++ [i], wd_ok_app.mpr ⟨b1, hi⟩, by rw [List.length_append, List.length_singleton, b2], (ln_app (df_nil_not b3)).mpr b3⟩, fun w hw hl => hs w hw (by omega)⟩
theorem least_len (hk : k ≤ 4) {w : List Nat} (h : wd_least k nx ou s nx ou t w) : wd_ln k nx ou s t w.length := by
  refine ⟨⟨w, h.1, rfl, h.2.1⟩, fun v hv hl hd => ?_⟩
  have h1 := h.2.2 v hv hd
  have h2 := wd_len_lt (wd_ok_le hk hv) hl
  omega
theorem least_uniq (hk : k ≤ 4) {nx' ou' : Nat → Nat → Nat} {w v : List Nat} (h : wd_least k nx ou s nx' ou' t w) (h' : wd_least k nx ou s nx' ou' t v) : w = v :=
  wd_inj (wd_ok_le hk h.1) (wd_ok_le hk h'.1) (Nat.le_antisymm (h.2.2 v h'.1 h'.2.1) (h'.2.2 w h.1 h.2.1))
theorem least_ex {nx' ou' : Nat → Nat → Nat} {w : List Nat} (hw : wd_ok k w) (hd : df nx ou s nx' ou' t w) : ∃ v, wd_least k nx ou s nx' ou' t v := by
  obtain ⟨c, ⟨v, h1, h2, h3⟩, h4⟩ := mo_least (P := fun c => ∃ v, wd_ok k v ∧ df nx ou s nx' ou' t v ∧ wd_cd v = c) ⟨_, w, hw, hd, rfl⟩
  refine ⟨v, h1, h2, fun u hu hdu => ?_⟩
  rcases Nat.lt_or_ge (wd_cd u) (wd_cd v) with g | g
  · exact absurd ⟨u, hu, hdu, rfl⟩ (h4 (wd_cd u) (by omega))
  · exact g
theorem least_one (hk : k ≤ 4) {i : Nat} (hi : i < k) (h : ou s i ≠ ou t i) (hm : ∀ j, j < i → ou s j = ou t j) : wd_least k nx ou s nx ou t [i] := by
  refine ⟨wd_ok_cons.mpr ⟨hi, wd_ok_nil k⟩, h, fun v hv hd => ?_⟩
  match v, hd with
  | [j], hd =>
    show 4 * 1 + i ≤ 4 * 1 + j
    rcases Nat.lt_or_ge j i with g | g
    · exact absurd (hm j g) hd
    · omega
  | j :: x :: v, _ =>
    have := wd_pos v
    obtain ⟨h1, -⟩ := wd_ok_cons.mp hv
    show 4 * 1 + i ≤ 4 * (4 * wd_cd v + x) + j
    omega
/-- greedy: the least first letter that leaves a shortest word, then the least word behind it -/
theorem least_app (hk : k ≤ 4) (hm : 0 < m) (h : wd_ln k nx ou s t (m + 1)) {i : Nat} (hi : i < k) (hl : wd_ln k nx ou (nx s i) (nx t i) m) (hlt : ∀ j, j < i → ¬ wd_ln k nx ou (nx s j) (nx t j) m) {v : List Nat} (hv : wd_least k nx ou (nx s i) nx ou (nx t i) v) : wd_least k nx ou s nx ou t (v ++ [i]) := by
  have hvl : v.length = m := ln_uniq (least_len hk hv) hl
  have hvn : v ≠ [] := df_nil_not hv.2.1
  refine ⟨wd_ok_app.mpr ⟨hv.1, hi⟩, (ln_app hvn).mpr hv.2.1, fun u hu hd => ?_⟩
  have hul : m + 1 ≤ u.length := by
    rcases Nat.lt_or_ge u.length (m + 1) with g | g
    · exact absurd hd (h.2 u hu g)
    · exact g
  have hlen : (v ++ [i]).length = m + 1 := by rw [List.length_append, List.length_singleton, hvl]
  rcases Nat.lt_or_ge (m + 1) u.length with g | g
  · exact Nat.le_of_lt (wd_len_lt (wd_ok_le hk (wd_ok_app.mpr ⟨hv.1, hi⟩)) (by omega))
  · rcases List.eq_nil_or_concat u with rfl | ⟨x, j, rfl⟩
    · simp at hul
    · rw [List.concat_eq_append] at *
      obtain ⟨b1, b2⟩ := wd_ok_app.mp hu
      have b3 : x.length = m := by rw [List.length_append, List.length_singleton] at hul g; omega
      have b4 : x ≠ [] := fun e => by subst e; simp at b3; omega
      have hdx := (ln_app b4).mp hd
      have hj : wd_ln k nx ou (nx s j) (nx t j) m := ⟨⟨x, b1, b3, hdx⟩, fun y hy hyl hyd => h.2 (y ++ [j]) (wd_ok_app.mpr ⟨hy, b2⟩) (by rw [List.length_append, List.length_singleton]; omega) ((ln_app (df_nil_not hyd)).mpr hyd)⟩
      rcases Nat.lt_trichotomy i j with g2 | g2 | g2
      · exact Nat.le_of_lt (wd_app_lt (wd_ok_le hk hv.1) (by omega) g2)
      · subst g2
        have := hv.2.2 x b1 hdx
        rw [wd_cd_app, wd_cd_app, hvl, b3]
        omega
      · exact absurd hj (hlt j g2)
end LN
