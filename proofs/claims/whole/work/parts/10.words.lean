/-! Words as lists, the LAST letter first; cd: the code (1, then base-4 digits), shortlex order = order of codes. -/
def wd_cd : List Nat → Nat
  | [] => 1
  | i :: w => 4 * wd_cd w + i
def wd_ok (k : Nat) (w : List Nat) : Prop := ∀ i ∈ w, i < k
theorem wd_ok_nil (k : Nat) : wd_ok k [] := fun _ h => by cases h
theorem wd_ok_cons {k i : Nat} {w : List Nat} : wd_ok k (i :: w) ↔ i < k ∧ wd_ok k w := by
  unfold wd_ok
  constructor
  · intro h
    exact ⟨h i List.mem_cons_self, fun j hj => h j (List.mem_cons_of_mem _ hj)⟩
  · intro h j hj
    rcases List.mem_cons.mp hj with rfl | h2
    · exact h.1
    · exact h.2 j h2
theorem wd_pos (w : List Nat) : 1 ≤ wd_cd w := by
  induction w with
  | nil => exact Nat.le_refl 1
  | cons i w ih => show 1 ≤ 4 * wd_cd w + i; omega
theorem wd_lo (w : List Nat) : 4 ^ w.length ≤ wd_cd w := by
  induction w with
  | nil => exact Nat.le_refl 1
  | cons i w ih =>
    show 4 ^ (w.length + 1) ≤ 4 * wd_cd w + i
    rw [Nat.pow_succ]; omega
theorem wd_hi {w : List Nat} (h : wd_ok 4 w) : wd_cd w < 2 * 4 ^ w.length := by
  induction w with
  | nil => show 1 < 2 * 4 ^ 0; decide
  | cons i w ih =>
    obtain ⟨h1, h2⟩ := wd_ok_cons.mp h
    have := ih h2
    show 4 * wd_cd w + i < 2 * 4 ^ (w.length + 1)
    rw [Nat.pow_succ]; omega
theorem wd_len_lt {w v : List Nat} (hw : wd_ok 4 w) (h : w.length < v.length) : wd_cd w < wd_cd v := by
  have h1 := wd_hi hw
  have h2 := wd_lo v
  have h3 : 4 ^ (w.length + 1) ≤ 4 ^ v.length := Nat.pow_le_pow_right (by decide) h
  rw [Nat.pow_succ] at h3
  omega
theorem wd_len_le {w v : List Nat} (hv : wd_ok 4 v) (h : wd_cd w ≤ wd_cd v) : w.length ≤ v.length := by
  rcases Nat.lt_or_ge v.length w.length with h1 | h1
  · have := wd_len_lt hv h1
    omega
  · exact h1
theorem wd_inj : ∀ {w v : List Nat}, wd_ok 4 w → wd_ok 4 v → wd_cd w = wd_cd v → w = v
  | [], [], _, _, _ => rfl
  | [], j :: v, _, _, h => by
    have h1 : 1 = 4 * wd_cd v + j := h
    have := wd_pos v
    omega
  | i :: w, [], _, _, h => by
    have h1 : 4 * wd_cd w + i = 1 := h
    have := wd_pos w
    omega
  | i :: w, j :: v, hw, hv, h => by
    obtain ⟨h1, h2⟩ := wd_ok_cons.mp hw
    obtain ⟨h3, h4⟩ := wd_ok_cons.mp hv
    have h5 : 4 * wd_cd w + i = 4 * wd_cd v + j := h
    have h6 : i = j := by omega
    have h7 : wd_cd w = wd_cd v := by omega
    rw [h6, wd_inj h2 h4 h7]
theorem wd_cons_le {i : Nat} {w v : List Nat} (h : wd_cd w ≤ wd_cd v) : wd_cd (i :: w) ≤ wd_cd (i :: v) := by
  show 4 * wd_cd w + i ≤ 4 * wd_cd v + i
  omega
/-- a code of a longer word is larger than that of its beginning -/
theorem wd_cons_gt (i : Nat) (w : List Nat) : wd_cd w < wd_cd (i :: w) := by
  have := wd_pos w
  show wd_cd w < 4 * wd_cd w + i
  omega

/-! a machine's run over a word, and what tells two states apart (the last letter's outputs differ) -/
def rn (nx : Nat → Nat → Nat) (s : Nat) : List Nat → Nat
  | [] => s
  | i :: w => nx (rn nx s w) i
def df (nx ou : Nat → Nat → Nat) (s : Nat) (nx' ou' : Nat → Nat → Nat) (t : Nat) : List Nat → Prop
  | [] => False
  | i :: w => ou (rn nx s w) i ≠ ou' (rn nx' t w) i
def wd_none (k : Nat) (nx ou : Nat → Nat → Nat) (s : Nat) (nx' ou' : Nat → Nat → Nat) (t : Nat) : Prop := ∀ v, wd_ok k v → ¬ df nx ou s nx' ou' t v
def wd_least (k : Nat) (nx ou : Nat → Nat → Nat) (s : Nat) (nx' ou' : Nat → Nat → Nat) (t : Nat) (w : List Nat) : Prop :=
  wd_ok k w ∧ df nx ou s nx' ou' t w ∧ ∀ v, wd_ok k v → df nx ou s nx' ou' t v → wd_cd w ≤ wd_cd v

/-! breadth first: entries p < cnt with words W p; (at, inp): the next transition to look at -/
def bf_done (at_ inp p i k : Nat) : Prop := i < k ∧ (p < at_ ∨ (p = at_ ∧ i < inp))
def bf_I (k : Nat) (nx : Nat → Nat → Nat) (s : Nat) (nx' : Nat → Nat → Nat) (t : Nat) (W : Nat → List Nat) (cnt at_ inp : Nat) : Prop :=
  0 < cnt ∧ W 0 = [] ∧ at_ ≤ cnt ∧ inp ≤ k ∧ (∀ p, p < cnt → wd_ok k (W p)) ∧ (∀ p q, p < q → q < cnt → wd_cd (W p) < wd_cd (W q)) ∧
  (∀ p i, p < cnt → bf_done at_ inp p i k → ∃ q, q < cnt ∧ rn nx s (W q) = nx (rn nx s (W p)) i ∧ rn nx' t (W q) = nx' (rn nx' t (W p)) i ∧ wd_cd (W q) ≤ wd_cd (i :: W p)) ∧
  (∀ q, 0 < q → q < cnt → ∃ p i, p < q ∧ bf_done at_ inp p i k ∧ W q = i :: W p)
section BF
variable {k s t cnt at_ inp : Nat} {nx nx' ou ou' : Nat → Nat → Nat} {W : Nat → List Nat}
theorem bf_reach (hI : bf_I k nx s nx' t W cnt at_ inp) {c : Nat} (hpr : ∀ p i, p < cnt → i < k → wd_cd (i :: W p) < c → bf_done at_ inp p i k) :
    ∀ u, wd_ok k u → 4 * wd_cd u < c → ∃ p, p < cnt ∧ rn nx s (W p) = rn nx s u ∧ rn nx' t (W p) = rn nx' t u ∧ wd_cd (W p) ≤ wd_cd u := by
  obtain ⟨h0, hW0, -, -, -, -, h4, -⟩ := hI
  intro u
  induction u with
  | nil => exact fun _ _ => ⟨0, h0, by rw [hW0], by rw [hW0], by rw [hW0]; exact Nat.le_refl _⟩
  | cons i u ih =>
    intro hok hc
    obtain ⟨hi, hu⟩ := wd_ok_cons.mp hok
    have e1 : wd_cd (i :: u) = 4 * wd_cd u + i := rfl
    obtain ⟨p, hp, e2, e3, hle⟩ := ih hu (by omega)
    have hlt : wd_cd (i :: W p) < c := by
      have e4 : wd_cd (i :: W p) = 4 * wd_cd (W p) + i := rfl
      omega
    obtain ⟨q, hq, g1, g2, g3⟩ := h4 p i hp (hpr p i hp hi hlt)
    refine ⟨q, hq, ?_, ?_, ?_⟩
    · show _ = nx (rn nx s u) i
      rw [g1, e2]
    · show _ = nx' (rn nx' t u) i
      rw [g2, e3]
    · exact Nat.le_trans g3 (wd_cons_le hle)
theorem bf_min (hI : bf_I k nx s nx' t W cnt at_ inp) {c : Nat} (hpr : ∀ p i, p < cnt → i < k → wd_cd (i :: W p) < c → bf_done at_ inp p i k)
    (hnd : ∀ p i, p < cnt → wd_cd (i :: W p) < c → bf_done at_ inp p i k → ¬ df nx ou s nx' ou' t (i :: W p)) : ∀ v, wd_ok k v → df nx ou s nx' ou' t v → c ≤ wd_cd v := by
  intro v hv hd
  rcases Nat.lt_or_ge (wd_cd v) c with hlt | hge
  · cases v with
    | nil => exact absurd hd (fun h => h)
    | cons j u =>
      obtain ⟨hj, hu⟩ := wd_ok_cons.mp hv
      have e1 : wd_cd (j :: u) = 4 * wd_cd u + j := rfl
      obtain ⟨p, hp, e2, e3, hle⟩ := bf_reach hI hpr u hu (by omega)
      have hlt2 : wd_cd (j :: W p) < c := Nat.lt_of_le_of_lt (wd_cons_le hle) hlt
      refine absurd ?_ (hnd p j hp hlt2 (hpr p j hp hj hlt2))
      show ou (rn nx s (W p)) j ≠ ou' (rn nx' t (W p)) j
      rw [e2, e3]
      exact hd
  · exact hge
/-- in the order of the words: what comes before is done -/
theorem bf_before (hI : bf_I k nx s nx' t W cnt at_ inp) (hk : k ≤ 4) (hat : at_ < cnt) (hin : inp < k) {p i : Nat} (hp : p < cnt) (hi : i < k) (h : wd_cd (i :: W p) < wd_cd (inp :: W at_)) : bf_done at_ inp p i k := by
  obtain ⟨-, -, -, -, -, h2, -, -⟩ := hI
  have e1 : wd_cd (i :: W p) = 4 * wd_cd (W p) + i := rfl
  have e2 : wd_cd (inp :: W at_) = 4 * wd_cd (W at_) + inp := rfl
  refine ⟨hi, ?_⟩
  rcases Nat.lt_trichotomy p at_ with h1 | h1 | h1
  · exact Or.inl h1
  · subst h1
    exact Or.inr ⟨rfl, by omega⟩
  · have := h2 at_ p h1 hp
    omega
theorem bf_found (hI : bf_I k nx s nx' t W cnt at_ inp) (hk : k ≤ 4) (hat : at_ < cnt) (hin : inp < k) (hnd : ∀ p i, p < cnt → bf_done at_ inp p i k → ¬ df nx ou s nx' ou' t (i :: W p)) (hd : df nx ou s nx' ou' t (inp :: W at_)) :
    wd_least k nx ou s nx' ou' t (inp :: W at_) :=
  ⟨wd_ok_cons.mpr ⟨hin, hI.2.2.2.2.1 at_ hat⟩, hd, bf_min hI (fun p i hp hi h => bf_before hI hk hat hin hp hi h) (fun p i hp _ h => hnd p i hp h)⟩
theorem bf_none (hI : bf_I k nx s nx' t W cnt cnt 0) (hnd : ∀ p i, p < cnt → bf_done cnt 0 p i k → ¬ df nx ou s nx' ou' t (i :: W p)) : wd_none k nx ou s nx' ou' t := by
  intro v hv hd
  have h := bf_min (c := wd_cd v + 1) hI (fun p i hp hi _ => ⟨hi, Or.inl hp⟩) (fun p i hp _ h => hnd p i hp h) v hv hd
  omega
theorem bf_0 (hW : W 0 = []) : bf_I k nx s nx' t W 1 0 0 := by
  refine ⟨by decide, hW, by decide, Nat.zero_le _, ?_, ?_, ?_, ?_⟩
  · intro p hp
    have : p = 0 := by omega
    subst this
    rw [hW]
    exact wd_ok_nil k
  · intro p q h1 h2; omega
  · rintro p i hp ⟨-, h | ⟨-, h⟩⟩ <;> omega
  · intro q h1 h2; omega
theorem bf_row (hI : bf_I k nx s nx' t W cnt at_ k) (hat : at_ < cnt) : bf_I k nx s nx' t W cnt (at_ + 1) 0 := by
  obtain ⟨h0, hW0, h1, h2, h3, h4, h5, h6⟩ := hI
  have to : ∀ p i, bf_done (at_ + 1) 0 p i k → bf_done at_ k p i k := by
    rintro p i ⟨hi, h | ⟨-, h⟩⟩
    · rcases Nat.lt_or_ge p at_ with g | g
      · exact ⟨hi, Or.inl g⟩
      · exact ⟨hi, Or.inr ⟨by omega, hi⟩⟩
    · omega
  have back : ∀ p i, bf_done at_ k p i k → bf_done (at_ + 1) 0 p i k := by
    rintro p i ⟨hi, h | ⟨h, -⟩⟩
    · exact ⟨hi, Or.inl (by omega)⟩
    · exact ⟨hi, Or.inl (by omega)⟩
  refine ⟨h0, hW0, hat, Nat.zero_le _, h3, h4, fun p i hp hd => h5 p i hp (to p i hd), fun q g1 g2 => ?_⟩
  obtain ⟨p, i, e1, e2, e3⟩ := h6 q g1 g2
  exact ⟨p, i, e1, back p i e2, e3⟩
theorem bf_le (hI : bf_I k nx s nx' t W cnt at_ inp) (hk : k ≤ 4) (hat : at_ < cnt) {q : Nat} (hq : q < cnt) : wd_cd (W q) ≤ wd_cd (inp :: W at_) := by
  obtain ⟨-, hW0, -, -, -, h2, -, h6⟩ := hI
  have e2 : wd_cd (inp :: W at_) = 4 * wd_cd (W at_) + inp := rfl
  have hp := wd_pos (W at_)
  rcases Nat.eq_zero_or_pos q with rfl | g
  · rw [hW0]
    show 1 ≤ _
    omega
  · obtain ⟨p, i, e1, ⟨hi, hd⟩, e3⟩ := h6 q g hq
    have e4 : wd_cd (W q) = 4 * wd_cd (W p) + i := by rw [e3]; rfl
    rcases hd with hd | ⟨hd, h⟩
    · have := h2 p at_ hd hat
      omega
    · subst hd
      omega
theorem bf_lt (hI : bf_I k nx s nx' t W cnt at_ inp) (hk : k ≤ 4) (hat : at_ < cnt) {q : Nat} (hq : q < cnt) : wd_cd (W q) < wd_cd (inp :: W at_) := by
  obtain ⟨-, hW0, -, -, -, h2, -, h6⟩ := hI
  have e2 : wd_cd (inp :: W at_) = 4 * wd_cd (W at_) + inp := rfl
  have hp := wd_pos (W at_)
  rcases Nat.eq_zero_or_pos q with rfl | g
  · rw [hW0]
    show 1 < _
    omega
  · obtain ⟨p, i, e1, ⟨hi, hd⟩, e3⟩ := h6 q g hq
    have e4 : wd_cd (W q) = 4 * wd_cd (W p) + i := by rw [e3]; rfl
    rcases hd with hd | ⟨hd, h⟩
    · have := h2 p at_ hd hat
      omega
    · subst hd
      omega
theorem bf_done_step {p i : Nat} (h : bf_done at_ (inp + 1) p i k) : bf_done at_ inp p i k ∨ (p = at_ ∧ i = inp) := by
  obtain ⟨hi, h | ⟨h, g⟩⟩ := h
  · exact Or.inl ⟨hi, Or.inl h⟩
  · rcases Nat.lt_or_ge i inp with g2 | g2
    · exact Or.inl ⟨hi, Or.inr ⟨h, g2⟩⟩
    · exact Or.inr ⟨h, by omega⟩
theorem bf_done_mono {p i : Nat} (h : bf_done at_ inp p i k) : bf_done at_ (inp + 1) p i k := by
  obtain ⟨hi, h | ⟨h, g⟩⟩ := h
  · exact ⟨hi, Or.inl h⟩
  · exact ⟨hi, Or.inr ⟨h, by omega⟩⟩
/-- the pair was there -/
theorem bf_seen (hI : bf_I k nx s nx' t W cnt at_ inp) (hk : k ≤ 4) (hat : at_ < cnt) (hin : inp < k) {q : Nat} (hq : q < cnt) (e1 : rn nx s (W q) = nx (rn nx s (W at_)) inp) (e2 : rn nx' t (W q) = nx' (rn nx' t (W at_)) inp) :
    bf_I k nx s nx' t W cnt at_ (inp + 1) := by
  have hle := bf_le hI hk hat hq
  obtain ⟨h0, hW0, h1, h2, h3, h4, h5, h6⟩ := hI
  refine ⟨h0, hW0, h1, hin, h3, h4, fun p i hp hd => ?_, fun q g1 g2 => ?_⟩
  · rcases bf_done_step hd with hd | ⟨rfl, rfl⟩
    · exact h5 p i hp hd
    · exact ⟨q, hq, e1, e2, hle⟩
  · obtain ⟨p, i, a1, a2, a3⟩ := h6 q g1 g2
    exact ⟨p, i, a1, bf_done_mono a2, a3⟩
/-- the pair is new -/
theorem bf_new (hI : bf_I k nx s nx' t W cnt at_ inp) (hk : k ≤ 4) (hat : at_ < cnt) (hin : inp < k) {W' : Nat → List Nat} (hW : ∀ q, q < cnt → W' q = W q) (hc : W' cnt = inp :: W at_) :
    bf_I k nx s nx' t W' (cnt + 1) at_ (inp + 1) := by
  have hlt : ∀ q, q < cnt → wd_cd (W q) < wd_cd (inp :: W at_) := fun q hq => bf_lt hI hk hat hq
  obtain ⟨h0, hW0, h1, h2, h3, h4, h5, h6⟩ := hI
  refine ⟨by omega, by rw [hW 0 h0]; exact hW0, by omega, hin, fun p hp => ?_, fun p q g1 g2 => ?_, fun p i hp hd => ?_, fun q g1 g2 => ?_⟩
  · rcases Nat.lt_or_ge p cnt with g | g
    · rw [hW p g]; exact h3 p g
    · have : p = cnt := by omega
      subst this
      rw [hc]
      exact wd_ok_cons.mpr ⟨hin, h3 at_ hat⟩
  · rcases Nat.lt_or_ge q cnt with g | g
    · rw [hW q g, hW p (by omega)]; exact h4 p q g1 g
    · have : q = cnt := by omega
      subst this
      rw [hc, hW p g1]
      exact hlt p g1
  · rcases bf_done_step hd with hd | ⟨rfl, rfl⟩
    · have hp2 : p < cnt := by
        obtain ⟨-, h | ⟨h, -⟩⟩ := hd <;> omega
      obtain ⟨q, a1, a2, a3, a4⟩ := h5 p i hp2 hd
      exact ⟨q, by omega, by rw [hW q a1, hW p hp2]; exact a2, by rw [hW q a1, hW p hp2]; exact a3, by rw [hW q a1, hW p hp2]; exact a4⟩
    · exact ⟨cnt, by omega, by rw [hc, hW p hat]; rfl, by rw [hc, hW p hat]; rfl, by rw [hc, hW p hat]; exact Nat.le_refl _⟩
  · rcases Nat.lt_or_ge q cnt with g | g
    · obtain ⟨p, i, a1, a2, a3⟩ := h6 q g1 g
      exact ⟨p, i, a1, bf_done_mono a2, by rw [hW q g, hW p (by omega)]; exact a3⟩
    · have : q = cnt := by omega
      subst this
      exact ⟨at_, inp, hat, ⟨hin, Or.inr ⟨rfl, by omega⟩⟩, by rw [hc, hW at_ hat]⟩
end BF
