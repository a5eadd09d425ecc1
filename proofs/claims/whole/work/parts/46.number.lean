/-! access words; Model: take, number -/
def acF (q : nb_T) : Nat → Nat → List Nat
  | 0, _ => []
  | f + 1, a => if a = 0 then [] else q.2.2.2 a :: acF q f (q.2.2.1 a)
/-- the access word of the a-th state (its last letter first) -/
def ac (q : nb_T) (a : Nat) : List Nat := acF q a a
theorem acF_0 (q : nb_T) (f : Nat) : acF q f 0 = [] := by cases f <;> rfl
theorem acF_eq {q : nb_T} {N : Nat} (h : ∀ a, 0 < a → a < N → q.2.2.1 a < a) : ∀ a, a < N → ∀ f f', a ≤ f → a ≤ f' → acF q f a = acF q f' a := by
  intro a
  induction a using Nat.strongRecOn with
  | ind a ih =>
    intro ha f f' hf hf'
    by_cases e : a = 0
    · subst e; rw [acF_0, acF_0]
    · obtain ⟨x, rfl⟩ : ∃ x, f = x + 1 := ⟨f - 1, by omega⟩
      obtain ⟨y, rfl⟩ : ∃ y, f' = y + 1 := ⟨f' - 1, by omega⟩
      have hlt := h a (by omega) ha
      show (if a = 0 then [] else q.2.2.2 a :: acF q x (q.2.2.1 a)) = (if a = 0 then [] else q.2.2.2 a :: acF q y (q.2.2.1 a))
      rw [if_neg e, if_neg e, ih _ hlt (by omega) x y (by omega) (by omega)]
theorem ac_0 (q : nb_T) : ac q 0 = [] := rfl
theorem ac_s {q : nb_T} {N : Nat} (h : ∀ a, 0 < a → a < N → q.2.2.1 a < a) {a : Nat} (h0 : 0 < a) (ha : a < N) : ac q a = q.2.2.2 a :: ac q (q.2.2.1 a) := by
  obtain ⟨x, rfl⟩ : ∃ x, a = x + 1 := ⟨a - 1, by omega⟩
  have hlt := h _ h0 ha
  show (if x + 1 = 0 then [] else q.2.2.2 (x + 1) :: acF q x (q.2.2.1 (x + 1))) = _
  rw [if_neg (by omega)]
  congr 1
  exact acF_eq h _ (by omega) _ _ (by omega) (Nat.le_refl _)
theorem ac_len {q : nb_T} {N : Nat} (h : ∀ a, 0 < a → a < N → q.2.2.1 a < a) : ∀ a, a < N → (ac q a).length ≤ a := by
  intro a
  induction a using Nat.strongRecOn with
  | ind a ih =>
    intro ha
    by_cases e : a = 0
    · subst e; exact Nat.le_refl 0
    · have hlt := h a (by omega) ha
      rw [ac_s h (by omega) ha, List.length_cons]
      have := ih _ hlt (by omega)
      omega
theorem ac_ok {q : nb_T} {N k : Nat} (h : ∀ a, 0 < a → a < N → q.2.2.1 a < a) (h2 : ∀ a, 0 < a → a < N → q.2.2.2 a < k) : ∀ a, a < N → wd_ok k (ac q a) := by
  intro a
  induction a using Nat.strongRecOn with
  | ind a ih =>
    intro ha
    by_cases e : a = 0
    · subst e; exact wd_ok_nil k
    · rw [ac_s h (by omega) ha]
      exact wd_ok_cons.mpr ⟨h2 a (by omega) ha, ih _ (h a (by omega) ha) (by have := h a (by omega) ha; omega)⟩
theorem ac_up {q q' : nb_T} {N : Nat} (h : ∀ a, 0 < a → a < N → q.2.2.1 a < a) (e1 : ∀ a, a < N → q'.2.2.1 a = q.2.2.1 a) (e2 : ∀ a, a < N → q'.2.2.2 a = q.2.2.2 a) : ∀ a, a < N → ac q' a = ac q a := by
  intro a
  induction a using Nat.strongRecOn with
  | ind a ih =>
    intro ha
    by_cases e : a = 0
    · subst e; rfl
    · have h' : ∀ a, 0 < a → a < N → q'.2.2.1 a < a := fun a h0 ha => by rw [e1 a ha]; exact h a h0 ha
      rw [ac_s h (by omega) ha, ac_s h' (by omega) ha, e1 a ha, e2 a ha, ih _ (h a (by omega) ha) (by have := h a (by omega) ha; omega)]
/-! the model's numbering -/
def nbm (g : aj_G) (k n s0 : Nat) (nx ou : Nat → Nat → Nat) (tw : Nat → Nat) (j : Nat) (q : nb_T) (sf : Nat → Nat) : Prop :=
  q = nb k nx tw s0 j ∧ nb_I k n nx tw s0 j q ∧ g 78 8 = q.1 ∧ (∀ a : Nat, a < q.1 → g 83 a = sf a ∧ sf a < n ∧ tw (sf a) = q.2.1 a ∧ g 84 a = wd_cd (ac q a)) ∧
  ∀ x : Nat, x < n → (∀ a : Nat, a < q.1 → q.2.1 a = tw x → g 82 x = a) ∧ ((∀ a, a < q.1 → q.2.1 a ≠ tw x) → g 82 x = -1)
def tk_P (k n : Nat) (nx ou : Nat → Nat → Nat) (g g1 : aj_G) (c s : Nat) (w : Int) : Prop := (∀ r, r ≠ 78 → r ≠ 82 → r ≠ 83 → r ≠ 84 → g1 r = g r) ∧ (∀ j, j ≠ 8 → g1 78 j = g 78 j) ∧ g1 78 8 = c + 1 ∧ (∀ x, x ≠ (c : Int) → g1 83 x = g 83 x) ∧ g1 83 c = s ∧ (∀ x, x ≠ (c : Int) → g1 84 x = g 84 x) ∧ g1 84 c = w ∧
  ∀ x : Nat, x < n → (al_k k nx ou s x → g1 82 x = c) ∧ (¬ al_k k nx ou s x → g1 82 x = g 82 x)
theorem td_al {g : aj_G} {k n : Nat} {nx ou : Nat → Nat → Nat} (h : tdm g k n nx ou) {s t : Nat} (hs : s < n) (ht : t < n) : g 81 (8 * (s : Int) + t) = 0 ↔ al_k k nx ou s t := by
  obtain ⟨m', e, -, h1⟩ := h s t hs ht
  rw [e]
  constructor
  · intro z
    rcases h1 with ⟨-, h2⟩ | h2
    · exact h2
    · have := ln_pos h2; omega
  · intro z
    rcases h1 with ⟨h2, -⟩ | h2
    · omega
    · exact (ln_al h2 z).elim
section NBM
variable {g g1 : aj_G} {k n s0 : Nat} {nx ou : Nat → Nat → Nat} {tw sf : Nat → Nat} {q : nb_T}
theorem nbm_tw (htw : tw_ok k n nx ou tw) (hc : ∀ s i, s < n → i < k → nx s i < n) {j m i : Nat} (h : nbm g k n s0 nx ou tw j q sf) (hm : m < q.1) (hi : i < k) : tw (nx (q.2.1 m) i) = tw (nx (sf m) i) := by
  obtain ⟨-, hI, -, h4, -⟩ := h
  obtain ⟨-, s1, s2, -⟩ := h4 m hm
  obtain ⟨m1, m2⟩ := hI.2.2.1 m hm
  have ha : al_k k nx ou (q.2.1 m) (sf m) := (tw_eq htw m1 s1).mp (by rw [m2, s2])
  exact (tw_eq htw (hc _ _ m1 hi) (hc _ _ s1 hi)).mpr (al_next ha hi)
theorem nbm_jk {k m i : Nat} (hi : i < k) : (m * k + i) / k = m ∧ (m * k + i) % k = i := by
  have hk : 0 < k := by omega
  exact ⟨by rw [Nat.mul_comm, Nat.mul_add_div hk, Nat.div_eq_of_lt hi]; rfl, by rw [Nat.mul_comm, Nat.mul_add_mod, Nat.mod_eq_of_lt hi]⟩
theorem nbm_keep (htw : tw_ok k n nx ou tw) (hc : ∀ s i, s < n → i < k → nx s i < n) {m i a : Nat} (h : nbm g k n s0 nx ou tw (m * k + i) q sf) (hm : m < q.1) (hi : i < k) (ha : a < q.1) (he : q.2.1 a = tw (nx (sf m) i)) : nbm g k n s0 nx ou tw (m * k + i + 1) q sf := by
  have ht := nbm_tw htw hc h hm hi
  obtain ⟨e1, e2⟩ := nbm_jk (m := m) hi
  obtain ⟨h1, hI, h3, h4, h5⟩ := h
  have hs := nb_step (by omega) htw hc hI (by rw [e1]; exact hm)
  have hq : nb_st k nx tw (m * k + i) q = q := by
    unfold nb_st
    rw [e1, e2, if_pos (nb_in_iff.mpr ⟨a, ha, by rw [ht]; exact he⟩)]
  rw [hq] at hs
  refine ⟨?_, hs, h3, h4, h5⟩
  show q = nb_st k nx tw (m * k + i) (nb k nx tw s0 (m * k + i))
  rw [← h1, hq]
theorem nbm_add (htw : tw_ok k n nx ou tw) (hc : ∀ s i, s < n → i < k → nx s i < n) {m i : Nat} (h : nbm g k n s0 nx ou tw (m * k + i) q sf) (hm : m < q.1) (hi : i < k) (hno : ∀ a, a < q.1 → q.2.1 a ≠ tw (nx (sf m) i)) (hP : tk_P k n nx ou g g1 q.1 (nx (sf m) i) (wd_cd (i :: ac q m) : Nat)) :
    ∃ q', q'.1 = q.1 + 1 ∧ nbm g1 k n s0 nx ou tw (m * k + i + 1) q' (nb_up sf q.1 (nx (sf m) i)) := by
  have ht := nbm_tw htw hc h hm hi
  obtain ⟨e1, e2⟩ := nbm_jk (m := m) hi
  obtain ⟨h1, hI, h3, h4, h5⟩ := h
  have hs := nb_step (by omega) htw hc hI (by rw [e1]; exact hm)
  have hq : nb_st k nx tw (m * k + i) q = (q.1 + 1, nb_up q.2.1 q.1 (tw (nx (sf m) i)), nb_up q.2.2.1 q.1 m, nb_up q.2.2.2 q.1 i) := by
    unfold nb_st
    rw [e1, e2, ht, if_neg]
    intro z
    obtain ⟨a, ha, he⟩ := nb_in_iff.mp z
    exact hno a ha he
  have hto : nx (sf m) i < n := hc _ _ (h4 m hm).2.1 hi
  refine ⟨(q.1 + 1, nb_up q.2.1 q.1 (tw (nx (sf m) i)), nb_up q.2.2.1 q.1 m, nb_up q.2.2.2 q.1 i), rfl, ?_, by rw [← hq]; exact hs, ?_, fun a ha => ?_, fun x hx => ?_⟩
  · show _ = nb_st k nx tw (m * k + i) (nb k nx tw s0 (m * k + i))
    rw [← h1, hq]
  · rw [hP.2.2.1]; show ((q.1 : Nat) : Int) + 1 = ((q.1 + 1 : Nat) : Int); omega
  · have ha' : a < q.1 + 1 := ha
    have h5' : ∀ a, 0 < a → a < q.1 → q.2.2.1 a < a := fun a h0 ha => (hI.2.2.2.2.1 a h0 ha).1
    have hac : ∀ a, a < q.1 → ac (q.1 + 1, nb_up q.2.1 q.1 (tw (nx (sf m) i)), nb_up q.2.2.1 q.1 m, nb_up q.2.2.2 q.1 i) a = ac q a := ac_up h5' (fun a ha => nb_up_ne _ _ (by omega)) (fun a ha => nb_up_ne _ _ (by omega))
    by_cases e : a = q.1
    · subst e
      refine ⟨by rw [hP.2.2.2.2.1, nb_up_self], by rw [nb_up_self]; exact hto, ?_, ?_⟩
      · show tw (nb_up sf q.1 _ q.1) = nb_up q.2.1 q.1 _ q.1
        rw [nb_up_self, nb_up_self]
      · rw [hP.2.2.2.2.2.2.1]
        have : ac (q.1 + 1, nb_up q.2.1 q.1 (tw (nx (sf m) i)), nb_up q.2.2.1 q.1 m, nb_up q.2.2.2 q.1 i) q.1 = i :: ac q m := by
          rw [ac_s (N := q.1 + 1) (fun a h0 ha => ?_) hI.1 (by omega)]
          · show nb_up q.2.2.2 q.1 i q.1 :: ac _ (nb_up q.2.2.1 q.1 m q.1) = _
            rw [nb_up_self, nb_up_self, hac m hm]
          · show nb_up q.2.2.1 q.1 m a < a
            by_cases e : a = q.1
            · rw [e, nb_up_self]; exact hm
            · rw [nb_up_ne _ _ e]; exact h5' a h0 (by omega)
        rw [this]
    · obtain ⟨f1, f2, f3, f4⟩ := h4 a (by omega)
      refine ⟨by rw [hP.2.2.2.1 _ (by omega), nb_up_ne _ _ e]; exact f1, by rw [nb_up_ne _ _ e]; exact f2, ?_, ?_⟩
      · show tw (nb_up sf q.1 _ a) = nb_up q.2.1 q.1 _ a
        rw [nb_up_ne _ _ e, nb_up_ne _ _ e]; exact f3
      · rw [hP.2.2.2.2.2.1 _ (by omega), hac a (by omega)]; exact f4
  · obtain ⟨p1, p2⟩ := hP.2.2.2.2.2.2.2 x hx
    have hal : al_k k nx ou (nx (sf m) i) x ↔ tw (nx (sf m) i) = tw x := (tw_eq htw hto hx).symm
    refine ⟨fun a ha hq => ?_, fun hn => ?_⟩
    · have ha' : a < q.1 + 1 := ha
      have hq' : nb_up q.2.1 q.1 (tw (nx (sf m) i)) a = tw x := hq
      by_cases e : a = q.1
      · rw [e, nb_up_self] at hq'
        rw [p1 (hal.mpr hq'), e]
      · rw [nb_up_ne _ _ e] at hq'
        rw [p2 (fun z => hno a (by omega) (by rw [hal.mp z]; exact hq')), (h5 x hx).1 a (by omega) hq']
    · have hnx : tw (nx (sf m) i) ≠ tw x := by
        have := hn q.1 (show q.1 < q.1 + 1 by omega)
        rw [show (q.1 + 1, nb_up q.2.1 q.1 (tw (nx (sf m) i)), nb_up q.2.2.1 q.1 m, nb_up q.2.2.2 q.1 i).2.1 q.1 = tw (nx (sf m) i) from nb_up_self _ _ _] at this
        exact this
      rw [p2 (fun z => hnx (hal.mp z)), (h5 x hx).2 (fun a ha z => ?_)]
      have := hn a (show a < q.1 + 1 by omega)
      exact this (by show nb_up q.2.1 q.1 _ a = _; rw [nb_up_ne _ _ (by omega)]; exact z)
end NBM
/-! past its end the numbering stands still -/
theorem nb_far {k : Nat} {nx : Nat → Nat → Nat} {tw : Nat → Nat} {s0 : Nat} : ∀ j x, (nb k nx tw s0 j).1 ≤ x → (nb k nx tw s0 j).2.1 x = tw s0
  | 0, x, _ => rfl
  | j + 1, x, h => by
    have ih := nb_far (k := k) (nx := nx) (tw := tw) (s0 := s0) j x
    show (nb_st k nx tw j (nb k nx tw s0 j)).2.1 x = tw s0
    have h' : (nb_st k nx tw j (nb k nx tw s0 j)).1 ≤ x := h
    unfold nb_st at h' ⊢
    by_cases z : nb_in (nb k nx tw s0 j).1 (nb k nx tw s0 j).2.1 (tw (nx ((nb k nx tw s0 j).2.1 (j / k)) (j % k))) = true
    · rw [if_pos z] at h' ⊢
      exact ih h'
    · rw [if_neg z] at h' ⊢
      have h'' : (nb k nx tw s0 j).1 + 1 ≤ x := h'
      show nb_up _ _ _ x = _
      rw [nb_up_ne _ _ (by omega)]
      exact ih (by omega)
theorem nb_fix {k n : Nat} {nx : Nat → Nat → Nat} {tw : Nat → Nat} {s0 N : Nat} (hk : 0 < k) (hN : (nb k nx tw s0 (N * k)).1 = N) (hI : nb_I k n nx tw s0 (N * k) (nb k nx tw s0 (N * k))) : ∀ e, nb k nx tw s0 (N * k + e) = nb k nx tw s0 (N * k)
  | 0 => rfl
  | e + 1 => by
    have ih := nb_fix hk hN hI e
    show nb_st k nx tw (N * k + e) (nb k nx tw s0 (N * k + e)) = _
    rw [ih]
    have hge : N ≤ (N * k + e) / k := by rw [Nat.le_div_iff_mul_le hk]; omega
    have hfar := nb_far (k := k) (nx := nx) (tw := tw) (s0 := s0) (N * k) ((N * k + e) / k) (by rw [hN]; exact hge)
    unfold nb_st
    rw [hfar, if_pos]
    have hlt : (N * k + e) % k < k := Nat.mod_lt _ hk
    have h0 : 0 < N := by rw [← hN]; exact hI.1
    have hNk : k ≤ N * k := Nat.le_mul_of_pos_left k h0
    obtain ⟨b, b1, b2⟩ := hI.2.2.2.2.2 0 ((N * k + e) % k) hlt (by omega)
    rw [hI.2.1] at b2
    exact nb_in_iff.mpr ⟨b, b1, b2⟩
theorem nb_uniq {k n : Nat} {nx : Nat → Nat → Nat} {tw : Nat → Nat} {s0 N N' : Nat} (hk : 0 < k) (hN : (nb k nx tw s0 (N * k)).1 = N) (hI : nb_I k n nx tw s0 (N * k) (nb k nx tw s0 (N * k))) (hN' : (nb k nx tw s0 (N' * k)).1 = N') (hI' : nb_I k n nx tw s0 (N' * k) (nb k nx tw s0 (N' * k))) : N = N' := by
  rcases Nat.le_total N N' with h | h
  · have e := nb_fix hk hN hI (N' * k - N * k)
    have : N * k ≤ N' * k := Nat.mul_le_mul_right k h
    rw [show N * k + (N' * k - N * k) = N' * k by omega] at e
    rw [← hN', e, hN]
  · have e := nb_fix hk hN' hI' (N * k - N' * k)
    have : N' * k ≤ N * k := Nat.mul_le_mul_right k h
    rw [show N' * k + (N * k - N' * k) = N * k by omega] at e
    rw [← hN, e, hN']
set_option maxHeartbeats 4000000 in
theorem k_take_loop {al : Prop} {X : Option (Nat × (Int → Int))} {d : Nat} {sh : List aj_S} {g : aj_G} {Q : aj_R → List aj_S → aj_G → Prop} {k n : Nat} {nx ou : Nat → Nat → Nat} {c s : Nat} {w : Int} (hT : tdm g k n nx ou) (hc8 : c < 8) (hs : s < n) (hk : ∀ g1, tk_P k n nx ou g g1 c s w → Q (.inl none) sh g1) :
    ∀ (m t : Nat) (g1 : aj_G), t ≤ n → n - t = m → mmm sh g1 k n nx ou → g1 78 8 = (c : Nat) → (∀ r, r ≠ 78 → r ≠ 82 → r ≠ 83 → r ≠ 84 → g1 r = g r) → (∀ j, j ≠ 8 → g1 78 j = g 78 j) → (∀ x, x ≠ (c : Int) → g1 83 x = g 83 x) → g1 83 c = s → (∀ x, x ≠ (c : Int) → g1 84 x = g 84 x) → g1 84 c = w →
      (∀ x : Nat, x < n → (x < t → al_k k nx ou s x → g1 82 x = c) ∧ (x < t → ¬ al_k k nx ou s x → g1 82 x = g 82 x) ∧ (t ≤ x → g1 82 x = g 82 x)) →
    aj_wp nE al al X m_Model_take d 0 0 23 [some (1, 78), some (0, (s : Int)), some (2, w), none, some (0, (t : Int))] [] sh g1 Q := by
  intro m
  induction m using Nat.strongRecOn with
  | ind m ih =>
    intro t g1 ht hmm hM1 hc1 hF hF8 h83 h83c h84 h84c h82
    have hn8 := hM1.2.2.2.2.1
    have h81 : g1 81 = g 81 := hF 81 (by omega) (by omega) (by omega) (by omega)
    refine aj_iload 4 25 (dx d_Model_take 14 rfl) rfl rfl ?_
    refine aj_aload_n 0 26 (dx d_Model_take 15 rfl) rfl rfl rfl ?_
    refine aj_getfv (v := (n : Int)) 29 fl_Model_86 (dx d_Model_take 16 rfl) rfl hM1.1.1 hM1.2.1 ?_
    refine aj_icmp_ge 74 32 (dx d_Model_take 17 rfl) rfl rfl (by unfold aj_I; omega) (by unfold aj_I; omega) (fun h29 => ?_) (fun h29 => ?_)
    · refine aj_aload_n 0 75 (dx d_Model_take 40 rfl) rfl rfl rfl ?_
      refine aj_dup 76 (dx d_Model_take 41 rfl) rfl rfl ?_
      refine aj_getfv (v := (c : Int)) 79 fl_Model_126 (dx d_Model_take 42 rfl) rfl hM1.1.1 hc1 ?_
      refine aj_iconst 80 (dx d_Model_take 43 rfl) rfl ?_
      refine aj_iadd 81 (dx d_Model_take 44 rfl) rfl ?_
      refine aj_putf 84 (pl_Model_126 _) (dx d_Model_take 45 rfl) rfl hM1.1.1 (aj_fitI _) ?_
      refine aj_vret (dx d_Model_take 46 rfl) rfl id ?_
      refine hk _ ⟨fun r h1 h2 h3 h4 => ?_, fun j hj => ?_, by rw [aj_up_self], fun x hx => ?_, ?_, fun x hx => ?_, ?_, fun x hx => ?_⟩
      · rw [aj_up_ne _ _ _ h1]; exact hF r h1 h2 h3 h4
      · rw [aj_up_ni _ _ _ hj]; exact hF8 j hj
      · rw [aj_up_ne _ _ _ (by omega)]; exact h83 x hx
      · rw [aj_up_ne _ _ _ (by omega)]; exact h83c
      · rw [aj_up_ne _ _ _ (by omega)]; exact h84 x hx
      · rw [aj_up_ne _ _ _ (by omega)]; exact h84c
      · rw [aj_up_ne _ _ _ (by omega)]
        obtain ⟨y1, y2, -⟩ := h82 x hx
        exact ⟨y1 (by omega), y2 (by omega)⟩
    · have htn : t < n := by omega
      obtain ⟨m', t1, t2, -⟩ := hT s t hs htn
      have hta := td_al hT hs htn
      obtain ⟨v1, v2, v3⟩ := h82 t htn
      refine aj_aload_n 0 33 (dx d_Model_take 18 rfl) rfl rfl rfl ?_
      refine aj_getfv (v := 82) 36 fl_Model_19 (dx d_Model_take 19 rfl) rfl hM1.1.1 (by first | exact mf_minimalOf hM1.1 | (simp [aj_up_at]; exact mf_minimalOf hM1.1) | exact mf_minimalOf (by assumption)) ?_
      refine aj_iload 4 38 (dx d_Model_take 20 rfl) rfl rfl ?_
      refine aj_aload_n 0 39 (dx d_Model_take 21 rfl) rfl rfl rfl ?_
      refine aj_getfv (v := 81) 42 fl_Model_16 (dx d_Model_take 22 rfl) rfl hM1.1.1 (by first | exact mf_told hM1.1 | (simp [aj_up_at]; exact mf_told hM1.1) | exact mf_told (by assumption)) ?_
      refine aj_bipush 44 (dx d_Model_take 23 rfl) rfl (by decide +kernel) ?_
      refine aj_iload_n 1 45 (dx d_Model_take 24 rfl) rfl rfl rfl ?_
      refine aj_imul 46 (dx d_Model_take 25 rfl) rfl ?_
      refine aj_iload 4 48 (dx d_Model_take 26 rfl) rfl rfl ?_
      refine aj_iadd 49 (dx d_Model_take 27 rfl) rfl ?_
      refine aj_iald 50 (dx d_Model_take 28 rfl) rfl (ms_told hM1.1) rfl (by omega) (by omega) ?_
      rw [h81]
      refine aj_if_ne 60 53 (dx d_Model_take 29 rfl) rfl rfl (by rw [t1]; unfold aj_I; omega) (fun h50 => ?_) (fun h50 => ?_)
      · refine aj_aload_n 0 61 (dx d_Model_take 33 rfl) rfl rfl rfl ?_
        refine aj_getfv (v := 82) 64 fl_Model_19 (dx d_Model_take 34 rfl) rfl hM1.1.1 (by first | exact mf_minimalOf hM1.1 | (simp [aj_up_at]; exact mf_minimalOf hM1.1) | exact mf_minimalOf (by assumption)) ?_
        refine aj_iload 4 66 (dx d_Model_take 35 rfl) rfl rfl ?_
        refine aj_iald 67 (dx d_Model_take 36 rfl) rfl (ms_minimalOf hM1.1) rfl (by omega) (by omega) ?_
        refine aj_iast 68 (dx d_Model_take 37 rfl) rfl (ms_minimalOf hM1.1) rfl (by omega) (by omega) ?_
        refine aj_iinc 4 71 (dx d_Model_take 38 rfl) rfl rfl rfl ?_
        simp only [List.set]
        refine aj_goto 23 (dx d_Model_take 39 rfl) rfl ?_
        rw [show ((t : Nat) : Int) + 1 = ((t + 1 : Nat) : Int) by omega]
        exact ih _ (by omega) (t + 1) _ (by omega) rfl (mmm_of hM1 (fun j hj => by rw [aj_up_ne _ _ _ (by omega)]) (aj_up_ne _ _ _ (by omega)) (aj_up_ne _ _ _ (by omega))) (by rw [aj_up_ne _ _ _ (by omega)]; exact hc1) (fun r h1 h2 h3 h4 => by rw [aj_up_ne _ _ _ h2]; exact hF r h1 h2 h3 h4) (fun j hj => by rw [aj_up_ne _ _ _ (by omega)]; exact hF8 j hj) (fun x hx => by rw [aj_up_ne _ _ _ (by omega)]; exact h83 x hx) (by rw [aj_up_ne _ _ _ (by omega)]; exact h83c) (fun x hx => by rw [aj_up_ne _ _ _ (by omega)]; exact h84 x hx) (by rw [aj_up_ne _ _ _ (by omega)]; exact h84c) (fun x hx => by
          by_cases e : x = t
          · subst e
            rw [aj_up_self]
            exact ⟨fun _ z => absurd (hta.mpr z) (by omega), fun _ _ => v3 (by omega), fun z => absurd z (by omega)⟩
          · rw [aj_up_ni _ _ _ (by omega)]
            obtain ⟨y1, y2, y3⟩ := h82 x hx
            exact ⟨fun z => y1 (by omega), fun z => y2 (by omega), fun z => y3 (by omega)⟩)
      · refine aj_aload_n 0 54 (dx d_Model_take 30 rfl) rfl rfl rfl ?_
        refine aj_getfv (v := (c : Int)) 57 fl_Model_126 (dx d_Model_take 31 rfl) rfl hM1.1.1 hc1 ?_
        refine aj_goto 67 (dx d_Model_take 32 rfl) rfl ?_
        refine aj_iast 68 (dx d_Model_take 37 rfl) rfl (ms_minimalOf hM1.1) rfl (by omega) (by omega) ?_
        refine aj_iinc 4 71 (dx d_Model_take 38 rfl) rfl rfl rfl ?_
        simp only [List.set]
        refine aj_goto 23 (dx d_Model_take 39 rfl) rfl ?_
        rw [show ((t : Nat) : Int) + 1 = ((t + 1 : Nat) : Int) by omega]
        exact ih _ (by omega) (t + 1) _ (by omega) rfl (mmm_of hM1 (fun j hj => by rw [aj_up_ne _ _ _ (by omega)]) (aj_up_ne _ _ _ (by omega)) (aj_up_ne _ _ _ (by omega))) (by rw [aj_up_ne _ _ _ (by omega)]; exact hc1) (fun r h1 h2 h3 h4 => by rw [aj_up_ne _ _ _ h2]; exact hF r h1 h2 h3 h4) (fun j hj => by rw [aj_up_ne _ _ _ (by omega)]; exact hF8 j hj) (fun x hx => by rw [aj_up_ne _ _ _ (by omega)]; exact h83 x hx) (by rw [aj_up_ne _ _ _ (by omega)]; exact h83c) (fun x hx => by rw [aj_up_ne _ _ _ (by omega)]; exact h84 x hx) (by rw [aj_up_ne _ _ _ (by omega)]; exact h84c) (fun x hx => by
          by_cases e : x = t
          · subst e
            rw [aj_up_self]
            exact ⟨fun _ _ => rfl, fun _ z => absurd (hta.mp (by omega)) z, fun z => absurd z (by omega)⟩
          · rw [aj_up_ni _ _ _ (by omega)]
            obtain ⟨y1, y2, y3⟩ := h82 x hx
            exact ⟨fun z => y1 (by omega), fun z => y2 (by omega), fun z => y3 (by omega)⟩)
set_option maxHeartbeats 4000000 in
theorem k_Model_take {al : Prop} {X : Option (Nat × (Int → Int))} {d : Nat} {sh : List aj_S} {g : aj_G} {Q : aj_R → List aj_S → aj_G → Prop} {k n : Nat} {nx ou : Nat → Nat → Nat} {c s : Nat} {w : Int} (hM : mmm sh g k n nx ou) (hT : tdm g k n nx ou) (hc : g 78 8 = (c : Nat)) (hc8 : c < 8) (hs : s < n) (hk : ∀ g1, tk_P k n nx ou g g1 c s w → Q (.inl none) sh g1) :
    aj_wp nE al al X m_Model_take d 0 0 0 [some (1, 78), some (0, (s : Int)), some (2, w), none, none] [] sh g Q := by
  refine aj_aload_n 0 1 (dx d_Model_take 0 rfl) rfl rfl rfl ?_
  refine aj_getfv (v := 83) 4 fl_Model_22 (dx d_Model_take 1 rfl) rfl hM.1.1 (by first | exact mf_stateOf hM.1 | (simp [aj_up_at]; exact mf_stateOf hM.1) | exact mf_stateOf (by assumption)) ?_
  refine aj_aload_n 0 5 (dx d_Model_take 2 rfl) rfl rfl rfl ?_
  refine aj_getfv (v := (c : Int)) 8 fl_Model_126 (dx d_Model_take 3 rfl) rfl hM.1.1 (by first | exact hc | (simp [aj_up_at]; exact hc)) ?_
  refine aj_iload_n 1 9 (dx d_Model_take 4 rfl) rfl rfl rfl ?_
  refine aj_iast 10 (dx d_Model_take 5 rfl) rfl (ms_stateOf hM.1) rfl (by omega) (by omega) ?_
  refine aj_aload_n 0 11 (dx d_Model_take 6 rfl) rfl rfl rfl ?_
  refine aj_getfv (v := 84) 14 fl_Model_25 (dx d_Model_take 7 rfl) rfl hM.1.1 (by first | exact mf_access hM.1 | (simp [aj_up_at]; exact mf_access hM.1) | exact mf_access (by assumption)) ?_
  refine aj_aload_n 0 15 (dx d_Model_take 8 rfl) rfl rfl rfl ?_
  refine aj_getfv (v := (c : Int)) 18 fl_Model_126 (dx d_Model_take 9 rfl) rfl hM.1.1 (by first | exact hc | (simp [aj_up_at]; exact hc)) ?_
  refine aj_lload_n 2 19 (dx d_Model_take 10 rfl) rfl rfl rfl ?_
  refine aj_last 20 (dx d_Model_take 11 rfl) rfl (ms_access hM.1) rfl (by omega) (by omega) ?_
  refine aj_iconst 21 (dx d_Model_take 12 rfl) rfl ?_
  refine aj_istore 4 23 (dx d_Model_take 13 rfl) rfl rfl ?_
  simp only [List.set]
  exact k_take_loop hT hc8 hs hk _ 0 _ (by omega) rfl (mmm_of hM (fun j hj => by simp [aj_up_at]) (by funext j; simp [aj_up_at]) (by funext j; simp [aj_up_at])) (by simp [aj_up_at]; exact hc) (fun r h1 h2 h3 h4 => by rw [aj_up_ne _ _ _ h4, aj_up_ne _ _ _ h3]) (fun j hj => by simp [aj_up_at]) (fun x hx => by simp [aj_up_at, hx]) (by simp [aj_up_at]) (fun x hx => by simp [aj_up_at, hx]) (by simp [aj_up_at]) (fun x hx => ⟨fun z => absurd z (Nat.not_lt_zero _), fun z => absurd z (Nat.not_lt_zero _), fun _ => by simp [aj_up_at]⟩)
def nu_F (g g1 : aj_G) : Prop := (∀ r, r ≠ 78 → r ≠ 82 → r ≠ 83 → r ≠ 84 → g1 r = g r) ∧ ∀ j, j ≠ 8 → g1 78 j = g 78 j
theorem nu_tk {k n c s : Nat} {nx ou : Nat → Nat → Nat} {g g1 g2 : aj_G} {w : Int} (h : nu_F g g1) (h2 : tk_P k n nx ou g1 g2 c s w) : nu_F g g2 := ⟨fun r a b c d => (h2.1 r a b c d).trans (h.1 r a b c d), fun j hj => (h2.2.1 j hj).trans (h.2 j hj)⟩
theorem nu_M {sh : List aj_S} {k n : Nat} {nx ou : Nat → Nat → Nat} {g g1 : aj_G} (hM : mmm sh g k n nx ou) (h : nu_F g g1) : mmm sh g1 k n nx ou := mmm_of hM (fun j hj => h.2 j (by unfold mo_fin at hj; omega)) (h.1 79 (by omega) (by omega) (by omega) (by omega)) (h.1 80 (by omega) (by omega) (by omega) (by omega))
theorem nu_T {k n : Nat} {nx ou : Nat → Nat → Nat} {g g1 : aj_G} (hT : tdm g k n nx ou) (h : nu_F g g1) : tdm g1 k n nx ou := by
  unfold tdm
  rw [h.1 81 (by omega) (by omega) (by omega) (by omega)]
  exact hT
set_option maxHeartbeats 4000000 in
theorem k_nu_in {al : Prop} {X : Option (Nat × (Int → Int))} {d : Nat} {sh : List aj_S} {g : aj_G} {Q : aj_R → List aj_S → aj_G → Prop} {k n : Nat} {nx ou : Nat → Nat → Nat} {s0 : Nat} {tw : Nat → Nat} (hM : mmm sh g k n nx ou) (hT : tdm g k n nx ou) (htw : tw_ok k n nx ou tw) (hcl : ∀ s i, s < n → i < k → nx s i < n) {m : Nat}
    (hgo : ∀ g1 q sf, nu_F g g1 → nbm g1 k n s0 nx ou tw ((m + 1) * k) q sf → m < q.1 → aj_wp nE al al X m_Model_number (d + 1) 0 0 102 [some (1, 78), some (0, (m : Int)), none, none] [] sh g1 Q) :
    ∀ (x i : Nat) (g1 : aj_G) (q : nb_T) (sf : Nat → Nat), i ≤ k → k - i = x → nu_F g g1 → mmm sh g1 k n nx ou → nbm g1 k n s0 nx ou tw (m * k + i) q sf → m < q.1 →
    aj_wp nE al al X m_Model_number (d + 1) 0 0 47 [some (1, 78), some (0, (m : Int)), some (0, (i : Int)), none] [] sh g1 Q := by
  have hk4 := hM.2.2.2.1
  have hn8 := hM.2.2.2.2.1
  intro x
  induction x using Nat.strongRecOn with
  | ind x ih =>
    intro i g1 q sf hi hxx hF hM1 hB hm
    have hqn := nb_le hB.2.1
    refine aj_iload_n 2 48 (dx d_Model_number 28 rfl) rfl rfl rfl ?_
    refine aj_aload_n 0 49 (dx d_Model_number 29 rfl) rfl rfl rfl ?_
    refine aj_getfv (v := (k : Int)) 52 fl_Model_89 (dx d_Model_number 30 rfl) rfl hM1.1.1 hM1.2.2.1 ?_
    refine aj_icmp_ge 102 55 (dx d_Model_number 31 rfl) rfl rfl (by unfold aj_I; omega) (by unfold aj_I; omega) (fun h52 => ?_) (fun h52 => ?_)
    · refine aj_forget 2 ?_
      simp only [List.set]
      have e : i = k := by omega
      subst e
      exact hgo g1 q sf hF (by rw [show (m + 1) * i = m * i + i by rw [Nat.succ_mul]]; exact hB) hm
    · have hik : i < k := by omega
      obtain ⟨s1, s2, s3, s4⟩ := hB.2.2.2.1 m hm
      obtain ⟨e1, e2, e3, e4⟩ := hM1.2.2.2.2.2 (sf m) i s2 hik
      have h5' : ∀ a, 0 < a → a < q.1 → q.2.2.1 a < a := fun a h0 ha => (hB.2.1.2.2.2.2.1 a h0 ha).1
      have hok := ac_ok h5' (fun a h0 ha => (hB.2.1.2.2.2.2.1 a h0 ha).2.1) m hm
      have hlen := ac_len h5' m hm
      have hq8 := nb_le hB.2.1
      have hpb : wd_cd (ac q m) < 2 ^ 60 := wd_lt63 (wd_ok_le (by omega) hok) (by omega)
      have hmo : (∃ a : Nat, a < q.1 ∧ q.2.1 a = tw (nx (sf m) i) ∧ g1 82 ((nx (sf m) i : Nat) : Int) = a) ∨ ((∀ a, a < q.1 → q.2.1 a ≠ tw (nx (sf m) i)) ∧ g1 82 ((nx (sf m) i : Nat) : Int) = -1) := by
        by_cases z : ∃ a, a < q.1 ∧ q.2.1 a = tw (nx (sf m) i)
        · obtain ⟨a, z1, z2⟩ := z
          exact Or.inl ⟨a, z1, z2, (hB.2.2.2.2 _ e3).1 a z1 z2⟩
        · have z' : ∀ a, a < q.1 → q.2.1 a ≠ tw (nx (sf m) i) := fun a h1 h2 => z ⟨a, h1, h2⟩
          exact Or.inr ⟨z', (hB.2.2.2.2 _ e3).2 z'⟩
      refine aj_aload_n 0 56 (dx d_Model_number 32 rfl) rfl rfl rfl ?_
      refine aj_getfv (v := 79) 59 fl_Model_7 (dx d_Model_number 33 rfl) rfl hM1.1.1 (by first | exact mf_next hM1.1 | (simp [aj_up_at]; exact mf_next hM1.1) | exact mf_next (by assumption)) ?_
      refine aj_iconst 60 (dx d_Model_number 34 rfl) rfl ?_
      refine aj_aload_n 0 61 (dx d_Model_number 35 rfl) rfl rfl rfl ?_
      refine aj_getfv (v := 83) 64 fl_Model_22 (dx d_Model_number 36 rfl) rfl hM1.1.1 (by first | exact mf_stateOf hM1.1 | (simp [aj_up_at]; exact mf_stateOf hM1.1) | exact mf_stateOf (by assumption)) ?_
      refine aj_iload_n 1 65 (dx d_Model_number 37 rfl) rfl rfl rfl ?_
      refine aj_iald 66 (dx d_Model_number 38 rfl) rfl (ms_stateOf hM1.1) rfl (by omega) (by omega) ?_
      rw [s1]
      refine aj_imul 67 (dx d_Model_number 39 rfl) rfl ?_
      refine aj_iload_n 2 68 (dx d_Model_number 40 rfl) rfl rfl rfl ?_
      refine aj_iadd 69 (dx d_Model_number 41 rfl) rfl ?_
      refine aj_iald 70 (dx d_Model_number 42 rfl) rfl (ms_next hM1.1) rfl (by omega) (by omega) ?_
      rw [e1]
      refine aj_istore_n 3 71 (dx d_Model_number 43 rfl) rfl rfl rfl ?_
      simp only [List.set]
      refine aj_aload_n 0 72 (dx d_Model_number 44 rfl) rfl rfl rfl ?_
      refine aj_getfv (v := 82) 75 fl_Model_19 (dx d_Model_number 45 rfl) rfl hM1.1.1 (by first | exact mf_minimalOf hM1.1 | (simp [aj_up_at]; exact mf_minimalOf hM1.1) | exact mf_minimalOf (by assumption)) ?_
      refine aj_iload_n 3 76 (dx d_Model_number 46 rfl) rfl rfl rfl ?_
      refine aj_iald 77 (dx d_Model_number 47 rfl) rfl (ms_minimalOf hM1.1) rfl (by omega) (by omega) ?_
      refine aj_if_ge 96 80 (dx d_Model_number 48 rfl) rfl rfl (by rcases hmo with ⟨a, z1, -, z3⟩ | ⟨-, z3⟩ <;> rw [z3] <;> unfold aj_I <;> omega) (fun h77 => ?_) (fun h77 => ?_)
      · refine aj_iinc 2 99 (dx d_Model_number 61 rfl) rfl rfl rfl ?_
        simp only [List.set]
        refine aj_goto 47 (dx d_Model_number 62 rfl) rfl ?_
        obtain ⟨a, z1, z2, -⟩ : ∃ a : Nat, a < q.1 ∧ q.2.1 a = tw (nx (sf m) i) ∧ g1 82 ((nx (sf m) i : Nat) : Int) = a := by
          rcases hmo with z | ⟨-, z⟩
          · exact z
          · omega
        refine aj_forget 3 ?_
        simp only [List.set]
        rw [show ((i : Nat) : Int) + 1 = ((i + 1 : Nat) : Int) by omega]
        exact ih _ (by omega) (i + 1) g1 q sf (by omega) rfl hF hM1 (nbm_keep htw hcl hB hm hik z1 z2) hm
      · have hno2 : ∀ a, a < q.1 → q.2.1 a ≠ tw (nx (sf m) i) := by
          rcases hmo with ⟨a, -, -, z⟩ | ⟨z, -⟩
          · omega
          · exact z
        have hq9 : q.1 < 8 := by
          obtain ⟨e1, e2⟩ := nbm_jk (m := m) hik
          have hs := nb_step (by omega) htw hcl hB.2.1 (by rw [e1]; exact hm)
          have hq : (nb_st k nx tw (m * k + i) q).1 = q.1 + 1 := by
            unfold nb_st
            rw [e1, e2, nbm_tw htw hcl hB hm hik, if_neg]
            intro z
            obtain ⟨a, ha, he⟩ := nb_in_iff.mp z
            exact hno2 a ha he
          have := nb_le hs
          omega
        refine aj_aload_n 0 81 (dx d_Model_number 49 rfl) rfl rfl rfl ?_
        refine aj_iload_n 3 82 (dx d_Model_number 50 rfl) rfl rfl rfl ?_
        refine aj_aload_n 0 83 (dx d_Model_number 51 rfl) rfl rfl rfl ?_
        refine aj_getfv (v := 84) 86 fl_Model_25 (dx d_Model_number 52 rfl) rfl hM1.1.1 (by first | exact mf_access hM1.1 | (simp [aj_up_at]; exact mf_access hM1.1) | exact mf_access (by assumption)) ?_
        refine aj_iload_n 1 87 (dx d_Model_number 53 rfl) rfl rfl rfl ?_
        refine aj_lald 88 (dx d_Model_number 54 rfl) rfl (ms_access hM1.1) rfl (by omega) (by omega) ?_
        rw [s4]
        refine aj_iconst 89 (dx d_Model_number 55 rfl) rfl ?_
        refine aj_lshl 90 (dx d_Model_number 56 rfl) rfl (lg_shl hpb) ?_
        refine aj_iload_n 2 91 (dx d_Model_number 57 rfl) rfl rfl rfl ?_
        refine aj_i2l 92 (dx d_Model_number 58 rfl) rfl (by unfold aj_I; omega) ?_
        refine aj_lor 93 (dx d_Model_number 59 rfl) rfl (lg_or hpb (by omega)) ?_
        rw [show 4 * wd_cd (ac q m) + i = wd_cd (i :: ac q m) from rfl]
        refine aj_callV2 96 cl_Model_129 (dx d_Model_number 60 rfl) rfl rfl rfl rfl rfl rfl hM1.1.1 (k_Model_take hM1 (nu_T hT hF) hB.2.2.1 hq9 e3 (fun g2 hP => ?_))
        change aj_wp _ _ _ _ _ _ _ _ _ _ _ _ _ _
        refine aj_iinc 2 99 (dx d_Model_number 61 rfl) rfl rfl rfl ?_
        simp only [List.set]
        refine aj_goto 47 (dx d_Model_number 62 rfl) rfl ?_
        refine aj_forget 3 ?_
        simp only [List.set]
        rw [show ((i : Nat) : Int) + 1 = ((i + 1 : Nat) : Int) by omega]
        obtain ⟨q2, hq2, hB2⟩ := nbm_add htw hcl hB hm hik hno2 hP
        exact ih _ (by omega) (i + 1) g2 q2 _ (by omega) rfl (nu_tk hF hP) (nu_M hM1 ⟨fun r a b c d => hP.1 r a b c d, hP.2.1⟩) hB2 (by omega)
set_option maxHeartbeats 4000000 in
theorem k_nu_out {al : Prop} {X : Option (Nat × (Int → Int))} {d : Nat} {sh : List aj_S} {g : aj_G} {Q : aj_R → List aj_S → aj_G → Prop} {k n : Nat} {nx ou : Nat → Nat → Nat} {s0 : Nat} {tw : Nat → Nat} (hM : mmm sh g k n nx ou) (hT : tdm g k n nx ou) (htw : tw_ok k n nx ou tw) (hcl : ∀ s i, s < n → i < k → nx s i < n) (hk : ∀ g1 q sf N, nu_F g g1 → nbm g1 k n s0 nx ou tw (N * k) q sf → q.1 = N → Q (.inl none) sh g1) : ∀ (x m : Nat) (g1 : aj_G) (q : nb_T) (sf : Nat → Nat), 8 - m = x → nu_F g g1 → mmm sh g1 k n nx ou → nbm g1 k n s0 nx ou tw (m * k) q sf → m ≤ q.1 →
    aj_wp nE al al X m_Model_number (d + 1) 0 0 37 [some (1, 78), some (0, (m : Int)), none, none] [] sh g1 Q := by
  have hk4 := hM.2.2.2.1
  have hn8 := hM.2.2.2.2.1
  intro x
  induction x using Nat.strongRecOn with
  | ind x ih =>
    intro m g1 q sf hxx hF hM1 hB hm
    have hqn := nb_le hB.2.1
    refine aj_iload_n 1 38 (dx d_Model_number 22 rfl) rfl rfl rfl ?_
    refine aj_aload_n 0 39 (dx d_Model_number 23 rfl) rfl rfl rfl ?_
    refine aj_getfv (v := (q.1 : Int)) 42 fl_Model_126 (dx d_Model_number 24 rfl) rfl hM1.1.1 hB.2.2.1 ?_
    refine aj_icmp_ge 108 45 (dx d_Model_number 25 rfl) rfl rfl (by have := nb_le hB.2.1; unfold aj_I; omega) (by have := nb_le hB.2.1; unfold aj_I; omega) (fun h42 => ?_) (fun h42 => ?_)
    · refine aj_vret (dx d_Model_number 65 rfl) rfl id ?_
      exact hk g1 q sf m hF hB (by omega)
    · refine aj_iconst 46 (dx d_Model_number 26 rfl) rfl ?_
      refine aj_istore_n 2 47 (dx d_Model_number 27 rfl) rfl rfl rfl ?_
      simp only [List.set]
      refine k_nu_in hM1 (nu_T hT hF) htw hcl (fun g2 q2 sf2 hF2 hB2 hm2 => ?_) _ 0 g1 q sf (by omega) rfl ⟨fun _ _ _ _ _ => rfl, fun _ _ => rfl⟩ hM1 (by rw [Nat.add_zero]; exact hB) (by omega)
      have hF3 : nu_F g g2 := ⟨fun r a b c d => (hF2.1 r a b c d).trans (hF.1 r a b c d), fun j hj => (hF2.2 j hj).trans (hF.2 j hj)⟩
      refine aj_iinc 1 105 (dx d_Model_number 63 rfl) rfl rfl rfl ?_
      simp only [List.set]
      refine aj_goto 37 (dx d_Model_number 64 rfl) rfl ?_
      rw [show ((m : Nat) : Int) + 1 = ((m + 1 : Nat) : Int) by omega]
      exact ih (8 - (m + 1)) (by have := nb_le hB2.2.1; omega) (m + 1) g2 q2 sf2 rfl hF3 (nu_M hM hF3) hB2 (by omega)
set_option maxHeartbeats 4000000 in
theorem k_nu_z {al : Prop} {X : Option (Nat × (Int → Int))} {d : Nat} {sh : List aj_S} {g : aj_G} {Q : aj_R → List aj_S → aj_G → Prop} {k n : Nat} {nx ou : Nat → Nat → Nat} {s0 : Nat} {tw : Nat → Nat} (hM : mmm sh g k n nx ou) (hT : tdm g k n nx ou) (htw : tw_ok k n nx ou tw) (hcl : ∀ s i, s < n → i < k → nx s i < n) (hs0 : s0 < n) (hst : g 78 5 = (s0 : Nat)) (hk : ∀ g1 q sf N, nu_F g g1 → nbm g1 k n s0 nx ou tw (N * k) q sf → q.1 = N → Q (.inl none) sh g1) : ∀ (m x : Nat) (g1 : aj_G), x ≤ 8 → 8 - x = m → nu_F g g1 → mmm sh g1 k n nx ou → (∀ y : Nat, y < x → g1 82 (y : Nat) = -1) →
    aj_wp nE al al X m_Model_number (d + 1) 0 0 2 [some (1, 78), some (0, (x : Int)), none, none] [] sh g1 Q := by
  have hn8 := hM.2.2.2.2.1
  intro m
  induction m using Nat.strongRecOn with
  | ind m ih =>
    intro x g1 hx hmm hF hM1 hZ
    have hst1 : g1 78 5 = (s0 : Nat) := (hF.2 5 (by omega)).trans hst
    refine aj_iload_n 1 3 (dx d_Model_number 2 rfl) rfl rfl rfl ?_
    refine aj_bipush 5 (dx d_Model_number 3 rfl) rfl (by decide +kernel) ?_
    refine aj_icmp_ge 21 8 (dx d_Model_number 4 rfl) rfl rfl (by unfold aj_I; omega) (by unfold aj_I; omega) (fun h5 => ?_) (fun h5 => ?_)
    · have hF2 : nu_F g (aj_up g1 78 8 0) := ⟨fun r a b c d => by rw [aj_up_ne _ _ _ a]; exact hF.1 r a b c d, fun j hj => by rw [aj_up_ni _ _ _ hj]; exact hF.2 j hj⟩
      have hM2 : mmm sh (aj_up g1 78 8 0) k n nx ou := nu_M hM hF2
      refine aj_aload_n 0 22 (dx d_Model_number 12 rfl) rfl rfl rfl ?_
      refine aj_iconst 23 (dx d_Model_number 13 rfl) rfl ?_
      refine aj_putf 26 (pl_Model_126 _) (dx d_Model_number 14 rfl) rfl hM1.1.1 (aj_fitI _) ?_
      refine aj_aload_n 0 27 (dx d_Model_number 15 rfl) rfl rfl rfl ?_
      refine aj_aload_n 0 28 (dx d_Model_number 16 rfl) rfl rfl rfl ?_
      refine aj_getfv (v := (s0 : Int)) 31 fl_Model_109 (dx d_Model_number 17 rfl) rfl hM1.1.1 (by first | exact hst1 | (simp [aj_up_at]; exact hst1)) ?_
      refine aj_lconst (x := 1) 32 (dx d_Model_number 18 rfl) rfl rfl ?_
      refine aj_callV2 35 cl_Model_129 (dx d_Model_number 19 rfl) rfl rfl rfl rfl rfl rfl hM1.1.1 (k_Model_take (c := 0) hM2 (nu_T hT hF2) (by rw [aj_up_self]; rfl) (by omega) hs0 (fun g2 hP => ?_))
      change aj_wp _ _ _ _ _ _ _ _ _ _ _ _ _ _
      refine aj_iconst 36 (dx d_Model_number 20 rfl) rfl ?_
      refine aj_istore_n 1 37 (dx d_Model_number 21 rfl) rfl rfl rfl ?_
      simp only [List.set]
      have hF3 := nu_tk hF2 hP
      refine k_nu_out hM hT htw hcl hk _ 0 g2 (nb k nx tw s0 0) (fun _ => s0) rfl hF3 (nu_M hM hF3) ⟨by rw [Nat.zero_mul], by rw [Nat.zero_mul]; exact nb_0 hs0 htw, hP.2.2.1, fun a ha => ?_, fun y hy => ?_⟩ (by omega)
      · have ha' : a < 1 := ha
        rw [show a = 0 by omega]
        exact ⟨hP.2.2.2.2.1, hs0, rfl, hP.2.2.2.2.2.2.1⟩
      · obtain ⟨p1, p2⟩ := hP.2.2.2.2.2.2.2 y hy
        have hal : al_k k nx ou s0 y ↔ tw s0 = tw y := (tw_eq htw hs0 hy).symm
        refine ⟨fun a ha hq => ?_, fun hn => ?_⟩
        · have ha' : a < 1 := ha
          rw [show a = 0 by omega]
          exact p1 (hal.mpr hq)
        · rw [p2 (fun z => hn 0 (show 0 < 1 by omega) (hal.mp z)), aj_up_ne _ _ _ (by omega)]
          exact hZ y (by omega)
    · refine aj_aload_n 0 9 (dx d_Model_number 5 rfl) rfl rfl rfl ?_
      refine aj_getfv (v := 82) 12 fl_Model_19 (dx d_Model_number 6 rfl) rfl hM1.1.1 (by first | exact mf_minimalOf hM1.1 | (simp [aj_up_at]; exact mf_minimalOf hM1.1) | exact mf_minimalOf (by assumption)) ?_
      refine aj_iload_n 1 13 (dx d_Model_number 7 rfl) rfl rfl rfl ?_
      refine aj_iconst 14 (dx d_Model_number 8 rfl) rfl ?_
      refine aj_iast 15 (dx d_Model_number 9 rfl) rfl (ms_minimalOf hM1.1) rfl (by omega) (by omega) ?_
      refine aj_iinc 1 18 (dx d_Model_number 10 rfl) rfl rfl rfl ?_
      simp only [List.set]
      refine aj_goto 2 (dx d_Model_number 11 rfl) rfl ?_
      rw [show ((x : Nat) : Int) + 1 = ((x + 1 : Nat) : Int) by omega]
      exact ih _ (by omega) (x + 1) _ (by omega) rfl ⟨fun r a b c d => by rw [aj_up_ne _ _ _ b]; exact hF.1 r a b c d, fun j hj => by rw [aj_up_ne _ _ _ (by omega)]; exact hF.2 j hj⟩ (mmm_of hM1 (fun j hj => by rw [aj_up_ne _ _ _ (by omega)]) (aj_up_ne _ _ _ (by omega)) (aj_up_ne _ _ _ (by omega))) (fun y hy => by
        by_cases e : y = x
        · subst e; rw [aj_up_self]
        · rw [aj_up_ni _ _ _ (by omega)]; exact hZ y (by omega))
set_option maxHeartbeats 4000000 in
theorem k_Model_number {al : Prop} {X : Option (Nat × (Int → Int))} {d : Nat} {sh : List aj_S} {g : aj_G} {Q : aj_R → List aj_S → aj_G → Prop} {k n : Nat} {nx ou : Nat → Nat → Nat} {s0 : Nat} {tw : Nat → Nat} (hM : mmm sh g k n nx ou) (hT : tdm g k n nx ou) (htw : tw_ok k n nx ou tw) (hcl : ∀ s i, s < n → i < k → nx s i < n) (hs0 : s0 < n) (hst : g 78 5 = (s0 : Nat)) (hk : ∀ g1 q sf N, nu_F g g1 → nbm g1 k n s0 nx ou tw (N * k) q sf → q.1 = N → Q (.inl none) sh g1) : aj_wp nE al al X m_Model_number (d + 1) 0 0 0 [some (1, 78), none, none, none] [] sh g Q := by
  refine aj_iconst 1 (dx d_Model_number 0 rfl) rfl ?_
  refine aj_istore_n 1 2 (dx d_Model_number 1 rfl) rfl rfl rfl ?_
  simp only [List.set]
  exact k_nu_z hM hT htw hcl hs0 hst hk _ 0 g (by omega) rfl ⟨fun _ _ _ _ _ => rfl, fun _ _ => rfl⟩ hM (fun y hy => absurd hy (Nat.not_lt_zero _))
