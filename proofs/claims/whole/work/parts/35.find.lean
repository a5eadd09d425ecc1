/-! PairSearch.find -/
theorem rc_3 (g : aj_G) (r s t b i j : Int) : rc_g g r s t b i (r + 3) j = if j = g r 7 then s else g (r + 3) j := by
  unfold rc_g
  simp only [aj_up_app, ne_1, ne_2, ne_3, Int.reduceEq, ↓reduceIte]
theorem rc_4 (g : aj_G) (r s t b i j : Int) : rc_g g r s t b i (r + 4) j = if j = g r 7 then t else g (r + 4) j := by
  unfold rc_g
  simp only [aj_up_app, ne_1, ne_2, ne_3, Int.reduceEq, ↓reduceIte]
theorem rc_5 (g : aj_G) (r s t b i j : Int) : rc_g g r s t b i (r + 5) j = if j = g r 7 then b else g (r + 5) j := by
  unfold rc_g
  simp only [aj_up_app, ne_1, ne_2, ne_3, Int.reduceEq, ↓reduceIte]
theorem rc_6 (g : aj_G) (r s t b i j : Int) : rc_g g r s t b i (r + 6) j = if j = g r 7 then i else g (r + 6) j := by
  unfold rc_g
  simp only [aj_up_app, ne_1, ne_2, ne_3, Int.reduceEq, ↓reduceIte]
theorem rc_7 (g : aj_G) (r s t b i j : Int) : rc_g g r s t b i (r + 7) j = if j = g r 7 then (if b = -1 then 0 else g (r + 7) b + 1) else g (r + 7) j := by
  unfold rc_g
  simp only [aj_up_app, ne_1, ne_2, ne_3, Int.reduceEq, ↓reduceIte]
theorem rc_8 (g : aj_G) (r s t b i j : Int) : rc_g g r s t b i (r + 8) j = if j = s * 10 + t then 1 else g (r + 8) j := by
  unfold rc_g
  simp only [aj_up_app, ne_1, ne_2, ne_3, Int.reduceEq, ↓reduceIte]
theorem rc_0 (g : aj_G) (r s t b i j : Int) : rc_g g r s t b i r j = if j = 7 then g r 7 + 1 else g r j := by
  unfold rc_g
  simp only [aj_up_app, ne_1, ne_2, ne_3, Int.reduceEq, ↓reduceIte]
theorem rc_x (g : aj_G) (r s t b i : Int) {r' : Int} (h : r' ≠ r) (h3 : r' < r + 3 ∨ r + 8 < r') : rc_g g r s t b i r' = g r' := by
  unfold rc_g
  rw [aj_up_ne _ _ _ h, aj_up_ne _ _ _ (by omega), aj_up_ne _ _ _ (by omega), aj_up_ne _ _ _ (by omega), aj_up_ne _ _ _ (by omega), aj_up_ne _ _ _ (by omega), aj_up_ne _ _ _ (by omega)]
theorem mcm_of {sh : List aj_S} {g g1 : aj_G} {r : Int} {L k n : Nat} {nx ou : Nat → Nat → Nat} (h : mcm sh g r L k n nx ou) (e0 : g1 r = g r) (e1 : g1 (r + 1) = g (r + 1)) (e2 : g1 (r + 2) = g (r + 2)) : mcm sh g1 r L k n nx ou := by
  unfold mcm mcs at h ⊢
  rw [e0, e1, e2]
  exact h
def fd_F (g g1 : aj_G) (r : Int) : Prop := (∀ r', r' < r ∨ r + 8 < r' → g1 r' = g r') ∧ (∀ j, j ≠ 7 → g1 r j = g r j) ∧ ∀ j, j ≠ 1 → g1 (r + 1) j = g (r + 1) j
def bs_I (g g1 : aj_G) (r : Int) (k s t : Nat) (nx ou nx' ou' : Nat → Nat → Nat) (W : Nat → List Nat) (cnt at_ inp : Nat) : Prop :=
  fd_F g g1 r ∧ g1 r 7 = cnt ∧ g1 (r + 1) 1 = 0 ∧ (∀ p : Nat, p < cnt → g1 (r + 3) p = rn nx s (W p) ∧ g1 (r + 4) p = rn nx' t (W p)) ∧ bs_E g1 r cnt W ∧
  (∀ x y : Nat, x < 10 → y < 10 → (g1 (r + 8) ((x : Int) * 10 + y) = 0 ∧ ∀ p, p < cnt → ¬ (rn nx s (W p) = x ∧ rn nx' t (W p) = y)) ∨ (g1 (r + 8) ((x : Int) * 10 + y) = 1 ∧ ∃ p, p < cnt ∧ rn nx s (W p) = x ∧ rn nx' t (W p) = y)) ∧
  (∀ p q, p < cnt → q < cnt → rn nx s (W p) = rn nx s (W q) → rn nx' t (W p) = rn nx' t (W q) → p = q) ∧ bf_I k nx s nx' t W cnt at_ inp ∧
  ∀ p i, p < cnt → bf_done at_ inp p i k → ¬ df nx ou s nx' ou' t (i :: W p)
section BS
variable {g g1 : aj_G} {r : Int} {k s t n n' : Nat} {nx ou nx' ou' : Nat → Nat → Nat} {W : Nat → List Nat} {cnt at_ inp : Nat}
theorem bs_lt (hn : n ≤ 10) (hn' : n' ≤ 10) (hc : ∀ s i, s < n → i < k → nx s i < n) (hc' : ∀ s i, s < n' → i < k → nx' s i < n') (hs : s < n) (ht : t < n') (hI : bs_I g g1 r k s t nx ou nx' ou' W cnt at_ inp) {p : Nat} (hp : p < cnt) : rn nx s (W p) < n ∧ rn nx' t (W p) < n' :=
  ⟨rn_lt hc hs _ (hI.2.2.2.2.2.2.2.1.2.2.2.2.1 p hp), rn_lt hc' ht _ (hI.2.2.2.2.2.2.2.1.2.2.2.2.1 p hp)⟩
theorem bs_cnt (hn : n ≤ 10) (hn' : n' ≤ 10) (hc : ∀ s i, s < n → i < k → nx s i < n) (hc' : ∀ s i, s < n' → i < k → nx' s i < n') (hs : s < n) (ht : t < n') (hI : bs_I g g1 r k s t nx ou nx' ou' W cnt at_ inp) : cnt ≤ 100 :=
  pg_hole 100 cnt (fun p => rn nx s (W p) * 10 + rn nx' t (W p)) (fun p hp => by have := bs_lt hn hn' hc hc' hs ht hI hp; omega) (fun p q hp hq e => by
    have h1 := bs_lt hn hn' hc hc' hs ht hI hp
    have h2 := bs_lt hn hn' hc hc' hs ht hI hq
    exact hI.2.2.2.2.2.2.1 p q hp hq (by omega) (by omega))
theorem bs_room (hn : n ≤ 10) (hn' : n' ≤ 10) (hc : ∀ s i, s < n → i < k → nx s i < n) (hc' : ∀ s i, s < n' → i < k → nx' s i < n') (hs : s < n) (ht : t < n') (hI : bs_I g g1 r k s t nx ou nx' ou' W cnt at_ inp) {x y : Nat} (hx : x < 10) (hy : y < 10) (h : ∀ p, p < cnt → ¬ (rn nx s (W p) = x ∧ rn nx' t (W p) = y)) : cnt < 100 :=
  pg_hole 100 (cnt + 1) (fun p => if p < cnt then rn nx s (W p) * 10 + rn nx' t (W p) else x * 10 + y) (fun p hp => by
    by_cases c : p < cnt
    · rw [if_pos c]
      have := bs_lt hn hn' hc hc' hs ht hI c
      omega
    · rw [if_neg c]; omega) (fun p q hp hq e => by
    by_cases c : p < cnt
    · by_cases c2 : q < cnt
      · rw [if_pos c, if_pos c2] at e
        have h1 := bs_lt hn hn' hc hc' hs ht hI c
        have h2 := bs_lt hn hn' hc hc' hs ht hI c2
        exact hI.2.2.2.2.2.2.1 p q c c2 (by omega) (by omega)
      · rw [if_pos c, if_neg c2] at e
        have h1 := bs_lt hn hn' hc hc' hs ht hI c
        exact absurd ⟨by omega, by omega⟩ (h p c)
    · by_cases c2 : q < cnt
      · rw [if_neg c, if_pos c2] at e
        have h1 := bs_lt hn hn' hc hc' hs ht hI c2
        exact absurd ⟨by omega, by omega⟩ (h q c2)
      · omega)
theorem bs_seen (hk : k ≤ 4) (hI : bs_I g g1 r k s t nx ou nx' ou' W cnt at_ inp) (hat : at_ < cnt) (hin : inp < k) (hnd : ¬ df nx ou s nx' ou' t (inp :: W at_)) {p : Nat} (hp : p < cnt) (e1 : rn nx s (W p) = nx (rn nx s (W at_)) inp) (e2 : rn nx' t (W p) = nx' (rn nx' t (W at_)) inp) : bs_I g g1 r k s t nx ou nx' ou' W cnt at_ (inp + 1) := by
  obtain ⟨a1, a2, a3, a4, a5, a6, a7, a8, a9⟩ := hI
  refine ⟨a1, a2, a3, a4, a5, a6, a7, bf_seen a8 hk hat hin hp e1 e2, fun q i hq hd => ?_⟩
  rcases bf_done_step hd with hd | ⟨rfl, rfl⟩
  · exact a9 q i hq hd
  · exact hnd
theorem bs_new (hk : k ≤ 4) (hI : bs_I g g1 r k s t nx ou nx' ou' W cnt at_ inp) (hat : at_ < cnt) (hin : inp < k) (hnd : ¬ df nx ou s nx' ou' t (inp :: W at_)) (hx : nx (rn nx s (W at_)) inp < 10) (hy : nx' (rn nx' t (W at_)) inp < 10)
    (hu : ∀ p, p < cnt → ¬ (rn nx s (W p) = nx (rn nx s (W at_)) inp ∧ rn nx' t (W p) = nx' (rn nx' t (W at_)) inp)) :
    bs_I g (rc_g g1 r (nx (rn nx s (W at_)) inp : Nat) (nx' (rn nx' t (W at_)) inp : Nat) (at_ : Nat) (inp : Nat)) r k s t nx ou nx' ou' (fun p => if p = cnt then inp :: W at_ else W p) (cnt + 1) at_ (inp + 1) := by
  obtain ⟨a1, a2, a3, a4, a5, a6, a7, a8, a9⟩ := hI
  have hW : ∀ q, q < cnt → (fun p => if p = cnt then inp :: W at_ else W p) q = W q := fun q hq => if_neg (by omega)
  have hWc : (fun p => if p = cnt then inp :: W at_ else W p) cnt = inp :: W at_ := if_pos rfl
  generalize (fun p => if p = cnt then inp :: W at_ else W p) = W' at hW hWc
  have h0 : 0 < cnt := a8.1
  refine ⟨⟨fun r' h => by rw [rc_x _ _ _ _ _ _ (by omega) (by omega)]; exact a1.1 r' h, fun j hj => by rw [rc_0, if_neg hj]; exact a1.2.1 j hj, fun j hj => by rw [rc_x _ _ _ _ _ _ (by omega) (by omega)]; exact a1.2.2 j hj⟩, by rw [rc_0, if_pos rfl, a2]; omega, by rw [rc_x _ _ _ _ _ _ (by omega) (by omega)]; exact a3, fun p hp => ?_, ⟨by rw [hW 0 h0]; exact a5.1, fun p hp => ?_⟩, fun x y hx2 hy2 => ?_, fun p q hp hq e1 e2 => ?_, bf_new a8 hk hat hin hW hWc, fun p i hp hd => ?_⟩
  · rw [rc_3, rc_4, a2]
    by_cases c : p = cnt
    · subst c
      rw [if_pos rfl, if_pos rfl, hWc]
      exact ⟨rfl, rfl⟩
    · rw [if_neg (by omega), if_neg (by omega), hW p (by omega)]
      exact a4 p (by omega)
  · rw [rc_5, rc_6, rc_7, a2]
    by_cases c : p = cnt
    · subst c
      rw [if_pos rfl, if_pos rfl, if_pos rfl, hWc, if_neg (by omega)]
      have h7 := a5.2 at_ hat
      refine ⟨by rw [h7.1, List.length_cons]; omega, by rw [List.length_cons]; omega, fun _ => ⟨at_, inp, hat, rfl, rfl, by rw [hW at_ hat]⟩⟩
    · rw [if_neg (by omega), if_neg (by omega), if_neg (by omega), hW p (by omega)]
      obtain ⟨b1, b2, b3⟩ := a5.2 p (by omega)
      refine ⟨b1, b2, fun h => ?_⟩
      obtain ⟨q, a, c1, c2, c3, c4⟩ := b3 h
      exact ⟨q, a, c1, c2, c3, by rw [hW q (by omega)]; exact c4⟩
  · rw [rc_8]
    by_cases c : x = nx (rn nx s (W at_)) inp ∧ y = nx' (rn nx' t (W at_)) inp
    · refine Or.inr ⟨by rw [if_pos (by rw [c.1, c.2])], cnt, by omega, ?_, ?_⟩
      · rw [hWc, c.1]; rfl
      · rw [hWc, c.2]; rfl
    · rw [if_neg (by omega)]
      rcases a6 x y hx2 hy2 with ⟨b1, b2⟩ | ⟨b1, p, b2, b3⟩
      · refine Or.inl ⟨b1, fun p hp z => ?_⟩
        by_cases e : p = cnt
        · subst e
          rw [hWc] at z
          exact c ⟨z.1.symm, z.2.symm⟩
        · rw [hW p (by omega)] at z
          exact b2 p (by omega) z
      · exact Or.inr ⟨b1, p, by omega, by rw [hW p b2]; exact b3⟩
  · by_cases c : p = cnt
    · by_cases c2 : q = cnt
      · omega
      · rw [c, hWc, hW q (by omega)] at e1 e2
        exact absurd ⟨e1.symm, e2.symm⟩ (hu q (by omega))
    · by_cases c2 : q = cnt
      · rw [c2, hWc, hW p (by omega)] at e1 e2
        exact absurd ⟨e1, e2⟩ (hu p (by omega))
      · rw [hW p (by omega), hW q (by omega)] at e1 e2
        exact a7 p q (by omega) (by omega) e1 e2
  · have hpc : p < cnt := by
      obtain ⟨-, h | ⟨h, -⟩⟩ := hd <;> omega
    rw [hW p hpc]
    rcases bf_done_step hd with hd | ⟨rfl, rfl⟩
    · exact a9 p i hpc hd
    · exact hnd
end BS
set_option maxHeartbeats 4000000 in
theorem k_find_in {al : Prop} {X : Option (Nat × (Int → Int))} {d : Nat} {sh : List aj_S} {g : aj_G} {Q : aj_R → List aj_S → aj_G → Prop} {r ra rb : Int} {La Lb k n n' s t : Nat} {nx ou nx' ou' : Nat → Nat → Nat} (hp : pss sh g r) (hA : mcm sh g ra La k n nx ou) (hB : mcm sh g rb Lb k n' nx' ou') (hda : ra + 2 < r ∨ r + 8 < ra) (hdb : rb + 2 < r ∨ r + 8 < rb) (hs : s < n) (ht : t < n')
    (hk1 : ∀ g1 w, fd_F g g1 r → wd_least k nx ou s nx' ou' t w → w.length ≤ 100 → wat g1 (r + 1) w → Q (.inl (some (0, 1))) sh g1) (hk0 : ∀ g1, fd_F g g1 r → wd_none k nx ou s nx' ou' t → g1 (r + 1) 1 = 0 → Q (.inl (some (0, 0))) sh g1) {at_ : Nat}
    (K : ∀ W cnt g1, at_ < cnt → bs_I g g1 r k s t nx ou nx' ou' W cnt (at_ + 1) 0 → aj_wp nE al al X m_Search_find (d + 1) 0 0 16 [some (1, r), some (1, ra), some (0, (s : Int)), some (1, rb), some (0, (t : Int)), some (0, (at_ : Int) + 1), none] [] sh g1 Q) :
    ∀ (m : Nat) (W : Nat → List Nat) (cnt inp : Nat) (g1 : aj_G), inp ≤ k → at_ < cnt → k - inp = m → bs_I g g1 r k s t nx ou nx' ou' W cnt at_ inp →
    aj_wp nE al al X m_Search_find (d + 1) 0 0 35 [some (1, r), some (1, ra), some (0, (s : Int)), some (1, rb), some (0, (t : Int)), some (0, (at_ : Int)), some (0, (inp : Int))] [] sh g1 Q := by
  intro m
  induction m using Nat.strongRecOn with
  | ind m ih =>
    intro W cnt inp g1 hin0 hat hmm hI
    have hF := hI.1
    have hp1 := pss_of hp hF.2.1 (hF.2.2 0 (by omega))
    have hA1 := mcm_of hA (hF.1 _ (by omega)) (hF.1 _ (by omega)) (hF.1 _ (by omega))
    have hB1 := mcm_of hB (hF.1 _ (by omega)) (hF.1 _ (by omega)) (hF.1 _ (by omega))
    have hc : ∀ s i, s < n → i < k → nx s i < n := fun s i h1 h2 => (hA.2.2.2.2.2.2 s i h1 h2).2.2.1
    have hc' : ∀ s i, s < n' → i < k → nx' s i < n' := fun s i h1 h2 => (hB.2.2.2.2.2.2 s i h1 h2).2.2.1
    have hn := hA.2.2.2.2.2.1
    have hn' := hB.2.2.2.2.2.1
    have hk3 := hA.2.2.2.2.1
    have hcnt := bs_cnt hn hn' hc hc' hs ht hI
    refine aj_iload 6 37 (dx d_Search_find 19 rfl) rfl rfl ?_
    refine aj_aload_n 1 38 (dx d_Search_find 20 rfl) rfl rfl rfl ?_
    refine aj_getf 41 fl_Search_49 (dx d_Search_find 21 rfl) rfl hA1.1.1 ?_
    refine aj_icmp_ge 123 44 (dx d_Search_find 22 rfl) rfl rfl (by unfold aj_I; omega) (by rw [hA1.2.1]; unfold aj_I; omega) (fun h41 => ?_) (fun h41 => ?_)
    · rw [hA1.2.1] at h41
      have hik : inp = k := by omega
      subst hik
      refine aj_iinc 5 126 (dx d_Search_find 64 rfl) rfl rfl rfl ?_
      simp only [List.set]
      refine aj_goto 16 (dx d_Search_find 65 rfl) rfl ?_
      refine aj_forget 6 ?_
      simp only [List.set]
      have := K W cnt g1 hat ⟨hI.1, hI.2.1, hI.2.2.1, hI.2.2.2.1, hI.2.2.2.2.1, hI.2.2.2.2.2.1, hI.2.2.2.2.2.2.1, bf_row hI.2.2.2.2.2.2.2.1 hat, fun p i hpp hd => hI.2.2.2.2.2.2.2.2 p i hpp (by
        obtain ⟨x1, x2 | ⟨x2, x3⟩⟩ := hd
        · rcases Nat.lt_or_ge p at_ with z | z
          · exact ⟨x1, Or.inl z⟩
          · exact ⟨x1, Or.inr ⟨by omega, x1⟩⟩
        · omega)⟩
      exact this
    · rw [hA1.2.1] at h41
      have hin : inp < k := by omega
      have he := hI.2.2.2.1 at_ hat
      have hlt := bs_lt hn hn' hc hc' hs ht hI hat
      have ho1 := (hA.2.2.2.2.2.2 _ inp hlt.1 hin).2.2
      have ho2 := (hB.2.2.2.2.2.2 _ inp hlt.2 hin).2.2
      refine aj_aload_n 1 45 (dx d_Search_find 23 rfl) rfl rfl rfl ?_
      refine aj_aload_n 0 46 (dx d_Search_find 24 rfl) rfl rfl rfl ?_
      refine aj_getf 49 fl_Search_18 (dx d_Search_find 25 rfl) rfl hp1.1 ?_
      rw [hp1.2.1.2.1]
      refine aj_iload 5 51 (dx d_Search_find 26 rfl) rfl rfl ?_
      refine aj_iald 52 (dx d_Search_find 27 rfl) rfl hp1.2.2.2.1 rfl (by omega) (by omega) ?_
      rw [he.1]
      refine aj_iload 6 54 (dx d_Search_find 28 rfl) rfl rfl ?_
      refine aj_callV2 57 cl_Search_54 (dx d_Search_find 29 rfl) rfl rfl rfl rfl rfl rfl hA1.1.1 (s_output hA1 hlt.1 hin ?_)
      change aj_wp _ _ _ _ _ _ _ _ _ _ _ _ _ _
      refine aj_aload_n 3 58 (dx d_Search_find 30 rfl) rfl rfl rfl ?_
      refine aj_aload_n 0 59 (dx d_Search_find 31 rfl) rfl rfl rfl ?_
      refine aj_getf 62 fl_Search_22 (dx d_Search_find 32 rfl) rfl hp1.1 ?_
      rw [hp1.2.1.2.2.1]
      refine aj_iload 5 64 (dx d_Search_find 33 rfl) rfl rfl ?_
      refine aj_iald 65 (dx d_Search_find 34 rfl) rfl hp1.2.2.2.2.1 rfl (by omega) (by omega) ?_
      rw [he.2]
      refine aj_iload 6 67 (dx d_Search_find 35 rfl) rfl rfl ?_
      refine aj_callV2 70 cl_Search_54 (dx d_Search_find 36 rfl) rfl rfl rfl rfl rfl rfl hB1.1.1 (s_output hB1 hlt.2 hin ?_)
      change aj_wp _ _ _ _ _ _ _ _ _ _ _ _ _ _
      refine aj_icmp_eq 83 73 (dx d_Search_find 37 rfl) rfl rfl (by unfold aj_I; omega) (by unfold aj_I; omega) (fun h70 => ?_) (fun h70 => ?_)
      · have hnd : ¬ df nx ou s nx' ou' t (inp :: W at_) := fun z => z (by omega)
        refine aj_aload_n 0 84 (dx d_Search_find 44 rfl) rfl rfl rfl ?_
        refine aj_aload_n 1 85 (dx d_Search_find 45 rfl) rfl rfl rfl ?_
        refine aj_aload_n 0 86 (dx d_Search_find 46 rfl) rfl rfl rfl ?_
        refine aj_getf 89 fl_Search_18 (dx d_Search_find 47 rfl) rfl hp1.1 ?_
        rw [hp1.2.1.2.1]
        refine aj_iload 5 91 (dx d_Search_find 48 rfl) rfl rfl ?_
        refine aj_iald 92 (dx d_Search_find 49 rfl) rfl hp1.2.2.2.1 rfl (by omega) (by omega) ?_
        rw [he.1]
        refine aj_iload 6 94 (dx d_Search_find 50 rfl) rfl rfl ?_
        refine aj_callV2 97 cl_Search_62 (dx d_Search_find 51 rfl) rfl rfl rfl rfl rfl rfl hA1.1.1 (s_next hA1 hlt.1 hin ?_)
        change aj_wp _ _ _ _ _ _ _ _ _ _ _ _ _ _
        refine aj_aload_n 3 98 (dx d_Search_find 52 rfl) rfl rfl rfl ?_
        refine aj_aload_n 0 99 (dx d_Search_find 53 rfl) rfl rfl rfl ?_
        refine aj_getf 102 fl_Search_22 (dx d_Search_find 54 rfl) rfl hp1.1 ?_
        rw [hp1.2.1.2.2.1]
        refine aj_iload 5 104 (dx d_Search_find 55 rfl) rfl rfl ?_
        refine aj_iald 105 (dx d_Search_find 56 rfl) rfl hp1.2.2.2.2.1 rfl (by omega) (by omega) ?_
        rw [he.2]
        refine aj_iload 6 107 (dx d_Search_find 57 rfl) rfl rfl ?_
        refine aj_callV2 110 cl_Search_62 (dx d_Search_find 58 rfl) rfl rfl rfl rfl rfl rfl hB1.1.1 (s_next hB1 hlt.2 hin ?_)
        change aj_wp _ _ _ _ _ _ _ _ _ _ _ _ _ _
        refine aj_iload 5 112 (dx d_Search_find 59 rfl) rfl rfl ?_
        refine aj_iload 6 114 (dx d_Search_find 60 rfl) rfl rfl ?_
        refine aj_callV4 117 cl_Search_45 (dx d_Search_find 61 rfl) rfl rfl rfl rfl rfl rfl hp1.1 (k_Search_reach hp1 (by omega) (by omega) (by rcases hI.2.2.2.2.2.1 _ _ (Nat.lt_of_lt_of_le ho1.1 hn) (Nat.lt_of_lt_of_le ho2.1 hn') with z | z <;> (rw [z.1]; unfold aj_I; omega)) (by rw [hI.2.1]; omega) (fun hz => ?_) (by unfold aj_I; omega) (by rw [hI.2.1]; omega) (fun hz => ?_) (fun hz => ?_))
        · rcases hI.2.2.2.2.2.1 _ _ (Nat.lt_of_lt_of_le ho1.1 hn) (Nat.lt_of_lt_of_le ho2.1 hn') with z | z
          · have := bs_room hn hn' hc hc' hs ht hI (Nat.lt_of_lt_of_le ho1.1 hn) (Nat.lt_of_lt_of_le ho2.1 hn') z.2
            rw [hI.2.1]; omega
          · rw [z.1] at hz; omega
        · rcases hI.2.2.2.2.2.1 _ _ (Nat.lt_of_lt_of_le ho1.1 hn) (Nat.lt_of_lt_of_le ho2.1 hn') with z | ⟨z, p, z1, z2, z3⟩
          · exact absurd z.1 hz
          · change aj_wp _ _ _ _ _ _ _ _ _ _ _ _ _ _
            refine aj_iinc 6 120 (dx d_Search_find 62 rfl) rfl rfl rfl ?_
            simp only [List.set]
            refine aj_goto 35 (dx d_Search_find 63 rfl) rfl ?_
            have hih := ih _ (by omega) W cnt (inp + 1) g1 (by omega) hat rfl (bs_seen (by omega) hI hat hin hnd z1 z2 z3)
            rw [show ((inp : Nat) : Int) + 1 = ((inp + 1 : Nat) : Int) by omega]
            exact hih
        · rcases hI.2.2.2.2.2.1 _ _ (Nat.lt_of_lt_of_le ho1.1 hn) (Nat.lt_of_lt_of_le ho2.1 hn') with z | ⟨z, p, z1, z2, z3⟩
          · change aj_wp _ _ _ _ _ _ _ _ _ _ _ _ _ _
            refine aj_iinc 6 120 (dx d_Search_find 62 rfl) rfl rfl rfl ?_
            simp only [List.set]
            refine aj_goto 35 (dx d_Search_find 63 rfl) rfl ?_
            have hih := ih _ (by omega) _ (cnt + 1) (inp + 1) _ (by omega) (by omega) rfl (bs_new (by omega) hI hat hin hnd (Nat.lt_of_lt_of_le ho1.1 hn) (Nat.lt_of_lt_of_le ho2.1 hn') z.2)
            rw [show ((inp : Nat) : Int) + 1 = ((inp + 1 : Nat) : Int) by omega]
            exact hih
          · rw [z] at hz; omega
      · refine aj_aload_n 0 74 (dx d_Search_find 38 rfl) rfl rfl rfl ?_
        refine aj_iload 5 76 (dx d_Search_find 39 rfl) rfl rfl ?_
        refine aj_iload 6 78 (dx d_Search_find 40 rfl) rfl rfl ?_
        refine aj_callV2 81 cl_Search_58 (dx d_Search_find 41 rfl) rfl rfl rfl rfl rfl rfl hp1.1 (k_Search_spell hp1 hI.2.2.2.2.1 hcnt hat (fun g2 hsp => ?_))
        change aj_wp _ _ _ _ _ _ _ _ _ _ _ _ _ _
        refine aj_iconst 82 (dx d_Search_find 42 rfl) rfl ?_
        refine aj_zret (dx d_Search_find 43 rfl) rfl (by omega) id ?_
        have hw : (inp :: W at_).length ≤ 100 := by
          have := (hI.2.2.2.2.1.2 at_ hat).2.1
          rw [List.length_cons]; omega
        refine hk1 g2 (inp :: W at_) ⟨fun r' z => by rw [hsp.1 r' (by omega) (by omega)]; exact hF.1 r' z, fun j z => by rw [hsp.1 r (by omega) (by omega)]; exact hF.2.1 j z, fun j z => by rw [hsp.2.1 j z]; exact hF.2.2 j z⟩ (bf_found hI.2.2.2.2.2.2.2.1 (by omega) hat hin hI.2.2.2.2.2.2.2.2 (fun z => h70 (congrArg _ z))) hw ⟨hsp.2.2.1, fun j hj => ?_⟩
        rw [show r + 1 + 1 = r + 2 by omega]
        exact hsp.2.2.2 j _ (by rw [List.length_cons] at hj; omega) (List.getElem?_eq_getElem hj)
set_option maxHeartbeats 4000000 in
theorem k_find_out {al : Prop} {X : Option (Nat × (Int → Int))} {d : Nat} {sh : List aj_S} {g : aj_G} {Q : aj_R → List aj_S → aj_G → Prop} {r ra rb : Int} {La Lb k n n' s t : Nat} {nx ou nx' ou' : Nat → Nat → Nat} (hp : pss sh g r) (hA : mcm sh g ra La k n nx ou) (hB : mcm sh g rb Lb k n' nx' ou') (hda : ra + 2 < r ∨ r + 8 < ra) (hdb : rb + 2 < r ∨ r + 8 < rb) (hs : s < n) (ht : t < n')
    (hk1 : ∀ g1 w, fd_F g g1 r → wd_least k nx ou s nx' ou' t w → w.length ≤ 100 → wat g1 (r + 1) w → Q (.inl (some (0, 1))) sh g1) (hk0 : ∀ g1, fd_F g g1 r → wd_none k nx ou s nx' ou' t → g1 (r + 1) 1 = 0 → Q (.inl (some (0, 0))) sh g1) : ∀ (m : Nat) (W : Nat → List Nat) (cnt at_ : Nat) (g1 : aj_G), at_ ≤ cnt → 100 - at_ = m → bs_I g g1 r k s t nx ou nx' ou' W cnt at_ 0 →
    aj_wp nE al al X m_Search_find (d + 1) 0 0 16 [some (1, r), some (1, ra), some (0, (s : Int)), some (1, rb), some (0, (t : Int)), some (0, (at_ : Int)), none] [] sh g1 Q := by
  intro m
  induction m using Nat.strongRecOn with
  | ind m ih =>
    intro W cnt at_ g1 hat0 hmm hI
    have hF := hI.1
    have hp1 := pss_of hp hF.2.1 (hF.2.2 0 (by omega))
    have hA1 := mcm_of hA (hF.1 _ (by omega)) (hF.1 _ (by omega)) (hF.1 _ (by omega))
    have hB1 := mcm_of hB (hF.1 _ (by omega)) (hF.1 _ (by omega)) (hF.1 _ (by omega))
    have hc : ∀ s i, s < n → i < k → nx s i < n := fun s i h1 h2 => (hA.2.2.2.2.2.2 s i h1 h2).2.2.1
    have hc' : ∀ s i, s < n' → i < k → nx' s i < n' := fun s i h1 h2 => (hB.2.2.2.2.2.2 s i h1 h2).2.2.1
    have hn := hA.2.2.2.2.2.1
    have hn' := hB.2.2.2.2.2.1
    have hk3 := hA.2.2.2.2.1
    have hcnt := bs_cnt hn hn' hc hc' hs ht hI
    refine aj_iload 5 18 (dx d_Search_find 10 rfl) rfl rfl ?_
    refine aj_bipush 20 (dx d_Search_find 11 rfl) rfl (by decide +kernel) ?_
    refine aj_icmp_ge 129 23 (dx d_Search_find 12 rfl) rfl rfl (by unfold aj_I; omega) (by unfold aj_I; omega) (fun h20 => ?_) (fun h20 => ?_)
    · refine aj_iconst 130 (dx d_Search_find 66 rfl) rfl ?_
      refine aj_zret (dx d_Search_find 67 rfl) rfl (by omega) id ?_
      have hac : at_ = cnt := by omega
      subst hac
      exact hk0 g1 hF (bf_none hI.2.2.2.2.2.2.2.1 hI.2.2.2.2.2.2.2.2) hI.2.2.1
    · refine aj_iload 5 25 (dx d_Search_find 13 rfl) rfl rfl ?_
      refine aj_aload_n 0 26 (dx d_Search_find 14 rfl) rfl rfl rfl ?_
      refine aj_getf 29 fl_Search_38 (dx d_Search_find 15 rfl) rfl hp1.1 ?_
      refine aj_icmp_ge 129 32 (dx d_Search_find 16 rfl) rfl rfl (by unfold aj_I; omega) (by rw [hI.2.1]; unfold aj_I; omega) (fun h29 => ?_) (fun h29 => ?_)
      · rw [hI.2.1] at h29
        refine aj_iconst 130 (dx d_Search_find 66 rfl) rfl ?_
        refine aj_zret (dx d_Search_find 67 rfl) rfl (by omega) id ?_
        have hac : at_ = cnt := by omega
        subst hac
        exact hk0 g1 hF (bf_none hI.2.2.2.2.2.2.2.1 hI.2.2.2.2.2.2.2.2) hI.2.2.1
      · rw [hI.2.1] at h29
        have hat : at_ < cnt := by omega
        refine aj_iconst 33 (dx d_Search_find 17 rfl) rfl ?_
        refine aj_istore 6 35 (dx d_Search_find 18 rfl) rfl rfl ?_
        simp only [List.set]
        exact k_find_in hp hA hB hda hdb hs ht hk1 hk0 (fun W2 c2 g2 hat2 hI2 => by
          have hc2 := bs_cnt hn hn' hc hc' hs ht hI2
          have := ih _ (by omega) W2 c2 (at_ + 1) g2 (by omega) rfl hI2
          rw [show ((at_ : Nat) : Int) + 1 = ((at_ + 1 : Nat) : Int) by omega]
          exact this) _ W cnt 0 g1 (Nat.zero_le _) hat rfl hI
set_option maxHeartbeats 4000000 in
theorem k_Search_find {al : Prop} {X : Option (Nat × (Int → Int))} {d : Nat} {sh : List aj_S} {g : aj_G} {Q : aj_R → List aj_S → aj_G → Prop} {r ra rb : Int} {La Lb k n n' s t : Nat} {nx ou nx' ou' : Nat → Nat → Nat} (hp : pss sh g r) (hA : mcm sh g ra La k n nx ou) (hB : mcm sh g rb Lb k n' nx' ou') (hda : ra + 2 < r ∨ r + 8 < ra) (hdb : rb + 2 < r ∨ r + 8 < rb) (hs : s < n) (ht : t < n')
    (hk1 : ∀ g1 w, fd_F g g1 r → wd_least k nx ou s nx' ou' t w → w.length ≤ 100 → wat g1 (r + 1) w → Q (.inl (some (0, 1))) sh g1) (hk0 : ∀ g1, fd_F g g1 r → wd_none k nx ou s nx' ou' t → g1 (r + 1) 1 = 0 → Q (.inl (some (0, 0))) sh g1) : aj_wp nE al al X m_Search_find (d + 1) 0 0 0 [some (1, r), some (1, ra), some (0, (s : Int)), some (1, rb), some (0, (t : Int)), none, none] [] sh g Q := by
  have hn := hA.2.2.2.2.2.1
  have hn' := hB.2.2.2.2.2.1
  refine aj_aload_n 0 1 (dx d_Search_find 0 rfl) rfl rfl rfl ?_
  refine aj_callV0 4 cl_Search_42 (dx d_Search_find 1 rfl) rfl rfl rfl rfl rfl rfl hp.1 (k_Search_forget hp (fun g1 hfg hz0 => ?_))
  change aj_wp _ _ _ _ _ _ _ _ _ _ _ _ _ _
  refine aj_aload_n 0 5 (dx d_Search_find 2 rfl) rfl rfl rfl ?_
  refine aj_iload_n 2 6 (dx d_Search_find 3 rfl) rfl rfl rfl ?_
  refine aj_iload 4 8 (dx d_Search_find 4 rfl) rfl rfl ?_
  refine aj_iconst 9 (dx d_Search_find 5 rfl) rfl ?_
  refine aj_iconst 10 (dx d_Search_find 6 rfl) rfl ?_
  refine aj_callV4 13 cl_Search_45 (dx d_Search_find 7 rfl) rfl rfl rfl rfl rfl rfl (pss_of hp hfg.2.1 (hfg.2.2.2.1 0 (by omega))).1 (k_Search_reach (pss_of hp hfg.2.1 (hfg.2.2.2.1 0 (by omega))) (by omega) (by omega) (by rw [hz0 _ (by omega) (by omega)]; unfold aj_I; omega) (by rw [hfg.2.2.1]; omega) (fun _ => by rw [hfg.2.2.1]; omega) (by unfold aj_I; omega) (fun z => absurd rfl z) (fun z => absurd (hz0 _ (by omega) (by omega)) z) (fun _ => ?_))
  change aj_wp _ _ _ _ _ _ _ _ _ _ _ _ _ _
  refine aj_iconst 14 (dx d_Search_find 8 rfl) rfl ?_
  refine aj_istore 5 16 (dx d_Search_find 9 rfl) rfl rfl ?_
  simp only [List.set]
  refine k_find_out hp hA hB hda hdb hs ht hk1 hk0 _ (fun _ => []) 1 0 _ (Nat.zero_le _) rfl ?_
  refine ⟨⟨fun r' z => ?_, fun j z => ?_, fun j z => ?_⟩, ?_, ?_, fun p hp1 => ?_, ⟨rfl, fun p hp1 => ?_⟩, fun x y hx hy => ?_, fun p q h1 h2 _ _ => by omega, bf_0 rfl, fun p i h1 h2 => ?_⟩
  · rw [rc_x _ _ _ _ _ _ (by omega) (by omega)]
    exact hfg.1 r' (by omega) (by omega) (by omega)
  · rw [rc_0, if_neg z]
    exact hfg.2.1 j z
  · rw [rc_x _ _ _ _ _ _ (by omega) (by omega)]
    exact hfg.2.2.2.1 j z
  · rw [rc_0, if_pos rfl, hfg.2.2.1]
    rfl
  · rw [rc_x _ _ _ _ _ _ (by omega) (by omega)]
    exact hfg.2.2.2.2
  · have : p = 0 := by omega
    subst this
    rw [rc_3, rc_4, hfg.2.2.1, if_pos (by omega), if_pos (by omega)]
    exact ⟨rfl, rfl⟩
  · have : p = 0 := by omega
    subst this
    rw [rc_7, hfg.2.2.1, if_pos rfl, if_pos (by omega)]
    exact ⟨rfl, Nat.le_refl _, fun z => by omega⟩
  · rw [rc_8]
    by_cases c : x = s ∧ y = t
    · obtain ⟨rfl, rfl⟩ := c
      exact Or.inr ⟨if_pos rfl, 0, by omega, rfl, rfl⟩
    · rw [if_neg (by omega)]
      exact Or.inl ⟨hz0 _ (by omega) (by omega), fun p hp1 z => c ⟨z.1.symm, z.2.symm⟩⟩
  · obtain ⟨-, h3 | ⟨-, h3⟩⟩ := h2 <;> omega
