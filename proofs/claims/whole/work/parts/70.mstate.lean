/-! the same state in the model, and its answers in the same words -/
def mI (sh : List aj_S) (g : aj_G) (k n s0 : Nat) (nx ou : Nat → Nat → Nat) (z : Int) (tw : Nat → Nat) (N : Nat) (q : nb_T) (mnx mou : Nat → Nat → Nat) (mi : Nat) (ix io : Nat → Nat → Nat) (w : List Nat) (v : Int) (S : List Nat → Prop) (fp hd hp : Int) : Prop :=
  mmm sh g k n nx ou ∧ (g 78 5 = s0 ∧ s0 < n ∧ g 78 6 = z ∧ (z = 0 ∨ z = 1) ∧ g 78 29 = fp ∧ g 78 30 = hd ∧ aj_I hd ∧ (0 ≤ hd → g 78 31 = hp)) ∧ (g 78 16 = (wd_cd w : Nat) ∧ wd_ok k w ∧ w.length ≤ 24) ∧
  (z = 0 → g 78 8 = 0 ∧ g 78 17 = 0) ∧ (z = 1 → (∃ sf, mS sh g k n s0 nx ou tw N q sf mnx mou) ∧ mim g k mi ix io ∧ 0 < mi ∧ tw_ok k n nx ou tw ∧ q.1 = N ∧ smm k n nx ou tw N q mnx mou) ∧
  g 78 20 = v ∧ (v = 0 ∨ v = 1) ∧ ((v = 0 ∧ g 78 25 = 0 ∧ hd = -1) ∨ (v = 1 ∧ z = 1 ∧ (∃ a, a < k ∧ S [a]) ∧ (∃ (c : Nat) (W : Nat → List Nat), mT g k c W (lvF S k 20 []) ∧ ∀ u, pr c W u ↔ S u) ∧ hnO (lvF S k 20 []) hd hp))
def frM (g g1 : aj_G) : Prop := ∀ r', r' < 78 ∨ 99 < r' → g1 r' = g r'
section MI
variable {sh : List aj_S} {g g1 : aj_G} {k n s0 : Nat} {nx ou : Nat → Nat → Nat} {z : Int} {tw : Nat → Nat} {N : Nat} {q : nb_T} {mnx mou : Nat → Nat → Nat} {mi : Nat} {ix io : Nat → Nat → Nat} {w : List Nat} {v : Int} {S : List Nat → Prop} {fp hd hp : Int}
theorem mim_of (h : mim g k mi ix io) (e17 : g1 78 17 = g 78 17) (e1 : g1 88 = g 88) (e2 : g1 89 = g 89) : mim g1 k mi ix io := by
  unfold mim at h ⊢
  rw [e17, e1, e2]
  exact h
/-- the numbers of the model that may change with the rest standing -/
theorem mI_num {w1 : List Nat} {fp1 hd1 hp1 : Int} (h : mI sh g k n s0 nx ou z tw N q mnx mou mi ix io w v S fp hd hp) (e : ∀ r', (79 ≤ r' ∧ r' ≤ 89) ∨ (92 ≤ r' ∧ r' ≤ 94) → g1 r' = g r') (e8 : ∀ j, j ≠ 0 → j ≠ 23 → j ≠ 29 → j ≠ 30 → j ≠ 31 → j ≠ 16 → g1 78 j = g 78 j) (h29 : g1 78 29 = fp1) (h30 : g1 78 30 = hd1 ∧ aj_I hd1 ∧ (0 ≤ hd1 → g1 78 31 = hp1)) (h16 : g1 78 16 = (wd_cd w1 : Nat) ∧ wd_ok k w1 ∧ w1.length ≤ 24) (hh : (v = 0 → hd1 = -1) ∧ (v = 1 → hnO (lvF S k 20 []) hd1 hp1)) : mI sh g1 k n s0 nx ou z tw N q mnx mou mi ix io (w1) v S (fp1) (hd1) (hp1) := by
  obtain ⟨hM, ⟨m5, ms0, m6, mz, m29, m30, mhd, m31⟩, m16, hu, hs, m20, mv, hT⟩ := h
  have ef : ∀ j, mo_fin j → g1 78 j = g 78 j := fun j hj => by unfold mo_fin at hj; exact e8 j (by omega) (by omega) (by omega) (by omega) (by omega) (by omega)
  refine ⟨mmm_of hM (fun j hj => by rcases hj with hj | hj | hj; exact ef j hj; exact e8 j (by omega) (by omega) (by omega) (by omega) (by omega) (by omega); exact e8 j (by omega) (by omega) (by omega) (by omega) (by omega) (by omega)) (e _ (by omega)) (e _ (by omega)), ⟨by rw [e8 5 (by omega) (by omega) (by omega) (by omega) (by omega) (by omega)]; exact m5, ms0, by rw [e8 6 (by omega) (by omega) (by omega) (by omega) (by omega) (by omega)]; exact m6, mz, h29, h30.1, h30.2.1, h30.2.2⟩, h16, fun hz => ?_, fun hz => ?_, by rw [e8 20 (by omega) (by omega) (by omega) (by omega) (by omega) (by omega)]; exact m20, mv, ?_⟩
  · rw [e8 8 (by omega) (by omega) (by omega) (by omega) (by omega) (by omega), e8 17 (by omega) (by omega) (by omega) (by omega) (by omega) (by omega)]
    exact hu hz
  · obtain ⟨⟨sf, a1⟩, a2, a3⟩ := hs hz
    refine ⟨⟨sf, mS_of a1 (fun r a b => e r (by omega)) (fun j hj => ?_)⟩, mim_of a2 (e8 17 (by omega) (by omega) (by omega) (by omega) (by omega) (by omega)) (e _ (by omega)) (e _ (by omega)), a3⟩
    rcases hj with hj | hj
    · exact ef j hj
    · exact e8 j (by omega) (by omega) (by omega) (by omega) (by omega) (by omega)
  · rcases hT with ⟨t1, t2, t3⟩ | ⟨t1, t2, t3, ⟨c, W, t4, t5⟩, t6⟩
    · exact Or.inl ⟨t1, by rw [e8 25 (by omega) (by omega) (by omega) (by omega) (by omega) (by omega)]; exact t2, hh.1 t1⟩
    · exact Or.inr ⟨t1, t2, t3, ⟨c, W, mT_of t4 (e8 _ (by omega) (by omega) (by omega) (by omega) (by omega) (by omega)) (e8 _ (by omega) (by omega) (by omega) (by omega) (by omega) (by omega)) (e8 _ (by omega) (by omega) (by omega) (by omega) (by omega) (by omega)) (e _ (by omega)) (e _ (by omega)) (e _ (by omega)), t5⟩, hh.2 t1⟩
theorem mI_hh (h : mI sh g k n s0 nx ou z tw N q mnx mou mi ix io w v S fp hd hp) : (v = 0 → hd = -1) ∧ (v = 1 → hnO (lvF S k 20 []) hd hp) := by
  rcases h.2.2.2.2.2.2.2 with ⟨t1, -, t3⟩ | ⟨t1, -, -, -, t6⟩
  · exact ⟨fun _ => t3, fun h => by omega⟩
  · exact ⟨fun h => by omega, fun _ => t6⟩
theorem mI_of (h : mI sh g k n s0 nx ou z tw N q mnx mou mi ix io w v S fp hd hp) (e : ∀ r', (79 ≤ r' ∧ r' ≤ 89) ∨ (92 ≤ r' ∧ r' ≤ 94) → g1 r' = g r') (e8 : ∀ j, j ≠ 0 → j ≠ 23 → g1 78 j = g 78 j) : mI sh g1 k n s0 nx ou z tw N q mnx mou mi ix io w v S fp hd hp := by
  have h2 := h.2.1
  have h3 := h.2.2.1
  exact mI_num h e (fun j a b _ _ _ _ => e8 j a b) (by rw [e8 29 (by omega) (by omega)]; exact h2.2.2.2.2.1) ⟨by rw [e8 30 (by omega) (by omega)]; exact h2.2.2.2.2.2.1, h2.2.2.2.2.2.2.1, fun y => by rw [e8 31 (by omega) (by omega)]; exact h2.2.2.2.2.2.2.2 y⟩ ⟨by rw [e8 16 (by omega) (by omega)]; exact h3.1, h3.2⟩ (mI_hh h)
theorem mI_th (h : mI sh g k n s0 nx ou z tw N q mnx mou mi ix io w v S fp hd hp) (x : Int) : mI sh (aj_up g 78 0 x) k n s0 nx ou z tw N q mnx mou mi ix io w v S fp hd hp := mI_of h (fun r' _ => aj_up_ne _ _ _ (by omega)) (fun j a _ => aj_up_ni _ _ _ a)
theorem frM_th (g : aj_G) (x : Int) : frM g (aj_up g 78 0 x) := fun r' _ => aj_up_ne _ _ _ (by omega)
/-- what reads only from place 78 on stands when the class writes -/
theorem mI_fr (h : mI sh g k n s0 nx ou z tw N q mnx mou mi ix io w v S fp hd hp) (e : ∀ r', 78 ≤ r' → r' ≤ 99 → g1 r' = g r') : mI sh g1 k n s0 nx ou z tw N q mnx mou mi ix io w v S fp hd hp := mI_of h (fun r' _ => e r' (by omega) (by omega)) (fun j _ _ => by rw [e 78 (by omega) (by omega)])
/-! the small machine answers as the specification does -/
def pu (k n s0 : Nat) (nx ou : Nat → Nat → Nat) (tw : Nat → Nat) (N : Nat) (q : nb_T) (mnx mou : Nat → Nat → Nat) : Prop := tw_ok k n nx ou tw ∧ q = nb k nx tw s0 (N * k) ∧ q.1 = N ∧ nb_I k n nx tw s0 (N * k) q ∧ smm k n nx ou tw N q mnx mou
theorem pu_none (h : pu k n s0 nx ou tw N q mnx mou) (hcl : ∀ s i, s < n → i < k → nx s i < n) (hs0 : s0 < n) : wd_none k mnx mou 0 nx ou (tw s0) ∧ al_k k nx ou s0 (tw s0) := by
  obtain ⟨p1, p2, p3, p4, p5⟩ := h
  refine ⟨?_, (p1 s0 hs0).2.1⟩
  rw [← p4.2.1]
  refine mm_none (mb := q.2.1) (N := N) (fun b i hb hi => ?_) (fun b i hb hi => (p5 b i hb hi).2.2) (by have := p4.1; omega)
  obtain ⟨x1, x2, -⟩ := p5 b i hb hi
  refine ⟨x1, ?_⟩
  rw [x2]
  exact al_symm (p1 _ (hcl _ i (p4.2.2.1 b (by omega)).1 hi)).2.1
theorem eo_eq (h : pu k n s0 nx ou tw N q mnx mou) (hcl : ∀ s i, s < n → i < k → nx s i < n) (hs0 : s0 < n) : ∀ u, wd_ok k u → eo nx ou s0 u = eo mnx mou 0 u
  | [], _ => rfl
  | b :: u, hu => by
    obtain ⟨h1, h2⟩ := pu_none h hcl hs0
    obtain ⟨u1, u2⟩ := wd_ok_cons.mp hu
    show ou (rn nx s0 u) b = mou (rn mnx 0 u) b
    rw [xa_out h1 u2 u1, xa_out h2 u2 u1]
theorem df_eq (h : pu k n s0 nx ou tw N q mnx mou) (hcl : ∀ s i, s < n → i < k → nx s i < n) (hs0 : s0 < n) : ∀ u, wd_ok k u → (df ix io 0 mnx mou 0 u ↔ df nx ou s0 ix io 0 u)
  | [], _ => Iff.rfl
  | b :: u, hu => by
    have e := eo_eq h hcl hs0 (b :: u) hu
    have e' : ou (rn nx s0 u) b = mou (rn mnx 0 u) b := e
    show (io (rn ix 0 u) b ≠ mou (rn mnx 0 u) b) ↔ (ou (rn nx s0 u) b ≠ io (rn ix 0 u) b)
    rw [e']
    exact ⟨fun z y => z y.symm, fun z y => z y.symm⟩
theorem ffw_cg {D D' : List Nat → Prop} (h : ∀ v, wd_ok k v → (D v ↔ D' v)) : ∀ u, wd_ok k u → ffw D u = ffw D' u
  | [], _ => rfl
  | b :: u, hu => by
    have ih := ffw_cg h u (wd_ok_cons.mp hu).2
    by_cases c : ffw D u = -1
    · by_cases c2 : D (b :: u)
      · rw [ffw_t c c2, ffw_t (by rw [← ih]; exact c) ((h _ hu).mp c2)]
      · rw [ffw_f c c2, ffw_f (by rw [← ih]; exact c) (fun z => c2 ((h _ hu).mpr z))]
    · have e1 := ffw_app c [b]
      have e2 := ffw_app (D := D') (v := u) (by rw [← ih]; exact c) [b]
      rw [show b :: u = [b] ++ u from rfl, e1, e2, ih]
theorem rnR_uniq {D : List Nat → Prop} {T : List (List Nat)} {x y x' y' : Int} (h : rnR D T x y) (h' : rnR D T x' y') : x = x' ∧ y = y' := by
  rcases h with ⟨t, a, rfl, rfl, a3, a4⟩ | ⟨rfl, rfl, a⟩ <;> rcases h' with ⟨t', b, rfl, rfl, b3, b4⟩ | ⟨rfl, rfl, b⟩
  · rcases Nat.lt_trichotomy t t' with c | c | c
    · exact absurd (b4 t a c) a3
    · subst c; exact ⟨rfl, rfl⟩
    · exact absurd (a4 t' b c) b3
  · exact absurd (b t a) a3
  · exact absurd (a t' b) b3
  · exact ⟨rfl, rfl⟩
theorem lu_uniq {A B A' B' : Nat → Nat → Nat} {s t : Nat} {u u' : List Nat} (hk : k ≤ 4) (h : wd_least k A B s A' B' t u ∨ (wd_none k A B s A' B' t ∧ u = [])) (h' : wd_least k A B s A' B' t u' ∨ (wd_none k A B s A' B' t ∧ u' = [])) : u = u' := by
  rcases h with a | ⟨a, rfl⟩ <;> rcases h' with b | ⟨b, rfl⟩
  · exact least_uniq hk a b
  · exact absurd a.2.1 (b _ a.1)
  · exact absurd b.2.1 (a _ b.1)
  · rfl
theorem mI_pu (h : mI sh g k n s0 nx ou z tw N q mnx mou mi ix io w v S fp hd hp) (hz : z = 1) : pu k n s0 nx ou tw N q mnx mou := by
  obtain ⟨⟨sf, a1⟩, -, -, a4, a5, a6⟩ := h.2.2.2.2.1 hz
  exact ⟨a4, a1.2.2.1.1, a5, a1.2.2.1.2.1, a6⟩
theorem mI_cl (h : mI sh g k n s0 nx ou z tw N q mnx mou mi ix io w v S fp hd hp) : ∀ s i, s < n → i < k → nx s i < n := fun s i h1 h2 => (h.1.2.2.2.2.2 s i h1 h2).2.2.1
end MI
theorem mmm_set {sh : List aj_S} {g : aj_G} {k n s i t u : Nat} {nx ou : Nat → Nat → Nat} (hm : mmm sh g k n nx ou) (hs : s < n) (hi : i < k) (ht : t < n) (hu : u < 4) : mmm sh (aj_up (aj_up (aj_up g 78 0 0) 79 (3 * (s : Int) + i) (t : Nat)) 80 (3 * (s : Int) + i) (u : Nat)) k n (up2 nx s i t) (up2 ou s i u) := by
  obtain ⟨h1, h2, h3, h4, h5, h6⟩ := hm
  refine ⟨mos_of h1 (fun j hj => by unfold mo_fin at hj; rw [aj_up_ne _ _ _ (by omega), aj_up_ne _ _ _ (by omega), aj_up_ni _ _ _ (by omega)]), by rw [aj_up_ne _ _ _ (by omega), aj_up_ne _ _ _ (by omega), aj_up_ni _ _ _ (by omega)]; exact h2, by rw [aj_up_ne _ _ _ (by omega), aj_up_ne _ _ _ (by omega), aj_up_ni _ _ _ (by omega)]; exact h3, h4, h5, fun x j hx hj => ?_⟩
  obtain ⟨a1, a2, a3, a4⟩ := h6 x j hx hj
  unfold up2
  by_cases c : x = s ∧ j = i
  · obtain ⟨rfl, rfl⟩ := c
    rw [if_pos ⟨rfl, rfl⟩, if_pos ⟨rfl, rfl⟩, aj_up_ne _ _ _ (by omega), aj_up_self, aj_up_self]
    exact ⟨rfl, rfl, ht, hu⟩
  · rw [if_neg c, if_neg c, aj_up_ne _ _ _ (by omega), aj_up_ni _ _ _ (by omega), aj_up_ne _ _ _ (by omega), aj_up_ni _ _ _ (by omega), aj_up_ne _ _ _ (by omega), aj_up_ne _ _ _ (by omega)]
    exact ⟨a1, a2, a3, a4⟩
theorem mim_set {g : aj_G} {k n s i t u : Nat} {nx ou : Nat → Nat → Nat} (hk3 : k ≤ 3) (hm : mim g k n nx ou) (hs : s < n) (hi : i < k) (ht : t < n) (hu : u < 4) : mim (aj_up (aj_up (aj_up g 78 0 0) 88 (3 * (s : Int) + i) (t : Nat)) 89 (3 * (s : Int) + i) (u : Nat)) k n (up2 nx s i t) (up2 ou s i u) := by
  obtain ⟨h1, h2, h3⟩ := hm
  refine ⟨by rw [aj_up_ne _ _ _ (by omega), aj_up_ne _ _ _ (by omega), aj_up_ni _ _ _ (by omega)]; exact h1, h2, fun x j hx hj => ?_⟩
  obtain ⟨a1, a2, a3, a4⟩ := h3 x j hx hj
  unfold up2
  by_cases c : x = s ∧ j = i
  · obtain ⟨rfl, rfl⟩ := c
    rw [if_pos ⟨rfl, rfl⟩, if_pos ⟨rfl, rfl⟩, aj_up_ne _ _ _ (by omega), aj_up_self, aj_up_self]
    exact ⟨rfl, rfl, ht, hu⟩
  · rw [if_neg c, if_neg c, aj_up_ne _ _ _ (by omega), aj_up_ni _ _ _ (by omega), aj_up_ne _ _ _ (by omega), aj_up_ni _ _ _ (by omega), aj_up_ne _ _ _ (by omega), aj_up_ne _ _ _ (by omega)]
    exact ⟨a1, a2, a3, a4⟩
set_option maxHeartbeats 4000000 in
theorem M_edge {al : Prop} {X : Option (Nat × (Int → Int))} {d : Nat} {sh : List aj_S} {g : aj_G} {Q : aj_R → List aj_S → aj_G → Prop} {k n s0 : Nat} {nx ou : Nat → Nat → Nat} {z : Int} {tw : Nat → Nat} {N : Nat} {q : nb_T} {mnx mou : Nat → Nat → Nat} {mi : Nat} {ix io : Nat → Nat → Nat} {w : List Nat} {v : Int} {S : List Nat → Prop} {fp hd hp : Int} (hI : mI sh g k n s0 nx ou z tw N q mnx mou mi ix io w v S fp hd hp) {s i t u : Int} (x1 : aj_I s) (x2 : aj_I i) (x3 : aj_I t) (x4 : aj_I u) (hk1 : (¬ ((0 ≤ s ∧ s < (n : Int)) ∧ (0 ≤ i ∧ i < (k : Int)) ∧ (0 ≤ t ∧ t < (n : Int)) ∧ (0 ≤ u ∧ u < 4)) → ∀ g1 : aj_G, frM g g1 → g1 78 0 = 1 → mI sh g1 k n s0 nx ou z tw N q mnx mou mi ix io w v S fp hd hp → Q (.inl none) sh g1)) (hk2 : (((0 ≤ s ∧ s < (n : Int)) ∧ (0 ≤ i ∧ i < (k : Int)) ∧ (0 ≤ t ∧ t < (n : Int)) ∧ (0 ≤ u ∧ u < 4)) → z = 1 → ∀ g1 : aj_G, frM g g1 → g1 78 0 = 2 → mI sh g1 k n s0 nx ou z tw N q mnx mou mi ix io w v S fp hd hp → Q (.inl none) sh g1)) (hk0 : (((0 ≤ s ∧ s < (n : Int)) ∧ (0 ≤ i ∧ i < (k : Int)) ∧ (0 ≤ t ∧ t < (n : Int)) ∧ (0 ≤ u ∧ u < 4)) → z = 0 → ∀ g1 : aj_G, frM g g1 → g1 78 0 = 0 → mI sh g1 k n s0 (up2 nx s.toNat i.toNat t.toNat) (up2 ou s.toNat i.toNat u.toNat) z tw N q mnx mou mi ix io w v S fp hd hp → Q (.inl none) sh g1)) : aj_wp nE al al X m_Model_edge (d + 6) 0 0 0 [some (1, 78), some (0, s), some (0, i), some (0, t), some (0, u)] [] sh g Q := by
  have hI0 := hI
  obtain ⟨hM, ⟨m5, ms0, m6, mz, m29, m30, mhd, m31⟩, ⟨m16, mwo, mwl⟩, hu, hs, m20, mv, hT⟩ := hI
  have hk4 := hM.2.2.2.1
  have hn8 := hM.2.2.2.2.1
  refine k_Model_edge hM m6 mz x1 x2 x3 x4 (fun h => hk1 h _ (frM_th g _) (aj_up_self _ _ _ _) (mI_th hI0 _)) (fun h h2 => hk2 h h2 _ (frM_th g _) (aj_up_self _ _ _ _) (mI_th hI0 _)) (fun h h2 => ?_)
  have h0 := h
  obtain ⟨⟨a1, a2⟩, ⟨a3, a4⟩, ⟨a5, a6⟩, a7, a8⟩ := h
  obtain ⟨s, rfl⟩ := Int.eq_ofNat_of_zero_le a1
  obtain ⟨i, rfl⟩ := Int.eq_ofNat_of_zero_le a3
  obtain ⟨t, rfl⟩ := Int.eq_ofNat_of_zero_le a5
  obtain ⟨u, rfl⟩ := Int.eq_ofNat_of_zero_le a7
  simp only [Int.toNat_natCast] at hk0
  refine hk0 h0 h2 _ (fun r' h => by rw [aj_up_ne _ _ _ (by omega), aj_up_ne _ _ _ (by omega), aj_up_ne _ _ _ (by omega)]) (by rw [aj_up_ne _ _ _ (by omega), aj_up_ne _ _ _ (by omega), aj_up_self]) ?_
  have e8 : ∀ j, j ≠ 0 → aj_up (aj_up (aj_up g 78 0 0) 79 (3 * (s : Int) + i) (t : Nat)) 80 (3 * (s : Int) + i) (u : Nat) 78 j = g 78 j := fun j hj => by rw [aj_up_ne _ _ _ (by omega), aj_up_ne _ _ _ (by omega), aj_up_ni _ _ _ hj]
  refine ⟨mmm_set hM (by omega) (by omega) (by omega) (by omega), ⟨by rw [e8 5 (by omega)]; exact m5, ms0, by rw [e8 6 (by omega)]; exact m6, mz, by rw [e8 29 (by omega)]; exact m29, by rw [e8 30 (by omega)]; exact m30, mhd, fun h => by rw [e8 31 (by omega)]; exact m31 h⟩, ⟨by rw [e8 16 (by omega)]; exact m16, mwo, mwl⟩, fun hz => by rw [e8 8 (by omega), e8 17 (by omega)]; exact hu hz, fun hz => absurd hz (by omega), by rw [e8 20 (by omega)]; exact m20, mv, ?_⟩
  rcases hT with ⟨t1, t2, t3⟩ | ⟨t1, t2, -⟩
  · exact Or.inl ⟨t1, by rw [e8 25 (by omega)]; exact t2, t3⟩
  · omega

set_option maxHeartbeats 4000000 in
theorem M_start {al : Prop} {X : Option (Nat × (Int → Int))} {d : Nat} {sh : List aj_S} {g : aj_G} {Q : aj_R → List aj_S → aj_G → Prop} {k n s0 : Nat} {nx ou : Nat → Nat → Nat} {z : Int} {tw : Nat → Nat} {N : Nat} {q : nb_T} {mnx mou : Nat → Nat → Nat} {mi : Nat} {ix io : Nat → Nat → Nat} {w : List Nat} {v : Int} {S : List Nat → Prop} {fp hd hp : Int} (hI : mI sh g k n s0 nx ou z tw N q mnx mou mi ix io w v S fp hd hp) {s : Int} (x1 : aj_I s) (hk1 : (¬ (0 ≤ s ∧ s < (n : Int)) → ∀ g1 : aj_G, frM g g1 → g1 78 0 = 1 → mI sh g1 k n s0 nx ou z tw N q mnx mou mi ix io w v S fp hd hp → Q (.inl none) sh g1)) (hk2 : ((0 ≤ s ∧ s < (n : Int)) → z = 1 → ∀ g1 : aj_G, frM g g1 → g1 78 0 = 2 → mI sh g1 k n s0 nx ou z tw N q mnx mou mi ix io w v S fp hd hp → Q (.inl none) sh g1)) (hk0 : ((0 ≤ s ∧ s < (n : Int)) → z = 0 → ∀ g1 : aj_G, frM g g1 → g1 78 0 = 0 → mI sh g1 k n (s.toNat) nx ou z tw N q mnx mou mi ix io w v S fp hd hp → Q (.inl none) sh g1)) : aj_wp nE al al X m_Model_start (d + 6) 0 0 0 [some (1, 78), some (0, s)] [] sh g Q := by
  have hI0 := hI
  obtain ⟨hM, ⟨m5, ms0, m6, mz, m29, m30, mhd, m31⟩, ⟨m16, mwo, mwl⟩, hu, hs, m20, mv, hT⟩ := hI
  have hk4 := hM.2.2.2.1
  have hn8 := hM.2.2.2.2.1
  refine k_Model_start hM m6 mz x1 (fun h => hk1 h _ (fun r' h => by rw [aj_up_ne _ _ _ (by omega), aj_up_ne _ _ _ (by omega)]) (by rw [aj_up_ni _ _ _ (by omega), aj_up_self]) (mI_of hI0 (fun r' _ => by rw [aj_up_ne _ _ _ (by omega), aj_up_ne _ _ _ (by omega)]) (fun j a _ => by
    by_cases e : j = 5
    · rw [e, aj_up_self]
    · rw [aj_up_ni _ _ _ e, aj_up_ni _ _ _ a]))) (fun h h2 => hk2 h h2 _ (fun r' h => by rw [aj_up_ne _ _ _ (by omega), aj_up_ne _ _ _ (by omega)]) (by rw [aj_up_ni _ _ _ (by omega), aj_up_self]) (mI_of hI0 (fun r' _ => by rw [aj_up_ne _ _ _ (by omega), aj_up_ne _ _ _ (by omega)]) (fun j a _ => by
    by_cases e : j = 5
    · rw [e, aj_up_self]
    · rw [aj_up_ni _ _ _ e, aj_up_ni _ _ _ a]))) (fun h h2 => ?_)
  have e8 : ∀ j, j ≠ 0 → j ≠ 5 → aj_up (aj_up g 78 0 0) 78 5 s 78 j = g 78 j := fun j hj h5 => by rw [aj_up_ni _ _ _ h5, aj_up_ni _ _ _ hj]
  have e7 : ∀ r', r' ≠ 78 → aj_up (aj_up g 78 0 0) 78 5 s r' = g r' := fun r' h => by rw [aj_up_ne _ _ _ h, aj_up_ne _ _ _ h]
  refine hk0 h h2 _ (fun r' h => e7 r' (by omega)) (by rw [aj_up_ni _ _ _ (by omega), aj_up_self]) ⟨mmm_of hM (fun j hj => e8 j (by unfold mo_fin at hj; omega) (by unfold mo_fin at hj; omega)) (e7 _ (by omega)) (e7 _ (by omega)), ⟨by rw [aj_up_self]; omega, by omega, by rw [e8 6 (by omega) (by omega)]; exact m6, mz, by rw [e8 29 (by omega) (by omega)]; exact m29, by rw [e8 30 (by omega) (by omega)]; exact m30, mhd, fun h => by rw [e8 31 (by omega) (by omega)]; exact m31 h⟩, ⟨by rw [e8 16 (by omega) (by omega)]; exact m16, mwo, mwl⟩, fun hz => by rw [e8 8 (by omega) (by omega), e8 17 (by omega) (by omega)]; exact hu hz, fun hz => absurd hz (by omega), by rw [e8 20 (by omega) (by omega)]; exact m20, mv, ?_⟩
  rcases hT with ⟨t1, t2, t3⟩ | ⟨t1, t2, -⟩
  · exact Or.inl ⟨t1, by rw [e8 25 (by omega) (by omega)]; exact t2, t3⟩
  · omega

set_option maxHeartbeats 4000000 in
theorem M_seal {al : Prop} {X : Option (Nat × (Int → Int))} {d : Nat} {sh : List aj_S} {g : aj_G} {Q : aj_R → List aj_S → aj_G → Prop} {k n s0 : Nat} {nx ou : Nat → Nat → Nat} {z : Int} {tw : Nat → Nat} {N : Nat} {q : nb_T} {mnx mou : Nat → Nat → Nat} {mi : Nat} {ix io : Nat → Nat → Nat} {w : List Nat} {v : Int} {S : List Nat → Prop} {fp hd hp : Int} (hI : mI sh g k n s0 nx ou z tw N q mnx mou mi ix io w v S fp hd hp)  {tw1 : Nat → Nat} {N1 : Nat} {q1 : nb_T} {mnx1 mou1 : Nat → Nat → Nat} (hz : z = 0) (hpu : pu k n s0 nx ou tw1 N1 q1 mnx1 mou1) (hk : ∀ g1 : aj_G, frM g g1 → g1 78 0 = 0 → mI sh g1 k n s0 nx ou (1) (tw1) (N1) (q1) (mnx1) (mou1) (N1) (mnx1) (mou1) w v S fp hd hp → Q (.inl (some (0, (N1 : Int)))) sh g1) : aj_wp nE al al X m_Model_seal (d + 6) 0 0 0 [some (1, 78), none, none] [] sh g Q := by
  have hI0 := hI
  obtain ⟨hM, ⟨m5, ms0, m6, mz, m29, m30, mhd, m31⟩, ⟨m16, mwo, mwl⟩, hu, hs, m20, mv, hT⟩ := hI
  have hk4 := hM.2.2.2.1
  have hn8 := hM.2.2.2.2.1
  refine k_Model_seal hM (mI_cl hI0) (by rw [m6]; exact hz) m5 ms0 hpu.1 hpu.2.1 hpu.2.2.1 hpu.2.2.2.1 hpu.2.2.2.2 (fun g1 sf hF hmS h0 h6 him => ?_)
  have hN0 := hpu.2.2.2.1.1
  have e8 : ∀ j, j ≠ 0 → j ≠ 6 → j ≠ 8 → j ≠ 12 → j ≠ 17 → g1 78 j = g 78 j := hF.2
  refine hk g1 (fun r' h => hF.1 r' (by omega) (by omega)) h0 ⟨hmS.1, ⟨by rw [e8 5 (by omega) (by omega) (by omega) (by omega) (by omega)]; exact m5, ms0, h6, Or.inr rfl, by rw [e8 29 (by omega) (by omega) (by omega) (by omega) (by omega)]; exact m29, by rw [e8 30 (by omega) (by omega) (by omega) (by omega) (by omega)]; exact m30, mhd, fun h => by rw [e8 31 (by omega) (by omega) (by omega) (by omega) (by omega)]; exact m31 h⟩, ⟨by rw [e8 16 (by omega) (by omega) (by omega) (by omega) (by omega)]; exact m16, mwo, mwl⟩, fun h => absurd h (by decide), fun _ => ⟨⟨sf, hmS⟩, him, by have := hpu.2.2.1; omega, hpu.1, hpu.2.2.1, hpu.2.2.2.2⟩, by rw [e8 20 (by omega) (by omega) (by omega) (by omega) (by omega)]; exact m20, mv, ?_⟩
  rcases hT with ⟨t1, t2, t3⟩ | ⟨t1, t2, -⟩
  · exact Or.inl ⟨t1, by rw [e8 25 (by omega) (by omega) (by omega) (by omega) (by omega)]; exact t2, t3⟩
  · omega

set_option maxHeartbeats 4000000 in
theorem M_seal_T {al : Prop} {X : Option (Nat × (Int → Int))} {d : Nat} {sh : List aj_S} {g : aj_G} {Q : aj_R → List aj_S → aj_G → Prop} {k n s0 : Nat} {nx ou : Nat → Nat → Nat} {z : Int} {tw : Nat → Nat} {N : Nat} {q : nb_T} {mnx mou : Nat → Nat → Nat} {mi : Nat} {ix io : Nat → Nat → Nat} {w : List Nat} {v : Int} {S : List Nat → Prop} {fp hd hp : Int} (hI : mI sh g k n s0 nx ou z tw N q mnx mou mi ix io w v S fp hd hp)  (hz : z = 1) (hk : ∀ g1 : aj_G, frM g g1 → g1 78 0 = 1 → mI sh g1 k n s0 nx ou z tw N q mnx mou mi ix io w v S fp hd hp → Q (.inl (some (0, 0))) sh g1) : aj_wp nE al al X m_Model_seal (d + 6) 0 0 0 [some (1, 78), none, none] [] sh g Q := by
  have hI0 := hI
  obtain ⟨hM, ⟨m5, ms0, m6, mz, m29, m30, mhd, m31⟩, ⟨m16, mwo, mwl⟩, hu, hs, m20, mv, hT⟩ := hI
  have hk4 := hM.2.2.2.1
  have hn8 := hM.2.2.2.2.1
  exact k_Model_seal1 hM.1 (by rw [m6]; exact hz) (hk _ (frM_th g _) (aj_up_self _ _ _ _) (mI_th hI0 _))

set_option maxHeartbeats 4000000 in
theorem M_minimal {al : Prop} {X : Option (Nat × (Int → Int))} {d : Nat} {sh : List aj_S} {g : aj_G} {Q : aj_R → List aj_S → aj_G → Prop} {k n s0 : Nat} {nx ou : Nat → Nat → Nat} {z : Int} {tw : Nat → Nat} {N : Nat} {q : nb_T} {mnx mou : Nat → Nat → Nat} {mi : Nat} {ix io : Nat → Nat → Nat} {w : List Nat} {v : Int} {S : List Nat → Prop} {fp hd hp : Int} (hI : mI sh g k n s0 nx ou z tw N q mnx mou mi ix io w v S fp hd hp) {s : Int} (x1 : aj_I s) (hk : ∀ g1 : aj_G, frM g g1 → mI sh g1 k n s0 nx ou z tw N q mnx mou mi ix io w v S fp hd hp → Q (.inl (some (0, minV z n q N tw s))) sh g1) : aj_wp nE al al X m_Model_minimal (d + 6) 0 0 0 [some (1, 78), some (0, s)] [] sh g Q := by
  have hI0 := hI
  obtain ⟨hM, ⟨m5, ms0, m6, mz, m29, m30, mhd, m31⟩, ⟨m16, mwo, mwl⟩, hu, hs, m20, mv, hT⟩ := hI
  have hk4 := hM.2.2.2.1
  have hn8 := hM.2.2.2.2.1
  refine k_Model_minimal hM m6 mz x1 (fun h h2 => ?_) (fun h => ?_)
  · have hh := hk _ (frM_th g 0) (mI_th hI0 0)
    obtain ⟨⟨sf, a1⟩, -, -, -, a5, -⟩ := hs h2
    obtain ⟨s, rfl⟩ := Int.eq_ofNat_of_zero_le h.1
    unfold minV at hh
    rw [if_pos ⟨h2, h⟩, Int.toNat_natCast, ← a5, nbF_eq (a1.2.2.1.2.2.2.2 s (by omega)).1 (a1.2.2.1.2.2.2.2 s (by omega)).2] at hh
    exact hh
  · have hh := hk _ (frM_th g 0) (mI_th hI0 0)
    unfold minV at hh
    rw [if_neg h] at hh
    exact hh

set_option maxHeartbeats 4000000 in
theorem M_apart {al : Prop} {X : Option (Nat × (Int → Int))} {d : Nat} {sh : List aj_S} {g : aj_G} {Q : aj_R → List aj_S → aj_G → Prop} {k n s0 : Nat} {nx ou : Nat → Nat → Nat} {z : Int} {tw : Nat → Nat} {N : Nat} {q : nb_T} {mnx mou : Nat → Nat → Nat} {mi : Nat} {ix io : Nat → Nat → Nat} {w : List Nat} {v : Int} {S : List Nat → Prop} {fp hd hp : Int} (hI : mI sh g k n s0 nx ou z tw N q mnx mou mi ix io w v S fp hd hp) {s t : Int} (x1 : aj_I s) (x2 : aj_I t) (hk1 : (¬ ((0 ≤ s ∧ s < (n : Int)) ∧ (0 ≤ t ∧ t < (n : Int))) → ∀ g1 : aj_G, frM g g1 → g1 78 0 = 1 → mI sh g1 k n s0 nx ou z tw N q mnx mou mi ix io w v S fp hd hp → Q (.inl (some (0, 0))) sh g1)) (hk2 : (((0 ≤ s ∧ s < (n : Int)) ∧ (0 ≤ t ∧ t < (n : Int))) → z = 0 → ∀ g1 : aj_G, frM g g1 → g1 78 0 = 2 → mI sh g1 k n s0 nx ou z tw N q mnx mou mi ix io w v S fp hd hp → Q (.inl (some (0, 0))) sh g1)) (hk0 : ((0 ≤ s ∧ s < (n : Int)) ∧ (0 ≤ t ∧ t < (n : Int))) → z = 1 → ∀ (g1 : aj_G) (u : List Nat), frM g g1 → g1 78 0 = 0 → (wd_least k nx ou s.toNat nx ou t.toNat u ∨ (al_k k nx ou s.toNat t.toNat ∧ u = [])) → mI sh g1 k n s0 nx ou z tw N q mnx mou mi ix io (u) v S fp hd hp → Q (.inl (some (0, (u.length : Int)))) sh g1) : aj_wp nE al al X m_Model_apart (d + 6) 0 0 0 [some (1, 78), some (0, s), some (0, t)] [] sh g Q := by
  have hI0 := hI
  obtain ⟨hM, ⟨m5, ms0, m6, mz, m29, m30, mhd, m31⟩, ⟨m16, mwo, mwl⟩, hu, hs, m20, mv, hT⟩ := hI
  have hk4 := hM.2.2.2.1
  have hn8 := hM.2.2.2.2.1
  refine k_Model_apart hM m6 mz (fun hz => ?_) x1 x2 (fun h => hk1 h _ (frM_th g _) (aj_up_self _ _ _ _) (mI_th hI0 _)) (fun h h2 => hk2 h h2 _ (frM_th g _) (aj_up_self _ _ _ _) (mI_th hI0 _)) (fun s1 t1 u hs1 ht1 hsn htn hz hl hr => ?_)
  · obtain ⟨⟨sf, a1⟩, -⟩ := hs hz
    exact a1.2.1
  · subst hs1 ht1
    simp only [Int.toNat_natCast] at hk0
    have hok : wd_ok k u := by
      rcases hr with h | ⟨-, rfl⟩
      · exact h.1
      · exact wd_ok_nil k
    refine hk0 (by omega) hz _ u (fun r' h => by rw [aj_up_ne _ _ _ (by omega), aj_up_ne _ _ _ (by omega)]) (by rw [aj_up_ni _ _ _ (by omega), aj_up_self]) hr ?_
    exact mI_num hI0 (fun r' h => by rw [aj_up_ne _ _ _ (by omega), aj_up_ne _ _ _ (by omega)]) (fun j a b c d e f => by rw [aj_up_ni _ _ _ f, aj_up_ni _ _ _ a]) (by rw [aj_up_ni _ _ _ (by omega), aj_up_ni _ _ _ (by omega)]; exact m29) ⟨by rw [aj_up_ni _ _ _ (by omega), aj_up_ni _ _ _ (by omega)]; exact m30, mhd, fun h => by rw [aj_up_ni _ _ _ (by omega), aj_up_ni _ _ _ (by omega)]; exact m31 h⟩ ⟨aj_up_self _ _ _ _, hok, by omega⟩ (mI_hh hI0)

set_option maxHeartbeats 4000000 in
theorem M_word {al : Prop} {X : Option (Nat × (Int → Int))} {d : Nat} {sh : List aj_S} {g : aj_G} {Q : aj_R → List aj_S → aj_G → Prop} {k n s0 : Nat} {nx ou : Nat → Nat → Nat} {z : Int} {tw : Nat → Nat} {N : Nat} {q : nb_T} {mnx mou : Nat → Nat → Nat} {mi : Nat} {ix io : Nat → Nat → Nat} {w : List Nat} {v : Int} {S : List Nat → Prop} {fp hd hp : Int} (hI : mI sh g k n s0 nx ou z tw N q mnx mou mi ix io w v S fp hd hp) {s : Int} (x1 : aj_I s) (hk : ∀ g1 : aj_G, frM g g1 → mI sh g1 k n s0 nx ou z tw N q mnx mou mi ix io w v S fp hd hp → Q (.inl (some (0, wordV w s))) sh g1) : aj_wp nE al al X m_Model_word (d + 6) 0 0 0 [some (1, 78), some (0, s)] [] sh g Q := by
  have hI0 := hI
  obtain ⟨hM, ⟨m5, ms0, m6, mz, m29, m30, mhd, m31⟩, ⟨m16, mwo, mwl⟩, hu, hs, m20, mv, hT⟩ := hI
  have hk4 := hM.2.2.2.1
  have hn8 := hM.2.2.2.2.1
  refine k_Model_word hM.1 m16 (fun i hi => by have := mwo i hi; omega) mwl x1 (fun i hi h => ?_) (fun h => ?_)
  · have hh := hk _ (frM_th g 0) (mI_th hI0 0)
    unfold wordV at hh
    rw [if_pos (by omega), hi, Int.toNat_natCast, ltr_eq h] at hh
    exact hh
  · have hh := hk _ (frM_th g 0) (mI_th hI0 0)
    unfold wordV at hh
    rw [if_neg h] at hh
    exact hh

set_option maxHeartbeats 4000000 in
theorem M_family {al : Prop} {X : Option (Nat × (Int → Int))} {d : Nat} {sh : List aj_S} {g : aj_G} {Q : aj_R → List aj_S → aj_G → Prop} {k n s0 : Nat} {nx ou : Nat → Nat → Nat} {z : Int} {tw : Nat → Nat} {N : Nat} {q : nb_T} {mnx mou : Nat → Nat → Nat} {mi : Nat} {ix io : Nat → Nat → Nat} {w : List Nat} {v : Int} {S : List Nat → Prop} {fp hd hp : Int} (hI : mI sh g k n s0 nx ou z tw N q mnx mou mi ix io w v S fp hd hp) {s y : Int} (x1 : aj_I s) (x2 : aj_I y) (hk : ∀ g1 : aj_G, frM g g1 → mI sh g1 k n s0 nx ou z tw N q mnx mou mi ix io w v S fp hd hp → Q (.inl (some (0, famV z (FC k N mnx mou) (FW k N mnx mou) s y))) sh g1) : aj_wp nE al al X m_Model_family (d + 6) 0 0 0 [some (1, 78), some (0, s), some (0, y)] [] sh g Q := by
  have hI0 := hI
  obtain ⟨hM, ⟨m5, ms0, m6, mz, m29, m30, mhd, m31⟩, ⟨m16, mwo, mwl⟩, hu, hs, m20, mv, hT⟩ := hI
  have hk4 := hM.2.2.2.1
  have hn8 := hM.2.2.2.2.1
  have hh := fun (x : Int) => hk _ (frM_th g x) (mI_th hI0 x)
  unfold famV at hh
  refine k_Model_family (k := k) (c := FC k N mnx mou) (F := FW k N mnx mou) hM.1 m6 mz (fun hz => ?_) (by omega) x1 x2 (fun h => ?_) (fun h1 h2 => ?_) (fun w1 h1 h2 h3 h4 => ?_) (fun w1 i1 h1 h2 h3 h4 h5 => ?_) (fun w1 h1 h2 h3 h4 h5 => ?_)
  · obtain ⟨⟨sf, a1⟩, -⟩ := hs hz
    exact a1.2.2.2.1
  · have h2 := hh 0
    by_cases hz : z = 1
    · rw [if_pos hz, if_neg (by omega), if_neg (by omega)] at h2
      exact h2
    · rw [if_neg hz] at h2
      exact h2
  · have h3 := hh 0
    rw [if_pos h1, if_pos h2] at h3
    exact h3
  · have h5 := hh 0
    subst h1
    rw [if_pos h2, if_neg (by omega), if_pos (by omega), if_pos h4, Int.toNat_natCast] at h5
    exact h5
  · have h6 := hh 0
    subst h1 h2
    rw [if_pos h3, if_neg (by omega), if_pos (by omega), if_neg (by omega), Int.toNat_natCast] at h6
    unfold wordV at h6
    rw [if_pos (by omega), Int.toNat_natCast, ltr_eq h5] at h6
    exact h6
  · have h6 := hh 0
    subst h1
    rw [if_pos h2, if_neg (by omega), if_pos (by omega), if_neg h4, Int.toNat_natCast] at h6
    unfold wordV at h6
    rw [if_neg h5] at h6
    exact h6

set_option maxHeartbeats 4000000 in
theorem M_own {al : Prop} {X : Option (Nat × (Int → Int))} {d : Nat} {sh : List aj_S} {g : aj_G} {Q : aj_R → List aj_S → aj_G → Prop} {k n s0 : Nat} {nx ou : Nat → Nat → Nat} {z : Int} {tw : Nat → Nat} {N : Nat} {q : nb_T} {mnx mou : Nat → Nat → Nat} {mi : Nat} {ix io : Nat → Nat → Nat} {w : List Nat} {v : Int} {S : List Nat → Prop} {fp hd hp : Int} (hI : mI sh g k n s0 nx ou z tw N q mnx mou mi ix io w v S fp hd hp) {s y : Int} (x1 : aj_I s) (x2 : aj_I y) (hk : ∀ g1 : aj_G, frM g g1 → mI sh g1 k n s0 nx ou z tw N q mnx mou mi ix io w v S fp hd hp → Q (.inl (some (0, ownV z N (FO k N mnx mou) s y))) sh g1) : aj_wp nE al al X m_Model_own (d + 6) 0 0 0 [some (1, 78), some (0, s), some (0, y)] [] sh g Q := by
  have hI0 := hI
  obtain ⟨hM, ⟨m5, ms0, m6, mz, m29, m30, mhd, m31⟩, ⟨m16, mwo, mwl⟩, hu, hs, m20, mv, hT⟩ := hI
  have hk4 := hM.2.2.2.1
  have hn8 := hM.2.2.2.2.1
  have hh := fun (x : Int) => hk _ (frM_th g x) (mI_th hI0 x)
  unfold ownV at hh
  refine k_Model_own (N := N) (O := FO k N mnx mou) hM.1 m6 mz (fun hz => ?_) x1 x2 (fun h => ?_) (fun w1 h1 h2 h3 h4 => ?_) (fun w1 i1 h1 h2 h3 h4 h5 => ?_) (fun w1 h1 h2 h3 h4 h5 => ?_)
  · obtain ⟨⟨sf, a1⟩, -, -, -, a5, -⟩ := hs hz
    have hN := nb_le a1.2.2.1.2.1
    refine ⟨by rw [a1.2.2.1.2.2.1, a5], by omega, fun a ha => ⟨(a1.2.2.2.2.2 a ha).1, (a1.2.2.2.2.2 a ha).2, Nat.le_trans (ow_le N) (by omega)⟩⟩
  · have h2 := hh 0
    rw [if_neg h] at h2
    exact h2
  · have h5 := hh 0
    subst h1
    rw [if_pos (by omega), if_pos h4, Int.toNat_natCast] at h5
    exact h5
  · have h6 := hh 0
    subst h1 h2
    rw [if_pos (by omega), if_neg (by omega), Int.toNat_natCast, if_pos (by omega), Int.toNat_natCast] at h6
    exact h6
  · have h6 := hh 0
    subst h1
    rw [if_pos (by omega), if_neg h4, Int.toNat_natCast, if_neg h5] at h6
    exact h6

set_option maxHeartbeats 4000000 in
theorem M_failed {al : Prop} {X : Option (Nat × (Int → Int))} {d : Nat} {sh : List aj_S} {g : aj_G} {Q : aj_R → List aj_S → aj_G → Prop} {k n s0 : Nat} {nx ou : Nat → Nat → Nat} {z : Int} {tw : Nat → Nat} {N : Nat} {q : nb_T} {mnx mou : Nat → Nat → Nat} {mi : Nat} {ix io : Nat → Nat → Nat} {w : List Nat} {v : Int} {S : List Nat → Prop} {fp hd hp : Int} (hI : mI sh g k n s0 nx ou z tw N q mnx mou mi ix io w v S fp hd hp)  (hk : ∀ g1 : aj_G, frM g g1 → mI sh g1 k n s0 nx ou z tw N q mnx mou mi ix io w v S fp hd hp → Q (.inl (some (0, fp))) sh g1) : aj_wp nE al al X m_Model_failed (d + 6) 0 0 0 [some (1, 78)] [] sh g Q := by
  have hI0 := hI
  obtain ⟨hM, ⟨m5, ms0, m6, mz, m29, m30, mhd, m31⟩, ⟨m16, mwo, mwl⟩, hu, hs, m20, mv, hT⟩ := hI
  have hk4 := hM.2.2.2.1
  have hn8 := hM.2.2.2.2.1
  refine k_Model_failed hM.1 ?_
  rw [m29]
  exact hk _ (frM_th g 0) (mI_th hI0 0)

