/-! Reduction.isAccess, Suite.build -/
/-- what the reduction left -/
def suR (sh : List aj_S) (g : aj_G) (k n s0 : Nat) (nx ou : Nat → Nat → Nat) (tw : Nat → Nat) (N : Nat) (q : nb_T) : Prop := rds sh g ∧ rd_P g k n s0 nx ou tw N q
theorem suR_of {sh : List aj_S} {g g1 : aj_G} {k n s0 : Nat} {nx ou : Nat → Nat → Nat} {tw : Nat → Nat} {N : Nat} {q : nb_T} (h : suR sh g k n s0 nx ou tw N q) (e : ∀ r', r' < 13 → g1 r' = g r') : suR sh g1 k n s0 nx ou tw N q := by
  refine ⟨rds_of h.1 (e 4 (by omega)), ?_⟩
  have h2 := h.2
  unfold rd_P at h2 ⊢
  rw [e 10 (by omega), e 7 (by omega), e 8 (by omega), e 9 (by omega), e 11 (by omega), e 12 (by omega), e 5 (by omega)]
  exact h2
theorem ac_rn {k n s0 : Nat} {nx ou mnx mou : Nat → Nat → Nat} {tw : Nat → Nat} {N j : Nat} {q : nb_T} (hI : nb_I k n nx tw s0 j q) (hN : q.1 = N) (hsm : smm k n nx ou tw N q mnx mou) : ∀ a, a < N → rn mnx 0 (ac q a) = a := by
  intro a
  induction a using Nat.strongRecOn with
  | ind a ih =>
    intro ha
    rcases Nat.eq_zero_or_pos a with z | z
    · rw [z]; rfl
    · obtain ⟨h1, h2, h3⟩ := hI.2.2.2.2.1 a z (by omega)
      rw [ac_s (N := N) (fun b b0 b1 => (hI.2.2.2.2.1 b b0 (by omega)).1) z ha]
      show mnx (rn mnx 0 (ac q (q.2.2.1 a))) (q.2.2.2 a) = a
      rw [ih _ h1 (by omega)]
      obtain ⟨s1, s2, -⟩ := hsm (q.2.2.1 a) (q.2.2.2 a) (by omega) h2
      exact hI.2.2.2.1 _ _ (by omega) (by omega) (by rw [s2, h3])
theorem ac_is {k n s0 : Nat} {nx ou mnx mou : Nat → Nat → Nat} {tw : Nat → Nat} {N j : Nat} {q : nb_T} (hI : nb_I k n nx tw s0 j q) (hN : q.1 = N) (hsm : smm k n nx ou tw N q mnx mou) {i a : Nat} (hi : i < N) (ha : a < k) : (∃ t, t < N ∧ ac q t = a :: ac q i) ↔ (0 < mnx i a ∧ q.2.2.1 (mnx i a) = i ∧ q.2.2.2 (mnx i a) = a) := by
  have hs := hsm i a hi ha
  have hst : ∀ b, 0 < b → b < N → ac q b = q.2.2.2 b :: ac q (q.2.2.1 b) := fun b b0 b1 => ac_s (N := N) (fun b b0 b1 => (hI.2.2.2.2.1 b b0 (by omega)).1) b0 b1
  constructor
  · rintro ⟨t, t1, t2⟩
    have ht0 : 0 < t := by
      rcases Nat.eq_zero_or_pos t with z | z
      · rw [z, ac_0] at t2; cases t2
      · exact z
    have hr := ac_rn hI hN hsm t t1
    rw [t2] at hr
    have hr2 : mnx i a = t := by
      rw [← hr]
      show mnx i a = mnx (rn mnx 0 (ac q i)) a
      rw [ac_rn hI hN hsm i hi]
    rw [hr2]
    rw [hst t ht0 t1] at t2
    obtain ⟨c1, c2⟩ := List.cons.inj t2
    have h1 := ac_rn hI hN hsm _ (show q.2.2.1 t < N from by have := (hI.2.2.2.2.1 t ht0 (by omega)).1; omega)
    rw [c2, ac_rn hI hN hsm i hi] at h1
    exact ⟨ht0, h1.symm, c1⟩
  · rintro ⟨h0, h1, h2⟩
    exact ⟨mnx i a, hs.1, by rw [hst _ h0 hs.1, h1, h2]⟩
set_option maxHeartbeats 4000000 in
theorem k_Reduction_isAccess {al : Prop} {X : Option (Nat × (Int → Int))} {d : Nat} {sh : List aj_S} {g : aj_G} {Q : aj_R → List aj_S → aj_G → Prop} {L k N : Nat} {mnx mou : Nat → Nat → Nat} (hC : suC sh g L k N mnx mou) {n s0 : Nat} {nx ou : Nat → Nat → Nat} {tw : Nat → Nat} {q : nb_T} (hR : suR sh g k n s0 nx ou tw N q) (hsm : smm k n nx ou tw N q mnx mou) {i a : Nat} (hi : i < N) (ha : a < k) (hk1 : (∃ t, t < N ∧ ac q t = a :: ac q i) → Q (.inl (some (0, 1))) sh g) (hk0 : (∀ t, t < N → ac q t ≠ a :: ac q i) → Q (.inl (some (0, 0))) sh g) : aj_wp nE al al X m_Reduction_isAccess (d + 1) 0 0 0 [some (1, 4), some (0, (i : Int)), some (0, (a : Int)), none] [] sh g Q := by
  have hN8 := hC.2.2.2
  have hk3 := hC.2.1
  have hI := hR.2.2.2.2.1
  have hN := hR.2.2.2.1
  have his := ac_is hI hN hsm hi ha
  have ht := (hsm i a hi ha).1
  have hev : (mnx i a = 0 ∧ g 8 (mnx i a : Nat) = -1 ∧ g 9 (mnx i a : Nat) = -1) ∨ (0 < mnx i a ∧ g 8 (mnx i a : Nat) = (q.2.2.1 (mnx i a) : Nat) ∧ g 9 (mnx i a : Nat) = (q.2.2.2 (mnx i a) : Nat)) := by
    have h6 := (hR.2.2.2.2.2.2.1 (mnx i a) ht).2
    rcases Nat.eq_zero_or_pos (mnx i a) with z | z
    · exact Or.inl ⟨z, h6.1 z⟩
    · exact Or.inr ⟨z, h6.2 z⟩
  have hlt : 0 < mnx i a → q.2.2.1 (mnx i a) < N ∧ q.2.2.2 (mnx i a) < k := fun z => by
    have := hI.2.2.2.2.1 (mnx i a) z (by omega)
    exact ⟨by omega, this.2.1⟩
  have hI8 : aj_I (g 8 (mnx i a : Nat)) := by
    rcases hev with ⟨-, e, -⟩ | ⟨z, e, -⟩
    · rw [e]; unfold aj_I; omega
    · rw [e]; have := (hlt z).1; unfold aj_I; omega
  have hI9 : aj_I (g 9 (mnx i a : Nat)) := by
    rcases hev with ⟨-, -, e⟩ | ⟨z, -, e⟩
    · rw [e]; unfold aj_I; omega
    · rw [e]; have := (hlt z).2; unfold aj_I; omega
  refine aj_aload_n 0 1 (dx d_Reduction_isAccess 0 rfl) rfl rfl rfl ?_
  refine aj_getfv (v := 10) 4 fl_Reduction_32 (dx d_Reduction_isAccess 1 rfl) rfl hR.1.1 hR.1.2.1.1 ?_
  refine aj_iload_n 1 5 (dx d_Reduction_isAccess 2 rfl) rfl rfl rfl ?_
  refine aj_iload_n 2 6 (dx d_Reduction_isAccess 3 rfl) rfl rfl rfl ?_
  refine aj_callV2 9 cl_Reduction_50 (dx d_Reduction_isAccess 4 rfl) rfl rfl rfl rfl rfl rfl hC.1.1.1 (s_next hC.1 hi ha ?_)
  change aj_wp _ _ _ _ _ _ _ _ _ _ _ _ _ _
  refine aj_istore_n 3 10 (dx d_Reduction_isAccess 5 rfl) rfl rfl rfl ?_
  simp only [List.set]
  refine aj_aload_n 0 11 (dx d_Reduction_isAccess 6 rfl) rfl rfl rfl ?_
  refine aj_getfv (v := 8) 14 fl_Reduction_21 (dx d_Reduction_isAccess 7 rfl) rfl hR.1.1 hR.1.2.1.2.2.2.2.1 ?_
  refine aj_iload_n 3 15 (dx d_Reduction_isAccess 8 rfl) rfl rfl rfl ?_
  refine aj_iald 16 (dx d_Reduction_isAccess 9 rfl) rfl hR.1.2.2.2.2.2.1 rfl (by omega) (by omega) ?_
  refine aj_iload_n 1 17 (dx d_Reduction_isAccess 10 rfl) rfl rfl rfl ?_
  refine aj_icmp_ne 34 20 (dx d_Reduction_isAccess 11 rfl) rfl rfl hI8 (by unfold aj_I; omega) (fun h17 => ?_) (fun h17 => ?_)
  · refine aj_iconst 35 (dx d_Reduction_isAccess 20 rfl) rfl ?_
    refine aj_zret (dx d_Reduction_isAccess 21 rfl) rfl (by omega) id ?_
    exact hk0 (fun t t1 t2 => by
      obtain ⟨x1, x2, x3⟩ := his.mp ⟨t, t1, t2⟩
      rcases hev with ⟨z, -⟩ | ⟨-, z1, z2⟩
      · omega
      · exact h17 (by rw [z1, x2]))
  · refine aj_aload_n 0 21 (dx d_Reduction_isAccess 12 rfl) rfl rfl rfl ?_
    refine aj_getfv (v := 9) 24 fl_Reduction_24 (dx d_Reduction_isAccess 13 rfl) rfl hR.1.1 hR.1.2.1.2.2.2.2.2 ?_
    refine aj_iload_n 3 25 (dx d_Reduction_isAccess 14 rfl) rfl rfl rfl ?_
    refine aj_iald 26 (dx d_Reduction_isAccess 15 rfl) rfl hR.1.2.2.2.2.2.2.1 rfl (by omega) (by omega) ?_
    refine aj_iload_n 2 27 (dx d_Reduction_isAccess 16 rfl) rfl rfl rfl ?_
    refine aj_icmp_ne 34 30 (dx d_Reduction_isAccess 17 rfl) rfl rfl hI9 (by unfold aj_I; omega) (fun h27 => ?_) (fun h27 => ?_)
    · refine aj_iconst 35 (dx d_Reduction_isAccess 20 rfl) rfl ?_
      refine aj_zret (dx d_Reduction_isAccess 21 rfl) rfl (by omega) id ?_
      exact hk0 (fun t t1 t2 => by
        obtain ⟨x1, x2, x3⟩ := his.mp ⟨t, t1, t2⟩
        rcases hev with ⟨z, -⟩ | ⟨-, z1, z2⟩
        · omega
        · exact h27 (by rw [z2, x3]))
    · refine aj_iconst 31 (dx d_Reduction_isAccess 18 rfl) rfl ?_
      refine aj_goto 35 (dx d_Reduction_isAccess 19 rfl) rfl ?_
      refine aj_zret (dx d_Reduction_isAccess 21 rfl) rfl (by omega) id ?_
      exact hk1 (his.mpr (by
        rcases hev with ⟨z, z1, -⟩ | ⟨z, z1, z2⟩
        · omega
        · exact ⟨z, by omega, by omega⟩))
/-- build writes the suite and nothing else -/
def bF (g g1 : aj_G) (r : Int) : Prop := (∀ r', r' < r ∨ r + 9 < r' → g1 r' = g r') ∧ ∀ j, j ≤ 11 → g1 r j = g r j
theorem bF_refl (g : aj_G) (r : Int) : bF g g r := ⟨fun _ _ => rfl, fun _ _ => rfl⟩
theorem bF_trans {g g1 g2 : aj_G} {r : Int} (h : bF g g1 r) (h' : bF g1 g2 r) : bF g g2 r := ⟨fun r' a => (h'.1 r' a).trans (h.1 r' a), fun j a => (h'.2 j a).trans (h.2 j a)⟩
theorem bF_g {g g1 : aj_G} {r : Int} (h : gF g g1 r) : bF g g1 r := ⟨fun r' a => h.1 r' (by omega), fun j _ => h.2 j (by omega) (by omega)⟩
theorem bF_o {g g1 : aj_G} {r : Int} (h : oF g g1 r) : bF g g1 r := ⟨fun r' a => h.1 r' (by omega) (by omega) (by omega), fun j _ => h.2 j (by omega)⟩
theorem bF_7 {g g1 : aj_G} {r : Int} (h : bF g g1 r) (i x : Int) : bF g (aj_up g1 (r + 7) i x) r := ⟨fun r' a => by rw [aj_up_ne _ _ _ (by omega)]; exact h.1 r' a, fun j a => by rw [aj_up_ne _ _ _ (by omega)]; exact h.2 j a⟩
theorem bF_s {sh : List aj_S} {g g1 : aj_G} {r : Int} {k : Nat} (hs : sus sh g r k) (h : bF g g1 r) : sus sh g1 r k := sus_of hs (fun j hj => h.2 j hj)
theorem bF_C {sh : List aj_S} {g g1 : aj_G} {r : Int} {L k N : Nat} {mnx mou : Nat → Nat → Nat} (hr : r = 58 ∨ r = 68) (hC : suC sh g L k N mnx mou) (h : bF g g1 r) : suC sh g1 L k N mnx mou := suC_of hC (fun r' _ => h.1 r' (by omega))
theorem bF_f {sh : List aj_S} {g g1 : aj_G} {r : Int} {k N cf : Nat} {F : Nat → List Nat} {O : Nat → ow_T} (hr : r = 58 ∨ r = 68) (hN : N ≤ 8) (h : suF sh g k N cf F O) (e : bF g g1 r) : suF sh g1 k N cf F O := suF_of h hN (fun r' _ => e.1 r' (by omega))
theorem bF_R {sh : List aj_S} {g g1 : aj_G} {r : Int} {k n s0 : Nat} {nx ou : Nat → Nat → Nat} {tw : Nat → Nat} {N : Nat} {q : nb_T} (hr : r = 58 ∨ r = 68) (h : suR sh g k n s0 nx ou tw N q) (e : bF g g1 r) : suR sh g1 k n s0 nx ou tw N q := suR_of h (fun r' _ => e.1 r' (by omega))
/-- the nodes of the access words -/
def aI (g1 : aj_G) (r : Int) (q : nb_T) (i c1 : Nat) (W1 : Nat → List Nat) (z1 : Int) : Prop := ∀ j : Nat, j < i → ∃ p : Nat, g1 (r + 7) j = p ∧ p < c1 ∧ (z1 = 1 → W1 p = ac q j)
theorem aI_ex {g1 g2 : aj_G} {r : Int} {q : nb_T} {i c1 c2 : Nat} {W1 W2 : Nat → List Nat} {z1 z2 : Int} (h : aI g1 r q i c1 W1 z1) (hx : tr_ex c1 W1 c2 W2) (hz : z2 = 1 → z1 = 1) (e : g2 (r + 7) = g1 (r + 7)) : aI g2 r q i c2 W2 z2 := fun j hj => by
  obtain ⟨p, p1, p2, p3⟩ := h j hj
  exact ⟨p, by rw [e]; exact p1, Nat.lt_of_lt_of_le p2 hx.1, fun hz2 => by rw [hx.2 p p2]; exact p3 (hz hz2)⟩
theorem tS_7 {g : aj_G} {r i x : Int} {k c : Nat} {W : Nat → List Nat} {mnx : Nat → Nat → Nat} {P : List Nat → Prop} {z : Int} (h : tS g r k c W mnx P z) : tS (aj_up g (r + 7) i x) r k c W mnx P z := tS_of h (by rw [aj_up_ne _ _ _ (by omega)]) (by rw [aj_up_ne _ _ _ (by omega)]) (fun j hj => aj_up_ne _ _ _ (by omega))
theorem tS_root {g g1 : aj_G} {r : Int} {k : Nat} {mnx : Nat → Nat → Nat} {P : List Nat → Prop} (hr : r = 58 ∨ r = 68) (hP : P []) (h14 : g r 14 = 1) (h : an_P g g1 r k 0 (-1) (-1) 0) : tS g1 r k 1 (fun _ => []) mnx P 1 := by
  obtain ⟨a1, a2, a3, a4, ⟨b1, b2, b3, b4⟩, a5, a6⟩ := h
  refine ⟨⟨by rw [a3]; rfl, fun p hp => ?_, fun p h0 hp => by omega, fun p a hp ha => Or.inr ⟨fun q _ e => absurd e (by simp), ?_⟩⟩, ⟨by omega, rfl, fun p _ => wd_ok_nil k, fun p h0 hp => by omega, fun p p' h1 h2 _ => by omega⟩, fun p _ => hP, by omega, by rw [a2 14 (by omega)]; exact h14, Or.inl rfl⟩
  · obtain rfl : p = 0 := by omega
    exact ⟨by rw [b3, if_pos rfl]; rfl, by rw [b4]; rfl⟩
  · obtain rfl : p = 0 := by omega
    exact a6 a ha
set_option maxHeartbeats 16000000 in
theorem k_bd_1 {al : Prop} {X : Option (Nat × (Int → Int))} {d : Nat} {sh : List aj_S} {g : aj_G} {Q : aj_R → List aj_S → aj_G → Prop} {r : Int} {L k N : Nat} {mnx mou : Nat → Nat → Nat} (hr : r = 58 ∨ r = 68) (hs : sus sh g r k) (hC : suC sh g L k N mnx mou) {cf : Nat} {F : Nat → List Nat} {O : Nat → ow_T} (hf : suF sh g k N cf F O) {n s0 : Nat} {nx ou : Nat → Nat → Nat} {tw : Nat → Nat} {q : nb_T} (hR : suR sh g k n s0 nx ou tw N q) (hsm : smm k n nx ou tw N q mnx mou) {m : Nat} (hm2 : m ≤ 2) {me : Int} (hme : me = 0 ∨ me = 1) (hacc : ∀ i, i < N → wd_ok k (ac q i)) (hgo : ∀ (g1 : aj_G) (c1 : Nat) (W1 : Nat → List Nat) (z1 : Int) (i3 : Int), tS g1 r k c1 W1 mnx (su_P k N m me (ac q) F cf O mnx) z1 → bF g g1 r → g1 r 13 = 0 → aI g1 r q N c1 W1 z1 → (z1 = 1 → ∀ j, j < N → ∀ y zz, wd_ok k y → su_z True m F cf O mnx (ac q j) y zz → pr c1 W1 (zz ++ (y ++ ac q j))) → aj_wp nE al al X m_Suite_build (d + 5) 0 0 94 [some (1, r), some (0, me), some (0, (m : Int)), some (0, i3), none] [] sh g1 Q) : ∀ (n1 i : Nat) (g1 : aj_G) (c1 : Nat) (W1 : Nat → List Nat) (z1 : Int), i ≤ N → N - i = n1 → tS g1 r k c1 W1 mnx (su_P k N m me (ac q) F cf O mnx) z1 → bF g g1 r → g1 r 13 = 0 → aI g1 r q i c1 W1 z1 → (z1 = 1 → ∀ j, j < i → ∀ y zz, wd_ok k y → su_z True m F cf O mnx (ac q j) y zz → pr c1 W1 (zz ++ (y ++ ac q j))) →
    aj_wp nE al al X m_Suite_build (d + 5) 0 0 24 [some (1, r), some (0, me), some (0, (m : Int)), some (0, (i : Int)), none] [] sh g1 Q := by
  have hN8 := hC.2.2.2
  have hk3 := hC.2.1
  have hI := hR.2.2.2.2.1
  have hN := hR.2.2.2.1
  intro n1
  induction n1 using Nat.strongRecOn with
  | ind n1 ih =>
    intro i g1 c1 W1 z1 hi hnn hT1 hF1 h13 hA hcv
    have hs1 := bF_s hs hF1
    have hC1 := bF_C hr hC hF1
    have hf1 := bF_f hr hC.2.2.2 hf hF1
    have hR1 := bF_R hr hR hF1
    refine aj_iload_n 3 25 (dx d_Suite_build 16 rfl) rfl rfl rfl ?_
    refine aj_aload_n 0 26 (dx d_Suite_build 17 rfl) rfl rfl rfl ?_
    refine aj_getfv (v := 10) 29 fl_Suite_61 (dx d_Suite_build 18 rfl) rfl hs1.1 (by first | exact (sf_machine hs1) | ((repeat (first | rw [aj_up_ne _ _ _ (by omega)] | rw [aj_up_ni _ _ _ (by omega)])); exact (sf_machine hs1))) ?_
    refine aj_getfv (v := (N : Int)) 32 fl_Suite_90 (dx d_Suite_build 19 rfl) rfl hC1.1.1.1 hC1.1.2.2.1 ?_
    refine aj_icmp_ge 94 35 (dx d_Suite_build 20 rfl) rfl rfl (by unfold aj_I; omega) (by unfold aj_I; omega) (fun h32 => ?_) (fun h32 => ?_)
    · exact hgo g1 c1 W1 z1 _ hT1 hF1 h13 (by rw [show i = N by omega] at hA; exact hA) (by rw [show i = N by omega] at hcv; exact hcv)
    · have hiN : i < N := by omega
      refine aj_aload_n 0 36 (dx d_Suite_build 21 rfl) rfl rfl rfl ?_
      refine aj_getfv (v := (r + 7)) 39 fl_Suite_30 (dx d_Suite_build 22 rfl) rfl hs1.1 (by first | exact (sf_access hs1) | ((repeat (first | rw [aj_up_ne _ _ _ (by omega)] | rw [aj_up_ni _ _ _ (by omega)])); exact (sf_access hs1))) ?_
      refine aj_iload_n 3 40 (dx d_Suite_build 23 rfl) rfl rfl rfl ?_
      refine aj_iload_n 3 41 (dx d_Suite_build 24 rfl) rfl rfl rfl ?_
      refine aj_if_ne 48 44 (dx d_Suite_build 25 rfl) rfl rfl (by unfold aj_I; omega) (fun h41 => ?_) (fun h41 => ?_)
      · have hi0 : 0 < i := by omega
        obtain ⟨ea, eb⟩ := (hR1.2.2.2.2.2.2.1 i hiN).2.2 hi0
        obtain ⟨n1, n2, n3⟩ := hI.2.2.2.2.1 i hi0 (by omega)
        obtain ⟨p, p1, p2, p3⟩ := hA (q.2.2.1 i) n1
        have hac : ac q i = q.2.2.2 i :: ac q (q.2.2.1 i) := ac_s (N := N) (fun b b0 b1 => (hI.2.2.2.2.1 b b0 (by omega)).1) hi0 hiN
        refine aj_aload_n 0 49 (dx d_Suite_build 28 rfl) rfl rfl rfl ?_
        refine aj_aload_n 0 50 (dx d_Suite_build 29 rfl) rfl rfl rfl ?_
        refine aj_getfv (v := (r + 7)) 53 fl_Suite_30 (dx d_Suite_build 30 rfl) rfl hs1.1 (by first | exact (sf_access hs1) | ((repeat (first | rw [aj_up_ne _ _ _ (by omega)] | rw [aj_up_ni _ _ _ (by omega)])); exact (sf_access hs1))) ?_
        refine aj_aload_n 0 54 (dx d_Suite_build 31 rfl) rfl rfl rfl ?_
        refine aj_getfv (v := 4) 57 fl_Suite_47 (dx d_Suite_build 32 rfl) rfl hs1.1 (by first | exact (sf_reduction hs1) | ((repeat (first | rw [aj_up_ne _ _ _ (by omega)] | rw [aj_up_ni _ _ _ (by omega)])); exact (sf_reduction hs1))) ?_
        refine aj_getfv (v := 8) 60 fl_Suite_93 (dx d_Suite_build 33 rfl) rfl hR1.1.1 hR1.1.2.1.2.2.2.2.1 ?_
        refine aj_iload_n 3 61 (dx d_Suite_build 34 rfl) rfl rfl rfl ?_
        refine aj_iald 62 (dx d_Suite_build 35 rfl) rfl hR1.1.2.2.2.2.2.1 rfl (by omega) (by omega) ?_
        rw [ea]
        refine aj_iald 63 (dx d_Suite_build 36 rfl) rfl (ss_access hs1) rfl (by omega) (by omega) ?_
        rw [p1]
        refine aj_aload_n 0 64 (dx d_Suite_build 37 rfl) rfl rfl rfl ?_
        refine aj_getfv (v := 4) 67 fl_Suite_47 (dx d_Suite_build 38 rfl) rfl hs1.1 (by first | exact (sf_reduction hs1) | ((repeat (first | rw [aj_up_ne _ _ _ (by omega)] | rw [aj_up_ni _ _ _ (by omega)])); exact (sf_reduction hs1))) ?_
        refine aj_getfv (v := 9) 70 fl_Suite_96 (dx d_Suite_build 39 rfl) rfl hR1.1.1 hR1.1.2.1.2.2.2.2.2 ?_
        refine aj_iload_n 3 71 (dx d_Suite_build 40 rfl) rfl rfl rfl ?_
        refine aj_iald 72 (dx d_Suite_build 41 rfl) rfl hR1.1.2.2.2.2.2.2.1 rfl (by omega) (by omega) ?_
        rw [eb]
        refine aj_callV2 75 cl_Suite_97 (dx d_Suite_build 42 rfl) rfl rfl rfl rfl rfl rfl hs1.1 (k_Suite_enter hr hs1 hC1 hT1 p2 n2 (fun h => by rw [p3 h, ← hac]; exact ⟨[], ac q i, [], [], rfl, wd_ok_nil k, Or.inl ⟨⟨i, hiN, rfl⟩, Or.inl ⟨trivial, Nat.zero_le _, Or.inl rfl⟩⟩⟩) (fun g2 c2 W2 z2 q2 hT2 hF2 hX2 hq2 hw2 => ?_))
        · change aj_wp _ _ _ _ _ _ _ _ _ _ _ _ _ _
          have hs2 := eF_s hs1 hF2
          refine aj_iast 76 (dx d_Suite_build 43 rfl) rfl (ss_access hs2) rfl (by omega) (by omega) ?_
          have hFb : bF g (aj_up g2 (r + 7) (i : Int) (q2 : Int)) r := bF_7 (bF_trans hF1 (bF_g (gF_e hF2))) _ _
          have hTb := tS_7 (i := (i : Int)) (x := (q2 : Int)) hT2
          have h13b : aj_up g2 (r + 7) (i : Int) (q2 : Int) r 13 = 0 := by rw [aj_up_ne _ _ _ (by omega), hF2.2 13 (by omega) (by omega)]; exact h13
          have hpc := hq2
          have hpw : z2 = 1 → W2 q2 = ac q i := fun h => by rw [(hw2 h).2, p3 (hw2 h).1, hac]
          have hAi : aI (aj_up g2 (r + 7) (i : Int) (q2 : Int)) r q (i + 1) c2 W2 z2 := fun j hj => by
            by_cases e : j = i
            · exact ⟨q2, by rw [e, aj_up_self], hq2, fun h => by rw [e]; exact hpw h⟩
            · obtain ⟨p', x1, x2, x3⟩ := aI_ex hA hX2 (fun h => (hw2 h).1) (hF2.1 (r + 7) (by omega)) j (by omega)
              exact ⟨p', by rw [aj_up_ni _ _ _ (by omega)]; exact x1, x2, x3⟩
          have hcb : z2 = 1 → ∀ j, j < i → ∀ y zz, wd_ok k y → su_z True m F cf O mnx (ac q j) y zz → pr c2 W2 (zz ++ (y ++ ac q j)) := fun h j hj y zz y1 y2 => pr_ex hX2 (hcv (hw2 h).1 j hj y zz y1 y2)
          have hs3 := bF_s hs hFb
          refine aj_aload_n 0 77 (dx d_Suite_build 44 rfl) rfl rfl rfl ?_
          refine aj_aload_n 0 78 (dx d_Suite_build 45 rfl) rfl rfl rfl ?_
          refine aj_getfv (v := (r + 7)) 81 fl_Suite_30 (dx d_Suite_build 46 rfl) rfl hs3.1 (by first | exact (sf_access hs3) | ((repeat (first | rw [aj_up_ne _ _ _ (by omega)] | rw [aj_up_ni _ _ _ (by omega)])); exact (sf_access hs3))) ?_
          refine aj_iload_n 3 82 (dx d_Suite_build 47 rfl) rfl rfl rfl ?_
          refine aj_iald 83 (dx d_Suite_build 48 rfl) rfl (ss_access hs3) rfl (by omega) (by omega) ?_
          rw [aj_up_self]
          refine aj_iload_n 2 84 (dx d_Suite_build 49 rfl) rfl rfl rfl ?_
          refine aj_iconst 85 (dx d_Suite_build 50 rfl) rfl ?_
          refine aj_callV3 88 cl_Suite_100 (dx d_Suite_build 51 rfl) rfl rfl rfl rfl rfl rfl hs3.1 (k_Suite_grow (x := ac q i) (own := 0) hr hs3 (bF_C hr hC hFb) hTb hm2 (fun h y zz y1 y2 u t e => ⟨t, ac q i, y, zz, e, y1, Or.inl ⟨⟨i, hiN, rfl⟩, (suz_cg (iff_of_true rfl trivial)).mp y2⟩⟩) (Or.inl rfl) (bF_f hr hC.2.2.2 hf hFb) hpc hpw (fun g3 c3 W3 z3 hT3 hF3 hX3 hw3 => ?_))
          change aj_wp _ _ _ _ _ _ _ _ _ _ _ _ _ _
          refine aj_iinc 3 91 (dx d_Suite_build 52 rfl) rfl rfl rfl ?_
          simp only [List.set]
          refine aj_goto 24 (dx d_Suite_build 53 rfl) rfl ?_
          rw [show ((i : Nat) : Int) + 1 = ((i + 1 : Nat) : Int) by omega]
          refine ih _ (by omega) (i + 1) g3 c3 W3 z3 (by omega) rfl hT3 (bF_trans hFb (bF_g hF3)) (by rw [hF3.2 13 (by omega) (by omega)]; exact h13b) (fun j hj => ?_) (fun h j hj => ?_)
          · by_cases e : j = i
            · exact aI_ex hAi hX3 (fun h => (hw3 h).1) (hF3.1 _ (by omega)) j (by omega)
            · exact aI_ex hAi hX3 (fun h => (hw3 h).1) (hF3.1 _ (by omega)) j (by omega)
          · by_cases e : j = i
            · rw [e]
              exact fun y zz y1 y2 => (hw3 h).2 y zz y1 ((suz_cg (iff_of_true rfl trivial)).mpr y2)
            · exact fun y zz y1 y2 => pr_ex hX3 (hcb (hw3 h).1 j (by omega) y zz y1 y2)
      · obtain rfl : i = 0 := by omega
        refine aj_iconst 45 (dx d_Suite_build 26 rfl) rfl ?_
        refine aj_goto 75 (dx d_Suite_build 27 rfl) rfl ?_
        refine aj_iast 76 (dx d_Suite_build 43 rfl) rfl (ss_access hs1) rfl (by omega) (by omega) ?_
        have hFb : bF g (aj_up g1 (r + 7) ((0 : Nat) : Int) ((0 : Nat) : Int)) r := bF_7 hF1 _ _
        have hTb := tS_7 (i := ((0 : Nat) : Int)) (x := ((0 : Nat) : Int)) hT1
        have h13b : aj_up g1 (r + 7) ((0 : Nat) : Int) ((0 : Nat) : Int) r 13 = 0 := by rw [aj_up_ne _ _ _ (by omega)]; exact h13
        have hpc : 0 < c1 := hT1.2.1.1
        have hpw : z1 = 1 → W1 0 = ac q 0 := fun h => hT1.2.1.2.1
        have hAi : aI (aj_up g1 (r + 7) ((0 : Nat) : Int) ((0 : Nat) : Int)) r q (0 + 1) c1 W1 z1 := fun j hj => by
          obtain rfl : j = 0 := by omega
          exact ⟨0, by rw [aj_up_self], hpc, hpw⟩
        have hcb : z1 = 1 → ∀ j, j < 0 → ∀ y zz, wd_ok k y → su_z True m F cf O mnx (ac q j) y zz → pr c1 W1 (zz ++ (y ++ ac q j)) := fun _ j hj => absurd hj (Nat.not_lt_zero _)
        have hs3 := bF_s hs hFb
        refine aj_aload_n 0 77 (dx d_Suite_build 44 rfl) rfl rfl rfl ?_
        refine aj_aload_n 0 78 (dx d_Suite_build 45 rfl) rfl rfl rfl ?_
        refine aj_getfv (v := (r + 7)) 81 fl_Suite_30 (dx d_Suite_build 46 rfl) rfl hs3.1 (by first | exact (sf_access hs3) | ((repeat (first | rw [aj_up_ne _ _ _ (by omega)] | rw [aj_up_ni _ _ _ (by omega)])); exact (sf_access hs3))) ?_
        refine aj_iload_n 3 82 (dx d_Suite_build 47 rfl) rfl rfl rfl ?_
        refine aj_iald 83 (dx d_Suite_build 48 rfl) rfl (ss_access hs3) rfl (by omega) (by omega) ?_
        rw [aj_up_self]
        refine aj_iload_n 2 84 (dx d_Suite_build 49 rfl) rfl rfl rfl ?_
        refine aj_iconst 85 (dx d_Suite_build 50 rfl) rfl ?_
        refine aj_callV3 88 cl_Suite_100 (dx d_Suite_build 51 rfl) rfl rfl rfl rfl rfl rfl hs3.1 (k_Suite_grow (x := ac q 0) (own := 0) hr hs3 (bF_C hr hC hFb) hTb hm2 (fun h y zz y1 y2 u t e => ⟨t, ac q 0, y, zz, e, y1, Or.inl ⟨⟨0, hiN, rfl⟩, (suz_cg (iff_of_true rfl trivial)).mp y2⟩⟩) (Or.inl rfl) (bF_f hr hC.2.2.2 hf hFb) hpc hpw (fun g3 c3 W3 z3 hT3 hF3 hX3 hw3 => ?_))
        change aj_wp _ _ _ _ _ _ _ _ _ _ _ _ _ _
        refine aj_iinc 3 91 (dx d_Suite_build 52 rfl) rfl rfl rfl ?_
        simp only [List.set]
        refine aj_goto 24 (dx d_Suite_build 53 rfl) rfl ?_
        rw [show ((0 : Nat) : Int) + 1 = ((0 + 1 : Nat) : Int) by omega]
        refine ih _ (by omega) (0 + 1) g3 c3 W3 z3 (by omega) rfl hT3 (bF_trans hFb (bF_g hF3)) (by rw [hF3.2 13 (by omega) (by omega)]; exact h13b) (fun j hj => ?_) (fun h j hj => ?_)
        · by_cases e : j = 0
          · exact aI_ex hAi hX3 (fun h => (hw3 h).1) (hF3.1 _ (by omega)) j (by omega)
          · exact aI_ex hAi hX3 (fun h => (hw3 h).1) (hF3.1 _ (by omega)) j (by omega)
        · by_cases e : j = 0
          · rw [e]
            exact fun y zz y1 y2 => (hw3 h).2 y zz y1 ((suz_cg (iff_of_true rfl trivial)).mpr y2)
          · exact fun y zz y1 y2 => pr_ex hX3 (hcb (hw3 h).1 j (by omega) y zz y1 y2)
set_option maxHeartbeats 16000000 in
theorem k_bd_2 {al : Prop} {X : Option (Nat × (Int → Int))} {d : Nat} {sh : List aj_S} {g : aj_G} {Q : aj_R → List aj_S → aj_G → Prop} {r : Int} {L k N : Nat} {mnx mou : Nat → Nat → Nat} (hr : r = 58 ∨ r = 68) (hs : sus sh g r k) (hC : suC sh g L k N mnx mou) {cf : Nat} {F : Nat → List Nat} {O : Nat → ow_T} (hf : suF sh g k N cf F O) {n s0 : Nat} {nx ou : Nat → Nat → Nat} {tw : Nat → Nat} {q : nb_T} (hR : suR sh g k n s0 nx ou tw N q) (hsm : smm k n nx ou tw N q mnx mou) {m : Nat} (hm2 : m ≤ 2) {me : Int} (hme : me = 0 ∨ me = 1) (hacc : ∀ i, i < N → wd_ok k (ac q i)) {i : Nat} (hi : i < N) (hgo : ∀ (g1 : aj_G) (c1 : Nat) (W1 : Nat → List Nat) (z1 : Int) (i4 : Int), tS g1 r k c1 W1 mnx (su_P k N m me (ac q) F cf O mnx) z1 → bF g g1 r → g1 r 13 = 0 → aI g1 r q N c1 W1 z1 → (z1 = 1 → ∀ j, j < N → ∀ y zz, wd_ok k y → su_z True m F cf O mnx (ac q j) y zz → pr c1 W1 (zz ++ (y ++ ac q j))) → (z1 = 1 → ∀ j bb, j < N → bb < k → (j < (i + 1) ∨ (j = N ∧ bb < 0)) → (∀ t, t < N → ac q t ≠ bb :: ac q j) → ∀ y zz, wd_ok k y → su_z (me = 0) m F cf O mnx (bb :: ac q j) y zz → pr c1 W1 (zz ++ (y ++ (bb :: ac q j)))) → aj_wp nE al al X m_Suite_build (d + 5) 0 0 168 [some (1, r), some (0, me), some (0, (m : Int)), some (0, (i : Int)), some (0, i4)] [] sh g1 Q) : ∀ (n1 b : Nat) (g1 : aj_G) (c1 : Nat) (W1 : Nat → List Nat) (z1 : Int), b ≤ k → k - b = n1 → tS g1 r k c1 W1 mnx (su_P k N m me (ac q) F cf O mnx) z1 → bF g g1 r → g1 r 13 = 0 → aI g1 r q N c1 W1 z1 → (z1 = 1 → ∀ j, j < N → ∀ y zz, wd_ok k y → su_z True m F cf O mnx (ac q j) y zz → pr c1 W1 (zz ++ (y ++ ac q j))) → (z1 = 1 → ∀ j bb, j < N → bb < k → (j < i ∨ (j = i ∧ bb < b)) → (∀ t, t < N → ac q t ≠ bb :: ac q j) → ∀ y zz, wd_ok k y → su_z (me = 0) m F cf O mnx (bb :: ac q j) y zz → pr c1 W1 (zz ++ (y ++ (bb :: ac q j)))) →
    aj_wp nE al al X m_Suite_build (d + 5) 0 0 110 [some (1, r), some (0, me), some (0, (m : Int)), some (0, (i : Int)), some (0, (b : Int))] [] sh g1 Q := by
  have hN8 := hC.2.2.2
  have hk3 := hC.2.1
  intro n1
  induction n1 using Nat.strongRecOn with
  | ind n1 ih =>
    intro b g1 c1 W1 z1 hb hnn hT1 hF1 h13 hA hcv hc2
    have hs1 := bF_s hs hF1
    have hC1 := bF_C hr hC hF1
    have hf1 := bF_f hr hC.2.2.2 hf hF1
    have hR1 := bF_R hr hR hF1
    refine aj_iload 4 112 (dx d_Suite_build 63 rfl) rfl rfl ?_
    refine aj_aload_n 0 113 (dx d_Suite_build 64 rfl) rfl rfl rfl ?_
    refine aj_getfv (v := 10) 116 fl_Suite_61 (dx d_Suite_build 65 rfl) rfl hs1.1 (by first | exact (sf_machine hs1) | ((repeat (first | rw [aj_up_ne _ _ _ (by omega)] | rw [aj_up_ni _ _ _ (by omega)])); exact (sf_machine hs1))) ?_
    refine aj_getfv (v := (k : Int)) 119 fl_Suite_62 (dx d_Suite_build 66 rfl) rfl hC1.1.1.1 hC1.1.2.1 ?_
    refine aj_icmp_ge 168 122 (dx d_Suite_build 67 rfl) rfl rfl (by unfold aj_I; omega) (by unfold aj_I; omega) (fun h119 => ?_) (fun h119 => ?_)
    · exact hgo g1 c1 W1 z1 _ hT1 hF1 h13 hA hcv (fun h j b' hj hb' hjb => by
        have h119b : (k : Int) ≤ b := h119
        have hx : j < i ∨ (j = i ∧ b' < b) := by omega
        exact hc2 h j b' hj hb' hx)
    · have hbk : b < k := by omega
      obtain ⟨p, p1, p2, p3⟩ := hA i hi
      refine aj_aload_n 0 123 (dx d_Suite_build 68 rfl) rfl rfl rfl ?_
      refine aj_getfv (v := 4) 126 fl_Suite_47 (dx d_Suite_build 69 rfl) rfl hs1.1 (by first | exact (sf_reduction hs1) | ((repeat (first | rw [aj_up_ne _ _ _ (by omega)] | rw [aj_up_ni _ _ _ (by omega)])); exact (sf_reduction hs1))) ?_
      refine aj_iload_n 3 127 (dx d_Suite_build 70 rfl) rfl rfl rfl ?_
      refine aj_iload 4 129 (dx d_Suite_build 71 rfl) rfl rfl ?_
      refine aj_callV2 132 cl_Suite_104 (dx d_Suite_build 72 rfl) rfl rfl rfl rfl rfl rfl hR1.1.1 (k_Reduction_isAccess hC1 hR1 hsm hi hbk (fun hya => ?_) (fun hna => ?_))
      · change aj_wp _ _ _ _ _ _ _ _ _ _ _ _ _ _
        refine aj_if_ne 162 135 (dx d_Suite_build 73 rfl) rfl rfl (by unfold aj_I; omega) (fun h132 => ?_) (fun h132 => ?_)
        · refine aj_iinc 4 165 (dx d_Suite_build 90 rfl) rfl rfl rfl ?_
          simp only [List.set]
          refine aj_goto 110 (dx d_Suite_build 91 rfl) rfl ?_
          rw [show ((b : Nat) : Int) + 1 = ((b + 1 : Nat) : Int) by omega]
          refine ih _ (by omega) (b + 1) g1 c1 W1 z1 (by omega) rfl hT1 hF1 h13 hA hcv (fun h j b' hj hb' hjb hn' => ?_)
          by_cases e : j = i ∧ b' = b
          · obtain ⟨rfl, rfl⟩ := e
            obtain ⟨t, t1, t2⟩ := hya
            exact absurd t2 (hn' t t1)
          · exact hc2 h j b' hj hb' (by omega) hn'
        · exact absurd h132 (by omega)
      · change aj_wp _ _ _ _ _ _ _ _ _ _ _ _ _ _
        refine aj_if_ne 162 135 (dx d_Suite_build 73 rfl) rfl rfl (by unfold aj_I; omega) (fun h132 => ?_) (fun h132 => ?_)
        · exact absurd rfl h132
        · refine aj_aload_n 0 136 (dx d_Suite_build 74 rfl) rfl rfl rfl ?_
          refine aj_aload_n 0 137 (dx d_Suite_build 75 rfl) rfl rfl rfl ?_
          refine aj_aload_n 0 138 (dx d_Suite_build 76 rfl) rfl rfl rfl ?_
          refine aj_getfv (v := (r + 7)) 141 fl_Suite_30 (dx d_Suite_build 77 rfl) rfl hs1.1 (by first | exact (sf_access hs1) | ((repeat (first | rw [aj_up_ne _ _ _ (by omega)] | rw [aj_up_ni _ _ _ (by omega)])); exact (sf_access hs1))) ?_
          refine aj_iload_n 3 142 (dx d_Suite_build 78 rfl) rfl rfl rfl ?_
          refine aj_iald 143 (dx d_Suite_build 79 rfl) rfl (ss_access hs1) rfl (by omega) (by omega) ?_
          rw [p1]
          refine aj_iload 4 145 (dx d_Suite_build 80 rfl) rfl rfl ?_
          have hPx : su_P k N m me (ac q) F cf O mnx (b :: ac q i) := by
            rcases hme with e | e
            · exact ⟨[], b :: ac q i, [], [], rfl, wd_ok_nil k, Or.inr ⟨⟨i, b, hi, hbk, rfl, hna⟩, Or.inl ⟨e, Nat.zero_le _, Or.inl rfl⟩⟩⟩
            · exact ⟨List.replicate m 0, b :: ac q i, List.replicate m 0, [], rfl, fun x hx => by rw [List.eq_of_mem_replicate hx]; omega, Or.inr ⟨⟨i, b, hi, hbk, rfl, hna⟩, Or.inr ⟨by omega, List.length_replicate, Or.inl rfl⟩⟩⟩
          refine aj_callV2 148 cl_Suite_97 (dx d_Suite_build 81 rfl) rfl rfl rfl rfl rfl rfl hs1.1 (k_Suite_enter hr hs1 hC1 hT1 p2 hbk (fun h => by rw [p3 h]; exact hPx) (fun g2 c2 W2 z2 q2 hT2 hF2 hX2 hq2 hw2 => ?_))
          have hs2 := eF_s hs1 hF2
          have hpw : z2 = 1 → W2 q2 = b :: ac q i := fun h => by rw [(hw2 h).2, p3 (hw2 h).1]
          change aj_wp _ _ _ _ _ _ _ _ _ _ _ _ _ _
          refine aj_iload_n 2 149 (dx d_Suite_build 82 rfl) rfl rfl rfl ?_
          refine aj_iload_n 1 150 (dx d_Suite_build 83 rfl) rfl rfl rfl ?_
          refine aj_iconst 151 (dx d_Suite_build 84 rfl) rfl ?_
          refine aj_icmp_ne 158 154 (dx d_Suite_build 85 rfl) rfl rfl (by unfold aj_I; omega) (by unfold aj_I; omega) (fun h151 => ?_) (fun h151 => ?_)
          · refine aj_iconst 159 (dx d_Suite_build 88 rfl) rfl ?_
            refine aj_callV3 162 cl_Suite_100 (dx d_Suite_build 89 rfl) rfl rfl rfl rfl rfl rfl hs2.1 (k_Suite_grow (x := b :: ac q i) hr hs2 (eF_C hr hC1 hF2) hT2 hm2 (fun h y zz y1 y2 u t e => ⟨t, b :: ac q i, y, zz, e, y1, Or.inr ⟨⟨i, b, hi, hbk, rfl, hna⟩, (suz_cg (by constructor <;> intro z <;> omega)).mp y2⟩⟩) (by omega) (eF_fam hr hC.2.2.2 hf1 hF2) hq2 hpw (fun g3 c3 W3 z3 hT3 hF3 hX3 hw3 => ?_))
            change aj_wp _ _ _ _ _ _ _ _ _ _ _ _ _ _
            refine aj_iinc 4 165 (dx d_Suite_build 90 rfl) rfl rfl rfl ?_
            simp only [List.set]
            refine aj_goto 110 (dx d_Suite_build 91 rfl) rfl ?_
            rw [show ((b : Nat) : Int) + 1 = ((b + 1 : Nat) : Int) by omega]
            refine ih _ (by omega) (b + 1) g3 c3 W3 z3 (by omega) rfl hT3 (bF_trans (bF_trans hF1 (bF_g (gF_e hF2))) (bF_g hF3)) (by rw [hF3.2 13 (by omega) (by omega), hF2.2 13 (by omega) (by omega)]; exact h13) (aI_ex (aI_ex hA hX2 (fun h => (hw2 h).1) (hF2.1 (r + 7) (by omega))) hX3 (fun h => (hw3 h).1) (hF3.1 (r + 7) (by omega))) (fun h j hj => fun y zz y1 y2 => pr_ex hX3 (pr_ex hX2 (hcv (hw2 (hw3 h).1).1 j hj y zz y1 y2))) (fun h j b' hj hb' hjb hn' => ?_)
            by_cases e : j = i ∧ b' = b
            · obtain ⟨rfl, rfl⟩ := e
              exact fun y zz y1 y2 => (hw3 h).2 y zz y1 ((suz_cg (by constructor <;> intro z <;> omega)).mpr y2)
            · exact fun y zz y1 y2 => pr_ex hX3 (pr_ex hX2 (hc2 (hw2 (hw3 h).1).1 j b' hj hb' (by omega) hn' y zz y1 y2))
          · refine aj_iconst 155 (dx d_Suite_build 86 rfl) rfl ?_
            refine aj_goto 159 (dx d_Suite_build 87 rfl) rfl ?_
            refine aj_callV3 162 cl_Suite_100 (dx d_Suite_build 89 rfl) rfl rfl rfl rfl rfl rfl hs2.1 (k_Suite_grow (x := b :: ac q i) hr hs2 (eF_C hr hC1 hF2) hT2 hm2 (fun h y zz y1 y2 u t e => ⟨t, b :: ac q i, y, zz, e, y1, Or.inr ⟨⟨i, b, hi, hbk, rfl, hna⟩, (suz_cg (by constructor <;> intro z <;> omega)).mp y2⟩⟩) (by omega) (eF_fam hr hC.2.2.2 hf1 hF2) hq2 hpw (fun g3 c3 W3 z3 hT3 hF3 hX3 hw3 => ?_))
            change aj_wp _ _ _ _ _ _ _ _ _ _ _ _ _ _
            refine aj_iinc 4 165 (dx d_Suite_build 90 rfl) rfl rfl rfl ?_
            simp only [List.set]
            refine aj_goto 110 (dx d_Suite_build 91 rfl) rfl ?_
            rw [show ((b : Nat) : Int) + 1 = ((b + 1 : Nat) : Int) by omega]
            refine ih _ (by omega) (b + 1) g3 c3 W3 z3 (by omega) rfl hT3 (bF_trans (bF_trans hF1 (bF_g (gF_e hF2))) (bF_g hF3)) (by rw [hF3.2 13 (by omega) (by omega), hF2.2 13 (by omega) (by omega)]; exact h13) (aI_ex (aI_ex hA hX2 (fun h => (hw2 h).1) (hF2.1 (r + 7) (by omega))) hX3 (fun h => (hw3 h).1) (hF3.1 (r + 7) (by omega))) (fun h j hj => fun y zz y1 y2 => pr_ex hX3 (pr_ex hX2 (hcv (hw2 (hw3 h).1).1 j hj y zz y1 y2))) (fun h j b' hj hb' hjb hn' => ?_)
            by_cases e : j = i ∧ b' = b
            · obtain ⟨rfl, rfl⟩ := e
              exact fun y zz y1 y2 => (hw3 h).2 y zz y1 ((suz_cg (by constructor <;> intro z <;> omega)).mpr y2)
            · exact fun y zz y1 y2 => pr_ex hX3 (pr_ex hX2 (hc2 (hw2 (hw3 h).1).1 j b' hj hb' (by omega) hn' y zz y1 y2))
set_option maxHeartbeats 16000000 in
theorem k_bd_3 {al : Prop} {X : Option (Nat × (Int → Int))} {d : Nat} {sh : List aj_S} {g : aj_G} {Q : aj_R → List aj_S → aj_G → Prop} {r : Int} {L k N : Nat} {mnx mou : Nat → Nat → Nat} (hr : r = 58 ∨ r = 68) (hs : sus sh g r k) (hC : suC sh g L k N mnx mou) {cf : Nat} {F : Nat → List Nat} {O : Nat → ow_T} (hf : suF sh g k N cf F O) {n s0 : Nat} {nx ou : Nat → Nat → Nat} {tw : Nat → Nat} {q : nb_T} (hR : suR sh g k n s0 nx ou tw N q) (hsm : smm k n nx ou tw N q mnx mou) {m : Nat} (hm2 : m ≤ 2) {me : Int} (hme : me = 0 ∨ me = 1) (hacc : ∀ i, i < N → wd_ok k (ac q i)) (hgo : ∀ (g1 : aj_G) (c1 : Nat) (W1 : Nat → List Nat) (z1 : Int) (i3 : Int) (o4 : Option aj_A), tS g1 r k c1 W1 mnx (su_P k N m me (ac q) F cf O mnx) z1 → bF g g1 r → g1 r 13 = 0 → (z1 = 1 → ∀ j, j < N → ∀ y zz, wd_ok k y → su_z True m F cf O mnx (ac q j) y zz → pr c1 W1 (zz ++ (y ++ ac q j))) → (z1 = 1 → ∀ j b, j < N → b < k → (∀ t, t < N → ac q t ≠ b :: ac q j) → ∀ y zz, wd_ok k y → su_z (me = 0) m F cf O mnx (b :: ac q j) y zz → pr c1 W1 (zz ++ (y ++ (b :: ac q j)))) → aj_wp nE al al X m_Suite_build (d + 5) 0 0 174 [some (1, r), some (0, me), some (0, (m : Int)), some (0, i3), o4] [] sh g1 Q) : ∀ (n1 i : Nat) (g1 : aj_G) (c1 : Nat) (W1 : Nat → List Nat) (z1 : Int) (o4 : Option aj_A), i ≤ N → N - i = n1 → tS g1 r k c1 W1 mnx (su_P k N m me (ac q) F cf O mnx) z1 → bF g g1 r → g1 r 13 = 0 → aI g1 r q N c1 W1 z1 → (z1 = 1 → ∀ j, j < N → ∀ y zz, wd_ok k y → su_z True m F cf O mnx (ac q j) y zz → pr c1 W1 (zz ++ (y ++ ac q j))) → (z1 = 1 → ∀ j bb, j < N → bb < k → (j < i ∨ (j = N ∧ bb < 0)) → (∀ t, t < N → ac q t ≠ bb :: ac q j) → ∀ y zz, wd_ok k y → su_z (me = 0) m F cf O mnx (bb :: ac q j) y zz → pr c1 W1 (zz ++ (y ++ (bb :: ac q j)))) →
    aj_wp nE al al X m_Suite_build (d + 5) 0 0 96 [some (1, r), some (0, me), some (0, (m : Int)), some (0, (i : Int)), o4] [] sh g1 Q := by
  have hN8 := hC.2.2.2
  have hk3 := hC.2.1
  intro n1
  induction n1 using Nat.strongRecOn with
  | ind n1 ih =>
    intro i g1 c1 W1 z1 o4 hi hnn hT1 hF1 h13 hA hcv hc2
    have hs1 := bF_s hs hF1
    have hC1 := bF_C hr hC hF1
    have hf1 := bF_f hr hC.2.2.2 hf hF1
    have hR1 := bF_R hr hR hF1
    refine aj_iload_n 3 97 (dx d_Suite_build 56 rfl) rfl rfl rfl ?_
    refine aj_aload_n 0 98 (dx d_Suite_build 57 rfl) rfl rfl rfl ?_
    refine aj_getfv (v := 10) 101 fl_Suite_61 (dx d_Suite_build 58 rfl) rfl hs1.1 (by first | exact (sf_machine hs1) | ((repeat (first | rw [aj_up_ne _ _ _ (by omega)] | rw [aj_up_ni _ _ _ (by omega)])); exact (sf_machine hs1))) ?_
    refine aj_getfv (v := (N : Int)) 104 fl_Suite_90 (dx d_Suite_build 59 rfl) rfl hC1.1.1.1 hC1.1.2.2.1 ?_
    refine aj_icmp_ge 174 107 (dx d_Suite_build 60 rfl) rfl rfl (by unfold aj_I; omega) (by unfold aj_I; omega) (fun h104 => ?_) (fun h104 => ?_)
    · exact hgo g1 c1 W1 z1 _ _ hT1 hF1 h13 hcv (fun h j b hj hb => hc2 h j b hj hb (by omega))
    · have hiN : i < N := by omega
      refine aj_iconst 108 (dx d_Suite_build 61 rfl) rfl ?_
      refine aj_istore 4 110 (dx d_Suite_build 62 rfl) rfl rfl ?_
      simp only [List.set]
      refine k_bd_2 hr hs hC hf hR hsm hm2 hme hacc hiN (fun g2 c2 W2 z2 i4 hT2 hF2 h132 hA2 hcv2 hc22 => ?_) _ 0 g1 c1 W1 z1 (Nat.zero_le _) rfl hT1 hF1 h13 hA hcv (fun h j b hj hb hjb => hc2 h j b hj hb (by omega))
      refine aj_iinc 3 171 (dx d_Suite_build 92 rfl) rfl rfl rfl ?_
      simp only [List.set]
      refine aj_goto 96 (dx d_Suite_build 93 rfl) rfl ?_
      rw [show ((i : Nat) : Int) + 1 = ((i + 1 : Nat) : Int) by omega]
      exact ih _ (by omega) (i + 1) g2 c2 W2 z2 _ (by omega) rfl hT2 hF2 h132 hA2 hcv2 (fun h j b hj hb hjb => hc22 h j b hj hb (by omega))
set_option maxHeartbeats 16000000 in
theorem k_Suite_build {al : Prop} {X : Option (Nat × (Int → Int))} {d : Nat} {sh : List aj_S} {g : aj_G} {Q : aj_R → List aj_S → aj_G → Prop} {r : Int} {L k N : Nat} {mnx mou : Nat → Nat → Nat} (hr : r = 58 ∨ r = 68) (hs : sus sh g r k) (hC : suC sh g L k N mnx mou) {cf : Nat} {F : Nat → List Nat} {O : Nat → ow_T} (hf : suF sh g k N cf F O) {n s0 : Nat} {nx ou : Nat → Nat → Nat} {tw : Nat → Nat} {q : nb_T} (hR : suR sh g k n s0 nx ou tw N q) (hsm : smm k n nx ou tw N q mnx mou) {m : Nat} (hm2 : m ≤ 2) {me : Int} (hme : me = 0 ∨ me = 1) (hacc : ∀ i, i < N → wd_ok k (ac q i)) (hlen : ∀ w, su_P k N m me (ac q) F cf O mnx w → w.length ≤ 18)
    (hk1 : ∀ (g1 : aj_G) (c1 : Nat) (W1 : Nat → List Nat), bF g g1 r → (∀ w, pr c1 W1 w ↔ su_P k N m me (ac q) F cf O mnx w) → sT g1 r k c1 W1 mnx (lvF (pr c1 W1) k 20 []) → g1 r 14 = 1 → Q (.inl (some (0, 1))) sh g1)
    (hk0 : ∀ (g1 : aj_G) (W1 : Nat → List Nat), bF g g1 r → tS g1 r k 800 W1 mnx (su_P k N m me (ac q) F cf O mnx) 0 → Q (.inl (some (0, 0))) sh g1) : aj_wp nE al al X m_Suite_build (d + 5) 0 0 0 [some (1, r), some (0, me), some (0, (m : Int)), none, none] [] sh g Q := by
  refine aj_aload_n 0 1 (dx d_Suite_build 0 rfl) rfl rfl rfl ?_
  refine aj_iconst 2 (dx d_Suite_build 1 rfl) rfl ?_
  refine aj_putf 5 (pl_Suite_36 _) (dx d_Suite_build 2 rfl) rfl hs.1 (aj_fitI _) ?_
  refine aj_aload_n 0 6 (dx d_Suite_build 3 rfl) rfl rfl rfl ?_
  refine aj_iconst 7 (dx d_Suite_build 4 rfl) rfl ?_
  refine aj_putf 10 (pl_Suite_40 _) (dx d_Suite_build 5 rfl) rfl hs.1 (aj_fitI _) ?_
  refine aj_aload_n 0 11 (dx d_Suite_build 6 rfl) rfl rfl rfl ?_
  refine aj_iconst 12 (dx d_Suite_build 7 rfl) rfl ?_
  refine aj_putf 15 (pl_Suite_43 _) (dx d_Suite_build 8 rfl) rfl hs.1 (aj_fitZ (by omega)) ?_
  refine aj_aload_n 0 16 (dx d_Suite_build 9 rfl) rfl rfl rfl ?_
  refine aj_iconst 17 (dx d_Suite_build 10 rfl) rfl ?_
  refine aj_iconst 18 (dx d_Suite_build 11 rfl) rfl ?_
  refine aj_iconst 19 (dx d_Suite_build 12 rfl) rfl ?_
  refine aj_callV3 22 cl_Suite_86 (dx d_Suite_build 13 rfl) rfl rfl rfl rfl rfl rfl hs.1 (k_Suite_addNode hr (sus_of hs (fun j hj => by rw [aj_up_ni _ _ _ (by omega), aj_up_ni _ _ _ (by omega), aj_up_ni _ _ _ (by omega)])) (suC_of hC (fun r' _ => by rw [aj_up_ne _ _ _ (by omega), aj_up_ne _ _ _ (by omega), aj_up_ne _ _ _ (by omega)])) (c := 0) (by rw [aj_up_ni _ _ _ (by omega), aj_up_ni _ _ _ (by omega), aj_up_self]; rfl) (by omega) (by unfold aj_I; omega) (fun h => absurd rfl h) (fun g1 hA => ?_))
  change aj_wp _ _ _ _ _ _ _ _ _ _ _ _ _ _
  refine aj_iconst 23 (dx d_Suite_build 14 rfl) rfl ?_
  refine aj_istore_n 3 24 (dx d_Suite_build 15 rfl) rfl rfl rfl ?_
  simp only [List.set]
  have hT1 : tS g1 r k 1 (fun _ => []) mnx (su_P k N m me (ac q) F cf O mnx) 1 := tS_root hr (su_0 hC.2.2.1 (ac_0 q)) (aj_up_self _ _ _ _) hA
  have hF1 : bF g g1 r := ⟨fun r' h => by rw [hA.1 r' (by omega), aj_up_ne _ _ _ (by omega), aj_up_ne _ _ _ (by omega), aj_up_ne _ _ _ (by omega)], fun j hj => by rw [hA.2.1 j (by omega), aj_up_ni _ _ _ (by omega), aj_up_ni _ _ _ (by omega), aj_up_ni _ _ _ (by omega)]⟩
  have h13 : g1 r 13 = 0 := by rw [hA.2.1 13 (by omega), aj_up_ni _ _ _ (by omega), aj_up_self]
  refine k_bd_1 hr hs hC hf hR hsm hm2 hme hacc (fun g1 c1 W1 z1 i3 hT1 hF1 h13 hA hcv => ?_) _ 0 g1 1 _ 1 (Nat.zero_le _) rfl hT1 hF1 h13 (fun j hj => absurd hj (Nat.not_lt_zero _)) (fun _ j hj => absurd hj (Nat.not_lt_zero _))
  refine aj_iconst 95 (dx d_Suite_build 54 rfl) rfl ?_
  refine aj_istore_n 3 96 (dx d_Suite_build 55 rfl) rfl rfl rfl ?_
  simp only [List.set]
  refine k_bd_3 hr hs hC hf hR hsm hm2 hme hacc (fun g1 c1 W1 z1 i3 o4 hT1 hF1 h13 hcv hc2 => ?_) _ 0 g1 c1 W1 z1 _ (Nat.zero_le _) rfl hT1 hF1 h13 hA hcv (fun h j b hj hb hjb => by omega)
  have hs1 := bF_s hs hF1
  have hz : z1 = 1 ∨ z1 = 0 := by
    rcases hT1.2.2.2.2.2 with e | ⟨e, -⟩
    · exact Or.inl e
    · exact Or.inr e
  refine aj_aload_n 0 175 (dx d_Suite_build 94 rfl) rfl rfl rfl ?_
  refine aj_getfv (v := z1) 178 fl_Suite_43 (dx d_Suite_build 95 rfl) rfl hs1.1 hT1.2.2.2.2.1 ?_
  refine aj_if_eq 185 181 (dx d_Suite_build 96 rfl) rfl rfl (by rcases hz with e | e <;> rw [e] <;> unfold aj_I <;> omega) (fun h178 => ?_) (fun h178 => ?_)
  · obtain rfl : z1 = 0 := by omega
    refine aj_aload_n 0 186 (dx d_Suite_build 99 rfl) rfl rfl rfl ?_
    refine aj_getfv (v := (0 : Int)) 189 fl_Suite_43 (dx d_Suite_build 100 rfl) rfl hs1.1 hT1.2.2.2.2.1 ?_
    refine aj_zret (dx d_Suite_build 101 rfl) rfl (by omega) id ?_
    exact hk0 g1 W1 hF1 (by rcases hT1.2.2.2.2.2 with e | ⟨-, e, -⟩; exact absurd e (by decide); rw [e] at hT1; exact hT1)
  · obtain rfl : z1 = 1 := by omega
    have hiff : ∀ w, pr c1 W1 w ↔ su_P k N m me (ac q) F cf O mnx w := fun w => by
      constructor
      · rintro ⟨p, p1, p2⟩
        rw [← p2]
        exact hT1.2.2.1 p p1
      · rintro ⟨t, x, y, zz, e, y1, h⟩
        refine pr_suf hT1.2.1 t w ?_
        rw [e]
        rcases h with ⟨⟨i, i1, rfl⟩, h⟩ | ⟨⟨i, a, i1, i2, rfl, i3⟩, h⟩
        · exact hcv rfl i i1 y zz y1 h
        · exact hc2 rfl i a i1 i2 i3 y zz y1 h
    have hl1 : ∀ p, p < c1 → (W1 p).length ≤ 18 := fun p hp => hlen (W1 p) (hT1.2.2.1 p hp)
    have h0 : pr c1 W1 [] := ⟨0, hT1.2.1.1, hT1.2.1.2.1⟩
    have hnd : (ndF (pr c1 W1) k 20 []).length ≤ c1 := tr_cnt (nd_nodup 20 []) (fun v hv => nd_S 20 [] v h0 hv)
    have hlv := lv_nd (S := pr c1 W1) (k := k) 20 []
    have hc8 := hT1.2.2.2.1
    refine aj_aload_n 0 182 (dx d_Suite_build 97 rfl) rfl rfl rfl ?_
    refine aj_callV0 185 cl_Suite_108 (dx d_Suite_build 98 rfl) rfl rfl rfl rfl rfl rfl hs1.1 (k_Suite_orderTests hr hs1 (bF_C hr hC hF1) hT1.1 hT1.2.1 hT1.2.2.2.1 hl1 h13 (fun g2 hF2 hls => ?_))
    change aj_wp _ _ _ _ _ _ _ _ _ _ _ _ _ _
    have hs2 := oF_s hs1 hF2
    change aj_wp _ _ _ _ _ _ _ _ _ _ _ _ _ _
    refine aj_aload_n 0 186 (dx d_Suite_build 99 rfl) rfl rfl rfl ?_
    refine aj_getfv (v := (1 : Int)) 189 fl_Suite_43 (dx d_Suite_build 100 rfl) rfl hs2.1 (by rw [hF2.2 14 (by omega)]; exact hT1.2.2.2.2.1) ?_
    refine aj_zret (dx d_Suite_build 101 rfl) rfl (by omega) id ?_
    refine hk1 g2 c1 W1 (bF_trans hF1 (bF_o hF2)) hiff ⟨?_, hT1.2.1, hT1.2.2.2.1, hl1, hls, by omega⟩ (by rw [hF2.2 14 (by omega)]; exact hT1.2.2.2.2.1)
    have h9 := hT1.1
    unfold tC at h9 ⊢
    rw [hF2.2 12 (by omega), hF2.1 (r + 1) (by omega) (by omega) (by omega), hF2.1 (r + 2) (by omega) (by omega) (by omega), hF2.1 (r + 3) (by omega) (by omega) (by omega), hF2.1 (r + 4) (by omega) (by omega) (by omega), hF2.1 (r + 9) (by omega) (by omega) (by omega)]
    exact h9
