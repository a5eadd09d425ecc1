/-! the model: suite, test, resize, change, run, begin, give, same, covered, look -/
section ML
variable {sh : List aj_S} {g g1 : aj_G} {k n s0 : Nat} {nx ou : Nat → Nat → Nat} {z : Int} {tw : Nat → Nat} {N : Nat} {q : nb_T} {mnx mou : Nat → Nat → Nat} {mi : Nat} {ix io : Nat → Nat → Nat} {w : List Nat} {v : Int} {S : List Nat → Prop} {fp hd hp : Int}
theorem mI_len (h : mI sh g k n s0 nx ou z tw N q mnx mou mi ix io w v S fp hd hp) (hz : z = 1) {m : Nat} (hm : m ≤ 2) (me : Int) : ∀ u, su_P k N m me (ac q) (FW k N mnx mou) (FC k N mnx mou) (FO k N mnx mou) mnx u → u.length ≤ 18 := fun u hu => by
  obtain ⟨⟨sf, a1⟩, -, -, a4, a5, a6⟩ := h.2.2.2.2.1 hz
  have hn8 := h.1.2.2.2.2.1
  have hN := nb_le a1.2.2.1.2.1
  have hN0 := a1.2.2.1.2.1.1
  have hac : ∀ i, i < N → wd_ok k (ac q i) ∧ (ac q i).length ≤ i := fun i hi => ac_all a1.2.2.1.2.1 (by omega)
  exact su_len (fun i hi => by have := (hac i hi).2; omega) (fun v hv => (a1.2.2.2.1.2.2 v hv).2.2) hm (fun a v ha hv => ow_lt (fun j hj hne => fm_cov a1.2.2.2.2.1 a j ha hj hne) N (Nat.le_refl _) v hv) (fun u hu => rn_lt (fun s i h1 h2 => (a6 s i h1 h2).1) (by omega) u hu) (fun i hi => (hac i hi).1) hu
theorem mI_impl {m1 : Nat} {ix1 io1 : Nat → Nat → Nat} (h : mI sh g k n s0 nx ou z tw N q mnx mou mi ix io w v S fp hd hp) (hz : z = 1) (e : ∀ r', (79 ≤ r' ∧ r' ≤ 87) ∨ (92 ≤ r' ∧ r' ≤ 94) → g1 r' = g r') (e8 : ∀ j, j ≠ 0 → j ≠ 17 → g1 78 j = g 78 j) (him : mim g1 k m1 ix1 io1) (hm0 : 0 < m1) : mI sh g1 k n s0 nx ou z tw N q mnx mou (m1) (ix1) (io1) w v S fp hd hp := by
  obtain ⟨hM, ⟨m5, ms0, m6, mz, m29, m30, mhd, m31⟩, ⟨m16, mw⟩, hu, hs, m20, mv, hT⟩ := h
  have ef : ∀ j, mo_fin j → g1 78 j = g 78 j := fun j hj => by unfold mo_fin at hj; exact e8 j (by omega) (by omega)
  refine ⟨mmm_of hM (fun j hj => by rcases hj with hj | hj | hj; exact ef j hj; exact e8 j (by omega) (by omega); exact e8 j (by omega) (by omega)) (e _ (by omega)) (e _ (by omega)), ⟨by rw [e8 5 (by omega) (by omega)]; exact m5, ms0, by rw [e8 6 (by omega) (by omega)]; exact m6, mz, by rw [e8 29 (by omega) (by omega)]; exact m29, by rw [e8 30 (by omega) (by omega)]; exact m30, mhd, fun y => by rw [e8 31 (by omega) (by omega)]; exact m31 y⟩, ⟨by rw [e8 16 (by omega) (by omega)]; exact m16, mw⟩, fun hz0 => absurd hz0 (by omega), fun hz1 => ?_, by rw [e8 20 (by omega) (by omega)]; exact m20, mv, ?_⟩
  · obtain ⟨⟨sf, a1⟩, a2, a3, a4⟩ := hs hz1
    refine ⟨⟨sf, mS_of a1 (fun r a b => e r (by omega)) (fun j hj => ?_)⟩, him, hm0, a4⟩
    rcases hj with hj | hj
    · exact ef j hj
    · exact e8 j (by omega) (by omega)
  · rcases hT with ⟨t1, t2, t3⟩ | ⟨t1, t2, t3, ⟨c, W, t4, t5⟩, t6⟩
    · exact Or.inl ⟨t1, by rw [e8 25 (by omega) (by omega)]; exact t2, t3⟩
    · exact Or.inr ⟨t1, t2, t3, ⟨c, W, mT_of t4 (e8 _ (by omega) (by omega)) (e8 _ (by omega) (by omega)) (e8 _ (by omega) (by omega)) (e _ (by omega)) (e _ (by omega)) (e _ (by omega)), t5⟩, t6⟩
end ML
theorem lv_some {S : List Nat → Prop} {k : Nat} : ∀ f (w : List Nat), ∃ v, v ∈ lvF S k f w
  | 0, w => ⟨w, List.mem_singleton.mpr rfl⟩
  | f + 1, w => by
    by_cases c : ∃ a, a < k ∧ S (a :: w)
    · obtain ⟨a, a1, a2⟩ := c
      obtain ⟨v, hv⟩ := lv_some (S := S) (k := k) f (a :: w)
      exact ⟨v, by rw [lv_more ⟨a, a1, a2⟩]; exact lvc_in a1 a2 hv k (Nat.le_refl _) (by omega)⟩
    · exact ⟨w, by rw [lv_one (fun a h1 h2 => c ⟨a, h1, h2⟩)]; exact List.mem_singleton.mpr rfl⟩
theorem lv_subT {k c : Nat} {W : Nat → List Nat} (hI : tr_I k c W) (hlen : ∀ p, p < c → (W p).length ≤ 18) : ∀ u, pr c W u → ∀ v, v ∈ lvF (pr c W) k (20 - u.length) u → v ∈ lvF (pr c W) k 20 []
  | [], _, v, hv => hv
  | b :: u, hu, v, hv => by
    have hu2 : pr c W u := pr_suf hI [b] u hu
    obtain ⟨p, p1, p2⟩ := hu
    have hok := hI.2.2.1 p p1
    rw [p2] at hok
    have hl := hlen p p1
    rw [p2, List.length_cons] at hl
    refine lv_subT hI hlen u hu2 v ?_
    rw [show 20 - u.length = (19 - u.length) + 1 by omega, lv_more ⟨b, (wd_ok_cons.mp hok).1, p, p1, p2⟩]
    refine lvc_in (wd_ok_cons.mp hok).1 ⟨p, p1, p2⟩ ?_ k (Nat.le_refl _) (by omega)
    rwa [List.length_cons, show 20 - (u.length + 1) = 19 - u.length by omega] at hv
theorem cov_T {mnx : Nat → Nat → Nat} {k c : Nat} {W : Nat → List Nat} {S : List Nat → Prop} (hI : tr_I k c W) (hlen : ∀ p, p < c → (W p).length ≤ 18) (hS : ∀ u, pr c W u ↔ S u) (e : Nat) : (∃ (t : Nat) (h : t < (lvF S k 20 []).length), cvP mnx (lvF S k 20 [])[t] e) ↔ ∃ b u, S (b :: u) ∧ e = 3 * rn mnx 0 u + b := by
  have hSe : S = pr c W := (lv_cg (k := k) hS).symm
  subst hSe
  have h0 : pr c W [] := ⟨0, hI.1, hI.2.1⟩
  constructor
  · rintro ⟨t, h, tt, b, u, h1, h2⟩
    refine ⟨b, u, pr_suf hI tt _ ?_, h2⟩
    rw [← h1]
    exact lv_S 20 [] _ h0 (List.getElem_mem h)
  · rintro ⟨b, u, h1, h2⟩
    obtain ⟨v, hv⟩ := lv_some (S := pr c W) (k := k) (20 - (b :: u).length) (b :: u)
    obtain ⟨tt, e1⟩ := lv_end _ _ _ hv
    have hm := lv_subT hI hlen _ h1 v hv
    obtain ⟨t, ht, e2⟩ := List.getElem_of_mem hm
    exact ⟨t, ht, tt, b, u, by rw [e2, e1], h2⟩
set_option maxHeartbeats 4000000 in
theorem M_suite {al : Prop} {X : Option (Nat × (Int → Int))} {d : Nat} {sh : List aj_S} {g : aj_G} {Q : aj_R → List aj_S → aj_G → Prop} {k n s0 : Nat} {nx ou : Nat → Nat → Nat} {z : Int} {tw : Nat → Nat} {N : Nat} {q : nb_T} {mnx mou : Nat → Nat → Nat} {mi : Nat} {ix io : Nat → Nat → Nat} {w : List Nat} {v : Int} {S : List Nat → Prop} {fp hd hp : Int} (hI : mI sh g k n s0 nx ou z tw N q mnx mou mi ix io w v S fp hd hp) {s m : Int} (x1 : aj_I s) (x2 : aj_I m) (hk1 : (¬ ((0 ≤ s ∧ s ≤ 1) ∧ (0 ≤ m ∧ m ≤ 2)) → ∀ g1 : aj_G, frM g g1 → g1 78 0 = 1 → mI sh g1 k n s0 nx ou z tw N q mnx mou mi ix io w v S fp hd hp → Q (.inl (some (0, 0))) sh g1)) (hk2 : (((0 ≤ s ∧ s ≤ 1) ∧ (0 ≤ m ∧ m ≤ 2)) → z = 0 → ∀ g1 : aj_G, frM g g1 → g1 78 0 = 2 → mI sh g1 k n s0 nx ou z tw N q mnx mou mi ix io w v S fp hd hp → Q (.inl (some (0, 0))) sh g1)) (hk3 : (((0 ≤ s ∧ s ≤ 1) ∧ (0 ≤ m ∧ m ≤ 2)) → z = 1 → ¬ fitS k (suS k n s0 nx ou N m.toNat s q mnx mou) → ∀ g1 : aj_G, frM g g1 → g1 78 0 = 3 → mI sh g1 k n s0 nx ou z tw N q mnx mou mi ix io w v S fp hd hp → Q (.inl (some (0, 0))) sh g1)) (hk0 : (((0 ≤ s ∧ s ≤ 1) ∧ (0 ≤ m ∧ m ≤ 2)) → z = 1 → fitS k (suS k n s0 nx ou N m.toNat s q mnx mou) → ∀ g1 : aj_G, frM g g1 → g1 78 0 = 0 → mI sh g1 k n s0 nx ou z tw N q mnx mou mi ix io w (1) (suS k n s0 nx ou N m.toNat s q mnx mou) fp (-1) hp → Q (.inl (some (0, ((lvF (suS k n s0 nx ou N m.toNat s q mnx mou) k 20 []).length : Int)))) sh g1)) : aj_wp nE al al X m_Model_suite (d + 6) 0 0 0 [some (1, 78), some (0, s), some (0, m), none, none, none, none] [] sh g Q := by
  have hI0 := hI
  obtain ⟨hM, ⟨m5, ms0, m6, mz, m29, m30, mhd, m31⟩, ⟨m16, mwo, mwl⟩, hu, hs, m20, mv, hT⟩ := hI
  have hk4 := hM.2.2.2.1
  have hn8 := hM.2.2.2.2.1
  by_cases hok : ((0 ≤ s ∧ s ≤ 1) ∧ (0 ≤ m ∧ m ≤ 2)) ∧ z = 1
  · obtain ⟨hok, hz⟩ := hok
    obtain ⟨⟨sf, a1⟩, a2, a3, a4, a5, a6⟩ := hs hz
    obtain ⟨m2, rfl⟩ := Int.eq_ofNat_of_zero_le hok.2.1
    have eS : suS k n s0 nx ou N (m2 : Int).toNat s q mnx mou = (su_P k N m2 s (ac q) (FW k N mnx mou) (FC k N mnx mou) (FO k N mnx mou) mnx) := by rw [Int.toNat_natCast]; rfl
    rw [eS] at hk0 hk3
    refine k_Model_suite a1 a4 (mI_cl hI0) a5 a6 ms0 m5 (by omega) (by omega) (by rw [m6]; exact hz) (fun g1 c W hF h0 h30 hpr hmT => ?_) (fun g1 W hF h0 hj hr hI3 hP3 => ?_)
    · have hlv : lvF (pr c W) k 20 [] = lvF (su_P k N m2 s (ac q) (FW k N mnx mou) (FC k N mnx mou) (FO k N mnx mou) mnx) k 20 [] := by rw [lv_cg (k := k) hpr]
      rw [hlv] at hmT ⊢
      have hac0 := nb_le a1.2.2.1.2.1
      have hN0 := a1.2.2.1.2.1.1
      have e8 : ∀ j, j ≠ 0 → j ≠ 20 → j ≠ 21 → j ≠ 23 → j ≠ 25 → j ≠ 30 → g1 78 j = g 78 j := hF.2
      have ef : ∀ j, mo_fin j → g1 78 j = g 78 j := fun j hj => by unfold mo_fin at hj; exact e8 j (by omega) (by omega) (by omega) (by omega) (by omega) (by omega)
      refine hk0 hok hz ⟨c, W, hmT.2.2.2.2.1, hmT.2.2.2.1, hpr⟩ g1 (fun r' h => hF.1 r' (by omega) (by omega)) h0 ⟨mmm_of hM (fun j hj => by rcases hj with hj | hj | hj; exact ef j hj; exact e8 j (by omega) (by omega) (by omega) (by omega) (by omega) (by omega); exact e8 j (by omega) (by omega) (by omega) (by omega) (by omega) (by omega)) (hF.1 _ (by omega) (by omega)) (hF.1 _ (by omega) (by omega)), ⟨by rw [e8 5 (by omega) (by omega) (by omega) (by omega) (by omega) (by omega)]; exact m5, ms0, by rw [e8 6 (by omega) (by omega) (by omega) (by omega) (by omega) (by omega)]; exact m6, mz, by rw [e8 29 (by omega) (by omega) (by omega) (by omega) (by omega) (by omega)]; exact m29, h30, by unfold aj_I; omega, fun h => absurd h (by decide)⟩, ⟨by rw [e8 16 (by omega) (by omega) (by omega) (by omega) (by omega) (by omega)]; exact m16, mwo, mwl⟩, fun h => absurd h (by omega), fun _ => ⟨⟨sf, mS_of a1 (fun r a b => hF.1 r (by omega) (by omega)) (fun j hj => ?_)⟩, mim_of a2 (e8 17 (by omega) (by omega) (by omega) (by omega) (by omega) (by omega)) (hF.1 _ (by omega) (by omega)) (hF.1 _ (by omega) (by omega)), a3, a4, a5, a6⟩, hmT.1, Or.inr rfl, Or.inr ⟨rfl, hz, ⟨0, by omega, su_1 (by omega) (by omega) (ac_0 q)⟩, ⟨c, W, hmT, hpr⟩, Or.inl rfl⟩⟩
      rcases hj with hj | hj
      · exact ef j hj
      · exact e8 j (by omega) (by omega) (by omega) (by omega) (by omega) (by omega)
    · refine hk3 hok hz (fun hfit => ?_) g1 (fun r' h => hF.1 r' (by omega) (by omega)) h0 (mI_of hI0 (fun r' h => hr r' (by omega) (by omega)) hj)
      obtain ⟨c, W2, f1, f2, f3⟩ := hfit
      have := tr_le hI3 (fun p hp => (f3 _).mpr (hP3 p hp))
      omega
  · refine k_Model_suite1 hM.1 m6 mz x1 x2 hok (fun h => hk1 h _ (frM_th g _) (aj_up_self _ _ _ _) (mI_th hI0 _)) (fun h h2 => hk2 h h2 _ (frM_th g _) (aj_up_self _ _ _ _) (mI_th hI0 _))

set_option maxHeartbeats 4000000 in
theorem M_test {al : Prop} {X : Option (Nat × (Int → Int))} {d : Nat} {sh : List aj_S} {g : aj_G} {Q : aj_R → List aj_S → aj_G → Prop} {k n s0 : Nat} {nx ou : Nat → Nat → Nat} {z : Int} {tw : Nat → Nat} {N : Nat} {q : nb_T} {mnx mou : Nat → Nat → Nat} {mi : Nat} {ix io : Nat → Nat → Nat} {w : List Nat} {v : Int} {S : List Nat → Prop} {fp hd hp : Int} (hI : mI sh g k n s0 nx ou z tw N q mnx mou mi ix io w v S fp hd hp) {s y e : Int} (x1 : aj_I s) (x2 : aj_I y) (he : e = 0 ∨ e = 1) (hk : ∀ g1 : aj_G, frM g g1 → mI sh g1 k n s0 nx ou z tw N q mnx mou mi ix io w v S fp hd hp → Q (.inl (some (0, testV v (lvF S k 20 []) mnx mou 0 s y e))) sh g1) : aj_wp nE al al X m_Model_test (d + 6) 0 0 0 [some (1, 78), some (0, s), some (0, y), some (0, e), none] [] sh g Q := by
  have hI0 := hI
  obtain ⟨hM, ⟨m5, ms0, m6, mz, m29, m30, mhd, m31⟩, ⟨m16, mwo, mwl⟩, hu, hs, m20, mv, hT⟩ := hI
  have hk4 := hM.2.2.2.1
  have hn8 := hM.2.2.2.2.1
  unfold testV at hk
  have hfr : ∀ g1 : aj_G, unF (aj_up g 78 0 0) g1 → frM g g1 ∧ mI sh g1 k n s0 nx ou z tw N q mnx mou mi ix io w v S fp hd hp := fun g1 h => ⟨fun r' hr => by rw [h r' (by omega), aj_up_ne _ _ _ (by omega)], mI_of hI0 (fun r' hr => by rw [h r' (by omega), aj_up_ne _ _ _ (by omega)]) (fun j a _ => by rw [h 78 (by omega), aj_up_ni _ _ _ a])⟩
  rcases hT with ⟨t1, t2, t3⟩ | ⟨t1, t2, t3, ⟨c, W, t4, t5⟩, t6⟩
  · refine k_Model_test (c := 0) (W := fun _ => []) (T := []) hM m5 ms0 m20 mv t2 (by unfold aj_I; omega) (fun h => by omega) x1 x2 he (fun h => ?_) (fun w1 g1 h1 h2 => absurd h2 (Nat.not_lt_zero _)) (fun w1 i1 g1 h1 h2 => absurd h2 (Nat.not_lt_zero _)) (fun w1 i1 g1 h1 h2 => absurd h2 (Nat.not_lt_zero _)) (fun w1 g1 h1 h2 => absurd h2 (Nat.not_lt_zero _))
    have hh := hk _ (frM_th g 0) (mI_th hI0 0)
    rw [if_neg (by omega)] at hh
    exact hh
  · have hcnt := mT_cnt t4
    have hgd : ∀ t (h : t < (lvF S k 20 []).length), (lvF S k 20 []).getD t [] = (lvF S k 20 [])[t] := fun t h => by rw [List.getD_eq_getElem?_getD, List.getElem?_eq_getElem h]; rfl
    have hp : ∀ g1 : aj_G, unF (aj_up g 78 0 0) g1 → ∀ (w1 : Nat), s = w1 → ∀ (h : w1 < (lvF S k 20 []).length), Q (.inl (some (0, (if y = -1 then ((lvF S k 20 [])[w1].length : Int) else if 0 ≤ y ∧ y < (lvF S k 20 [])[w1].length then (if e = 1 then (eo mnx mou 0 ((lvF S k 20 [])[w1].drop ((lvF S k 20 [])[w1].length - 1 - y.toNat)) : Int) else (ltr (lvF S k 20 [])[w1] y.toNat : Int)) else -1)))) sh g1 := fun g1 hF w1 hw h => by
      have hh := hk g1 (hfr g1 hF).1 (hfr g1 hF).2
      subst hw
      rw [if_pos ⟨t1, by omega, by omega⟩, Int.toNat_natCast, hgd w1 h] at hh
      exact hh
    refine k_Model_test hM m5 ms0 m20 mv t4.2.2.1 (by unfold aj_I; omega) (fun _ => t4) x1 x2 he (fun h => ?_) (fun w1 g1 h1 h2 h3 h4 => ?_) (fun w1 i1 g1 h1 h2 h3 h4 h5 h6 => ?_) (fun w1 i1 g1 h1 h2 h3 h4 h5 h6 => ?_) (fun w1 g1 h1 h2 h3 h4 h5 => ?_)
    · have hh := hk _ (frM_th g 0) (mI_th hI0 0)
      rw [if_neg h] at hh
      exact hh
    · have hh := hp g1 h3 w1 h1 h2
      rw [if_pos h4] at hh
      exact hh
    · have hh := hp g1 h3 w1 h1 h2
      subst h4
      rw [if_neg (by omega), if_pos (by omega), if_pos h6, Int.toNat_natCast, ← eo_eq (mI_pu hI0 t2) (mI_cl hI0) ms0 _ (fun i hi => (mT_w t4 h2).1 i (List.mem_of_mem_drop hi))] at hh
      exact hh
    · have hh := hp g1 h3 w1 h1 h2
      subst h4
      rw [if_neg (by omega), if_pos (by omega), if_neg (by omega), Int.toNat_natCast, ltr_eq h5] at hh
      exact hh
    · have hh := hp g1 h3 w1 h1 h2
      rw [if_neg h4, if_neg h5] at hh
      exact hh

set_option maxHeartbeats 4000000 in
theorem M_resize {al : Prop} {X : Option (Nat × (Int → Int))} {d : Nat} {sh : List aj_S} {g : aj_G} {Q : aj_R → List aj_S → aj_G → Prop} {k n s0 : Nat} {nx ou : Nat → Nat → Nat} {z : Int} {tw : Nat → Nat} {N : Nat} {q : nb_T} {mnx mou : Nat → Nat → Nat} {mi : Nat} {ix io : Nat → Nat → Nat} {w : List Nat} {v : Int} {S : List Nat → Prop} {fp hd hp : Int} (hI : mI sh g k n s0 nx ou z tw N q mnx mou mi ix io w v S fp hd hp) {s : Int} (x1 : aj_I s) (hk1 : (¬ (1 ≤ s ∧ s ≤ 10) → ∀ g1 : aj_G, frM g g1 → g1 78 0 = 1 → mI sh g1 k n s0 nx ou z tw N q mnx mou mi ix io w v S fp hd hp → Q (.inl none) sh g1)) (hk2 : ((1 ≤ s ∧ s ≤ 10) → z = 0 → ∀ g1 : aj_G, frM g g1 → g1 78 0 = 2 → mI sh g1 k n s0 nx ou z tw N q mnx mou mi ix io w v S fp hd hp → Q (.inl none) sh g1)) (hk0 : ((1 ≤ s ∧ s ≤ 10) → z = 1 → ∀ g1 : aj_G, frM g g1 → g1 78 0 = 0 → mI sh g1 k n s0 nx ou z tw N q mnx mou (s.toNat) (rz_n mi s.toNat ix) (rz_o mi io) w v S fp hd hp → Q (.inl none) sh g1)) : aj_wp nE al al X m_Model_resize (d + 6) 0 0 0 [some (1, 78), some (0, s), none, none, none] [] sh g Q := by
  have hI0 := hI
  obtain ⟨hM, ⟨m5, ms0, m6, mz, m29, m30, mhd, m31⟩, ⟨m16, mwo, mwl⟩, hu, hs, m20, mv, hT⟩ := hI
  have hk4 := hM.2.2.2.1
  have hn8 := hM.2.2.2.2.1
  refine k_Model_resize (b := mi) (ix := ix) (io := io) hM m6 mz (fun h => (hs h).2.1) x1 (fun h => hk1 h _ (frM_th g _) (aj_up_self _ _ _ _) (mI_th hI0 _)) (fun h h2 => hk2 h h2 _ (frM_th g _) (aj_up_self _ _ _ _) (mI_th hI0 _)) (fun m g1 h1 h2 h3 h4 h5 h6 h7 => ?_)
  subst h1
  rw [Int.toNat_natCast] at hk0
  exact hk0 (by omega) h4 g1 (fun r' h => by rw [h5 r' (by omega) (by omega) (by omega), aj_up_ne _ _ _ (by omega)]) (by rw [h6 0 (by omega), aj_up_self]) (mI_impl hI0 h4 (fun r' h => by rw [h5 r' (by omega) (by omega) (by omega), aj_up_ne _ _ _ (by omega)]) (fun j a b => by rw [h6 j b, aj_up_ni _ _ _ a]) h7 (by omega))

set_option maxHeartbeats 4000000 in
theorem M_change {al : Prop} {X : Option (Nat × (Int → Int))} {d : Nat} {sh : List aj_S} {g : aj_G} {Q : aj_R → List aj_S → aj_G → Prop} {k n s0 : Nat} {nx ou : Nat → Nat → Nat} {z : Int} {tw : Nat → Nat} {N : Nat} {q : nb_T} {mnx mou : Nat → Nat → Nat} {mi : Nat} {ix io : Nat → Nat → Nat} {w : List Nat} {v : Int} {S : List Nat → Prop} {fp hd hp : Int} (hI : mI sh g k n s0 nx ou z tw N q mnx mou mi ix io w v S fp hd hp) {s i t u : Int} (x1 : aj_I s) (x2 : aj_I i) (x3 : aj_I t) (x4 : aj_I u) (hk1 : (z = 0 → ∀ g1 : aj_G, frM g g1 → g1 78 0 = 1 → mI sh g1 k n s0 nx ou z tw N q mnx mou mi ix io w v S fp hd hp → Q (.inl none) sh g1)) (hk2 : (z = 1 → ¬ ((0 ≤ s ∧ s < (mi : Int)) ∧ (0 ≤ i ∧ i < (k : Int)) ∧ (0 ≤ t ∧ t < (mi : Int)) ∧ (0 ≤ u ∧ u < 4)) → ∀ g1 : aj_G, frM g g1 → g1 78 0 = 2 → mI sh g1 k n s0 nx ou z tw N q mnx mou mi ix io w v S fp hd hp → Q (.inl none) sh g1)) (hk0 : (((0 ≤ s ∧ s < (mi : Int)) ∧ (0 ≤ i ∧ i < (k : Int)) ∧ (0 ≤ t ∧ t < (mi : Int)) ∧ (0 ≤ u ∧ u < 4)) → z = 1 → ∀ g1 : aj_G, frM g g1 → g1 78 0 = 0 → mI sh g1 k n s0 nx ou z tw N q mnx mou mi (up2 ix s.toNat i.toNat t.toNat) (up2 io s.toNat i.toNat u.toNat) w v S fp hd hp → Q (.inl none) sh g1)) : aj_wp nE al al X m_Model_change (d + 6) 0 0 0 [some (1, 78), some (0, s), some (0, i), some (0, t), some (0, u)] [] sh g Q := by
  have hI0 := hI
  obtain ⟨hM, ⟨m5, ms0, m6, mz, m29, m30, mhd, m31⟩, ⟨m16, mwo, mwl⟩, hu, hs, m20, mv, hT⟩ := hI
  have hk4 := hM.2.2.2.1
  have hn8 := hM.2.2.2.2.1
  refine k_Model_change (m := mi) hM m6 mz (fun h => ⟨(hs h).2.1.1, (hs h).2.1.2.1⟩) x1 x2 x3 x4 (fun h => hk1 h _ (frM_th g _) (aj_up_self _ _ _ _) (mI_th hI0 _)) (fun h h2 => hk2 h2 h _ (frM_th g _) (aj_up_self _ _ _ _) (mI_th hI0 _)) (fun h h2 => ?_)
  have h0 := h
  obtain ⟨⟨a1, a2⟩, ⟨a3, a4⟩, ⟨a5, a6⟩, a7, a8⟩ := h
  obtain ⟨s, rfl⟩ := Int.eq_ofNat_of_zero_le a1
  obtain ⟨i, rfl⟩ := Int.eq_ofNat_of_zero_le a3
  obtain ⟨t, rfl⟩ := Int.eq_ofNat_of_zero_le a5
  obtain ⟨u, rfl⟩ := Int.eq_ofNat_of_zero_le a7
  simp only [Int.toNat_natCast] at hk0
  exact hk0 h0 h2 _ (fun r' h => by rw [aj_up_ne _ _ _ (by omega), aj_up_ne _ _ _ (by omega), aj_up_ne _ _ _ (by omega)]) (by rw [aj_up_ne _ _ _ (by omega), aj_up_ne _ _ _ (by omega), aj_up_self]) (mI_impl hI0 h2 (fun r' h => by rw [aj_up_ne _ _ _ (by omega), aj_up_ne _ _ _ (by omega), aj_up_ne _ _ _ (by omega)]) (fun j a _ => by rw [aj_up_ne _ _ _ (by omega), aj_up_ne _ _ _ (by omega), aj_up_ni _ _ _ a]) (mim_set hk4.2 (hs h2).2.1 (by omega) (by omega) (by omega) (by omega)) (hs h2).2.2.1)

set_option maxHeartbeats 4000000 in
theorem M_run {al : Prop} {X : Option (Nat × (Int → Int))} {d : Nat} {sh : List aj_S} {g : aj_G} {Q : aj_R → List aj_S → aj_G → Prop} {k n s0 : Nat} {nx ou : Nat → Nat → Nat} {z : Int} {tw : Nat → Nat} {N : Nat} {q : nb_T} {mnx mou : Nat → Nat → Nat} {mi : Nat} {ix io : Nat → Nat → Nat} {w : List Nat} {v : Int} {S : List Nat → Prop} {fp hd hp : Int} (hI : mI sh g k n s0 nx ou z tw N q mnx mou mi ix io w v S fp hd hp)  (hk1 : (v = 0 → ∀ g1 : aj_G, frM g g1 → g1 78 0 = 1 → mI sh g1 k n s0 nx ou z tw N q mnx mou mi ix io w v S fp hd hp → Q (.inl (some (0, 0))) sh g1)) (hk : v = 1 → ∀ (g1 : aj_G) (x fp1 : Int), frM g g1 → g1 78 0 = 0 → rnR (dD ix io mnx mou) (lvF S k 20 []) x fp1 → mI sh g1 k n s0 nx ou z tw N q mnx mou mi ix io w v S (fp1) hd hp → Q (.inl (some (0, x))) sh g1) : aj_wp nE al al X m_Model_run (d + 6) 0 0 0 [some (1, 78), none] [] sh g Q := by
  have hI0 := hI
  obtain ⟨hM, ⟨m5, ms0, m6, mz, m29, m30, mhd, m31⟩, ⟨m16, mwo, mwl⟩, hu, hs, m20, mv, hT⟩ := hI
  have hk4 := hM.2.2.2.1
  have hn8 := hM.2.2.2.2.1
  rcases hT with ⟨t1, t2, t3⟩ | ⟨t1, t2, t3, ⟨c, W, t4, t5⟩, t6⟩
  · exact k_Model_run1 hM.1 (by rw [m20]; exact t1) (hk1 t1 _ (frM_th g _) (aj_up_self _ _ _ _) (mI_th hI0 _))
  · have hcg : ∀ (t : Nat) (h : t < (lvF S k 20 []).length), ffw (fun v => eo ix io 0 v ≠ eo nx ou s0 v) (lvF S k 20 [])[t] = ffw (dD ix io mnx mou) (lvF S k 20 [])[t] := fun t h => ffw_cg (k := k) (fun u hu => by
      show (eo ix io 0 u ≠ eo nx ou s0 u) ↔ (eo ix io 0 u ≠ eo mnx mou 0 u)
      rw [eo_eq (mI_pu hI0 t2) (mI_cl hI0) ms0 u hu]) _ (mT_w t4 h).1
    refine k_Model_run hM m5 ms0 (hs t2).2.1 (hs t2).2.2.1 t4 (fun g1 t h hF hne hlt h29 => ?_) (fun g1 hF hall h29 => ?_)
    · rw [hcg t h] at hne h29
      exact hk t1 g1 _ _ (fun r' h => by rw [hF.1 r' (by omega) (by omega), aj_up_ne _ _ _ (by omega)]) (by rw [hF.2 0 (by omega), aj_up_self]) (Or.inl ⟨t, h, rfl, rfl, hne, fun t' h' hl => by rw [← hcg t' h']; exact hlt t' h' hl⟩) (mI_num hI0 (fun r' h => by rw [hF.1 r' (by omega) (by omega), aj_up_ne _ _ _ (by omega)]) (fun j a b c d e f => by rw [hF.2 j c, aj_up_ni _ _ _ a]) h29 ⟨by rw [hF.2 30 (by omega), aj_up_ni _ _ _ (by omega)]; exact m30, mhd, fun h => by rw [hF.2 31 (by omega), aj_up_ni _ _ _ (by omega)]; exact m31 h⟩ ⟨by rw [hF.2 16 (by omega), aj_up_ni _ _ _ (by omega)]; exact m16, mwo, mwl⟩ (mI_hh hI0))
    · exact hk t1 g1 _ _ (fun r' h => by rw [hF.1 r' (by omega) (by omega), aj_up_ne _ _ _ (by omega)]) (by rw [hF.2 0 (by omega), aj_up_self]) (Or.inr ⟨rfl, rfl, fun t' h' => by rw [← hcg t' h']; exact hall t' h'⟩) (mI_num hI0 (fun r' h => by rw [hF.1 r' (by omega) (by omega), aj_up_ne _ _ _ (by omega)]) (fun j a b c d e f => by rw [hF.2 j c, aj_up_ni _ _ _ a]) h29 ⟨by rw [hF.2 30 (by omega), aj_up_ni _ _ _ (by omega)]; exact m30, mhd, fun h => by rw [hF.2 31 (by omega), aj_up_ni _ _ _ (by omega)]; exact m31 h⟩ ⟨by rw [hF.2 16 (by omega), aj_up_ni _ _ _ (by omega)]; exact m16, mwo, mwl⟩ (mI_hh hI0))

set_option maxHeartbeats 4000000 in
theorem M_begin {al : Prop} {X : Option (Nat × (Int → Int))} {d : Nat} {sh : List aj_S} {g : aj_G} {Q : aj_R → List aj_S → aj_G → Prop} {k n s0 : Nat} {nx ou : Nat → Nat → Nat} {z : Int} {tw : Nat → Nat} {N : Nat} {q : nb_T} {mnx mou : Nat → Nat → Nat} {mi : Nat} {ix io : Nat → Nat → Nat} {w : List Nat} {v : Int} {S : List Nat → Prop} {fp hd hp : Int} (hI : mI sh g k n s0 nx ou z tw N q mnx mou mi ix io w v S fp hd hp) {s : Int} (x1 : aj_I s) (hk0 : (¬ (v = 1 ∧ 0 ≤ s ∧ s < ((lvF S k 20 []).length : Int)) → ∀ g1 : aj_G, frM g g1 → g1 78 0 = 1 → mI sh g1 k n s0 nx ou z tw N q mnx mou mi ix io w v S fp hd hp → Q (.inl (some (0, 0))) sh g1)) (hk1 : ((v = 1 ∧ 0 ≤ s ∧ s < ((lvF S k 20 []).length : Int)) → ∀ g1 : aj_G, frM g g1 → g1 78 0 = 0 → mI sh g1 k n s0 nx ou z tw N q mnx mou mi ix io w v S fp (s) (0) → Q (.inl (some (0, (ltr ((lvF S k 20 []).getD s.toNat []) 0 : Int)))) sh g1)) : aj_wp nE al al X m_Model_begin (d + 6) 0 0 0 [some (1, 78), some (0, s), none] [] sh g Q := by
  have hI0 := hI
  obtain ⟨hM, ⟨m5, ms0, m6, mz, m29, m30, mhd, m31⟩, ⟨m16, mwo, mwl⟩, hu, hs, m20, mv, hT⟩ := hI
  have hk4 := hM.2.2.2.1
  have hn8 := hM.2.2.2.2.1
  rcases hT with ⟨t1, t2, t3⟩ | ⟨t1, t2, t3, ⟨c, W, t4, t5⟩, t6⟩
  · exact k_Model_begin (c := 0) (W := fun _ => []) (T := []) hM m20 mv t2 (by unfold aj_I; omega) (fun h => by omega) (fun t h => absurd h (Nat.not_lt_zero _)) x1 (fun h => hk0 (by omega) _ (frM_th g _) (aj_up_self _ _ _ _) (mI_th hI0 _)) (fun w1 g1 h1 h2 => absurd h2 (Nat.not_lt_zero _))
  · have hcnt := mT_cnt t4
    refine k_Model_begin hM m20 mv t4.2.2.1 (by unfold aj_I; omega) (fun _ => t4) (lv_ne t3) x1 (fun h => hk0 h _ (frM_th g _) (aj_up_self _ _ _ _) (mI_th hI0 _)) (fun w1 g1 h1 h2 hF => ?_)
    subst h1
    have hpos := lv_ne t3 w1 h2
    have hgd : (lvF S k 20 []).getD w1 [] = (lvF S k 20 [])[w1] := by rw [List.getD_eq_getElem?_getD, List.getElem?_eq_getElem h2]; rfl
    rw [Int.toNat_natCast, hgd, ltr_eq hpos] at hk1
    refine hk1 ⟨t1, by omega, by omega⟩ _ (fun r' h => by rw [aj_up_ne _ _ _ (by omega), aj_up_ne _ _ _ (by omega), hF r' (by omega), aj_up_ne _ _ _ (by omega)]) (by rw [aj_up_ni _ _ _ (by omega), aj_up_ni _ _ _ (by omega), hF 78 (by omega), aj_up_self]) (mI_num hI0 (fun r' h => by rw [aj_up_ne _ _ _ (by omega), aj_up_ne _ _ _ (by omega), hF r' (by omega), aj_up_ne _ _ _ (by omega)]) (fun j a b c d e f => by rw [aj_up_ni _ _ _ e, aj_up_ni _ _ _ d, hF 78 (by omega), aj_up_ni _ _ _ a]) ?_ ⟨by rw [aj_up_ni _ _ _ (by omega), aj_up_self], by unfold aj_I; omega, fun _ => aj_up_self _ _ _ _⟩ ⟨?_, mwo, mwl⟩ ⟨fun h => by omega, fun _ => Or.inr ⟨w1, 0, h2, rfl, rfl, hpos⟩⟩)
    · rw [aj_up_ni _ _ _ (by omega), aj_up_ni _ _ _ (by omega), hF 78 (by omega), aj_up_ni _ _ _ (by omega)]; exact m29
    · rw [aj_up_ni _ _ _ (by omega), aj_up_ni _ _ _ (by omega), hF 78 (by omega), aj_up_ni _ _ _ (by omega)]; exact m16

set_option maxHeartbeats 4000000 in
theorem M_give {al : Prop} {X : Option (Nat × (Int → Int))} {d : Nat} {sh : List aj_S} {g : aj_G} {Q : aj_R → List aj_S → aj_G → Prop} {k n s0 : Nat} {nx ou : Nat → Nat → Nat} {z : Int} {tw : Nat → Nat} {N : Nat} {q : nb_T} {mnx mou : Nat → Nat → Nat} {mi : Nat} {ix io : Nat → Nat → Nat} {w : List Nat} {v : Int} {S : List Nat → Prop} {fp hd hp : Int} (hI : mI sh g k n s0 nx ou z tw N q mnx mou mi ix io w v S fp hd hp) {s : Int} (x1 : aj_I s) (hk1 : (hd = -1 → ∀ g1 : aj_G, frM g g1 → g1 78 0 = 1 → mI sh g1 k n s0 nx ou z tw N q mnx mou mi ix io w v S fp hd hp → Q (.inl (some (0, 0))) sh g1)) (hk2 : (¬ hd = -1 → ¬ (0 ≤ s ∧ s < 4) → ∀ g1 : aj_G, frM g g1 → g1 78 0 = 2 → mI sh g1 k n s0 nx ou z tw N q mnx mou mi ix io w v S fp hd hp → Q (.inl (some (0, 0))) sh g1))
    (hk3 : ¬ hd = -1 → ∀ (t j : Nat) (h : t < (lvF S k 20 []).length), hd = (t : Nat) → hp = (j : Nat) → j < (lvF S k 20 [])[t].length → s ≠ (eo mnx mou 0 ((lvF S k 20 [])[t].drop ((lvF S k 20 [])[t].length - 1 - j)) : Int) → ∀ g1 : aj_G, frM g g1 → g1 78 0 = 0 → mI sh g1 k n s0 nx ou z tw N q mnx mou mi ix io w v S fp (-1) hp → Q (.inl (some (0, -2))) sh g1)
    (hq4 : ¬ hd = -1 → ∀ (t j : Nat) (h : t < (lvF S k 20 []).length), hd = (t : Nat) → hp = (j : Nat) → s = (eo mnx mou 0 ((lvF S k 20 [])[t].drop ((lvF S k 20 [])[t].length - 1 - j)) : Int) → j + 1 = (lvF S k 20 [])[t].length → ∀ g1 : aj_G, frM g g1 → g1 78 0 = 0 → mI sh g1 k n s0 nx ou z tw N q mnx mou mi ix io w v S fp (-1) hp → Q (.inl (some (0, -1))) sh g1)
    (hk5 : ¬ hd = -1 → ∀ (t j : Nat) (h : t < (lvF S k 20 []).length), hd = (t : Nat) → hp = (j : Nat) → s = (eo mnx mou 0 ((lvF S k 20 [])[t].drop ((lvF S k 20 [])[t].length - 1 - j)) : Int) → j + 1 < (lvF S k 20 [])[t].length → ∀ g1 : aj_G, frM g g1 → g1 78 0 = 0 → mI sh g1 k n s0 nx ou z tw N q mnx mou mi ix io w v S fp hd ((j : Int) + 1) → Q (.inl (some (0, (ltr (lvF S k 20 [])[t] (j + 1) : Int)))) sh g1) : aj_wp nE al al X m_Model_give (d + 6) 0 0 0 [some (1, 78), some (0, s), none, none] [] sh g Q := by
  have hI0 := hI
  obtain ⟨hM, ⟨m5, ms0, m6, mz, m29, m30, mhd, m31⟩, ⟨m16, mwo, mwl⟩, hu, hs, m20, mv, hT⟩ := hI
  have hk4 := hM.2.2.2.1
  have hn8 := hM.2.2.2.2.1
  have hhn : hd = -1 ∨ (v = 1 ∧ z = 1 ∧ (∃ (c : Nat) (W : Nat → List Nat), mT g k c W (lvF S k 20 [])) ∧ ∃ (t j : Nat) (h : t < (lvF S k 20 []).length), hd = t ∧ hp = j ∧ j < (lvF S k 20 [])[t].length) := by
    rcases hT with ⟨-, -, t3⟩ | ⟨t1, t2, -, ⟨c, W, t4, -⟩, t6⟩
    · exact Or.inl t3
    · rcases t6 with e | e
      · exact Or.inl e
      · exact Or.inr ⟨t1, t2, ⟨c, W, t4⟩, e⟩
  by_cases hm1 : hd = -1
  · exact k_Model_give (c := 0) (W := fun _ => []) (T := []) hM m5 ms0 m30 mhd x1 (fun h => by omega) (fun _ => hk1 hm1 _ (frM_th g _) (aj_up_self _ _ _ _) (mI_th hI0 _)) (fun h => by omega) (fun w j g1 h => absurd h (Nat.not_lt_zero _)) (fun w j g1 h => absurd h (Nat.not_lt_zero _)) (fun w j g1 h => absurd h (Nat.not_lt_zero _))
  · rcases hhn with e | ⟨hv1, hz1, ⟨c, W, t4⟩, t, j, ht, e1, e2, e3⟩
    · exact absurd e hm1
    have hdr : ∀ (t j : Nat) (h : t < (lvF S k 20 []).length), eo nx ou s0 ((lvF S k 20 [])[t].drop ((lvF S k 20 [])[t].length - 1 - j)) = eo mnx mou 0 ((lvF S k 20 [])[t].drop ((lvF S k 20 [])[t].length - 1 - j)) := fun t j h => eo_eq (mI_pu hI0 hz1) (mI_cl hI0) ms0 _ (fun i hi => (mT_w t4 h).1 i (List.mem_of_mem_drop hi))
    refine k_Model_give hM m5 ms0 m30 mhd x1 (fun _ => ⟨t, j, e1, ht, e3, by rw [m31 (by omega)]; exact e2, t4⟩) (fun h => by omega) (fun h h2 => hk2 hm1 h2 _ (frM_th g _) (aj_up_self _ _ _ _) (mI_th hI0 _)) (fun w1 j1 g1 h h1 h2 h3 hF h4 => ?_) (fun w1 j1 g1 h h1 h2 h3 hF h4 h5 => ?_) (fun w1 j1 g1 h h1 h2 h3 hF h4 h5 => ?_)
    · have hj : hp = (j1 : Nat) := by rw [← h2, m31 (by omega)]
      rw [hdr w1 j1 h] at h4
      exact hk3 hm1 w1 j1 h h1 hj h3 h4 _ (fun r' h => by rw [aj_up_ne _ _ _ (by omega), aj_up_ne _ _ _ (by omega), hF r' (by omega), aj_up_ne _ _ _ (by omega)]) (by rw [aj_up_ni _ _ _ (by omega), aj_up_ni _ _ _ (by omega), hF 78 (by omega), aj_up_self]) (mI_num hI0 (fun r' h => by rw [aj_up_ne _ _ _ (by omega), aj_up_ne _ _ _ (by omega), hF r' (by omega), aj_up_ne _ _ _ (by omega)]) (fun j a b c d e f => by rw [aj_up_ni _ _ _ d, aj_up_ni _ _ _ e, hF 78 (by omega), aj_up_ni _ _ _ a]) (by rw [aj_up_ni _ _ _ (by omega), aj_up_ni _ _ _ (by omega), hF 78 (by omega), aj_up_ni _ _ _ (by omega)]; exact m29) ⟨aj_up_self _ _ _ _, by unfold aj_I; omega, fun h => absurd h (by decide)⟩ ⟨by rw [aj_up_ni _ _ _ (by omega), aj_up_ni _ _ _ (by omega), hF 78 (by omega), aj_up_ni _ _ _ (by omega)]; exact m16, mwo, mwl⟩ ⟨fun h => by omega, fun _ => Or.inl rfl⟩)
    · have hj : hp = (j1 : Nat) := by rw [← h2, m31 (by omega)]
      rw [hdr w1 j1 h] at h4
      exact hq4 hm1 w1 j1 h h1 hj h4 h5 _ (fun r' h => by rw [aj_up_ne _ _ _ (by omega), aj_up_ne _ _ _ (by omega), hF r' (by omega), aj_up_ne _ _ _ (by omega)]) (by rw [aj_up_ni _ _ _ (by omega), aj_up_ni _ _ _ (by omega), hF 78 (by omega), aj_up_self]) (mI_num hI0 (fun r' h => by rw [aj_up_ne _ _ _ (by omega), aj_up_ne _ _ _ (by omega), hF r' (by omega), aj_up_ne _ _ _ (by omega)]) (fun j a b c d e f => by rw [aj_up_ni _ _ _ d, aj_up_ni _ _ _ e, hF 78 (by omega), aj_up_ni _ _ _ a]) (by rw [aj_up_ni _ _ _ (by omega), aj_up_ni _ _ _ (by omega), hF 78 (by omega), aj_up_ni _ _ _ (by omega)]; exact m29) ⟨aj_up_self _ _ _ _, by unfold aj_I; omega, fun h => absurd h (by decide)⟩ ⟨by rw [aj_up_ni _ _ _ (by omega), aj_up_ni _ _ _ (by omega), hF 78 (by omega), aj_up_ni _ _ _ (by omega)]; exact m16, mwo, mwl⟩ ⟨fun h => by omega, fun _ => Or.inl rfl⟩)
    · have hj : hp = (j1 : Nat) := by rw [← h2, m31 (by omega)]
      rw [hdr w1 j1 h] at h4
      have h6 := h5
      rw [← ltr_eq h5]
      exact hk5 hm1 w1 j1 h h1 hj h4 h5 _ (fun r' h => by rw [aj_up_ne _ _ _ (by omega), hF r' (by omega), aj_up_ne _ _ _ (by omega)]) (by rw [aj_up_ni _ _ _ (by omega), hF 78 (by omega), aj_up_self]) (mI_num hI0 (fun r' h => by rw [aj_up_ne _ _ _ (by omega), hF r' (by omega), aj_up_ne _ _ _ (by omega)]) (fun j a b c d e f => by rw [aj_up_ni _ _ _ e, hF 78 (by omega), aj_up_ni _ _ _ a]) (by rw [aj_up_ni _ _ _ (by omega), hF 78 (by omega), aj_up_ni _ _ _ (by omega)]; exact m29) ⟨by rw [aj_up_ni _ _ _ (by omega), hF 78 (by omega), aj_up_ni _ _ _ (by omega)]; exact m30, mhd, fun _ => aj_up_self _ _ _ _⟩ ⟨by rw [aj_up_ni _ _ _ (by omega), hF 78 (by omega), aj_up_ni _ _ _ (by omega)]; exact m16, mwo, mwl⟩ ⟨fun h => by omega, fun _ => Or.inr ⟨w1, j1 + 1, h, h1, by push_cast; rfl, h6⟩⟩)

set_option maxHeartbeats 4000000 in
theorem M_same {al : Prop} {X : Option (Nat × (Int → Int))} {d : Nat} {sh : List aj_S} {g : aj_G} {Q : aj_R → List aj_S → aj_G → Prop} {k n s0 : Nat} {nx ou : Nat → Nat → Nat} {z : Int} {tw : Nat → Nat} {N : Nat} {q : nb_T} {mnx mou : Nat → Nat → Nat} {mi : Nat} {ix io : Nat → Nat → Nat} {w : List Nat} {v : Int} {S : List Nat → Prop} {fp hd hp : Int} (hI : mI sh g k n s0 nx ou z tw N q mnx mou mi ix io w v S fp hd hp)  (hk1 : (z = 0 → ∀ g1 : aj_G, frM g g1 → g1 78 0 = 1 → mI sh g1 k n s0 nx ou z tw N q mnx mou mi ix io w v S fp hd hp → Q (.inl (some (0, 0))) sh g1)) (hk : z = 1 → ∀ (g1 : aj_G) (u : List Nat), frM g g1 → g1 78 0 = 0 → (wd_least k ix io 0 mnx mou 0 u ∨ (wd_none k ix io 0 mnx mou 0 ∧ u = [])) → mI sh g1 k n s0 nx ou z tw N q mnx mou mi ix io (u) v S fp hd hp → Q (.inl (some (0, (u.length : Int)))) sh g1) : aj_wp nE al al X m_Model_same (d + 6) 0 0 0 [some (1, 78), none, none, none, none, none, none, none, none] [] sh g Q := by
  have hI0 := hI
  obtain ⟨hM, ⟨m5, ms0, m6, mz, m29, m30, mhd, m31⟩, ⟨m16, mwo, mwl⟩, hu, hs, m20, mv, hT⟩ := hI
  have hk4 := hM.2.2.2.1
  have hn8 := hM.2.2.2.2.1
  by_cases hz : z = 1
  · have hpu := mI_pu hI0 hz
    refine k_Model_same hM (hs hz).2.1 (hs hz).2.2.1 ms0 m5 (by rw [m6]; exact hz) (fun g1 u hF h16 hl hok hr => ?_)
    have hde := fun v hv => df_eq (ix := ix) (io := io) hpu (mI_cl hI0) ms0 v hv
    refine hk hz g1 u (fun r' h => by rw [hF.1 r' (by omega) (by omega) (by omega) (by omega), aj_up_ne _ _ _ (by omega)]) (by rw [hF.2 0 (by omega), aj_up_self]) ?_ (mI_num hI0 (fun r' h => by rw [hF.1 r' (by omega) (by omega) (by omega) (by omega), aj_up_ne _ _ _ (by omega)]) (fun j a b c d e f => by rw [hF.2 j f, aj_up_ni _ _ _ a]) (by rw [hF.2 29 (by omega), aj_up_ni _ _ _ (by omega)]; exact m29) ⟨by rw [hF.2 30 (by omega), aj_up_ni _ _ _ (by omega)]; exact m30, mhd, fun h => by rw [hF.2 31 (by omega), aj_up_ni _ _ _ (by omega)]; exact m31 h⟩ ⟨h16, hok, by omega⟩ (mI_hh hI0))
    rcases hr with ⟨a, b, c⟩ | ⟨a, b⟩
    · exact Or.inl ⟨a, (hde u a).mpr b, fun v hv hd => c v hv ((hde v hv).mp hd)⟩
    · exact Or.inr ⟨fun v hv hd => a v hv ((hde v hv).mp hd), b⟩
  · exact k_Model_same1 hM.1 (by rw [m6]; omega) (hk1 (by omega) _ (frM_th g _) (aj_up_self _ _ _ _) (mI_th hI0 _))

set_option maxHeartbeats 4000000 in
theorem M_covered {al : Prop} {X : Option (Nat × (Int → Int))} {d : Nat} {sh : List aj_S} {g : aj_G} {Q : aj_R → List aj_S → aj_G → Prop} {k n s0 : Nat} {nx ou : Nat → Nat → Nat} {z : Int} {tw : Nat → Nat} {N : Nat} {q : nb_T} {mnx mou : Nat → Nat → Nat} {mi : Nat} {ix io : Nat → Nat → Nat} {w : List Nat} {v : Int} {S : List Nat → Prop} {fp hd hp : Int} (hI : mI sh g k n s0 nx ou z tw N q mnx mou mi ix io w v S fp hd hp)  (hk : ∀ g1 : aj_G, frM g g1 → mI sh g1 k n s0 nx ou z tw N q mnx mou mi ix io w v S fp hd hp → Q (.inl (some (0, covV v mnx S))) sh g1) : aj_wp nE al al X m_Model_covered (d + 6) 0 0 0 [some (1, 78), none, none, none, none, none] [] sh g Q := by
  have hI0 := hI
  obtain ⟨hM, ⟨m5, ms0, m6, mz, m29, m30, mhd, m31⟩, ⟨m16, mwo, mwl⟩, hu, hs, m20, mv, hT⟩ := hI
  have hk4 := hM.2.2.2.1
  have hn8 := hM.2.2.2.2.1
  unfold covV at hk
  rcases hT with ⟨t1, t2, t3⟩ | ⟨t1, t2, t3, ⟨c, W, t4, t5⟩, t6⟩
  · rw [if_neg (by omega)] at hk
    exact k_Model_covered1 hM.1 (by rw [m20]; exact t1) (fun g1 h => hk g1 (fun r' hr => by rw [h r' (by omega), aj_up_ne _ _ _ (by omega)]) (mI_of hI0 (fun r' hr => by rw [h r' (by omega), aj_up_ne _ _ _ (by omega)]) (fun j a _ => by rw [h 78 (by omega), aj_up_ni _ _ _ a])))
  · rw [if_pos t1] at hk
    obtain ⟨⟨sf, a1⟩, a2, a3, a4, a5, a6⟩ := hs t2
    refine k_Model_covered a1 a4 (mI_cl hI0) a5 a6 ms0 m5 t4 (fun g1 n0 hF hn => ?_)
    rw [hn, mc_cg (fun e _ => cov_T t4.2.2.2.1 t4.2.2.2.2.2.1 t5 e)]
    exact hk g1 (fun r' hr => by rw [hF r' (by omega) (by omega), aj_up_ne _ _ _ (by omega)]) (mI_of hI0 (fun r' hr => by rw [hF r' (by omega) (by omega), aj_up_ne _ _ _ (by omega)]) (fun j a _ => by rw [hF 78 (by omega) (by omega), aj_up_ni _ _ _ a]))

set_option maxHeartbeats 4000000 in
theorem M_look {al : Prop} {X : Option (Nat × (Int → Int))} {d : Nat} {sh : List aj_S} {g : aj_G} {Q : aj_R → List aj_S → aj_G → Prop} {k n s0 : Nat} {nx ou : Nat → Nat → Nat} {z : Int} {tw : Nat → Nat} {N : Nat} {q : nb_T} {mnx mou : Nat → Nat → Nat} {mi : Nat} {ix io : Nat → Nat → Nat} {w : List Nat} {v : Int} {S : List Nat → Prop} {fp hd hp : Int} (hI : mI sh g k n s0 nx ou z tw N q mnx mou mi ix io w v S fp hd hp) {s : Int} (x1 : aj_I s) (hk : ∀ g1 : aj_G, frM g g1 → mI sh g1 k n s0 nx ou z tw N q mnx mou mi ix io w v S fp hd hp → Q (.inl (some (0, lookV k n z N mi v S s))) sh g1) : aj_wp nE al al X m_Model_look (d + 6) 0 0 0 [some (1, 78), some (0, s)] [] sh g Q := by
  have hI0 := hI
  obtain ⟨hM, ⟨m5, ms0, m6, mz, m29, m30, mhd, m31⟩, ⟨m16, mwo, mwl⟩, hu, hs, m20, mv, hT⟩ := hI
  have hk4 := hM.2.2.2.1
  have hn8 := hM.2.2.2.2.1
  have hh := hk _ (frM_th g 0) (mI_th hI0 0)
  refine k_Model_look hM m6 mz rfl rfl m20 mv rfl rfl x1 ?_
  have e8 : g 78 8 = (if z = 1 then (N : Int) else 0) := by
    by_cases hz : z = 1
    · rw [if_pos hz]
      obtain ⟨⟨sf, a1⟩, -, -, -, a5, -⟩ := hs hz
      rw [a1.2.2.1.2.2.1, a5]
    · rw [if_neg hz]
      exact (hu (by omega)).1
  have e17 : g 78 17 = (if z = 1 then (mi : Int) else 0) := by
    by_cases hz : z = 1
    · rw [if_pos hz]
      exact (hs hz).2.1.1
    · rw [if_neg hz]
      exact (hu (by omega)).2
  have e25 : (if v = 1 then g 78 25 else 0) = (if v = 1 then ((lvF S k 20 []).length : Int) else 0) := by
    rcases hT with ⟨t1, t2, t3⟩ | ⟨t1, t2, t3, ⟨c, W, t4, t5⟩, t6⟩
    · rw [if_neg (by omega), if_neg (by omega)]
    · rw [if_pos t1, if_pos t1]
      exact t4.2.2.1
  have e21 : (if v = 1 then g 78 21 else 0) = (if v = 1 then (szS k S : Int) else 0) := by
    rcases hT with ⟨t1, t2, t3⟩ | ⟨t1, t2, t3, ⟨c, W, t4, t5⟩, t6⟩
    · rw [if_neg (by omega), if_neg (by omega)]
    · rw [if_pos t1, if_pos t1, szS_eq t4.2.2.2.1 t5]
      exact t4.2.1
  unfold lookV at hh
  rw [e8, e17, e25, e21]
  exact hh

