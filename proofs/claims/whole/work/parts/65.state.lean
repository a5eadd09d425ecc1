/-! what both sides hold: the bench as it is in the class; what is answered, as pure functions -/
def bnO (sh : List aj_S) (g : aj_G) (r r2 : Int) : Prop := aj_sh sh 0 = some (.inr 7) ∧ (g 0 0 = 1 ∧ g 0 1 = 4 ∧ g 0 2 = 13 ∧ g 0 3 = 41 ∧ g 0 4 = 44 ∧ g 0 5 = 53 ∧ g 0 6 = 56 ∧ g 0 7 = r ∧ g 0 8 = r2) ∧ ((r = 58 ∧ r2 = 68) ∨ (r = 68 ∧ r2 = 58))
section BNO
variable {sh : List aj_S} {g : aj_G} {r r2 : Int}
theorem bf_specification (h : bnO sh g r r2) : g 0 0 = 1 := h.2.1.1
theorem bf_reduction (h : bnO sh g r r2) : g 0 1 = 4 := h.2.1.2.1
theorem bf_family (h : bnO sh g r r2) : g 0 2 = 13 := h.2.1.2.2.1
theorem bf_implementation (h : bnO sh g r r2) : g 0 3 = 41 := h.2.1.2.2.2.1
theorem bf_search (h : bnO sh g r r2) : g 0 4 = 44 := h.2.1.2.2.2.2.1
theorem bf_trial (h : bnO sh g r r2) : g 0 5 = 53 := h.2.1.2.2.2.2.2.1
theorem bf_word (h : bnO sh g r r2) : g 0 6 = 56 := h.2.1.2.2.2.2.2.2.1
theorem bf_suite (h : bnO sh g r r2) : g 0 7 = r := h.2.1.2.2.2.2.2.2.2.1
theorem bf_spare (h : bnO sh g r r2) : g 0 8 = r2 := h.2.1.2.2.2.2.2.2.2.2
theorem bnO_of {g1 : aj_G} (h : bnO sh g r r2) (e : ∀ j, j ≤ 8 → g1 0 j = g 0 j) : bnO sh g1 r r2 := by
  obtain ⟨h1, ⟨b0, b1, b2, b3, b4, b5, b6, b7, b8⟩, h3⟩ := h
  exact ⟨h1, ⟨by rw [e _ (by omega)]; exact b0, by rw [e _ (by omega)]; exact b1, by rw [e _ (by omega)]; exact b2, by rw [e _ (by omega)]; exact b3, by rw [e _ (by omega)]; exact b4, by rw [e _ (by omega)]; exact b5, by rw [e _ (by omega)]; exact b6, by rw [e _ (by omega)]; exact b7, by rw [e _ (by omega)]; exact b8⟩, h3⟩
theorem bnO_r (h : bnO sh g r r2) : (r = 58 ∨ r = 68) ∧ (r2 = 58 ∨ r2 = 68) ∧ r ≠ r2 := by
  rcases h.2.2 with ⟨a, b⟩ | ⟨a, b⟩ <;> omega
end BNO
/-- the numbers in the bench -/
def cN (g : aj_G) (n s0 : Nat) (z fp hd hp : Int) : Prop := g 0 9 = s0 ∧ s0 < n ∧ g 0 10 = z ∧ (z = 0 ∨ z = 1) ∧ g 0 11 = fp ∧ aj_I fp ∧ g 0 12 = hd ∧ aj_I hd ∧ (0 ≤ hd → g 0 13 = hp)
/-- the objects that never change -/
def cO (sh : List aj_S) (g : aj_G) (k : Nat) : Prop := rds sh g ∧ mcs sh g 10 (8 * k) ∧ g 10 0 = k ∧ fms sh g ∧ mcs sh g 41 (10 * k) ∧ g 41 0 = k ∧ pss sh g 44 ∧ trS sh g ∧ sus sh g 58 k ∧ sus sh g 68 k
def cU (g : aj_G) : Prop := g 10 3 = 0 ∧ g 13 3 = 0 ∧ (∀ a : Nat, a < 8 → g 24 a = 0) ∧ g 41 3 = 0
def cW (sh : List aj_S) (g : aj_G) (k : Nat) (w : List Nat) : Prop := wds sh g 56 ∧ wat g 56 w ∧ wd_ok k w ∧ w.length ≤ 100
def cS (sh : List aj_S) (g : aj_G) (k n s0 : Nat) (nx ou : Nat → Nat → Nat) (tw : Nat → Nat) (N : Nat) (q : nb_T) (mnx mou : Nat → Nat → Nat) (mi : Nat) (ix io : Nat → Nat → Nat) : Prop := suR sh g k n s0 nx ou tw N q ∧ suC sh g (8 * k) k N mnx mou ∧ smm k n nx ou tw N q mnx mou ∧ suF sh g k N (FC k N mnx mou) (FW k N mnx mou) (FO k N mnx mou) ∧ mcm sh g 41 (10 * k) k mi ix io ∧ 0 < mi
def hnO (T : List (List Nat)) (hd hp : Int) : Prop := hd = -1 ∨ ∃ (t j : Nat) (h : t < T.length), hd = t ∧ hp = j ∧ j < T[t].length
def cT (g : aj_G) (r : Int) (k : Nat) (mnx : Nat → Nat → Nat) (z v : Int) (S : List Nat → Prop) (hd hp : Int) : Prop := (v = 0 ∧ g r 12 = 0 ∧ g r 13 = 0 ∧ hd = -1) ∨ (v = 1 ∧ z = 1 ∧ (∃ a, a < k ∧ S [a]) ∧ (∃ (c : Nat) (W : Nat → List Nat), sT g r k c W mnx (lvF S k 20 []) ∧ ∀ u, pr c W u ↔ S u) ∧ hnO (lvF S k 20 []) hd hp)
def cI (sh : List aj_S) (g : aj_G) (r r2 : Int) (k n s0 : Nat) (nx ou : Nat → Nat → Nat) (z : Int) (tw : Nat → Nat) (N : Nat) (q : nb_T) (mnx mou : Nat → Nat → Nat) (mi : Nat) (ix io : Nat → Nat → Nat) (w : List Nat) (v : Int) (S : List Nat → Prop) (fp hd hp : Int) : Prop :=
  bnO sh g r r2 ∧ cN g n s0 z fp hd hp ∧ (mcm sh g 1 (8 * k) k n nx ou ∧ 1 ≤ n ∧ n ≤ 8 ∧ (k = 1 ∨ k = 2 ∨ k = 3)) ∧ cO sh g k ∧ cW sh g k w ∧ (z = 0 → cU g) ∧ (z = 1 → cS sh g k n s0 nx ou tw N q mnx mou mi ix io) ∧ cT g r k mnx z v S hd hp
section OF
variable {sh : List aj_S} {g g1 : aj_G} {r r2 : Int} {k n s0 : Nat} {nx ou : Nat → Nat → Nat} {z : Int} {tw : Nat → Nat} {N : Nat} {q : nb_T} {mnx mou : Nat → Nat → Nat} {mi : Nat} {ix io : Nat → Nat → Nat} {w : List Nat} {v : Int} {S : List Nat → Prop} {fp hd hp : Int}
theorem cN_of (h : cN g n s0 z fp hd hp) (e : ∀ j, 9 ≤ j → g1 0 j = g 0 j) : cN g1 n s0 z fp hd hp := by
  unfold cN at h ⊢
  rw [e 9 (by omega), e 10 (by omega), e 11 (by omega), e 12 (by omega), e 13 (by omega)]
  exact h
theorem wds_of {x : Int} (h : wds sh g x) (e : g1 x 0 = g x 0) : wds sh g1 x := ⟨h.1, by rw [e]; exact h.2.1, h.2.2⟩
theorem cW_of (h : cW sh g k w) (e : g1 56 = g 56) (e2 : g1 57 = g 57) : cW sh g1 k w := by
  refine ⟨wds_of h.1 (by rw [e]), ?_, h.2.2⟩
  have h2 := h.2.1
  unfold wat at h2 ⊢
  rw [e, show g1 (56 + 1) = g (56 + 1) from e2]
  exact h2
theorem cU_of (h : cU g) (e1 : g1 10 3 = g 10 3) (e2 : g1 13 3 = g 13 3) (e3 : g1 24 = g 24) (e4 : g1 41 3 = g 41 3) : cU g1 := by
  unfold cU at h ⊢
  rw [e1, e2, e3, e4]
  exact h
/-- the fixed objects stand when only what may change has changed -/
theorem cO_of (h : cO sh g k) (e4 : g1 4 = g 4) (e10 : ∀ j, j ≠ 3 → g1 10 j = g 10 j) (e13 : ∀ j, j ≠ 3 → g1 13 j = g 13 j) (e14 : g1 14 = g 14) (e15 : g1 15 = g 15) (ew : ∀ w : Nat, w < 8 → g1 (25 + 2 * (w : Int)) 0 = g (25 + 2 * (w : Int)) 0) (e41 : ∀ j, j ≠ 3 → g1 41 j = g 41 j) (e44 : ∀ j, j ≠ 7 → g1 44 j = g 44 j) (e45 : g1 45 0 = g 45 0) (e53 : g1 53 = g 53) (e58 : ∀ j, j ≤ 11 → g1 58 j = g 58 j) (e68 : ∀ j, j ≤ 11 → g1 68 j = g 68 j) : cO sh g1 k := by
  obtain ⟨h1, h2, h3, h4, h5, h6, h7, h8, h9, h10⟩ := h
  refine ⟨rds_of h1 e4, ?_, by rw [e10 0 (by omega)]; exact h3, fms_of h4 e13 e14 e15 ew, ?_, by rw [e41 0 (by omega)]; exact h6, pss_of h7 e44 e45, trS_of h8 e53, sus_of h9 e58, sus_of h10 e68⟩
  · exact ⟨h2.1, by rw [e10 1 (by omega)]; exact h2.2.1, by rw [e10 2 (by omega)]; exact h2.2.2.1, h2.2.2.2⟩
  · exact ⟨h5.1, by rw [e41 1 (by omega)]; exact h5.2.1, by rw [e41 2 (by omega)]; exact h5.2.2.1, h5.2.2.2⟩
theorem cS_of (h : cS sh g k n s0 nx ou tw N q mnx mou mi ix io) (e : ∀ r', r' < 44 → g1 r' = g r') : cS sh g1 k n s0 nx ou tw N q mnx mou mi ix io := by
  obtain ⟨h1, h2, h3, h4, h5, h6⟩ := h
  refine ⟨suR_of h1 (fun r' _ => e r' (by omega)), suC_of h2 (fun r' _ => e r' (by omega)), h3, ?_, mcm_of h5 (e _ (by omega)) (e _ (by omega)) (e _ (by omega)), h6⟩
  obtain ⟨f1, f2, f3⟩ := h4
  refine ⟨fms_of f1 (fun j _ => by rw [e 13 (by omega)]) (e _ (by omega)) (e _ (by omega)) (fun w hw => by rw [e _ (by omega)]), fam_of f2 (by rw [e 13 (by omega)]) (fun w hw => ⟨e _ (by omega), e _ (by omega)⟩), fun s hs => ⟨?_, (f3 s hs).2⟩⟩
  obtain ⟨⟨a1, a2⟩, -⟩ := f3 s hs
  have hN := h2.2.2.2
  exact ⟨by rw [e 24 (by omega)]; exact a1, fun v hv => by rw [e (16 + (s : Int)) (by omega)]; exact a2 v hv⟩
theorem cT_of (h : cT g r k mnx z v S hd hp) (e : ∀ i, 0 ≤ i ∧ i ≤ 9 → g1 (r + i) = g (r + i)) : cT g1 r k mnx z v S hd hp := by
  have e0 : g1 r = g r := by have := e 0 (by omega); rwa [Int.add_zero] at this
  rcases h with ⟨a, b, c, d⟩ | ⟨a, b, c, ⟨c1, W, d1, d2⟩, e1⟩
  · exact Or.inl ⟨a, by rw [e0]; exact b, by rw [e0]; exact c, d⟩
  · exact Or.inr ⟨a, b, c, ⟨c1, W, sT_of d1 (by rw [e0]) (by rw [e0]) (fun i hi => e i (by omega)), d2⟩, e1⟩
/-- what is written from place 78 on does not touch the class -/
theorem cI_of (h : cI sh g r r2 k n s0 nx ou z tw N q mnx mou mi ix io w v S fp hd hp) (e : ∀ r', r' < 78 → g1 r' = g r') : cI sh g1 r r2 k n s0 nx ou z tw N q mnx mou mi ix io w v S fp hd hp := by
  obtain ⟨h1, h2, h3, h4, h5, h6, h7, h8⟩ := h
  have hr := bnO_r h1
  exact ⟨bnO_of h1 (fun j _ => by rw [e 0 (by omega)]), cN_of h2 (fun j _ => by rw [e 0 (by omega)]), ⟨mcm_of h3.1 (e _ (by omega)) (e _ (by omega)) (e _ (by omega)), h3.2⟩, cO_of h4 (e _ (by omega)) (fun j _ => by rw [e 10 (by omega)]) (fun j _ => by rw [e 13 (by omega)]) (e _ (by omega)) (e _ (by omega)) (fun w hw => by rw [e _ (by omega)]) (fun j _ => by rw [e 41 (by omega)]) (fun j _ => by rw [e 44 (by omega)]) (by rw [e 45 (by omega)]) (e _ (by omega)) (fun j _ => by rw [e 58 (by omega)]) (fun j _ => by rw [e 68 (by omega)]), cW_of h5 (e _ (by omega)) (e _ (by omega)), fun hz => cU_of (h6 hz) (by rw [e 10 (by omega)]) (by rw [e 13 (by omega)]) (e _ (by omega)) (by rw [e 41 (by omega)]), fun hz => cS_of (h7 hz) (fun r' _ => e r' (by omega)), cT_of h8 (fun i _ => e _ (by omega))⟩
end OF
/-! the answers -/
def ltr (u : List Nat) (i : Nat) : Nat := u.getD (u.length - 1 - i) 0
theorem ltr_eq {u : List Nat} {i : Nat} (h : i < u.length) : ltr u i = u[u.length - 1 - i] := by
  unfold ltr
  rw [List.getD_eq_getElem?_getD, List.getElem?_eq_getElem (by omega)]
  rfl
def wordV (w : List Nat) (i : Int) : Int := if 0 ≤ i ∧ i < w.length then (ltr w i.toNat : Int) else -1
def famV (z : Int) (c : Nat) (F : Nat → List Nat) (w i : Int) : Int := if z = 1 then (if w = -1 then (c : Int) else if 0 ≤ w ∧ w < c then (if i = -1 then ((F w.toNat).length : Int) else wordV (F w.toNat) i) else -1) else -1
def ownV (z : Int) (N : Nat) (O : Nat → ow_T) (s w : Int) : Int := if z = 1 ∧ 0 ≤ s ∧ s < N then (if w = -1 then ((O s.toNat).1 : Int) else if 0 ≤ w ∧ w < (O s.toNat).1 then ((O s.toNat).2 w.toNat : Int) else -1) else -1
noncomputable def nbF (q : nb_T) (N : Nat) (tw : Nat → Nat) (x : Nat) : Int := @dite Int (∃ a, a < N ∧ q.2.1 a = tw x) (Classical.propDecidable _) (fun h => ((Classical.choose h : Nat) : Int)) (fun _ => -1)
theorem nbF_eq {q : nb_T} {N : Nat} {tw : Nat → Nat} {x : Nat} {y : Int} (h1 : ∀ a : Nat, a < N → q.2.1 a = tw x → y = a) (h2 : (∀ a, a < N → q.2.1 a ≠ tw x) → y = -1) : nbF q N tw x = y := by
  unfold nbF
  by_cases c : ∃ a, a < N ∧ q.2.1 a = tw x
  · rw [dif_pos c]
    have := Classical.choose_spec c
    exact (h1 _ this.1 this.2).symm
  · rw [dif_neg c]
    exact (h2 (fun a a1 a2 => c ⟨a, a1, a2⟩)).symm
noncomputable def minV (z : Int) (n : Nat) (q : nb_T) (N : Nat) (tw : Nat → Nat) (s : Int) : Int := if z = 1 ∧ 0 ≤ s ∧ s < n then nbF q N tw s.toNat else -1
noncomputable def testV (v : Int) (T : List (List Nat)) (nx ou : Nat → Nat → Nat) (s0 : Nat) (t i e : Int) : Int := if v = 1 ∧ 0 ≤ t ∧ t < T.length then (if i = -1 then ((T.getD t.toNat []).length : Int) else if 0 ≤ i ∧ i < (T.getD t.toNat []).length then (if e = 1 then (eo nx ou s0 ((T.getD t.toNat []).drop ((T.getD t.toNat []).length - 1 - i.toNat)) : Int) else (ltr (T.getD t.toNat []) i.toNat : Int)) else -1) else -1
noncomputable def szS (k : Nat) (S : List Nat → Prop) : Nat := @dite Nat (∃ c W, tr_I k c W ∧ ∀ u, pr c W u ↔ S u) (Classical.propDecidable _) (fun h => Classical.choose h) (fun _ => 0)
theorem szS_eq {k c : Nat} {W : Nat → List Nat} {S : List Nat → Prop} (h : tr_I k c W) (h2 : ∀ u, pr c W u ↔ S u) : szS k S = c := by
  have hx : ∃ c W, tr_I k c W ∧ ∀ u, pr c W u ↔ S u := ⟨c, W, h, h2⟩
  unfold szS
  rw [dif_pos hx]
  obtain ⟨W', a, b⟩ := Classical.choose_spec hx
  have h3 := tr_le a (fun p hp => (h2 _).mpr ((b _).mp ⟨p, hp, rfl⟩))
  have h4 := tr_le h (fun p hp => (b _).mpr ((h2 _).mp ⟨p, hp, rfl⟩))
  omega
noncomputable def lookV (k n : Nat) (z : Int) (N mi : Nat) (v : Int) (S : List Nat → Prop) (x : Int) : Int := if x = 0 then (n : Int) else if x = 1 then (k : Int) else if x = 2 then z else if x = 3 then (if z = 1 then (N : Int) else 0) else if x = 4 then (if v = 1 then ((lvF S k 20 []).length : Int) else 0) else if x = 5 then (if z = 1 then (mi : Int) else 0) else if x = 6 then (if v = 1 then (szS k S : Int) else 0) else -1
noncomputable def covV (v : Int) (mnx : Nat → Nat → Nat) (S : List Nat → Prop) : Int := if v = 1 then ((mo_c (fun e => ∃ b u, S (b :: u) ∧ e = 3 * rn mnx 0 u + b) 24 : Nat) : Int) else 0
/-- a suite has room -/
def fitS (k : Nat) (S : List Nat → Prop) : Prop := ∃ (c : Nat) (W : Nat → List Nat), c ≤ 800 ∧ tr_I k c W ∧ ∀ u, pr c W u ↔ S u
def up2 (f : Nat → Nat → Nat) (s i x : Nat) : Nat → Nat → Nat := fun a b => if a = s ∧ b = i then x else f a b
noncomputable def suS (k n s0 : Nat) (nx ou : Nat → Nat → Nat) (N m : Nat) (me : Int) (q : nb_T) (mnx mou : Nat → Nat → Nat) : List Nat → Prop := su_P k N m me (ac q) (FW k N mnx mou) (FC k N mnx mou) (FO k N mnx mou) mnx
