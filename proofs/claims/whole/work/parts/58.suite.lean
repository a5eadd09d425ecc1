/-! Suite: addNode, enter, addWord. Places: r (58 or 68) the suite, r + 1 above, r + 2 by, r + 3 depth, r + 4 state, r + 5 leaves, r + 6 open, r + 7 access, r + 8 reach, r + 9 children -/
def sus (sh : List aj_S) (g : aj_G) (r : Int) (k : Nat) : Prop := aj_sh sh r = some (.inr 5) ∧ (g r 0 = 4 ∧ g r 1 = 10 ∧ g r 2 = 13) ∧ (g r 3 = r + 9 ∧ g r 4 = r + 1 ∧ g r 5 = r + 2 ∧ g r 6 = r + 3 ∧ g r 7 = r + 4 ∧ g r 8 = r + 5 ∧ g r 9 = r + 6 ∧ g r 10 = r + 7 ∧ g r 11 = r + 8) ∧
  (aj_sh sh (r + 9) = some (.inl (0, 800 * k)) ∧ aj_sh sh (r + 1) = some (.inl (0, 800)) ∧ aj_sh sh (r + 2) = some (.inl (0, 800)) ∧ aj_sh sh (r + 3) = some (.inl (0, 800)) ∧ aj_sh sh (r + 4) = some (.inl (0, 800)) ∧ aj_sh sh (r + 5) = some (.inl (0, 800)) ∧ aj_sh sh (r + 6) = some (.inl (0, 800)) ∧ aj_sh sh (r + 7) = some (.inl (0, 8)) ∧ aj_sh sh (r + 8) = some (.inl (0, 13)))
section SUS
variable {sh : List aj_S} {g : aj_G} {r : Int} {k : Nat}
theorem sf_reduction (h : sus sh g r k) : g r 0 = 4 := h.2.1.1
theorem sf_machine (h : sus sh g r k) : g r 1 = 10 := h.2.1.2.1
theorem sf_family (h : sus sh g r k) : g r 2 = 13 := h.2.1.2.2
theorem sf_children (h : sus sh g r k) : g r 3 = r + 9 := h.2.2.1.1
theorem ss_children (h : sus sh g r k) : aj_sh sh (r + 9) = some (.inl (0, 800 * k)) := h.2.2.2.1
theorem sf_above (h : sus sh g r k) : g r 4 = r + 1 := h.2.2.1.2.1
theorem ss_above (h : sus sh g r k) : aj_sh sh (r + 1) = some (.inl (0, 800)) := h.2.2.2.2.1
theorem sf_by (h : sus sh g r k) : g r 5 = r + 2 := h.2.2.1.2.2.1
theorem ss_by (h : sus sh g r k) : aj_sh sh (r + 2) = some (.inl (0, 800)) := h.2.2.2.2.2.1
theorem sf_depth (h : sus sh g r k) : g r 6 = r + 3 := h.2.2.1.2.2.2.1
theorem ss_depth (h : sus sh g r k) : aj_sh sh (r + 3) = some (.inl (0, 800)) := h.2.2.2.2.2.2.1
theorem sf_state (h : sus sh g r k) : g r 7 = r + 4 := h.2.2.1.2.2.2.2.1
theorem ss_state (h : sus sh g r k) : aj_sh sh (r + 4) = some (.inl (0, 800)) := h.2.2.2.2.2.2.2.1
theorem sf_leaves (h : sus sh g r k) : g r 8 = r + 5 := h.2.2.1.2.2.2.2.2.1
theorem ss_leaves (h : sus sh g r k) : aj_sh sh (r + 5) = some (.inl (0, 800)) := h.2.2.2.2.2.2.2.2.1
theorem sf_open (h : sus sh g r k) : g r 9 = r + 6 := h.2.2.1.2.2.2.2.2.2.1
theorem ss_open (h : sus sh g r k) : aj_sh sh (r + 6) = some (.inl (0, 800)) := h.2.2.2.2.2.2.2.2.2.1
theorem sf_access (h : sus sh g r k) : g r 10 = r + 7 := h.2.2.1.2.2.2.2.2.2.2.1
theorem ss_access (h : sus sh g r k) : aj_sh sh (r + 7) = some (.inl (0, 8)) := h.2.2.2.2.2.2.2.2.2.2.1
theorem sf_reach (h : sus sh g r k) : g r 11 = r + 8 := h.2.2.1.2.2.2.2.2.2.2.2
theorem ss_reach (h : sus sh g r k) : aj_sh sh (r + 8) = some (.inl (0, 13)) := h.2.2.2.2.2.2.2.2.2.2.2
theorem sus_of {g1 : aj_G} (h : sus sh g r k) (e : ∀ j, j ≤ 11 → g1 r j = g r j) : sus sh g1 r k := by
  obtain ⟨h1, ⟨a0, a1, a2⟩, ⟨b0, b1, b2, b3, b4, b5, b6, b7, b8⟩, h4⟩ := h
  exact ⟨h1, ⟨by rw [e _ (by omega)]; exact a0, by rw [e _ (by omega)]; exact a1, by rw [e _ (by omega)]; exact a2⟩, ⟨by rw [e _ (by omega)]; exact b0, by rw [e _ (by omega)]; exact b1, by rw [e _ (by omega)]; exact b2, by rw [e _ (by omega)]; exact b3, by rw [e _ (by omega)]; exact b4, by rw [e _ (by omega)]; exact b5, by rw [e _ (by omega)]; exact b6, by rw [e _ (by omega)]; exact b7, by rw [e _ (by omega)]; exact b8⟩, h4⟩
end SUS
theorem ik_in {k p a c : Nat} (hk : k = 1 ∨ k = 2 ∨ k = 3) (hp : p < c) (ha : a < k) : 0 ≤ (p : Int) * k + a ∧ (p : Int) * k + a < ((c * k : Nat) : Int) := by
  rcases hk with rfl | rfl | rfl <;> omega
theorem ik_inj {k p a p' a' : Nat} (hk : k = 1 ∨ k = 2 ∨ k = 3) (ha : a < k) (ha' : a' < k) (h : (p : Int) * k + a = (p' : Int) * k + a') : p = p' ∧ a = a' := by
  rcases hk with rfl | rfl | rfl <;> omega
/-- the context in which suites are built: the small machine, its number of inputs -/
def suC (sh : List aj_S) (g : aj_G) (L k N : Nat) (mnx mou : Nat → Nat → Nat) : Prop := mcm sh g 10 L k N mnx mou ∧ (k = 1 ∨ k = 2 ∨ k = 3) ∧ (0 < N ∧ N ≤ 8)
theorem suC_of {sh : List aj_S} {g g1 : aj_G} {L k N : Nat} {mnx mou : Nat → Nat → Nat} (h : suC sh g L k N mnx mou) (e : ∀ r, r < 13 → g1 r = g r) : suC sh g1 L k N mnx mou := ⟨mcm_of h.1 (e 10 (by omega)) (e (10 + 1) (by omega)) (e (10 + 2) (by omega)), h.2⟩
def an_P (g g1 : aj_G) (r : Int) (k c : Nat) (b i s : Int) : Prop := (∀ r', r' < r ∨ r + 9 < r' ∨ (r + 4 < r' ∧ r' < r + 9) → g1 r' = g r') ∧ (∀ j, j ≠ 12 → g1 r j = g r j) ∧ g1 r 12 = (c : Int) + 1 ∧ (∀ x, x ≠ (c : Int) → g1 (r + 1) x = g (r + 1) x ∧ g1 (r + 2) x = g (r + 2) x ∧ g1 (r + 3) x = g (r + 3) x ∧ g1 (r + 4) x = g (r + 4) x) ∧
  (g1 (r + 1) c = b ∧ g1 (r + 2) c = i ∧ g1 (r + 3) c = (if b = -1 then 0 else g (r + 3) b + 1) ∧ g1 (r + 4) c = s) ∧ (∀ x, (∀ a : Nat, a < k → x ≠ (c : Int) * k + a) → g1 (r + 9) x = g (r + 9) x) ∧ ∀ a : Nat, a < k → g1 (r + 9) ((c : Int) * k + a) = -1
set_option maxHeartbeats 4000000 in
theorem k_an_loop {al : Prop} {X : Option (Nat × (Int → Int))} {d : Nat} {sh : List aj_S} {g : aj_G} {Q : aj_R → List aj_S → aj_G → Prop} {r : Int} {L k N : Nat} {mnx mou : Nat → Nat → Nat} (hr : r = 58 ∨ r = 68) (hs : sus sh g r k) (hC : suC sh g L k N mnx mou) {c : Nat} {b i s : Int} (hc8 : c < 800) (hk : ∀ g1 : aj_G, (∀ r', r' ≠ r → r' ≠ r + 9 → g1 r' = g r') → (∀ j, j ≠ 12 → g1 r j = g r j) → g1 r 12 = (c : Int) + 1 → (∀ x, (∀ a : Nat, a < k → x ≠ (c : Int) * k + a) → g1 (r + 9) x = g (r + 9) x) → (∀ a : Nat, a < k → g1 (r + 9) ((c : Int) * k + a) = -1) → Q (.inl none) sh g1) :
    ∀ (m a : Nat) (g1 : aj_G), a ≤ k → k - a = m → sus sh g1 r k → suC sh g1 L k N mnx mou → g1 r 12 = (c : Nat) → (∀ r', r' ≠ r + 9 → g1 r' = g r') → (∀ x, (∀ b : Nat, b < a → x ≠ (c : Int) * k + b) → g1 (r + 9) x = g (r + 9) x) → (∀ b : Nat, b < a → g1 (r + 9) ((c : Int) * k + b) = -1) →
    aj_wp nE al al X m_Suite_addNode d 0 0 59 [some (1, r), some (0, b), some (0, i), some (0, s), some (0, (a : Int))] [] sh g1 Q := by
  have hk3 := hC.2.1
  intro m
  induction m using Nat.strongRecOn with
  | ind m ih =>
    intro a g1 ha hmm hs1 hC1 hc1 hF hX hY
    refine aj_iload 4 61 (dx d_Suite_addNode 36 rfl) rfl rfl ?_
    refine aj_aload_n 0 62 (dx d_Suite_addNode 37 rfl) rfl rfl rfl ?_
    refine aj_getfv (v := 10) 65 fl_Suite_61 (dx d_Suite_addNode 38 rfl) rfl hs1.1 (by (repeat (first | rw [aj_up_ne _ _ _ (by omega)] | rw [aj_up_ni _ _ _ (by omega)])); exact (sf_machine hs1)) ?_
    refine aj_getfv (v := (k : Int)) 68 fl_Suite_62 (dx d_Suite_addNode 39 rfl) rfl hC1.1.1.1 hC1.1.2.1 ?_
    refine aj_icmp_ge 98 71 (dx d_Suite_addNode 40 rfl) rfl rfl (by unfold aj_I; omega) (by unfold aj_I; omega) (fun h68 => ?_) (fun h68 => ?_)
    · refine aj_aload_n 0 99 (dx d_Suite_addNode 55 rfl) rfl rfl rfl ?_
      refine aj_dup 100 (dx d_Suite_addNode 56 rfl) rfl rfl ?_
      refine aj_getfv (v := (c : Int)) 103 fl_Suite_36 (dx d_Suite_addNode 57 rfl) rfl hs1.1 hc1 ?_
      refine aj_iconst 104 (dx d_Suite_addNode 58 rfl) rfl ?_
      refine aj_iadd 105 (dx d_Suite_addNode 59 rfl) rfl ?_
      refine aj_putf 108 (pl_Suite_36 _) (dx d_Suite_addNode 60 rfl) rfl hs1.1 (aj_fitI _) ?_
      refine aj_vret (dx d_Suite_addNode 61 rfl) rfl id ?_
      refine hk _ (fun r' h1 h2 => by rw [aj_up_ne _ _ _ h1]; exact hF r' h2) (fun j hj => by rw [aj_up_ni _ _ _ hj, hF r (by omega)]) (by rw [aj_up_self]) (fun x hx => ?_) (fun b hb => ?_)
      · rw [aj_up_ne _ _ _ (by omega)]; exact hX x (fun b hb => hx b (by omega))
      · rw [aj_up_ne _ _ _ (by omega)]; exact hY b (by omega)
    · refine aj_aload_n 0 72 (dx d_Suite_addNode 41 rfl) rfl rfl rfl ?_
      refine aj_getfv (v := (r + 9)) 75 fl_Suite_67 (dx d_Suite_addNode 42 rfl) rfl hs1.1 (by (repeat (first | rw [aj_up_ne _ _ _ (by omega)] | rw [aj_up_ni _ _ _ (by omega)])); exact (sf_children hs1)) ?_
      refine aj_aload_n 0 76 (dx d_Suite_addNode 43 rfl) rfl rfl rfl ?_
      refine aj_getfv (v := (c : Int)) 79 fl_Suite_36 (dx d_Suite_addNode 44 rfl) rfl hs1.1 hc1 ?_
      refine aj_aload_n 0 80 (dx d_Suite_addNode 45 rfl) rfl rfl rfl ?_
      refine aj_getfv (v := 10) 83 fl_Suite_61 (dx d_Suite_addNode 46 rfl) rfl hs1.1 (by (repeat (first | rw [aj_up_ne _ _ _ (by omega)] | rw [aj_up_ni _ _ _ (by omega)])); exact (sf_machine hs1)) ?_
      refine aj_getfv (v := (k : Int)) 86 fl_Suite_62 (dx d_Suite_addNode 47 rfl) rfl hC1.1.1.1 hC1.1.2.1 ?_
      refine aj_imul 87 (dx d_Suite_addNode 48 rfl) rfl ?_
      refine aj_iload 4 89 (dx d_Suite_addNode 49 rfl) rfl rfl ?_
      refine aj_iadd 90 (dx d_Suite_addNode 50 rfl) rfl ?_
      refine aj_iconst 91 (dx d_Suite_addNode 51 rfl) rfl ?_
      refine aj_iast 92 (dx d_Suite_addNode 52 rfl) rfl (ss_children hs1) rfl (ik_in hC.2.1 hc8 (by omega)).1 (ik_in hC.2.1 hc8 (by omega)).2 ?_
      refine aj_iinc 4 95 (dx d_Suite_addNode 53 rfl) rfl rfl rfl ?_
      simp only [List.set]
      refine aj_goto 59 (dx d_Suite_addNode 54 rfl) rfl ?_
      rw [show ((a : Nat) : Int) + 1 = ((a + 1 : Nat) : Int) by omega]
      refine ih _ (by omega) (a + 1) _ (by omega) rfl (sus_of hs1 (fun j _ => by rw [aj_up_ne _ _ _ (by omega)])) (suC_of hC1 (fun r' hr' => by rw [aj_up_ne _ _ _ (by omega)])) (by rw [aj_up_ne _ _ _ (by omega)]; exact hc1) (fun r' hr' => by rw [aj_up_ne _ _ _ hr']; exact hF r' hr') (fun x hx => ?_) (fun b hb => ?_)
      · rw [aj_up_ni _ _ _ (hx a (by omega))]
        exact hX x (fun b hb => hx b (by omega))
      · by_cases e : b = a
        · subst e; rw [aj_up_self]
        · rw [aj_up_ni _ _ _ (fun z => e (ik_inj hC.2.1 (by omega) (by omega) z).2)]; exact hY b (by omega)
set_option maxHeartbeats 8000000 in
theorem k_Suite_addNode {al : Prop} {X : Option (Nat × (Int → Int))} {d : Nat} {sh : List aj_S} {g : aj_G} {Q : aj_R → List aj_S → aj_G → Prop} {r : Int} {L k N : Nat} {mnx mou : Nat → Nat → Nat} (hr : r = 58 ∨ r = 68) (hs : sus sh g r k) (hC : suC sh g L k N mnx mou) {c : Nat} {b i s : Int} (hc : g r 12 = (c : Nat)) (hc8 : c < 800) (hbI : aj_I b) (hb : b ≠ -1 → 0 ≤ b ∧ b < c) (hk : ∀ g1 : aj_G, an_P g g1 r k c b i s → Q (.inl none) sh g1) :
    aj_wp nE al al X m_Suite_addNode d 0 0 0 [some (1, r), some (0, b), some (0, i), some (0, s), none] [] sh g Q := by
  refine aj_aload_n 0 1 (dx d_Suite_addNode 0 rfl) rfl rfl rfl ?_
  refine aj_getfv (v := (r + 1)) 4 fl_Suite_9 (dx d_Suite_addNode 1 rfl) rfl hs.1 (by (repeat (first | rw [aj_up_ne _ _ _ (by omega)] | rw [aj_up_ni _ _ _ (by omega)])); exact (sf_above hs)) ?_
  refine aj_aload_n 0 5 (dx d_Suite_addNode 2 rfl) rfl rfl rfl ?_
  refine aj_getfv (v := (c : Int)) 8 fl_Suite_36 (dx d_Suite_addNode 3 rfl) rfl hs.1 (by (repeat (first | rw [aj_up_ne _ _ _ (by omega)] | rw [aj_up_ni _ _ _ (by omega)])); exact hc) ?_
  refine aj_iload_n 1 9 (dx d_Suite_addNode 4 rfl) rfl rfl rfl ?_
  refine aj_iast 10 (dx d_Suite_addNode 5 rfl) rfl (ss_above hs) rfl (by omega) (by omega) ?_
  refine aj_aload_n 0 11 (dx d_Suite_addNode 6 rfl) rfl rfl rfl ?_
  refine aj_getfv (v := (r + 2)) 14 fl_Suite_15 (dx d_Suite_addNode 7 rfl) rfl hs.1 (by (repeat (first | rw [aj_up_ne _ _ _ (by omega)] | rw [aj_up_ni _ _ _ (by omega)])); exact (sf_by hs)) ?_
  refine aj_aload_n 0 15 (dx d_Suite_addNode 8 rfl) rfl rfl rfl ?_
  refine aj_getfv (v := (c : Int)) 18 fl_Suite_36 (dx d_Suite_addNode 9 rfl) rfl hs.1 (by (repeat (first | rw [aj_up_ne _ _ _ (by omega)] | rw [aj_up_ni _ _ _ (by omega)])); exact hc) ?_
  refine aj_iload_n 2 19 (dx d_Suite_addNode 10 rfl) rfl rfl rfl ?_
  refine aj_iast 20 (dx d_Suite_addNode 11 rfl) rfl (ss_by hs) rfl (by omega) (by omega) ?_
  refine aj_aload_n 0 21 (dx d_Suite_addNode 12 rfl) rfl rfl rfl ?_
  refine aj_getfv (v := (r + 3)) 24 fl_Suite_18 (dx d_Suite_addNode 13 rfl) rfl hs.1 (by (repeat (first | rw [aj_up_ne _ _ _ (by omega)] | rw [aj_up_ni _ _ _ (by omega)])); exact (sf_depth hs)) ?_
  refine aj_aload_n 0 25 (dx d_Suite_addNode 14 rfl) rfl rfl rfl ?_
  refine aj_getfv (v := (c : Int)) 28 fl_Suite_36 (dx d_Suite_addNode 15 rfl) rfl hs.1 (by (repeat (first | rw [aj_up_ne _ _ _ (by omega)] | rw [aj_up_ni _ _ _ (by omega)])); exact hc) ?_
  refine aj_iload_n 1 29 (dx d_Suite_addNode 16 rfl) rfl rfl rfl ?_
  refine aj_iconst 30 (dx d_Suite_addNode 17 rfl) rfl ?_
  refine aj_icmp_ne 37 33 (dx d_Suite_addNode 18 rfl) rfl rfl hbI (by unfold aj_I; omega) (fun h30 => ?_) (fun h30 => ?_)
  · refine aj_aload_n 0 38 (dx d_Suite_addNode 21 rfl) rfl rfl rfl ?_
    refine aj_getfv (v := (r + 3)) 41 fl_Suite_18 (dx d_Suite_addNode 22 rfl) rfl hs.1 (by (repeat (first | rw [aj_up_ne _ _ _ (by omega)] | rw [aj_up_ni _ _ _ (by omega)])); exact (sf_depth hs)) ?_
    refine aj_iload_n 1 42 (dx d_Suite_addNode 23 rfl) rfl rfl rfl ?_
    refine aj_iald 43 (dx d_Suite_addNode 24 rfl) rfl (ss_depth hs) rfl (by omega) (by omega) ?_
    rw [show aj_up (aj_up g (r + 1) (c : Int) b) (r + 2) (c : Int) i (r + 3) b = g (r + 3) b by rw [aj_up_ne _ _ _ (by omega), aj_up_ne _ _ _ (by omega)]]
    refine aj_iconst 44 (dx d_Suite_addNode 25 rfl) rfl ?_
    refine aj_iadd 45 (dx d_Suite_addNode 26 rfl) rfl ?_
    refine aj_iast 46 (dx d_Suite_addNode 27 rfl) rfl (ss_depth hs) rfl (by omega) (by omega) ?_
    refine aj_aload_n 0 47 (dx d_Suite_addNode 28 rfl) rfl rfl rfl ?_
    refine aj_getfv (v := (r + 4)) 50 fl_Suite_21 (dx d_Suite_addNode 29 rfl) rfl hs.1 (by (repeat (first | rw [aj_up_ne _ _ _ (by omega)] | rw [aj_up_ni _ _ _ (by omega)])); exact (sf_state hs)) ?_
    refine aj_aload_n 0 51 (dx d_Suite_addNode 30 rfl) rfl rfl rfl ?_
    refine aj_getfv (v := (c : Int)) 54 fl_Suite_36 (dx d_Suite_addNode 31 rfl) rfl hs.1 (by (repeat (first | rw [aj_up_ne _ _ _ (by omega)] | rw [aj_up_ni _ _ _ (by omega)])); exact hc) ?_
    refine aj_iload_n 3 55 (dx d_Suite_addNode 32 rfl) rfl rfl rfl ?_
    refine aj_iast 56 (dx d_Suite_addNode 33 rfl) rfl (ss_state hs) rfl (by omega) (by omega) ?_
    refine aj_iconst 57 (dx d_Suite_addNode 34 rfl) rfl ?_
    refine aj_istore 4 59 (dx d_Suite_addNode 35 rfl) rfl rfl ?_
    simp only [List.set]
    have hd : g (r + 3) b + 1 = (if b = -1 then 0 else g (r + 3) b + 1) := by rw [if_neg h30]
    refine k_an_loop (g := aj_up (aj_up (aj_up (aj_up g (r + 1) (c : Int) b) (r + 2) (c : Int) i) (r + 3) (c : Int) (g (r + 3) b + 1)) (r + 4) (c : Int) s) hr (sus_of hs (fun j _ => by rw [aj_up_ne _ _ _ (by omega), aj_up_ne _ _ _ (by omega), aj_up_ne _ _ _ (by omega), aj_up_ne _ _ _ (by omega)])) (suC_of hC (fun r' hr' => by rw [aj_up_ne _ _ _ (by omega), aj_up_ne _ _ _ (by omega), aj_up_ne _ _ _ (by omega), aj_up_ne _ _ _ (by omega)])) hc8 (fun g1 e1 e2 e3 e4 e5 => hk g1 ?_) _ 0 _ (by omega) rfl ?_ ?_ ?_ (fun r' _ => rfl) (fun x _ => rfl) (fun b hb => absurd hb (Nat.not_lt_zero _))
    · refine ⟨fun r' h => ?_, fun j hj => ?_, e3, fun x hx => ⟨?_, ?_, ?_, ?_⟩, ⟨?_, ?_, ?_, ?_⟩, fun x hx => ?_, e5⟩
      · rw [e1 r' (by omega) (by omega), aj_up_ne _ _ _ (by omega), aj_up_ne _ _ _ (by omega), aj_up_ne _ _ _ (by omega), aj_up_ne _ _ _ (by omega)]
      · rw [e2 j hj, aj_up_ne _ _ _ (by omega), aj_up_ne _ _ _ (by omega), aj_up_ne _ _ _ (by omega), aj_up_ne _ _ _ (by omega)]
      · rw [e1 _ (by omega) (by omega), aj_up_ne _ _ _ (by omega), aj_up_ne _ _ _ (by omega), aj_up_ne _ _ _ (by omega), aj_up_ni _ _ _ hx]
      · rw [e1 _ (by omega) (by omega), aj_up_ne _ _ _ (by omega), aj_up_ne _ _ _ (by omega), aj_up_ni _ _ _ hx, aj_up_ne _ _ _ (by omega)]
      · rw [e1 _ (by omega) (by omega), aj_up_ne _ _ _ (by omega), aj_up_ni _ _ _ hx, aj_up_ne _ _ _ (by omega), aj_up_ne _ _ _ (by omega)]
      · rw [e1 _ (by omega) (by omega), aj_up_ni _ _ _ hx, aj_up_ne _ _ _ (by omega), aj_up_ne _ _ _ (by omega), aj_up_ne _ _ _ (by omega)]
      · rw [e1 _ (by omega) (by omega), aj_up_ne _ _ _ (by omega), aj_up_ne _ _ _ (by omega), aj_up_ne _ _ _ (by omega), aj_up_self]
      · rw [e1 _ (by omega) (by omega), aj_up_ne _ _ _ (by omega), aj_up_ne _ _ _ (by omega), aj_up_self]
      · rw [e1 _ (by omega) (by omega), aj_up_ne _ _ _ (by omega), aj_up_self]; exact hd
      · rw [e1 _ (by omega) (by omega), aj_up_self]
      · rw [e4 x hx, aj_up_ne _ _ _ (by omega), aj_up_ne _ _ _ (by omega), aj_up_ne _ _ _ (by omega), aj_up_ne _ _ _ (by omega)]
    · exact sus_of hs (fun j _ => by rw [aj_up_ne _ _ _ (by omega), aj_up_ne _ _ _ (by omega), aj_up_ne _ _ _ (by omega), aj_up_ne _ _ _ (by omega)])
    · exact suC_of hC (fun r' hr' => by rw [aj_up_ne _ _ _ (by omega), aj_up_ne _ _ _ (by omega), aj_up_ne _ _ _ (by omega), aj_up_ne _ _ _ (by omega)])
    · rw [aj_up_ne _ _ _ (by omega), aj_up_ne _ _ _ (by omega), aj_up_ne _ _ _ (by omega), aj_up_ne _ _ _ (by omega)]; exact hc
  · refine aj_iconst 34 (dx d_Suite_addNode 19 rfl) rfl ?_
    refine aj_goto 45 (dx d_Suite_addNode 20 rfl) rfl ?_
    refine aj_iast 46 (dx d_Suite_addNode 27 rfl) rfl (ss_depth hs) rfl (by omega) (by omega) ?_
    refine aj_aload_n 0 47 (dx d_Suite_addNode 28 rfl) rfl rfl rfl ?_
    refine aj_getfv (v := (r + 4)) 50 fl_Suite_21 (dx d_Suite_addNode 29 rfl) rfl hs.1 (by (repeat (first | rw [aj_up_ne _ _ _ (by omega)] | rw [aj_up_ni _ _ _ (by omega)])); exact (sf_state hs)) ?_
    refine aj_aload_n 0 51 (dx d_Suite_addNode 30 rfl) rfl rfl rfl ?_
    refine aj_getfv (v := (c : Int)) 54 fl_Suite_36 (dx d_Suite_addNode 31 rfl) rfl hs.1 (by (repeat (first | rw [aj_up_ne _ _ _ (by omega)] | rw [aj_up_ni _ _ _ (by omega)])); exact hc) ?_
    refine aj_iload_n 3 55 (dx d_Suite_addNode 32 rfl) rfl rfl rfl ?_
    refine aj_iast 56 (dx d_Suite_addNode 33 rfl) rfl (ss_state hs) rfl (by omega) (by omega) ?_
    refine aj_iconst 57 (dx d_Suite_addNode 34 rfl) rfl ?_
    refine aj_istore 4 59 (dx d_Suite_addNode 35 rfl) rfl rfl ?_
    simp only [List.set]
    have hd : (0 : Int) = (if b = -1 then 0 else g (r + 3) b + 1) := by rw [if_pos h30]
    refine k_an_loop (g := aj_up (aj_up (aj_up (aj_up g (r + 1) (c : Int) b) (r + 2) (c : Int) i) (r + 3) (c : Int) (0)) (r + 4) (c : Int) s) hr (sus_of hs (fun j _ => by rw [aj_up_ne _ _ _ (by omega), aj_up_ne _ _ _ (by omega), aj_up_ne _ _ _ (by omega), aj_up_ne _ _ _ (by omega)])) (suC_of hC (fun r' hr' => by rw [aj_up_ne _ _ _ (by omega), aj_up_ne _ _ _ (by omega), aj_up_ne _ _ _ (by omega), aj_up_ne _ _ _ (by omega)])) hc8 (fun g1 e1 e2 e3 e4 e5 => hk g1 ?_) _ 0 _ (by omega) rfl ?_ ?_ ?_ (fun r' _ => rfl) (fun x _ => rfl) (fun b hb => absurd hb (Nat.not_lt_zero _))
    · refine ⟨fun r' h => ?_, fun j hj => ?_, e3, fun x hx => ⟨?_, ?_, ?_, ?_⟩, ⟨?_, ?_, ?_, ?_⟩, fun x hx => ?_, e5⟩
      · rw [e1 r' (by omega) (by omega), aj_up_ne _ _ _ (by omega), aj_up_ne _ _ _ (by omega), aj_up_ne _ _ _ (by omega), aj_up_ne _ _ _ (by omega)]
      · rw [e2 j hj, aj_up_ne _ _ _ (by omega), aj_up_ne _ _ _ (by omega), aj_up_ne _ _ _ (by omega), aj_up_ne _ _ _ (by omega)]
      · rw [e1 _ (by omega) (by omega), aj_up_ne _ _ _ (by omega), aj_up_ne _ _ _ (by omega), aj_up_ne _ _ _ (by omega), aj_up_ni _ _ _ hx]
      · rw [e1 _ (by omega) (by omega), aj_up_ne _ _ _ (by omega), aj_up_ne _ _ _ (by omega), aj_up_ni _ _ _ hx, aj_up_ne _ _ _ (by omega)]
      · rw [e1 _ (by omega) (by omega), aj_up_ne _ _ _ (by omega), aj_up_ni _ _ _ hx, aj_up_ne _ _ _ (by omega), aj_up_ne _ _ _ (by omega)]
      · rw [e1 _ (by omega) (by omega), aj_up_ni _ _ _ hx, aj_up_ne _ _ _ (by omega), aj_up_ne _ _ _ (by omega), aj_up_ne _ _ _ (by omega)]
      · rw [e1 _ (by omega) (by omega), aj_up_ne _ _ _ (by omega), aj_up_ne _ _ _ (by omega), aj_up_ne _ _ _ (by omega), aj_up_self]
      · rw [e1 _ (by omega) (by omega), aj_up_ne _ _ _ (by omega), aj_up_ne _ _ _ (by omega), aj_up_self]
      · rw [e1 _ (by omega) (by omega), aj_up_ne _ _ _ (by omega), aj_up_self]; exact hd
      · rw [e1 _ (by omega) (by omega), aj_up_self]
      · rw [e4 x hx, aj_up_ne _ _ _ (by omega), aj_up_ne _ _ _ (by omega), aj_up_ne _ _ _ (by omega), aj_up_ne _ _ _ (by omega)]
    · exact sus_of hs (fun j _ => by rw [aj_up_ne _ _ _ (by omega), aj_up_ne _ _ _ (by omega), aj_up_ne _ _ _ (by omega), aj_up_ne _ _ _ (by omega)])
    · exact suC_of hC (fun r' hr' => by rw [aj_up_ne _ _ _ (by omega), aj_up_ne _ _ _ (by omega), aj_up_ne _ _ _ (by omega), aj_up_ne _ _ _ (by omega)])
    · rw [aj_up_ne _ _ _ (by omega), aj_up_ne _ _ _ (by omega), aj_up_ne _ _ _ (by omega), aj_up_ne _ _ _ (by omega)]; exact hc
def tC (g : aj_G) (r : Int) (k c : Nat) (W : Nat → List Nat) (mnx : Nat → Nat → Nat) : Prop := g r 12 = c ∧ (∀ p : Nat, p < c → g (r + 3) p = (W p).length ∧ g (r + 4) p = rn mnx 0 (W p)) ∧ (∀ p : Nat, 0 < p → p < c → ∃ a q : Nat, q < p ∧ W p = a :: W q ∧ g (r + 1) p = q ∧ g (r + 2) p = a) ∧
  ∀ p a : Nat, p < c → a < k → (∃ q : Nat, q < c ∧ W q = a :: W p ∧ g (r + 9) ((p : Int) * k + a) = q) ∨ ((∀ q, q < c → W q ≠ a :: W p) ∧ g (r + 9) ((p : Int) * k + a) = -1)
def tS (g : aj_G) (r : Int) (k c : Nat) (W : Nat → List Nat) (mnx : Nat → Nat → Nat) (P : List Nat → Prop) (z : Int) : Prop := tC g r k c W mnx ∧ tr_I k c W ∧ (∀ p, p < c → P (W p)) ∧ c ≤ 800 ∧ g r 14 = z ∧ (z = 1 ∨ (z = 0 ∧ c = 800 ∧ ∃ v, P v ∧ ¬ pr c W v))
def eF (g g1 : aj_G) (r : Int) : Prop := (∀ r', r' < r ∨ r + 9 < r' ∨ (r + 4 < r' ∧ r' < r + 9) → g1 r' = g r') ∧ ∀ j, j ≠ 12 → j ≠ 14 → g1 r j = g r j
theorem eF_refl (g : aj_G) (r : Int) : eF g g r := ⟨fun _ _ => rfl, fun _ _ _ => rfl⟩
theorem eF_trans {g g1 g2 : aj_G} {r : Int} (h : eF g g1 r) (h' : eF g1 g2 r) : eF g g2 r := ⟨fun r' a => (h'.1 r' a).trans (h.1 r' a), fun j a b => (h'.2 j a b).trans (h.2 j a b)⟩
theorem eF_s {sh : List aj_S} {g g1 : aj_G} {r : Int} {k : Nat} (hs : sus sh g r k) (h : eF g g1 r) : sus sh g1 r k := sus_of hs (fun j _ => h.2 j (by omega) (by omega))
theorem eF_C {sh : List aj_S} {g g1 : aj_G} {r : Int} {L k N : Nat} {mnx mou : Nat → Nat → Nat} (hr : r = 58 ∨ r = 68) (hC : suC sh g L k N mnx mou) (h : eF g g1 r) : suC sh g1 L k N mnx mou := suC_of hC (fun r' _ => h.1 r' (by omega))
theorem tC_add {g g1 : aj_G} {r : Int} {k c p a : Nat} {W : Nat → List Nat} {mnx : Nat → Nat → Nat} {P : List Nat → Prop} {z : Int} (hr : r = 58 ∨ r = 68) (hk : k = 1 ∨ k = 2 ∨ k = 3) (h : tS g r k c W mnx P z) (hc : c < 800) (hp : p < c) (ha : a < k) (hn : ∀ q, q < c → W q ≠ a :: W p) (hP : z = 1 → P (a :: W p)) (hA : an_P (aj_up g (r + 9) ((p : Int) * k + a) (c : Nat)) g1 r k c (p : Nat) (a : Nat) (mnx (rn mnx 0 (W p)) a : Nat)) :
    tS g1 r k (c + 1) (tr_up W c (a :: W p)) mnx P z ∧ eF g g1 r ∧ g1 (r + 9) ((p : Int) * k + a) = (c : Nat) := by
  obtain ⟨⟨h1, h2, h3, h4⟩, hI, hPP, hc8, h14, hz⟩ := h
  obtain ⟨a1, a2, a3, a4, ⟨b1, b2, b3, b4⟩, a5, a6⟩ := hA
  have hz1 : z = 1 := by
    rcases hz with e | ⟨-, e, -⟩
    · exact e
    · omega
  have hslot : ∀ (p' a' : Nat), p' < c → a' < k → ∀ b : Nat, b < k → (p' : Int) * k + a' ≠ (c : Int) * k + b := fun p' a' hp' ha' b hb e => by
    have := (ik_inj hk ha' hb e).1
    omega
  refine ⟨⟨⟨by rw [a3]; push_cast; rfl, fun q hq => ?_, fun q hq0 hq => ?_, fun q b hq hb => ?_⟩, tr_add hI hp ha hn, fun q hq => ?_, by omega, by rw [a2 14 (by omega), aj_up_ne _ _ _ (by omega)]; exact h14, Or.inl hz1⟩, ⟨fun r' hr' => by rw [a1 r' hr', aj_up_ne _ _ _ (by omega)], fun j x1 _ => by rw [a2 j x1, aj_up_ne _ _ _ (by omega)]⟩, ?_⟩
  · by_cases e : q = c
    · subst e
      rw [tr_up_self, b3, b4, if_neg (by omega), aj_up_ne _ _ _ (by omega), (h2 p hp).1]
      exact ⟨by rw [List.length_cons]; push_cast; rfl, rfl⟩
    · rw [tr_up_ne _ _ e]
      obtain ⟨-, -, c3, c4⟩ := a4 q (by omega)
      rw [c3, c4, aj_up_ne _ _ _ (by omega), aj_up_ne _ _ _ (by omega)]
      exact h2 q (by omega)
  · by_cases e : q = c
    · subst e
      exact ⟨a, p, hp, by rw [tr_up_self, tr_up_ne _ _ (by omega)], b1, b2⟩
    · obtain ⟨b, s, s1, s2, s3, s4⟩ := h3 q hq0 (by omega)
      obtain ⟨c1, c2, -, -⟩ := a4 q (by omega)
      exact ⟨b, s, s1, by rw [tr_up_ne _ _ e, tr_up_ne _ _ (by omega)]; exact s2, by rw [c1, aj_up_ne _ _ _ (by omega)]; exact s3, by rw [c2, aj_up_ne _ _ _ (by omega)]; exact s4⟩
  · by_cases e : q = c
    · subst e
      refine Or.inr ⟨fun s hs2 w => ?_, a6 b hb⟩
      rw [tr_up_self] at w
      by_cases er : s = q
      · rw [er, tr_up_self] at w
        have := congrArg List.length w
        simp at this
      · rw [tr_up_ne _ _ er] at w
        have hs0 : 0 < s := by
          rcases Nat.eq_zero_or_pos s with y | y
          · rw [y, hI.2.1] at w; cases w
          · exact y
        obtain ⟨b', t, t1, t2⟩ := hI.2.2.2.1 s hs0 (by omega)
        rw [t2] at w
        exact hn t (by omega) (List.cons.inj w).2
    · rw [tr_up_ne _ _ e, a5 _ (hslot q b (by omega) hb)]
      by_cases e2 : q = p ∧ b = a
      · obtain ⟨rfl, rfl⟩ := e2
        exact Or.inl ⟨c, by omega, tr_up_self _ _ _, by rw [aj_up_self]⟩
      · rw [aj_up_ni _ _ _ (fun w => e2 (ik_inj hk hb ha w))]
        rcases h4 q b (by omega) hb with ⟨s, s1, s2, s3⟩ | ⟨s1, s2⟩
        · exact Or.inl ⟨s, by omega, by rw [tr_up_ne _ _ (by omega)]; exact s2, s3⟩
        · refine Or.inr ⟨fun s hs2 w => ?_, s2⟩
          by_cases er : s = c
          · rw [er, tr_up_self] at w
            obtain ⟨z1, z2⟩ := List.cons.inj w
            exact e2 ⟨(hI.2.2.2.2 p q hp (by omega) z2).symm, z1.symm⟩
          · rw [tr_up_ne _ _ er] at w
            exact s1 s (by omega) w
  · by_cases e : q = c
    · rw [e, tr_up_self]; exact hP hz1
    · rw [tr_up_ne _ _ e]; exact hPP q (by omega)
  · rw [a5 _ (hslot p a hp ha), aj_up_self]
theorem tS_full {g : aj_G} {r : Int} {k c p a : Nat} {W : Nat → List Nat} {mnx : Nat → Nat → Nat} {P : List Nat → Prop} {z : Int} (h : tS g r k c W mnx P z) (hc : c = 800) (hn : ∀ q, q < c → W q ≠ a :: W p) (hP : z = 1 → P (a :: W p)) : tS (aj_up g r 14 0) r k c W mnx P 0 ∧ eF g (aj_up g r 14 0) r := by
  obtain ⟨⟨h1, h2, h3, h4⟩, hI, hPP, hc8, h14, hz⟩ := h
  refine ⟨⟨⟨by rw [aj_up_ni _ _ _ (by omega)]; exact h1, fun q hq => by rw [aj_up_ne _ _ _ (by omega), aj_up_ne _ _ _ (by omega)]; exact h2 q hq, fun q hq0 hq => by rw [aj_up_ne _ _ _ (by omega), aj_up_ne _ _ _ (by omega)]; exact h3 q hq0 hq, fun q b hq hb => by rw [aj_up_ne _ _ _ (by omega)]; exact h4 q b hq hb⟩, hI, hPP, hc8, by rw [aj_up_self], Or.inr ⟨rfl, hc, ?_⟩⟩, ⟨fun r' hr' => by rw [aj_up_ne _ _ _ (by omega)], fun j _ hj => by rw [aj_up_ni _ _ _ hj]⟩⟩
  rcases hz with e | ⟨-, -, e⟩
  · exact ⟨a :: W p, hP e, fun ⟨q, q1, q2⟩ => hn q q1 q2⟩
  · exact e
set_option maxHeartbeats 8000000 in
theorem k_Suite_enter {al : Prop} {X : Option (Nat × (Int → Int))} {d : Nat} {sh : List aj_S} {g : aj_G} {Q : aj_R → List aj_S → aj_G → Prop} {r : Int} {L k N : Nat} {mnx mou : Nat → Nat → Nat} (hr : r = 58 ∨ r = 68) (hs : sus sh g r k) (hC : suC sh g L k N mnx mou) {c : Nat} {W : Nat → List Nat} {P : List Nat → Prop} {z : Int} (hT : tS g r k c W mnx P z) {p a : Nat} (hp : p < c) (ha : a < k) (hP : z = 1 → P (a :: W p)) (hk : ∀ (g1 : aj_G) (c1 : Nat) (W1 : Nat → List Nat) (z1 : Int) (q : Nat), tS g1 r k c1 W1 mnx P z1 → eF g g1 r → tr_ex c W c1 W1 → q < c1 → (z1 = 1 → z = 1 ∧ W1 q = a :: W p) → Q (.inl (some (0, (q : Int)))) sh g1) :
    aj_wp nE al al X m_Suite_enter (d + 1) 0 0 0 [some (1, r), some (0, (p : Int)), some (0, (a : Int)), none] [] sh g Q := by
  have hk3 := hC.2.1
  have hc8 := hT.2.2.2.1
  have hix : 0 ≤ (p : Int) * k + a ∧ (p : Int) * k + a < ((800 * k : Nat) : Int) := ik_in hC.2.1 (by omega) ha
  have hcl : ∀ s i, s < N → i < k → mnx s i < N := fun s i h1 h2 => (hC.1.2.2.2.2.2.2 s i h1 h2).2.2.1
  have hst := rn_lt hcl hC.2.2.1 (W p) (hT.2.1.2.2.1 p hp)
  have hvI : aj_I (g (r + 9) ((p : Int) * k + a)) := by rcases hT.1.2.2.2 p a hp ha with ⟨q, q1, -, q3⟩ | ⟨-, q3⟩ <;> rw [q3] <;> unfold aj_I <;> omega
  refine aj_iload_n 1 1 (dx d_Suite_enter 0 rfl) rfl rfl rfl ?_
  refine aj_aload_n 0 2 (dx d_Suite_enter 1 rfl) rfl rfl rfl ?_
  refine aj_getfv (v := 10) 5 fl_Suite_61 (dx d_Suite_enter 2 rfl) rfl hs.1 (by (repeat (first | rw [aj_up_ne _ _ _ (by omega)] | rw [aj_up_ni _ _ _ (by omega)])); exact (sf_machine hs)) ?_
  refine aj_getfv (v := (k : Int)) 8 fl_Suite_62 (dx d_Suite_enter 3 rfl) rfl hC.1.1.1 hC.1.2.1 ?_
  refine aj_imul 9 (dx d_Suite_enter 4 rfl) rfl ?_
  refine aj_iload_n 2 10 (dx d_Suite_enter 5 rfl) rfl rfl rfl ?_
  refine aj_iadd 11 (dx d_Suite_enter 6 rfl) rfl ?_
  refine aj_istore_n 3 12 (dx d_Suite_enter 7 rfl) rfl rfl rfl ?_
  simp only [List.set]
  refine aj_aload_n 0 13 (dx d_Suite_enter 8 rfl) rfl rfl rfl ?_
  refine aj_getfv (v := (r + 9)) 16 fl_Suite_67 (dx d_Suite_enter 9 rfl) rfl hs.1 (by (repeat (first | rw [aj_up_ne _ _ _ (by omega)] | rw [aj_up_ni _ _ _ (by omega)])); exact (sf_children hs)) ?_
  refine aj_iload_n 3 17 (dx d_Suite_enter 10 rfl) rfl rfl rfl ?_
  refine aj_iald 18 (dx d_Suite_enter 11 rfl) rfl (ss_children hs) rfl hix.1 hix.2 ?_
  refine aj_iconst 19 (dx d_Suite_enter 12 rfl) rfl ?_
  refine aj_icmp_ne 69 22 (dx d_Suite_enter 13 rfl) rfl rfl hvI (by unfold aj_I; omega) (fun h19 => ?_) (fun h19 => ?_)
  · obtain ⟨q, q1, q2, q3⟩ : ∃ q : Nat, q < c ∧ W q = a :: W p ∧ g (r + 9) ((p : Int) * k + a) = q := by
      rcases hT.1.2.2.2 p a hp ha with q | ⟨-, q⟩
      · exact q
      · exact absurd q h19
    refine aj_aload_n 0 70 (dx d_Suite_enter 41 rfl) rfl rfl rfl ?_
    refine aj_getfv (v := (r + 9)) 73 fl_Suite_67 (dx d_Suite_enter 42 rfl) rfl hs.1 (by (repeat (first | rw [aj_up_ne _ _ _ (by omega)] | rw [aj_up_ni _ _ _ (by omega)])); exact (sf_children hs)) ?_
    refine aj_iload_n 3 74 (dx d_Suite_enter 43 rfl) rfl rfl rfl ?_
    refine aj_iald 75 (dx d_Suite_enter 44 rfl) rfl (ss_children hs) rfl hix.1 hix.2 ?_
    rw [q3]
    refine aj_iret (dx d_Suite_enter 45 rfl) rfl id ?_
    exact hk g c W z q hT (eF_refl g r) (tr_ex_refl c W) q1 (fun h => ⟨h, q2⟩)
  · have hn : ∀ q, q < c → W q ≠ a :: W p := by
      rcases hT.1.2.2.2 p a hp ha with ⟨q, -, -, q3⟩ | ⟨q1, -⟩
      · omega
      · exact q1
    refine aj_aload_n 0 23 (dx d_Suite_enter 14 rfl) rfl rfl rfl ?_
    refine aj_getfv (v := (c : Int)) 26 fl_Suite_36 (dx d_Suite_enter 15 rfl) rfl hs.1 (by (repeat (first | rw [aj_up_ne _ _ _ (by omega)] | rw [aj_up_ni _ _ _ (by omega)])); exact hT.1.1) ?_
    refine aj_sipush 29 (dx d_Suite_enter 16 rfl) rfl (by decide +kernel) ?_
    refine aj_icmp_ne 39 32 (dx d_Suite_enter 17 rfl) rfl rfl (by unfold aj_I; omega) (by unfold aj_I; omega) (fun h29 => ?_) (fun h29 => ?_)
    · have hc9 : c < 800 := by omega
      refine aj_aload_n 0 40 (dx d_Suite_enter 23 rfl) rfl rfl rfl ?_
      refine aj_getfv (v := (r + 9)) 43 fl_Suite_67 (dx d_Suite_enter 24 rfl) rfl hs.1 (by (repeat (first | rw [aj_up_ne _ _ _ (by omega)] | rw [aj_up_ni _ _ _ (by omega)])); exact (sf_children hs)) ?_
      refine aj_iload_n 3 44 (dx d_Suite_enter 25 rfl) rfl rfl rfl ?_
      refine aj_aload_n 0 45 (dx d_Suite_enter 26 rfl) rfl rfl rfl ?_
      refine aj_getfv (v := (c : Int)) 48 fl_Suite_36 (dx d_Suite_enter 27 rfl) rfl hs.1 (by (repeat (first | rw [aj_up_ne _ _ _ (by omega)] | rw [aj_up_ni _ _ _ (by omega)])); exact hT.1.1) ?_
      refine aj_iast 49 (dx d_Suite_enter 28 rfl) rfl (ss_children hs) rfl hix.1 hix.2 ?_
      refine aj_aload_n 0 50 (dx d_Suite_enter 29 rfl) rfl rfl rfl ?_
      refine aj_iload_n 1 51 (dx d_Suite_enter 30 rfl) rfl rfl rfl ?_
      refine aj_iload_n 2 52 (dx d_Suite_enter 31 rfl) rfl rfl rfl ?_
      refine aj_aload_n 0 53 (dx d_Suite_enter 32 rfl) rfl rfl rfl ?_
      refine aj_getfv (v := 10) 56 fl_Suite_61 (dx d_Suite_enter 33 rfl) rfl hs.1 (by (repeat (first | rw [aj_up_ne _ _ _ (by omega)] | rw [aj_up_ni _ _ _ (by omega)])); exact (sf_machine hs)) ?_
      refine aj_aload_n 0 57 (dx d_Suite_enter 34 rfl) rfl rfl rfl ?_
      refine aj_getfv (v := (r + 4)) 60 fl_Suite_21 (dx d_Suite_enter 35 rfl) rfl hs.1 (by (repeat (first | rw [aj_up_ne _ _ _ (by omega)] | rw [aj_up_ni _ _ _ (by omega)])); exact (sf_state hs)) ?_
      refine aj_iload_n 1 61 (dx d_Suite_enter 36 rfl) rfl rfl rfl ?_
      refine aj_iald 62 (dx d_Suite_enter 37 rfl) rfl (ss_state hs) rfl (by omega) (by omega) ?_
      rw [show aj_up g (r + 9) ((p : Int) * (k : Int) + (a : Int)) (c : Int) (r + 4) (p : Int) = (rn mnx 0 (W p) : Nat) by rw [aj_up_ne _ _ _ (by omega)]; exact (hT.1.2.1 p hp).2]
      refine aj_iload_n 2 63 (dx d_Suite_enter 38 rfl) rfl rfl rfl ?_
      refine aj_callV2 66 cl_Suite_144 (dx d_Suite_enter 39 rfl) rfl rfl rfl rfl rfl rfl hC.1.1.1 (s_next (mcm_of hC.1 (aj_up_ne _ _ _ (by omega)) (aj_up_ne _ _ _ (by omega)) (aj_up_ne _ _ _ (by omega))) hst ha ?_)
      change aj_wp _ _ _ _ _ _ _ _ _ _ _ _ _ _
      refine aj_callV3 69 cl_Suite_86 (dx d_Suite_enter 40 rfl) rfl rfl rfl rfl rfl rfl hs.1 (k_Suite_addNode (L := L) (N := N) (mnx := mnx) (mou := mou) hr (sus_of hs (fun j _ => by rw [aj_up_ne _ _ _ (by omega)])) (suC_of hC (fun r' hr' => by rw [aj_up_ne _ _ _ (by omega)])) (by rw [aj_up_ne _ _ _ (by omega)]; exact hT.1.1) hc9 (by unfold aj_I; omega) (fun _ => ⟨by omega, by omega⟩) (fun g1 hA => ?_))
      · obtain ⟨hT1, hF1, hv⟩ := tC_add hr hC.2.1 hT hc9 hp ha hn hP hA
        have hs1 := eF_s hs hF1
        change aj_wp _ _ _ _ _ _ _ _ _ _ _ _ _ _
        refine aj_aload_n 0 70 (dx d_Suite_enter 41 rfl) rfl rfl rfl ?_
        refine aj_getfv (v := (r + 9)) 73 fl_Suite_67 (dx d_Suite_enter 42 rfl) rfl hs1.1 (by (repeat (first | rw [aj_up_ne _ _ _ (by omega)] | rw [aj_up_ni _ _ _ (by omega)])); exact (sf_children hs1)) ?_
        refine aj_iload_n 3 74 (dx d_Suite_enter 43 rfl) rfl rfl rfl ?_
        refine aj_iald 75 (dx d_Suite_enter 44 rfl) rfl (ss_children hs1) rfl hix.1 hix.2 ?_
        rw [hv]
        refine aj_iret (dx d_Suite_enter 45 rfl) rfl id ?_
        exact hk g1 (c + 1) (tr_up W c (a :: W p)) z c hT1 hF1 (tr_ex_up _) (by omega) (fun h => ⟨h, tr_up_self _ _ _⟩)
    · refine aj_aload_n 0 33 (dx d_Suite_enter 18 rfl) rfl rfl rfl ?_
      refine aj_iconst 34 (dx d_Suite_enter 19 rfl) rfl ?_
      refine aj_putf 37 (pl_Suite_43 _) (dx d_Suite_enter 20 rfl) rfl hs.1 (aj_fitZ (by omega)) ?_
      refine aj_iload_n 1 38 (dx d_Suite_enter 21 rfl) rfl rfl rfl ?_
      refine aj_iret (dx d_Suite_enter 22 rfl) rfl id ?_
      have hc0 : c = 800 := by omega
      obtain ⟨hT1, hF1⟩ := tS_full hT hc0 hn hP
      exact hk _ c W 0 p hT1 hF1 (tr_ex_refl c W) hp (fun h => absurd h (by decide))
set_option maxHeartbeats 8000000 in
theorem k_aw_loop {al : Prop} {X : Option (Nat × (Int → Int))} {d : Nat} {sh : List aj_S} {g : aj_G} {Q : aj_R → List aj_S → aj_G → Prop} {r : Int} {L k N : Nat} {mnx mou : Nat → Nat → Nat} (hr : r = 58 ∨ r = 68) (hs : sus sh g r k) (hC : suC sh g L k N mnx mou) {c : Nat} {W : Nat → List Nat} {P : List Nat → Prop} {z : Int} (hT : tS g r k c W mnx P z) {x : Int} {w : List Nat} (hx : x < 58) (hx2 : x + 1 < 58) (hw : wds sh g x) (hwa : wat g x w) (hok : wd_ok k w) (hwl : w.length ≤ 100) {p : Nat} (hp : p < c) (hP : z = 1 → ∀ v t, t ++ v = w ++ W p → P v) (hk : ∀ (g1 : aj_G) (c1 : Nat) (W1 : Nat → List Nat) (z1 : Int), tS g1 r k c1 W1 mnx P z1 → eF g g1 r → tr_ex c W c1 W1 → (z1 = 1 → z = 1 ∧ pr c1 W1 (w ++ W p)) → Q (.inl none) sh g1) : ∀ (m i : Nat) (g1 : aj_G) (c1 : Nat) (W1 : Nat → List Nat) (z1 : Int) (p1 : Nat), i ≤ w.length → w.length - i = m → tS g1 r k c1 W1 mnx P z1 → eF g g1 r → tr_ex c W c1 W1 → p1 < c1 → (z1 = 1 → z = 1 ∧ W1 p1 = w.drop (w.length - i) ++ W p) →
    aj_wp nE al al X m_Suite_addWord (d + 2) 0 0 5 [some (1, r), some (0, (p : Int)), some (1, x), some (0, (p1 : Int)), some (0, (i : Int))] [] sh g1 Q := by
  intro m
  induction m using Nat.strongRecOn with
  | ind m ih =>
    intro i g1 c1 W1 z1 p1 hi hmm hT1 hF1 hX1 hp1 hat
    have hs1 := eF_s hs hF1
    have hC1 := eF_C hr hC hF1
    refine aj_iload 4 7 (dx d_Suite_addWord 4 rfl) rfl rfl ?_
    refine aj_aload_n 2 8 (dx d_Suite_addWord 5 rfl) rfl rfl rfl ?_
    refine aj_getfv (v := (w.length : Int)) 11 fl_Suite_136 (dx d_Suite_addWord 6 rfl) rfl hw.1 (by rw [hF1.1 x (by omega)]; exact hwa.1) ?_
    refine aj_icmp_ge 33 14 (dx d_Suite_addWord 7 rfl) rfl rfl (by unfold aj_I; omega) (by unfold aj_I; omega) (fun h11 => ?_) (fun h11 => ?_)
    · refine aj_vret (dx d_Suite_addWord 18 rfl) rfl id ?_
      exact hk g1 c1 W1 z1 hT1 hF1 hX1 (fun h => by
        obtain ⟨y1, y2⟩ := hat h
        rw [show w.length - i = 0 by omega] at y2
        exact ⟨y1, p1, hp1, y2⟩)
    · obtain ⟨j, hj⟩ : ∃ j : Nat, w.length = i + 1 + j := ⟨w.length - (i + 1), by omega⟩
      have hjl : j < w.length := by omega
      have hlk : w[j] < k := hok _ (List.getElem_mem hjl)
      have hdr : w.drop j = w[j] :: w.drop (j + 1) := List.drop_eq_getElem_cons hjl
      have he : w.length - i = j + 1 := by omega
      have hlet : g1 (x + 1) ((i : Nat) : Int) = (w[j] : Nat) := by
        rw [hF1.1 (x + 1) (by omega)]
        have := hwa.2 j hjl
        rw [show (w.length : Int) - 1 - j = i by omega] at this
        exact this
      refine aj_aload_n 0 15 (dx d_Suite_addWord 8 rfl) rfl rfl rfl ?_
      refine aj_iload_n 3 16 (dx d_Suite_addWord 9 rfl) rfl rfl rfl ?_
      refine aj_aload_n 2 17 (dx d_Suite_addWord 10 rfl) rfl rfl rfl ?_
      refine aj_getfv (v := (x + 1)) 20 fl_Suite_141 (dx d_Suite_addWord 11 rfl) rfl hw.1 (by rw [hF1.1 x (by omega)]; exact hw.2.1) ?_
      refine aj_iload 4 22 (dx d_Suite_addWord 12 rfl) rfl rfl ?_
      refine aj_iald 23 (dx d_Suite_addWord 13 rfl) rfl hw.2.2 rfl (by omega) (by omega) ?_
      rw [hlet]
      refine aj_callV2 26 cl_Suite_97 (dx d_Suite_addWord 14 rfl) rfl rfl rfl rfl rfl rfl hs1.1 (k_Suite_enter hr hs1 hC1 hT1 hp1 hlk (fun h => by obtain ⟨h0, h1'⟩ := hat h; rw [h1', he, show w[j] :: (w.drop (j + 1) ++ W p) = w.drop j ++ W p by rw [hdr]; rfl]; exact hP h0 (w.drop j ++ W p) (w.take j) (by rw [← List.append_assoc, List.take_append_drop])) (fun g2 c2 W2 z2 q2 hT2 hF2 hX2 hq2 hw2 => ?_))
      change aj_wp _ _ _ _ _ _ _ _ _ _ _ _ _ _
      refine aj_istore_n 3 27 (dx d_Suite_addWord 15 rfl) rfl rfl rfl ?_
      simp only [List.set]
      refine aj_iinc 4 30 (dx d_Suite_addWord 16 rfl) rfl rfl rfl ?_
      simp only [List.set]
      refine aj_goto 5 (dx d_Suite_addWord 17 rfl) rfl ?_
      rw [show ((i : Nat) : Int) + 1 = ((i + 1 : Nat) : Int) by omega]
      exact ih _ (by omega) (i + 1) g2 c2 W2 z2 q2 (by omega) rfl hT2 (eF_trans hF1 hF2) (tr_ex_trans hX1 hX2) hq2 (fun h => by
        obtain ⟨y1, y2⟩ := hw2 h
        obtain ⟨y3, y4⟩ := hat y1
        refine ⟨y3, ?_⟩
        rw [y2, y4, he, show w.length - (i + 1) = j by omega, hdr]
        rfl)
set_option maxHeartbeats 8000000 in
theorem k_Suite_addWord {al : Prop} {X : Option (Nat × (Int → Int))} {d : Nat} {sh : List aj_S} {g : aj_G} {Q : aj_R → List aj_S → aj_G → Prop} {r : Int} {L k N : Nat} {mnx mou : Nat → Nat → Nat} (hr : r = 58 ∨ r = 68) (hs : sus sh g r k) (hC : suC sh g L k N mnx mou) {c : Nat} {W : Nat → List Nat} {P : List Nat → Prop} {z : Int} (hT : tS g r k c W mnx P z) {x : Int} {w : List Nat} (hx : x < 58) (hx2 : x + 1 < 58) (hw : wds sh g x) (hwa : wat g x w) (hok : wd_ok k w) (hwl : w.length ≤ 100) {p : Nat} (hp : p < c) (hP : z = 1 → ∀ v t, t ++ v = w ++ W p → P v) (hk : ∀ (g1 : aj_G) (c1 : Nat) (W1 : Nat → List Nat) (z1 : Int), tS g1 r k c1 W1 mnx P z1 → eF g g1 r → tr_ex c W c1 W1 → (z1 = 1 → z = 1 ∧ pr c1 W1 (w ++ W p)) → Q (.inl none) sh g1) : aj_wp nE al al X m_Suite_addWord (d + 2) 0 0 0 [some (1, r), some (0, (p : Int)), some (1, x), none, none] [] sh g Q := by
  refine aj_iload_n 1 1 (dx d_Suite_addWord 0 rfl) rfl rfl rfl ?_
  refine aj_istore_n 3 2 (dx d_Suite_addWord 1 rfl) rfl rfl rfl ?_
  simp only [List.set]
  refine aj_iconst 3 (dx d_Suite_addWord 2 rfl) rfl ?_
  refine aj_istore 4 5 (dx d_Suite_addWord 3 rfl) rfl rfl ?_
  simp only [List.set]
  exact k_aw_loop hr hs hC hT hx hx2 hw hwa hok hwl hp hP hk _ 0 g c W z p (by omega) rfl hT (eF_refl g r) (tr_ex_refl c W) hp (fun h => ⟨h, by rw [Nat.sub_zero, List.drop_length]; rfl⟩)
