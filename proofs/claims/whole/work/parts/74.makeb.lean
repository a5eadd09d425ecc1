/-! making: Family, Bench -/
def wl : Nat → List aj_S
  | 0 => []
  | n + 1 => wl n ++ [.inr 1] ++ [.inl (0, 100)]
theorem wl_len : ∀ n, (wl n).length = 2 * n
  | 0 => rfl
  | n + 1 => by
    show (wl n ++ [(.inr 1 : aj_S)] ++ [(.inl (0, 100) : aj_S)]).length = 2 * (n + 1)
    rw [List.length_append, List.length_append, wl_len n]
    simp only [List.length_cons, List.length_nil]
    omega
def fI (g g1 : aj_G) (p : Int) (w : Nat) : Prop := (∀ r', r' < p + 12 → r' ≠ p + 1 → g1 r' = g r') ∧ ∀ v : Nat, v < w → g1 (p + 1) v = p + 12 + 2 * v ∧ g1 (p + 12 + 2 * v) 0 = p + 13 + 2 * v
set_option maxHeartbeats 8000000 in
theorem k_fm_loop {al : Prop} {X : Option (Nat × (Int → Int))} {d : Nat} {sh : List aj_S} {g : aj_G} {Q : aj_R → List aj_S → aj_G → Prop} (hal : al) {p : Int} (h0 : 0 ≤ p) (hp9 : p < 1000) (hp : (sh.length : Int) = p + 12) (hs : aj_sh sh p = some (.inr 4)) (hw1 : aj_sh sh (p + 1) = some (.inl (3, 8))) (hg0 : g p 0 = p + 1) (hk : ∀ g1 : aj_G, fI g g1 p 8 → Q (.inl none) (sh ++ wl 8) g1) :
    ∀ (n w : Nat) (g1 : aj_G), w ≤ 8 → 8 - w = n → fI g g1 p w → aj_wp nE al al X m_Family_init (d + 2) (2 * (8 - w)) (102 * (8 - w)) 40 [some (1, p), some (0, (w : Int))] [] (sh ++ wl w) g1 Q := by
  intro n
  induction n using Nat.strongRecOn with
  | ind n ih =>
    intro w g1 hw hnn hI
    refine aj_iload_n 1 41 (dx d_Family_init 20 rfl) rfl rfl rfl ?_
    refine aj_aload_n 0 42 (dx d_Family_init 21 rfl) rfl rfl rfl ?_
    refine aj_getfv (v := (p + 1)) 45 fl_Family_11 (dx d_Family_init 22 rfl) rfl (sx_old hs) (by rw [hI.1 p (by omega) (by omega)]; exact hg0) ?_
    refine aj_alen 46 (dx d_Family_init 23 rfl) rfl (sx_old hw1) rfl rfl ?_
    refine aj_icmp_ge 68 49 (dx d_Family_init 24 rfl) rfl rfl (by unfold aj_I; omega) (by unfold aj_I; omega) (fun h46 => ?_) (fun h46 => ?_)
    · refine aj_vret (dx d_Family_init 34 rfl) rfl id ?_
      rw [show w = 8 by omega] at hI ⊢
      exact hk g1 hI
    · refine aj_aload_n 0 50 (dx d_Family_init 25 rfl) rfl rfl rfl ?_
      refine aj_getfv (v := (p + 1)) 53 fl_Family_11 (dx d_Family_init 26 rfl) rfl (sx_old hs) (by rw [hI.1 p (by omega) (by omega)]; exact hg0) ?_
      refine aj_iload_n 1 54 (dx d_Family_init 27 rfl) rfl rfl rfl ?_
      have hw8 : w < 8 := by omega
      refine aj_newop (x := p + 12 + 2 * (w : Int)) (bc1 := 2 * (8 - w) - 1) (bs1 := 102 * (8 - w) - 2) 57 nw_Family_9 (dx d_Family_init 28 rfl) rfl (by omega) (by omega) hal (by rw [List.length_append, wl_len]; push_cast; omega) (by omega) ?_
      refine aj_dup 58 (dx d_Family_init 29 rfl) rfl rfl ?_
      refine aj_callN (bc1 := 1) (bc2 := 2 * (8 - w) - 2) (bs1 := 100) (bs2 := 102 * (8 - w) - 102) 61 nl_Family_30 (dx d_Family_init 30 rfl) rfl rfl (by omega) (by omega) rfl rfl (by omega) (k_Word_init (p := p + 12 + 2 * (w : Int)) hal (by omega) (by omega) (by rw [List.length_append, List.length_append, wl_len]; simp only [List.length_cons, List.length_nil]; push_cast; omega) (sx_at (by rw [List.length_append, wl_len]; push_cast; omega)) (fun g2 e1 e2 e3 => ?_))
      change aj_wp _ _ _ _ _ _ _ _ _ _ _ _ _ _
      refine aj_aast (t0 := 3) (n := 8) (ci := 1) 62 (dx d_Family_init 31 rfl) rfl (sx_old (sx_old (sx_old hw1))) rfl rfl (sx_old (sx_at (by rw [List.length_append, wl_len]; push_cast; omega))) (by omega) (by omega) ?_
      refine aj_iinc 1 65 (dx d_Family_init 32 rfl) rfl rfl rfl ?_
      simp only [List.set]
      refine aj_goto 40 (dx d_Family_init 33 rfl) rfl ?_
      rw [show ((w : Nat) : Int) + 1 = ((w + 1 : Nat) : Int) by omega, show 2 * (8 - w) - 2 = 2 * (8 - (w + 1)) by omega, show 102 * (8 - w) - 102 = 102 * (8 - (w + 1)) by omega]
      have hg := ih _ (by omega) (w + 1) (aj_up g2 (p + 1) (w : Int) (p + 12 + 2 * (w : Int))) (by omega) rfl ⟨fun r' h1 h2 => ?_, fun v hv => ?_⟩
      · rw [show sh ++ wl (w + 1) = sh ++ wl w ++ [.inr 1] ++ [.inl (0, 100)] by show sh ++ (wl w ++ [.inr 1] ++ [.inl (0, 100)]) = _; simp only [List.append_assoc]] at hg
        exact hg
      · rw [aj_up_ne _ _ _ h2, e1 r' (by omega), aj_nw_ne _ _ (by omega)]
        exact hI.1 r' h1 h2
      · by_cases e : v = w
        · subst e
          exact ⟨aj_up_self _ _ _ _, by rw [aj_up_ne _ _ _ (by omega), e2]; omega⟩
        · obtain ⟨v1, v2⟩ := hI.2 v (by omega)
          exact ⟨by rw [aj_up_ni _ _ _ (by omega), e1 _ (by omega), aj_nw_ne _ _ (by omega)]; exact v1, by rw [aj_up_ne _ _ _ (by omega), e1 _ (by omega), aj_nw_ne _ _ (by omega)]; exact v2⟩
theorem mg_ne {g : aj_G} {k r : Int} (h : r < k ∨ k + 8 < r) : aj_mg g k r = g r := by
  unfold aj_mg
  rw [if_neg (by omega), if_neg (by omega)]
theorem mg_0 {g : aj_G} {k i : Int} (h : 0 ≤ i ∧ i < 8) : aj_mg g k k i = k + 1 + i := by
  unfold aj_mg
  rw [if_pos rfl]
  exact if_pos h
theorem k8 : (102 * (8 - 0) : Nat) = 816 := rfl
set_option maxHeartbeats 8000000 in
theorem k_Family_init {al : Prop} {X : Option (Nat × (Int → Int))} {d : Nat} {sh : List aj_S} {g : aj_G} {Q : aj_R → List aj_S → aj_G → Prop} (hal : al) {p : Int} (h0 : 0 ≤ p) (hp9 : p < 1000) (hp : (sh.length : Int) = p + 1) (hs : aj_sh sh p = some (.inr 4)) (hk : ∀ g1 : aj_G, (∀ r', r' < p → g1 r' = g r') → (g1 p 0 = p + 1 ∧ g1 p 1 = p + 2 ∧ g1 p 2 = p + 11 ∧ g1 p 3 = 0 ∧ (∀ i, g1 (p + 11) i = 0) ∧ ∀ v : Nat, v < 8 → g1 (p + 1) v = p + 12 + 2 * v ∧ g1 (p + 12 + 2 * v) 0 = p + 13 + 2 * v ∧ g1 (p + 2) v = p + 3 + v) → Q (.inl none) ((sh ++ [.inl (3, 8)] ++ (.inl (4, 8) :: List.replicate 8 (.inl (0, 8))) ++ [.inl (0, 8)]) ++ wl 8) g1) : aj_wp nE al al X m_Family_init (d + 2) 27 904 0 [some (1, p), none] [] sh g Q := by
  refine aj_aload_n 0 1 (dx d_Family_init 0 rfl) rfl rfl rfl ?_
  refine aj_objInit 4 ob_Family_3 (dx d_Family_init 1 rfl) rfl h0 (by omega) ?_
  refine aj_aload_n 0 5 (dx d_Family_init 2 rfl) rfl rfl rfl ?_
  refine aj_bipush 7 (dx d_Family_init 3 rfl) rfl (by decide +kernel) ?_
  refine aj_newqp (t0 := 3) (C := "TestBench$Word") (x := (p + 1)) (N := 8) (bc1 := 26) (bs1 := 896) 10 ⟨kl_Family_9, by decide⟩ (dx d_Family_init 4 rfl) rfl rfl rfl (by omega) rfl rfl hal (by first | omega | (simp only [List.length_append, List.length_cons, List.length_nil, List.length_replicate]; push_cast; omega)) (by omega) ?_
  refine aj_putf 13 pl_Family_11 (dx d_Family_init 5 rfl) rfl (sx_old hs) (aj_fitA _ _) ?_
  refine aj_aload_n 0 14 (dx d_Family_init 6 rfl) rfl rfl rfl ?_
  refine aj_bipush 16 (dx d_Family_init 7 rfl) rfl (by decide +kernel) ?_
  refine aj_bipush 18 (dx d_Family_init 8 rfl) rfl (by decide +kernel) ?_
  refine aj_mnap (t0 := 4) (t1 := 0) (x := (p + 2)) (bc1 := 17) (bs1 := 824) 22 ⟨kl_Family_17, ac_int⟩ (dx d_Family_init 9 rfl) rfl rfl rfl rfl rfl hal (by first | omega | (simp only [List.length_append, List.length_cons, List.length_nil, List.length_replicate]; push_cast; omega)) (by omega) ?_
  refine aj_putf 25 pl_Family_19 (dx d_Family_init 10 rfl) rfl (sx_old (sx_old hs)) (aj_fitA _ _) ?_
  refine aj_aload_n 0 26 (dx d_Family_init 11 rfl) rfl rfl rfl ?_
  refine aj_bipush 28 (dx d_Family_init 12 rfl) rfl (by decide +kernel) ?_
  refine aj_newp (t0 := 0) (x := (p + 11)) (N := 8) (bc1 := 16) (bs1 := 816) 30 (dx d_Family_init 13 rfl) rfl rfl (Or.inl rfl) rfl ac_int rfl (by omega) rfl rfl hal (by first | omega | (simp only [List.length_append, List.length_cons, List.length_nil, List.length_replicate]; push_cast; omega)) (by omega) ?_
  refine aj_putf 33 pl_Family_22 (dx d_Family_init 14 rfl) rfl (sx_old (sx_old (sx_old hs))) (aj_fitA _ _) ?_
  refine aj_aload_n 0 34 (dx d_Family_init 15 rfl) rfl rfl rfl ?_
  refine aj_iconst 35 (dx d_Family_init 16 rfl) rfl ?_
  refine aj_putf 38 (pl_Family_26 _) (dx d_Family_init 17 rfl) rfl (sx_old (sx_old (sx_old hs))) (aj_fitI _) ?_
  refine aj_iconst 39 (dx d_Family_init 18 rfl) rfl ?_
  refine aj_istore_n 1 40 (dx d_Family_init 19 rfl) rfl rfl rfl ?_
  simp only [List.set]
  rw [← List.append_nil (sh ++ ([.inl (3, 8)] : List aj_S) ++ ((.inl (4, 8) :: List.replicate 8 (.inl (0, 8))) : List aj_S) ++ ([.inl (0, 8)] : List aj_S))]
  refine k_fm_loop (sh := (sh ++ [.inl (3, 8)] ++ (.inl (4, 8) :: List.replicate 8 (.inl (0, 8))) ++ [.inl (0, 8)])) hal h0 hp9 (by first | omega | (simp only [List.length_append, List.length_cons, List.length_nil, List.length_replicate]; push_cast; omega)) (sx_old (sx_old (sx_old hs))) (sx_old (sx_old (sx_at (by omega)))) ?_ (fun g1 hI => ?_) _ 0 _ (by omega) rfl ⟨fun r' _ _ => rfl, fun v hv => absurd hv (Nat.not_lt_zero _)⟩
  · (repeat (first | rw [aj_up_self] | rw [aj_up_ne _ _ _ (by omega)] | rw [aj_up_ni _ _ _ (by omega)] | rw [aj_nw_ne _ _ (by omega)] | rw [aj_nw_self] | rw [mg_ne (by omega)] | rw [mg_0 (by omega)]))
  · refine hk g1 (fun r' h => ?_) ⟨?_, ?_, ?_, ?_, fun i => ?_, fun v hv => ⟨(hI.2 v hv).1, (hI.2 v hv).2, ?_⟩⟩
    · rw [hI.1 r' (by omega) (by omega)]
      (repeat (first | rw [aj_up_self] | rw [aj_up_ne _ _ _ (by omega)] | rw [aj_up_ni _ _ _ (by omega)] | rw [aj_nw_ne _ _ (by omega)] | rw [aj_nw_self] | rw [mg_ne (by omega)] | rw [mg_0 (by omega)]))
    · rw [hI.1 p (by omega) (by omega)]
      (repeat (first | rw [aj_up_self] | rw [aj_up_ne _ _ _ (by omega)] | rw [aj_up_ni _ _ _ (by omega)] | rw [aj_nw_ne _ _ (by omega)] | rw [aj_nw_self] | rw [mg_ne (by omega)] | rw [mg_0 (by omega)]))
    · rw [hI.1 p (by omega) (by omega)]
      (repeat (first | rw [aj_up_self] | rw [aj_up_ne _ _ _ (by omega)] | rw [aj_up_ni _ _ _ (by omega)] | rw [aj_nw_ne _ _ (by omega)] | rw [aj_nw_self] | rw [mg_ne (by omega)] | rw [mg_0 (by omega)]))
    · rw [hI.1 p (by omega) (by omega)]
      (repeat (first | rw [aj_up_self] | rw [aj_up_ne _ _ _ (by omega)] | rw [aj_up_ni _ _ _ (by omega)] | rw [aj_nw_ne _ _ (by omega)] | rw [aj_nw_self] | rw [mg_ne (by omega)] | rw [mg_0 (by omega)]))
    · rw [hI.1 p (by omega) (by omega)]
      (repeat (first | rw [aj_up_self] | rw [aj_up_ne _ _ _ (by omega)] | rw [aj_up_ni _ _ _ (by omega)] | rw [aj_nw_ne _ _ (by omega)] | rw [aj_nw_self] | rw [mg_ne (by omega)] | rw [mg_0 (by omega)]))
    · rw [hI.1 (p + 11) (by omega) (by omega)]
      (repeat (first | rw [aj_up_self] | rw [aj_up_ne _ _ _ (by omega)] | rw [aj_up_ni _ _ _ (by omega)] | rw [aj_nw_ne _ _ (by omega)] | rw [aj_nw_self] | rw [mg_ne (by omega)] | rw [mg_0 (by omega)]))
    · rw [hI.1 (p + 2) (by omega) (by omega)]
      (repeat (first | rw [aj_up_self] | rw [aj_up_ne _ _ _ (by omega)] | rw [aj_up_ni _ _ _ (by omega)] | rw [aj_nw_ne _ _ (by omega)] | rw [aj_nw_self] | rw [mg_ne (by omega)] | rw [mg_0 (by omega)]))
      omega
