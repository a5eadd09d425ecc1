/-! Family: has, firstWord, ownTells, chooseOwn. Places: 13 the family, 14 its words (25, 27 .. 39), 15 owned (16 .. 23), 24 ownSize -/
def fms (sh : List aj_S) (g : aj_G) : Prop := aj_sh sh 13 = some (.inr 4) ∧ (g 13 0 = 14 ∧ g 13 1 = 15 ∧ g 13 2 = 24) ∧ aj_sh sh 14 = some (.inl (3, 8)) ∧ aj_sh sh 15 = some (.inl (4, 8)) ∧ aj_sh sh 24 = some (.inl (0, 8)) ∧
  ∀ w : Nat, w < 8 → g 14 w = 25 + 2 * (w : Int) ∧ wds sh g (25 + 2 * (w : Int)) ∧ g 15 w = 16 + (w : Int) ∧ aj_sh sh (16 + (w : Int)) = some (.inl (0, 8))
theorem fms_of {sh : List aj_S} {g g1 : aj_G} (h : fms sh g) (e : ∀ j, j ≠ 3 → g1 13 j = g 13 j) (e4 : g1 14 = g 14) (e5 : g1 15 = g 15) (ew : ∀ w : Nat, w < 8 → g1 (25 + 2 * (w : Int)) 0 = g (25 + 2 * (w : Int)) 0) : fms sh g1 := by
  obtain ⟨h1, ⟨a, b, c⟩, h3, h4, h5, h6⟩ := h
  refine ⟨h1, ⟨by rw [e _ (by omega)]; exact a, by rw [e _ (by omega)]; exact b, by rw [e _ (by omega)]; exact c⟩, h3, h4, h5, fun w hw => ?_⟩
  obtain ⟨x1, x2, x3, x4⟩ := h6 w hw
  exact ⟨by rw [e4]; exact x1, ⟨x2.1, by rw [ew w hw]; exact x2.2.1, x2.2.2⟩, by rw [e5]; exact x3, x4⟩
/-- the family's words -/
def fam (g : aj_G) (k c : Nat) (F : Nat → List Nat) : Prop := g 13 3 = c ∧ c ≤ 8 ∧ ∀ w : Nat, w < c → wat g (25 + 2 * (w : Int)) (F w) ∧ wd_ok k (F w) ∧ (F w).length ≤ 100
theorem fam_of {g g1 : aj_G} {k c : Nat} {F : Nat → List Nat} (h : fam g k c F) (e3 : g1 13 3 = g 13 3) (e : ∀ w : Nat, w < 8 → g1 (25 + 2 * (w : Int)) = g (25 + 2 * (w : Int)) ∧ g1 (25 + 2 * (w : Int) + 1) = g (25 + 2 * (w : Int) + 1)) : fam g1 k c F := by
  refine ⟨by rw [e3]; exact h.1, h.2.1, fun w hw => ?_⟩
  obtain ⟨a, b⟩ := h.2.2 w hw
  obtain ⟨c1, c2⟩ := e w (by have := h.2.1; omega)
  refine ⟨?_, b⟩
  unfold wat at a ⊢
  rw [c1, c2]
  exact a
def oat (g : aj_G) (i : Nat) (o : Nat × (Nat → Nat)) : Prop := g 24 i = o.1 ∧ ∀ v : Nat, v < o.1 → g (16 + (i : Int)) v = o.2 v
set_option maxHeartbeats 4000000 in
theorem k_Family_has {al : Prop} {X : Option (Nat × (Int → Int))} {d : Nat} {sh : List aj_S} {g : aj_G} {Q : aj_R → List aj_S → aj_G → Prop} {w : Int}
    (hf : fms sh g) (hx : aj_I w) (hn : aj_I (g 13 3)) (hk : Q (.inl (some (0, if 0 ≤ w ∧ w < g 13 3 then 1 else 0))) sh g) : aj_wp nE al al X m_Family_has (d) 0 0 0 [some (1, 13), some (0, w)] [] sh g Q := by
  refine aj_iload_n 1 1 (dx d_Family_has 0 rfl) rfl rfl rfl ?_
  refine aj_if_lt 16 4 (dx d_Family_has 1 rfl) rfl rfl hx (fun h1 => ?_) (fun h1 => ?_)
  · refine aj_iconst 17 (dx d_Family_has 8 rfl) rfl ?_
    refine aj_zret (dx d_Family_has 9 rfl) rfl (by omega) id ?_
    first | (rw [if_pos (by omega)] at hk; exact hk) | (rw [if_neg (by omega)] at hk; exact hk)
  · refine aj_iload_n 1 5 (dx d_Family_has 2 rfl) rfl rfl rfl ?_
    refine aj_aload_n 0 6 (dx d_Family_has 3 rfl) rfl rfl rfl ?_
    refine aj_getf 9 fl_Family_26 (dx d_Family_has 4 rfl) rfl hf.1 ?_
    refine aj_icmp_ge 16 12 (dx d_Family_has 5 rfl) rfl rfl hx hn (fun h9 => ?_) (fun h9 => ?_)
    · refine aj_iconst 17 (dx d_Family_has 8 rfl) rfl ?_
      refine aj_zret (dx d_Family_has 9 rfl) rfl (by omega) id ?_
      first | (rw [if_pos (by omega)] at hk; exact hk) | (rw [if_neg (by omega)] at hk; exact hk)
    · refine aj_iconst 13 (dx d_Family_has 6 rfl) rfl ?_
      refine aj_goto 17 (dx d_Family_has 7 rfl) rfl ?_
      refine aj_zret (dx d_Family_has 9 rfl) rfl (by omega) id ?_
      first | (rw [if_pos (by omega)] at hk; exact hk) | (rw [if_neg (by omega)] at hk; exact hk)

set_option maxHeartbeats 4000000 in
theorem k_firstWord_loop {al : Prop} {X : Option (Nat × (Int → Int))} {d : Nat} {sh : List aj_S} {g : aj_G} {Q : aj_R → List aj_S → aj_G → Prop} {L k n c i j : Nat} {nx ou : Nat → Nat → Nat} {F : Nat → List Nat} (hf : fms sh g) (hm : mcm sh g 10 L k n nx ou) (hF : fam g k c F) (hi : i < n) (hj : j < n) (hk1 : ∀ w : Nat, w < c → tl nx ou i j (F w) → (∀ w', w' < w → ¬ tl nx ou i j (F w')) → Q (.inl (some (0, (w : Int)))) sh g) (hk0 : (∀ w, w < c → ¬ tl nx ou i j (F w)) → Q (.inl (some (0, -1))) sh g) : ∀ (m w : Nat), w ≤ c → c - w = m → (∀ w', w' < w → ¬ tl nx ou i j (F w')) →
    aj_wp nE al al X m_Family_firstWord (d + 2) 0 0 3 [some (1, 13), some (1, 10), some (0, (i : Int)), some (0, (j : Int)), some (0, (w : Int))] [] sh g Q := by
  have hc8 := hF.2.1
  intro m
  induction m using Nat.strongRecOn with
  | ind m ih =>
    intro w hw0 hmm hno
    refine aj_iload 4 5 (dx d_Family_firstWord 2 rfl) rfl rfl ?_
    refine aj_aload_n 0 6 (dx d_Family_firstWord 3 rfl) rfl rfl rfl ?_
    refine aj_getf 9 fl_Family_26 (dx d_Family_firstWord 4 rfl) rfl hf.1 ?_
    refine aj_icmp_ge 37 12 (dx d_Family_firstWord 5 rfl) rfl rfl (by unfold aj_I; omega) (by rw [hF.1]; unfold aj_I; omega) (fun h9 => ?_) (fun h9 => ?_)
    · rw [hF.1] at h9
      refine aj_iconst 38 (dx d_Family_firstWord 19 rfl) rfl ?_
      refine aj_iret (dx d_Family_firstWord 20 rfl) rfl id ?_
      exact hk0 (fun w2 h2 => hno w2 (by omega))
    · rw [hF.1] at h9
      have hwc : w < c := by omega
      have hw8 : w < 8 := by omega
      obtain ⟨f1, f2, f3⟩ := hF.2.2 w hwc
      refine aj_aload_n 1 13 (dx d_Family_firstWord 6 rfl) rfl rfl rfl ?_
      refine aj_aload_n 0 14 (dx d_Family_firstWord 7 rfl) rfl rfl rfl ?_
      refine aj_getf 17 fl_Family_11 (dx d_Family_firstWord 8 rfl) rfl hf.1 ?_
      rw [hf.2.1.1]
      refine aj_iload 4 19 (dx d_Family_firstWord 9 rfl) rfl rfl ?_
      refine aj_aald 20 (dx d_Family_firstWord 10 rfl) rfl hf.2.2.1 rfl rfl (by omega) (by omega) ?_
      rw [(hf.2.2.2.2.2 w hw8).1]
      refine aj_iload_n 2 21 (dx d_Family_firstWord 11 rfl) rfl rfl rfl ?_
      refine aj_iload_n 3 22 (dx d_Family_firstWord 12 rfl) rfl rfl rfl ?_
      refine aj_callV3 25 cl_Family_62 (dx d_Family_firstWord 13 rfl) rfl rfl rfl rfl rfl rfl hm.1.1 (k_Machine_tellsApart hm (hf.2.2.2.2.2 w hw8).2.1 f1 f2 f3 hi hj (fun ht => ?_) (fun ht => ?_))
      · change aj_wp _ _ _ _ _ _ _ _ _ _ _ _ _ _
        refine aj_if_eq 31 28 (dx d_Family_firstWord 14 rfl) rfl rfl (by unfold aj_I; omega) (fun h25 => ?_) (fun h25 => ?_)
        · exact absurd h25 (by omega)
        · refine aj_iload 4 30 (dx d_Family_firstWord 15 rfl) rfl rfl ?_
          refine aj_iret (dx d_Family_firstWord 16 rfl) rfl id ?_
          exact hk1 w hwc ht hno
      · change aj_wp _ _ _ _ _ _ _ _ _ _ _ _ _ _
        refine aj_if_eq 31 28 (dx d_Family_firstWord 14 rfl) rfl rfl (by unfold aj_I; omega) (fun h25 => ?_) (fun h25 => ?_)
        · refine aj_iinc 4 34 (dx d_Family_firstWord 17 rfl) rfl rfl rfl ?_
          simp only [List.set]
          refine aj_goto 3 (dx d_Family_firstWord 18 rfl) rfl ?_
          have hih := ih _ (by omega) (w + 1) (by omega) rfl (fun w2 h2 => by
            rcases Nat.lt_or_ge w2 w with z | z
            · exact hno w2 z
            · rw [show w2 = w by omega]; exact ht)
          rw [show ((w : Nat) : Int) + 1 = ((w + 1 : Nat) : Int) by omega]
          exact hih
        · exact absurd rfl h25
set_option maxHeartbeats 4000000 in
theorem k_firstWord {al : Prop} {X : Option (Nat × (Int → Int))} {d : Nat} {sh : List aj_S} {g : aj_G} {Q : aj_R → List aj_S → aj_G → Prop} {L k n c i j : Nat} {nx ou : Nat → Nat → Nat} {F : Nat → List Nat} (hf : fms sh g) (hm : mcm sh g 10 L k n nx ou) (hF : fam g k c F) (hi : i < n) (hj : j < n) (hk1 : ∀ w : Nat, w < c → tl nx ou i j (F w) → (∀ w', w' < w → ¬ tl nx ou i j (F w')) → Q (.inl (some (0, (w : Int)))) sh g) (hk0 : (∀ w, w < c → ¬ tl nx ou i j (F w)) → Q (.inl (some (0, -1))) sh g) : aj_wp nE al al X m_Family_firstWord (d + 2) 0 0 0 [some (1, 13), some (1, 10), some (0, (i : Int)), some (0, (j : Int)), none] [] sh g Q := by
  refine aj_iconst 1 (dx d_Family_firstWord 0 rfl) rfl ?_
  refine aj_istore 4 3 (dx d_Family_firstWord 1 rfl) rfl rfl ?_
  simp only [List.set]
  exact k_firstWord_loop hf hm hF hi hj hk1 hk0 _ 0 (Nat.zero_le _) rfl (fun w h => absurd h (Nat.not_lt_zero _))
set_option maxHeartbeats 4000000 in
theorem k_ownTells_loop {al : Prop} {X : Option (Nat × (Int → Int))} {d : Nat} {sh : List aj_S} {g : aj_G} {Q : aj_R → List aj_S → aj_G → Prop} {L k n c i j : Nat} {nx ou : Nat → Nat → Nat} {F : Nat → List Nat} (hf : fms sh g) (hm : mcm sh g 10 L k n nx ou) (hn8 : n ≤ 8) (hF : fam g k c F) (hi : i < n) (hj : j < n) {o : Nat × (Nat → Nat)} (ho : oat g i o) (ho8 : o.1 ≤ 8) (hoc : ∀ v, v < o.1 → o.2 v < c) (hk1 : (∃ v, v < o.1 ∧ tl nx ou i j (F (o.2 v))) → Q (.inl (some (0, 1))) sh g) (hk0 : (∀ v, v < o.1 → ¬ tl nx ou i j (F (o.2 v))) → Q (.inl (some (0, 0))) sh g) : ∀ (m v : Nat), v ≤ o.1 → o.1 - v = m → (∀ v', v' < v → ¬ tl nx ou i j (F (o.2 v'))) →
    aj_wp nE al al X m_Family_ownTells (d + 2) 0 0 3 [some (1, 13), some (1, 10), some (0, (i : Int)), some (0, (j : Int)), some (0, (v : Int))] [] sh g Q := by
  have hc8 := hF.2.1
  intro m
  induction m using Nat.strongRecOn with
  | ind m ih =>
    intro v hv0 hmm hno
    refine aj_iload 4 5 (dx d_Family_ownTells 2 rfl) rfl rfl ?_
    refine aj_aload_n 0 6 (dx d_Family_ownTells 3 rfl) rfl rfl rfl ?_
    refine aj_getf 9 fl_Family_22 (dx d_Family_ownTells 4 rfl) rfl hf.1 ?_
    rw [hf.2.1.2.2]
    refine aj_iload_n 2 10 (dx d_Family_ownTells 5 rfl) rfl rfl rfl ?_
    refine aj_iald 11 (dx d_Family_ownTells 6 rfl) rfl hf.2.2.2.2.1 rfl (by omega) (by omega) ?_
    rw [ho.1]
    refine aj_icmp_ge 45 14 (dx d_Family_ownTells 7 rfl) rfl rfl (by unfold aj_I; omega) (by unfold aj_I; omega) (fun h11 => ?_) (fun h11 => ?_)
    · refine aj_iconst 46 (dx d_Family_ownTells 26 rfl) rfl ?_
      refine aj_zret (dx d_Family_ownTells 27 rfl) rfl (by omega) id ?_
      exact hk0 (fun w2 h2 => hno w2 (by omega))
    · have hvo : v < o.1 := by omega
      have hwc := hoc v hvo
      have hw8 : o.2 v < 8 := by omega
      obtain ⟨f1, f2, f3⟩ := hF.2.2 (o.2 v) hwc
      refine aj_aload_n 1 15 (dx d_Family_ownTells 8 rfl) rfl rfl rfl ?_
      refine aj_aload_n 0 16 (dx d_Family_ownTells 9 rfl) rfl rfl rfl ?_
      refine aj_getf 19 fl_Family_11 (dx d_Family_ownTells 10 rfl) rfl hf.1 ?_
      rw [hf.2.1.1]
      refine aj_aload_n 0 20 (dx d_Family_ownTells 11 rfl) rfl rfl rfl ?_
      refine aj_getf 23 fl_Family_19 (dx d_Family_ownTells 12 rfl) rfl hf.1 ?_
      rw [hf.2.1.2.1]
      refine aj_iload_n 2 24 (dx d_Family_ownTells 13 rfl) rfl rfl rfl ?_
      refine aj_aald 25 (dx d_Family_ownTells 14 rfl) rfl hf.2.2.2.1 rfl rfl (by omega) (by omega) ?_
      rw [(hf.2.2.2.2.2 i (by omega)).2.2.1]
      refine aj_iload 4 27 (dx d_Family_ownTells 15 rfl) rfl rfl ?_
      refine aj_iald 28 (dx d_Family_ownTells 16 rfl) rfl (hf.2.2.2.2.2 i (by omega)).2.2.2 rfl (by omega) (by omega) ?_
      rw [ho.2 v hvo]
      refine aj_aald 29 (dx d_Family_ownTells 17 rfl) rfl hf.2.2.1 rfl rfl (by omega) (by omega) ?_
      rw [(hf.2.2.2.2.2 (o.2 v) hw8).1]
      refine aj_iload_n 2 30 (dx d_Family_ownTells 18 rfl) rfl rfl rfl ?_
      refine aj_iload_n 3 31 (dx d_Family_ownTells 19 rfl) rfl rfl rfl ?_
      refine aj_callV3 34 cl_Family_62 (dx d_Family_ownTells 20 rfl) rfl rfl rfl rfl rfl rfl hm.1.1 (k_Machine_tellsApart hm (hf.2.2.2.2.2 (o.2 v) hw8).2.1 f1 f2 f3 hi hj (fun ht => ?_) (fun ht => ?_))
      · change aj_wp _ _ _ _ _ _ _ _ _ _ _ _ _ _
        refine aj_if_eq 39 37 (dx d_Family_ownTells 21 rfl) rfl rfl (by unfold aj_I; omega) (fun h34 => ?_) (fun h34 => ?_)
        · exact absurd h34 (by omega)
        · refine aj_iconst 38 (dx d_Family_ownTells 22 rfl) rfl ?_
          refine aj_zret (dx d_Family_ownTells 23 rfl) rfl (by omega) id ?_
          exact hk1 ⟨v, hvo, ht⟩
      · change aj_wp _ _ _ _ _ _ _ _ _ _ _ _ _ _
        refine aj_if_eq 39 37 (dx d_Family_ownTells 21 rfl) rfl rfl (by unfold aj_I; omega) (fun h34 => ?_) (fun h34 => ?_)
        · refine aj_iinc 4 42 (dx d_Family_ownTells 24 rfl) rfl rfl rfl ?_
          simp only [List.set]
          refine aj_goto 3 (dx d_Family_ownTells 25 rfl) rfl ?_
          have hih := ih _ (by omega) (v + 1) (by omega) rfl (fun w2 h2 => by
            rcases Nat.lt_or_ge w2 v with z | z
            · exact hno w2 z
            · rw [show w2 = v by omega]; exact ht)
          rw [show ((v : Nat) : Int) + 1 = ((v + 1 : Nat) : Int) by omega]
          exact hih
        · exact absurd rfl h34
set_option maxHeartbeats 4000000 in
theorem k_ownTells {al : Prop} {X : Option (Nat × (Int → Int))} {d : Nat} {sh : List aj_S} {g : aj_G} {Q : aj_R → List aj_S → aj_G → Prop} {L k n c i j : Nat} {nx ou : Nat → Nat → Nat} {F : Nat → List Nat} (hf : fms sh g) (hm : mcm sh g 10 L k n nx ou) (hn8 : n ≤ 8) (hF : fam g k c F) (hi : i < n) (hj : j < n) {o : Nat × (Nat → Nat)} (ho : oat g i o) (ho8 : o.1 ≤ 8) (hoc : ∀ v, v < o.1 → o.2 v < c) (hk1 : (∃ v, v < o.1 ∧ tl nx ou i j (F (o.2 v))) → Q (.inl (some (0, 1))) sh g) (hk0 : (∀ v, v < o.1 → ¬ tl nx ou i j (F (o.2 v))) → Q (.inl (some (0, 0))) sh g) : aj_wp nE al al X m_Family_ownTells (d + 2) 0 0 0 [some (1, 13), some (1, 10), some (0, (i : Int)), some (0, (j : Int)), none] [] sh g Q := by
  refine aj_iconst 1 (dx d_Family_ownTells 0 rfl) rfl ?_
  refine aj_istore 4 3 (dx d_Family_ownTells 1 rfl) rfl rfl ?_
  simp only [List.set]
  exact k_ownTells_loop hf hm hn8 hF hi hj ho ho8 hoc hk1 hk0 _ 0 (Nat.zero_le _) rfl (fun w h => absurd h (Nat.not_lt_zero _))
