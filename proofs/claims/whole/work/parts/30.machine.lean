/-! class Machine: the small methods -/
theorem ix_lt {s s' i' k : Int} (hk : k = 1 ∨ k = 2 ∨ k = 3) (h : s' < s) (hi : i' < k) : s' * k + i' < s * k := by
  rcases hk with rfl | rfl | rfl <;> omega
theorem ix_inj {s s' i i' k : Int} (hk : k = 1 ∨ k = 2 ∨ k = 3) (h0 : 0 ≤ i) (h1 : i < k) (h2 : 0 ≤ i') (h3 : i' < k) : s' * k + i' = s * k + i ↔ s' = s ∧ i' = i := by
  rcases hk with rfl | rfl | rfl <;> omega
theorem ix_0 {s i k : Int} (hk : k = 1 ∨ k = 2 ∨ k = 3) (h : 0 ≤ s) (hi : 0 ≤ i) : 0 ≤ s * k + i := by
  rcases hk with rfl | rfl | rfl <;> omega
theorem ix_in {s i k n : Int} (hk : k = 1 ∨ k = 2 ∨ k = 3) (h : s < n) (hi : i < k) : s * k + i < n * k := by
  rcases hk with rfl | rfl | rfl <;> omega
/-- a Machine at place r: its two arrays stand behind it -/
def mcs (sh : List aj_S) (g : aj_G) (r : Int) (L : Nat) : Prop := aj_sh sh r = some (.inr 0) ∧ g r 1 = r + 1 ∧ g r 2 = r + 2 ∧ aj_sh sh (r + 1) = some (.inl (0, L)) ∧ aj_sh sh (r + 2) = some (.inl (0, L))
set_option maxHeartbeats 4000000 in
theorem k_Machine_hasState {al : Prop} {X : Option (Nat × (Int → Int))} {d : Nat} {sh : List aj_S} {g : aj_G} {Q : aj_R → List aj_S → aj_G → Prop} {r s : Int}
    (hs : aj_sh sh r = some (.inr 0)) (hx : aj_I s) (hn : aj_I (g r 3)) (hk : Q (.inl (some (0, if 0 ≤ s ∧ s < g r 3 then 1 else 0))) sh g) : aj_wp nE al al X m_Machine_hasState (d) 0 0 0 [some (1, r), some (0, s)] [] sh g Q := by
  refine aj_iload_n 1 1 (dx d_Machine_hasState 0 rfl) rfl rfl rfl ?_
  refine aj_if_lt 16 4 (dx d_Machine_hasState 1 rfl) rfl rfl hx (fun h1 => ?_) (fun h1 => ?_)
  · refine aj_iconst 17 (dx d_Machine_hasState 8 rfl) rfl ?_
    refine aj_zret (dx d_Machine_hasState 9 rfl) rfl (by omega) id ?_
    first | (rw [if_pos (by omega)] at hk; exact hk) | (rw [if_neg (by omega)] at hk; exact hk)
  · refine aj_iload_n 1 5 (dx d_Machine_hasState 2 rfl) rfl rfl rfl ?_
    refine aj_aload_n 0 6 (dx d_Machine_hasState 3 rfl) rfl rfl rfl ?_
    refine aj_getf 9 fl_Machine_22 (dx d_Machine_hasState 4 rfl) rfl (by assumption) ?_
    refine aj_icmp_ge 16 12 (dx d_Machine_hasState 5 rfl) rfl rfl hx hn (fun h9 => ?_) (fun h9 => ?_)
    · refine aj_iconst 17 (dx d_Machine_hasState 8 rfl) rfl ?_
      refine aj_zret (dx d_Machine_hasState 9 rfl) rfl (by omega) id ?_
      first | (rw [if_pos (by omega)] at hk; exact hk) | (rw [if_neg (by omega)] at hk; exact hk)
    · refine aj_iconst 13 (dx d_Machine_hasState 6 rfl) rfl ?_
      refine aj_goto 17 (dx d_Machine_hasState 7 rfl) rfl ?_
      refine aj_zret (dx d_Machine_hasState 9 rfl) rfl (by omega) id ?_
      first | (rw [if_pos (by omega)] at hk; exact hk) | (rw [if_neg (by omega)] at hk; exact hk)

set_option maxHeartbeats 4000000 in
theorem k_Machine_hasOutput {al : Prop} {X : Option (Nat × (Int → Int))} {d : Nat} {sh : List aj_S} {g : aj_G} {Q : aj_R → List aj_S → aj_G → Prop} {r s : Int}
    (hx : aj_I s) (hk : Q (.inl (some (0, if 0 ≤ s ∧ s < 4 then 1 else 0))) sh g) : aj_wp nE al al X m_Machine_hasOutput (d) 0 0 0 [some (1, r), some (0, s)] [] sh g Q := by
  refine aj_iload_n 1 1 (dx d_Machine_hasOutput 0 rfl) rfl rfl rfl ?_
  refine aj_if_lt 13 4 (dx d_Machine_hasOutput 1 rfl) rfl rfl hx (fun h1 => ?_) (fun h1 => ?_)
  · refine aj_iconst 14 (dx d_Machine_hasOutput 7 rfl) rfl ?_
    refine aj_zret (dx d_Machine_hasOutput 8 rfl) rfl (by omega) id ?_
    first | (rw [if_pos (by omega)] at hk; exact hk) | (rw [if_neg (by omega)] at hk; exact hk)
  · refine aj_iload_n 1 5 (dx d_Machine_hasOutput 2 rfl) rfl rfl rfl ?_
    refine aj_iconst 6 (dx d_Machine_hasOutput 3 rfl) rfl ?_
    refine aj_icmp_ge 13 9 (dx d_Machine_hasOutput 4 rfl) rfl rfl hx (by unfold aj_I; omega) (fun h6 => ?_) (fun h6 => ?_)
    · refine aj_iconst 14 (dx d_Machine_hasOutput 7 rfl) rfl ?_
      refine aj_zret (dx d_Machine_hasOutput 8 rfl) rfl (by omega) id ?_
      first | (rw [if_pos (by omega)] at hk; exact hk) | (rw [if_neg (by omega)] at hk; exact hk)
    · refine aj_iconst 10 (dx d_Machine_hasOutput 5 rfl) rfl ?_
      refine aj_goto 14 (dx d_Machine_hasOutput 6 rfl) rfl ?_
      refine aj_zret (dx d_Machine_hasOutput 8 rfl) rfl (by omega) id ?_
      first | (rw [if_pos (by omega)] at hk; exact hk) | (rw [if_neg (by omega)] at hk; exact hk)

set_option maxHeartbeats 4000000 in
theorem k_Machine_set {al : Prop} {X : Option (Nat × (Int → Int))} {d : Nat} {sh : List aj_S} {g : aj_G} {Q : aj_R → List aj_S → aj_G → Prop} {r s i nx ou : Int} {L : Nat}
    (hm : mcs sh g r L) (h0 : 0 ≤ s * g r 0 + i) (h1 : s * g r 0 + i < L) (hk : Q (.inl none) sh (aj_up (aj_up g (r + 1) (s * g r 0 + i) nx) (r + 2) (s * g r 0 + i) ou)) : aj_wp nE al al X m_Machine_set (d) 0 0 0 [some (1, r), some (0, s), some (0, i), some (0, nx), some (0, ou)] [] sh g Q := by
  refine aj_aload_n 0 1 (dx d_Machine_set 0 rfl) rfl rfl rfl ?_
  refine aj_getf 4 fl_Machine_15 (dx d_Machine_set 1 rfl) rfl hm.1 ?_
  rw [hm.2.1]
  refine aj_iload_n 1 5 (dx d_Machine_set 2 rfl) rfl rfl rfl ?_
  refine aj_aload_n 0 6 (dx d_Machine_set 3 rfl) rfl rfl rfl ?_
  refine aj_getf 9 fl_Machine_9 (dx d_Machine_set 4 rfl) rfl hm.1 ?_
  refine aj_imul 10 (dx d_Machine_set 5 rfl) rfl ?_
  refine aj_iload_n 2 11 (dx d_Machine_set 6 rfl) rfl rfl rfl ?_
  refine aj_iadd 12 (dx d_Machine_set 7 rfl) rfl ?_
  refine aj_iload_n 3 13 (dx d_Machine_set 8 rfl) rfl rfl rfl ?_
  refine aj_iast 14 (dx d_Machine_set 9 rfl) rfl hm.2.2.2.1 rfl h0 h1 ?_
  refine aj_aload_n 0 15 (dx d_Machine_set 10 rfl) rfl rfl rfl ?_
  refine aj_getf 18 fl_Machine_19 (dx d_Machine_set 11 rfl) rfl hm.1 ?_
  rw [aj_up_ne g _ _ (show r ≠ r + 1 by omega)]
  rw [hm.2.2.1]
  refine aj_iload_n 1 19 (dx d_Machine_set 12 rfl) rfl rfl rfl ?_
  refine aj_aload_n 0 20 (dx d_Machine_set 13 rfl) rfl rfl rfl ?_
  refine aj_getf 23 fl_Machine_9 (dx d_Machine_set 14 rfl) rfl hm.1 ?_
  rw [aj_up_ne g _ _ (show r ≠ r + 1 by omega)]
  refine aj_imul 24 (dx d_Machine_set 15 rfl) rfl ?_
  refine aj_iload_n 2 25 (dx d_Machine_set 16 rfl) rfl rfl rfl ?_
  refine aj_iadd 26 (dx d_Machine_set 17 rfl) rfl ?_
  refine aj_iload 4 28 (dx d_Machine_set 18 rfl) rfl rfl ?_
  refine aj_iast 29 (dx d_Machine_set 19 rfl) rfl hm.2.2.2.2 rfl h0 h1 ?_
  refine aj_vret (dx d_Machine_set 20 rfl) rfl id ?_
  exact hk

set_option maxHeartbeats 4000000 in
theorem k_Machine_next {al : Prop} {X : Option (Nat × (Int → Int))} {d : Nat} {sh : List aj_S} {g : aj_G} {Q : aj_R → List aj_S → aj_G → Prop} {r s i : Int} {L : Nat}
    (hm : mcs sh g r L) (h0 : 0 ≤ s * g r 0 + i) (h1 : s * g r 0 + i < L) (hk : Q (.inl (some (0, g (r + 1) (s * g r 0 + i)))) sh g) : aj_wp nE al al X m_Machine_next (d) 0 0 0 [some (1, r), some (0, s), some (0, i)] [] sh g Q := by
  refine aj_aload_n 0 1 (dx d_Machine_next 0 rfl) rfl rfl rfl ?_
  refine aj_getf 4 fl_Machine_15 (dx d_Machine_next 1 rfl) rfl hm.1 ?_
  rw [hm.2.1]
  refine aj_iload_n 1 5 (dx d_Machine_next 2 rfl) rfl rfl rfl ?_
  refine aj_aload_n 0 6 (dx d_Machine_next 3 rfl) rfl rfl rfl ?_
  refine aj_getf 9 fl_Machine_9 (dx d_Machine_next 4 rfl) rfl hm.1 ?_
  refine aj_imul 10 (dx d_Machine_next 5 rfl) rfl ?_
  refine aj_iload_n 2 11 (dx d_Machine_next 6 rfl) rfl rfl rfl ?_
  refine aj_iadd 12 (dx d_Machine_next 7 rfl) rfl ?_
  refine aj_iald 13 (dx d_Machine_next 8 rfl) rfl hm.2.2.2.1 rfl h0 h1 ?_
  refine aj_iret (dx d_Machine_next 9 rfl) rfl id ?_
  exact hk

set_option maxHeartbeats 4000000 in
theorem k_Machine_output {al : Prop} {X : Option (Nat × (Int → Int))} {d : Nat} {sh : List aj_S} {g : aj_G} {Q : aj_R → List aj_S → aj_G → Prop} {r s i : Int} {L : Nat}
    (hm : mcs sh g r L) (h0 : 0 ≤ s * g r 0 + i) (h1 : s * g r 0 + i < L) (hk : Q (.inl (some (0, g (r + 2) (s * g r 0 + i)))) sh g) : aj_wp nE al al X m_Machine_output (d) 0 0 0 [some (1, r), some (0, s), some (0, i)] [] sh g Q := by
  refine aj_aload_n 0 1 (dx d_Machine_output 0 rfl) rfl rfl rfl ?_
  refine aj_getf 4 fl_Machine_19 (dx d_Machine_output 1 rfl) rfl hm.1 ?_
  rw [hm.2.2.1]
  refine aj_iload_n 1 5 (dx d_Machine_output 2 rfl) rfl rfl rfl ?_
  refine aj_aload_n 0 6 (dx d_Machine_output 3 rfl) rfl rfl rfl ?_
  refine aj_getf 9 fl_Machine_9 (dx d_Machine_output 4 rfl) rfl hm.1 ?_
  refine aj_imul 10 (dx d_Machine_output 5 rfl) rfl ?_
  refine aj_iload_n 2 11 (dx d_Machine_output 6 rfl) rfl rfl rfl ?_
  refine aj_iadd 12 (dx d_Machine_output 7 rfl) rfl ?_
  refine aj_iald 13 (dx d_Machine_output 8 rfl) rfl hm.2.2.2.2 rfl h0 h1 ?_
  refine aj_iret (dx d_Machine_output 9 rfl) rfl id ?_
  exact hk

set_option maxHeartbeats 4000000 in
theorem k_Machine_allows {al : Prop} {X : Option (Nat × (Int → Int))} {d : Nat} {sh : List aj_S} {g : aj_G} {Q : aj_R → List aj_S → aj_G → Prop} {r s i t u : Int}
    (hs : aj_sh sh r = some (.inr 0)) (x1 : aj_I s) (x2 : aj_I i) (x3 : aj_I t) (x4 : aj_I u) (hn : aj_I (g r 3)) (hi : aj_I (g r 0)) (hk : Q (.inl (some (0, if (0 ≤ s ∧ s < g r 3) ∧ (0 ≤ t ∧ t < g r 3) ∧ (0 ≤ i ∧ i < g r 0) ∧ (0 ≤ u ∧ u < 4) then 1 else 0))) sh g) : aj_wp nE al al X m_Machine_allows (d + 1) 0 0 0 [some (1, r), some (0, s), some (0, i), some (0, t), some (0, u)] [] sh g Q := by
  refine aj_aload_n 0 1 (dx d_Machine_allows 0 rfl) rfl rfl rfl ?_
  refine aj_iload_n 1 2 (dx d_Machine_allows 1 rfl) rfl rfl rfl ?_
  refine aj_callV1 5 cl_Machine_29 (dx d_Machine_allows 2 rfl) rfl rfl rfl rfl rfl rfl (by assumption) (k_Machine_hasState hs x1 hn ?_)
  change aj_wp _ _ _ _ _ _ _ _ _ _ _ _ _ _
  refine aj_if_eq 41 8 (dx d_Machine_allows 3 rfl) rfl rfl (by split <;> (unfold aj_I; omega)) (fun h5 => ?_) (fun h5 => ?_)
  · refine aj_iconst 42 (dx d_Machine_allows 20 rfl) rfl ?_
    refine aj_zret (dx d_Machine_allows 21 rfl) rfl (by omega) id ?_
    first | (rw [if_pos (by omega)] at hk; exact hk) | (rw [if_neg (by omega)] at hk; exact hk)
  · refine aj_aload_n 0 9 (dx d_Machine_allows 4 rfl) rfl rfl rfl ?_
    refine aj_iload_n 3 10 (dx d_Machine_allows 5 rfl) rfl rfl rfl ?_
    refine aj_callV1 13 cl_Machine_29 (dx d_Machine_allows 6 rfl) rfl rfl rfl rfl rfl rfl (by assumption) (k_Machine_hasState hs x3 hn ?_)
    change aj_wp _ _ _ _ _ _ _ _ _ _ _ _ _ _
    refine aj_if_eq 41 16 (dx d_Machine_allows 7 rfl) rfl rfl (by split <;> (unfold aj_I; omega)) (fun h13 => ?_) (fun h13 => ?_)
    · refine aj_iconst 42 (dx d_Machine_allows 20 rfl) rfl ?_
      refine aj_zret (dx d_Machine_allows 21 rfl) rfl (by omega) id ?_
      first | (rw [if_pos (by omega)] at hk; exact hk) | (rw [if_neg (by omega)] at hk; exact hk)
    · refine aj_iload_n 2 17 (dx d_Machine_allows 8 rfl) rfl rfl rfl ?_
      refine aj_if_lt 41 20 (dx d_Machine_allows 9 rfl) rfl rfl x2 (fun h17 => ?_) (fun h17 => ?_)
      · refine aj_iconst 42 (dx d_Machine_allows 20 rfl) rfl ?_
        refine aj_zret (dx d_Machine_allows 21 rfl) rfl (by omega) id ?_
        first | (rw [if_pos (by omega)] at hk; exact hk) | (rw [if_neg (by omega)] at hk; exact hk)
      · refine aj_iload_n 2 21 (dx d_Machine_allows 10 rfl) rfl rfl rfl ?_
        refine aj_aload_n 0 22 (dx d_Machine_allows 11 rfl) rfl rfl rfl ?_
        refine aj_getf 25 fl_Machine_9 (dx d_Machine_allows 12 rfl) rfl (by assumption) ?_
        refine aj_icmp_ge 41 28 (dx d_Machine_allows 13 rfl) rfl rfl x2 hi (fun h25 => ?_) (fun h25 => ?_)
        · refine aj_iconst 42 (dx d_Machine_allows 20 rfl) rfl ?_
          refine aj_zret (dx d_Machine_allows 21 rfl) rfl (by omega) id ?_
          first | (rw [if_pos (by omega)] at hk; exact hk) | (rw [if_neg (by omega)] at hk; exact hk)
        · refine aj_aload_n 0 29 (dx d_Machine_allows 14 rfl) rfl rfl rfl ?_
          refine aj_iload 4 31 (dx d_Machine_allows 15 rfl) rfl rfl ?_
          refine aj_callV1 34 cl_Machine_33 (dx d_Machine_allows 16 rfl) rfl rfl rfl rfl rfl rfl (by assumption) (k_Machine_hasOutput x4 ?_)
          change aj_wp _ _ _ _ _ _ _ _ _ _ _ _ _ _
          refine aj_if_eq 41 37 (dx d_Machine_allows 17 rfl) rfl rfl (by split <;> (unfold aj_I; omega)) (fun h34 => ?_) (fun h34 => ?_)
          · refine aj_iconst 42 (dx d_Machine_allows 20 rfl) rfl ?_
            refine aj_zret (dx d_Machine_allows 21 rfl) rfl (by omega) id ?_
            first | (rw [if_pos (by omega)] at hk; exact hk) | (rw [if_neg (by omega)] at hk; exact hk)
          · refine aj_iconst 38 (dx d_Machine_allows 18 rfl) rfl ?_
            refine aj_goto 42 (dx d_Machine_allows 19 rfl) rfl ?_
            refine aj_zret (dx d_Machine_allows 21 rfl) rfl (by omega) id ?_
            first | (rw [if_pos (by omega)] at hk; exact hk) | (rw [if_neg (by omega)] at hk; exact hk)

