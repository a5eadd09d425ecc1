/-! reading behind writing; Word, Machine.copy, Machine.tellsApart -/
theorem aj_up_app (g : aj_G) (r i x r' : Int) : aj_up g r i x r' = if r' = r then (fun i' => if i' = i then x else g r i') else g r' := rfl
theorem aj_cpy_app (g : aj_G) (r0 r1 sp dp n r : Int) : aj_cpy g r0 r1 sp dp n r = if r = r1 then (fun i => if dp ≤ i ∧ i < dp + n then g r0 (sp + (i - dp)) else g r1 i) else g r := rfl
theorem ne_1 (r a b : Int) : (r + a = r + b) = (a = b) := propext (by omega)
theorem ne_2 (r b : Int) : (r = r + b) = (0 = b) := propext (by omega)
theorem ne_3 (r a : Int) : (r + a = r) = (a = 0) := propext (by omega)
def wds (sh : List aj_S) (g : aj_G) (r : Int) : Prop := aj_sh sh r = some (.inr 1) ∧ g r 0 = r + 1 ∧ aj_sh sh (r + 1) = some (.inl (0, 100))
theorem cp_Word_19 : Cond.methodLink "TestBench$Word" 19 arraycopyName ∈ nE.2.2.2.1 ∧ Cond.native arraycopyName ∈ nE.2.2.2.1 ∧ Cond.static arraycopyName ∈ nE.2.2.2.1 ∧ Cond.initialized "java/lang/System" ∈ nE.2.2.2.1 := ⟨nm_at 600 (by decide +kernel) rfl, nm_at 602 (by decide +kernel) rfl, nm_at 601 (by decide +kernel) rfl, nm_at 56 (by decide +kernel) rfl⟩
theorem cp_Machine_36 : Cond.methodLink "TestBench$Machine" 36 arraycopyName ∈ nE.2.2.2.1 ∧ Cond.native arraycopyName ∈ nE.2.2.2.1 ∧ Cond.static arraycopyName ∈ nE.2.2.2.1 ∧ Cond.initialized "java/lang/System" ∈ nE.2.2.2.1 := ⟨nm_at 615 (by decide +kernel) rfl, nm_at 602 (by decide +kernel) rfl, nm_at 601 (by decide +kernel) rfl, nm_at 56 (by decide +kernel) rfl⟩
set_option maxHeartbeats 4000000 in
theorem k_Word_at {al : Prop} {X : Option (Nat × (Int → Int))} {d : Nat} {sh : List aj_S} {g : aj_G} {Q : aj_R → List aj_S → aj_G → Prop} {r i : Int}
    (hw : wds sh g r) (hx : aj_I i) (hl0 : 0 ≤ g r 1) (hl1 : g r 1 ≤ 100) (hk : Q (.inl (some (0, if 0 ≤ i ∧ i < g r 1 then g (r + 1) i else -1))) sh g) : aj_wp nE al al X m_Word_at (d) 0 0 0 [some (1, r), some (0, i)] [] sh g Q := by
  refine aj_iload_n 1 1 (dx d_Word_at 0 rfl) rfl rfl rfl ?_
  refine aj_if_lt 21 4 (dx d_Word_at 1 rfl) rfl rfl hx (fun h1 => ?_) (fun h1 => ?_)
  · refine aj_iconst 22 (dx d_Word_at 11 rfl) rfl ?_
    refine aj_iret (dx d_Word_at 12 rfl) rfl id ?_
    first | (rw [if_pos (by omega)] at hk; exact hk) | (rw [if_neg (by omega)] at hk; exact hk)
  · refine aj_iload_n 1 5 (dx d_Word_at 2 rfl) rfl rfl rfl ?_
    refine aj_aload_n 0 6 (dx d_Word_at 3 rfl) rfl rfl rfl ?_
    refine aj_getf 9 fl_Word_15 (dx d_Word_at 4 rfl) rfl hw.1 ?_
    refine aj_icmp_ge 21 12 (dx d_Word_at 5 rfl) rfl rfl hx (by unfold aj_I; omega) (fun h9 => ?_) (fun h9 => ?_)
    · refine aj_iconst 22 (dx d_Word_at 11 rfl) rfl ?_
      refine aj_iret (dx d_Word_at 12 rfl) rfl id ?_
      first | (rw [if_pos (by omega)] at hk; exact hk) | (rw [if_neg (by omega)] at hk; exact hk)
    · refine aj_aload_n 0 13 (dx d_Word_at 6 rfl) rfl rfl rfl ?_
      refine aj_getf 16 fl_Word_9 (dx d_Word_at 7 rfl) rfl hw.1 ?_
      rw [hw.2.1]
      refine aj_iload_n 1 17 (dx d_Word_at 8 rfl) rfl rfl rfl ?_
      refine aj_iald 18 (dx d_Word_at 9 rfl) rfl hw.2.2 rfl (by omega) (by omega) ?_
      refine aj_goto 22 (dx d_Word_at 10 rfl) rfl ?_
      refine aj_iret (dx d_Word_at 12 rfl) rfl id ?_
      first | (rw [if_pos (by omega)] at hk; exact hk) | (rw [if_neg (by omega)] at hk; exact hk)

set_option maxHeartbeats 4000000 in
theorem k_Word_copy {al : Prop} {X : Option (Nat × (Int → Int))} {d : Nat} {sh : List aj_S} {g : aj_G} {Q : aj_R → List aj_S → aj_G → Prop} {r r2 : Int}
    (hal : ¬ al) (hw : wds sh g r) (hw2 : wds sh g r2) (hne : r2 ≠ r) (hl0 : 0 ≤ g r2 1) (hl1 : g r2 1 ≤ 100) (hk : Q (.inl none) sh (aj_cpy (aj_up g r 1 (g r2 1)) (r2 + 1) (r + 1) 0 0 (g r2 1))) : aj_wp nE al al X m_Word_copy (d + 1) 0 0 0 [some (1, r), some (1, r2)] [] sh g Q := by
  refine aj_aload_n 0 1 (dx d_Word_copy 0 rfl) rfl rfl rfl ?_
  refine aj_aload_n 1 2 (dx d_Word_copy 1 rfl) rfl rfl rfl ?_
  refine aj_getf 5 fl_Word_15 (dx d_Word_copy 2 rfl) rfl hw2.1 ?_
  refine aj_putf 8 (pl_Word_15 _) (dx d_Word_copy 3 rfl) rfl hw.1 (aj_fitI _) ?_
  refine aj_aload_n 1 9 (dx d_Word_copy 4 rfl) rfl rfl rfl ?_
  refine aj_getf 12 fl_Word_9 (dx d_Word_copy 5 rfl) rfl hw2.1 ?_
  rw [aj_up_ne _ _ _ hne, hw2.2.1]
  refine aj_iconst 13 (dx d_Word_copy 6 rfl) rfl ?_
  refine aj_aload_n 0 14 (dx d_Word_copy 7 rfl) rfl rfl rfl ?_
  refine aj_getf 17 fl_Word_9 (dx d_Word_copy 8 rfl) rfl hw.1 ?_
  rw [aj_up_ni _ _ _ (show (0 : Int) ≠ 1 by omega), hw.2.1]
  refine aj_iconst 18 (dx d_Word_copy 9 rfl) rfl ?_
  refine aj_aload_n 0 19 (dx d_Word_copy 10 rfl) rfl rfl rfl ?_
  refine aj_getf 22 fl_Word_15 (dx d_Word_copy 11 rfl) rfl hw.1 ?_
  rw [aj_up_self]
  refine aj_copyi 25 cp_Word_19 (dx d_Word_copy 12 rfl) rfl hal hw2.2.2 hw.2.2 rfl (by omega) (by omega) hl0 (by omega) (by omega) (by omega) rfl ?_
  refine aj_vret (dx d_Word_copy 13 rfl) rfl id ?_
  exact hk

set_option maxHeartbeats 4000000 in
theorem k_Machine_copy {al : Prop} {X : Option (Nat × (Int → Int))} {d : Nat} {sh : List aj_S} {g : aj_G} {Q : aj_R → List aj_S → aj_G → Prop} {r r2 : Int} {L L2 : Nat}
    (hal : ¬ al) (hm : mcs sh g r L) (hm2 : mcs sh g r2 L2) (hne : r2 ≠ r) (ha1 : r2 ≠ r + 1) (ha2 : r ≠ r2 + 1) (h0 : 0 ≤ g r2 3 * g r 0) (h1 : g r2 3 * g r 0 ≤ L) (h2 : g r2 3 * g r 0 ≤ L2) (hk : Q (.inl none) sh (aj_cpy (aj_cpy (aj_up g r 3 (g r2 3)) (r2 + 1) (r + 1) 0 0 (g r2 3 * g r 0)) (r2 + 2) (r + 2) 0 0 (g r2 3 * g r 0))) : aj_wp nE al al X m_Machine_copy (d + 1) 0 0 0 [some (1, r), some (1, r2)] [] sh g Q := by
  refine aj_aload_n 0 1 (dx d_Machine_copy 0 rfl) rfl rfl rfl ?_
  refine aj_aload_n 1 2 (dx d_Machine_copy 1 rfl) rfl rfl rfl ?_
  refine aj_getf 5 fl_Machine_22 (dx d_Machine_copy 2 rfl) rfl hm2.1 ?_
  refine aj_putf 8 (pl_Machine_22 _) (dx d_Machine_copy 3 rfl) rfl hm.1 (aj_fitI _) ?_
  refine aj_aload_n 1 9 (dx d_Machine_copy 4 rfl) rfl rfl rfl ?_
  refine aj_getf 12 fl_Machine_15 (dx d_Machine_copy 5 rfl) rfl hm2.1 ?_
  rw [aj_up_ne _ _ _ hne, hm2.2.1]
  refine aj_iconst 13 (dx d_Machine_copy 6 rfl) rfl ?_
  refine aj_aload_n 0 14 (dx d_Machine_copy 7 rfl) rfl rfl rfl ?_
  refine aj_getf 17 fl_Machine_15 (dx d_Machine_copy 8 rfl) rfl hm.1 ?_
  rw [aj_up_ni _ _ _ (show (1 : Int) ≠ 3 by omega), hm.2.1]
  refine aj_iconst 18 (dx d_Machine_copy 9 rfl) rfl ?_
  refine aj_aload_n 0 19 (dx d_Machine_copy 10 rfl) rfl rfl rfl ?_
  refine aj_getf 22 fl_Machine_22 (dx d_Machine_copy 11 rfl) rfl hm.1 ?_
  rw [aj_up_self]
  refine aj_aload_n 0 23 (dx d_Machine_copy 12 rfl) rfl rfl rfl ?_
  refine aj_getf 26 fl_Machine_9 (dx d_Machine_copy 13 rfl) rfl hm.1 ?_
  rw [aj_up_ni _ _ _ (show (0 : Int) ≠ 3 by omega)]
  refine aj_imul 27 (dx d_Machine_copy 14 rfl) rfl ?_
  refine aj_copyi 30 cp_Machine_36 (dx d_Machine_copy 15 rfl) rfl hal hm2.2.2.2.1 hm.2.2.2.1 rfl (by omega) (by omega) h0 (by omega) (by omega) (by omega) rfl ?_
  refine aj_aload_n 1 31 (dx d_Machine_copy 16 rfl) rfl rfl rfl ?_
  refine aj_getf 34 fl_Machine_19 (dx d_Machine_copy 17 rfl) rfl hm2.1 ?_
  rw [aj_cpy_ne _ _ _ _ _ ha1, aj_up_ne _ _ _ hne, hm2.2.2.1]
  refine aj_iconst 35 (dx d_Machine_copy 18 rfl) rfl ?_
  refine aj_aload_n 0 36 (dx d_Machine_copy 19 rfl) rfl rfl rfl ?_
  refine aj_getf 39 fl_Machine_19 (dx d_Machine_copy 20 rfl) rfl hm.1 ?_
  rw [aj_cpy_ne _ _ _ _ _ (show r ≠ r + 1 by omega), aj_up_ni _ _ _ (show (2 : Int) ≠ 3 by omega), hm.2.2.1]
  refine aj_iconst 40 (dx d_Machine_copy 21 rfl) rfl ?_
  refine aj_aload_n 0 41 (dx d_Machine_copy 22 rfl) rfl rfl rfl ?_
  refine aj_getf 44 fl_Machine_22 (dx d_Machine_copy 23 rfl) rfl hm.1 ?_
  rw [aj_cpy_ne _ _ _ _ _ (show r ≠ r + 1 by omega), aj_up_self]
  refine aj_aload_n 0 45 (dx d_Machine_copy 24 rfl) rfl rfl rfl ?_
  refine aj_getf 48 fl_Machine_9 (dx d_Machine_copy 25 rfl) rfl hm.1 ?_
  rw [aj_cpy_ne _ _ _ _ _ (show r ≠ r + 1 by omega), aj_up_ni _ _ _ (show (0 : Int) ≠ 3 by omega)]
  refine aj_imul 49 (dx d_Machine_copy 26 rfl) rfl ?_
  refine aj_copyi 52 cp_Machine_36 (dx d_Machine_copy 27 rfl) rfl hal hm2.2.2.2.2 hm.2.2.2.2 rfl (by omega) (by omega) h0 (by omega) (by omega) (by omega) rfl ?_
  refine aj_vret (dx d_Machine_copy 28 rfl) rfl id ?_
  exact hk

/-- a Machine with its tables -/
def mcm (sh : List aj_S) (g : aj_G) (r : Int) (L k n : Nat) (nx ou : Nat → Nat → Nat) : Prop := mcs sh g r L ∧ g r 0 = k ∧ g r 3 = n ∧ (n : Int) * k ≤ L ∧ ((k : Int) = 1 ∨ (k : Int) = 2 ∨ (k : Int) = 3) ∧ n ≤ 10 ∧
  ∀ x i : Nat, x < n → i < k → g (r + 1) ((x : Int) * k + i) = nx x i ∧ g (r + 2) ((x : Int) * k + i) = ou x i ∧ nx x i < n ∧ ou x i < 4
section SM
variable {al : Prop} {X : Option (Nat × (Int → Int))} {d : Nat} {sh : List aj_S} {g : aj_G} {Q : aj_R → List aj_S → aj_G → Prop} {r : Int} {L k n x i : Nat} {nx ou : Nat → Nat → Nat}
theorem mcm_lo (hm : mcm sh g r L k n nx ou) : 0 ≤ (x : Int) * g r 0 + i := by
  rw [hm.2.1]
  exact ix_0 hm.2.2.2.2.1 (by omega) (by omega)
theorem mcm_hi (hm : mcm sh g r L k n nx ou) (hx : x < n) (hi : i < k) : (x : Int) * g r 0 + i < L := by
  rw [hm.2.1]
  have h1 := ix_in (s := x) (i := i) (n := n) hm.2.2.2.2.1 (by omega) (by omega)
  have h2 := hm.2.2.2.1
  omega
theorem s_next (hm : mcm sh g r L k n nx ou) (hx : x < n) (hi : i < k) (hk : Q (.inl (some (0, (nx x i : Int)))) sh g) : aj_wp nE al al X m_Machine_next d 0 0 0 [some (1, r), some (0, (x : Int)), some (0, (i : Int))] [] sh g Q :=
  k_Machine_next hm.1 (mcm_lo hm) (mcm_hi hm hx hi) (by rw [hm.2.1, (hm.2.2.2.2.2.2 x i hx hi).1]; exact hk)
theorem s_output (hm : mcm sh g r L k n nx ou) (hx : x < n) (hi : i < k) (hk : Q (.inl (some (0, (ou x i : Int)))) sh g) : aj_wp nE al al X m_Machine_output d 0 0 0 [some (1, r), some (0, (x : Int)), some (0, (i : Int))] [] sh g Q :=
  k_Machine_output hm.1 (mcm_lo hm) (mcm_hi hm hx hi) (by rw [hm.2.1, (hm.2.2.2.2.2.2 x i hx hi).2.1]; exact hk)
end SM
/-- a Word at r holds the letters of w (its last letter first) -/
def wat (g : aj_G) (r : Int) (w : List Nat) : Prop := g r 1 = w.length ∧ ∀ (j : Nat) (h : j < w.length), g (r + 1) ((w.length : Int) - 1 - j) = (w[j] : Nat)
theorem rn_lt {nx : Nat → Nat → Nat} {n k : Nat} (hc : ∀ s i, s < n → i < k → nx s i < n) {s : Nat} (hs : s < n) : ∀ w, wd_ok k w → rn nx s w < n
  | [], _ => hs
  | i :: w, hw => hc _ _ (rn_lt hc hs w (wd_ok_cons.mp hw).2) (wd_ok_cons.mp hw).1
theorem tl_drop {nx ou : Nat → Nat → Nat} {s t : Nat} : ∀ {w : List Nat} {j : Nat}, tl nx ou s t (w.drop j) → tl nx ou s t w
  | [], j, h => by rw [List.drop_nil] at h; exact h
  | i :: w, 0, h => h
  | i :: w, j + 1, h => Or.inl (tl_drop (w := w) (j := j) h)
set_option maxHeartbeats 4000000 in
theorem k_tells_loop {al : Prop} {X : Option (Nat × (Int → Int))} {d : Nat} {sh : List aj_S} {g : aj_G} {Q : aj_R → List aj_S → aj_G → Prop} {r rw_ : Int} {L k n s t : Nat} {nx ou : Nat → Nat → Nat} {w : List Nat} (hm : mcm sh g r L k n nx ou) (hw : wds sh g rw_) (ha : wat g rw_ w) (hok : wd_ok k w) (hlen : w.length ≤ 100) (hs : s < n) (ht : t < n) (hk1 : tl nx ou s t w → Q (.inl (some (0, 1))) sh g) (hk0 : ¬ tl nx ou s t w → Q (.inl (some (0, 0))) sh g) : ∀ (m i a b : Nat), i ≤ w.length → w.length - i = m → a < n → b < n → a = rn nx s (w.drop (w.length - i)) → b = rn nx t (w.drop (w.length - i)) → ¬ tl nx ou s t (w.drop (w.length - i)) →
    aj_wp nE al al X m_Machine_tellsApart (d + 1) 0 0 9 [some (1, r), some (1, rw_), some (0, (s : Int)), some (0, (t : Int)), some (0, (a : Int)), some (0, (b : Int)), some (0, (i : Int)), none] [] sh g Q := by
  intro m
  induction m using Nat.strongRecOn with
  | ind m ih =>
    intro i a b hi hmm ha2 hb2 hd1 hd2 hnt
    refine aj_iload 6 11 (dx d_Machine_tellsApart 6 rfl) rfl rfl ?_
    refine aj_aload_n 1 12 (dx d_Machine_tellsApart 7 rfl) rfl rfl rfl ?_
    refine aj_getf 15 fl_Machine_53 (dx d_Machine_tellsApart 8 rfl) rfl hw.1 ?_
    refine aj_icmp_ge 74 18 (dx d_Machine_tellsApart 9 rfl) rfl rfl (by unfold aj_I; omega) (by rw [ha.1]; unfold aj_I; omega) (fun h15 => ?_) (fun h15 => ?_)
    · refine aj_iconst 75 (dx d_Machine_tellsApart 38 rfl) rfl ?_
      refine aj_zret (dx d_Machine_tellsApart 39 rfl) rfl (by omega) id ?_
      rw [ha.1] at h15
      rw [show w.length - i = 0 by omega] at hnt
      exact hk0 hnt
    · rw [ha.1] at h15
      obtain ⟨j, hj⟩ : ∃ j : Nat, w.length = i + 1 + j := ⟨w.length - (i + 1), by omega⟩
      have hjl : j < w.length := by omega
      have hlet : g (rw_ + 1) ((i : Nat) : Int) = (w[j] : Nat) := by
        have := ha.2 j hjl
        rw [show (w.length : Int) - 1 - j = i by omega] at this
        exact this
      have hlk : w[j] < k := hok _ (List.getElem_mem hjl)
      have hdr : w.drop j = w[j] :: w.drop (j + 1) := List.drop_eq_getElem_cons hjl
      have he : w.length - i = j + 1 := by omega
      rw [he] at hd1 hd2 hnt
      have hok2 : wd_ok k (w.drop (j + 1)) := fun a ha => hok a (List.mem_of_mem_drop ha)
      have hc : ∀ s i, s < n → i < k → nx s i < n := fun s i h1 h2 => (hm.2.2.2.2.2.2 s i h1 h2).2.2.1
      have ho1 := (hm.2.2.2.2.2.2 a w[j] ha2 hlk).2.2.2
      have ho2 := (hm.2.2.2.2.2.2 b w[j] hb2 hlk).2.2.2
      have hn10 := hm.2.2.2.2.2.1
      refine aj_aload_n 1 19 (dx d_Machine_tellsApart 10 rfl) rfl rfl rfl ?_
      refine aj_getf 22 fl_Machine_58 (dx d_Machine_tellsApart 11 rfl) rfl hw.1 ?_
      rw [hw.2.1]
      refine aj_iload 6 24 (dx d_Machine_tellsApart 12 rfl) rfl rfl ?_
      refine aj_iald 25 (dx d_Machine_tellsApart 13 rfl) rfl hw.2.2 rfl (by omega) (by omega) ?_
      rw [hlet]
      refine aj_istore 7 27 (dx d_Machine_tellsApart 14 rfl) rfl rfl ?_
      simp only [List.set]
      refine aj_aload_n 0 28 (dx d_Machine_tellsApart 15 rfl) rfl rfl rfl ?_
      refine aj_iload 4 30 (dx d_Machine_tellsApart 16 rfl) rfl rfl ?_
      refine aj_iload 7 32 (dx d_Machine_tellsApart 17 rfl) rfl rfl ?_
      refine aj_callV2 35 cl_Machine_50 (dx d_Machine_tellsApart 18 rfl) rfl rfl rfl rfl rfl rfl hm.1.1 (s_output hm ha2 hlk ?_)
      change aj_wp _ _ _ _ _ _ _ _ _ _ _ _ _ _
      refine aj_aload_n 0 36 (dx d_Machine_tellsApart 19 rfl) rfl rfl rfl ?_
      refine aj_iload 5 38 (dx d_Machine_tellsApart 20 rfl) rfl rfl ?_
      refine aj_iload 7 40 (dx d_Machine_tellsApart 21 rfl) rfl rfl ?_
      refine aj_callV2 43 cl_Machine_50 (dx d_Machine_tellsApart 22 rfl) rfl rfl rfl rfl rfl rfl hm.1.1 (s_output hm hb2 hlk ?_)
      change aj_wp _ _ _ _ _ _ _ _ _ _ _ _ _ _
      refine aj_icmp_eq 48 46 (dx d_Machine_tellsApart 23 rfl) rfl rfl (by unfold aj_I; omega) (by unfold aj_I; omega) (fun h43 => ?_) (fun h43 => ?_)
      · refine aj_aload_n 0 49 (dx d_Machine_tellsApart 26 rfl) rfl rfl rfl ?_
        refine aj_iload 4 51 (dx d_Machine_tellsApart 27 rfl) rfl rfl ?_
        refine aj_iload 7 53 (dx d_Machine_tellsApart 28 rfl) rfl rfl ?_
        refine aj_callV2 56 cl_Machine_46 (dx d_Machine_tellsApart 29 rfl) rfl rfl rfl rfl rfl rfl hm.1.1 (s_next hm ha2 hlk ?_)
        change aj_wp _ _ _ _ _ _ _ _ _ _ _ _ _ _
        refine aj_istore 4 58 (dx d_Machine_tellsApart 30 rfl) rfl rfl ?_
        simp only [List.set]
        refine aj_aload_n 0 59 (dx d_Machine_tellsApart 31 rfl) rfl rfl rfl ?_
        refine aj_iload 5 61 (dx d_Machine_tellsApart 32 rfl) rfl rfl ?_
        refine aj_iload 7 63 (dx d_Machine_tellsApart 33 rfl) rfl rfl ?_
        refine aj_callV2 66 cl_Machine_46 (dx d_Machine_tellsApart 34 rfl) rfl rfl rfl rfl rfl rfl hm.1.1 (s_next hm hb2 hlk ?_)
        change aj_wp _ _ _ _ _ _ _ _ _ _ _ _ _ _
        refine aj_istore 5 68 (dx d_Machine_tellsApart 35 rfl) rfl rfl ?_
        simp only [List.set]
        refine aj_iinc 6 71 (dx d_Machine_tellsApart 36 rfl) rfl rfl rfl ?_
        simp only [List.set]
        refine aj_goto 9 (dx d_Machine_tellsApart 37 rfl) rfl ?_
        refine aj_forget 7 ?_
        simp only [List.set]
        have hih := ih _ (by omega) (i + 1) (nx a w[j]) (nx b w[j]) (by omega) rfl (hc _ _ ha2 hlk) (hc _ _ hb2 hlk) (by rw [show w.length - (i + 1) = j by omega, hdr, hd1]; rfl) (by rw [show w.length - (i + 1) = j by omega, hdr, hd2]; rfl) (by
          rw [show w.length - (i + 1) = j by omega, hdr]
          rintro (z | z)
          · exact hnt z
          · exact z (by rw [← hd1, ← hd2]; omega))
        rw [show ((i : Nat) : Int) + 1 = ((i + 1 : Nat) : Int) by omega]
        exact hih
      · refine aj_iconst 47 (dx d_Machine_tellsApart 24 rfl) rfl ?_
        refine aj_zret (dx d_Machine_tellsApart 25 rfl) rfl (by omega) id ?_
        refine hk1 ?_
        have h2 : tl nx ou s t (w.drop j) := by
          rw [hdr]
          exact Or.inr (fun z => h43 (by rw [hd1, hd2]; exact congrArg _ z))
        exact tl_drop h2
set_option maxHeartbeats 4000000 in
theorem k_Machine_tellsApart {al : Prop} {X : Option (Nat × (Int → Int))} {d : Nat} {sh : List aj_S} {g : aj_G} {Q : aj_R → List aj_S → aj_G → Prop} {r rw_ : Int} {L k n s t : Nat} {nx ou : Nat → Nat → Nat} {w : List Nat} (hm : mcm sh g r L k n nx ou) (hw : wds sh g rw_) (ha : wat g rw_ w) (hok : wd_ok k w) (hlen : w.length ≤ 100) (hs : s < n) (ht : t < n) (hk1 : tl nx ou s t w → Q (.inl (some (0, 1))) sh g) (hk0 : ¬ tl nx ou s t w → Q (.inl (some (0, 0))) sh g) : aj_wp nE al al X m_Machine_tellsApart (d + 1) 0 0 0 [some (1, r), some (1, rw_), some (0, (s : Int)), some (0, (t : Int)), none, none, none, none] [] sh g Q := by
  refine aj_iload_n 2 1 (dx d_Machine_tellsApart 0 rfl) rfl rfl rfl ?_
  refine aj_istore 4 3 (dx d_Machine_tellsApart 1 rfl) rfl rfl ?_
  simp only [List.set]
  refine aj_iload_n 3 4 (dx d_Machine_tellsApart 2 rfl) rfl rfl rfl ?_
  refine aj_istore 5 6 (dx d_Machine_tellsApart 3 rfl) rfl rfl ?_
  simp only [List.set]
  refine aj_iconst 7 (dx d_Machine_tellsApart 4 rfl) rfl ?_
  refine aj_istore 6 9 (dx d_Machine_tellsApart 5 rfl) rfl rfl ?_
  simp only [List.set]
  exact k_tells_loop hm hw ha hok hlen hs ht hk1 hk0 _ 0 s t (Nat.zero_le _) rfl hs ht (by rw [Nat.sub_zero, List.drop_length]; rfl) (by rw [Nat.sub_zero, List.drop_length]; rfl) (by rw [Nat.sub_zero, List.drop_length]; exact fun z => z)
