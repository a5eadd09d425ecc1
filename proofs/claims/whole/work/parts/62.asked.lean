/-! Suite: what is asked of a made suite -/
/-- a made suite: its nodes W, its tests T -/
def sT (g : aj_G) (r : Int) (k c : Nat) (W : Nat → List Nat) (mnx : Nat → Nat → Nat) (T : List (List Nat)) : Prop := tC g r k c W mnx ∧ tr_I k c W ∧ c ≤ 800 ∧ (∀ p, p < c → (W p).length ≤ 18) ∧ lsC g r c W T ∧ T.length ≤ 800
theorem sT_of {g g1 : aj_G} {r : Int} {k c : Nat} {W : Nat → List Nat} {mnx : Nat → Nat → Nat} {T : List (List Nat)} (h : sT g r k c W mnx T) (e1 : g1 r 12 = g r 12) (e2 : g1 r 13 = g r 13) (e3 : ∀ i, (1 ≤ i ∧ i ≤ 5) ∨ i = 9 → g1 (r + i) = g (r + i)) : sT g1 r k c W mnx T := by
  unfold sT tC lsC at h ⊢
  rw [e1, e2, e3 1 (by omega), e3 2 (by omega), e3 3 (by omega), e3 4 (by omega), e3 5 (by omega), e3 9 (by omega)]
  exact h
theorem sT_t {g : aj_G} {r : Int} {k c : Nat} {W : Nat → List Nat} {mnx : Nat → Nat → Nat} {T : List (List Nat)} (h : sT g r k c W mnx T) {t : Nat} (ht : t < T.length) : wd_ok k T[t] ∧ T[t].length ≤ 18 := by
  obtain ⟨p, p1, -, p3⟩ := h.2.2.2.2.1.2 t ht
  rw [← p3]
  exact ⟨h.2.1.2.2.1 p p1, h.2.2.2.1 p p1⟩
set_option maxHeartbeats 4000000 in
theorem k_Suite_hasTest {al : Prop} {X : Option (Nat × (Int → Int))} {d : Nat} {sh : List aj_S} {g : aj_G} {Q : aj_R → List aj_S → aj_G → Prop} {r : Int} {k : Nat} {mnx : Nat → Nat → Nat} (hs : sus sh g r k) {w v : Int} (h13 : g r 13 = v) (hv : aj_I v) (hw : aj_I w) (hk : Q (.inl (some (0, if 0 ≤ w ∧ w < v then 1 else 0))) sh g) : aj_wp nE al al X m_Suite_hasTest d 0 0 0 [some (1, r), some (0, w)] [] sh g Q := by
  refine aj_iload_n 1 1 (dx d_Suite_hasTest 0 rfl) rfl rfl rfl ?_
  refine aj_if_lt 16 4 (dx d_Suite_hasTest 1 rfl) rfl rfl hw (fun h1 => ?_) (fun h1 => ?_)
  · refine aj_iconst 17 (dx d_Suite_hasTest 8 rfl) rfl ?_
    refine aj_zret (dx d_Suite_hasTest 9 rfl) rfl (by omega) id ?_
    first | (rw [if_pos (by omega)] at hk; exact hk) | (rw [if_neg (by omega)] at hk; exact hk)
  · refine aj_iload_n 1 5 (dx d_Suite_hasTest 2 rfl) rfl rfl rfl ?_
    refine aj_aload_n 0 6 (dx d_Suite_hasTest 3 rfl) rfl rfl rfl ?_
    refine aj_getfv (v := v) 9 fl_Suite_40 (dx d_Suite_hasTest 4 rfl) rfl hs.1 h13 ?_
    refine aj_icmp_ge 16 12 (dx d_Suite_hasTest 5 rfl) rfl rfl hw hv (fun h9 => ?_) (fun h9 => ?_)
    · refine aj_iconst 17 (dx d_Suite_hasTest 8 rfl) rfl ?_
      refine aj_zret (dx d_Suite_hasTest 9 rfl) rfl (by omega) id ?_
      first | (rw [if_pos (by omega)] at hk; exact hk) | (rw [if_neg (by omega)] at hk; exact hk)
    · refine aj_iconst 13 (dx d_Suite_hasTest 6 rfl) rfl ?_
      refine aj_goto 17 (dx d_Suite_hasTest 7 rfl) rfl ?_
      refine aj_zret (dx d_Suite_hasTest 9 rfl) rfl (by omega) id ?_
      first | (rw [if_pos (by omega)] at hk; exact hk) | (rw [if_neg (by omega)] at hk; exact hk)
set_option maxHeartbeats 4000000 in
theorem k_Suite_isMade {al : Prop} {X : Option (Nat × (Int → Int))} {d : Nat} {sh : List aj_S} {g : aj_G} {Q : aj_R → List aj_S → aj_G → Prop} {r : Int} {k : Nat} {mnx : Nat → Nat → Nat} (hs : sus sh g r k) {v : Int} (h12 : g r 12 = v) (hv : aj_I v) (hk : Q (.inl (some (0, if 0 < v then 1 else 0))) sh g) : aj_wp nE al al X m_Suite_isMade d 0 0 0 [some (1, r)] [] sh g Q := by
  refine aj_aload_n 0 1 (dx d_Suite_isMade 0 rfl) rfl rfl rfl ?_
  refine aj_getfv (v := v) 4 fl_Suite_36 (dx d_Suite_isMade 1 rfl) rfl hs.1 h12 ?_
  refine aj_if_le 11 7 (dx d_Suite_isMade 2 rfl) rfl rfl hv (fun h4 => ?_) (fun h4 => ?_)
  · refine aj_iconst 12 (dx d_Suite_isMade 5 rfl) rfl ?_
    refine aj_zret (dx d_Suite_isMade 6 rfl) rfl (by omega) id ?_
    first | (rw [if_pos (by omega)] at hk; exact hk) | (rw [if_neg (by omega)] at hk; exact hk)
  · refine aj_iconst 8 (dx d_Suite_isMade 3 rfl) rfl ?_
    refine aj_goto 12 (dx d_Suite_isMade 4 rfl) rfl ?_
    refine aj_zret (dx d_Suite_isMade 6 rfl) rfl (by omega) id ?_
    first | (rw [if_pos (by omega)] at hk; exact hk) | (rw [if_neg (by omega)] at hk; exact hk)
set_option maxHeartbeats 4000000 in
theorem k_Suite_lengthOf {al : Prop} {X : Option (Nat × (Int → Int))} {d : Nat} {sh : List aj_S} {g : aj_G} {Q : aj_R → List aj_S → aj_G → Prop} {r : Int} {k : Nat} {mnx : Nat → Nat → Nat} (hs : sus sh g r k) {c : Nat} {W : Nat → List Nat} {T : List (List Nat)} (hT : sT g r k c W mnx T) {w : Nat} (hw : w < T.length) (hk : Q (.inl (some (0, (T[w].length : Int)))) sh g) : aj_wp nE al al X m_Suite_lengthOf d 0 0 0 [some (1, r), some (0, (w : Int))] [] sh g Q := by
  have hc8 := hT.2.2.1
  have hT8 := hT.2.2.2.2.2
  obtain ⟨p, p1, p2, p3⟩ := hT.2.2.2.2.1.2 w hw
  refine aj_aload_n 0 1 (dx d_Suite_lengthOf 0 rfl) rfl rfl rfl ?_
  refine aj_getfv (v := (r + 3)) 4 fl_Suite_18 (dx d_Suite_lengthOf 1 rfl) rfl hs.1 (by (repeat (first | rw [aj_up_ne _ _ _ (by omega)] | rw [aj_up_ni _ _ _ (by omega)])); exact (sf_depth hs)) ?_
  refine aj_aload_n 0 5 (dx d_Suite_lengthOf 2 rfl) rfl rfl rfl ?_
  refine aj_getfv (v := (r + 5)) 8 fl_Suite_24 (dx d_Suite_lengthOf 3 rfl) rfl hs.1 (by (repeat (first | rw [aj_up_ne _ _ _ (by omega)] | rw [aj_up_ni _ _ _ (by omega)])); exact (sf_leaves hs)) ?_
  refine aj_iload_n 1 9 (dx d_Suite_lengthOf 4 rfl) rfl rfl rfl ?_
  refine aj_iald 10 (dx d_Suite_lengthOf 5 rfl) rfl (ss_leaves hs) rfl (by omega) (by omega) ?_
  rw [p2]
  refine aj_iald 11 (dx d_Suite_lengthOf 6 rfl) rfl (ss_depth hs) rfl (by omega) (by omega) ?_
  rw [(hT.1.2.1 p p1).1, p3]
  refine aj_iret (dx d_Suite_lengthOf 7 rfl) rfl id ?_
  exact hk
set_option maxHeartbeats 4000000 in
theorem k_bi_loop {al : Prop} {X : Option (Nat × (Int → Int))} {d : Nat} {sh : List aj_S} {g : aj_G} {Q : aj_R → List aj_S → aj_G → Prop} {r : Int} {k : Nat} {mnx : Nat → Nat → Nat} (hs : sus sh g r k) {c : Nat} {W : Nat → List Nat} {T : List (List Nat)} (hT : sT g r k c W mnx T) {w i : Nat} (hw : w < T.length) (hi : i < T[w].length) (hk : ∀ q : Nat, q < c → 0 < q → W q = T[w].drop (T[w].length - 1 - i) → Q (.inl (some (0, (q : Int)))) sh g) : ∀ (n at0 q : Nat), i < at0 → at0 ≤ T[w].length → q < c → W q = T[w].drop (T[w].length - at0) → at0 - i = n →
    aj_wp nE al al X m_Suite_behindInput d 0 0 15 [some (1, r), some (0, (w : Int)), some (0, (i : Int)), some (0, (q : Int)), some (0, (at0 : Int))] [] sh g Q := by
  have hc8 := hT.2.2.1
  have hl18 := (sT_t hT hw).2
  intro n
  induction n using Nat.strongRecOn with
  | ind n ih =>
    intro at0 q hia hat hq hWq hnn
    have hq0 : 0 < q := by
      rcases Nat.eq_zero_or_pos q with z | z
      · rw [z, hT.2.1.2.1] at hWq
        have := congrArg List.length hWq
        rw [List.length_drop] at this
        simp at this
        omega
      · exact z
    refine aj_iload 4 17 (dx d_Suite_behindInput 10 rfl) rfl rfl ?_
    refine aj_iload_n 2 18 (dx d_Suite_behindInput 11 rfl) rfl rfl rfl ?_
    refine aj_iconst 19 (dx d_Suite_behindInput 12 rfl) rfl ?_
    refine aj_iadd 20 (dx d_Suite_behindInput 13 rfl) rfl ?_
    refine aj_icmp_le 36 23 (dx d_Suite_behindInput 14 rfl) rfl rfl (by unfold aj_I; omega) (by unfold aj_I; omega) (fun h20 => ?_) (fun h20 => ?_)
    · refine aj_iload_n 3 37 (dx d_Suite_behindInput 22 rfl) rfl rfl rfl ?_
      refine aj_iret (dx d_Suite_behindInput 23 rfl) rfl id ?_
      exact hk q hq hq0 (by rw [hWq, show T[w].length - at0 = T[w].length - 1 - i by omega])
    · obtain ⟨b, q', e1, e2, e3, -⟩ := hT.1.2.2.1 q hq0 hq
      obtain ⟨at1, rfl⟩ : ∃ at1, at0 = at1 + 1 := ⟨at0 - 1, by omega⟩
      have hd2 : W q' = T[w].drop (T[w].length - at1) := by
        have h2 := congrArg List.tail e2
        rw [hWq, List.tail_drop] at h2
        rw [show T[w].length - at1 = T[w].length - (at1 + 1) + 1 by omega]
        exact h2.symm
      refine aj_aload_n 0 24 (dx d_Suite_behindInput 15 rfl) rfl rfl rfl ?_
      refine aj_getfv (v := (r + 1)) 27 fl_Suite_9 (dx d_Suite_behindInput 16 rfl) rfl hs.1 (by (repeat (first | rw [aj_up_ne _ _ _ (by omega)] | rw [aj_up_ni _ _ _ (by omega)])); exact (sf_above hs)) ?_
      refine aj_iload_n 3 28 (dx d_Suite_behindInput 17 rfl) rfl rfl rfl ?_
      refine aj_iald 29 (dx d_Suite_behindInput 18 rfl) rfl (ss_above hs) rfl (by omega) (by omega) ?_
      rw [e3]
      refine aj_istore_n 3 30 (dx d_Suite_behindInput 19 rfl) rfl rfl rfl ?_
      simp only [List.set]
      refine aj_iinc 4 33 (dx d_Suite_behindInput 20 rfl) rfl rfl rfl ?_
      simp only [List.set]
      refine aj_goto 15 (dx d_Suite_behindInput 21 rfl) rfl ?_
      rw [show ((at1 + 1 : Nat) : Int) + -1 = (at1 : Nat) by omega]
      exact ih _ (by omega) at1 q' (by omega) (by omega) (by omega) hd2 rfl
set_option maxHeartbeats 4000000 in
theorem k_Suite_behindInput {al : Prop} {X : Option (Nat × (Int → Int))} {d : Nat} {sh : List aj_S} {g : aj_G} {Q : aj_R → List aj_S → aj_G → Prop} {r : Int} {k : Nat} {mnx : Nat → Nat → Nat} (hs : sus sh g r k) {c : Nat} {W : Nat → List Nat} {T : List (List Nat)} (hT : sT g r k c W mnx T) {w i : Nat} (hw : w < T.length) (hi : i < T[w].length) (hk : ∀ q : Nat, q < c → 0 < q → W q = T[w].drop (T[w].length - 1 - i) → Q (.inl (some (0, (q : Int)))) sh g) : aj_wp nE al al X m_Suite_behindInput d 0 0 0 [some (1, r), some (0, (w : Int)), some (0, (i : Int)), none, none] [] sh g Q := by
  have hc8 := hT.2.2.1
  have hT8 := hT.2.2.2.2.2
  obtain ⟨p, p1, p2, p3⟩ := hT.2.2.2.2.1.2 w hw
  refine aj_aload_n 0 1 (dx d_Suite_behindInput 0 rfl) rfl rfl rfl ?_
  refine aj_getfv (v := (r + 5)) 4 fl_Suite_24 (dx d_Suite_behindInput 1 rfl) rfl hs.1 (by (repeat (first | rw [aj_up_ne _ _ _ (by omega)] | rw [aj_up_ni _ _ _ (by omega)])); exact (sf_leaves hs)) ?_
  refine aj_iload_n 1 5 (dx d_Suite_behindInput 2 rfl) rfl rfl rfl ?_
  refine aj_iald 6 (dx d_Suite_behindInput 3 rfl) rfl (ss_leaves hs) rfl (by omega) (by omega) ?_
  rw [p2]
  refine aj_istore_n 3 7 (dx d_Suite_behindInput 4 rfl) rfl rfl rfl ?_
  simp only [List.set]
  refine aj_aload_n 0 8 (dx d_Suite_behindInput 5 rfl) rfl rfl rfl ?_
  refine aj_getfv (v := (r + 3)) 11 fl_Suite_18 (dx d_Suite_behindInput 6 rfl) rfl hs.1 (by (repeat (first | rw [aj_up_ne _ _ _ (by omega)] | rw [aj_up_ni _ _ _ (by omega)])); exact (sf_depth hs)) ?_
  refine aj_iload_n 3 12 (dx d_Suite_behindInput 7 rfl) rfl rfl rfl ?_
  refine aj_iald 13 (dx d_Suite_behindInput 8 rfl) rfl (ss_depth hs) rfl (by omega) (by omega) ?_
  rw [(hT.1.2.1 p p1).1, p3]
  refine aj_istore 4 15 (dx d_Suite_behindInput 9 rfl) rfl rfl ?_
  simp only [List.set]
  exact k_bi_loop hs hT hw hi hk _ T[w].length p hi (Nat.le_refl _) p1 (by rw [Nat.sub_self]; exact p3) rfl
set_option maxHeartbeats 4000000 in
theorem k_Suite_inputAt {al : Prop} {X : Option (Nat × (Int → Int))} {d : Nat} {sh : List aj_S} {g : aj_G} {Q : aj_R → List aj_S → aj_G → Prop} {r : Int} {k : Nat} {mnx : Nat → Nat → Nat} (hs : sus sh g r k) {c : Nat} {W : Nat → List Nat} {T : List (List Nat)} (hT : sT g r k c W mnx T) {w i : Nat} (hw : w < T.length) (hi : i < T[w].length) (hk : Q (.inl (some (0, (T[w][T[w].length - 1 - i] : Int)))) sh g) : aj_wp nE al al X m_Suite_inputAt (d + 1) 0 0 0 [some (1, r), some (0, (w : Int)), some (0, (i : Int))] [] sh g Q := by
  have hc8 := hT.2.2.1
  refine aj_aload_n 0 1 (dx d_Suite_inputAt 0 rfl) rfl rfl rfl ?_
  refine aj_getfv (v := (r + 2)) 4 fl_Suite_15 (dx d_Suite_inputAt 1 rfl) rfl hs.1 (by (repeat (first | rw [aj_up_ne _ _ _ (by omega)] | rw [aj_up_ni _ _ _ (by omega)])); exact (sf_by hs)) ?_
  refine aj_aload_n 0 5 (dx d_Suite_inputAt 2 rfl) rfl rfl rfl ?_
  refine aj_iload_n 1 6 (dx d_Suite_inputAt 3 rfl) rfl rfl rfl ?_
  refine aj_iload_n 2 7 (dx d_Suite_inputAt 4 rfl) rfl rfl rfl ?_
  refine aj_callV2 10 cl_Suite_70 (dx d_Suite_inputAt 5 rfl) rfl rfl rfl rfl rfl rfl hs.1 (k_Suite_behindInput hs hT hw hi (fun q q1 q0 q2 => ?_))
  change aj_wp _ _ _ _ _ _ _ _ _ _ _ _ _ _
  refine aj_iald 11 (dx d_Suite_inputAt 6 rfl) rfl (ss_by hs) rfl (by omega) (by omega) ?_
  refine aj_iret (dx d_Suite_inputAt 7 rfl) rfl id ?_
  obtain ⟨b, q', e1, e2, -, e4⟩ := hT.1.2.2.1 q q0 q1
  rw [e4]
  rw [q2, drop_s hi] at e2
  rw [← (List.cons.inj e2).1]
  exact hk
set_option maxHeartbeats 4000000 in
theorem k_Suite_outputInto {al : Prop} {X : Option (Nat × (Int → Int))} {d : Nat} {sh : List aj_S} {g : aj_G} {Q : aj_R → List aj_S → aj_G → Prop} {r : Int} {k : Nat} {mnx : Nat → Nat → Nat} (hs : sus sh g r k) {c : Nat} {W : Nat → List Nat} {T : List (List Nat)} (hT : sT g r k c W mnx T) {L N : Nat} {mou : Nat → Nat → Nat} (hC : suC sh g L k N mnx mou) {q : Nat} (hq : q < c) (hq0 : 0 < q) (hk : Q (.inl (some (0, (eo mnx mou 0 (W q) : Int)))) sh g) : aj_wp nE al al X m_Suite_outputInto (d + 1) 0 0 0 [some (1, r), some (0, (q : Int))] [] sh g Q := by
  have hc8 := hT.2.2.1
  obtain ⟨b, q', e1, e2, e3, e4⟩ := hT.1.2.2.1 q hq0 hq
  have hok := hT.2.1.2.2.1 q hq
  rw [e2] at hok hk
  have hcl : ∀ s i, s < N → i < k → mnx s i < N := fun s i h1 h2 => (hC.1.2.2.2.2.2.2 s i h1 h2).2.2.1
  have hst := rn_lt hcl hC.2.2.1 (W q') (wd_ok_cons.mp hok).2
  refine aj_aload_n 0 1 (dx d_Suite_outputInto 0 rfl) rfl rfl rfl ?_
  refine aj_getfv (v := 10) 4 fl_Suite_61 (dx d_Suite_outputInto 1 rfl) rfl hs.1 (by (repeat (first | rw [aj_up_ne _ _ _ (by omega)] | rw [aj_up_ni _ _ _ (by omega)])); exact (sf_machine hs)) ?_
  refine aj_aload_n 0 5 (dx d_Suite_outputInto 2 rfl) rfl rfl rfl ?_
  refine aj_getfv (v := (r + 4)) 8 fl_Suite_21 (dx d_Suite_outputInto 3 rfl) rfl hs.1 (by (repeat (first | rw [aj_up_ne _ _ _ (by omega)] | rw [aj_up_ni _ _ _ (by omega)])); exact (sf_state hs)) ?_
  refine aj_aload_n 0 9 (dx d_Suite_outputInto 4 rfl) rfl rfl rfl ?_
  refine aj_getfv (v := (r + 1)) 12 fl_Suite_9 (dx d_Suite_outputInto 5 rfl) rfl hs.1 (by (repeat (first | rw [aj_up_ne _ _ _ (by omega)] | rw [aj_up_ni _ _ _ (by omega)])); exact (sf_above hs)) ?_
  refine aj_iload_n 1 13 (dx d_Suite_outputInto 6 rfl) rfl rfl rfl ?_
  refine aj_iald 14 (dx d_Suite_outputInto 7 rfl) rfl (ss_above hs) rfl (by omega) (by omega) ?_
  rw [e3]
  refine aj_iald 15 (dx d_Suite_outputInto 8 rfl) rfl (ss_state hs) rfl (by omega) (by omega) ?_
  rw [(hT.1.2.1 q' (by omega)).2]
  refine aj_aload_n 0 16 (dx d_Suite_outputInto 9 rfl) rfl rfl rfl ?_
  refine aj_getfv (v := (r + 2)) 19 fl_Suite_15 (dx d_Suite_outputInto 10 rfl) rfl hs.1 (by (repeat (first | rw [aj_up_ne _ _ _ (by omega)] | rw [aj_up_ni _ _ _ (by omega)])); exact (sf_by hs)) ?_
  refine aj_iload_n 1 20 (dx d_Suite_outputInto 11 rfl) rfl rfl rfl ?_
  refine aj_iald 21 (dx d_Suite_outputInto 12 rfl) rfl (ss_by hs) rfl (by omega) (by omega) ?_
  rw [e4]
  refine aj_callV2 24 cl_Suite_78 (dx d_Suite_outputInto 13 rfl) rfl rfl rfl rfl rfl rfl hC.1.1.1 (s_output hC.1 hst (wd_ok_cons.mp hok).1 ?_)
  change aj_wp _ _ _ _ _ _ _ _ _ _ _ _ _ _
  refine aj_iret (dx d_Suite_outputInto 14 rfl) rfl id ?_
  exact hk
set_option maxHeartbeats 4000000 in
theorem k_Suite_outputAt {al : Prop} {X : Option (Nat × (Int → Int))} {d : Nat} {sh : List aj_S} {g : aj_G} {Q : aj_R → List aj_S → aj_G → Prop} {r : Int} {k : Nat} {mnx : Nat → Nat → Nat} (hs : sus sh g r k) {c : Nat} {W : Nat → List Nat} {T : List (List Nat)} (hT : sT g r k c W mnx T) {L N : Nat} {mou : Nat → Nat → Nat} (hC : suC sh g L k N mnx mou) {w i : Nat} (hw : w < T.length) (hi : i < T[w].length) (hk : Q (.inl (some (0, (eo mnx mou 0 (T[w].drop (T[w].length - 1 - i)) : Int)))) sh g) : aj_wp nE al al X m_Suite_outputAt (d + 2) 0 0 0 [some (1, r), some (0, (w : Int)), some (0, (i : Int))] [] sh g Q := by
  refine aj_aload_n 0 1 (dx d_Suite_outputAt 0 rfl) rfl rfl rfl ?_
  refine aj_aload_n 0 2 (dx d_Suite_outputAt 1 rfl) rfl rfl rfl ?_
  refine aj_iload_n 1 3 (dx d_Suite_outputAt 2 rfl) rfl rfl rfl ?_
  refine aj_iload_n 2 4 (dx d_Suite_outputAt 3 rfl) rfl rfl rfl ?_
  refine aj_callV2 7 cl_Suite_70 (dx d_Suite_outputAt 4 rfl) rfl rfl rfl rfl rfl rfl hs.1 (k_Suite_behindInput hs hT hw hi (fun q q1 q0 q2 => ?_))
  change aj_wp _ _ _ _ _ _ _ _ _ _ _ _ _ _
  refine aj_callV1 10 cl_Suite_74 (dx d_Suite_outputAt 5 rfl) rfl rfl rfl rfl rfl rfl hs.1 (k_Suite_outputInto hs hT hC q1 q0 ?_)
  change aj_wp _ _ _ _ _ _ _ _ _ _ _ _ _ _
  refine aj_iret (dx d_Suite_outputAt 6 rfl) rfl id ?_
  rw [q2]; exact hk
/-- the transitions that the nodes before i take -/
def trV (k : Nat) (mnx : Nat → Nat → Nat) (W : Nat → List Nat) (i e : Nat) : Prop := ∃ p b v, 0 < p ∧ p < i ∧ W p = b :: v ∧ e = rn mnx 0 v * k + b
theorem tb_or {s e : Nat} (j : Nat) : ((s ||| 2 ^ e).testBit j = true) ↔ (s.testBit j = true ∨ j = e) := by
  rw [Nat.testBit_or, Nat.testBit_two_pow, Bool.or_eq_true, decide_eq_true_eq]
  constructor
  · rintro (h | h)
    · exact Or.inl h
    · exact Or.inr h.symm
  · rintro (h | h)
    · exact Or.inl h
    · exact Or.inr h.symm
set_option maxHeartbeats 4000000 in
theorem k_tn_loop {al : Prop} {X : Option (Nat × (Int → Int))} {d : Nat} {sh : List aj_S} {g : aj_G} {Q : aj_R → List aj_S → aj_G → Prop} {r : Int} {k : Nat} {mnx : Nat → Nat → Nat} (hs : sus sh g r k) {c : Nat} {W : Nat → List Nat} {T : List (List Nat)} (hT : sT g r k c W mnx T) {L N : Nat} {mou : Nat → Nat → Nat} (hC : suC sh g L k N mnx mou) (hk : Q (.inl (some (0, ((mo_c (trV k mnx W c) 24 : Nat) : Int)))) sh g) : ∀ (n i sn : Nat), 1 ≤ i → i ≤ c → sn < 2 ^ 24 → (∀ e, sn.testBit e = true ↔ trV k mnx W i e) → c - i = n →
    aj_wp nE al al X m_Suite_transitions (d + 1) 0 0 4 [some (1, r), some (0, (sn : Int)), some (0, (i : Int))] [] sh g Q := by
  have hc8 := hT.2.2.1
  have hN8 := hC.2.2.2
  have hk3 := hC.2.1
  intro n
  induction n using Nat.strongRecOn with
  | ind n ih =>
    intro i sn hi0 hi hsn hV hnn
    refine aj_iload_n 2 5 (dx d_Suite_transitions 4 rfl) rfl rfl rfl ?_
    refine aj_aload_n 0 6 (dx d_Suite_transitions 5 rfl) rfl rfl rfl ?_
    refine aj_getfv (v := (c : Int)) 9 fl_Suite_36 (dx d_Suite_transitions 6 rfl) rfl hs.1 hT.1.1 ?_
    refine aj_icmp_ge 49 12 (dx d_Suite_transitions 7 rfl) rfl rfl (by unfold aj_I; omega) (by unfold aj_I; omega) (fun h9 => ?_) (fun h9 => ?_)
    · refine aj_iload_n 1 50 (dx d_Suite_transitions 31 rfl) rfl rfl rfl ?_
      refine aj_callS1 53 cl_Suite_81 (dx d_Suite_transitions 32 rfl) rfl rfl rfl rfl rfl rfl (k_bitCount hsn ?_)
      change aj_wp _ _ _ _ _ _ _ _ _ _ _ _ _ _
      refine aj_iret (dx d_Suite_transitions 33 rfl) rfl id ?_
      rw [show (fun e => sn.testBit e = true) = trV k mnx W c from funext fun e => propext (by rw [hV, show i = c by omega])]
      exact hk
    · have hic : i < c := by omega
      obtain ⟨b, q', e1, e2, e3, e4⟩ := hT.1.2.2.1 i (by omega) hic
      have hok := hT.2.1.2.2.1 i hic
      rw [e2] at hok
      have hb := (wd_ok_cons.mp hok).1
      have hcl : ∀ s i, s < N → i < k → mnx s i < N := fun s i h1 h2 => (hC.1.2.2.2.2.2.2 s i h1 h2).2.2.1
      have hst := rn_lt hcl hC.2.2.1 (W q') (wd_ok_cons.mp hok).2
      have he24 : rn mnx 0 (W q') * k + b < 24 := by
        have h8 : rn mnx 0 (W q') < 8 := by omega
        rcases hC.2.1 with rfl | rfl | rfl <;> omega
      have h2p : 2 ^ (rn mnx 0 (W q') * k + b) < 2 ^ 32 := Nat.pow_lt_pow_right (by omega) (by omega)
      have h2q : 2 ^ (rn mnx 0 (W q') * k + b) < 2 ^ 24 := Nat.pow_lt_pow_right (by omega) he24
      refine aj_iload_n 1 13 (dx d_Suite_transitions 8 rfl) rfl rfl rfl ?_
      refine aj_iconst 14 (dx d_Suite_transitions 9 rfl) rfl ?_
      refine aj_aload_n 0 15 (dx d_Suite_transitions 10 rfl) rfl rfl rfl ?_
      refine aj_getfv (v := (r + 4)) 18 fl_Suite_21 (dx d_Suite_transitions 11 rfl) rfl hs.1 (by (repeat (first | rw [aj_up_ne _ _ _ (by omega)] | rw [aj_up_ni _ _ _ (by omega)])); exact (sf_state hs)) ?_
      refine aj_aload_n 0 19 (dx d_Suite_transitions 12 rfl) rfl rfl rfl ?_
      refine aj_getfv (v := (r + 1)) 22 fl_Suite_9 (dx d_Suite_transitions 13 rfl) rfl hs.1 (by (repeat (first | rw [aj_up_ne _ _ _ (by omega)] | rw [aj_up_ni _ _ _ (by omega)])); exact (sf_above hs)) ?_
      refine aj_iload_n 2 23 (dx d_Suite_transitions 14 rfl) rfl rfl rfl ?_
      refine aj_iald 24 (dx d_Suite_transitions 15 rfl) rfl (ss_above hs) rfl (by omega) (by omega) ?_
      rw [e3]
      refine aj_iald 25 (dx d_Suite_transitions 16 rfl) rfl (ss_state hs) rfl (by omega) (by omega) ?_
      rw [(hT.1.2.1 q' (by omega)).2]
      refine aj_aload_n 0 26 (dx d_Suite_transitions 17 rfl) rfl rfl rfl ?_
      refine aj_getfv (v := 10) 29 fl_Suite_61 (dx d_Suite_transitions 18 rfl) rfl hs.1 (by (repeat (first | rw [aj_up_ne _ _ _ (by omega)] | rw [aj_up_ni _ _ _ (by omega)])); exact (sf_machine hs)) ?_
      refine aj_getfv (v := (k : Int)) 32 fl_Suite_62 (dx d_Suite_transitions 19 rfl) rfl hC.1.1.1 hC.1.2.1 ?_
      refine aj_imul 33 (dx d_Suite_transitions 20 rfl) rfl ?_
      refine aj_aload_n 0 34 (dx d_Suite_transitions 21 rfl) rfl rfl rfl ?_
      refine aj_getfv (v := (r + 2)) 37 fl_Suite_15 (dx d_Suite_transitions 22 rfl) rfl hs.1 (by (repeat (first | rw [aj_up_ne _ _ _ (by omega)] | rw [aj_up_ni _ _ _ (by omega)])); exact (sf_by hs)) ?_
      refine aj_iload_n 2 38 (dx d_Suite_transitions 23 rfl) rfl rfl rfl ?_
      refine aj_iald 39 (dx d_Suite_transitions 24 rfl) rfl (ss_by hs) rfl (by omega) (by omega) ?_
      rw [e4]
      refine aj_iadd 40 (dx d_Suite_transitions 25 rfl) rfl ?_
      refine aj_ishl (v := ((2 ^ (rn mnx 0 (W q') * k + b) : Nat) : Int)) 41 (dx d_Suite_transitions 26 rfl) rfl (by rw [← ib_1 _ (by omega)]; push_cast; rfl) ?_
      refine aj_ior (v := ((sn ||| 2 ^ (rn mnx 0 (W q') * k + b) : Nat) : Int)) 42 (dx d_Suite_transitions 27 rfl) rfl (ib_or (by omega) h2p) ?_
      refine aj_istore_n 1 43 (dx d_Suite_transitions 28 rfl) rfl rfl rfl ?_
      simp only [List.set]
      refine aj_iinc 2 46 (dx d_Suite_transitions 29 rfl) rfl rfl rfl ?_
      simp only [List.set]
      refine aj_goto 4 (dx d_Suite_transitions 30 rfl) rfl ?_
      rw [show ((i : Nat) : Int) + 1 = ((i + 1 : Nat) : Int) by omega]
      refine ih _ (by omega) (i + 1) (sn ||| 2 ^ (rn mnx 0 (W q') * k + b)) (by omega) (by omega) (Nat.or_lt_two_pow hsn h2q) (fun e => ?_) rfl
      rw [tb_or, hV]
      constructor
      · rintro (⟨p, b', v, x1, x2, x3⟩ | rfl)
        · exact ⟨p, b', v, x1, by omega, x3⟩
        · exact ⟨i, b, W q', by omega, by omega, e2, rfl⟩
      · rintro ⟨p, b', v, x1, x2, x3, x4⟩
        by_cases z : p = i
        · rw [z, e2] at x3
          obtain ⟨rfl, rfl⟩ := List.cons.inj x3
          exact Or.inr x4
        · exact Or.inl ⟨p, b', v, x1, by omega, x3, x4⟩
set_option maxHeartbeats 4000000 in
theorem k_Suite_transitions {al : Prop} {X : Option (Nat × (Int → Int))} {d : Nat} {sh : List aj_S} {g : aj_G} {Q : aj_R → List aj_S → aj_G → Prop} {r : Int} {k : Nat} {mnx : Nat → Nat → Nat} (hs : sus sh g r k) {c : Nat} {W : Nat → List Nat} {T : List (List Nat)} (hT : sT g r k c W mnx T) {L N : Nat} {mou : Nat → Nat → Nat} (hC : suC sh g L k N mnx mou) (hk : Q (.inl (some (0, ((mo_c (trV k mnx W c) 24 : Nat) : Int)))) sh g) : aj_wp nE al al X m_Suite_transitions (d + 1) 0 0 0 [some (1, r), none, none] [] sh g Q := by
  refine aj_iconst 1 (dx d_Suite_transitions 0 rfl) rfl ?_
  refine aj_istore_n 1 2 (dx d_Suite_transitions 1 rfl) rfl rfl rfl ?_
  simp only [List.set]
  refine aj_iconst 3 (dx d_Suite_transitions 2 rfl) rfl ?_
  refine aj_istore_n 2 4 (dx d_Suite_transitions 3 rfl) rfl rfl rfl ?_
  simp only [List.set]
  exact k_tn_loop hs hT hC hk _ 1 0 (Nat.le_refl _) hT.2.1.1 (by decide) (fun e => ⟨fun h => absurd h (by simp), fun ⟨p, b, v, x1, x2, _⟩ => by omega⟩) rfl
