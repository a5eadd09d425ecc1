/-! Trial. Places: 53 the trial, 54 its states, 55 what went wrong; 41 the implementation -/
def trS (sh : List aj_S) (g : aj_G) : Prop := aj_sh sh 53 = some (.inr 6) ∧ (g 53 0 = 54 ∧ g 53 1 = 55) ∧ aj_sh sh 54 = some (.inl (0, 800)) ∧ aj_sh sh 55 = some (.inl (0, 800))
theorem trS_of {sh : List aj_S} {g g1 : aj_G} (h : trS sh g) (e : g1 53 = g 53) : trS sh g1 := by
  unfold trS at h ⊢
  rw [e]
  exact h
/-- where an implementation first goes wrong -/
def dD (ix io mnx mou : Nat → Nat → Nat) (v : List Nat) : Prop := eo ix io 0 v ≠ eo mnx mou 0 v
def trG (g1 : aj_G) (i : Nat) (W : Nat → List Nat) (ix io mnx mou : Nat → Nat → Nat) : Prop := ∀ j : Nat, j < i → g1 54 j = rn ix 0 (W j) ∧ g1 55 j = ffw (dD ix io mnx mou) (W j)
def trF (g g1 : aj_G) : Prop := ∀ r', r' ≠ 54 → r' ≠ 55 → g1 r' = g r'
set_option maxHeartbeats 8000000 in
theorem k_Trial_step {al : Prop} {X : Option (Nat × (Int → Int))} {d : Nat} {sh : List aj_S} {g : aj_G} {Q : aj_R → List aj_S → aj_G → Prop} {r : Int} {k : Nat} {mnx : Nat → Nat → Nat} (hr : r = 58 ∨ r = 68) (hs : sus sh g r k) {c : Nat} {W : Nat → List Nat} {T : List (List Nat)} (hT : sT g r k c W mnx T) {L N : Nat} {mou : Nat → Nat → Nat} (hC : suC sh g L k N mnx mou) (ht : trS sh g) {L2 mi : Nat} {ix io : Nat → Nat → Nat} (hM : mcm sh g 41 L2 k mi ix io) (hmi : 0 < mi) {p : Nat} (hp : p < c) (hp0 : 0 < p) (hG : trG g p W ix io mnx mou) (hk : ∀ g1 : aj_G, trF g g1 → trG g1 (p + 1) W ix io mnx mou → Q (.inl none) sh g1) : aj_wp nE al al X m_Trial_step (d + 2) 0 0 0 [some (1, 53), some (1, r), some (1, 41), some (0, (p : Int)), none, none] [] sh g Q := by
  have hc8 := hT.2.2.1
  have hk3 := hC.2.1
  obtain ⟨b, q, e1, e2, e3, e4⟩ := hT.1.2.2.1 p hp0 hp
  have hok := hT.2.1.2.2.1 p hp
  have hl18 := hT.2.2.2.1 p hp
  rw [e2] at hok hl18
  rw [List.length_cons] at hl18
  have hb := (wd_ok_cons.mp hok).1
  have hcl : ∀ s i, s < mi → i < k → ix s i < mi := fun s i h1 h2 => (hM.2.2.2.2.2.2 s i h1 h2).2.2.1
  have hst := rn_lt hcl hmi (W q) (wd_ok_cons.mp hok).2
  have hio := (hM.2.2.2.2.2.2 _ b hst hb).2.2.2
  have hmo : eo mnx mou 0 (W p) < 4 := by
    rw [e2]
    exact (hC.1.2.2.2.2.2.2 _ b (rn_lt (fun s i h1 h2 => (hC.1.2.2.2.2.2.2 s i h1 h2).2.2.1) hC.2.2.1 (W q) (wd_ok_cons.mp hok).2) hb).2.2.2
  have hff := ffw_lt (D := dD ix io mnx mou) (W q)
  have hfI : aj_I (ffw (dD ix io mnx mou) (W q)) := by unfold aj_I; omega
  refine aj_aload_n 1 1 (dx d_Trial_step 0 rfl) rfl rfl rfl ?_
  refine aj_getfv (v := (r + 1)) 4 fl_Trial_38 (dx d_Trial_step 1 rfl) rfl hs.1 (by first | exact (sf_above hs) | ((repeat (first | rw [aj_up_ne _ _ _ (by omega)] | rw [aj_up_ni _ _ _ (by omega)])); exact (sf_above hs))) ?_
  refine aj_iload_n 3 5 (dx d_Trial_step 2 rfl) rfl rfl rfl ?_
  refine aj_iald 6 (dx d_Trial_step 3 rfl) rfl (ss_above hs) rfl (by omega) (by omega) ?_
  rw [e3]
  refine aj_istore 4 8 (dx d_Trial_step 4 rfl) rfl rfl ?_
  simp only [List.set]
  refine aj_aload_n 1 9 (dx d_Trial_step 5 rfl) rfl rfl rfl ?_
  refine aj_getfv (v := (r + 2)) 12 fl_Trial_41 (dx d_Trial_step 6 rfl) rfl hs.1 (by first | exact (sf_by hs) | ((repeat (first | rw [aj_up_ne _ _ _ (by omega)] | rw [aj_up_ni _ _ _ (by omega)])); exact (sf_by hs))) ?_
  refine aj_iload_n 3 13 (dx d_Trial_step 7 rfl) rfl rfl rfl ?_
  refine aj_iald 14 (dx d_Trial_step 8 rfl) rfl (ss_by hs) rfl (by omega) (by omega) ?_
  rw [e4]
  refine aj_istore 5 16 (dx d_Trial_step 9 rfl) rfl rfl ?_
  simp only [List.set]
  refine aj_aload_n 0 17 (dx d_Trial_step 10 rfl) rfl rfl rfl ?_
  refine aj_getfv (v := 54) 20 fl_Trial_9 (dx d_Trial_step 11 rfl) rfl ht.1 (by first | exact ht.2.1.1 | ((repeat (first | rw [aj_up_ne _ _ _ (by omega)] | rw [aj_up_ni _ _ _ (by omega)])); exact ht.2.1.1)) ?_
  refine aj_iload_n 3 21 (dx d_Trial_step 12 rfl) rfl rfl rfl ?_
  refine aj_aload_n 2 22 (dx d_Trial_step 13 rfl) rfl rfl rfl ?_
  refine aj_aload_n 0 23 (dx d_Trial_step 14 rfl) rfl rfl rfl ?_
  refine aj_getfv (v := 54) 26 fl_Trial_9 (dx d_Trial_step 15 rfl) rfl ht.1 (by first | exact ht.2.1.1 | ((repeat (first | rw [aj_up_ne _ _ _ (by omega)] | rw [aj_up_ni _ _ _ (by omega)])); exact ht.2.1.1)) ?_
  refine aj_iload 4 28 (dx d_Trial_step 16 rfl) rfl rfl ?_
  refine aj_iald 29 (dx d_Trial_step 17 rfl) rfl ht.2.2.1 rfl (by omega) (by omega) ?_
  rw [(hG q (by omega)).1]
  refine aj_iload 5 31 (dx d_Trial_step 18 rfl) rfl rfl ?_
  refine aj_callV2 34 cl_Trial_44 (dx d_Trial_step 19 rfl) rfl rfl rfl rfl rfl rfl hM.1.1 (s_next hM hst hb ?_)
  change aj_wp _ _ _ _ _ _ _ _ _ _ _ _ _ _
  refine aj_iast 35 (dx d_Trial_step 20 rfl) rfl ht.2.2.1 rfl (by omega) (by omega) ?_
  refine aj_aload_n 0 36 (dx d_Trial_step 21 rfl) rfl rfl rfl ?_
  refine aj_getfv (v := 55) 39 fl_Trial_15 (dx d_Trial_step 22 rfl) rfl ht.1 (by first | exact ht.2.1.2 | ((repeat (first | rw [aj_up_ne _ _ _ (by omega)] | rw [aj_up_ni _ _ _ (by omega)])); exact ht.2.1.2)) ?_
  refine aj_iload_n 3 40 (dx d_Trial_step 23 rfl) rfl rfl rfl ?_
  refine aj_aload_n 0 41 (dx d_Trial_step 24 rfl) rfl rfl rfl ?_
  refine aj_getfv (v := 55) 44 fl_Trial_15 (dx d_Trial_step 25 rfl) rfl ht.1 (by first | exact ht.2.1.2 | ((repeat (first | rw [aj_up_ne _ _ _ (by omega)] | rw [aj_up_ni _ _ _ (by omega)])); exact ht.2.1.2)) ?_
  refine aj_iload 4 46 (dx d_Trial_step 26 rfl) rfl rfl ?_
  refine aj_iald 47 (dx d_Trial_step 27 rfl) rfl ht.2.2.2 rfl (by omega) (by omega) ?_
  rw [show aj_up g 54 (p : Int) (ix (rn ix 0 (W q)) b : Nat) 55 (q : Int) = ffw (dD ix io mnx mou) (W q) by rw [aj_up_ne _ _ _ (by omega)]; exact (hG q (by omega)).2]
  refine aj_iast 48 (dx d_Trial_step 28 rfl) rfl ht.2.2.2 rfl (by omega) (by omega) ?_
  refine aj_aload_n 0 49 (dx d_Trial_step 29 rfl) rfl rfl rfl ?_
  refine aj_getfv (v := 55) 52 fl_Trial_15 (dx d_Trial_step 30 rfl) rfl ht.1 (by first | exact ht.2.1.2 | ((repeat (first | rw [aj_up_ne _ _ _ (by omega)] | rw [aj_up_ni _ _ _ (by omega)])); exact ht.2.1.2)) ?_
  refine aj_iload 4 54 (dx d_Trial_step 31 rfl) rfl rfl ?_
  refine aj_iald 55 (dx d_Trial_step 32 rfl) rfl ht.2.2.2 rfl (by omega) (by omega) ?_
  rw [show (aj_up (aj_up g 54 (p : Int) (ix (rn ix 0 (W q)) b : Nat)) 55 (p : Int) (ffw (dD ix io mnx mou) (W q))) 55 (q : Int) = ffw (dD ix io mnx mou) (W q) by rw [aj_up_ni _ _ _ (by omega), aj_up_ne _ _ _ (by omega)]; exact (hG q (by omega)).2]
  refine aj_iconst 56 (dx d_Trial_step 33 rfl) rfl ?_
  refine aj_icmp_ne 94 59 (dx d_Trial_step 34 rfl) rfl rfl hfI (by unfold aj_I; omega) (fun h56 => ?_) (fun h56 => ?_)
  · refine aj_vret (dx d_Trial_step 56 rfl) rfl id ?_
    refine hk _ (fun r' h1 h2 => ?_) (fun j hj => ?_)
    · rw [aj_up_ne _ _ _ h2, aj_up_ne _ _ _ h1]
    by_cases e : j = p
    · subst e
      refine ⟨?_, ?_⟩
      · rw [aj_up_ne _ _ _ (by omega), aj_up_self]
        rw [e2]
        rfl
      · rw [aj_up_self, e2]
        exact (ffw_app h56 [b]).symm
    · have hh := hG j (by omega)
      refine ⟨Eq.trans ?_ hh.1, Eq.trans ?_ hh.2⟩ <;> (repeat (first | rw [aj_up_ne _ _ _ (by omega)] | rw [aj_up_ni _ _ _ (by omega)]))
  · refine aj_aload_n 2 60 (dx d_Trial_step 35 rfl) rfl rfl rfl ?_
    refine aj_aload_n 0 61 (dx d_Trial_step 36 rfl) rfl rfl rfl ?_
    refine aj_getfv (v := 54) 64 fl_Trial_9 (dx d_Trial_step 37 rfl) rfl ht.1 (by first | exact ht.2.1.1 | ((repeat (first | rw [aj_up_ne _ _ _ (by omega)] | rw [aj_up_ni _ _ _ (by omega)])); exact ht.2.1.1)) ?_
    refine aj_iload 4 66 (dx d_Trial_step 38 rfl) rfl rfl ?_
    refine aj_iald 67 (dx d_Trial_step 39 rfl) rfl ht.2.2.1 rfl (by omega) (by omega) ?_
    rw [show (aj_up (aj_up g 54 (p : Int) (ix (rn ix 0 (W q)) b : Nat)) 55 (p : Int) (ffw (dD ix io mnx mou) (W q))) 54 (q : Int) = (rn ix 0 (W q) : Nat) by rw [aj_up_ne _ _ _ (by omega), aj_up_ni _ _ _ (by omega)]; exact (hG q (by omega)).1]
    refine aj_iload 5 69 (dx d_Trial_step 40 rfl) rfl rfl ?_
    refine aj_callV2 72 cl_Trial_50 (dx d_Trial_step 41 rfl) rfl rfl rfl rfl rfl rfl hM.1.1 (s_output (mcm_of hM (by rw [aj_up_ne _ _ _ (by omega), aj_up_ne _ _ _ (by omega)]) (by rw [aj_up_ne _ _ _ (by omega), aj_up_ne _ _ _ (by omega)]) (by rw [aj_up_ne _ _ _ (by omega), aj_up_ne _ _ _ (by omega)])) hst hb ?_)
    change aj_wp _ _ _ _ _ _ _ _ _ _ _ _ _ _
    refine aj_aload_n 1 73 (dx d_Trial_step 42 rfl) rfl rfl rfl ?_
    refine aj_iload_n 3 74 (dx d_Trial_step 43 rfl) rfl rfl rfl ?_
    refine aj_callV1 77 cl_Trial_53 (dx d_Trial_step 44 rfl) rfl rfl rfl rfl rfl rfl hs.1 (k_Suite_outputInto (sus_of hs (fun j _ => by rw [aj_up_ne _ _ _ (by omega), aj_up_ne _ _ _ (by omega)])) (sT_of hT (by rw [aj_up_ne _ _ _ (by omega), aj_up_ne _ _ _ (by omega)]) (by rw [aj_up_ne _ _ _ (by omega), aj_up_ne _ _ _ (by omega)]) (fun j _ => by rw [aj_up_ne _ _ _ (by omega), aj_up_ne _ _ _ (by omega)])) (suC_of hC (fun r' _ => by rw [aj_up_ne _ _ _ (by omega), aj_up_ne _ _ _ (by omega)])) hp hp0 ?_)
    change aj_wp _ _ _ _ _ _ _ _ _ _ _ _ _ _
    refine aj_icmp_eq 94 80 (dx d_Trial_step 45 rfl) rfl rfl (by unfold aj_I; omega) (by unfold aj_I; omega) (fun h77 => ?_) (fun h77 => ?_)
    · refine aj_vret (dx d_Trial_step 56 rfl) rfl id ?_
      refine hk _ (fun r' h1 h2 => ?_) (fun j hj => ?_)
      · rw [aj_up_ne _ _ _ h2, aj_up_ne _ _ _ h1]
      by_cases e : j = p
      · subst e
        refine ⟨?_, ?_⟩
        · rw [aj_up_ne _ _ _ (by omega), aj_up_self]
          rw [e2]
          rfl
        · rw [aj_up_self, e2, h56]
          refine (ffw_f h56 (fun z => z ?_)).symm
          rw [← e2, e2]
          rw [e2] at h77
          have h78 : ((io (rn ix 0 (W q)) b : Nat) : Int) = (eo mnx mou 0 (b :: W q) : Nat) := h77
          exact Int.ofNat.inj h78
      · have hh := hG j (by omega)
        refine ⟨Eq.trans ?_ hh.1, Eq.trans ?_ hh.2⟩ <;> (repeat (first | rw [aj_up_ne _ _ _ (by omega)] | rw [aj_up_ni _ _ _ (by omega)]))
    · refine aj_aload_n 0 81 (dx d_Trial_step 46 rfl) rfl rfl rfl ?_
      refine aj_getfv (v := 55) 84 fl_Trial_15 (dx d_Trial_step 47 rfl) rfl ht.1 (by first | exact ht.2.1.2 | ((repeat (first | rw [aj_up_ne _ _ _ (by omega)] | rw [aj_up_ni _ _ _ (by omega)])); exact ht.2.1.2)) ?_
      refine aj_iload_n 3 85 (dx d_Trial_step 48 rfl) rfl rfl rfl ?_
      refine aj_aload_n 1 86 (dx d_Trial_step 49 rfl) rfl rfl rfl ?_
      refine aj_getfv (v := (r + 3)) 89 fl_Trial_57 (dx d_Trial_step 50 rfl) rfl hs.1 (by first | exact (sf_depth hs) | ((repeat (first | rw [aj_up_ne _ _ _ (by omega)] | rw [aj_up_ni _ _ _ (by omega)])); exact (sf_depth hs))) ?_
      refine aj_iload_n 3 90 (dx d_Trial_step 51 rfl) rfl rfl rfl ?_
      refine aj_iald 91 (dx d_Trial_step 52 rfl) rfl (ss_depth hs) rfl (by omega) (by omega) ?_
      rw [show (aj_up (aj_up g 54 (p : Int) (ix (rn ix 0 (W q)) b : Nat)) 55 (p : Int) (ffw (dD ix io mnx mou) (W q))) (r + 3) (p : Int) = (W p).length by rw [aj_up_ne _ _ _ (by omega), aj_up_ne _ _ _ (by omega)]; exact (hT.1.2.1 p hp).1]
      refine aj_iconst 92 (dx d_Trial_step 53 rfl) rfl ?_
      refine aj_isub 93 (dx d_Trial_step 54 rfl) rfl ?_
      refine aj_iast 94 (dx d_Trial_step 55 rfl) rfl ht.2.2.2 rfl (by omega) (by omega) ?_
      refine aj_vret (dx d_Trial_step 56 rfl) rfl id ?_
      refine hk _ (fun r' h1 h2 => ?_) (fun j hj => ?_)
      · rw [aj_up_ne _ _ _ h2, aj_up_ne _ _ _ h2, aj_up_ne _ _ _ h1]
      by_cases e : j = p
      · subst e
        refine ⟨?_, ?_⟩
        · rw [aj_up_ne _ _ _ (by omega), aj_up_ne _ _ _ (by omega), aj_up_self]
          rw [e2]
          rfl
        · rw [aj_up_self, e2, ffw_t h56 (fun z => h77 (by rw [e2]; exact congrArg Int.ofNat z)), List.length_cons]
          push_cast
          omega
      · have hh := hG j (by omega)
        refine ⟨Eq.trans ?_ hh.1, Eq.trans ?_ hh.2⟩ <;> (repeat (first | rw [aj_up_ne _ _ _ (by omega)] | rw [aj_up_ni _ _ _ (by omega)]))
set_option maxHeartbeats 4000000 in
theorem k_Trial_placeOf {al : Prop} {X : Option (Nat × (Int → Int))} {d : Nat} {sh : List aj_S} {g : aj_G} {Q : aj_R → List aj_S → aj_G → Prop} {r : Int} {k : Nat} {mnx : Nat → Nat → Nat} (hr : r = 58 ∨ r = 68) (hs : sus sh g r k) {c : Nat} {W : Nat → List Nat} {T : List (List Nat)} (hT : sT g r k c W mnx T) {mou ix io : Nat → Nat → Nat} (ht : trS sh g) (hG : trG g c W ix io mnx mou) {w : Nat} (hw : w < T.length) (hk : Q (.inl (some (0, ffw (dD ix io mnx mou) T[w]))) sh g) : aj_wp nE al al X m_Trial_placeOf d 0 0 0 [some (1, 53), some (1, r), some (0, (w : Int))] [] sh g Q := by
  have hc8 := hT.2.2.1
  have hT8 := hT.2.2.2.2.2
  obtain ⟨p, p1, p2, p3⟩ := hT.2.2.2.2.1.2 w hw
  refine aj_aload_n 0 1 (dx d_Trial_placeOf 0 rfl) rfl rfl rfl ?_
  refine aj_getfv (v := 55) 4 fl_Trial_15 (dx d_Trial_placeOf 1 rfl) rfl ht.1 ht.2.1.2 ?_
  refine aj_aload_n 1 5 (dx d_Trial_placeOf 2 rfl) rfl rfl rfl ?_
  refine aj_getfv (v := (r + 5)) 8 fl_Trial_35 (dx d_Trial_placeOf 3 rfl) rfl hs.1 (by first | exact (sf_leaves hs) | ((repeat (first | rw [aj_up_ne _ _ _ (by omega)] | rw [aj_up_ni _ _ _ (by omega)])); exact (sf_leaves hs))) ?_
  refine aj_iload_n 2 9 (dx d_Trial_placeOf 4 rfl) rfl rfl rfl ?_
  refine aj_iald 10 (dx d_Trial_placeOf 5 rfl) rfl (ss_leaves hs) rfl (by omega) (by omega) ?_
  rw [p2]
  refine aj_iald 11 (dx d_Trial_placeOf 6 rfl) rfl ht.2.2.2 rfl (by omega) (by omega) ?_
  rw [(hG p p1).2, p3]
  refine aj_iret (dx d_Trial_placeOf 7 rfl) rfl id ?_
  exact hk
set_option maxHeartbeats 4000000 in
theorem k_ff_2 {al : Prop} {X : Option (Nat × (Int → Int))} {d : Nat} {sh : List aj_S} {g : aj_G} {Q : aj_R → List aj_S → aj_G → Prop} {r : Int} {k : Nat} {mnx : Nat → Nat → Nat} (hr : r = 58 ∨ r = 68) (hs : sus sh g r k) {c : Nat} {W : Nat → List Nat} {T : List (List Nat)} (hT : sT g r k c W mnx T) {L N : Nat} {mou : Nat → Nat → Nat} (hC : suC sh g L k N mnx mou) (ht : trS sh g) {L2 mi : Nat} {ix io : Nat → Nat → Nat} (hM : mcm sh g 41 L2 k mi ix io) (hmi : 0 < mi) (hk1 : ∀ (g1 : aj_G) (w : Nat) (h : w < T.length), trF g g1 → trG g1 c W ix io mnx mou → ffw (dD ix io mnx mou) T[w] ≠ -1 → (∀ (w' : Nat) (h' : w' < T.length), w' < w → ffw (dD ix io mnx mou) T[w'] = -1) → Q (.inl (some (0, (w : Int)))) sh g1) (hk0 : ∀ g1 : aj_G, trF g g1 → (∀ (w' : Nat) (h' : w' < T.length), ffw (dD ix io mnx mou) T[w'] = -1) → Q (.inl (some (0, -1))) sh g1) {g1 : aj_G} (hF1 : trF g g1) (hG : trG g1 c W ix io mnx mou) : ∀ (n w : Nat), w ≤ T.length → T.length - w = n → (∀ (w' : Nat) (h' : w' < T.length), w' < w → ffw (dD ix io mnx mou) T[w'] = -1) →
    aj_wp nE al al X m_Trial_firstFailure (d + 3) 0 0 39 [some (1, 53), some (1, r), some (1, 41), some (0, (w : Int))] [] sh g1 Q := by
  have hc8 := hT.2.2.1
  have hT8 := hT.2.2.2.2.2
  intro n
  induction n using Nat.strongRecOn with
  | ind n ih =>
    intro w hw hnn hno
    have hs1 : sus sh g1 r k := sus_of hs (fun j _ => by rw [hF1 r (by omega) (by omega)])
    have ht1 := trS_of ht (hF1 53 (by omega) (by omega))
    have hT1 : sT g1 r k c W mnx T := sT_of hT (by rw [hF1 r (by omega) (by omega)]) (by rw [hF1 r (by omega) (by omega)]) (fun j _ => hF1 _ (by omega) (by omega))
    refine aj_iload_n 3 40 (dx d_Trial_firstFailure 25 rfl) rfl rfl rfl ?_
    refine aj_aload_n 1 41 (dx d_Trial_firstFailure 26 rfl) rfl rfl rfl ?_
    refine aj_getfv (v := (T.length : Int)) 44 fl_Trial_28 (dx d_Trial_firstFailure 27 rfl) rfl hs1.1 hT1.2.2.2.2.1.1 ?_
    refine aj_icmp_ge 65 47 (dx d_Trial_firstFailure 28 rfl) rfl rfl (by unfold aj_I; omega) (by unfold aj_I; omega) (fun h44 => ?_) (fun h44 => ?_)
    · refine aj_iconst 66 (dx d_Trial_firstFailure 39 rfl) rfl ?_
      refine aj_iret (dx d_Trial_firstFailure 40 rfl) rfl id ?_
      exact hk0 g1 hF1 (fun w' h' => hno w' h' (by omega))
    · have hwT : w < T.length := by omega
      have hff := ffw_lt (D := dD ix io mnx mou) T[w]
      have hl18 := (sT_t hT hwT).2
      have hfI : aj_I (ffw (dD ix io mnx mou) T[w]) := by unfold aj_I; omega
      refine aj_aload_n 0 48 (dx d_Trial_firstFailure 29 rfl) rfl rfl rfl ?_
      refine aj_aload_n 1 49 (dx d_Trial_firstFailure 30 rfl) rfl rfl rfl ?_
      refine aj_iload_n 3 50 (dx d_Trial_firstFailure 31 rfl) rfl rfl rfl ?_
      refine aj_callV2 53 cl_Trial_31 (dx d_Trial_firstFailure 32 rfl) rfl rfl rfl rfl rfl rfl ht1.1 (k_Trial_placeOf hr hs1 hT1 ht1 hG hwT ?_)
      change aj_wp _ _ _ _ _ _ _ _ _ _ _ _ _ _
      refine aj_iconst 54 (dx d_Trial_firstFailure 33 rfl) rfl ?_
      refine aj_icmp_eq 59 57 (dx d_Trial_firstFailure 34 rfl) rfl rfl hfI (by unfold aj_I; omega) (fun h54 => ?_) (fun h54 => ?_)
      · refine aj_iinc 3 62 (dx d_Trial_firstFailure 37 rfl) rfl rfl rfl ?_
        simp only [List.set]
        refine aj_goto 39 (dx d_Trial_firstFailure 38 rfl) rfl ?_
        rw [show ((w : Nat) : Int) + 1 = ((w + 1 : Nat) : Int) by omega]
        exact ih _ (by omega) (w + 1) (by omega) rfl (fun w' h' hw' => by
          by_cases e : w' = w
          · subst e; exact h54
          · exact hno w' h' (by omega))
      · refine aj_iload_n 3 58 (dx d_Trial_firstFailure 35 rfl) rfl rfl rfl ?_
        refine aj_iret (dx d_Trial_firstFailure 36 rfl) rfl id ?_
        exact hk1 g1 w hwT hF1 hG h54 hno
set_option maxHeartbeats 4000000 in
theorem k_ff_1 {al : Prop} {X : Option (Nat × (Int → Int))} {d : Nat} {sh : List aj_S} {g : aj_G} {Q : aj_R → List aj_S → aj_G → Prop} {r : Int} {k : Nat} {mnx : Nat → Nat → Nat} (hr : r = 58 ∨ r = 68) (hs : sus sh g r k) {c : Nat} {W : Nat → List Nat} {T : List (List Nat)} (hT : sT g r k c W mnx T) {L N : Nat} {mou : Nat → Nat → Nat} (hC : suC sh g L k N mnx mou) (ht : trS sh g) {L2 mi : Nat} {ix io : Nat → Nat → Nat} (hM : mcm sh g 41 L2 k mi ix io) (hmi : 0 < mi) (hk1 : ∀ (g1 : aj_G) (w : Nat) (h : w < T.length), trF g g1 → trG g1 c W ix io mnx mou → ffw (dD ix io mnx mou) T[w] ≠ -1 → (∀ (w' : Nat) (h' : w' < T.length), w' < w → ffw (dD ix io mnx mou) T[w'] = -1) → Q (.inl (some (0, (w : Int)))) sh g1) (hk0 : ∀ g1 : aj_G, trF g g1 → (∀ (w' : Nat) (h' : w' < T.length), ffw (dD ix io mnx mou) T[w'] = -1) → Q (.inl (some (0, -1))) sh g1) : ∀ (n i : Nat) (g1 : aj_G), 1 ≤ i → i ≤ c → c - i = n → trF g g1 → trG g1 i W ix io mnx mou →
    aj_wp nE al al X m_Trial_firstFailure (d + 3) 0 0 16 [some (1, 53), some (1, r), some (1, 41), some (0, (i : Int))] [] sh g1 Q := by
  have hc8 := hT.2.2.1
  intro n
  induction n using Nat.strongRecOn with
  | ind n ih =>
    intro i g1 hi0 hi hnn hF1 hG
    have hs1 : sus sh g1 r k := sus_of hs (fun j _ => by rw [hF1 r (by omega) (by omega)])
    have ht1 := trS_of ht (hF1 53 (by omega) (by omega))
    have hT1 : sT g1 r k c W mnx T := sT_of hT (by rw [hF1 r (by omega) (by omega)]) (by rw [hF1 r (by omega) (by omega)]) (fun j _ => hF1 _ (by omega) (by omega))
    refine aj_iload_n 3 17 (dx d_Trial_firstFailure 12 rfl) rfl rfl rfl ?_
    refine aj_aload_n 1 18 (dx d_Trial_firstFailure 13 rfl) rfl rfl rfl ?_
    refine aj_getfv (v := (c : Int)) 21 fl_Trial_18 (dx d_Trial_firstFailure 14 rfl) rfl hs1.1 hT1.1.1 ?_
    refine aj_icmp_ge 37 24 (dx d_Trial_firstFailure 15 rfl) rfl rfl (by unfold aj_I; omega) (by unfold aj_I; omega) (fun h21 => ?_) (fun h21 => ?_)
    · refine aj_iconst 38 (dx d_Trial_firstFailure 23 rfl) rfl ?_
      refine aj_istore_n 3 39 (dx d_Trial_firstFailure 24 rfl) rfl rfl rfl ?_
      simp only [List.set]
      exact k_ff_2 hr hs hT hC ht hM hmi hk1 hk0 hF1 (by rw [show i = c by omega] at hG; exact hG) _ 0 (Nat.zero_le _) rfl (fun w' _ h => absurd h (Nat.not_lt_zero _))
    · have hic : i < c := by omega
      refine aj_aload_n 0 25 (dx d_Trial_firstFailure 16 rfl) rfl rfl rfl ?_
      refine aj_aload_n 1 26 (dx d_Trial_firstFailure 17 rfl) rfl rfl rfl ?_
      refine aj_aload_n 2 27 (dx d_Trial_firstFailure 18 rfl) rfl rfl rfl ?_
      refine aj_iload_n 3 28 (dx d_Trial_firstFailure 19 rfl) rfl rfl rfl ?_
      refine aj_callV3 31 cl_Trial_24 (dx d_Trial_firstFailure 20 rfl) rfl rfl rfl rfl rfl rfl ht1.1 (k_Trial_step hr hs1 hT1 (suC_of hC (fun r' _ => hF1 r' (by omega) (by omega))) ht1 (mcm_of hM (hF1 _ (by omega) (by omega)) (hF1 _ (by omega) (by omega)) (hF1 _ (by omega) (by omega))) hmi hic (by omega) hG (fun g2 hF2 hG2 => ?_))
      change aj_wp _ _ _ _ _ _ _ _ _ _ _ _ _ _
      refine aj_iinc 3 34 (dx d_Trial_firstFailure 21 rfl) rfl rfl rfl ?_
      simp only [List.set]
      refine aj_goto 16 (dx d_Trial_firstFailure 22 rfl) rfl ?_
      rw [show ((i : Nat) : Int) + 1 = ((i + 1 : Nat) : Int) by omega]
      exact ih _ (by omega) (i + 1) g2 (by omega) (by omega) rfl (fun r' a b => (hF2 r' a b).trans (hF1 r' a b)) hG2
set_option maxHeartbeats 4000000 in
theorem k_Trial_firstFailure {al : Prop} {X : Option (Nat × (Int → Int))} {d : Nat} {sh : List aj_S} {g : aj_G} {Q : aj_R → List aj_S → aj_G → Prop} {r : Int} {k : Nat} {mnx : Nat → Nat → Nat} (hr : r = 58 ∨ r = 68) (hs : sus sh g r k) {c : Nat} {W : Nat → List Nat} {T : List (List Nat)} (hT : sT g r k c W mnx T) {L N : Nat} {mou : Nat → Nat → Nat} (hC : suC sh g L k N mnx mou) (ht : trS sh g) {L2 mi : Nat} {ix io : Nat → Nat → Nat} (hM : mcm sh g 41 L2 k mi ix io) (hmi : 0 < mi) (hk1 : ∀ (g1 : aj_G) (w : Nat) (h : w < T.length), trF g g1 → trG g1 c W ix io mnx mou → ffw (dD ix io mnx mou) T[w] ≠ -1 → (∀ (w' : Nat) (h' : w' < T.length), w' < w → ffw (dD ix io mnx mou) T[w'] = -1) → Q (.inl (some (0, (w : Int)))) sh g1) (hk0 : ∀ g1 : aj_G, trF g g1 → (∀ (w' : Nat) (h' : w' < T.length), ffw (dD ix io mnx mou) T[w'] = -1) → Q (.inl (some (0, -1))) sh g1) : aj_wp nE al al X m_Trial_firstFailure (d + 3) 0 0 0 [some (1, 53), some (1, r), some (1, 41), none] [] sh g Q := by
  refine aj_aload_n 0 1 (dx d_Trial_firstFailure 0 rfl) rfl rfl rfl ?_
  refine aj_getfv (v := 54) 4 fl_Trial_9 (dx d_Trial_firstFailure 1 rfl) rfl ht.1 (by first | exact ht.2.1.1 | ((repeat (first | rw [aj_up_ne _ _ _ (by omega)] | rw [aj_up_ni _ _ _ (by omega)])); exact ht.2.1.1)) ?_
  refine aj_iconst 5 (dx d_Trial_firstFailure 2 rfl) rfl ?_
  refine aj_iconst 6 (dx d_Trial_firstFailure 3 rfl) rfl ?_
  refine aj_iast 7 (dx d_Trial_firstFailure 4 rfl) rfl ht.2.2.1 rfl (by omega) (by omega) ?_
  refine aj_aload_n 0 8 (dx d_Trial_firstFailure 5 rfl) rfl rfl rfl ?_
  refine aj_getfv (v := 55) 11 fl_Trial_15 (dx d_Trial_firstFailure 6 rfl) rfl ht.1 (by first | exact ht.2.1.2 | ((repeat (first | rw [aj_up_ne _ _ _ (by omega)] | rw [aj_up_ni _ _ _ (by omega)])); exact ht.2.1.2)) ?_
  refine aj_iconst 12 (dx d_Trial_firstFailure 7 rfl) rfl ?_
  refine aj_iconst 13 (dx d_Trial_firstFailure 8 rfl) rfl ?_
  refine aj_iast 14 (dx d_Trial_firstFailure 9 rfl) rfl ht.2.2.2 rfl (by omega) (by omega) ?_
  refine aj_iconst 15 (dx d_Trial_firstFailure 10 rfl) rfl ?_
  refine aj_istore_n 3 16 (dx d_Trial_firstFailure 11 rfl) rfl rfl rfl ?_
  simp only [List.set]
  refine k_ff_1 hr hs hT hC ht hM hmi hk1 hk0 _ 1 _ (Nat.le_refl _) hT.2.1.1 rfl (fun r' a b => by rw [aj_up_ne _ _ _ b, aj_up_ne _ _ _ a]) (fun j hj => ?_)
  obtain rfl : j = 0 := by omega
  rw [hT.2.1.2.1]
  exact ⟨by rw [aj_up_ne _ _ _ (by omega)]; exact aj_up_self _ _ _ _, aj_up_self _ _ _ _⟩
