/-! Model: isAccess, suite -/
theorem ac_all {k n s0 : Nat} {nx : Nat → Nat → Nat} {tw : Nat → Nat} {j : Nat} {q : nb_T} (h : nb_I k n nx tw s0 j q) {a : Nat} (ha : a < q.1) : wd_ok k (ac q a) ∧ (ac q a).length ≤ a :=
  ⟨ac_ok (fun a h0 ha => (h.2.2.2.2.1 a h0 ha).1) (fun a h0 ha => (h.2.2.2.2.1 a h0 ha).2.1) a ha, ac_len (fun a h0 ha => (h.2.2.2.2.1 a h0 ha).1) a ha⟩
theorem suz_cg {a b : Prop} (h : a ↔ b) {m : Nat} {F : Nat → List Nat} {c : Nat} {O : Nat → ow_T} {mnx : Nat → Nat → Nat} {x y z : List Nat} : su_z a m F c O mnx x y z ↔ su_z b m F c O mnx x y z := by
  rw [propext h]
/-- the words of a suite are short, and some are there -/
theorem su_len {k N m c : Nat} {me : Int} {acc F : Nat → List Nat} {O : Nat → ow_T} {mnx : Nat → Nat → Nat} (hacc : ∀ i, i < N → (acc i).length ≤ 7) (hF : ∀ v, v < c → (F v).length ≤ 8) (hm : m ≤ 2) (hO : ∀ a v, a < N → v < (O a).1 → (O a).2 v < c) (hr : ∀ u, wd_ok k u → rn mnx 0 u < N) (hok : ∀ i, i < N → wd_ok k (acc i)) {w : List Nat} (h : su_P k N m me acc F c O mnx w) : w.length ≤ 18 := by
  obtain ⟨t, x, y, z, e, hy, h⟩ := h
  have e2 := congrArg List.length e
  rw [List.length_append, List.length_append, List.length_append] at e2
  have hz : ∀ all x, wd_ok k x → su_z all m F c O mnx x y z → z.length ≤ 8 ∧ y.length ≤ m := fun all x hx hz => by
    rcases hz with ⟨-, h1, rfl | ⟨v, v1, rfl⟩⟩ | ⟨-, h1, rfl | ⟨v, v1, rfl⟩⟩
    · exact ⟨Nat.zero_le _, h1⟩
    · exact ⟨hF v v1, h1⟩
    · exact ⟨Nat.zero_le _, by omega⟩
    · exact ⟨hF _ (hO _ v (hr _ (wd_ok_app2 hx hy)) v1), by omega⟩
  rcases h with ⟨⟨i, i1, rfl⟩, h⟩ | ⟨⟨i, a, i1, i2, rfl, -⟩, h⟩
  · have h1 := hz _ _ (hok i i1) h
    have h2 := hacc i i1
    omega
  · have h1 := hz _ _ (wd_ok_cons.mpr ⟨i2, hok i i1⟩) h
    have h2 := hacc i i1
    rw [List.length_cons] at e2
    omega
theorem su_0 {k N m c : Nat} {me : Int} {acc F : Nat → List Nat} {O : Nat → ow_T} {mnx : Nat → Nat → Nat} (hN : 0 < N) (h0 : acc 0 = []) : su_P k N m me acc F c O mnx [] :=
  ⟨[], [], [], [], rfl, wd_ok_nil k, Or.inl ⟨⟨0, hN, h0.symm⟩, Or.inl ⟨trivial, Nat.zero_le _, Or.inl rfl⟩⟩⟩
theorem su_1 {k N m c : Nat} {me : Int} {acc F : Nat → List Nat} {O : Nat → ow_T} {mnx : Nat → Nat → Nat} (hk : 0 < k) (hN : 0 < N) (h0 : acc 0 = []) : su_P k N m me acc F c O mnx [0] := by
  by_cases h : ∃ j, j < N ∧ acc j = [0]
  · obtain ⟨j, j1, j2⟩ := h
    exact ⟨[], acc j, [], [], by rw [j2]; rfl, wd_ok_nil k, Or.inl ⟨⟨j, j1, rfl⟩, Or.inl ⟨trivial, Nat.zero_le _, Or.inl rfl⟩⟩⟩
  · have hx : ∀ j, j < N → acc j ≠ [0] := fun j j1 e => h ⟨j, j1, e⟩
    by_cases hm : me = 0
    · exact ⟨[], [0], [], [], rfl, wd_ok_nil k, Or.inr ⟨⟨0, 0, hN, hk, by rw [h0], hx⟩, Or.inl ⟨hm, Nat.zero_le _, Or.inl rfl⟩⟩⟩
    · exact ⟨List.replicate m 0, [0], List.replicate m 0, [], rfl, fun i hi => by rw [List.eq_of_mem_replicate hi]; exact hk, Or.inr ⟨⟨0, 0, hN, hk, by rw [h0], hx⟩, Or.inr ⟨hm, List.length_replicate, Or.inl rfl⟩⟩⟩
set_option maxHeartbeats 4000000 in
theorem k_ia_loop {al : Prop} {X : Option (Nat × (Int → Int))} {d : Nat} {sh : List aj_S} {g : aj_G} {Q : aj_R → List aj_S → aj_G → Prop} {k n s0 : Nat} {nx ou : Nat → Nat → Nat} {tw : Nat → Nat} {N : Nat} {q : nb_T} {sf : Nat → Nat} {mnx mou : Nat → Nat → Nat} (hS : mS sh g k n s0 nx ou tw N q sf mnx mou) (hN : q.1 = N) {x : List Nat} (hx : wd_ok k x) (hlx : x.length ≤ 9) (hk1 : (∃ j, j < N ∧ ac q j = x) → Q (.inl (some (0, 1))) sh g) (hk0 : (∀ j, j < N → ac q j ≠ x) → Q (.inl (some (0, 0))) sh g) : ∀ (m i : Nat) (x1 : Int), i ≤ N → N - i = m → ((x1 = 1 ∧ ∃ j, j < i ∧ ac q j = x) ∨ (x1 = 0 ∧ ∀ j, j < i → ac q j ≠ x)) →
    aj_wp nE al al X m_Model_isAccess d 0 0 5 [some (1, 78), some (2, (wd_cd x : Int)), none, some (0, x1), some (0, (i : Int))] [] sh g Q := by
  have hk4 := hS.1.2.2.2.1
  have hn8 := hS.1.2.2.2.2.1
  have hN8 := nb_le hS.2.2.1.2.1
  have hxb := wd_lt63 (wd_ok_le (by omega) hx) (by omega)
  intro m
  induction m using Nat.strongRecOn with
  | ind m ih =>
    intro i x1 hi hmm hx1
    refine aj_iload 4 7 (dx d_Model_isAccess 4 rfl) rfl rfl ?_
    refine aj_aload_n 0 8 (dx d_Model_isAccess 5 rfl) rfl rfl rfl ?_
    refine aj_getfv (v := (N : Int)) 11 fl_Model_126 (dx d_Model_isAccess 6 rfl) rfl hS.1.1.1 (by rw [hS.2.2.1.2.2.1, hN]) ?_
    refine aj_icmp_ge 42 14 (dx d_Model_isAccess 7 rfl) rfl rfl (by unfold aj_I; omega) (by unfold aj_I; omega) (fun h11 => ?_) (fun h11 => ?_)
    · refine aj_iload_n 3 43 (dx d_Model_isAccess 23 rfl) rfl rfl rfl ?_
      refine aj_zret (dx d_Model_isAccess 24 rfl) rfl (by omega) id ?_
      have e : i = N := by omega
      subst e
      rcases hx1 with ⟨rfl, h⟩ | ⟨rfl, h⟩
      · exact hk1 h
      · exact hk0 h
    · have hiN : i < N := by omega
      obtain ⟨-, -, -, a4⟩ := hS.2.2.1.2.2.2.1 i (by omega)
      obtain ⟨b1, b2⟩ := ac_all hS.2.2.1.2.1 (show i < q.1 by omega)
      have b3 := wd_lt63 (wd_ok_le (by omega) b1) (by omega)
      refine aj_iload_n 3 15 (dx d_Model_isAccess 8 rfl) rfl rfl rfl ?_
      refine aj_if_ne 30 18 (dx d_Model_isAccess 9 rfl) rfl rfl (by rcases hx1 with ⟨h, -⟩ | ⟨h, -⟩ <;> rw [h] <;> unfold aj_I <;> omega) (fun h15 => ?_) (fun h15 => ?_)
      · have hyes : ∃ j, j < i ∧ ac q j = x := by
          rcases hx1 with ⟨-, h⟩ | ⟨h, -⟩
          · exact h
          · omega
        refine aj_iconst 31 (dx d_Model_isAccess 17 rfl) rfl ?_
        refine aj_goto 35 (dx d_Model_isAccess 18 rfl) rfl ?_
        refine aj_istore_n 3 36 (dx d_Model_isAccess 20 rfl) rfl rfl rfl ?_
        simp only [List.set]
        refine aj_iinc 4 39 (dx d_Model_isAccess 21 rfl) rfl rfl rfl ?_
        simp only [List.set]
        refine aj_goto 5 (dx d_Model_isAccess 22 rfl) rfl ?_
        rw [show ((i : Nat) : Int) + 1 = ((i + 1 : Nat) : Int) by omega]
        exact ih _ (by omega) (i + 1) 1 (by omega) rfl (Or.inl ⟨rfl, by obtain ⟨j, y1, y2⟩ := hyes; exact ⟨j, by omega, y2⟩⟩)
      · have hno : ∀ j, j < i → ac q j ≠ x := by
          rcases hx1 with ⟨h, -⟩ | ⟨-, h⟩
          · omega
          · exact h
        refine aj_aload_n 0 19 (dx d_Model_isAccess 10 rfl) rfl rfl rfl ?_
        refine aj_getfv (v := 84) 22 fl_Model_25 (dx d_Model_isAccess 11 rfl) rfl hS.1.1.1 (by first | exact mf_access hS.1.1 | (simp [aj_up_at]; exact mf_access hS.1.1) | exact mf_access (by assumption)) ?_
        refine aj_iload 4 24 (dx d_Model_isAccess 12 rfl) rfl rfl ?_
        refine aj_lald 25 (dx d_Model_isAccess 13 rfl) rfl (ms_access hS.1.1) rfl (by omega) (by omega) ?_
        rw [a4]
        refine aj_lload_n 1 26 (dx d_Model_isAccess 14 rfl) rfl rfl rfl ?_
        refine aj_lcmp 27 (dx d_Model_isAccess 15 rfl) rfl (by unfold aj_L; omega) (by unfold aj_L; omega) ?_
        refine aj_if_ne 34 30 (dx d_Model_isAccess 16 rfl) rfl rfl (sg_I _ _) (fun h27 => ?_) (fun h27 => ?_)
        · refine aj_iconst 35 (dx d_Model_isAccess 19 rfl) rfl ?_
          refine aj_istore_n 3 36 (dx d_Model_isAccess 20 rfl) rfl rfl rfl ?_
          simp only [List.set]
          refine aj_iinc 4 39 (dx d_Model_isAccess 21 rfl) rfl rfl rfl ?_
          simp only [List.set]
          refine aj_goto 5 (dx d_Model_isAccess 22 rfl) rfl ?_
          rw [show ((i : Nat) : Int) + 1 = ((i + 1 : Nat) : Int) by omega]
          exact ih _ (by omega) (i + 1) 0 (by omega) rfl (Or.inr ⟨rfl, fun j hj => by
            rcases Nat.lt_or_ge j i with z | z
            · exact hno j z
            · rw [show j = i by omega]
              intro e
              rw [e] at h27
              exact h27 (by rw [aj_sg, if_neg (by omega), if_pos rfl])⟩)
        · refine aj_iconst 31 (dx d_Model_isAccess 17 rfl) rfl ?_
          refine aj_goto 35 (dx d_Model_isAccess 18 rfl) rfl ?_
          refine aj_istore_n 3 36 (dx d_Model_isAccess 20 rfl) rfl rfl rfl ?_
          simp only [List.set]
          refine aj_iinc 4 39 (dx d_Model_isAccess 21 rfl) rfl rfl rfl ?_
          simp only [List.set]
          refine aj_goto 5 (dx d_Model_isAccess 22 rfl) rfl ?_
          rw [show ((i : Nat) : Int) + 1 = ((i + 1 : Nat) : Int) by omega]
          exact ih _ (by omega) (i + 1) 1 (by omega) rfl (Or.inl ⟨rfl, i, by omega, by
            refine wd_inj (wd_ok_le (by omega) b1) (wd_ok_le (by omega) hx) ?_
            rw [aj_sg] at h27
            split at h27 <;> (try split at h27) <;> omega⟩)
set_option maxHeartbeats 4000000 in
theorem k_Model_isAccess {al : Prop} {X : Option (Nat × (Int → Int))} {d : Nat} {sh : List aj_S} {g : aj_G} {Q : aj_R → List aj_S → aj_G → Prop} {k n s0 : Nat} {nx ou : Nat → Nat → Nat} {tw : Nat → Nat} {N : Nat} {q : nb_T} {sf : Nat → Nat} {mnx mou : Nat → Nat → Nat} (hS : mS sh g k n s0 nx ou tw N q sf mnx mou) (hN : q.1 = N) {x : List Nat} (hx : wd_ok k x) (hlx : x.length ≤ 9) (hk1 : (∃ j, j < N ∧ ac q j = x) → Q (.inl (some (0, 1))) sh g) (hk0 : (∀ j, j < N → ac q j ≠ x) → Q (.inl (some (0, 0))) sh g) : aj_wp nE al al X m_Model_isAccess d 0 0 0 [some (1, 78), some (2, (wd_cd x : Int)), none, none, none] [] sh g Q := by
  refine aj_iconst 1 (dx d_Model_isAccess 0 rfl) rfl ?_
  refine aj_istore_n 3 2 (dx d_Model_isAccess 1 rfl) rfl rfl rfl ?_
  simp only [List.set]
  refine aj_iconst 3 (dx d_Model_isAccess 2 rfl) rfl ?_
  refine aj_istore 4 5 (dx d_Model_isAccess 3 rfl) rfl rfl ?_
  simp only [List.set]
  exact k_ia_loop hS hN hx hlx hk1 hk0 _ 0 0 (by omega) rfl (Or.inr ⟨rfl, fun j hj => absurd hj (Nat.not_lt_zero _)⟩)
set_option maxHeartbeats 8000000 in
theorem k_su_i {al : Prop} {X : Option (Nat × (Int → Int))} {d : Nat} {sh : List aj_S} {g : aj_G} {Q : aj_R → List aj_S → aj_G → Prop} {k n s0 : Nat} {nx ou : Nat → Nat → Nat} {tw : Nat → Nat} {N : Nat} {q : nb_T} {sf : Nat → Nat} {mnx mou : Nat → Nat → Nat} (hS : mS sh g k n s0 nx ou tw N q sf mnx mou) (htw : tw_ok k n nx ou tw) (hcl : ∀ s i, s < n → i < k → nx s i < n) (hN : q.1 = N) (hsm : smm k n nx ou tw N q mnx mou) (hs0 : s0 < n) (h5 : g 78 5 = (s0 : Nat)) {m : Nat} (hm2 : m ≤ 2) {me : Int} (hme : me = 0 ∨ me = 1) {s : Nat} (hs : s < N)
    (hgo : ∀ (g1 : aj_G) (c1 : Nat) (W1 : Nat → List Nat), pF g g1 → tM g1 k c1 W1 (su_P k N m me (ac q) (FW k N mnx mou) (FC k N mnx mou) (FO k N mnx mou) mnx) → (∀ i, i < s + 1 → ∀ y z, wd_ok k y → su_z True m (FW k N mnx mou) (FC k N mnx mou) (FO k N mnx mou) mnx (ac q i) y z → c1 ≤ 800 → pr c1 W1 (z ++ (y ++ ac q i))) → (∀ i a, i < s + 1 → a < k → (∀ j, j < N → ac q j ≠ a :: ac q i) → ∀ y z, wd_ok k y → su_z (me = 0) m (FW k N mnx mou) (FC k N mnx mou) (FO k N mnx mou) mnx (a :: ac q i) y z → c1 ≤ 800 → pr c1 W1 (z ++ (y ++ a :: ac q i))) → aj_wp nE al al X m_Model_suite (d + 5) 0 0 147 [some (1, 78), some (0, me), some (0, (m : Int)), some (0, (s : Int)), none, none, none] [] sh g1 Q) :
    ∀ (j i : Nat) (g1 : aj_G) (c1 : Nat) (W1 : Nat → List Nat), i ≤ k → k - i = j → pF g g1 → tM g1 k c1 W1 (su_P k N m me (ac q) (FW k N mnx mou) (FC k N mnx mou) (FO k N mnx mou) mnx) → (∀ i, i < s + 1 → ∀ y z, wd_ok k y → su_z True m (FW k N mnx mou) (FC k N mnx mou) (FO k N mnx mou) mnx (ac q i) y z → c1 ≤ 800 → pr c1 W1 (z ++ (y ++ ac q i))) → (∀ i0 a, (i0 < s ∨ (i0 = s ∧ a < i)) → a < k → (∀ j, j < N → ac q j ≠ a :: ac q i0) → ∀ y z, wd_ok k y → su_z (me = 0) m (FW k N mnx mou) (FC k N mnx mou) (FO k N mnx mou) mnx (a :: ac q i0) y z → c1 ≤ 800 → pr c1 W1 (z ++ (y ++ a :: ac q i0))) →
    aj_wp nE al al X m_Model_suite (d + 5) 0 0 100 [some (1, 78), some (0, me), some (0, (m : Int)), some (0, (s : Int)), some (0, (i : Int)), none, none] [] sh g1 Q := by
  have hk4 := hS.1.2.2.2.1
  have hn8 := hS.1.2.2.2.2.1
  have hN8 := nb_le hS.2.2.1.2.1
  intro j
  induction j using Nat.strongRecOn with
  | ind j ih =>
    intro i g1 c1 W1 hi hjj hF hT hA hB
    have hS1 := mS_pF hS hF
    obtain ⟨-, -, -, a4⟩ := hS1.2.2.1.2.2.2.1 s (by omega)
    obtain ⟨b1, b2⟩ := ac_all hS.2.2.1.2.1 (show s < q.1 by omega)
    have hpb := wd_lt63 (wd_ok_le (show k ≤ 4 by omega) b1) (by omega)
    have hxok0 := b1
    refine aj_iload 4 102 (dx d_Model_suite 57 rfl) rfl rfl ?_
    refine aj_aload_n 0 103 (dx d_Model_suite 58 rfl) rfl rfl rfl ?_
    refine aj_getfv (v := (k : Int)) 106 fl_Model_89 (dx d_Model_suite 59 rfl) rfl hS1.1.1.1 hS1.1.2.2.1 ?_
    refine aj_icmp_ge 147 109 (dx d_Model_suite 60 rfl) rfl rfl (by unfold aj_I; omega) (by unfold aj_I; omega) (fun h106 => ?_) (fun h106 => ?_)
    · refine aj_forget 4 ?_
      simp only [List.set]
      exact hgo g1 c1 W1 hF hT hA (fun i0 a0 h1 h2 h3 => hB i0 a0 (by omega) h2 h3)
    · have hik : i < k := by omega
      have hxok : wd_ok k (i :: ac q s) := wd_ok_cons.mpr ⟨hik, b1⟩
      refine aj_aload_n 0 110 (dx d_Model_suite 61 rfl) rfl rfl rfl ?_
      refine aj_getfv (v := 84) 113 fl_Model_25 (dx d_Model_suite 62 rfl) rfl hS1.1.1.1 (by first | exact mf_access hS1.1.1 | (simp [aj_up_at]; exact mf_access hS1.1.1) | exact mf_access (by assumption)) ?_
      refine aj_iload_n 3 114 (dx d_Model_suite 63 rfl) rfl rfl rfl ?_
      refine aj_lald 115 (dx d_Model_suite 64 rfl) rfl (ms_access hS1.1.1) rfl (by omega) (by omega) ?_
      rw [a4]
      refine aj_iconst 116 (dx d_Model_suite 65 rfl) rfl ?_
      refine aj_lshl 117 (dx d_Model_suite 66 rfl) rfl (lg_shl hpb) ?_
      refine aj_iload 4 119 (dx d_Model_suite 67 rfl) rfl rfl ?_
      refine aj_i2l 120 (dx d_Model_suite 68 rfl) rfl (by unfold aj_I; omega) ?_
      refine aj_lor 121 (dx d_Model_suite 69 rfl) rfl (lg_or hpb (by omega)) ?_
      rw [show 4 * wd_cd (ac q s) + i = wd_cd (i :: ac q s) from rfl]
      refine aj_lstore 5 123 (dx d_Model_suite 70 rfl) rfl rfl rfl ?_
      simp only [List.set]
      refine aj_aload_n 0 124 (dx d_Model_suite 71 rfl) rfl rfl rfl ?_
      refine aj_lload 5 126 (dx d_Model_suite 72 rfl) rfl rfl ?_
      refine aj_callV1 129 cl_Model_179 (dx d_Model_suite 73 rfl) rfl rfl rfl rfl rfl rfl hS1.1.1.1 (k_Model_isAccess hS1 hN hxok (by rw [List.length_cons]; omega) (fun hia => ?_) (fun hia => ?_))
      · change aj_wp _ _ _ _ _ _ _ _ _ _ _ _ _ _
        refine aj_if_ne 141 132 (dx d_Model_suite 74 rfl) rfl rfl (by unfold aj_I; omega) (fun h129 => ?_) (fun h129 => ?_)
        · refine aj_iinc 4 144 (dx d_Model_suite 81 rfl) rfl rfl rfl ?_
          simp only [List.set]
          refine aj_goto 100 (dx d_Model_suite 82 rfl) rfl ?_
          refine aj_forget 5 ?_
          simp only [List.set]
          rw [show ((i : Nat) : Int) + 1 = ((i + 1 : Nat) : Int) by omega]
          exact ih _ (by omega) (i + 1) g1 c1 W1 (by omega) rfl hF hT hA (fun i0 a0 h1 h2 h3 => by
            rcases h1 with z | ⟨z1, z2⟩
            · exact hB i0 a0 (Or.inl z) h2 h3
            · rcases Nat.lt_or_ge a0 i with y | y
              · exact hB i0 a0 (Or.inr ⟨z1, y⟩) h2 h3
              · have e : a0 = i := by omega
                subst e
                subst z1
                obtain ⟨j, j1, j2⟩ := hia
                exact absurd j2 (h3 j j1))
        · exact absurd h129 (by decide)
      · change aj_wp _ _ _ _ _ _ _ _ _ _ _ _ _ _
        refine aj_if_ne 141 132 (dx d_Model_suite 74 rfl) rfl rfl (by unfold aj_I; omega) (fun h129 => ?_) (fun h129 => ?_)
        · exact absurd rfl h129
        · refine aj_aload_n 0 133 (dx d_Model_suite 75 rfl) rfl rfl rfl ?_
          refine aj_lload 5 135 (dx d_Model_suite 76 rfl) rfl rfl ?_
          refine aj_iload_n 1 136 (dx d_Model_suite 77 rfl) rfl rfl rfl ?_
          refine aj_iload_n 2 137 (dx d_Model_suite 78 rfl) rfl rfl rfl ?_
          refine aj_iconst 138 (dx d_Model_suite 79 rfl) rfl ?_
          refine aj_callV4 141 cl_Model_175 (dx d_Model_suite 80 rfl) rfl rfl rfl rfl rfl rfl hS1.1.1.1 (k_Model_putAll (me := me) (ia := 0) hS1 htw hcl hN hsm hs0 ((hF.2 5 (by omega)).trans h5) hxok (by rw [List.length_cons]; omega) hm2 hme (Or.inl rfl) (fun v z hv hz u t e => ⟨t, i :: ac q s, v, z, e, hv, Or.inr ⟨⟨s, i, hs, hik, rfl, hia⟩, (suz_cg (by omega)).mp hz⟩⟩) hT (fun g2 c2 W2 hF2 hT2 hX2 hpr => ?_))
          change aj_wp _ _ _ _ _ _ _ _ _ _ _ _ _ _
          refine aj_iinc 4 144 (dx d_Model_suite 81 rfl) rfl rfl rfl ?_
          simp only [List.set]
          refine aj_goto 100 (dx d_Model_suite 82 rfl) rfl ?_
          refine aj_forget 5 ?_
          simp only [List.set]
          rw [show ((i : Nat) : Int) + 1 = ((i + 1 : Nat) : Int) by omega]
          exact ih _ (by omega) (i + 1) g2 c2 W2 (by omega) rfl (pF_trans hF hF2) hT2 (fun i0 h1 y z h2 h3 h4 => pr_ex hX2 (hA i0 h1 y z h2 h3 (by have := hX2.1; omega))) (fun i0 a0 h1 h2 h3 y z h4 h5' h6 => by
            rcases h1 with w | ⟨w1, w2⟩
            · exact pr_ex hX2 (hB i0 a0 (Or.inl w) h2 h3 y z h4 h5' (by have := hX2.1; omega))
            · rcases Nat.lt_or_ge a0 i with y' | y'
              · exact pr_ex hX2 (hB i0 a0 (Or.inr ⟨w1, y'⟩) h2 h3 y z h4 h5' (by have := hX2.1; omega))
              · have e : a0 = i := by omega
                subst e
                subst w1
                exact hpr y z h4 ((suz_cg (by omega)).mpr h5') h6)
set_option maxHeartbeats 8000000 in
theorem k_su_s {al : Prop} {X : Option (Nat × (Int → Int))} {d : Nat} {sh : List aj_S} {g : aj_G} {Q : aj_R → List aj_S → aj_G → Prop} {k n s0 : Nat} {nx ou : Nat → Nat → Nat} {tw : Nat → Nat} {N : Nat} {q : nb_T} {sf : Nat → Nat} {mnx mou : Nat → Nat → Nat} (hS : mS sh g k n s0 nx ou tw N q sf mnx mou) (htw : tw_ok k n nx ou tw) (hcl : ∀ s i, s < n → i < k → nx s i < n) (hN : q.1 = N) (hsm : smm k n nx ou tw N q mnx mou) (hs0 : s0 < n) (h5 : g 78 5 = (s0 : Nat)) {m : Nat} (hm2 : m ≤ 2) {me : Int} (hme : me = 0 ∨ me = 1)
    (hgo : ∀ (g1 : aj_G) (c1 : Nat) (W1 : Nat → List Nat), pF g g1 → tM g1 k c1 W1 (su_P k N m me (ac q) (FW k N mnx mou) (FC k N mnx mou) (FO k N mnx mou) mnx) → (∀ i, i < N → ∀ y z, wd_ok k y → su_z True m (FW k N mnx mou) (FC k N mnx mou) (FO k N mnx mou) mnx (ac q i) y z → c1 ≤ 800 → pr c1 W1 (z ++ (y ++ ac q i))) → (∀ i a, i < N → a < k → (∀ j, j < N → ac q j ≠ a :: ac q i) → ∀ y z, wd_ok k y → su_z (me = 0) m (FW k N mnx mou) (FC k N mnx mou) (FO k N mnx mou) mnx (a :: ac q i) y z → c1 ≤ 800 → pr c1 W1 (z ++ (y ++ a :: ac q i))) → aj_wp nE al al X m_Model_suite (d + 5) 0 0 153 [some (1, 78), some (0, me), some (0, (m : Int)), none, none, none, none] [] sh g1 Q) :
    ∀ (j s : Nat) (g1 : aj_G) (c1 : Nat) (W1 : Nat → List Nat), s ≤ N → N - s = j → pF g g1 → tM g1 k c1 W1 (su_P k N m me (ac q) (FW k N mnx mou) (FC k N mnx mou) (FO k N mnx mou) mnx) → (∀ i, i < s → ∀ y z, wd_ok k y → su_z True m (FW k N mnx mou) (FC k N mnx mou) (FO k N mnx mou) mnx (ac q i) y z → c1 ≤ 800 → pr c1 W1 (z ++ (y ++ ac q i))) → (∀ i a, i < s → a < k → (∀ j, j < N → ac q j ≠ a :: ac q i) → ∀ y z, wd_ok k y → su_z (me = 0) m (FW k N mnx mou) (FC k N mnx mou) (FO k N mnx mou) mnx (a :: ac q i) y z → c1 ≤ 800 → pr c1 W1 (z ++ (y ++ a :: ac q i))) →
    aj_wp nE al al X m_Model_suite (d + 5) 0 0 76 [some (1, 78), some (0, me), some (0, (m : Int)), some (0, (s : Int)), none, none, none] [] sh g1 Q := by
  have hk4 := hS.1.2.2.2.1
  have hn8 := hS.1.2.2.2.2.1
  have hN8 := nb_le hS.2.2.1.2.1
  intro j
  induction j using Nat.strongRecOn with
  | ind j ih =>
    intro s g1 c1 W1 hs hjj hF hT hA hB
    have hS1 := mS_pF hS hF
    refine aj_iload_n 3 77 (dx d_Model_suite 42 rfl) rfl rfl rfl ?_
    refine aj_aload_n 0 78 (dx d_Model_suite 43 rfl) rfl rfl rfl ?_
    refine aj_getfv (v := (N : Int)) 81 fl_Model_126 (dx d_Model_suite 44 rfl) rfl hS1.1.1.1 (by rw [hS1.2.2.1.2.2.1, hN]) ?_
    refine aj_icmp_ge 153 84 (dx d_Model_suite 45 rfl) rfl rfl (by unfold aj_I; omega) (by unfold aj_I; omega) (fun h81 => ?_) (fun h81 => ?_)
    · refine aj_forget 3 ?_
      simp only [List.set]
      exact hgo g1 c1 W1 hF hT (fun i h1 => hA i (by omega)) (fun i a h1 => hB i a (by omega))
    · have hsN : s < N := by omega
      obtain ⟨-, -, -, a4⟩ := hS1.2.2.1.2.2.2.1 s (by omega)
      obtain ⟨b1, b2⟩ := ac_all hS.2.2.1.2.1 (show s < q.1 by omega)
      refine aj_aload_n 0 85 (dx d_Model_suite 46 rfl) rfl rfl rfl ?_
      refine aj_aload_n 0 86 (dx d_Model_suite 47 rfl) rfl rfl rfl ?_
      refine aj_getfv (v := 84) 89 fl_Model_25 (dx d_Model_suite 48 rfl) rfl hS1.1.1.1 (by first | exact mf_access hS1.1.1 | (simp [aj_up_at]; exact mf_access hS1.1.1) | exact mf_access (by assumption)) ?_
      refine aj_iload_n 3 90 (dx d_Model_suite 49 rfl) rfl rfl rfl ?_
      refine aj_lald 91 (dx d_Model_suite 50 rfl) rfl (ms_access hS1.1.1) rfl (by omega) (by omega) ?_
      rw [a4]
      refine aj_iload_n 1 92 (dx d_Model_suite 51 rfl) rfl rfl rfl ?_
      refine aj_iload_n 2 93 (dx d_Model_suite 52 rfl) rfl rfl rfl ?_
      refine aj_iconst 94 (dx d_Model_suite 53 rfl) rfl ?_
      refine aj_callV4 97 cl_Model_175 (dx d_Model_suite 54 rfl) rfl rfl rfl rfl rfl rfl hS1.1.1.1 (k_Model_putAll (me := me) (ia := 1) hS1 htw hcl hN hsm hs0 ((hF.2 5 (by omega)).trans h5) b1 (by omega) hm2 hme (Or.inr rfl) (fun v z hv hz u t e => ⟨t, ac q s, v, z, e, hv, Or.inl ⟨⟨s, hsN, rfl⟩, (suz_cg (by simp)).mp hz⟩⟩) hT (fun g2 c2 W2 hF2 hT2 hX2 hpr => ?_))
      change aj_wp _ _ _ _ _ _ _ _ _ _ _ _ _ _
      refine aj_iconst 98 (dx d_Model_suite 55 rfl) rfl ?_
      refine aj_istore 4 100 (dx d_Model_suite 56 rfl) rfl rfl ?_
      simp only [List.set]
      refine k_su_i (g := g2) (mS_pF hS1 hF2) htw hcl hN hsm hs0 (((pF_trans hF hF2).2 5 (by omega)).trans h5) hm2 hme hsN (fun g3 c3 W3 hF3 hT3 hA3 hB3 => ?_) _ 0 g2 c2 W2 (Nat.zero_le _) rfl (pF_refl _) hT2 (fun i0 h1 y z h2 h3 h4 => by
        rcases Nat.lt_or_ge i0 s with w | w
        · exact pr_ex hX2 (hA i0 w y z h2 h3 (by have := hX2.1; omega))
        · have e : i0 = s := by omega
          subst e
          exact hpr y z h2 ((suz_cg (by simp)).mpr h3) h4) (fun i0 a h1 h2 h3 y z h4 h5' h6 => by
        rcases h1 with w | ⟨-, w⟩
        · exact pr_ex hX2 (hB i0 a w h2 h3 y z h4 h5' (by have := hX2.1; omega))
        · omega)
      refine aj_iinc 3 150 (dx d_Model_suite 83 rfl) rfl rfl rfl ?_
      simp only [List.set]
      refine aj_goto 76 (dx d_Model_suite 84 rfl) rfl ?_
      rw [show ((s : Nat) : Int) + 1 = ((s + 1 : Nat) : Int) by omega]
      exact ih _ (by omega) (s + 1) g3 c3 W3 (by omega) rfl (pF_trans (pF_trans hF hF2) hF3) hT3 hA3 hB3
set_option maxHeartbeats 4000000 in
theorem k_su_c {al : Prop} {X : Option (Nat × (Int → Int))} {d : Nat} {sh : List aj_S} {g : aj_G} {Q : aj_R → List aj_S → aj_G → Prop} {m : Nat} {me : Int} (hm : mos sh g) (hgo : ∀ g1 : aj_G, ((∀ r, r ≠ 90 → g1 r = g r) ∧ ∀ j : Nat, j < 2403 → g1 90 j = g 91 j) → aj_wp nE al al X m_Model_suite d 0 0 216 [some (1, 78), some (0, me), some (0, (m : Int)), none, none, none, none] [] sh g1 Q) :
    ∀ (y x : Nat) (g1 : aj_G), x ≤ 2403 → 2403 - x = y → ((∀ r, r ≠ 90 → g1 r = g r) ∧ ∀ j : Nat, j < x → g1 90 j = g 91 j) → aj_wp nE al al X m_Model_suite d 0 0 191 [some (1, 78), some (0, me), some (0, (m : Int)), some (0, (x : Int)), none, none, none] [] sh g1 Q := by
  intro y
  induction y using Nat.strongRecOn with
  | ind y ih =>
    intro x g1 hx hyy hK
    have hm1 : mos sh g1 := mos_of hm (fun j _ => by rw [hK.1 78 (by omega)])
    refine aj_iload_n 3 192 (dx d_Model_suite 105 rfl) rfl rfl rfl ?_
    refine aj_sipush 195 (dx d_Model_suite 106 rfl) rfl (by decide +kernel) ?_
    refine aj_icmp_ge 216 198 (dx d_Model_suite 107 rfl) rfl rfl (by unfold aj_I; omega) (by unfold aj_I; omega) (fun h195 => ?_) (fun h195 => ?_)
    · refine aj_forget 3 ?_
      simp only [List.set]
      exact hgo g1 (by rw [show x = 2403 by omega] at hK; exact hK)
    · refine aj_aload_n 0 199 (dx d_Model_suite 108 rfl) rfl rfl rfl ?_
      refine aj_getfv (v := 90) 202 fl_Model_48 (dx d_Model_suite 109 rfl) rfl hm1.1 (by first | exact mf_child hm1 | (simp [aj_up_at]; exact mf_child hm1) | exact mf_child (by assumption)) ?_
      refine aj_iload_n 3 203 (dx d_Model_suite 110 rfl) rfl rfl rfl ?_
      refine aj_aload_n 0 204 (dx d_Model_suite 111 rfl) rfl rfl rfl ?_
      refine aj_getfv (v := 91) 207 fl_Model_51 (dx d_Model_suite 112 rfl) rfl hm1.1 (by first | exact mf_newChild hm1 | (simp [aj_up_at]; exact mf_newChild hm1) | exact mf_newChild (by assumption)) ?_
      refine aj_iload_n 3 208 (dx d_Model_suite 113 rfl) rfl rfl rfl ?_
      refine aj_iald 209 (dx d_Model_suite 114 rfl) rfl (ms_newChild hm1) rfl (by omega) (by omega) ?_
      refine aj_iast 210 (dx d_Model_suite 115 rfl) rfl (ms_child hm1) rfl (by omega) (by omega) ?_
      refine aj_iinc 3 213 (dx d_Model_suite 116 rfl) rfl rfl rfl ?_
      simp only [List.set]
      refine aj_goto 191 (dx d_Model_suite 117 rfl) rfl ?_
      rw [show ((x : Nat) : Int) + 1 = ((x + 1 : Nat) : Int) by omega]
      refine ih _ (by omega) (x + 1) _ (by omega) rfl ⟨fun r hr => by rw [aj_up_ne _ _ _ hr]; exact hK.1 r hr, fun j hj => ?_⟩
      by_cases e : j = x
      · subst e; rw [aj_up_self, hK.1 91 (by omega)]
      · rw [aj_up_ni _ _ _ (by omega)]; exact hK.2 j (by omega)
set_option maxHeartbeats 4000000 in
theorem k_su_z {al : Prop} {X : Option (Nat × (Int → Int))} {d : Nat} {sh : List aj_S} {g : aj_G} {Q : aj_R → List aj_S → aj_G → Prop} {m : Nat} {me : Int} (hm : mos sh g) (hgo : ∀ g1 : aj_G, ((∀ r, r ≠ 91 → g1 r = g r) ∧ ∀ j : Nat, j < 2403 → g1 91 j = 0) → aj_wp nE al al X m_Model_suite d 0 0 69 [some (1, 78), some (0, me), some (0, (m : Int)), none, none, none, none] [] sh g1 Q) :
    ∀ (y x : Nat) (g1 : aj_G), x ≤ 2403 → 2403 - x = y → ((∀ r, r ≠ 91 → g1 r = g r) ∧ ∀ j : Nat, j < x → g1 91 j = 0) → aj_wp nE al al X m_Model_suite d 0 0 49 [some (1, 78), some (0, me), some (0, (m : Int)), some (0, (x : Int)), none, none, none] [] sh g1 Q := by
  intro y
  induction y using Nat.strongRecOn with
  | ind y ih =>
    intro x g1 hx hyy hK
    have hm1 : mos sh g1 := mos_of hm (fun j _ => by rw [hK.1 78 (by omega)])
    refine aj_iload_n 3 50 (dx d_Model_suite 27 rfl) rfl rfl rfl ?_
    refine aj_sipush 53 (dx d_Model_suite 28 rfl) rfl (by decide +kernel) ?_
    refine aj_icmp_ge 69 56 (dx d_Model_suite 29 rfl) rfl rfl (by unfold aj_I; omega) (by unfold aj_I; omega) (fun h53 => ?_) (fun h53 => ?_)
    · refine aj_forget 3 ?_
      simp only [List.set]
      exact hgo g1 (by rw [show x = 2403 by omega] at hK; exact hK)
    · refine aj_aload_n 0 57 (dx d_Model_suite 30 rfl) rfl rfl rfl ?_
      refine aj_getfv (v := 91) 60 fl_Model_51 (dx d_Model_suite 31 rfl) rfl hm1.1 (by first | exact mf_newChild hm1 | (simp [aj_up_at]; exact mf_newChild hm1) | exact mf_newChild (by assumption)) ?_
      refine aj_iload_n 3 61 (dx d_Model_suite 32 rfl) rfl rfl rfl ?_
      refine aj_iconst 62 (dx d_Model_suite 33 rfl) rfl ?_
      refine aj_iast 63 (dx d_Model_suite 34 rfl) rfl (ms_newChild hm1) rfl (by omega) (by omega) ?_
      refine aj_iinc 3 66 (dx d_Model_suite 35 rfl) rfl rfl rfl ?_
      simp only [List.set]
      refine aj_goto 49 (dx d_Model_suite 36 rfl) rfl ?_
      rw [show ((x : Nat) : Int) + 1 = ((x + 1 : Nat) : Int) by omega]
      refine ih _ (by omega) (x + 1) _ (by omega) rfl ⟨fun r hr => by rw [aj_up_ne _ _ _ hr]; exact hK.1 r hr, fun j hj => ?_⟩
      by_cases e : j = x
      · subst e; rw [aj_up_self]
      · rw [aj_up_ni _ _ _ (by omega)]; exact hK.2 j (by omega)
/-- a made suite in the model -/
def mT (g : aj_G) (k c : Nat) (W : Nat → List Nat) (T : List (List Nat)) : Prop := g 78 20 = 1 ∧ g 78 21 = c ∧ g 78 25 = T.length ∧ tr_I k c W ∧ c ≤ 800 ∧ (∀ p, p < c → (W p).length ≤ 18) ∧ T = lvF (pr c W) k 20 [] ∧ (∃ a, a < k ∧ pr c W [a]) ∧ ∀ (t : Nat) (h : t < T.length), ∃ p : Nat, p < c ∧ g 92 t = p ∧ W p = T[t] ∧ pbM g c W p
def msF (g g1 : aj_G) : Prop := (∀ r, r ≠ 78 → r < 90 ∨ 94 < r → g1 r = g r) ∧ ∀ j, j ≠ 0 → j ≠ 20 → j ≠ 21 → j ≠ 23 → j ≠ 25 → j ≠ 30 → g1 78 j = g 78 j
set_option maxHeartbeats 8000000 in
theorem k_Model_suite {al : Prop} {X : Option (Nat × (Int → Int))} {d : Nat} {sh : List aj_S} {g : aj_G} {Q : aj_R → List aj_S → aj_G → Prop} {k n s0 : Nat} {nx ou : Nat → Nat → Nat} {tw : Nat → Nat} {N : Nat} {q : nb_T} {sf : Nat → Nat} {mnx mou : Nat → Nat → Nat} (hS : mS sh g k n s0 nx ou tw N q sf mnx mou) (htw : tw_ok k n nx ou tw) (hcl : ∀ s i, s < n → i < k → nx s i < n) (hN : q.1 = N) (hsm : smm k n nx ou tw N q mnx mou) (hs0 : s0 < n) (h5 : g 78 5 = (s0 : Nat)) {m : Nat} (hm2 : m ≤ 2) {me : Int} (hme : me = 0 ∨ me = 1) (hse : g 78 6 = 1)
    (hk0 : ∀ (g1 : aj_G) (c : Nat) (W : Nat → List Nat), msF g g1 → g1 78 0 = 0 → g1 78 30 = -1 → (∀ w, pr c W w ↔ (su_P k N m me (ac q) (FW k N mnx mou) (FC k N mnx mou) (FO k N mnx mou) mnx) w) → mT g1 k c W (lvF (pr c W) k 20 []) → Q (.inl (some (0, ((lvF (pr c W) k 20 []).length : Int)))) sh g1)
    (hk3 : ∀ (g1 : aj_G) (W : Nat → List Nat), msF g g1 → g1 78 0 = 3 → (∀ j, j ≠ 0 → j ≠ 23 → g1 78 j = g 78 j) → (∀ r, r ≠ 78 → r ≠ 91 → g1 r = g r) → tr_I k 801 W → (∀ p, p < 801 → (su_P k N m me (ac q) (FW k N mnx mou) (FC k N mnx mou) (FO k N mnx mou) mnx) (W p)) → Q (.inl (some (0, 0))) sh g1) :
    aj_wp nE al al X m_Model_suite (d + 5) 0 0 0 [some (1, 78), some (0, me), some (0, (m : Int)), none, none, none, none] [] sh g Q := by
  have hk4 := hS.1.2.2.2.1
  have hn8 := hS.1.2.2.2.2.1
  have hN8 := nb_le hS.2.2.1.2.1
  have h0N : 0 < N := by rw [← hN]; exact hS.2.2.1.2.1.1
  have hM := hS.1
  have hm0 : mos sh (aj_up g 78 0 0) := mos_of hM.1 (fun j hj => by rw [aj_up_ni _ _ _ (by unfold mo_fin at hj; omega)])
  refine aj_aload_n 0 1 (dx d_Model_suite 0 rfl) rfl rfl rfl ?_
  refine aj_iload_n 1 2 (dx d_Model_suite 1 rfl) rfl rfl rfl ?_
  refine aj_if_lt 19 5 (dx d_Model_suite 2 rfl) rfl rfl (by unfold aj_I; omega) (fun h2 => ?_) (fun h2 => ?_)
  · exact absurd h2 (by omega)
  · refine aj_iload_n 1 6 (dx d_Model_suite 3 rfl) rfl rfl rfl ?_
    refine aj_iconst 7 (dx d_Model_suite 4 rfl) rfl ?_
    refine aj_icmp_gt 19 10 (dx d_Model_suite 5 rfl) rfl rfl (by unfold aj_I; omega) (by unfold aj_I; omega) (fun h7 => ?_) (fun h7 => ?_)
    · exact absurd h7 (by omega)
    · refine aj_iload_n 2 11 (dx d_Model_suite 6 rfl) rfl rfl rfl ?_
      refine aj_if_lt 19 14 (dx d_Model_suite 7 rfl) rfl rfl (by unfold aj_I; omega) (fun h11 => ?_) (fun h11 => ?_)
      · exact absurd h11 (by omega)
      · refine aj_iload_n 2 15 (dx d_Model_suite 8 rfl) rfl rfl rfl ?_
        refine aj_iconst 16 (dx d_Model_suite 9 rfl) rfl ?_
        refine aj_icmp_le 23 19 (dx d_Model_suite 10 rfl) rfl rfl (by unfold aj_I; omega) (by unfold aj_I; omega) (fun h16 => ?_) (fun h16 => ?_)
        · refine aj_aload_n 0 24 (dx d_Model_suite 13 rfl) rfl rfl rfl ?_
          refine aj_getfv (v := 1) 27 fl_Model_105 (dx d_Model_suite 14 rfl) rfl hM.1.1 (by first | exact hse | (simp [aj_up_at]; exact hse)) ?_
          refine aj_if_ne 34 30 (dx d_Model_suite 15 rfl) rfl rfl (by unfold aj_I; omega) (fun h27 => ?_) (fun h27 => ?_)
          · refine aj_iconst 35 (dx d_Model_suite 18 rfl) rfl ?_
            refine aj_putf 38 (pl_Model_92 _) (dx d_Model_suite 19 rfl) rfl hM.1.1 (aj_fitI _) ?_
            refine aj_aload_n 0 39 (dx d_Model_suite 20 rfl) rfl rfl rfl ?_
            refine aj_getf 42 fl_Model_92 (dx d_Model_suite 21 rfl) rfl hM.1.1 ?_
            rw [show aj_up g 78 0 0 78 0 = 0 by rw [aj_up_self]]
            refine aj_if_le 47 45 (dx d_Model_suite 22 rfl) rfl rfl (by unfold aj_I; omega) (fun h42 => ?_) (fun h42 => ?_)
            · refine aj_iconst 48 (dx d_Model_suite 25 rfl) rfl ?_
              refine aj_istore_n 3 49 (dx d_Model_suite 26 rfl) rfl rfl rfl ?_
              simp only [List.set]
              refine k_su_z (g := aj_up g 78 0 0) hm0 (fun g1 hK1 => ?_) _ 0 _ (by omega) rfl ⟨fun r _ => rfl, fun j hj => absurd hj (Nat.not_lt_zero _)⟩
              have hm1 : mos sh g1 := mos_of hm0 (fun j _ => by rw [hK1.1 78 (by omega)])
              have hS1 : mS sh g1 k n s0 nx ou tw N q sf mnx mou := mS_of hS (fun r a b => by rw [hK1.1 r (by omega), aj_up_ne _ _ _ (by omega)]) (fun j hj => by rw [hK1.1 78 (by omega), aj_up_ni _ _ _ (by unfold mo_fin at hj; omega)])
              refine aj_aload_n 0 70 (dx d_Model_suite 37 rfl) rfl rfl rfl ?_
              refine aj_iconst 71 (dx d_Model_suite 38 rfl) rfl ?_
              refine aj_putf 74 (pl_Model_160 _) (dx d_Model_suite 39 rfl) rfl hm1.1 (aj_fitI _) ?_
              refine aj_iconst 75 (dx d_Model_suite 40 rfl) rfl ?_
              refine aj_istore_n 3 76 (dx d_Model_suite 41 rfl) rfl rfl rfl ?_
              simp only [List.set]
              have hS2 : mS sh (aj_up g1 78 23 1) k n s0 nx ou tw N q sf mnx mou := mS_of hS1 (fun r a b => by rw [aj_up_ne _ _ _ (by omega)]) (fun j hj => by rw [aj_up_ni _ _ _ (by unfold mo_fin at hj; omega)])
              have hT0 : tM (aj_up g1 78 23 1) k 1 (fun _ => []) (su_P k N m me (ac q) (FW k N mnx mou) (FC k N mnx mou) (FO k N mnx mou) mnx) := by
                refine ⟨⟨by omega, rfl, fun p _ => wd_ok_nil k, fun p h0 h1 => by omega, fun p q h1 h2 _ => by omega⟩, fun p _ => su_0 h0N (ac_0 q), by rw [aj_up_self]; rfl, by omega, fun p a hp ha => Or.inr ⟨(fun _ _ z => by cases z), ?_⟩, fun j _ hj => ?_⟩
                · rw [aj_up_ne _ _ _ (by omega)]
                  have := hK1.2 (3 * p + a) (by omega)
                  rw [← this]; congr 1
                · rw [aj_up_ne _ _ _ (by omega)]; exact hK1.2 j hj
              have h52 : aj_up g1 78 23 1 78 5 = (s0 : Nat) := by rw [aj_up_ni _ _ _ (by omega), hK1.1 78 (by omega), aj_up_ni _ _ _ (by omega)]; exact h5
              refine k_su_s hS2 htw hcl hN hsm hs0 h52 hm2 hme (fun g2 c2 W2 hF2 hT2 hA2 hB2 => ?_) _ 0 _ 1 (fun _ => []) (Nat.zero_le _) rfl (pF_refl _) hT0 (fun i h => absurd h (Nat.not_lt_zero _)) (fun i a h => absurd h (Nat.not_lt_zero _))
              have hS3 := mS_pF hS2 hF2
              have hfr : ∀ r, r ≠ 78 → r ≠ 91 → g2 r = g r := fun r x1 x2 => by rw [hF2.1 r x1 x2, aj_up_ne _ _ _ x1, hK1.1 r x2, aj_up_ne _ _ _ x1]
              have hf8 : ∀ j, j ≠ 0 → j ≠ 23 → g2 78 j = g 78 j := fun j x1 x2 => by rw [hF2.2 j x2, aj_up_ni _ _ _ x2, hK1.1 78 (by omega), aj_up_ni _ _ _ x1]
              have hc801 := hT2.2.2.2.1
              have hlenP : ∀ w, (su_P k N m me (ac q) (FW k N mnx mou) (FC k N mnx mou) (FO k N mnx mou) mnx) w → w.length ≤ 18 := fun w hw => su_len (fun i hi => by have := (ac_all hS.2.2.1.2.1 (show i < q.1 by omega)).2; omega) (fun v hv => (hS.2.2.2.1.2.2 v hv).2.2) hm2 (fun a v ha hv => ow_lt (fun j hj hne => fm_cov hS.2.2.2.2.1 a j ha hj hne) N (Nat.le_refl _) v hv) (fun u hu => (mo_st hS htw hcl hN hsm hs0 hu).1) (fun i hi => (ac_all hS.2.2.1.2.1 (show i < q.1 by omega)).1) hw
              refine aj_aload_n 0 154 (dx d_Model_suite 85 rfl) rfl rfl rfl ?_
              refine aj_aload_n 0 155 (dx d_Model_suite 86 rfl) rfl rfl rfl ?_
              refine aj_getfv (v := (c2 : Int)) 158 fl_Model_160 (dx d_Model_suite 87 rfl) rfl hS3.1.1.1 hT2.2.2.1 ?_
              refine aj_sipush 161 (dx d_Model_suite 88 rfl) rfl (by decide +kernel) ?_
              refine aj_icmp_le 168 164 (dx d_Model_suite 89 rfl) rfl rfl (by unfold aj_I; omega) (by unfold aj_I; omega) (fun h161 => ?_) (fun h161 => ?_)
              · refine aj_iconst 169 (dx d_Model_suite 92 rfl) rfl ?_
                have hc8 : c2 ≤ 800 := by omega
                refine aj_putf 172 (pl_Model_92 _) (dx d_Model_suite 93 rfl) rfl hS3.1.1.1 (aj_fitI _) ?_
                refine aj_aload_n 0 173 (dx d_Model_suite 94 rfl) rfl rfl rfl ?_
                refine aj_getf 176 fl_Model_92 (dx d_Model_suite 95 rfl) rfl hS3.1.1.1 ?_
                rw [show aj_up g2 78 0 0 78 0 = 0 by rw [aj_up_self]]
                refine aj_if_le 181 179 (dx d_Model_suite 96 rfl) rfl rfl (by unfold aj_I; omega) (fun h176 => ?_) (fun h176 => ?_)
                · refine aj_aload_n 0 182 (dx d_Model_suite 99 rfl) rfl rfl rfl ?_
                  refine aj_aload_n 0 183 (dx d_Model_suite 100 rfl) rfl rfl rfl ?_
                  refine aj_getfv (v := (c2 : Int)) 186 fl_Model_160 (dx d_Model_suite 101 rfl) rfl hS3.1.1.1 (by first | exact hT2.2.2.1 | (simp [aj_up_at]; exact hT2.2.2.1)) ?_
                  refine aj_putf 189 (pl_Model_183 _) (dx d_Model_suite 102 rfl) rfl hS3.1.1.1 (aj_fitI _) ?_
                  refine aj_iconst 190 (dx d_Model_suite 103 rfl) rfl ?_
                  refine aj_istore_n 3 191 (dx d_Model_suite 104 rfl) rfl rfl rfl ?_
                  simp only [List.set]
                  have hmm4 : mos sh (aj_up (aj_up g2 78 0 0) 78 21 (c2 : Nat)) := mos_of hS3.1.1 (fun j hj => by rw [aj_up_ni _ _ _ (by unfold mo_fin at hj; omega), aj_up_ni _ _ _ (by unfold mo_fin at hj; omega)])
                  refine k_su_c hmm4 (fun g4 hK4 => ?_) _ 0 _ (by omega) rfl ⟨fun r _ => rfl, fun j hj => absurd hj (Nat.not_lt_zero _)⟩
                  have hM4 : mmm sh g4 k n nx ou := mmm_of hS3.1 (fun j hj => by rw [hK4.1 78 (by omega), aj_up_ni _ _ _ (by unfold mo_fin at hj; omega), aj_up_ni _ _ _ (by unfold mo_fin at hj; omega)]) (by rw [hK4.1 79 (by omega), aj_up_ne _ _ _ (by omega), aj_up_ne _ _ _ (by omega)]) (by rw [hK4.1 80 (by omega), aj_up_ne _ _ _ (by omega), aj_up_ne _ _ _ (by omega)])
                  have hch4 : chd g4 90 c2 W2 := fun p a hp ha => by
                    have e : g4 90 (3 * (p : Int) + a) = g2 91 (3 * (p : Int) + a) := by
                      have := hK4.2 (3 * p + a) (by omega)
                      rw [aj_up_ne _ _ _ (by omega), aj_up_ne _ _ _ (by omega)] at this
                      rw [show (3 * (p : Int) + (a : Int)) = ((3 * p + a : Nat) : Int) by omega]
                      exact this
                    rw [e]
                    exact hT2.2.2.2.2.1 p a hp ha
                  have hPe : ∀ w, pr c2 W2 w ↔ (su_P k N m me (ac q) (FW k N mnx mou) (FC k N mnx mou) (FO k N mnx mou) mnx) w := fun w => by
                    constructor
                    · rintro ⟨p, p1, rfl⟩; exact hT2.2.1 p p1
                    · rintro ⟨t, x, y, z, e, hy, h⟩
                      refine pr_suf hT2.1 t w ?_
                      rw [e]
                      rcases h with ⟨⟨i, i1, rfl⟩, h⟩ | ⟨⟨i, a, i1, i2, rfl, i3⟩, h⟩
                      · exact hA2 i i1 y z hy h hc8
                      · exact hB2 i a i1 i2 i3 y z hy h hc8
                  have hch1 : ∃ a, a < k ∧ pr c2 W2 [a] := ⟨0, by omega, (hPe [0]).mpr (su_1 (by omega) h0N (ac_0 q))⟩
                  have hl18 : ∀ p, p < c2 → (W2 p).length ≤ 18 := fun p hp => hlenP _ (hT2.2.1 p hp)
                  refine aj_aload_n 0 217 (dx d_Model_suite 118 rfl) rfl rfl rfl ?_
                  refine aj_callV0 220 cl_Model_186 (dx d_Model_suite 119 rfl) rfl rfl rfl rfl rfl rfl hM4.1.1 (k_Model_list hM4 hT2.1 hc8 hch4 (fun p hp => by have := hl18 p hp; omega) hch1 (fun g5 hL5 => ?_))
                  change aj_wp _ _ _ _ _ _ _ _ _ _ _ _ _ _
                  have hM5 := lsM_M hM4 hL5
                  refine aj_aload_n 0 221 (dx d_Model_suite 120 rfl) rfl rfl rfl ?_
                  refine aj_iconst 222 (dx d_Model_suite 121 rfl) rfl ?_
                  refine aj_putf 225 (pl_Model_189 _) (dx d_Model_suite 122 rfl) rfl hM5.1.1 (aj_fitZ (by omega)) ?_
                  refine aj_aload_n 0 226 (dx d_Model_suite 123 rfl) rfl rfl rfl ?_
                  refine aj_iconst 227 (dx d_Model_suite 124 rfl) rfl ?_
                  refine aj_putf 230 (pl_Model_67 _) (dx d_Model_suite 125 rfl) rfl hM5.1.1 (aj_fitI _) ?_
                  refine aj_aload_n 0 231 (dx d_Model_suite 126 rfl) rfl rfl rfl ?_
                  refine aj_getfv (v := ((lvF (pr c2 W2) k 20 []).length : Int)) 234 fl_Model_192 (dx d_Model_suite 127 rfl) rfl hM5.1.1 (by simp [aj_up_at]; exact hL5.2.1) ?_
                  refine aj_iret (dx d_Model_suite 128 rfl) rfl id ?_
                  have e8 : ∀ j, j ≠ 0 → j ≠ 20 → j ≠ 21 → j ≠ 23 → j ≠ 25 → j ≠ 30 → aj_up (aj_up g5 78 20 1) 78 30 (-1) 78 j = g 78 j := fun j x0 x1 x2 x3 x4 x5 => by
                    rw [aj_up_ni _ _ _ x5, aj_up_ni _ _ _ x1, hL5.1.2 j x4, hK4.1 78 (by omega), aj_up_ni _ _ _ x2, aj_up_ni _ _ _ x0]; exact hf8 j x0 x3
                  refine hk0 _ c2 W2 ⟨fun r x1 x2 => ?_, e8⟩ ?_ ?_ hPe ⟨?_, ?_, ?_, hT2.1, hc8, hl18, rfl, hch1, fun t ht => ?_⟩
                  · rw [aj_up_ne _ _ _ x1, aj_up_ne _ _ _ x1, hL5.1.1 r x1 (by omega) (by omega) (by omega), hK4.1 r (by omega), aj_up_ne _ _ _ x1, aj_up_ne _ _ _ x1]; exact hfr r x1 (by omega)
                  · rw [aj_up_ni _ _ _ (by omega), aj_up_ni _ _ _ (by omega), hL5.1.2 0 (by omega), hK4.1 78 (by omega), aj_up_ni _ _ _ (by omega), aj_up_self]
                  · rw [aj_up_self]
                  · rw [aj_up_ni _ _ _ (by omega), aj_up_self]
                  · rw [aj_up_ni _ _ _ (by omega), aj_up_ni _ _ _ (by omega), hL5.1.2 21 (by omega), hK4.1 78 (by omega), aj_up_self]
                  · rw [aj_up_ni _ _ _ (by omega), aj_up_ni _ _ _ (by omega)]; exact hL5.2.1
                  · obtain ⟨p, y1, y2, y3, y4⟩ := hL5.2.2 t ht
                    refine ⟨p, y1, by rw [aj_up_ne _ _ _ (by omega), aj_up_ne _ _ _ (by omega)]; exact y2, y3, fun t b v e => ?_⟩
                    obtain ⟨q', r', z1, z2, z3, z4, z5, z6⟩ := y4 t b v e
                    exact ⟨q', r', z1, z2, z3, z4, by rw [aj_up_ne _ _ _ (by omega), aj_up_ne _ _ _ (by omega)]; exact z5, by rw [aj_up_ne _ _ _ (by omega), aj_up_ne _ _ _ (by omega)]; exact z6⟩
                · exact absurd h176 (by decide)
              · refine aj_iconst 165 (dx d_Model_suite 90 rfl) rfl ?_
                refine aj_goto 169 (dx d_Model_suite 91 rfl) rfl ?_
                refine aj_putf 172 (pl_Model_92 _) (dx d_Model_suite 93 rfl) rfl hS3.1.1.1 (aj_fitI _) ?_
                refine aj_aload_n 0 173 (dx d_Model_suite 94 rfl) rfl rfl rfl ?_
                refine aj_getf 176 fl_Model_92 (dx d_Model_suite 95 rfl) rfl hS3.1.1.1 ?_
                rw [show aj_up g2 78 0 3 78 0 = 3 by rw [aj_up_self]]
                refine aj_if_le 181 179 (dx d_Model_suite 96 rfl) rfl rfl (by unfold aj_I; omega) (fun h176 => ?_) (fun h176 => ?_)
                · exact absurd h176 (by decide)
                · refine aj_iconst 180 (dx d_Model_suite 97 rfl) rfl ?_
                  refine aj_iret (dx d_Model_suite 98 rfl) rfl id ?_
                  have e : c2 = 801 := by omega
                  subst e
                  exact hk3 _ W2 ⟨fun r x1 x2 => by rw [aj_up_ne _ _ _ x1]; exact hfr r x1 (by omega), fun j x0 x1 x2 x3 x4 x5 => by rw [aj_up_ni _ _ _ x0]; exact hf8 j x0 x3⟩ (by rw [aj_up_self]) (fun j x0 x3 => by rw [aj_up_ni _ _ _ x0]; exact hf8 j x0 x3) (fun r x1 x2 => by rw [aj_up_ne _ _ _ x1]; exact hfr r x1 x2) hT2.1 hT2.2.1
            · exact absurd h42 (by decide)
          · exact absurd h27 (by decide)
        · exact absurd h16 (by omega)
set_option maxHeartbeats 4000000 in
theorem k_Model_suite1 {al : Prop} {X : Option (Nat × (Int → Int))} {d : Nat} {sh : List aj_S} {g : aj_G} {Q : aj_R → List aj_S → aj_G → Prop} {x y z : Int} (hm : mos sh g) (hse : g 78 6 = z) (hz : z = 0 ∨ z = 1) (hx : aj_I x) (hy : aj_I y) (hne : ¬ ((((0 ≤ x ∧ x ≤ 1) ∧ (0 ≤ y ∧ y ≤ 2))) ∧ z = 1)) (hk1 : ¬ ((0 ≤ x ∧ x ≤ 1) ∧ (0 ≤ y ∧ y ≤ 2)) → Q (.inl (some (0, 0))) sh (aj_up g 78 0 1)) (hk2 : (0 ≤ x ∧ x ≤ 1) ∧ (0 ≤ y ∧ y ≤ 2) → z = 0 → Q (.inl (some (0, 0))) sh (aj_up g 78 0 2)) : aj_wp nE al al X m_Model_suite d 0 0 0 [some (1, 78), some (0, x), some (0, y), none, none, none, none] [] sh g Q := by
  refine aj_aload_n 0 1 (dx d_Model_suite 0 rfl) rfl rfl rfl ?_
  refine aj_iload_n 1 2 (dx d_Model_suite 1 rfl) rfl rfl rfl ?_
  refine aj_if_lt 19 5 (dx d_Model_suite 2 rfl) rfl rfl hx (fun h2 => ?_) (fun h2 => ?_)
  · refine aj_iconst 20 (dx d_Model_suite 11 rfl) rfl ?_
    refine aj_goto 35 (dx d_Model_suite 12 rfl) rfl ?_
    refine aj_putf 38 (pl_Model_92 _) (dx d_Model_suite 19 rfl) rfl hm.1 (aj_fitI _) ?_
    refine aj_aload_n 0 39 (dx d_Model_suite 20 rfl) rfl rfl rfl ?_
    refine aj_getf 42 fl_Model_92 (dx d_Model_suite 21 rfl) rfl hm.1 ?_
    rw [show aj_up g 78 0 1 78 0 = 1 by rw [aj_up_self]]
    refine aj_if_le 47 45 (dx d_Model_suite 22 rfl) rfl rfl (by unfold aj_I; omega) (fun h42 => ?_) (fun h42 => ?_)
    · exact absurd h42 (by decide)
    · refine aj_iconst 46 (dx d_Model_suite 23 rfl) rfl ?_
      refine aj_iret (dx d_Model_suite 24 rfl) rfl id ?_
      exact hk1 (by omega)
  · refine aj_iload_n 1 6 (dx d_Model_suite 3 rfl) rfl rfl rfl ?_
    refine aj_iconst 7 (dx d_Model_suite 4 rfl) rfl ?_
    refine aj_icmp_gt 19 10 (dx d_Model_suite 5 rfl) rfl rfl hx (by unfold aj_I; omega) (fun h7 => ?_) (fun h7 => ?_)
    · refine aj_iconst 20 (dx d_Model_suite 11 rfl) rfl ?_
      refine aj_goto 35 (dx d_Model_suite 12 rfl) rfl ?_
      refine aj_putf 38 (pl_Model_92 _) (dx d_Model_suite 19 rfl) rfl hm.1 (aj_fitI _) ?_
      refine aj_aload_n 0 39 (dx d_Model_suite 20 rfl) rfl rfl rfl ?_
      refine aj_getf 42 fl_Model_92 (dx d_Model_suite 21 rfl) rfl hm.1 ?_
      rw [show aj_up g 78 0 1 78 0 = 1 by rw [aj_up_self]]
      refine aj_if_le 47 45 (dx d_Model_suite 22 rfl) rfl rfl (by unfold aj_I; omega) (fun h42 => ?_) (fun h42 => ?_)
      · exact absurd h42 (by decide)
      · refine aj_iconst 46 (dx d_Model_suite 23 rfl) rfl ?_
        refine aj_iret (dx d_Model_suite 24 rfl) rfl id ?_
        exact hk1 (by omega)
    · refine aj_iload_n 2 11 (dx d_Model_suite 6 rfl) rfl rfl rfl ?_
      refine aj_if_lt 19 14 (dx d_Model_suite 7 rfl) rfl rfl hy (fun h11 => ?_) (fun h11 => ?_)
      · refine aj_iconst 20 (dx d_Model_suite 11 rfl) rfl ?_
        refine aj_goto 35 (dx d_Model_suite 12 rfl) rfl ?_
        refine aj_putf 38 (pl_Model_92 _) (dx d_Model_suite 19 rfl) rfl hm.1 (aj_fitI _) ?_
        refine aj_aload_n 0 39 (dx d_Model_suite 20 rfl) rfl rfl rfl ?_
        refine aj_getf 42 fl_Model_92 (dx d_Model_suite 21 rfl) rfl hm.1 ?_
        rw [show aj_up g 78 0 1 78 0 = 1 by rw [aj_up_self]]
        refine aj_if_le 47 45 (dx d_Model_suite 22 rfl) rfl rfl (by unfold aj_I; omega) (fun h42 => ?_) (fun h42 => ?_)
        · exact absurd h42 (by decide)
        · refine aj_iconst 46 (dx d_Model_suite 23 rfl) rfl ?_
          refine aj_iret (dx d_Model_suite 24 rfl) rfl id ?_
          exact hk1 (by omega)
      · refine aj_iload_n 2 15 (dx d_Model_suite 8 rfl) rfl rfl rfl ?_
        refine aj_iconst 16 (dx d_Model_suite 9 rfl) rfl ?_
        refine aj_icmp_le 23 19 (dx d_Model_suite 10 rfl) rfl rfl hy (by unfold aj_I; omega) (fun h16 => ?_) (fun h16 => ?_)
        · refine aj_aload_n 0 24 (dx d_Model_suite 13 rfl) rfl rfl rfl ?_
          refine aj_getfv (v := z) 27 fl_Model_105 (dx d_Model_suite 14 rfl) rfl hm.1 (by first | exact hse | (simp [aj_up_at]; exact hse)) ?_
          refine aj_if_ne 34 30 (dx d_Model_suite 15 rfl) rfl rfl (by unfold aj_I; omega) (fun h27 => ?_) (fun h27 => ?_)
          · refine aj_iconst 35 (dx d_Model_suite 18 rfl) rfl ?_
            exact (hne (by omega)).elim
          · refine aj_iconst 31 (dx d_Model_suite 16 rfl) rfl ?_
            refine aj_goto 35 (dx d_Model_suite 17 rfl) rfl ?_
            refine aj_putf 38 (pl_Model_92 _) (dx d_Model_suite 19 rfl) rfl hm.1 (aj_fitI _) ?_
            refine aj_aload_n 0 39 (dx d_Model_suite 20 rfl) rfl rfl rfl ?_
            refine aj_getf 42 fl_Model_92 (dx d_Model_suite 21 rfl) rfl hm.1 ?_
            rw [show aj_up g 78 0 2 78 0 = 2 by rw [aj_up_self]]
            refine aj_if_le 47 45 (dx d_Model_suite 22 rfl) rfl rfl (by unfold aj_I; omega) (fun h42 => ?_) (fun h42 => ?_)
            · exact absurd h42 (by decide)
            · refine aj_iconst 46 (dx d_Model_suite 23 rfl) rfl ?_
              refine aj_iret (dx d_Model_suite 24 rfl) rfl id ?_
              exact hk2 (by omega) (by omega)
        · refine aj_iconst 20 (dx d_Model_suite 11 rfl) rfl ?_
          refine aj_goto 35 (dx d_Model_suite 12 rfl) rfl ?_
          refine aj_putf 38 (pl_Model_92 _) (dx d_Model_suite 19 rfl) rfl hm.1 (aj_fitI _) ?_
          refine aj_aload_n 0 39 (dx d_Model_suite 20 rfl) rfl rfl rfl ?_
          refine aj_getf 42 fl_Model_92 (dx d_Model_suite 21 rfl) rfl hm.1 ?_
          rw [show aj_up g 78 0 1 78 0 = 1 by rw [aj_up_self]]
          refine aj_if_le 47 45 (dx d_Model_suite 22 rfl) rfl rfl (by unfold aj_I; omega) (fun h42 => ?_) (fun h42 => ?_)
          · exact absurd h42 (by decide)
          · refine aj_iconst 46 (dx d_Model_suite 23 rfl) rfl ?_
            refine aj_iret (dx d_Model_suite 24 rfl) rfl id ?_
            exact hk1 (by omega)
