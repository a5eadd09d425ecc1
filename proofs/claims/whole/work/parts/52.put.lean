/-! trees of words; the words of a suite; Model.put -/
theorem aj_callV5 {E : aj_E} {al ao : Prop} {X : Option (Nat × (Int → Int))} {M : aj_M} {d bc bs pc : Nat} {lv : List (Option aj_A)} {sh : List aj_S} {g : aj_G} {Q : aj_R → List aj_S → aj_G → Prop} {N : aj_M} {index ci d1 bc1 bs1 bc2 bs2 : Nat} {r : Int} {rest : List aj_A} {v1 v2 v3 v4 v5 : aj_A} (q : Nat) (hl : aj_vl E M.1.cls index N 5 ci) (hd : decode M.2.1 pc = .ok (.invokevirtual index, 3)) (hq : pc + 3 = q) (hdd : d1 + 1 = d) (hbc : bc2 + bc1 = bc) (hbs : bs2 + bs1 = bs) (hwt : Nat.ble (aj_wt rest) 8 = true) (hea : Nat.ble (aj_ea [(1, r), v1, v2, v3, v4, v5]).length N.2.2.1 = true)
    (hs : aj_sh sh r = some (.inr ci)) (k : aj_wp E al al X N d1 bc1 bs1 0 (aj_en [(1, r), v1, v2, v3, v4, v5] N.2.2.1) [] sh g (aj_K E al ao X M d bc2 bs2 q lv rest Q)) : aj_wp E al ao X M d bc bs pc lv (v5 :: v4 :: v3 :: v2 :: v1 :: (1, r) :: rest) sh g Q :=
  aj_callV [v1, v2, v3, v4, v5] q hl hd hq rfl hdd hbc hbs hwt hea hs k
/-- nodes with their words (last letter first): the root, each other node behind an earlier one, no word twice -/
def tr_I (k c : Nat) (W : Nat → List Nat) : Prop := 0 < c ∧ W 0 = [] ∧ (∀ p, p < c → wd_ok k (W p)) ∧ (∀ p, 0 < p → p < c → ∃ a q, q < p ∧ W p = a :: W q) ∧ ∀ p q, p < c → q < c → W p = W q → p = q
def tr_up (W : Nat → List Nat) (c : Nat) (x : List Nat) : Nat → List Nat := fun p => if p = c then x else W p
theorem tr_up_self (W : Nat → List Nat) (c : Nat) (x : List Nat) : tr_up W c x c = x := if_pos rfl
theorem tr_up_ne (W : Nat → List Nat) {c p : Nat} (x : List Nat) (h : p ≠ c) : tr_up W c x p = W p := if_neg h
def pr (c : Nat) (W : Nat → List Nat) (w : List Nat) : Prop := ∃ p, p < c ∧ W p = w
def tr_ex (c : Nat) (W : Nat → List Nat) (c' : Nat) (W' : Nat → List Nat) : Prop := c ≤ c' ∧ ∀ p, p < c → W' p = W p
theorem tr_ex_refl (c : Nat) (W : Nat → List Nat) : tr_ex c W c W := ⟨Nat.le_refl _, fun _ _ => rfl⟩
theorem tr_ex_trans {c c1 c2 : Nat} {W W1 W2 : Nat → List Nat} (h : tr_ex c W c1 W1) (h' : tr_ex c1 W1 c2 W2) : tr_ex c W c2 W2 := ⟨Nat.le_trans h.1 h'.1, fun p hp => (h'.2 p (Nat.lt_of_lt_of_le hp h.1)).trans (h.2 p hp)⟩
theorem pr_ex {c c1 : Nat} {W W1 : Nat → List Nat} {w : List Nat} (h : tr_ex c W c1 W1) (hp : pr c W w) : pr c1 W1 w := by
  obtain ⟨p, p1, p2⟩ := hp
  exact ⟨p, Nat.lt_of_lt_of_le p1 h.1, by rw [h.2 p p1]; exact p2⟩
theorem tr_ex_up {c : Nat} {W : Nat → List Nat} (x : List Nat) : tr_ex c W (c + 1) (tr_up W c x) := ⟨Nat.le_succ _, fun p hp => tr_up_ne _ _ (by omega)⟩
/-- beginnings are there too -/
theorem pr_suf {k c : Nat} {W : Nat → List Nat} (h : tr_I k c W) : ∀ (t w : List Nat), pr c W (t ++ w) → pr c W w
  | [], w, hp => hp
  | a :: t, w, hp => by
    obtain ⟨p, p1, p2⟩ := hp
    have hp0 : 0 < p := by
      rcases Nat.eq_zero_or_pos p with z | z
      · rw [z, h.2.1] at p2; cases p2
      · exact z
    obtain ⟨b, q, q1, q2⟩ := h.2.2.2.1 p hp0 p1
    rw [q2] at p2
    have e : W q = t ++ w := (List.cons.inj p2).2
    exact pr_suf h t w ⟨q, by omega, e⟩
theorem tr_add {k c p a : Nat} {W : Nat → List Nat} (h : tr_I k c W) (hp : p < c) (ha : a < k) (hn : ∀ q, q < c → W q ≠ a :: W p) : tr_I k (c + 1) (tr_up W c (a :: W p)) := by
  obtain ⟨h1, h2, h3, h4, h5⟩ := h
  refine ⟨by omega, by rw [tr_up_ne _ _ (by omega)]; exact h2, fun q hq => ?_, fun q hq0 hq => ?_, fun q r hq hr e => ?_⟩
  · by_cases e : q = c
    · rw [e, tr_up_self]; exact wd_ok_cons.mpr ⟨ha, h3 p hp⟩
    · rw [tr_up_ne _ _ e]; exact h3 q (by omega)
  · by_cases e : q = c
    · rw [e, tr_up_self]; exact ⟨a, p, hp, by rw [tr_up_ne _ _ (by omega)]⟩
    · obtain ⟨b, r, r1, r2⟩ := h4 q hq0 (by omega)
      exact ⟨b, r, r1, by rw [tr_up_ne _ _ e, tr_up_ne _ _ (by omega)]; exact r2⟩
  · by_cases eq : q = c
    · by_cases er : r = c
      · omega
      · rw [eq, tr_up_self, tr_up_ne _ _ er] at e
        exact absurd e.symm (hn r (by omega))
    · by_cases er : r = c
      · rw [er, tr_up_self, tr_up_ne _ _ eq] at e
        exact absurd e (hn q (by omega))
      · rw [tr_up_ne _ _ eq, tr_up_ne _ _ er] at e
        exact h5 q r (by omega) (by omega) e
/-- two trees: the words of the one are among the other's -/
theorem tr_le {k c c' : Nat} {W W' : Nat → List Nat} (h : tr_I k c W) (hs : ∀ p, p < c → pr c' W' (W p)) : c ≤ c' := by
  have hf : ∀ p, ∃ q, p < c → q < c' ∧ W' q = W p := fun p => by
    by_cases z : p < c
    · obtain ⟨q, q1, q2⟩ := hs p z
      exact ⟨q, fun _ => ⟨q1, q2⟩⟩
    · exact ⟨0, fun y => absurd y z⟩
  refine pg_hole c' c (fun p => Classical.choose (hf p)) (fun p hp => (Classical.choose_spec (hf p) hp).1) (fun p q hp hq e => ?_)
  have e1 := (Classical.choose_spec (hf p) hp).2
  have e2 := (Classical.choose_spec (hf q) hq).2
  have e' : Classical.choose (hf p) = Classical.choose (hf q) := e
  rw [e'] at e1
  exact h.2.2.2.2 p q hp hq (e1.symm.trans e2)
/-! the words of a suite: x y z, laid as z ++ (y ++ x) -/
def su_z (all : Prop) (m : Nat) (F : Nat → List Nat) (c : Nat) (O : Nat → ow_T) (mnx : Nat → Nat → Nat) (x y z : List Nat) : Prop :=
  (all ∧ y.length ≤ m ∧ (z = [] ∨ ∃ v, v < c ∧ z = F v)) ∨ (¬ all ∧ y.length = m ∧ (z = [] ∨ ∃ v, v < (O (rn mnx 0 (y ++ x))).1 ∧ z = F ((O (rn mnx 0 (y ++ x))).2 v)))
def su_gen (k N m : Nat) (meth : Int) (acc : Nat → List Nat) (F : Nat → List Nat) (c : Nat) (O : Nat → ow_T) (mnx : Nat → Nat → Nat) (u : List Nat) : Prop :=
  ∃ x y z, u = z ++ (y ++ x) ∧ wd_ok k y ∧ (((∃ i, i < N ∧ x = acc i) ∧ su_z True m F c O mnx x y z) ∨ ((∃ i a, i < N ∧ a < k ∧ x = a :: acc i ∧ ∀ j, j < N → acc j ≠ x) ∧ su_z (meth = 0) m F c O mnx x y z))
def su_P (k N m : Nat) (meth : Int) (acc : Nat → List Nat) (F : Nat → List Nat) (c : Nat) (O : Nat → ow_T) (mnx : Nat → Nat → Nat) (w : List Nat) : Prop := ∃ t, su_gen k N m meth acc F c O mnx (t ++ w)
/-! the model's tree: a row of children, three for a node, 0 for none -/
def chd (g : aj_G) (r : Int) (c : Nat) (W : Nat → List Nat) : Prop := ∀ p a : Nat, p < c → a < 3 → (∃ q : Nat, q < c ∧ W q = a :: W p ∧ g r (3 * (p : Int) + a) = q) ∨ ((∀ q, q < c → W q ≠ a :: W p) ∧ g r (3 * (p : Int) + a) = 0)
def tM (g : aj_G) (k c : Nat) (W : Nat → List Nat) (P : List Nat → Prop) : Prop := tr_I k c W ∧ (∀ p, p < c → P (W p)) ∧ g 78 23 = c ∧ c ≤ 801 ∧ chd g 91 c W ∧ ∀ j : Nat, 3 * c ≤ j → j < 2403 → g 91 j = 0
theorem tM_add {g : aj_G} {k c p a : Nat} {W : Nat → List Nat} {P : List Nat → Prop} (h : tM g k c W P) (hp : p < c) (ha : a < k) (ha3 : a < 3) (hc : c ≤ 800) (hn : ∀ q, q < c → W q ≠ a :: W p) (hP : P (a :: W p)) : tM (aj_up (aj_up g 91 (3 * (p : Int) + a) c) 78 23 ((c : Int) + 1)) k (c + 1) (tr_up W c (a :: W p)) P := by
  obtain ⟨h1, h2, h3, h4, h5, h6⟩ := h
  refine ⟨tr_add h1 hp ha hn, fun q hq => ?_, by rw [aj_up_self]; push_cast; rfl, by omega, fun q b hq hb => ?_, fun j hj hj2 => ?_⟩
  · by_cases e : q = c
    · rw [e, tr_up_self]; exact hP
    · rw [tr_up_ne _ _ e]; exact h2 q (by omega)
  · rw [aj_up_ne _ _ _ (by omega)]
    by_cases e : q = c
    · subst e
      refine Or.inr ⟨fun r hr z => ?_, by rw [aj_up_ni _ _ _ (by omega)]; exact h6 (3 * q + b) (by omega) (by omega)⟩
      rw [tr_up_self] at z
      by_cases er : r = q
      · rw [er, tr_up_self] at z
        have := congrArg List.length z
        simp at this
      · rw [tr_up_ne _ _ er] at z
        have hr0 : 0 < r := by
          rcases Nat.eq_zero_or_pos r with y | y
          · rw [y, h1.2.1] at z; cases z
          · exact y
        obtain ⟨b', s, s1, s2⟩ := h1.2.2.2.1 r hr0 (by omega)
        rw [s2] at z
        exact hn s (by omega) (List.cons.inj z).2
    · rw [tr_up_ne _ _ e]
      by_cases e2 : q = p ∧ b = a
      · obtain ⟨rfl, rfl⟩ := e2
        exact Or.inl ⟨c, by omega, tr_up_self _ _ _, by rw [aj_up_self]⟩
      · rw [aj_up_ni _ _ _ (by omega)]
        rcases h5 q b (by omega) hb with ⟨r, r1, r2, r3⟩ | ⟨r1, r2⟩
        · exact Or.inl ⟨r, by omega, by rw [tr_up_ne _ _ (by omega)]; exact r2, r3⟩
        · refine Or.inr ⟨fun r hr z => ?_, r2⟩
          by_cases er : r = c
          · rw [er, tr_up_self] at z
            obtain ⟨z1, z2⟩ := List.cons.inj z
            exact e2 ⟨(h1.2.2.2.2 p q hp (by omega) z2).symm, z1.symm⟩
          · rw [tr_up_ne _ _ er] at z
            exact r1 r (by omega) z
  · rw [aj_up_ne _ _ _ (by omega), aj_up_ni _ _ _ (by omega)]
    exact h6 j (by omega) hj2
theorem tM_of {g g1 : aj_G} {k c : Nat} {W : Nat → List Nat} {P : List Nat → Prop} (h : tM g k c W P) (e1 : g1 91 = g 91) (e2 : g1 78 23 = g 78 23) : tM g1 k c W P := by
  unfold tM chd at h ⊢
  rw [e1, e2]
  exact h
def pF (g g1 : aj_G) : Prop := (∀ r, r ≠ 78 → r ≠ 91 → g1 r = g r) ∧ ∀ j, j ≠ 23 → g1 78 j = g 78 j
theorem pF_refl (g : aj_G) : pF g g := ⟨fun _ _ _ => rfl, fun _ _ => rfl⟩
theorem pF_trans {g g1 g2 : aj_G} (h : pF g g1) (h' : pF g1 g2) : pF g g2 := ⟨fun r a b => (h'.1 r a b).trans (h.1 r a b), fun j hj => (h'.2 j hj).trans (h.2 j hj)⟩
theorem pF_m {sh : List aj_S} {g g1 : aj_G} (hm : mos sh g) (h : pF g g1) : mos sh g1 := mos_of hm (fun j hj => h.2 j (by unfold mo_fin at hj; omega))
set_option maxHeartbeats 4000000 in
theorem k_put_w {al : Prop} {X : Option (Nat × (Int → Int))} {d : Nat} {sh : List aj_S} {g : aj_G} {Q : aj_R → List aj_S → aj_G → Prop} {k : Nat} {P : List Nat → Prop} (hk3 : k ≤ 3) {w b : List Nat} (hok : wd_ok k w) (hl : w.length ≤ 24) (hP : ∀ v t, t ++ v = w ++ b → P v) {c : Nat} {W : Nat → List Nat} {xa xb xc pt : Int} (hm : mos sh g)
    (hgo : ∀ (g1 : aj_G) (c1 : Nat) (W1 : Nat → List Nat) (p1 : Nat), pF g g1 → tM g1 k c1 W1 P → tr_ex c W c1 W1 → (c1 ≤ 800 → p1 < c1 ∧ W1 p1 = w ++ b) → aj_wp nE al al X m_Model_put (d + 2) 0 0 118 [some (1, 78), some (2, xa), none, some (2, xb), none, some (2, xc), none, some (0, (p1 : Int)), some (0, pt), none, none, none, none] [] sh g1 Q) :
    ∀ (m i : Nat) (g1 : aj_G) (c1 : Nat) (W1 : Nat → List Nat) (p1 : Nat), i ≤ w.length → w.length - i = m → pF g g1 → tM g1 k c1 W1 P → tr_ex c W c1 W1 → (c1 ≤ 800 → p1 < c1 ∧ W1 p1 = w.drop (w.length - i) ++ b) →
    aj_wp nE al al X m_Model_put (d + 2) 0 0 38 [some (1, 78), some (2, xa), none, some (2, xb), none, some (2, xc), none, some (0, (p1 : Int)), some (0, pt), some (2, (wd_cd w : Int)), none, some (0, (i : Int)), none] [] sh g1 Q := by
  have hok4 : wd_ok 4 w := wd_ok_le (by omega) hok
  intro m
  induction m using Nat.strongRecOn with
  | ind m ih =>
    intro i g1 c1 W1 p1 hi hmm hF hT hX hat
    have hm1 := pF_m hm hF
    have hc801 := hT.2.2.2.1
    refine aj_iload 11 40 (dx d_Model_put 20 rfl) rfl rfl ?_
    refine aj_lload 9 42 (dx d_Model_put 21 rfl) rfl rfl ?_
    refine aj_callS1 45 cl_Model_112 (dx d_Model_put 22 rfl) rfl rfl rfl rfl rfl rfl (k_Model_length hok4 hl ?_)
    change aj_wp _ _ _ _ _ _ _ _ _ _ _ _ _ _
    refine aj_icmp_ge 118 48 (dx d_Model_put 23 rfl) rfl rfl (by unfold aj_I; omega) (by unfold aj_I; omega) (fun h45 => ?_) (fun h45 => ?_)
    · refine aj_forget 9 ?_
      refine aj_forget 11 ?_
      simp only [List.set]
      refine hgo g1 c1 W1 p1 hF hT hX (fun h => ?_)
      have := hat h
      rw [show w.length - i = 0 by omega] at this
      exact this
    · have hc801 := hT.2.2.2.1
      refine aj_aload_n 0 49 (dx d_Model_put 24 rfl) rfl rfl rfl ?_
      refine aj_getfv (v := (c1 : Int)) 52 fl_Model_160 (dx d_Model_put 25 rfl) rfl hm1.1 (by first | exact hT.2.2.1 | (simp [aj_up_at]; exact hT.2.2.1)) ?_
      refine aj_sipush 55 (dx d_Model_put 26 rfl) rfl (by decide +kernel) ?_
      refine aj_icmp_gt 118 58 (dx d_Model_put 27 rfl) rfl rfl (by unfold aj_I; omega) (by unfold aj_I; omega) (fun h55 => ?_) (fun h55 => ?_)
      · refine aj_forget 9 ?_
        refine aj_forget 11 ?_
        simp only [List.set]
        exact hgo g1 c1 W1 p1 hF hT hX (fun h => by omega)
      · obtain ⟨j, hj⟩ : ∃ j : Nat, w.length = i + 1 + j := ⟨w.length - (i + 1), by omega⟩
        have hjl : j < w.length := by omega
        have hlk : w[j] < k := hok _ (List.getElem_mem hjl)
        have hdr : w.drop j = w[j] :: w.drop (j + 1) := List.drop_eq_getElem_cons hjl
        have he : w.length - i = j + 1 := by omega
        have hwi : w[w.length - 1 - i]'(by omega) = w[j] := by congr 1; omega
        have hc8 : c1 ≤ 800 := by omega
        obtain ⟨hp1, hW1⟩ := hat hc8
        rw [he] at hW1
        have hnw : w[j] :: W1 p1 = w.drop j ++ b := by rw [hW1, hdr]; rfl
        have hPn : P (w[j] :: W1 p1) := hP _ (w.take j) (by rw [hnw, ← List.append_assoc, List.take_append_drop])
        refine aj_iconst 59 (dx d_Model_put 28 rfl) rfl ?_
        refine aj_iload 7 61 (dx d_Model_put 29 rfl) rfl rfl ?_
        refine aj_imul 62 (dx d_Model_put 30 rfl) rfl ?_
        refine aj_lload 9 64 (dx d_Model_put 31 rfl) rfl rfl ?_
        refine aj_iload 11 66 (dx d_Model_put 32 rfl) rfl rfl ?_
        refine aj_callS2 69 cl_Model_118 (dx d_Model_put 33 rfl) rfl rfl rfl rfl rfl rfl (k_Model_at hok4 hl (show i < w.length by omega) ?_)
        change aj_wp _ _ _ _ _ _ _ _ _ _ _ _ _ _
        rw [hwi]
        refine aj_iadd 70 (dx d_Model_put 34 rfl) rfl ?_
        refine aj_istore 12 72 (dx d_Model_put 35 rfl) rfl rfl ?_
        simp only [List.set]
        rcases hT.2.2.2.2.1 p1 w[j] hp1 (by omega) with ⟨q, q1, q2, q3⟩ | ⟨q1, q2⟩
        · have hq0 : 0 < q := by
            rcases Nat.eq_zero_or_pos q with z | z
            · rw [z, hT.1.2.1] at q2; cases q2
            · exact z
          refine aj_aload_n 0 73 (dx d_Model_put 36 rfl) rfl rfl rfl ?_
          refine aj_getfv (v := 91) 76 fl_Model_51 (dx d_Model_put 37 rfl) rfl hm1.1 (by first | exact mf_newChild hm1 | (simp [aj_up_at]; exact mf_newChild hm1) | exact mf_newChild (by assumption)) ?_
          refine aj_iload 12 78 (dx d_Model_put 38 rfl) rfl rfl ?_
          refine aj_iald 79 (dx d_Model_put 39 rfl) rfl (ms_newChild hm1) rfl (by omega) (by omega) ?_
          rw [q3]
          refine aj_if_ne 103 82 (dx d_Model_put 40 rfl) rfl rfl (by unfold aj_I; omega) (fun h79 => ?_) (fun h79 => ?_)
          · refine aj_aload_n 0 104 (dx d_Model_put 53 rfl) rfl rfl rfl ?_
            refine aj_getfv (v := 91) 107 fl_Model_51 (dx d_Model_put 54 rfl) rfl hm1.1 (by first | exact mf_newChild hm1 | (simp [aj_up_at]; exact mf_newChild hm1) | exact mf_newChild (by assumption)) ?_
            refine aj_iload 12 109 (dx d_Model_put 55 rfl) rfl rfl ?_
            refine aj_iald 110 (dx d_Model_put 56 rfl) rfl (ms_newChild hm1) rfl (by omega) (by omega) ?_
            rw [q3]
            refine aj_istore 7 112 (dx d_Model_put 57 rfl) rfl rfl ?_
            simp only [List.set]
            refine aj_iinc 11 115 (dx d_Model_put 58 rfl) rfl rfl rfl ?_
            simp only [List.set]
            refine aj_goto 38 (dx d_Model_put 59 rfl) rfl ?_
            refine aj_forget 12 ?_
            simp only [List.set]
            rw [show ((i : Nat) : Int) + 1 = ((i + 1 : Nat) : Int) by omega]
            exact ih _ (by omega) (i + 1) g1 c1 W1 q (by omega) rfl hF hT hX (fun _ => ⟨q1, by rw [q2, hnw, show w.length - (i + 1) = j by omega]⟩)
          · exact absurd h79 (by omega)
        · refine aj_aload_n 0 73 (dx d_Model_put 36 rfl) rfl rfl rfl ?_
          refine aj_getfv (v := 91) 76 fl_Model_51 (dx d_Model_put 37 rfl) rfl hm1.1 (by first | exact mf_newChild hm1 | (simp [aj_up_at]; exact mf_newChild hm1) | exact mf_newChild (by assumption)) ?_
          refine aj_iload 12 78 (dx d_Model_put 38 rfl) rfl rfl ?_
          refine aj_iald 79 (dx d_Model_put 39 rfl) rfl (ms_newChild hm1) rfl (by omega) (by omega) ?_
          rw [q2]
          refine aj_if_ne 103 82 (dx d_Model_put 40 rfl) rfl rfl (by unfold aj_I; omega) (fun h79 => ?_) (fun h79 => ?_)
          · exact absurd rfl h79
          · refine aj_aload_n 0 83 (dx d_Model_put 41 rfl) rfl rfl rfl ?_
            refine aj_getfv (v := 91) 86 fl_Model_51 (dx d_Model_put 42 rfl) rfl hm1.1 (by first | exact mf_newChild hm1 | (simp [aj_up_at]; exact mf_newChild hm1) | exact mf_newChild (by assumption)) ?_
            refine aj_iload 12 88 (dx d_Model_put 43 rfl) rfl rfl ?_
            refine aj_aload_n 0 89 (dx d_Model_put 44 rfl) rfl rfl rfl ?_
            refine aj_getfv (v := (c1 : Int)) 92 fl_Model_160 (dx d_Model_put 45 rfl) rfl hm1.1 (by first | exact hT.2.2.1 | (simp [aj_up_at]; exact hT.2.2.1)) ?_
            refine aj_iast 93 (dx d_Model_put 46 rfl) rfl (ms_newChild hm1) rfl (by omega) (by omega) ?_
            refine aj_aload_n 0 94 (dx d_Model_put 47 rfl) rfl rfl rfl ?_
            refine aj_dup 95 (dx d_Model_put 48 rfl) rfl rfl ?_
            refine aj_getfv (v := (c1 : Int)) 98 fl_Model_160 (dx d_Model_put 49 rfl) rfl hm1.1 (by first | exact hT.2.2.1 | (simp [aj_up_at]; exact hT.2.2.1)) ?_
            refine aj_iconst 99 (dx d_Model_put 50 rfl) rfl ?_
            refine aj_iadd 100 (dx d_Model_put 51 rfl) rfl ?_
            refine aj_putf 103 (pl_Model_160 _) (dx d_Model_put 52 rfl) rfl hm1.1 (aj_fitI _) ?_
            refine aj_aload_n 0 104 (dx d_Model_put 53 rfl) rfl rfl rfl ?_
            refine aj_getfv (v := 91) 107 fl_Model_51 (dx d_Model_put 54 rfl) rfl hm1.1 (by first | exact mf_newChild hm1 | (simp [aj_up_at]; exact mf_newChild hm1) | exact mf_newChild (by assumption)) ?_
            refine aj_iload 12 109 (dx d_Model_put 55 rfl) rfl rfl ?_
            refine aj_iald 110 (dx d_Model_put 56 rfl) rfl (ms_newChild hm1) rfl (by omega) (by omega) ?_
            rw [show aj_up (aj_up g1 91 (3 * (p1 : Int) + (w[j] : Int)) (c1 : Int)) 78 23 ((c1 : Int) + 1) 91 (3 * (p1 : Int) + (w[j] : Int)) = (c1 : Int) by rw [aj_up_ne _ _ _ (by omega), aj_up_self]]
            refine aj_istore 7 112 (dx d_Model_put 57 rfl) rfl rfl ?_
            simp only [List.set]
            refine aj_iinc 11 115 (dx d_Model_put 58 rfl) rfl rfl rfl ?_
            simp only [List.set]
            refine aj_goto 38 (dx d_Model_put 59 rfl) rfl ?_
            refine aj_forget 12 ?_
            simp only [List.set]
            rw [show ((i : Nat) : Int) + 1 = ((i + 1 : Nat) : Int) by omega]
            exact ih _ (by omega) (i + 1) _ (c1 + 1) (tr_up W1 c1 (w[j] :: W1 p1)) c1 (by omega) rfl ⟨fun r x y => by rw [aj_up_ne _ _ _ x, aj_up_ne _ _ _ y]; exact hF.1 r x y, fun z hz => by rw [aj_up_ni _ _ _ hz, aj_up_ne _ _ _ (by omega)]; exact hF.2 z hz⟩ (tM_add hT hp1 hlk (by omega) hc8 q1 hPn) (tr_ex_trans hX (tr_ex_up _)) (fun _ => ⟨by omega, by rw [tr_up_self, hnw, show w.length - (i + 1) = j by omega]⟩)
set_option maxHeartbeats 4000000 in
theorem k_Model_put {al : Prop} {X : Option (Nat × (Int → Int))} {d : Nat} {sh : List aj_S} {g : aj_G} {Q : aj_R → List aj_S → aj_G → Prop} {k : Nat} {P : List Nat → Prop} (hk3 : k ≤ 3) {x y z : List Nat} (hx : wd_ok k x) (hy : wd_ok k y) (hz : wd_ok k z) (hlx : x.length ≤ 24) (hly : y.length ≤ 24) (hlz : z.length ≤ 24) (hP : ∀ v t, t ++ v = z ++ (y ++ x) → P v) {c : Nat} {W : Nat → List Nat} (hm : mos sh g) (hT : tM g k c W P) (hk : ∀ (g1 : aj_G) (c1 : Nat) (W1 : Nat → List Nat), pF g g1 → tM g1 k c1 W1 P → tr_ex c W c1 W1 → (c1 ≤ 800 → pr c1 W1 (z ++ (y ++ x))) → Q (.inl none) sh g1) : aj_wp nE al al X m_Model_put (d + 2) 0 0 0 [some (1, 78), some (2, (wd_cd x : Int)), none, some (2, (wd_cd y : Int)), none, some (2, (wd_cd z : Int)), none, none, none, none, none, none, none] [] sh g Q := by
  refine aj_iconst 1 (dx d_Model_put 0 rfl) rfl ?_
  refine aj_istore 7 3 (dx d_Model_put 1 rfl) rfl rfl ?_
  simp only [List.set]
  refine aj_iconst 4 (dx d_Model_put 2 rfl) rfl ?_
  refine aj_istore 8 6 (dx d_Model_put 3 rfl) rfl rfl ?_
  simp only [List.set]
  refine aj_iload 8 8 (dx d_Model_put 4 rfl) rfl rfl ?_
  refine aj_iconst 9 (dx d_Model_put 5 rfl) rfl ?_
  refine aj_icmp_ge 124 12 (dx d_Model_put 6 rfl) rfl rfl (by unfold aj_I; omega) (by unfold aj_I; omega) (fun h9 => ?_) (fun h9 => ?_)
  · exact absurd h9 (by decide)
  · refine aj_iload 8 14 (dx d_Model_put 7 rfl) rfl rfl ?_
    refine aj_if_ne 21 17 (dx d_Model_put 8 rfl) rfl rfl (by unfold aj_I; omega) (fun h14 => ?_) (fun h14 => ?_)
    · exact absurd rfl h14
    · refine aj_lload_n 1 18 (dx d_Model_put 9 rfl) rfl rfl rfl ?_
      refine aj_goto 33 (dx d_Model_put 10 rfl) rfl ?_
      refine aj_lstore 9 35 (dx d_Model_put 17 rfl) rfl rfl rfl ?_
      simp only [List.set]
      refine aj_iconst 36 (dx d_Model_put 18 rfl) rfl ?_
      refine aj_istore 11 38 (dx d_Model_put 19 rfl) rfl rfl ?_
      simp only [List.set]
      refine k_put_w (xa := (wd_cd x : Int)) (xb := (wd_cd y : Int)) (xc := (wd_cd z : Int)) (pt := 0) hk3 (w := x) (b := []) hx hlx (fun v t e => hP v (z ++ y ++ t) (by rw [List.append_assoc, e, List.append_nil, List.append_assoc])) hm (fun g2 c2 W2 p2 hF2 hT2 hX2 hat2 => ?_) _ 0 g c W 0 (by omega) rfl (pF_refl _) hT (tr_ex_refl _ _) (fun h => ?_)
      · refine aj_iinc 8 121 (dx d_Model_put 60 rfl) rfl rfl rfl ?_
        simp only [List.set]
        refine aj_goto 6 (dx d_Model_put 61 rfl) rfl ?_
        refine aj_iload 8 8 (dx d_Model_put 4 rfl) rfl rfl ?_
        refine aj_iconst 9 (dx d_Model_put 5 rfl) rfl ?_
        refine aj_icmp_ge 124 12 (dx d_Model_put 6 rfl) rfl rfl (by unfold aj_I; omega) (by unfold aj_I; omega) (fun h9 => ?_) (fun h9 => ?_)
        · exact absurd h9 (by decide)
        · refine aj_iload 8 14 (dx d_Model_put 7 rfl) rfl rfl ?_
          refine aj_if_ne 21 17 (dx d_Model_put 8 rfl) rfl rfl (by unfold aj_I; omega) (fun h14 => ?_) (fun h14 => ?_)
          · refine aj_iload 8 23 (dx d_Model_put 11 rfl) rfl rfl ?_
            refine aj_iconst 24 (dx d_Model_put 12 rfl) rfl ?_
            refine aj_icmp_ne 31 27 (dx d_Model_put 13 rfl) rfl rfl (by unfold aj_I; omega) (by unfold aj_I; omega) (fun h24 => ?_) (fun h24 => ?_)
            · exact absurd rfl h24
            · refine aj_lload_n 3 28 (dx d_Model_put 14 rfl) rfl rfl rfl ?_
              refine aj_goto 33 (dx d_Model_put 15 rfl) rfl ?_
              refine aj_lstore 9 35 (dx d_Model_put 17 rfl) rfl rfl rfl ?_
              simp only [List.set]
              refine aj_iconst 36 (dx d_Model_put 18 rfl) rfl ?_
              refine aj_istore 11 38 (dx d_Model_put 19 rfl) rfl rfl ?_
              simp only [List.set]
              refine k_put_w (xa := (wd_cd x : Int)) (xb := (wd_cd y : Int)) (xc := (wd_cd z : Int)) (pt := 1) hk3 (w := y) (b := x) hy hly (fun v t e => hP v (z ++ t) (by rw [List.append_assoc, e])) (pF_m hm hF2) (fun g3 c3 W3 p3 hF3 hT3 hX3 hat3 => ?_) _ 0 g2 c2 W2 p2 (by omega) rfl (pF_refl _) hT2 (tr_ex_refl _ _) (fun h => ?_)
              · refine aj_iinc 8 121 (dx d_Model_put 60 rfl) rfl rfl rfl ?_
                simp only [List.set]
                refine aj_goto 6 (dx d_Model_put 61 rfl) rfl ?_
                refine aj_iload 8 8 (dx d_Model_put 4 rfl) rfl rfl ?_
                refine aj_iconst 9 (dx d_Model_put 5 rfl) rfl ?_
                refine aj_icmp_ge 124 12 (dx d_Model_put 6 rfl) rfl rfl (by unfold aj_I; omega) (by unfold aj_I; omega) (fun h9 => ?_) (fun h9 => ?_)
                · exact absurd h9 (by decide)
                · refine aj_iload 8 14 (dx d_Model_put 7 rfl) rfl rfl ?_
                  refine aj_if_ne 21 17 (dx d_Model_put 8 rfl) rfl rfl (by unfold aj_I; omega) (fun h14 => ?_) (fun h14 => ?_)
                  · refine aj_iload 8 23 (dx d_Model_put 11 rfl) rfl rfl ?_
                    refine aj_iconst 24 (dx d_Model_put 12 rfl) rfl ?_
                    refine aj_icmp_ne 31 27 (dx d_Model_put 13 rfl) rfl rfl (by unfold aj_I; omega) (by unfold aj_I; omega) (fun h24 => ?_) (fun h24 => ?_)
                    · refine aj_lload 5 33 (dx d_Model_put 16 rfl) rfl rfl ?_
                      refine aj_lstore 9 35 (dx d_Model_put 17 rfl) rfl rfl rfl ?_
                      simp only [List.set]
                      refine aj_iconst 36 (dx d_Model_put 18 rfl) rfl ?_
                      refine aj_istore 11 38 (dx d_Model_put 19 rfl) rfl rfl ?_
                      simp only [List.set]
                      refine k_put_w (xa := (wd_cd x : Int)) (xb := (wd_cd y : Int)) (xc := (wd_cd z : Int)) (pt := 2) hk3 (w := z) (b := (y ++ x)) hz hlz (fun v t e => hP v (t) (e)) (pF_m (pF_m hm hF2) hF3) (fun g4 c4 W4 p4 hF4 hT4 hX4 hat4 => ?_) _ 0 g3 c3 W3 p3 (by omega) rfl (pF_refl _) hT3 (tr_ex_refl _ _) (fun h => ?_)
                      · refine aj_iinc 8 121 (dx d_Model_put 60 rfl) rfl rfl rfl ?_
                        simp only [List.set]
                        refine aj_goto 6 (dx d_Model_put 61 rfl) rfl ?_
                        refine aj_iload 8 8 (dx d_Model_put 4 rfl) rfl rfl ?_
                        refine aj_iconst 9 (dx d_Model_put 5 rfl) rfl ?_
                        refine aj_icmp_ge 124 12 (dx d_Model_put 6 rfl) rfl rfl (by unfold aj_I; omega) (by unfold aj_I; omega) (fun h9 => ?_) (fun h9 => ?_)
                        · refine aj_vret (dx d_Model_put 62 rfl) rfl id ?_
                          exact hk g4 c4 W4 (pF_trans hF2 (pF_trans hF3 hF4)) hT4 (tr_ex_trans hX2 (tr_ex_trans hX3 hX4)) (fun h => by obtain ⟨a1, a2⟩ := hat4 h; exact ⟨p4, a1, a2⟩)
                        · exact absurd h9 (by decide)
                      · rw [Nat.sub_zero, List.drop_length]; exact hat3 h
                    · exact absurd h24 (by decide)
                  · exact absurd h14 (by decide)
              · rw [Nat.sub_zero, List.drop_length]; have := hat2 h; rw [List.append_nil] at this; exact this
          · exact absurd h14 (by decide)
      · rw [Nat.sub_zero, List.drop_length]; exact ⟨hT.1.1, hT.1.2.1⟩
