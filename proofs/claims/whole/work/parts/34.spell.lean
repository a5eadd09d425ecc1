/-! PairSearch.spell -/
/-- the entries of the search hold words: each is an earlier one with a letter more -/
def bs_E (g : aj_G) (r : Int) (cnt : Nat) (W : Nat → List Nat) : Prop := W 0 = [] ∧ ∀ p : Nat, p < cnt → g (r + 7) p = (W p).length ∧ (W p).length ≤ p ∧ (0 < p → ∃ q a : Nat, q < p ∧ g (r + 5) p = q ∧ g (r + 6) p = a ∧ W p = a :: W q)
theorem bs_E_of {g g1 : aj_G} {r : Int} {cnt : Nat} {W : Nat → List Nat} (h : bs_E g r cnt W) (e5 : g1 (r + 5) = g (r + 5)) (e6 : g1 (r + 6) = g (r + 6)) (e7 : g1 (r + 7) = g (r + 7)) : bs_E g1 r cnt W := by
  unfold bs_E at h ⊢
  rw [e5, e6, e7]
  exact h
def sp_I (g g1 : aj_G) (r : Int) (w : List Nat) (e : Nat) : Prop := (∀ r', r' ≠ r + 1 → r' ≠ r + 2 → g1 r' = g r') ∧ (∀ j, j ≠ 1 → g1 (r + 1) j = g (r + 1) j) ∧ g1 (r + 1) 1 = w.length ∧ ∀ j x : Nat, j ≤ e → w[j]? = some x → g1 (r + 2) ((w.length : Int) - 1 - j) = x
theorem sp_step {g g1 : aj_G} {r : Int} {w : List Nat} {e a : Nat} (h : sp_I g g1 r w e) (ha : w[e + 1]? = some a) : sp_I g (aj_up g1 (r + 2) ((w.length : Int) - 1 - (e + 1 : Nat)) a) r w (e + 1) := by
  refine ⟨fun r' c1 c2 => by rw [aj_up_ne _ _ _ c2]; exact h.1 r' c1 c2, fun j hj => by rw [aj_up_ne _ _ _ (by omega)]; exact h.2.1 j hj, by rw [aj_up_ne _ _ _ (by omega)]; exact h.2.2.1, fun j x hj hx => ?_⟩
  rw [aj_up_at]
  by_cases c : j = e + 1
  · subst c
    rw [if_pos ⟨rfl, rfl⟩]
    rw [ha] at hx
    cases hx
    rfl
  · rw [if_neg (fun z => c (by omega))]
    exact h.2.2.2 j x (by omega) hx
theorem drop_next {l v : List Nat} {e a : Nat} (h : l.drop e = a :: v) : l[e]? = some a ∧ l.drop (e + 1) = v := by
  constructor
  · have := congrArg (fun z => z[0]?) h
    simpa using this
  · rw [← List.drop_drop, h]
    rfl
set_option maxHeartbeats 4000000 in
theorem k_spell_loop {al : Prop} {X : Option (Nat × (Int → Int))} {d : Nat} {sh : List aj_S} {g : aj_G} {Q : aj_R → List aj_S → aj_G → Prop} {r : Int} {cnt last inp : Nat} {W : Nat → List Nat} (hp : pss sh g r) (hE : bs_E g r cnt W) (hc : cnt ≤ 100) (hl : last < cnt) (hk : ∀ g1, sp_I g g1 r (inp :: W last) (W last).length → Q (.inl none) sh g1) : ∀ (q : Nat) (g1 : aj_G), q < cnt → (W q).length ≤ (W last).length → (W last).drop ((W last).length - (W q).length) = W q → sp_I g g1 r (inp :: W last) ((W last).length - (W q).length) →
    aj_wp nE al al X m_Search_spell d 0 0 42 [some (1, r), some (0, (last : Int)), some (0, (inp : Int)), some (0, (q : Int)), some (0, ((W q).length : Int) - 1)] [] sh g1 Q := by
  intro q
  induction q using Nat.strongRecOn with
  | ind q ih =>
    intro g1 hq hlq hdr hI
    have hp1 := pss_of hp (fun j _ => by rw [hI.1 r (by omega) (by omega)]) (hI.2.1 0 (by omega))
    have hE1 := bs_E_of hE (hI.1 _ (by omega) (by omega)) (hI.1 _ (by omega) (by omega)) (hI.1 (r + 7) (by omega) (by omega))
    have hql := (hE.2 q hq).2.1
    refine aj_iload 4 44 (dx d_Search_spell 27 rfl) rfl rfl ?_
    refine aj_if_lt 76 47 (dx d_Search_spell 28 rfl) rfl rfl (by unfold aj_I; omega) (fun h44 => ?_) (fun h44 => ?_)
    · refine aj_vret (dx d_Search_spell 45 rfl) rfl id ?_
      refine hk g1 ?_
      rw [show (W q).length = 0 by omega, Nat.sub_zero] at hI
      exact hI
    · obtain ⟨f1, f2, f3⟩ := hE1.2 q hq
      have hq0 : 0 < q := by
        rcases Nat.eq_zero_or_pos q with z | z
        · rw [z, hE.1] at h44; simp at h44
        · exact z
      obtain ⟨q2, a, hq2, e5, e6, eW⟩ := f3 hq0
      have hlen : (W q).length = (W q2).length + 1 := by rw [eW]; rfl
      obtain ⟨d1, d2⟩ := drop_next (hdr.trans eW)
      have hpos : ((W q).length : Int) - 1 = (((inp :: W last).length : Nat) : Int) - 1 - (((W last).length - (W q).length + 1 : Nat) : Int) := by
        rw [List.length_cons]; omega
      have hst := sp_step (e := (W last).length - (W q).length) (a := a) hI (by rw [List.getElem?_cons_succ]; exact d1)
      rw [← hpos] at hst
      refine aj_aload_n 0 48 (dx d_Search_spell 29 rfl) rfl rfl rfl ?_
      refine aj_getf 51 fl_Search_12 (dx d_Search_spell 30 rfl) rfl hp1.1 ?_
      rw [hp1.2.1.1]
      refine aj_getf 54 fl_Search_68 (dx d_Search_spell 31 rfl) rfl hp1.2.2.1.1 ?_
      rw [hp1.2.2.1.2.1]
      refine aj_iload 4 56 (dx d_Search_spell 32 rfl) rfl rfl ?_
      refine aj_aload_n 0 57 (dx d_Search_spell 33 rfl) rfl rfl rfl ?_
      refine aj_getf 60 fl_Search_28 (dx d_Search_spell 34 rfl) rfl hp1.1 ?_
      rw [hp1.2.1.2.2.2.2.1]
      refine aj_iload_n 3 61 (dx d_Search_spell 35 rfl) rfl rfl rfl ?_
      refine aj_iald 62 (dx d_Search_spell 36 rfl) rfl hp1.2.2.2.2.2.2.1 rfl (by omega) (by omega) ?_
      rw [e6]
      refine aj_iast 63 (dx d_Search_spell 37 rfl) rfl hp1.2.2.1.2.2 rfl (by omega) (by omega) ?_
      refine aj_aload_n 0 64 (dx d_Search_spell 38 rfl) rfl rfl rfl ?_
      refine aj_getf 67 fl_Search_25 (dx d_Search_spell 39 rfl) rfl hp1.1 ?_
      simp only [aj_up_app, ne_1, ne_2, ne_3, Int.reduceEq, ↓reduceIte]
      rw [hp1.2.1.2.2.2.1]
      refine aj_iload_n 3 68 (dx d_Search_spell 40 rfl) rfl rfl rfl ?_
      refine aj_iald 69 (dx d_Search_spell 41 rfl) rfl hp1.2.2.2.2.2.1 rfl (by omega) (by omega) ?_
      simp only [aj_up_app, ne_1, ne_2, ne_3, Int.reduceEq, ↓reduceIte]
      rw [e5]
      refine aj_istore_n 3 70 (dx d_Search_spell 42 rfl) rfl rfl rfl ?_
      simp only [List.set]
      refine aj_iinc 4 73 (dx d_Search_spell 43 rfl) rfl rfl rfl ?_
      simp only [List.set]
      refine aj_goto 42 (dx d_Search_spell 44 rfl) rfl ?_
      have hih := ih q2 hq2 _ (by omega) (by omega) (by rw [show (W last).length - (W q2).length = (W last).length - (W q).length + 1 by omega]; exact d2) (by rw [show (W last).length - (W q2).length = (W last).length - (W q).length + 1 by omega]; exact hst)
      rw [show ((W q).length : Int) - 1 + -1 = ((W q2).length : Int) - 1 by omega]
      exact hih
set_option maxHeartbeats 4000000 in
theorem k_Search_spell {al : Prop} {X : Option (Nat × (Int → Int))} {d : Nat} {sh : List aj_S} {g : aj_G} {Q : aj_R → List aj_S → aj_G → Prop} {r : Int} {cnt last inp : Nat} {W : Nat → List Nat} (hp : pss sh g r) (hE : bs_E g r cnt W) (hc : cnt ≤ 100) (hl : last < cnt) (hk : ∀ g1, sp_I g g1 r (inp :: W last) (W last).length → Q (.inl none) sh g1) : aj_wp nE al al X m_Search_spell d 0 0 0 [some (1, r), some (0, (last : Int)), some (0, (inp : Int)), none, none] [] sh g Q := by
  obtain ⟨f1, f2, f3⟩ := hE.2 last hl
  refine aj_aload_n 0 1 (dx d_Search_spell 0 rfl) rfl rfl rfl ?_
  refine aj_getf 4 fl_Search_12 (dx d_Search_spell 1 rfl) rfl hp.1 ?_
  rw [hp.2.1.1]
  refine aj_aload_n 0 5 (dx d_Search_spell 2 rfl) rfl rfl rfl ?_
  refine aj_getf 8 fl_Search_31 (dx d_Search_spell 3 rfl) rfl hp.1 ?_
  rw [hp.2.1.2.2.2.2.2.1]
  refine aj_iload_n 1 9 (dx d_Search_spell 4 rfl) rfl rfl rfl ?_
  refine aj_iald 10 (dx d_Search_spell 5 rfl) rfl hp.2.2.2.2.2.2.2.1 rfl (by omega) (by omega) ?_
  rw [f1]
  refine aj_iconst 11 (dx d_Search_spell 6 rfl) rfl ?_
  refine aj_iadd 12 (dx d_Search_spell 7 rfl) rfl ?_
  refine aj_putf 15 (pl_Search_65 _) (dx d_Search_spell 8 rfl) rfl hp.2.2.1.1 (aj_fitI _) ?_
  refine aj_aload_n 0 16 (dx d_Search_spell 9 rfl) rfl rfl rfl ?_
  refine aj_getf 19 fl_Search_12 (dx d_Search_spell 10 rfl) rfl hp.1 ?_
  simp only [aj_up_app, ne_1, ne_2, ne_3, Int.reduceEq, ↓reduceIte]
  rw [hp.2.1.1]
  refine aj_getf 22 fl_Search_68 (dx d_Search_spell 11 rfl) rfl hp.2.2.1.1 ?_
  simp only [aj_up_app, ne_1, ne_2, ne_3, Int.reduceEq, ↓reduceIte]
  rw [hp.2.2.1.2.1]
  refine aj_aload_n 0 23 (dx d_Search_spell 12 rfl) rfl rfl rfl ?_
  refine aj_getf 26 fl_Search_31 (dx d_Search_spell 13 rfl) rfl hp.1 ?_
  simp only [aj_up_app, ne_1, ne_2, ne_3, Int.reduceEq, ↓reduceIte]
  rw [hp.2.1.2.2.2.2.2.1]
  refine aj_iload_n 1 27 (dx d_Search_spell 14 rfl) rfl rfl rfl ?_
  refine aj_iald 28 (dx d_Search_spell 15 rfl) rfl hp.2.2.2.2.2.2.2.1 rfl (by omega) (by omega) ?_
  simp only [aj_up_app, ne_1, ne_2, ne_3, Int.reduceEq, ↓reduceIte]
  rw [f1]
  refine aj_iload_n 2 29 (dx d_Search_spell 16 rfl) rfl rfl rfl ?_
  refine aj_iast 30 (dx d_Search_spell 17 rfl) rfl hp.2.2.1.2.2 rfl (by omega) (by omega) ?_
  refine aj_iload_n 1 31 (dx d_Search_spell 18 rfl) rfl rfl rfl ?_
  refine aj_istore_n 3 32 (dx d_Search_spell 19 rfl) rfl rfl rfl ?_
  simp only [List.set]
  refine aj_aload_n 0 33 (dx d_Search_spell 20 rfl) rfl rfl rfl ?_
  refine aj_getf 36 fl_Search_31 (dx d_Search_spell 21 rfl) rfl hp.1 ?_
  simp only [aj_up_app, ne_1, ne_2, ne_3, Int.reduceEq, ↓reduceIte]
  rw [hp.2.1.2.2.2.2.2.1]
  refine aj_iload_n 1 37 (dx d_Search_spell 22 rfl) rfl rfl rfl ?_
  refine aj_iald 38 (dx d_Search_spell 23 rfl) rfl hp.2.2.2.2.2.2.2.1 rfl (by omega) (by omega) ?_
  simp only [aj_up_app, ne_1, ne_2, ne_3, Int.reduceEq, ↓reduceIte]
  rw [f1]
  refine aj_iconst 39 (dx d_Search_spell 24 rfl) rfl ?_
  refine aj_isub 40 (dx d_Search_spell 25 rfl) rfl ?_
  refine aj_istore 4 42 (dx d_Search_spell 26 rfl) rfl rfl ?_
  simp only [List.set]
  refine k_spell_loop hp hE hc hl hk last _ hl (Nat.le_refl _) (by rw [Nat.sub_self]; rfl) ?_
  rw [Nat.sub_self]
  refine ⟨fun r' c1 c2 => by rw [aj_up_ne _ _ _ c2, aj_up_ne _ _ _ c1], fun j hj => by rw [aj_up_ne _ _ _ (by omega), aj_up_ni _ _ _ hj], by rw [aj_up_ne _ _ _ (by omega), aj_up_self, List.length_cons]; omega, fun j x hj hx => ?_⟩
  have : j = 0 := by omega
  subst this
  have hx2 : inp = x := by simpa using hx
  rw [List.length_cons, show (((W last).length + 1 : Nat) : Int) - 1 - (0 : Nat) = ((W last).length : Int) by omega, aj_up_self, hx2]
