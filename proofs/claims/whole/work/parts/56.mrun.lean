/-! Model: unfold, expected, isTest, test, fails, run, begin, give -/
/-- the letters of u lie in path -/
def pth (g : aj_G) (u : List Nat) : Prop := ∀ (j : Nat) (h : j < u.length), g 95 j = (u[u.length - 1 - j] : Nat)
/-- the output for the last letter -/
def eo (nx ou : Nat → Nat → Nat) (s : Nat) : List Nat → Nat
  | [] => 0
  | b :: v => ou (rn nx s v) b
noncomputable def ffw (D : List Nat → Prop) : List Nat → Int
  | [] => -1
  | b :: v => @ite Int (ffw D v ≠ -1) inferInstance (ffw D v) (@ite Int (D (b :: v)) (Classical.propDecidable _) (v.length : Int) (-1))
theorem ffw_app {D : List Nat → Prop} {v : List Nat} (h : ffw D v ≠ -1) : ∀ t, ffw D (t ++ v) = ffw D v
  | [] => rfl
  | b :: t => by
    have ih := ffw_app h t
    show @ite Int (ffw D (t ++ v) ≠ -1) inferInstance (ffw D (t ++ v)) _ = _
    rw [ih, if_pos h]
theorem ffw_t {D : List Nat → Prop} {b : Nat} {v : List Nat} (h : ffw D v = -1) (hd : D (b :: v)) : ffw D (b :: v) = v.length := by
  show @ite Int (ffw D v ≠ -1) inferInstance (ffw D v) _ = _
  rw [if_neg (by simp [h]), if_pos hd]
theorem ffw_f {D : List Nat → Prop} {b : Nat} {v : List Nat} (h : ffw D v = -1) (hd : ¬ D (b :: v)) : ffw D (b :: v) = -1 := by
  show @ite Int (ffw D v ≠ -1) inferInstance (ffw D v) _ = _
  rw [if_neg (by simp [h]), if_neg hd]
theorem ffw_lt {D : List Nat → Prop} : ∀ u, -1 ≤ ffw D u ∧ ffw D u < u.length
  | [] => by show -1 ≤ (-1 : Int) ∧ (-1 : Int) < 0; omega
  | b :: v => by
    have ih := ffw_lt (D := D) v
    show -1 ≤ @ite Int (ffw D v ≠ -1) inferInstance (ffw D v) _ ∧ @ite Int (ffw D v ≠ -1) inferInstance (ffw D v) _ < _
    rw [List.length_cons]
    by_cases c : ffw D v ≠ -1
    · rw [if_pos c]; omega
    · rw [if_neg c]
      by_cases c2 : D (b :: v)
      · rw [if_pos c2]; omega
      · rw [if_neg c2]; omega
theorem drop_s {u : List Nat} {i : Nat} (h : i < u.length) : u.drop (u.length - 1 - i) = u[u.length - 1 - i] :: u.drop (u.length - i) := by
  rw [List.drop_eq_getElem_cons (by omega), show u.length - 1 - i + 1 = u.length - i by omega]
def unF (g g1 : aj_G) : Prop := ∀ r, r ≠ 95 → g1 r = g r
theorem tr_node {k c : Nat} {W : Nat → List Nat} {g : aj_G} (hI : tr_I k c W) {p x : Nat} (hpb : pbM g c W p) {t : List Nat} {b : Nat} {v : List Nat} (hx : x < c) (hWx : W x = b :: v) (e : W p = t ++ W x) : ∃ r : Nat, r < c ∧ W r = v ∧ g 93 x = r ∧ g 94 x = b := by
  rw [hWx] at e
  obtain ⟨q, r, h1, h2, h3, h4, h5, h6⟩ := hpb t b v e
  have : q = x := hI.2.2.2.2 q x h1 hx (h3.trans hWx.symm)
  subst this
  exact ⟨r, h2, h4, h5, h6⟩
set_option maxHeartbeats 4000000 in
theorem k_un_2 {al : Prop} {X : Option (Nat × (Int → Int))} {d : Nat} {sh : List aj_S} {g : aj_G} {Q : aj_R → List aj_S → aj_G → Prop} {k c : Nat} {W : Nat → List Nat} {T : List (List Nat)} (hm : mos sh g) (hT : mT g k c W T) {w : Nat} (hw : w < T.length) {p : Nat} (hp : p < c) (hWp : W p = T[w]) (hpb : pbM g c W p) {L0 : Int} (hl : L0 = T[w].length) (hk : ∀ g1, unF g g1 → pth g1 T[w] → Q (.inl (some (0, (T[w].length : Int)))) sh g1) : ∀ (m x : Nat) (g1 : aj_G) (t : List Nat), x < c → (W x).length = m → W p = t ++ W x → unF g g1 → (∀ (j : Nat) (h : (W x).length ≤ j) (h2 : j < (W p).length), g1 95 j = ((W p)[(W p).length - 1 - j] : Nat)) →
    aj_wp nE al al X m_Model_unfold d 0 0 36 [some (1, 78), some (0, (w : Int)), some (0, L0), some (0, ((W x).length : Int)), some (0, (x : Int))] [] sh g1 Q := by
  have hI := hT.2.2.2.1
  have hc8 := hT.2.2.2.2.1
  have h18 := hT.2.2.2.2.2.1
  intro m
  induction m using Nat.strongRecOn with
  | ind m ih =>
    intro x g1 t hx hxm het hF hP
    have hm1 : mos sh g1 := mos_of hm (fun j _ => by rw [hF 78 (by omega)])
    have hlx18 := h18 x hx
    refine aj_iload 4 38 (dx d_Model_unfold 23 rfl) rfl rfl ?_
    refine aj_if_le 69 41 (dx d_Model_unfold 24 rfl) rfl rfl (by unfold aj_I; omega) (fun h38 => ?_) (fun h38 => ?_)
    · refine aj_iload_n 2 70 (dx d_Model_unfold 40 rfl) rfl rfl rfl ?_
      refine aj_iret (dx d_Model_unfold 41 rfl) rfl id ?_
      have hx0 : x = 0 := by omega
      subst hx0
      have hl0 : (W 0).length = 0 := by rw [hI.2.1]; rfl
      rw [hl]
      refine hk g1 hF ?_
      rw [← hWp]
      exact fun j hj => hP j (by omega) hj
    · have hx0 : 0 < x := by omega
      obtain ⟨b, y, hy1, hy2⟩ := hI.2.2.2.1 x hx0 hx
      obtain ⟨r, r1, r2, r3, r4⟩ := tr_node hI hpb hx hy2 het
      have hlx : (W x).length = (W r).length + 1 := by rw [hy2, r2]; rfl
      have r3' : g1 93 (x : Nat) = (r : Nat) := by rw [hF 93 (by omega)]; exact r3
      have r4' : g1 94 (x : Nat) = (b : Nat) := by rw [hF 94 (by omega)]; exact r4
      refine aj_iinc 3 44 (dx d_Model_unfold 25 rfl) rfl rfl rfl ?_
      simp only [List.set]
      refine aj_aload_n 0 45 (dx d_Model_unfold 26 rfl) rfl rfl rfl ?_
      refine aj_getfv (v := 95) 48 fl_Model_70 (dx d_Model_unfold 27 rfl) rfl hm1.1 (by first | exact mf_path hm1 | (simp [aj_up_at]; exact mf_path hm1) | exact mf_path (by assumption)) ?_
      refine aj_iload_n 3 49 (dx d_Model_unfold 28 rfl) rfl rfl rfl ?_
      refine aj_aload_n 0 50 (dx d_Model_unfold 29 rfl) rfl rfl rfl ?_
      refine aj_getfv (v := 94) 53 fl_Model_60 (dx d_Model_unfold 30 rfl) rfl hm1.1 (by first | exact mf_by hm1 | (simp [aj_up_at]; exact mf_by hm1) | exact mf_by (by assumption)) ?_
      refine aj_iload 4 55 (dx d_Model_unfold 31 rfl) rfl rfl ?_
      refine aj_iald 56 (dx d_Model_unfold 32 rfl) rfl (ms_by hm1) rfl (by omega) (by omega) ?_
      rw [r4']
      refine aj_iast 57 (dx d_Model_unfold 33 rfl) rfl (ms_path hm1) rfl (by omega) (by omega) ?_
      refine aj_aload_n 0 58 (dx d_Model_unfold 34 rfl) rfl rfl rfl ?_
      refine aj_getfv (v := 93) 61 fl_Model_57 (dx d_Model_unfold 35 rfl) rfl hm1.1 (by first | exact mf_parent hm1 | (simp [aj_up_at]; exact mf_parent hm1) | exact mf_parent (by assumption)) ?_
      refine aj_iload 4 63 (dx d_Model_unfold 36 rfl) rfl rfl ?_
      refine aj_iald 64 (dx d_Model_unfold 37 rfl) rfl (ms_parent hm1) rfl (by omega) (by omega) ?_
      rw [show aj_up g1 95 (((W x).length : Int) + -1) (b : Int) 93 (x : Int) = (r : Int) by rw [aj_up_ne _ _ _ (by omega)]; exact r3']
      refine aj_istore 4 66 (dx d_Model_unfold 38 rfl) rfl rfl ?_
      simp only [List.set]
      refine aj_goto 36 (dx d_Model_unfold 39 rfl) rfl ?_
      rw [show ((W x).length : Int) + -1 = ((W r).length : Int) by omega]
      refine ih _ (by omega) r _ (t ++ [b]) r1 rfl (by rw [het, hy2, r2]; simp) (fun r' hr => by rw [aj_up_ne _ _ _ hr]; exact hF r' hr) (fun j hj hj2 => ?_)
      by_cases e : j = (W r).length
      · subst e
        rw [aj_up_self]
        have hl := congrArg List.length het
        rw [List.length_append] at hl
        have hg : (W p)[(W p).length - 1 - (W r).length]? = some b := by
          rw [het, List.getElem?_append_right (by rw [← het]; omega), ← het, show (W p).length - 1 - (W r).length - t.length = 0 by omega, hy2]
          rfl
        obtain ⟨h1, h2⟩ := List.getElem?_eq_some_iff.mp hg
        rw [h2]
      · rw [aj_up_ni _ _ _ (by omega)]
        exact hP j (by omega) hj2
set_option maxHeartbeats 4000000 in
theorem k_un_1 {al : Prop} {X : Option (Nat × (Int → Int))} {d : Nat} {sh : List aj_S} {g : aj_G} {Q : aj_R → List aj_S → aj_G → Prop} {k c : Nat} {W : Nat → List Nat} {T : List (List Nat)} (hm : mos sh g) (hT : mT g k c W T) {w : Nat} (hw : w < T.length) {p : Nat} (hp : p < c) (hgp : g 92 (w : Nat) = (p : Nat)) (hWp : W p = T[w]) (hpb : pbM g c W p) (ht8 : T.length ≤ 800) (hk : ∀ g1, unF g g1 → pth g1 T[w] → Q (.inl (some (0, (T[w].length : Int)))) sh g1) : ∀ (m x l : Nat) (t : List Nat), x < c → (W x).length = m → W p = t ++ W x → l + (W x).length = (W p).length →
    aj_wp nE al al X m_Model_unfold d 0 0 9 [some (1, 78), some (0, (w : Int)), some (0, (l : Int)), some (0, (x : Int)), none] [] sh g Q := by
  have hI := hT.2.2.2.1
  have hc8 := hT.2.2.2.2.1
  have h18 := hT.2.2.2.2.2.1
  intro m
  induction m using Nat.strongRecOn with
  | ind m ih =>
    intro x l t hx hxm het hl
    have hlx18 := h18 x hx
    have hlp18 := h18 p hp
    refine aj_iload_n 3 10 (dx d_Model_unfold 7 rfl) rfl rfl rfl ?_
    refine aj_if_le 26 13 (dx d_Model_unfold 8 rfl) rfl rfl (by unfold aj_I; omega) (fun h10 => ?_) (fun h10 => ?_)
    · refine aj_iload_n 2 27 (dx d_Model_unfold 16 rfl) rfl rfl rfl ?_
      refine aj_istore_n 3 28 (dx d_Model_unfold 17 rfl) rfl rfl rfl ?_
      simp only [List.set]
      refine aj_aload_n 0 29 (dx d_Model_unfold 18 rfl) rfl rfl rfl ?_
      refine aj_getfv (v := 92) 32 fl_Model_54 (dx d_Model_unfold 19 rfl) rfl hm.1 (by first | exact mf_testPlace hm | (simp [aj_up_at]; exact mf_testPlace hm) | exact mf_testPlace (by assumption)) ?_
      refine aj_iload_n 1 33 (dx d_Model_unfold 20 rfl) rfl rfl rfl ?_
      refine aj_iald 34 (dx d_Model_unfold 21 rfl) rfl (ms_testPlace hm) rfl (by omega) (by omega) ?_
      rw [hgp]
      refine aj_istore 4 36 (dx d_Model_unfold 22 rfl) rfl rfl ?_
      simp only [List.set]
      have hx0 : x = 0 := by omega
      subst hx0
      have hl0 : (W 0).length = 0 := by rw [hI.2.1]; rfl
      have hlw : (W p).length = l := by omega
      rw [show ((l : Nat) : Int) = ((W p).length : Int) by omega]
      refine k_un_2 hm hT hw hp hWp hpb (by rw [hWp]) hk _ p g [] hp rfl rfl (fun r _ => rfl) (fun j h1 h2 => by omega)
    · have hx0 : 0 < x := by omega
      obtain ⟨b, y, hy1, hy2⟩ := hI.2.2.2.1 x hx0 hx
      obtain ⟨r, r1, r2, r3, r4⟩ := tr_node hI hpb hx hy2 het
      have hlx : (W x).length = (W r).length + 1 := by rw [hy2, r2]; rfl
      refine aj_iinc 2 16 (dx d_Model_unfold 9 rfl) rfl rfl rfl ?_
      simp only [List.set]
      refine aj_aload_n 0 17 (dx d_Model_unfold 10 rfl) rfl rfl rfl ?_
      refine aj_getfv (v := 93) 20 fl_Model_57 (dx d_Model_unfold 11 rfl) rfl hm.1 (by first | exact mf_parent hm | (simp [aj_up_at]; exact mf_parent hm) | exact mf_parent (by assumption)) ?_
      refine aj_iload_n 3 21 (dx d_Model_unfold 12 rfl) rfl rfl rfl ?_
      refine aj_iald 22 (dx d_Model_unfold 13 rfl) rfl (ms_parent hm) rfl (by omega) (by omega) ?_
      rw [r3]
      refine aj_istore_n 3 23 (dx d_Model_unfold 14 rfl) rfl rfl rfl ?_
      simp only [List.set]
      refine aj_goto 9 (dx d_Model_unfold 15 rfl) rfl ?_
      rw [show ((l : Nat) : Int) + 1 = ((l + 1 : Nat) : Int) by omega]
      exact ih _ (by omega) r (l + 1) (t ++ [b]) r1 rfl (by rw [het, hy2, r2]; simp) (by omega)
theorem mT_cnt {g : aj_G} {k c : Nat} {W : Nat → List Nat} {T : List (List Nat)} (hT : mT g k c W T) : T.length ≤ 800 := by
  obtain ⟨-, -, -, hI, hc8, -, e, -, -⟩ := hT
  have hnd := tr_cnt (nd_nodup (S := pr c W) (k := k) 20 []) (fun v hv => nd_S 20 [] v ⟨0, hI.1, hI.2.1⟩ hv)
  have hle := lv_nd (S := pr c W) (k := k) 20 []
  rw [e]
  omega
theorem mT_w {g : aj_G} {k c : Nat} {W : Nat → List Nat} {T : List (List Nat)} (hT : mT g k c W T) {w : Nat} (hw : w < T.length) : wd_ok k T[w] ∧ T[w].length ≤ 18 := by
  obtain ⟨p, p1, -, p3, -⟩ := hT.2.2.2.2.2.2.2.2 w hw
  rw [← p3]
  exact ⟨hT.2.2.2.1.2.2.1 p p1, hT.2.2.2.2.2.1 p p1⟩
theorem mT_of {g g1 : aj_G} {k c : Nat} {W : Nat → List Nat} {T : List (List Nat)} (hT : mT g k c W T) (e1 : g1 78 20 = g 78 20) (e2 : g1 78 21 = g 78 21) (e3 : g1 78 25 = g 78 25) (e4 : g1 92 = g 92) (e5 : g1 93 = g 93) (e6 : g1 94 = g 94) : mT g1 k c W T := by
  unfold mT pbM at hT ⊢
  rw [e1, e2, e3, e4, e5, e6]
  exact hT
set_option maxHeartbeats 4000000 in
theorem k_Model_unfold {al : Prop} {X : Option (Nat × (Int → Int))} {d : Nat} {sh : List aj_S} {g : aj_G} {Q : aj_R → List aj_S → aj_G → Prop} {k c : Nat} {W : Nat → List Nat} {T : List (List Nat)} (hm : mos sh g) (hT : mT g k c W T) {w : Nat} (hw : w < T.length) (hk : ∀ g1, unF g g1 → pth g1 T[w] → Q (.inl (some (0, (T[w].length : Int)))) sh g1) : aj_wp nE al al X m_Model_unfold d 0 0 0 [some (1, 78), some (0, (w : Int)), none, none, none] [] sh g Q := by
  obtain ⟨p, hp, hgp, hWp, hpb⟩ := hT.2.2.2.2.2.2.2.2 w hw
  have ht8 := mT_cnt hT
  refine aj_iconst 1 (dx d_Model_unfold 0 rfl) rfl ?_
  refine aj_istore_n 2 2 (dx d_Model_unfold 1 rfl) rfl rfl rfl ?_
  simp only [List.set]
  refine aj_aload_n 0 3 (dx d_Model_unfold 2 rfl) rfl rfl rfl ?_
  refine aj_getfv (v := 92) 6 fl_Model_54 (dx d_Model_unfold 3 rfl) rfl hm.1 (by first | exact mf_testPlace hm | (simp [aj_up_at]; exact mf_testPlace hm) | exact mf_testPlace (by assumption)) ?_
  refine aj_iload_n 1 7 (dx d_Model_unfold 4 rfl) rfl rfl rfl ?_
  refine aj_iald 8 (dx d_Model_unfold 5 rfl) rfl (ms_testPlace hm) rfl (by omega) (by omega) ?_
  rw [hgp]
  refine aj_istore_n 3 9 (dx d_Model_unfold 6 rfl) rfl rfl rfl ?_
  simp only [List.set]
  exact k_un_1 hm hT hw hp hgp hWp hpb ht8 hk _ p 0 [] hp rfl rfl (by omega)
set_option maxHeartbeats 4000000 in
theorem k_ex_loop {al : Prop} {X : Option (Nat × (Int → Int))} {d : Nat} {sh : List aj_S} {g : aj_G} {Q : aj_R → List aj_S → aj_G → Prop} {k n s0 : Nat} {nx ou : Nat → Nat → Nat} (hM : mmm sh g k n nx ou) (h5 : g 78 5 = (s0 : Nat)) (hs0 : s0 < n) {u : List Nat} (hu : wd_ok k u) (hul : u.length ≤ 18) (hp : pth g u) {i : Nat} (hi : i < u.length) (hk : Q (.inl (some (0, (eo nx ou s0 (u.drop (u.length - 1 - i)) : Int)))) sh g) : ∀ (m j : Nat), j ≤ i → i - j = m →
    aj_wp nE al al X m_Model_expected d 0 0 7 [some (1, 78), some (0, (i : Int)), some (0, (rn nx s0 (u.drop (u.length - j)) : Int)), some (0, (j : Int))] [] sh g Q := by
  have hk4 := hM.2.2.2.1
  have hn8 := hM.2.2.2.2.1
  have hcl : ∀ s i, s < n → i < k → nx s i < n := fun s i h1 h2 => (hM.2.2.2.2.2 s i h1 h2).2.2.1
  intro m
  induction m using Nat.strongRecOn with
  | ind m ih =>
    intro j hj hmm
    refine aj_iload_n 3 8 (dx d_Model_expected 5 rfl) rfl rfl rfl ?_
    refine aj_iload_n 1 9 (dx d_Model_expected 6 rfl) rfl rfl rfl ?_
    refine aj_icmp_ge 34 12 (dx d_Model_expected 7 rfl) rfl rfl (by unfold aj_I; omega) (by unfold aj_I; omega) (fun h9 => ?_) (fun h9 => ?_)
    · have hji : j = i := by omega
      subst hji
      have hlj : u[u.length - 1 - j]'(by omega) < k := hu _ (List.getElem_mem _)
      have hpj := hp j (by omega)
      have hst := rn_lt hcl hs0 (u.drop (u.length - j)) (fun a ha => hu a (List.mem_of_mem_drop ha))
      obtain ⟨e1, e2, e3, e4⟩ := hM.2.2.2.2.2 _ _ hst hlj
      refine aj_aload_n 0 35 (dx d_Model_expected 22 rfl) rfl rfl rfl ?_
      refine aj_getfv (v := 80) 38 fl_Model_13 (dx d_Model_expected 23 rfl) rfl hM.1.1 (by first | exact mf_output hM.1 | (simp [aj_up_at]; exact mf_output hM.1) | exact mf_output (by assumption)) ?_
      refine aj_iconst 39 (dx d_Model_expected 24 rfl) rfl ?_
      refine aj_iload_n 2 40 (dx d_Model_expected 25 rfl) rfl rfl rfl ?_
      refine aj_imul 41 (dx d_Model_expected 26 rfl) rfl ?_
      refine aj_aload_n 0 42 (dx d_Model_expected 27 rfl) rfl rfl rfl ?_
      refine aj_getfv (v := 95) 45 fl_Model_70 (dx d_Model_expected 28 rfl) rfl hM.1.1 (by first | exact mf_path hM.1 | (simp [aj_up_at]; exact mf_path hM.1) | exact mf_path (by assumption)) ?_
      refine aj_iload_n 1 46 (dx d_Model_expected 29 rfl) rfl rfl rfl ?_
      refine aj_iald 47 (dx d_Model_expected 30 rfl) rfl (ms_path hM.1) rfl (by omega) (by omega) ?_
      rw [hpj]
      refine aj_iadd 48 (dx d_Model_expected 31 rfl) rfl ?_
      refine aj_iald 49 (dx d_Model_expected 32 rfl) rfl (ms_output hM.1) rfl (by omega) (by omega) ?_
      rw [e2]
      refine aj_iret (dx d_Model_expected 33 rfl) rfl id ?_
      rw [drop_s hi] at hk
      exact hk
    · have hlj : u[u.length - 1 - j]'(by omega) < k := hu _ (List.getElem_mem _)
      have hpj := hp j (by omega)
      have hst := rn_lt hcl hs0 (u.drop (u.length - j)) (fun a ha => hu a (List.mem_of_mem_drop ha))
      obtain ⟨e1, e2, e3, e4⟩ := hM.2.2.2.2.2 _ _ hst hlj
      refine aj_aload_n 0 13 (dx d_Model_expected 8 rfl) rfl rfl rfl ?_
      refine aj_getfv (v := 79) 16 fl_Model_7 (dx d_Model_expected 9 rfl) rfl hM.1.1 (by first | exact mf_next hM.1 | (simp [aj_up_at]; exact mf_next hM.1) | exact mf_next (by assumption)) ?_
      refine aj_iconst 17 (dx d_Model_expected 10 rfl) rfl ?_
      refine aj_iload_n 2 18 (dx d_Model_expected 11 rfl) rfl rfl rfl ?_
      refine aj_imul 19 (dx d_Model_expected 12 rfl) rfl ?_
      refine aj_aload_n 0 20 (dx d_Model_expected 13 rfl) rfl rfl rfl ?_
      refine aj_getfv (v := 95) 23 fl_Model_70 (dx d_Model_expected 14 rfl) rfl hM.1.1 (by first | exact mf_path hM.1 | (simp [aj_up_at]; exact mf_path hM.1) | exact mf_path (by assumption)) ?_
      refine aj_iload_n 3 24 (dx d_Model_expected 15 rfl) rfl rfl rfl ?_
      refine aj_iald 25 (dx d_Model_expected 16 rfl) rfl (ms_path hM.1) rfl (by omega) (by omega) ?_
      rw [hpj]
      refine aj_iadd 26 (dx d_Model_expected 17 rfl) rfl ?_
      refine aj_iald 27 (dx d_Model_expected 18 rfl) rfl (ms_next hM.1) rfl (by omega) (by omega) ?_
      rw [e1]
      refine aj_istore_n 2 28 (dx d_Model_expected 19 rfl) rfl rfl rfl ?_
      simp only [List.set]
      refine aj_iinc 3 31 (dx d_Model_expected 20 rfl) rfl rfl rfl ?_
      simp only [List.set]
      refine aj_goto 7 (dx d_Model_expected 21 rfl) rfl ?_
      have hih := ih _ (by omega) (j + 1) (by omega) rfl
      rw [show u.length - (j + 1) = u.length - 1 - j by omega, drop_s (by omega)] at hih
      rw [show ((j : Nat) : Int) + 1 = ((j + 1 : Nat) : Int) by omega]
      exact hih
set_option maxHeartbeats 4000000 in
theorem k_Model_expected {al : Prop} {X : Option (Nat × (Int → Int))} {d : Nat} {sh : List aj_S} {g : aj_G} {Q : aj_R → List aj_S → aj_G → Prop} {k n s0 : Nat} {nx ou : Nat → Nat → Nat} (hM : mmm sh g k n nx ou) (h5 : g 78 5 = (s0 : Nat)) (hs0 : s0 < n) {u : List Nat} (hu : wd_ok k u) (hul : u.length ≤ 18) (hp : pth g u) {i : Nat} (hi : i < u.length) (hk : Q (.inl (some (0, (eo nx ou s0 (u.drop (u.length - 1 - i)) : Int)))) sh g) : aj_wp nE al al X m_Model_expected d 0 0 0 [some (1, 78), some (0, (i : Int)), none, none] [] sh g Q := by
  refine aj_aload_n 0 1 (dx d_Model_expected 0 rfl) rfl rfl rfl ?_
  refine aj_getfv (v := (s0 : Int)) 4 fl_Model_109 (dx d_Model_expected 1 rfl) rfl hM.1.1 h5 ?_
  refine aj_istore_n 2 5 (dx d_Model_expected 2 rfl) rfl rfl rfl ?_
  simp only [List.set]
  refine aj_iconst 6 (dx d_Model_expected 3 rfl) rfl ?_
  refine aj_istore_n 3 7 (dx d_Model_expected 4 rfl) rfl rfl rfl ?_
  simp only [List.set]
  have := k_ex_loop (d := d) (X := X) (al := al) hM h5 hs0 hu hul hp hi hk _ 0 (by omega) rfl
  rw [Nat.sub_zero, List.drop_length] at this
  exact this
set_option maxHeartbeats 4000000 in
theorem k_Model_isTest {al : Prop} {X : Option (Nat × (Int → Int))} {d : Nat} {sh : List aj_S} {g : aj_G} {Q : aj_R → List aj_S → aj_G → Prop} {w v20 v25 : Int} (hm : mos sh g) (h20 : g 78 20 = v20) (hv : v20 = 0 ∨ v20 = 1) (h25 : g 78 25 = v25) (hv5 : aj_I v25) (hw : aj_I w) (hk1 : v20 = 1 → 0 ≤ w → w < v25 → Q (.inl (some (0, 1))) sh g) (hk0 : ¬ (v20 = 1 ∧ 0 ≤ w ∧ w < v25) → Q (.inl (some (0, 0))) sh g) : aj_wp nE al al X m_Model_isTest d 0 0 0 [some (1, 78), some (0, w)] [] sh g Q := by
  refine aj_aload_n 0 1 (dx d_Model_isTest 0 rfl) rfl rfl rfl ?_
  refine aj_getfv (v := v20) 4 fl_Model_189 (dx d_Model_isTest 1 rfl) rfl hm.1 h20 ?_
  refine aj_if_eq 23 7 (dx d_Model_isTest 2 rfl) rfl rfl (by unfold aj_I; omega) (fun h4 => ?_) (fun h4 => ?_)
  · refine aj_iconst 24 (dx d_Model_isTest 11 rfl) rfl ?_
    refine aj_zret (dx d_Model_isTest 12 rfl) rfl (by omega) id ?_
    first | exact hk1 (by omega) (by omega) (by omega) | exact hk0 (by omega)
  · refine aj_iload_n 1 8 (dx d_Model_isTest 3 rfl) rfl rfl rfl ?_
    refine aj_if_lt 23 11 (dx d_Model_isTest 4 rfl) rfl rfl hw (fun h8 => ?_) (fun h8 => ?_)
    · refine aj_iconst 24 (dx d_Model_isTest 11 rfl) rfl ?_
      refine aj_zret (dx d_Model_isTest 12 rfl) rfl (by omega) id ?_
      first | exact hk1 (by omega) (by omega) (by omega) | exact hk0 (by omega)
    · refine aj_iload_n 1 12 (dx d_Model_isTest 5 rfl) rfl rfl rfl ?_
      refine aj_aload_n 0 13 (dx d_Model_isTest 6 rfl) rfl rfl rfl ?_
      refine aj_getfv (v := v25) 16 fl_Model_192 (dx d_Model_isTest 7 rfl) rfl hm.1 h25 ?_
      refine aj_icmp_ge 23 19 (dx d_Model_isTest 8 rfl) rfl rfl hw hv5 (fun h16 => ?_) (fun h16 => ?_)
      · refine aj_iconst 24 (dx d_Model_isTest 11 rfl) rfl ?_
        refine aj_zret (dx d_Model_isTest 12 rfl) rfl (by omega) id ?_
        first | exact hk1 (by omega) (by omega) (by omega) | exact hk0 (by omega)
      · refine aj_iconst 20 (dx d_Model_isTest 9 rfl) rfl ?_
        refine aj_goto 24 (dx d_Model_isTest 10 rfl) rfl ?_
        refine aj_zret (dx d_Model_isTest 12 rfl) rfl (by omega) id ?_
        first | exact hk1 (by omega) (by omega) (by omega) | exact hk0 (by omega)
theorem un_M {sh : List aj_S} {g g1 : aj_G} {k n : Nat} {nx ou : Nat → Nat → Nat} (hM : mmm sh g k n nx ou) (h : unF g g1) : mmm sh g1 k n nx ou := mmm_of hM (fun j _ => by rw [h 78 (by omega)]) (h 79 (by omega)) (h 80 (by omega))
theorem mT_th {g : aj_G} {k c : Nat} {W : Nat → List Nat} {T : List (List Nat)} (x : Int) (hT : mT g k c W T) : mT (aj_up g 78 0 x) k c W T := mT_of hT (aj_up_ni _ _ _ (by omega)) (aj_up_ni _ _ _ (by omega)) (aj_up_ni _ _ _ (by omega)) (aj_up_ne _ _ _ (by omega)) (aj_up_ne _ _ _ (by omega)) (aj_up_ne _ _ _ (by omega))
set_option maxHeartbeats 4000000 in
theorem k_Model_test {al : Prop} {X : Option (Nat × (Int → Int))} {d : Nat} {sh : List aj_S} {g : aj_G} {Q : aj_R → List aj_S → aj_G → Prop} {k n s0 c : Nat} {nx ou : Nat → Nat → Nat} {W : Nat → List Nat} {T : List (List Nat)} (hM : mmm sh g k n nx ou) (h5 : g 78 5 = (s0 : Nat)) (hs0 : s0 < n) {w i e v20 v25 : Int} (h20 : g 78 20 = v20) (hv : v20 = 0 ∨ v20 = 1) (h25 : g 78 25 = v25) (hv5 : aj_I v25) (hT : v20 = 1 → mT g k c W T) (hw : aj_I w) (hi : aj_I i) (he : e = 0 ∨ e = 1) (hk0 : ¬ (v20 = 1 ∧ 0 ≤ w ∧ w < v25) → Q (.inl (some (0, -1))) sh (aj_up g 78 0 0))
    (hk1 : ∀ (w' : Nat) (g1 : aj_G), w = w' → (h : w' < T.length) → unF (aj_up g 78 0 0) g1 → i = -1 → Q (.inl (some (0, (T[w'].length : Int)))) sh g1)
    (hk2 : ∀ (w' i' : Nat) (g1 : aj_G), w = w' → (h : w' < T.length) → unF (aj_up g 78 0 0) g1 → i = i' → i' < T[w'].length → e = 1 → Q (.inl (some (0, (eo nx ou s0 (T[w'].drop (T[w'].length - 1 - i')) : Int)))) sh g1)
    (hk3 : ∀ (w' i' : Nat) (g1 : aj_G), w = w' → (h : w' < T.length) → unF (aj_up g 78 0 0) g1 → i = i' → (h2 : i' < T[w'].length) → e = 0 → Q (.inl (some (0, (T[w'][T[w'].length - 1 - i'] : Int)))) sh g1)
    (hk4 : ∀ (w' : Nat) (g1 : aj_G), w = w' → (h : w' < T.length) → unF (aj_up g 78 0 0) g1 → i ≠ -1 → ¬ (0 ≤ i ∧ i < T[w'].length) → Q (.inl (some (0, -1))) sh g1) :
    aj_wp nE al al X m_Model_test (d + 1) 0 0 0 [some (1, 78), some (0, w), some (0, i), some (0, e), none] [] sh g Q := by
  have hm0 := hM.1
  have hm1 : mos sh (aj_up g 78 0 0) := (mmm_th 0 hM).1
  refine aj_aload_n 0 1 (dx d_Model_test 0 rfl) rfl rfl rfl ?_
  refine aj_iconst 2 (dx d_Model_test 1 rfl) rfl ?_
  refine aj_putf 5 (pl_Model_92 _) (dx d_Model_test 2 rfl) rfl hm0.1 (aj_fitI _) ?_
  refine aj_aload_n 0 6 (dx d_Model_test 3 rfl) rfl rfl rfl ?_
  refine aj_iload_n 1 7 (dx d_Model_test 4 rfl) rfl rfl rfl ?_
  refine aj_callV1 10 cl_Model_198 (dx d_Model_test 5 rfl) rfl rfl rfl rfl rfl rfl hm0.1 (k_Model_isTest (v20 := v20) (v25 := v25) hm1 (by rw [aj_up_ni _ _ _ (by omega)]; exact h20) hv (by rw [aj_up_ni _ _ _ (by omega)]; exact h25) hv5 hw (fun a b c0 => ?_) (fun c1 => ?_))
  · change aj_wp _ _ _ _ _ _ _ _ _ _ _ _ _ _
    refine aj_if_ne 15 13 (dx d_Model_test 6 rfl) rfl rfl (by unfold aj_I; omega) (fun h10 => ?_) (fun h10 => ?_)
    · have hmade : mT g k c W T := hT a
      have e25 : v25 = T.length := h25.symm.trans hmade.2.2.1
      obtain ⟨w', rfl⟩ : ∃ w' : Nat, w = w' := ⟨w.toNat, by omega⟩
      have hw' : w' < T.length := by omega
      obtain ⟨hok, h18⟩ := mT_w hmade hw'
      refine aj_aload_n 0 16 (dx d_Model_test 9 rfl) rfl rfl rfl ?_
      refine aj_iload_n 1 17 (dx d_Model_test 10 rfl) rfl rfl rfl ?_
      refine aj_callV1 20 cl_Model_201 (dx d_Model_test 11 rfl) rfl rfl rfl rfl rfl rfl hm1.1 (k_Model_unfold hm1 (mT_th 0 hmade) hw' (fun g1 hF hp => ?_))
      · have hM1 := un_M (mmm_th 0 hM) hF
        change aj_wp _ _ _ _ _ _ _ _ _ _ _ _ _ _
        refine aj_istore 4 22 (dx d_Model_test 12 rfl) rfl rfl ?_
        simp only [List.set]
        refine aj_iload_n 2 23 (dx d_Model_test 13 rfl) rfl rfl rfl ?_
        refine aj_iconst 24 (dx d_Model_test 14 rfl) rfl ?_
        refine aj_icmp_ne 32 27 (dx d_Model_test 15 rfl) rfl rfl hi (by unfold aj_I; omega) (fun h24 => ?_) (fun h24 => ?_)
        · refine aj_iload_n 2 33 (dx d_Model_test 18 rfl) rfl rfl rfl ?_
          refine aj_if_lt 42 36 (dx d_Model_test 19 rfl) rfl rfl hi (fun h33 => ?_) (fun h33 => ?_)
          · refine aj_iconst 43 (dx d_Model_test 23 rfl) rfl ?_
            refine aj_goto 64 (dx d_Model_test 24 rfl) rfl ?_
            refine aj_iret (dx d_Model_test 35 rfl) rfl id ?_
            first | exact hk1 w' g1 rfl hw' hF (by omega) | exact hk2 w' _ g1 rfl hw' hF rfl (by omega) (by omega) | exact hk3 w' _ g1 rfl hw' hF rfl (by omega) (by omega) | exact hk4 w' g1 rfl hw' hF (by omega) (by omega)
          · refine aj_iload_n 2 37 (dx d_Model_test 20 rfl) rfl rfl rfl ?_
            refine aj_iload 4 39 (dx d_Model_test 21 rfl) rfl rfl ?_
            refine aj_icmp_lt 46 42 (dx d_Model_test 22 rfl) rfl rfl hi (by unfold aj_I; omega) (fun h39 => ?_) (fun h39 => ?_)
            · obtain ⟨i', rfl⟩ : ∃ i' : Nat, i = i' := ⟨i.toNat, by omega⟩
              refine aj_iload_n 3 47 (dx d_Model_test 25 rfl) rfl rfl rfl ?_
              refine aj_if_eq 58 50 (dx d_Model_test 26 rfl) rfl rfl (by unfold aj_I; omega) (fun h47 => ?_) (fun h47 => ?_)
              · refine aj_aload_n 0 59 (dx d_Model_test 31 rfl) rfl rfl rfl ?_
                refine aj_getfv (v := 95) 62 fl_Model_70 (dx d_Model_test 32 rfl) rfl hM1.1.1 (by first | exact mf_path hM1.1 | (simp [aj_up_at]; exact mf_path hM1.1) | exact mf_path (by assumption)) ?_
                refine aj_iload_n 2 63 (dx d_Model_test 33 rfl) rfl rfl rfl ?_
                refine aj_iald 64 (dx d_Model_test 34 rfl) rfl (ms_path hM1.1) rfl (by omega) (by omega) ?_
                rw [hp i' (by omega)]
                refine aj_iret (dx d_Model_test 35 rfl) rfl id ?_
                first | exact hk1 w' g1 rfl hw' hF (by omega) | exact hk2 w' _ g1 rfl hw' hF rfl (by omega) (by omega) | exact hk3 w' _ g1 rfl hw' hF rfl (by omega) (by omega) | exact hk4 w' g1 rfl hw' hF (by omega) (by omega)
              · refine aj_aload_n 0 51 (dx d_Model_test 27 rfl) rfl rfl rfl ?_
                refine aj_iload_n 2 52 (dx d_Model_test 28 rfl) rfl rfl rfl ?_
                refine aj_callV1 55 cl_Model_205 (dx d_Model_test 29 rfl) rfl rfl rfl rfl rfl rfl hM1.1.1 (k_Model_expected (u := T[w']) hM1 (by rw [hF 78 (by omega), aj_up_ni _ _ _ (by omega)]; exact h5) hs0 hok h18 hp (show i' < T[w'].length by omega) ?_)
                change aj_wp _ _ _ _ _ _ _ _ _ _ _ _ _ _
                refine aj_goto 64 (dx d_Model_test 30 rfl) rfl ?_
                refine aj_iret (dx d_Model_test 35 rfl) rfl id ?_
                first | exact hk1 w' g1 rfl hw' hF (by omega) | exact hk2 w' _ g1 rfl hw' hF rfl (by omega) (by omega) | exact hk3 w' _ g1 rfl hw' hF rfl (by omega) (by omega) | exact hk4 w' g1 rfl hw' hF (by omega) (by omega)
            · refine aj_iconst 43 (dx d_Model_test 23 rfl) rfl ?_
              refine aj_goto 64 (dx d_Model_test 24 rfl) rfl ?_
              refine aj_iret (dx d_Model_test 35 rfl) rfl id ?_
              first | exact hk1 w' g1 rfl hw' hF (by omega) | exact hk2 w' _ g1 rfl hw' hF rfl (by omega) (by omega) | exact hk3 w' _ g1 rfl hw' hF rfl (by omega) (by omega) | exact hk4 w' g1 rfl hw' hF (by omega) (by omega)
        · refine aj_iload 4 29 (dx d_Model_test 16 rfl) rfl rfl ?_
          refine aj_goto 64 (dx d_Model_test 17 rfl) rfl ?_
          refine aj_iret (dx d_Model_test 35 rfl) rfl id ?_
          first | exact hk1 w' g1 rfl hw' hF (by omega) | exact hk2 w' _ g1 rfl hw' hF rfl (by omega) (by omega) | exact hk3 w' _ g1 rfl hw' hF rfl (by omega) (by omega) | exact hk4 w' g1 rfl hw' hF (by omega) (by omega)
    · exact absurd h10 (by decide)
  · change aj_wp _ _ _ _ _ _ _ _ _ _ _ _ _ _
    refine aj_if_ne 15 13 (dx d_Model_test 6 rfl) rfl rfl (by unfold aj_I; omega) (fun h10 => ?_) (fun h10 => ?_)
    · exact absurd rfl h10
    · refine aj_iconst 14 (dx d_Model_test 7 rfl) rfl ?_
      refine aj_iret (dx d_Model_test 8 rfl) rfl id ?_
      exact hk0 c1
set_option maxHeartbeats 4000000 in
theorem k_fa_loop {al : Prop} {X : Option (Nat × (Int → Int))} {d : Nat} {sh : List aj_S} {g : aj_G} {Q : aj_R → List aj_S → aj_G → Prop} {k n s0 : Nat} {nx ou : Nat → Nat → Nat} (hM : mmm sh g k n nx ou) (h5 : g 78 5 = (s0 : Nat)) (hs0 : s0 < n) {mi : Nat} {ix io : Nat → Nat → Nat} (hI : mim g k mi ix io) (hmi : 0 < mi) {u : List Nat} (hu : wd_ok k u) (hul : u.length ≤ 18) (hp : pth g u) (hk : Q (.inl (some (0, ffw (fun v => eo ix io 0 v ≠ eo nx ou s0 v) u))) sh g) : ∀ (m i : Nat), i ≤ u.length → u.length - i = m → ffw (fun v => eo ix io 0 v ≠ eo nx ou s0 v) (u.drop (u.length - i)) = -1 →
    aj_wp nE al al X m_Model_fails (d + 1) 0 0 4 [some (1, 78), some (0, (u.length : Int)), some (0, (rn ix 0 (u.drop (u.length - i)) : Int)), some (0, (i : Int))] [] sh g Q := by
  have hk4 := hM.2.2.2.1
  have hm10 := hI.2.1
  have hcl : ∀ s i, s < n → i < k → nx s i < n := fun s i h1 h2 => (hM.2.2.2.2.2 s i h1 h2).2.2.1
  have hci : ∀ s i, s < mi → i < k → ix s i < mi := fun s i h1 h2 => (hI.2.2 s i h1 h2).2.2.1
  intro m
  induction m using Nat.strongRecOn with
  | ind m ih =>
    intro i hi hmm hz
    refine aj_iload_n 3 5 (dx d_Model_fails 4 rfl) rfl rfl rfl ?_
    refine aj_iload_n 1 6 (dx d_Model_fails 5 rfl) rfl rfl rfl ?_
    refine aj_icmp_ge 56 9 (dx d_Model_fails 6 rfl) rfl rfl (by unfold aj_I; omega) (by unfold aj_I; omega) (fun h6 => ?_) (fun h6 => ?_)
    · refine aj_iconst 57 (dx d_Model_fails 38 rfl) rfl ?_
      refine aj_iret (dx d_Model_fails 39 rfl) rfl id ?_
      rw [show u.length - i = 0 by omega] at hz
      have hz' : ffw (fun v => eo ix io 0 v ≠ eo nx ou s0 v) u = -1 := hz
      rw [hz'] at hk
      exact hk
    · have hlj : u[u.length - 1 - i]'(by omega) < k := hu _ (List.getElem_mem _)
      have hpj := hp i (by omega)
      have hst := rn_lt hci hmi (u.drop (u.length - i)) (fun a ha => hu a (List.mem_of_mem_drop ha))
      obtain ⟨e1, e2, e3, e4⟩ := hI.2.2 _ _ hst hlj
      have hds := drop_s (u := u) (i := i) (by omega)
      have heo : eo ix io 0 (u.drop (u.length - 1 - i)) = io (rn ix 0 (u.drop (u.length - i))) u[u.length - 1 - i] := by rw [hds]; rfl
      have heb : eo nx ou s0 (u.drop (u.length - 1 - i)) < 4 := by
        rw [hds]
        exact (hM.2.2.2.2.2 _ _ (rn_lt hcl hs0 (u.drop (u.length - i)) (fun a ha => hu a (List.mem_of_mem_drop ha))) hlj).2.2.2
      refine aj_aload_n 0 10 (dx d_Model_fails 7 rfl) rfl rfl rfl ?_
      refine aj_getfv (v := 89) 13 fl_Model_45 (dx d_Model_fails 8 rfl) rfl hM.1.1 (by first | exact mf_gives hM.1 | (simp [aj_up_at]; exact mf_gives hM.1) | exact mf_gives (by assumption)) ?_
      refine aj_iconst 14 (dx d_Model_fails 9 rfl) rfl ?_
      refine aj_iload_n 2 15 (dx d_Model_fails 10 rfl) rfl rfl rfl ?_
      refine aj_imul 16 (dx d_Model_fails 11 rfl) rfl ?_
      refine aj_aload_n 0 17 (dx d_Model_fails 12 rfl) rfl rfl rfl ?_
      refine aj_getfv (v := 95) 20 fl_Model_70 (dx d_Model_fails 13 rfl) rfl hM.1.1 (by first | exact mf_path hM.1 | (simp [aj_up_at]; exact mf_path hM.1) | exact mf_path (by assumption)) ?_
      refine aj_iload_n 3 21 (dx d_Model_fails 14 rfl) rfl rfl rfl ?_
      refine aj_iald 22 (dx d_Model_fails 15 rfl) rfl (ms_path hM.1) rfl (by omega) (by omega) ?_
      rw [hpj]
      refine aj_iadd 23 (dx d_Model_fails 16 rfl) rfl ?_
      refine aj_iald 24 (dx d_Model_fails 17 rfl) rfl (ms_gives hM.1) rfl (by omega) (by omega) ?_
      rw [e2]
      refine aj_aload_n 0 25 (dx d_Model_fails 18 rfl) rfl rfl rfl ?_
      refine aj_iload_n 3 26 (dx d_Model_fails 19 rfl) rfl rfl rfl ?_
      refine aj_callV1 29 cl_Model_205 (dx d_Model_fails 20 rfl) rfl rfl rfl rfl rfl rfl hM.1.1 (k_Model_expected hM h5 hs0 hu hul hp (show i < u.length by omega) ?_)
      change aj_wp _ _ _ _ _ _ _ _ _ _ _ _ _ _
      refine aj_icmp_eq 34 32 (dx d_Model_fails 21 rfl) rfl rfl (by unfold aj_I; omega) (by unfold aj_I; omega) (fun h29 => ?_) (fun h29 => ?_)
      · refine aj_aload_n 0 35 (dx d_Model_fails 24 rfl) rfl rfl rfl ?_
        refine aj_getfv (v := 88) 38 fl_Model_42 (dx d_Model_fails 25 rfl) rfl hM.1.1 (by first | exact mf_goes hM.1 | (simp [aj_up_at]; exact mf_goes hM.1) | exact mf_goes (by assumption)) ?_
        refine aj_iconst 39 (dx d_Model_fails 26 rfl) rfl ?_
        refine aj_iload_n 2 40 (dx d_Model_fails 27 rfl) rfl rfl rfl ?_
        refine aj_imul 41 (dx d_Model_fails 28 rfl) rfl ?_
        refine aj_aload_n 0 42 (dx d_Model_fails 29 rfl) rfl rfl rfl ?_
        refine aj_getfv (v := 95) 45 fl_Model_70 (dx d_Model_fails 30 rfl) rfl hM.1.1 (by first | exact mf_path hM.1 | (simp [aj_up_at]; exact mf_path hM.1) | exact mf_path (by assumption)) ?_
        refine aj_iload_n 3 46 (dx d_Model_fails 31 rfl) rfl rfl rfl ?_
        refine aj_iald 47 (dx d_Model_fails 32 rfl) rfl (ms_path hM.1) rfl (by omega) (by omega) ?_
        rw [hpj]
        refine aj_iadd 48 (dx d_Model_fails 33 rfl) rfl ?_
        refine aj_iald 49 (dx d_Model_fails 34 rfl) rfl (ms_goes hM.1) rfl (by omega) (by omega) ?_
        rw [e1]
        refine aj_istore_n 2 50 (dx d_Model_fails 35 rfl) rfl rfl rfl ?_
        simp only [List.set]
        refine aj_iinc 3 53 (dx d_Model_fails 36 rfl) rfl rfl rfl ?_
        simp only [List.set]
        refine aj_goto 4 (dx d_Model_fails 37 rfl) rfl ?_
        have hd : ¬ (eo ix io 0 (u.drop (u.length - 1 - i)) ≠ eo nx ou s0 (u.drop (u.length - 1 - i))) := fun z => z (by rw [heo]; omega)
        have hih := ih _ (by omega) (i + 1) (by omega) rfl (by
          rw [show u.length - (i + 1) = u.length - 1 - i by omega]
          rw [hds] at hd ⊢
          exact ffw_f hz hd)
        rw [show u.length - (i + 1) = u.length - 1 - i by omega, hds] at hih
        rw [show ((i : Nat) : Int) + 1 = ((i + 1 : Nat) : Int) by omega]
        exact hih
      · refine aj_iload_n 3 33 (dx d_Model_fails 22 rfl) rfl rfl rfl ?_
        refine aj_iret (dx d_Model_fails 23 rfl) rfl id ?_
        have hd : eo ix io 0 (u.drop (u.length - 1 - i)) ≠ eo nx ou s0 (u.drop (u.length - 1 - i)) := fun z => h29 (by rw [← heo, z])
        have hf : ffw (fun v => eo ix io 0 v ≠ eo nx ou s0 v) (u.drop (u.length - 1 - i)) = i := by
          rw [hds] at hd ⊢
          rw [ffw_t hz hd, List.length_drop]
          omega
        have hall : ffw (fun v => eo ix io 0 v ≠ eo nx ou s0 v) u = i := by
          have := ffw_app (D := (fun v => eo ix io 0 v ≠ eo nx ou s0 v)) (v := u.drop (u.length - 1 - i)) (by rw [hf]; omega) (u.take (u.length - 1 - i))
          rw [List.take_append_drop] at this
          rw [this, hf]
        rw [← hall]
        exact hk
set_option maxHeartbeats 4000000 in
theorem k_Model_fails {al : Prop} {X : Option (Nat × (Int → Int))} {d : Nat} {sh : List aj_S} {g : aj_G} {Q : aj_R → List aj_S → aj_G → Prop} {k n s0 : Nat} {nx ou : Nat → Nat → Nat} (hM : mmm sh g k n nx ou) (h5 : g 78 5 = (s0 : Nat)) (hs0 : s0 < n) {mi : Nat} {ix io : Nat → Nat → Nat} (hI : mim g k mi ix io) (hmi : 0 < mi) {u : List Nat} (hu : wd_ok k u) (hul : u.length ≤ 18) (hp : pth g u) (hk : Q (.inl (some (0, ffw (fun v => eo ix io 0 v ≠ eo nx ou s0 v) u))) sh g) : aj_wp nE al al X m_Model_fails (d + 1) 0 0 0 [some (1, 78), some (0, (u.length : Int)), none, none] [] sh g Q := by
  refine aj_iconst 1 (dx d_Model_fails 0 rfl) rfl ?_
  refine aj_istore_n 2 2 (dx d_Model_fails 1 rfl) rfl rfl rfl ?_
  simp only [List.set]
  refine aj_iconst 3 (dx d_Model_fails 2 rfl) rfl ?_
  refine aj_istore_n 3 4 (dx d_Model_fails 3 rfl) rfl rfl rfl ?_
  simp only [List.set]
  have := k_fa_loop (d := d) (X := X) (al := al) hM h5 hs0 hI hmi hu hul hp hk _ 0 (by omega) rfl (by rw [Nat.sub_zero, List.drop_length]; rfl)
  rw [Nat.sub_zero, List.drop_length] at this
  exact this
set_option maxHeartbeats 4000000 in
theorem k_ru_loop {al : Prop} {X : Option (Nat × (Int → Int))} {d : Nat} {sh : List aj_S} {g : aj_G} {Q : aj_R → List aj_S → aj_G → Prop} {k n s0 c : Nat} {nx ou : Nat → Nat → Nat} {W : Nat → List Nat} {T : List (List Nat)} (hM : mmm sh g k n nx ou) (h5 : g 78 5 = (s0 : Nat)) (hs0 : s0 < n) {mi : Nat} {ix io : Nat → Nat → Nat} (hI : mim g k mi ix io) (hmi : 0 < mi) (hT : mT g k c W T) (hk1 : ∀ (g1 : aj_G) (w : Nat) (h : w < T.length), ((∀ r, r ≠ 78 → r ≠ 95 → g1 r = g r) ∧ ∀ j, j ≠ 29 → g1 78 j = g 78 j) → ffw (fun v => eo ix io 0 v ≠ eo nx ou s0 v) T[w] ≠ -1 → (∀ (w' : Nat) (h' : w' < T.length), w' < w → ffw (fun v => eo ix io 0 v ≠ eo nx ou s0 v) T[w'] = -1) → g1 78 29 = ffw (fun v => eo ix io 0 v ≠ eo nx ou s0 v) T[w] → Q (.inl (some (0, (w : Int)))) sh g1) (hk0 : ∀ (g1 : aj_G), ((∀ r, r ≠ 78 → r ≠ 95 → g1 r = g r) ∧ ∀ j, j ≠ 29 → g1 78 j = g 78 j) → (∀ (w' : Nat) (h' : w' < T.length), ffw (fun v => eo ix io 0 v ≠ eo nx ou s0 v) T[w'] = -1) → g1 78 29 = -1 → Q (.inl (some (0, -1))) sh g1) : ∀ (m w : Nat) (g1 : aj_G), w ≤ T.length → T.length - w = m → ((∀ r, r ≠ 78 → r ≠ 95 → g1 r = g r) ∧ ∀ j, j ≠ 29 → g1 78 j = g 78 j) → g1 78 29 = -1 → (∀ (w' : Nat) (h' : w' < T.length), w' < w → ffw (fun v => eo ix io 0 v ≠ eo nx ou s0 v) T[w'] = -1) →
    aj_wp nE al al X m_Model_run (d + 2) 0 0 32 [some (1, 78), some (0, (w : Int))] [] sh g1 Q := by
  have ht8 := mT_cnt hT
  intro m
  induction m using Nat.strongRecOn with
  | ind m ih =>
    intro w g1 hw hmm hG h29 hall
    have hM1 : mmm sh g1 k n nx ou := mmm_of hM (fun j hj => hG.2 j (by unfold mo_fin at hj; omega)) (hG.1 79 (by omega) (by omega)) (hG.1 80 (by omega) (by omega))
    have hT1 : mT g1 k c W T := mT_of hT (hG.2 20 (by omega)) (hG.2 21 (by omega)) (hG.2 25 (by omega)) (hG.1 92 (by omega) (by omega)) (hG.1 93 (by omega) (by omega)) (hG.1 94 (by omega) (by omega))
    have hI1 : mim g1 k mi ix io := ⟨by rw [hG.2 17 (by omega)]; exact hI.1, hI.2.1, fun x i hx hi => by rw [hG.1 88 (by omega) (by omega), hG.1 89 (by omega) (by omega)]; exact hI.2.2 x i hx hi⟩
    have h51 : g1 78 5 = (s0 : Nat) := (hG.2 5 (by omega)).trans h5
    refine aj_iload_n 1 33 (dx d_Model_run 18 rfl) rfl rfl rfl ?_
    refine aj_aload_n 0 34 (dx d_Model_run 19 rfl) rfl rfl rfl ?_
    refine aj_getfv (v := (T.length : Int)) 37 fl_Model_192 (dx d_Model_run 20 rfl) rfl hM1.1.1 hT1.2.2.1 ?_
    refine aj_icmp_ge 68 40 (dx d_Model_run 21 rfl) rfl rfl (by unfold aj_I; omega) (by unfold aj_I; omega) (fun h37 => ?_) (fun h37 => ?_)
    · refine aj_iconst 69 (dx d_Model_run 36 rfl) rfl ?_
      refine aj_iret (dx d_Model_run 37 rfl) rfl id ?_
      exact hk0 g1 hG (fun w' h' => hall w' h' (by omega)) h29
    · have hwT : w < T.length := by omega
      obtain ⟨hok, h18⟩ := mT_w hT hwT
      refine aj_aload_n 0 41 (dx d_Model_run 22 rfl) rfl rfl rfl ?_
      refine aj_aload_n 0 42 (dx d_Model_run 23 rfl) rfl rfl rfl ?_
      refine aj_aload_n 0 43 (dx d_Model_run 24 rfl) rfl rfl rfl ?_
      refine aj_iload_n 1 44 (dx d_Model_run 25 rfl) rfl rfl rfl ?_
      refine aj_callV1 47 cl_Model_201 (dx d_Model_run 26 rfl) rfl rfl rfl rfl rfl rfl hM1.1.1 (k_Model_unfold hM1.1 hT1 hwT (fun g2 hF2 hp2 => ?_))
      · have hM2 := un_M hM1 hF2
        have hI2 : mim g2 k mi ix io := ⟨by rw [hF2 78 (by omega)]; exact hI1.1, hI1.2.1, fun x i hx hi => by rw [hF2 88 (by omega), hF2 89 (by omega)]; exact hI1.2.2 x i hx hi⟩
        change aj_wp _ _ _ _ _ _ _ _ _ _ _ _ _ _
        refine aj_callV1 50 cl_Model_208 (dx d_Model_run 27 rfl) rfl rfl rfl rfl rfl rfl hM1.1.1 (k_Model_fails hM2 (by rw [hF2 78 (by omega)]; exact h51) hs0 hI2 hmi hok h18 hp2 ?_)
        change aj_wp _ _ _ _ _ _ _ _ _ _ _ _ _ _
        refine aj_putf 53 (pl_Model_63 _) (dx d_Model_run 28 rfl) rfl hM1.1.1 (aj_fitI _) ?_
        refine aj_aload_n 0 54 (dx d_Model_run 29 rfl) rfl rfl rfl ?_
        refine aj_getf 57 fl_Model_63 (dx d_Model_run 30 rfl) rfl hM1.1.1 ?_
        rw [show aj_up g2 78 29 (ffw (fun v => eo ix io 0 v ≠ eo nx ou s0 v) T[w]) 78 29 = ffw (fun v => eo ix io 0 v ≠ eo nx ou s0 v) T[w] by rw [aj_up_self]]
        refine aj_if_lt 62 60 (dx d_Model_run 31 rfl) rfl rfl (by have := ffw_lt (D := (fun v => eo ix io 0 v ≠ eo nx ou s0 v)) T[w]; unfold aj_I; omega) (fun h57 => ?_) (fun h57 => ?_)
        · refine aj_iinc 1 65 (dx d_Model_run 34 rfl) rfl rfl rfl ?_
          simp only [List.set]
          refine aj_goto 32 (dx d_Model_run 35 rfl) rfl ?_
          rw [show ((w : Nat) : Int) + 1 = ((w + 1 : Nat) : Int) by omega]
          have hlt := ffw_lt (D := (fun v => eo ix io 0 v ≠ eo nx ou s0 v)) T[w]
          exact ih _ (by omega) (w + 1) _ (by omega) rfl ⟨fun r a b => by rw [aj_up_ne _ _ _ a, hF2 r b]; exact hG.1 r a b, fun j hj => by rw [aj_up_ni _ _ _ hj, hF2 78 (by omega)]; exact hG.2 j hj⟩ (by rw [aj_up_self]; omega) (fun w' h' hlt' => by
            rcases Nat.lt_or_ge w' w with z | z
            · exact hall w' h' z
            · have e : w' = w := by omega
              subst e
              omega)
        · refine aj_iload_n 1 61 (dx d_Model_run 32 rfl) rfl rfl rfl ?_
          refine aj_iret (dx d_Model_run 33 rfl) rfl id ?_
          exact hk1 _ w hwT ⟨fun r a b => by rw [aj_up_ne _ _ _ a, hF2 r b]; exact hG.1 r a b, fun j hj => by rw [aj_up_ni _ _ _ hj, hF2 78 (by omega)]; exact hG.2 j hj⟩ (by omega) (fun w' h' hlt => hall w' h' hlt) (by rw [aj_up_self])
set_option maxHeartbeats 4000000 in
theorem k_Model_run {al : Prop} {X : Option (Nat × (Int → Int))} {d : Nat} {sh : List aj_S} {g : aj_G} {Q : aj_R → List aj_S → aj_G → Prop} {k n s0 c : Nat} {nx ou : Nat → Nat → Nat} {W : Nat → List Nat} {T : List (List Nat)} (hM : mmm sh g k n nx ou) (hx5 : g 78 5 = (s0 : Nat)) (hs0 : s0 < n) {mi : Nat} {ix io : Nat → Nat → Nat} (hI : mim g k mi ix io) (hmi : 0 < mi) (hT : mT g k c W T) (hk1 : ∀ (g1 : aj_G) (w : Nat) (h : w < T.length), ((∀ r, r ≠ 78 → r ≠ 95 → g1 r = aj_up g 78 0 0 r) ∧ ∀ j, j ≠ 29 → g1 78 j = aj_up g 78 0 0 78 j) → ffw (fun v => eo ix io 0 v ≠ eo nx ou s0 v) T[w] ≠ -1 → (∀ (w' : Nat) (h' : w' < T.length), w' < w → ffw (fun v => eo ix io 0 v ≠ eo nx ou s0 v) T[w'] = -1) → g1 78 29 = ffw (fun v => eo ix io 0 v ≠ eo nx ou s0 v) T[w] → Q (.inl (some (0, (w : Int)))) sh g1) (hk0 : ∀ (g1 : aj_G), ((∀ r, r ≠ 78 → r ≠ 95 → g1 r = aj_up g 78 0 0 r) ∧ ∀ j, j ≠ 29 → g1 78 j = aj_up g 78 0 0 78 j) → (∀ (w' : Nat) (h' : w' < T.length), ffw (fun v => eo ix io 0 v ≠ eo nx ou s0 v) T[w'] = -1) → g1 78 29 = -1 → Q (.inl (some (0, -1))) sh g1) : aj_wp nE al al X m_Model_run (d + 2) 0 0 0 [some (1, 78), none] [] sh g Q := by
  refine aj_aload_n 0 1 (dx d_Model_run 0 rfl) rfl rfl rfl ?_
  refine aj_aload_n 0 2 (dx d_Model_run 1 rfl) rfl rfl rfl ?_
  refine aj_getfv (v := 1) 5 fl_Model_189 (dx d_Model_run 2 rfl) rfl hM.1.1 hT.1 ?_
  refine aj_if_eq 12 8 (dx d_Model_run 3 rfl) rfl rfl (by unfold aj_I; omega) (fun h5 => ?_) (fun h5 => ?_)
  · exact absurd h5 (by decide)
  · refine aj_iconst 9 (dx d_Model_run 4 rfl) rfl ?_
    refine aj_goto 13 (dx d_Model_run 5 rfl) rfl ?_
    refine aj_putf 16 (pl_Model_92 _) (dx d_Model_run 7 rfl) rfl hM.1.1 (aj_fitI _) ?_
    refine aj_aload_n 0 17 (dx d_Model_run 8 rfl) rfl rfl rfl ?_
    refine aj_getf 20 fl_Model_92 (dx d_Model_run 9 rfl) rfl hM.1.1 ?_
    rw [show aj_up g 78 0 0 78 0 = 0 by rw [aj_up_self]]
    refine aj_if_le 25 23 (dx d_Model_run 10 rfl) rfl rfl (by unfold aj_I; omega) (fun h20 => ?_) (fun h20 => ?_)
    · refine aj_aload_n 0 26 (dx d_Model_run 13 rfl) rfl rfl rfl ?_
      refine aj_iconst 27 (dx d_Model_run 14 rfl) rfl ?_
      refine aj_putf 30 (pl_Model_63 _) (dx d_Model_run 15 rfl) rfl hM.1.1 (aj_fitI _) ?_
      refine aj_iconst 31 (dx d_Model_run 16 rfl) rfl ?_
      refine aj_istore_n 1 32 (dx d_Model_run 17 rfl) rfl rfl rfl ?_
      simp only [List.set]
      have hmm : mmm sh (aj_up g 78 0 0) k n nx ou := mmm_th 0 hM
      exact k_ru_loop (g := aj_up g 78 0 0) hmm (by rw [aj_up_ni _ _ _ (by omega)]; exact hx5) hs0 ⟨by rw [aj_up_ni _ _ _ (by omega)]; exact hI.1, hI.2.1, fun x i hx hi => by rw [aj_up_ne _ _ _ (by omega), aj_up_ne _ _ _ (by omega)]; exact hI.2.2 x i hx hi⟩ hmi (mT_th 0 hT) hk1 hk0 _ 0 _ (by omega) rfl ⟨fun r a _ => by rw [aj_up_ne _ _ _ a], fun j hj => by rw [aj_up_ni _ _ _ hj]⟩ (by rw [aj_up_self]) (fun w' _ h => absurd h (Nat.not_lt_zero _))
    · exact absurd h20 (by decide)
set_option maxHeartbeats 4000000 in
theorem k_Model_run1 {al : Prop} {X : Option (Nat × (Int → Int))} {d : Nat} {sh : List aj_S} {g : aj_G} {Q : aj_R → List aj_S → aj_G → Prop} (hm : mos sh g) (h20 : g 78 20 = 0) (hk : Q (.inl (some (0, 0))) sh (aj_up g 78 0 1)) : aj_wp nE al al X m_Model_run d 0 0 0 [some (1, 78), none] [] sh g Q := by
  refine aj_aload_n 0 1 (dx d_Model_run 0 rfl) rfl rfl rfl ?_
  refine aj_aload_n 0 2 (dx d_Model_run 1 rfl) rfl rfl rfl ?_
  refine aj_getfv (v := 0) 5 fl_Model_189 (dx d_Model_run 2 rfl) rfl hm.1 h20 ?_
  refine aj_if_eq 12 8 (dx d_Model_run 3 rfl) rfl rfl (by unfold aj_I; omega) (fun h5 => ?_) (fun h5 => ?_)
  · refine aj_iconst 13 (dx d_Model_run 6 rfl) rfl ?_
    refine aj_putf 16 (pl_Model_92 _) (dx d_Model_run 7 rfl) rfl hm.1 (aj_fitI _) ?_
    refine aj_aload_n 0 17 (dx d_Model_run 8 rfl) rfl rfl rfl ?_
    refine aj_getf 20 fl_Model_92 (dx d_Model_run 9 rfl) rfl hm.1 ?_
    rw [show aj_up g 78 0 1 78 0 = 1 by rw [aj_up_self]]
    refine aj_if_le 25 23 (dx d_Model_run 10 rfl) rfl rfl (by unfold aj_I; omega) (fun h20z => ?_) (fun h20z => ?_)
    · exact absurd h20z (by decide)
    · refine aj_iconst 24 (dx d_Model_run 11 rfl) rfl ?_
      refine aj_iret (dx d_Model_run 12 rfl) rfl id ?_
      exact hk
  · exact absurd rfl h5
set_option maxHeartbeats 4000000 in
theorem k_Model_begin {al : Prop} {X : Option (Nat × (Int → Int))} {d : Nat} {sh : List aj_S} {g : aj_G} {Q : aj_R → List aj_S → aj_G → Prop} {k n c : Nat} {nx ou : Nat → Nat → Nat} {W : Nat → List Nat} {T : List (List Nat)} (hM : mmm sh g k n nx ou)  {w v20 v25 : Int} (h20x : g 78 20 = v20) (hv : v20 = 0 ∨ v20 = 1) (h25x : g 78 25 = v25) (hv5 : aj_I v25) (hT : v20 = 1 → mT g k c W T) (hne : ∀ (t : Nat) (h : t < T.length), 0 < T[t].length) (hw : aj_I w) (hk0 : ¬ (v20 = 1 ∧ 0 ≤ w ∧ w < v25) → Q (.inl (some (0, 0))) sh (aj_up g 78 0 1))
    (hk1 : ∀ (w' : Nat) (g1 : aj_G), w = w' → (h : w' < T.length) → unF (aj_up g 78 0 0) g1 → Q (.inl (some (0, ((T[w'])[T[w'].length - 1]'(by have := hne w' h; omega) : Int)))) sh (aj_up (aj_up g1 78 30 (w' : Nat)) 78 31 0)) :
    aj_wp nE al al X m_Model_begin (d + 1) 0 0 0 [some (1, 78), some (0, w), none] [] sh g Q := by
  have hm0 := hM.1
  refine aj_aload_n 0 1 (dx d_Model_begin 0 rfl) rfl rfl rfl ?_
  refine aj_aload_n 0 2 (dx d_Model_begin 1 rfl) rfl rfl rfl ?_
  refine aj_iload_n 1 3 (dx d_Model_begin 2 rfl) rfl rfl rfl ?_
  refine aj_callV1 6 cl_Model_198 (dx d_Model_begin 3 rfl) rfl rfl rfl rfl rfl rfl hm0.1 (k_Model_isTest (v20 := v20) (v25 := v25) hm0 h20x hv h25x hv5 hw (fun a b c0 => ?_) (fun c1 => ?_))
  · change aj_wp _ _ _ _ _ _ _ _ _ _ _ _ _ _
    refine aj_if_eq 13 9 (dx d_Model_begin 4 rfl) rfl rfl (by unfold aj_I; omega) (fun h6 => ?_) (fun h6 => ?_)
    · exact absurd h6 (by decide)
    · refine aj_iconst 10 (dx d_Model_begin 5 rfl) rfl ?_
      refine aj_goto 14 (dx d_Model_begin 6 rfl) rfl ?_
      have hmade : mT g k c W T := hT a
      have e25 : v25 = T.length := h25x.symm.trans hmade.2.2.1
      obtain ⟨w', rfl⟩ : ∃ w' : Nat, w = w' := ⟨w.toNat, by omega⟩
      have hw' : w' < T.length := by omega
      obtain ⟨hok, h18⟩ := mT_w hmade hw'
      have hpos := hne w' hw'
      refine aj_putf 17 (pl_Model_92 _) (dx d_Model_begin 8 rfl) rfl hm0.1 (aj_fitI _) ?_
      refine aj_aload_n 0 18 (dx d_Model_begin 9 rfl) rfl rfl rfl ?_
      refine aj_getf 21 fl_Model_92 (dx d_Model_begin 10 rfl) rfl hm0.1 ?_
      rw [show aj_up g 78 0 0 78 0 = 0 by rw [aj_up_self]]
      refine aj_if_le 26 24 (dx d_Model_begin 11 rfl) rfl rfl (by unfold aj_I; omega) (fun h21 => ?_) (fun h21 => ?_)
      · refine aj_aload_n 0 27 (dx d_Model_begin 14 rfl) rfl rfl rfl ?_
        refine aj_iload_n 1 28 (dx d_Model_begin 15 rfl) rfl rfl rfl ?_
        refine aj_callV1 31 cl_Model_201 (dx d_Model_begin 16 rfl) rfl rfl rfl rfl rfl rfl hm0.1 (k_Model_unfold (mmm_th 0 hM).1 (mT_th 0 hmade) hw' (fun g1 hF hp => ?_))
        · have hM1 := un_M (mmm_th 0 hM) hF
          change aj_wp _ _ _ _ _ _ _ _ _ _ _ _ _ _
          refine aj_istore_n 2 32 (dx d_Model_begin 17 rfl) rfl rfl rfl ?_
          simp only [List.set]
          refine aj_aload_n 0 33 (dx d_Model_begin 18 rfl) rfl rfl rfl ?_
          refine aj_iload_n 1 34 (dx d_Model_begin 19 rfl) rfl rfl rfl ?_
          refine aj_putf 37 (pl_Model_67 _) (dx d_Model_begin 20 rfl) rfl hm0.1 (aj_fitI _) ?_
          refine aj_aload_n 0 38 (dx d_Model_begin 21 rfl) rfl rfl rfl ?_
          refine aj_iconst 39 (dx d_Model_begin 22 rfl) rfl ?_
          refine aj_putf 42 (pl_Model_211 _) (dx d_Model_begin 23 rfl) rfl hm0.1 (aj_fitI _) ?_
          refine aj_aload_n 0 43 (dx d_Model_begin 24 rfl) rfl rfl rfl ?_
          refine aj_getfv (v := 95) 46 fl_Model_70 (dx d_Model_begin 25 rfl) rfl hm0.1 (by first | exact mf_path hM1.1 | (simp [aj_up_at]; exact mf_path hM1.1) | exact mf_path (by assumption)) ?_
          refine aj_iconst 47 (dx d_Model_begin 26 rfl) rfl ?_
          refine aj_iald 48 (dx d_Model_begin 27 rfl) rfl (ms_path hm0) rfl (by omega) (by omega) ?_
          rw [show aj_up (aj_up g1 78 30 (w' : Int)) 78 31 0 95 0 = ((T[w'])[T[w'].length - 1] : Nat) by rw [aj_up_ne _ _ _ (by omega), aj_up_ne _ _ _ (by omega)]; exact hp 0 hpos]
          refine aj_iret (dx d_Model_begin 28 rfl) rfl id ?_
          exact hk1 w' g1 rfl hw' hF
      · exact absurd h21 (by decide)
  · change aj_wp _ _ _ _ _ _ _ _ _ _ _ _ _ _
    refine aj_if_eq 13 9 (dx d_Model_begin 4 rfl) rfl rfl (by unfold aj_I; omega) (fun h6 => ?_) (fun h6 => ?_)
    · refine aj_iconst 14 (dx d_Model_begin 7 rfl) rfl ?_
      refine aj_putf 17 (pl_Model_92 _) (dx d_Model_begin 8 rfl) rfl hm0.1 (aj_fitI _) ?_
      refine aj_aload_n 0 18 (dx d_Model_begin 9 rfl) rfl rfl rfl ?_
      refine aj_getf 21 fl_Model_92 (dx d_Model_begin 10 rfl) rfl hm0.1 ?_
      rw [show aj_up g 78 0 1 78 0 = 1 by rw [aj_up_self]]
      refine aj_if_le 26 24 (dx d_Model_begin 11 rfl) rfl rfl (by unfold aj_I; omega) (fun h21 => ?_) (fun h21 => ?_)
      · exact absurd h21 (by decide)
      · refine aj_iconst 25 (dx d_Model_begin 12 rfl) rfl ?_
        refine aj_iret (dx d_Model_begin 13 rfl) rfl id ?_
        exact hk0 c1
    · exact absurd rfl h6
set_option maxHeartbeats 4000000 in
theorem k_Model_give {al : Prop} {X : Option (Nat × (Int → Int))} {d : Nat} {sh : List aj_S} {g : aj_G} {Q : aj_R → List aj_S → aj_G → Prop} {k n s0 c : Nat} {nx ou : Nat → Nat → Nat} {W : Nat → List Nat} {T : List (List Nat)} (hM : mmm sh g k n nx ou) (h5x : g 78 5 = (s0 : Nat)) (hs0 : s0 < n) {x hd : Int} (h30 : g 78 30 = hd) (hdI : aj_I hd) (ho : aj_I x) (hH : 0 ≤ hd → ∃ w j : Nat, hd = w ∧ ∃ (h : w < T.length), j < T[w].length ∧ g 78 31 = (j : Nat) ∧ mT g k c W T)
    (hk1 : hd < 0 → Q (.inl (some (0, 0))) sh (aj_up g 78 0 1)) (hk2 : 0 ≤ hd → ¬ (0 ≤ x ∧ x < 4) → Q (.inl (some (0, 0))) sh (aj_up g 78 0 2))
    (hk3 : ∀ (w j : Nat) (g1 : aj_G) (h : w < T.length), hd = (w : Nat) → g 78 31 = (j : Nat) → j < T[w].length → unF (aj_up g 78 0 0) g1 → x ≠ (eo nx ou s0 (T[w].drop (T[w].length - 1 - j)) : Int) → Q (.inl (some (0, -2))) sh (aj_up (aj_up g1 78 31 ((j : Int) + 1)) 78 30 (-1)))
    (hk4 : ∀ (w j : Nat) (g1 : aj_G) (h : w < T.length), hd = (w : Nat) → g 78 31 = (j : Nat) → j < T[w].length → unF (aj_up g 78 0 0) g1 → x = (eo nx ou s0 (T[w].drop (T[w].length - 1 - j)) : Int) → j + 1 = T[w].length → Q (.inl (some (0, -1))) sh (aj_up (aj_up g1 78 31 ((j : Int) + 1)) 78 30 (-1)))
    (hk5 : ∀ (w j : Nat) (g1 : aj_G) (h : w < T.length), hd = (w : Nat) → g 78 31 = (j : Nat) → j < T[w].length → unF (aj_up g 78 0 0) g1 → x = (eo nx ou s0 (T[w].drop (T[w].length - 1 - j)) : Int) → (h2 : j + 1 < T[w].length) → Q (.inl (some (0, (T[w][T[w].length - 1 - (j + 1)] : Int)))) sh (aj_up g1 78 31 ((j : Int) + 1))) :
    aj_wp nE al al X m_Model_give (d + 1) 0 0 0 [some (1, 78), some (0, x), none, none] [] sh g Q := by
  refine aj_aload_n 0 1 (dx d_Model_give 0 rfl) rfl rfl rfl ?_
  refine aj_aload_n 0 2 (dx d_Model_give 1 rfl) rfl rfl rfl ?_
  refine aj_getfv (v := hd) 5 fl_Model_67 (dx d_Model_give 2 rfl) rfl hM.1.1 h30 ?_
  refine aj_if_ge 12 8 (dx d_Model_give 3 rfl) rfl rfl hdI (fun h5 => ?_) (fun h5 => ?_)
  · refine aj_iload_n 1 13 (dx d_Model_give 6 rfl) rfl rfl rfl ?_
    refine aj_callS1 16 cl_Model_102 (dx d_Model_give 7 rfl) rfl rfl rfl rfl rfl rfl (k_isO ho (fun c2 => ?_) (fun c2 => ?_))
    · change aj_wp _ _ _ _ _ _ _ _ _ _ _ _ _ _
      refine aj_if_ne 23 19 (dx d_Model_give 8 rfl) rfl rfl (by unfold aj_I; omega) (fun h16 => ?_) (fun h16 => ?_)
      · refine aj_iconst 24 (dx d_Model_give 11 rfl) rfl ?_
        obtain ⟨w, j, e30, hwT, hj, e31, hmade⟩ := hH (by omega)
        obtain ⟨hok, h18⟩ := mT_w hmade hwT
        refine aj_putf 27 (pl_Model_92 _) (dx d_Model_give 12 rfl) rfl hM.1.1 (aj_fitI _) ?_
        refine aj_aload_n 0 28 (dx d_Model_give 13 rfl) rfl rfl rfl ?_
        refine aj_getf 31 fl_Model_92 (dx d_Model_give 14 rfl) rfl hM.1.1 ?_
        rw [show aj_up g 78 0 0 78 0 = 0 by rw [aj_up_self]]
        refine aj_if_le 36 34 (dx d_Model_give 15 rfl) rfl rfl (by unfold aj_I; omega) (fun h31 => ?_) (fun h31 => ?_)
        · refine aj_aload_n 0 37 (dx d_Model_give 18 rfl) rfl rfl rfl ?_
          refine aj_aload_n 0 38 (dx d_Model_give 19 rfl) rfl rfl rfl ?_
          refine aj_getfv (v := (w : Int)) 41 fl_Model_67 (dx d_Model_give 20 rfl) rfl hM.1.1 (by rw [aj_up_ni _ _ _ (by omega), h30]; exact e30) ?_
          refine aj_callV1 44 cl_Model_201 (dx d_Model_give 21 rfl) rfl rfl rfl rfl rfl rfl hM.1.1 (k_Model_unfold (mmm_th 0 hM).1 (mT_th 0 hmade) hwT (fun g1 hF hp => ?_))
          · change aj_wp _ _ _ _ _ _ _ _ _ _ _ _ _ _
            have hM1 := un_M (mmm_th 0 hM) hF
            have h311 : g1 78 31 = (j : Nat) := by rw [hF 78 (by omega), aj_up_ni _ _ _ (by omega)]; exact e31
            have heb : eo nx ou s0 (T[w].drop (T[w].length - 1 - j)) < 4 := by
              rw [drop_s hj]
              exact (hM.2.2.2.2.2 _ _ (rn_lt (fun s i h1 h2 => (hM.2.2.2.2.2 s i h1 h2).2.2.1) hs0 _ (fun a ha => hok a (List.mem_of_mem_drop ha))) (hok _ (List.getElem_mem _))).2.2.2
            refine aj_istore_n 2 45 (dx d_Model_give 22 rfl) rfl rfl rfl ?_
            simp only [List.set]
            refine aj_aload_n 0 46 (dx d_Model_give 23 rfl) rfl rfl rfl ?_
            refine aj_aload_n 0 47 (dx d_Model_give 24 rfl) rfl rfl rfl ?_
            refine aj_getfv (v := (j : Int)) 50 fl_Model_211 (dx d_Model_give 25 rfl) rfl hM1.1.1 h311 ?_
            refine aj_callV1 53 cl_Model_205 (dx d_Model_give 26 rfl) rfl rfl rfl rfl rfl rfl hM1.1.1 (k_Model_expected hM1 (by rw [hF 78 (by omega), aj_up_ni _ _ _ (by omega)]; exact h5x) hs0 hok h18 hp hj ?_)
            change aj_wp _ _ _ _ _ _ _ _ _ _ _ _ _ _
            refine aj_istore_n 3 54 (dx d_Model_give 27 rfl) rfl rfl rfl ?_
            simp only [List.set]
            refine aj_aload_n 0 55 (dx d_Model_give 28 rfl) rfl rfl rfl ?_
            refine aj_dup 56 (dx d_Model_give 29 rfl) rfl rfl ?_
            refine aj_getfv (v := (j : Int)) 59 fl_Model_211 (dx d_Model_give 30 rfl) rfl hM1.1.1 h311 ?_
            refine aj_iconst 60 (dx d_Model_give 31 rfl) rfl ?_
            refine aj_iadd 61 (dx d_Model_give 32 rfl) rfl ?_
            refine aj_putf 64 (pl_Model_211 _) (dx d_Model_give 33 rfl) rfl hM1.1.1 (aj_fitI _) ?_
            refine aj_iload_n 1 65 (dx d_Model_give 34 rfl) rfl rfl rfl ?_
            refine aj_iload_n 3 66 (dx d_Model_give 35 rfl) rfl rfl rfl ?_
            refine aj_icmp_ne 77 69 (dx d_Model_give 36 rfl) rfl rfl ho (by unfold aj_I; omega) (fun h66 => ?_) (fun h66 => ?_)
            · refine aj_aload_n 0 78 (dx d_Model_give 41 rfl) rfl rfl rfl ?_
              refine aj_iconst 79 (dx d_Model_give 42 rfl) rfl ?_
              refine aj_putf 82 (pl_Model_67 _) (dx d_Model_give 43 rfl) rfl hM1.1.1 (aj_fitI _) ?_
              refine aj_iload_n 1 83 (dx d_Model_give 44 rfl) rfl rfl rfl ?_
              refine aj_iload_n 3 84 (dx d_Model_give 45 rfl) rfl rfl rfl ?_
              refine aj_icmp_eq 92 87 (dx d_Model_give 46 rfl) rfl rfl ho (by unfold aj_I; omega) (fun h84 => ?_) (fun h84 => ?_)
              · refine aj_iconst 93 (dx d_Model_give 49 rfl) rfl ?_
                refine aj_iret (dx d_Model_give 50 rfl) rfl id ?_
                first | exact hk3 w j g1 hwT e30 e31 hj hF (by omega) | exact hk4 w j g1 hwT e30 e31 hj hF (by omega) (by omega)
              · refine aj_bipush 89 (dx d_Model_give 47 rfl) rfl (by decide +kernel) ?_
                refine aj_goto 93 (dx d_Model_give 48 rfl) rfl ?_
                refine aj_iret (dx d_Model_give 50 rfl) rfl id ?_
                first | exact hk3 w j g1 hwT e30 e31 hj hF (by omega) | exact hk4 w j g1 hwT e30 e31 hj hF (by omega) (by omega)
            · refine aj_aload_n 0 70 (dx d_Model_give 37 rfl) rfl rfl rfl ?_
              refine aj_getfv (v := (j : Int) + 1) 73 fl_Model_211 (dx d_Model_give 38 rfl) rfl hM1.1.1 (by rw [aj_up_self]) ?_
              refine aj_iload_n 2 74 (dx d_Model_give 39 rfl) rfl rfl rfl ?_
              refine aj_icmp_ne 94 77 (dx d_Model_give 40 rfl) rfl rfl (by unfold aj_I; omega) (by unfold aj_I; omega) (fun h74 => ?_) (fun h74 => ?_)
              · refine aj_aload_n 0 95 (dx d_Model_give 51 rfl) rfl rfl rfl ?_
                refine aj_getfv (v := 95) 98 fl_Model_70 (dx d_Model_give 52 rfl) rfl hM1.1.1 (by first | exact mf_path hM1.1 | (simp [aj_up_at]; exact mf_path hM1.1) | exact mf_path (by assumption)) ?_
                refine aj_aload_n 0 99 (dx d_Model_give 53 rfl) rfl rfl rfl ?_
                refine aj_getfv (v := (j : Int) + 1) 102 fl_Model_211 (dx d_Model_give 54 rfl) rfl hM1.1.1 (by rw [aj_up_self]) ?_
                refine aj_iald 103 (dx d_Model_give 55 rfl) rfl (ms_path hM1.1) rfl (by omega) (by omega) ?_
                rw [show aj_up g1 78 31 ((j : Int) + 1) 95 ((j : Int) + 1) = (T[w][T[w].length - 1 - (j + 1)]'(by omega) : Nat) by rw [aj_up_ne _ _ _ (by omega)]; exact hp (j + 1) (by omega)]
                refine aj_iret (dx d_Model_give 56 rfl) rfl id ?_
                exact hk5 w j g1 hwT e30 e31 hj hF (by omega) (by omega)
              · refine aj_aload_n 0 78 (dx d_Model_give 41 rfl) rfl rfl rfl ?_
                refine aj_iconst 79 (dx d_Model_give 42 rfl) rfl ?_
                refine aj_putf 82 (pl_Model_67 _) (dx d_Model_give 43 rfl) rfl hM1.1.1 (aj_fitI _) ?_
                refine aj_iload_n 1 83 (dx d_Model_give 44 rfl) rfl rfl rfl ?_
                refine aj_iload_n 3 84 (dx d_Model_give 45 rfl) rfl rfl rfl ?_
                refine aj_icmp_eq 92 87 (dx d_Model_give 46 rfl) rfl rfl ho (by unfold aj_I; omega) (fun h84 => ?_) (fun h84 => ?_)
                · refine aj_iconst 93 (dx d_Model_give 49 rfl) rfl ?_
                  refine aj_iret (dx d_Model_give 50 rfl) rfl id ?_
                  first | exact hk3 w j g1 hwT e30 e31 hj hF (by omega) | exact hk4 w j g1 hwT e30 e31 hj hF (by omega) (by omega)
                · refine aj_bipush 89 (dx d_Model_give 47 rfl) rfl (by decide +kernel) ?_
                  refine aj_goto 93 (dx d_Model_give 48 rfl) rfl ?_
                  refine aj_iret (dx d_Model_give 50 rfl) rfl id ?_
                  first | exact hk3 w j g1 hwT e30 e31 hj hF (by omega) | exact hk4 w j g1 hwT e30 e31 hj hF (by omega) (by omega)
        · exact absurd h31 (by decide)
      · exact absurd h16 (by decide)
    · change aj_wp _ _ _ _ _ _ _ _ _ _ _ _ _ _
      refine aj_if_ne 23 19 (dx d_Model_give 8 rfl) rfl rfl (by unfold aj_I; omega) (fun h16 => ?_) (fun h16 => ?_)
      · exact absurd rfl h16
      · refine aj_iconst 20 (dx d_Model_give 9 rfl) rfl ?_
        refine aj_goto 24 (dx d_Model_give 10 rfl) rfl ?_
        refine aj_putf 27 (pl_Model_92 _) (dx d_Model_give 12 rfl) rfl hM.1.1 (aj_fitI _) ?_
        refine aj_aload_n 0 28 (dx d_Model_give 13 rfl) rfl rfl rfl ?_
        refine aj_getf 31 fl_Model_92 (dx d_Model_give 14 rfl) rfl hM.1.1 ?_
        rw [show aj_up g 78 0 2 78 0 = 2 by rw [aj_up_self]]
        refine aj_if_le 36 34 (dx d_Model_give 15 rfl) rfl rfl (by unfold aj_I; omega) (fun h31 => ?_) (fun h31 => ?_)
        · exact absurd h31 (by decide)
        · refine aj_iconst 35 (dx d_Model_give 16 rfl) rfl ?_
          refine aj_iret (dx d_Model_give 17 rfl) rfl id ?_
          exact hk2 (by omega) (by omega)
  · refine aj_iconst 9 (dx d_Model_give 4 rfl) rfl ?_
    refine aj_goto 24 (dx d_Model_give 5 rfl) rfl ?_
    refine aj_putf 27 (pl_Model_92 _) (dx d_Model_give 12 rfl) rfl hM.1.1 (aj_fitI _) ?_
    refine aj_aload_n 0 28 (dx d_Model_give 13 rfl) rfl rfl rfl ?_
    refine aj_getf 31 fl_Model_92 (dx d_Model_give 14 rfl) rfl hM.1.1 ?_
    rw [show aj_up g 78 0 1 78 0 = 1 by rw [aj_up_self]]
    refine aj_if_le 36 34 (dx d_Model_give 15 rfl) rfl rfl (by unfold aj_I; omega) (fun h31 => ?_) (fun h31 => ?_)
    · exact absurd h31 (by decide)
    · refine aj_iconst 35 (dx d_Model_give 16 rfl) rfl ?_
      refine aj_iret (dx d_Model_give 17 rfl) rfl id ?_
      exact hk1 (by omega)
