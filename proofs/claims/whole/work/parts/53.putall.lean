/-! Model: putEnds, putAll, isAccess -/
def lnF : Nat → Nat → Nat
  | 0, _ => 0
  | f + 1, y => if y ≤ 1 then 0 else 1 + lnF f (y / 4)
def lny (y : Nat) : Nat := lnF 3 y
def dgy (y j : Nat) : Nat := y / 2 ^ (2 * (lny y - 1 - j)) % 4
abbrev cny (y : Nat) : Prop := y / 2 ^ (2 * lny y) = 1
theorem sg_I (x y : Int) : aj_I (aj_sg x y) := by unfold aj_I aj_sg; split <;> (try split) <;> omega
theorem sg_0 {a : Nat} : aj_sg (a : Int) 1 = 0 ↔ a = 1 := by
  unfold aj_sg
  constructor
  · intro h; split at h <;> (try split at h) <;> omega
  · intro h; subst h; rfl
theorem dv_L {a b : Nat} (h : a ≤ b) (hb : b < 1000) : aj_L (a : Int) := by unfold aj_L; omega
theorem ly_mono : ∀ a, a < 33 → ∀ b, b < 33 → a ≤ b → lny a ≤ lny b := by decide +kernel
theorem ly_31 : ∀ y, y < 33 → lny y ≤ 2 → y ≤ 31 := by decide +kernel
theorem ly_le : ∀ y, y < 33 → lny y ≤ 3 := by decide +kernel
def dgs (y : Nat) : List Nat := if lny y = 0 then [] else if lny y = 1 then [dgy y 0] else [dgy y 1, dgy y 0]
theorem ly_v : ∀ y, y < 32 → 0 < y → cny y → wd_cd (dgs y) = y ∧ (dgs y).length = lny y := by decide +kernel
theorem ly_ok {k y : Nat} (hy : lny y ≤ 2) (h : ∀ j, j < lny y → dgy y j < k) : wd_ok k (dgs y) := by
  unfold dgs
  by_cases c0 : lny y = 0
  · rw [if_pos c0]; exact wd_ok_nil k
  · rw [if_neg c0]
    by_cases c1 : lny y = 1
    · rw [if_pos c1]; exact wd_ok_cons.mpr ⟨h 0 (by omega), wd_ok_nil k⟩
    · rw [if_neg c1]; exact wd_ok_cons.mpr ⟨h 1 (by omega), wd_ok_cons.mpr ⟨h 0 (by omega), wd_ok_nil k⟩⟩
theorem ly_0 : cny (wd_cd []) ∧ lny (wd_cd []) = 0 ∧ wd_cd [] < 32 := by decide +kernel
theorem ly_1 : ∀ a, a < 4 → cny (wd_cd [a]) ∧ lny (wd_cd [a]) = 1 ∧ wd_cd [a] < 32 ∧ dgy (wd_cd [a]) 0 = a := by decide +kernel
theorem ly_2 : ∀ a, a < 4 → ∀ b, b < 4 → cny (wd_cd [b, a]) ∧ lny (wd_cd [b, a]) = 2 ∧ wd_cd [b, a] < 32 ∧ dgy (wd_cd [b, a]) 0 = a ∧ dgy (wd_cd [b, a]) 1 = b := by decide +kernel
theorem ly_w {k : Nat} (hk : k ≤ 4) {v : List Nat} (hv : wd_ok k v) (hl : v.length ≤ 2) : cny (wd_cd v) ∧ lny (wd_cd v) = v.length ∧ wd_cd v < 32 ∧ ∀ j, j < lny (wd_cd v) → dgy (wd_cd v) j < k := by
  match v, hv, hl with
  | [], _, _ => exact ⟨ly_0.1, ly_0.2.1, ly_0.2.2, fun j hj => by rw [ly_0.2.1] at hj; omega⟩
  | [a], hv, _ =>
    have ha : a < k := (wd_ok_cons.mp hv).1
    obtain ⟨h1, h2, h3, h4⟩ := ly_1 a (by omega)
    exact ⟨h1, h2, h3, fun j hj => by rw [h2] at hj; rw [show j = 0 by omega, h4]; exact ha⟩
  | [b, a], hv, _ =>
    obtain ⟨hb, hv2⟩ := wd_ok_cons.mp hv
    have ha : a < k := (wd_ok_cons.mp hv2).1
    obtain ⟨h1, h2, h3, h4, h5⟩ := ly_2 a (by omega) b (by omega)
    refine ⟨h1, h2, h3, fun j hj => ?_⟩
    rw [h2] at hj
    rcases Nat.lt_or_ge j 1 with z | z
    · rw [show j = 0 by omega, h4]; exact ha
    · rw [show j = 1 by omega, h5]; exact hb
  | _ :: _ :: _ :: _, _, hl => simp at hl
noncomputable def FC (k N : Nat) (mnx mou : Nat → Nat → Nat) : Nat := (fm_out (tl mnx mou) (lwd k mnx mou) N N).1
noncomputable def FW (k N : Nat) (mnx mou : Nat → Nat → Nat) : Nat → List Nat := (fm_out (tl mnx mou) (lwd k mnx mou) N N).2
noncomputable def FO (k N : Nat) (mnx mou : Nat → Nat → Nat) (a : Nat) : ow_T := ow (tl mnx mou) (FW k N mnx mou) (FC k N mnx mou) a N
set_option maxHeartbeats 4000000 in
theorem k_length_g {al : Prop} {X : Option (Nat × (Int → Int))} {d : Nat} {sh : List aj_S} {g : aj_G} {Q : aj_R → List aj_S → aj_G → Prop} {x : Int} : ∀ (f j y1 : Nat), y1 < 2 * 4 ^ f ∧ y1 < 100 → Q (.inl (some (0, ((j + lnF f y1 : Nat) : Int)))) sh g →
    aj_wp nE al al X m_Model_length d 0 0 4 [some (2, x), none, some (0, (j : Int)), some (2, (y1 : Int)), none] [] sh g Q := by
  intro f
  induction f with
  | zero =>
    intro j y1 hy hk
    have hy1 : y1 < 2 := hy.1
    refine aj_lload_n 3 5 (dx d_Model_length 4 rfl) rfl rfl rfl ?_
    refine aj_lconst (x := 1) 6 (dx d_Model_length 5 rfl) rfl rfl ?_
    refine aj_lcmp 7 (dx d_Model_length 6 rfl) rfl (by unfold aj_L; omega) (by unfold aj_L; omega) ?_
    refine aj_if_le 20 10 (dx d_Model_length 7 rfl) rfl rfl (by unfold aj_I aj_sg; split <;> (try split) <;> omega) (fun h7 => ?_) (fun h7 => ?_)
    · refine aj_iload_n 2 21 (dx d_Model_length 14 rfl) rfl rfl rfl ?_
      refine aj_iret (dx d_Model_length 15 rfl) rfl id ?_
      exact hk
    · rw [aj_sg] at h7; split at h7 <;> (try split at h7) <;> omega
  | succ f ih =>
    intro j y1 hy hk
    have hy1 : y1 < 2 * (4 ^ f * 4) := hy.1
    by_cases c : y1 ≤ 1
    · refine aj_lload_n 3 5 (dx d_Model_length 4 rfl) rfl rfl rfl ?_
      refine aj_lconst (x := 1) 6 (dx d_Model_length 5 rfl) rfl rfl ?_
      refine aj_lcmp 7 (dx d_Model_length 6 rfl) rfl (by unfold aj_L; omega) (by unfold aj_L; omega) ?_
      refine aj_if_le 20 10 (dx d_Model_length 7 rfl) rfl rfl (by unfold aj_I aj_sg; split <;> (try split) <;> omega) (fun h7 => ?_) (fun h7 => ?_)
      · refine aj_iload_n 2 21 (dx d_Model_length 14 rfl) rfl rfl rfl ?_
        refine aj_iret (dx d_Model_length 15 rfl) rfl id ?_
        rw [show lnF (f + 1) y1 = 0 from if_pos c, Nat.add_zero] at hk; exact hk
      · rw [aj_sg] at h7; split at h7 <;> (try split at h7) <;> omega
    · refine aj_lload_n 3 5 (dx d_Model_length 4 rfl) rfl rfl rfl ?_
      refine aj_lconst (x := 1) 6 (dx d_Model_length 5 rfl) rfl rfl ?_
      refine aj_lcmp 7 (dx d_Model_length 6 rfl) rfl (by unfold aj_L; omega) (by unfold aj_L; omega) ?_
      refine aj_if_le 20 10 (dx d_Model_length 7 rfl) rfl rfl (by unfold aj_I aj_sg; split <;> (try split) <;> omega) (fun h7 => ?_) (fun h7 => ?_)
      · rw [aj_sg] at h7; split at h7 <;> (try split at h7) <;> omega
      · refine aj_iinc 2 13 (dx d_Model_length 8 rfl) rfl rfl rfl ?_
        simp only [List.set]
        refine aj_lload_n 3 14 (dx d_Model_length 9 rfl) rfl rfl rfl ?_
        refine aj_iconst 15 (dx d_Model_length 10 rfl) rfl ?_
        refine aj_lshr 16 (dx d_Model_length 11 rfl) rfl (lg_shr (y := 2) (by omega) (by omega)) ?_
        refine aj_lstore_n 3 17 (dx d_Model_length 12 rfl) rfl rfl rfl rfl ?_
        simp only [List.set]
        refine aj_goto 4 (dx d_Model_length 13 rfl) rfl ?_
        rw [show ((j : Nat) : Int) + 1 = ((j + 1 : Nat) : Int) by omega]
        exact ih (j + 1) (y1 / 4) (by omega) (by rw [show lnF (f + 1) y1 = 1 + lnF f (y1 / 4) from if_neg c, ← Nat.add_assoc] at hk; exact hk)
set_option maxHeartbeats 4000000 in
theorem k_Model_length_g {al : Prop} {X : Option (Nat × (Int → Int))} {d : Nat} {sh : List aj_S} {g : aj_G} {Q : aj_R → List aj_S → aj_G → Prop} {y : Nat} (hy : y < 64) (hk : Q (.inl (some (0, (lny y : Int)))) sh g) : aj_wp nE al al X m_Model_length d 0 0 0 [some (2, (y : Int)), none, none, none, none] [] sh g Q := by
  refine aj_iconst 1 (dx d_Model_length 0 rfl) rfl ?_
  refine aj_istore_n 2 2 (dx d_Model_length 1 rfl) rfl rfl rfl ?_
  simp only [List.set]
  refine aj_lload_n 0 3 (dx d_Model_length 2 rfl) rfl rfl rfl ?_
  refine aj_lstore_n 3 4 (dx d_Model_length 3 rfl) rfl rfl rfl rfl ?_
  simp only [List.set]
  exact k_length_g 3 0 y (by omega) (by rw [Nat.zero_add]; exact hk)
set_option maxHeartbeats 4000000 in
theorem k_Model_at_g {al : Prop} {X : Option (Nat × (Int → Int))} {d : Nat} {sh : List aj_S} {g : aj_G} {Q : aj_R → List aj_S → aj_G → Prop} {y i : Nat} (hy : y < 33) (hi : i < lny y) (hk : Q (.inl (some (0, (dgy y i : Int)))) sh g) : aj_wp nE al al X m_Model_at (d + 1) 0 0 0 [some (2, (y : Int)), none, some (0, (i : Int))] [] sh g Q := by
  have hl3 := ly_le y hy
  have hlt : y / 2 ^ (2 * (lny y - 1 - i)) ≤ y := Nat.div_le_self _ _
  refine aj_lload_n 0 1 (dx d_Model_at 0 rfl) rfl rfl rfl ?_
  refine aj_iconst 2 (dx d_Model_at 1 rfl) rfl ?_
  refine aj_lload_n 0 3 (dx d_Model_at 2 rfl) rfl rfl rfl ?_
  refine aj_callS1 6 cl_Model_112 (dx d_Model_at 3 rfl) rfl rfl rfl rfl rfl rfl (k_Model_length_g (by omega) ?_)
  change aj_wp _ _ _ _ _ _ _ _ _ _ _ _ _ _
  refine aj_iconst 7 (dx d_Model_at 4 rfl) rfl ?_
  refine aj_isub 8 (dx d_Model_at 5 rfl) rfl ?_
  refine aj_iload_n 2 9 (dx d_Model_at 6 rfl) rfl rfl rfl ?_
  refine aj_isub 10 (dx d_Model_at 7 rfl) rfl ?_
  refine aj_imul 11 (dx d_Model_at 8 rfl) rfl ?_
  refine aj_lshr 12 (dx d_Model_at 9 rfl) rfl (by rw [show (2 : Int) * ((lny y : Int) - 1 - (i : Int)) = ((2 * (lny y - 1 - i) : Nat) : Int) by omega]; exact lg_shr (by omega) (by omega)) ?_
  refine aj_ldc2 15 ld_116 (dx d_Model_at 10 rfl) rfl ?_
  refine aj_land 16 (dx d_Model_at 11 rfl) rfl (lg_and (by omega)) ?_
  refine aj_l2i 17 (dx d_Model_at 12 rfl) rfl ?_
  refine aj_iret (dx d_Model_at 13 rfl) rfl id ?_
  exact hk
theorem mo_st {sh : List aj_S} {g : aj_G} {k n s0 : Nat} {nx ou : Nat → Nat → Nat} {tw : Nat → Nat} {N : Nat} {q : nb_T} {sf : Nat → Nat} {mnx mou : Nat → Nat → Nat} (hS : mS sh g k n s0 nx ou tw N q sf mnx mou) (htw : tw_ok k n nx ou tw) (hcl : ∀ s i, s < n → i < k → nx s i < n) (hN : q.1 = N) (hsm : smm k n nx ou tw N q mnx mou) (hs0 : s0 < n) {u : List Nat} (hu : wd_ok k u) : rn mnx 0 u < N ∧ rn nx s0 u < n ∧ g 82 ((rn nx s0 u : Nat) : Int) = (rn mnx 0 u : Nat) := by
  have hB := hS.2.2.1
  have h0 : 0 < N := by rw [← hN]; exact hB.2.1.1
  have hr := mm_run (mb := sf) (N := N) (mnx := mnx) (nx := nx) (ou := ou) (k := k) (fun b i hb hi => by
    obtain ⟨x1, x2, -⟩ := hsm b i hb hi
    refine ⟨x1, (tw_eq htw (hB.2.2.2.1 _ (by omega)).2.1 (hcl _ _ (hB.2.2.2.1 b (by omega)).2.1 hi)).mp ?_⟩
    rw [(hB.2.2.2.1 _ (by omega)).2.2.1, x2]
    exact nbm_tw htw hcl hB (by omega) hi) h0 u hu
  have hs := hB.2.2.2.1 0 (by omega)
  have ha0 : al_k k nx ou (sf 0) s0 := (tw_eq htw hs.2.1 hs0).mp (by rw [hs.2.2.1]; exact hB.2.1.2.1)
  have hlt := rn_lt hcl hs0 u hu
  refine ⟨hr.1, hlt, ?_⟩
  have ha := al_trans hr.2 (al_run ha0 u hu)
  have ht := (tw_eq htw (hB.2.2.2.1 _ (by omega)).2.1 hlt).mpr ha
  rw [(hB.2.2.2.1 _ (by omega)).2.2.1] at ht
  exact (hB.2.2.2.2 _ hlt).1 _ (by omega) ht
theorem mS_pF {sh : List aj_S} {g g1 : aj_G} {k n s0 : Nat} {nx ou : Nat → Nat → Nat} {tw : Nat → Nat} {N : Nat} {q : nb_T} {sf : Nat → Nat} {mnx mou : Nat → Nat → Nat} (hS : mS sh g k n s0 nx ou tw N q sf mnx mou) (h : pF g g1) : mS sh g1 k n s0 nx ou tw N q sf mnx mou := mS_of hS (fun r a b => h.1 r (by omega) (by omega)) (fun j hj => h.2 j (by unfold mo_fin at hj; omega))
theorem rn_app2 (nx : Nat → Nat → Nat) (s : Nat) (x : List Nat) : ∀ y, rn nx s (y ++ x) = rn nx (rn nx s x) y
  | [] => rfl
  | a :: y => by
    show nx (rn nx s (y ++ x)) a = nx (rn nx (rn nx s x) y) a
    rw [rn_app2 nx s x y]
theorem wd_ok_app2 {k : Nat} {x y : List Nat} (hx : wd_ok k x) (hy : wd_ok k y) : wd_ok k (y ++ x) := fun i hi => (List.mem_append.mp hi).elim (hy i) (hx i)
set_option maxHeartbeats 4000000 in
theorem k_pe_f {al : Prop} {X : Option (Nat × (Int → Int))} {d : Nat} {sh : List aj_S} {g : aj_G} {Q : aj_R → List aj_S → aj_G → Prop} {k n s0 : Nat} {nx ou : Nat → Nat → Nat} {tw : Nat → Nat} {N : Nat} {q : nb_T} {sf : Nat → Nat} {mnx mou : Nat → Nat → Nat} (hS : mS sh g k n s0 nx ou tw N q sf mnx mou) (htw : tw_ok k n nx ou tw) (hcl : ∀ s i, s < n → i < k → nx s i < n) (hN : q.1 = N) (hsm : smm k n nx ou tw N q mnx mou) (hs0 : s0 < n) {P : List Nat → Prop} {x y : List Nat} (hx : wd_ok k x) (hy : wd_ok k y) (hlx : x.length ≤ 9) (hly : y.length ≤ 2) {m : Nat} {me ia : Int} (hP : ∀ z, (z = [] ∨ ∃ v, v < (FC k N mnx mou) ∧ z = (FW k N mnx mou) v) → ∀ u t, t ++ u = z ++ (y ++ x) → P u) {c : Nat} {W : Nat → List Nat} (hk : ∀ (g1 : aj_G) (c1 : Nat) (W1 : Nat → List Nat), pF g g1 → tM g1 k c1 W1 P → tr_ex c W c1 W1 → (c1 ≤ 800 → pr c1 W1 (y ++ x) ∧ ∀ w, w < (FC k N mnx mou) → pr c1 W1 ((FW k N mnx mou) w ++ (y ++ x))) → Q (.inl none) sh g1) :
    ∀ (j v : Nat) (g1 : aj_G) (c1 : Nat) (W1 : Nat → List Nat), v ≤ (FC k N mnx mou) → (FC k N mnx mou) - v = j → pF g g1 → tM g1 k c1 W1 P → tr_ex c W c1 W1 → (c1 ≤ 800 → pr c1 W1 (y ++ x)) → (∀ w, w < v → c1 ≤ 800 → pr c1 W1 ((FW k N mnx mou) w ++ (y ++ x))) →
    aj_wp nE al al X m_Model_putEnds (d + 3) 0 0 20 [some (1, 78), some (2, (wd_cd x : Int)), none, some (2, (wd_cd y : Int)), none, some (0, me), some (0, (m : Int)), some (0, ia), some (0, (v : Int)), none] [] sh g1 Q := by
  have hk4 := hS.1.2.2.2.1
  have hc8 : (FC k N mnx mou) ≤ 8 := hS.2.2.2.1.2.1
  intro j
  induction j using Nat.strongRecOn with
  | ind j ih =>
    intro v g1 c1 W1 hv hjj hF hT hX hd hall
    have hS1 := mS_pF hS hF
    refine aj_iload 8 22 (dx d_Model_putEnds 11 rfl) rfl rfl ?_
    refine aj_aload_n 0 23 (dx d_Model_putEnds 12 rfl) rfl rfl rfl ?_
    refine aj_getfv (v := ((FC k N mnx mou) : Int)) 26 fl_Model_133 (dx d_Model_putEnds 13 rfl) rfl hS1.1.1.1 hS1.2.2.2.1.1 ?_
    refine aj_icmp_ge 48 29 (dx d_Model_putEnds 14 rfl) rfl rfl (by unfold aj_I; omega) (by unfold aj_I; omega) (fun h26 => ?_) (fun h26 => ?_)
    · refine aj_goto 133 (dx d_Model_putEnds 25 rfl) rfl ?_
      refine aj_vret (dx d_Model_putEnds 72 rfl) rfl id ?_
      exact hk g1 c1 W1 hF hT hX (fun h => ⟨hd h, fun w hw => hall w (by omega) h⟩)
    · have hvc : v < (FC k N mnx mou) := by omega
      obtain ⟨f1, f2, f3⟩ := hS1.2.2.2.1.2.2 v hvc
      refine aj_aload_n 0 30 (dx d_Model_putEnds 15 rfl) rfl rfl rfl ?_
      refine aj_lload_n 1 31 (dx d_Model_putEnds 16 rfl) rfl rfl rfl ?_
      refine aj_lload_n 3 32 (dx d_Model_putEnds 17 rfl) rfl rfl rfl ?_
      refine aj_aload_n 0 33 (dx d_Model_putEnds 18 rfl) rfl rfl rfl ?_
      refine aj_getfv (v := 85) 36 fl_Model_29 (dx d_Model_putEnds 19 rfl) rfl hS1.1.1.1 (by first | exact mf_family hS1.1.1 | (simp [aj_up_at]; exact mf_family hS1.1.1) | exact mf_family (by assumption)) ?_
      refine aj_iload 8 38 (dx d_Model_putEnds 20 rfl) rfl rfl ?_
      refine aj_lald 39 (dx d_Model_putEnds 21 rfl) rfl (ms_family hS1.1.1) rfl (by omega) (by omega) ?_
      rw [f1]
      refine aj_callV3 42 cl_Model_167 (dx d_Model_putEnds 22 rfl) rfl rfl rfl rfl rfl rfl hS1.1.1.1 (k_Model_put (by omega) hx hy f2 (by omega) (by omega) (show ((FW k N mnx mou) v).length ≤ 24 by have := f3; unfold FW; omega) (fun u t e => hP _ (Or.inr ⟨v, hvc, rfl⟩) u t e) hS1.1.1 hT (fun g2 c2 W2 hF2 hT2 hX2 hpr => ?_))
      change aj_wp _ _ _ _ _ _ _ _ _ _ _ _ _ _
      refine aj_iinc 8 45 (dx d_Model_putEnds 23 rfl) rfl rfl rfl ?_
      simp only [List.set]
      refine aj_goto 20 (dx d_Model_putEnds 24 rfl) rfl ?_
      rw [show ((v : Nat) : Int) + 1 = ((v + 1 : Nat) : Int) by omega]
      exact ih _ (by omega) (v + 1) g2 c2 W2 (by omega) rfl (pF_trans hF hF2) hT2 (tr_ex_trans hX hX2) (fun h => pr_ex hX2 (hd (by have := hX2.1; omega))) (fun w hw h => by
        rcases Nat.lt_or_ge w v with z | z
        · exact pr_ex hX2 (hall w z (by have := hX2.1; omega))
        · rw [show w = v by omega]; exact hpr h)
set_option maxHeartbeats 4000000 in
theorem k_pe_o {al : Prop} {X : Option (Nat × (Int → Int))} {d : Nat} {sh : List aj_S} {g : aj_G} {Q : aj_R → List aj_S → aj_G → Prop} {k n s0 : Nat} {nx ou : Nat → Nat → Nat} {tw : Nat → Nat} {N : Nat} {q : nb_T} {sf : Nat → Nat} {mnx mou : Nat → Nat → Nat} (hS : mS sh g k n s0 nx ou tw N q sf mnx mou) (htw : tw_ok k n nx ou tw) (hcl : ∀ s i, s < n → i < k → nx s i < n) (hN : q.1 = N) (hsm : smm k n nx ou tw N q mnx mou) (hs0 : s0 < n) {P : List Nat → Prop} {x y : List Nat} (hx : wd_ok k x) (hy : wd_ok k y) (hlx : x.length ≤ 9) (hly : y.length ≤ 2) {m st : Nat} {me ia : Int} (hst : st < N) (hP : ∀ z, (z = [] ∨ ∃ v, v < ((FO k N mnx mou) st).1 ∧ z = (FW k N mnx mou) (((FO k N mnx mou) st).2 v)) → ∀ u t, t ++ u = z ++ (y ++ x) → P u) {c : Nat} {W : Nat → List Nat} (hk : ∀ (g1 : aj_G) (c1 : Nat) (W1 : Nat → List Nat), pF g g1 → tM g1 k c1 W1 P → tr_ex c W c1 W1 → (c1 ≤ 800 → pr c1 W1 (y ++ x) ∧ ∀ w, w < ((FO k N mnx mou) st).1 → pr c1 W1 ((FW k N mnx mou) (((FO k N mnx mou) st).2 w) ++ (y ++ x))) → Q (.inl none) sh g1) :
    ∀ (j v : Nat) (g1 : aj_G) (c1 : Nat) (W1 : Nat → List Nat), v ≤ ((FO k N mnx mou) st).1 → ((FO k N mnx mou) st).1 - v = j → pF g g1 → tM g1 k c1 W1 P → tr_ex c W c1 W1 → (c1 ≤ 800 → pr c1 W1 (y ++ x)) → (∀ w, w < v → c1 ≤ 800 → pr c1 W1 ((FW k N mnx mou) (((FO k N mnx mou) st).2 w) ++ (y ++ x))) →
    aj_wp nE al al X m_Model_putEnds (d + 3) 0 0 91 [some (1, 78), some (2, (wd_cd x : Int)), none, some (2, (wd_cd y : Int)), none, some (0, me), some (0, (m : Int)), some (0, ia), some (0, (st : Int)), some (0, (v : Int))] [] sh g1 Q := by
  have hk4 := hS.1.2.2.2.1
  have hn8 := hS.1.2.2.2.2.1
  have hN8 := nb_le hS.2.2.1.2.1
  have hc8 : (FC k N mnx mou) ≤ 8 := hS.2.2.2.1.2.1
  have ho8 : ((FO k N mnx mou) st).1 ≤ N := ow_le N
  have hoc : ∀ v, v < ((FO k N mnx mou) st).1 → ((FO k N mnx mou) st).2 v < (FC k N mnx mou) := ow_lt (fun j hj hne => fm_cov hS.2.2.2.2.1 st j hst hj hne) N (Nat.le_refl _)
  intro j
  induction j using Nat.strongRecOn with
  | ind j ih =>
    intro v g1 c1 W1 hv hjj hF hT hX hd hall
    have hS1 := mS_pF hS hF
    obtain ⟨o1, o2⟩ := hS1.2.2.2.2.2 st hst
    have o1 : g1 86 (st : Nat) = (((FO k N mnx mou) st).1 : Nat) := o1
    have o2 : ∀ v : Nat, v < ((FO k N mnx mou) st).1 → g1 87 (8 * (st : Int) + v) = (((FO k N mnx mou) st).2 v : Nat) := o2
    refine aj_iload 9 93 (dx d_Model_putEnds 49 rfl) rfl rfl ?_
    refine aj_aload_n 0 94 (dx d_Model_putEnds 50 rfl) rfl rfl rfl ?_
    refine aj_getfv (v := 86) 97 fl_Model_32 (dx d_Model_putEnds 51 rfl) rfl hS1.1.1.1 (by first | exact mf_owns hS1.1.1 | (simp [aj_up_at]; exact mf_owns hS1.1.1) | exact mf_owns (by assumption)) ?_
    refine aj_iload 8 99 (dx d_Model_putEnds 52 rfl) rfl rfl ?_
    refine aj_iald 100 (dx d_Model_putEnds 53 rfl) rfl (ms_owns hS1.1.1) rfl (by omega) (by omega) ?_
    rw [o1]
    refine aj_icmp_ge 133 103 (dx d_Model_putEnds 54 rfl) rfl rfl (by unfold aj_I; omega) (by unfold aj_I; omega) (fun h100 => ?_) (fun h100 => ?_)
    · refine aj_vret (dx d_Model_putEnds 72 rfl) rfl id ?_
      exact hk g1 c1 W1 hF hT hX (fun h => ⟨hd h, fun w hw => hall w (by omega) h⟩)
    · have hvo : v < ((FO k N mnx mou) st).1 := by omega
      have hvc := hoc v hvo
      obtain ⟨f1, f2, f3⟩ := hS1.2.2.2.1.2.2 _ hvc
      refine aj_aload_n 0 104 (dx d_Model_putEnds 55 rfl) rfl rfl rfl ?_
      refine aj_lload_n 1 105 (dx d_Model_putEnds 56 rfl) rfl rfl rfl ?_
      refine aj_lload_n 3 106 (dx d_Model_putEnds 57 rfl) rfl rfl rfl ?_
      refine aj_aload_n 0 107 (dx d_Model_putEnds 58 rfl) rfl rfl rfl ?_
      refine aj_getfv (v := 85) 110 fl_Model_29 (dx d_Model_putEnds 59 rfl) rfl hS1.1.1.1 (by first | exact mf_family hS1.1.1 | (simp [aj_up_at]; exact mf_family hS1.1.1) | exact mf_family (by assumption)) ?_
      refine aj_aload_n 0 111 (dx d_Model_putEnds 60 rfl) rfl rfl rfl ?_
      refine aj_getfv (v := 87) 114 fl_Model_35 (dx d_Model_putEnds 61 rfl) rfl hS1.1.1.1 (by first | exact mf_own hS1.1.1 | (simp [aj_up_at]; exact mf_own hS1.1.1) | exact mf_own (by assumption)) ?_
      refine aj_bipush 116 (dx d_Model_putEnds 62 rfl) rfl (by decide +kernel) ?_
      refine aj_iload 8 118 (dx d_Model_putEnds 63 rfl) rfl rfl ?_
      refine aj_imul 119 (dx d_Model_putEnds 64 rfl) rfl ?_
      refine aj_iload 9 121 (dx d_Model_putEnds 65 rfl) rfl rfl ?_
      refine aj_iadd 122 (dx d_Model_putEnds 66 rfl) rfl ?_
      refine aj_iald 123 (dx d_Model_putEnds 67 rfl) rfl (ms_own hS1.1.1) rfl (by omega) (by omega) ?_
      rw [o2 v hvo]
      refine aj_lald 124 (dx d_Model_putEnds 68 rfl) rfl (ms_family hS1.1.1) rfl (by omega) (by omega) ?_
      rw [f1]
      refine aj_callV3 127 cl_Model_167 (dx d_Model_putEnds 69 rfl) rfl rfl rfl rfl rfl rfl hS1.1.1.1 (k_Model_put (by omega) hx hy f2 (by omega) (by omega) (show ((FW k N mnx mou) (((FO k N mnx mou) st).2 v)).length ≤ 24 by have := f3; unfold FW; omega) (fun u t e => hP _ (Or.inr ⟨v, hvo, rfl⟩) u t e) hS1.1.1 hT (fun g2 c2 W2 hF2 hT2 hX2 hpr => ?_))
      change aj_wp _ _ _ _ _ _ _ _ _ _ _ _ _ _
      refine aj_iinc 9 130 (dx d_Model_putEnds 70 rfl) rfl rfl rfl ?_
      simp only [List.set]
      refine aj_goto 91 (dx d_Model_putEnds 71 rfl) rfl ?_
      rw [show ((v : Nat) : Int) + 1 = ((v + 1 : Nat) : Int) by omega]
      exact ih _ (by omega) (v + 1) g2 c2 W2 (by omega) rfl (pF_trans hF hF2) hT2 (tr_ex_trans hX hX2) (fun h => pr_ex hX2 (hd (by have := hX2.1; omega))) (fun w hw h => by
        rcases Nat.lt_or_ge w v with z | z
        · exact pr_ex hX2 (hall w z (by have := hX2.1; omega))
        · rw [show w = v by omega]; exact hpr h)
set_option maxHeartbeats 4000000 in
theorem k_Model_putEnds {al : Prop} {X : Option (Nat × (Int → Int))} {d : Nat} {sh : List aj_S} {g : aj_G} {Q : aj_R → List aj_S → aj_G → Prop} {k n s0 : Nat} {nx ou : Nat → Nat → Nat} {tw : Nat → Nat} {N : Nat} {q : nb_T} {sf : Nat → Nat} {mnx mou : Nat → Nat → Nat} (hS : mS sh g k n s0 nx ou tw N q sf mnx mou) (htw : tw_ok k n nx ou tw) (hcl : ∀ s i, s < n → i < k → nx s i < n) (hN : q.1 = N) (hsm : smm k n nx ou tw N q mnx mou) (hs0 : s0 < n) (h5 : g 78 5 = (s0 : Nat)) {P : List Nat → Prop} {x y : List Nat} {m : Nat} (hx : wd_ok k x) (hy : wd_ok k y) (hlx : x.length ≤ 9) (hly : y.length ≤ m) (hm2 : m ≤ 2) {me ia : Int} (hme : me = 0 ∨ me = 1) (hia : ia = 0 ∨ ia = 1) (hP : ∀ z, su_z (me = 0 ∨ ia = 1) m (FW k N mnx mou) (FC k N mnx mou) (FO k N mnx mou) mnx x y z → ∀ u t, t ++ u = z ++ (y ++ x) → P u) {c : Nat} {W : Nat → List Nat} (hT : tM g k c W P) (hk : ∀ (g1 : aj_G) (c1 : Nat) (W1 : Nat → List Nat), pF g g1 → tM g1 k c1 W1 P → tr_ex c W c1 W1 → (∀ z, su_z (me = 0 ∨ ia = 1) m (FW k N mnx mou) (FC k N mnx mou) (FO k N mnx mou) mnx x y z → c1 ≤ 800 → pr c1 W1 (z ++ (y ++ x))) → Q (.inl none) sh g1) : aj_wp nE al al X m_Model_putEnds (d + 3) 0 0 0 [some (1, 78), some (2, (wd_cd x : Int)), none, some (2, (wd_cd y : Int)), none, some (0, me), some (0, (m : Int)), some (0, ia), none, none] [] sh g Q := by
  have hk4 := hS.1.2.2.2.1
  have hn8 := hS.1.2.2.2.2.1
  refine aj_iload 5 2 (dx d_Model_putEnds 0 rfl) rfl rfl ?_
  refine aj_if_eq 10 5 (dx d_Model_putEnds 1 rfl) rfl rfl (by unfold aj_I; omega) (fun h2 => ?_) (fun h2 => ?_)
  · have hall : me = 0 ∨ ia = 1 := by omega
    refine aj_aload_n 0 11 (dx d_Model_putEnds 4 rfl) rfl rfl rfl ?_
    refine aj_lload_n 1 12 (dx d_Model_putEnds 5 rfl) rfl rfl rfl ?_
    refine aj_lload_n 3 13 (dx d_Model_putEnds 6 rfl) rfl rfl rfl ?_
    refine aj_lconst (x := 1) 14 (dx d_Model_putEnds 7 rfl) rfl rfl ?_
    refine aj_callV3 17 cl_Model_167 (dx d_Model_putEnds 8 rfl) rfl rfl rfl rfl rfl rfl hS.1.1.1 (k_Model_put (z := []) (by omega) hx hy (wd_ok_nil k) (by omega) (by omega) (by simp) (fun u t e => hP [] (Or.inl ⟨hall, hly, Or.inl rfl⟩) u t e) hS.1.1 hT (fun g1 c1 W1 hF1 hT1 hX1 hpr => ?_))
    change aj_wp _ _ _ _ _ _ _ _ _ _ _ _ _ _
    refine aj_iconst 18 (dx d_Model_putEnds 9 rfl) rfl ?_
    refine aj_istore 8 20 (dx d_Model_putEnds 10 rfl) rfl rfl ?_
    simp only [List.set]
    refine k_pe_f hS htw hcl hN hsm hs0 hx hy hlx (by omega) (fun z hz u t e => hP z (Or.inl ⟨hall, hly, hz⟩) u t e) (fun g2 c2 W2 hF2 hT2 hX2 h2 => hk g2 c2 W2 hF2 hT2 hX2 (fun z hz h => ?_)) _ 0 g1 c1 W1 (by omega) rfl hF1 hT1 hX1 hpr (fun w hw => absurd hw (Nat.not_lt_zero _))
    rcases hz with ⟨-, -, rfl | ⟨v, v1, rfl⟩⟩ | ⟨hna, -⟩
    · exact (h2 h).1
    · exact (h2 h).2 v v1
    · exact absurd hall hna
  · refine aj_iload 7 7 (dx d_Model_putEnds 2 rfl) rfl rfl ?_
    refine aj_if_eq 51 10 (dx d_Model_putEnds 3 rfl) rfl rfl (by unfold aj_I; omega) (fun h7 => ?_) (fun h7 => ?_)
    · refine aj_lload_n 3 52 (dx d_Model_putEnds 26 rfl) rfl rfl rfl ?_
      refine aj_callS1 55 cl_Model_112 (dx d_Model_putEnds 27 rfl) rfl rfl rfl rfl rfl rfl (k_Model_length (wd_ok_le (by omega) hy) (by omega) ?_)
      change aj_wp _ _ _ _ _ _ _ _ _ _ _ _ _ _
      refine aj_iload 6 57 (dx d_Model_putEnds 28 rfl) rfl rfl ?_
      refine aj_icmp_ne 133 60 (dx d_Model_putEnds 29 rfl) rfl rfl (by unfold aj_I; omega) (by unfold aj_I; omega) (fun h57 => ?_) (fun h57 => ?_)
      · refine aj_vret (dx d_Model_putEnds 72 rfl) rfl id ?_
        exact hk g c W (pF_refl g) hT (tr_ex_refl c W) (fun z hz => by
          rcases hz with ⟨h, -⟩ | ⟨-, h, -⟩
          · omega
          · omega)
      · have hna : ¬ (me = 0 ∨ ia = 1) := by omega
        have hym : y.length = m := by omega
        obtain ⟨t1, t2, t3⟩ := mo_st hS htw hcl hN hsm hs0 (wd_ok_app2 hx hy)
        have hsx := rn_lt hcl hs0 x hx
        rw [rn_app2 nx] at t2 t3
        obtain ⟨st, hste⟩ : ∃ st, st = rn mnx 0 (y ++ x) := ⟨_, rfl⟩
        rw [← hste] at t1 t3
        refine aj_aload_n 0 61 (dx d_Model_putEnds 30 rfl) rfl rfl rfl ?_
        refine aj_lload_n 1 62 (dx d_Model_putEnds 31 rfl) rfl rfl rfl ?_
        refine aj_lload_n 3 63 (dx d_Model_putEnds 32 rfl) rfl rfl rfl ?_
        refine aj_lconst (x := 1) 64 (dx d_Model_putEnds 33 rfl) rfl rfl ?_
        refine aj_callV3 67 cl_Model_167 (dx d_Model_putEnds 34 rfl) rfl rfl rfl rfl rfl rfl hS.1.1.1 (k_Model_put (z := []) (by omega) hx hy (wd_ok_nil k) (by omega) (by omega) (by simp) (fun u t e => hP [] (Or.inr ⟨hna, hym, Or.inl rfl⟩) u t e) hS.1.1 hT (fun g1 c1 W1 hF1 hT1 hX1 hpr => ?_))
        · change aj_wp _ _ _ _ _ _ _ _ _ _ _ _ _ _
          have hS1 := mS_pF hS hF1
          have hst1 : g1 78 5 = (s0 : Nat) := (hF1.2 5 (by omega)).trans h5
          refine aj_aload_n 0 68 (dx d_Model_putEnds 35 rfl) rfl rfl rfl ?_
          refine aj_getfv (v := 82) 71 fl_Model_19 (dx d_Model_putEnds 36 rfl) rfl hS1.1.1.1 (by first | exact mf_minimalOf hS1.1.1 | (simp [aj_up_at]; exact mf_minimalOf hS1.1.1) | exact mf_minimalOf (by assumption)) ?_
          refine aj_aload_n 0 72 (dx d_Model_putEnds 37 rfl) rfl rfl rfl ?_
          refine aj_aload_n 0 73 (dx d_Model_putEnds 38 rfl) rfl rfl rfl ?_
          refine aj_aload_n 0 74 (dx d_Model_putEnds 39 rfl) rfl rfl rfl ?_
          refine aj_getfv (v := (s0 : Int)) 77 fl_Model_109 (dx d_Model_putEnds 40 rfl) rfl hS1.1.1.1 (by first | exact hst1 | (simp [aj_up_at]; exact hst1)) ?_
          refine aj_lload_n 1 78 (dx d_Model_putEnds 41 rfl) rfl rfl rfl ?_
          refine aj_callV2 81 cl_Model_171 (dx d_Model_putEnds 42 rfl) rfl rfl rfl rfl rfl rfl hS1.1.1.1 (k_Model_led hS1.1 hx (by omega) hs0 ?_)
          change aj_wp _ _ _ _ _ _ _ _ _ _ _ _ _ _
          refine aj_lload_n 3 82 (dx d_Model_putEnds 43 rfl) rfl rfl rfl ?_
          refine aj_callV2 85 cl_Model_171 (dx d_Model_putEnds 44 rfl) rfl rfl rfl rfl rfl rfl hS1.1.1.1 (k_Model_led hS1.1 hy (by omega) hsx ?_)
          change aj_wp _ _ _ _ _ _ _ _ _ _ _ _ _ _
          refine aj_iald 86 (dx d_Model_putEnds 45 rfl) rfl (ms_minimalOf hS1.1.1) rfl (by omega) (by omega) ?_
          rw [hF1.1 82 (by omega) (by omega), t3]
          refine aj_istore 8 88 (dx d_Model_putEnds 46 rfl) rfl rfl ?_
          simp only [List.set]
          refine aj_iconst 89 (dx d_Model_putEnds 47 rfl) rfl ?_
          refine aj_istore 9 91 (dx d_Model_putEnds 48 rfl) rfl rfl ?_
          simp only [List.set]
          refine k_pe_o hS htw hcl hN hsm hs0 hx hy hlx (by omega) t1 (fun z hz u t e => hP z (Or.inr ⟨hna, hym, by rw [← hste]; exact hz⟩) u t e) (fun g2 c2 W2 hF2 hT2 hX2 h2 => hk g2 c2 W2 hF2 hT2 hX2 (fun z hz h => ?_)) _ 0 g1 c1 W1 (by omega) rfl hF1 hT1 hX1 hpr (fun w hw => absurd hw (Nat.not_lt_zero _))
          rcases hz with ⟨ha, -⟩ | ⟨-, -, hz⟩
          · exact absurd ha hna
          · rw [← hste] at hz
            rcases hz with rfl | ⟨v, v1, rfl⟩
            · exact (h2 h).1
            · exact (h2 h).2 v v1
    · have hall : me = 0 ∨ ia = 1 := by omega
      refine aj_aload_n 0 11 (dx d_Model_putEnds 4 rfl) rfl rfl rfl ?_
      refine aj_lload_n 1 12 (dx d_Model_putEnds 5 rfl) rfl rfl rfl ?_
      refine aj_lload_n 3 13 (dx d_Model_putEnds 6 rfl) rfl rfl rfl ?_
      refine aj_lconst (x := 1) 14 (dx d_Model_putEnds 7 rfl) rfl rfl ?_
      refine aj_callV3 17 cl_Model_167 (dx d_Model_putEnds 8 rfl) rfl rfl rfl rfl rfl rfl hS.1.1.1 (k_Model_put (z := []) (by omega) hx hy (wd_ok_nil k) (by omega) (by omega) (by simp) (fun u t e => hP [] (Or.inl ⟨hall, hly, Or.inl rfl⟩) u t e) hS.1.1 hT (fun g1 c1 W1 hF1 hT1 hX1 hpr => ?_))
      change aj_wp _ _ _ _ _ _ _ _ _ _ _ _ _ _
      refine aj_iconst 18 (dx d_Model_putEnds 9 rfl) rfl ?_
      refine aj_istore 8 20 (dx d_Model_putEnds 10 rfl) rfl rfl ?_
      simp only [List.set]
      refine k_pe_f hS htw hcl hN hsm hs0 hx hy hlx (by omega) (fun z hz u t e => hP z (Or.inl ⟨hall, hly, hz⟩) u t e) (fun g2 c2 W2 hF2 hT2 hX2 h2 => hk g2 c2 W2 hF2 hT2 hX2 (fun z hz h => ?_)) _ 0 g1 c1 W1 (by omega) rfl hF1 hT1 hX1 hpr (fun w hw => absurd hw (Nat.not_lt_zero _))
      rcases hz with ⟨-, -, rfl | ⟨v, v1, rfl⟩⟩ | ⟨hna, -⟩
      · exact (h2 h).1
      · exact (h2 h).2 v v1
      · exact absurd hall hna
set_option maxHeartbeats 4000000 in
theorem k_pa_in {al : Prop} {X : Option (Nat × (Int → Int))} {d : Nat} {sh : List aj_S} {g : aj_G} {Q : aj_R → List aj_S → aj_G → Prop} {k n : Nat} {nx ou : Nat → Nat → Nat} (hM : mmm sh g k n nx ou) {x : List Nat} {m y : Nat} {me ia : Int} (hy : y < 33) (hgo1 : ((∀ j, j < lny y → dgy y j < k) ∧ (0 < lny y → cny y)) → aj_wp nE al al X m_Model_putAll (d + 2) 0 0 76 [some (1, 78), some (2, (wd_cd x : Int)), none, some (0, me), some (0, (m : Int)), some (0, ia), some (2, (y : Int)), none, some (0, 1), none] [] sh g Q) (hgo0 : ¬ ((∀ j, j < lny y → dgy y j < k) ∧ (0 < lny y → cny y)) → aj_wp nE al al X m_Model_putAll (d + 2) 0 0 76 [some (1, 78), some (2, (wd_cd x : Int)), none, some (0, me), some (0, (m : Int)), some (0, ia), some (2, (y : Int)), none, some (0, 0), none] [] sh g Q) :
    ∀ (j i : Nat) (x1 : Int), i ≤ lny y → lny y - i = j → ((x1 = 1 ∧ (∀ j, j < i → dgy y j < k) ∧ (0 < i → cny y)) ∨ (x1 = 0 ∧ ¬ ((∀ j, j < i → dgy y j < k) ∧ (0 < i → cny y)))) →
    aj_wp nE al al X m_Model_putAll (d + 2) 0 0 19 [some (1, 78), some (2, (wd_cd x : Int)), none, some (0, me), some (0, (m : Int)), some (0, ia), some (2, (y : Int)), none, some (0, x1), some (0, (i : Int))] [] sh g Q := by
  have hk4 := hM.2.2.2.1
  have hl3 := ly_le y hy
  have hdv : y / 2 ^ (2 * lny y) ≤ y := Nat.div_le_self _ _
  have hdg : ∀ j, dgy y j < 4 := fun j => Nat.mod_lt _ (by omega)
  intro j
  induction j using Nat.strongRecOn with
  | ind j ih =>
    intro i x1 hi hjj hx1
    have hdgi := hdg i
    refine aj_iload 9 21 (dx d_Model_putAll 10 rfl) rfl rfl ?_
    refine aj_lload 6 23 (dx d_Model_putAll 11 rfl) rfl rfl ?_
    refine aj_callS1 26 cl_Model_112 (dx d_Model_putAll 12 rfl) rfl rfl rfl rfl rfl rfl (k_Model_length_g (by omega) ?_)
    change aj_wp _ _ _ _ _ _ _ _ _ _ _ _ _ _
    refine aj_icmp_ge 76 29 (dx d_Model_putAll 13 rfl) rfl rfl (by unfold aj_I; omega) (by unfold aj_I; omega) (fun h26 => ?_) (fun h26 => ?_)
    · refine aj_forget 9 ?_
      simp only [List.set]
      have e : i = lny y := by omega
      subst e
      rcases hx1 with ⟨rfl, h⟩ | ⟨rfl, h⟩
      · exact hgo1 h
      · exact hgo0 h
    · refine aj_iload 8 31 (dx d_Model_putAll 14 rfl) rfl rfl ?_
      refine aj_if_eq 67 34 (dx d_Model_putAll 15 rfl) rfl rfl (by rcases hx1 with ⟨h, -⟩ | ⟨h, -⟩ <;> rw [h] <;> unfold aj_I <;> omega) (fun h31 => ?_) (fun h31 => ?_)
      · have hxz : ¬ ((∀ j, j < i → dgy y j < k) ∧ (0 < i → cny y)) := by
          rcases hx1 with ⟨h, -⟩ | ⟨-, h⟩
          · omega
          · exact h
        refine aj_iconst 68 (dx d_Model_putAll 33 rfl) rfl ?_
        refine aj_istore 8 70 (dx d_Model_putAll 34 rfl) rfl rfl ?_
        simp only [List.set]
        refine aj_iinc 9 73 (dx d_Model_putAll 35 rfl) rfl rfl rfl ?_
        simp only [List.set]
        refine aj_goto 19 (dx d_Model_putAll 36 rfl) rfl ?_
        rw [show ((i : Nat) : Int) + 1 = ((i + 1 : Nat) : Int) by omega]
        exact ih _ (by omega) (i + 1) 0 (by omega) rfl (Or.inr ⟨rfl, fun z => hxz ⟨fun j hj => z.1 j (by omega), fun hi0 => z.2 (by omega)⟩⟩)
      · have hxo : (∀ j, j < i → dgy y j < k) ∧ (0 < i → cny y) := by
          rcases hx1 with ⟨-, h⟩ | ⟨h, -⟩
          · exact h
          · omega
        refine aj_lload 6 36 (dx d_Model_putAll 16 rfl) rfl rfl ?_
        refine aj_iload 9 38 (dx d_Model_putAll 17 rfl) rfl rfl ?_
        refine aj_callS2 41 cl_Model_118 (dx d_Model_putAll 18 rfl) rfl rfl rfl rfl rfl rfl (k_Model_at_g hy (show i < lny y by omega) ?_)
        change aj_wp _ _ _ _ _ _ _ _ _ _ _ _ _ _
        refine aj_aload_n 0 42 (dx d_Model_putAll 19 rfl) rfl rfl rfl ?_
        refine aj_getfv (v := (k : Int)) 45 fl_Model_89 (dx d_Model_putAll 20 rfl) rfl hM.1.1 hM.2.2.1 ?_
        refine aj_icmp_ge 67 48 (dx d_Model_putAll 21 rfl) rfl rfl (by unfold aj_I; omega) (by unfold aj_I; omega) (fun h45 => ?_) (fun h45 => ?_)
        · refine aj_iconst 68 (dx d_Model_putAll 33 rfl) rfl ?_
          refine aj_istore 8 70 (dx d_Model_putAll 34 rfl) rfl rfl ?_
          simp only [List.set]
          refine aj_iinc 9 73 (dx d_Model_putAll 35 rfl) rfl rfl rfl ?_
          simp only [List.set]
          refine aj_goto 19 (dx d_Model_putAll 36 rfl) rfl ?_
          rw [show ((i : Nat) : Int) + 1 = ((i + 1 : Nat) : Int) by omega]
          exact ih _ (by omega) (i + 1) 0 (by omega) rfl (Or.inr ⟨rfl, fun z => by have := z.1 i (by omega); omega⟩)
        · refine aj_lload 6 50 (dx d_Model_putAll 22 rfl) rfl rfl ?_
          refine aj_iconst 51 (dx d_Model_putAll 23 rfl) rfl ?_
          refine aj_lload 6 53 (dx d_Model_putAll 24 rfl) rfl rfl ?_
          refine aj_callS1 56 cl_Model_112 (dx d_Model_putAll 25 rfl) rfl rfl rfl rfl rfl rfl (k_Model_length_g (by omega) ?_)
          change aj_wp _ _ _ _ _ _ _ _ _ _ _ _ _ _
          refine aj_imul 57 (dx d_Model_putAll 26 rfl) rfl ?_
          refine aj_lshr 58 (dx d_Model_putAll 27 rfl) rfl (by rw [show (2 : Int) * (lny y : Int) = ((2 * lny y : Nat) : Int) by omega]; exact lg_shr (by omega) (by omega)) ?_
          refine aj_lconst (x := 1) 59 (dx d_Model_putAll 28 rfl) rfl rfl ?_
          refine aj_lcmp 60 (dx d_Model_putAll 29 rfl) rfl (dv_L hdv (by omega)) (by unfold aj_L; omega) ?_
          refine aj_if_ne 67 63 (dx d_Model_putAll 30 rfl) rfl rfl (sg_I _ _) (fun h60 => ?_) (fun h60 => ?_)
          · refine aj_iconst 68 (dx d_Model_putAll 33 rfl) rfl ?_
            refine aj_istore 8 70 (dx d_Model_putAll 34 rfl) rfl rfl ?_
            simp only [List.set]
            refine aj_iinc 9 73 (dx d_Model_putAll 35 rfl) rfl rfl rfl ?_
            simp only [List.set]
            refine aj_goto 19 (dx d_Model_putAll 36 rfl) rfl ?_
            rw [show ((i : Nat) : Int) + 1 = ((i + 1 : Nat) : Int) by omega]
            exact ih _ (by omega) (i + 1) 0 (by omega) rfl (Or.inr ⟨rfl, fun z => h60 (sg_0.mpr (z.2 (by omega)))⟩)
          · refine aj_iconst 64 (dx d_Model_putAll 31 rfl) rfl ?_
            refine aj_goto 68 (dx d_Model_putAll 32 rfl) rfl ?_
            refine aj_istore 8 70 (dx d_Model_putAll 34 rfl) rfl rfl ?_
            simp only [List.set]
            refine aj_iinc 9 73 (dx d_Model_putAll 35 rfl) rfl rfl rfl ?_
            simp only [List.set]
            refine aj_goto 19 (dx d_Model_putAll 36 rfl) rfl ?_
            rw [show ((i : Nat) : Int) + 1 = ((i + 1 : Nat) : Int) by omega]
            exact ih _ (by omega) (i + 1) 1 (by omega) rfl (Or.inl ⟨rfl, fun j hj => by
              rcases Nat.lt_or_ge j i with z | z
              · exact hxo.1 j z
              · rw [show j = i by omega]; omega, fun _ => sg_0.mp h60⟩)
set_option maxHeartbeats 4000000 in
theorem k_pa_out {al : Prop} {X : Option (Nat × (Int → Int))} {d : Nat} {sh : List aj_S} {g : aj_G} {Q : aj_R → List aj_S → aj_G → Prop} {k n s0 : Nat} {nx ou : Nat → Nat → Nat} {tw : Nat → Nat} {N : Nat} {q : nb_T} {sf : Nat → Nat} {mnx mou : Nat → Nat → Nat} (hS : mS sh g k n s0 nx ou tw N q sf mnx mou) (htw : tw_ok k n nx ou tw) (hcl : ∀ s i, s < n → i < k → nx s i < n) (hN : q.1 = N) (hsm : smm k n nx ou tw N q mnx mou) (hs0 : s0 < n) (h5 : g 78 5 = (s0 : Nat)) {P : List Nat → Prop} {x : List Nat} {m : Nat} (hx : wd_ok k x) (hlx : x.length ≤ 9) (hm2 : m ≤ 2) {me ia : Int} (hme : me = 0 ∨ me = 1) (hia : ia = 0 ∨ ia = 1) (hP : ∀ v z, wd_ok k v → su_z (me = 0 ∨ ia = 1) m (FW k N mnx mou) (FC k N mnx mou) (FO k N mnx mou) mnx x v z → ∀ u t, t ++ u = z ++ (v ++ x) → P u) {c : Nat} {W : Nat → List Nat} (hk : ∀ (g1 : aj_G) (c1 : Nat) (W1 : Nat → List Nat), pF g g1 → tM g1 k c1 W1 P → tr_ex c W c1 W1 → (∀ v z, wd_ok k v → su_z (me = 0 ∨ ia = 1) m (FW k N mnx mou) (FC k N mnx mou) (FO k N mnx mou) mnx x v z → c1 ≤ 800 → pr c1 W1 (z ++ (v ++ x))) → Q (.inl none) sh g1) :
    ∀ (j y : Nat) (g1 : aj_G) (c1 : Nat) (W1 : Nat → List Nat), 1 ≤ y → y ≤ 32 → 32 - y = j → pF g g1 → tM g1 k c1 W1 P → tr_ex c W c1 W1 → (∀ v z, wd_ok k v → su_z (me = 0 ∨ ia = 1) m (FW k N mnx mou) (FC k N mnx mou) (FO k N mnx mou) mnx x v z → wd_cd v < y → c1 ≤ 800 → pr c1 W1 (z ++ (v ++ x))) →
    aj_wp nE al al X m_Model_putAll (d + 4) 0 0 3 [some (1, 78), some (2, (wd_cd x : Int)), none, some (0, me), some (0, (m : Int)), some (0, ia), some (2, (y : Int)), none, none, none] [] sh g1 Q := by
  have hk4 := hS.1.2.2.2.1
  intro j
  induction j using Nat.strongRecOn with
  | ind j ih =>
    intro y g1 c1 W1 hy1 hy32 hjj hF hT hX hall
    have hS1 := mS_pF hS hF
    have hl3 := ly_le y (by omega)
    refine aj_lload 6 5 (dx d_Model_putAll 2 rfl) rfl rfl ?_
    refine aj_callS1 8 cl_Model_112 (dx d_Model_putAll 3 rfl) rfl rfl rfl rfl rfl rfl (k_Model_length_g (by omega) ?_)
    change aj_wp _ _ _ _ _ _ _ _ _ _ _ _ _ _
    refine aj_iload 4 10 (dx d_Model_putAll 4 rfl) rfl rfl ?_
    refine aj_icmp_gt 117 13 (dx d_Model_putAll 5 rfl) rfl rfl (by unfold aj_I; omega) (by unfold aj_I; omega) (fun h10 => ?_) (fun h10 => ?_)
    · refine aj_vret (dx d_Model_putAll 60 rfl) rfl id ?_
      exact hk g1 c1 W1 hF hT hX (fun v z hv hz h => hall v z hv hz (by
        have hvl : v.length ≤ m := by rcases hz with ⟨-, h, -⟩ | ⟨-, h, -⟩ <;> omega
        obtain ⟨-, l2, l3, -⟩ := ly_w (by omega) hv (by omega)
        rcases Nat.lt_or_ge (wd_cd v) y with z | z
        · exact z
        · have := ly_mono y (by omega) (wd_cd v) (by omega) z
          omega) h)
    · have hy31 := ly_31 y (by omega) (by omega)
      refine aj_iconst 14 (dx d_Model_putAll 6 rfl) rfl ?_
      refine aj_istore 8 16 (dx d_Model_putAll 7 rfl) rfl rfl ?_
      simp only [List.set]
      refine aj_iconst 17 (dx d_Model_putAll 8 rfl) rfl ?_
      refine aj_istore 9 19 (dx d_Model_putAll 9 rfl) rfl rfl ?_
      simp only [List.set]
      refine k_pa_in hS1.1 (show y < 33 by omega) (fun hr => ?_) (fun hr => ?_) _ 0 1 (by omega) rfl (Or.inl ⟨rfl, fun j hj => absurd hj (Nat.not_lt_zero _), fun h => absurd h (Nat.lt_irrefl _)⟩)
      · have hdv : y / 2 ^ (2 * lny y) ≤ y := Nat.div_le_self _ _
        refine aj_iload 8 78 (dx d_Model_putAll 37 rfl) rfl rfl ?_
        refine aj_if_eq 108 81 (dx d_Model_putAll 38 rfl) rfl rfl (by unfold aj_I; omega) (fun h78 => ?_) (fun h78 => ?_)
        · exact absurd h78 (by decide)
        · refine aj_lload 6 83 (dx d_Model_putAll 39 rfl) rfl rfl ?_
          refine aj_iconst 84 (dx d_Model_putAll 40 rfl) rfl ?_
          refine aj_lload 6 86 (dx d_Model_putAll 41 rfl) rfl rfl ?_
          refine aj_callS1 89 cl_Model_112 (dx d_Model_putAll 42 rfl) rfl rfl rfl rfl rfl rfl (k_Model_length_g (by omega) ?_)
          change aj_wp _ _ _ _ _ _ _ _ _ _ _ _ _ _
          refine aj_imul 90 (dx d_Model_putAll 43 rfl) rfl ?_
          refine aj_lshr 91 (dx d_Model_putAll 44 rfl) rfl (by rw [show (2 : Int) * (lny y : Int) = ((2 * lny y : Nat) : Int) by omega]; exact lg_shr (by omega) (by omega)) ?_
          refine aj_lconst (x := 1) 92 (dx d_Model_putAll 45 rfl) rfl rfl ?_
          refine aj_lcmp 93 (dx d_Model_putAll 46 rfl) rfl (dv_L hdv (by omega)) (by unfold aj_L; omega) ?_
          refine aj_if_ne 108 96 (dx d_Model_putAll 47 rfl) rfl rfl (sg_I _ _) (fun h93 => ?_) (fun h93 => ?_)
          · refine aj_lload 6 110 (dx d_Model_putAll 55 rfl) rfl rfl ?_
            refine aj_lconst (x := 1) 111 (dx d_Model_putAll 56 rfl) rfl rfl ?_
            refine aj_ladd 112 (dx d_Model_putAll 57 rfl) rfl ?_
            refine aj_lstore 6 114 (dx d_Model_putAll 58 rfl) rfl rfl rfl ?_
            simp only [List.set]
            refine aj_goto 3 (dx d_Model_putAll 59 rfl) rfl ?_
            refine aj_forget 8 ?_
            simp only [List.set]
            rw [show ((y : Nat) : Int) + 1 = ((y + 1 : Nat) : Int) by omega]
            exact ih _ (by omega) (y + 1) g1 c1 W1 (by omega) (by omega) rfl hF hT hX (fun v z hv hz hlt h => by
              rcases Nat.lt_or_ge (wd_cd v) y with c | c
              · exact hall v z hv hz c h
              · have e : wd_cd v = y := by omega
                have hvl : v.length ≤ m := by rcases hz with ⟨-, h, -⟩ | ⟨-, h, -⟩ <;> omega
                obtain ⟨l1, l2, l3, l4⟩ := ly_w (by omega) hv (by omega)
                rw [e] at l1 l2 l3 l4
                exact absurd (sg_0.mpr l1) h93)
          · have hcn : cny y := sg_0.mp h93
            obtain ⟨hv1, hv2⟩ := ly_v y (by omega) (by omega) hcn
            have hvok := ly_ok (by omega) hr.1
            refine aj_aload_n 0 97 (dx d_Model_putAll 48 rfl) rfl rfl rfl ?_
            refine aj_lload_n 1 98 (dx d_Model_putAll 49 rfl) rfl rfl rfl ?_
            refine aj_lload 6 100 (dx d_Model_putAll 50 rfl) rfl rfl ?_
            refine aj_iload_n 3 101 (dx d_Model_putAll 51 rfl) rfl rfl rfl ?_
            refine aj_iload 4 103 (dx d_Model_putAll 52 rfl) rfl rfl ?_
            refine aj_iload 5 105 (dx d_Model_putAll 53 rfl) rfl rfl ?_
            rw [← hv1]
            have hv1' := hv1
            refine aj_callV5 108 cl_Model_163 (dx d_Model_putAll 54 rfl) rfl rfl rfl rfl rfl rfl hS1.1.1.1 (k_Model_putEnds hS1 htw hcl hN hsm hs0 ((hF.2 5 (by omega)).trans h5) hx hvok hlx (by rw [hv2]; omega) hm2 hme hia (fun z hz => hP (dgs y) z hvok hz) hT (fun g2 c2 W2 hF2 hT2 hX2 hpr => ?_))
            change aj_wp _ _ _ _ _ _ _ _ _ _ _ _ _ _
            refine aj_lload 6 110 (dx d_Model_putAll 55 rfl) rfl rfl ?_
            refine aj_lconst (x := 1) 111 (dx d_Model_putAll 56 rfl) rfl rfl ?_
            refine aj_ladd 112 (dx d_Model_putAll 57 rfl) rfl ?_
            refine aj_lstore 6 114 (dx d_Model_putAll 58 rfl) rfl rfl rfl ?_
            simp only [List.set]
            refine aj_goto 3 (dx d_Model_putAll 59 rfl) rfl ?_
            refine aj_forget 8 ?_
            simp only [List.set]
            rw [hv1]
            rw [show ((y : Nat) : Int) + 1 = ((y + 1 : Nat) : Int) by omega]
            exact ih _ (by omega) (y + 1) g2 c2 W2 (by omega) (by omega) rfl (pF_trans hF hF2) hT2 (tr_ex_trans hX hX2) (fun v z hv hz hlt h => by
              rcases Nat.lt_or_ge (wd_cd v) y with c | c
              · exact pr_ex hX2 (hall v z hv hz c (by have := hX2.1; omega))
              · have e : wd_cd v = wd_cd (dgs y) := by rw [hv1]; omega
                have e2 : v = dgs y := wd_inj (wd_ok_le (by omega) hv) (wd_ok_le (by omega) hvok) e
                rw [e2] at hz ⊢
                exact hpr z hz h)
      · refine aj_iload 8 78 (dx d_Model_putAll 37 rfl) rfl rfl ?_
        refine aj_if_eq 108 81 (dx d_Model_putAll 38 rfl) rfl rfl (by unfold aj_I; omega) (fun h78 => ?_) (fun h78 => ?_)
        · refine aj_lload 6 110 (dx d_Model_putAll 55 rfl) rfl rfl ?_
          refine aj_lconst (x := 1) 111 (dx d_Model_putAll 56 rfl) rfl rfl ?_
          refine aj_ladd 112 (dx d_Model_putAll 57 rfl) rfl ?_
          refine aj_lstore 6 114 (dx d_Model_putAll 58 rfl) rfl rfl rfl ?_
          simp only [List.set]
          refine aj_goto 3 (dx d_Model_putAll 59 rfl) rfl ?_
          refine aj_forget 8 ?_
          simp only [List.set]
          rw [show ((y : Nat) : Int) + 1 = ((y + 1 : Nat) : Int) by omega]
          exact ih _ (by omega) (y + 1) g1 c1 W1 (by omega) (by omega) rfl hF hT hX (fun v z hv hz hlt h => by
            rcases Nat.lt_or_ge (wd_cd v) y with c | c
            · exact hall v z hv hz c h
            · have e : wd_cd v = y := by omega
              have hvl : v.length ≤ m := by rcases hz with ⟨-, h, -⟩ | ⟨-, h, -⟩ <;> omega
              obtain ⟨l1, l2, l3, l4⟩ := ly_w (by omega) hv (by omega)
              rw [e] at l1 l2 l3 l4
              exact absurd ⟨l4, fun _ => l1⟩ hr)
        · exact absurd rfl h78
set_option maxHeartbeats 4000000 in
theorem k_Model_putAll {al : Prop} {X : Option (Nat × (Int → Int))} {d : Nat} {sh : List aj_S} {g : aj_G} {Q : aj_R → List aj_S → aj_G → Prop} {k n s0 : Nat} {nx ou : Nat → Nat → Nat} {tw : Nat → Nat} {N : Nat} {q : nb_T} {sf : Nat → Nat} {mnx mou : Nat → Nat → Nat} (hS : mS sh g k n s0 nx ou tw N q sf mnx mou) (htw : tw_ok k n nx ou tw) (hcl : ∀ s i, s < n → i < k → nx s i < n) (hN : q.1 = N) (hsm : smm k n nx ou tw N q mnx mou) (hs0 : s0 < n) (h5 : g 78 5 = (s0 : Nat)) {P : List Nat → Prop} {x : List Nat} {m : Nat} (hx : wd_ok k x) (hlx : x.length ≤ 9) (hm2 : m ≤ 2) {me ia : Int} (hme : me = 0 ∨ me = 1) (hia : ia = 0 ∨ ia = 1) (hP : ∀ v z, wd_ok k v → su_z (me = 0 ∨ ia = 1) m (FW k N mnx mou) (FC k N mnx mou) (FO k N mnx mou) mnx x v z → ∀ u t, t ++ u = z ++ (v ++ x) → P u) {c : Nat} {W : Nat → List Nat} (hT : tM g k c W P) (hk : ∀ (g1 : aj_G) (c1 : Nat) (W1 : Nat → List Nat), pF g g1 → tM g1 k c1 W1 P → tr_ex c W c1 W1 → (∀ v z, wd_ok k v → su_z (me = 0 ∨ ia = 1) m (FW k N mnx mou) (FC k N mnx mou) (FO k N mnx mou) mnx x v z → c1 ≤ 800 → pr c1 W1 (z ++ (v ++ x))) → Q (.inl none) sh g1) :
    aj_wp nE al al X m_Model_putAll (d + 4) 0 0 0 [some (1, 78), some (2, (wd_cd x : Int)), none, some (0, me), some (0, (m : Int)), some (0, ia), none, none, none, none] [] sh g Q := by
  refine aj_lconst (x := 1) 1 (dx d_Model_putAll 0 rfl) rfl rfl ?_
  refine aj_lstore 6 3 (dx d_Model_putAll 1 rfl) rfl rfl rfl ?_
  simp only [List.set]
  exact k_pa_out hS htw hcl hN hsm hs0 h5 hx hlx hm2 hme hia hP hk _ 1 g c W (by omega) (by omega) rfl (pF_refl g) hT (tr_ex_refl c W) (fun v z _ _ hlt => by have := wd_pos v; omega)
