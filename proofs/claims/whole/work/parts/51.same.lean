/-! Model.same -/
theorem sm_div : ∀ a, a < 8 → ∀ b, b < 10 → Int32.ofInt ((10 * a + b : Nat) : Int) / Int32.ofInt 10 = Int32.ofInt ((a : Nat) : Int) := by decide +kernel
theorem sm_rem : ∀ a, a < 8 → ∀ b, b < 10 → Int32.ofInt ((10 * a + b : Nat) : Int) - Int32.ofInt ((10 * a + b : Nat) : Int) / Int32.ofInt 10 * Int32.ofInt 10 = Int32.ofInt ((b : Nat) : Int) := by decide +kernel
/-- the walk over the pairs: the rows, and the order of the words -/
def sJ (g1 : aj_G) (k s0 : Nat) (nx ix : Nat → Nat → Nat) (W : Nat → List Nat) (cnt at_ inp : Nat) : Prop :=
  (∀ p : Nat, p < cnt → g1 96 p = ((10 * rn nx s0 (W p) + rn ix 0 (W p) : Nat) : Int) ∧ g1 98 p = wd_cd (W p) ∧ (W p).length ≤ 20) ∧
  (∀ x y : Nat, x < 8 → y < 10 → (g1 97 ((10 * x + y : Nat) : Int) = 0 ∧ ∀ p, p < cnt → ¬ (rn nx s0 (W p) = x ∧ rn ix 0 (W p) = y)) ∨ (g1 97 ((10 * x + y : Nat) : Int) = 1 ∧ ∃ p, p < cnt ∧ rn nx s0 (W p) = x ∧ rn ix 0 (W p) = y)) ∧
  (∀ p q, p < cnt → q < cnt → rn nx s0 (W p) = rn nx s0 (W q) → rn ix 0 (W p) = rn ix 0 (W q) → p = q) ∧ bf_I k nx s0 ix 0 W cnt at_ inp
def sW (g1 : aj_G) (k s0 : Nat) (nx ou ix io : Nat → Nat → Nat) (W : Nat → List Nat) (cnt at_ inp : Nat) : Prop :=
  (g1 78 16 = 1 ∧ ∀ p i, p < cnt → bf_done at_ inp p i k → ¬ df nx ou s0 ix io 0 (i :: W p)) ∨ ∃ w, g1 78 16 = (wd_cd w : Nat) ∧ wd_least k nx ou s0 ix io 0 w ∧ w.length ≤ 21
def sF (g g1 : aj_G) : Prop := (∀ r, r ≠ 78 → r ≠ 96 → r ≠ 97 → r ≠ 98 → g1 r = g r) ∧ ∀ j, j ≠ 16 → g1 78 j = g 78 j
section SM
variable {g g1 : aj_G} {k n m s0 : Nat} {nx ou ix io : Nat → Nat → Nat} {W : Nat → List Nat} {cnt at_ inp : Nat}
theorem sJ_lt (hc : ∀ s i, s < n → i < k → nx s i < n) (hc' : ∀ s i, s < m → i < k → ix s i < m) (hs : s0 < n) (hm : 0 < m) (h : sJ g1 k s0 nx ix W cnt at_ inp) {p : Nat} (hp : p < cnt) : rn nx s0 (W p) < n ∧ rn ix 0 (W p) < m :=
  ⟨rn_lt hc hs _ (h.2.2.2.2.2.2.2.1 p hp), rn_lt hc' hm _ (h.2.2.2.2.2.2.2.1 p hp)⟩
theorem sJ_room (hn : n ≤ 8) (hm10 : m ≤ 10) (hc : ∀ s i, s < n → i < k → nx s i < n) (hc' : ∀ s i, s < m → i < k → ix s i < m) (hs : s0 < n) (hm : 0 < m) (hI : sJ g1 k s0 nx ix W cnt at_ inp) {x y : Nat} (hx : x < 8) (hy : y < 10) (h : ∀ p, p < cnt → ¬ (rn nx s0 (W p) = x ∧ rn ix 0 (W p) = y)) : cnt < 80 :=
  pg_hole 80 (cnt + 1) (fun p => if p < cnt then 10 * rn nx s0 (W p) + rn ix 0 (W p) else 10 * x + y) (fun p hp => by
    by_cases c : p < cnt
    · rw [if_pos c]
      have := sJ_lt hc hc' hs hm hI c
      omega
    · rw [if_neg c]; omega) (fun p q hp hq e => by
    by_cases c : p < cnt
    · by_cases c2 : q < cnt
      · rw [if_pos c, if_pos c2] at e
        have h1 := sJ_lt hc hc' hs hm hI c
        have h2 := sJ_lt hc hc' hs hm hI c2
        exact hI.2.2.1 p q c c2 (by omega) (by omega)
      · rw [if_pos c, if_neg c2] at e
        have h1 := sJ_lt hc hc' hs hm hI c
        exact absurd ⟨by omega, by omega⟩ (h p c)
    · by_cases c2 : q < cnt
      · rw [if_neg c, if_pos c2] at e
        have h1 := sJ_lt hc hc' hs hm hI c2
        exact absurd ⟨by omega, by omega⟩ (h q c2)
      · omega)
theorem sJ_cnt (hn : n ≤ 8) (hm10 : m ≤ 10) (hc : ∀ s i, s < n → i < k → nx s i < n) (hc' : ∀ s i, s < m → i < k → ix s i < m) (hs : s0 < n) (hm : 0 < m) (hI : sJ g1 k s0 nx ix W cnt at_ inp) : cnt ≤ 80 :=
  pg_hole 80 cnt (fun p => 10 * rn nx s0 (W p) + rn ix 0 (W p)) (fun p hp => by have := sJ_lt hc hc' hs hm hI hp; omega) (fun p q hp hq e => by
    have h1 := sJ_lt hc hc' hs hm hI hp
    have h2 := sJ_lt hc hc' hs hm hI hq
    exact hI.2.2.1 p q hp hq (by omega) (by omega))
theorem sJ_mem {g2 : aj_G} (h : sJ g1 k s0 nx ix W cnt at_ inp) (e1 : g2 96 = g1 96) (e2 : g2 97 = g1 97) (e3 : g2 98 = g1 98) : sJ g2 k s0 nx ix W cnt at_ inp := by
  unfold sJ at h ⊢
  rw [e1, e2, e3]
  exact h
theorem sJ_seen (hk : k ≤ 4) (h : sJ g1 k s0 nx ix W cnt at_ inp) (hat : at_ < cnt) (hin : inp < k) {p : Nat} (hp : p < cnt) (e1 : rn nx s0 (W p) = nx (rn nx s0 (W at_)) inp) (e2 : rn ix 0 (W p) = ix (rn ix 0 (W at_)) inp) : sJ g1 k s0 nx ix W cnt at_ (inp + 1) :=
  ⟨h.1, h.2.1, h.2.2.1, bf_seen h.2.2.2 hk hat hin hp e1 e2⟩
theorem sJ_new (hk : k ≤ 4) (h : sJ g1 k s0 nx ix W cnt at_ inp) (hat : at_ < cnt) (hin : inp < k) (hx : nx (rn nx s0 (W at_)) inp < 8) (hy : ix (rn ix 0 (W at_)) inp < 10) (hl : (W at_).length < 20)
    (hu : ∀ p, p < cnt → ¬ (rn nx s0 (W p) = nx (rn nx s0 (W at_)) inp ∧ rn ix 0 (W p) = ix (rn ix 0 (W at_)) inp)) :
    sJ (aj_up (aj_up (aj_up g1 97 ((10 * nx (rn nx s0 (W at_)) inp + ix (rn ix 0 (W at_)) inp : Nat) : Int) 1) 96 (cnt : Nat) ((10 * nx (rn nx s0 (W at_)) inp + ix (rn ix 0 (W at_)) inp : Nat) : Int)) 98 (cnt : Nat) (wd_cd (inp :: W at_) : Nat)) k s0 nx ix (fun p => if p = cnt then inp :: W at_ else W p) (cnt + 1) at_ (inp + 1) := by
  obtain ⟨a1, a2, a3, a4⟩ := h
  have hW : ∀ q, q < cnt → (fun p => if p = cnt then inp :: W at_ else W p) q = W q := fun q hq => if_neg (by omega)
  have hWc : (fun p => if p = cnt then inp :: W at_ else W p) cnt = inp :: W at_ := if_pos rfl
  generalize (fun p => if p = cnt then inp :: W at_ else W p) = W' at hW hWc
  refine ⟨fun p hp => ?_, fun x y hx2 hy2 => ?_, fun p q hp hq e1 e2 => ?_, bf_new a4 hk hat hin hW hWc⟩
  · by_cases c : p = cnt
    · subst c
      rw [hWc]
      exact ⟨by rw [aj_up_ne _ _ _ (by omega), aj_up_self]; rfl, by rw [aj_up_self], by rw [List.length_cons]; omega⟩
    · rw [hW p (by omega), aj_up_ne _ _ _ (by omega), aj_up_ni _ _ _ (by omega), aj_up_ne _ _ _ (by omega), aj_up_ni _ _ _ (by omega), aj_up_ne _ _ _ (by omega), aj_up_ne _ _ _ (by omega)]
      exact a1 p (by omega)
  · rw [aj_up_ne _ _ _ (by omega), aj_up_ne _ _ _ (by omega)]
    by_cases c : x = nx (rn nx s0 (W at_)) inp ∧ y = ix (rn ix 0 (W at_)) inp
    · refine Or.inr ⟨by rw [c.1, c.2, aj_up_self], cnt, by omega, ?_, ?_⟩
      · rw [hWc, c.1]; rfl
      · rw [hWc, c.2]; rfl
    · rw [aj_up_ni _ _ _ (by omega)]
      rcases a2 x y hx2 hy2 with ⟨b1, b2⟩ | ⟨b1, p, b2, b3⟩
      · refine Or.inl ⟨b1, fun p hp z => ?_⟩
        by_cases e : p = cnt
        · subst e
          rw [hWc] at z
          exact c ⟨z.1.symm, z.2.symm⟩
        · rw [hW p (by omega)] at z
          exact b2 p (by omega) z
      · exact Or.inr ⟨b1, p, by omega, by rw [hW p b2]; exact b3⟩
  · by_cases c : p = cnt
    · by_cases c2 : q = cnt
      · omega
      · rw [c, hWc, hW q (by omega)] at e1 e2
        exact absurd ⟨e1.symm, e2.symm⟩ (hu q (by omega))
    · by_cases c2 : q = cnt
      · rw [c2, hWc, hW p (by omega)] at e1 e2
        exact absurd ⟨e1, e2⟩ (hu p (by omega))
      · rw [hW p (by omega), hW q (by omega)] at e1 e2
        exact a3 p q (by omega) (by omega) e1 e2
theorem sW_mem {g2 : aj_G} (h : sW g1 k s0 nx ou ix io W cnt at_ inp) (e : g2 78 16 = g1 78 16) : sW g2 k s0 nx ou ix io W cnt at_ inp := by
  unfold sW at h ⊢
  rw [e]
  exact h
theorem sW_new {W' : Nat → List Nat} (h : sW g1 k s0 nx ou ix io W cnt at_ inp) (hat : at_ < cnt) (hW : ∀ q, q < cnt → W' q = W q) : sW g1 k s0 nx ou ix io W' (cnt + 1) at_ inp := by
  rcases h with ⟨h1, h2⟩ | h
  · refine Or.inl ⟨h1, fun p i hp hd => ?_⟩
    have hpc : p < cnt := by
      obtain ⟨-, h | ⟨h, -⟩⟩ := hd <;> omega
    rw [hW p hpc]
    exact h2 p i hpc hd
  · exact Or.inr h
theorem sW_eq (h : sW g1 k s0 nx ou ix io W cnt at_ inp) (hn : ¬ df nx ou s0 ix io 0 (inp :: W at_)) : sW g1 k s0 nx ou ix io W cnt at_ (inp + 1) := by
  rcases h with ⟨h1, h2⟩ | h
  · refine Or.inl ⟨h1, fun p i hp hd => ?_⟩
    rcases bf_done_step hd with hd | ⟨rfl, rfl⟩
    · exact h2 p i hp hd
    · exact hn
  · exact Or.inr h
theorem sW_row (h : sW g1 k s0 nx ou ix io W cnt at_ k) : sW g1 k s0 nx ou ix io W cnt (at_ + 1) 0 := by
  rcases h with ⟨h1, h2⟩ | h
  · refine Or.inl ⟨h1, fun p i hp hd => h2 p i hp ?_⟩
    obtain ⟨hi, h | ⟨-, h⟩⟩ := hd
    · rcases Nat.lt_or_ge p at_ with z | z
      · exact ⟨hi, Or.inl z⟩
      · exact ⟨hi, Or.inr ⟨by omega, hi⟩⟩
    · omega
  · exact Or.inr h
/-- what the walk ends with -/
theorem sm_end (hk : k ≤ 4) (hn : n ≤ 8) (hm10 : m ≤ 10) (hc : ∀ s i, s < n → i < k → nx s i < n) (hc' : ∀ s i, s < m → i < k → ix s i < m) (hs : s0 < n) (hm : 0 < m) (hJ : sJ g1 k s0 nx ix W cnt at_ 0) (hS : sW g1 k s0 nx ou ix io W cnt at_ 0) (he : at_ = cnt ∨ (at_ < cnt ∧ 20 ≤ (W at_).length)) :
    ∃ w, g1 78 16 = (wd_cd w : Nat) ∧ w.length ≤ 17 ∧ (wd_least k nx ou s0 ix io 0 w ∨ (wd_none k nx ou s0 ix io 0 ∧ w = [])) := by
  rcases hS with ⟨h1, h2⟩ | ⟨w, h1, h2, -⟩
  · refine ⟨[], h1, Nat.zero_le _, Or.inr ⟨?_, rfl⟩⟩
    rcases he with rfl | ⟨he1, he2⟩
    · exact bf_none hJ.2.2.2 h2
    · intro v hv hd
      obtain ⟨w, hw⟩ := least_ex hv hd
      have hl := un_len hk hc hc' hs hm hw
      have hord := hJ.2.2.2.2.2.2.2.2.1
      have hmin := bf_min (c := wd_cd (0 :: W at_)) (ou := ou) (ou' := io) hJ.2.2.2 (fun p i hp hi hlt => by
        have e1 : wd_cd (i :: W p) = 4 * wd_cd (W p) + i := rfl
        have e2 : wd_cd (0 :: W at_) = 4 * wd_cd (W at_) + 0 := rfl
        refine ⟨hi, ?_⟩
        rcases Nat.lt_trichotomy p at_ with z | z | z
        · exact Or.inl z
        · subst z; omega
        · have := hord at_ p z hp; omega) (fun p i hp _ hd => h2 p i hp hd) w hw.1 hw.2.1
      have hlt := wd_len_lt (w := w) (v := 0 :: W at_) (wd_ok_le hk hw.1) (by rw [List.length_cons]; omega)
      omega
  · have hl := un_len hk hc hc' hs hm h2
    exact ⟨w, h1, by omega, Or.inl h2⟩
end SM
set_option maxHeartbeats 4000000 in
theorem k_sm_tail {al : Prop} {X : Option (Nat × (Int → Int))} {d : Nat} {sh : List aj_S} {g : aj_G} {Q : aj_R → List aj_S → aj_G → Prop} {k n : Nat} {nx ou : Nat → Nat → Nat} {m s0 : Nat} {ix io : Nat → Nat → Nat} (hM : mmm sh g k n nx ou) (hI : mim g k m ix io) (hm : 0 < m) (hs0 : s0 < n) {g1 : aj_G} {W : Nat → List Nat} {cnt at_ inp : Nat} (hF : sF g g1) (hJ : sJ g1 k s0 nx ix W cnt at_ inp) (hS : sW g1 k s0 nx ou ix io W cnt at_ (inp + 1)) (hat : at_ < cnt) (hin : inp < k) (hl20 : (W at_).length < 20) (hgo : ∀ (g2 : aj_G) (W' : Nat → List Nat) (cnt' : Nat), sF g g2 → sJ g2 k s0 nx ix W' cnt' at_ (inp + 1) → sW g2 k s0 nx ou ix io W' cnt' at_ (inp + 1) → at_ < cnt' → W' at_ = W at_ → aj_wp nE al al X m_Model_same (d + 2) 0 0 131 [some (1, 78), some (0, ((cnt' : Nat) : Int)), some (0, (at_ : Int)), some (0, (rn nx s0 (W at_) : Int)), some (0, (rn ix 0 (W at_) : Int)), some (0, ((inp + 1 : Nat) : Int)), none, none, none] [] sh g2 Q) : aj_wp nE al al X m_Model_same (d + 2) 0 0 193 [some (1, 78), some (0, (cnt : Int)), some (0, (at_ : Int)), some (0, (rn nx s0 (W at_) : Int)), some (0, (rn ix 0 (W at_) : Int)), some (0, (inp : Int)), some (2, (wd_cd (inp :: W at_) : Int)), none, none] [] sh g1 Q := by
  have hk4 := hM.2.2.2.1
  have hn8 := hM.2.2.2.2.1
  have hm10 := hI.2.1
  have hc : ∀ s i, s < n → i < k → nx s i < n := fun s i h1 h2 => (hM.2.2.2.2.2 s i h1 h2).2.2.1
  have hc' : ∀ s i, s < m → i < k → ix s i < m := fun s i h1 h2 => (hI.2.2 s i h1 h2).2.2.1
  have hM1 : mmm sh g1 k n nx ou := mmm_of hM (fun j hj => hF.2 j (by unfold mo_fin at hj; omega)) (hF.1 79 (by omega) (by omega) (by omega) (by omega)) (hF.1 80 (by omega) (by omega) (by omega) (by omega))
  have h88 : g1 88 = g 88 := hF.1 88 (by omega) (by omega) (by omega) (by omega)
  have h89 : g1 89 = g 89 := hF.1 89 (by omega) (by omega) (by omega) (by omega)
  have hlt := sJ_lt hc hc' hs0 hm hJ hat
  obtain ⟨e1, e2, e3, e4⟩ := hM1.2.2.2.2.2 (rn nx s0 (W at_)) inp hlt.1 hin
  obtain ⟨f1, f2, f3, f4⟩ := hI.2.2 (rn ix 0 (W at_)) inp hlt.2 hin
  have hcm := hJ.2.1 (nx (rn nx s0 (W at_)) inp) (ix (rn ix 0 (W at_)) inp) (by omega) (by omega)
  refine aj_bipush 195 (dx d_Model_same 116 rfl) rfl (by decide +kernel) ?_
  refine aj_aload_n 0 196 (dx d_Model_same 117 rfl) rfl rfl rfl ?_
  refine aj_getfv (v := 79) 199 fl_Model_7 (dx d_Model_same 118 rfl) rfl hM1.1.1 (by first | exact mf_next hM1.1 | (simp [aj_up_at]; exact mf_next hM1.1) | exact mf_next (by assumption)) ?_
  refine aj_iconst 200 (dx d_Model_same 119 rfl) rfl ?_
  refine aj_iload_n 3 201 (dx d_Model_same 120 rfl) rfl rfl rfl ?_
  refine aj_imul 202 (dx d_Model_same 121 rfl) rfl ?_
  refine aj_iload 5 204 (dx d_Model_same 122 rfl) rfl rfl ?_
  refine aj_iadd 205 (dx d_Model_same 123 rfl) rfl ?_
  refine aj_iald 206 (dx d_Model_same 124 rfl) rfl (ms_next hM1.1) rfl (by omega) (by omega) ?_
  rw [e1]
  refine aj_imul 207 (dx d_Model_same 125 rfl) rfl ?_
  refine aj_aload_n 0 208 (dx d_Model_same 126 rfl) rfl rfl rfl ?_
  refine aj_getfv (v := 88) 211 fl_Model_42 (dx d_Model_same 127 rfl) rfl hM1.1.1 (by first | exact mf_goes hM1.1 | (simp [aj_up_at]; exact mf_goes hM1.1) | exact mf_goes (by assumption)) ?_
  refine aj_iconst 212 (dx d_Model_same 128 rfl) rfl ?_
  refine aj_iload 4 214 (dx d_Model_same 129 rfl) rfl rfl ?_
  refine aj_imul 215 (dx d_Model_same 130 rfl) rfl ?_
  refine aj_iload 5 217 (dx d_Model_same 131 rfl) rfl rfl ?_
  refine aj_iadd 218 (dx d_Model_same 132 rfl) rfl ?_
  refine aj_iald 219 (dx d_Model_same 133 rfl) rfl (ms_goes hM1.1) rfl (by omega) (by omega) ?_
  rw [h88, f1]
  refine aj_iadd 220 (dx d_Model_same 134 rfl) rfl ?_
  rw [show (10 : Int) * (nx (rn nx s0 (W at_)) inp : Int) + (ix (rn ix 0 (W at_)) inp : Int) = ((10 * nx (rn nx s0 (W at_)) inp + ix (rn ix 0 (W at_)) inp : Nat) : Int) by omega]
  refine aj_istore 8 222 (dx d_Model_same 135 rfl) rfl rfl ?_
  simp only [List.set]
  refine aj_aload_n 0 223 (dx d_Model_same 136 rfl) rfl rfl rfl ?_
  refine aj_getfv (v := 97) 226 fl_Model_76 (dx d_Model_same 137 rfl) rfl hM1.1.1 (by first | exact mf_came hM1.1 | (simp [aj_up_at]; exact mf_came hM1.1) | exact mf_came (by assumption)) ?_
  refine aj_iload 8 228 (dx d_Model_same 138 rfl) rfl rfl ?_
  refine aj_zald 229 (dx d_Model_same 139 rfl) rfl (ms_came hM1.1) rfl (by omega) (by omega) ?_
  refine aj_if_ne 259 232 (dx d_Model_same 140 rfl) rfl rfl (by rcases hcm with ⟨z, -⟩ | ⟨z, -⟩ <;> rw [z] <;> unfold aj_I <;> omega) (fun h229 => ?_) (fun h229 => ?_)
  · obtain ⟨p, p1, p2, p3⟩ : ∃ p, p < cnt ∧ rn nx s0 (W p) = nx (rn nx s0 (W at_)) inp ∧ rn ix 0 (W p) = ix (rn ix 0 (W at_)) inp := by
      rcases hcm with ⟨z, -⟩ | ⟨-, z⟩
      · exact absurd z h229
      · exact z
    refine aj_iinc 5 262 (dx d_Model_same 157 rfl) rfl rfl rfl ?_
    simp only [List.set]
    refine aj_goto 131 (dx d_Model_same 158 rfl) rfl ?_
    refine aj_forget 6 ?_
    refine aj_forget 8 ?_
    simp only [List.set]
    rw [show ((inp : Nat) : Int) + 1 = ((inp + 1 : Nat) : Int) by omega]
    exact hgo g1 W cnt hF (sJ_seen (by omega) hJ hat hin p1 p2 p3) hS hat rfl
  · have hu : ∀ p, p < cnt → ¬ (rn nx s0 (W p) = nx (rn nx s0 (W at_)) inp ∧ rn ix 0 (W p) = ix (rn ix 0 (W at_)) inp) := by
      rcases hcm with ⟨-, z⟩ | ⟨z, -⟩
      · exact z
      · omega
    have hc80 := sJ_room (by omega) hm10 hc hc' hs0 hm hJ (by omega) (by omega) hu
    refine aj_aload_n 0 233 (dx d_Model_same 141 rfl) rfl rfl rfl ?_
    refine aj_getfv (v := 97) 236 fl_Model_76 (dx d_Model_same 142 rfl) rfl hM1.1.1 (by first | exact mf_came hM1.1 | (simp [aj_up_at]; exact mf_came hM1.1) | exact mf_came (by assumption)) ?_
    refine aj_iload 8 238 (dx d_Model_same 143 rfl) rfl rfl ?_
    refine aj_iconst 239 (dx d_Model_same 144 rfl) rfl ?_
    refine aj_zast 240 (dx d_Model_same 145 rfl) rfl (ms_came hM1.1) rfl (by omega) (by omega) (by omega) ?_
    refine aj_aload_n 0 241 (dx d_Model_same 146 rfl) rfl rfl rfl ?_
    refine aj_getfv (v := 96) 244 fl_Model_73 (dx d_Model_same 147 rfl) rfl hM1.1.1 (by first | exact mf_seen hM1.1 | (simp [aj_up_at]; exact mf_seen hM1.1) | exact mf_seen (by assumption)) ?_
    refine aj_iload_n 1 245 (dx d_Model_same 148 rfl) rfl rfl rfl ?_
    refine aj_iload 8 247 (dx d_Model_same 149 rfl) rfl rfl ?_
    refine aj_iast 248 (dx d_Model_same 150 rfl) rfl (ms_seen hM1.1) rfl (by omega) (by omega) ?_
    refine aj_aload_n 0 249 (dx d_Model_same 151 rfl) rfl rfl rfl ?_
    refine aj_getfv (v := 98) 252 fl_Model_80 (dx d_Model_same 152 rfl) rfl hM1.1.1 (by first | exact mf_trail hM1.1 | (simp [aj_up_at]; exact mf_trail hM1.1) | exact mf_trail (by assumption)) ?_
    refine aj_iload_n 1 253 (dx d_Model_same 153 rfl) rfl rfl rfl ?_
    refine aj_lload 6 255 (dx d_Model_same 154 rfl) rfl rfl ?_
    refine aj_last 256 (dx d_Model_same 155 rfl) rfl (ms_trail hM1.1) rfl (by omega) (by omega) ?_
    refine aj_iinc 1 259 (dx d_Model_same 156 rfl) rfl rfl rfl ?_
    simp only [List.set]
    refine aj_iinc 5 262 (dx d_Model_same 157 rfl) rfl rfl rfl ?_
    simp only [List.set]
    refine aj_goto 131 (dx d_Model_same 158 rfl) rfl ?_
    refine aj_forget 6 ?_
    refine aj_forget 8 ?_
    simp only [List.set]
    rw [show ((inp : Nat) : Int) + 1 = ((inp + 1 : Nat) : Int) by omega]
    rw [show ((cnt : Nat) : Int) + 1 = ((cnt + 1 : Nat) : Int) by omega]
    have hWat : (fun p => if p = cnt then inp :: W at_ else W p) at_ = W at_ := if_neg (by omega)
    exact hgo _ _ (cnt + 1) ⟨fun r a b c e => by rw [aj_up_ne _ _ _ e, aj_up_ne _ _ _ b, aj_up_ne _ _ _ c]; exact hF.1 r a b c e, fun j hj => by rw [aj_up_ne _ _ _ (by omega), aj_up_ne _ _ _ (by omega), aj_up_ne _ _ _ (by omega)]; exact hF.2 j hj⟩ (sJ_new (by omega) hJ hat hin (by omega) (by omega) hl20 hu) (sW_new (sW_mem hS (by rw [aj_up_ne _ _ _ (by omega), aj_up_ne _ _ _ (by omega), aj_up_ne _ _ _ (by omega)])) hat (fun q hq => if_neg (by omega))) (by omega) hWat
set_option maxHeartbeats 4000000 in
theorem k_sm_in {al : Prop} {X : Option (Nat × (Int → Int))} {d : Nat} {sh : List aj_S} {g : aj_G} {Q : aj_R → List aj_S → aj_G → Prop} {k n : Nat} {nx ou : Nat → Nat → Nat} {m s0 : Nat} {ix io : Nat → Nat → Nat} (hM : mmm sh g k n nx ou) (hI : mim g k m ix io) (hm : 0 < m) (hs0 : s0 < n) {at_ : Nat}
    (hgo : ∀ (g1 : aj_G) (W : Nat → List Nat) (cnt : Nat), sF g g1 → sJ g1 k s0 nx ix W cnt at_ k → sW g1 k s0 nx ou ix io W cnt at_ k → at_ < cnt → aj_wp nE al al X m_Model_same (d + 2) 0 0 265 [some (1, 78), some (0, (cnt : Int)), some (0, (at_ : Int)), none, none, none, none, none, none] [] sh g1 Q) :
    ∀ (y : Nat) (g1 : aj_G) (W : Nat → List Nat) (cnt inp : Nat), inp ≤ k → k - inp = y → sF g g1 → sJ g1 k s0 nx ix W cnt at_ inp → sW g1 k s0 nx ou ix io W cnt at_ inp → at_ < cnt → (W at_).length < 20 →
    aj_wp nE al al X m_Model_same (d + 2) 0 0 131 [some (1, 78), some (0, (cnt : Int)), some (0, (at_ : Int)), some (0, (rn nx s0 (W at_) : Int)), some (0, (rn ix 0 (W at_) : Int)), some (0, (inp : Int)), none, none, none] [] sh g1 Q := by
  have hk4 := hM.2.2.2.1
  have hn8 := hM.2.2.2.2.1
  have hm10 := hI.2.1
  have hc : ∀ s i, s < n → i < k → nx s i < n := fun s i h1 h2 => (hM.2.2.2.2.2 s i h1 h2).2.2.1
  have hc' : ∀ s i, s < m → i < k → ix s i < m := fun s i h1 h2 => (hI.2.2 s i h1 h2).2.2.1
  intro y
  induction y using Nat.strongRecOn with
  | ind y ih =>
    intro g1 W cnt inp hinp hyy hF hJ hS hat hl20
    have hM1 : mmm sh g1 k n nx ou := mmm_of hM (fun j hj => hF.2 j (by unfold mo_fin at hj; omega)) (hF.1 79 (by omega) (by omega) (by omega) (by omega)) (hF.1 80 (by omega) (by omega) (by omega) (by omega))
    have h88 : g1 88 = g 88 := hF.1 88 (by omega) (by omega) (by omega) (by omega)
    have h89 : g1 89 = g 89 := hF.1 89 (by omega) (by omega) (by omega) (by omega)
    refine aj_iload 5 133 (dx d_Model_same 79 rfl) rfl rfl ?_
    refine aj_aload_n 0 134 (dx d_Model_same 80 rfl) rfl rfl rfl ?_
    refine aj_getfv (v := (k : Int)) 137 fl_Model_89 (dx d_Model_same 81 rfl) rfl hM1.1.1 hM1.2.2.1 ?_
    refine aj_icmp_ge 265 140 (dx d_Model_same 82 rfl) rfl rfl (by unfold aj_I; omega) (by unfold aj_I; omega) (fun h137 => ?_) (fun h137 => ?_)
    · refine aj_forget 3 ?_
      refine aj_forget 4 ?_
      refine aj_forget 5 ?_
      simp only [List.set]
      have e : inp = k := by omega
      subst e
      exact hgo g1 W cnt hF hJ hS hat
    · have hik : inp < k := by omega
      have hlt := sJ_lt hc hc' hs0 hm hJ hat
      obtain ⟨e1, e2, e3, e4⟩ := hM1.2.2.2.2.2 (rn nx s0 (W at_)) inp hlt.1 hik
      obtain ⟨f1, f2, f3, f4⟩ := hI.2.2 (rn ix 0 (W at_)) inp hlt.2 hik
      have hc80 := sJ_cnt (by omega) hm10 hc hc' hs0 hm hJ
      have hok := hJ.2.2.2.2.2.2.2.1 at_ hat
      have hpb : wd_cd (W at_) < 2 ^ 60 := wd_lt63 (wd_ok_le (by omega) hok) (by omega)
      refine aj_aload_n 0 141 (dx d_Model_same 83 rfl) rfl rfl rfl ?_
      refine aj_getfv (v := 98) 144 fl_Model_80 (dx d_Model_same 84 rfl) rfl hM1.1.1 (by first | exact mf_trail hM1.1 | (simp [aj_up_at]; exact mf_trail hM1.1) | exact mf_trail (by assumption)) ?_
      refine aj_iload_n 2 145 (dx d_Model_same 85 rfl) rfl rfl rfl ?_
      refine aj_lald 146 (dx d_Model_same 86 rfl) rfl (ms_trail hM1.1) rfl (by omega) (by omega) ?_
      rw [(hJ.1 at_ hat).2.1]
      refine aj_iconst 147 (dx d_Model_same 87 rfl) rfl ?_
      refine aj_lshl 148 (dx d_Model_same 88 rfl) rfl (lg_shl hpb) ?_
      refine aj_iload 5 150 (dx d_Model_same 89 rfl) rfl rfl ?_
      refine aj_i2l 151 (dx d_Model_same 90 rfl) rfl (by unfold aj_I; omega) ?_
      refine aj_lor 152 (dx d_Model_same 91 rfl) rfl (lg_or hpb (by omega)) ?_
      rw [show 4 * wd_cd (W at_) + inp = wd_cd (inp :: W at_) from rfl]
      refine aj_lstore 6 154 (dx d_Model_same 92 rfl) rfl rfl rfl ?_
      simp only [List.set]
      refine aj_aload_n 0 155 (dx d_Model_same 93 rfl) rfl rfl rfl ?_
      refine aj_getfv (v := 80) 158 fl_Model_13 (dx d_Model_same 94 rfl) rfl hM1.1.1 (by first | exact mf_output hM1.1 | (simp [aj_up_at]; exact mf_output hM1.1) | exact mf_output (by assumption)) ?_
      refine aj_iconst 159 (dx d_Model_same 95 rfl) rfl ?_
      refine aj_iload_n 3 160 (dx d_Model_same 96 rfl) rfl rfl rfl ?_
      refine aj_imul 161 (dx d_Model_same 97 rfl) rfl ?_
      refine aj_iload 5 163 (dx d_Model_same 98 rfl) rfl rfl ?_
      refine aj_iadd 164 (dx d_Model_same 99 rfl) rfl ?_
      refine aj_iald 165 (dx d_Model_same 100 rfl) rfl (ms_output hM1.1) rfl (by omega) (by omega) ?_
      rw [e2]
      refine aj_aload_n 0 166 (dx d_Model_same 101 rfl) rfl rfl rfl ?_
      refine aj_getfv (v := 89) 169 fl_Model_45 (dx d_Model_same 102 rfl) rfl hM1.1.1 (by first | exact mf_gives hM1.1 | (simp [aj_up_at]; exact mf_gives hM1.1) | exact mf_gives (by assumption)) ?_
      refine aj_iconst 170 (dx d_Model_same 103 rfl) rfl ?_
      refine aj_iload 4 172 (dx d_Model_same 104 rfl) rfl rfl ?_
      refine aj_imul 173 (dx d_Model_same 105 rfl) rfl ?_
      refine aj_iload 5 175 (dx d_Model_same 106 rfl) rfl rfl ?_
      refine aj_iadd 176 (dx d_Model_same 107 rfl) rfl ?_
      refine aj_iald 177 (dx d_Model_same 108 rfl) rfl (ms_gives hM1.1) rfl (by omega) (by omega) ?_
      rw [h89, f2]
      refine aj_icmp_eq 193 180 (dx d_Model_same 109 rfl) rfl rfl (by unfold aj_I; omega) (by unfold aj_I; omega) (fun h177 => ?_) (fun h177 => ?_)
      · have hnd : ¬ df nx ou s0 ix io 0 (inp :: W at_) := fun z => z (by omega)
        refine k_sm_tail hM hI hm hs0 hF hJ (sW_eq hS hnd) hat hik hl20 (fun g2 W2 cnt2 hF2 hJ2 hS2 hat2 hWe => ?_)
        rw [← hWe]
        exact ih _ (by omega) g2 W2 cnt2 (inp + 1) (by omega) rfl hF2 hJ2 hS2 hat2 (by rw [hWe]; exact hl20)
      · have hdf : df nx ou s0 ix io 0 (inp :: W at_) := fun z => h177 (by rw [z])
        have hok2 : wd_ok 4 (inp :: W at_) := wd_ok_le (by omega) (wd_ok_cons.mpr ⟨hik, hok⟩)
        rcases hS with ⟨w1, w2⟩ | ⟨w, w1, w2, w3⟩
        · refine aj_aload_n 0 181 (dx d_Model_same 110 rfl) rfl rfl rfl ?_
          refine aj_aload_n 0 182 (dx d_Model_same 111 rfl) rfl rfl rfl ?_
          refine aj_getfv (v := 1) 185 fl_Model_38 (dx d_Model_same 112 rfl) rfl hM1.1.1 w1 ?_
          refine aj_lload 6 187 (dx d_Model_same 113 rfl) rfl rfl ?_
          refine aj_callS2 190 cl_Model_214 (dx d_Model_same 114 rfl) rfl rfl rfl rfl rfl rfl (k_least_new (a := []) (b := inp :: W at_) (wd_ok_nil 4) hok2 (by simp) (by rw [List.length_cons]; omega) rfl ?_)
          change aj_wp _ _ _ _ _ _ _ _ _ _ _ _ _ _
          refine aj_putf 193 (pl_Model_38 _) (dx d_Model_same 115 rfl) rfl hM1.1.1 (aj_fitJ _) ?_
          refine k_sm_tail hM hI hm hs0 ⟨fun r a b c e => by rw [aj_up_ne _ _ _ a]; exact hF.1 r a b c e, fun j hj => by rw [aj_up_ni _ _ _ hj]; exact hF.2 j hj⟩ (sJ_mem hJ (aj_up_ne _ _ _ (by omega)) (aj_up_ne _ _ _ (by omega)) (aj_up_ne _ _ _ (by omega))) (Or.inr ⟨inp :: W at_, by rw [aj_up_self], bf_found hJ.2.2.2 (by omega) hat hik w2 hdf, by rw [List.length_cons]; omega⟩) hat hik hl20 (fun g2 W2 cnt2 hF2 hJ2 hS2 hat2 hWe => ?_)
          rw [← hWe]
          exact ih _ (by omega) g2 W2 cnt2 (inp + 1) (by omega) rfl hF2 hJ2 hS2 hat2 (by rw [hWe]; exact hl20)
        · have hne : w ≠ [] := by
            intro z
            subst z
            exact w2.2.1
          refine aj_aload_n 0 181 (dx d_Model_same 110 rfl) rfl rfl rfl ?_
          refine aj_aload_n 0 182 (dx d_Model_same 111 rfl) rfl rfl rfl ?_
          refine aj_getfv (v := (wd_cd w : Int)) 185 fl_Model_38 (dx d_Model_same 112 rfl) rfl hM1.1.1 w1 ?_
          refine aj_lload 6 187 (dx d_Model_same 113 rfl) rfl rfl ?_
          refine aj_callS2 190 cl_Model_214 (dx d_Model_same 114 rfl) rfl rfl rfl rfl rfl rfl (k_least_old (a := w) (b := inp :: W at_) (wd_ok_le (by omega) w2.1) hok2 (by omega) (by rw [List.length_cons]; omega) hne (w2.2.2 _ (wd_ok_cons.mpr ⟨hik, hok⟩) hdf) ?_)
          change aj_wp _ _ _ _ _ _ _ _ _ _ _ _ _ _
          refine aj_putf 193 (pl_Model_38 _) (dx d_Model_same 115 rfl) rfl hM1.1.1 (aj_fitJ _) ?_
          refine k_sm_tail hM hI hm hs0 ⟨fun r a b c e => by rw [aj_up_ne _ _ _ a]; exact hF.1 r a b c e, fun j hj => by rw [aj_up_ni _ _ _ hj]; exact hF.2 j hj⟩ (sJ_mem hJ (aj_up_ne _ _ _ (by omega)) (aj_up_ne _ _ _ (by omega)) (aj_up_ne _ _ _ (by omega))) (Or.inr ⟨w, by rw [aj_up_self], w2, w3⟩) hat hik hl20 (fun g2 W2 cnt2 hF2 hJ2 hS2 hat2 hWe => ?_)
          rw [← hWe]
          exact ih _ (by omega) g2 W2 cnt2 (inp + 1) (by omega) rfl hF2 hJ2 hS2 hat2 (by rw [hWe]; exact hl20)
set_option maxHeartbeats 4000000 in
theorem k_sm_out {al : Prop} {X : Option (Nat × (Int → Int))} {d : Nat} {sh : List aj_S} {g : aj_G} {Q : aj_R → List aj_S → aj_G → Prop} {k n : Nat} {nx ou : Nat → Nat → Nat} {m s0 : Nat} {ix io : Nat → Nat → Nat} (hM : mmm sh g k n nx ou) (hI : mim g k m ix io) (hm : 0 < m) (hs0 : s0 < n) (hk : ∀ (g1 : aj_G) (w : List Nat), sF g g1 → g1 78 16 = (wd_cd w : Nat) → w.length ≤ 17 → wd_ok k w → (wd_least k nx ou s0 ix io 0 w ∨ (wd_none k nx ou s0 ix io 0 ∧ w = [])) → Q (.inl (some (0, (w.length : Int)))) sh g1) : ∀ (y : Nat) (g1 : aj_G) (W : Nat → List Nat) (cnt at_ : Nat), 80 - at_ = y → sF g g1 → sJ g1 k s0 nx ix W cnt at_ 0 → sW g1 k s0 nx ou ix io W cnt at_ 0 → at_ ≤ cnt →
    aj_wp nE al al X m_Model_same (d + 2) 0 0 88 [some (1, 78), some (0, (cnt : Int)), some (0, (at_ : Int)), none, none, none, none, none, none] [] sh g1 Q := by
  have hk4 := hM.2.2.2.1
  have hn8 := hM.2.2.2.2.1
  have hm10 := hI.2.1
  have hc : ∀ s i, s < n → i < k → nx s i < n := fun s i h1 h2 => (hM.2.2.2.2.2 s i h1 h2).2.2.1
  have hc' : ∀ s i, s < m → i < k → ix s i < m := fun s i h1 h2 => (hI.2.2 s i h1 h2).2.2.1
  intro y
  induction y using Nat.strongRecOn with
  | ind y ih =>
    intro g1 W cnt at_ hyy hF hJ hS hat0
    have hc80 := sJ_cnt (by omega) hm10 hc hc' hs0 hm hJ
    have hM1 : mmm sh g1 k n nx ou := mmm_of hM (fun j hj => hF.2 j (by unfold mo_fin at hj; omega)) (hF.1 79 (by omega) (by omega) (by omega) (by omega)) (hF.1 80 (by omega) (by omega) (by omega) (by omega))
    have h88 : g1 88 = g 88 := hF.1 88 (by omega) (by omega) (by omega) (by omega)
    have h89 : g1 89 = g 89 := hF.1 89 (by omega) (by omega) (by omega) (by omega)
    refine aj_iload_n 2 89 (dx d_Model_same 53 rfl) rfl rfl rfl ?_
    refine aj_iload_n 1 90 (dx d_Model_same 54 rfl) rfl rfl rfl ?_
    refine aj_icmp_ge 271 93 (dx d_Model_same 55 rfl) rfl rfl (by unfold aj_I; omega) (by unfold aj_I; omega) (fun h90 => ?_) (fun h90 => ?_)
    · obtain ⟨w, w1, w2, w3⟩ := sm_end (by omega) (by omega) hm10 hc hc' hs0 hm hJ hS (Or.inl (by omega))
      have hwk : wd_ok k w := by
        rcases w3 with z | ⟨-, z⟩
        · exact z.1
        · rw [z]; exact wd_ok_nil k
      refine aj_aload_n 0 272 (dx d_Model_same 161 rfl) rfl rfl rfl ?_
      refine aj_getfv (v := (wd_cd w : Int)) 275 fl_Model_38 (dx d_Model_same 162 rfl) rfl hM1.1.1 w1 ?_
      refine aj_callS1 278 cl_Model_112 (dx d_Model_same 163 rfl) rfl rfl rfl rfl rfl rfl (k_Model_length (wd_ok_le (by omega) hwk) (by omega) ?_)
      change aj_wp _ _ _ _ _ _ _ _ _ _ _ _ _ _
      refine aj_iret (dx d_Model_same 164 rfl) rfl id ?_
      exact hk g1 w hF w1 w2 hwk w3
    · have hat : at_ < cnt := by omega
      have hok := hJ.2.2.2.2.2.2.2.1 at_ hat
      have hlt := sJ_lt hc hc' hs0 hm hJ hat
      obtain ⟨j1, j2, j3⟩ := hJ.1 at_ hat
      refine aj_aload_n 0 94 (dx d_Model_same 56 rfl) rfl rfl rfl ?_
      refine aj_getfv (v := 98) 97 fl_Model_80 (dx d_Model_same 57 rfl) rfl hM1.1.1 (by first | exact mf_trail hM1.1 | (simp [aj_up_at]; exact mf_trail hM1.1) | exact mf_trail (by assumption)) ?_
      refine aj_iload_n 2 98 (dx d_Model_same 58 rfl) rfl rfl rfl ?_
      refine aj_lald 99 (dx d_Model_same 59 rfl) rfl (ms_trail hM1.1) rfl (by omega) (by omega) ?_
      rw [j2]
      refine aj_callS1 102 cl_Model_112 (dx d_Model_same 60 rfl) rfl rfl rfl rfl rfl rfl (k_Model_length (wd_ok_le (by omega) hok) (by omega) ?_)
      change aj_wp _ _ _ _ _ _ _ _ _ _ _ _ _ _
      refine aj_bipush 104 (dx d_Model_same 61 rfl) rfl (by decide +kernel) ?_
      refine aj_icmp_ge 271 107 (dx d_Model_same 62 rfl) rfl rfl (by unfold aj_I; omega) (by unfold aj_I; omega) (fun h104 => ?_) (fun h104 => ?_)
      · obtain ⟨w, w1, w2, w3⟩ := sm_end (by omega) (by omega) hm10 hc hc' hs0 hm hJ hS (Or.inr ⟨hat, by omega⟩)
        have hwk : wd_ok k w := by
          rcases w3 with z | ⟨-, z⟩
          · exact z.1
          · rw [z]; exact wd_ok_nil k
        refine aj_aload_n 0 272 (dx d_Model_same 161 rfl) rfl rfl rfl ?_
        refine aj_getfv (v := (wd_cd w : Int)) 275 fl_Model_38 (dx d_Model_same 162 rfl) rfl hM1.1.1 w1 ?_
        refine aj_callS1 278 cl_Model_112 (dx d_Model_same 163 rfl) rfl rfl rfl rfl rfl rfl (k_Model_length (wd_ok_le (by omega) hwk) (by omega) ?_)
        change aj_wp _ _ _ _ _ _ _ _ _ _ _ _ _ _
        refine aj_iret (dx d_Model_same 164 rfl) rfl id ?_
        exact hk g1 w hF w1 w2 hwk w3
      · refine aj_aload_n 0 108 (dx d_Model_same 63 rfl) rfl rfl rfl ?_
        refine aj_getfv (v := 96) 111 fl_Model_73 (dx d_Model_same 64 rfl) rfl hM1.1.1 (by first | exact mf_seen hM1.1 | (simp [aj_up_at]; exact mf_seen hM1.1) | exact mf_seen (by assumption)) ?_
        refine aj_iload_n 2 112 (dx d_Model_same 65 rfl) rfl rfl rfl ?_
        refine aj_iald 113 (dx d_Model_same 66 rfl) rfl (ms_seen hM1.1) rfl (by omega) (by omega) ?_
        rw [j1]
        refine aj_bipush 115 (dx d_Model_same 67 rfl) rfl (by decide +kernel) ?_
        refine aj_idiv 116 (dx d_Model_same 68 rfl) rfl (by decide +kernel) (sm_div _ (by omega) _ (by omega)) ?_
        refine aj_istore_n 3 117 (dx d_Model_same 69 rfl) rfl rfl rfl ?_
        simp only [List.set]
        refine aj_aload_n 0 118 (dx d_Model_same 70 rfl) rfl rfl rfl ?_
        refine aj_getfv (v := 96) 121 fl_Model_73 (dx d_Model_same 71 rfl) rfl hM1.1.1 (by first | exact mf_seen hM1.1 | (simp [aj_up_at]; exact mf_seen hM1.1) | exact mf_seen (by assumption)) ?_
        refine aj_iload_n 2 122 (dx d_Model_same 72 rfl) rfl rfl rfl ?_
        refine aj_iald 123 (dx d_Model_same 73 rfl) rfl (ms_seen hM1.1) rfl (by omega) (by omega) ?_
        rw [j1]
        refine aj_bipush 125 (dx d_Model_same 74 rfl) rfl (by decide +kernel) ?_
        refine aj_irem 126 (dx d_Model_same 75 rfl) rfl (by decide +kernel) (sm_rem _ (by omega) _ (by omega)) ?_
        refine aj_istore 4 128 (dx d_Model_same 76 rfl) rfl rfl ?_
        simp only [List.set]
        refine aj_iconst 129 (dx d_Model_same 77 rfl) rfl ?_
        refine aj_istore 5 131 (dx d_Model_same 78 rfl) rfl rfl ?_
        simp only [List.set]
        refine k_sm_in hM hI hm hs0 (fun g2 W2 cnt2 hF2 hJ2 hS2 hat2 => ?_) _ g1 W cnt 0 (by omega) rfl hF hJ hS hat (by omega)
        have hc2 := sJ_cnt (by omega) hm10 hc hc' hs0 hm hJ2
        refine aj_iinc 2 268 (dx d_Model_same 159 rfl) rfl rfl rfl ?_
        simp only [List.set]
        refine aj_goto 88 (dx d_Model_same 160 rfl) rfl ?_
        rw [show ((at_ : Nat) : Int) + 1 = ((at_ + 1 : Nat) : Int) by omega]
        exact ih (80 - (at_ + 1)) (by omega) g2 W2 cnt2 (at_ + 1) rfl hF2 ⟨hJ2.1, hJ2.2.1, hJ2.2.2.1, bf_row hJ2.2.2.2 hat2⟩ (sW_row hS2) (by omega)
set_option maxHeartbeats 4000000 in
theorem k_sm_z {al : Prop} {X : Option (Nat × (Int → Int))} {d : Nat} {sh : List aj_S} {g : aj_G} {Q : aj_R → List aj_S → aj_G → Prop} {k n : Nat} {nx ou : Nat → Nat → Nat} {m s0 : Nat} {ix io : Nat → Nat → Nat} (hM : mmm sh g k n nx ou) (hI : mim g k m ix io) (hm : 0 < m) (hs0 : s0 < n) (hst : g 78 5 = (s0 : Nat)) (hk : ∀ (g1 : aj_G) (w : List Nat), sF g g1 → g1 78 16 = (wd_cd w : Nat) → w.length ≤ 17 → wd_ok k w → (wd_least k nx ou s0 ix io 0 w ∨ (wd_none k nx ou s0 ix io 0 ∧ w = [])) → Q (.inl (some (0, (w.length : Int)))) sh g1) : ∀ (y x : Nat) (g1 : aj_G), x ≤ 80 → 80 - x = y → sF g g1 → g1 78 16 = 1 → (∀ q : Nat, q < x → g1 97 (q : Nat) = 0) →
    aj_wp nE al al X m_Model_same (d + 2) 0 0 32 [some (1, 78), some (0, (x : Int)), none, none, none, none, none, none, none] [] sh g1 Q := by
  have hk4 := hM.2.2.2.1
  have hn8 := hM.2.2.2.2.1
  have hm10 := hI.2.1
  have hc : ∀ s i, s < n → i < k → nx s i < n := fun s i h1 h2 => (hM.2.2.2.2.2 s i h1 h2).2.2.1
  have hc' : ∀ s i, s < m → i < k → ix s i < m := fun s i h1 h2 => (hI.2.2 s i h1 h2).2.2.1
  intro y
  induction y using Nat.strongRecOn with
  | ind y ih =>
    intro x g1 hx hyy hF h16 hZ
    have hst1 : g1 78 5 = (s0 : Nat) := (hF.2 5 (by omega)).trans hst
    have hM1 : mmm sh g1 k n nx ou := mmm_of hM (fun j hj => hF.2 j (by unfold mo_fin at hj; omega)) (hF.1 79 (by omega) (by omega) (by omega) (by omega)) (hF.1 80 (by omega) (by omega) (by omega) (by omega))
    have h88 : g1 88 = g 88 := hF.1 88 (by omega) (by omega) (by omega) (by omega)
    have h89 : g1 89 = g 89 := hF.1 89 (by omega) (by omega) (by omega) (by omega)
    refine aj_iload_n 1 33 (dx d_Model_same 18 rfl) rfl rfl rfl ?_
    refine aj_bipush 35 (dx d_Model_same 19 rfl) rfl (by decide +kernel) ?_
    refine aj_icmp_ge 51 38 (dx d_Model_same 20 rfl) rfl rfl (by unfold aj_I; omega) (by unfold aj_I; omega) (fun h35 => ?_) (fun h35 => ?_)
    · refine aj_iconst 52 (dx d_Model_same 28 rfl) rfl ?_
      refine aj_istore_n 1 53 (dx d_Model_same 29 rfl) rfl rfl rfl ?_
      simp only [List.set]
      refine aj_aload_n 0 54 (dx d_Model_same 30 rfl) rfl rfl rfl ?_
      refine aj_getfv (v := 96) 57 fl_Model_73 (dx d_Model_same 31 rfl) rfl hM1.1.1 (by first | exact mf_seen hM1.1 | (simp [aj_up_at]; exact mf_seen hM1.1) | exact mf_seen (by assumption)) ?_
      refine aj_iconst 58 (dx d_Model_same 32 rfl) rfl ?_
      refine aj_bipush 60 (dx d_Model_same 33 rfl) rfl (by decide +kernel) ?_
      refine aj_aload_n 0 61 (dx d_Model_same 34 rfl) rfl rfl rfl ?_
      refine aj_getfv (v := (s0 : Int)) 64 fl_Model_109 (dx d_Model_same 35 rfl) rfl hM1.1.1 (by first | exact hst1 | (simp [aj_up_at]; exact hst1)) ?_
      refine aj_imul 65 (dx d_Model_same 36 rfl) rfl ?_
      refine aj_iast 66 (dx d_Model_same 37 rfl) rfl (ms_seen hM1.1) rfl (by omega) (by omega) ?_
      refine aj_aload_n 0 67 (dx d_Model_same 38 rfl) rfl rfl rfl ?_
      refine aj_getfv (v := 98) 70 fl_Model_80 (dx d_Model_same 39 rfl) rfl hM1.1.1 (by first | exact mf_trail hM1.1 | (simp [aj_up_at]; exact mf_trail hM1.1) | exact mf_trail (by assumption)) ?_
      refine aj_iconst 71 (dx d_Model_same 40 rfl) rfl ?_
      refine aj_lconst (x := 1) 72 (dx d_Model_same 41 rfl) rfl rfl ?_
      refine aj_last 73 (dx d_Model_same 42 rfl) rfl (ms_trail hM1.1) rfl (by omega) (by omega) ?_
      refine aj_aload_n 0 74 (dx d_Model_same 43 rfl) rfl rfl rfl ?_
      refine aj_getfv (v := 97) 77 fl_Model_76 (dx d_Model_same 44 rfl) rfl hM1.1.1 (by first | exact mf_came hM1.1 | (simp [aj_up_at]; exact mf_came hM1.1) | exact mf_came (by assumption)) ?_
      refine aj_bipush 79 (dx d_Model_same 45 rfl) rfl (by decide +kernel) ?_
      refine aj_aload_n 0 80 (dx d_Model_same 46 rfl) rfl rfl rfl ?_
      refine aj_getfv (v := (s0 : Int)) 83 fl_Model_109 (dx d_Model_same 47 rfl) rfl hM1.1.1 (by first | exact hst1 | (simp [aj_up_at]; exact hst1)) ?_
      refine aj_imul 84 (dx d_Model_same 48 rfl) rfl ?_
      refine aj_iconst 85 (dx d_Model_same 49 rfl) rfl ?_
      refine aj_zast 86 (dx d_Model_same 50 rfl) rfl (ms_came hM1.1) rfl (by omega) (by omega) (by omega) ?_
      refine aj_iconst 87 (dx d_Model_same 51 rfl) rfl ?_
      refine aj_istore_n 2 88 (dx d_Model_same 52 rfl) rfl rfl rfl ?_
      simp only [List.set]
      refine k_sm_out hM hI hm hs0 hk _ _ (fun _ => []) 1 0 rfl ⟨fun r a b c e => by rw [aj_up_ne _ _ _ c, aj_up_ne _ _ _ e, aj_up_ne _ _ _ b]; exact hF.1 r a b c e, fun j hj => by rw [aj_up_ne _ _ _ (by omega), aj_up_ne _ _ _ (by omega), aj_up_ne _ _ _ (by omega)]; exact hF.2 j hj⟩ ⟨fun p hp => ?_, fun x y hx hy => ?_, fun p q hp hq _ _ => by omega, bf_0 rfl⟩ (Or.inl ⟨by rw [aj_up_ne _ _ _ (by omega), aj_up_ne _ _ _ (by omega), aj_up_ne _ _ _ (by omega)]; exact h16, fun p i hp hd => by obtain ⟨-, z | ⟨-, z⟩⟩ := hd <;> omega⟩) (by omega)
      · rw [show p = 0 by omega]
        refine ⟨?_, ?_, Nat.zero_le _⟩
        · rw [aj_up_ne _ _ _ (by omega), aj_up_ne _ _ _ (by omega)]
          show aj_up g1 96 0 _ 96 0 = _
          rw [aj_up_self]
          show (10 : Int) * s0 = ((10 * s0 + 0 : Nat) : Int)
          omega
        · rw [aj_up_ne _ _ _ (by omega)]
          show aj_up _ 98 0 1 98 0 = 1
          rw [aj_up_self]
      · by_cases e : x = s0 ∧ y = 0
        · obtain ⟨rfl, rfl⟩ := e
          refine Or.inr ⟨?_, 0, by omega, rfl, rfl⟩
          rw [show ((10 * x + 0 : Nat) : Int) = 10 * (x : Int) by omega, aj_up_self]
        · refine Or.inl ⟨?_, fun p hp z => e ⟨z.1.symm, z.2.symm⟩⟩
          rw [aj_up_ni _ _ _ (by omega), aj_up_ne _ _ _ (by omega), aj_up_ne _ _ _ (by omega)]
          exact hZ (10 * x + y) (by omega)
    · refine aj_aload_n 0 39 (dx d_Model_same 21 rfl) rfl rfl rfl ?_
      refine aj_getfv (v := 97) 42 fl_Model_76 (dx d_Model_same 22 rfl) rfl hM1.1.1 (by first | exact mf_came hM1.1 | (simp [aj_up_at]; exact mf_came hM1.1) | exact mf_came (by assumption)) ?_
      refine aj_iload_n 1 43 (dx d_Model_same 23 rfl) rfl rfl rfl ?_
      refine aj_iconst 44 (dx d_Model_same 24 rfl) rfl ?_
      refine aj_zast 45 (dx d_Model_same 25 rfl) rfl (ms_came hM1.1) rfl (by omega) (by omega) (by omega) ?_
      refine aj_iinc 1 48 (dx d_Model_same 26 rfl) rfl rfl rfl ?_
      simp only [List.set]
      refine aj_goto 32 (dx d_Model_same 27 rfl) rfl ?_
      rw [show ((x : Nat) : Int) + 1 = ((x + 1 : Nat) : Int) by omega]
      exact ih _ (by omega) (x + 1) _ (by omega) rfl ⟨fun r a b c e => by rw [aj_up_ne _ _ _ c]; exact hF.1 r a b c e, fun j hj => by rw [aj_up_ne _ _ _ (by omega)]; exact hF.2 j hj⟩ (by rw [aj_up_ne _ _ _ (by omega)]; exact h16) (fun q hq => by
        by_cases e : q = x
        · subst e; rw [aj_up_self]
        · rw [aj_up_ni _ _ _ (by omega)]; exact hZ q (by omega))
set_option maxHeartbeats 4000000 in
theorem k_Model_same {al : Prop} {X : Option (Nat × (Int → Int))} {d : Nat} {sh : List aj_S} {g : aj_G} {Q : aj_R → List aj_S → aj_G → Prop} {k n : Nat} {nx ou : Nat → Nat → Nat} {m s0 : Nat} {ix io : Nat → Nat → Nat} (hM : mmm sh g k n nx ou) (hI : mim g k m ix io) (hm : 0 < m) (hs0 : s0 < n) (hst : g 78 5 = (s0 : Nat)) (hse : g 78 6 = 1) (hk : ∀ (g1 : aj_G) (w : List Nat), sF (aj_up g 78 0 0) g1 → g1 78 16 = (wd_cd w : Nat) → w.length ≤ 17 → wd_ok k w → (wd_least k nx ou s0 ix io 0 w ∨ (wd_none k nx ou s0 ix io 0 ∧ w = [])) → Q (.inl (some (0, (w.length : Int)))) sh g1) : aj_wp nE al al X m_Model_same (d + 2) 0 0 0 [some (1, 78), none, none, none, none, none, none, none, none] [] sh g Q := by
  refine aj_aload_n 0 1 (dx d_Model_same 0 rfl) rfl rfl rfl ?_
  refine aj_aload_n 0 2 (dx d_Model_same 1 rfl) rfl rfl rfl ?_
  refine aj_getfv (v := 1) 5 fl_Model_105 (dx d_Model_same 2 rfl) rfl hM.1.1 hse ?_
  refine aj_if_eq 12 8 (dx d_Model_same 3 rfl) rfl rfl (by unfold aj_I; omega) (fun h5 => ?_) (fun h5 => ?_)
  · exact absurd h5 (by decide)
  · refine aj_iconst 9 (dx d_Model_same 4 rfl) rfl ?_
    refine aj_goto 13 (dx d_Model_same 5 rfl) rfl ?_
    refine aj_putf 16 (pl_Model_92 _) (dx d_Model_same 7 rfl) rfl hM.1.1 (aj_fitI _) ?_
    refine aj_aload_n 0 17 (dx d_Model_same 8 rfl) rfl rfl rfl ?_
    refine aj_getf 20 fl_Model_92 (dx d_Model_same 9 rfl) rfl hM.1.1 ?_
    rw [show aj_up g 78 0 0 78 0 = 0 by rw [aj_up_self]]
    refine aj_if_le 25 23 (dx d_Model_same 10 rfl) rfl rfl (by unfold aj_I; omega) (fun h20 => ?_) (fun h20 => ?_)
    · refine aj_aload_n 0 26 (dx d_Model_same 13 rfl) rfl rfl rfl ?_
      refine aj_lconst (x := 1) 27 (dx d_Model_same 14 rfl) rfl rfl ?_
      refine aj_putf 30 (pl_Model_38 _) (dx d_Model_same 15 rfl) rfl hM.1.1 (aj_fitJ _) ?_
      refine aj_iconst 31 (dx d_Model_same 16 rfl) rfl ?_
      refine aj_istore_n 1 32 (dx d_Model_same 17 rfl) rfl rfl rfl ?_
      simp only [List.set]
      refine k_sm_z (g := aj_up g 78 0 0) (mmm_th 0 hM) ⟨by rw [aj_up_ni _ _ _ (by omega)]; exact hI.1, hI.2.1, fun x i hx hi => by rw [aj_up_ne _ _ _ (by omega), aj_up_ne _ _ _ (by omega)]; exact hI.2.2 x i hx hi⟩ hm hs0 (by rw [aj_up_ni _ _ _ (by omega)]; exact hst) hk _ 0 _ (by omega) rfl ⟨fun r a _ _ _ => by rw [aj_up_ne _ _ _ a], fun j hj => by rw [aj_up_ni _ _ _ hj]⟩ (by rw [aj_up_self]) (fun q hq => absurd hq (Nat.not_lt_zero _))
    · exact absurd h20 (by decide)
set_option maxHeartbeats 4000000 in
theorem k_Model_same1 {al : Prop} {X : Option (Nat × (Int → Int))} {d : Nat} {sh : List aj_S} {g : aj_G} {Q : aj_R → List aj_S → aj_G → Prop} (hm : mos sh g) (hse : g 78 6 = 0) (hk : Q (.inl (some (0, 0))) sh (aj_up g 78 0 1)) : aj_wp nE al al X m_Model_same d 0 0 0 [some (1, 78), none, none, none, none, none, none, none, none] [] sh g Q := by
  refine aj_aload_n 0 1 (dx d_Model_same 0 rfl) rfl rfl rfl ?_
  refine aj_aload_n 0 2 (dx d_Model_same 1 rfl) rfl rfl rfl ?_
  refine aj_getfv (v := 0) 5 fl_Model_105 (dx d_Model_same 2 rfl) rfl hm.1 hse ?_
  refine aj_if_eq 12 8 (dx d_Model_same 3 rfl) rfl rfl (by unfold aj_I; omega) (fun h5 => ?_) (fun h5 => ?_)
  · refine aj_iconst 13 (dx d_Model_same 6 rfl) rfl ?_
    refine aj_putf 16 (pl_Model_92 _) (dx d_Model_same 7 rfl) rfl hm.1 (aj_fitI _) ?_
    refine aj_aload_n 0 17 (dx d_Model_same 8 rfl) rfl rfl rfl ?_
    refine aj_getf 20 fl_Model_92 (dx d_Model_same 9 rfl) rfl hm.1 ?_
    rw [show aj_up g 78 0 1 78 0 = 1 by rw [aj_up_self]]
    refine aj_if_le 25 23 (dx d_Model_same 10 rfl) rfl rfl (by unfold aj_I; omega) (fun h20 => ?_) (fun h20 => ?_)
    · exact absurd h20 (by decide)
    · refine aj_iconst 24 (dx d_Model_same 11 rfl) rfl ?_
      refine aj_iret (dx d_Model_same 12 rfl) rfl id ?_
      exact hk
  · exact absurd rfl h5
