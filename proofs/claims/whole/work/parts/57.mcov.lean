/-! Model.covered -/
theorem mc_or {V : Nat → Prop} {e0 : Nat} (hn : ¬ V e0) : ∀ n, mo_c (fun e => V e ∨ e = e0) n = mo_c V n + (if e0 < n then 1 else 0)
  | 0 => rfl
  | n + 1 => by
    have ih := mc_or hn n
    by_cases c : V n
    · rw [mo_c_t (P := fun e => V e ∨ e = e0) (Or.inl c), mo_c_t c, ih]
      have : n ≠ e0 := fun z => hn (z ▸ c)
      by_cases c2 : e0 < n
      · rw [if_pos c2, if_pos (by omega)]
      · rw [if_neg c2, if_neg (by omega)]
    · by_cases c3 : n = e0
      · subst c3
        rw [mo_c_t (P := fun e => V e ∨ e = n) (Or.inr rfl), mo_c_f c, ih, if_neg (by omega), if_pos (by omega)]
      · rw [mo_c_f (P := fun e => V e ∨ e = e0) (fun z => z.elim c c3), mo_c_f c, ih]
        by_cases c2 : e0 < n
        · rw [if_pos c2, if_pos (by omega)]
        · rw [if_neg c2, if_neg (by omega)]
theorem mc_cg {V V' : Nat → Prop} {n : Nat} (h : ∀ e, e < n → (V e ↔ V' e)) : mo_c V n = mo_c V' n :=
  Nat.le_antisymm (mo_c_mono (fun s hs z => (h s hs).mp z)) (mo_c_mono (fun s hs z => (h s hs).mpr z))
theorem mc_0 (n : Nat) : mo_c (fun _ => False) n = 0 := by
  induction n with
  | zero => rfl
  | succ n ih => rw [mo_c_f (fun z => z), ih]
/-- the transitions that a word takes -/
def cvP (mnx : Nat → Nat → Nat) (u : List Nat) (e : Nat) : Prop := ∃ tt b v, u = tt ++ b :: v ∧ e = 3 * rn mnx 0 v + b
theorem cvP_nil (mnx : Nat → Nat → Nat) (e : Nat) : ¬ cvP mnx [] e := by
  rintro ⟨tt, b, v, h, -⟩
  cases tt <;> cases h
theorem cvP_cons (mnx : Nat → Nat → Nat) (b : Nat) (u : List Nat) (e : Nat) : cvP mnx (b :: u) e ↔ (cvP mnx u e ∨ e = 3 * rn mnx 0 u + b) := by
  constructor
  · rintro ⟨tt, b', v, h, h2⟩
    cases tt with
    | nil =>
      obtain ⟨rfl, rfl⟩ := List.cons.inj h
      exact Or.inr h2
    | cons x tt => exact Or.inl ⟨tt, b', v, (List.cons.inj h).2, h2⟩
  · rintro (⟨tt, b', v, h, h2⟩ | h)
    · exact ⟨b :: tt, b', v, by rw [h]; rfl, h2⟩
    · exact ⟨[], b, u, rfl, h⟩
def cvI (g1 : aj_G) (V : Nat → Prop) (n0 : Int) : Prop := (∀ e : Nat, e < 24 → (V e ∧ g1 99 e = 1) ∨ (¬ V e ∧ g1 99 e = 0)) ∧ n0 = mo_c V 24
theorem cvI_cg {g1 : aj_G} {V V' : Nat → Prop} {n0 : Int} (h : cvI g1 V n0) (e : ∀ x, V x ↔ V' x) : cvI g1 V' n0 := by
  have : V = V' := funext fun x => propext (e x)
  rw [← this]; exact h
theorem cvI_old {g1 : aj_G} {V : Nat → Prop} {n0 : Int} {e0 : Nat} (h : cvI g1 V n0) (he : e0 < 24) (hv : V e0) : cvI (aj_up g1 99 (e0 : Nat) 1) (fun e => V e ∨ e = e0) n0 := by
  refine ⟨fun e h24 => ?_, ?_⟩
  · by_cases c : e = e0
    · rw [c, aj_up_self]; exact Or.inl ⟨Or.inr rfl, rfl⟩
    · rw [aj_up_ni _ _ _ (by omega)]
      rcases h.1 e h24 with ⟨a, b⟩ | ⟨a, b⟩
      · exact Or.inl ⟨Or.inl a, b⟩
      · exact Or.inr ⟨fun z => z.elim a c, b⟩
  · rw [h.2]
    congr 1
    exact mc_cg (fun e _ => ⟨Or.inl, fun z => z.elim id (fun y => y ▸ hv)⟩)
theorem cvI_new {g1 : aj_G} {V : Nat → Prop} {n0 : Int} {e0 : Nat} (h : cvI g1 V n0) (he : e0 < 24) (hv : ¬ V e0) : cvI (aj_up g1 99 (e0 : Nat) 1) (fun e => V e ∨ e = e0) (n0 + 1) := by
  refine ⟨fun e h24 => ?_, ?_⟩
  · by_cases c : e = e0
    · rw [c, aj_up_self]; exact Or.inl ⟨Or.inr rfl, rfl⟩
    · rw [aj_up_ni _ _ _ (by omega)]
      rcases h.1 e h24 with ⟨a, b⟩ | ⟨a, b⟩
      · exact Or.inl ⟨Or.inl a, b⟩
      · exact Or.inr ⟨fun z => z.elim a c, b⟩
  · rw [h.2, mc_or hv, if_pos he]
    push_cast
    rfl
def cF (g g1 : aj_G) : Prop := ∀ r, r ≠ 95 → r ≠ 99 → g1 r = g r
set_option maxHeartbeats 8000000 in
theorem k_cv_i {al : Prop} {X : Option (Nat × (Int → Int))} {d : Nat} {sh : List aj_S} {g : aj_G} {Q : aj_R → List aj_S → aj_G → Prop} {k n s0 : Nat} {nx ou : Nat → Nat → Nat} {tw : Nat → Nat} {N : Nat} {q : nb_T} {sf : Nat → Nat} {mnx mou : Nat → Nat → Nat} (hS : mS sh g k n s0 nx ou tw N q sf mnx mou) (htw : tw_ok k n nx ou tw) (hcl : ∀ s i, s < n → i < k → nx s i < n) (hN : q.1 = N) (hsm : smm k n nx ou tw N q mnx mou) (hs0 : s0 < n) {u : List Nat} (hu : wd_ok k u) (hul : u.length ≤ 18) {V : Nat → Prop} {w : Nat}
    (hgo : ∀ (g1 : aj_G) (n0 : Int), cF g g1 → cvI g1 (fun e => V e ∨ cvP mnx u e) n0 → aj_wp nE al al X m_Model_covered d 0 0 152 [some (1, 78), some (0, n0), some (0, (w : Int)), none, none, none] [] sh g1 Q) :
    ∀ (m i : Nat) (g1 : aj_G) (n0 : Int), i ≤ u.length → u.length - i = m → cF g g1 → pth g1 u → cvI g1 (fun e => V e ∨ cvP mnx (u.drop (u.length - i)) e) n0 →
    aj_wp nE al al X m_Model_covered d 0 0 65 [some (1, 78), some (0, n0), some (0, (w : Int)), some (0, (u.length : Int)), some (0, (rn mnx 0 (u.drop (u.length - i)) : Int)), some (0, (i : Int))] [] sh g1 Q := by
  have hk4 := hS.1.2.2.2.1
  have hn8 := hS.1.2.2.2.2.1
  have hN8 := nb_le hS.2.2.1.2.1
  intro m
  induction m using Nat.strongRecOn with
  | ind m ih =>
    intro i g1 n0 hi hmm hF hp hC
    have hS1 : mS sh g1 k n s0 nx ou tw N q sf mnx mou := mS_of hS (fun r a b => hF r (by omega) (by omega)) (fun j _ => by rw [hF 78 (by omega) (by omega)])
    refine aj_iload 5 67 (dx d_Model_covered 38 rfl) rfl rfl ?_
    refine aj_iload_n 3 68 (dx d_Model_covered 39 rfl) rfl rfl rfl ?_
    refine aj_icmp_ge 152 71 (dx d_Model_covered 40 rfl) rfl rfl (by unfold aj_I; omega) (by unfold aj_I; omega) (fun h68 => ?_) (fun h68 => ?_)
    · refine aj_forget 3 ?_
      refine aj_forget 4 ?_
      refine aj_forget 5 ?_
      simp only [List.set]
      refine hgo g1 n0 hF (cvI_cg hC (fun e => ?_))
      rw [show u.length - i = 0 by omega]
      exact Iff.rfl
    · have hlj : u[u.length - 1 - i]'(by omega) < k := hu _ (List.getElem_mem _)
      have hpj := hp i (by omega)
      have hst := (mo_st hS htw hcl hN hsm hs0 (u := u.drop (u.length - i)) (fun a ha => hu a (List.mem_of_mem_drop ha))).1
      have hds := drop_s (u := u) (i := i) (by omega)
      obtain ⟨st, hste⟩ : ∃ st, st = rn mnx 0 (u.drop (u.length - i)) := ⟨_, rfl⟩
      rw [← hste] at hst ⊢
      obtain ⟨s1, s2, s3, s4⟩ := hS1.2.2.1.2.2.2.1 st (by omega)
      obtain ⟨e1, e2, e3, e4⟩ := hS1.1.2.2.2.2.2 (sf st) _ s2 hlj
      obtain ⟨m1, m2, m3⟩ := hsm st _ hst hlj
      have hmo : g1 82 ((nx (sf st) u[u.length - 1 - i] : Nat) : Int) = (mnx st u[u.length - 1 - i] : Nat) := (hS1.2.2.1.2.2.2.2 _ e3).1 _ (by omega) (by rw [m2]; exact nbm_tw htw hcl hS1.2.2.1 (by omega) hlj)
      have he24 : 3 * st + u[u.length - 1 - i] < 24 := by omega
      have hgo1 := hC.1 (3 * st + u[u.length - 1 - i]) he24
      rw [show ((3 * st + u[u.length - 1 - i] : Nat) : Int) = 3 * (st : Int) + (u[u.length - 1 - i] : Int) by omega] at hgo1
      refine aj_iload_n 1 72 (dx d_Model_covered 41 rfl) rfl rfl rfl ?_
      refine aj_aload_n 0 73 (dx d_Model_covered 42 rfl) rfl rfl rfl ?_
      refine aj_getfv (v := 99) 76 fl_Model_83 (dx d_Model_covered 43 rfl) rfl hS1.1.1.1 (by first | exact mf_gone hS1.1.1 | (simp [aj_up_at]; exact mf_gone hS1.1.1) | exact mf_gone (by assumption)) ?_
      refine aj_iconst 77 (dx d_Model_covered 44 rfl) rfl ?_
      refine aj_iload 4 79 (dx d_Model_covered 45 rfl) rfl rfl ?_
      refine aj_imul 80 (dx d_Model_covered 46 rfl) rfl ?_
      refine aj_aload_n 0 81 (dx d_Model_covered 47 rfl) rfl rfl rfl ?_
      refine aj_getfv (v := 95) 84 fl_Model_70 (dx d_Model_covered 48 rfl) rfl hS1.1.1.1 (by first | exact mf_path hS1.1.1 | (simp [aj_up_at]; exact mf_path hS1.1.1) | exact mf_path (by assumption)) ?_
      refine aj_iload 5 86 (dx d_Model_covered 49 rfl) rfl rfl ?_
      refine aj_iald 87 (dx d_Model_covered 50 rfl) rfl (ms_path hS1.1.1) rfl (by omega) (by omega) ?_
      rw [hpj]
      refine aj_iadd 88 (dx d_Model_covered 51 rfl) rfl ?_
      refine aj_zald 89 (dx d_Model_covered 52 rfl) rfl (ms_gone hS1.1.1) rfl (by omega) (by omega) ?_
      refine aj_if_eq 96 92 (dx d_Model_covered 53 rfl) rfl rfl (by rcases hgo1 with ⟨-, z⟩ | ⟨-, z⟩ <;> rw [z] <;> unfold aj_I <;> omega) (fun h89 => ?_) (fun h89 => ?_)
      · refine aj_iconst 97 (dx d_Model_covered 56 rfl) rfl ?_
        have hnv : ¬ (V (3 * st + u[u.length - 1 - i]) ∨ cvP mnx (u.drop (u.length - i)) (3 * st + u[u.length - 1 - i])) := by
          rcases hgo1 with ⟨-, z⟩ | ⟨z, -⟩
          · omega
          · exact z
        refine aj_iadd 98 (dx d_Model_covered 57 rfl) rfl ?_
        refine aj_istore_n 1 99 (dx d_Model_covered 58 rfl) rfl rfl rfl ?_
        simp only [List.set]
        refine aj_aload_n 0 100 (dx d_Model_covered 59 rfl) rfl rfl rfl ?_
        refine aj_getfv (v := 99) 103 fl_Model_83 (dx d_Model_covered 60 rfl) rfl hS1.1.1.1 (by first | exact mf_gone hS1.1.1 | (simp [aj_up_at]; exact mf_gone hS1.1.1) | exact mf_gone (by assumption)) ?_
        refine aj_iconst 104 (dx d_Model_covered 61 rfl) rfl ?_
        refine aj_iload 4 106 (dx d_Model_covered 62 rfl) rfl rfl ?_
        refine aj_imul 107 (dx d_Model_covered 63 rfl) rfl ?_
        refine aj_aload_n 0 108 (dx d_Model_covered 64 rfl) rfl rfl rfl ?_
        refine aj_getfv (v := 95) 111 fl_Model_70 (dx d_Model_covered 65 rfl) rfl hS1.1.1.1 (by first | exact mf_path hS1.1.1 | (simp [aj_up_at]; exact mf_path hS1.1.1) | exact mf_path (by assumption)) ?_
        refine aj_iload 5 113 (dx d_Model_covered 66 rfl) rfl rfl ?_
        refine aj_iald 114 (dx d_Model_covered 67 rfl) rfl (ms_path hS1.1.1) rfl (by omega) (by omega) ?_
        rw [hpj]
        refine aj_iadd 115 (dx d_Model_covered 68 rfl) rfl ?_
        refine aj_iconst 116 (dx d_Model_covered 69 rfl) rfl ?_
        refine aj_zast 117 (dx d_Model_covered 70 rfl) rfl (ms_gone hS1.1.1) rfl (by omega) (by omega) (by omega) ?_
        refine aj_aload_n 0 118 (dx d_Model_covered 71 rfl) rfl rfl rfl ?_
        refine aj_getfv (v := 82) 121 fl_Model_19 (dx d_Model_covered 72 rfl) rfl hS1.1.1.1 (by first | exact mf_minimalOf hS1.1.1 | (simp [aj_up_at]; exact mf_minimalOf hS1.1.1) | exact mf_minimalOf (by assumption)) ?_
        refine aj_aload_n 0 122 (dx d_Model_covered 73 rfl) rfl rfl rfl ?_
        refine aj_getfv (v := 79) 125 fl_Model_7 (dx d_Model_covered 74 rfl) rfl hS1.1.1.1 (by first | exact mf_next hS1.1.1 | (simp [aj_up_at]; exact mf_next hS1.1.1) | exact mf_next (by assumption)) ?_
        refine aj_iconst 126 (dx d_Model_covered 75 rfl) rfl ?_
        refine aj_aload_n 0 127 (dx d_Model_covered 76 rfl) rfl rfl rfl ?_
        refine aj_getfv (v := 83) 130 fl_Model_22 (dx d_Model_covered 77 rfl) rfl hS1.1.1.1 (by first | exact mf_stateOf hS1.1.1 | (simp [aj_up_at]; exact mf_stateOf hS1.1.1) | exact mf_stateOf (by assumption)) ?_
        refine aj_iload 4 132 (dx d_Model_covered 78 rfl) rfl rfl ?_
        refine aj_iald 133 (dx d_Model_covered 79 rfl) rfl (ms_stateOf hS1.1.1) rfl (by omega) (by omega) ?_
        rw [show aj_up g1 99 (3 * (st : Int) + (u[u.length - 1 - i] : Int)) 1 83 (st : Int) = (sf st : Nat) by rw [aj_up_ne _ _ _ (by omega)]; exact s1]
        refine aj_imul 134 (dx d_Model_covered 80 rfl) rfl ?_
        refine aj_aload_n 0 135 (dx d_Model_covered 81 rfl) rfl rfl rfl ?_
        refine aj_getfv (v := 95) 138 fl_Model_70 (dx d_Model_covered 82 rfl) rfl hS1.1.1.1 (by first | exact mf_path hS1.1.1 | (simp [aj_up_at]; exact mf_path hS1.1.1) | exact mf_path (by assumption)) ?_
        refine aj_iload 5 140 (dx d_Model_covered 83 rfl) rfl rfl ?_
        refine aj_iald 141 (dx d_Model_covered 84 rfl) rfl (ms_path hS1.1.1) rfl (by omega) (by omega) ?_
        rw [show aj_up g1 99 (3 * (st : Int) + (u[u.length - 1 - i] : Int)) 1 95 (i : Int) = (u[u.length - 1 - i] : Nat) by rw [aj_up_ne _ _ _ (by omega)]; exact hpj]
        refine aj_iadd 142 (dx d_Model_covered 85 rfl) rfl ?_
        refine aj_iald 143 (dx d_Model_covered 86 rfl) rfl (ms_next hS1.1.1) rfl (by omega) (by omega) ?_
        rw [show aj_up g1 99 (3 * (st : Int) + (u[u.length - 1 - i] : Int)) 1 79 (3 * (sf st : Int) + (u[u.length - 1 - i] : Int)) = (nx (sf st) u[u.length - 1 - i] : Nat) by rw [aj_up_ne _ _ _ (by omega)]; exact e1]
        refine aj_iald 144 (dx d_Model_covered 87 rfl) rfl (ms_minimalOf hS1.1.1) rfl (by omega) (by omega) ?_
        rw [show aj_up g1 99 (3 * (st : Int) + (u[u.length - 1 - i] : Int)) 1 82 ((nx (sf st) u[u.length - 1 - i] : Nat) : Int) = (mnx st u[u.length - 1 - i] : Nat) by rw [aj_up_ne _ _ _ (by omega)]; exact hmo]
        refine aj_istore 4 146 (dx d_Model_covered 88 rfl) rfl rfl ?_
        simp only [List.set]
        refine aj_iinc 5 149 (dx d_Model_covered 89 rfl) rfl rfl rfl ?_
        simp only [List.set]
        refine aj_goto 65 (dx d_Model_covered 90 rfl) rfl ?_
        have hih := ih _ (by omega) (i + 1) (aj_up g1 99 (3 * (st : Int) + (u[u.length - 1 - i] : Int)) 1) (n0 + 1) (by omega) rfl (fun r a b => by rw [aj_up_ne _ _ _ b]; exact hF r a b) (fun j hj => by rw [aj_up_ne _ _ _ (by omega)]; exact hp j hj) (by
          have := cvI_new hC he24 hnv
          rw [show ((3 * st + u[u.length - 1 - i] : Nat) : Int) = 3 * (st : Int) + (u[u.length - 1 - i] : Int) by omega] at this
          refine cvI_cg this (fun e => ?_)
          rw [show u.length - (i + 1) = u.length - 1 - i by omega, hds, cvP_cons, ← hste]
          exact or_assoc)
        rw [show u.length - (i + 1) = u.length - 1 - i by omega, hds] at hih
        rw [show rn mnx 0 (u[u.length - 1 - i] :: u.drop (u.length - i)) = mnx st u[u.length - 1 - i] by rw [hste]; rfl] at hih
        rw [show ((i : Nat) : Int) + 1 = ((i + 1 : Nat) : Int) by omega]
        exact hih
      · refine aj_iconst 93 (dx d_Model_covered 54 rfl) rfl ?_
        refine aj_goto 97 (dx d_Model_covered 55 rfl) rfl ?_
        have hv : V (3 * st + u[u.length - 1 - i]) ∨ cvP mnx (u.drop (u.length - i)) (3 * st + u[u.length - 1 - i]) := by
          rcases hgo1 with ⟨z, -⟩ | ⟨-, z⟩
          · exact z
          · exact absurd z h89
        refine aj_iadd 98 (dx d_Model_covered 57 rfl) rfl ?_
        rw [Int.add_zero]
        refine aj_istore_n 1 99 (dx d_Model_covered 58 rfl) rfl rfl rfl ?_
        simp only [List.set]
        refine aj_aload_n 0 100 (dx d_Model_covered 59 rfl) rfl rfl rfl ?_
        refine aj_getfv (v := 99) 103 fl_Model_83 (dx d_Model_covered 60 rfl) rfl hS1.1.1.1 (by first | exact mf_gone hS1.1.1 | (simp [aj_up_at]; exact mf_gone hS1.1.1) | exact mf_gone (by assumption)) ?_
        refine aj_iconst 104 (dx d_Model_covered 61 rfl) rfl ?_
        refine aj_iload 4 106 (dx d_Model_covered 62 rfl) rfl rfl ?_
        refine aj_imul 107 (dx d_Model_covered 63 rfl) rfl ?_
        refine aj_aload_n 0 108 (dx d_Model_covered 64 rfl) rfl rfl rfl ?_
        refine aj_getfv (v := 95) 111 fl_Model_70 (dx d_Model_covered 65 rfl) rfl hS1.1.1.1 (by first | exact mf_path hS1.1.1 | (simp [aj_up_at]; exact mf_path hS1.1.1) | exact mf_path (by assumption)) ?_
        refine aj_iload 5 113 (dx d_Model_covered 66 rfl) rfl rfl ?_
        refine aj_iald 114 (dx d_Model_covered 67 rfl) rfl (ms_path hS1.1.1) rfl (by omega) (by omega) ?_
        rw [hpj]
        refine aj_iadd 115 (dx d_Model_covered 68 rfl) rfl ?_
        refine aj_iconst 116 (dx d_Model_covered 69 rfl) rfl ?_
        refine aj_zast 117 (dx d_Model_covered 70 rfl) rfl (ms_gone hS1.1.1) rfl (by omega) (by omega) (by omega) ?_
        refine aj_aload_n 0 118 (dx d_Model_covered 71 rfl) rfl rfl rfl ?_
        refine aj_getfv (v := 82) 121 fl_Model_19 (dx d_Model_covered 72 rfl) rfl hS1.1.1.1 (by first | exact mf_minimalOf hS1.1.1 | (simp [aj_up_at]; exact mf_minimalOf hS1.1.1) | exact mf_minimalOf (by assumption)) ?_
        refine aj_aload_n 0 122 (dx d_Model_covered 73 rfl) rfl rfl rfl ?_
        refine aj_getfv (v := 79) 125 fl_Model_7 (dx d_Model_covered 74 rfl) rfl hS1.1.1.1 (by first | exact mf_next hS1.1.1 | (simp [aj_up_at]; exact mf_next hS1.1.1) | exact mf_next (by assumption)) ?_
        refine aj_iconst 126 (dx d_Model_covered 75 rfl) rfl ?_
        refine aj_aload_n 0 127 (dx d_Model_covered 76 rfl) rfl rfl rfl ?_
        refine aj_getfv (v := 83) 130 fl_Model_22 (dx d_Model_covered 77 rfl) rfl hS1.1.1.1 (by first | exact mf_stateOf hS1.1.1 | (simp [aj_up_at]; exact mf_stateOf hS1.1.1) | exact mf_stateOf (by assumption)) ?_
        refine aj_iload 4 132 (dx d_Model_covered 78 rfl) rfl rfl ?_
        refine aj_iald 133 (dx d_Model_covered 79 rfl) rfl (ms_stateOf hS1.1.1) rfl (by omega) (by omega) ?_
        rw [show aj_up g1 99 (3 * (st : Int) + (u[u.length - 1 - i] : Int)) 1 83 (st : Int) = (sf st : Nat) by rw [aj_up_ne _ _ _ (by omega)]; exact s1]
        refine aj_imul 134 (dx d_Model_covered 80 rfl) rfl ?_
        refine aj_aload_n 0 135 (dx d_Model_covered 81 rfl) rfl rfl rfl ?_
        refine aj_getfv (v := 95) 138 fl_Model_70 (dx d_Model_covered 82 rfl) rfl hS1.1.1.1 (by first | exact mf_path hS1.1.1 | (simp [aj_up_at]; exact mf_path hS1.1.1) | exact mf_path (by assumption)) ?_
        refine aj_iload 5 140 (dx d_Model_covered 83 rfl) rfl rfl ?_
        refine aj_iald 141 (dx d_Model_covered 84 rfl) rfl (ms_path hS1.1.1) rfl (by omega) (by omega) ?_
        rw [show aj_up g1 99 (3 * (st : Int) + (u[u.length - 1 - i] : Int)) 1 95 (i : Int) = (u[u.length - 1 - i] : Nat) by rw [aj_up_ne _ _ _ (by omega)]; exact hpj]
        refine aj_iadd 142 (dx d_Model_covered 85 rfl) rfl ?_
        refine aj_iald 143 (dx d_Model_covered 86 rfl) rfl (ms_next hS1.1.1) rfl (by omega) (by omega) ?_
        rw [show aj_up g1 99 (3 * (st : Int) + (u[u.length - 1 - i] : Int)) 1 79 (3 * (sf st : Int) + (u[u.length - 1 - i] : Int)) = (nx (sf st) u[u.length - 1 - i] : Nat) by rw [aj_up_ne _ _ _ (by omega)]; exact e1]
        refine aj_iald 144 (dx d_Model_covered 87 rfl) rfl (ms_minimalOf hS1.1.1) rfl (by omega) (by omega) ?_
        rw [show aj_up g1 99 (3 * (st : Int) + (u[u.length - 1 - i] : Int)) 1 82 ((nx (sf st) u[u.length - 1 - i] : Nat) : Int) = (mnx st u[u.length - 1 - i] : Nat) by rw [aj_up_ne _ _ _ (by omega)]; exact hmo]
        refine aj_istore 4 146 (dx d_Model_covered 88 rfl) rfl rfl ?_
        simp only [List.set]
        refine aj_iinc 5 149 (dx d_Model_covered 89 rfl) rfl rfl rfl ?_
        simp only [List.set]
        refine aj_goto 65 (dx d_Model_covered 90 rfl) rfl ?_
        have hih := ih _ (by omega) (i + 1) (aj_up g1 99 (3 * (st : Int) + (u[u.length - 1 - i] : Int)) 1) n0 (by omega) rfl (fun r a b => by rw [aj_up_ne _ _ _ b]; exact hF r a b) (fun j hj => by rw [aj_up_ne _ _ _ (by omega)]; exact hp j hj) (by
          have := cvI_old hC he24 hv
          rw [show ((3 * st + u[u.length - 1 - i] : Nat) : Int) = 3 * (st : Int) + (u[u.length - 1 - i] : Int) by omega] at this
          refine cvI_cg this (fun e => ?_)
          rw [show u.length - (i + 1) = u.length - 1 - i by omega, hds, cvP_cons, ← hste]
          exact or_assoc)
        rw [show u.length - (i + 1) = u.length - 1 - i by omega, hds] at hih
        rw [show rn mnx 0 (u[u.length - 1 - i] :: u.drop (u.length - i)) = mnx st u[u.length - 1 - i] by rw [hste]; rfl] at hih
        rw [show ((i : Nat) : Int) + 1 = ((i + 1 : Nat) : Int) by omega]
        exact hih
set_option maxHeartbeats 8000000 in
theorem k_cv_w {al : Prop} {X : Option (Nat × (Int → Int))} {d : Nat} {sh : List aj_S} {g : aj_G} {Q : aj_R → List aj_S → aj_G → Prop} {k n s0 : Nat} {nx ou : Nat → Nat → Nat} {tw : Nat → Nat} {N : Nat} {q : nb_T} {sf : Nat → Nat} {mnx mou : Nat → Nat → Nat} (hS : mS sh g k n s0 nx ou tw N q sf mnx mou) (htw : tw_ok k n nx ou tw) (hcl : ∀ s i, s < n → i < k → nx s i < n) (hN : q.1 = N) (hsm : smm k n nx ou tw N q mnx mou) (hs0 : s0 < n) (h5 : g 78 5 = (s0 : Nat)) {c : Nat} {W : Nat → List Nat} {T : List (List Nat)} (hT : mT g k c W T) (hk : ∀ (g1 : aj_G) (n0 : Int), cF g g1 → n0 = mo_c (fun e => ∃ (t : Nat) (h : t < T.length), cvP mnx T[t] e) 24 → Q (.inl (some (0, n0))) sh g1) :
    ∀ (m w : Nat) (g1 : aj_G) (n0 : Int), w ≤ T.length → T.length - w = m → cF g g1 → cvI g1 (fun e => ∃ (t : Nat) (h : t < T.length), t < w ∧ cvP mnx T[t] e) n0 →
    aj_wp nE al al X m_Model_covered (d + 1) 0 0 30 [some (1, 78), some (0, n0), some (0, (w : Int)), none, none, none] [] sh g1 Q := by
  have hn8 := hS.1.2.2.2.2.1
  have ht8 := mT_cnt hT
  have hz0 := (mo_st hS htw hcl hN hsm hs0 (wd_ok_nil k)).2.2
  intro m
  induction m using Nat.strongRecOn with
  | ind m ih =>
    intro w g1 n0 hw hmm hF hC
    have hS1 : mS sh g1 k n s0 nx ou tw N q sf mnx mou := mS_of hS (fun r a b => hF r (by omega) (by omega)) (fun j _ => by rw [hF 78 (by omega) (by omega)])
    have hT1 : mT g1 k c W T := mT_of hT (by rw [hF 78 (by omega) (by omega)]) (by rw [hF 78 (by omega) (by omega)]) (by rw [hF 78 (by omega) (by omega)]) (hF 92 (by omega) (by omega)) (hF 93 (by omega) (by omega)) (hF 94 (by omega) (by omega))
    have h51 : g1 78 5 = (s0 : Nat) := by rw [hF 78 (by omega) (by omega)]; exact h5
    refine aj_aload_n 0 31 (dx d_Model_covered 19 rfl) rfl rfl rfl ?_
    refine aj_getfv (v := 1) 34 fl_Model_189 (dx d_Model_covered 20 rfl) rfl hS1.1.1.1 hT1.1 ?_
    refine aj_if_eq 158 37 (dx d_Model_covered 21 rfl) rfl rfl (by unfold aj_I; omega) (fun h34 => ?_) (fun h34 => ?_)
    · exact absurd h34 (by decide)
    · refine aj_iload_n 2 38 (dx d_Model_covered 22 rfl) rfl rfl rfl ?_
      refine aj_aload_n 0 39 (dx d_Model_covered 23 rfl) rfl rfl rfl ?_
      refine aj_getfv (v := (T.length : Int)) 42 fl_Model_192 (dx d_Model_covered 24 rfl) rfl hS1.1.1.1 hT1.2.2.1 ?_
      refine aj_icmp_ge 158 45 (dx d_Model_covered 25 rfl) rfl rfl (by unfold aj_I; omega) (by unfold aj_I; omega) (fun h42 => ?_) (fun h42 => ?_)
      · refine aj_iload_n 1 159 (dx d_Model_covered 93 rfl) rfl rfl rfl ?_
        refine aj_iret (dx d_Model_covered 94 rfl) rfl id ?_
        refine hk g1 n0 hF ?_
        have := hC.2
        rw [this]
        congr 1
        exact mc_cg (fun e _ => ⟨fun ⟨t, h, _, z⟩ => ⟨t, h, z⟩, fun ⟨t, h, z⟩ => ⟨t, h, by omega, z⟩⟩)
      · have hwT : w < T.length := by omega
        obtain ⟨hok, h18⟩ := mT_w hT hwT
        refine aj_aload_n 0 46 (dx d_Model_covered 26 rfl) rfl rfl rfl ?_
        refine aj_iload_n 2 47 (dx d_Model_covered 27 rfl) rfl rfl rfl ?_
        refine aj_callV1 50 cl_Model_201 (dx d_Model_covered 28 rfl) rfl rfl rfl rfl rfl rfl hS1.1.1.1 (k_Model_unfold hS1.1.1 hT1 hwT (fun g2 hF2 hp2 => ?_))
        · have hF3 : cF g g2 := fun r a b => (hF2 r a).trans (hF r a b)
          have hm2 := (un_M hS1.1 hF2).1
          change aj_wp _ _ _ _ _ _ _ _ _ _ _ _ _ _
          refine aj_istore_n 3 51 (dx d_Model_covered 29 rfl) rfl rfl rfl ?_
          simp only [List.set]
          refine aj_aload_n 0 52 (dx d_Model_covered 30 rfl) rfl rfl rfl ?_
          refine aj_getfv (v := 82) 55 fl_Model_19 (dx d_Model_covered 31 rfl) rfl hS1.1.1.1 (by first | exact mf_minimalOf hm2 | (simp [aj_up_at]; exact mf_minimalOf hm2) | exact mf_minimalOf (by assumption)) ?_
          refine aj_aload_n 0 56 (dx d_Model_covered 32 rfl) rfl rfl rfl ?_
          refine aj_getfv (v := (s0 : Int)) 59 fl_Model_109 (dx d_Model_covered 33 rfl) rfl hS1.1.1.1 (by rw [hF2 78 (by omega)]; exact h51) ?_
          refine aj_iald 60 (dx d_Model_covered 34 rfl) rfl (ms_minimalOf hS1.1.1) rfl (by omega) (by omega) ?_
          rw [show g2 82 (s0 : Nat) = 0 by rw [hF2 82 (by omega), hF 82 (by omega) (by omega)]; exact hz0]
          refine aj_istore 4 62 (dx d_Model_covered 35 rfl) rfl rfl ?_
          simp only [List.set]
          refine aj_iconst 63 (dx d_Model_covered 36 rfl) rfl ?_
          refine aj_istore 5 65 (dx d_Model_covered 37 rfl) rfl rfl ?_
          simp only [List.set]
          have hC2 : cvI g2 (fun e => (∃ (t : Nat) (h : t < T.length), t < w ∧ cvP mnx T[t] e) ∨ cvP mnx (T[w].drop (T[w].length - 0)) e) n0 := by
            refine cvI_cg (show cvI g2 _ n0 from ⟨fun e he => by rw [hF2 99 (by omega)]; exact hC.1 e he, hC.2⟩) (fun e => ⟨Or.inl, fun z => z.elim id (fun y => ?_)⟩)
            rw [Nat.sub_zero, List.drop_length] at y
            exact absurd y (cvP_nil mnx e)
          have hgoo := k_cv_i (X := X) (d := d + 1) (al := al) (w := w) (g := g) hS htw hcl hN hsm hs0 hok h18 (V := fun e => ∃ (t : Nat) (h : t < T.length), t < w ∧ cvP mnx T[t] e) (Q := Q) (fun g3 n1 hF4 hC3 => ?_) _ 0 g2 n0 (by omega) rfl hF3 hp2 hC2
          · rw [Nat.sub_zero, List.drop_length] at hgoo
            exact hgoo
          · refine aj_iinc 2 155 (dx d_Model_covered 91 rfl) rfl rfl rfl ?_
            simp only [List.set]
            refine aj_goto 30 (dx d_Model_covered 92 rfl) rfl ?_
            rw [show ((w : Nat) : Int) + 1 = ((w + 1 : Nat) : Int) by omega]
            refine ih _ (by omega) (w + 1) g3 n1 (by omega) rfl hF4 (cvI_cg hC3 (fun e => ⟨?_, ?_⟩))
            · rintro (⟨t, h, h1, z⟩ | z)
              · exact ⟨t, h, by omega, z⟩
              · exact ⟨w, hwT, by omega, z⟩
            · rintro ⟨t, h, h1, z⟩
              rcases Nat.lt_or_ge t w with y | y
              · exact Or.inl ⟨t, h, y, z⟩
              · have e0 : t = w := by omega
                subst e0
                exact Or.inr z
set_option maxHeartbeats 4000000 in
theorem k_cv_z {al : Prop} {X : Option (Nat × (Int → Int))} {d : Nat} {sh : List aj_S} {g : aj_G} {Q : aj_R → List aj_S → aj_G → Prop} (hm : mos sh g) (hgo : ∀ g1 : aj_G, (∀ r, r ≠ 99 → g1 r = g r) → (∀ e : Nat, e < 24 → g1 99 e = 0) → aj_wp nE al al X m_Model_covered d 0 0 30 [some (1, 78), some (0, 0), some (0, 0), none, none, none] [] sh g1 Q) :
    ∀ (m x : Nat) (g1 : aj_G), x ≤ 24 → 24 - x = m → (∀ r, r ≠ 99 → g1 r = g r) → (∀ e : Nat, e < x → g1 99 e = 0) → aj_wp nE al al X m_Model_covered d 0 0 9 [some (1, 78), some (0, 0), some (0, (x : Int)), none, none, none] [] sh g1 Q := by
  intro m
  induction m using Nat.strongRecOn with
  | ind m ih =>
    intro x g1 hx hmm hF hZ
    have hm1 : mos sh g1 := mos_of hm (fun j _ => by rw [hF 78 (by omega)])
    refine aj_iload_n 2 10 (dx d_Model_covered 7 rfl) rfl rfl rfl ?_
    refine aj_bipush 12 (dx d_Model_covered 8 rfl) rfl (by decide +kernel) ?_
    refine aj_icmp_ge 28 15 (dx d_Model_covered 9 rfl) rfl rfl (by unfold aj_I; omega) (by unfold aj_I; omega) (fun h12 => ?_) (fun h12 => ?_)
    · refine aj_iconst 29 (dx d_Model_covered 17 rfl) rfl ?_
      refine aj_istore_n 2 30 (dx d_Model_covered 18 rfl) rfl rfl rfl ?_
      simp only [List.set]
      exact hgo g1 hF (fun e he => hZ e (by omega))
    · refine aj_aload_n 0 16 (dx d_Model_covered 10 rfl) rfl rfl rfl ?_
      refine aj_getfv (v := 99) 19 fl_Model_83 (dx d_Model_covered 11 rfl) rfl hm1.1 (by first | exact mf_gone hm1 | (simp [aj_up_at]; exact mf_gone hm1) | exact mf_gone (by assumption)) ?_
      refine aj_iload_n 2 20 (dx d_Model_covered 12 rfl) rfl rfl rfl ?_
      refine aj_iconst 21 (dx d_Model_covered 13 rfl) rfl ?_
      refine aj_zast 22 (dx d_Model_covered 14 rfl) rfl (ms_gone hm1) rfl (by omega) (by omega) (by omega) ?_
      refine aj_iinc 2 25 (dx d_Model_covered 15 rfl) rfl rfl rfl ?_
      simp only [List.set]
      refine aj_goto 9 (dx d_Model_covered 16 rfl) rfl ?_
      rw [show ((x : Nat) : Int) + 1 = ((x + 1 : Nat) : Int) by omega]
      refine ih _ (by omega) (x + 1) _ (by omega) rfl (fun r a => by rw [aj_up_ne _ _ _ a]; exact hF r a) (fun j hj => ?_)
      by_cases e : j = x
      · subst e; rw [aj_up_self]
      · rw [aj_up_ni _ _ _ (by omega)]; exact hZ j (by omega)
set_option maxHeartbeats 8000000 in
theorem k_Model_covered {al : Prop} {X : Option (Nat × (Int → Int))} {d : Nat} {sh : List aj_S} {g : aj_G} {Q : aj_R → List aj_S → aj_G → Prop} {k n s0 : Nat} {nx ou : Nat → Nat → Nat} {tw : Nat → Nat} {N : Nat} {q : nb_T} {sf : Nat → Nat} {mnx mou : Nat → Nat → Nat} (hS : mS sh g k n s0 nx ou tw N q sf mnx mou) (htw : tw_ok k n nx ou tw) (hcl : ∀ s i, s < n → i < k → nx s i < n) (hN : q.1 = N) (hsm : smm k n nx ou tw N q mnx mou) (hs0 : s0 < n) (h5 : g 78 5 = (s0 : Nat)) {c : Nat} {W : Nat → List Nat} {T : List (List Nat)} (hT : mT g k c W T) (hk : ∀ (g1 : aj_G) (n0 : Int), cF (aj_up g 78 0 0) g1 → n0 = mo_c (fun e => ∃ (t : Nat) (h : t < T.length), cvP mnx T[t] e) 24 → Q (.inl (some (0, n0))) sh g1) : aj_wp nE al al X m_Model_covered (d + 1) 0 0 0 [some (1, 78), none, none, none, none, none] [] sh g Q := by
  refine aj_aload_n 0 1 (dx d_Model_covered 0 rfl) rfl rfl rfl ?_
  refine aj_iconst 2 (dx d_Model_covered 1 rfl) rfl ?_
  refine aj_putf 5 (pl_Model_92 _) (dx d_Model_covered 2 rfl) rfl hS.1.1.1 (aj_fitI _) ?_
  refine aj_iconst 6 (dx d_Model_covered 3 rfl) rfl ?_
  refine aj_istore_n 1 7 (dx d_Model_covered 4 rfl) rfl rfl rfl ?_
  simp only [List.set]
  refine aj_iconst 8 (dx d_Model_covered 5 rfl) rfl ?_
  refine aj_istore_n 2 9 (dx d_Model_covered 6 rfl) rfl rfl rfl ?_
  simp only [List.set]
  refine k_cv_z (g := aj_up g 78 0 0) (mmm_th 0 hS.1).1 (fun g1 hF hZ => ?_) _ 0 _ (by omega) rfl (fun r _ => rfl) (fun e he => absurd he (Nat.not_lt_zero _))
  have hS0 : mS sh (aj_up g 78 0 0) k n s0 nx ou tw N q sf mnx mou := mS_of hS (fun r a b => by rw [aj_up_ne _ _ _ (by omega)]) (fun j hj => by rw [aj_up_ni _ _ _ (by unfold mo_fin at hj; omega)])
  exact k_cv_w (g := aj_up g 78 0 0) hS0 htw hcl hN hsm hs0 (by rw [aj_up_ni _ _ _ (by omega)]; exact h5) (mT_th 0 hT) hk _ 0 g1 0 (by omega) rfl (fun r _ b => hF r b) ⟨fun e he => Or.inr ⟨fun ⟨_, _, z, _⟩ => by omega, hZ e he⟩, by rw [mc_cg (V' := fun _ => False) (fun e _ => ⟨fun ⟨_, _, z, _⟩ => by omega, False.elim⟩), mc_0]; rfl⟩
set_option maxHeartbeats 4000000 in
theorem k_Model_covered1 {al : Prop} {X : Option (Nat × (Int → Int))} {d : Nat} {sh : List aj_S} {g : aj_G} {Q : aj_R → List aj_S → aj_G → Prop} (hm : mos sh g) (h20 : g 78 20 = 0) (hk : ∀ g1 : aj_G, (∀ r, r ≠ 99 → g1 r = aj_up g 78 0 0 r) → Q (.inl (some (0, 0))) sh g1) : aj_wp nE al al X m_Model_covered d 0 0 0 [some (1, 78), none, none, none, none, none] [] sh g Q := by
  refine aj_aload_n 0 1 (dx d_Model_covered 0 rfl) rfl rfl rfl ?_
  refine aj_iconst 2 (dx d_Model_covered 1 rfl) rfl ?_
  refine aj_putf 5 (pl_Model_92 _) (dx d_Model_covered 2 rfl) rfl hm.1 (aj_fitI _) ?_
  refine aj_iconst 6 (dx d_Model_covered 3 rfl) rfl ?_
  refine aj_istore_n 1 7 (dx d_Model_covered 4 rfl) rfl rfl rfl ?_
  simp only [List.set]
  refine aj_iconst 8 (dx d_Model_covered 5 rfl) rfl ?_
  refine aj_istore_n 2 9 (dx d_Model_covered 6 rfl) rfl rfl rfl ?_
  simp only [List.set]
  refine k_cv_z (g := aj_up g 78 0 0) (mos_of hm (fun j hj => by rw [aj_up_ni _ _ _ (by unfold mo_fin at hj; omega)])) (fun g1 hF hZ => ?_) _ 0 _ (by omega) rfl (fun r _ => rfl) (fun e he => absurd he (Nat.not_lt_zero _))
  have hm1 : mos sh g1 := mos_of hm (fun j hj => by rw [hF 78 (by omega), aj_up_ni _ _ _ (by unfold mo_fin at hj; omega)])
  refine aj_aload_n 0 31 (dx d_Model_covered 19 rfl) rfl rfl rfl ?_
  refine aj_getfv (v := 0) 34 fl_Model_189 (dx d_Model_covered 20 rfl) rfl hm1.1 (by rw [hF 78 (by omega), aj_up_ni _ _ _ (by omega)]; exact h20) ?_
  refine aj_if_eq 158 37 (dx d_Model_covered 21 rfl) rfl rfl (by unfold aj_I; omega) (fun h34 => ?_) (fun h34 => ?_)
  · refine aj_iload_n 1 159 (dx d_Model_covered 93 rfl) rfl rfl rfl ?_
    refine aj_iret (dx d_Model_covered 94 rfl) rfl id ?_
    exact hk g1 hF
  · exact absurd rfl h34
