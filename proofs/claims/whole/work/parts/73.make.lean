/-! making: the rules with the place named; Word, Trial, Machine, PairSearch, Reduction, Suite, Family -/
section MK
variable {E : aj_E} {al ao : Prop} {X : Option (Nat × (Int → Int))} {M : aj_M} {d bc bs pc : Nat} {lv : List (Option aj_A)} {st : List aj_A} {sh : List aj_S} {g : aj_G} {Q : aj_R → List aj_S → aj_G → Prop}
theorem aj_newp {atype : ArrayType} {ty : FieldType} {t0 : Nat} {n x : Int} {N bc1 bs1 : Nat} (q : Nat) (hd : decode M.2.1 pc = .ok (.newarray atype, 2)) (hq : pc + 2 = q) (hty : newarray.typeOf atype = ty) (hty2 : ty = .int ∨ ty = .boolean ∨ ty = .long) (ht : E.2.1[t0]? = some ty) (hw : Cond.arrayClass ty ∈ E.2.2.2.1)
    (hN : ((N : Nat) : Int) = n) (hN2 : N ≤ 60000) (hbc : bc1 + 1 = bc) (hbs : bs1 + N = bs) (hal : al) (hx : (sh.length : Int) = x) (hsz : x < 1000000) (k : aj_wp E al ao X M d bc1 bs1 q lv ((1, x) :: st) (sh ++ [.inl (t0, N)]) (aj_nw g x (fun _ => 0)) Q) : aj_wp E al ao X M d bc bs pc lv ((0, n) :: st) sh g Q := by
  subst hx
  exact aj_newa q hd hq hty hty2 ht hw hN hN2 hbc hbs hal (by omega) k
theorem aj_newop {index ci N bc1 bs1 : Nat} {x : Int} (q : Nat) (hf : aj_nl0 E M.1.cls index ci N) (hd : decode M.2.1 pc = .ok (.new index, 3)) (hq : pc + 3 = q) (hbc : bc1 + 1 = bc) (hbs : bs1 + N = bs) (hal : al) (hx : (sh.length : Int) = x) (hsz : x < 1000000) (k : aj_wp E al ao X M d bc1 bs1 q lv ((1, x) :: st) (sh ++ [.inr ci]) (aj_nw g x (fun j => aj_dv (E.2.2.1 ci j.toNat))) Q) : aj_wp E al ao X M d bc bs pc lv st sh g Q := by
  subst hx
  exact aj_newo q hf hd hq hbc hbs hal (by omega) k
theorem aj_newqp {index t0 N bc1 bs1 : Nat} {n x : Int} {C : String} (q : Nat) (hw : Cond.classLink M.1.cls index C ∈ E.2.2.2.1 ∧ FieldType.object C ∈ aj_aos) (hd : decode M.2.1 pc = .ok (.anewarray index, 3)) (hq : pc + 3 = q) (ht : E.2.1[t0]? = some (.object C))
    (hN : ((N : Nat) : Int) = n) (hN2 : N ≤ 60000) (hbc : bc1 + 1 = bc) (hbs : bs1 + N = bs) (hal : al) (hx : (sh.length : Int) = x) (hsz : x < 1000000) (k : aj_wp E al ao X M d bc1 bs1 q lv ((1, x) :: st) (sh ++ [.inl (t0, N)]) (aj_nw g x (fun _ => -1)) Q) : aj_wp E al ao X M d bc bs pc lv ((0, n) :: st) sh g Q := by
  subst hx
  exact aj_newq q hw hd hq ht hN hN2 hbc hbs hal (by omega) k
theorem aj_mnap {index t0 t1 bc1 bs1 : Nat} {x : Int} (q : Nat) (hw : Cond.classLink M.1.cls index "[[I" ∈ E.2.2.2.1 ∧ Cond.arrayClass .int ∈ E.2.2.2.1) (hd : decode M.2.1 pc = .ok (.multianewarray index 2, 4)) (hq : pc + 4 = q) (ht0 : E.2.1[t0]? = some (.array .int)) (ht1 : E.2.1[t1]? = some .int)
    (hbc : bc1 + 9 = bc) (hbs : bs1 + 72 = bs) (hal : al) (hx : (sh.length : Int) = x) (hsz : x + 8 < 1000000) (k : aj_wp E al ao X M d bc1 bs1 q lv ((1, x) :: st) (sh ++ (.inl (t0, 8) :: List.replicate 8 (.inl (t1, 8)))) (aj_mg g x) Q) : aj_wp E al ao X M d bc bs pc lv ((0, 8) :: (0, 8) :: st) sh g Q := by
  subst hx
  exact aj_mna q hw hd hq ht0 ht1 hbc hbs hal (by omega) k
/-- nothing more is made -/
theorem aj_less (k : aj_wp E False ao X M d bc bs pc lv st sh g Q) : aj_wp E al ao X M d bc bs pc lv st sh g Q := by
  intro p l e R s m args below meth c H locs cells slots ls a tc D A hc0
  obtain ⟨h1, h2, h3, h4, h5, h6, h7⟩ := hc0
  exact k p l e R s m args below meth c H locs cells slots ls a tc D A ⟨h1, h2, h3, h4, h5, ⟨fun h => h.elim, h6.2⟩, h7⟩
end MK
theorem ac_int : Cond.arrayClass .int ∈ nm_ws := nm_at 116 (by decide +kernel) rfl
theorem ac_bool : Cond.arrayClass .boolean ∈ nm_ws := nm_at 234 (by decide +kernel) rfl
theorem ac_long : Cond.arrayClass .long ∈ nm_ws := nm_at 867 (by decide +kernel) rfl
theorem kl_Family_9 : Cond.classLink "TestBench$Family" 9 "TestBench$Word" ∈ nm_ws := nm_at 155 (by decide +kernel) rfl
theorem kl_Family_17 : Cond.classLink "TestBench$Family" 17 "[[I" ∈ nm_ws := nm_at 157 (by decide +kernel) rfl
theorem sx_old {sh l : List aj_S} {r : Int} {y : aj_S} (h : aj_sh sh r = some y) : aj_sh (sh ++ l) r = some y := by
  unfold aj_sh at h ⊢
  by_cases c : r < 0
  · rw [if_pos c] at h; cases h
  · rw [if_neg c] at h ⊢
    obtain ⟨h1, h2⟩ := List.getElem?_eq_some_iff.mp h
    rw [List.getElem?_append_left h1]
    exact h
theorem sx_at {sh l : List aj_S} {r : Int} {y : aj_S} (h : (sh.length : Int) = r) : aj_sh (sh ++ (y :: l)) r = some y := by
  subst h
  unfold aj_sh
  rw [if_neg (by omega), Int.toNat_natCast, List.getElem?_append_right (Nat.le_refl _), Nat.sub_self]
  rfl
def mF (g : aj_G) (p : Int) (k c : Nat) : Prop := (g p 0 = k ∧ g p 1 = p + 1 ∧ g p 2 = p + 2 ∧ g p 3 = c) ∧ ∀ s i : Nat, s < c → i < k → g (p + 1) ((s : Int) * k + i) = s ∧ g (p + 2) ((s : Int) * k + i) = 0
theorem mF_of {g g1 : aj_G} {p : Int} {k c : Nat} (h : mF g p k c) (e : ∀ r', p ≤ r' → r' ≤ p + 2 → g1 r' = g r') : mF g1 p k c := by
  unfold mF at h ⊢
  rw [e p (by omega) (by omega), e (p + 1) (by omega) (by omega), e (p + 2) (by omega) (by omega)]
  exact h
set_option maxHeartbeats 8000000 in
theorem k_Word_init {al : Prop} {X : Option (Nat × (Int → Int))} {d : Nat} {sh : List aj_S} {g : aj_G} {Q : aj_R → List aj_S → aj_G → Prop} (hal : al) {p : Int} (h0 : 0 ≤ p) (hp9 : p < 2000) (hp : (sh.length : Int) = p + 1) (hs : aj_sh sh p = some (.inr 1)) (hk : ∀ g1 : aj_G, (∀ r', r' < p → g1 r' = g r') → g1 p 0 = p + 1 → g1 p 1 = 0 → Q (.inl none) (sh ++ [.inl (0, 100)]) g1) : aj_wp nE al al X m_Word_init (d + 1) 1 100 0 [some (1, p)] [] sh g Q := by
  refine aj_aload_n 0 1 (dx d_Word_init 0 rfl) rfl rfl rfl ?_
  refine aj_objInit 4 ob_Word_3 (dx d_Word_init 1 rfl) rfl h0 (by omega) ?_
  refine aj_aload_n 0 5 (dx d_Word_init 2 rfl) rfl rfl rfl ?_
  refine aj_bipush 7 (dx d_Word_init 3 rfl) rfl (by decide +kernel) ?_
  refine aj_newp (t0 := 0) (x := (p + 1)) (N := 100) (bc1 := 0) (bs1 := 0) 9 (dx d_Word_init 4 rfl) rfl rfl (Or.inl rfl) rfl ac_int rfl (by omega) rfl rfl hal (by first | omega | (simp only [List.length_append, List.length_cons, List.length_nil, List.length_replicate]; push_cast; omega)) (by omega) ?_
  refine aj_putf 12 pl_Word_9 (dx d_Word_init 5 rfl) rfl (sx_old hs) (aj_fitA _ _) ?_
  refine aj_aload_n 0 13 (dx d_Word_init 6 rfl) rfl rfl rfl ?_
  refine aj_iconst 14 (dx d_Word_init 7 rfl) rfl ?_
  refine aj_putf 17 (pl_Word_15 _) (dx d_Word_init 8 rfl) rfl (sx_old hs) (aj_fitI _) ?_
  refine aj_vret (dx d_Word_init 9 rfl) rfl id ?_
  refine hk _ (fun r' h => ?_) ?_ ?_
  · (repeat (first | rw [aj_up_self] | rw [aj_up_ne _ _ _ (by omega)] | rw [aj_up_ni _ _ _ (by omega)] | rw [aj_nw_ne _ _ (by omega)] | rw [aj_nw_self]))
  · (repeat (first | rw [aj_up_self] | rw [aj_up_ne _ _ _ (by omega)] | rw [aj_up_ni _ _ _ (by omega)] | rw [aj_nw_ne _ _ (by omega)] | rw [aj_nw_self]))
  · (repeat (first | rw [aj_up_self] | rw [aj_up_ne _ _ _ (by omega)] | rw [aj_up_ni _ _ _ (by omega)] | rw [aj_nw_ne _ _ (by omega)] | rw [aj_nw_self]))
set_option maxHeartbeats 8000000 in
theorem k_Trial_init {al : Prop} {X : Option (Nat × (Int → Int))} {d : Nat} {sh : List aj_S} {g : aj_G} {Q : aj_R → List aj_S → aj_G → Prop} (hal : al) {p : Int} (h0 : 0 ≤ p) (hp9 : p < 1000) (hp : (sh.length : Int) = p + 1) (hs : aj_sh sh p = some (.inr 6)) (hk : ∀ g1 : aj_G, (∀ r', r' < p → g1 r' = g r') → g1 p 0 = p + 1 → g1 p 1 = p + 2 → Q (.inl none) (sh ++ [.inl (0, 800)] ++ [.inl (0, 800)]) g1) : aj_wp nE al al X m_Trial_init (d + 1) 2 1600 0 [some (1, p)] [] sh g Q := by
  refine aj_aload_n 0 1 (dx d_Trial_init 0 rfl) rfl rfl rfl ?_
  refine aj_objInit 4 ob_Trial_3 (dx d_Trial_init 1 rfl) rfl h0 (by omega) ?_
  refine aj_aload_n 0 5 (dx d_Trial_init 2 rfl) rfl rfl rfl ?_
  refine aj_sipush 8 (dx d_Trial_init 3 rfl) rfl (by decide +kernel) ?_
  refine aj_newp (t0 := 0) (x := (p + 1)) (N := 800) (bc1 := 1) (bs1 := 800) 10 (dx d_Trial_init 4 rfl) rfl rfl (Or.inl rfl) rfl ac_int rfl (by omega) rfl rfl hal (by first | omega | (simp only [List.length_append, List.length_cons, List.length_nil, List.length_replicate]; push_cast; omega)) (by omega) ?_
  refine aj_putf 13 pl_Trial_9 (dx d_Trial_init 5 rfl) rfl (sx_old hs) (aj_fitA _ _) ?_
  refine aj_aload_n 0 14 (dx d_Trial_init 6 rfl) rfl rfl rfl ?_
  refine aj_sipush 17 (dx d_Trial_init 7 rfl) rfl (by decide +kernel) ?_
  refine aj_newp (t0 := 0) (x := (p + 2)) (N := 800) (bc1 := 0) (bs1 := 0) 19 (dx d_Trial_init 8 rfl) rfl rfl (Or.inl rfl) rfl ac_int rfl (by omega) rfl rfl hal (by first | omega | (simp only [List.length_append, List.length_cons, List.length_nil, List.length_replicate]; push_cast; omega)) (by omega) ?_
  refine aj_putf 22 pl_Trial_15 (dx d_Trial_init 9 rfl) rfl (sx_old (sx_old hs)) (aj_fitA _ _) ?_
  refine aj_vret (dx d_Trial_init 10 rfl) rfl id ?_
  refine hk _ (fun r' h => ?_) ?_ ?_
  · (repeat (first | rw [aj_up_self] | rw [aj_up_ne _ _ _ (by omega)] | rw [aj_up_ni _ _ _ (by omega)] | rw [aj_nw_ne _ _ (by omega)] | rw [aj_nw_self]))
  · (repeat (first | rw [aj_up_self] | rw [aj_up_ne _ _ _ (by omega)] | rw [aj_up_ni _ _ _ (by omega)] | rw [aj_nw_ne _ _ (by omega)] | rw [aj_nw_self]))
  · (repeat (first | rw [aj_up_self] | rw [aj_up_ne _ _ _ (by omega)] | rw [aj_up_ni _ _ _ (by omega)] | rw [aj_nw_ne _ _ (by omega)] | rw [aj_nw_self]))
set_option maxHeartbeats 8000000 in
theorem k_Machine_init {al : Prop} {X : Option (Nat × (Int → Int))} {d : Nat} {sh : List aj_S} {g : aj_G} {Q : aj_R → List aj_S → aj_G → Prop} (hal : al) {p : Int} (h0 : 0 ≤ p) (hp9 : p < 2000) (hp : (sh.length : Int) = p + 1) (hs : aj_sh sh p = some (.inr 0)) {R c k : Nat} {R0 c0 : Int} (hR : R0 = (R : Nat)) (hc : c0 = (c : Nat)) (hk3 : k = 1 ∨ k = 2 ∨ k = 3) (hRR : R = 8 ∨ R = 10) (hcR : c ≤ R) (hk : ∀ g1 : aj_G, (∀ r', r' < p → g1 r' = g r') → mF g1 p k c → Q (.inl none) (sh ++ [.inl (0, R * k)] ++ [.inl (0, R * k)]) g1) : aj_wp nE al al X m_Machine_init (d + 2) 2 60 0 [some (1, p), some (0, R0), some (0, c0), some (0, (k : Int))] [] sh g Q := by
  subst hR hc
  have hN : R * k ≤ 30 := by rcases hk3 with rfl | rfl | rfl <;> omega
  have hcL : (c : Int) * (k : Int) ≤ ((R * k : Nat) : Int) := by rcases hk3 with rfl | rfl | rfl <;> push_cast <;> omega
  refine aj_aload_n 0 1 (dx d_Machine_init 0 rfl) rfl rfl rfl ?_
  refine aj_objInit 4 ob_Machine_3 (dx d_Machine_init 1 rfl) rfl h0 (by omega) ?_
  refine aj_aload_n 0 5 (dx d_Machine_init 2 rfl) rfl rfl rfl ?_
  refine aj_iload_n 3 6 (dx d_Machine_init 3 rfl) rfl rfl rfl ?_
  refine aj_putf 9 pl_Machine_9 (dx d_Machine_init 4 rfl) rfl hs (aj_fitI _) ?_
  refine aj_aload_n 0 10 (dx d_Machine_init 5 rfl) rfl rfl rfl ?_
  refine aj_iload_n 1 11 (dx d_Machine_init 6 rfl) rfl rfl rfl ?_
  refine aj_iload_n 3 12 (dx d_Machine_init 7 rfl) rfl rfl rfl ?_
  refine aj_imul 13 (dx d_Machine_init 8 rfl) rfl ?_
  refine aj_newp (t0 := 0) (x := (p + 1)) (N := R * k) (bc1 := 1) (bs1 := (60 - R * k)) 15 (dx d_Machine_init 9 rfl) rfl rfl (Or.inl rfl) rfl ac_int (Int.natCast_mul _ _) (by omega) rfl (by omega) hal (by first | omega | (simp only [List.length_append, List.length_cons, List.length_nil, List.length_replicate]; push_cast; omega)) (by omega) ?_
  refine aj_putf 18 pl_Machine_15 (dx d_Machine_init 10 rfl) rfl (sx_old hs) (aj_fitA _ _) ?_
  refine aj_aload_n 0 19 (dx d_Machine_init 11 rfl) rfl rfl rfl ?_
  refine aj_iload_n 1 20 (dx d_Machine_init 12 rfl) rfl rfl rfl ?_
  refine aj_iload_n 3 21 (dx d_Machine_init 13 rfl) rfl rfl rfl ?_
  refine aj_imul 22 (dx d_Machine_init 14 rfl) rfl ?_
  refine aj_newp (t0 := 0) (x := (p + 2)) (N := R * k) (bc1 := 0) (bs1 := ((60 - R * k) - R * k)) 24 (dx d_Machine_init 15 rfl) rfl rfl (Or.inl rfl) rfl ac_int (Int.natCast_mul _ _) (by omega) rfl (by omega) hal (by first | omega | (simp only [List.length_append, List.length_cons, List.length_nil, List.length_replicate]; push_cast; omega)) (by omega) ?_
  refine aj_putf 27 pl_Machine_19 (dx d_Machine_init 16 rfl) rfl (sx_old (sx_old hs)) (aj_fitA _ _) ?_
  refine aj_aload_n 0 28 (dx d_Machine_init 17 rfl) rfl rfl rfl ?_
  refine aj_iconst 29 (dx d_Machine_init 18 rfl) rfl ?_
  refine aj_putf 32 (pl_Machine_22 _) (dx d_Machine_init 19 rfl) rfl (sx_old (sx_old hs)) (aj_fitI _) ?_
  refine aj_aload_n 0 33 (dx d_Machine_init 20 rfl) rfl rfl rfl ?_
  refine aj_iload_n 2 34 (dx d_Machine_init 21 rfl) rfl rfl rfl ?_
  refine aj_callV1 37 cl_Machine_25 (dx d_Machine_init 22 rfl) rfl rfl rfl rfl rfl rfl (sx_old (sx_old hs)) (k_Machine_fitTo (L := R * k) (k := (k : Int)) (n := (c : Int)) ⟨sx_old (sx_old hs), by (repeat (first | rw [aj_up_self] | rw [aj_up_ne _ _ _ (by omega)] | rw [aj_up_ni _ _ _ (by omega)] | rw [aj_nw_ne _ _ (by omega)] | rw [aj_nw_self])), by (repeat (first | rw [aj_up_self] | rw [aj_up_ne _ _ _ (by omega)] | rw [aj_up_ni _ _ _ (by omega)] | rw [aj_nw_ne _ _ (by omega)] | rw [aj_nw_self])), sx_old (sx_at (by omega)), sx_at (by first | omega | (simp only [List.length_append, List.length_cons, List.length_nil, List.length_replicate]; push_cast; omega))⟩ (by (repeat (first | rw [aj_up_self] | rw [aj_up_ne _ _ _ (by omega)] | rw [aj_up_ni _ _ _ (by omega)] | rw [aj_nw_ne _ _ (by omega)] | rw [aj_nw_self]))) (by omega) (by omega) hcL (by omega) (by rw [aj_up_self]; unfold aj_I; omega) (fun s i h1 h2 => by rw [aj_up_self] at h2; omega) (fun g1 hF => ?_))
  change aj_wp _ _ _ _ _ _ _ _ _ _ _ _ _ _
  refine aj_vret (dx d_Machine_init 23 rfl) rfl id ?_
  refine hk _ (fun r' h => ?_) ⟨⟨?_, ?_, ?_, aj_up_self _ _ _ _⟩, fun s i h1 h2 => ?_⟩
  · rw [aj_up_ne _ _ _ (by omega), hF.1 r' (by omega) (by omega)]
    (repeat (first | rw [aj_up_self] | rw [aj_up_ne _ _ _ (by omega)] | rw [aj_up_ni _ _ _ (by omega)] | rw [aj_nw_ne _ _ (by omega)] | rw [aj_nw_self]))
  · rw [aj_up_ni _ _ _ (by omega), hF.1 p (by omega) (by omega)]
    (repeat (first | rw [aj_up_self] | rw [aj_up_ne _ _ _ (by omega)] | rw [aj_up_ni _ _ _ (by omega)] | rw [aj_nw_ne _ _ (by omega)] | rw [aj_nw_self]))
  · rw [aj_up_ni _ _ _ (by omega), hF.1 p (by omega) (by omega)]
    (repeat (first | rw [aj_up_self] | rw [aj_up_ne _ _ _ (by omega)] | rw [aj_up_ni _ _ _ (by omega)] | rw [aj_nw_ne _ _ (by omega)] | rw [aj_nw_self]))
  · rw [aj_up_ni _ _ _ (by omega), hF.1 p (by omega) (by omega)]
    (repeat (first | rw [aj_up_self] | rw [aj_up_ne _ _ _ (by omega)] | rw [aj_up_ni _ _ _ (by omega)] | rw [aj_nw_ne _ _ (by omega)] | rw [aj_nw_self]))
  · obtain ⟨f1, f2⟩ := hF.2 s i (by omega) (by omega) (by omega) (by omega)
    rw [if_pos (by omega)] at f1 f2
    rw [aj_up_ne _ _ _ (by omega), aj_up_ne _ _ _ (by omega), f1, f2]
    unfold fit_n fit_o
    rw [aj_up_self, if_pos (by omega), if_pos (by omega)]
    exact ⟨rfl, rfl⟩
set_option maxHeartbeats 8000000 in
theorem k_Search_init {al : Prop} {X : Option (Nat × (Int → Int))} {d : Nat} {sh : List aj_S} {g : aj_G} {Q : aj_R → List aj_S → aj_G → Prop} (hal : al) {p : Int} (h0 : 0 ≤ p) (hp9 : p < 1000) (hp : (sh.length : Int) = p + 1) (hs : aj_sh sh p = some (.inr 2)) (hk : ∀ g1 : aj_G, (∀ r', r' < p → g1 r' = g r') → g1 p 0 = p + 1 → g1 p 1 = p + 3 → g1 p 2 = p + 4 → g1 p 3 = p + 5 → g1 p 4 = p + 6 → g1 p 5 = p + 7 → g1 p 6 = p + 8 → g1 (p + 1) 0 = p + 2 → Q (.inl none) (sh ++ [.inr 1] ++ [.inl (0, 100)] ++ [.inl (0, 100)] ++ [.inl (0, 100)] ++ [.inl (0, 100)] ++ [.inl (0, 100)] ++ [.inl (0, 100)] ++ [.inl (1, 100)]) g1) : aj_wp nE al al X m_Search_init (d + 2) 8 702 0 [some (1, p)] [] sh g Q := by
  refine aj_aload_n 0 1 (dx d_Search_init 0 rfl) rfl rfl rfl ?_
  refine aj_objInit 4 ob_Search_3 (dx d_Search_init 1 rfl) rfl h0 (by omega) ?_
  refine aj_aload_n 0 5 (dx d_Search_init 2 rfl) rfl rfl rfl ?_
  refine aj_newop (x := (p + 1)) (bc1 := 7) (bs1 := 700) 8 nw_Search_9 (dx d_Search_init 3 rfl) rfl rfl rfl hal (by first | omega | (simp only [List.length_append, List.length_cons, List.length_nil, List.length_replicate]; push_cast; omega)) (by omega) ?_
  refine aj_dup 9 (dx d_Search_init 4 rfl) rfl rfl ?_
  refine aj_callN (bc1 := 1) (bc2 := 6) (bs1 := 100) (bs2 := 600) 12 nl_Search_11 (dx d_Search_init 5 rfl) rfl rfl rfl rfl rfl rfl (by omega) (k_Word_init (p := p + 1) hal (by omega) (by omega) (by first | omega | (simp only [List.length_append, List.length_cons, List.length_nil, List.length_replicate]; push_cast; omega)) (sx_at (by omega)) (fun g2 e1 e2 e3 => ?_))
  change aj_wp _ _ _ _ _ _ _ _ _ _ _ _ _ _
  refine aj_putf 15 pl_Search_12 (dx d_Search_init 6 rfl) rfl (sx_old (sx_old hs)) (aj_fitO _ _) ?_
  refine aj_aload_n 0 16 (dx d_Search_init 7 rfl) rfl rfl rfl ?_
  refine aj_bipush 18 (dx d_Search_init 8 rfl) rfl (by decide +kernel) ?_
  refine aj_newp (t0 := 0) (x := (p + 3)) (N := 100) (bc1 := 5) (bs1 := 500) 20 (dx d_Search_init 9 rfl) rfl rfl (Or.inl rfl) rfl ac_int rfl (by omega) rfl rfl hal (by first | omega | (simp only [List.length_append, List.length_cons, List.length_nil, List.length_replicate]; push_cast; omega)) (by omega) ?_
  refine aj_putf 23 pl_Search_18 (dx d_Search_init 10 rfl) rfl (sx_old (sx_old (sx_old hs))) (aj_fitA _ _) ?_
  refine aj_aload_n 0 24 (dx d_Search_init 11 rfl) rfl rfl rfl ?_
  refine aj_bipush 26 (dx d_Search_init 12 rfl) rfl (by decide +kernel) ?_
  refine aj_newp (t0 := 0) (x := (p + 4)) (N := 100) (bc1 := 4) (bs1 := 400) 28 (dx d_Search_init 13 rfl) rfl rfl (Or.inl rfl) rfl ac_int rfl (by omega) rfl rfl hal (by first | omega | (simp only [List.length_append, List.length_cons, List.length_nil, List.length_replicate]; push_cast; omega)) (by omega) ?_
  refine aj_putf 31 pl_Search_22 (dx d_Search_init 14 rfl) rfl (sx_old (sx_old (sx_old (sx_old hs)))) (aj_fitA _ _) ?_
  refine aj_aload_n 0 32 (dx d_Search_init 15 rfl) rfl rfl rfl ?_
  refine aj_bipush 34 (dx d_Search_init 16 rfl) rfl (by decide +kernel) ?_
  refine aj_newp (t0 := 0) (x := (p + 5)) (N := 100) (bc1 := 3) (bs1 := 300) 36 (dx d_Search_init 17 rfl) rfl rfl (Or.inl rfl) rfl ac_int rfl (by omega) rfl rfl hal (by first | omega | (simp only [List.length_append, List.length_cons, List.length_nil, List.length_replicate]; push_cast; omega)) (by omega) ?_
  refine aj_putf 39 pl_Search_25 (dx d_Search_init 18 rfl) rfl (sx_old (sx_old (sx_old (sx_old (sx_old hs))))) (aj_fitA _ _) ?_
  refine aj_aload_n 0 40 (dx d_Search_init 19 rfl) rfl rfl rfl ?_
  refine aj_bipush 42 (dx d_Search_init 20 rfl) rfl (by decide +kernel) ?_
  refine aj_newp (t0 := 0) (x := (p + 6)) (N := 100) (bc1 := 2) (bs1 := 200) 44 (dx d_Search_init 21 rfl) rfl rfl (Or.inl rfl) rfl ac_int rfl (by omega) rfl rfl hal (by first | omega | (simp only [List.length_append, List.length_cons, List.length_nil, List.length_replicate]; push_cast; omega)) (by omega) ?_
  refine aj_putf 47 pl_Search_28 (dx d_Search_init 22 rfl) rfl (sx_old (sx_old (sx_old (sx_old (sx_old (sx_old hs)))))) (aj_fitA _ _) ?_
  refine aj_aload_n 0 48 (dx d_Search_init 23 rfl) rfl rfl rfl ?_
  refine aj_bipush 50 (dx d_Search_init 24 rfl) rfl (by decide +kernel) ?_
  refine aj_newp (t0 := 0) (x := (p + 7)) (N := 100) (bc1 := 1) (bs1 := 100) 52 (dx d_Search_init 25 rfl) rfl rfl (Or.inl rfl) rfl ac_int rfl (by omega) rfl rfl hal (by first | omega | (simp only [List.length_append, List.length_cons, List.length_nil, List.length_replicate]; push_cast; omega)) (by omega) ?_
  refine aj_putf 55 pl_Search_31 (dx d_Search_init 26 rfl) rfl (sx_old (sx_old (sx_old (sx_old (sx_old (sx_old (sx_old hs))))))) (aj_fitA _ _) ?_
  refine aj_aload_n 0 56 (dx d_Search_init 27 rfl) rfl rfl rfl ?_
  refine aj_bipush 58 (dx d_Search_init 28 rfl) rfl (by decide +kernel) ?_
  refine aj_newp (t0 := 1) (x := (p + 8)) (N := 100) (bc1 := 0) (bs1 := 0) 60 (dx d_Search_init 29 rfl) rfl rfl (Or.inr (Or.inl rfl)) rfl ac_bool rfl (by omega) rfl rfl hal (by first | omega | (simp only [List.length_append, List.length_cons, List.length_nil, List.length_replicate]; push_cast; omega)) (by omega) ?_
  refine aj_putf 63 pl_Search_34 (dx d_Search_init 30 rfl) rfl (sx_old (sx_old (sx_old (sx_old (sx_old (sx_old (sx_old (sx_old hs)))))))) (aj_fitA _ _) ?_
  refine aj_aload_n 0 64 (dx d_Search_init 31 rfl) rfl rfl rfl ?_
  refine aj_iconst 65 (dx d_Search_init 32 rfl) rfl ?_
  refine aj_putf 68 (pl_Search_38 _) (dx d_Search_init 33 rfl) rfl (sx_old (sx_old (sx_old (sx_old (sx_old (sx_old (sx_old (sx_old hs)))))))) (aj_fitI _) ?_
  refine aj_vret (dx d_Search_init 34 rfl) rfl id ?_
  refine hk _ (fun r' h => ?_) ?_ ?_ ?_ ?_ ?_ ?_ ?_ ?_
  · (repeat (first | rw [aj_up_self] | rw [aj_up_ne _ _ _ (by omega)] | rw [aj_up_ni _ _ _ (by omega)] | rw [aj_nw_ne _ _ (by omega)] | rw [aj_nw_self]))
    rw [e1 r' (by omega)]
    (repeat (first | rw [aj_up_self] | rw [aj_up_ne _ _ _ (by omega)] | rw [aj_up_ni _ _ _ (by omega)] | rw [aj_nw_ne _ _ (by omega)] | rw [aj_nw_self]))
  · (repeat (first | rw [aj_up_self] | rw [aj_up_ne _ _ _ (by omega)] | rw [aj_up_ni _ _ _ (by omega)] | rw [aj_nw_ne _ _ (by omega)] | rw [aj_nw_self]))
  · (repeat (first | rw [aj_up_self] | rw [aj_up_ne _ _ _ (by omega)] | rw [aj_up_ni _ _ _ (by omega)] | rw [aj_nw_ne _ _ (by omega)] | rw [aj_nw_self]))
  · (repeat (first | rw [aj_up_self] | rw [aj_up_ne _ _ _ (by omega)] | rw [aj_up_ni _ _ _ (by omega)] | rw [aj_nw_ne _ _ (by omega)] | rw [aj_nw_self]))
  · (repeat (first | rw [aj_up_self] | rw [aj_up_ne _ _ _ (by omega)] | rw [aj_up_ni _ _ _ (by omega)] | rw [aj_nw_ne _ _ (by omega)] | rw [aj_nw_self]))
  · (repeat (first | rw [aj_up_self] | rw [aj_up_ne _ _ _ (by omega)] | rw [aj_up_ni _ _ _ (by omega)] | rw [aj_nw_ne _ _ (by omega)] | rw [aj_nw_self]))
  · (repeat (first | rw [aj_up_self] | rw [aj_up_ne _ _ _ (by omega)] | rw [aj_up_ni _ _ _ (by omega)] | rw [aj_nw_ne _ _ (by omega)] | rw [aj_nw_self]))
  · (repeat (first | rw [aj_up_self] | rw [aj_up_ne _ _ _ (by omega)] | rw [aj_up_ni _ _ _ (by omega)] | rw [aj_nw_ne _ _ (by omega)] | rw [aj_nw_self]))
  · (repeat (first | rw [aj_up_self] | rw [aj_up_ne _ _ _ (by omega)] | rw [aj_up_ni _ _ _ (by omega)] | rw [aj_nw_ne _ _ (by omega)] | rw [aj_nw_self]))
    rw [e2]
    omega
set_option maxHeartbeats 8000000 in
theorem k_Reduction_init {al : Prop} {X : Option (Nat × (Int → Int))} {d : Nat} {sh : List aj_S} {g : aj_G} {Q : aj_R → List aj_S → aj_G → Prop} (hal : al) {p : Int} (h0 : 0 ≤ p) (hp9 : p < 1000) (hp : (sh.length : Int) = p + 1) (hs : aj_sh sh p = some (.inr 3)) {k : Nat} (hk3 : k = 1 ∨ k = 2 ∨ k = 3) (hk : ∀ g1 : aj_G, (∀ r', r' < p → g1 r' = g r') → (g1 p 0 = p + 6 ∧ g1 p 1 = p + 1 ∧ g1 p 2 = p + 2 ∧ g1 p 3 = p + 3 ∧ g1 p 4 = p + 4 ∧ g1 p 5 = p + 5) → mF g1 (p + 6) k 0 → Q (.inl none) (sh ++ [.inl (0, 8)] ++ [.inl (0, 8)] ++ [.inl (0, 8)] ++ [.inl (0, 8)] ++ [.inl (0, 8)] ++ [.inr 0] ++ [.inl (0, 8 * k)] ++ [.inl (0, 8 * k)]) g1) : aj_wp nE al al X m_Reduction_init (d + 3) 8 104 0 [some (1, p), some (0, (k : Int))] [] sh g Q := by
  refine aj_aload_n 0 1 (dx d_Reduction_init 0 rfl) rfl rfl rfl ?_
  refine aj_objInit 4 ob_Reduction_3 (dx d_Reduction_init 1 rfl) rfl h0 (by omega) ?_
  refine aj_aload_n 0 5 (dx d_Reduction_init 2 rfl) rfl rfl rfl ?_
  refine aj_bipush 7 (dx d_Reduction_init 3 rfl) rfl (by decide +kernel) ?_
  refine aj_newp (t0 := 0) (x := (p + 1)) (N := 8) (bc1 := 7) (bs1 := 96) 9 (dx d_Reduction_init 4 rfl) rfl rfl (Or.inl rfl) rfl ac_int rfl (by omega) rfl rfl hal (by first | omega | (simp only [List.length_append, List.length_cons, List.length_nil, List.length_replicate]; push_cast; omega)) (by omega) ?_
  refine aj_putf 12 pl_Reduction_9 (dx d_Reduction_init 5 rfl) rfl (sx_old hs) (aj_fitA _ _) ?_
  refine aj_aload_n 0 13 (dx d_Reduction_init 6 rfl) rfl rfl rfl ?_
  refine aj_bipush 15 (dx d_Reduction_init 7 rfl) rfl (by decide +kernel) ?_
  refine aj_newp (t0 := 0) (x := (p + 2)) (N := 8) (bc1 := 6) (bs1 := 88) 17 (dx d_Reduction_init 8 rfl) rfl rfl (Or.inl rfl) rfl ac_int rfl (by omega) rfl rfl hal (by first | omega | (simp only [List.length_append, List.length_cons, List.length_nil, List.length_replicate]; push_cast; omega)) (by omega) ?_
  refine aj_putf 20 pl_Reduction_15 (dx d_Reduction_init 9 rfl) rfl (sx_old (sx_old hs)) (aj_fitA _ _) ?_
  refine aj_aload_n 0 21 (dx d_Reduction_init 10 rfl) rfl rfl rfl ?_
  refine aj_bipush 23 (dx d_Reduction_init 11 rfl) rfl (by decide +kernel) ?_
  refine aj_newp (t0 := 0) (x := (p + 3)) (N := 8) (bc1 := 5) (bs1 := 80) 25 (dx d_Reduction_init 12 rfl) rfl rfl (Or.inl rfl) rfl ac_int rfl (by omega) rfl rfl hal (by first | omega | (simp only [List.length_append, List.length_cons, List.length_nil, List.length_replicate]; push_cast; omega)) (by omega) ?_
  refine aj_putf 28 pl_Reduction_18 (dx d_Reduction_init 13 rfl) rfl (sx_old (sx_old (sx_old hs))) (aj_fitA _ _) ?_
  refine aj_aload_n 0 29 (dx d_Reduction_init 14 rfl) rfl rfl rfl ?_
  refine aj_bipush 31 (dx d_Reduction_init 15 rfl) rfl (by decide +kernel) ?_
  refine aj_newp (t0 := 0) (x := (p + 4)) (N := 8) (bc1 := 4) (bs1 := 72) 33 (dx d_Reduction_init 16 rfl) rfl rfl (Or.inl rfl) rfl ac_int rfl (by omega) rfl rfl hal (by first | omega | (simp only [List.length_append, List.length_cons, List.length_nil, List.length_replicate]; push_cast; omega)) (by omega) ?_
  refine aj_putf 36 pl_Reduction_21 (dx d_Reduction_init 17 rfl) rfl (sx_old (sx_old (sx_old (sx_old hs)))) (aj_fitA _ _) ?_
  refine aj_aload_n 0 37 (dx d_Reduction_init 18 rfl) rfl rfl rfl ?_
  refine aj_bipush 39 (dx d_Reduction_init 19 rfl) rfl (by decide +kernel) ?_
  refine aj_newp (t0 := 0) (x := (p + 5)) (N := 8) (bc1 := 3) (bs1 := 64) 41 (dx d_Reduction_init 20 rfl) rfl rfl (Or.inl rfl) rfl ac_int rfl (by omega) rfl rfl hal (by first | omega | (simp only [List.length_append, List.length_cons, List.length_nil, List.length_replicate]; push_cast; omega)) (by omega) ?_
  refine aj_putf 44 pl_Reduction_24 (dx d_Reduction_init 21 rfl) rfl (sx_old (sx_old (sx_old (sx_old (sx_old hs))))) (aj_fitA _ _) ?_
  refine aj_aload_n 0 45 (dx d_Reduction_init 22 rfl) rfl rfl rfl ?_
  refine aj_newop (x := (p + 6)) (bc1 := 2) (bs1 := 60) 48 nw_Reduction_27 (dx d_Reduction_init 23 rfl) rfl rfl rfl hal (by first | omega | (simp only [List.length_append, List.length_cons, List.length_nil, List.length_replicate]; push_cast; omega)) (by omega) ?_
  refine aj_dup 49 (dx d_Reduction_init 24 rfl) rfl rfl ?_
  refine aj_bipush 51 (dx d_Reduction_init 25 rfl) rfl (by decide +kernel) ?_
  refine aj_iconst 52 (dx d_Reduction_init 26 rfl) rfl ?_
  refine aj_iload_n 1 53 (dx d_Reduction_init 27 rfl) rfl rfl rfl ?_
  refine aj_callI3 (bc1 := 2) (bc2 := 0) (bs1 := 60) (bs2 := 0) 56 cl_Reduction_29 (dx d_Reduction_init 28 rfl) rfl rfl rfl rfl rfl rfl (by omega) (k_Machine_init (p := p + 6) (R := 8) (c := 0) hal (by omega) (by omega) (by first | omega | (simp only [List.length_append, List.length_cons, List.length_nil, List.length_replicate]; push_cast; omega)) (sx_at (by first | omega | (simp only [List.length_append, List.length_cons, List.length_nil, List.length_replicate]; push_cast; omega))) rfl rfl hk3 (Or.inl rfl) (by omega) (fun g2 e1 hF => ?_))
  change aj_wp _ _ _ _ _ _ _ _ _ _ _ _ _ _
  refine aj_putf 59 pl_Reduction_32 (dx d_Reduction_init 29 rfl) rfl (sx_old (sx_old (sx_old (sx_old (sx_old (sx_old (sx_old (sx_old hs)))))))) (aj_fitO _ _) ?_
  refine aj_vret (dx d_Reduction_init 30 rfl) rfl id ?_
  refine hk _ (fun r' h => ?_) ⟨?_, ?_, ?_, ?_, ?_, ?_⟩ (mF_of hF (fun r' h1 h2 => aj_up_ne _ _ _ (by omega)))
  · rw [aj_up_ne _ _ _ (by omega), e1 r' (by omega)]
    (repeat (first | rw [aj_up_self] | rw [aj_up_ne _ _ _ (by omega)] | rw [aj_up_ni _ _ _ (by omega)] | rw [aj_nw_ne _ _ (by omega)] | rw [aj_nw_self]))
  · (repeat (first | rw [aj_up_self] | rw [aj_up_ne _ _ _ (by omega)] | rw [aj_up_ni _ _ _ (by omega)] | rw [aj_nw_ne _ _ (by omega)] | rw [aj_nw_self]))
  · rw [aj_up_ni _ _ _ (by omega), e1 p (by omega)]
    (repeat (first | rw [aj_up_self] | rw [aj_up_ne _ _ _ (by omega)] | rw [aj_up_ni _ _ _ (by omega)] | rw [aj_nw_ne _ _ (by omega)] | rw [aj_nw_self]))
  · rw [aj_up_ni _ _ _ (by omega), e1 p (by omega)]
    (repeat (first | rw [aj_up_self] | rw [aj_up_ne _ _ _ (by omega)] | rw [aj_up_ni _ _ _ (by omega)] | rw [aj_nw_ne _ _ (by omega)] | rw [aj_nw_self]))
  · rw [aj_up_ni _ _ _ (by omega), e1 p (by omega)]
    (repeat (first | rw [aj_up_self] | rw [aj_up_ne _ _ _ (by omega)] | rw [aj_up_ni _ _ _ (by omega)] | rw [aj_nw_ne _ _ (by omega)] | rw [aj_nw_self]))
  · rw [aj_up_ni _ _ _ (by omega), e1 p (by omega)]
    (repeat (first | rw [aj_up_self] | rw [aj_up_ne _ _ _ (by omega)] | rw [aj_up_ni _ _ _ (by omega)] | rw [aj_nw_ne _ _ (by omega)] | rw [aj_nw_self]))
  · rw [aj_up_ni _ _ _ (by omega), e1 p (by omega)]
    (repeat (first | rw [aj_up_self] | rw [aj_up_ne _ _ _ (by omega)] | rw [aj_up_ni _ _ _ (by omega)] | rw [aj_nw_ne _ _ (by omega)] | rw [aj_nw_self]))
set_option maxHeartbeats 8000000 in
theorem k_Suite_init {al : Prop} {X : Option (Nat × (Int → Int))} {d : Nat} {sh : List aj_S} {g : aj_G} {Q : aj_R → List aj_S → aj_G → Prop} (hal : al) {p : Int} (h0 : 0 ≤ p) (hp9 : p < 1000) (hp : (sh.length : Int) = p + 1) (hs : aj_sh sh p = some (.inr 5)) {k : Nat} (hk3 : k = 1 ∨ k = 2 ∨ k = 3) (hp4 : 40 < p) (hr4 : aj_sh sh 4 = some (.inr 3)) (hg4 : g 4 0 = 10) (hm10 : aj_sh sh 10 = some (.inr 0)) (hg10 : g 10 0 = (k : Nat)) (hk : ∀ g1 : aj_G, (∀ r', r' < p → g1 r' = g r') → (g1 p 0 = 4 ∧ g1 p 1 = 10 ∧ g1 p 2 = 13 ∧ g1 p 3 = p + 9 ∧ g1 p 4 = p + 1 ∧ g1 p 5 = p + 2 ∧ g1 p 6 = p + 3 ∧ g1 p 7 = p + 4 ∧ g1 p 8 = p + 5 ∧ g1 p 9 = p + 6 ∧ g1 p 10 = p + 7 ∧ g1 p 11 = p + 8 ∧ g1 p 12 = 0 ∧ g1 p 13 = 0) → Q (.inl none) (sh ++ [.inl (0, 800)] ++ [.inl (0, 800)] ++ [.inl (0, 800)] ++ [.inl (0, 800)] ++ [.inl (0, 800)] ++ [.inl (0, 800)] ++ [.inl (0, 8)] ++ [.inl (0, 13)] ++ [.inl (0, 800 * k)]) g1) : aj_wp nE al al X m_Suite_init (d + 1) 9 7221 0 [some (1, p), some (1, 4), some (1, 13)] [] sh g Q := by
  refine aj_aload_n 0 1 (dx d_Suite_init 0 rfl) rfl rfl rfl ?_
  refine aj_objInit 4 ob_Suite_3 (dx d_Suite_init 1 rfl) rfl h0 (by omega) ?_
  refine aj_aload_n 0 5 (dx d_Suite_init 2 rfl) rfl rfl rfl ?_
  refine aj_sipush 8 (dx d_Suite_init 3 rfl) rfl (by decide +kernel) ?_
  refine aj_newp (t0 := 0) (x := (p + 1)) (N := 800) (bc1 := 8) (bs1 := 6421) 10 (dx d_Suite_init 4 rfl) rfl rfl (Or.inl rfl) rfl ac_int rfl (by omega) rfl rfl hal (by first | omega | (simp only [List.length_append, List.length_cons, List.length_nil, List.length_replicate]; push_cast; omega)) (by omega) ?_
  refine aj_putf 13 pl_Suite_9 (dx d_Suite_init 5 rfl) rfl (sx_old hs) (aj_fitA _ _) ?_
  refine aj_aload_n 0 14 (dx d_Suite_init 6 rfl) rfl rfl rfl ?_
  refine aj_sipush 17 (dx d_Suite_init 7 rfl) rfl (by decide +kernel) ?_
  refine aj_newp (t0 := 0) (x := (p + 2)) (N := 800) (bc1 := 7) (bs1 := 5621) 19 (dx d_Suite_init 8 rfl) rfl rfl (Or.inl rfl) rfl ac_int rfl (by omega) rfl rfl hal (by first | omega | (simp only [List.length_append, List.length_cons, List.length_nil, List.length_replicate]; push_cast; omega)) (by omega) ?_
  refine aj_putf 22 pl_Suite_15 (dx d_Suite_init 9 rfl) rfl (sx_old (sx_old hs)) (aj_fitA _ _) ?_
  refine aj_aload_n 0 23 (dx d_Suite_init 10 rfl) rfl rfl rfl ?_
  refine aj_sipush 26 (dx d_Suite_init 11 rfl) rfl (by decide +kernel) ?_
  refine aj_newp (t0 := 0) (x := (p + 3)) (N := 800) (bc1 := 6) (bs1 := 4821) 28 (dx d_Suite_init 12 rfl) rfl rfl (Or.inl rfl) rfl ac_int rfl (by omega) rfl rfl hal (by first | omega | (simp only [List.length_append, List.length_cons, List.length_nil, List.length_replicate]; push_cast; omega)) (by omega) ?_
  refine aj_putf 31 pl_Suite_18 (dx d_Suite_init 13 rfl) rfl (sx_old (sx_old (sx_old hs))) (aj_fitA _ _) ?_
  refine aj_aload_n 0 32 (dx d_Suite_init 14 rfl) rfl rfl rfl ?_
  refine aj_sipush 35 (dx d_Suite_init 15 rfl) rfl (by decide +kernel) ?_
  refine aj_newp (t0 := 0) (x := (p + 4)) (N := 800) (bc1 := 5) (bs1 := 4021) 37 (dx d_Suite_init 16 rfl) rfl rfl (Or.inl rfl) rfl ac_int rfl (by omega) rfl rfl hal (by first | omega | (simp only [List.length_append, List.length_cons, List.length_nil, List.length_replicate]; push_cast; omega)) (by omega) ?_
  refine aj_putf 40 pl_Suite_21 (dx d_Suite_init 17 rfl) rfl (sx_old (sx_old (sx_old (sx_old hs)))) (aj_fitA _ _) ?_
  refine aj_aload_n 0 41 (dx d_Suite_init 18 rfl) rfl rfl rfl ?_
  refine aj_sipush 44 (dx d_Suite_init 19 rfl) rfl (by decide +kernel) ?_
  refine aj_newp (t0 := 0) (x := (p + 5)) (N := 800) (bc1 := 4) (bs1 := 3221) 46 (dx d_Suite_init 20 rfl) rfl rfl (Or.inl rfl) rfl ac_int rfl (by omega) rfl rfl hal (by first | omega | (simp only [List.length_append, List.length_cons, List.length_nil, List.length_replicate]; push_cast; omega)) (by omega) ?_
  refine aj_putf 49 pl_Suite_24 (dx d_Suite_init 21 rfl) rfl (sx_old (sx_old (sx_old (sx_old (sx_old hs))))) (aj_fitA _ _) ?_
  refine aj_aload_n 0 50 (dx d_Suite_init 22 rfl) rfl rfl rfl ?_
  refine aj_sipush 53 (dx d_Suite_init 23 rfl) rfl (by decide +kernel) ?_
  refine aj_newp (t0 := 0) (x := (p + 6)) (N := 800) (bc1 := 3) (bs1 := 2421) 55 (dx d_Suite_init 24 rfl) rfl rfl (Or.inl rfl) rfl ac_int rfl (by omega) rfl rfl hal (by first | omega | (simp only [List.length_append, List.length_cons, List.length_nil, List.length_replicate]; push_cast; omega)) (by omega) ?_
  refine aj_putf 58 pl_Suite_27 (dx d_Suite_init 25 rfl) rfl (sx_old (sx_old (sx_old (sx_old (sx_old (sx_old hs)))))) (aj_fitA _ _) ?_
  refine aj_aload_n 0 59 (dx d_Suite_init 26 rfl) rfl rfl rfl ?_
  refine aj_bipush 61 (dx d_Suite_init 27 rfl) rfl (by decide +kernel) ?_
  refine aj_newp (t0 := 0) (x := (p + 7)) (N := 8) (bc1 := 2) (bs1 := 2413) 63 (dx d_Suite_init 28 rfl) rfl rfl (Or.inl rfl) rfl ac_int rfl (by omega) rfl rfl hal (by first | omega | (simp only [List.length_append, List.length_cons, List.length_nil, List.length_replicate]; push_cast; omega)) (by omega) ?_
  refine aj_putf 66 pl_Suite_30 (dx d_Suite_init 29 rfl) rfl (sx_old (sx_old (sx_old (sx_old (sx_old (sx_old (sx_old hs))))))) (aj_fitA _ _) ?_
  refine aj_aload_n 0 67 (dx d_Suite_init 30 rfl) rfl rfl rfl ?_
  refine aj_bipush 69 (dx d_Suite_init 31 rfl) rfl (by decide +kernel) ?_
  refine aj_newp (t0 := 0) (x := (p + 8)) (N := 13) (bc1 := 1) (bs1 := 2400) 71 (dx d_Suite_init 32 rfl) rfl rfl (Or.inl rfl) rfl ac_int rfl (by omega) rfl rfl hal (by first | omega | (simp only [List.length_append, List.length_cons, List.length_nil, List.length_replicate]; push_cast; omega)) (by omega) ?_
  refine aj_putf 74 pl_Suite_33 (dx d_Suite_init 33 rfl) rfl (sx_old (sx_old (sx_old (sx_old (sx_old (sx_old (sx_old (sx_old hs)))))))) (aj_fitA _ _) ?_
  refine aj_aload_n 0 75 (dx d_Suite_init 34 rfl) rfl rfl rfl ?_
  refine aj_iconst 76 (dx d_Suite_init 35 rfl) rfl ?_
  refine aj_putf 79 (pl_Suite_36 _) (dx d_Suite_init 36 rfl) rfl (sx_old (sx_old (sx_old (sx_old (sx_old (sx_old (sx_old (sx_old hs)))))))) (aj_fitI _) ?_
  refine aj_aload_n 0 80 (dx d_Suite_init 37 rfl) rfl rfl rfl ?_
  refine aj_iconst 81 (dx d_Suite_init 38 rfl) rfl ?_
  refine aj_putf 84 (pl_Suite_40 _) (dx d_Suite_init 39 rfl) rfl (sx_old (sx_old (sx_old (sx_old (sx_old (sx_old (sx_old (sx_old hs)))))))) (aj_fitI _) ?_
  refine aj_aload_n 0 85 (dx d_Suite_init 40 rfl) rfl rfl rfl ?_
  refine aj_iconst 86 (dx d_Suite_init 41 rfl) rfl ?_
  refine aj_putf 89 (pl_Suite_43 _) (dx d_Suite_init 42 rfl) rfl (sx_old (sx_old (sx_old (sx_old (sx_old (sx_old (sx_old (sx_old hs)))))))) (aj_fitZ (by omega)) ?_
  refine aj_aload_n 0 90 (dx d_Suite_init 43 rfl) rfl rfl rfl ?_
  refine aj_aload_n 1 91 (dx d_Suite_init 44 rfl) rfl rfl rfl ?_
  refine aj_putf 94 pl_Suite_47 (dx d_Suite_init 45 rfl) rfl (sx_old (sx_old (sx_old (sx_old (sx_old (sx_old (sx_old (sx_old hs)))))))) (aj_fitO _ _) ?_
  refine aj_aload_n 0 95 (dx d_Suite_init 46 rfl) rfl rfl rfl ?_
  refine aj_aload_n 2 96 (dx d_Suite_init 47 rfl) rfl rfl rfl ?_
  refine aj_putf 99 pl_Suite_51 (dx d_Suite_init 48 rfl) rfl (sx_old (sx_old (sx_old (sx_old (sx_old (sx_old (sx_old (sx_old hs)))))))) (aj_fitO _ _) ?_
  refine aj_aload_n 0 100 (dx d_Suite_init 49 rfl) rfl rfl rfl ?_
  refine aj_aload_n 1 101 (dx d_Suite_init 50 rfl) rfl rfl rfl ?_
  refine aj_getfv (v := 10) 104 fl_Suite_55 (dx d_Suite_init 51 rfl) rfl (sx_old (sx_old (sx_old (sx_old (sx_old (sx_old (sx_old (sx_old hr4)))))))) (by (repeat (first | rw [aj_up_self] | rw [aj_up_ne _ _ _ (by omega)] | rw [aj_up_ni _ _ _ (by omega)] | rw [aj_nw_ne _ _ (by omega)] | rw [aj_nw_self])); exact hg4) ?_
  refine aj_putf 107 pl_Suite_61 (dx d_Suite_init 52 rfl) rfl (sx_old (sx_old (sx_old (sx_old (sx_old (sx_old (sx_old (sx_old hs)))))))) (aj_fitO _ _) ?_
  refine aj_aload_n 0 108 (dx d_Suite_init 53 rfl) rfl rfl rfl ?_
  refine aj_sipush 111 (dx d_Suite_init 54 rfl) rfl (by decide +kernel) ?_
  refine aj_aload_n 0 112 (dx d_Suite_init 55 rfl) rfl rfl rfl ?_
  refine aj_getfv (v := 10) 115 fl_Suite_61 (dx d_Suite_init 56 rfl) rfl (sx_old (sx_old (sx_old (sx_old (sx_old (sx_old (sx_old (sx_old hs)))))))) (by (repeat (first | rw [aj_up_self] | rw [aj_up_ne _ _ _ (by omega)] | rw [aj_up_ni _ _ _ (by omega)] | rw [aj_nw_ne _ _ (by omega)] | rw [aj_nw_self]))) ?_
  refine aj_getfv (v := (k : Int)) 118 fl_Suite_62 (dx d_Suite_init 57 rfl) rfl (sx_old (sx_old (sx_old (sx_old (sx_old (sx_old (sx_old (sx_old hm10)))))))) (by (repeat (first | rw [aj_up_self] | rw [aj_up_ne _ _ _ (by omega)] | rw [aj_up_ni _ _ _ (by omega)] | rw [aj_nw_ne _ _ (by omega)] | rw [aj_nw_self])); exact hg10) ?_
  refine aj_imul 119 (dx d_Suite_init 58 rfl) rfl ?_
  refine aj_newp (t0 := 0) (x := (p + 9)) (N := 800 * k) (bc1 := 0) (bs1 := (2400 - 800 * k)) 121 (dx d_Suite_init 59 rfl) rfl rfl (Or.inl rfl) rfl ac_int (Int.natCast_mul _ _) (by omega) rfl (by omega) hal (by first | omega | (simp only [List.length_append, List.length_cons, List.length_nil, List.length_replicate]; push_cast; omega)) (by omega) ?_
  refine aj_putf 124 pl_Suite_67 (dx d_Suite_init 60 rfl) rfl (sx_old (sx_old (sx_old (sx_old (sx_old (sx_old (sx_old (sx_old (sx_old hs))))))))) (aj_fitA _ _) ?_
  refine aj_vret (dx d_Suite_init 61 rfl) rfl id ?_
  refine hk _ (fun r' h => ?_) ⟨?_, ?_, ?_, ?_, ?_, ?_, ?_, ?_, ?_, ?_, ?_, ?_, ?_, ?_⟩
  · (repeat (first | rw [aj_up_self] | rw [aj_up_ne _ _ _ (by omega)] | rw [aj_up_ni _ _ _ (by omega)] | rw [aj_nw_ne _ _ (by omega)] | rw [aj_nw_self]))
  · (repeat (first | rw [aj_up_self] | rw [aj_up_ne _ _ _ (by omega)] | rw [aj_up_ni _ _ _ (by omega)] | rw [aj_nw_ne _ _ (by omega)] | rw [aj_nw_self]))
  · (repeat (first | rw [aj_up_self] | rw [aj_up_ne _ _ _ (by omega)] | rw [aj_up_ni _ _ _ (by omega)] | rw [aj_nw_ne _ _ (by omega)] | rw [aj_nw_self]))
  · (repeat (first | rw [aj_up_self] | rw [aj_up_ne _ _ _ (by omega)] | rw [aj_up_ni _ _ _ (by omega)] | rw [aj_nw_ne _ _ (by omega)] | rw [aj_nw_self]))
  · (repeat (first | rw [aj_up_self] | rw [aj_up_ne _ _ _ (by omega)] | rw [aj_up_ni _ _ _ (by omega)] | rw [aj_nw_ne _ _ (by omega)] | rw [aj_nw_self]))
  · (repeat (first | rw [aj_up_self] | rw [aj_up_ne _ _ _ (by omega)] | rw [aj_up_ni _ _ _ (by omega)] | rw [aj_nw_ne _ _ (by omega)] | rw [aj_nw_self]))
  · (repeat (first | rw [aj_up_self] | rw [aj_up_ne _ _ _ (by omega)] | rw [aj_up_ni _ _ _ (by omega)] | rw [aj_nw_ne _ _ (by omega)] | rw [aj_nw_self]))
  · (repeat (first | rw [aj_up_self] | rw [aj_up_ne _ _ _ (by omega)] | rw [aj_up_ni _ _ _ (by omega)] | rw [aj_nw_ne _ _ (by omega)] | rw [aj_nw_self]))
  · (repeat (first | rw [aj_up_self] | rw [aj_up_ne _ _ _ (by omega)] | rw [aj_up_ni _ _ _ (by omega)] | rw [aj_nw_ne _ _ (by omega)] | rw [aj_nw_self]))
  · (repeat (first | rw [aj_up_self] | rw [aj_up_ne _ _ _ (by omega)] | rw [aj_up_ni _ _ _ (by omega)] | rw [aj_nw_ne _ _ (by omega)] | rw [aj_nw_self]))
  · (repeat (first | rw [aj_up_self] | rw [aj_up_ne _ _ _ (by omega)] | rw [aj_up_ni _ _ _ (by omega)] | rw [aj_nw_ne _ _ (by omega)] | rw [aj_nw_self]))
  · (repeat (first | rw [aj_up_self] | rw [aj_up_ne _ _ _ (by omega)] | rw [aj_up_ni _ _ _ (by omega)] | rw [aj_nw_ne _ _ (by omega)] | rw [aj_nw_self]))
  · (repeat (first | rw [aj_up_self] | rw [aj_up_ne _ _ _ (by omega)] | rw [aj_up_ni _ _ _ (by omega)] | rw [aj_nw_ne _ _ (by omega)] | rw [aj_nw_self]))
  · (repeat (first | rw [aj_up_self] | rw [aj_up_ne _ _ _ (by omega)] | rw [aj_up_ni _ _ _ (by omega)] | rw [aj_nw_ne _ _ (by omega)] | rw [aj_nw_self]))
  · (repeat (first | rw [aj_up_self] | rw [aj_up_ne _ _ _ (by omega)] | rw [aj_up_ni _ _ _ (by omega)] | rw [aj_nw_ne _ _ (by omega)] | rw [aj_nw_self]))
