/-! the judgement: fields, arrays, new cells -/
def aj_dv (k : Nat) : Int := if k = 1 then -1 else 0
theorem aj_dflt {a : Nat → Nat} {t : FieldType} (h : aj_smp t = true) : defaultValue t = aj_c a (aj_kd t, aj_dv (aj_kd t)) := by
  cases t <;> first | (exact absurd h (by decide)) | (simp [aj_kd, aj_dv, aj_c, aj_rf, va_rf, defaultValue]; try rfl)
def aj_fl (E : aj_E) (own : String) (index ci t : Nat) (jz : Int) : Prop := ∃ (C : String) (T : u_T) (N j : Nat), E.1[ci]? = some (C, T, N) ∧ j < N ∧ ((j : Nat) : Int) = jz ∧ E.2.2.1 ci j = t ∧ Cond.fieldLink own index (T j).1 (T j).2.1 (T j).2.2.1 ∈ E.2.2.2.1
def aj_pl (E : aj_E) (own mname : String) (index ci t : Nat) (jz : Int) (ty : FieldType) : Prop := ∃ (C : String) (T : u_T) (N j : Nat), E.1[ci]? = some (C, T, N) ∧ j < N ∧ ((j : Nat) : Int) = jz ∧ E.2.2.1 ci j = t ∧ Cond.fieldLink own index (T j).1 (T j).2.1 (T j).2.2.1 ∈ E.2.2.2.1 ∧
  parseFieldDescriptor (T j).2.2.1 = some ty ∧ ((T j).2.2.2 = false ∨ ((T j).2.2.2 = true ∧ mname = "<init>" ∧ (T j).1 = own))
def aj_fit (ty : FieldType) (v : aj_A) : Prop := ∀ a, narrow ty (aj_c a v) = aj_c a v ∧ fits ty (aj_c a v) = true
theorem aj_fitI (x : Int) : aj_fit .int (0, x) := fun _ => ⟨rfl, rfl⟩
theorem aj_fitJ (x : Int) : aj_fit .long (2, x) := fun _ => ⟨rfl, rfl⟩
theorem aj_fitZ {x : Int} (h : x = 0 ∨ x = 1) : aj_fit .boolean (0, x) := by
  intro a
  rw [aj_c0]
  rcases h with rfl | rfl
  · exact ⟨by decide +kernel, by decide +kernel⟩
  · exact ⟨by decide +kernel, by decide +kernel⟩
theorem aj_fitO (C : String) (x : Int) : aj_fit (.object C) (1, x) := by
  intro a
  rw [aj_c1]
  by_cases h : x < 0
  · rw [aj_rfn h]; exact ⟨rfl, rfl⟩
  · rw [aj_rfp (by omega)]; exact ⟨rfl, rfl⟩
theorem aj_fitA (t : FieldType) (x : Int) : aj_fit (.array t) (1, x) := by
  intro a
  rw [aj_c1]
  by_cases h : x < 0
  · rw [aj_rfn h]; exact ⟨rfl, rfl⟩
  · rw [aj_rfp (by omega)]; exact ⟨rfl, rfl⟩
theorem aj_vpV {N i : Nat} {F : Nat → Value} (h : i < N) : vp_V ((List.range N).map F) i = F i := by
  unfold vp_V
  rw [List.getD_eq_getElem?_getD, List.getElem?_map, List.getElem?_range h]
  rfl
section AJH
variable {E : aj_E} {al ao : Prop} {X : Option (Nat × (Int → Int))} {M : aj_M} {d bc bs pc : Nat} {lv : List (Option aj_A)} {st : List aj_A} {sh : List aj_S} {g : aj_G} {Q : aj_R → List aj_S → aj_G → Prop}
theorem aj_getf {index ci t : Nat} {jz r : Int} (q : Nat) (hf : aj_fl E M.1.cls index ci t jz) (hd : decode M.2.1 pc = .ok (.getfield index, 3)) (hq : pc + 3 = q) (hs : aj_sh sh r = some (.inr ci)) (k : aj_wp E al ao X M d bc bs q lv ((t, g r jz) :: st) sh g Q) : aj_wp E al ao X M d bc bs pc lv ((1, r) :: st) sh g Q := by
  subst hq
  intro p l e R s m args below meth c H locs cells slots ls a tc D A hc0
  have kk := k p l e R s m args below meth c H locs cells slots ls a tc D A hc0
  obtain ⟨h1, h2, h3, ⟨hP, hK, hD, hS, hA⟩, h5, h6, h7⟩ := hc0
  obtain ⟨C, T, N, j, hc, hj, rfl, ht, hw⟩ := hf
  obtain ⟨h0, -⟩ := aj_sh_get hs
  have he := aj_w_get (E := E) (tc := tc) (a := a) (g := g) hs
  rw [List.map_cons, aj_cr h0]
  refine va_get (D := D) (Ts := E.2.2.2.1) h1.1 h1.2.1 h1.2.2.2.2 (h7.1.2 ci _ hc).1 h1.2.2.2.1 hK hP r.toNat he hc j hj (h1.2.2.2.2 _ hw) (fun x hx => hx) (v := aj_c a (t, g r j)) ?_ hd kk
  rw [aj_nf_of hc, List.getElem?_map, List.getElem?_range hj, ← ht]
  rfl
theorem aj_putf {index ci t : Nat} {jz r x : Int} {ty : FieldType} (q : Nat) (hf : aj_pl E M.1.cls M.1.name index ci t jz ty) (hdg : decode M.2.1 pc = .ok (.putfield index, 3)) (hq : pc + 3 = q) (hs : aj_sh sh r = some (.inr ci)) (hfit : aj_fit ty (t, x)) (k : aj_wp E al ao X M d bc bs q lv st sh (aj_up g r jz x) Q) : aj_wp E al ao X M d bc bs pc lv ((t, x) :: (1, r) :: st) sh g Q := by
  subst hq
  intro p l e R s m args below meth c H locs cells slots ls a tc D A hc0
  obtain ⟨h1, h2, h3, ⟨hP, hK, hD, hS, hA⟩, h5, h6, h7⟩ := hc0
  obtain ⟨C, T, N, j, hc, hj, rfl, ht, hw, hd, hfin⟩ := hf
  obtain ⟨h0, -⟩ := aj_sh_get hs
  have he := aj_w_get (E := E) (tc := tc) (a := a) (g := g) hs
  obtain ⟨hin, hnm, ty0, htys, hkd⟩ := h7.1.2 ci _ hc
  have hts := h1.2.2.2.2
  rw [List.map_cons, List.map_cons, aj_cr h0]
  have hap := va_apart (own := M.1.cls) hts hin ty0 htys hnm hK hc
  obtain ⟨r', hr', cell, q1, q2, q3, q4⟩ := hP _ _ he
  have hrr : r' = (C, T, N) := Option.some.inj (hr'.symm.trans hc)
  subst hrr
  obtain ⟨hSl, hfc, kC, hkC, hkind⟩ := hK.1 ci _ hc
  obtain ⟨cf, kf, fi, f, hi, hsl⟩ := hSl j hj
  have hst := (u_facts hfc hkC (u_lays hts hin hj) hi).1
  have kk : ∀ H' : Heap, H'[a r.toNat]? = some (cell.setSlot f.slot (aj_c a (t, x))) → H'.size = H.size → (∀ q, q ≠ a r.toNat → H'[q]? = H[q]?) → W p l e R s m args below meth c H' (locs ++ [⟨a r.toNat, f.slot⟩]) cells slots (aj_fin E ao a tc D A Q below s (cells + bc) (slots + bs)) (F0 m (pc + 3) ls (st.map (aj_c a))) := by
    intro H' e1 e2 e3
    rw [hsl] at e1
    have hcell : va_at D E.1 (a r.toNat, aj_cell E tc a (.inr ci) (aj_up g r j x r)) H' := by
      refine ⟨_, hc, t_OB.to (V := updV (vp_V ((List.range (aj_nf E ci)).map (fun j => aj_c a (E.2.2.1 ci j, g r (j : Nat))))) j (aj_c a (t, x))) ⟨_, e1, q2, q3, t_set q4 hap hj _⟩ (fun i hi => ?_)⟩
      rw [aj_nf_of hc]
      show updV _ j _ i = vp_V _ i
      rw [aj_vpV hi]
      unfold updV
      by_cases hij : i = j
      · subst hij
        rw [if_pos rfl, aj_up_self, ht]
      · rw [if_neg hij, aj_vpV hi, aj_up_ni g r x (fun e => hij (by omega))]
    have hset := aj_w_set (E := E) (tc := tc) (a := a) (g := g) (g' := aj_up g r j x) hs rfl (fun r' hr' => aj_up_ne g j x hr')
    have hP2 := hP.set hD he hcell e3
    rw [hset] at hP2
    have hD2 := hD.set (e := aj_cell E tc a (.inr ci) (aj_up g r j x r)) he
    rw [hset] at hD2
    exact k p l e R s m args below meth c H' _ cells slots ls a tc D A ⟨h1, h2, h3, ⟨hP2, hK, hD2, hS.put e2 e3 (hD.2 _ _ he), hA⟩, h5, by rw [e2]; exact h6, h7⟩
  rcases hfin with hf0 | ⟨hf1, hnm1, hdecl⟩
  · have hlay := hts _ (hin _ (u_in_lay hj))
    unfold u_lay at hlay
    rw [if_neg (by rw [hf0]; decide)] at hlay
    have h8 := u_store hfc hkC hkind hlay hi hd (hfit a).1 (hfit a).2
    exact W.putK h1.1 h1.2.1 (f := f) ⟨h1.2.2.2.1, hts _ hw, ⟨_, _, _, hi⟩, hst⟩ (by rw [q2]; exact h8) q1 q3 (by rw [hsl]; exact k2_hasslot (q4 j hj)) rfl rfl hdg kk
  · have hlay := hts _ (hin _ (u_in_lay hj))
    unfold u_lay at hlay
    rw [if_pos hf1] at hlay
    have hcf : m.cls = cf := by
      obtain ⟨_, _, c', _, _, _, -, -, hf', -, -, -, hown2, -⟩ := Cond.laysFinal_spec hlay
      have e1 : c' = cf := by have := hi.symm.trans hf'; simp at this; exact this.1.symm
      rw [hdecl] at hown2
      rw [← e1]; exact Option.some.inj (h1.2.2.2.1.symm.trans hown2)
    have h8 := u_fits hfc hkC hkind (Or.inr hlay) hi hd (hfit a).1 (hfit a).2
    exact W.putFinK h1.1 h1.2.1 h1.2.2.2.1 (hts _ hw) hi hst hcf (h2.2.2.1.trans hnm1) (by rw [q2]; exact h8) q1 q3 (by rw [hsl]; exact k2_hasslot (q4 j hj)) rfl rfl hdg kk
/-! arrays -/
theorem aj_at {tc a : Nat → Nat} {D : va_G} {H : Heap} {r : Int} {t0 n : Nat} {V : Int → Value} (hP : va_P D E.1 (aj_w E tc a sh g) H) (hs : aj_sh sh r = some (.inl (t0, n))) (hV : ∀ f : Int → Int, vp_cell (tc t0) (n, aj_row a E.2.1[t0]? f) = arrV (tc t0) n (fun j => V (f j))) : H[a r.toNat]? = some (arrV (tc t0) n (fun j => V (g r j))) := by
  have h := hP _ _ (aj_w_get (E := E) (tc := tc) (a := a) (g := g) hs)
  rw [← hV (g r)]
  exact h
theorem aj_aset {tc a : Nat → Nat} {D : va_G} {A : Nat → Prop} {H H1 : Heap} {r i x : Int} {t0 n : Nat} {V : Int → Value} (hP : va_P D E.1 (aj_w E tc a sh g) H) (hD : va_D A (aj_w E tc a sh g)) (hs : aj_sh sh r = some (.inl (t0, n))) (hV : ∀ f : Int → Int, vp_cell (tc t0) (n, aj_row a E.2.1[t0]? f) = arrV (tc t0) n (fun j => V (f j))) (h0 : 0 ≤ i)
    (e : H1[a r.toNat]? = some ((arrV (tc t0) n (fun j => V (g r j))).setSlot i.toNat (V x))) (oq : ∀ q : Nat, q ≠ a r.toNat → H1[q]? = H[q]?) : va_P D E.1 (aj_w E tc a sh (aj_up g r i x)) H1 ∧ va_D A (aj_w E tc a sh (aj_up g r i x)) := by
  have he := aj_w_get (E := E) (tc := tc) (a := a) (g := g) hs
  have hset := aj_w_set (E := E) (tc := tc) (a := a) (g := g) (g' := aj_up g r i x) hs rfl (fun r' hr' => aj_up_ne g i x hr')
  have hcell : va_at D E.1 (a r.toNat, aj_cell E tc a (.inl (t0, n)) (aj_up g r i x r)) H1 := by
    show H1[a r.toNat]? = some (vp_cell (tc t0) (n, aj_row a E.2.1[t0]? (aj_up g r i x r)))
    rw [hV, e, arrV_store]
    congr 2
    funext q
    unfold updV
    by_cases hq : q = i.toNat
    · rw [if_pos hq, hq, Int.toNat_of_nonneg h0, aj_up_self]
    · rw [if_neg hq, aj_up_ni g r x (fun z => hq (by omega))]
  have hP2 := hP.set hD he hcell oq
  have hD2 := hD.set (e := aj_cell E tc a (.inl (t0, n)) (aj_up g r i x r)) he
  rw [hset] at hP2 hD2
  exact ⟨hP2, hD2⟩
theorem aj_rowi {tc a : Nat → Nat} {t0 n : Nat} {ty : FieldType} (ht : E.2.1[t0]? = some ty) (h : ty = .int ∨ ty = .boolean) (f : Int → Int) : vp_cell (tc t0) (n, aj_row a E.2.1[t0]? f) = arrV (tc t0) n (fun j => .int (Int32.ofInt (f j))) := by
  rw [ht]
  rcases h with rfl | rfl <;> rfl
theorem aj_rowl {tc a : Nat → Nat} {t0 n : Nat} (ht : E.2.1[t0]? = some .long) (f : Int → Int) : vp_cell (tc t0) (n, aj_row a E.2.1[t0]? f) = arrV (tc t0) n (fun j => .long (Int64.ofInt (f j))) := by
  rw [ht]
  rfl
theorem aj_rowr {tc a : Nat → Nat} {t0 n : Nat} {ty : FieldType} (ht : E.2.1[t0]? = some ty) (h : ty.isReference = true) (f : Int → Int) : vp_cell (tc t0) (n, aj_row a E.2.1[t0]? f) = arrV (tc t0) n (fun j => va_rf (aj_rf a (f j))) := by
  rw [ht]
  cases ty <;> first | rfl | exact absurd h (by decide)
theorem aj_arr {tc : Nat → Nat} {D : va_G} {s : State} {t0 : Nat} {ty : FieldType} (hK : va_K D E.1 (aj_ty tc E.2.1) s) (ht : E.2.1[t0]? = some ty) (n : Nat) (z : Nat → Value) : s.isArrayOf (arrV (tc t0) n z) ty := (hK.2 t0 _ (aj_ty_at ht)).1 n z
theorem aj_sz {cA : ClassId} {n : Nat} {z : Nat → Value} {i : Int32} (h : vp_in i n) : ¬ (i < 0 ∨ (arrV cA n z).slots.size ≤ i.toNatClampNeg) := by
  rw [arrV_size]
  exact h
theorem aj_iald {r i : Int} {t0 n : Nat} (q : Nat) (hd : decode M.2.1 pc = .ok (.iaload, 1)) (hq : pc + 1 = q) (hs : aj_sh sh r = some (.inl (t0, n))) (ht : E.2.1[t0]? = some .int) (h0 : 0 ≤ i) (hi : i < n) (k : aj_wp E al ao X M d bc bs q lv ((0, g r i) :: st) sh g Q) : aj_wp E al ao X M d bc bs pc lv ((0, i) :: (1, r) :: st) sh g Q := by
  subst hq
  intro p l e R s m args below meth c H locs cells slots ls a tc D A hc0
  have kk := k p l e R s m args below meth c H locs cells slots ls a tc D A hc0
  obtain ⟨h1, h2, h3, ⟨hP, hK, hD, hS, hA⟩, h5, h6, h7⟩ := hc0
  obtain ⟨hr0, hr1⟩ := aj_sh_get hs
  have hn := h6.2 _ _ _ hr1
  rw [List.map_cons, List.map_cons, aj_cr hr0]
  have hcl := aj_clamp h0 hi hn
  refine W.iald (v := aj_c a (0, g r i)) h1.1 h1.2.1 (aj_at (V := fun x => .int (Int32.ofInt x)) hP hs (aj_rowi ht (Or.inl rfl))) (aj_arr hK ht _ _) (fun q => by cases q) (aj_sz (aj_in h0 hi hn)) ?_ rfl rfl hd kk
  rw [hcl, arrV_read _ _ (by omega), Int.toNat_of_nonneg h0]
  rfl
theorem aj_zald {r i : Int} {t0 n : Nat} (q : Nat) (hd : decode M.2.1 pc = .ok (.baload, 1)) (hq : pc + 1 = q) (hs : aj_sh sh r = some (.inl (t0, n))) (ht : E.2.1[t0]? = some .boolean) (h0 : 0 ≤ i) (hi : i < n) (k : aj_wp E al ao X M d bc bs q lv ((0, g r i) :: st) sh g Q) : aj_wp E al ao X M d bc bs pc lv ((0, i) :: (1, r) :: st) sh g Q := by
  subst hq
  intro p l e R s m args below meth c H locs cells slots ls a tc D A hc0
  have kk := k p l e R s m args below meth c H locs cells slots ls a tc D A hc0
  obtain ⟨h1, h2, h3, ⟨hP, hK, hD, hS, hA⟩, h5, h6, h7⟩ := hc0
  obtain ⟨hr0, hr1⟩ := aj_sh_get hs
  have hn := h6.2 _ _ _ hr1
  rw [List.map_cons, List.map_cons, aj_cr hr0]
  have hcl := aj_clamp h0 hi hn
  refine W.zald (v := aj_c a (0, g r i)) h1.1 h1.2.1 (aj_at (V := fun x => .int (Int32.ofInt x)) hP hs (aj_rowi ht (Or.inr rfl))) (aj_arr hK ht _ _) (fun q => by cases q) (aj_sz (aj_in h0 hi hn)) ?_ rfl rfl hd kk
  rw [hcl, arrV_read _ _ (by omega), Int.toNat_of_nonneg h0]
  rfl
theorem aj_lald {r i : Int} {t0 n : Nat} (q : Nat) (hd : decode M.2.1 pc = .ok (.laload, 1)) (hq : pc + 1 = q) (hs : aj_sh sh r = some (.inl (t0, n))) (ht : E.2.1[t0]? = some .long) (h0 : 0 ≤ i) (hi : i < n) (k : aj_wp E al ao X M d bc bs q lv ((2, g r i) :: st) sh g Q) : aj_wp E al ao X M d bc bs pc lv ((0, i) :: (1, r) :: st) sh g Q := by
  subst hq
  intro p l e R s m args below meth c H locs cells slots ls a tc D A hc0
  have kk := k p l e R s m args below meth c H locs cells slots ls a tc D A hc0
  obtain ⟨h1, h2, h3, ⟨hP, hK, hD, hS, hA⟩, h5, h6, h7⟩ := hc0
  obtain ⟨hr0, hr1⟩ := aj_sh_get hs
  have hn := h6.2 _ _ _ hr1
  rw [List.map_cons, List.map_cons, aj_cr hr0]
  have hcl := aj_clamp h0 hi hn
  refine W.lald (v := aj_c a (2, g r i)) h1.1 h1.2.1 (aj_at (V := fun x => .long (Int64.ofInt x)) hP hs (aj_rowl ht)) (aj_arr hK ht _ _) (fun q => by cases q) (aj_sz (aj_in h0 hi hn)) ?_ rfl rfl hd kk
  rw [hcl, arrV_read _ _ (by omega), Int.toNat_of_nonneg h0]
  rfl
theorem aj_aald {r i : Int} {t0 n : Nat} {ty : FieldType} (q : Nat) (hd : decode M.2.1 pc = .ok (.aaload, 1)) (hq : pc + 1 = q) (hs : aj_sh sh r = some (.inl (t0, n))) (ht : E.2.1[t0]? = some ty) (hty : ty.isReference = true) (h0 : 0 ≤ i) (hi : i < n) (k : aj_wp E al ao X M d bc bs q lv ((1, g r i) :: st) sh g Q) : aj_wp E al ao X M d bc bs pc lv ((0, i) :: (1, r) :: st) sh g Q := by
  subst hq
  intro p l e R s m args below meth c H locs cells slots ls a tc D A hc0
  have kk := k p l e R s m args below meth c H locs cells slots ls a tc D A hc0
  obtain ⟨h1, h2, h3, ⟨hP, hK, hD, hS, hA⟩, h5, h6, h7⟩ := hc0
  obtain ⟨hr0, hr1⟩ := aj_sh_get hs
  have hn := h6.2 _ _ _ hr1
  rw [List.map_cons, List.map_cons, aj_cr hr0]
  have hcl := aj_clamp h0 hi hn
  refine W.aald (v := aj_c a (1, g r i)) h1.1 h1.2.1 (aj_at (V := fun x => va_rf (aj_rf a x)) hP hs (aj_rowr ht hty)) (aj_arr hK ht _ _) hty (fun q => by cases q) (aj_sz (aj_in h0 hi hn)) ?_ rfl rfl hd kk
  rw [hcl, arrV_read _ _ (by omega), Int.toNat_of_nonneg h0]
  rfl
theorem aj_iast {r i x : Int} {t0 n : Nat} (q : Nat) (hd : decode M.2.1 pc = .ok (.iastore, 1)) (hq : pc + 1 = q) (hs : aj_sh sh r = some (.inl (t0, n))) (ht : E.2.1[t0]? = some .int) (h0 : 0 ≤ i) (hi : i < n) (k : aj_wp E al ao X M d bc bs q lv st sh (aj_up g r i x) Q) : aj_wp E al ao X M d bc bs pc lv ((0, x) :: (0, i) :: (1, r) :: st) sh g Q := by
  subst hq
  intro p l e R s m args below meth c H locs cells slots ls a tc D A hc0
  obtain ⟨h1, h2, h3, ⟨hP, hK, hD, hS, hA⟩, h5, h6, h7⟩ := hc0
  obtain ⟨hr0, hr1⟩ := aj_sh_get hs
  have hn := h6.2 _ _ _ hr1
  rw [List.map_cons, List.map_cons, List.map_cons, aj_cr hr0]
  have hcl := aj_clamp h0 hi hn
  refine W.iast (x := Int32.ofInt x) h1.1 h1.2.1 (aj_at (V := fun x => .int (Int32.ofInt x)) hP hs (aj_rowi ht (Or.inl rfl))) (aj_arr hK ht _ _) (fun q => by cases q) (aj_sz (aj_in h0 hi hn)) rfl rfl hd fun H1 e1 z oq => ?_
  rw [hcl] at e1
  obtain ⟨hP2, hD2⟩ := aj_aset (V := fun x => .int (Int32.ofInt x)) hP hD hs (aj_rowi ht (Or.inl rfl)) h0 e1 oq
  exact k p l e R s m args below meth c H1 _ cells slots ls a tc D A ⟨h1, h2, h3, ⟨hP2, hK, hD2, hS.put z oq (hD.2 _ _ (aj_w_get hs)), hA⟩, h5, by rw [z]; exact h6, h7⟩
theorem aj_zast {r i x : Int} {t0 n : Nat} (q : Nat) (hd : decode M.2.1 pc = .ok (.bastore, 1)) (hq : pc + 1 = q) (hs : aj_sh sh r = some (.inl (t0, n))) (ht : E.2.1[t0]? = some .boolean) (h0 : 0 ≤ i) (hi : i < n) (hx : x = 0 ∨ x = 1) (k : aj_wp E al ao X M d bc bs q lv st sh (aj_up g r i x) Q) : aj_wp E al ao X M d bc bs pc lv ((0, x) :: (0, i) :: (1, r) :: st) sh g Q := by
  subst hq
  intro p l e R s m args below meth c H locs cells slots ls a tc D A hc0
  obtain ⟨h1, h2, h3, ⟨hP, hK, hD, hS, hA⟩, h5, h6, h7⟩ := hc0
  obtain ⟨hr0, hr1⟩ := aj_sh_get hs
  have hn := h6.2 _ _ _ hr1
  rw [List.map_cons, List.map_cons, List.map_cons, aj_cr hr0]
  have hcl := aj_clamp h0 hi hn
  refine W.zast (x := Int32.ofInt x) h1.1 h1.2.1 (aj_at (V := fun x => .int (Int32.ofInt x)) hP hs (aj_rowi ht (Or.inr rfl))) (aj_arr hK ht _ _) (fun q => by cases q) (aj_sz (aj_in h0 hi hn)) rfl rfl hd fun H1 e1 z oq => ?_
  have hnar : narrow .boolean (.int (Int32.ofInt x)) = .int (Int32.ofInt x) := by
    rcases hx with rfl | rfl <;> decide +kernel
  rw [hcl, hnar] at e1
  obtain ⟨hP2, hD2⟩ := aj_aset (V := fun x => .int (Int32.ofInt x)) hP hD hs (aj_rowi ht (Or.inr rfl)) h0 e1 oq
  exact k p l e R s m args below meth c H1 _ cells slots ls a tc D A ⟨h1, h2, h3, ⟨hP2, hK, hD2, hS.put z oq (hD.2 _ _ (aj_w_get hs)), hA⟩, h5, by rw [z]; exact h6, h7⟩
theorem aj_last {r i x : Int} {t0 n : Nat} (q : Nat) (hd : decode M.2.1 pc = .ok (.lastore, 1)) (hq : pc + 1 = q) (hs : aj_sh sh r = some (.inl (t0, n))) (ht : E.2.1[t0]? = some .long) (h0 : 0 ≤ i) (hi : i < n) (k : aj_wp E al ao X M d bc bs q lv st sh (aj_up g r i x) Q) : aj_wp E al ao X M d bc bs pc lv ((2, x) :: (0, i) :: (1, r) :: st) sh g Q := by
  subst hq
  intro p l e R s m args below meth c H locs cells slots ls a tc D A hc0
  obtain ⟨h1, h2, h3, ⟨hP, hK, hD, hS, hA⟩, h5, h6, h7⟩ := hc0
  obtain ⟨hr0, hr1⟩ := aj_sh_get hs
  have hn := h6.2 _ _ _ hr1
  rw [List.map_cons, List.map_cons, List.map_cons, aj_cr hr0]
  have hcl := aj_clamp h0 hi hn
  refine W.last (x := Int64.ofInt x) h1.1 h1.2.1 (aj_at (V := fun x => .long (Int64.ofInt x)) hP hs (aj_rowl ht)) (aj_arr hK ht _ _) (fun q => by cases q) (aj_sz (aj_in h0 hi hn)) rfl rfl hd fun H1 e1 z oq => ?_
  rw [hcl] at e1
  obtain ⟨hP2, hD2⟩ := aj_aset (V := fun x => .long (Int64.ofInt x)) hP hD hs (aj_rowl ht) h0 e1 oq
  exact k p l e R s m args below meth c H1 _ cells slots ls a tc D A ⟨h1, h2, h3, ⟨hP2, hK, hD2, hS.put z oq (hD.2 _ _ (aj_w_get hs)), hA⟩, h5, by rw [z]; exact h6, h7⟩
/-- a reference to an object of the class that the array's elements have -/
theorem aj_aast {r i x : Int} {t0 n ci : Nat} {rc : vw_C} (q : Nat) (hd : decode M.2.1 pc = .ok (.aastore, 1)) (hq : pc + 1 = q) (hs : aj_sh sh r = some (.inl (t0, n))) (hc : E.1[ci]? = some rc) (ht : E.2.1[t0]? = some (.object rc.1)) (hx : aj_sh sh x = some (.inr ci)) (h0 : 0 ≤ i) (hi : i < n) (k : aj_wp E al ao X M d bc bs q lv st sh (aj_up g r i x) Q) : aj_wp E al ao X M d bc bs pc lv ((1, x) :: (0, i) :: (1, r) :: st) sh g Q := by
  subst hq
  intro p l e R s m args below meth c H locs cells slots ls a tc D A hc0
  obtain ⟨h1, h2, h3, ⟨hP, hK, hD, hS, hA⟩, h5, h6, h7⟩ := hc0
  obtain ⟨hr0, hr1⟩ := aj_sh_get hs
  obtain ⟨hx0, hx1⟩ := aj_sh_get hx
  have hn := h6.2 _ _ _ hr1
  rw [List.map_cons, List.map_cons, List.map_cons, aj_cr hr0, aj_cr hx0]
  have hcl := aj_clamp h0 hi hn
  have hin := aj_in h0 hi hn
  have hlt : (Int32.ofInt i).toNatClampNeg < n := Nat.not_le.mp fun q => hin (Or.inr q)
  have hneg : ¬ Int32.ofInt i < 0 := fun q => hin (Or.inl q)
  obtain ⟨r', hr', cellV, g1, g2, g3, -⟩ := hP _ _ (aj_w_get (E := E) (tc := tc) (a := a) (g := g) hx)
  have hcls := (hK.1 ci rc hc).2
  obtain ⟨kA, comp, k1, k2, k3, -⟩ := (hK.2 t0 _ (aj_ty_at ht)).2
  have hcomp : comp = D.1 ci := Option.some.inj (k3.symm.trans hcls.1)
  subst hcomp
  obtain ⟨kC, hkC, -⟩ := hcls.2
  refine W.aast h1.1 h1.2.1 (aj_at (V := fun x => va_rf (aj_rf a x)) hP hs (aj_rowr ht rfl)) (fun q h => by cases h) (fun h => by cases h) k1 k2 rfl hkC ⟨hneg, by rw [arrV_size]; exact hlt⟩ g1 (fun q h => by rw [g3] at h; cases h) (by rw [g2]; exact hkC) (by rw [g2]; exact va_assign hcls) rfl rfl hd fun H1 e1 z oq => ?_
  have hV : (Value.ref (a x.toNat)) = va_rf (aj_rf a x) := by rw [aj_rfp hx0]; rfl
  rw [hcl, hV] at e1
  obtain ⟨hP2, hD2⟩ := aj_aset (V := fun x => va_rf (aj_rf a x)) hP hD hs (aj_rowr ht rfl) h0 e1 oq
  exact k p l e R s m args below meth c H1 _ cells slots ls a tc D A ⟨h1, h2, h3, ⟨hP2, hK, hD2, hS.put z oq (hD.2 _ _ (aj_w_get hs)), hA⟩, h5, by rw [z]; exact h6, h7⟩
theorem aj_alen {r : Int} {t0 n : Nat} {ty : FieldType} {nz : Int} (q : Nat) (hd : decode M.2.1 pc = .ok (.arraylength, 1)) (hq : pc + 1 = q) (hs : aj_sh sh r = some (.inl (t0, n))) (ht : E.2.1[t0]? = some ty) (hn : ((n : Nat) : Int) = nz) (k : aj_wp E al ao X M d bc bs q lv ((0, nz) :: st) sh g Q) : aj_wp E al ao X M d bc bs pc lv ((1, r) :: st) sh g Q := by
  subst hq
  subst hn
  intro p l e R s m args below meth c H locs cells slots ls a tc D A hc0
  have kk := k p l e R s m args below meth c H locs cells slots ls a tc D A hc0
  obtain ⟨h1, h2, h3, ⟨hP, hK, hD, hS, hA⟩, h5, h6, h7⟩ := hc0
  obtain ⟨hr0, hr1⟩ := aj_sh_get hs
  rw [List.map_cons, aj_cr hr0]
  have he := aj_w_get (E := E) (tc := tc) (a := a) (g := g) hs
  exact va_alen (v := Int32.ofInt (n : Nat)) h1.1 h1.2.1 hK hP r.toNat t0 he (aj_ty_at ht) Int32.ofInt_eq_ofNat.symm hd kk
theorem aj_sld {L : Nat} {xs : Int → Int} {i : Int} (q : Nat) (hd : decode M.2.1 pc = .ok (.iaload, 1)) (hq : pc + 1 = q) (hX : X = some (L, xs)) (h0 : 0 ≤ i) (hi : i < L) (k : aj_wp E al ao X M d bc bs q lv ((0, xs i) :: st) sh g Q) : aj_wp E al ao X M d bc bs pc lv ((0, i) :: (1, 1000000) :: st) sh g Q := by
  subst hq
  intro p l e R s m args below meth c H locs cells slots ls a tc D A hc0
  have kk := k p l e R s m args below meth c H locs cells slots ls a tc D A hc0
  obtain ⟨h1, h2, h3, ⟨hP, hK, hD, hS, hA⟩, h5, h6, h7⟩ := hc0
  obtain ⟨x1, x2, x3, x4⟩ := h7.2.1 _ hX
  rw [List.map_cons, List.map_cons, aj_cr (by omega : (0 : Int) ≤ 1000000)]
  have hcl := aj_clamp h0 hi x4
  refine va_sld (xs := fun j => Int32.ofInt (xs j)) h1.1 h1.2.1 x1 x2 x3 hS (aj_in h0 hi x4) hd ?_
  rw [hcl, Int.toNat_of_nonneg h0]
  exact kk
theorem aj_slen {L : Nat} {xs : Int → Int} {nz : Int} (q : Nat) (hd : decode M.2.1 pc = .ok (.arraylength, 1)) (hq : pc + 1 = q) (hX : X = some (L, xs)) (hn : ((L : Nat) : Int) = nz) (k : aj_wp E al ao X M d bc bs q lv ((0, nz) :: st) sh g Q) : aj_wp E al ao X M d bc bs pc lv ((1, 1000000) :: st) sh g Q := by
  subst hq
  subst hn
  intro p l e R s m args below meth c H locs cells slots ls a tc D A hc0
  have kk := k p l e R s m args below meth c H locs cells slots ls a tc D A hc0
  obtain ⟨h1, h2, h3, ⟨hP, hK, hD, hS, hA⟩, h5, h6, h7⟩ := hc0
  obtain ⟨x1, x2, x3, x4⟩ := h7.2.1 _ hX
  rw [List.map_cons, aj_cr (by omega : (0 : Int) ≤ 1000000)]
  refine va_slen h1.1 h1.2.1 x1 x2 x3 hS hd ?_
  rw [← Int32.ofInt_eq_ofNat]
  exact kk
end AJH
