/-! the judgement: new cells, ends, calls -/
def aj_nw (g : aj_G) (r : Int) (f : Int → Int) : aj_G := fun r' => if r' = r then f else g r'
theorem aj_nw_self (g : aj_G) (r : Int) (f : Int → Int) : aj_nw g r f r = f := by simp [aj_nw]
theorem aj_nw_ne (g : aj_G) {r r' : Int} (f : Int → Int) (h : r' ≠ r) : aj_nw g r f r' = g r' := by simp [aj_nw, h]
def aj_nl0 (E : aj_E) (own : String) (index ci N : Nat) : Prop := ∃ (C : String) (T : u_T), E.1[ci]? = some (C, T, N) ∧ Cond.classLink own index C ∈ E.2.2.2.1 ∧ Cond.instantiable C N ∈ E.2.2.2.1 ∧ Cond.initialized C ∈ E.2.2.2.1
section AJC
variable {E : aj_E} {al ao : Prop} {X : Option (Nat × (Int → Int))} {M : aj_M} {d bc bs pc : Nat} {lv : List (Option aj_A)} {st : List aj_A} {sh : List aj_S} {g : aj_G} {Q : aj_R → List aj_S → aj_G → Prop}
theorem aj_push {tc a : Nat → Nat} {D : va_G} {A : Nat → Prop} {H H1 : Heap} {s : State} {locs : List Loc} {x : aj_S} {f : Int → Int} (hP : va_P D E.1 (aj_w E tc a sh g) H) (hD : va_D A (aj_w E tc a sh g)) (hS : va_S A s.heap H locs) (hA : ∀ q, s.heap.size ≤ q → A q) (ha : a sh.length = H.size)
    (hcell : va_at D E.1 (a sh.length, aj_cell E tc a x f) H1) (z1 : H1.size = H.size + 1) (o1 : ∀ q : Nat, q < H.size → H1[q]? = H[q]?) :
    va_P D E.1 (aj_w E tc a (sh ++ [x]) (aj_nw g sh.length f)) H1 ∧ va_D A (aj_w E tc a (sh ++ [x]) (aj_nw g sh.length f)) ∧ va_S A s.heap H1 locs := by
  have hk : ∀ (k : Nat) (y : Nat × va_E), (aj_w E tc a sh g)[k]? = some y → H1[y.1]? = H[y.1]? := fun k y hy => o1 y.1 ((hP k y hy).lt)
  have hpush := aj_w_push (E := E) (tc := tc) (a := a) (sh := sh) (g := g) (g' := aj_nw g sh.length f) (x := x) (c := aj_cell E tc a x f) (by rw [aj_nw_self]) (fun k hk => aj_nw_ne g f (by omega))
  rw [← hpush]
  refine ⟨(hP.kept hk).app (fun k y hy => ?_), hD.push hP ha (by rw [ha]; exact hA _ hS.1), ⟨Nat.le_trans hS.1 (by omega), fun q h1 h2 => (o1 q (Nat.lt_of_lt_of_le h1 hS.1)).trans (hS.2.1 q h1 h2), hS.2.2⟩⟩
  have hz : k < 1 := (List.getElem?_eq_some_iff.mp hy).1
  rw [show k = 0 by omega] at hy
  cases hy
  exact hcell
theorem aj_ph_push {a : Nat → Nat} {n : Nat} {x : aj_S} (h : aj_ph al sh a n) (hx : ∀ t k, x = .inl (t, k) → k < 2147483648) : aj_ph al (sh ++ [x]) a (n + 1) := by
  refine ⟨fun hal j hj => ?_, fun k t m hk => ?_⟩
  · rw [List.length_append, List.length_singleton] at hj ⊢
    have := h.1 hal (1 + j) (by omega)
    rw [show sh.length + 1 + j = sh.length + (1 + j) by omega, this]
    omega
  · by_cases hl : k < sh.length
    · rw [List.getElem?_append_left hl] at hk
      exact h.2 k t m hk
    · rw [List.getElem?_append_right (by omega)] at hk
      have hz : k - sh.length < 1 := (List.getElem?_eq_some_iff.mp hk).1
      rw [show k - sh.length = 0 by omega] at hk
      exact hx t m (by simpa using hk)
theorem aj_newa {atype : ArrayType} {ty : FieldType} {t0 : Nat} {n : Int} {N bc1 bs1 : Nat} (q : Nat) (hd : decode M.2.1 pc = .ok (.newarray atype, 2)) (hq : pc + 2 = q) (hty : newarray.typeOf atype = ty) (hty2 : ty = .int ∨ ty = .boolean ∨ ty = .long) (ht : E.2.1[t0]? = some ty) (hw : Cond.arrayClass ty ∈ E.2.2.2.1)
    (hN : ((N : Nat) : Int) = n) (hN2 : N ≤ 60000) (hbc : bc1 + 1 = bc) (hbs : bs1 + N = bs) (hal : al) (hsz : sh.length < 1000000) (k : aj_wp E al ao X M d bc1 bs1 q lv ((1, sh.length) :: st) (sh ++ [.inl (t0, N)]) (aj_nw g sh.length (fun _ => 0)) Q) : aj_wp E al ao X M d bc bs pc lv ((0, n) :: st) sh g Q := by
  subst hq
  subst hN
  subst hbc
  subst hbs
  subst hty
  intro p l e R s m args below meth c H locs cells slots ls a tc D A hc0
  obtain ⟨h1, h2, h3, ⟨hP, hK, hD, hS, hA⟩, h5, h6, h7⟩ := hc0
  have ha : a sh.length = H.size := by simpa using h6.1 hal 0 (by omega)
  have hI : aj_I (N : Nat) := ⟨by omega, by omega⟩
  have hnn : ¬ Int32.ofInt (N : Nat) < 0 := by rw [aj_0, aj_lt hI aj_I0]; omega
  have hcl : (Int32.ofInt (N : Nat)).toNatClampNeg = N := by
    show (Int32.ofInt (N : Nat)).toInt.toNat = N
    rw [aj_ti hI]; omega
  have hby : N * componentBytes (newarray.typeOf atype) ≤ 536870912 := by
    have : componentBytes (newarray.typeOf atype) ≤ 8 := by rcases hty2 with h | h | h <;> rw [h] <;> decide
    exact Nat.le_trans (Nat.mul_le_mul hN2 this) (by decide)
  rw [List.map_cons]
  refine va_newaK (n := Int32.ofInt (N : Nat)) (N := N) h1.1 h1.2.1 (h1.2.2.2.2 _ hw) rfl hd rfl hnn hcl hby (by omega) (by omega) rfl fun H1 cA e1 z1 o1 hAr hNm => ?_
  have hcA : tc t0 = cA := by
    have hR := (hK.2 t0 _ (aj_ty_at ht)).2
    have hR2 : s.vm.findClass ("[" ++ (newarray.typeOf atype).toString) = some (tc t0) := by
      rcases hty2 with h | h | h <;> (rw [h] at hR ⊢; exact hR)
    exact Option.some.inj (hR2.symm.trans hNm)
  have hcell : va_at D E.1 (a sh.length, aj_cell E tc a (.inl (t0, N)) (fun _ => 0)) H1 := by
    show H1[a sh.length]? = some (vp_cell (tc t0) (N, aj_row a E.2.1[t0]? (fun _ => 0)))
    rw [ha, e1, hcA, ht]
    rcases hty2 with h | h | h <;> rw [h] <;> rfl
  obtain ⟨hP2, hD2, hS2⟩ := aj_push hP hD hS hA ha hcell z1 o1
  have kk := k p l e R s m args below meth c H1 locs (cells + 1) (slots + N) ls a tc D A ⟨h1, h2, ⟨h3.1, h3.2.1, by omega, by omega⟩, ⟨hP2, hK, hD2, hS2, hA⟩, h5, by rw [z1]; exact aj_ph_push h6 (fun t k hx => by cases hx; omega), h7⟩
  rw [show cells + 1 + bc1 = cells + (bc1 + 1) by omega, show slots + N + bs1 = slots + (bs1 + N) by omega, List.map_cons, aj_cr (by omega), Int.toNat_natCast, ha] at kk
  exact kk
theorem aj_newo {index ci N bc1 bs1 : Nat} (q : Nat) (hf : aj_nl0 E M.1.cls index ci N) (hd : decode M.2.1 pc = .ok (.new index, 3)) (hq : pc + 3 = q) (hbc : bc1 + 1 = bc) (hbs : bs1 + N = bs) (hal : al) (hsz : sh.length < 1000000) (k : aj_wp E al ao X M d bc1 bs1 q lv ((1, sh.length) :: st) (sh ++ [.inr ci]) (aj_nw g sh.length (fun j => aj_dv (E.2.2.1 ci j.toNat))) Q) : aj_wp E al ao X M d bc bs pc lv st sh g Q := by
  subst hq
  subst hbc
  subst hbs
  intro p l e R s m args below meth c H locs cells slots ls a tc D A hc0
  obtain ⟨h1, h2, h3, ⟨hP, hK, hD, hS, hA⟩, h5, h6, h7⟩ := hc0
  obtain ⟨C, T, hc, hw1, hw2, hw3⟩ := hf
  have ha : a sh.length = H.size := by simpa using h6.1 hal 0 (by omega)
  have hKn := hK.1 ci _ hc
  obtain ⟨hin, hnm, ty0, htys, hkd⟩ := h7.1.2 ci _ hc
  have hts := h1.2.2.2.2
  refine W.newcK h1.1 h1.2.1 h1.2.2.2.1 (hts _ hw1) (hts _ hw2) (hts _ hw3) rfl hd (by omega) (by omega) hKn.2.1 rfl fun H1 kC hkC e1 z1 o1 => ?_
  have hcell : va_at D E.1 (a sh.length, aj_cell E tc a (.inr ci) (fun j => aj_dv (E.2.2.1 ci j.toNat))) H1 := by
    rw [ha]
    refine ⟨_, hc, (u_born ty0 hts hin hKn hkC e1 htys).to (fun j hj => ?_)⟩
    rw [aj_nf_of hc]
    show defaultValue (ty0 j) = vp_V _ j
    rw [aj_vpV hj]
    show defaultValue (ty0 j) = aj_c a (E.2.2.1 ci j, aj_dv (E.2.2.1 ci ((j : Nat) : Int).toNat))
    rw [Int.toNat_natCast, (hkd j hj).1]
    exact aj_dflt (hkd j hj).2
  obtain ⟨hP2, hD2, hS2⟩ := aj_push hP hD hS hA ha hcell z1 o1
  have kk := k p l e R s m args below meth c H1 locs (cells + 1) (slots + N) ls a tc D A ⟨h1, h2, ⟨h3.1, h3.2.1, by omega, by omega⟩, ⟨hP2, hK, hD2, hS2, hA⟩, h5, by rw [z1]; exact aj_ph_push h6 (fun t k hx => by cases hx), h7⟩
  rw [show cells + 1 + bc1 = cells + (bc1 + 1) by omega, show slots + N + bs1 = slots + (bs1 + N) by omega, List.map_cons, aj_cr (by omega), Int.toNat_natCast, ha] at kk
  exact kk
/-! ends -/
theorem aj_end {p : Program} {l : Launch} {e : Env} {R : Room} {s : State} {m : MethodId} {args : Array Value} {below : List Frame} {meth : Method} {c : Code} {H : Heap} {locs : List Loc} {cells slots : Nat} {ls : Array Slot} {a tc : Nat → Nat} {D : va_G} {A : Nat → Prop} {v : Option aj_A} {gf : JFrame}
    (hc : aj_cx E al X M d bc bs lv sh g a tc D A p l R s m args meth c H locs cells slots ls) (hq : Q (.inl v) sh g) (hao : ao → al)
    (k : W p l e R s m args below meth c H locs (cells + bc) (slots + bs) (MQ below (fun _ st o t => o = .returned (v.map (aj_c a)) ∧ t.heap = H ∧ s.WarmedH t.vm) args s (cells + bc) (slots + bs) A) gf) :
    W p l e R s m args below meth c H locs cells slots (aj_fin E ao a tc D A Q below s (cells + bc) (slots + bs)) gf := by
  obtain ⟨h1, h2, h3, ⟨hP, hK, hD, hS, hA⟩, h5, h6, h7⟩ := hc
  refine aj_monoW ?_ (W.widen (k := cells + bc) (n := slots + bs) (by omega) (by omega) k)
  rintro t ⟨o, e1, e2, ⟨rfl, ht, hW⟩, L, hF, hL⟩
  exact ⟨_, .inl v, sh, g, e1, e2, hq, rfl, by rw [ht]; exact hP, hD, hS.F ht, ⟨fun h => by rw [ht]; exact h6.1 (hao h), h6.2⟩, L, hF.2.1, hF.2.2, hL⟩
theorem aj_iret {x : Int} (hd : decode M.2.1 pc = .ok (.ireturn, 1)) (hr : M.2.2.2 = some .int) (hao : ao → al) (hq : Q (.inl (some (0, x))) sh g) : aj_wp E al ao X M d bc bs pc lv [(0, x)] sh g Q := by
  intro p l e R s m args below meth c H locs cells slots ls a tc D A hc0
  refine aj_end hc0 hq hao ?_
  obtain ⟨h1, h2, h3, ⟨hP, hK, hD, hS, hA⟩, h5, h6, h7⟩ := hc0
  exact W.iret (v := Int32.ofInt x) h1.1 h1.2.1 (h2.1.trans hr) (fun t ht hW => ⟨rfl, ht, hW⟩) hS.2.2 hd h2.2.1
theorem aj_zret {x : Int} (hd : decode M.2.1 pc = .ok (.ireturn, 1)) (hr : M.2.2.2 = some .boolean) (hx : x = 0 ∨ x = 1) (hao : ao → al) (hq : Q (.inl (some (0, x))) sh g) : aj_wp E al ao X M d bc bs pc lv [(0, x)] sh g Q := by
  intro p l e R s m args below meth c H locs cells slots ls a tc D A hc0
  refine aj_end hc0 hq hao ?_
  obtain ⟨h1, h2, h3, ⟨hP, hK, hD, hS, hA⟩, h5, h6, h7⟩ := hc0
  exact W.zret (v := Int32.ofInt x) h1.1 h1.2.1 (h2.1.trans hr) (by rcases hx with rfl | rfl <;> decide +kernel) (fun t ht hW => ⟨rfl, ht, hW⟩) hS.2.2 hd h2.2.1
theorem aj_lret {x : Int} (hd : decode M.2.1 pc = .ok (.lreturn, 1)) (hr : M.2.2.2 = some .long) (hao : ao → al) (hq : Q (.inl (some (2, x))) sh g) : aj_wp E al ao X M d bc bs pc lv [(2, x)] sh g Q := by
  intro p l e R s m args below meth c H locs cells slots ls a tc D A hc0
  refine aj_end hc0 hq hao ?_
  obtain ⟨h1, h2, h3, ⟨hP, hK, hD, hS, hA⟩, h5, h6, h7⟩ := hc0
  exact W.lret (v := Int64.ofInt x) h1.1 h1.2.1 (h2.1.trans hr) (fun t ht hW => ⟨rfl, ht, hW⟩) hS.2.2 hd h2.2.1
theorem aj_vret (hd : decode M.2.1 pc = .ok (.return_, 1)) (hr : M.2.2.2 = none) (hao : ao → al) (hq : Q (.inl none) sh g) : aj_wp E al ao X M d bc bs pc lv [] sh g Q := by
  intro p l e R s m args below meth c H locs cells slots ls a tc D A hc0
  refine aj_end hc0 hq hao ?_
  obtain ⟨h1, h2, h3, ⟨hP, hK, hD, hS, hA⟩, h5, h6, h7⟩ := hc0
  exact W.vret h1.1 h1.2.1 (h2.1.trans hr) (fun t ht hW => ⟨rfl, ht, hW⟩) hS.2.2 hd h2.2.1
theorem aj_objInit {r : Int} {index : Nat} (q : Nat) (hw : Cond.methodLink M.1.cls index Lib.objectInit ∈ E.2.2.2.1 ∧ Cond.instanceMethod Lib.objectInit ∈ E.2.2.2.1 ∧ Cond.code Lib.objectInit ⟨#[0xb1]⟩ 1 none ∈ E.2.2.2.1) (hd : decode M.2.1 pc = .ok (.invokespecial index, 3)) (hq : pc + 3 = q) (h0 : 0 ≤ r) (hdd : 1 ≤ d) (k : aj_wp E al ao X M d bc bs q lv [] sh g Q) : aj_wp E al ao X M d bc bs pc lv [(1, r)] sh g Q := by
  subst hq
  intro p l e R s m args below meth c H locs cells slots ls a tc D A hc0
  have kk := k p l e R s m args below meth c H locs cells slots ls a tc D A hc0
  obtain ⟨h1, h2, h3, ⟨hP, hK, hD, hS, hA⟩, h5, h6, h7⟩ := hc0
  have hts := h1.2.2.2.2
  rw [List.map_cons, aj_cr h0]
  refine W.objInit h1.1 h1.2.1 h1.2.2.2.1 (hts _ hw.1) (hts _ hw.2.1) (hts _ hw.2.2) rfl (by rw [h1.2.2.1]; exact h5.2.1) rfl hd (by omega) ?_ kk
  show 2 * 0 + 0 + 12 ≤ _
  omega
end AJC
