/-! the judgement: arraycopy, Math.min, Math.max, a new array of references, calls by their number of arguments -/
def aj_cpy (g : aj_G) (r0 r1 sp dp n : Int) : aj_G := fun r => if r = r1 then (fun i => if dp ≤ i ∧ i < dp + n then g r0 (sp + (i - dp)) else g r1 i) else g r
theorem aj_cpy_ne (g : aj_G) (r0 : Int) {r1 r : Int} (sp dp n : Int) (h : r ≠ r1) : aj_cpy g r0 r1 sp dp n r = g r := by simp [aj_cpy, h]
theorem aj_cpy_at (g : aj_G) (r0 r1 sp dp n i : Int) : aj_cpy g r0 r1 sp dp n r1 i = if dp ≤ i ∧ i < dp + n then g r0 (sp + (i - dp)) else g r1 i := by simp [aj_cpy]
section AJX
variable {E : aj_E} {al ao : Prop} {X : Option (Nat × (Int → Int))} {M : aj_M} {d bc bs pc : Nat} {lv : List (Option aj_A)} {st : List aj_A} {sh : List aj_S} {g : aj_G} {Q : aj_R → List aj_S → aj_G → Prop}
theorem aj_copyi {r0 r1 sp dp n : Int} {t0 n0 n1 index : Nat} (q : Nat) (hl : Cond.methodLink M.1.cls index arraycopyName ∈ E.2.2.2.1 ∧ Cond.native arraycopyName ∈ E.2.2.2.1 ∧ Cond.static arraycopyName ∈ E.2.2.2.1 ∧ Cond.initialized "java/lang/System" ∈ E.2.2.2.1) (hd : decode M.2.1 pc = .ok (.invokestatic index, 3)) (hq : pc + 3 = q) (hal : ¬ al)
    (hs0 : aj_sh sh r0 = some (.inl (t0, n0))) (hs1 : aj_sh sh r1 = some (.inl (t0, n1))) (ht : E.2.1[t0]? = some .int) (b1 : 0 ≤ sp) (b2 : 0 ≤ dp) (b3 : 0 ≤ n) (b4 : sp + n ≤ n0) (b5 : dp + n ≤ n1) (hdd : 1 ≤ d) (hwt : Nat.ble (aj_wt st) 8 = true)
    (k : aj_wp E al ao X M d bc bs q lv st sh (aj_cpy g r0 r1 sp dp n) Q) : aj_wp E al ao X M d bc bs pc lv ((0, n) :: (0, dp) :: (1, r1) :: (0, sp) :: (1, r0) :: st) sh g Q := by
  subst hq
  intro p l e R s m args below meth c H locs cells slots ls a tc D A hc0
  obtain ⟨h1, h2, h3, ⟨hP, hK, hD, hS, hA⟩, h5, h6, h7⟩ := hc0
  have hts := h1.2.2.2.2
  obtain ⟨z0, y0⟩ := aj_sh_get hs0
  obtain ⟨z1, y1⟩ := aj_sh_get hs1
  have hn0 := h6.2 _ _ _ y0
  have hn1 := h6.2 _ _ _ y1
  have hc : ∀ x : Int, 0 ≤ x → x < 2147483648 → (Int32.ofInt x).toNatClampNeg = x.toNat ∧ ¬ Int32.ofInt x < 0 := by
    intro x x0 x1
    have hI : aj_I x := ⟨by omega, x1⟩
    refine ⟨?_, ?_⟩
    · show (Int32.ofInt x).toInt.toNat = x.toNat
      rw [aj_ti hI]
    · rw [aj_0, aj_lt hI aj_I0]; omega
  obtain ⟨c1, d1⟩ := hc sp b1 (by omega)
  obtain ⟨c2, d2⟩ := hc dp b2 (by omega)
  obtain ⟨c3, d3⟩ := hc n b3 (by omega)
  have he0 : (aj_w E tc a sh g)[r0.toNat]? = some (a r0.toNat, .inl (tc t0, n0, .inl (fun j => Int32.ofInt (g r0 j)))) := by
    rw [aj_w_get hs0]; simp only [aj_cell]; rw [ht]; rfl
  have he1 : (aj_w E tc a sh g)[r1.toNat]? = some (a r1.toNat, .inl (tc t0, n1, .inl (fun j => Int32.ofInt (g r1 j)))) := by
    rw [aj_w_get hs1]; simp only [aj_cell]; rw [ht]; rfl
  simp only [List.map_cons]
  rw [aj_cr z0, aj_cr z1]
  refine va_copyi (sp := Int32.ofInt sp) (dp := Int32.ofInt dp) (n := Int32.ofInt n) h1.1 h1.2.1 (by rw [h1.2.2.1]; exact h5.2.1.symm) h1.2.2.2.1 (hts _ hl.1) (hts _ hl.2.1) (hts _ hl.2.2.1) (hts _ hl.2.2.2) hK hP hD hS r0.toNat r1.toNat t0 t0 he0 he1 (aj_ty_at ht) (aj_ty_at ht) rfl d1 d2 d3 (by rw [c1, c3]; omega) (by rw [c2, c3]; omega) (fun _ _ => rfl) (by omega) ?_ hd (fun H1 locs1 hP1 hD1 hS1 => ?_)
  · rw [aj_wt_eq]
    have := Nat.le_of_ble_eq_true hwt
    have hw : nativeFrameWords "java/lang/System" "arraycopy" 5 = 7 := by decide
    rw [hw]
    omega
  · have hset := aj_w_set (E := E) (tc := tc) (a := a) (g := g) (g' := aj_cpy g r0 r1 sp dp n) (c := .inl (tc t0, n1, .inl (va_cpy (fun j => Int32.ofInt (g r0 (j : Nat))) (fun j => Int32.ofInt (g r1 (j : Nat))) sp.toNat dp.toNat n.toNat))) hs1 (by
        simp only [aj_cell]
        rw [ht]
        show Sum.inl (tc t0, n1, Sum.inl _) = _
        congr 4
        funext j
        rw [aj_cpy_at]
        by_cases hj : dp ≤ (j : Int) ∧ (j : Int) < dp + n
        · rw [if_pos hj, pk_cpy_in (by omega) (by omega)]
          congr 2
          omega
        · rw [if_neg hj, pk_cpy_out (by omega)]) (fun r' hr' => aj_cpy_ne g r0 sp dp n hr')
    rw [c1, c2, c3, hset] at hP1 hD1
    exact k p l e R s m args below meth c H1 locs1 cells slots ls a tc D A ⟨h1, h2, h3, ⟨hP1, hK, hD1, hS1, hA⟩, h5, ⟨fun h => absurd h hal, h6.2⟩, h7⟩
theorem aj_mmax {x y : Int} {index : Nat} (q : Nat) (hl : Cond.methodLink M.1.cls index Lib.Math.max.name ∈ E.2.2.2.1 ∧ Cond.static Lib.Math.max.name ∈ E.2.2.2.1 ∧ Cond.initialized "java/lang/Math" ∈ E.2.2.2.1 ∧ Cond.code Lib.Math.max.name Lib.Math.max.code 2 (some .int) ∈ E.2.2.2.1) (hd : decode M.2.1 pc = .ok (.invokestatic index, 3)) (hq : pc + 3 = q) (hx : aj_I x) (hy : aj_I y) (hdd : 1 ≤ d) (hwt : Nat.ble (aj_wt st) 8 = true) (k : aj_wp E al ao X M d bc bs q lv ((0, if x < y then y else x) :: st) sh g Q) : aj_wp E al ao X M d bc bs pc lv ((0, y) :: (0, x) :: st) sh g Q := by
  subst hq
  intro p l e R s m args below meth c H locs cells slots ls a tc D A hc0
  have kk := k p l e R s m args below meth c H locs cells slots ls a tc D A hc0
  obtain ⟨h1, h2, h3, ⟨hP, hK, hD, hS, hA⟩, h5, h6, h7⟩ := hc0
  have hts := h1.2.2.2.2
  refine va_mmax (x := Int32.ofInt x) (y := Int32.ofInt y) h1.1 h1.2.1 (by rw [h1.2.2.1]; exact h5.2.1.symm) h1.2.2.2.1 (hts _ hl.1) (hts _ hl.2.1) (hts _ hl.2.2.1) (hts _ hl.2.2.2) (by omega) ?_ (by omega) (by omega) hd ?_
  · have := Nat.le_of_ble_eq_true hwt
    rw [aj_wt_eq]; omega
  · have he : (if Int32.ofInt x < Int32.ofInt y then Int32.ofInt y else Int32.ofInt x) = Int32.ofInt (if x < y then y else x) := by
      by_cases h : x < y
      · rw [if_pos h, if_pos ((aj_lt hx hy).mpr h)]
      · rw [if_neg h, if_neg (fun z => h ((aj_lt hx hy).mp z))]
    rw [he]
    exact kk
theorem aj_mmin {x y : Int} {index : Nat} (q : Nat) (hl : Cond.methodLink M.1.cls index Lib.Math.min.name ∈ E.2.2.2.1 ∧ Cond.static Lib.Math.min.name ∈ E.2.2.2.1 ∧ Cond.initialized "java/lang/Math" ∈ E.2.2.2.1 ∧ Cond.code Lib.Math.min.name Lib.Math.min.code 2 (some .int) ∈ E.2.2.2.1) (hd : decode M.2.1 pc = .ok (.invokestatic index, 3)) (hq : pc + 3 = q) (hx : aj_I x) (hy : aj_I y) (hdd : 1 ≤ d) (hwt : Nat.ble (aj_wt st) 8 = true) (k : aj_wp E al ao X M d bc bs q lv ((0, if y < x then y else x) :: st) sh g Q) : aj_wp E al ao X M d bc bs pc lv ((0, y) :: (0, x) :: st) sh g Q := by
  subst hq
  intro p l e R s m args below meth c H locs cells slots ls a tc D A hc0
  have kk := k p l e R s m args below meth c H locs cells slots ls a tc D A hc0
  obtain ⟨h1, h2, h3, ⟨hP, hK, hD, hS, hA⟩, h5, h6, h7⟩ := hc0
  have hts := h1.2.2.2.2
  refine va_mmin (x := Int32.ofInt x) (y := Int32.ofInt y) h1.1 h1.2.1 (by rw [h1.2.2.1]; exact h5.2.1.symm) h1.2.2.2.1 (hts _ hl.1) (hts _ hl.2.1) (hts _ hl.2.2.1) (hts _ hl.2.2.2) (by omega) ?_ (by omega) (by omega) hd ?_
  · have := Nat.le_of_ble_eq_true hwt
    rw [aj_wt_eq]; omega
  · have he : (if Int32.ofInt y < Int32.ofInt x then Int32.ofInt y else Int32.ofInt x) = Int32.ofInt (if y < x then y else x) := by
      by_cases h : y < x
      · rw [if_pos h, if_pos ((aj_lt hy hx).mpr h)]
      · rw [if_neg h, if_neg (fun z => h ((aj_lt hy hx).mp z))]
    rw [he]
    exact kk
theorem aj_newq {index t0 N bc1 bs1 : Nat} {n : Int} {C : String} (q : Nat) (hw : Cond.classLink M.1.cls index C ∈ E.2.2.2.1 ∧ FieldType.object C ∈ aj_aos) (hd : decode M.2.1 pc = .ok (.anewarray index, 3)) (hq : pc + 3 = q) (ht : E.2.1[t0]? = some (.object C))
    (hN : ((N : Nat) : Int) = n) (hN2 : N ≤ 60000) (hbc : bc1 + 1 = bc) (hbs : bs1 + N = bs) (hal : al) (hsz : sh.length < 1000000) (k : aj_wp E al ao X M d bc1 bs1 q lv ((1, sh.length) :: st) (sh ++ [.inl (t0, N)]) (aj_nw g sh.length (fun _ => -1)) Q) : aj_wp E al ao X M d bc bs pc lv ((0, n) :: st) sh g Q := by
  subst hq
  subst hN
  subst hbc
  subst hbs
  intro p l e R s m args below meth c H locs cells slots ls a tc D A hc0
  obtain ⟨h1, h2, h3, ⟨hP, hK, hD, hS, hA⟩, h5, h6, h7⟩ := hc0
  have hts := h1.2.2.2.2
  have ha : a sh.length = H.size := by simpa using h6.1 hal 0 (by omega)
  have hI : aj_I (N : Nat) := ⟨by omega, by omega⟩
  have hnn : ¬ Int32.ofInt (N : Nat) < 0 := by rw [aj_0, aj_lt hI aj_I0]; omega
  have hcl : (Int32.ofInt (N : Nat)).toNatClampNeg = N := by
    show (Int32.ofInt (N : Nat)).toInt.toNat = N
    rw [aj_ti hI]; omega
  rw [List.map_cons]
  refine W.anew (n := Int32.ofInt (N : Nat)) h1.1 h1.2.1 h1.2.2.2.1 (hts _ hw.1) (h7.2.2.2.2.2.2.2.2 _ hw.2) rfl hd rfl hnn (by rw [hcl]; omega) (by omega) (by rw [hcl]; omega) fun cA kA comp f1 f2 f3 f4 => ?_
  rw [hcl]
  generalize hH1 : H.push ({ cls := cA, slots := Array.replicate N .null, vm := .none } : Cell) = H1
  have z1 : H1.size = H.size + 1 := by rw [← hH1, Array.size_push]
  have e1 : H1[H.size]? = some (arrV cA N (fun _ => .null)) := by rw [← hH1, Array.getElem?_push_size, ← arrV_new]
  have o1 : ∀ q : Nat, q < H.size → H1[q]? = H[q]? := fun q hq => by rw [← hH1, Array.getElem?_push, if_neg (Nat.ne_of_lt hq)]
  have hcA : tc t0 = cA := by
    obtain ⟨kA', comp', -, -, -, hR⟩ := (hK.2 t0 _ (aj_ty_at ht)).2
    exact Option.some.inj (hR.symm.trans f1)
  have hcell : va_at D E.1 (a sh.length, aj_cell E tc a (.inl (t0, N)) (fun _ => -1)) H1 := by
    show H1[a sh.length]? = some (vp_cell (tc t0) (N, aj_row a E.2.1[t0]? (fun _ => -1)))
    rw [aj_rowr ht rfl, ha, e1, hcA]
    rfl
  obtain ⟨hP2, hD2, hS2⟩ := aj_push hP hD hS hA ha hcell z1 o1
  have kk := k p l e R s m args below meth c H1 locs (cells + 1) (slots + N) ls a tc D A ⟨h1, h2, ⟨h3.1, h3.2.1, by omega, by omega⟩, ⟨hP2, hK, hD2, hS2, hA⟩, h5, by rw [z1]; exact aj_ph_push h6 (fun t k hx => by cases hx; omega), h7⟩
  rw [show cells + 1 + bc1 = cells + (bc1 + 1) by omega, show slots + N + bs1 = slots + (bs1 + N) by omega, List.map_cons, aj_cr (by omega), Int.toNat_natCast, ha] at kk
  exact kk
end AJX
