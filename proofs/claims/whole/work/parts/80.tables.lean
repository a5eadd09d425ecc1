/-! the start: what the tables give at the law's entry -/
theorem ao_arr {args : Array Value} {s : State} (h : (Cond.arrayOver (.array .int)).before args s = true) : ∃ (comp c : ClassId) (k : Class), s.vm.classes[c]? = some k ∧ k.kind = .array comp (.array .int) ∧ s.vm.findClass ("[" ++ (FieldType.array .int).toString) = some c := by
  simp only [Cond.before, Cond.holds, Cond.value, beq_iff_eq] at h
  simp only [Option.bind_eq_some_iff, Option.map_eq_some_iff] at h
  obtain ⟨comp, -, c, hi, k, hk, hb⟩ := h
  cases hkind : k.kind with
  | array component ty =>
    rw [hkind] at hb
    simp only [Bool.and_eq_true, decide_eq_true_eq] at hb
    exact ⟨component, c, k, hk, by rw [hkind, hb.1], hb.2⟩
  | _ => rw [hkind] at hb; simp at hb
theorem zs_of {args : Array Value} {s : State} {n d : String} (h1 : (Cond.laysStatic Bundle.tN n d).before args s = true) (h2 : (Cond.isRef (.static Bundle.tN n d)).before args s = true) : aj_zs n d (fun q => s.heap.size ≤ q) s s.heap := by
  obtain ⟨c, k, i, f, a, cell, hc, hf, hst, hsta, hcell, hiss, hcls, hlt, hty⟩ := Cond.laysStatic_spec h1
  have ha : a < s.heap.size := (Array.getElem?_eq_some_iff.mp hcell).1
  refine ⟨a, cell, hcell, Nat.not_le.mpr ha, fun U w hU hcU => ?_⟩
  obtain ⟨k2, hf2, ek⟩ := State.fieldFound?_setVm (s := s) hU hf
  have hfU : U.fieldFound? Bundle.tN n d = some (c, k2, i, f) := hf2
  have hcU2 : U.vm.findClass Bundle.tN = some c := by rw [hU.findClass]; exact hc
  have hs2 : k2.statics = some a := by rw [ek]; exact hsta
  have ht2 : k2.staticTypes[f.slot]? = some f.type := by rw [ek]; exact hty
  have hv : cell.slots[f.slot]? = some cell.slots[f.slot] := Array.getElem?_eq_getElem hlt
  have he : (Term.static Bundle.tN n d).eval args s none [] s = some cell.slots[f.slot] := by
    simp [Term.eval, State.fieldNamed?, hf, hst, hsta, hcell, hiss, hv]
  have heU : (Term.static Bundle.tN n d).eval w U none [] U = some cell.slots[f.slot] := by
    simp [Term.eval, State.fieldNamed?, hfU, hst, hs2, hcU, hiss, hv]
  constructor
  · simp [Cond.before, Cond.holds, Cond.value, hcU2, hfU, hst, hs2, hcU, hiss, hcls, hlt, ht2]
  · simp only [Cond.before, Cond.holds, Cond.value, he] at h2
    simp only [Cond.before, Cond.holds, Cond.value, heU]
    exact h2
theorem in_tbl {w : Cond} (i : Nat) (h : lw_tbl[i]? = some w) : w ∈ lw_tbl := List.mem_of_getElem? h
theorem law_cls : ∀ (ci : Nat) (q : vw_C), nE.1[ci]? = some q → ∃ n, Cond.instantiable q.1 n ∈ nm_ws := by
  have key : ∀ {own : String} {index ci N : Nat}, aj_nl0 nE own index ci N → ∀ q : vw_C, nE.1[ci]? = some q → ∃ n, Cond.instantiable q.1 n ∈ nm_ws := fun h q hq => by
    obtain ⟨C, T, h1, -, h3, -⟩ := h
    have e : (C, T, _) = q := Option.some.inj (h1.symm.trans hq)
    subst e
    exact ⟨_, h3⟩
  intro ci q hq
  have hlt : ci < 9 := (List.getElem?_eq_some_iff.mp hq).1
  obtain rfl | rfl | rfl | rfl | rfl | rfl | rfl | rfl | rfl : ci = 0 ∨ ci = 1 ∨ ci = 2 ∨ ci = 3 ∨ ci = 4 ∨ ci = 5 ∨ ci = 6 ∨ ci = 7 ∨ ci = 8 := by omega
  · exact key nw_Bench_18 q hq
  · exact key nw_Family_9 q hq
  · exact key nw_Bench_46 q hq
  · exact key nw_Bench_27 q hq
  · exact key nw_Bench_36 q hq
  · exact key nw_Bench_67 q hq
  · exact key nw_Bench_53 q hq
  · exact key nw_Law_8 q hq
  · exact key nw_Law_62 q hq
theorem law_ty {args : Array Value} {s : State} (hts : ∀ w ∈ lw_tbl, w.before args s = true) : ∀ k : Nat, ∃ c : ClassId, ∀ ty : FieldType, nE.2.1[k]? = some ty → ArrOfT s c ty ∧ va_RA s c ty := by
  intro k
  by_cases hlt : k < 5
  · obtain rfl | rfl | rfl | rfl | rfl : k = 0 ∨ k = 1 ∨ k = 2 ∨ k = 3 ∨ k = 4 := by omega
    · obtain ⟨c, kk, comp, h1, h2, h3⟩ := Cond.arrayClass_spec (hts _ (in_tbl (w := .arrayClass .int) 116 (by decide +kernel)))
      refine ⟨c, fun ty hty => ?_⟩
      obtain rfl : FieldType.int = ty := Option.some.inj hty
      exact ⟨fun N z => ⟨(fun k h => by cases h), kk, h2, comp, h3⟩, h1⟩
    · obtain ⟨c, kk, comp, h1, h2, h3⟩ := Cond.arrayClass_spec (hts _ (in_tbl (w := .arrayClass .boolean) 234 (by decide +kernel)))
      refine ⟨c, fun ty hty => ?_⟩
      obtain rfl : FieldType.boolean = ty := Option.some.inj hty
      exact ⟨fun N z => ⟨(fun k h => by cases h), kk, h2, comp, h3⟩, h1⟩
    · obtain ⟨c, kk, comp, h1, h2, h3⟩ := Cond.arrayClass_spec (hts _ (in_tbl (w := .arrayClass .long) 867 (by decide +kernel)))
      refine ⟨c, fun ty hty => ?_⟩
      obtain rfl : FieldType.long = ty := Option.some.inj hty
      exact ⟨fun N z => ⟨(fun k h => by cases h), kk, h2, comp, h3⟩, h1⟩
    · obtain ⟨comp, c, kk, h1, -, h2, h3, h4⟩ := Cond.arrayOver_spec (hts _ (in_tbl (w := .arrayOver (.object "TestBench$Word")) 156 (by decide +kernel)))
      refine ⟨c, fun ty hty => ?_⟩
      obtain rfl : FieldType.object "TestBench$Word" = ty := Option.some.inj hty
      exact ⟨fun N z => ⟨(fun k h => by cases h), kk, h2, comp, h3⟩, kk, comp, h2, h3, h1, h4⟩
    · obtain ⟨comp, c, kk, h2, h3, h4⟩ := ao_arr (hts _ (in_tbl (w := .arrayOver (.array .int)) 158 (by decide +kernel)))
      refine ⟨c, fun ty hty => ?_⟩
      obtain rfl : FieldType.array .int = ty := Option.some.inj hty
      exact ⟨fun N z => ⟨(fun k h => by cases h), kk, h2, comp, h3⟩, h4⟩
  · refine ⟨0, fun ty hty => ?_⟩
    exact absurd (List.getElem?_eq_some_iff.mp hty).1 hlt
theorem law_K {args : Array Value} {s : State} (hts : ∀ w ∈ lw_tbl, w.before args s = true) : ∃ (D : va_G) (tc : Nat → Nat), va_K D nE.1 (aj_ty tc nE.2.1) s := by
  have hws : ∀ w ∈ nm_ws, w.before args s = true := fun w hw => hts w (List.mem_filter.mp hw).1
  have h1 : ∀ ci : Nat, ∃ y : ClassId × (Nat → Nat), ∀ q : vw_C, nE.1[ci]? = some q → u_Kn s q.1 q.2.1 q.2.2 y.1 y.2 := fun ci => by
    by_cases hc : ∃ q, nE.1[ci]? = some q
    · obtain ⟨q, hq⟩ := hc
      obtain ⟨n, hn⟩ := law_cls ci q hq
      obtain ⟨cC, iS, h⟩ := u_known hws (nE_good.2 ci q hq).1 (hws _ hn)
      exact ⟨(cC, iS), fun q2 hq2 => by rw [hq] at hq2; obtain rfl := Option.some.inj hq2; exact h⟩
    · exact ⟨(0, fun _ => 0), fun q hq => absurd ⟨q, hq⟩ hc⟩
  obtain ⟨f, hf⟩ := Classical.axiomOfChoice h1
  obtain ⟨tc, htc⟩ := Classical.axiomOfChoice (law_ty hts)
  refine ⟨(fun c => (f c).1, fun c => (f c).2), tc, fun c q hq => hf c q hq, fun k q hq => ?_⟩
  unfold aj_ty at hq
  rw [List.getElem?_mapIdx] at hq
  obtain ⟨ty, e1, e2⟩ := Option.map_eq_some_iff.mp hq
  subst e2
  exact htc k ty e1
theorem law_th {args : Array Value} {s : State} (hts : ∀ w ∈ lw_tbl, w.before args s = true) (hgv : (Cond.and given_1 narrow_1).before args s = true) : aj_th (fun q => s.heap.size ≤ q) s := by
  have hfl := flat_of_before _ hgv
  refine ⟨fun x hx => ?_, fun x hx => ?_, fun x hx y hy hne => ?_, zs_of (hts _ (in_tbl 484 (by decide +kernel))) (hfl _ (by decide +kernel)), zs_of (hts _ (in_tbl 486 (by decide +kernel))) (hfl _ (by decide +kernel)), fun ty hty => ?_⟩
  · rcases List.mem_cons.mp hx with rfl | hx
    · exact va_tabs (by decide) rfl (hts _ (in_tbl 460 (by decide +kernel)))
    rcases List.mem_cons.mp hx with rfl | hx
    · exact va_tabs (by decide) rfl (hts _ (in_tbl 462 (by decide +kernel)))
    rcases List.mem_cons.mp hx with rfl | hx
    · exact va_tabs (by decide) rfl (hts _ (in_tbl 464 (by decide +kernel)))
    cases hx
  · rcases List.mem_cons.mp hx with rfl | hx
    · exact va_tabs (by decide) rfl (hts _ (in_tbl 459 (by decide +kernel)))
    rcases List.mem_cons.mp hx with rfl | hx
    · exact va_tabs (by decide) rfl (hts _ (in_tbl 522 (by decide +kernel)))
    rcases List.mem_cons.mp hx with rfl | hx
    · exact va_tabs (by decide) rfl (hts _ (in_tbl 672 (by decide +kernel)))
    cases hx
  · have h3 : ∀ z ∈ aj_exc, z = "java/lang/IllegalArgumentException" ∨ z = "java/lang/IllegalStateException" ∨ z = "java/lang/UnsupportedOperationException" := by decide
    rcases h3 x hx with rfl | rfl | rfl <;> rcases h3 y hy with rfl | rfl | rfl
    · exact absurd rfl hne
    · exact va_Nc.of (hfl _ (by decide +kernel))
    · exact va_Nc.of (hfl _ (by decide +kernel))
    · exact va_Nc.of (hfl _ (by decide +kernel))
    · exact absurd rfl hne
    · exact va_Nc.of (hfl _ (by decide +kernel))
    · exact va_Nc.of (hfl _ (by decide +kernel))
    · exact va_Nc.of (hfl _ (by decide +kernel))
    · exact absurd rfl hne
  · rcases List.mem_cons.mp hty with rfl | hty
    · exact hts _ (in_tbl (w := .arrayOver (.object "TestBench$Word")) 156 (by decide +kernel))
    rcases List.mem_cons.mp hty with rfl | hty
    · exact hts _ (in_tbl (w := .arrayOver (.array .int)) 158 (by decide +kernel))
    cases hty
theorem law_nest {args : Array Value} {s : State} (hts : ∀ w ∈ lw_tbl, w.before args s = true) : ∀ w ∈ nE.2.2.2.2, va_Nw (.methodLinkNest w.1 w.2.1 w.2.2.1 w.2.2.2) s := by
  intro w hw
  rcases List.mem_cons.mp hw with rfl | hw
  · exact va_tabs (by decide) rfl (hts _ (in_tbl 160 (by decide +kernel)))
  rcases List.mem_cons.mp hw with rfl | hw
  · exact va_tabs (by decide) rfl (hts _ (in_tbl 201 (by decide +kernel)))
  rcases List.mem_cons.mp hw with rfl | hw
  · exact va_tabs (by decide) rfl (hts _ (in_tbl 206 (by decide +kernel)))
  rcases List.mem_cons.mp hw with rfl | hw
  · exact va_tabs (by decide) rfl (hts _ (in_tbl 237 (by decide +kernel)))
  rcases List.mem_cons.mp hw with rfl | hw
  · exact va_tabs (by decide) rfl (hts _ (in_tbl 249 (by decide +kernel)))
  cases hw
