/-! the judgement: calls -/
def aj_wt : List aj_A → Nat
  | [] => 0
  | v :: vs => (if v.1 < 2 then 1 else 2) + aj_wt vs
theorem aj_wt_eq {a : Nat → Nat} : ∀ st : List aj_A, ((st.map (aj_c a)).map fun v => v.category).sum = aj_wt st
  | [] => rfl
  | v :: vs => by
    rw [List.map_cons, List.map_cons, List.sum_cons, aj_wt_eq vs]
    show _ = (if v.1 < 2 then 1 else 2) + aj_wt vs
    by_cases h : v.1 < 2
    · rw [if_pos h, aj_cat h]
    · rw [if_neg h, aj_cat2 h]
def aj_ws (E : aj_E) (M : aj_M) : List Cond := Cond.code M.1 M.2.1 M.2.2.1 M.2.2.2 :: E.2.2.2.1
def aj_rm (d bc bs : Nat) : Room := { frames := d + 2, cells := bc, slots := bs, locals := 48 * d }
def aj_Pc (E : aj_E) (al : Prop) (X : Option (Nat × (Int → Int))) (vs : List aj_A) (sh : List aj_S) (g : aj_G) (a tc : Nat → Nat) (D : va_G) (A : Nat → Prop) : Array Value → State → Prop := va_Pc (vs.map (aj_c a)) (fun U =>
  va_P D E.1 (aj_w E tc a sh g) U.heap ∧ va_K D E.1 (aj_ty tc E.2.1) U ∧ va_D A (aj_w E tc a sh g) ∧ (∀ q, U.heap.size ≤ q → A q) ∧ aj_ph al sh a U.heap.size ∧ aj_good E ∧ aj_xs E X a A U)
def aj_Qc (E : aj_E) (al : Prop) (a tc : Nat → Nat) (D : va_G) (A : Nat → Prop) (Q : aj_R → List aj_S → aj_G → Prop) : Array Value → State → Outcome → State → Prop := fun _ st o t =>
  ∃ (v : Option aj_A) (sh : List aj_S) (g : aj_G), o = .returned (v.map (aj_c a)) ∧ Q (.inl v) sh g ∧ va_P D E.1 (aj_w E tc a sh g) t.heap ∧ va_D A (aj_w E tc a sh g) ∧ va_F A st t ∧ aj_ph al sh a t.heap.size
theorem aj_th_same {A : Nat → Prop} {U : State} {g : JFrame} {mk : MethodId} {w : Array Value} (h : aj_th A U) : aj_th A (U.calling g mk w) :=
  ⟨fun x hx => va_Nw.same rfl rfl (h.1 x hx), fun x hx => va_Nw.same rfl rfl (h.2.1 x hx), h.2.2.1, h.2.2.2.1, h.2.2.2.2.1, fun ty hy => h.2.2.2.2.2 ty hy⟩
theorem aj_zs_at {n d : String} {A : Nat → Prop} {s U : State} {H : Heap} {locs : List Loc} (h : aj_zs n d A s s.heap) (hS : va_S A s.heap H locs) (hU : U.heap = H) (hW : s.vm.Alike U.vm) : aj_zs n d A U U.heap := by
  obtain ⟨b, cell, h1, h2, h3⟩ := h
  have hb : U.heap[b]? = some cell := by rw [hU, hS.2.1 b (Array.getElem?_eq_some_iff.mp h1).1 h2]; exact h1
  exact ⟨b, cell, hb, h2, fun V w hV hc => h3 V w (hW.trans hV) hc⟩
theorem aj_ao_at {ty : FieldType} {s U : State} (hW : s.vm.Alike U.vm) (h : va_Nw (.arrayOver ty) s) : va_Nw (.arrayOver ty) U := by
  have h1 : (Cond.arrayOver ty).before #[] (s.setVm U.vm) = true := by rw [Cond.arrayOver_setVmC hW]; exact h
  exact h1
theorem aj_th_at {A : Nat → Prop} {s U : State} {H : Heap} {locs : List Loc} (h : aj_th A s) (hS : va_S A s.heap H locs) (hU : U.heap = H) (hW : s.WarmedH U.vm) : aj_th A U :=
  ⟨fun x hx => va_Nw.warmD hW (h.1 x hx), fun x hx => va_Nw.warmC hW (h.2.1 x hx), fun x hx y hy hn => va_Nc.moved hW.alike (h.2.2.1 x hx y hy hn), aj_zs_at h.2.2.2.1 hS hU hW.alike, aj_zs_at h.2.2.2.2.1 hS hU hW.alike, fun ty hy => aj_ao_at hW.alike (h.2.2.2.2.2 ty hy)⟩
theorem aj_blind {E : aj_E} {al : Prop} {X : Option (Nat × (Int → Int))} {vs : List aj_A} {sh : List aj_S} {g : aj_G} {a tc : Nat → Nat} {D : va_G} {A : Nat → Prop} : FrameBlind (aj_Pc E al X vs sh g a tc D A) := by
  intro a' U g' mk q
  obtain ⟨q0, q1, q2, q3, q4, q5, q6, q7⟩ := q
  exact ⟨q0, q1, va_K.moved (u := U) (U := U.calling g' mk a') (Vm.Alike.refl U.vm) q2, q3, q4, q5, q6, fun y hy => ⟨va_X.moved (u := U) (U := U.calling g' mk a') (Vm.Alike.refl U.vm) (q7.1 y hy).1, (q7.1 y hy).2⟩, fun w hw => va_Nw.same rfl rfl (q7.2.1 w hw), aj_th_same q7.2.2⟩
section AJK
variable {E : aj_E} {al ao : Prop} {X : Option (Nat × (Int → Int))} {M : aj_M} {d bc bs pc : Nat} {lv : List (Option aj_A)} {st : List aj_A} {sh : List aj_S} {g : aj_G} {Q : aj_R → List aj_S → aj_G → Prop}
theorem aj_en_len {vs : List aj_A} {n : Nat} (h : (aj_ea vs).length ≤ n) : (aj_en vs n).length = n := by
  unfold aj_en
  rw [List.length_append, List.length_replicate]
  omega
theorem aj_met {l : Launch} {vs : List aj_A} (hst : l.stackTraces = false) (hy : plainName M.1.cls = true) (htb : aj_tb M.1 = []) (hlen : Nat.ble (aj_ea vs).length M.2.2.1 = true) (hret : ∀ r sh g, Q r sh g → ∃ v, r = .inl v) (k : aj_wp E al al X M d bc bs 0 (aj_en vs M.2.2.1) [] sh g Q) (a tc : Nat → Nat) (D : va_G) (A : Nat → Prop) :
    Met l M.1 (aj_ws E M) (aj_rm d bc bs) (aj_Pc E al X vs sh g a tc D A) (aj_Qc E al a tc D A Q) bc bs A := by
  refine Met.ofW (cc := M.2.1) (maxL := M.2.2.1) (ret := M.2.2.2) hy rfl ?_
  intro p e s m args below meth c s₁ B hml hv
  obtain ⟨rfl, hP, hK, hD, hA, h6, h7⟩ := hv
  have hts := atoms_spec (ws := aj_ws E M) B.pre
  have hle : (aj_ea vs).length ≤ M.2.2.1 := Nat.le_of_ble_eq_true hlen
  have hT : c.exceptionTable.toList.map (fun h => (h.startPc, h.endPc, h.handlerPc, h.catchType)) = aj_tb M.1 := by
    obtain ⟨meth', c', g1, g2, -, -, -, -, g3, -⟩ := Cond.code_spec B.named (hts _ List.mem_cons_self)
    have e1 : meth' = meth := Option.some.inj (g1.symm.trans B.method)
    subst e1
    have e2 : c' = c := Option.some.inj (g2.symm.trans (Stand.of_body B).code)
    subst e2
    rw [htb, Array.isEmpty_iff.mp g3]
    rfl
  have hl := lv_entry (vs.map (aj_c a)) (n := M.2.2.1) (by rw [aj_ea_len]; exact hle)
  rw [lg_entry_eq]
  generalize (lg_sl (vs.map (aj_c a)) ++ List.replicate (M.2.2.1 - (lg_sl (vs.map (aj_c a))).length) Slot.unset).toArray = ls at hl ⊢
  have hW := k p l e (aj_rm d bc bs) s m (vs.map (aj_c a)).toArray below meth c s.heap [] 0 0 ls a tc D A
    ⟨⟨B.exec, B.bytes, hml, findClass_of_methodNamed B.named, fun w hw => hts w (List.mem_cons_of_mem _ hw)⟩, ⟨B.returns, B.notSynchronized, (name_of_methodNamed B.named B.method).1, hT, hst⟩, ⟨Nat.le_refl _, Nat.le_refl _, by show 0 + bc ≤ bc; omega, by show 0 + bs ≤ bs; omega⟩, ⟨hP, hK, hD, va_S.rf, hA⟩, ⟨aj_en_len hle, aj_entry hl⟩, h6, h7⟩
  refine aj_monoW ?_ hW
  rintro t ⟨o, r, sh1, g1, e1, e2, e3, e4, e5, e6, e7, e8, L, e9, e10, e11⟩
  obtain ⟨v, rfl⟩ := hret _ _ _ e3
  rw [Nat.zero_add, Nat.zero_add] at e10
  exact ⟨o, e1, e2, ⟨v, sh1, g1, e4, e3, e5, e6, e7, e8⟩, L, ⟨⟨_, e4⟩, e9, e10⟩, e11⟩
def aj_K (E : aj_E) (al ao : Prop) (X : Option (Nat × (Int → Int))) (M : aj_M) (d bc bs q : Nat) (lv : List (Option aj_A)) (rest : List aj_A) (Q : aj_R → List aj_S → aj_G → Prop) : aj_R → List aj_S → aj_G → Prop := fun r sh g => match r with
  | .inl none => aj_wp E al ao X M d bc bs q lv rest sh g Q
  | .inl (some v) => aj_wp E al ao X M d bc bs q lv (v :: rest) sh g Q
  | .inr _ => False
theorem aj_K_inl {q : Nat} {rest : List aj_A} {v : Option aj_A} (h : aj_K E al ao X M d bc bs q lv rest Q (.inl v) sh g) : aj_wp E al ao X M d bc bs q lv (v.toList ++ rest) sh g Q := by
  cases v <;> exact h
theorem aj_K_ret {q : Nat} {rest : List aj_A} (r : aj_R) (sh : List aj_S) (g : aj_G) (h : aj_K E al ao X M d bc bs q lv rest Q r sh g) : ∃ v, r = .inl v := by
  cases r with
  | inl v => exact ⟨v, rfl⟩
  | inr k => exact False.elim h
theorem aj_after {p : Program} {l : Launch} {e : Env} {R : Room} {s : State} {m : MethodId} {args : Array Value} {below : List Frame} {meth : Method} {c : Code} {H : Heap} {locs : List Loc} {cells slots : Nat} {ls : Array Slot} {a tc : Nat → Nat} {D : va_G} {A : Nat → Prop} {bc1 bs1 bc2 bs2 : Nat} {rest : List aj_A} {st0 : List Value} {argsA : Array Value}
    (hc0 : aj_cx E al X M d bc bs lv sh g a tc D A p l R s m args meth c H locs cells slots ls) (hbc : bc2 + bc1 = bc) (hbs : bs2 + bs1 = bs)
    (hr : va_Run p l e R s m args below meth c H locs cells slots bc1 bs1 (F0 m pc ls st0) (rest.map (aj_c a)) (aj_Qc E al a tc D A (aj_K E al ao X M d bc2 bs2 (pc + 3) lv rest Q) argsA) A) :
    W p l e R s m args below meth c H locs cells slots (aj_fin E ao a tc D A Q below s (cells + bc) (slots + bs)) (F0 m pc ls st0) := by
  subst hbc
  subst hbs
  obtain ⟨h1, h2, h3, ⟨hP, hK, hD, hS, hA⟩, h5, h6, h7⟩ := hc0
  intro T hT X0
  obtain ⟨v, st₀, t, T', L, e0, X', hL, e1, e2, ⟨v1, sh1, g1, ev, k0, hP1, hD1, hF1, hph⟩, stp⟩ := hr T hT X0
  have k := aj_K_inl k0
  have hv : v = v1.map (aj_c a) := by injection ev
  subst hv
  have hS1 : va_S A s.heap T'.heap (locs ++ L) := ⟨Nat.le_trans hS.1 (by rw [e1, ← e0]; exact hF1.1), fun q q1 q2 => by rw [e1, hF1.2 q (by rw [e0]; exact Nat.lt_of_lt_of_le q1 hS.1) q2, e0]; exact hS.2.1 q q1 q2, fun q hq => (List.mem_append.mp hq).elim (hS.2.2 q) (hL q)⟩
  have kk := k p l e R s m args below meth c T'.heap (locs ++ L) (cells + bc1) (slots + bs1) ls a tc D A ⟨h1, h2, ⟨h3.1, h3.2.1, by omega, by omega⟩, ⟨by rw [e1]; exact hP1, hK, hD1, hS1, hA⟩, h5, by rw [e1]; exact hph, h7⟩
  rw [show cells + bc1 + bc2 = cells + (bc2 + bc1) by omega, show slots + bs1 + bs2 = slots + (bs2 + bs1) by omega, show (v1.toList ++ rest).map (aj_c a) = (v1.map (aj_c a)).toList ++ rest.map (aj_c a) by cases v1 <;> simp] at kk
  obtain ⟨t2, a1, b1⟩ := kk T' rfl X'
  exact ⟨t2, stp t2 a1, b1⟩
def aj_cl0 (E : aj_E) (own : String) (index : Nat) (N : aj_M) (n : Nat) : Prop := Cond.methodLink own index N.1 ∈ E.2.2.2.1 ∧ Cond.code N.1 N.2.1 N.2.2.1 N.2.2.2 ∈ E.2.2.2.1 ∧ Cond.initialized N.1.cls ∈ E.2.2.2.1 ∧
  (N.1.cls ≠ "java/lang/invoke/MethodHandle" ∧ N.1.cls ≠ "java/lang/invoke/VarHandle" ∧ (parseMethodDescriptor N.1.desc).map (fun d => d.parameters.length) = some n) ∧ N.2.2.1 ≤ 29 ∧ plainName N.1.cls = true ∧ aj_tb N.1 = []
def aj_vl (E : aj_E) (own : String) (index : Nat) (N : aj_M) (n ci : Nat) : Prop := aj_cl0 E own index N n ∧ Cond.instanceMethod N.1 ∈ E.2.2.2.1 ∧ Cond.selects N.1.cls N.1 N.1 ∈ E.2.2.2.1 ∧ ∃ q : vw_C, E.1[ci]? = some q ∧ q.1 = N.1.cls
def aj_sl (E : aj_E) (own : String) (index : Nat) (N : aj_M) (n : Nat) : Prop := aj_cl0 E own index N n ∧ Cond.static N.1 ∈ E.2.2.2.1
def aj_il (E : aj_E) (own : String) (index : Nat) (N : aj_M) (n : Nat) : Prop := aj_cl0 E own index N n ∧ Cond.instanceMethod N.1 ∈ E.2.2.2.1 ∧ N.1.name = "<init>" ∧ N.2.2.2 = none
theorem aj_cb {own : String} {index n d1 bc1 bs1 : Nat} {N : aj_M} {R : Room} {s : State} {args : Array Value} (hl : aj_cl0 E own index N n) (hE : aj_good E) (hts : ∀ w ∈ E.2.2.2.1, w.before args s = true) (hf : d1 + 1 + 2 ≤ R.frames) (hlo : 48 * (d1 + 1) ≤ R.locals) : CallB R s args own index N.1 N.2.1 N.2.2.1 N.2.2.2 (aj_ws E N) (aj_rm d1 bc1 bs1) bc1 bs1 n := by
  obtain ⟨w1, w2, w3, ⟨w4, w5, w6⟩, w7, -⟩ := hl
  refine ⟨rfl, rfl, by show d1 + 2 + 1 ≤ R.frames; omega, ?_, pay_in hts (fun w hw => ?_), List.mem_cons_self, hts _ w2, hts _ w3, ⟨w4, w5⟩, fun sig h => ?_, hts _ w1⟩
  · show 8 + (N.2.2.1 + 11) + 48 * d1 ≤ R.locals
    omega
  · rcases List.mem_cons.mp hw with rfl | h
    · exact ⟨w2, hE.1 _ w2⟩
    · exact ⟨h, hE.1 _ h⟩
  · rw [h] at w6
    exact (Option.some.inj w6).symm
theorem aj_xs_at {a : Nat → Nat} {A : Nat → Prop} {s U : State} {H : Heap} {locs : List Loc} (h : aj_xs E X a A s) (hS : va_S A s.heap H locs) (hU : U.heap = H) (hW : s.WarmedH U.vm) : aj_xs E X a A U := by
  refine ⟨fun y hy => ?_, fun w hw => va_Nw.warmM hW (h.2.1 w hw), aj_th_at h.2.2 hS hU hW⟩
  obtain ⟨x1, x2, x3, x4⟩ := h.1 y hy
  refine ⟨?_, by rw [hU]; exact Nat.lt_of_lt_of_le x2 hS.1, x3, x4⟩
  rw [hU]
  exact va_X.moved hW.alike (x1.kept (hS.2.1 _ x2 x3))
theorem aj_callV {N : aj_M} {index n ci d1 bc1 bs1 bc2 bs2 : Nat} {r : Int} {rest : List aj_A} (vs : List aj_A) (q : Nat) (hl : aj_vl E M.1.cls index N n ci) (hd : decode M.2.1 pc = .ok (.invokevirtual index, 3)) (hq : pc + 3 = q) (hn : vs.length = n) (hdd : d1 + 1 = d) (hbc : bc2 + bc1 = bc) (hbs : bs2 + bs1 = bs) (hwt : Nat.ble (aj_wt rest) 8 = true) (hea : Nat.ble (aj_ea ((1, r) :: vs)).length N.2.2.1 = true)
    (hs : aj_sh sh r = some (.inr ci)) (k : aj_wp E al al X N d1 bc1 bs1 0 (aj_en ((1, r) :: vs) N.2.2.1) [] sh g (aj_K E al ao X M d bc2 bs2 q lv rest Q)) : aj_wp E al ao X M d bc bs pc lv (vs.reverse ++ (1, r) :: rest) sh g Q := by
  subst hq
  intro p l e R s m args below meth c H locs cells slots ls a tc D A hc0
  have hM := aj_met (l := l) hc0.2.1.2.2.2.2 hl.1.2.2.2.2.2.1 hl.1.2.2.2.2.2.2 hea aj_K_ret k a tc D A
  obtain ⟨h0, -⟩ := aj_sh_get hs
  refine aj_after (rest := rest) (argsA := (Value.ref (a r.toNat) :: vs.map (aj_c a)).toArray) (st0 := (vs.reverse ++ (1, r) :: rest).map (aj_c a)) hc0 hbc hbs ?_
  obtain ⟨h1, h2, h3, ⟨hP, hK, hD, hS, hA⟩, h5, h6, h7⟩ := hc0
  have hts := h1.2.2.2.2
  subst hdd
  have hcb := aj_cb (bc1 := bc1) (bs1 := bs1) hl.1 h7.1 hts h3.1 (by omega)
  obtain ⟨rc, hrc, hrn⟩ := hl.2.2.2
  refine va_runV (As := vs.map (aj_c a)) (b := a r.toNat) (C := N.1.cls) h1 hM ⟨hcb, hts _ hl.2.1, hts _ hl.2.2.1⟩ ⟨aj_blind, ?_, fun U hU hW => ?_⟩ rfl (by rw [List.length_map]; exact hn) h5.2.1 ?_ (lv_room (by rw [aj_wt_eq]; exact Nat.le_of_ble_eq_true hwt)) hd ⟨by omega, by omega⟩
  · rw [← hrn]
    exact va_recv hK hP hrc (aj_w_get (E := E) (tc := tc) (a := a) (g := g) hs)
  · refine ⟨by rw [List.map_cons, aj_cr h0], by rw [hU]; exact hP, va_K.moved hW.alike hK, hD, fun q hq => hA q (by rw [hU] at hq; exact Nat.le_trans hS.1 hq), by rw [hU]; exact h6, h7.1, aj_xs_at h7.2 hS hU hW⟩
  · show (vs.reverse ++ (1, r) :: rest).map (aj_c a) = _
    rw [List.map_append, List.map_reverse, List.map_cons, aj_cr h0]
theorem aj_callS {N : aj_M} {index n d1 bc1 bs1 bc2 bs2 : Nat} {rest : List aj_A} (vs : List aj_A) (q : Nat) (hl : aj_sl E M.1.cls index N n) (hd : decode M.2.1 pc = .ok (.invokestatic index, 3)) (hq : pc + 3 = q) (hn : vs.length = n) (hdd : d1 + 1 = d) (hbc : bc2 + bc1 = bc) (hbs : bs2 + bs1 = bs) (hwt : Nat.ble (aj_wt rest) 8 = true) (hea : Nat.ble (aj_ea vs).length N.2.2.1 = true)
    (k : aj_wp E al al X N d1 bc1 bs1 0 (aj_en vs N.2.2.1) [] sh g (aj_K E al ao X M d bc2 bs2 q lv rest Q)) : aj_wp E al ao X M d bc bs pc lv (vs.reverse ++ rest) sh g Q := by
  subst hq
  intro p l e R s m args below meth c H locs cells slots ls a tc D A hc0
  have hM := aj_met (l := l) hc0.2.1.2.2.2.2 hl.1.2.2.2.2.2.1 hl.1.2.2.2.2.2.2 hea aj_K_ret k a tc D A
  refine aj_after (rest := rest) (argsA := (vs.map (aj_c a)).toArray) (st0 := (vs.reverse ++ rest).map (aj_c a)) hc0 hbc hbs ?_
  obtain ⟨h1, h2, h3, ⟨hP, hK, hD, hS, hA⟩, h5, h6, h7⟩ := hc0
  have hts := h1.2.2.2.2
  subst hdd
  have hcb := aj_cb (bc1 := bc1) (bs1 := bs1) hl.1 h7.1 hts h3.1 (by omega)
  refine va_runS (As := vs.map (aj_c a)) h1 hM ⟨hcb, hts _ hl.2⟩ ⟨aj_blind, fun U hU hW => ?_⟩ rfl (by rw [List.length_map]; exact hn) h5.2.1 ?_ (lv_room (by rw [aj_wt_eq]; exact Nat.le_of_ble_eq_true hwt)) hd ⟨by omega, by omega⟩
  · refine ⟨rfl, by rw [hU]; exact hP, va_K.moved hW.alike hK, hD, fun q hq => hA q (by rw [hU] at hq; exact Nat.le_trans hS.1 hq), by rw [hU]; exact h6, h7.1, aj_xs_at h7.2 hS hU hW⟩
  · show (vs.reverse ++ rest).map (aj_c a) = _
    rw [List.map_append, List.map_reverse]
theorem aj_callI {N : aj_M} {index n d1 bc1 bs1 bc2 bs2 : Nat} {r : Int} {rest : List aj_A} (vs : List aj_A) (q : Nat) (hl : aj_il E M.1.cls index N n) (hd : decode M.2.1 pc = .ok (.invokespecial index, 3)) (hq : pc + 3 = q) (hn : vs.length = n) (hdd : d1 + 1 = d) (hbc : bc2 + bc1 = bc) (hbs : bs2 + bs1 = bs) (hwt : Nat.ble (aj_wt rest) 8 = true) (hea : Nat.ble (aj_ea ((1, r) :: vs)).length N.2.2.1 = true) (h0 : 0 ≤ r)
    (k : aj_wp E al al X N d1 bc1 bs1 0 (aj_en ((1, r) :: vs) N.2.2.1) [] sh g (aj_K E al ao X M d bc2 bs2 q lv rest Q)) : aj_wp E al ao X M d bc bs pc lv (vs.reverse ++ (1, r) :: rest) sh g Q := by
  subst hq
  intro p l e R s m args below meth c H locs cells slots ls a tc D A hc0
  have hM := aj_met (l := l) hc0.2.1.2.2.2.2 hl.1.2.2.2.2.2.1 hl.1.2.2.2.2.2.2 hea aj_K_ret k a tc D A
  refine aj_after (rest := rest) (argsA := (Value.ref (a r.toNat) :: vs.map (aj_c a)).toArray) (st0 := (vs.reverse ++ (1, r) :: rest).map (aj_c a)) hc0 hbc hbs ?_
  obtain ⟨h1, h2, h3, ⟨hP, hK, hD, hS, hA⟩, h5, h6, h7⟩ := hc0
  have hts := h1.2.2.2.2
  subst hdd
  have hcb := aj_cb (bc1 := bc1) (bs1 := bs1) hl.1 h7.1 hts h3.1 (by omega)
  rw [hl.2.2.2] at hcb
  refine va_runI (As := vs.map (aj_c a)) (b := a r.toNat) h1 hM ⟨hcb, hl.2.2.1, hts _ hl.2.1⟩ ⟨aj_blind, fun U hU hW => ?_⟩ rfl (by rw [List.length_map]; exact hn) h5.2.1 ?_ (lv_room (by rw [aj_wt_eq]; exact Nat.le_of_ble_eq_true hwt)) hd ⟨by omega, by omega⟩
  · refine ⟨by rw [List.map_cons, aj_cr h0], by rw [hU]; exact hP, va_K.moved hW.alike hK, hD, fun q hq => hA q (by rw [hU] at hq; exact Nat.le_trans hS.1 hq), by rw [hU]; exact h6, h7.1, aj_xs_at h7.2 hS hU hW⟩
  · show (vs.reverse ++ (1, r) :: rest).map (aj_c a) = _
    rw [List.map_append, List.map_reverse, List.map_cons, aj_cr h0]
theorem aj_callV0 {N : aj_M} {index ci d1 bc1 bs1 bc2 bs2 : Nat} {r : Int} {rest : List aj_A} (q : Nat) (hl : aj_vl E M.1.cls index N 0 ci) (hd : decode M.2.1 pc = .ok (.invokevirtual index, 3)) (hq : pc + 3 = q) (hdd : d1 + 1 = d) (hbc : bc2 + bc1 = bc) (hbs : bs2 + bs1 = bs) (hwt : Nat.ble (aj_wt rest) 8 = true) (hea : Nat.ble (aj_ea [(1, r)]).length N.2.2.1 = true)
    (hs : aj_sh sh r = some (.inr ci)) (k : aj_wp E al al X N d1 bc1 bs1 0 (aj_en [(1, r)] N.2.2.1) [] sh g (aj_K E al ao X M d bc2 bs2 q lv rest Q)) : aj_wp E al ao X M d bc bs pc lv ((1, r) :: rest) sh g Q :=
  aj_callV [] q hl hd hq rfl hdd hbc hbs hwt hea hs k
theorem aj_callV1 {N : aj_M} {index ci d1 bc1 bs1 bc2 bs2 : Nat} {r : Int} {rest : List aj_A} {v1 : aj_A} (q : Nat) (hl : aj_vl E M.1.cls index N 1 ci) (hd : decode M.2.1 pc = .ok (.invokevirtual index, 3)) (hq : pc + 3 = q) (hdd : d1 + 1 = d) (hbc : bc2 + bc1 = bc) (hbs : bs2 + bs1 = bs) (hwt : Nat.ble (aj_wt rest) 8 = true) (hea : Nat.ble (aj_ea [(1, r), v1]).length N.2.2.1 = true)
    (hs : aj_sh sh r = some (.inr ci)) (k : aj_wp E al al X N d1 bc1 bs1 0 (aj_en [(1, r), v1] N.2.2.1) [] sh g (aj_K E al ao X M d bc2 bs2 q lv rest Q)) : aj_wp E al ao X M d bc bs pc lv (v1 :: (1, r) :: rest) sh g Q :=
  aj_callV [v1] q hl hd hq rfl hdd hbc hbs hwt hea hs k
theorem aj_callV2 {N : aj_M} {index ci d1 bc1 bs1 bc2 bs2 : Nat} {r : Int} {rest : List aj_A} {v1 v2 : aj_A} (q : Nat) (hl : aj_vl E M.1.cls index N 2 ci) (hd : decode M.2.1 pc = .ok (.invokevirtual index, 3)) (hq : pc + 3 = q) (hdd : d1 + 1 = d) (hbc : bc2 + bc1 = bc) (hbs : bs2 + bs1 = bs) (hwt : Nat.ble (aj_wt rest) 8 = true) (hea : Nat.ble (aj_ea [(1, r), v1, v2]).length N.2.2.1 = true)
    (hs : aj_sh sh r = some (.inr ci)) (k : aj_wp E al al X N d1 bc1 bs1 0 (aj_en [(1, r), v1, v2] N.2.2.1) [] sh g (aj_K E al ao X M d bc2 bs2 q lv rest Q)) : aj_wp E al ao X M d bc bs pc lv (v2 :: v1 :: (1, r) :: rest) sh g Q :=
  aj_callV [v1, v2] q hl hd hq rfl hdd hbc hbs hwt hea hs k
theorem aj_callV3 {N : aj_M} {index ci d1 bc1 bs1 bc2 bs2 : Nat} {r : Int} {rest : List aj_A} {v1 v2 v3 : aj_A} (q : Nat) (hl : aj_vl E M.1.cls index N 3 ci) (hd : decode M.2.1 pc = .ok (.invokevirtual index, 3)) (hq : pc + 3 = q) (hdd : d1 + 1 = d) (hbc : bc2 + bc1 = bc) (hbs : bs2 + bs1 = bs) (hwt : Nat.ble (aj_wt rest) 8 = true) (hea : Nat.ble (aj_ea [(1, r), v1, v2, v3]).length N.2.2.1 = true)
    (hs : aj_sh sh r = some (.inr ci)) (k : aj_wp E al al X N d1 bc1 bs1 0 (aj_en [(1, r), v1, v2, v3] N.2.2.1) [] sh g (aj_K E al ao X M d bc2 bs2 q lv rest Q)) : aj_wp E al ao X M d bc bs pc lv (v3 :: v2 :: v1 :: (1, r) :: rest) sh g Q :=
  aj_callV [v1, v2, v3] q hl hd hq rfl hdd hbc hbs hwt hea hs k
theorem aj_callV4 {N : aj_M} {index ci d1 bc1 bs1 bc2 bs2 : Nat} {r : Int} {rest : List aj_A} {v1 v2 v3 v4 : aj_A} (q : Nat) (hl : aj_vl E M.1.cls index N 4 ci) (hd : decode M.2.1 pc = .ok (.invokevirtual index, 3)) (hq : pc + 3 = q) (hdd : d1 + 1 = d) (hbc : bc2 + bc1 = bc) (hbs : bs2 + bs1 = bs) (hwt : Nat.ble (aj_wt rest) 8 = true) (hea : Nat.ble (aj_ea [(1, r), v1, v2, v3, v4]).length N.2.2.1 = true)
    (hs : aj_sh sh r = some (.inr ci)) (k : aj_wp E al al X N d1 bc1 bs1 0 (aj_en [(1, r), v1, v2, v3, v4] N.2.2.1) [] sh g (aj_K E al ao X M d bc2 bs2 q lv rest Q)) : aj_wp E al ao X M d bc bs pc lv (v4 :: v3 :: v2 :: v1 :: (1, r) :: rest) sh g Q :=
  aj_callV [v1, v2, v3, v4] q hl hd hq rfl hdd hbc hbs hwt hea hs k
theorem aj_callS0 {N : aj_M} {index d1 bc1 bs1 bc2 bs2 : Nat} {rest : List aj_A} (q : Nat) (hl : aj_sl E M.1.cls index N 0) (hd : decode M.2.1 pc = .ok (.invokestatic index, 3)) (hq : pc + 3 = q) (hdd : d1 + 1 = d) (hbc : bc2 + bc1 = bc) (hbs : bs2 + bs1 = bs) (hwt : Nat.ble (aj_wt rest) 8 = true) (hea : Nat.ble (aj_ea []).length N.2.2.1 = true)
    (k : aj_wp E al al X N d1 bc1 bs1 0 (aj_en [] N.2.2.1) [] sh g (aj_K E al ao X M d bc2 bs2 q lv rest Q)) : aj_wp E al ao X M d bc bs pc lv rest sh g Q :=
  aj_callS [] q hl hd hq rfl hdd hbc hbs hwt hea k
theorem aj_callS1 {N : aj_M} {index d1 bc1 bs1 bc2 bs2 : Nat} {rest : List aj_A} {v1 : aj_A} (q : Nat) (hl : aj_sl E M.1.cls index N 1) (hd : decode M.2.1 pc = .ok (.invokestatic index, 3)) (hq : pc + 3 = q) (hdd : d1 + 1 = d) (hbc : bc2 + bc1 = bc) (hbs : bs2 + bs1 = bs) (hwt : Nat.ble (aj_wt rest) 8 = true) (hea : Nat.ble (aj_ea [v1]).length N.2.2.1 = true)
    (k : aj_wp E al al X N d1 bc1 bs1 0 (aj_en [v1] N.2.2.1) [] sh g (aj_K E al ao X M d bc2 bs2 q lv rest Q)) : aj_wp E al ao X M d bc bs pc lv (v1 :: rest) sh g Q :=
  aj_callS [v1] q hl hd hq rfl hdd hbc hbs hwt hea k
theorem aj_callS2 {N : aj_M} {index d1 bc1 bs1 bc2 bs2 : Nat} {rest : List aj_A} {v1 v2 : aj_A} (q : Nat) (hl : aj_sl E M.1.cls index N 2) (hd : decode M.2.1 pc = .ok (.invokestatic index, 3)) (hq : pc + 3 = q) (hdd : d1 + 1 = d) (hbc : bc2 + bc1 = bc) (hbs : bs2 + bs1 = bs) (hwt : Nat.ble (aj_wt rest) 8 = true) (hea : Nat.ble (aj_ea [v1, v2]).length N.2.2.1 = true)
    (k : aj_wp E al al X N d1 bc1 bs1 0 (aj_en [v1, v2] N.2.2.1) [] sh g (aj_K E al ao X M d bc2 bs2 q lv rest Q)) : aj_wp E al ao X M d bc bs pc lv (v2 :: v1 :: rest) sh g Q :=
  aj_callS [v1, v2] q hl hd hq rfl hdd hbc hbs hwt hea k
theorem aj_callS3 {N : aj_M} {index d1 bc1 bs1 bc2 bs2 : Nat} {rest : List aj_A} {v1 v2 v3 : aj_A} (q : Nat) (hl : aj_sl E M.1.cls index N 3) (hd : decode M.2.1 pc = .ok (.invokestatic index, 3)) (hq : pc + 3 = q) (hdd : d1 + 1 = d) (hbc : bc2 + bc1 = bc) (hbs : bs2 + bs1 = bs) (hwt : Nat.ble (aj_wt rest) 8 = true) (hea : Nat.ble (aj_ea [v1, v2, v3]).length N.2.2.1 = true)
    (k : aj_wp E al al X N d1 bc1 bs1 0 (aj_en [v1, v2, v3] N.2.2.1) [] sh g (aj_K E al ao X M d bc2 bs2 q lv rest Q)) : aj_wp E al ao X M d bc bs pc lv (v3 :: v2 :: v1 :: rest) sh g Q :=
  aj_callS [v1, v2, v3] q hl hd hq rfl hdd hbc hbs hwt hea k
theorem aj_callS4 {N : aj_M} {index d1 bc1 bs1 bc2 bs2 : Nat} {rest : List aj_A} {v1 v2 v3 v4 : aj_A} (q : Nat) (hl : aj_sl E M.1.cls index N 4) (hd : decode M.2.1 pc = .ok (.invokestatic index, 3)) (hq : pc + 3 = q) (hdd : d1 + 1 = d) (hbc : bc2 + bc1 = bc) (hbs : bs2 + bs1 = bs) (hwt : Nat.ble (aj_wt rest) 8 = true) (hea : Nat.ble (aj_ea [v1, v2, v3, v4]).length N.2.2.1 = true)
    (k : aj_wp E al al X N d1 bc1 bs1 0 (aj_en [v1, v2, v3, v4] N.2.2.1) [] sh g (aj_K E al ao X M d bc2 bs2 q lv rest Q)) : aj_wp E al ao X M d bc bs pc lv (v4 :: v3 :: v2 :: v1 :: rest) sh g Q :=
  aj_callS [v1, v2, v3, v4] q hl hd hq rfl hdd hbc hbs hwt hea k
theorem aj_callS5 {N : aj_M} {index d1 bc1 bs1 bc2 bs2 : Nat} {rest : List aj_A} {v1 v2 v3 v4 v5 : aj_A} (q : Nat) (hl : aj_sl E M.1.cls index N 5) (hd : decode M.2.1 pc = .ok (.invokestatic index, 3)) (hq : pc + 3 = q) (hdd : d1 + 1 = d) (hbc : bc2 + bc1 = bc) (hbs : bs2 + bs1 = bs) (hwt : Nat.ble (aj_wt rest) 8 = true) (hea : Nat.ble (aj_ea [v1, v2, v3, v4, v5]).length N.2.2.1 = true)
    (k : aj_wp E al al X N d1 bc1 bs1 0 (aj_en [v1, v2, v3, v4, v5] N.2.2.1) [] sh g (aj_K E al ao X M d bc2 bs2 q lv rest Q)) : aj_wp E al ao X M d bc bs pc lv (v5 :: v4 :: v3 :: v2 :: v1 :: rest) sh g Q :=
  aj_callS [v1, v2, v3, v4, v5] q hl hd hq rfl hdd hbc hbs hwt hea k
theorem aj_callI0 {N : aj_M} {index d1 bc1 bs1 bc2 bs2 : Nat} {r : Int} {rest : List aj_A} (q : Nat) (hl : aj_il E M.1.cls index N 0) (hd : decode M.2.1 pc = .ok (.invokespecial index, 3)) (hq : pc + 3 = q) (hdd : d1 + 1 = d) (hbc : bc2 + bc1 = bc) (hbs : bs2 + bs1 = bs) (hwt : Nat.ble (aj_wt rest) 8 = true) (hea : Nat.ble (aj_ea [(1, r)]).length N.2.2.1 = true) (h0 : 0 ≤ r)
    (k : aj_wp E al al X N d1 bc1 bs1 0 (aj_en [(1, r)] N.2.2.1) [] sh g (aj_K E al ao X M d bc2 bs2 q lv rest Q)) : aj_wp E al ao X M d bc bs pc lv ((1, r) :: rest) sh g Q :=
  aj_callI [] q hl hd hq rfl hdd hbc hbs hwt hea h0 k
theorem aj_callI1 {N : aj_M} {index d1 bc1 bs1 bc2 bs2 : Nat} {r : Int} {rest : List aj_A} {v1 : aj_A} (q : Nat) (hl : aj_il E M.1.cls index N 1) (hd : decode M.2.1 pc = .ok (.invokespecial index, 3)) (hq : pc + 3 = q) (hdd : d1 + 1 = d) (hbc : bc2 + bc1 = bc) (hbs : bs2 + bs1 = bs) (hwt : Nat.ble (aj_wt rest) 8 = true) (hea : Nat.ble (aj_ea [(1, r), v1]).length N.2.2.1 = true) (h0 : 0 ≤ r)
    (k : aj_wp E al al X N d1 bc1 bs1 0 (aj_en [(1, r), v1] N.2.2.1) [] sh g (aj_K E al ao X M d bc2 bs2 q lv rest Q)) : aj_wp E al ao X M d bc bs pc lv (v1 :: (1, r) :: rest) sh g Q :=
  aj_callI [v1] q hl hd hq rfl hdd hbc hbs hwt hea h0 k
theorem aj_callI2 {N : aj_M} {index d1 bc1 bs1 bc2 bs2 : Nat} {r : Int} {rest : List aj_A} {v1 v2 : aj_A} (q : Nat) (hl : aj_il E M.1.cls index N 2) (hd : decode M.2.1 pc = .ok (.invokespecial index, 3)) (hq : pc + 3 = q) (hdd : d1 + 1 = d) (hbc : bc2 + bc1 = bc) (hbs : bs2 + bs1 = bs) (hwt : Nat.ble (aj_wt rest) 8 = true) (hea : Nat.ble (aj_ea [(1, r), v1, v2]).length N.2.2.1 = true) (h0 : 0 ≤ r)
    (k : aj_wp E al al X N d1 bc1 bs1 0 (aj_en [(1, r), v1, v2] N.2.2.1) [] sh g (aj_K E al ao X M d bc2 bs2 q lv rest Q)) : aj_wp E al ao X M d bc bs pc lv (v2 :: v1 :: (1, r) :: rest) sh g Q :=
  aj_callI [v1, v2] q hl hd hq rfl hdd hbc hbs hwt hea h0 k
theorem aj_callI3 {N : aj_M} {index d1 bc1 bs1 bc2 bs2 : Nat} {r : Int} {rest : List aj_A} {v1 v2 v3 : aj_A} (q : Nat) (hl : aj_il E M.1.cls index N 3) (hd : decode M.2.1 pc = .ok (.invokespecial index, 3)) (hq : pc + 3 = q) (hdd : d1 + 1 = d) (hbc : bc2 + bc1 = bc) (hbs : bs2 + bs1 = bs) (hwt : Nat.ble (aj_wt rest) 8 = true) (hea : Nat.ble (aj_ea [(1, r), v1, v2, v3]).length N.2.2.1 = true) (h0 : 0 ≤ r)
    (k : aj_wp E al al X N d1 bc1 bs1 0 (aj_en [(1, r), v1, v2, v3] N.2.2.1) [] sh g (aj_K E al ao X M d bc2 bs2 q lv rest Q)) : aj_wp E al ao X M d bc bs pc lv (v3 :: v2 :: v1 :: (1, r) :: rest) sh g Q :=
  aj_callI [v1, v2, v3] q hl hd hq rfl hdd hbc hbs hwt hea h0 k
end AJK
