/-! the judgement: a static method with a table of handlers, called; a constructor of a nest mate, called -/
section AJW
variable {E : aj_E} {al ao : Prop} {X : Option (Nat × (Int → Int))} {M : aj_M} {d bc bs pc : Nat} {lv : List (Option aj_A)} {st : List aj_A} {sh : List aj_S} {g : aj_G} {Q : aj_R → List aj_S → aj_G → Prop}
def aj_wsW (E : aj_E) (M : aj_M) : List Cond := Cond.codeWith M.1 M.2.1 M.2.2.1 M.2.2.2 (aj_tb M.1) :: E.2.2.2.1
theorem aj_metW {l : Launch} {vs : List aj_A} (hst : l.stackTraces = false) (hy : plainName M.1.cls = true) (hlen : Nat.ble (aj_ea vs).length M.2.2.1 = true) (hret : ∀ r sh g, Q r sh g → ∃ v, r = .inl v) (k : aj_wp E al al X M d bc bs 0 (aj_en vs M.2.2.1) [] sh g Q) (a tc : Nat → Nat) (D : va_G) (A : Nat → Prop) :
    Met l M.1 (aj_wsW E M) (aj_rm d bc bs) (aj_Pc E al X vs sh g a tc D A) (aj_Qc E al a tc D A Q) bc bs A := by
  refine va_MetW (cc := M.2.1) (maxL := M.2.2.1) (ret := M.2.2.2) (hh := aj_tb M.1) hy rfl ?_
  intro p e s m args below meth c s₁ B hml hv
  obtain ⟨rfl, hP, hK, hD, hA, h6, h7⟩ := hv
  have hts := atoms_spec (ws := aj_wsW E M) B.pre
  have hle : (aj_ea vs).length ≤ M.2.2.1 := Nat.le_of_ble_eq_true hlen
  have hT : c.exceptionTable.toList.map (fun h => (h.startPc, h.endPc, h.handlerPc, h.catchType)) = aj_tb M.1 := by
    obtain ⟨m', meth', c', g0, g1, g2, -, -, g3, -⟩ := Cond.codeWith_spec (hts _ List.mem_cons_self)
    have e0 : m' = m := Option.some.inj (g0.symm.trans B.named)
    subst e0
    have e1 : meth' = meth := Option.some.inj (g1.symm.trans B.method)
    subst e1
    have e2 : c' = c := Option.some.inj (g2.symm.trans (Stand.of_body B).code)
    subst e2
    exact g3
  have hl := lv_entry (vs.map (aj_c a)) (n := M.2.2.1) (by rw [aj_ea_len]; exact hle)
  rw [lg_entry_eq]
  generalize (lg_sl (vs.map (aj_c a)) ++ List.replicate (M.2.2.1 - (lg_sl (vs.map (aj_c a))).length) Slot.unset).toArray = ls at hl ⊢
  have hW := k p l e (aj_rm d bc bs) s m (vs.map (aj_c a)).toArray below meth c s.heap [] 0 0 ls a tc D A
    ⟨⟨B.exec, B.bytes, hml, findClass_of_methodNamed B.named, fun w hw => hts w (List.mem_cons_of_mem _ hw)⟩, ⟨B.returns, B.notSynchronized, (name_of_methodNamed B.named B.method).1, hT, hst⟩, ⟨Nat.le_refl _, Nat.le_refl _, by show 0 + bc ≤ bc; omega, by show 0 + bs ≤ bs; omega⟩, ⟨hP, hK, hD, va_S.rf, hA⟩, ⟨aj_en_len hle, aj_entry hl⟩, h6, h7⟩
  refine aj_monoW ?_ hW
  rintro t ⟨o, r, sh1, g1, e1, e2, e3, e4, e5, e6, e7, e8, L, e9, e10, e11⟩
  obtain ⟨v, rfl⟩ := hret _ _ _ e3
  rw [Nat.zero_add, Nat.zero_add] at e10
  exact ⟨o, e1, e2, ⟨v, sh1, g1, e4, e3, e5, e6, e7, e8⟩, L, ⟨⟨_, e4⟩, e9, e10⟩, e11⟩
def aj_wl (E : aj_E) (own : String) (index : Nat) (N : aj_M) (n : Nat) : Prop := Cond.methodLink own index N.1 ∈ E.2.2.2.1 ∧ Cond.codeWith N.1 N.2.1 N.2.2.1 N.2.2.2 (aj_tb N.1) ∈ E.2.2.2.1 ∧ Cond.initialized N.1.cls ∈ E.2.2.2.1 ∧
  (N.1.cls ≠ "java/lang/invoke/MethodHandle" ∧ N.1.cls ≠ "java/lang/invoke/VarHandle" ∧ (parseMethodDescriptor N.1.desc).map (fun d => d.parameters.length) = some n) ∧ N.2.2.1 ≤ 29 ∧ plainName N.1.cls = true ∧ Cond.static N.1 ∈ E.2.2.2.1
theorem aj_callW {N : aj_M} {index n d1 bc1 bs1 bc2 bs2 : Nat} {rest : List aj_A} (vs : List aj_A) (q : Nat) (hl : aj_wl E M.1.cls index N n) (hd : decode M.2.1 pc = .ok (.invokestatic index, 3)) (hq : pc + 3 = q) (hn : vs.length = n) (hdd : d1 + 1 = d) (hbc : bc2 + bc1 = bc) (hbs : bs2 + bs1 = bs) (hwt : Nat.ble (aj_wt rest) 8 = true) (hea : Nat.ble (aj_ea vs).length N.2.2.1 = true)
    (k : aj_wp E al al X N d1 bc1 bs1 0 (aj_en vs N.2.2.1) [] sh g (aj_K E al ao X M d bc2 bs2 q lv rest Q)) : aj_wp E al ao X M d bc bs pc lv (vs.reverse ++ rest) sh g Q := by
  subst hq
  intro p l e R s m args below meth c H locs cells slots ls a tc D A hc0
  obtain ⟨w1, w2, w3, ⟨w4, w5, w6⟩, w7, w8, w9⟩ := hl
  have hM := aj_metW (l := l) hc0.2.1.2.2.2.2 w8 hea aj_K_ret k a tc D A
  refine aj_after (rest := rest) (argsA := (vs.map (aj_c a)).toArray) (st0 := (vs.reverse ++ rest).map (aj_c a)) hc0 hbc hbs ?_
  obtain ⟨h1, h2, h3, ⟨hP, hK, hD, hS, hA⟩, h5, h6, h7⟩ := hc0
  have hts := h1.2.2.2.2
  subst hdd
  have hws : ∀ w ∈ aj_wsW E N, ∀ a' U, s.WarmedH U.vm → w.before a' U = true := pay_in hts (fun w hw => by
    rcases List.mem_cons.mp hw with rfl | h
    · exact ⟨w2, h7.1.1 _ w2⟩
    · exact ⟨h, h7.1.1 _ h⟩)
  have hB : Back l R p e below s args N.1 3 8 (PreOf R bc1 bs1 (aj_Pc E al X vs sh g a tc D A)) (PostOf (aj_Qc E al a tc D A (aj_K E al ao X M (d1 + 1) bc2 bs2 (pc + 3) lv rest Q)) bc1 bs1 A) :=
    va_backW (hh := aj_tb N.1) (bytes := N.2.1) (maxL := N.2.2.1) (ret := N.2.2.2) hM aj_blind rfl rfl (by show d1 + 2 + 1 ≤ R.frames; omega) (by show 8 + (N.2.2.1 + 11) + 48 * d1 ≤ R.locals; omega) hws List.mem_cons_self (fun a' U hW => word_at hW (h7.1.1 _ w3) (hts _ w3))
  intro T hT Y
  obtain ⟨mk, methM, cM, hnamed, hmethM, -, -, -, -, -, -, hsigM⟩ := Cond.codeWith_spec (hts _ w2)
  have hstatic : methM.isStatic = true := Cond.static_spec hnamed hmethM (hts _ w9)
  obtain ⟨kP, hkP, -⟩ := className_of_methodNamed hnamed
  have hinitP : kP.init = .initialized := Cond.initialized_spec (findClass_of_methodNamed hnamed) hkP (hts _ w3)
  have hnn : vs.length = methM.sig.parameters.length := by
    rw [hsigM] at w6
    exact hn.trans (Option.some.inj w6).symm
  obtain ⟨vm₁, Y₁, hstep₁⟩ := Y.invokestatic h1.1 h1.2.2.2.1 (hts _ w1) hnamed hmethM hstatic hkP hinitP ⟨w4, w5⟩ (g := F0 m pc ls ((vs.reverse ++ rest).map (aj_c a))) rfl (argsL := vs.map (aj_c a)) (rest := rest.map (aj_c a)) (by rw [List.length_map]; exact hnn) (by
    show (vs.reverse ++ rest).map (aj_c a) = _
    rw [List.map_append, List.map_reverse]) (by rw [h1.2.1]; exact hd)
  obtain ⟨v, ⟨U', l2, c2, s2⟩, Y', ⟨g', mk', t, L, e1, e2, hq, f1, hL, f2, f3⟩, hsteps⟩ := hB m meth c ⟨T.setVm vm₁, locs, cells, slots⟩ (F0 m pc ls (rest.map (aj_c a))) (.invokestatic index) mk (vs.map (aj_c a)).toArray Y₁ rfl (by rw [h1.2.2.1]; exact h5.2.1) (by rw [h1.2.1]; exact hd) (lv_room (by rw [aj_wt_eq]; exact Nat.le_of_ble_eq_true hwt)) (Y₁.named hnamed)
    ⟨by show cells + bc1 ≤ R.cells; omega, by show slots + bs1 ≤ R.slots; omega, rfl, by show va_P D E.1 (aj_w E tc a sh g) T.heap; rw [hT]; exact hP, va_K.moved Y₁.warmed.alike hK, hD, fun q hq => hA q (Nat.le_trans hS.1 (by rw [← hT]; exact hq)), by show aj_ph al sh a T.heap.size; rw [hT]; exact h6, h7.1, aj_xs_at h7.2 hS (show (T.setVm vm₁).heap = H from hT) Y₁.warmed⟩
  dsimp only [Pt.U, Pt.locs, Pt.cells, Pt.slots] at Y' e1 e2 f1 f2 f3 hsteps
  subst f1; subst f2; subst f3
  exact ⟨v, (T.setVm vm₁).calling g' mk' (vs.map (aj_c a)).toArray, t, U', L, hT, Y', hL, e1, e2, hq, fun target h => hstep₁ _ fun acts => by rw [doInvoke_state]; exact hsteps.trans h⟩
/-! a nest mate's private constructor -/
def aj_nl1 (E : aj_E) (own host : String) (index : Nat) (N : aj_M) (n : Nat) : Prop := (own, index, N.1, host) ∈ E.2.2.2.2 ∧ Cond.code N.1 N.2.1 N.2.2.1 N.2.2.2 ∈ E.2.2.2.1 ∧ Cond.initialized N.1.cls ∈ E.2.2.2.1 ∧
  (N.1.cls ≠ "java/lang/invoke/MethodHandle" ∧ N.1.cls ≠ "java/lang/invoke/VarHandle" ∧ (parseMethodDescriptor N.1.desc).map (fun d => d.parameters.length) = some n) ∧ N.2.2.1 ≤ 29 ∧ plainName N.1.cls = true ∧ aj_tb N.1 = [] ∧ Cond.instanceMethod N.1 ∈ E.2.2.2.1 ∧ N.1.name = "<init>" ∧ N.2.2.2 = none
theorem aj_callN {N : aj_M} {host : String} {index d1 bc1 bs1 bc2 bs2 : Nat} {r : Int} {rest : List aj_A} (q : Nat) (hl : aj_nl1 E M.1.cls host index N 0) (hd : decode M.2.1 pc = .ok (.invokespecial index, 3)) (hq : pc + 3 = q) (hdd : d1 + 1 = d) (hbc : bc2 + bc1 = bc) (hbs : bs2 + bs1 = bs) (hwt : Nat.ble (aj_wt rest) 8 = true) (hea : Nat.ble (aj_ea [(1, r)]).length N.2.2.1 = true) (h0 : 0 ≤ r)
    (k : aj_wp E al al X N d1 bc1 bs1 0 (aj_en [(1, r)] N.2.2.1) [] sh g (aj_K E al ao X M d bc2 bs2 q lv rest Q)) : aj_wp E al ao X M d bc bs pc lv ((1, r) :: rest) sh g Q := by
  subst hq
  intro p l e R s m args below meth c H locs cells slots ls a tc D A hc0
  obtain ⟨w1, w2, w3, w4, w7, w8, w9, w10, w11, w12⟩ := hl
  have hM := aj_met (l := l) hc0.2.1.2.2.2.2 w8 w9 hea aj_K_ret k a tc D A
  refine aj_after (rest := rest) (argsA := (Value.ref (a r.toNat) :: ([] : List Value)).toArray) (st0 := ((1, r) :: rest).map (aj_c a)) hc0 hbc hbs ?_
  obtain ⟨h1, h2, h3, ⟨hP, hK, hD, hS, hA⟩, h5, h6, h7⟩ := hc0
  have hts := h1.2.2.2.2
  subst hdd
  have hcn : va_CN R s args M.1.cls index N.1 host N.2.1 N.2.2.1 N.2.2.2 (aj_ws E N) (aj_rm d1 bc1 bs1) bc1 bs1 0 := va_cnB (ws' := E.2.2.2.1) 0 hts (fun w hw => by
    rcases List.mem_cons.mp hw with rfl | h
    · exact ⟨w2, h7.1.1 _ w2⟩
    · exact ⟨h, h7.1.1 _ h⟩) rfl rfl rfl (h7.2.2.1 _ w1) (hts _ w3) w4 ⟨by show d1 + 2 + 1 ≤ R.frames; omega, by show 8 + (N.2.2.1 + 11) + 48 * d1 ≤ R.locals; omega⟩
  rw [w12] at hcn
  refine va_runIN (As := []) (b := a r.toNat) h1 hM ⟨hcn, w11, hts _ w10⟩ ⟨aj_blind, fun U hU hW => ?_⟩ rfl rfl h5.2.1 ?_ (lv_room (by rw [aj_wt_eq]; exact Nat.le_of_ble_eq_true hwt)) hd ⟨by omega, by omega⟩
  · refine ⟨by rw [List.map_cons, aj_cr h0]; rfl, by rw [hU]; exact hP, va_K.moved hW.alike hK, hD, fun q hq => hA q (by rw [hU] at hq; exact Nat.le_trans hS.1 hq), by rw [hU]; exact h6, h7.1, aj_xs_at h7.2 hS hU hW⟩
  · show ((1, r) :: rest).map (aj_c a) = _
    rw [List.map_cons, aj_cr h0]; rfl
theorem aj_ldc2 {index : Nat} {x : Int} (q : Nat) (hw : Cond.constantLong M.1.cls index (Int64.ofInt x) ∈ E.2.2.2.1) (hd : decode M.2.1 pc = .ok (.ldc2_w index, 3)) (hq : pc + 3 = q) (k : aj_wp E al ao X M d bc bs q lv ((2, x) :: st) sh g Q) : aj_wp E al ao X M d bc bs pc lv st sh g Q := by
  subst hq
  intro p l e R s m args below meth c H locs cells slots ls a tc D A hc0
  have kk := k p l e R s m args below meth c H locs cells slots ls a tc D A hc0
  obtain ⟨h1, h2, h3, h4, h5, h6, h7⟩ := hc0
  exact lv_ldc2 h1.1 h1.2.1 h1.2.2.2.1 (h1.2.2.2.2 _ hw) hd kk
theorem aj_ldc {index : Nat} {x : Int} (q : Nat) (hw : Cond.constant M.1.cls index (Int32.ofInt x) ∈ E.2.2.2.1) (hd : decode M.2.1 pc = .ok (.ldc index, 2)) (hq : pc + 2 = q) (k : aj_wp E al ao X M d bc bs q lv ((0, x) :: st) sh g Q) : aj_wp E al ao X M d bc bs pc lv st sh g Q := by
  subst hq
  intro p l e R s m args below meth c H locs cells slots ls a tc D A hc0
  have kk := k p l e R s m args below meth c H locs cells slots ls a tc D A hc0
  obtain ⟨h1, h2, h3, h4, h5, h6, h7⟩ := hc0
  exact lv_ldc h1.1 h1.2.1 h1.2.2.2.1 (h1.2.2.2.2 _ hw) hd kk
/-! rows of rows: new int[8][8] -/
theorem aj_outer (c : ClassId) (N h0 : Nat) : ∀ i : Nat, Jvm.Free.Multi.outerC c N h0 i = arrV c N (fun j => if j < i then .ref (h0 + 1 + j) else .null)
  | 0 => by
    show ({ cls := c, slots := Array.replicate N .null } : Cell) = _
    rw [arrV_new]
    congr 1
  | i + 1 => by
    show (Jvm.Free.Multi.outerC c N h0 i).setSlot i (.ref (h0 + 1 + i)) = _
    rw [aj_outer c N h0 i, arrV_store]
    congr 1
    funext j
    unfold updV
    by_cases h : j = i
    · subst h
      rw [if_pos rfl, if_pos (by omega)]
    · rw [if_neg h]
      show (if j < i then Value.ref (h0 + 1 + j) else Value.null) = _
      by_cases h2 : j < i
      · rw [if_pos h2, if_pos (by omega)]
      · rw [if_neg h2, if_neg (by omega)]
def aj_mg (g : aj_G) (k : Int) : aj_G := fun r => if r = k then (fun i => if 0 ≤ i ∧ i < 8 then k + 1 + i else -1) else if k < r ∧ r ≤ k + 8 then (fun _ => 0) else g r
theorem aj_mna {index t0 t1 bc1 bs1 : Nat} (q : Nat) (hw : Cond.classLink M.1.cls index "[[I" ∈ E.2.2.2.1 ∧ Cond.arrayClass .int ∈ E.2.2.2.1) (hd : decode M.2.1 pc = .ok (.multianewarray index 2, 4)) (hq : pc + 4 = q) (ht0 : E.2.1[t0]? = some (.array .int)) (ht1 : E.2.1[t1]? = some .int)
    (hbc : bc1 + 9 = bc) (hbs : bs1 + 72 = bs) (hal : al) (hsz : sh.length + 8 < 1000000) (k : aj_wp E al ao X M d bc1 bs1 q lv ((1, sh.length) :: st) (sh ++ (.inl (t0, 8) :: List.replicate 8 (.inl (t1, 8)))) (aj_mg g sh.length) Q) : aj_wp E al ao X M d bc bs pc lv ((0, 8) :: (0, 8) :: st) sh g Q := by
  subst hq
  subst hbc
  subst hbs
  intro p l e R s m args below meth c H locs cells slots ls a tc D A hc0
  obtain ⟨h1, h2, h3, ⟨hP, hK, hD, hS, hA⟩, h5, h6, h7⟩ := hc0
  have hts := h1.2.2.2.2
  have ha : ∀ j, j ≤ 8 → a (sh.length + j) = H.size + j := fun j hj => h6.1 hal j (by omega)
  have h8 : (Int32.ofInt 8).toNatClampNeg = 8 := by decide +kernel
  have hover : (Cond.arrayOver (.array .int)).before args s = true := h7.2.2.2.2.2.2.2.2 (.array .int) (by simp [aj_aos])
  intro T hT Y
  obtain ⟨vm1, cA, comp, -, fA, fC, -, -, Y', step⟩ := Y.multianewarray2F h1.1 h1.2.2.2.1 (ty := .int) (hts _ hw.1) hover (hts _ hw.2) (g := F0 m pc ls (((0, 8) :: (0, 8) :: st).map (aj_c a))) rfl (by rw [h1.2.1]; exact hd) (n := Int32.ofInt 8) (k := Int32.ofInt 8) (rest := st.map (aj_c a)) rfl (by decide +kernel) (by decide +kernel) (by rw [h8]; decide) (by rw [h8]; decide) (by rw [h8]; decide) (by decide +kernel) (by decide +kernel) (by rw [h8]; omega) (by rw [h8]; omega)
  rw [h8] at Y' step
  have hTh : (T.setVm vm1).heap = H := hT
  obtain ⟨f1, f2, -, -⟩ := Jvm.Free.Multi.fill_facts (T.setVm vm1) cA comp 8 8 (defaultValue .int) 8
  have f3 := fun (x : Nat) (hx : x < H.size) => Jvm.Free.Multi.fill_old (T.setVm vm1) cA comp 8 8 (defaultValue .int) (a := x) (by rw [hTh]; exact hx) 8
  have f4 := fun (j : Nat) (hj : j < 8) => Jvm.Free.Multi.fill_inner (T.setVm vm1) cA comp 8 8 (defaultValue .int) 8 j hj
  generalize hF : Jvm.Free.Multi.fill (T.setVm vm1) cA comp 8 8 (defaultValue .int) 8 = F at Y' step f1 f2 f3 f4
  rw [hTh] at f1 f2 f3 f4
  have hc0 : tc t0 = cA := by
    have hR : s.vm.findClass ("[" ++ (FieldType.array .int).toString) = some (tc t0) := (hK.2 t0 _ (aj_ty_at ht0)).2
    exact Option.some.inj (hR.symm.trans fA)
  have hc1 : tc t1 = comp := by
    have hR : s.vm.findClass ("[" ++ FieldType.int.toString) = some (tc t1) := (hK.2 t1 _ (aj_ty_at ht1)).2
    exact Option.some.inj (hR.symm.trans fC)
  have hat : ∀ (k : Nat) (y : Nat × va_E), (aj_w E tc a (sh ++ (.inl (t0, 8) :: List.replicate 8 (.inl (t1, 8)))) (aj_mg g sh.length))[k]? = some y → (k < sh.length ∧ (aj_w E tc a sh g)[k]? = some y) ∨ (sh.length ≤ k ∧ k ≤ sh.length + 8 ∧ y.1 = H.size + (k - sh.length) ∧ va_at D E.1 y F.heap) := by
    intro k y hy
    rw [aj_w_at] at hy
    by_cases hk : k < sh.length
    · rw [List.getElem?_append_left hk] at hy
      have hg : aj_mg g sh.length (k : Nat) = g (k : Nat) := by unfold aj_mg; rw [if_neg (by omega), if_neg (by omega)]
      rw [hg, ← aj_w_at] at hy
      exact Or.inl ⟨hk, hy⟩
    · rw [List.getElem?_append_right (by omega)] at hy
      refine Or.inr ⟨by omega, ?_⟩
      by_cases h2 : k = sh.length
      · subst h2
        rw [Nat.sub_self, List.getElem?_cons_zero, Option.map_some] at hy
        cases hy
        have h0 := ha 0 (by omega)
        rw [Nat.add_zero, Nat.add_zero] at h0
        refine ⟨by omega, by show a sh.length = _; rw [h0]; omega, ?_⟩
        show F.heap[a sh.length]? = some (vp_cell (tc t0) (8, aj_row a E.2.1[t0]? (aj_mg g sh.length (sh.length : Nat))))
        rw [aj_rowr ht0 rfl, h0, f2, aj_outer, hc0]
        congr 2
        funext j
        have hm : aj_mg g sh.length (sh.length : Nat) (j : Nat) = if (0 : Int) ≤ j ∧ (j : Int) < 8 then (sh.length : Int) + 1 + j else -1 := by unfold aj_mg; rw [if_pos rfl]
        rw [hm]
        by_cases hj : j < 8
        · have hv : (if (0 : Int) ≤ j ∧ (j : Int) < 8 then (sh.length : Int) + 1 + j else -1) = ((sh.length + (1 + j) : Nat) : Int) := by rw [if_pos (by omega)]; omega
          rw [if_pos hj, hv, aj_rfp (by omega), Int.toNat_natCast, ha (1 + j) (by omega), Nat.add_assoc]
          rfl
        · rw [if_neg hj, if_neg (by omega), aj_rfn (by omega)]
          rfl
      · obtain ⟨j, hj⟩ : ∃ j, k = sh.length + (1 + j) := ⟨k - sh.length - 1, by omega⟩
        subst hj
        rw [show sh.length + (1 + j) - sh.length = j + 1 by omega, List.getElem?_cons_succ, List.getElem?_replicate] at hy
        by_cases hj8 : j < 8
        · rw [if_pos hj8, Option.map_some] at hy
          cases hy
          refine ⟨by omega, by show a (sh.length + (1 + j)) = _; rw [ha (1 + j) (by omega)]; omega, ?_⟩
          show F.heap[a (sh.length + (1 + j))]? = some (vp_cell (tc t1) (8, aj_row a E.2.1[t1]? (aj_mg g sh.length ((sh.length + (1 + j) : Nat) : Int))))
          rw [aj_rowi ht1 (Or.inl rfl), ha (1 + j) (by omega), show H.size + (1 + j) = H.size + 1 + j by omega, f4 j hj8, hc1]
          show some ({ cls := comp, slots := Array.replicate 8 (.int 0) } : Cell) = _
          rw [arrV_new]
          congr 2
          funext i
          have hm : aj_mg g sh.length ((sh.length + (1 + j) : Nat) : Int) (i : Nat) = 0 := by unfold aj_mg; rw [if_neg (by omega), if_pos (by omega)]
          rw [hm]
          rfl
        · rw [if_neg hj8] at hy
          cases hy
  have hP2 : va_P D E.1 (aj_w E tc a (sh ++ (.inl (t0, 8) :: List.replicate 8 (.inl (t1, 8)))) (aj_mg g sh.length)) F.heap := by
    intro k y hy
    rcases hat k y hy with ⟨-, h⟩ | ⟨-, -, -, h⟩
    · exact (hP.kept (fun j z hz => f3 z.1 ((hP j z hz).lt))) k y h
    · exact h
  have hD2 : va_D A (aj_w E tc a (sh ++ (.inl (t0, 8) :: List.replicate 8 (.inl (t1, 8)))) (aj_mg g sh.length)) := by
    refine ⟨fun i j x y hx hy he => ?_, fun k y hy => ?_⟩
    · rcases hat i x hx with ⟨x1, x2⟩ | ⟨x1, x2, x3, -⟩ <;> rcases hat j y hy with ⟨y1, y2⟩ | ⟨y1, y2, y3, -⟩
      · exact hD.1 i j x y x2 y2 he
      · have := (hP i x x2).lt
        omega
      · have := (hP j y y2).lt
        omega
      · omega
    · rcases hat k y hy with ⟨x1, x2⟩ | ⟨x1, x2, x3, -⟩
      · exact hD.2 k y x2
      · rw [x3]
        exact hA _ (Nat.le_trans hS.1 (by omega))
  have hS2 : va_S A s.heap F.heap locs := ⟨Nat.le_trans hS.1 (by omega), fun q q1 q2 => (f3 q (Nat.lt_of_lt_of_le q1 hS.1)).trans (hS.2.1 q q1 q2), hS.2.2⟩
  have hph : aj_ph al (sh ++ (.inl (t0, 8) :: List.replicate 8 (.inl (t1, 8)))) a F.heap.size := by
    refine ⟨fun hal j hj => ?_, fun k t n hk => ?_⟩
    · have hl : (sh ++ (.inl (t0, 8) :: List.replicate 8 (.inl (t1, 8)) : List aj_S)).length = sh.length + 9 := by simp
      rw [hl] at hj ⊢
      rw [show sh.length + 9 + j = sh.length + (9 + j) by omega, h6.1 hal (9 + j) (by omega), f1]
      omega
    · by_cases hlt : k < sh.length
      · rw [List.getElem?_append_left hlt] at hk
        exact h6.2 k t n hk
      · rw [List.getElem?_append_right (by omega)] at hk
        have hm : (Sum.inl (t, n) : aj_S) ∈ (.inl (t0, 8) :: List.replicate 8 (.inl (t1, 8)) : List aj_S) := List.mem_of_getElem? hk
        rcases List.mem_cons.mp hm with h | h
        · cases h; omega
        · have := List.eq_of_mem_replicate h
          cases this; omega
  have kk := k p l e R s m args below meth c F.heap locs (cells + 9) (slots + 72) ls a tc D A ⟨h1, h2, ⟨h3.1, h3.2.1, by omega, by omega⟩, ⟨hP2, hK, hD2, hS2, hA⟩, h5, hph, h7⟩
  have ha0 : a sh.length = T.heap.size := by
    have := ha 0 (by omega)
    rw [hT]
    simpa using this
  rw [show cells + 9 + bc1 = cells + (bc1 + 9) by omega, show slots + 72 + bs1 = slots + (bs1 + 72) by omega, List.map_cons, aj_cr (by omega), Int.toNat_natCast, ha0] at kk
  obtain ⟨t, a1, b1⟩ := kk F rfl Y'
  exact ⟨t, step t a1, b1⟩
end AJW
