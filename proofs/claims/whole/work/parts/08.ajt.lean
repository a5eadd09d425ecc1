/-! the judgement: throwing, and catching in the caller -/
section AJT
variable {E : aj_E} {al ao : Prop} {X : Option (Nat × (Int → Int))} {M : aj_M} {d bc bs pc : Nat} {lv : List (Option aj_A)} {st : List aj_A} {sh : List aj_S} {g : aj_G} {Q : aj_R → List aj_S → aj_G → Prop}
/-- a walk seen from where it stands now: the method is as if called here -/
theorem aj_here {p : Program} {l : Launch} {e : Env} {R : Room} {s : State} {m : MethodId} {args : Array Value} {below : List Frame} {meth : Method} {c : Code} {T : State} {locs : List Loc} {cells slots : Nat}
    (Y : Stand p l e R s m args below meth c T locs cells slots) {k n : Nat} (hk : cells + k ≤ R.cells) (hn : slots + n ≤ R.slots) :
    Stand p l e { frames := R.frames, locals := R.locals, cells := k, slots := n } ((T.setVm s.vm).setFrames (.invoking m args :: below)) m args below meth c T [] 0 0 := by
  have hcur : (T.setVm s.vm).cur < (T.setVm s.vm).threads.size := State.cur_lt_of_top Y.here.top
  have hfr : ((T.setVm s.vm).setFrames (.invoking m args :: below)).frames = .invoking m args :: below := State.frames_setFrames _ hcur
  obtain ⟨g0, hg0⟩ := Option.isSome_iff_exists.mp (show (T.setVm s.vm).topJava?.isSome = true from Y.here.top)
  obtain ⟨r0, hr0⟩ := State.topJava?_eq_some.mp hg0
  have hnil : ((T.heap.toList.drop T.heap.size).map (·.slots.size)).sum = 0 := by
    rw [List.drop_eq_nil_of_le (Nat.le_of_eq Array.length_toList)]
    rfl
  have hlim : e.platform.stackLimits (T.setVm s.vm).me = e.platform.stackLimits s.me := Y.limits
  have hbyt : (T.setVm s.vm).me.stackBytes = s.me.stackBytes := Y.bytes
  exact {
    admits := Y.admits
    cas := Y.cas
    clock := Y.clock
    frames := hfr
    hears := Y.hears
    method := Y.method
    code := Y.code
    here := Y.here
    tail := Y.tail
    warmed := Y.warmed
    limits := by rw [State.stackLimits_setFrames]; rfl
    bytes := by rw [State.stackBytes_setFrames]; rfl
    room := by
      have hu : ((T.setVm s.vm).setFrames (.invoking m args :: below)).localsInUse = s.localsInUse := by
        rw [State.localsInUse_invoking hfr (meth := meth) (c := c) Y.method Y.code, State.localsInUse_invoking Y.frames Y.method Y.code]
      have h0 := Y.room
      simp only [State.hasRoom, Bool.and_eq_true, decide_eq_true_eq] at h0 ⊢
      obtain ⟨⟨⟨⟨r1, r2, r3, r4, r5, r6⟩, r7⟩, r8⟩, r9⟩ := h0
      rw [Y.frames, List.length_cons] at r2 r3
      have q1 := Y.heapSize
      have q2 := Y.used
      simp only [hfr, hu, List.length_cons, State.stackLimits_setFrames, State.stackBytes_setFrames, hlim, hbyt]
      refine ⟨⟨⟨⟨by omega, by omega, by omega, by omega, by omega, r6⟩, ?_⟩, ?_⟩, Y.book⟩
      · show T.heap.size + k ≤ e.platform.maxCells
        omega
      · show T.slotsUsed + n ≤ e.platform.maxSlots
        omega
    same := by
      refine ⟨?_, Nat.le_refl _, Nat.le_refl _, ?_, ?_, fun b c9 h9 => ⟨c9, h9, rfl, rfl, fun _ _ => rfl⟩⟩
      · obtain ⟨t0, ht0, -⟩ := State.frames_cons hr0
        show T.setVm s.vm = { ((T.setVm s.vm).setFrames (.invoking m args :: below)).setFrames (T.setVm s.vm).frames with heap := T.heap, slotsUsed := T.slotsUsed }
        rw [State.setFrames_setFrames, State.setFrames_self ht0]
        rfl
      · show T.slotsUsed = T.slotsUsed + ((T.heap.toList.drop T.heap.size).map (·.slots.size)).sum
        rw [hnil]; rfl
      · show ((T.heap.toList.drop T.heap.size).map (·.slots.size)).sum ≤ 0
        rw [hnil]; exact Nat.le_refl _ }
/-- nothing old was written: the old cells are the old cells -/
theorem aj_olds {s U : State} {k n : Nat} (h : s.sameButNew ({ U with vm := s.vm } : State) [] k n) : s.heap.size ≤ U.heap.size ∧ ∀ q : Nat, q < s.heap.size → U.heap[q]? = s.heap[q]? := by
  obtain ⟨-, h2, -, -, -, h6⟩ := h
  refine ⟨h2, fun q hq => ?_⟩
  obtain ⟨c9, e1, e2, e3, e4⟩ := h6 q _ (Array.getElem?_eq_getElem hq)
  have hs : c9.slots = (s.heap[q]).slots := Array.ext_getElem? fun i => e4 i (fun z => nomatch z)
  rw [hs] at e2
  have e5 : U.heap[q]? = some c9 := e1
  rw [e5, Array.getElem?_eq_getElem hq]
  exact congrArg some e2
def aj_nms : List String := ["java/lang/RuntimeException", "java/lang/Exception"]
/-- the words of 'throw new X()' that are good, and the others by their kinds -/
def aj_thw (E : aj_E) (own : String) (ik ic k : Nat) (X : String) : Prop := aj_exc[k]? = some X ∧ Bundle.fit X = true ∧ Cond.classLink own ik X ∈ E.2.2.2.1 ∧ Cond.initialized X ∈ E.2.2.2.1 ∧
  ∀ w ∈ Bundle.ownAtoms0 own ic X aj_nms, w ∈ E.2.2.2.1 ∨ (∃ x ∈ aj_dcl, w = .declares x) ∨ w = .castable X X ∨ w = .laysStatic Bundle.tN "UNASSIGNED_STACK" Bundle.steD ∨ w = .isRef (.static Bundle.tN "UNASSIGNED_STACK" Bundle.steD) ∨
    w = .laysStatic Bundle.tN "SUPPRESSED_SENTINEL" Bundle.listD ∨ w = .isRef (.static Bundle.tN "SUPPRESSED_SENTINEL" Bundle.listD)
theorem aj_throw {ik ic k : Nat} {C : String} (hw : aj_thw E M.1.cls ik ic k C) (d0 : decode M.2.1 pc = .ok (.new ik, 3)) (d3 : decode M.2.1 (pc + 3) = .ok (.dup, 1)) (d4 : decode M.2.1 (pc + 4) = .ok (.invokespecial ic, 3)) (d7 : decode M.2.1 (pc + 7) = .ok (.athrow, 1))
    (htb : aj_tb M.1 = []) (hao : ¬ ao) (hbc : 1 ≤ bc) (hbs : 6 ≤ bs) (hd : 4 ≤ d) (hq : Q (.inr k) sh g) : aj_wp E al ao X M d bc bs pc lv [] sh g Q := by
  intro p l e R s m args below meth c H locs cells slots ls a tc D A hc0
  obtain ⟨h1, h2, h3, ⟨hP, hK, hD, hS, hA⟩, h5, h6, h7⟩ := hc0
  have hts := h1.2.2.2.2
  intro T hT Y0
  have htr : e.platform.stackTraces = false := (show e.platform.stackTraces = l.stackTraces by rw [Y0.admits.platform]).trans h2.2.2.2.2
  have Y := aj_here Y0 (k := 1) (n := 6) (by omega) (by omega)
  obtain ⟨s', hs'⟩ : ∃ z, z = (T.setVm s.vm).setFrames (.invoking m args :: below) := ⟨_, rfl⟩
  rw [← hs'] at Y
  have hvm : s'.vm = s.vm := by rw [hs']; rfl
  have hhp : s'.heap = H := by rw [hs']; exact hT
  have hW0 : s.WarmedH s'.vm := by rw [hvm]; exact State.WarmedH.refl s
  have hth := aj_th_at h7.2.2.2 hS hhp hW0
  have hgood : ∀ w ∈ E.2.2.2.1, w.before args s' = true := fun w hw => word_at hW0 (h7.1.1 w hw) (hts w hw)
  obtain ⟨hX, hfit, hk, hini, hat⟩ := hw
  have hCm : C ∈ aj_exc := List.mem_of_getElem? hX
  have hz : ∀ {n dd : String}, aj_zs n dd A s' s'.heap → (Cond.laysStatic Bundle.tN n dd).before args s' = true ∧ (Cond.isRef (.static Bundle.tN n dd)).before args s' = true := by
    rintro n dd ⟨b, cell, z1, z2, z3⟩
    exact z3 s' args (Vm.Alike.refl _) z1
  have hall : ∀ w ∈ Bundle.ownAtoms0 M.1.cls ic C aj_nms, w.before args s' = true := by
    intro w hw
    rcases hat w hw with h | ⟨x, hx, rfl⟩ | rfl | rfl | rfl | rfl | rfl
    · exact hgood w h
    · exact va_Nw.use rfl (hth.1 x hx)
    · exact va_Nw.use rfl (hth.2.1 C hCm)
    · exact (hz hth.2.2.2.1).1
    · exact (hz hth.2.2.2.1).2
    · exact (hz hth.2.2.2.2.1).1
    · exact (hz hth.2.2.2.2.1).2
  have hown : s'.vm.findClass M.1.cls = some m.cls := by rw [hvm]; exact h1.2.2.2.1
  have hins : (Cond.instantiable C 6).before args s' = true := hall _ (by simp [Bundle.ownAtoms0])
  obtain ⟨vm1, cX, kX, hfX, hkX, -, -, Y1, st1⟩ := Y.newCold h1.1 (own := M.1.cls) (C := C) (index := ik) (n := 6) hown (hgood _ hk) hins (hgood _ hini)
    (g := F0 m pc ls []) rfl (by rw [h1.2.1]; exact d0) (Nat.le_refl _) (Nat.le_refl _)
  generalize hT1 : (T.setVm vm1).pushCell { cls := cX, slots := kX.instanceTypes.map defaultValue, vm := .none } = T1 at Y1 st1
  have hcell : T1.heap[T.heap.size]? = some (freshCell cX kX) := by rw [← hT1]; exact State.heap_pushCell_size _ _
  have d3' : decode c.code (pc + 3) = .ok (.dup, 1) := by rw [h1.2.1]; exact d3
  have hcat : (Value.ref T.heap.size).category = 1 := rfl
  have hempty : c.exceptionTable.toList = [] := by
    have := h2.2.2.2.1
    rw [htb] at this
    exact List.map_eq_nil_iff.mp this
  obtain ⟨U, hsteps, hrun, hend, hW, hsame, ce, hce, hO⟩ := Y1.ctorThrow0 h1.1 htr (own := M.1.cls) (cls := C) (names := aj_nms) (ic := ic) hown hfit (by decide +kernel) hall (fun x hx => nomatch hx) hfX hkX hcell (by rw [hhp, hT]; exact Nat.le_refl _)
    (g := { method := m, pc := pc + 4, locals := ls, stack := .ref T.heap.size :: .ref T.heap.size :: [], locked := none }) rfl (by rw [h1.2.2.1]; exact h5.2.1) rfl rfl (rest := []) rfl
    (by rw [h1.2.1]; exact d4) (by rw [h1.2.1]; exact d7) (by rw [hempty]; exact fun x hx => nomatch hx) (by show 2 + 3 < R.frames; omega) (by
      simp only [List.map_cons, List.map_nil, List.sum_cons, List.sum_nil, hcat]
      show 2 * 0 + (1 + 0) + (13 * (2 + 1) + 41) ≤ R.locals
      omega) h2.2.1
  obtain ⟨f1, f2⟩ := aj_olds hsame
  rw [hhp] at f1 f2
  have hWs : s.WarmedH U.vm := State.WarmedH.trans hW0 hW
  have hcl : U.vm.findClass C = some ce.cls := by
    rw [hW.alike.findClass]
    exact hO.cls
  have hfrm : s.sameButNew ({ U with vm := s.vm } : State) locs (cells + bc) (slots + bs) := by
    subst hs'
    obtain ⟨e1, e2⟩ := hsame
    rw [State.setFrames_setFrames] at e1
    have g2 : (T.setVm s.vm).sameButNew ({ U with vm := s.vm } : State) [] (0 + 1) (0 + 6) := ⟨e1, e2⟩
    have g3 := Y0.same.trans g2
    rw [List.append_nil] at g3
    exact g3.mono (by omega) (by omega)
  refine ⟨U, ?_, .threw T.heap.size, .inr k, sh, g, hrun, hend, hq, ⟨T.heap.size, ce, C, rfl, hce, hO.vm, hX, hcl⟩, hP.kept (fun j y hy => f2 y.1 ((hP j y hy).lt)), hD, ⟨Nat.le_trans hS.1 f1, fun q q1 q2 => by rw [f2 q (Nat.lt_of_lt_of_le q1 hS.1)]; exact hS.2.1 q q1 q2⟩, ⟨fun h => absurd h hao, h6.2⟩, locs, hWs, hfrm, hS.2.2⟩
  refine st1 _ ?_
  show Steps p.tables e below (T1.setTop { method := m, pc := pc + 3, locals := ls, stack := .ref T.heap.size :: [], locked := none }) _
  jvm_step Y1.here [Y1.here.top, h1.1, d3', Value.category]
  exact hsteps
/-! a callee that throws -/
def aj_QT (E : aj_E) (al : Prop) (a tc : Nat → Nat) (D : va_G) (A : Nat → Prop) (Q : aj_R → List aj_S → aj_G → Prop) : Array Value → State → Outcome → State → Prop := fun _ s o t =>
  ∃ (k : Nat) (sh : List aj_S) (g : aj_G) (b : Nat) (cell : Cell) (C : String), o = .threw b ∧ t.heap[b]? = some cell ∧ cell.vm = .none ∧ aj_exc[k]? = some C ∧ t.vm.findClass C = some cell.cls ∧ Q (.inr k) sh g ∧ va_P D E.1 (aj_w E tc a sh g) t.heap ∧ va_D A (aj_w E tc a sh g) ∧ va_F A s t ∧ aj_ph al sh a t.heap.size
theorem aj_metT {l : Launch} {vs : List aj_A} (hst : l.stackTraces = false) (hy : plainName M.1.cls = true) (htb : aj_tb M.1 = []) (hlen : Nat.ble (aj_ea vs).length M.2.2.1 = true) (hret : ∀ r sh g, Q r sh g → ∃ k, r = .inr k) (k : aj_wp E al al X M d bc bs 0 (aj_en vs M.2.2.1) [] sh g Q) (a tc : Nat → Nat) (D : va_G) (A : Nat → Prop) :
    MetFree l M.1 (headSpec (aj_ws E M) (aj_rm d bc bs)) (aj_Pc E al X vs sh g a tc D A) (fun _ _ _ _ _ => True) (fun w s o t => aj_QT E al a tc D A Q w s o t ∧ ∃ L, FrameEndT s o t L bc bs ∧ ∀ q ∈ L, A q.base) := by
  have hcode : ∀ (w : Array Value) (s : State), (headSpec (aj_ws E M) (aj_rm d bc bs)).pre.before w s = true → (Cond.code M.1 M.2.1 M.2.2.1 M.2.2.2).before w s = true := fun w s h => atoms_spec (ws := aj_ws E M) h _ List.mem_cons_self
  refine MetFree.of_bodyS (code := M.2.1) (maxLocals := M.2.2.1) (ret := M.2.2.2) hy (fun w s m h hn => ?_) ?_
  · obtain ⟨meth, c, h1, h2, h3, h4, h5, h6, -, -⟩ := Cond.code_spec hn (hcode w s h)
    exact ⟨meth, c, h1, h2, h3, h4, h5, h6⟩
  · intro p e s m args below meth c s₁ B hml hv _
    obtain ⟨rfl, hP, hK, hD, hA, h6, h7⟩ := hv
    have hts := atoms_spec (ws := aj_ws E M) B.pre
    have hle : (aj_ea vs).length ≤ M.2.2.1 := Nat.le_of_ble_eq_true hlen
    have hT : c.exceptionTable.toList.map (fun h => (h.startPc, h.endPc, h.handlerPc, h.catchType)) = aj_tb M.1 := by
      obtain ⟨meth', c', g1, g2, -, -, -, -, g3, -⟩ := Cond.code_spec B.named (hts _ List.mem_cons_self)
      have e1 : meth' = meth := Option.some.inj (g1.symm.trans B.method)
      subst e1
      have e2 : c' = c := Option.some.inj (g2.symm.trans (Stand.of_body B).code)
      subst e2
      rw [htb, Array.isEmpty_iff.mp g3]
      rfl
    have hl := lv_entry (vs.map (aj_c a)) (n := M.2.2.1) (by rw [aj_ea_len]; exact hle)
    rw [lg_entry_eq]
    generalize (lg_sl (vs.map (aj_c a)) ++ List.replicate (M.2.2.1 - (lg_sl (vs.map (aj_c a))).length) Slot.unset).toArray = ls at hl ⊢
    have hW := k p l e (aj_rm d bc bs) s m (vs.map (aj_c a)).toArray below meth c s.heap [] 0 0 ls a tc D A
      ⟨⟨B.exec, B.bytes, hml, findClass_of_methodNamed B.named, fun w hw => hts w (List.mem_cons_of_mem _ hw)⟩, ⟨B.returns, B.notSynchronized, (name_of_methodNamed B.named B.method).1, hT, hst⟩, ⟨Nat.le_refl _, Nat.le_refl _, by show 0 + bc ≤ bc; omega, by show 0 + bs ≤ bs; omega⟩, ⟨hP, hK, hD, va_S.rf, hA⟩, ⟨aj_en_len hle, aj_entry hl⟩, h6, h7⟩
    have hh0 : s₁.heap = s.heap := by rw [B.state]; rfl
    obtain ⟨t, a1, o, r, sh1, g1, e1, e2, e3, e4, e5, e6, e7, e8, L, e9, e10, e11⟩ := hW s₁ hh0 (Stand.of_body B)
    obtain ⟨k, rfl⟩ := hret _ _ _ e3
    obtain ⟨b, cell, C, f1, f2, f3, f4, f5⟩ := e4
    rw [Nat.zero_add, Nat.zero_add] at e10
    exact ⟨t, o, a1, e1, e2, ⟨k, sh1, g1, b, cell, C, f1, f2, f3, f4, f5, e3, e5, e6, e7, e8⟩, L, ⟨⟨b, f1⟩, e9, e10⟩, e11⟩
theorem aj_stx {a : Nat → Nat} {ls : Array Slot} {n i x : Nat} {lv : List (Option aj_A)} (ho : aj_ok lv i = true) (h : lv_has ls n ((i, Value.ref x) :: (aj_l a lv).filter (fun q => !(q.1 == i) && !(q.1 + 1 == i && q.2.category == 2)))) : lv_has ls n (aj_l a (lv.set i none)) := by
  refine ⟨h.1, h.2.1, fun q hq => h.2.2 q ?_⟩
  obtain ⟨j, u⟩ := q
  obtain ⟨y, h1, h2⟩ := aj_l_mem.mp hq
  unfold aj_ok at ho
  rw [Bool.and_eq_true] at ho
  have hlt : i < lv.length := Nat.blt_eq ▸ ho.1
  by_cases hj : j = i
  · subst hj
    rw [List.getElem?_set_self hlt] at h1
    cases h1
  · rw [List.getElem?_set_ne (Ne.symm hj)] at h1
    refine List.mem_cons_of_mem _ (List.mem_filter.mpr ⟨aj_l_mem.mpr ⟨y, h1, h2⟩, ?_⟩)
    have hb : ¬ (j + 1 = i ∧ u.category = 2) := by
      rintro ⟨e1, e2⟩
      subst e1
      rw [h2] at e2
      exact aj_nl_spec ho.2 h1 e2
    simp only [Bool.and_eq_true, Bool.not_eq_true', beq_eq_false_iff_ne, ne_eq, Bool.and_eq_false_imp, beq_iff_eq]
    exact ⟨hj, fun e1 e2 => hb ⟨e1, e2⟩⟩
/-- the handler for what was thrown: its row in the method's table, the rows ahead, the store of the exception -/
def aj_hdl (E : aj_E) (M : aj_M) (pc k i q : Nat) : Prop := ∃ (pre suf : List (Nat × Nat × Nat × Nat)) (x : Nat × Nat × Nat × Nat) (C : String), aj_tb M.1 = pre ++ x :: suf ∧ aj_exc[k]? = some C ∧ (x.1 ≤ pc ∧ pc < x.2.1) ∧ x.2.2.2 ≠ 0 ∧ Cond.classLink M.1.cls x.2.2.2 C ∈ E.2.2.2.1 ∧
  (∀ z ∈ pre, z.2.2.2 ≠ 0 ∧ ∃ C', C' ∈ aj_exc ∧ C ≠ C' ∧ Cond.classLink M.1.cls z.2.2.2 C' ∈ E.2.2.2.1) ∧
  ((∃ j : Fin 4, (j : Nat) = i ∧ decode M.2.1 x.2.2.1 = .ok (.astore_n j, 1) ∧ x.2.2.1 + 1 = q) ∨ (decode M.2.1 x.2.2.1 = .ok (.astore i, 2) ∧ x.2.2.1 + 2 = q))
theorem aj_caught {p : Program} {l : Launch} {e : Env} {R : Room} {s : State} {m : MethodId} {args : Array Value} {below : List Frame} {meth : Method} {c : Code} {H : Heap} {locs : List Loc} {cells slots : Nat} {ls : Array Slot} {a tc : Nat → Nat} {D : va_G} {A : Nat → Prop} {k i q b : Nat} {cell : Cell} {C : String} {rest : List Value} {T s0 : State}
    (hh : aj_hdl E M pc k i q) (ho : aj_ok lv i = true) (kk : aj_wp E al ao X M d bc bs q (lv.set i none) [] sh g Q)
    (hc0 : aj_cx E al X M d bc bs lv sh g a tc D A p l R s m args meth c H locs cells slots ls)
    (hT : T.heap = H) (Y : Stand p l e R s m args below meth c T locs cells slots) (hcell : H[b]? = some cell) (hv : cell.vm = .none) (hC : aj_exc[k]? = some C) (hcl : s.vm.findClass C = some cell.cls)
    (hcome : Steps p.tables e below s0 ((T.setTop (F0 m pc ls rest)).pushFrame (.throwing b))) :
    ∃ t, Steps p.tables e below s0 t ∧ aj_fin E ao a tc D A Q below s (cells + bc) (slots + bs) t := by
  have hc1 := hc0
  obtain ⟨h1, h2, h3, ⟨hP, hK, hD, hS, hA⟩, h5, h6, h7⟩ := hc0
  have hts := h1.2.2.2.2
  obtain ⟨pre, suf, x, C', htb, hC', hcov, hx0, hlink, hpass, hst⟩ := hh
  have e0 : C' = C := Option.some.inj (hC'.symm.trans hC)
  subst e0
  have hpl : e.platform.magicAccessors = ({} : Platform).magicAccessors := by rw [Y.admits.platform]
  have hmap := h2.2.2.2.1
  rw [htb] at hmap
  obtain ⟨pre1, r1, hsp, hpre1, hr1⟩ := List.map_eq_append_iff.mp hmap
  obtain ⟨x1, suf1, rfl, hx1, hsuf1⟩ := List.map_eq_cons_iff.mp hr1
  subst hx1
  have hth := h7.2.2.2
  have hCm : C' ∈ aj_exc := List.mem_of_getElem? hC
  obtain ⟨c3, c4, hc3, hc4, hasg⟩ := Cond.castable_spec (va_Nw.use (A := args) rfl (hth.2.1 C' hCm))
  cases Option.some.inj (hc3.symm.trans hcl)
  cases Option.some.inj (hc4.symm.trans hcl)
  obtain ⟨c5, hc5, hcl5⟩ := Cond.classLink_spec h1.2.2.2.1 (hts _ hlink) e.platform hpl
  cases Option.some.inj (hcl.symm.trans hc5)
  obtain ⟨vm', Y', st⟩ := Y.thenCaughtThrough b (g := F0 m pc ls rest) rfl hcome (by rw [hT]; exact hcell) (by rw [hv]; rfl) (by obtain ⟨k9, h9, -⟩ := Vm.findClass_spec hcl; exact ⟨k9, h9⟩) pre1 x1 suf1 hsp
    (fun z hz => by
      obtain ⟨hz0, C2, hC2, hne, hl2⟩ := hpass (z.startPc, z.endPc, z.handlerPc, z.catchType) (by rw [← hpre1]; exact List.mem_map.mpr ⟨z, hz, rfl⟩)
      obtain ⟨c6, hc6, hcl6⟩ := Cond.classLink_spec h1.2.2.2.1 (hts _ hl2) e.platform hpl
      obtain ⟨a8, b8, y1, y2, y3⟩ := hth.2.2.1 C' hCm C2 hC2 hne
      cases Option.some.inj (y1.symm.trans hcl)
      cases Option.some.inj (y2.symm.trans hc6)
      exact Or.inr ⟨hz0, _, hcl6, y3⟩) (by
      show covers x1 pc = true
      unfold covers
      simp only [Bool.and_eq_true, decide_eq_true_eq]
      exact ⟨by simpa using hcov.1, by simpa using hcov.2⟩) (Or.inr ⟨hx0, cell.cls, hcl5, hasg⟩)
  have hlen : (lv.set i none).length = M.2.2.1 := by rw [List.length_set]; exact h5.1
  have hi : i < M.2.2.1 := by
    unfold aj_ok at ho
    rw [Bool.and_eq_true] at ho
    rw [← h5.1]
    exact Nat.blt_eq ▸ ho.1
  have hgo : ∀ ls' : Array Slot, lv_has ls' M.2.2.1 ((i, Value.ref b) :: (aj_l a lv).filter (fun q => !(q.1 == i) && !(q.1 + 1 == i && q.2.category == 2))) → W p l e R s m args below meth c H locs cells slots (aj_fin E ao a tc D A Q below s (cells + bc) (slots + bs)) (F0 m q ls' []) := fun ls' hl => kk p l e R s m args below meth c H locs cells slots ls' a tc D A
    ⟨h1, h2, h3, ⟨hP, hK, hD, hS, hA⟩, ⟨hlen, aj_stx ho hl⟩, h6, h7⟩
  have hWW : W p l e R s m args below meth c H locs cells slots (aj_fin E ao a tc D A Q below s (cells + bc) (slots + bs)) (F0 m x1.handlerPc ls [.ref b]) := by
    rcases hst with ⟨j, hj, hd, hq⟩ | ⟨hd, hq⟩
    · subst hq
      exact lv_astore_n h1.1 h1.2.1 hd hj h5.2 hi rfl hgo
    · subst hq
      exact lv_astore h1.1 h1.2.1 hd h5.2 hi rfl hgo
  obtain ⟨t, a1, b1⟩ := hWW (T.setVm vm') hT Y'
  exact ⟨t, st.trans a1, b1⟩
/-- what behind a call that throws goes on -/
def aj_KT (E : aj_E) (al ao : Prop) (X : Option (Nat × (Int → Int))) (M : aj_M) (d bc bs pc i : Nat) (lv : List (Option aj_A)) (Q : aj_R → List aj_S → aj_G → Prop) : aj_R → List aj_S → aj_G → Prop := fun r sh g => match r with
  | .inl _ => False
  | .inr k => ∃ q, aj_hdl E M pc k i q ∧ aj_wp E al ao X M d bc bs q (lv.set i none) [] sh g Q
theorem aj_KT_ret {i : Nat} (r : aj_R) (sh : List aj_S) (g : aj_G) (h : aj_KT E al ao X M d bc bs pc i lv Q r sh g) : ∃ k, r = .inr k := by
  cases r with
  | inl v => exact False.elim h
  | inr k => exact ⟨k, rfl⟩
theorem aj_callT {N : aj_M} {index n ci d1 bc1 bs1 bc2 bs2 i : Nat} {r : Int} {rest : List aj_A} (vs : List aj_A) (hl : aj_vl E M.1.cls index N n ci) (hd : decode M.2.1 pc = .ok (.invokevirtual index, 3)) (hn : vs.length = n) (hdd : d1 + 1 = d) (hbc : bc2 + bc1 = bc) (hbs : bs2 + bs1 = bs) (hwt : Nat.ble (aj_wt rest) 8 = true) (hea : Nat.ble (aj_ea ((1, r) :: vs)).length N.2.2.1 = true)
    (hs : aj_sh sh r = some (.inr ci)) (ho : aj_ok lv i = true) (k : aj_wp E al al X N d1 bc1 bs1 0 (aj_en ((1, r) :: vs) N.2.2.1) [] sh g (aj_KT E al ao X M d bc2 bs2 pc i lv Q)) : aj_wp E al ao X M d bc bs pc lv (vs.reverse ++ (1, r) :: rest) sh g Q := by
  subst hbc
  subst hbs
  intro p l e R s m args below meth c H locs cells slots ls a tc D A hc0
  have hM := aj_metT (l := l) hc0.2.1.2.2.2.2 hl.1.2.2.2.2.2.1 hl.1.2.2.2.2.2.2 hea aj_KT_ret k a tc D A
  obtain ⟨h0, -⟩ := aj_sh_get hs
  obtain ⟨h1, h2, h3, ⟨hP, hK, hD, hS, hA⟩, h5, h6, h7⟩ := hc0
  have hts := h1.2.2.2.2
  subst hdd
  have hcb := aj_cb (bc1 := bc1) (bs1 := bs1) hl.1 h7.1 hts h3.1 (by omega)
  obtain ⟨hrc, hrs, hfr, hlo, hws, hcw, hcode, hini, hy, hsig, hlk⟩ := hcb
  obtain ⟨rc, hrc', hrn⟩ := hl.2.2.2
  obtain ⟨cellB, hcB, hoB, hclB⟩ := va_recv hK hP hrc' (aj_w_get (E := E) (tc := tc) (a := a) (g := g) hs)
  rw [hrn] at hclB
  have hBack : BackT l R p e below s args N.1 3 8 (PreOf R bc1 bs1 (aj_Pc E al X ((1, r) :: vs) sh g a tc D A)) (fun B w b B' => ∃ (g' : JFrame) (mk : MethodId) (t : State) (L : List Loc), B'.U.heap = t.heap ∧ B'.U.vm = t.vm ∧ aj_QT E al a tc D A (aj_KT E al ao X M (d1 + 1) bc2 bs2 pc i lv Q) w (B.U.calling g' mk w) (.threw b) t ∧ B'.locs = B.locs ++ L ∧ (∀ q ∈ L, A q.base) ∧ B'.cells = B.cells + bc1 ∧ B'.slots = B.slots + bs1) := by
    refine BackT.of_free (S := headSpec (aj_ws E N) (aj_rm d1 bc1 bs1)) (bytes := N.2.1) (maxL := N.2.2.1) (ret := N.2.2.2) (E := fun _ _ _ _ L k n => k = bc1 ∧ n = bs1 ∧ ∀ q ∈ L, A q.base) hM hfr hlo ?_ ?_ (fun _ _ _ _ _ _ _ _ _ => trivial) ?_ ?_
    · intro m meth c B w Y hp
      exact ⟨atoms_intro fun z hz => hws z hz _ _ Y.warmed, hws _ hcw _ _ Y.warmed, word_at Y.warmed (Or.inl (by first | rfl | simp [Cond.onTables, Cond.keeps, Cond.steady])) hini, hp.1, hp.2.1⟩
    · intro m meth c B w g' mk Y hp
      exact aj_blind _ _ _ _ hp.2.2
    · rintro w s9 o t ⟨hq, L, hF, hL⟩
      exact ⟨L, bc1, bs1, hF, rfl, rfl, hL⟩
    · rintro m meth c B w g' mk b t L k9 n9 Y hp ⟨hq, -⟩ hF ⟨rfl, rfl, hL⟩
      exact ⟨g', mk, t, L, rfl, rfl, hq, rfl, hL, rfl, rfl⟩
  intro T hT Y
  obtain ⟨mk, methM, hnamed, hmethM, hstM, habM⟩ := Cond.instanceMethod_spec (hts _ hl.2.1)
  obtain ⟨methM', cM, hmethM', -, -, -, -, -, -, hsigM⟩ := Cond.code_spec hnamed hcode
  cases hmethM.symm.trans hmethM'
  obtain ⟨c2, r2, m2, q1, q2, q3, q4, kP, hkP, hkPi⟩ := Cond.selects_spec (hts _ hl.2.2.1)
  cases hclB.symm.trans q1
  cases (State.methodFound?_of_named hnamed hy).symm.trans q2
  cases hnamed.symm.trans q3
  have hselP : selectMethod e.platform s.vm cellB.cls mk = .method mk := by rw [Launch.admits_selectMethod Y.admits]; exact q4
  obtain ⟨vm₁, Y₁, hstep₁⟩ := Y.invokevirtual h1.1 h1.2.2.2.1 hlk hnamed hmethM hstM hkP hkPi hy (a := a r.toNat) (cell := cellB) (by rw [hT]; exact hcB)
    (fun z h => by rw [h] at hoB; cases hoB) hselP hmethM habM hkP hkPi (g := F0 m pc ls ((vs.reverse ++ (1, r) :: rest).map (aj_c a))) rfl (argsL := vs.map (aj_c a)) (rest := rest.map (aj_c a)) (by rw [List.length_map, hn]; exact hsig _ hsigM) (by
      show (vs.reverse ++ (1, r) :: rest).map (aj_c a) = _
      rw [List.map_append, List.map_reverse, List.map_cons, aj_cr h0]) (by rw [h1.2.1]; exact hd)
  obtain ⟨b, B, Y', ⟨g', mk', t, L, f1, f2, ⟨k9, sh1, g1, b', cell, C, o1, o2, o3, o4, o5, ⟨q9, hh9, kk9⟩, o7, o8, o9, o10⟩, f4, f5, f6, f7⟩, hsteps⟩ := hBack m meth c ⟨T.setVm vm₁, locs, cells, slots⟩ (F0 m pc ls (rest.map (aj_c a))) (.invokevirtual index) mk (Value.ref (a r.toNat) :: vs.map (aj_c a)).toArray Y₁ rfl (by rw [h1.2.2.1]; exact h5.2.1) (by rw [h1.2.1]; exact hd) (lv_room (by rw [aj_wt_eq]; exact Nat.le_of_ble_eq_true hwt)) (Y₁.named hnamed)
    ⟨by show cells + bc1 ≤ R.cells; omega, by show slots + bs1 ≤ R.slots; omega, by rw [List.map_cons, aj_cr h0], by show va_P D E.1 (aj_w E tc a sh g) T.heap; rw [hT]; exact hP, va_K.moved Y₁.warmed.alike hK, hD, fun q hq => hA q (Nat.le_trans hS.1 (by rw [← hT]; exact hq)), by show aj_ph al sh a T.heap.size; rw [hT]; exact h6, h7.1, aj_xs_at h7.2 hS (show (T.setVm vm₁).heap = H from hT) Y₁.warmed⟩
  cases o1
  obtain ⟨U, l2, c2', s2⟩ := B
  dsimp only [Pt.U, Pt.locs, Pt.cells, Pt.slots] at Y' f1 f2 f4 f6 f7 hsteps o9
  subst f4; subst f6; subst f7
  have hF1 : T.heap.size ≤ t.heap.size ∧ ∀ q : Nat, q < T.heap.size → ¬ A q → t.heap[q]? = T.heap[q]? := o9
  rw [hT] at hF1
  have hS1 : va_S A s.heap U.heap (locs ++ L) := ⟨Nat.le_trans hS.1 (by rw [f1]; exact hF1.1), fun q u1 u2 => by rw [f1, hF1.2 q (Nat.lt_of_lt_of_le u1 hS.1) u2]; exact hS.2.1 q u1 u2, fun q hq => (List.mem_append.mp hq).elim (hS.2.2 q) (f5 q)⟩
  have hcl : s.vm.findClass C = some cell.cls := by
    rw [← f2, Y'.warmed.alike.findClass] at o5
    exact o5
  obtain ⟨t9, a9, b9⟩ := aj_caught (d := d1 + 1) (bc := bc2) (bs := bs2) (cells := cells + bc1) (slots := slots + bs1) hh9 ho kk9
    ⟨h1, h2, ⟨h3.1, h3.2.1, by omega, by omega⟩, ⟨by rw [f1]; exact o7, hK, o8, hS1, hA⟩, h5, by rw [f1]; exact o10, h7⟩ rfl Y' (by rw [f1]; exact o2) o3 o4 hcl (hstep₁ _ fun acts => by rw [doInvoke_state]; exact hsteps)
  rw [show cells + bc1 + bc2 = cells + (bc2 + bc1) by omega, show slots + bs1 + bs2 = slots + (bs2 + bs1) by omega] at b9
  exact ⟨t9, a9, b9⟩
end AJT
