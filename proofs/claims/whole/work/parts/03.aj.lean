/-! the judgement -/
def aj_kd (t : FieldType) : Nat := match t with
  | .long => 2
  | .object _ => 1
  | .array _ => 1
  | _ => 0
def aj_smp (t : FieldType) : Bool := match t with
  | .float => false
  | .double => false
  | _ => true
def aj_good (E : aj_E) : Prop :=
  (∀ w ∈ E.2.2.2.1, (w.onTables && w.keeps) = true ∨ ∃ ty, w = .arrayClass ty) ∧
  ∀ (ci : Nat) (q : vw_C), E.1[ci]? = some q → (∀ w ∈ u_ws q.1 q.2.1 q.2.2, w ∈ E.2.2.2.1) ∧ (∀ a, a < q.2.2 → ∀ b, b < q.2.2 → a ≠ b → (q.2.1 a).2.1 ≠ (q.2.1 b).2.1) ∧
    ∃ ty0 : Nat → FieldType, (∀ k, k < q.2.2 → parseFieldDescriptor (q.2.1 k).2.2.1 = some (ty0 k)) ∧ ∀ k, k < q.2.2 → E.2.2.1 ci k = aj_kd (ty0 k) ∧ aj_smp (ty0 k) = true
def aj_ph (al : Prop) (sh : List aj_S) (a : Nat → Nat) (n : Nat) : Prop := (al → ∀ j, sh.length + j < 1000000 → a (sh.length + j) = n + j) ∧ ∀ (k t n : Nat), sh[k]? = some (.inl (t, n)) → n < 2147483648
/-- the tables of handlers: the law's own methods alone have any -/
def aj_tbs : List (MethodName × List (Nat × Nat × Nat × Nat)) := [(⟨"TestBenchLaw", "edge", "(LTestBench;IIII)I"⟩, [(0, 9, 12, 13), (0, 9, 16, 15)]), (⟨"TestBenchLaw", "start", "(LTestBench;I)I"⟩, [(0, 5, 8, 13), (0, 5, 11, 15)]), (⟨"TestBenchLaw", "seal", "(LTestBench;[J)I"⟩, [(0, 8, 11, 15)]), (⟨"TestBenchLaw", "apart", "(LTestBench;II[J)I"⟩, [(0, 10, 13, 13), (0, 10, 17, 15)]), (⟨"TestBenchLaw", "suite", "(LTestBench;II[J)I"⟩, [(0, 10, 13, 13), (0, 10, 17, 15), (0, 10, 21, 32)]), (⟨"TestBenchLaw", "resize", "(LTestBench;I)I"⟩, [(0, 5, 8, 13), (0, 5, 11, 15)]), (⟨"TestBenchLaw", "change", "(LTestBench;IIII)I"⟩, [(0, 9, 12, 15), (0, 9, 16, 13)]), (⟨"TestBenchLaw", "run", "(LTestBench;[J)I"⟩, [(0, 8, 11, 15)]), (⟨"TestBenchLaw", "begin", "(LTestBench;I[J)I"⟩, [(0, 9, 12, 13)]), (⟨"TestBenchLaw", "give", "(LTestBench;I[J)I"⟩, [(0, 9, 12, 15), (0, 9, 15, 13)]), (⟨"TestBenchLaw", "same", "(LTestBench;[J)I"⟩, [(0, 8, 11, 15)])]
def aj_tb (y : MethodName) : List (Nat × Nat × Nat × Nat) := ((aj_tbs.find? (fun q => decide (q.1 = y))).map (·.2)).getD []
def aj_exc : List String := ["java/lang/IllegalArgumentException", "java/lang/IllegalStateException", "java/lang/UnsupportedOperationException"]
def aj_dcl : List MethodName := [⟨"java/lang/RuntimeException", "<init>", "()V"⟩, ⟨"java/lang/Exception", "<init>", "()V"⟩, ⟨"java/lang/Throwable", "<init>", "()V"⟩]
/-- a static field of Throwable: its cell is nobody's here, and whoever has that cell has the field's two words -/
def aj_zs (n d : String) (A : Nat → Prop) (s : State) (H : Heap) : Prop := ∃ (b : Nat) (cell : Cell), H[b]? = some cell ∧ ¬ A b ∧ ∀ (U : State) (w : Array Value), s.vm.Alike U.vm → U.heap[b]? = some cell →
  (Cond.laysStatic Bundle.tN n d).before w U = true ∧ (Cond.isRef (.static Bundle.tN n d)).before w U = true
def aj_aos : List FieldType := [.object "TestBench$Word", .array .int]
/-- what throwing, catching and rows of rows ask beyond the tables' good words -/
def aj_th (A : Nat → Prop) (s : State) : Prop := (∀ x ∈ aj_dcl, va_Nw (.declares x) s) ∧ (∀ x ∈ aj_exc, va_Nw (.castable x x) s) ∧ (∀ x ∈ aj_exc, ∀ y ∈ aj_exc, x ≠ y → va_Nc x y s) ∧
  aj_zs "UNASSIGNED_STACK" Bundle.steD A s s.heap ∧ aj_zs "SUPPRESSED_SENTINEL" Bundle.listD A s s.heap ∧ ∀ ty ∈ aj_aos, va_Nw (.arrayOver ty) s
def aj_xs (E : aj_E) (X : Option (Nat × (Int → Int))) (a : Nat → Nat) (A : Nat → Prop) (s : State) : Prop := (∀ y, X = some y → va_X (a 1000000) y.1 (fun j => Int32.ofInt (y.2 j)) s s.heap ∧ a 1000000 < s.heap.size ∧ ¬ A (a 1000000) ∧ y.1 < 2147483648) ∧ (∀ w ∈ E.2.2.2.2, va_Nw (.methodLinkNest w.1 w.2.1 w.2.2.1 w.2.2.2) s) ∧ aj_th A s
def aj_cx (E : aj_E) (al : Prop) (X : Option (Nat × (Int → Int))) (M : aj_M) (d bc bs : Nat) (lv : List (Option aj_A)) (sh : List aj_S) (g : aj_G)
    (a tc : Nat → Nat) (D : va_G) (A : Nat → Prop) (p : Program) (l : Launch) (R : Room) (s : State) (m : MethodId) (args : Array Value) (meth : Method) (c : Code) (H : Heap) (locs : List Loc) (cells slots : Nat) (ls : Array Slot) : Prop :=
  (p.tables.exec = Jvm.exec ∧ c.code = M.2.1 ∧ c.maxLocals = M.2.2.1 ∧ s.vm.findClass M.1.cls = some m.cls ∧ ∀ w ∈ E.2.2.2.1, w.before args s = true) ∧
  (meth.sig.returnType = M.2.2.2 ∧ meth.locks = false ∧ meth.name = M.1.name ∧ c.exceptionTable.toList.map (fun h => (h.startPc, h.endPc, h.handlerPc, h.catchType)) = aj_tb M.1 ∧ l.stackTraces = false) ∧
  (d + 2 ≤ R.frames ∧ 48 * d ≤ R.locals ∧ cells + bc ≤ R.cells ∧ slots + bs ≤ R.slots) ∧
  (va_P D E.1 (aj_w E tc a sh g) H ∧ va_K D E.1 (aj_ty tc E.2.1) s ∧ va_D A (aj_w E tc a sh g) ∧ va_S A s.heap H locs ∧ ∀ q, s.heap.size ≤ q → A q) ∧
  (lv.length = M.2.2.1 ∧ lv_has ls M.2.2.1 (aj_l a lv)) ∧
  aj_ph al sh a H.size ∧ aj_good E ∧ aj_xs E X a A s
/-- how a method may end: it returns, or it throws an object of the k-th class of exc -/
def aj_out (exc : List String) (a : Nat → Nat) (r : aj_R) (o : Outcome) (t : State) : Prop := match r with
  | .inl v => o = .returned (v.map (aj_c a))
  | .inr k => ∃ (b : Nat) (cell : Cell) (E : String), o = .threw b ∧ t.heap[b]? = some cell ∧ cell.vm = .none ∧ exc[k]? = some E ∧ t.vm.findClass E = some cell.cls
def aj_fin (E : aj_E) (ao : Prop) (a tc : Nat → Nat) (D : va_G) (A : Nat → Prop) (Q : aj_R → List aj_S → aj_G → Prop) (below : List Frame) (s : State) (MC MS : Nat) : State → Prop := fun t =>
  ∃ (o : Outcome) (r : aj_R) (sh : List aj_S) (g : aj_G), t.status = .running ∧ Ended t below o ∧ Q r sh g ∧ aj_out aj_exc a r o t ∧ va_P D E.1 (aj_w E tc a sh g) t.heap ∧ va_D A (aj_w E tc a sh g) ∧ va_F A s t ∧
    aj_ph ao sh a t.heap.size ∧ ∃ L, s.WarmedH t.vm ∧ s.sameButNew ({ t with vm := s.vm } : State) L MC MS ∧ ∀ q ∈ L, A q.base
def aj_wp (E : aj_E) (al ao : Prop) (X : Option (Nat × (Int → Int))) (M : aj_M) (d bc bs : Nat) (pc : Nat) (lv : List (Option aj_A)) (st : List aj_A) (sh : List aj_S) (g : aj_G) (Q : aj_R → List aj_S → aj_G → Prop) : Prop :=
  ∀ (p : Program) (l : Launch) (e : Env) (R : Room) (s : State) (m : MethodId) (args : Array Value) (below : List Frame) (meth : Method) (c : Code) (H : Heap) (locs : List Loc) (cells slots : Nat) (ls : Array Slot) (a tc : Nat → Nat) (D : va_G) (A : Nat → Prop),
    aj_cx E al X M d bc bs lv sh g a tc D A p l R s m args meth c H locs cells slots ls →
    W p l e R s m args below meth c H locs cells slots (aj_fin E ao a tc D A Q below s (cells + bc) (slots + bs)) (F0 m pc ls (st.map (aj_c a)))
theorem aj_monoW {p : Program} {l : Launch} {e : Env} {R : Room} {s : State} {m : MethodId} {args : Array Value} {below : List Frame} {meth : Method} {c : Code} {H : Heap} {locs : List Loc} {cells slots : Nat} {Q Q' : State → Prop} {g : JFrame}
    (hq : ∀ t, Q t → Q' t) (k : W p l e R s m args below meth c H locs cells slots Q g) : W p l e R s m args below meth c H locs cells slots Q' g := by
  intro T hT X
  obtain ⟨t, h1, h2⟩ := k T hT X
  exact ⟨t, h1, hq t h2⟩
section AJR
variable {E : aj_E} {al ao : Prop} {X : Option (Nat × (Int → Int))} {M : aj_M} {d bc bs pc : Nat} {lv : List (Option aj_A)} {st : List aj_A} {sh : List aj_S} {g : aj_G} {Q Q' : aj_R → List aj_S → aj_G → Prop}
theorem aj_mono (hq : ∀ r sh g, Q r sh g → Q' r sh g) (k : aj_wp E al ao X M d bc bs pc lv st sh g Q) : aj_wp E al ao X M d bc bs pc lv st sh g Q' := by
  intro p l e R s m args below meth c H locs cells slots ls a tc D A hc
  refine aj_monoW ?_ (k p l e R s m args below meth c H locs cells slots ls a tc D A hc)
  rintro t ⟨o, r, sh, g, e1, e2, e3, e4⟩
  exact ⟨o, r, sh, g, e1, e2, hq r sh g e3, e4⟩
/-- objects have been made: from here on the addresses that come are free -/
theorem aj_off (k : aj_wp E False ao X M d bc bs pc lv st sh g Q) : aj_wp E al ao X M d bc bs pc lv st sh g Q := by
  intro p l e R s m args below meth c H locs cells slots ls a tc D A ⟨h1, h2, h3, h4, h5, h6, h7⟩
  exact k p l e R s m args below meth c H locs cells slots ls a tc D A ⟨h1, h2, h3, h4, h5, ⟨fun h => h.elim, h6.2⟩, h7⟩
theorem aj_forget (i : Nat) (k : aj_wp E al ao X M d bc bs pc (lv.set i none) st sh g Q) : aj_wp E al ao X M d bc bs pc lv st sh g Q := by
  intro p l e R s m args below meth c H locs cells slots ls a tc D A ⟨h1, h2, h3, h4, h5, h6⟩
  exact k p l e R s m args below meth c H locs cells slots ls a tc D A ⟨h1, h2, h3, h4, ⟨by rw [List.length_set]; exact h5.1, aj_forget1 h5.2⟩, h6⟩
/-- an instruction that changes the operand stack alone -/
theorem aj_lift {pc' : Nat} {st' : List aj_A} (h : ∀ (p : Program) (l : Launch) (e : Env) (R : Room) (s : State) (m : MethodId) (args : Array Value) (below : List Frame) (meth : Method) (c : Code) (H : Heap) (locs : List Loc) (cells slots : Nat) (Z : State → Prop) (ls : Array Slot) (a : Nat → Nat),
      p.tables.exec = Jvm.exec → c.code = M.2.1 → lv_has ls M.2.2.1 (aj_l a lv) → W p l e R s m args below meth c H locs cells slots Z (F0 m pc' ls (st'.map (aj_c a))) → W p l e R s m args below meth c H locs cells slots Z (F0 m pc ls (st.map (aj_c a))))
    (k : aj_wp E al ao X M d bc bs pc' lv st' sh g Q) : aj_wp E al ao X M d bc bs pc lv st sh g Q := by
  intro p l e R s m args below meth c H locs cells slots ls a tc D A hc
  exact h p l e R s m args below meth c H locs cells slots _ ls a hc.1.1 hc.1.2.1 hc.2.2.2.2.1.2 (k p l e R s m args below meth c H locs cells slots ls a tc D A hc)
theorem aj_iconst {n : Int} (q : Nat) (hd : decode M.2.1 pc = .ok (.iconst n, 1)) (hq : pc + 1 = q) (k : aj_wp E al ao X M d bc bs q lv ((0, n) :: st) sh g Q) : aj_wp E al ao X M d bc bs pc lv st sh g Q := by
  subst hq
  exact aj_lift (fun p l e R s m args below meth c H locs cells slots Z ls a hx hb hl k => lv_iconst (v := Int32.ofInt n) hx hb hd rfl k) k
theorem aj_bipush {n : Int} (q : Nat) (hd : decode M.2.1 pc = .ok (.bipush n, 2)) (hq : pc + 2 = q) (hn : (Int8.ofInt n).toInt32 = Int32.ofInt n) (k : aj_wp E al ao X M d bc bs q lv ((0, n) :: st) sh g Q) : aj_wp E al ao X M d bc bs pc lv st sh g Q := by
  subst hq
  exact aj_lift (fun p l e R s m args below meth c H locs cells slots Z ls a hx hb hl k => lv_bipush (v := Int32.ofInt n) hx hb hd hn k) k
theorem aj_sipush {n : Int} (q : Nat) (hd : decode M.2.1 pc = .ok (.sipush n, 3)) (hq : pc + 3 = q) (hn : (Int16.ofInt n).toInt32 = Int32.ofInt n) (k : aj_wp E al ao X M d bc bs q lv ((0, n) :: st) sh g Q) : aj_wp E al ao X M d bc bs pc lv st sh g Q := by
  subst hq
  exact aj_lift (fun p l e R s m args below meth c H locs cells slots Z ls a hx hb hl k => lv_sipush (v := Int32.ofInt n) hx hb hd hn k) k
theorem aj_lconst {n : Fin 2} {x : Int} (q : Nat) (hd : decode M.2.1 pc = .ok (.lconst n, 1)) (hq : pc + 1 = q) (hx : ((n : Nat) : Int) = x) (k : aj_wp E al ao X M d bc bs q lv ((2, x) :: st) sh g Q) : aj_wp E al ao X M d bc bs pc lv st sh g Q := by
  subst hq
  subst hx
  exact aj_lift (fun p l e R s m args below meth c H locs cells slots Z ls a hx hb hl k => lv_lconst (v := Int64.ofInt ((n : Nat) : Int)) hx hb hd Int64.ofInt_eq_ofNat.symm k) k
theorem aj_iload_n {n : Fin 4} {x : Int} (i q : Nat) (hd : decode M.2.1 pc = .ok (.iload_n n, 1)) (hi : (n : Nat) = i) (hq : pc + 1 = q) (hl : lv[i]? = some (some (0, x))) (k : aj_wp E al ao X M d bc bs q lv ((0, x) :: st) sh g Q) : aj_wp E al ao X M d bc bs pc lv st sh g Q := by
  subst hq
  exact aj_lift (fun p l e R s m args below meth c H locs cells slots Z ls a hx hb hls k => lv_iload_n (x := Int32.ofInt x) hx hb hd hi (aj_lget hls hl) k) k
theorem aj_iload {x : Int} (i q : Nat) (hd : decode M.2.1 pc = .ok (.iload i, 2)) (hq : pc + 2 = q) (hl : lv[i]? = some (some (0, x))) (k : aj_wp E al ao X M d bc bs q lv ((0, x) :: st) sh g Q) : aj_wp E al ao X M d bc bs pc lv st sh g Q := by
  subst hq
  exact aj_lift (fun p l e R s m args below meth c H locs cells slots Z ls a hx hb hls k => lv_iload (x := Int32.ofInt x) hx hb hd (aj_lget hls hl) k) k
theorem aj_lload_n {n : Fin 4} {x : Int} (i q : Nat) (hd : decode M.2.1 pc = .ok (.lload_n n, 1)) (hi : (n : Nat) = i) (hq : pc + 1 = q) (hl : lv[i]? = some (some (2, x))) (k : aj_wp E al ao X M d bc bs q lv ((2, x) :: st) sh g Q) : aj_wp E al ao X M d bc bs pc lv st sh g Q := by
  subst hq
  exact aj_lift (fun p l e R s m args below meth c H locs cells slots Z ls a hx hb hls k => lv_lload_n (x := Int64.ofInt x) hx hb hd hi (aj_lget hls hl) k) k
theorem aj_lload {x : Int} (i q : Nat) (hd : decode M.2.1 pc = .ok (.lload i, 2)) (hq : pc + 2 = q) (hl : lv[i]? = some (some (2, x))) (k : aj_wp E al ao X M d bc bs q lv ((2, x) :: st) sh g Q) : aj_wp E al ao X M d bc bs pc lv st sh g Q := by
  subst hq
  exact aj_lift (fun p l e R s m args below meth c H locs cells slots Z ls a hx hb hls k => lv_lload (x := Int64.ofInt x) hx hb hd (aj_lget hls hl) k) k
theorem aj_aload_n {n : Fin 4} {x : Int} (i q : Nat) (hd : decode M.2.1 pc = .ok (.aload_n n, 1)) (hi : (n : Nat) = i) (hq : pc + 1 = q) (hl : lv[i]? = some (some (1, x))) (k : aj_wp E al ao X M d bc bs q lv ((1, x) :: st) sh g Q) : aj_wp E al ao X M d bc bs pc lv st sh g Q := by
  subst hq
  refine aj_lift (fun p l e R s m args below meth c H locs cells slots Z ls a hx hb hls k => ?_) k
  have hg := aj_lget hls hl
  rw [List.map_cons] at k
  by_cases h0 : x < 0
  · rw [aj_c1, aj_rfn h0] at hg k
    exact lv_aload_nN hx hb hd hi hg k
  · rw [aj_cr (by omega)] at hg k
    exact lv_aload_n hx hb hd hi hg k
theorem aj_aload {x : Int} (i q : Nat) (hd : decode M.2.1 pc = .ok (.aload i, 2)) (hq : pc + 2 = q) (hl : lv[i]? = some (some (1, x))) (k : aj_wp E al ao X M d bc bs q lv ((1, x) :: st) sh g Q) : aj_wp E al ao X M d bc bs pc lv st sh g Q := by
  subst hq
  refine aj_lift (fun p l e R s m args below meth c H locs cells slots Z ls a hx hb hls k => ?_) k
  have hg := aj_lget hls hl
  rw [List.map_cons] at k
  by_cases h0 : x < 0
  · rw [aj_c1, aj_rfn h0] at hg k
    exact lv_aloadN hx hb hd hg k
  · rw [aj_cr (by omega)] at hg k
    exact lv_aload hx hb hd hg k
/-- an instruction that changes a slot of the locals -/
theorem aj_lst {pc' : Nat} {st' : List aj_A} {lv' : List (Option aj_A)} (hlen : lv'.length = lv.length) (h : ∀ (p : Program) (l : Launch) (e : Env) (R : Room) (s : State) (m : MethodId) (args : Array Value) (below : List Frame) (meth : Method) (c : Code) (H : Heap) (locs : List Loc) (cells slots : Nat) (Z : State → Prop) (ls : Array Slot) (a : Nat → Nat),
      p.tables.exec = Jvm.exec → c.code = M.2.1 → lv.length = M.2.2.1 → lv_has ls M.2.2.1 (aj_l a lv) → (∀ ls', lv_has ls' M.2.2.1 (aj_l a lv') → W p l e R s m args below meth c H locs cells slots Z (F0 m pc' ls' (st'.map (aj_c a)))) → W p l e R s m args below meth c H locs cells slots Z (F0 m pc ls (st.map (aj_c a))))
    (k : aj_wp E al ao X M d bc bs pc' lv' st' sh g Q) : aj_wp E al ao X M d bc bs pc lv st sh g Q := by
  intro p l e R s m args below meth c H locs cells slots ls a tc D A hc
  obtain ⟨h1, h2, h3, h4, h5, h6⟩ := hc
  exact h p l e R s m args below meth c H locs cells slots _ ls a h1.1 h1.2.1 h5.1 h5.2 (fun ls' hls => k p l e R s m args below meth c H locs cells slots ls' a tc D A ⟨h1, h2, h3, h4, ⟨hlen.trans h5.1, hls⟩, h6⟩)
theorem aj_oklt {i : Nat} (h : aj_ok lv i = true) : i < lv.length := by
  unfold aj_ok at h
  rw [Bool.and_eq_true] at h
  exact Nat.blt_eq ▸ h.1
theorem aj_istore_n {n : Fin 4} {x : Int} (i q : Nat) (hd : decode M.2.1 pc = .ok (.istore_n n, 1)) (hi : (n : Nat) = i) (hq : pc + 1 = q) (ho : aj_ok lv i = true) (k : aj_wp E al ao X M d bc bs q (lv.set i (some (0, x))) st sh g Q) : aj_wp E al ao X M d bc bs pc lv ((0, x) :: st) sh g Q := by
  subst hq
  exact aj_lst (List.length_set ..) (fun p l e R s m args below meth c H locs cells slots Z ls a hx hb hn hls k => lv_istore_n (x := Int32.ofInt x) hx hb hd hi hls (hn ▸ aj_oklt ho) rfl (fun ls' h' => k ls' (aj_st1 (v := (0, x)) rfl ho h'))) k
theorem aj_istore {x : Int} (i q : Nat) (hd : decode M.2.1 pc = .ok (.istore i, 2)) (hq : pc + 2 = q) (ho : aj_ok lv i = true) (k : aj_wp E al ao X M d bc bs q (lv.set i (some (0, x))) st sh g Q) : aj_wp E al ao X M d bc bs pc lv ((0, x) :: st) sh g Q := by
  subst hq
  exact aj_lst (List.length_set ..) (fun p l e R s m args below meth c H locs cells slots Z ls a hx hb hn hls k => lv_istore (x := Int32.ofInt x) hx hb hd hls (hn ▸ aj_oklt ho) rfl (fun ls' h' => k ls' (aj_st1 (v := (0, x)) rfl ho h'))) k
theorem aj_lstore_n {n : Fin 4} {x : Int} (i q : Nat) (hd : decode M.2.1 pc = .ok (.lstore_n n, 1)) (hi : (n : Nat) = i) (hq : pc + 1 = q) (ho : aj_ok lv i = true) (ho2 : Nat.blt (i + 1) lv.length = true) (k : aj_wp E al ao X M d bc bs q ((lv.set i (some (2, x))).set (i + 1) none) st sh g Q) : aj_wp E al ao X M d bc bs pc lv ((2, x) :: st) sh g Q := by
  subst hq
  exact aj_lst (by rw [List.length_set, List.length_set]) (fun p l e R s m args below meth c H locs cells slots Z ls a hx hb hn hls k => lv_lstore_n (x := Int64.ofInt x) hx hb hd hi hls (hn ▸ (Nat.blt_eq ▸ ho2)) rfl (fun ls' h' => k ls' (aj_st2 (v := (2, x)) rfl ho h'))) k
theorem aj_lstore {x : Int} (i q : Nat) (hd : decode M.2.1 pc = .ok (.lstore i, 2)) (hq : pc + 2 = q) (ho : aj_ok lv i = true) (ho2 : Nat.blt (i + 1) lv.length = true) (k : aj_wp E al ao X M d bc bs q ((lv.set i (some (2, x))).set (i + 1) none) st sh g Q) : aj_wp E al ao X M d bc bs pc lv ((2, x) :: st) sh g Q := by
  subst hq
  exact aj_lst (by rw [List.length_set, List.length_set]) (fun p l e R s m args below meth c H locs cells slots Z ls a hx hb hn hls k => lv_lstore (x := Int64.ofInt x) hx hb hd hls (hn ▸ (Nat.blt_eq ▸ ho2)) rfl (fun ls' h' => k ls' (aj_st2 (v := (2, x)) rfl ho h'))) k
theorem aj_astore_n {n : Fin 4} {x : Int} (i q : Nat) (hd : decode M.2.1 pc = .ok (.astore_n n, 1)) (hi : (n : Nat) = i) (hq : pc + 1 = q) (ho : aj_ok lv i = true) (k : aj_wp E al ao X M d bc bs q (lv.set i (some (1, x))) st sh g Q) : aj_wp E al ao X M d bc bs pc lv ((1, x) :: st) sh g Q := by
  subst hq
  refine aj_lst (List.length_set ..) (fun p l e R s m args below meth c H locs cells slots Z ls a hx hb hn hls k => ?_) k
  rw [List.map_cons]
  by_cases h0 : x < 0
  · have hw : aj_c a (1, x) = .null := by rw [aj_c1, aj_rfn h0]; rfl
    rw [hw]
    exact lv_astore_nN hx hb hd hi hls (hn ▸ aj_oklt ho) rfl (fun ls' h' => k ls' (aj_st1 hw ho h'))
  · have hw : aj_c a (1, x) = .ref (a x.toNat) := aj_cr (by omega)
    rw [hw]
    exact lv_astore_n hx hb hd hi hls (hn ▸ aj_oklt ho) rfl (fun ls' h' => k ls' (aj_st1 hw ho h'))
theorem aj_astore {x : Int} (i q : Nat) (hd : decode M.2.1 pc = .ok (.astore i, 2)) (hq : pc + 2 = q) (ho : aj_ok lv i = true) (k : aj_wp E al ao X M d bc bs q (lv.set i (some (1, x))) st sh g Q) : aj_wp E al ao X M d bc bs pc lv ((1, x) :: st) sh g Q := by
  subst hq
  refine aj_lst (List.length_set ..) (fun p l e R s m args below meth c H locs cells slots Z ls a hx hb hn hls k => ?_) k
  rw [List.map_cons]
  by_cases h0 : x < 0
  · have hw : aj_c a (1, x) = .null := by rw [aj_c1, aj_rfn h0]; rfl
    rw [hw]
    exact lv_astoreN hx hb hd hls (hn ▸ aj_oklt ho) rfl (fun ls' h' => k ls' (aj_st1 hw ho h'))
  · have hw : aj_c a (1, x) = .ref (a x.toNat) := aj_cr (by omega)
    rw [hw]
    exact lv_astore hx hb hd hls (hn ▸ aj_oklt ho) rfl (fun ls' h' => k ls' (aj_st1 hw ho h'))
theorem aj_iinc {x n : Int} (i q : Nat) (hd : decode M.2.1 pc = .ok (.iinc i n, 3)) (hq : pc + 3 = q) (hl : lv[i]? = some (some (0, x))) (ho : aj_ok lv i = true) (k : aj_wp E al ao X M d bc bs q (lv.set i (some (0, x + n))) st sh g Q) : aj_wp E al ao X M d bc bs pc lv st sh g Q := by
  subst hq
  refine aj_lst (List.length_set ..) (fun p l e R s m args below meth c H locs cells slots Z ls a hx hb hn hls k => ?_) k
  obtain ⟨k0, hk0⟩ := List.getElem?_of_mem (aj_l_mem.mpr ⟨_, hl, rfl⟩ : (i, aj_c a (0, x)) ∈ aj_l a lv)
  exact lv_iinc (x := Int32.ofInt x) (v := Int32.ofInt (x + n)) hx hb hd hls hk0 (Int32.ofInt_add x n).symm (hn ▸ aj_oklt ho) rfl (fun ls' h' => k ls' (aj_st1 (v := (0, x + n)) rfl ho h'))
/-! arithmetic -/
theorem aj_iadd {x y : Int} (q : Nat) (hd : decode M.2.1 pc = .ok (.iadd, 1)) (hq : pc + 1 = q) (k : aj_wp E al ao X M d bc bs q lv ((0, x + y) :: st) sh g Q) : aj_wp E al ao X M d bc bs pc lv ((0, y) :: (0, x) :: st) sh g Q := by
  subst hq
  exact aj_lift (fun p l e R s m args below meth c H locs cells slots Z ls a hx hb hls k => lv_iadd (x := Int32.ofInt x) (y := Int32.ofInt y) hx hb hd (by rw [← Int32.ofInt_add]; exact k)) k
theorem aj_isub {x y : Int} (q : Nat) (hd : decode M.2.1 pc = .ok (.isub, 1)) (hq : pc + 1 = q) (k : aj_wp E al ao X M d bc bs q lv ((0, x - y) :: st) sh g Q) : aj_wp E al ao X M d bc bs pc lv ((0, y) :: (0, x) :: st) sh g Q := by
  subst hq
  exact aj_lift (fun p l e R s m args below meth c H locs cells slots Z ls a hx hb hls k => lv_isub (x := Int32.ofInt x) (y := Int32.ofInt y) hx hb hd (by rw [← Int32.ofInt_sub]; exact k)) k
theorem aj_imul {x y : Int} (q : Nat) (hd : decode M.2.1 pc = .ok (.imul, 1)) (hq : pc + 1 = q) (k : aj_wp E al ao X M d bc bs q lv ((0, x * y) :: st) sh g Q) : aj_wp E al ao X M d bc bs pc lv ((0, y) :: (0, x) :: st) sh g Q := by
  subst hq
  exact aj_lift (fun p l e R s m args below meth c H locs cells slots Z ls a hx hb hls k => lv_imul (x := Int32.ofInt x) (y := Int32.ofInt y) hx hb hd (by rw [← Int32.ofInt_mul]; exact k)) k
theorem aj_ladd {x y : Int} (q : Nat) (hd : decode M.2.1 pc = .ok (.ladd, 1)) (hq : pc + 1 = q) (k : aj_wp E al ao X M d bc bs q lv ((2, x + y) :: st) sh g Q) : aj_wp E al ao X M d bc bs pc lv ((2, y) :: (2, x) :: st) sh g Q := by
  subst hq
  exact aj_lift (fun p l e R s m args below meth c H locs cells slots Z ls a hx hb hls k => lv_ladd (x := Int64.ofInt x) (y := Int64.ofInt y) hx hb hd (by rw [← Int64.ofInt_add]; exact k)) k
theorem aj_idiv {x y v : Int} (q : Nat) (hd : decode M.2.1 pc = .ok (.idiv, 1)) (hq : pc + 1 = q) (hn : ¬ Int32.ofInt y = 0) (hv : Int32.ofInt x / Int32.ofInt y = Int32.ofInt v) (k : aj_wp E al ao X M d bc bs q lv ((0, v) :: st) sh g Q) : aj_wp E al ao X M d bc bs pc lv ((0, y) :: (0, x) :: st) sh g Q := by
  subst hq
  exact aj_lift (fun p l e R s m args below meth c H locs cells slots Z ls a hx hb hls k => lv_idiv (x := Int32.ofInt x) (y := Int32.ofInt y) hx hb hd hn (by rw [hv]; exact k)) k
theorem aj_irem {x y v : Int} (q : Nat) (hd : decode M.2.1 pc = .ok (.irem, 1)) (hq : pc + 1 = q) (hn : ¬ Int32.ofInt y = 0) (hv : Int32.ofInt x - Int32.ofInt x / Int32.ofInt y * Int32.ofInt y = Int32.ofInt v) (k : aj_wp E al ao X M d bc bs q lv ((0, v) :: st) sh g Q) : aj_wp E al ao X M d bc bs pc lv ((0, y) :: (0, x) :: st) sh g Q := by
  subst hq
  exact aj_lift (fun p l e R s m args below meth c H locs cells slots Z ls a hx hb hls k => lv_irem (x := Int32.ofInt x) (y := Int32.ofInt y) hx hb hd hn (by rw [hv]; exact k)) k
theorem aj_iand {x y v : Int} (q : Nat) (hd : decode M.2.1 pc = .ok (.iand, 1)) (hq : pc + 1 = q) (hv : Int32.ofInt x &&& Int32.ofInt y = Int32.ofInt v) (k : aj_wp E al ao X M d bc bs q lv ((0, v) :: st) sh g Q) : aj_wp E al ao X M d bc bs pc lv ((0, y) :: (0, x) :: st) sh g Q := by
  subst hq
  exact aj_lift (fun p l e R s m args below meth c H locs cells slots Z ls a hx hb hls k => lv_iand (x := Int32.ofInt x) (y := Int32.ofInt y) hx hb hd (by rw [hv]; exact k)) k
theorem aj_ior {x y v : Int} (q : Nat) (hd : decode M.2.1 pc = .ok (.ior, 1)) (hq : pc + 1 = q) (hv : Int32.ofInt x ||| Int32.ofInt y = Int32.ofInt v) (k : aj_wp E al ao X M d bc bs q lv ((0, v) :: st) sh g Q) : aj_wp E al ao X M d bc bs pc lv ((0, y) :: (0, x) :: st) sh g Q := by
  subst hq
  exact aj_lift (fun p l e R s m args below meth c H locs cells slots Z ls a hx hb hls k => lv_ior (x := Int32.ofInt x) (y := Int32.ofInt y) hx hb hd (by rw [hv]; exact k)) k
theorem aj_ishl {x y v : Int} (q : Nat) (hd : decode M.2.1 pc = .ok (.ishl, 1)) (hq : pc + 1 = q) (hv : Int32.ofInt x <<< (Int32.ofInt y &&& 31) = Int32.ofInt v) (k : aj_wp E al ao X M d bc bs q lv ((0, v) :: st) sh g Q) : aj_wp E al ao X M d bc bs pc lv ((0, y) :: (0, x) :: st) sh g Q := by
  subst hq
  exact aj_lift (fun p l e R s m args below meth c H locs cells slots Z ls a hx hb hls k => lv_ishl (x := Int32.ofInt x) (y := Int32.ofInt y) hx hb hd (by rw [hv]; exact k)) k
theorem aj_land {x y v : Int} (q : Nat) (hd : decode M.2.1 pc = .ok (.land, 1)) (hq : pc + 1 = q) (hv : Int64.ofInt x &&& Int64.ofInt y = Int64.ofInt v) (k : aj_wp E al ao X M d bc bs q lv ((2, v) :: st) sh g Q) : aj_wp E al ao X M d bc bs pc lv ((2, y) :: (2, x) :: st) sh g Q := by
  subst hq
  exact aj_lift (fun p l e R s m args below meth c H locs cells slots Z ls a hx hb hls k => lv_land (x := Int64.ofInt x) (y := Int64.ofInt y) hx hb hd (by rw [hv]; exact k)) k
theorem aj_lor {x y v : Int} (q : Nat) (hd : decode M.2.1 pc = .ok (.lor, 1)) (hq : pc + 1 = q) (hv : Int64.ofInt x ||| Int64.ofInt y = Int64.ofInt v) (k : aj_wp E al ao X M d bc bs q lv ((2, v) :: st) sh g Q) : aj_wp E al ao X M d bc bs pc lv ((2, y) :: (2, x) :: st) sh g Q := by
  subst hq
  exact aj_lift (fun p l e R s m args below meth c H locs cells slots Z ls a hx hb hls k => lv_lor (x := Int64.ofInt x) (y := Int64.ofInt y) hx hb hd (by rw [hv]; exact k)) k
theorem aj_lshl {x y v : Int} (q : Nat) (hd : decode M.2.1 pc = .ok (.lshl, 1)) (hq : pc + 1 = q) (hv : Int64.ofInt x <<< ((Int32.ofInt y).toInt64 &&& 63) = Int64.ofInt v) (k : aj_wp E al ao X M d bc bs q lv ((2, v) :: st) sh g Q) : aj_wp E al ao X M d bc bs pc lv ((0, y) :: (2, x) :: st) sh g Q := by
  subst hq
  exact aj_lift (fun p l e R s m args below meth c H locs cells slots Z ls a hx hb hls k => lv_lshl (x := Int64.ofInt x) (y := Int32.ofInt y) hx hb hd hv k) k
theorem aj_lshr {x y v : Int} (q : Nat) (hd : decode M.2.1 pc = .ok (.lshr, 1)) (hq : pc + 1 = q) (hv : Int64.ofInt x >>> ((Int32.ofInt y).toInt64 &&& 63) = Int64.ofInt v) (k : aj_wp E al ao X M d bc bs q lv ((2, v) :: st) sh g Q) : aj_wp E al ao X M d bc bs pc lv ((0, y) :: (2, x) :: st) sh g Q := by
  subst hq
  exact aj_lift (fun p l e R s m args below meth c H locs cells slots Z ls a hx hb hls k => lv_lshr (x := Int64.ofInt x) (y := Int32.ofInt y) hx hb hd hv k) k
theorem aj_i2l {x : Int} (q : Nat) (hd : decode M.2.1 pc = .ok (.i2l, 1)) (hq : pc + 1 = q) (hx : aj_I x) (k : aj_wp E al ao X M d bc bs q lv ((2, x) :: st) sh g Q) : aj_wp E al ao X M d bc bs pc lv ((0, x) :: st) sh g Q := by
  subst hq
  exact aj_lift (fun p l e R s m args below meth c H locs cells slots Z ls a hx0 hb hls k => lv_i2l (x := Int32.ofInt x) (v := Int64.ofInt x) hx0 hb hd (Int64.toInt_inj.mp (by rw [Int32.toInt_toInt64, aj_ti hx, aj_tl ⟨by have := hx.1; omega, by have := hx.2; omega⟩])) k) k
theorem aj_l2i {x : Int} (q : Nat) (hd : decode M.2.1 pc = .ok (.l2i, 1)) (hq : pc + 1 = q) (k : aj_wp E al ao X M d bc bs q lv ((0, x) :: st) sh g Q) : aj_wp E al ao X M d bc bs pc lv ((2, x) :: st) sh g Q := by
  subst hq
  exact aj_lift (fun p l e R s m args below meth c H locs cells slots Z ls a hx hb hls k => lv_l2i (x := Int64.ofInt x) (v := Int32.ofInt x) hx hb hd Int64.toInt32_ofInt k) k
def aj_sg (x y : Int) : Int := if y < x then 1 else if x = y then 0 else -1
theorem aj_lcmp {x y : Int} (q : Nat) (hd : decode M.2.1 pc = .ok (.lcmp, 1)) (hq : pc + 1 = q) (h1 : aj_L x) (h2 : aj_L y) (k : aj_wp E al ao X M d bc bs q lv ((0, aj_sg x y) :: st) sh g Q) : aj_wp E al ao X M d bc bs pc lv ((2, y) :: (2, x) :: st) sh g Q := by
  subst hq
  refine aj_lift (fun p l e R s m args below meth c H locs cells slots Z ls a hx hb hls k => W.lcmp (x := Int64.ofInt x) (y := Int64.ofInt y) hx hb hd ?_) k
  have hlt : Int64.ofInt y < Int64.ofInt x ↔ y < x := by rw [Int64.lt_iff_toInt_lt, aj_tl h1, aj_tl h2]
  have heq : Int64.ofInt x = Int64.ofInt y ↔ x = y := by rw [← Int64.toInt_inj, aj_tl h1, aj_tl h2]
  have e : lg_cmp (Int64.ofInt x) (Int64.ofInt y) = Int32.ofInt (aj_sg x y) := by
    unfold lg_cmp aj_sg
    by_cases c1 : y < x
    · simp [hlt, c1]
      try rfl
    · by_cases c2 : x = y
      · subst c2
        simp
        try rfl
      · simp [hlt, heq, c1, c2]
        try rfl
  rw [e]
  exact k
theorem aj_dup {v : aj_A} (q : Nat) (hd : decode M.2.1 pc = .ok (.dup, 1)) (hq : pc + 1 = q) (hv : Nat.blt v.1 2 = true) (k : aj_wp E al ao X M d bc bs q lv (v :: v :: st) sh g Q) : aj_wp E al ao X M d bc bs pc lv (v :: st) sh g Q := by
  subst hq
  exact aj_lift (fun p l e R s m args below meth c H locs cells slots Z ls a hx hb hls k => lv_dup hx hb hd (aj_cat (Nat.blt_eq ▸ hv)) k) k
theorem aj_pop {v : aj_A} (q : Nat) (hd : decode M.2.1 pc = .ok (.pop, 1)) (hq : pc + 1 = q) (hv : Nat.blt v.1 2 = true) (k : aj_wp E al ao X M d bc bs q lv st sh g Q) : aj_wp E al ao X M d bc bs pc lv (v :: st) sh g Q := by
  subst hq
  exact aj_lift (fun p l e R s m args below meth c H locs cells slots Z ls a hx hb hls k => lv_pop hx hb hd (aj_cat (Nat.blt_eq ▸ hv)) k) k
theorem aj_dup_x1 {v w : aj_A} (q : Nat) (hd : decode M.2.1 pc = .ok (.dup_x1, 1)) (hq : pc + 1 = q) (hv : Nat.blt v.1 2 = true) (hw : Nat.blt w.1 2 = true) (k : aj_wp E al ao X M d bc bs q lv (v :: w :: v :: st) sh g Q) : aj_wp E al ao X M d bc bs pc lv (v :: w :: st) sh g Q := by
  subst hq
  exact aj_lift (fun p l e R s m args below meth c H locs cells slots Z ls a hx hb hls k => lv_dup_x1 hx hb hd (aj_cat (Nat.blt_eq ▸ hv)) (aj_cat (Nat.blt_eq ▸ hw)) k) k
theorem aj_dup2 {v w : aj_A} (q : Nat) (hd : decode M.2.1 pc = .ok (.dup2, 1)) (hq : pc + 1 = q) (hv : Nat.blt v.1 2 = true) (hw : Nat.blt w.1 2 = true) (k : aj_wp E al ao X M d bc bs q lv (v :: w :: v :: w :: st) sh g Q) : aj_wp E al ao X M d bc bs pc lv (v :: w :: st) sh g Q := by
  subst hq
  exact aj_lift (fun p l e R s m args below meth c H locs cells slots Z ls a hx hb hls k => lv_dup2_11 hx hb hd (aj_cat (Nat.blt_eq ▸ hv)) (aj_cat (Nat.blt_eq ▸ hw)) k) k
/-! branches -/
theorem aj_goto {off : Int} (t : Nat) (hd : decode M.2.1 pc = .ok (.goto off, 3)) (ht : (pc : Int) + off = (t : Int)) (k : aj_wp E al ao X M d bc bs t lv st sh g Q) : aj_wp E al ao X M d bc bs pc lv st sh g Q :=
  aj_lift (fun p l e R s m args below meth c H locs cells slots Z ls a hx hb hls k => lv_goto hx hb hd ht k) k
theorem aj_lift2 {pc1 pc2 : Nat} {st' : List aj_A} {P : Prop} (h : ∀ (p : Program) (l : Launch) (e : Env) (R : Room) (s : State) (m : MethodId) (args : Array Value) (below : List Frame) (meth : Method) (c : Code) (H : Heap) (locs : List Loc) (cells slots : Nat) (Z : State → Prop) (ls : Array Slot) (a : Nat → Nat),
      p.tables.exec = Jvm.exec → c.code = M.2.1 → (P → W p l e R s m args below meth c H locs cells slots Z (F0 m pc1 ls (st'.map (aj_c a)))) → (¬ P → W p l e R s m args below meth c H locs cells slots Z (F0 m pc2 ls (st'.map (aj_c a)))) → W p l e R s m args below meth c H locs cells slots Z (F0 m pc ls (st.map (aj_c a))))
    (kt : P → aj_wp E al ao X M d bc bs pc1 lv st' sh g Q) (kf : ¬ P → aj_wp E al ao X M d bc bs pc2 lv st' sh g Q) : aj_wp E al ao X M d bc bs pc lv st sh g Q := by
  intro p l e R s m args below meth c H locs cells slots ls a tc D A hc
  exact h p l e R s m args below meth c H locs cells slots _ ls a hc.1.1 hc.1.2.1 (fun hp => kt hp p l e R s m args below meth c H locs cells slots ls a tc D A hc) (fun hp => kf hp p l e R s m args below meth c H locs cells slots ls a tc D A hc)
theorem aj_if_eq {x off : Int} (t q : Nat) (hd : decode M.2.1 pc = .ok (.ifCond .eq off, 3)) (ht : (pc : Int) + off = (t : Int)) (hq : pc + 3 = q) (hx : aj_I x) (kt : x = 0 → aj_wp E al ao X M d bc bs t lv st sh g Q) (kf : ¬ x = 0 → aj_wp E al ao X M d bc bs q lv st sh g Q) : aj_wp E al ao X M d bc bs pc lv ((0, x) :: st) sh g Q := by
  subst hq
  have e : Int32.ofInt x = 0 ↔ x = 0 := by rw [aj_0]; exact aj_eq hx aj_I0
  exact aj_lift2 (fun p l e0 R s m args below meth c H locs cells slots Z ls a hx hb kt kf => lv_if_eq (x := Int32.ofInt x) hx hb hd ht (fun h => kt (e.mp h)) (fun h => kf (fun z => h (e.mpr z)))) kt kf
theorem aj_if_ne {x off : Int} (t q : Nat) (hd : decode M.2.1 pc = .ok (.ifCond .ne off, 3)) (ht : (pc : Int) + off = (t : Int)) (hq : pc + 3 = q) (hx : aj_I x) (kt : ¬ x = 0 → aj_wp E al ao X M d bc bs t lv st sh g Q) (kf : x = 0 → aj_wp E al ao X M d bc bs q lv st sh g Q) : aj_wp E al ao X M d bc bs pc lv ((0, x) :: st) sh g Q := by
  subst hq
  have e : Int32.ofInt x = 0 ↔ x = 0 := by rw [aj_0]; exact aj_eq hx aj_I0
  refine aj_lift2 (P := ¬ x = 0) (fun p l e0 R s m args below meth c H locs cells slots Z ls a hx hb kt kf => lv_if_ne (x := Int32.ofInt x) hx hb hd ht (fun h => kt (fun z => h (e.mpr z))) (fun h => kf (fun z => z (e.mp h)))) kt (fun h => kf (Classical.byContradiction h))
theorem aj_if_lt {x off : Int} (t q : Nat) (hd : decode M.2.1 pc = .ok (.ifCond .lt off, 3)) (ht : (pc : Int) + off = (t : Int)) (hq : pc + 3 = q) (hx : aj_I x) (kt : x < 0 → aj_wp E al ao X M d bc bs t lv st sh g Q) (kf : 0 ≤ x → aj_wp E al ao X M d bc bs q lv st sh g Q) : aj_wp E al ao X M d bc bs pc lv ((0, x) :: st) sh g Q := by
  subst hq
  have e : Int32.ofInt x < 0 ↔ x < 0 := by rw [aj_0]; exact aj_lt hx aj_I0
  exact aj_lift2 (fun p l e0 R s m args below meth c H locs cells slots Z ls a hx hb kt kf => lv_if_lt (x := Int32.ofInt x) hx hb hd ht (fun h => kt (e.mp h)) (fun h => kf (fun z => h (e.mpr z)))) kt (fun h => kf (by omega))
theorem aj_if_ge {x off : Int} (t q : Nat) (hd : decode M.2.1 pc = .ok (.ifCond .ge off, 3)) (ht : (pc : Int) + off = (t : Int)) (hq : pc + 3 = q) (hx : aj_I x) (kt : 0 ≤ x → aj_wp E al ao X M d bc bs t lv st sh g Q) (kf : x < 0 → aj_wp E al ao X M d bc bs q lv st sh g Q) : aj_wp E al ao X M d bc bs pc lv ((0, x) :: st) sh g Q := by
  subst hq
  have e : 0 ≤ Int32.ofInt x ↔ 0 ≤ x := by rw [aj_0]; exact aj_le aj_I0 hx
  exact aj_lift2 (fun p l e0 R s m args below meth c H locs cells slots Z ls a hx hb kt kf => lv_if_ge (x := Int32.ofInt x) hx hb hd ht (fun h => kt (e.mp h)) (fun h => kf (fun z => h (e.mpr z)))) kt (fun h => kf (by omega))
theorem aj_if_gt {x off : Int} (t q : Nat) (hd : decode M.2.1 pc = .ok (.ifCond .gt off, 3)) (ht : (pc : Int) + off = (t : Int)) (hq : pc + 3 = q) (hx : aj_I x) (kt : 0 < x → aj_wp E al ao X M d bc bs t lv st sh g Q) (kf : x ≤ 0 → aj_wp E al ao X M d bc bs q lv st sh g Q) : aj_wp E al ao X M d bc bs pc lv ((0, x) :: st) sh g Q := by
  subst hq
  have e : 0 < Int32.ofInt x ↔ 0 < x := by rw [aj_0]; exact aj_lt aj_I0 hx
  exact aj_lift2 (fun p l e0 R s m args below meth c H locs cells slots Z ls a hx hb kt kf => lv_if_gt (x := Int32.ofInt x) hx hb hd ht (fun h => kt (e.mp h)) (fun h => kf (fun z => h (e.mpr z)))) kt (fun h => kf (by omega))
theorem aj_if_le {x off : Int} (t q : Nat) (hd : decode M.2.1 pc = .ok (.ifCond .le off, 3)) (ht : (pc : Int) + off = (t : Int)) (hq : pc + 3 = q) (hx : aj_I x) (kt : x ≤ 0 → aj_wp E al ao X M d bc bs t lv st sh g Q) (kf : 0 < x → aj_wp E al ao X M d bc bs q lv st sh g Q) : aj_wp E al ao X M d bc bs pc lv ((0, x) :: st) sh g Q := by
  subst hq
  have e : Int32.ofInt x ≤ 0 ↔ x ≤ 0 := by rw [aj_0]; exact aj_le hx aj_I0
  exact aj_lift2 (fun p l e0 R s m args below meth c H locs cells slots Z ls a hx hb kt kf => lv_if_le (x := Int32.ofInt x) hx hb hd ht (fun h => kt (e.mp h)) (fun h => kf (fun z => h (e.mpr z)))) kt (fun h => kf (by omega))
theorem aj_icmp_eq {x y off : Int} (t q : Nat) (hd : decode M.2.1 pc = .ok (.if_icmp .eq off, 3)) (ht : (pc : Int) + off = (t : Int)) (hq : pc + 3 = q) (hx : aj_I x) (hy : aj_I y) (kt : x = y → aj_wp E al ao X M d bc bs t lv st sh g Q) (kf : ¬ x = y → aj_wp E al ao X M d bc bs q lv st sh g Q) : aj_wp E al ao X M d bc bs pc lv ((0, y) :: (0, x) :: st) sh g Q := by
  subst hq
  have e := aj_eq hx hy
  exact aj_lift2 (fun p l e0 R s m args below meth c H locs cells slots Z ls a hx hb kt kf => lv_icmp_eq (x := Int32.ofInt x) (y := Int32.ofInt y) hx hb hd ht (fun h => kt (e.mp h)) (fun h => kf (fun z => h (e.mpr z)))) kt kf
theorem aj_icmp_ne {x y off : Int} (t q : Nat) (hd : decode M.2.1 pc = .ok (.if_icmp .ne off, 3)) (ht : (pc : Int) + off = (t : Int)) (hq : pc + 3 = q) (hx : aj_I x) (hy : aj_I y) (kt : ¬ x = y → aj_wp E al ao X M d bc bs t lv st sh g Q) (kf : x = y → aj_wp E al ao X M d bc bs q lv st sh g Q) : aj_wp E al ao X M d bc bs pc lv ((0, y) :: (0, x) :: st) sh g Q := by
  subst hq
  have e := aj_eq hx hy
  exact aj_lift2 (P := ¬ x = y) (fun p l e0 R s m args below meth c H locs cells slots Z ls a hx hb kt kf => lv_icmp_ne (x := Int32.ofInt x) (y := Int32.ofInt y) hx hb hd ht (fun h => kt (fun z => h (e.mpr z))) (fun h => kf (fun z => z (e.mp h)))) kt (fun h => kf (Classical.byContradiction h))
theorem aj_icmp_lt {x y off : Int} (t q : Nat) (hd : decode M.2.1 pc = .ok (.if_icmp .lt off, 3)) (ht : (pc : Int) + off = (t : Int)) (hq : pc + 3 = q) (hx : aj_I x) (hy : aj_I y) (kt : x < y → aj_wp E al ao X M d bc bs t lv st sh g Q) (kf : y ≤ x → aj_wp E al ao X M d bc bs q lv st sh g Q) : aj_wp E al ao X M d bc bs pc lv ((0, y) :: (0, x) :: st) sh g Q := by
  subst hq
  have e := aj_lt hx hy
  exact aj_lift2 (fun p l e0 R s m args below meth c H locs cells slots Z ls a hx hb kt kf => lv_icmp_lt (x := Int32.ofInt x) (y := Int32.ofInt y) hx hb hd ht (fun h => kt (e.mp h)) (fun h => kf (fun z => h (e.mpr z)))) kt (fun h => kf (by omega))
theorem aj_icmp_ge {x y off : Int} (t q : Nat) (hd : decode M.2.1 pc = .ok (.if_icmp .ge off, 3)) (ht : (pc : Int) + off = (t : Int)) (hq : pc + 3 = q) (hx : aj_I x) (hy : aj_I y) (kt : y ≤ x → aj_wp E al ao X M d bc bs t lv st sh g Q) (kf : x < y → aj_wp E al ao X M d bc bs q lv st sh g Q) : aj_wp E al ao X M d bc bs pc lv ((0, y) :: (0, x) :: st) sh g Q := by
  subst hq
  have e := aj_le hy hx
  exact aj_lift2 (fun p l e0 R s m args below meth c H locs cells slots Z ls a hx hb kt kf => lv_icmp_ge (x := Int32.ofInt x) (y := Int32.ofInt y) hx hb hd ht (fun h => kt (e.mp h)) (fun h => kf (fun z => h (e.mpr z)))) kt (fun h => kf (by omega))
theorem aj_icmp_gt {x y off : Int} (t q : Nat) (hd : decode M.2.1 pc = .ok (.if_icmp .gt off, 3)) (ht : (pc : Int) + off = (t : Int)) (hq : pc + 3 = q) (hx : aj_I x) (hy : aj_I y) (kt : y < x → aj_wp E al ao X M d bc bs t lv st sh g Q) (kf : x ≤ y → aj_wp E al ao X M d bc bs q lv st sh g Q) : aj_wp E al ao X M d bc bs pc lv ((0, y) :: (0, x) :: st) sh g Q := by
  subst hq
  have e := aj_lt hy hx
  exact aj_lift2 (fun p l e0 R s m args below meth c H locs cells slots Z ls a hx hb kt kf => lv_icmp_gt (x := Int32.ofInt x) (y := Int32.ofInt y) hx hb hd ht (fun h => kt (e.mp h)) (fun h => kf (fun z => h (e.mpr z)))) kt (fun h => kf (by omega))
theorem aj_icmp_le {x y off : Int} (t q : Nat) (hd : decode M.2.1 pc = .ok (.if_icmp .le off, 3)) (ht : (pc : Int) + off = (t : Int)) (hq : pc + 3 = q) (hx : aj_I x) (hy : aj_I y) (kt : x ≤ y → aj_wp E al ao X M d bc bs t lv st sh g Q) (kf : y < x → aj_wp E al ao X M d bc bs q lv st sh g Q) : aj_wp E al ao X M d bc bs pc lv ((0, y) :: (0, x) :: st) sh g Q := by
  subst hq
  have e := aj_le hx hy
  exact aj_lift2 (fun p l e0 R s m args below meth c H locs cells slots Z ls a hx hb kt kf => lv_icmp_le (x := Int32.ofInt x) (y := Int32.ofInt y) hx hb hd ht (fun h => kt (e.mp h)) (fun h => kf (fun z => h (e.mpr z)))) kt (fun h => kf (by omega))
theorem aj_tableIn {dflt lo hi off x : Int} {offs : Array Int} {len : Nat} (t : Nat) (hd : decode M.2.1 pc = .ok (.tableswitch dflt lo hi offs, len)) (hx : aj_I x) (h1 : lo ≤ x) (h2 : x ≤ hi) (ho : offs[(x - lo).toNat]? = some off) (ht : (pc : Int) + off = (t : Int)) (k : aj_wp E al ao X M d bc bs t lv st sh g Q) : aj_wp E al ao X M d bc bs pc lv ((0, x) :: st) sh g Q :=
  aj_lift (fun p l e R s m args below meth c H locs cells slots Z ls a hx0 hb hls k => lv_tableIn (x := Int32.ofInt x) hx0 hb hd (by rw [aj_ti hx]; omega) (by rw [aj_ti hx]; omega) (by rw [aj_ti hx]; exact ho) ht k) k
theorem aj_tableOut {dflt lo hi x : Int} {offs : Array Int} {len : Nat} (t : Nat) (hd : decode M.2.1 pc = .ok (.tableswitch dflt lo hi offs, len)) (hx : aj_I x) (h : x < lo ∨ hi < x) (ht : (pc : Int) + dflt = (t : Int)) (k : aj_wp E al ao X M d bc bs t lv st sh g Q) : aj_wp E al ao X M d bc bs pc lv ((0, x) :: st) sh g Q :=
  aj_lift (fun p l e R s m args below meth c H locs cells slots Z ls a hx0 hb hls k => lv_tableOut (x := Int32.ofInt x) hx0 hb hd (by rw [aj_ti hx]; exact h) ht k) k
end AJR
