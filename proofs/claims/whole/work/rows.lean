section
/-! A judgement over places: the machine's words are read as whole numbers, a reference as a place's number, the heap as a table of rows of numbers (see PLAN.md). -/
abbrev aj_M : Type := MethodName × ByteArray × Nat × Option FieldType
abbrev aj_S : Type := (Nat × Nat) ⊕ Nat
abbrev aj_A : Type := Nat × Int
abbrev aj_G : Type := Int → Int → Int
abbrev aj_E : Type := List vw_C × List FieldType × (Nat → Nat → Nat) × List Cond × List (String × Nat × MethodName × String)
abbrev aj_R : Type := Option aj_A ⊕ Nat
def aj_rf (a : Nat → Nat) (x : Int) : Option Nat := if x < 0 then none else some (a x.toNat)
def aj_c (a : Nat → Nat) (v : aj_A) : Value := match v.1 with
  | 0 => .int (Int32.ofInt v.2)
  | 1 => va_rf (aj_rf a v.2)
  | _ => .long (Int64.ofInt v.2)
theorem aj_c0 (a : Nat → Nat) (x : Int) : aj_c a (0, x) = .int (Int32.ofInt x) := rfl
theorem aj_c1 (a : Nat → Nat) (x : Int) : aj_c a (1, x) = va_rf (aj_rf a x) := rfl
theorem aj_c2 (a : Nat → Nat) (x : Int) : aj_c a (2, x) = .long (Int64.ofInt x) := rfl
theorem aj_rfp {a : Nat → Nat} {r : Int} (h : 0 ≤ r) : aj_rf a r = some (a r.toNat) := by
  unfold aj_rf
  rw [if_neg (by omega)]
theorem aj_rfn {a : Nat → Nat} {r : Int} (h : r < 0) : aj_rf a r = none := by
  unfold aj_rf
  rw [if_pos h]
theorem aj_cr {a : Nat → Nat} {r : Int} (h : 0 ≤ r) : aj_c a (1, r) = .ref (a r.toNat) := by
  rw [aj_c1, aj_rfp h]; rfl
theorem aj_cat {a : Nat → Nat} {v : aj_A} (h : v.1 < 2) : (aj_c a v).category = 1 := by
  obtain ⟨t, x⟩ := v
  match t, h with
  | 0, _ => rfl
  | 1, _ =>
    rw [aj_c1]
    by_cases hx : x < 0
    · rw [aj_rfn hx]; rfl
    · rw [aj_rfp (by omega)]; rfl
theorem aj_cat2 {a : Nat → Nat} {v : aj_A} (h : ¬ v.1 < 2) : (aj_c a v).category = 2 := by
  obtain ⟨t, x⟩ := v
  match t, h with
  | 0, h => exact absurd (show (0 : Nat) < 2 by decide) h
  | 1, h => exact absurd (show (1 : Nat) < 2 by decide) h
  | t + 2, _ => rfl
/-! numbers -/
def aj_I (x : Int) : Prop := -2147483648 ≤ x ∧ x < 2147483648
def aj_L (x : Int) : Prop := -9223372036854775808 ≤ x ∧ x < 9223372036854775808
theorem aj_ti {x : Int} (h : aj_I x) : (Int32.ofInt x).toInt = x := Int32.toInt_ofInt_of_le h.1 h.2
theorem aj_tl {x : Int} (h : aj_L x) : (Int64.ofInt x).toInt = x := Int64.toInt_ofInt_of_le h.1 h.2
theorem aj_eq {x y : Int} (hx : aj_I x) (hy : aj_I y) : Int32.ofInt x = Int32.ofInt y ↔ x = y := by
  constructor
  · intro h
    have h2 := congrArg Int32.toInt h
    rwa [aj_ti hx, aj_ti hy] at h2
  · intro h
    rw [h]
theorem aj_lt {x y : Int} (hx : aj_I x) (hy : aj_I y) : Int32.ofInt x < Int32.ofInt y ↔ x < y := by
  rw [Int32.lt_iff_toInt_lt, aj_ti hx, aj_ti hy]
theorem aj_le {x y : Int} (hx : aj_I x) (hy : aj_I y) : Int32.ofInt x ≤ Int32.ofInt y ↔ x ≤ y := by
  rw [Int32.le_iff_toInt_le, aj_ti hx, aj_ti hy]
theorem aj_0 : (0 : Int32) = Int32.ofInt 0 := by decide +kernel
theorem aj_I0 : aj_I 0 := by unfold aj_I; omega
theorem aj_clamp {i : Int} {n : Nat} (h0 : 0 ≤ i) (hi : i < n) (hn : n < 2147483648) : (Int32.ofInt i).toNatClampNeg = i.toNat := by
  have h1 : aj_I i := ⟨by omega, by omega⟩
  show (Int32.ofInt i).toInt.toNat = i.toNat
  rw [aj_ti h1]
theorem aj_in {i : Int} {n : Nat} (h0 : 0 ≤ i) (hi : i < n) (hn : n < 2147483648) : vp_in (Int32.ofInt i) n := by
  have h1 : aj_I i := ⟨by omega, by omega⟩
  rw [vp_in_iff, aj_ti h1]
  exact ⟨h0, hi⟩
/-! the picture -/
def aj_nf (E : aj_E) (ci : Nat) : Nat := match E.1[ci]? with
  | some q => q.2.2
  | none => 0
def aj_row (a : Nat → Nat) (t : Option FieldType) (f : Int → Int) : (Nat → Int32) ⊕ (Nat → Int64) ⊕ (Nat → UInt32) ⊕ (Nat → UInt64) ⊕ (Nat → Option Nat) := match t with
  | some .long => .inr (.inl (fun j => Int64.ofInt (f j)))
  | some (.object _) => .inr (.inr (.inr (.inr (fun j => aj_rf a (f j)))))
  | some (.array _) => .inr (.inr (.inr (.inr (fun j => aj_rf a (f j)))))
  | _ => .inl (fun j => Int32.ofInt (f j))
def aj_cell (E : aj_E) (tc a : Nat → Nat) (x : aj_S) (f : Int → Int) : va_E := match x with
  | .inl y => .inl (tc y.1, y.2, aj_row a E.2.1[y.1]? f)
  | .inr ci => .inr (ci, (List.range (aj_nf E ci)).map (fun j => aj_c a (E.2.2.1 ci j, f (j : Nat))))
def aj_w (E : aj_E) (tc a : Nat → Nat) (sh : List aj_S) (g : aj_G) : va_W := sh.mapIdx (fun k x => (a k, aj_cell E tc a x (g (k : Nat))))
def aj_ty (tc : Nat → Nat) (ty : List FieldType) : List (ClassId × FieldType) := ty.mapIdx (fun k t => (tc k, t))
def aj_sh (sh : List aj_S) (r : Int) : Option aj_S := if r < 0 then none else sh[r.toNat]?
def aj_up (g : aj_G) (r i x : Int) : aj_G := fun r' => if r' = r then (fun i' => if i' = i then x else g r i') else g r'
theorem aj_up_self (g : aj_G) (r i x : Int) : aj_up g r i x r i = x := by simp [aj_up]
theorem aj_up_ne (g : aj_G) {r r' : Int} (i x : Int) (h : r' ≠ r) : aj_up g r i x r' = g r' := by simp [aj_up, h]
theorem aj_up_ni (g : aj_G) (r : Int) {i i' : Int} (x : Int) (h : i' ≠ i) : aj_up g r i x r i' = g r i' := by simp [aj_up, h]
theorem aj_up_at (g : aj_G) (r i x r' i' : Int) : aj_up g r i x r' i' = if r' = r ∧ i' = i then x else g r' i' := by
  unfold aj_up
  by_cases h : r' = r
  · subst h
    by_cases h2 : i' = i <;> simp [h2]
  · simp [h]
theorem aj_sh_get {sh : List aj_S} {r : Int} {x : aj_S} (h : aj_sh sh r = some x) : 0 ≤ r ∧ sh[r.toNat]? = some x := by
  unfold aj_sh at h
  by_cases hr : r < 0
  · rw [if_pos hr] at h; cases h
  · rw [if_neg hr] at h
    exact ⟨by omega, h⟩
theorem aj_w_at (E : aj_E) (tc a : Nat → Nat) (sh : List aj_S) (g : aj_G) (k : Nat) : (aj_w E tc a sh g)[k]? = (sh[k]?).map (fun x => (a k, aj_cell E tc a x (g (k : Nat)))) := by
  unfold aj_w
  rw [List.getElem?_mapIdx]
theorem aj_w_get {E : aj_E} {tc a : Nat → Nat} {sh : List aj_S} {g : aj_G} {r : Int} {x : aj_S} (h : aj_sh sh r = some x) : (aj_w E tc a sh g)[r.toNat]? = some (a r.toNat, aj_cell E tc a x (g r)) := by
  obtain ⟨h0, h1⟩ := aj_sh_get h
  rw [aj_w_at, h1, Option.map_some, Int.toNat_of_nonneg h0]
theorem aj_w_set {E : aj_E} {tc a : Nat → Nat} {sh : List aj_S} {g g' : aj_G} {r : Int} {x : aj_S} {c : va_E} (h : aj_sh sh r = some x) (hc : aj_cell E tc a x (g' r) = c) (ho : ∀ r', r' ≠ r → g' r' = g r') : (aj_w E tc a sh g).set r.toNat (a r.toNat, c) = aj_w E tc a sh g' := by
  obtain ⟨h0, h1⟩ := aj_sh_get h
  have hr : ((r.toNat : Nat) : Int) = r := Int.toNat_of_nonneg h0
  have hl : r.toNat < (aj_w E tc a sh g).length := by
    have := (List.getElem?_eq_some_iff.mp h1).1
    unfold aj_w
    rw [List.length_mapIdx]
    exact this
  apply List.ext_getElem?
  intro j
  by_cases hj : r.toNat = j
  · subst hj
    rw [List.getElem?_set_self hl, aj_w_at, h1, Option.map_some, hr, hc]
  · rw [List.getElem?_set_ne hj, aj_w_at, aj_w_at, ho (j : Nat) (fun e => hj (by omega))]
theorem aj_w_push {E : aj_E} {tc a : Nat → Nat} {sh : List aj_S} {g g' : aj_G} {x : aj_S} {c : va_E} (hc : aj_cell E tc a x (g' (sh.length : Nat)) = c) (ho : ∀ k : Nat, k < sh.length → g' (k : Nat) = g (k : Nat)) : aj_w E tc a sh g ++ [(a sh.length, c)] = aj_w E tc a (sh ++ [x]) g' := by
  apply List.ext_getElem?
  intro j
  have hl : (aj_w E tc a sh g).length = sh.length := by unfold aj_w; rw [List.length_mapIdx]
  by_cases hj : j < sh.length
  · rw [List.getElem?_append_left (by rw [hl]; exact hj), aj_w_at, aj_w_at, List.getElem?_append_left hj, ho j hj]
  · rw [List.getElem?_append_right (by rw [hl]; omega), aj_w_at, List.getElem?_append_right (by omega), hl]
    by_cases h2 : j = sh.length
    · subst h2
      simp [hc]
    · have h3 : ∃ k, j - sh.length = k + 1 := ⟨j - sh.length - 1, by omega⟩
      obtain ⟨k, hk⟩ := h3
      rw [hk]
      simp
theorem aj_ty_at {tc : Nat → Nat} {ty : List FieldType} {k : Nat} {t : FieldType} (hk : ty[k]? = some t) : (aj_ty tc ty)[k]? = some (tc k, t) := by
  unfold aj_ty
  rw [List.getElem?_mapIdx, hk]; rfl
theorem aj_nf_of {E : aj_E} {ci : Nat} {C : String} {T : u_T} {N : Nat} (h : E.1[ci]? = some (C, T, N)) : aj_nf E ci = N := by
  unfold aj_nf
  rw [h]
/-! the locals: by slot number -/
def aj_l (a : Nat → Nat) (lv : List (Option aj_A)) : List (Nat × Value) := (List.range lv.length).filterMap (fun i => (lv[i]?).join.map (fun v => (i, aj_c a v)))
theorem aj_l_mem {a : Nat → Nat} {lv : List (Option aj_A)} {i : Nat} {w : Value} : (i, w) ∈ aj_l a lv ↔ ∃ v, lv[i]? = some (some v) ∧ w = aj_c a v := by
  unfold aj_l
  rw [List.mem_filterMap]
  constructor
  · rintro ⟨j, -, hj⟩
    cases hv : (lv[j]?).join with
    | none => rw [hv] at hj; cases hj
    | some v =>
      rw [hv] at hj
      cases hj
      exact ⟨v, Option.join_eq_some_iff.mp hv, rfl⟩
  · rintro ⟨v, h1, rfl⟩
    have hlt : i < lv.length := (List.getElem?_eq_some_iff.mp h1).1
    exact ⟨i, List.mem_range.mpr hlt, by rw [h1]; rfl⟩
theorem aj_lget {ls : Array Slot} {n : Nat} {a : Nat → Nat} {lv : List (Option aj_A)} {i : Nat} {v : aj_A} (h : lv_has ls n (aj_l a lv)) (hv : lv[i]? = some (some v)) : ls[i]? = some (.val (aj_c a v)) := h.2.2 (i, aj_c a v) (aj_l_mem.mpr ⟨v, hv, rfl⟩)
def aj_nl (lv : List (Option aj_A)) (i : Nat) : Bool := match i with
  | 0 => true
  | j + 1 => match lv[j]? with
    | some (some v) => Nat.blt v.1 2
    | _ => true
def aj_ok (lv : List (Option aj_A)) (i : Nat) : Bool := Nat.blt i lv.length && aj_nl lv i
theorem aj_nl_spec {a : Nat → Nat} {lv : List (Option aj_A)} {j : Nat} {v : aj_A} (h : aj_nl lv (j + 1) = true) (hv : lv[j]? = some (some v)) : ¬ (aj_c a v).category = 2 := by
  unfold aj_nl at h
  simp only [hv] at h
  have h2 : v.1 < 2 := Nat.blt_eq ▸ h
  rw [aj_cat h2]
  decide
theorem aj_st1 {a : Nat → Nat} {ls : Array Slot} {n i : Nat} {lv : List (Option aj_A)} {v : aj_A} {w : Value} (hw : aj_c a v = w) (ho : aj_ok lv i = true) (h : lv_has ls n ((i, w) :: (aj_l a lv).filter (fun q => !(q.1 == i) && !(q.1 + 1 == i && q.2.category == 2)))) : lv_has ls n (aj_l a (lv.set i (some v))) := by
  refine ⟨h.1, h.2.1, fun q hq => h.2.2 q ?_⟩
  obtain ⟨j, u⟩ := q
  obtain ⟨y, h1, h2⟩ := aj_l_mem.mp hq
  unfold aj_ok at ho
  rw [Bool.and_eq_true] at ho
  have hlt : i < lv.length := Nat.blt_eq ▸ ho.1
  by_cases hj : j = i
  · subst hj
    rw [List.getElem?_set_self hlt] at h1
    cases h1
    rw [h2, hw]
    exact List.mem_cons_self
  · rw [List.getElem?_set_ne (Ne.symm hj)] at h1
    refine List.mem_cons_of_mem _ (List.mem_filter.mpr ⟨aj_l_mem.mpr ⟨y, h1, h2⟩, ?_⟩)
    have hb : ¬ (j + 1 = i ∧ u.category = 2) := by
      rintro ⟨e1, e2⟩
      subst e1
      rw [h2] at e2
      exact aj_nl_spec ho.2 h1 e2
    simp only [Bool.and_eq_true, Bool.not_eq_true', beq_eq_false_iff_ne, ne_eq, Bool.and_eq_false_imp, beq_iff_eq]
    exact ⟨hj, fun e1 e2 => hb ⟨e1, e2⟩⟩
theorem aj_st2 {a : Nat → Nat} {ls : Array Slot} {n i : Nat} {lv : List (Option aj_A)} {v : aj_A} {w : Value} (hw : aj_c a v = w) (ho : aj_ok lv i = true) (h : lv_has ls n ((i, w) :: (aj_l a lv).filter (fun q => !(q.1 == i) && (!(q.1 == i + 1) && !(q.1 + 1 == i && q.2.category == 2))))) : lv_has ls n (aj_l a ((lv.set i (some v)).set (i + 1) none)) := by
  refine ⟨h.1, h.2.1, fun q hq => h.2.2 q ?_⟩
  obtain ⟨j, u⟩ := q
  obtain ⟨y, h1, h2⟩ := aj_l_mem.mp hq
  unfold aj_ok at ho
  rw [Bool.and_eq_true] at ho
  have hlt : i < lv.length := Nat.blt_eq ▸ ho.1
  have hj1 : ¬ j = i + 1 := by
    intro e
    subst e
    have h3 := h1
    have h4 : i + 1 < ((lv.set i (some v)).set (i + 1) none).length := (List.getElem?_eq_some_iff.mp h1).1
    rw [List.length_set] at h4
    rw [List.getElem?_set_self h4] at h3
    cases h3
  rw [List.getElem?_set_ne (fun e => hj1 e.symm)] at h1
  by_cases hj : j = i
  · subst hj
    rw [List.getElem?_set_self hlt] at h1
    cases h1
    rw [h2, hw]
    exact List.mem_cons_self
  · rw [List.getElem?_set_ne (Ne.symm hj)] at h1
    refine List.mem_cons_of_mem _ (List.mem_filter.mpr ⟨aj_l_mem.mpr ⟨y, h1, h2⟩, ?_⟩)
    have hb : ¬ (j + 1 = i ∧ u.category = 2) := by
      rintro ⟨e1, e2⟩
      subst e1
      rw [h2] at e2
      exact aj_nl_spec ho.2 h1 e2
    simp only [Bool.and_eq_true, Bool.not_eq_true', beq_eq_false_iff_ne, ne_eq, Bool.and_eq_false_imp, beq_iff_eq]
    exact ⟨hj, hj1, fun e1 e2 => hb ⟨e1, e2⟩⟩
/-- a slot is forgotten -/
theorem aj_forget1 {a : Nat → Nat} {ls : Array Slot} {n i : Nat} {lv : List (Option aj_A)} (h : lv_has ls n (aj_l a lv)) : lv_has ls n (aj_l a (lv.set i none)) := by
  refine ⟨h.1, h.2.1, fun q hq => h.2.2 q ?_⟩
  obtain ⟨j, u⟩ := q
  obtain ⟨y, h1, h2⟩ := aj_l_mem.mp hq
  by_cases hj : i = j
  · subst hj
    have h4 : i < (lv.set i none).length := (List.getElem?_eq_some_iff.mp h1).1
    rw [List.length_set] at h4
    rw [List.getElem?_set_self h4] at h1
    cases h1
  · rw [List.getElem?_set_ne hj] at h1
    exact aj_l_mem.mpr ⟨y, h1, h2⟩
/-! a method's first locals -/
def aj_ea : List aj_A → List (Option aj_A)
  | [] => []
  | v :: vs => if v.1 < 2 then some v :: aj_ea vs else some v :: none :: aj_ea vs
def aj_en (vs : List aj_A) (n : Nat) : List (Option aj_A) := aj_ea vs ++ List.replicate (n - (aj_ea vs).length) none
theorem aj_ea_args {a : Nat → Nat} : ∀ (vs : List aj_A) (i j : Nat) (v : aj_A), (aj_ea vs)[j]? = some (some v) → (i + j, aj_c a v) ∈ lv_args i (vs.map (aj_c a))
  | [], i, j, v, h => by simp [aj_ea] at h
  | w :: vs, i, j, v, h => by
    rw [List.map_cons]
    unfold lv_args
    unfold aj_ea at h
    by_cases hw : w.1 < 2
    · rw [if_pos hw] at h
      rw [if_neg (by rw [aj_cat hw]; decide)]
      cases j with
      | zero =>
        simp at h
        subst h
        exact List.mem_cons_self
      | succ j =>
        rw [List.getElem?_cons_succ] at h
        have := aj_ea_args (a := a) vs (i + 1) j v h
        rw [show i + (j + 1) = i + 1 + j by omega]
        exact List.mem_cons_of_mem _ this
    · rw [if_neg hw] at h
      rw [if_pos (aj_cat2 hw)]
      cases j with
      | zero =>
        simp at h
        subst h
        exact List.mem_cons_self
      | succ j =>
        rw [List.getElem?_cons_succ] at h
        cases j with
        | zero => simp at h
        | succ j =>
          rw [List.getElem?_cons_succ] at h
          have := aj_ea_args (a := a) vs (i + 2) j v h
          rw [show i + (j + 1 + 1) = i + 2 + j by omega]
          exact List.mem_cons_of_mem _ this
theorem aj_ea_len {a : Nat → Nat} : ∀ (vs : List aj_A), (lg_sl (vs.map (aj_c a))).length = (aj_ea vs).length
  | [] => rfl
  | w :: vs => by
    have ih := aj_ea_len (a := a) vs
    unfold lg_sl at ih ⊢
    unfold aj_ea
    rw [List.map_cons, List.flatMap_cons, List.length_append, ih]
    by_cases hw : w.1 < 2
    · rw [if_pos hw, if_neg (by rw [aj_cat hw]; decide)]
      simp
      omega
    · rw [if_neg hw, if_pos (aj_cat2 hw)]
      simp
      omega
theorem aj_entry {a : Nat → Nat} {vs : List aj_A} {n : Nat} {ls : Array Slot} (h : lv_has ls n (lv_args 0 (vs.map (aj_c a)))) : lv_has ls n (aj_l a (aj_en vs n)) := by
  refine ⟨h.1, h.2.1, fun q hq => h.2.2 q ?_⟩
  obtain ⟨j, u⟩ := q
  obtain ⟨y, h1, h2⟩ := aj_l_mem.mp hq
  unfold aj_en at h1
  by_cases hj : j < (aj_ea vs).length
  · rw [List.getElem?_append_left hj] at h1
    have := aj_ea_args (a := a) vs 0 j y h1
    rw [Nat.zero_add] at this
    rw [h2]
    exact this
  · rw [List.getElem?_append_right (by omega)] at h1
    rw [List.getElem?_replicate] at h1
    split at h1 <;> cases h1
end
section
/-! the judgement -/
def aj_kd (t : FieldType) : Nat := match t with
  | .long => 2
  | .object _ => 1
  | .array _ => 1
  | _ => 0
def aj_smp (t : FieldType) : Bool := match t with
  | .float => false
  | .double => false
  | _ => true
def aj_good (E : aj_E) : Prop :=
  (∀ w ∈ E.2.2.2.1, (w.onTables && w.keeps) = true ∨ ∃ ty, w = .arrayClass ty) ∧
  ∀ (ci : Nat) (q : vw_C), E.1[ci]? = some q → (∀ w ∈ u_ws q.1 q.2.1 q.2.2, w ∈ E.2.2.2.1) ∧ (∀ a, a < q.2.2 → ∀ b, b < q.2.2 → a ≠ b → (q.2.1 a).2.1 ≠ (q.2.1 b).2.1) ∧
    ∃ ty0 : Nat → FieldType, (∀ k, k < q.2.2 → parseFieldDescriptor (q.2.1 k).2.2.1 = some (ty0 k)) ∧ ∀ k, k < q.2.2 → E.2.2.1 ci k = aj_kd (ty0 k) ∧ aj_smp (ty0 k) = true
def aj_ph (al : Prop) (sh : List aj_S) (a : Nat → Nat) (n : Nat) : Prop := (al → ∀ j, sh.length + j < 1000000 → a (sh.length + j) = n + j) ∧ ∀ (k t n : Nat), sh[k]? = some (.inl (t, n)) → n < 2147483648
/-- the tables of handlers: the law's own methods alone have any -/
def aj_tbs : List (MethodName × List (Nat × Nat × Nat × Nat)) := [(⟨"TestBenchLaw", "edge", "(LTestBench;IIII)I"⟩, [(0, 9, 12, 13), (0, 9, 16, 15)]), (⟨"TestBenchLaw", "start", "(LTestBench;I)I"⟩, [(0, 5, 8, 13), (0, 5, 11, 15)]), (⟨"TestBenchLaw", "seal", "(LTestBench;[J)I"⟩, [(0, 8, 11, 15)]), (⟨"TestBenchLaw", "apart", "(LTestBench;II[J)I"⟩, [(0, 10, 13, 13), (0, 10, 17, 15)]), (⟨"TestBenchLaw", "suite", "(LTestBench;II[J)I"⟩, [(0, 10, 13, 13), (0, 10, 17, 15), (0, 10, 21, 32)]), (⟨"TestBenchLaw", "resize", "(LTestBench;I)I"⟩, [(0, 5, 8, 13), (0, 5, 11, 15)]), (⟨"TestBenchLaw", "change", "(LTestBench;IIII)I"⟩, [(0, 9, 12, 15), (0, 9, 16, 13)]), (⟨"TestBenchLaw", "run", "(LTestBench;[J)I"⟩, [(0, 8, 11, 15)]), (⟨"TestBenchLaw", "begin", "(LTestBench;I[J)I"⟩, [(0, 9, 12, 13)]), (⟨"TestBenchLaw", "give", "(LTestBench;I[J)I"⟩, [(0, 9, 12, 15), (0, 9, 15, 13)]), (⟨"TestBenchLaw", "same", "(LTestBench;[J)I"⟩, [(0, 8, 11, 15)])]
def aj_tb (y : MethodName) : List (Nat × Nat × Nat × Nat) := ((aj_tbs.find? (fun q => decide (q.1 = y))).map (·.2)).getD []
def aj_exc : List String := ["java/lang/IllegalArgumentException", "java/lang/IllegalStateException", "java/lang/UnsupportedOperationException"]
def aj_dcl : List MethodName := [⟨"java/lang/RuntimeException", "<init>", "()V"⟩, ⟨"java/lang/Exception", "<init>", "()V"⟩, ⟨"java/lang/Throwable", "<init>", "()V"⟩]
/-- a static field of Throwable: its cell is nobody's here, and whoever has that cell has the field's two words -/
def aj_zs (n d : String) (A : Nat → Prop) (s : State) (H : Heap) : Prop := ∃ (b : Nat) (cell : Cell), H[b]? = some cell ∧ ¬ A b ∧ ∀ (U : State) (w : Array Value), s.vm.Alike U.vm → U.heap[b]? = some cell →
  (Cond.laysStatic Bundle.tN n d).before w U = true ∧ (Cond.isRef (.static Bundle.tN n d)).before w U = true
def aj_aos : List FieldType := [.object "TestBench$Word", .array .int]
/-- what throwing, catching and rows of rows ask beyond the tables' good words -/
def aj_th (A : Nat → Prop) (s : State) : Prop := (∀ x ∈ aj_dcl, va_Nw (.declares x) s) ∧ (∀ x ∈ aj_exc, va_Nw (.castable x x) s) ∧ (∀ x ∈ aj_exc, ∀ y ∈ aj_exc, x ≠ y → va_Nc x y s) ∧
  aj_zs "UNASSIGNED_STACK" Bundle.steD A s s.heap ∧ aj_zs "SUPPRESSED_SENTINEL" Bundle.listD A s s.heap ∧ ∀ ty ∈ aj_aos, va_Nw (.arrayOver ty) s
def aj_xs (E : aj_E) (X : Option (Nat × (Int → Int))) (a : Nat → Nat) (A : Nat → Prop) (s : State) : Prop := (∀ y, X = some y → va_X (a 1000000) y.1 (fun j => Int32.ofInt (y.2 j)) s s.heap ∧ a 1000000 < s.heap.size ∧ ¬ A (a 1000000) ∧ y.1 < 2147483648) ∧ (∀ w ∈ E.2.2.2.2, va_Nw (.methodLinkNest w.1 w.2.1 w.2.2.1 w.2.2.2) s) ∧ aj_th A s
def aj_cx (E : aj_E) (al : Prop) (X : Option (Nat × (Int → Int))) (M : aj_M) (d bc bs : Nat) (lv : List (Option aj_A)) (sh : List aj_S) (g : aj_G)
    (a tc : Nat → Nat) (D : va_G) (A : Nat → Prop) (p : Program) (l : Launch) (R : Room) (s : State) (m : MethodId) (args : Array Value) (meth : Method) (c : Code) (H : Heap) (locs : List Loc) (cells slots : Nat) (ls : Array Slot) : Prop :=
  (p.tables.exec = Jvm.exec ∧ c.code = M.2.1 ∧ c.maxLocals = M.2.2.1 ∧ s.vm.findClass M.1.cls = some m.cls ∧ ∀ w ∈ E.2.2.2.1, w.before args s = true) ∧
  (meth.sig.returnType = M.2.2.2 ∧ meth.locks = false ∧ meth.name = M.1.name ∧ c.exceptionTable.toList.map (fun h => (h.startPc, h.endPc, h.handlerPc, h.catchType)) = aj_tb M.1 ∧ l.stackTraces = false) ∧
  (d + 2 ≤ R.frames ∧ 48 * d ≤ R.locals ∧ cells + bc ≤ R.cells ∧ slots + bs ≤ R.slots) ∧
  (va_P D E.1 (aj_w E tc a sh g) H ∧ va_K D E.1 (aj_ty tc E.2.1) s ∧ va_D A (aj_w E tc a sh g) ∧ va_S A s.heap H locs ∧ ∀ q, s.heap.size ≤ q → A q) ∧
  (lv.length = M.2.2.1 ∧ lv_has ls M.2.2.1 (aj_l a lv)) ∧
  aj_ph al sh a H.size ∧ aj_good E ∧ aj_xs E X a A s
/-- how a method may end: it returns, or it throws an object of the k-th class of exc -/
def aj_out (exc : List String) (a : Nat → Nat) (r : aj_R) (o : Outcome) (t : State) : Prop := match r with
  | .inl v => o = .returned (v.map (aj_c a))
  | .inr k => ∃ (b : Nat) (cell : Cell) (E : String), o = .threw b ∧ t.heap[b]? = some cell ∧ cell.vm = .none ∧ exc[k]? = some E ∧ t.vm.findClass E = some cell.cls
def aj_fin (E : aj_E) (ao : Prop) (a tc : Nat → Nat) (D : va_G) (A : Nat → Prop) (Q : aj_R → List aj_S → aj_G → Prop) (below : List Frame) (s : State) (MC MS : Nat) : State → Prop := fun t =>
  ∃ (o : Outcome) (r : aj_R) (sh : List aj_S) (g : aj_G), t.status = .running ∧ Ended t below o ∧ Q r sh g ∧ aj_out aj_exc a r o t ∧ va_P D E.1 (aj_w E tc a sh g) t.heap ∧ va_D A (aj_w E tc a sh g) ∧ va_F A s t ∧
    aj_ph ao sh a t.heap.size ∧ ∃ L, s.WarmedH t.vm ∧ s.sameButNew ({ t with vm := s.vm } : State) L MC MS ∧ ∀ q ∈ L, A q.base
def aj_wp (E : aj_E) (al ao : Prop) (X : Option (Nat × (Int → Int))) (M : aj_M) (d bc bs : Nat) (pc : Nat) (lv : List (Option aj_A)) (st : List aj_A) (sh : List aj_S) (g : aj_G) (Q : aj_R → List aj_S → aj_G → Prop) : Prop :=
  ∀ (p : Program) (l : Launch) (e : Env) (R : Room) (s : State) (m : MethodId) (args : Array Value) (below : List Frame) (meth : Method) (c : Code) (H : Heap) (locs : List Loc) (cells slots : Nat) (ls : Array Slot) (a tc : Nat → Nat) (D : va_G) (A : Nat → Prop),
    aj_cx E al X M d bc bs lv sh g a tc D A p l R s m args meth c H locs cells slots ls →
    W p l e R s m args below meth c H locs cells slots (aj_fin E ao a tc D A Q below s (cells + bc) (slots + bs)) (F0 m pc ls (st.map (aj_c a)))
theorem aj_monoW {p : Program} {l : Launch} {e : Env} {R : Room} {s : State} {m : MethodId} {args : Array Value} {below : List Frame} {meth : Method} {c : Code} {H : Heap} {locs : List Loc} {cells slots : Nat} {Q Q' : State → Prop} {g : JFrame}
    (hq : ∀ t, Q t → Q' t) (k : W p l e R s m args below meth c H locs cells slots Q g) : W p l e R s m args below meth c H locs cells slots Q' g := by
  intro T hT X
  obtain ⟨t, h1, h2⟩ := k T hT X
  exact ⟨t, h1, hq t h2⟩
section AJR
variable {E : aj_E} {al ao : Prop} {X : Option (Nat × (Int → Int))} {M : aj_M} {d bc bs pc : Nat} {lv : List (Option aj_A)} {st : List aj_A} {sh : List aj_S} {g : aj_G} {Q Q' : aj_R → List aj_S → aj_G → Prop}
theorem aj_mono (hq : ∀ r sh g, Q r sh g → Q' r sh g) (k : aj_wp E al ao X M d bc bs pc lv st sh g Q) : aj_wp E al ao X M d bc bs pc lv st sh g Q' := by
  intro p l e R s m args below meth c H locs cells slots ls a tc D A hc
  refine aj_monoW ?_ (k p l e R s m args below meth c H locs cells slots ls a tc D A hc)
  rintro t ⟨o, r, sh, g, e1, e2, e3, e4⟩
  exact ⟨o, r, sh, g, e1, e2, hq r sh g e3, e4⟩
/-- objects have been made: from here on the addresses that come are free -/
theorem aj_off (k : aj_wp E False ao X M d bc bs pc lv st sh g Q) : aj_wp E al ao X M d bc bs pc lv st sh g Q := by
  intro p l e R s m args below meth c H locs cells slots ls a tc D A ⟨h1, h2, h3, h4, h5, h6, h7⟩
  exact k p l e R s m args below meth c H locs cells slots ls a tc D A ⟨h1, h2, h3, h4, h5, ⟨fun h => h.elim, h6.2⟩, h7⟩
theorem aj_forget (i : Nat) (k : aj_wp E al ao X M d bc bs pc (lv.set i none) st sh g Q) : aj_wp E al ao X M d bc bs pc lv st sh g Q := by
  intro p l e R s m args below meth c H locs cells slots ls a tc D A ⟨h1, h2, h3, h4, h5, h6⟩
  exact k p l e R s m args below meth c H locs cells slots ls a tc D A ⟨h1, h2, h3, h4, ⟨by rw [List.length_set]; exact h5.1, aj_forget1 h5.2⟩, h6⟩
/-- an instruction that changes the operand stack alone -/
theorem aj_lift {pc' : Nat} {st' : List aj_A} (h : ∀ (p : Program) (l : Launch) (e : Env) (R : Room) (s : State) (m : MethodId) (args : Array Value) (below : List Frame) (meth : Method) (c : Code) (H : Heap) (locs : List Loc) (cells slots : Nat) (Z : State → Prop) (ls : Array Slot) (a : Nat → Nat),
      p.tables.exec = Jvm.exec → c.code = M.2.1 → lv_has ls M.2.2.1 (aj_l a lv) → W p l e R s m args below meth c H locs cells slots Z (F0 m pc' ls (st'.map (aj_c a))) → W p l e R s m args below meth c H locs cells slots Z (F0 m pc ls (st.map (aj_c a))))
    (k : aj_wp E al ao X M d bc bs pc' lv st' sh g Q) : aj_wp E al ao X M d bc bs pc lv st sh g Q := by
  intro p l e R s m args below meth c H locs cells slots ls a tc D A hc
  exact h p l e R s m args below meth c H locs cells slots _ ls a hc.1.1 hc.1.2.1 hc.2.2.2.2.1.2 (k p l e R s m args below meth c H locs cells slots ls a tc D A hc)
theorem aj_iconst {n : Int} (q : Nat) (hd : decode M.2.1 pc = .ok (.iconst n, 1)) (hq : pc + 1 = q) (k : aj_wp E al ao X M d bc bs q lv ((0, n) :: st) sh g Q) : aj_wp E al ao X M d bc bs pc lv st sh g Q := by
  subst hq
  exact aj_lift (fun p l e R s m args below meth c H locs cells slots Z ls a hx hb hl k => lv_iconst (v := Int32.ofInt n) hx hb hd rfl k) k
theorem aj_bipush {n : Int} (q : Nat) (hd : decode M.2.1 pc = .ok (.bipush n, 2)) (hq : pc + 2 = q) (hn : (Int8.ofInt n).toInt32 = Int32.ofInt n) (k : aj_wp E al ao X M d bc bs q lv ((0, n) :: st) sh g Q) : aj_wp E al ao X M d bc bs pc lv st sh g Q := by
  subst hq
  exact aj_lift (fun p l e R s m args below meth c H locs cells slots Z ls a hx hb hl k => lv_bipush (v := Int32.ofInt n) hx hb hd hn k) k
theorem aj_sipush {n : Int} (q : Nat) (hd : decode M.2.1 pc = .ok (.sipush n, 3)) (hq : pc + 3 = q) (hn : (Int16.ofInt n).toInt32 = Int32.ofInt n) (k : aj_wp E al ao X M d bc bs q lv ((0, n) :: st) sh g Q) : aj_wp E al ao X M d bc bs pc lv st sh g Q := by
  subst hq
  exact aj_lift (fun p l e R s m args below meth c H locs cells slots Z ls a hx hb hl k => lv_sipush (v := Int32.ofInt n) hx hb hd hn k) k
theorem aj_lconst {n : Fin 2} {x : Int} (q : Nat) (hd : decode M.2.1 pc = .ok (.lconst n, 1)) (hq : pc + 1 = q) (hx : ((n : Nat) : Int) = x) (k : aj_wp E al ao X M d bc bs q lv ((2, x) :: st) sh g Q) : aj_wp E al ao X M d bc bs pc lv st sh g Q := by
  subst hq
  subst hx
  exact aj_lift (fun p l e R s m args below meth c H locs cells slots Z ls a hx hb hl k => lv_lconst (v := Int64.ofInt ((n : Nat) : Int)) hx hb hd Int64.ofInt_eq_ofNat.symm k) k
theorem aj_iload_n {n : Fin 4} {x : Int} (i q : Nat) (hd : decode M.2.1 pc = .ok (.iload_n n, 1)) (hi : (n : Nat) = i) (hq : pc + 1 = q) (hl : lv[i]? = some (some (0, x))) (k : aj_wp E al ao X M d bc bs q lv ((0, x) :: st) sh g Q) : aj_wp E al ao X M d bc bs pc lv st sh g Q := by
  subst hq
  exact aj_lift (fun p l e R s m args below meth c H locs cells slots Z ls a hx hb hls k => lv_iload_n (x := Int32.ofInt x) hx hb hd hi (aj_lget hls hl) k) k
theorem aj_iload {x : Int} (i q : Nat) (hd : decode M.2.1 pc = .ok (.iload i, 2)) (hq : pc + 2 = q) (hl : lv[i]? = some (some (0, x))) (k : aj_wp E al ao X M d bc bs q lv ((0, x) :: st) sh g Q) : aj_wp E al ao X M d bc bs pc lv st sh g Q := by
  subst hq
  exact aj_lift (fun p l e R s m args below meth c H locs cells slots Z ls a hx hb hls k => lv_iload (x := Int32.ofInt x) hx hb hd (aj_lget hls hl) k) k
theorem aj_lload_n {n : Fin 4} {x : Int} (i q : Nat) (hd : decode M.2.1 pc = .ok (.lload_n n, 1)) (hi : (n : Nat) = i) (hq : pc + 1 = q) (hl : lv[i]? = some (some (2, x))) (k : aj_wp E al ao X M d bc bs q lv ((2, x) :: st) sh g Q) : aj_wp E al ao X M d bc bs pc lv st sh g Q := by
  subst hq
  exact aj_lift (fun p l e R s m args below meth c H locs cells slots Z ls a hx hb hls k => lv_lload_n (x := Int64.ofInt x) hx hb hd hi (aj_lget hls hl) k) k
theorem aj_lload {x : Int} (i q : Nat) (hd : decode M.2.1 pc = .ok (.lload i, 2)) (hq : pc + 2 = q) (hl : lv[i]? = some (some (2, x))) (k : aj_wp E al ao X M d bc bs q lv ((2, x) :: st) sh g Q) : aj_wp E al ao X M d bc bs pc lv st sh g Q := by
  subst hq
  exact aj_lift (fun p l e R s m args below meth c H locs cells slots Z ls a hx hb hls k => lv_lload (x := Int64.ofInt x) hx hb hd (aj_lget hls hl) k) k
theorem aj_aload_n {n : Fin 4} {x : Int} (i q : Nat) (hd : decode M.2.1 pc = .ok (.aload_n n, 1)) (hi : (n : Nat) = i) (hq : pc + 1 = q) (hl : lv[i]? = some (some (1, x))) (k : aj_wp E al ao X M d bc bs q lv ((1, x) :: st) sh g Q) : aj_wp E al ao X M d bc bs pc lv st sh g Q := by
  subst hq
  refine aj_lift (fun p l e R s m args below meth c H locs cells slots Z ls a hx hb hls k => ?_) k
  have hg := aj_lget hls hl
  rw [List.map_cons] at k
  by_cases h0 : x < 0
  · rw [aj_c1, aj_rfn h0] at hg k
    exact lv_aload_nN hx hb hd hi hg k
  · rw [aj_cr (by omega)] at hg k
    exact lv_aload_n hx hb hd hi hg k
theorem aj_aload {x : Int} (i q : Nat) (hd : decode M.2.1 pc = .ok (.aload i, 2)) (hq : pc + 2 = q) (hl : lv[i]? = some (some (1, x))) (k : aj_wp E al ao X M d bc bs q lv ((1, x) :: st) sh g Q) : aj_wp E al ao X M d bc bs pc lv st sh g Q := by
  subst hq
  refine aj_lift (fun p l e R s m args below meth c H locs cells slots Z ls a hx hb hls k => ?_) k
  have hg := aj_lget hls hl
  rw [List.map_cons] at k
  by_cases h0 : x < 0
  · rw [aj_c1, aj_rfn h0] at hg k
    exact lv_aloadN hx hb hd hg k
  · rw [aj_cr (by omega)] at hg k
    exact lv_aload hx hb hd hg k
/-- an instruction that changes a slot of the locals -/
theorem aj_lst {pc' : Nat} {st' : List aj_A} {lv' : List (Option aj_A)} (hlen : lv'.length = lv.length) (h : ∀ (p : Program) (l : Launch) (e : Env) (R : Room) (s : State) (m : MethodId) (args : Array Value) (below : List Frame) (meth : Method) (c : Code) (H : Heap) (locs : List Loc) (cells slots : Nat) (Z : State → Prop) (ls : Array Slot) (a : Nat → Nat),
      p.tables.exec = Jvm.exec → c.code = M.2.1 → lv.length = M.2.2.1 → lv_has ls M.2.2.1 (aj_l a lv) → (∀ ls', lv_has ls' M.2.2.1 (aj_l a lv') → W p l e R s m args below meth c H locs cells slots Z (F0 m pc' ls' (st'.map (aj_c a)))) → W p l e R s m args below meth c H locs cells slots Z (F0 m pc ls (st.map (aj_c a))))
    (k : aj_wp E al ao X M d bc bs pc' lv' st' sh g Q) : aj_wp E al ao X M d bc bs pc lv st sh g Q := by
  intro p l e R s m args below meth c H locs cells slots ls a tc D A hc
  obtain ⟨h1, h2, h3, h4, h5, h6⟩ := hc
  exact h p l e R s m args below meth c H locs cells slots _ ls a h1.1 h1.2.1 h5.1 h5.2 (fun ls' hls => k p l e R s m args below meth c H locs cells slots ls' a tc D A ⟨h1, h2, h3, h4, ⟨hlen.trans h5.1, hls⟩, h6⟩)
theorem aj_oklt {i : Nat} (h : aj_ok lv i = true) : i < lv.length := by
  unfold aj_ok at h
  rw [Bool.and_eq_true] at h
  exact Nat.blt_eq ▸ h.1
theorem aj_istore_n {n : Fin 4} {x : Int} (i q : Nat) (hd : decode M.2.1 pc = .ok (.istore_n n, 1)) (hi : (n : Nat) = i) (hq : pc + 1 = q) (ho : aj_ok lv i = true) (k : aj_wp E al ao X M d bc bs q (lv.set i (some (0, x))) st sh g Q) : aj_wp E al ao X M d bc bs pc lv ((0, x) :: st) sh g Q := by
  subst hq
  exact aj_lst (List.length_set ..) (fun p l e R s m args below meth c H locs cells slots Z ls a hx hb hn hls k => lv_istore_n (x := Int32.ofInt x) hx hb hd hi hls (hn ▸ aj_oklt ho) rfl (fun ls' h' => k ls' (aj_st1 (v := (0, x)) rfl ho h'))) k
theorem aj_istore {x : Int} (i q : Nat) (hd : decode M.2.1 pc = .ok (.istore i, 2)) (hq : pc + 2 = q) (ho : aj_ok lv i = true) (k : aj_wp E al ao X M d bc bs q (lv.set i (some (0, x))) st sh g Q) : aj_wp E al ao X M d bc bs pc lv ((0, x) :: st) sh g Q := by
  subst hq
  exact aj_lst (List.length_set ..) (fun p l e R s m args below meth c H locs cells slots Z ls a hx hb hn hls k => lv_istore (x := Int32.ofInt x) hx hb hd hls (hn ▸ aj_oklt ho) rfl (fun ls' h' => k ls' (aj_st1 (v := (0, x)) rfl ho h'))) k
theorem aj_lstore_n {n : Fin 4} {x : Int} (i q : Nat) (hd : decode M.2.1 pc = .ok (.lstore_n n, 1)) (hi : (n : Nat) = i) (hq : pc + 1 = q) (ho : aj_ok lv i = true) (ho2 : Nat.blt (i + 1) lv.length = true) (k : aj_wp E al ao X M d bc bs q ((lv.set i (some (2, x))).set (i + 1) none) st sh g Q) : aj_wp E al ao X M d bc bs pc lv ((2, x) :: st) sh g Q := by
  subst hq
  exact aj_lst (by rw [List.length_set, List.length_set]) (fun p l e R s m args below meth c H locs cells slots Z ls a hx hb hn hls k => lv_lstore_n (x := Int64.ofInt x) hx hb hd hi hls (hn ▸ (Nat.blt_eq ▸ ho2)) rfl (fun ls' h' => k ls' (aj_st2 (v := (2, x)) rfl ho h'))) k
theorem aj_lstore {x : Int} (i q : Nat) (hd : decode M.2.1 pc = .ok (.lstore i, 2)) (hq : pc + 2 = q) (ho : aj_ok lv i = true) (ho2 : Nat.blt (i + 1) lv.length = true) (k : aj_wp E al ao X M d bc bs q ((lv.set i (some (2, x))).set (i + 1) none) st sh g Q) : aj_wp E al ao X M d bc bs pc lv ((2, x) :: st) sh g Q := by
  subst hq
  exact aj_lst (by rw [List.length_set, List.length_set]) (fun p l e R s m args below meth c H locs cells slots Z ls a hx hb hn hls k => lv_lstore (x := Int64.ofInt x) hx hb hd hls (hn ▸ (Nat.blt_eq ▸ ho2)) rfl (fun ls' h' => k ls' (aj_st2 (v := (2, x)) rfl ho h'))) k
theorem aj_astore_n {n : Fin 4} {x : Int} (i q : Nat) (hd : decode M.2.1 pc = .ok (.astore_n n, 1)) (hi : (n : Nat) = i) (hq : pc + 1 = q) (ho : aj_ok lv i = true) (k : aj_wp E al ao X M d bc bs q (lv.set i (some (1, x))) st sh g Q) : aj_wp E al ao X M d bc bs pc lv ((1, x) :: st) sh g Q := by
  subst hq
  refine aj_lst (List.length_set ..) (fun p l e R s m args below meth c H locs cells slots Z ls a hx hb hn hls k => ?_) k
  rw [List.map_cons]
  by_cases h0 : x < 0
  · have hw : aj_c a (1, x) = .null := by rw [aj_c1, aj_rfn h0]; rfl
    rw [hw]
    exact lv_astore_nN hx hb hd hi hls (hn ▸ aj_oklt ho) rfl (fun ls' h' => k ls' (aj_st1 hw ho h'))
  · have hw : aj_c a (1, x) = .ref (a x.toNat) := aj_cr (by omega)
    rw [hw]
    exact lv_astore_n hx hb hd hi hls (hn ▸ aj_oklt ho) rfl (fun ls' h' => k ls' (aj_st1 hw ho h'))
theorem aj_astore {x : Int} (i q : Nat) (hd : decode M.2.1 pc = .ok (.astore i, 2)) (hq : pc + 2 = q) (ho : aj_ok lv i = true) (k : aj_wp E al ao X M d bc bs q (lv.set i (some (1, x))) st sh g Q) : aj_wp E al ao X M d bc bs pc lv ((1, x) :: st) sh g Q := by
  subst hq
  refine aj_lst (List.length_set ..) (fun p l e R s m args below meth c H locs cells slots Z ls a hx hb hn hls k => ?_) k
  rw [List.map_cons]
  by_cases h0 : x < 0
  · have hw : aj_c a (1, x) = .null := by rw [aj_c1, aj_rfn h0]; rfl
    rw [hw]
    exact lv_astoreN hx hb hd hls (hn ▸ aj_oklt ho) rfl (fun ls' h' => k ls' (aj_st1 hw ho h'))
  · have hw : aj_c a (1, x) = .ref (a x.toNat) := aj_cr (by omega)
    rw [hw]
    exact lv_astore hx hb hd hls (hn ▸ aj_oklt ho) rfl (fun ls' h' => k ls' (aj_st1 hw ho h'))
theorem aj_iinc {x n : Int} (i q : Nat) (hd : decode M.2.1 pc = .ok (.iinc i n, 3)) (hq : pc + 3 = q) (hl : lv[i]? = some (some (0, x))) (ho : aj_ok lv i = true) (k : aj_wp E al ao X M d bc bs q (lv.set i (some (0, x + n))) st sh g Q) : aj_wp E al ao X M d bc bs pc lv st sh g Q := by
  subst hq
  refine aj_lst (List.length_set ..) (fun p l e R s m args below meth c H locs cells slots Z ls a hx hb hn hls k => ?_) k
  obtain ⟨k0, hk0⟩ := List.getElem?_of_mem (aj_l_mem.mpr ⟨_, hl, rfl⟩ : (i, aj_c a (0, x)) ∈ aj_l a lv)
  exact lv_iinc (x := Int32.ofInt x) (v := Int32.ofInt (x + n)) hx hb hd hls hk0 (Int32.ofInt_add x n).symm (hn ▸ aj_oklt ho) rfl (fun ls' h' => k ls' (aj_st1 (v := (0, x + n)) rfl ho h'))
/-! arithmetic -/
theorem aj_iadd {x y : Int} (q : Nat) (hd : decode M.2.1 pc = .ok (.iadd, 1)) (hq : pc + 1 = q) (k : aj_wp E al ao X M d bc bs q lv ((0, x + y) :: st) sh g Q) : aj_wp E al ao X M d bc bs pc lv ((0, y) :: (0, x) :: st) sh g Q := by
  subst hq
  exact aj_lift (fun p l e R s m args below meth c H locs cells slots Z ls a hx hb hls k => lv_iadd (x := Int32.ofInt x) (y := Int32.ofInt y) hx hb hd (by rw [← Int32.ofInt_add]; exact k)) k
theorem aj_isub {x y : Int} (q : Nat) (hd : decode M.2.1 pc = .ok (.isub, 1)) (hq : pc + 1 = q) (k : aj_wp E al ao X M d bc bs q lv ((0, x - y) :: st) sh g Q) : aj_wp E al ao X M d bc bs pc lv ((0, y) :: (0, x) :: st) sh g Q := by
  subst hq
  exact aj_lift (fun p l e R s m args below meth c H locs cells slots Z ls a hx hb hls k => lv_isub (x := Int32.ofInt x) (y := Int32.ofInt y) hx hb hd (by rw [← Int32.ofInt_sub]; exact k)) k
theorem aj_imul {x y : Int} (q : Nat) (hd : decode M.2.1 pc = .ok (.imul, 1)) (hq : pc + 1 = q) (k : aj_wp E al ao X M d bc bs q lv ((0, x * y) :: st) sh g Q) : aj_wp E al ao X M d bc bs pc lv ((0, y) :: (0, x) :: st) sh g Q := by
  subst hq
  exact aj_lift (fun p l e R s m args below meth c H locs cells slots Z ls a hx hb hls k => lv_imul (x := Int32.ofInt x) (y := Int32.ofInt y) hx hb hd (by rw [← Int32.ofInt_mul]; exact k)) k
theorem aj_ladd {x y : Int} (q : Nat) (hd : decode M.2.1 pc = .ok (.ladd, 1)) (hq : pc + 1 = q) (k : aj_wp E al ao X M d bc bs q lv ((2, x + y) :: st) sh g Q) : aj_wp E al ao X M d bc bs pc lv ((2, y) :: (2, x) :: st) sh g Q := by
  subst hq
  exact aj_lift (fun p l e R s m args below meth c H locs cells slots Z ls a hx hb hls k => lv_ladd (x := Int64.ofInt x) (y := Int64.ofInt y) hx hb hd (by rw [← Int64.ofInt_add]; exact k)) k
theorem aj_idiv {x y v : Int} (q : Nat) (hd : decode M.2.1 pc = .ok (.idiv, 1)) (hq : pc + 1 = q) (hn : ¬ Int32.ofInt y = 0) (hv : Int32.ofInt x / Int32.ofInt y = Int32.ofInt v) (k : aj_wp E al ao X M d bc bs q lv ((0, v) :: st) sh g Q) : aj_wp E al ao X M d bc bs pc lv ((0, y) :: (0, x) :: st) sh g Q := by
  subst hq
  exact aj_lift (fun p l e R s m args below meth c H locs cells slots Z ls a hx hb hls k => lv_idiv (x := Int32.ofInt x) (y := Int32.ofInt y) hx hb hd hn (by rw [hv]; exact k)) k
theorem aj_irem {x y v : Int} (q : Nat) (hd : decode M.2.1 pc = .ok (.irem, 1)) (hq : pc + 1 = q) (hn : ¬ Int32.ofInt y = 0) (hv : Int32.ofInt x - Int32.ofInt x / Int32.ofInt y * Int32.ofInt y = Int32.ofInt v) (k : aj_wp E al ao X M d bc bs q lv ((0, v) :: st) sh g Q) : aj_wp E al ao X M d bc bs pc lv ((0, y) :: (0, x) :: st) sh g Q := by
  subst hq
  exact aj_lift (fun p l e R s m args below meth c H locs cells slots Z ls a hx hb hls k => lv_irem (x := Int32.ofInt x) (y := Int32.ofInt y) hx hb hd hn (by rw [hv]; exact k)) k
theorem aj_iand {x y v : Int} (q : Nat) (hd : decode M.2.1 pc = .ok (.iand, 1)) (hq : pc + 1 = q) (hv : Int32.ofInt x &&& Int32.ofInt y = Int32.ofInt v) (k : aj_wp E al ao X M d bc bs q lv ((0, v) :: st) sh g Q) : aj_wp E al ao X M d bc bs pc lv ((0, y) :: (0, x) :: st) sh g Q := by
  subst hq
  exact aj_lift (fun p l e R s m args below meth c H locs cells slots Z ls a hx hb hls k => lv_iand (x := Int32.ofInt x) (y := Int32.ofInt y) hx hb hd (by rw [hv]; exact k)) k
theorem aj_ior {x y v : Int} (q : Nat) (hd : decode M.2.1 pc = .ok (.ior, 1)) (hq : pc + 1 = q) (hv : Int32.ofInt x ||| Int32.ofInt y = Int32.ofInt v) (k : aj_wp E al ao X M d bc bs q lv ((0, v) :: st) sh g Q) : aj_wp E al ao X M d bc bs pc lv ((0, y) :: (0, x) :: st) sh g Q := by
  subst hq
  exact aj_lift (fun p l e R s m args below meth c H locs cells slots Z ls a hx hb hls k => lv_ior (x := Int32.ofInt x) (y := Int32.ofInt y) hx hb hd (by rw [hv]; exact k)) k
theorem aj_ishl {x y v : Int} (q : Nat) (hd : decode M.2.1 pc = .ok (.ishl, 1)) (hq : pc + 1 = q) (hv : Int32.ofInt x <<< (Int32.ofInt y &&& 31) = Int32.ofInt v) (k : aj_wp E al ao X M d bc bs q lv ((0, v) :: st) sh g Q) : aj_wp E al ao X M d bc bs pc lv ((0, y) :: (0, x) :: st) sh g Q := by
  subst hq
  exact aj_lift (fun p l e R s m args below meth c H locs cells slots Z ls a hx hb hls k => lv_ishl (x := Int32.ofInt x) (y := Int32.ofInt y) hx hb hd (by rw [hv]; exact k)) k
theorem aj_land {x y v : Int} (q : Nat) (hd : decode M.2.1 pc = .ok (.land, 1)) (hq : pc + 1 = q) (hv : Int64.ofInt x &&& Int64.ofInt y = Int64.ofInt v) (k : aj_wp E al ao X M d bc bs q lv ((2, v) :: st) sh g Q) : aj_wp E al ao X M d bc bs pc lv ((2, y) :: (2, x) :: st) sh g Q := by
  subst hq
  exact aj_lift (fun p l e R s m args below meth c H locs cells slots Z ls a hx hb hls k => lv_land (x := Int64.ofInt x) (y := Int64.ofInt y) hx hb hd (by rw [hv]; exact k)) k
theorem aj_lor {x y v : Int} (q : Nat) (hd : decode M.2.1 pc = .ok (.lor, 1)) (hq : pc + 1 = q) (hv : Int64.ofInt x ||| Int64.ofInt y = Int64.ofInt v) (k : aj_wp E al ao X M d bc bs q lv ((2, v) :: st) sh g Q) : aj_wp E al ao X M d bc bs pc lv ((2, y) :: (2, x) :: st) sh g Q := by
  subst hq
  exact aj_lift (fun p l e R s m args below meth c H locs cells slots Z ls a hx hb hls k => lv_lor (x := Int64.ofInt x) (y := Int64.ofInt y) hx hb hd (by rw [hv]; exact k)) k
theorem aj_lshl {x y v : Int} (q : Nat) (hd : decode M.2.1 pc = .ok (.lshl, 1)) (hq : pc + 1 = q) (hv : Int64.ofInt x <<< ((Int32.ofInt y).toInt64 &&& 63) = Int64.ofInt v) (k : aj_wp E al ao X M d bc bs q lv ((2, v) :: st) sh g Q) : aj_wp E al ao X M d bc bs pc lv ((0, y) :: (2, x) :: st) sh g Q := by
  subst hq
  exact aj_lift (fun p l e R s m args below meth c H locs cells slots Z ls a hx hb hls k => lv_lshl (x := Int64.ofInt x) (y := Int32.ofInt y) hx hb hd hv k) k
theorem aj_lshr {x y v : Int} (q : Nat) (hd : decode M.2.1 pc = .ok (.lshr, 1)) (hq : pc + 1 = q) (hv : Int64.ofInt x >>> ((Int32.ofInt y).toInt64 &&& 63) = Int64.ofInt v) (k : aj_wp E al ao X M d bc bs q lv ((2, v) :: st) sh g Q) : aj_wp E al ao X M d bc bs pc lv ((0, y) :: (2, x) :: st) sh g Q := by
  subst hq
  exact aj_lift (fun p l e R s m args below meth c H locs cells slots Z ls a hx hb hls k => lv_lshr (x := Int64.ofInt x) (y := Int32.ofInt y) hx hb hd hv k) k
theorem aj_i2l {x : Int} (q : Nat) (hd : decode M.2.1 pc = .ok (.i2l, 1)) (hq : pc + 1 = q) (hx : aj_I x) (k : aj_wp E al ao X M d bc bs q lv ((2, x) :: st) sh g Q) : aj_wp E al ao X M d bc bs pc lv ((0, x) :: st) sh g Q := by
  subst hq
  exact aj_lift (fun p l e R s m args below meth c H locs cells slots Z ls a hx0 hb hls k => lv_i2l (x := Int32.ofInt x) (v := Int64.ofInt x) hx0 hb hd (Int64.toInt_inj.mp (by rw [Int32.toInt_toInt64, aj_ti hx, aj_tl ⟨by have := hx.1; omega, by have := hx.2; omega⟩])) k) k
theorem aj_l2i {x : Int} (q : Nat) (hd : decode M.2.1 pc = .ok (.l2i, 1)) (hq : pc + 1 = q) (k : aj_wp E al ao X M d bc bs q lv ((0, x) :: st) sh g Q) : aj_wp E al ao X M d bc bs pc lv ((2, x) :: st) sh g Q := by
  subst hq
  exact aj_lift (fun p l e R s m args below meth c H locs cells slots Z ls a hx hb hls k => lv_l2i (x := Int64.ofInt x) (v := Int32.ofInt x) hx hb hd Int64.toInt32_ofInt k) k
def aj_sg (x y : Int) : Int := if y < x then 1 else if x = y then 0 else -1
theorem aj_lcmp {x y : Int} (q : Nat) (hd : decode M.2.1 pc = .ok (.lcmp, 1)) (hq : pc + 1 = q) (h1 : aj_L x) (h2 : aj_L y) (k : aj_wp E al ao X M d bc bs q lv ((0, aj_sg x y) :: st) sh g Q) : aj_wp E al ao X M d bc bs pc lv ((2, y) :: (2, x) :: st) sh g Q := by
  subst hq
  refine aj_lift (fun p l e R s m args below meth c H locs cells slots Z ls a hx hb hls k => W.lcmp (x := Int64.ofInt x) (y := Int64.ofInt y) hx hb hd ?_) k
  have hlt : Int64.ofInt y < Int64.ofInt x ↔ y < x := by rw [Int64.lt_iff_toInt_lt, aj_tl h1, aj_tl h2]
  have heq : Int64.ofInt x = Int64.ofInt y ↔ x = y := by rw [← Int64.toInt_inj, aj_tl h1, aj_tl h2]
  have e : lg_cmp (Int64.ofInt x) (Int64.ofInt y) = Int32.ofInt (aj_sg x y) := by
    unfold lg_cmp aj_sg
    by_cases c1 : y < x
    · simp [hlt, c1]
      try rfl
    · by_cases c2 : x = y
      · subst c2
        simp
        try rfl
      · simp [hlt, heq, c1, c2]
        try rfl
  rw [e]
  exact k
theorem aj_dup {v : aj_A} (q : Nat) (hd : decode M.2.1 pc = .ok (.dup, 1)) (hq : pc + 1 = q) (hv : Nat.blt v.1 2 = true) (k : aj_wp E al ao X M d bc bs q lv (v :: v :: st) sh g Q) : aj_wp E al ao X M d bc bs pc lv (v :: st) sh g Q := by
  subst hq
  exact aj_lift (fun p l e R s m args below meth c H locs cells slots Z ls a hx hb hls k => lv_dup hx hb hd (aj_cat (Nat.blt_eq ▸ hv)) k) k
theorem aj_pop {v : aj_A} (q : Nat) (hd : decode M.2.1 pc = .ok (.pop, 1)) (hq : pc + 1 = q) (hv : Nat.blt v.1 2 = true) (k : aj_wp E al ao X M d bc bs q lv st sh g Q) : aj_wp E al ao X M d bc bs pc lv (v :: st) sh g Q := by
  subst hq
  exact aj_lift (fun p l e R s m args below meth c H locs cells slots Z ls a hx hb hls k => lv_pop hx hb hd (aj_cat (Nat.blt_eq ▸ hv)) k) k
theorem aj_dup_x1 {v w : aj_A} (q : Nat) (hd : decode M.2.1 pc = .ok (.dup_x1, 1)) (hq : pc + 1 = q) (hv : Nat.blt v.1 2 = true) (hw : Nat.blt w.1 2 = true) (k : aj_wp E al ao X M d bc bs q lv (v :: w :: v :: st) sh g Q) : aj_wp E al ao X M d bc bs pc lv (v :: w :: st) sh g Q := by
  subst hq
  exact aj_lift (fun p l e R s m args below meth c H locs cells slots Z ls a hx hb hls k => lv_dup_x1 hx hb hd (aj_cat (Nat.blt_eq ▸ hv)) (aj_cat (Nat.blt_eq ▸ hw)) k) k
theorem aj_dup2 {v w : aj_A} (q : Nat) (hd : decode M.2.1 pc = .ok (.dup2, 1)) (hq : pc + 1 = q) (hv : Nat.blt v.1 2 = true) (hw : Nat.blt w.1 2 = true) (k : aj_wp E al ao X M d bc bs q lv (v :: w :: v :: w :: st) sh g Q) : aj_wp E al ao X M d bc bs pc lv (v :: w :: st) sh g Q := by
  subst hq
  exact aj_lift (fun p l e R s m args below meth c H locs cells slots Z ls a hx hb hls k => lv_dup2_11 hx hb hd (aj_cat (Nat.blt_eq ▸ hv)) (aj_cat (Nat.blt_eq ▸ hw)) k) k
/-! branches -/
theorem aj_goto {off : Int} (t : Nat) (hd : decode M.2.1 pc = .ok (.goto off, 3)) (ht : (pc : Int) + off = (t : Int)) (k : aj_wp E al ao X M d bc bs t lv st sh g Q) : aj_wp E al ao X M d bc bs pc lv st sh g Q :=
  aj_lift (fun p l e R s m args below meth c H locs cells slots Z ls a hx hb hls k => lv_goto hx hb hd ht k) k
theorem aj_lift2 {pc1 pc2 : Nat} {st' : List aj_A} {P : Prop} (h : ∀ (p : Program) (l : Launch) (e : Env) (R : Room) (s : State) (m : MethodId) (args : Array Value) (below : List Frame) (meth : Method) (c : Code) (H : Heap) (locs : List Loc) (cells slots : Nat) (Z : State → Prop) (ls : Array Slot) (a : Nat → Nat),
      p.tables.exec = Jvm.exec → c.code = M.2.1 → (P → W p l e R s m args below meth c H locs cells slots Z (F0 m pc1 ls (st'.map (aj_c a)))) → (¬ P → W p l e R s m args below meth c H locs cells slots Z (F0 m pc2 ls (st'.map (aj_c a)))) → W p l e R s m args below meth c H locs cells slots Z (F0 m pc ls (st.map (aj_c a))))
    (kt : P → aj_wp E al ao X M d bc bs pc1 lv st' sh g Q) (kf : ¬ P → aj_wp E al ao X M d bc bs pc2 lv st' sh g Q) : aj_wp E al ao X M d bc bs pc lv st sh g Q := by
  intro p l e R s m args below meth c H locs cells slots ls a tc D A hc
  exact h p l e R s m args below meth c H locs cells slots _ ls a hc.1.1 hc.1.2.1 (fun hp => kt hp p l e R s m args below meth c H locs cells slots ls a tc D A hc) (fun hp => kf hp p l e R s m args below meth c H locs cells slots ls a tc D A hc)
theorem aj_if_eq {x off : Int} (t q : Nat) (hd : decode M.2.1 pc = .ok (.ifCond .eq off, 3)) (ht : (pc : Int) + off = (t : Int)) (hq : pc + 3 = q) (hx : aj_I x) (kt : x = 0 → aj_wp E al ao X M d bc bs t lv st sh g Q) (kf : ¬ x = 0 → aj_wp E al ao X M d bc bs q lv st sh g Q) : aj_wp E al ao X M d bc bs pc lv ((0, x) :: st) sh g Q := by
  subst hq
  have e : Int32.ofInt x = 0 ↔ x = 0 := by rw [aj_0]; exact aj_eq hx aj_I0
  exact aj_lift2 (fun p l e0 R s m args below meth c H locs cells slots Z ls a hx hb kt kf => lv_if_eq (x := Int32.ofInt x) hx hb hd ht (fun h => kt (e.mp h)) (fun h => kf (fun z => h (e.mpr z)))) kt kf
theorem aj_if_ne {x off : Int} (t q : Nat) (hd : decode M.2.1 pc = .ok (.ifCond .ne off, 3)) (ht : (pc : Int) + off = (t : Int)) (hq : pc + 3 = q) (hx : aj_I x) (kt : ¬ x = 0 → aj_wp E al ao X M d bc bs t lv st sh g Q) (kf : x = 0 → aj_wp E al ao X M d bc bs q lv st sh g Q) : aj_wp E al ao X M d bc bs pc lv ((0, x) :: st) sh g Q := by
  subst hq
  have e : Int32.ofInt x = 0 ↔ x = 0 := by rw [aj_0]; exact aj_eq hx aj_I0
  refine aj_lift2 (P := ¬ x = 0) (fun p l e0 R s m args below meth c H locs cells slots Z ls a hx hb kt kf => lv_if_ne (x := Int32.ofInt x) hx hb hd ht (fun h => kt (fun z => h (e.mpr z))) (fun h => kf (fun z => z (e.mp h)))) kt (fun h => kf (Classical.byContradiction h))
theorem aj_if_lt {x off : Int} (t q : Nat) (hd : decode M.2.1 pc = .ok (.ifCond .lt off, 3)) (ht : (pc : Int) + off = (t : Int)) (hq : pc + 3 = q) (hx : aj_I x) (kt : x < 0 → aj_wp E al ao X M d bc bs t lv st sh g Q) (kf : 0 ≤ x → aj_wp E al ao X M d bc bs q lv st sh g Q) : aj_wp E al ao X M d bc bs pc lv ((0, x) :: st) sh g Q := by
  subst hq
  have e : Int32.ofInt x < 0 ↔ x < 0 := by rw [aj_0]; exact aj_lt hx aj_I0
  exact aj_lift2 (fun p l e0 R s m args below meth c H locs cells slots Z ls a hx hb kt kf => lv_if_lt (x := Int32.ofInt x) hx hb hd ht (fun h => kt (e.mp h)) (fun h => kf (fun z => h (e.mpr z)))) kt (fun h => kf (by omega))
theorem aj_if_ge {x off : Int} (t q : Nat) (hd : decode M.2.1 pc = .ok (.ifCond .ge off, 3)) (ht : (pc : Int) + off = (t : Int)) (hq : pc + 3 = q) (hx : aj_I x) (kt : 0 ≤ x → aj_wp E al ao X M d bc bs t lv st sh g Q) (kf : x < 0 → aj_wp E al ao X M d bc bs q lv st sh g Q) : aj_wp E al ao X M d bc bs pc lv ((0, x) :: st) sh g Q := by
  subst hq
  have e : 0 ≤ Int32.ofInt x ↔ 0 ≤ x := by rw [aj_0]; exact aj_le aj_I0 hx
  exact aj_lift2 (fun p l e0 R s m args below meth c H locs cells slots Z ls a hx hb kt kf => lv_if_ge (x := Int32.ofInt x) hx hb hd ht (fun h => kt (e.mp h)) (fun h => kf (fun z => h (e.mpr z)))) kt (fun h => kf (by omega))
theorem aj_if_gt {x off : Int} (t q : Nat) (hd : decode M.2.1 pc = .ok (.ifCond .gt off, 3)) (ht : (pc : Int) + off = (t : Int)) (hq : pc + 3 = q) (hx : aj_I x) (kt : 0 < x → aj_wp E al ao X M d bc bs t lv st sh g Q) (kf : x ≤ 0 → aj_wp E al ao X M d bc bs q lv st sh g Q) : aj_wp E al ao X M d bc bs pc lv ((0, x) :: st) sh g Q := by
  subst hq
  have e : 0 < Int32.ofInt x ↔ 0 < x := by rw [aj_0]; exact aj_lt aj_I0 hx
  exact aj_lift2 (fun p l e0 R s m args below meth c H locs cells slots Z ls a hx hb kt kf => lv_if_gt (x := Int32.ofInt x) hx hb hd ht (fun h => kt (e.mp h)) (fun h => kf (fun z => h (e.mpr z)))) kt (fun h => kf (by omega))
theorem aj_if_le {x off : Int} (t q : Nat) (hd : decode M.2.1 pc = .ok (.ifCond .le off, 3)) (ht : (pc : Int) + off = (t : Int)) (hq : pc + 3 = q) (hx : aj_I x) (kt : x ≤ 0 → aj_wp E al ao X M d bc bs t lv st sh g Q) (kf : 0 < x → aj_wp E al ao X M d bc bs q lv st sh g Q) : aj_wp E al ao X M d bc bs pc lv ((0, x) :: st) sh g Q := by
  subst hq
  have e : Int32.ofInt x ≤ 0 ↔ x ≤ 0 := by rw [aj_0]; exact aj_le hx aj_I0
  exact aj_lift2 (fun p l e0 R s m args below meth c H locs cells slots Z ls a hx hb kt kf => lv_if_le (x := Int32.ofInt x) hx hb hd ht (fun h => kt (e.mp h)) (fun h => kf (fun z => h (e.mpr z)))) kt (fun h => kf (by omega))
theorem aj_icmp_eq {x y off : Int} (t q : Nat) (hd : decode M.2.1 pc = .ok (.if_icmp .eq off, 3)) (ht : (pc : Int) + off = (t : Int)) (hq : pc + 3 = q) (hx : aj_I x) (hy : aj_I y) (kt : x = y → aj_wp E al ao X M d bc bs t lv st sh g Q) (kf : ¬ x = y → aj_wp E al ao X M d bc bs q lv st sh g Q) : aj_wp E al ao X M d bc bs pc lv ((0, y) :: (0, x) :: st) sh g Q := by
  subst hq
  have e := aj_eq hx hy
  exact aj_lift2 (fun p l e0 R s m args below meth c H locs cells slots Z ls a hx hb kt kf => lv_icmp_eq (x := Int32.ofInt x) (y := Int32.ofInt y) hx hb hd ht (fun h => kt (e.mp h)) (fun h => kf (fun z => h (e.mpr z)))) kt kf
theorem aj_icmp_ne {x y off : Int} (t q : Nat) (hd : decode M.2.1 pc = .ok (.if_icmp .ne off, 3)) (ht : (pc : Int) + off = (t : Int)) (hq : pc + 3 = q) (hx : aj_I x) (hy : aj_I y) (kt : ¬ x = y → aj_wp E al ao X M d bc bs t lv st sh g Q) (kf : x = y → aj_wp E al ao X M d bc bs q lv st sh g Q) : aj_wp E al ao X M d bc bs pc lv ((0, y) :: (0, x) :: st) sh g Q := by
  subst hq
  have e := aj_eq hx hy
  exact aj_lift2 (P := ¬ x = y) (fun p l e0 R s m args below meth c H locs cells slots Z ls a hx hb kt kf => lv_icmp_ne (x := Int32.ofInt x) (y := Int32.ofInt y) hx hb hd ht (fun h => kt (fun z => h (e.mpr z))) (fun h => kf (fun z => z (e.mp h)))) kt (fun h => kf (Classical.byContradiction h))
theorem aj_icmp_lt {x y off : Int} (t q : Nat) (hd : decode M.2.1 pc = .ok (.if_icmp .lt off, 3)) (ht : (pc : Int) + off = (t : Int)) (hq : pc + 3 = q) (hx : aj_I x) (hy : aj_I y) (kt : x < y → aj_wp E al ao X M d bc bs t lv st sh g Q) (kf : y ≤ x → aj_wp E al ao X M d bc bs q lv st sh g Q) : aj_wp E al ao X M d bc bs pc lv ((0, y) :: (0, x) :: st) sh g Q := by
  subst hq
  have e := aj_lt hx hy
  exact aj_lift2 (fun p l e0 R s m args below meth c H locs cells slots Z ls a hx hb kt kf => lv_icmp_lt (x := Int32.ofInt x) (y := Int32.ofInt y) hx hb hd ht (fun h => kt (e.mp h)) (fun h => kf (fun z => h (e.mpr z)))) kt (fun h => kf (by omega))
theorem aj_icmp_ge {x y off : Int} (t q : Nat) (hd : decode M.2.1 pc = .ok (.if_icmp .ge off, 3)) (ht : (pc : Int) + off = (t : Int)) (hq : pc + 3 = q) (hx : aj_I x) (hy : aj_I y) (kt : y ≤ x → aj_wp E al ao X M d bc bs t lv st sh g Q) (kf : x < y → aj_wp E al ao X M d bc bs q lv st sh g Q) : aj_wp E al ao X M d bc bs pc lv ((0, y) :: (0, x) :: st) sh g Q := by
  subst hq
  have e := aj_le hy hx
  exact aj_lift2 (fun p l e0 R s m args below meth c H locs cells slots Z ls a hx hb kt kf => lv_icmp_ge (x := Int32.ofInt x) (y := Int32.ofInt y) hx hb hd ht (fun h => kt (e.mp h)) (fun h => kf (fun z => h (e.mpr z)))) kt (fun h => kf (by omega))
theorem aj_icmp_gt {x y off : Int} (t q : Nat) (hd : decode M.2.1 pc = .ok (.if_icmp .gt off, 3)) (ht : (pc : Int) + off = (t : Int)) (hq : pc + 3 = q) (hx : aj_I x) (hy : aj_I y) (kt : y < x → aj_wp E al ao X M d bc bs t lv st sh g Q) (kf : x ≤ y → aj_wp E al ao X M d bc bs q lv st sh g Q) : aj_wp E al ao X M d bc bs pc lv ((0, y) :: (0, x) :: st) sh g Q := by
  subst hq
  have e := aj_lt hy hx
  exact aj_lift2 (fun p l e0 R s m args below meth c H locs cells slots Z ls a hx hb kt kf => lv_icmp_gt (x := Int32.ofInt x) (y := Int32.ofInt y) hx hb hd ht (fun h => kt (e.mp h)) (fun h => kf (fun z => h (e.mpr z)))) kt (fun h => kf (by omega))
theorem aj_icmp_le {x y off : Int} (t q : Nat) (hd : decode M.2.1 pc = .ok (.if_icmp .le off, 3)) (ht : (pc : Int) + off = (t : Int)) (hq : pc + 3 = q) (hx : aj_I x) (hy : aj_I y) (kt : x ≤ y → aj_wp E al ao X M d bc bs t lv st sh g Q) (kf : y < x → aj_wp E al ao X M d bc bs q lv st sh g Q) : aj_wp E al ao X M d bc bs pc lv ((0, y) :: (0, x) :: st) sh g Q := by
  subst hq
  have e := aj_le hx hy
  exact aj_lift2 (fun p l e0 R s m args below meth c H locs cells slots Z ls a hx hb kt kf => lv_icmp_le (x := Int32.ofInt x) (y := Int32.ofInt y) hx hb hd ht (fun h => kt (e.mp h)) (fun h => kf (fun z => h (e.mpr z)))) kt (fun h => kf (by omega))
theorem aj_tableIn {dflt lo hi off x : Int} {offs : Array Int} {len : Nat} (t : Nat) (hd : decode M.2.1 pc = .ok (.tableswitch dflt lo hi offs, len)) (hx : aj_I x) (h1 : lo ≤ x) (h2 : x ≤ hi) (ho : offs[(x - lo).toNat]? = some off) (ht : (pc : Int) + off = (t : Int)) (k : aj_wp E al ao X M d bc bs t lv st sh g Q) : aj_wp E al ao X M d bc bs pc lv ((0, x) :: st) sh g Q :=
  aj_lift (fun p l e R s m args below meth c H locs cells slots Z ls a hx0 hb hls k => lv_tableIn (x := Int32.ofInt x) hx0 hb hd (by rw [aj_ti hx]; omega) (by rw [aj_ti hx]; omega) (by rw [aj_ti hx]; exact ho) ht k) k
theorem aj_tableOut {dflt lo hi x : Int} {offs : Array Int} {len : Nat} (t : Nat) (hd : decode M.2.1 pc = .ok (.tableswitch dflt lo hi offs, len)) (hx : aj_I x) (h : x < lo ∨ hi < x) (ht : (pc : Int) + dflt = (t : Int)) (k : aj_wp E al ao X M d bc bs t lv st sh g Q) : aj_wp E al ao X M d bc bs pc lv ((0, x) :: st) sh g Q :=
  aj_lift (fun p l e R s m args below meth c H locs cells slots Z ls a hx0 hb hls k => lv_tableOut (x := Int32.ofInt x) hx0 hb hd (by rw [aj_ti hx]; exact h) ht k) k
end AJR
end
section
/-! the judgement: fields, arrays, new cells -/
def aj_dv (k : Nat) : Int := if k = 1 then -1 else 0
theorem aj_dflt {a : Nat → Nat} {t : FieldType} (h : aj_smp t = true) : defaultValue t = aj_c a (aj_kd t, aj_dv (aj_kd t)) := by
  cases t <;> first | (exact absurd h (by decide)) | (simp [aj_kd, aj_dv, aj_c, aj_rf, va_rf, defaultValue]; try rfl)
def aj_fl (E : aj_E) (own : String) (index ci t : Nat) (jz : Int) : Prop := ∃ (C : String) (T : u_T) (N j : Nat), E.1[ci]? = some (C, T, N) ∧ j < N ∧ ((j : Nat) : Int) = jz ∧ E.2.2.1 ci j = t ∧ Cond.fieldLink own index (T j).1 (T j).2.1 (T j).2.2.1 ∈ E.2.2.2.1
def aj_pl (E : aj_E) (own mname : String) (index ci t : Nat) (jz : Int) (ty : FieldType) : Prop := ∃ (C : String) (T : u_T) (N j : Nat), E.1[ci]? = some (C, T, N) ∧ j < N ∧ ((j : Nat) : Int) = jz ∧ E.2.2.1 ci j = t ∧ Cond.fieldLink own index (T j).1 (T j).2.1 (T j).2.2.1 ∈ E.2.2.2.1 ∧
  parseFieldDescriptor (T j).2.2.1 = some ty ∧ ((T j).2.2.2 = false ∨ ((T j).2.2.2 = true ∧ mname = "<init>" ∧ (T j).1 = own))
def aj_fit (ty : FieldType) (v : aj_A) : Prop := ∀ a, narrow ty (aj_c a v) = aj_c a v ∧ fits ty (aj_c a v) = true
theorem aj_fitI (x : Int) : aj_fit .int (0, x) := fun _ => ⟨rfl, rfl⟩
theorem aj_fitJ (x : Int) : aj_fit .long (2, x) := fun _ => ⟨rfl, rfl⟩
theorem aj_fitZ {x : Int} (h : x = 0 ∨ x = 1) : aj_fit .boolean (0, x) := by
  intro a
  rw [aj_c0]
  rcases h with rfl | rfl
  · exact ⟨by decide +kernel, by decide +kernel⟩
  · exact ⟨by decide +kernel, by decide +kernel⟩
theorem aj_fitO (C : String) (x : Int) : aj_fit (.object C) (1, x) := by
  intro a
  rw [aj_c1]
  by_cases h : x < 0
  · rw [aj_rfn h]; exact ⟨rfl, rfl⟩
  · rw [aj_rfp (by omega)]; exact ⟨rfl, rfl⟩
theorem aj_fitA (t : FieldType) (x : Int) : aj_fit (.array t) (1, x) := by
  intro a
  rw [aj_c1]
  by_cases h : x < 0
  · rw [aj_rfn h]; exact ⟨rfl, rfl⟩
  · rw [aj_rfp (by omega)]; exact ⟨rfl, rfl⟩
theorem aj_vpV {N i : Nat} {F : Nat → Value} (h : i < N) : vp_V ((List.range N).map F) i = F i := by
  unfold vp_V
  rw [List.getD_eq_getElem?_getD, List.getElem?_map, List.getElem?_range h]
  rfl
section AJH
variable {E : aj_E} {al ao : Prop} {X : Option (Nat × (Int → Int))} {M : aj_M} {d bc bs pc : Nat} {lv : List (Option aj_A)} {st : List aj_A} {sh : List aj_S} {g : aj_G} {Q : aj_R → List aj_S → aj_G → Prop}
theorem aj_getf {index ci t : Nat} {jz r : Int} (q : Nat) (hf : aj_fl E M.1.cls index ci t jz) (hd : decode M.2.1 pc = .ok (.getfield index, 3)) (hq : pc + 3 = q) (hs : aj_sh sh r = some (.inr ci)) (k : aj_wp E al ao X M d bc bs q lv ((t, g r jz) :: st) sh g Q) : aj_wp E al ao X M d bc bs pc lv ((1, r) :: st) sh g Q := by
  subst hq
  intro p l e R s m args below meth c H locs cells slots ls a tc D A hc0
  have kk := k p l e R s m args below meth c H locs cells slots ls a tc D A hc0
  obtain ⟨h1, h2, h3, ⟨hP, hK, hD, hS, hA⟩, h5, h6, h7⟩ := hc0
  obtain ⟨C, T, N, j, hc, hj, rfl, ht, hw⟩ := hf
  obtain ⟨h0, -⟩ := aj_sh_get hs
  have he := aj_w_get (E := E) (tc := tc) (a := a) (g := g) hs
  rw [List.map_cons, aj_cr h0]
  refine va_get (D := D) (Ts := E.2.2.2.1) h1.1 h1.2.1 h1.2.2.2.2 (h7.1.2 ci _ hc).1 h1.2.2.2.1 hK hP r.toNat he hc j hj (h1.2.2.2.2 _ hw) (fun x hx => hx) (v := aj_c a (t, g r j)) ?_ hd kk
  rw [aj_nf_of hc, List.getElem?_map, List.getElem?_range hj, ← ht]
  rfl
theorem aj_putf {index ci t : Nat} {jz r x : Int} {ty : FieldType} (q : Nat) (hf : aj_pl E M.1.cls M.1.name index ci t jz ty) (hdg : decode M.2.1 pc = .ok (.putfield index, 3)) (hq : pc + 3 = q) (hs : aj_sh sh r = some (.inr ci)) (hfit : aj_fit ty (t, x)) (k : aj_wp E al ao X M d bc bs q lv st sh (aj_up g r jz x) Q) : aj_wp E al ao X M d bc bs pc lv ((t, x) :: (1, r) :: st) sh g Q := by
  subst hq
  intro p l e R s m args below meth c H locs cells slots ls a tc D A hc0
  obtain ⟨h1, h2, h3, ⟨hP, hK, hD, hS, hA⟩, h5, h6, h7⟩ := hc0
  obtain ⟨C, T, N, j, hc, hj, rfl, ht, hw, hd, hfin⟩ := hf
  obtain ⟨h0, -⟩ := aj_sh_get hs
  have he := aj_w_get (E := E) (tc := tc) (a := a) (g := g) hs
  obtain ⟨hin, hnm, ty0, htys, hkd⟩ := h7.1.2 ci _ hc
  have hts := h1.2.2.2.2
  rw [List.map_cons, List.map_cons, aj_cr h0]
  have hap := va_apart (own := M.1.cls) hts hin ty0 htys hnm hK hc
  obtain ⟨r', hr', cell, q1, q2, q3, q4⟩ := hP _ _ he
  have hrr : r' = (C, T, N) := Option.some.inj (hr'.symm.trans hc)
  subst hrr
  obtain ⟨hSl, hfc, kC, hkC, hkind⟩ := hK.1 ci _ hc
  obtain ⟨cf, kf, fi, f, hi, hsl⟩ := hSl j hj
  have hst := (u_facts hfc hkC (u_lays hts hin hj) hi).1
  have kk : ∀ H' : Heap, H'[a r.toNat]? = some (cell.setSlot f.slot (aj_c a (t, x))) → H'.size = H.size → (∀ q, q ≠ a r.toNat → H'[q]? = H[q]?) → W p l e R s m args below meth c H' (locs ++ [⟨a r.toNat, f.slot⟩]) cells slots (aj_fin E ao a tc D A Q below s (cells + bc) (slots + bs)) (F0 m (pc + 3) ls (st.map (aj_c a))) := by
    intro H' e1 e2 e3
    rw [hsl] at e1
    have hcell : va_at D E.1 (a r.toNat, aj_cell E tc a (.inr ci) (aj_up g r j x r)) H' := by
      refine ⟨_, hc, t_OB.to (V := updV (vp_V ((List.range (aj_nf E ci)).map (fun j => aj_c a (E.2.2.1 ci j, g r (j : Nat))))) j (aj_c a (t, x))) ⟨_, e1, q2, q3, t_set q4 hap hj _⟩ (fun i hi => ?_)⟩
      rw [aj_nf_of hc]
      show updV _ j _ i = vp_V _ i
      rw [aj_vpV hi]
      unfold updV
      by_cases hij : i = j
      · subst hij
        rw [if_pos rfl, aj_up_self, ht]
      · rw [if_neg hij, aj_vpV hi, aj_up_ni g r x (fun e => hij (by omega))]
    have hset := aj_w_set (E := E) (tc := tc) (a := a) (g := g) (g' := aj_up g r j x) hs rfl (fun r' hr' => aj_up_ne g j x hr')
    have hP2 := hP.set hD he hcell e3
    rw [hset] at hP2
    have hD2 := hD.set (e := aj_cell E tc a (.inr ci) (aj_up g r j x r)) he
    rw [hset] at hD2
    exact k p l e R s m args below meth c H' _ cells slots ls a tc D A ⟨h1, h2, h3, ⟨hP2, hK, hD2, hS.put e2 e3 (hD.2 _ _ he), hA⟩, h5, by rw [e2]; exact h6, h7⟩
  rcases hfin with hf0 | ⟨hf1, hnm1, hdecl⟩
  · have hlay := hts _ (hin _ (u_in_lay hj))
    unfold u_lay at hlay
    rw [if_neg (by rw [hf0]; decide)] at hlay
    have h8 := u_store hfc hkC hkind hlay hi hd (hfit a).1 (hfit a).2
    exact W.putK h1.1 h1.2.1 (f := f) ⟨h1.2.2.2.1, hts _ hw, ⟨_, _, _, hi⟩, hst⟩ (by rw [q2]; exact h8) q1 q3 (by rw [hsl]; exact k2_hasslot (q4 j hj)) rfl rfl hdg kk
  · have hlay := hts _ (hin _ (u_in_lay hj))
    unfold u_lay at hlay
    rw [if_pos hf1] at hlay
    have hcf : m.cls = cf := by
      obtain ⟨_, _, c', _, _, _, -, -, hf', -, -, -, hown2, -⟩ := Cond.laysFinal_spec hlay
      have e1 : c' = cf := by have := hi.symm.trans hf'; simp at this; exact this.1.symm
      rw [hdecl] at hown2
      rw [← e1]; exact Option.some.inj (h1.2.2.2.1.symm.trans hown2)
    have h8 := u_fits hfc hkC hkind (Or.inr hlay) hi hd (hfit a).1 (hfit a).2
    exact W.putFinK h1.1 h1.2.1 h1.2.2.2.1 (hts _ hw) hi hst hcf (h2.2.2.1.trans hnm1) (by rw [q2]; exact h8) q1 q3 (by rw [hsl]; exact k2_hasslot (q4 j hj)) rfl rfl hdg kk
/-! arrays -/
theorem aj_at {tc a : Nat → Nat} {D : va_G} {H : Heap} {r : Int} {t0 n : Nat} {V : Int → Value} (hP : va_P D E.1 (aj_w E tc a sh g) H) (hs : aj_sh sh r = some (.inl (t0, n))) (hV : ∀ f : Int → Int, vp_cell (tc t0) (n, aj_row a E.2.1[t0]? f) = arrV (tc t0) n (fun j => V (f j))) : H[a r.toNat]? = some (arrV (tc t0) n (fun j => V (g r j))) := by
  have h := hP _ _ (aj_w_get (E := E) (tc := tc) (a := a) (g := g) hs)
  rw [← hV (g r)]
  exact h
theorem aj_aset {tc a : Nat → Nat} {D : va_G} {A : Nat → Prop} {H H1 : Heap} {r i x : Int} {t0 n : Nat} {V : Int → Value} (hP : va_P D E.1 (aj_w E tc a sh g) H) (hD : va_D A (aj_w E tc a sh g)) (hs : aj_sh sh r = some (.inl (t0, n))) (hV : ∀ f : Int → Int, vp_cell (tc t0) (n, aj_row a E.2.1[t0]? f) = arrV (tc t0) n (fun j => V (f j))) (h0 : 0 ≤ i)
    (e : H1[a r.toNat]? = some ((arrV (tc t0) n (fun j => V (g r j))).setSlot i.toNat (V x))) (oq : ∀ q : Nat, q ≠ a r.toNat → H1[q]? = H[q]?) : va_P D E.1 (aj_w E tc a sh (aj_up g r i x)) H1 ∧ va_D A (aj_w E tc a sh (aj_up g r i x)) := by
  have he := aj_w_get (E := E) (tc := tc) (a := a) (g := g) hs
  have hset := aj_w_set (E := E) (tc := tc) (a := a) (g := g) (g' := aj_up g r i x) hs rfl (fun r' hr' => aj_up_ne g i x hr')
  have hcell : va_at D E.1 (a r.toNat, aj_cell E tc a (.inl (t0, n)) (aj_up g r i x r)) H1 := by
    show H1[a r.toNat]? = some (vp_cell (tc t0) (n, aj_row a E.2.1[t0]? (aj_up g r i x r)))
    rw [hV, e, arrV_store]
    congr 2
    funext q
    unfold updV
    by_cases hq : q = i.toNat
    · rw [if_pos hq, hq, Int.toNat_of_nonneg h0, aj_up_self]
    · rw [if_neg hq, aj_up_ni g r x (fun z => hq (by omega))]
  have hP2 := hP.set hD he hcell oq
  have hD2 := hD.set (e := aj_cell E tc a (.inl (t0, n)) (aj_up g r i x r)) he
  rw [hset] at hP2 hD2
  exact ⟨hP2, hD2⟩
theorem aj_rowi {tc a : Nat → Nat} {t0 n : Nat} {ty : FieldType} (ht : E.2.1[t0]? = some ty) (h : ty = .int ∨ ty = .boolean) (f : Int → Int) : vp_cell (tc t0) (n, aj_row a E.2.1[t0]? f) = arrV (tc t0) n (fun j => .int (Int32.ofInt (f j))) := by
  rw [ht]
  rcases h with rfl | rfl <;> rfl
theorem aj_rowl {tc a : Nat → Nat} {t0 n : Nat} (ht : E.2.1[t0]? = some .long) (f : Int → Int) : vp_cell (tc t0) (n, aj_row a E.2.1[t0]? f) = arrV (tc t0) n (fun j => .long (Int64.ofInt (f j))) := by
  rw [ht]
  rfl
theorem aj_rowr {tc a : Nat → Nat} {t0 n : Nat} {ty : FieldType} (ht : E.2.1[t0]? = some ty) (h : ty.isReference = true) (f : Int → Int) : vp_cell (tc t0) (n, aj_row a E.2.1[t0]? f) = arrV (tc t0) n (fun j => va_rf (aj_rf a (f j))) := by
  rw [ht]
  cases ty <;> first | rfl | exact absurd h (by decide)
theorem aj_arr {tc : Nat → Nat} {D : va_G} {s : State} {t0 : Nat} {ty : FieldType} (hK : va_K D E.1 (aj_ty tc E.2.1) s) (ht : E.2.1[t0]? = some ty) (n : Nat) (z : Nat → Value) : s.isArrayOf (arrV (tc t0) n z) ty := (hK.2 t0 _ (aj_ty_at ht)).1 n z
theorem aj_sz {cA : ClassId} {n : Nat} {z : Nat → Value} {i : Int32} (h : vp_in i n) : ¬ (i < 0 ∨ (arrV cA n z).slots.size ≤ i.toNatClampNeg) := by
  rw [arrV_size]
  exact h
theorem aj_iald {r i : Int} {t0 n : Nat} (q : Nat) (hd : decode M.2.1 pc = .ok (.iaload, 1)) (hq : pc + 1 = q) (hs : aj_sh sh r = some (.inl (t0, n))) (ht : E.2.1[t0]? = some .int) (h0 : 0 ≤ i) (hi : i < n) (k : aj_wp E al ao X M d bc bs q lv ((0, g r i) :: st) sh g Q) : aj_wp E al ao X M d bc bs pc lv ((0, i) :: (1, r) :: st) sh g Q := by
  subst hq
  intro p l e R s m args below meth c H locs cells slots ls a tc D A hc0
  have kk := k p l e R s m args below meth c H locs cells slots ls a tc D A hc0
  obtain ⟨h1, h2, h3, ⟨hP, hK, hD, hS, hA⟩, h5, h6, h7⟩ := hc0
  obtain ⟨hr0, hr1⟩ := aj_sh_get hs
  have hn := h6.2 _ _ _ hr1
  rw [List.map_cons, List.map_cons, aj_cr hr0]
  have hcl := aj_clamp h0 hi hn
  refine W.iald (v := aj_c a (0, g r i)) h1.1 h1.2.1 (aj_at (V := fun x => .int (Int32.ofInt x)) hP hs (aj_rowi ht (Or.inl rfl))) (aj_arr hK ht _ _) (fun q => by cases q) (aj_sz (aj_in h0 hi hn)) ?_ rfl rfl hd kk
  rw [hcl, arrV_read _ _ (by omega), Int.toNat_of_nonneg h0]
  rfl
theorem aj_zald {r i : Int} {t0 n : Nat} (q : Nat) (hd : decode M.2.1 pc = .ok (.baload, 1)) (hq : pc + 1 = q) (hs : aj_sh sh r = some (.inl (t0, n))) (ht : E.2.1[t0]? = some .boolean) (h0 : 0 ≤ i) (hi : i < n) (k : aj_wp E al ao X M d bc bs q lv ((0, g r i) :: st) sh g Q) : aj_wp E al ao X M d bc bs pc lv ((0, i) :: (1, r) :: st) sh g Q := by
  subst hq
  intro p l e R s m args below meth c H locs cells slots ls a tc D A hc0
  have kk := k p l e R s m args below meth c H locs cells slots ls a tc D A hc0
  obtain ⟨h1, h2, h3, ⟨hP, hK, hD, hS, hA⟩, h5, h6, h7⟩ := hc0
  obtain ⟨hr0, hr1⟩ := aj_sh_get hs
  have hn := h6.2 _ _ _ hr1
  rw [List.map_cons, List.map_cons, aj_cr hr0]
  have hcl := aj_clamp h0 hi hn
  refine W.zald (v := aj_c a (0, g r i)) h1.1 h1.2.1 (aj_at (V := fun x => .int (Int32.ofInt x)) hP hs (aj_rowi ht (Or.inr rfl))) (aj_arr hK ht _ _) (fun q => by cases q) (aj_sz (aj_in h0 hi hn)) ?_ rfl rfl hd kk
  rw [hcl, arrV_read _ _ (by omega), Int.toNat_of_nonneg h0]
  rfl
theorem aj_lald {r i : Int} {t0 n : Nat} (q : Nat) (hd : decode M.2.1 pc = .ok (.laload, 1)) (hq : pc + 1 = q) (hs : aj_sh sh r = some (.inl (t0, n))) (ht : E.2.1[t0]? = some .long) (h0 : 0 ≤ i) (hi : i < n) (k : aj_wp E al ao X M d bc bs q lv ((2, g r i) :: st) sh g Q) : aj_wp E al ao X M d bc bs pc lv ((0, i) :: (1, r) :: st) sh g Q := by
  subst hq
  intro p l e R s m args below meth c H locs cells slots ls a tc D A hc0
  have kk := k p l e R s m args below meth c H locs cells slots ls a tc D A hc0
  obtain ⟨h1, h2, h3, ⟨hP, hK, hD, hS, hA⟩, h5, h6, h7⟩ := hc0
  obtain ⟨hr0, hr1⟩ := aj_sh_get hs
  have hn := h6.2 _ _ _ hr1
  rw [List.map_cons, List.map_cons, aj_cr hr0]
  have hcl := aj_clamp h0 hi hn
  refine W.lald (v := aj_c a (2, g r i)) h1.1 h1.2.1 (aj_at (V := fun x => .long (Int64.ofInt x)) hP hs (aj_rowl ht)) (aj_arr hK ht _ _) (fun q => by cases q) (aj_sz (aj_in h0 hi hn)) ?_ rfl rfl hd kk
  rw [hcl, arrV_read _ _ (by omega), Int.toNat_of_nonneg h0]
  rfl
theorem aj_aald {r i : Int} {t0 n : Nat} {ty : FieldType} (q : Nat) (hd : decode M.2.1 pc = .ok (.aaload, 1)) (hq : pc + 1 = q) (hs : aj_sh sh r = some (.inl (t0, n))) (ht : E.2.1[t0]? = some ty) (hty : ty.isReference = true) (h0 : 0 ≤ i) (hi : i < n) (k : aj_wp E al ao X M d bc bs q lv ((1, g r i) :: st) sh g Q) : aj_wp E al ao X M d bc bs pc lv ((0, i) :: (1, r) :: st) sh g Q := by
  subst hq
  intro p l e R s m args below meth c H locs cells slots ls a tc D A hc0
  have kk := k p l e R s m args below meth c H locs cells slots ls a tc D A hc0
  obtain ⟨h1, h2, h3, ⟨hP, hK, hD, hS, hA⟩, h5, h6, h7⟩ := hc0
  obtain ⟨hr0, hr1⟩ := aj_sh_get hs
  have hn := h6.2 _ _ _ hr1
  rw [List.map_cons, List.map_cons, aj_cr hr0]
  have hcl := aj_clamp h0 hi hn
  refine W.aald (v := aj_c a (1, g r i)) h1.1 h1.2.1 (aj_at (V := fun x => va_rf (aj_rf a x)) hP hs (aj_rowr ht hty)) (aj_arr hK ht _ _) hty (fun q => by cases q) (aj_sz (aj_in h0 hi hn)) ?_ rfl rfl hd kk
  rw [hcl, arrV_read _ _ (by omega), Int.toNat_of_nonneg h0]
  rfl
theorem aj_iast {r i x : Int} {t0 n : Nat} (q : Nat) (hd : decode M.2.1 pc = .ok (.iastore, 1)) (hq : pc + 1 = q) (hs : aj_sh sh r = some (.inl (t0, n))) (ht : E.2.1[t0]? = some .int) (h0 : 0 ≤ i) (hi : i < n) (k : aj_wp E al ao X M d bc bs q lv st sh (aj_up g r i x) Q) : aj_wp E al ao X M d bc bs pc lv ((0, x) :: (0, i) :: (1, r) :: st) sh g Q := by
  subst hq
  intro p l e R s m args below meth c H locs cells slots ls a tc D A hc0
  obtain ⟨h1, h2, h3, ⟨hP, hK, hD, hS, hA⟩, h5, h6, h7⟩ := hc0
  obtain ⟨hr0, hr1⟩ := aj_sh_get hs
  have hn := h6.2 _ _ _ hr1
  rw [List.map_cons, List.map_cons, List.map_cons, aj_cr hr0]
  have hcl := aj_clamp h0 hi hn
  refine W.iast (x := Int32.ofInt x) h1.1 h1.2.1 (aj_at (V := fun x => .int (Int32.ofInt x)) hP hs (aj_rowi ht (Or.inl rfl))) (aj_arr hK ht _ _) (fun q => by cases q) (aj_sz (aj_in h0 hi hn)) rfl rfl hd fun H1 e1 z oq => ?_
  rw [hcl] at e1
  obtain ⟨hP2, hD2⟩ := aj_aset (V := fun x => .int (Int32.ofInt x)) hP hD hs (aj_rowi ht (Or.inl rfl)) h0 e1 oq
  exact k p l e R s m args below meth c H1 _ cells slots ls a tc D A ⟨h1, h2, h3, ⟨hP2, hK, hD2, hS.put z oq (hD.2 _ _ (aj_w_get hs)), hA⟩, h5, by rw [z]; exact h6, h7⟩
theorem aj_zast {r i x : Int} {t0 n : Nat} (q : Nat) (hd : decode M.2.1 pc = .ok (.bastore, 1)) (hq : pc + 1 = q) (hs : aj_sh sh r = some (.inl (t0, n))) (ht : E.2.1[t0]? = some .boolean) (h0 : 0 ≤ i) (hi : i < n) (hx : x = 0 ∨ x = 1) (k : aj_wp E al ao X M d bc bs q lv st sh (aj_up g r i x) Q) : aj_wp E al ao X M d bc bs pc lv ((0, x) :: (0, i) :: (1, r) :: st) sh g Q := by
  subst hq
  intro p l e R s m args below meth c H locs cells slots ls a tc D A hc0
  obtain ⟨h1, h2, h3, ⟨hP, hK, hD, hS, hA⟩, h5, h6, h7⟩ := hc0
  obtain ⟨hr0, hr1⟩ := aj_sh_get hs
  have hn := h6.2 _ _ _ hr1
  rw [List.map_cons, List.map_cons, List.map_cons, aj_cr hr0]
  have hcl := aj_clamp h0 hi hn
  refine W.zast (x := Int32.ofInt x) h1.1 h1.2.1 (aj_at (V := fun x => .int (Int32.ofInt x)) hP hs (aj_rowi ht (Or.inr rfl))) (aj_arr hK ht _ _) (fun q => by cases q) (aj_sz (aj_in h0 hi hn)) rfl rfl hd fun H1 e1 z oq => ?_
  have hnar : narrow .boolean (.int (Int32.ofInt x)) = .int (Int32.ofInt x) := by
    rcases hx with rfl | rfl <;> decide +kernel
  rw [hcl, hnar] at e1
  obtain ⟨hP2, hD2⟩ := aj_aset (V := fun x => .int (Int32.ofInt x)) hP hD hs (aj_rowi ht (Or.inr rfl)) h0 e1 oq
  exact k p l e R s m args below meth c H1 _ cells slots ls a tc D A ⟨h1, h2, h3, ⟨hP2, hK, hD2, hS.put z oq (hD.2 _ _ (aj_w_get hs)), hA⟩, h5, by rw [z]; exact h6, h7⟩
theorem aj_last {r i x : Int} {t0 n : Nat} (q : Nat) (hd : decode M.2.1 pc = .ok (.lastore, 1)) (hq : pc + 1 = q) (hs : aj_sh sh r = some (.inl (t0, n))) (ht : E.2.1[t0]? = some .long) (h0 : 0 ≤ i) (hi : i < n) (k : aj_wp E al ao X M d bc bs q lv st sh (aj_up g r i x) Q) : aj_wp E al ao X M d bc bs pc lv ((2, x) :: (0, i) :: (1, r) :: st) sh g Q := by
  subst hq
  intro p l e R s m args below meth c H locs cells slots ls a tc D A hc0
  obtain ⟨h1, h2, h3, ⟨hP, hK, hD, hS, hA⟩, h5, h6, h7⟩ := hc0
  obtain ⟨hr0, hr1⟩ := aj_sh_get hs
  have hn := h6.2 _ _ _ hr1
  rw [List.map_cons, List.map_cons, List.map_cons, aj_cr hr0]
  have hcl := aj_clamp h0 hi hn
  refine W.last (x := Int64.ofInt x) h1.1 h1.2.1 (aj_at (V := fun x => .long (Int64.ofInt x)) hP hs (aj_rowl ht)) (aj_arr hK ht _ _) (fun q => by cases q) (aj_sz (aj_in h0 hi hn)) rfl rfl hd fun H1 e1 z oq => ?_
  rw [hcl] at e1
  obtain ⟨hP2, hD2⟩ := aj_aset (V := fun x => .long (Int64.ofInt x)) hP hD hs (aj_rowl ht) h0 e1 oq
  exact k p l e R s m args below meth c H1 _ cells slots ls a tc D A ⟨h1, h2, h3, ⟨hP2, hK, hD2, hS.put z oq (hD.2 _ _ (aj_w_get hs)), hA⟩, h5, by rw [z]; exact h6, h7⟩
/-- a reference to an object of the class that the array's elements have -/
theorem aj_aast {r i x : Int} {t0 n ci : Nat} {rc : vw_C} (q : Nat) (hd : decode M.2.1 pc = .ok (.aastore, 1)) (hq : pc + 1 = q) (hs : aj_sh sh r = some (.inl (t0, n))) (hc : E.1[ci]? = some rc) (ht : E.2.1[t0]? = some (.object rc.1)) (hx : aj_sh sh x = some (.inr ci)) (h0 : 0 ≤ i) (hi : i < n) (k : aj_wp E al ao X M d bc bs q lv st sh (aj_up g r i x) Q) : aj_wp E al ao X M d bc bs pc lv ((1, x) :: (0, i) :: (1, r) :: st) sh g Q := by
  subst hq
  intro p l e R s m args below meth c H locs cells slots ls a tc D A hc0
  obtain ⟨h1, h2, h3, ⟨hP, hK, hD, hS, hA⟩, h5, h6, h7⟩ := hc0
  obtain ⟨hr0, hr1⟩ := aj_sh_get hs
  obtain ⟨hx0, hx1⟩ := aj_sh_get hx
  have hn := h6.2 _ _ _ hr1
  rw [List.map_cons, List.map_cons, List.map_cons, aj_cr hr0, aj_cr hx0]
  have hcl := aj_clamp h0 hi hn
  have hin := aj_in h0 hi hn
  have hlt : (Int32.ofInt i).toNatClampNeg < n := Nat.not_le.mp fun q => hin (Or.inr q)
  have hneg : ¬ Int32.ofInt i < 0 := fun q => hin (Or.inl q)
  obtain ⟨r', hr', cellV, g1, g2, g3, -⟩ := hP _ _ (aj_w_get (E := E) (tc := tc) (a := a) (g := g) hx)
  have hcls := (hK.1 ci rc hc).2
  obtain ⟨kA, comp, k1, k2, k3, -⟩ := (hK.2 t0 _ (aj_ty_at ht)).2
  have hcomp : comp = D.1 ci := Option.some.inj (k3.symm.trans hcls.1)
  subst hcomp
  obtain ⟨kC, hkC, -⟩ := hcls.2
  refine W.aast h1.1 h1.2.1 (aj_at (V := fun x => va_rf (aj_rf a x)) hP hs (aj_rowr ht rfl)) (fun q h => by cases h) (fun h => by cases h) k1 k2 rfl hkC ⟨hneg, by rw [arrV_size]; exact hlt⟩ g1 (fun q h => by rw [g3] at h; cases h) (by rw [g2]; exact hkC) (by rw [g2]; exact va_assign hcls) rfl rfl hd fun H1 e1 z oq => ?_
  have hV : (Value.ref (a x.toNat)) = va_rf (aj_rf a x) := by rw [aj_rfp hx0]; rfl
  rw [hcl, hV] at e1
  obtain ⟨hP2, hD2⟩ := aj_aset (V := fun x => va_rf (aj_rf a x)) hP hD hs (aj_rowr ht rfl) h0 e1 oq
  exact k p l e R s m args below meth c H1 _ cells slots ls a tc D A ⟨h1, h2, h3, ⟨hP2, hK, hD2, hS.put z oq (hD.2 _ _ (aj_w_get hs)), hA⟩, h5, by rw [z]; exact h6, h7⟩
theorem aj_alen {r : Int} {t0 n : Nat} {ty : FieldType} {nz : Int} (q : Nat) (hd : decode M.2.1 pc = .ok (.arraylength, 1)) (hq : pc + 1 = q) (hs : aj_sh sh r = some (.inl (t0, n))) (ht : E.2.1[t0]? = some ty) (hn : ((n : Nat) : Int) = nz) (k : aj_wp E al ao X M d bc bs q lv ((0, nz) :: st) sh g Q) : aj_wp E al ao X M d bc bs pc lv ((1, r) :: st) sh g Q := by
  subst hq
  subst hn
  intro p l e R s m args below meth c H locs cells slots ls a tc D A hc0
  have kk := k p l e R s m args below meth c H locs cells slots ls a tc D A hc0
  obtain ⟨h1, h2, h3, ⟨hP, hK, hD, hS, hA⟩, h5, h6, h7⟩ := hc0
  obtain ⟨hr0, hr1⟩ := aj_sh_get hs
  rw [List.map_cons, aj_cr hr0]
  have he := aj_w_get (E := E) (tc := tc) (a := a) (g := g) hs
  exact va_alen (v := Int32.ofInt (n : Nat)) h1.1 h1.2.1 hK hP r.toNat t0 he (aj_ty_at ht) Int32.ofInt_eq_ofNat.symm hd kk
theorem aj_sld {L : Nat} {xs : Int → Int} {i : Int} (q : Nat) (hd : decode M.2.1 pc = .ok (.iaload, 1)) (hq : pc + 1 = q) (hX : X = some (L, xs)) (h0 : 0 ≤ i) (hi : i < L) (k : aj_wp E al ao X M d bc bs q lv ((0, xs i) :: st) sh g Q) : aj_wp E al ao X M d bc bs pc lv ((0, i) :: (1, 1000000) :: st) sh g Q := by
  subst hq
  intro p l e R s m args below meth c H locs cells slots ls a tc D A hc0
  have kk := k p l e R s m args below meth c H locs cells slots ls a tc D A hc0
  obtain ⟨h1, h2, h3, ⟨hP, hK, hD, hS, hA⟩, h5, h6, h7⟩ := hc0
  obtain ⟨x1, x2, x3, x4⟩ := h7.2.1 _ hX
  rw [List.map_cons, List.map_cons, aj_cr (by omega : (0 : Int) ≤ 1000000)]
  have hcl := aj_clamp h0 hi x4
  refine va_sld (xs := fun j => Int32.ofInt (xs j)) h1.1 h1.2.1 x1 x2 x3 hS (aj_in h0 hi x4) hd ?_
  rw [hcl, Int.toNat_of_nonneg h0]
  exact kk
theorem aj_slen {L : Nat} {xs : Int → Int} {nz : Int} (q : Nat) (hd : decode M.2.1 pc = .ok (.arraylength, 1)) (hq : pc + 1 = q) (hX : X = some (L, xs)) (hn : ((L : Nat) : Int) = nz) (k : aj_wp E al ao X M d bc bs q lv ((0, nz) :: st) sh g Q) : aj_wp E al ao X M d bc bs pc lv ((1, 1000000) :: st) sh g Q := by
  subst hq
  subst hn
  intro p l e R s m args below meth c H locs cells slots ls a tc D A hc0
  have kk := k p l e R s m args below meth c H locs cells slots ls a tc D A hc0
  obtain ⟨h1, h2, h3, ⟨hP, hK, hD, hS, hA⟩, h5, h6, h7⟩ := hc0
  obtain ⟨x1, x2, x3, x4⟩ := h7.2.1 _ hX
  rw [List.map_cons, aj_cr (by omega : (0 : Int) ≤ 1000000)]
  refine va_slen h1.1 h1.2.1 x1 x2 x3 hS hd ?_
  rw [← Int32.ofInt_eq_ofNat]
  exact kk
end AJH
end
section
/-! the judgement: new cells, ends, calls -/
def aj_nw (g : aj_G) (r : Int) (f : Int → Int) : aj_G := fun r' => if r' = r then f else g r'
theorem aj_nw_self (g : aj_G) (r : Int) (f : Int → Int) : aj_nw g r f r = f := by simp [aj_nw]
theorem aj_nw_ne (g : aj_G) {r r' : Int} (f : Int → Int) (h : r' ≠ r) : aj_nw g r f r' = g r' := by simp [aj_nw, h]
def aj_nl0 (E : aj_E) (own : String) (index ci N : Nat) : Prop := ∃ (C : String) (T : u_T), E.1[ci]? = some (C, T, N) ∧ Cond.classLink own index C ∈ E.2.2.2.1 ∧ Cond.instantiable C N ∈ E.2.2.2.1 ∧ Cond.initialized C ∈ E.2.2.2.1
section AJC
variable {E : aj_E} {al ao : Prop} {X : Option (Nat × (Int → Int))} {M : aj_M} {d bc bs pc : Nat} {lv : List (Option aj_A)} {st : List aj_A} {sh : List aj_S} {g : aj_G} {Q : aj_R → List aj_S → aj_G → Prop}
theorem aj_push {tc a : Nat → Nat} {D : va_G} {A : Nat → Prop} {H H1 : Heap} {s : State} {locs : List Loc} {x : aj_S} {f : Int → Int} (hP : va_P D E.1 (aj_w E tc a sh g) H) (hD : va_D A (aj_w E tc a sh g)) (hS : va_S A s.heap H locs) (hA : ∀ q, s.heap.size ≤ q → A q) (ha : a sh.length = H.size)
    (hcell : va_at D E.1 (a sh.length, aj_cell E tc a x f) H1) (z1 : H1.size = H.size + 1) (o1 : ∀ q : Nat, q < H.size → H1[q]? = H[q]?) :
    va_P D E.1 (aj_w E tc a (sh ++ [x]) (aj_nw g sh.length f)) H1 ∧ va_D A (aj_w E tc a (sh ++ [x]) (aj_nw g sh.length f)) ∧ va_S A s.heap H1 locs := by
  have hk : ∀ (k : Nat) (y : Nat × va_E), (aj_w E tc a sh g)[k]? = some y → H1[y.1]? = H[y.1]? := fun k y hy => o1 y.1 ((hP k y hy).lt)
  have hpush := aj_w_push (E := E) (tc := tc) (a := a) (sh := sh) (g := g) (g' := aj_nw g sh.length f) (x := x) (c := aj_cell E tc a x f) (by rw [aj_nw_self]) (fun k hk => aj_nw_ne g f (by omega))
  rw [← hpush]
  refine ⟨(hP.kept hk).app (fun k y hy => ?_), hD.push hP ha (by rw [ha]; exact hA _ hS.1), ⟨Nat.le_trans hS.1 (by omega), fun q h1 h2 => (o1 q (Nat.lt_of_lt_of_le h1 hS.1)).trans (hS.2.1 q h1 h2), hS.2.2⟩⟩
  have hz : k < 1 := (List.getElem?_eq_some_iff.mp hy).1
  rw [show k = 0 by omega] at hy
  cases hy
  exact hcell
theorem aj_ph_push {a : Nat → Nat} {n : Nat} {x : aj_S} (h : aj_ph al sh a n) (hx : ∀ t k, x = .inl (t, k) → k < 2147483648) : aj_ph al (sh ++ [x]) a (n + 1) := by
  refine ⟨fun hal j hj => ?_, fun k t m hk => ?_⟩
  · rw [List.length_append, List.length_singleton] at hj ⊢
    have := h.1 hal (1 + j) (by omega)
    rw [show sh.length + 1 + j = sh.length + (1 + j) by omega, this]
    omega
  · by_cases hl : k < sh.length
    · rw [List.getElem?_append_left hl] at hk
      exact h.2 k t m hk
    · rw [List.getElem?_append_right (by omega)] at hk
      have hz : k - sh.length < 1 := (List.getElem?_eq_some_iff.mp hk).1
      rw [show k - sh.length = 0 by omega] at hk
      exact hx t m (by simpa using hk)
theorem aj_newa {atype : ArrayType} {ty : FieldType} {t0 : Nat} {n : Int} {N bc1 bs1 : Nat} (q : Nat) (hd : decode M.2.1 pc = .ok (.newarray atype, 2)) (hq : pc + 2 = q) (hty : newarray.typeOf atype = ty) (hty2 : ty = .int ∨ ty = .boolean ∨ ty = .long) (ht : E.2.1[t0]? = some ty) (hw : Cond.arrayClass ty ∈ E.2.2.2.1)
    (hN : ((N : Nat) : Int) = n) (hN2 : N ≤ 60000) (hbc : bc1 + 1 = bc) (hbs : bs1 + N = bs) (hal : al) (hsz : sh.length < 1000000) (k : aj_wp E al ao X M d bc1 bs1 q lv ((1, sh.length) :: st) (sh ++ [.inl (t0, N)]) (aj_nw g sh.length (fun _ => 0)) Q) : aj_wp E al ao X M d bc bs pc lv ((0, n) :: st) sh g Q := by
  subst hq
  subst hN
  subst hbc
  subst hbs
  subst hty
  intro p l e R s m args below meth c H locs cells slots ls a tc D A hc0
  obtain ⟨h1, h2, h3, ⟨hP, hK, hD, hS, hA⟩, h5, h6, h7⟩ := hc0
  have ha : a sh.length = H.size := by simpa using h6.1 hal 0 (by omega)
  have hI : aj_I (N : Nat) := ⟨by omega, by omega⟩
  have hnn : ¬ Int32.ofInt (N : Nat) < 0 := by rw [aj_0, aj_lt hI aj_I0]; omega
  have hcl : (Int32.ofInt (N : Nat)).toNatClampNeg = N := by
    show (Int32.ofInt (N : Nat)).toInt.toNat = N
    rw [aj_ti hI]; omega
  have hby : N * componentBytes (newarray.typeOf atype) ≤ 536870912 := by
    have : componentBytes (newarray.typeOf atype) ≤ 8 := by rcases hty2 with h | h | h <;> rw [h] <;> decide
    exact Nat.le_trans (Nat.mul_le_mul hN2 this) (by decide)
  rw [List.map_cons]
  refine va_newaK (n := Int32.ofInt (N : Nat)) (N := N) h1.1 h1.2.1 (h1.2.2.2.2 _ hw) rfl hd rfl hnn hcl hby (by omega) (by omega) rfl fun H1 cA e1 z1 o1 hAr hNm => ?_
  have hcA : tc t0 = cA := by
    have hR := (hK.2 t0 _ (aj_ty_at ht)).2
    have hR2 : s.vm.findClass ("[" ++ (newarray.typeOf atype).toString) = some (tc t0) := by
      rcases hty2 with h | h | h <;> (rw [h] at hR ⊢; exact hR)
    exact Option.some.inj (hR2.symm.trans hNm)
  have hcell : va_at D E.1 (a sh.length, aj_cell E tc a (.inl (t0, N)) (fun _ => 0)) H1 := by
    show H1[a sh.length]? = some (vp_cell (tc t0) (N, aj_row a E.2.1[t0]? (fun _ => 0)))
    rw [ha, e1, hcA, ht]
    rcases hty2 with h | h | h <;> rw [h] <;> rfl
  obtain ⟨hP2, hD2, hS2⟩ := aj_push hP hD hS hA ha hcell z1 o1
  have kk := k p l e R s m args below meth c H1 locs (cells + 1) (slots + N) ls a tc D A ⟨h1, h2, ⟨h3.1, h3.2.1, by omega, by omega⟩, ⟨hP2, hK, hD2, hS2, hA⟩, h5, by rw [z1]; exact aj_ph_push h6 (fun t k hx => by cases hx; omega), h7⟩
  rw [show cells + 1 + bc1 = cells + (bc1 + 1) by omega, show slots + N + bs1 = slots + (bs1 + N) by omega, List.map_cons, aj_cr (by omega), Int.toNat_natCast, ha] at kk
  exact kk
theorem aj_newo {index ci N bc1 bs1 : Nat} (q : Nat) (hf : aj_nl0 E M.1.cls index ci N) (hd : decode M.2.1 pc = .ok (.new index, 3)) (hq : pc + 3 = q) (hbc : bc1 + 1 = bc) (hbs : bs1 + N = bs) (hal : al) (hsz : sh.length < 1000000) (k : aj_wp E al ao X M d bc1 bs1 q lv ((1, sh.length) :: st) (sh ++ [.inr ci]) (aj_nw g sh.length (fun j => aj_dv (E.2.2.1 ci j.toNat))) Q) : aj_wp E al ao X M d bc bs pc lv st sh g Q := by
  subst hq
  subst hbc
  subst hbs
  intro p l e R s m args below meth c H locs cells slots ls a tc D A hc0
  obtain ⟨h1, h2, h3, ⟨hP, hK, hD, hS, hA⟩, h5, h6, h7⟩ := hc0
  obtain ⟨C, T, hc, hw1, hw2, hw3⟩ := hf
  have ha : a sh.length = H.size := by simpa using h6.1 hal 0 (by omega)
  have hKn := hK.1 ci _ hc
  obtain ⟨hin, hnm, ty0, htys, hkd⟩ := h7.1.2 ci _ hc
  have hts := h1.2.2.2.2
  refine W.newcK h1.1 h1.2.1 h1.2.2.2.1 (hts _ hw1) (hts _ hw2) (hts _ hw3) rfl hd (by omega) (by omega) hKn.2.1 rfl fun H1 kC hkC e1 z1 o1 => ?_
  have hcell : va_at D E.1 (a sh.length, aj_cell E tc a (.inr ci) (fun j => aj_dv (E.2.2.1 ci j.toNat))) H1 := by
    rw [ha]
    refine ⟨_, hc, (u_born ty0 hts hin hKn hkC e1 htys).to (fun j hj => ?_)⟩
    rw [aj_nf_of hc]
    show defaultValue (ty0 j) = vp_V _ j
    rw [aj_vpV hj]
    show defaultValue (ty0 j) = aj_c a (E.2.2.1 ci j, aj_dv (E.2.2.1 ci ((j : Nat) : Int).toNat))
    rw [Int.toNat_natCast, (hkd j hj).1]
    exact aj_dflt (hkd j hj).2
  obtain ⟨hP2, hD2, hS2⟩ := aj_push hP hD hS hA ha hcell z1 o1
  have kk := k p l e R s m args below meth c H1 locs (cells + 1) (slots + N) ls a tc D A ⟨h1, h2, ⟨h3.1, h3.2.1, by omega, by omega⟩, ⟨hP2, hK, hD2, hS2, hA⟩, h5, by rw [z1]; exact aj_ph_push h6 (fun t k hx => by cases hx), h7⟩
  rw [show cells + 1 + bc1 = cells + (bc1 + 1) by omega, show slots + N + bs1 = slots + (bs1 + N) by omega, List.map_cons, aj_cr (by omega), Int.toNat_natCast, ha] at kk
  exact kk
/-! ends -/
theorem aj_end {p : Program} {l : Launch} {e : Env} {R : Room} {s : State} {m : MethodId} {args : Array Value} {below : List Frame} {meth : Method} {c : Code} {H : Heap} {locs : List Loc} {cells slots : Nat} {ls : Array Slot} {a tc : Nat → Nat} {D : va_G} {A : Nat → Prop} {v : Option aj_A} {gf : JFrame}
    (hc : aj_cx E al X M d bc bs lv sh g a tc D A p l R s m args meth c H locs cells slots ls) (hq : Q (.inl v) sh g) (hao : ao → al)
    (k : W p l e R s m args below meth c H locs (cells + bc) (slots + bs) (MQ below (fun _ st o t => o = .returned (v.map (aj_c a)) ∧ t.heap = H ∧ s.WarmedH t.vm) args s (cells + bc) (slots + bs) A) gf) :
    W p l e R s m args below meth c H locs cells slots (aj_fin E ao a tc D A Q below s (cells + bc) (slots + bs)) gf := by
  obtain ⟨h1, h2, h3, ⟨hP, hK, hD, hS, hA⟩, h5, h6, h7⟩ := hc
  refine aj_monoW ?_ (W.widen (k := cells + bc) (n := slots + bs) (by omega) (by omega) k)
  rintro t ⟨o, e1, e2, ⟨rfl, ht, hW⟩, L, hF, hL⟩
  exact ⟨_, .inl v, sh, g, e1, e2, hq, rfl, by rw [ht]; exact hP, hD, hS.F ht, ⟨fun h => by rw [ht]; exact h6.1 (hao h), h6.2⟩, L, hF.2.1, hF.2.2, hL⟩
theorem aj_iret {x : Int} (hd : decode M.2.1 pc = .ok (.ireturn, 1)) (hr : M.2.2.2 = some .int) (hao : ao → al) (hq : Q (.inl (some (0, x))) sh g) : aj_wp E al ao X M d bc bs pc lv [(0, x)] sh g Q := by
  intro p l e R s m args below meth c H locs cells slots ls a tc D A hc0
  refine aj_end hc0 hq hao ?_
  obtain ⟨h1, h2, h3, ⟨hP, hK, hD, hS, hA⟩, h5, h6, h7⟩ := hc0
  exact W.iret (v := Int32.ofInt x) h1.1 h1.2.1 (h2.1.trans hr) (fun t ht hW => ⟨rfl, ht, hW⟩) hS.2.2 hd h2.2.1
theorem aj_zret {x : Int} (hd : decode M.2.1 pc = .ok (.ireturn, 1)) (hr : M.2.2.2 = some .boolean) (hx : x = 0 ∨ x = 1) (hao : ao → al) (hq : Q (.inl (some (0, x))) sh g) : aj_wp E al ao X M d bc bs pc lv [(0, x)] sh g Q := by
  intro p l e R s m args below meth c H locs cells slots ls a tc D A hc0
  refine aj_end hc0 hq hao ?_
  obtain ⟨h1, h2, h3, ⟨hP, hK, hD, hS, hA⟩, h5, h6, h7⟩ := hc0
  exact W.zret (v := Int32.ofInt x) h1.1 h1.2.1 (h2.1.trans hr) (by rcases hx with rfl | rfl <;> decide +kernel) (fun t ht hW => ⟨rfl, ht, hW⟩) hS.2.2 hd h2.2.1
theorem aj_lret {x : Int} (hd : decode M.2.1 pc = .ok (.lreturn, 1)) (hr : M.2.2.2 = some .long) (hao : ao → al) (hq : Q (.inl (some (2, x))) sh g) : aj_wp E al ao X M d bc bs pc lv [(2, x)] sh g Q := by
  intro p l e R s m args below meth c H locs cells slots ls a tc D A hc0
  refine aj_end hc0 hq hao ?_
  obtain ⟨h1, h2, h3, ⟨hP, hK, hD, hS, hA⟩, h5, h6, h7⟩ := hc0
  exact W.lret (v := Int64.ofInt x) h1.1 h1.2.1 (h2.1.trans hr) (fun t ht hW => ⟨rfl, ht, hW⟩) hS.2.2 hd h2.2.1
theorem aj_vret (hd : decode M.2.1 pc = .ok (.return_, 1)) (hr : M.2.2.2 = none) (hao : ao → al) (hq : Q (.inl none) sh g) : aj_wp E al ao X M d bc bs pc lv [] sh g Q := by
  intro p l e R s m args below meth c H locs cells slots ls a tc D A hc0
  refine aj_end hc0 hq hao ?_
  obtain ⟨h1, h2, h3, ⟨hP, hK, hD, hS, hA⟩, h5, h6, h7⟩ := hc0
  exact W.vret h1.1 h1.2.1 (h2.1.trans hr) (fun t ht hW => ⟨rfl, ht, hW⟩) hS.2.2 hd h2.2.1
theorem aj_objInit {r : Int} {index : Nat} (q : Nat) (hw : Cond.methodLink M.1.cls index Lib.objectInit ∈ E.2.2.2.1 ∧ Cond.instanceMethod Lib.objectInit ∈ E.2.2.2.1 ∧ Cond.code Lib.objectInit ⟨#[0xb1]⟩ 1 none ∈ E.2.2.2.1) (hd : decode M.2.1 pc = .ok (.invokespecial index, 3)) (hq : pc + 3 = q) (h0 : 0 ≤ r) (hdd : 1 ≤ d) (k : aj_wp E al ao X M d bc bs q lv [] sh g Q) : aj_wp E al ao X M d bc bs pc lv [(1, r)] sh g Q := by
  subst hq
  intro p l e R s m args below meth c H locs cells slots ls a tc D A hc0
  have kk := k p l e R s m args below meth c H locs cells slots ls a tc D A hc0
  obtain ⟨h1, h2, h3, ⟨hP, hK, hD, hS, hA⟩, h5, h6, h7⟩ := hc0
  have hts := h1.2.2.2.2
  rw [List.map_cons, aj_cr h0]
  refine W.objInit h1.1 h1.2.1 h1.2.2.2.1 (hts _ hw.1) (hts _ hw.2.1) (hts _ hw.2.2) rfl (by rw [h1.2.2.1]; exact h5.2.1) rfl hd (by omega) ?_ kk
  show 2 * 0 + 0 + 12 ≤ _
  omega
end AJC
end
section
/-! the judgement: calls -/
def aj_wt : List aj_A → Nat
  | [] => 0
  | v :: vs => (if v.1 < 2 then 1 else 2) + aj_wt vs
theorem aj_wt_eq {a : Nat → Nat} : ∀ st : List aj_A, ((st.map (aj_c a)).map fun v => v.category).sum = aj_wt st
  | [] => rfl
  | v :: vs => by
    rw [List.map_cons, List.map_cons, List.sum_cons, aj_wt_eq vs]
    show _ = (if v.1 < 2 then 1 else 2) + aj_wt vs
    by_cases h : v.1 < 2
    · rw [if_pos h, aj_cat h]
    · rw [if_neg h, aj_cat2 h]
def aj_ws (E : aj_E) (M : aj_M) : List Cond := Cond.code M.1 M.2.1 M.2.2.1 M.2.2.2 :: E.2.2.2.1
def aj_rm (d bc bs : Nat) : Room := { frames := d + 2, cells := bc, slots := bs, locals := 48 * d }
def aj_Pc (E : aj_E) (al : Prop) (X : Option (Nat × (Int → Int))) (vs : List aj_A) (sh : List aj_S) (g : aj_G) (a tc : Nat → Nat) (D : va_G) (A : Nat → Prop) : Array Value → State → Prop := va_Pc (vs.map (aj_c a)) (fun U =>
  va_P D E.1 (aj_w E tc a sh g) U.heap ∧ va_K D E.1 (aj_ty tc E.2.1) U ∧ va_D A (aj_w E tc a sh g) ∧ (∀ q, U.heap.size ≤ q → A q) ∧ aj_ph al sh a U.heap.size ∧ aj_good E ∧ aj_xs E X a A U)
def aj_Qc (E : aj_E) (al : Prop) (a tc : Nat → Nat) (D : va_G) (A : Nat → Prop) (Q : aj_R → List aj_S → aj_G → Prop) : Array Value → State → Outcome → State → Prop := fun _ st o t =>
  ∃ (v : Option aj_A) (sh : List aj_S) (g : aj_G), o = .returned (v.map (aj_c a)) ∧ Q (.inl v) sh g ∧ va_P D E.1 (aj_w E tc a sh g) t.heap ∧ va_D A (aj_w E tc a sh g) ∧ va_F A st t ∧ aj_ph al sh a t.heap.size
theorem aj_th_same {A : Nat → Prop} {U : State} {g : JFrame} {mk : MethodId} {w : Array Value} (h : aj_th A U) : aj_th A (U.calling g mk w) :=
  ⟨fun x hx => va_Nw.same rfl rfl (h.1 x hx), fun x hx => va_Nw.same rfl rfl (h.2.1 x hx), h.2.2.1, h.2.2.2.1, h.2.2.2.2.1, fun ty hy => h.2.2.2.2.2 ty hy⟩
theorem aj_zs_at {n d : String} {A : Nat → Prop} {s U : State} {H : Heap} {locs : List Loc} (h : aj_zs n d A s s.heap) (hS : va_S A s.heap H locs) (hU : U.heap = H) (hW : s.vm.Alike U.vm) : aj_zs n d A U U.heap := by
  obtain ⟨b, cell, h1, h2, h3⟩ := h
  have hb : U.heap[b]? = some cell := by rw [hU, hS.2.1 b (Array.getElem?_eq_some_iff.mp h1).1 h2]; exact h1
  exact ⟨b, cell, hb, h2, fun V w hV hc => h3 V w (hW.trans hV) hc⟩
theorem aj_ao_at {ty : FieldType} {s U : State} (hW : s.vm.Alike U.vm) (h : va_Nw (.arrayOver ty) s) : va_Nw (.arrayOver ty) U := by
  have h1 : (Cond.arrayOver ty).before #[] (s.setVm U.vm) = true := by rw [Cond.arrayOver_setVmC hW]; exact h
  exact h1
theorem aj_th_at {A : Nat → Prop} {s U : State} {H : Heap} {locs : List Loc} (h : aj_th A s) (hS : va_S A s.heap H locs) (hU : U.heap = H) (hW : s.WarmedH U.vm) : aj_th A U :=
  ⟨fun x hx => va_Nw.warmD hW (h.1 x hx), fun x hx => va_Nw.warmC hW (h.2.1 x hx), fun x hx y hy hn => va_Nc.moved hW.alike (h.2.2.1 x hx y hy hn), aj_zs_at h.2.2.2.1 hS hU hW.alike, aj_zs_at h.2.2.2.2.1 hS hU hW.alike, fun ty hy => aj_ao_at hW.alike (h.2.2.2.2.2 ty hy)⟩
theorem aj_blind {E : aj_E} {al : Prop} {X : Option (Nat × (Int → Int))} {vs : List aj_A} {sh : List aj_S} {g : aj_G} {a tc : Nat → Nat} {D : va_G} {A : Nat → Prop} : FrameBlind (aj_Pc E al X vs sh g a tc D A) := by
  intro a' U g' mk q
  obtain ⟨q0, q1, q2, q3, q4, q5, q6, q7⟩ := q
  exact ⟨q0, q1, va_K.moved (u := U) (U := U.calling g' mk a') (Vm.Alike.refl U.vm) q2, q3, q4, q5, q6, fun y hy => ⟨va_X.moved (u := U) (U := U.calling g' mk a') (Vm.Alike.refl U.vm) (q7.1 y hy).1, (q7.1 y hy).2⟩, fun w hw => va_Nw.same rfl rfl (q7.2.1 w hw), aj_th_same q7.2.2⟩
section AJK
variable {E : aj_E} {al ao : Prop} {X : Option (Nat × (Int → Int))} {M : aj_M} {d bc bs pc : Nat} {lv : List (Option aj_A)} {st : List aj_A} {sh : List aj_S} {g : aj_G} {Q : aj_R → List aj_S → aj_G → Prop}
theorem aj_en_len {vs : List aj_A} {n : Nat} (h : (aj_ea vs).length ≤ n) : (aj_en vs n).length = n := by
  unfold aj_en
  rw [List.length_append, List.length_replicate]
  omega
theorem aj_met {l : Launch} {vs : List aj_A} (hst : l.stackTraces = false) (hy : plainName M.1.cls = true) (htb : aj_tb M.1 = []) (hlen : Nat.ble (aj_ea vs).length M.2.2.1 = true) (hret : ∀ r sh g, Q r sh g → ∃ v, r = .inl v) (k : aj_wp E al al X M d bc bs 0 (aj_en vs M.2.2.1) [] sh g Q) (a tc : Nat → Nat) (D : va_G) (A : Nat → Prop) :
    Met l M.1 (aj_ws E M) (aj_rm d bc bs) (aj_Pc E al X vs sh g a tc D A) (aj_Qc E al a tc D A Q) bc bs A := by
  refine Met.ofW (cc := M.2.1) (maxL := M.2.2.1) (ret := M.2.2.2) hy rfl ?_
  intro p e s m args below meth c s₁ B hml hv
  obtain ⟨rfl, hP, hK, hD, hA, h6, h7⟩ := hv
  have hts := atoms_spec (ws := aj_ws E M) B.pre
  have hle : (aj_ea vs).length ≤ M.2.2.1 := Nat.le_of_ble_eq_true hlen
  have hT : c.exceptionTable.toList.map (fun h => (h.startPc, h.endPc, h.handlerPc, h.catchType)) = aj_tb M.1 := by
    obtain ⟨meth', c', g1, g2, -, -, -, -, g3, -⟩ := Cond.code_spec B.named (hts _ List.mem_cons_self)
    have e1 : meth' = meth := Option.some.inj (g1.symm.trans B.method)
    subst e1
    have e2 : c' = c := Option.some.inj (g2.symm.trans (Stand.of_body B).code)
    subst e2
    rw [htb, Array.isEmpty_iff.mp g3]
    rfl
  have hl := lv_entry (vs.map (aj_c a)) (n := M.2.2.1) (by rw [aj_ea_len]; exact hle)
  rw [lg_entry_eq]
  generalize (lg_sl (vs.map (aj_c a)) ++ List.replicate (M.2.2.1 - (lg_sl (vs.map (aj_c a))).length) Slot.unset).toArray = ls at hl ⊢
  have hW := k p l e (aj_rm d bc bs) s m (vs.map (aj_c a)).toArray below meth c s.heap [] 0 0 ls a tc D A
    ⟨⟨B.exec, B.bytes, hml, findClass_of_methodNamed B.named, fun w hw => hts w (List.mem_cons_of_mem _ hw)⟩, ⟨B.returns, B.notSynchronized, (name_of_methodNamed B.named B.method).1, hT, hst⟩, ⟨Nat.le_refl _, Nat.le_refl _, by show 0 + bc ≤ bc; omega, by show 0 + bs ≤ bs; omega⟩, ⟨hP, hK, hD, va_S.rf, hA⟩, ⟨aj_en_len hle, aj_entry hl⟩, h6, h7⟩
  refine aj_monoW ?_ hW
  rintro t ⟨o, r, sh1, g1, e1, e2, e3, e4, e5, e6, e7, e8, L, e9, e10, e11⟩
  obtain ⟨v, rfl⟩ := hret _ _ _ e3
  rw [Nat.zero_add, Nat.zero_add] at e10
  exact ⟨o, e1, e2, ⟨v, sh1, g1, e4, e3, e5, e6, e7, e8⟩, L, ⟨⟨_, e4⟩, e9, e10⟩, e11⟩
def aj_K (E : aj_E) (al ao : Prop) (X : Option (Nat × (Int → Int))) (M : aj_M) (d bc bs q : Nat) (lv : List (Option aj_A)) (rest : List aj_A) (Q : aj_R → List aj_S → aj_G → Prop) : aj_R → List aj_S → aj_G → Prop := fun r sh g => match r with
  | .inl none => aj_wp E al ao X M d bc bs q lv rest sh g Q
  | .inl (some v) => aj_wp E al ao X M d bc bs q lv (v :: rest) sh g Q
  | .inr _ => False
theorem aj_K_inl {q : Nat} {rest : List aj_A} {v : Option aj_A} (h : aj_K E al ao X M d bc bs q lv rest Q (.inl v) sh g) : aj_wp E al ao X M d bc bs q lv (v.toList ++ rest) sh g Q := by
  cases v <;> exact h
theorem aj_K_ret {q : Nat} {rest : List aj_A} (r : aj_R) (sh : List aj_S) (g : aj_G) (h : aj_K E al ao X M d bc bs q lv rest Q r sh g) : ∃ v, r = .inl v := by
  cases r with
  | inl v => exact ⟨v, rfl⟩
  | inr k => exact False.elim h
theorem aj_after {p : Program} {l : Launch} {e : Env} {R : Room} {s : State} {m : MethodId} {args : Array Value} {below : List Frame} {meth : Method} {c : Code} {H : Heap} {locs : List Loc} {cells slots : Nat} {ls : Array Slot} {a tc : Nat → Nat} {D : va_G} {A : Nat → Prop} {bc1 bs1 bc2 bs2 : Nat} {rest : List aj_A} {st0 : List Value} {argsA : Array Value}
    (hc0 : aj_cx E al X M d bc bs lv sh g a tc D A p l R s m args meth c H locs cells slots ls) (hbc : bc2 + bc1 = bc) (hbs : bs2 + bs1 = bs)
    (hr : va_Run p l e R s m args below meth c H locs cells slots bc1 bs1 (F0 m pc ls st0) (rest.map (aj_c a)) (aj_Qc E al a tc D A (aj_K E al ao X M d bc2 bs2 (pc + 3) lv rest Q) argsA) A) :
    W p l e R s m args below meth c H locs cells slots (aj_fin E ao a tc D A Q below s (cells + bc) (slots + bs)) (F0 m pc ls st0) := by
  subst hbc
  subst hbs
  obtain ⟨h1, h2, h3, ⟨hP, hK, hD, hS, hA⟩, h5, h6, h7⟩ := hc0
  intro T hT X0
  obtain ⟨v, st₀, t, T', L, e0, X', hL, e1, e2, ⟨v1, sh1, g1, ev, k0, hP1, hD1, hF1, hph⟩, stp⟩ := hr T hT X0
  have k := aj_K_inl k0
  have hv : v = v1.map (aj_c a) := by injection ev
  subst hv
  have hS1 : va_S A s.heap T'.heap (locs ++ L) := ⟨Nat.le_trans hS.1 (by rw [e1, ← e0]; exact hF1.1), fun q q1 q2 => by rw [e1, hF1.2 q (by rw [e0]; exact Nat.lt_of_lt_of_le q1 hS.1) q2, e0]; exact hS.2.1 q q1 q2, fun q hq => (List.mem_append.mp hq).elim (hS.2.2 q) (hL q)⟩
  have kk := k p l e R s m args below meth c T'.heap (locs ++ L) (cells + bc1) (slots + bs1) ls a tc D A ⟨h1, h2, ⟨h3.1, h3.2.1, by omega, by omega⟩, ⟨by rw [e1]; exact hP1, hK, hD1, hS1, hA⟩, h5, by rw [e1]; exact hph, h7⟩
  rw [show cells + bc1 + bc2 = cells + (bc2 + bc1) by omega, show slots + bs1 + bs2 = slots + (bs2 + bs1) by omega, show (v1.toList ++ rest).map (aj_c a) = (v1.map (aj_c a)).toList ++ rest.map (aj_c a) by cases v1 <;> simp] at kk
  obtain ⟨t2, a1, b1⟩ := kk T' rfl X'
  exact ⟨t2, stp t2 a1, b1⟩
def aj_cl0 (E : aj_E) (own : String) (index : Nat) (N : aj_M) (n : Nat) : Prop := Cond.methodLink own index N.1 ∈ E.2.2.2.1 ∧ Cond.code N.1 N.2.1 N.2.2.1 N.2.2.2 ∈ E.2.2.2.1 ∧ Cond.initialized N.1.cls ∈ E.2.2.2.1 ∧
  (N.1.cls ≠ "java/lang/invoke/MethodHandle" ∧ N.1.cls ≠ "java/lang/invoke/VarHandle" ∧ (parseMethodDescriptor N.1.desc).map (fun d => d.parameters.length) = some n) ∧ N.2.2.1 ≤ 29 ∧ plainName N.1.cls = true ∧ aj_tb N.1 = []
def aj_vl (E : aj_E) (own : String) (index : Nat) (N : aj_M) (n ci : Nat) : Prop := aj_cl0 E own index N n ∧ Cond.instanceMethod N.1 ∈ E.2.2.2.1 ∧ Cond.selects N.1.cls N.1 N.1 ∈ E.2.2.2.1 ∧ ∃ q : vw_C, E.1[ci]? = some q ∧ q.1 = N.1.cls
def aj_sl (E : aj_E) (own : String) (index : Nat) (N : aj_M) (n : Nat) : Prop := aj_cl0 E own index N n ∧ Cond.static N.1 ∈ E.2.2.2.1
def aj_il (E : aj_E) (own : String) (index : Nat) (N : aj_M) (n : Nat) : Prop := aj_cl0 E own index N n ∧ Cond.instanceMethod N.1 ∈ E.2.2.2.1 ∧ N.1.name = "<init>" ∧ N.2.2.2 = none
theorem aj_cb {own : String} {index n d1 bc1 bs1 : Nat} {N : aj_M} {R : Room} {s : State} {args : Array Value} (hl : aj_cl0 E own index N n) (hE : aj_good E) (hts : ∀ w ∈ E.2.2.2.1, w.before args s = true) (hf : d1 + 1 + 2 ≤ R.frames) (hlo : 48 * (d1 + 1) ≤ R.locals) : CallB R s args own index N.1 N.2.1 N.2.2.1 N.2.2.2 (aj_ws E N) (aj_rm d1 bc1 bs1) bc1 bs1 n := by
  obtain ⟨w1, w2, w3, ⟨w4, w5, w6⟩, w7, -⟩ := hl
  refine ⟨rfl, rfl, by show d1 + 2 + 1 ≤ R.frames; omega, ?_, pay_in hts (fun w hw => ?_), List.mem_cons_self, hts _ w2, hts _ w3, ⟨w4, w5⟩, fun sig h => ?_, hts _ w1⟩
  · show 8 + (N.2.2.1 + 11) + 48 * d1 ≤ R.locals
    omega
  · rcases List.mem_cons.mp hw with rfl | h
    · exact ⟨w2, hE.1 _ w2⟩
    · exact ⟨h, hE.1 _ h⟩
  · rw [h] at w6
    exact (Option.some.inj w6).symm
theorem aj_xs_at {a : Nat → Nat} {A : Nat → Prop} {s U : State} {H : Heap} {locs : List Loc} (h : aj_xs E X a A s) (hS : va_S A s.heap H locs) (hU : U.heap = H) (hW : s.WarmedH U.vm) : aj_xs E X a A U := by
  refine ⟨fun y hy => ?_, fun w hw => va_Nw.warmM hW (h.2.1 w hw), aj_th_at h.2.2 hS hU hW⟩
  obtain ⟨x1, x2, x3, x4⟩ := h.1 y hy
  refine ⟨?_, by rw [hU]; exact Nat.lt_of_lt_of_le x2 hS.1, x3, x4⟩
  rw [hU]
  exact va_X.moved hW.alike (x1.kept (hS.2.1 _ x2 x3))
theorem aj_callV {N : aj_M} {index n ci d1 bc1 bs1 bc2 bs2 : Nat} {r : Int} {rest : List aj_A} (vs : List aj_A) (q : Nat) (hl : aj_vl E M.1.cls index N n ci) (hd : decode M.2.1 pc = .ok (.invokevirtual index, 3)) (hq : pc + 3 = q) (hn : vs.length = n) (hdd : d1 + 1 = d) (hbc : bc2 + bc1 = bc) (hbs : bs2 + bs1 = bs) (hwt : Nat.ble (aj_wt rest) 8 = true) (hea : Nat.ble (aj_ea ((1, r) :: vs)).length N.2.2.1 = true)
    (hs : aj_sh sh r = some (.inr ci)) (k : aj_wp E al al X N d1 bc1 bs1 0 (aj_en ((1, r) :: vs) N.2.2.1) [] sh g (aj_K E al ao X M d bc2 bs2 q lv rest Q)) : aj_wp E al ao X M d bc bs pc lv (vs.reverse ++ (1, r) :: rest) sh g Q := by
  subst hq
  intro p l e R s m args below meth c H locs cells slots ls a tc D A hc0
  have hM := aj_met (l := l) hc0.2.1.2.2.2.2 hl.1.2.2.2.2.2.1 hl.1.2.2.2.2.2.2 hea aj_K_ret k a tc D A
  obtain ⟨h0, -⟩ := aj_sh_get hs
  refine aj_after (rest := rest) (argsA := (Value.ref (a r.toNat) :: vs.map (aj_c a)).toArray) (st0 := (vs.reverse ++ (1, r) :: rest).map (aj_c a)) hc0 hbc hbs ?_
  obtain ⟨h1, h2, h3, ⟨hP, hK, hD, hS, hA⟩, h5, h6, h7⟩ := hc0
  have hts := h1.2.2.2.2
  subst hdd
  have hcb := aj_cb (bc1 := bc1) (bs1 := bs1) hl.1 h7.1 hts h3.1 (by omega)
  obtain ⟨rc, hrc, hrn⟩ := hl.2.2.2
  refine va_runV (As := vs.map (aj_c a)) (b := a r.toNat) (C := N.1.cls) h1 hM ⟨hcb, hts _ hl.2.1, hts _ hl.2.2.1⟩ ⟨aj_blind, ?_, fun U hU hW => ?_⟩ rfl (by rw [List.length_map]; exact hn) h5.2.1 ?_ (lv_room (by rw [aj_wt_eq]; exact Nat.le_of_ble_eq_true hwt)) hd ⟨by omega, by omega⟩
  · rw [← hrn]
    exact va_recv hK hP hrc (aj_w_get (E := E) (tc := tc) (a := a) (g := g) hs)
  · refine ⟨by rw [List.map_cons, aj_cr h0], by rw [hU]; exact hP, va_K.moved hW.alike hK, hD, fun q hq => hA q (by rw [hU] at hq; exact Nat.le_trans hS.1 hq), by rw [hU]; exact h6, h7.1, aj_xs_at h7.2 hS hU hW⟩
  · show (vs.reverse ++ (1, r) :: rest).map (aj_c a) = _
    rw [List.map_append, List.map_reverse, List.map_cons, aj_cr h0]
theorem aj_callS {N : aj_M} {index n d1 bc1 bs1 bc2 bs2 : Nat} {rest : List aj_A} (vs : List aj_A) (q : Nat) (hl : aj_sl E M.1.cls index N n) (hd : decode M.2.1 pc = .ok (.invokestatic index, 3)) (hq : pc + 3 = q) (hn : vs.length = n) (hdd : d1 + 1 = d) (hbc : bc2 + bc1 = bc) (hbs : bs2 + bs1 = bs) (hwt : Nat.ble (aj_wt rest) 8 = true) (hea : Nat.ble (aj_ea vs).length N.2.2.1 = true)
    (k : aj_wp E al al X N d1 bc1 bs1 0 (aj_en vs N.2.2.1) [] sh g (aj_K E al ao X M d bc2 bs2 q lv rest Q)) : aj_wp E al ao X M d bc bs pc lv (vs.reverse ++ rest) sh g Q := by
  subst hq
  intro p l e R s m args below meth c H locs cells slots ls a tc D A hc0
  have hM := aj_met (l := l) hc0.2.1.2.2.2.2 hl.1.2.2.2.2.2.1 hl.1.2.2.2.2.2.2 hea aj_K_ret k a tc D A
  refine aj_after (rest := rest) (argsA := (vs.map (aj_c a)).toArray) (st0 := (vs.reverse ++ rest).map (aj_c a)) hc0 hbc hbs ?_
  obtain ⟨h1, h2, h3, ⟨hP, hK, hD, hS, hA⟩, h5, h6, h7⟩ := hc0
  have hts := h1.2.2.2.2
  subst hdd
  have hcb := aj_cb (bc1 := bc1) (bs1 := bs1) hl.1 h7.1 hts h3.1 (by omega)
  refine va_runS (As := vs.map (aj_c a)) h1 hM ⟨hcb, hts _ hl.2⟩ ⟨aj_blind, fun U hU hW => ?_⟩ rfl (by rw [List.length_map]; exact hn) h5.2.1 ?_ (lv_room (by rw [aj_wt_eq]; exact Nat.le_of_ble_eq_true hwt)) hd ⟨by omega, by omega⟩
  · refine ⟨rfl, by rw [hU]; exact hP, va_K.moved hW.alike hK, hD, fun q hq => hA q (by rw [hU] at hq; exact Nat.le_trans hS.1 hq), by rw [hU]; exact h6, h7.1, aj_xs_at h7.2 hS hU hW⟩
  · show (vs.reverse ++ rest).map (aj_c a) = _
    rw [List.map_append, List.map_reverse]
theorem aj_callI {N : aj_M} {index n d1 bc1 bs1 bc2 bs2 : Nat} {r : Int} {rest : List aj_A} (vs : List aj_A) (q : Nat) (hl : aj_il E M.1.cls index N n) (hd : decode M.2.1 pc = .ok (.invokespecial index, 3)) (hq : pc + 3 = q) (hn : vs.length = n) (hdd : d1 + 1 = d) (hbc : bc2 + bc1 = bc) (hbs : bs2 + bs1 = bs) (hwt : Nat.ble (aj_wt rest) 8 = true) (hea : Nat.ble (aj_ea ((1, r) :: vs)).length N.2.2.1 = true) (h0 : 0 ≤ r)
    (k : aj_wp E al al X N d1 bc1 bs1 0 (aj_en ((1, r) :: vs) N.2.2.1) [] sh g (aj_K E al ao X M d bc2 bs2 q lv rest Q)) : aj_wp E al ao X M d bc bs pc lv (vs.reverse ++ (1, r) :: rest) sh g Q := by
  subst hq
  intro p l e R s m args below meth c H locs cells slots ls a tc D A hc0
  have hM := aj_met (l := l) hc0.2.1.2.2.2.2 hl.1.2.2.2.2.2.1 hl.1.2.2.2.2.2.2 hea aj_K_ret k a tc D A
  refine aj_after (rest := rest) (argsA := (Value.ref (a r.toNat) :: vs.map (aj_c a)).toArray) (st0 := (vs.reverse ++ (1, r) :: rest).map (aj_c a)) hc0 hbc hbs ?_
  obtain ⟨h1, h2, h3, ⟨hP, hK, hD, hS, hA⟩, h5, h6, h7⟩ := hc0
  have hts := h1.2.2.2.2
  subst hdd
  have hcb := aj_cb (bc1 := bc1) (bs1 := bs1) hl.1 h7.1 hts h3.1 (by omega)
  rw [hl.2.2.2] at hcb
  refine va_runI (As := vs.map (aj_c a)) (b := a r.toNat) h1 hM ⟨hcb, hl.2.2.1, hts _ hl.2.1⟩ ⟨aj_blind, fun U hU hW => ?_⟩ rfl (by rw [List.length_map]; exact hn) h5.2.1 ?_ (lv_room (by rw [aj_wt_eq]; exact Nat.le_of_ble_eq_true hwt)) hd ⟨by omega, by omega⟩
  · refine ⟨by rw [List.map_cons, aj_cr h0], by rw [hU]; exact hP, va_K.moved hW.alike hK, hD, fun q hq => hA q (by rw [hU] at hq; exact Nat.le_trans hS.1 hq), by rw [hU]; exact h6, h7.1, aj_xs_at h7.2 hS hU hW⟩
  · show (vs.reverse ++ (1, r) :: rest).map (aj_c a) = _
    rw [List.map_append, List.map_reverse, List.map_cons, aj_cr h0]
theorem aj_callV0 {N : aj_M} {index ci d1 bc1 bs1 bc2 bs2 : Nat} {r : Int} {rest : List aj_A} (q : Nat) (hl : aj_vl E M.1.cls index N 0 ci) (hd : decode M.2.1 pc = .ok (.invokevirtual index, 3)) (hq : pc + 3 = q) (hdd : d1 + 1 = d) (hbc : bc2 + bc1 = bc) (hbs : bs2 + bs1 = bs) (hwt : Nat.ble (aj_wt rest) 8 = true) (hea : Nat.ble (aj_ea [(1, r)]).length N.2.2.1 = true)
    (hs : aj_sh sh r = some (.inr ci)) (k : aj_wp E al al X N d1 bc1 bs1 0 (aj_en [(1, r)] N.2.2.1) [] sh g (aj_K E al ao X M d bc2 bs2 q lv rest Q)) : aj_wp E al ao X M d bc bs pc lv ((1, r) :: rest) sh g Q :=
  aj_callV [] q hl hd hq rfl hdd hbc hbs hwt hea hs k
theorem aj_callV1 {N : aj_M} {index ci d1 bc1 bs1 bc2 bs2 : Nat} {r : Int} {rest : List aj_A} {v1 : aj_A} (q : Nat) (hl : aj_vl E M.1.cls index N 1 ci) (hd : decode M.2.1 pc = .ok (.invokevirtual index, 3)) (hq : pc + 3 = q) (hdd : d1 + 1 = d) (hbc : bc2 + bc1 = bc) (hbs : bs2 + bs1 = bs) (hwt : Nat.ble (aj_wt rest) 8 = true) (hea : Nat.ble (aj_ea [(1, r), v1]).length N.2.2.1 = true)
    (hs : aj_sh sh r = some (.inr ci)) (k : aj_wp E al al X N d1 bc1 bs1 0 (aj_en [(1, r), v1] N.2.2.1) [] sh g (aj_K E al ao X M d bc2 bs2 q lv rest Q)) : aj_wp E al ao X M d bc bs pc lv (v1 :: (1, r) :: rest) sh g Q :=
  aj_callV [v1] q hl hd hq rfl hdd hbc hbs hwt hea hs k
theorem aj_callV2 {N : aj_M} {index ci d1 bc1 bs1 bc2 bs2 : Nat} {r : Int} {rest : List aj_A} {v1 v2 : aj_A} (q : Nat) (hl : aj_vl E M.1.cls index N 2 ci) (hd : decode M.2.1 pc = .ok (.invokevirtual index, 3)) (hq : pc + 3 = q) (hdd : d1 + 1 = d) (hbc : bc2 + bc1 = bc) (hbs : bs2 + bs1 = bs) (hwt : Nat.ble (aj_wt rest) 8 = true) (hea : Nat.ble (aj_ea [(1, r), v1, v2]).length N.2.2.1 = true)
    (hs : aj_sh sh r = some (.inr ci)) (k : aj_wp E al al X N d1 bc1 bs1 0 (aj_en [(1, r), v1, v2] N.2.2.1) [] sh g (aj_K E al ao X M d bc2 bs2 q lv rest Q)) : aj_wp E al ao X M d bc bs pc lv (v2 :: v1 :: (1, r) :: rest) sh g Q :=
  aj_callV [v1, v2] q hl hd hq rfl hdd hbc hbs hwt hea hs k
theorem aj_callV3 {N : aj_M} {index ci d1 bc1 bs1 bc2 bs2 : Nat} {r : Int} {rest : List aj_A} {v1 v2 v3 : aj_A} (q : Nat) (hl : aj_vl E M.1.cls index N 3 ci) (hd : decode M.2.1 pc = .ok (.invokevirtual index, 3)) (hq : pc + 3 = q) (hdd : d1 + 1 = d) (hbc : bc2 + bc1 = bc) (hbs : bs2 + bs1 = bs) (hwt : Nat.ble (aj_wt rest) 8 = true) (hea : Nat.ble (aj_ea [(1, r), v1, v2, v3]).length N.2.2.1 = true)
    (hs : aj_sh sh r = some (.inr ci)) (k : aj_wp E al al X N d1 bc1 bs1 0 (aj_en [(1, r), v1, v2, v3] N.2.2.1) [] sh g (aj_K E al ao X M d bc2 bs2 q lv rest Q)) : aj_wp E al ao X M d bc bs pc lv (v3 :: v2 :: v1 :: (1, r) :: rest) sh g Q :=
  aj_callV [v1, v2, v3] q hl hd hq rfl hdd hbc hbs hwt hea hs k
theorem aj_callV4 {N : aj_M} {index ci d1 bc1 bs1 bc2 bs2 : Nat} {r : Int} {rest : List aj_A} {v1 v2 v3 v4 : aj_A} (q : Nat) (hl : aj_vl E M.1.cls index N 4 ci) (hd : decode M.2.1 pc = .ok (.invokevirtual index, 3)) (hq : pc + 3 = q) (hdd : d1 + 1 = d) (hbc : bc2 + bc1 = bc) (hbs : bs2 + bs1 = bs) (hwt : Nat.ble (aj_wt rest) 8 = true) (hea : Nat.ble (aj_ea [(1, r), v1, v2, v3, v4]).length N.2.2.1 = true)
    (hs : aj_sh sh r = some (.inr ci)) (k : aj_wp E al al X N d1 bc1 bs1 0 (aj_en [(1, r), v1, v2, v3, v4] N.2.2.1) [] sh g (aj_K E al ao X M d bc2 bs2 q lv rest Q)) : aj_wp E al ao X M d bc bs pc lv (v4 :: v3 :: v2 :: v1 :: (1, r) :: rest) sh g Q :=
  aj_callV [v1, v2, v3, v4] q hl hd hq rfl hdd hbc hbs hwt hea hs k
theorem aj_callS0 {N : aj_M} {index d1 bc1 bs1 bc2 bs2 : Nat} {rest : List aj_A} (q : Nat) (hl : aj_sl E M.1.cls index N 0) (hd : decode M.2.1 pc = .ok (.invokestatic index, 3)) (hq : pc + 3 = q) (hdd : d1 + 1 = d) (hbc : bc2 + bc1 = bc) (hbs : bs2 + bs1 = bs) (hwt : Nat.ble (aj_wt rest) 8 = true) (hea : Nat.ble (aj_ea []).length N.2.2.1 = true)
    (k : aj_wp E al al X N d1 bc1 bs1 0 (aj_en [] N.2.2.1) [] sh g (aj_K E al ao X M d bc2 bs2 q lv rest Q)) : aj_wp E al ao X M d bc bs pc lv rest sh g Q :=
  aj_callS [] q hl hd hq rfl hdd hbc hbs hwt hea k
theorem aj_callS1 {N : aj_M} {index d1 bc1 bs1 bc2 bs2 : Nat} {rest : List aj_A} {v1 : aj_A} (q : Nat) (hl : aj_sl E M.1.cls index N 1) (hd : decode M.2.1 pc = .ok (.invokestatic index, 3)) (hq : pc + 3 = q) (hdd : d1 + 1 = d) (hbc : bc2 + bc1 = bc) (hbs : bs2 + bs1 = bs) (hwt : Nat.ble (aj_wt rest) 8 = true) (hea : Nat.ble (aj_ea [v1]).length N.2.2.1 = true)
    (k : aj_wp E al al X N d1 bc1 bs1 0 (aj_en [v1] N.2.2.1) [] sh g (aj_K E al ao X M d bc2 bs2 q lv rest Q)) : aj_wp E al ao X M d bc bs pc lv (v1 :: rest) sh g Q :=
  aj_callS [v1] q hl hd hq rfl hdd hbc hbs hwt hea k
theorem aj_callS2 {N : aj_M} {index d1 bc1 bs1 bc2 bs2 : Nat} {rest : List aj_A} {v1 v2 : aj_A} (q : Nat) (hl : aj_sl E M.1.cls index N 2) (hd : decode M.2.1 pc = .ok (.invokestatic index, 3)) (hq : pc + 3 = q) (hdd : d1 + 1 = d) (hbc : bc2 + bc1 = bc) (hbs : bs2 + bs1 = bs) (hwt : Nat.ble (aj_wt rest) 8 = true) (hea : Nat.ble (aj_ea [v1, v2]).length N.2.2.1 = true)
    (k : aj_wp E al al X N d1 bc1 bs1 0 (aj_en [v1, v2] N.2.2.1) [] sh g (aj_K E al ao X M d bc2 bs2 q lv rest Q)) : aj_wp E al ao X M d bc bs pc lv (v2 :: v1 :: rest) sh g Q :=
  aj_callS [v1, v2] q hl hd hq rfl hdd hbc hbs hwt hea k
theorem aj_callS3 {N : aj_M} {index d1 bc1 bs1 bc2 bs2 : Nat} {rest : List aj_A} {v1 v2 v3 : aj_A} (q : Nat) (hl : aj_sl E M.1.cls index N 3) (hd : decode M.2.1 pc = .ok (.invokestatic index, 3)) (hq : pc + 3 = q) (hdd : d1 + 1 = d) (hbc : bc2 + bc1 = bc) (hbs : bs2 + bs1 = bs) (hwt : Nat.ble (aj_wt rest) 8 = true) (hea : Nat.ble (aj_ea [v1, v2, v3]).length N.2.2.1 = true)
    (k : aj_wp E al al X N d1 bc1 bs1 0 (aj_en [v1, v2, v3] N.2.2.1) [] sh g (aj_K E al ao X M d bc2 bs2 q lv rest Q)) : aj_wp E al ao X M d bc bs pc lv (v3 :: v2 :: v1 :: rest) sh g Q :=
  aj_callS [v1, v2, v3] q hl hd hq rfl hdd hbc hbs hwt hea k
theorem aj_callS4 {N : aj_M} {index d1 bc1 bs1 bc2 bs2 : Nat} {rest : List aj_A} {v1 v2 v3 v4 : aj_A} (q : Nat) (hl : aj_sl E M.1.cls index N 4) (hd : decode M.2.1 pc = .ok (.invokestatic index, 3)) (hq : pc + 3 = q) (hdd : d1 + 1 = d) (hbc : bc2 + bc1 = bc) (hbs : bs2 + bs1 = bs) (hwt : Nat.ble (aj_wt rest) 8 = true) (hea : Nat.ble (aj_ea [v1, v2, v3, v4]).length N.2.2.1 = true)
    (k : aj_wp E al al X N d1 bc1 bs1 0 (aj_en [v1, v2, v3, v4] N.2.2.1) [] sh g (aj_K E al ao X M d bc2 bs2 q lv rest Q)) : aj_wp E al ao X M d bc bs pc lv (v4 :: v3 :: v2 :: v1 :: rest) sh g Q :=
  aj_callS [v1, v2, v3, v4] q hl hd hq rfl hdd hbc hbs hwt hea k
theorem aj_callS5 {N : aj_M} {index d1 bc1 bs1 bc2 bs2 : Nat} {rest : List aj_A} {v1 v2 v3 v4 v5 : aj_A} (q : Nat) (hl : aj_sl E M.1.cls index N 5) (hd : decode M.2.1 pc = .ok (.invokestatic index, 3)) (hq : pc + 3 = q) (hdd : d1 + 1 = d) (hbc : bc2 + bc1 = bc) (hbs : bs2 + bs1 = bs) (hwt : Nat.ble (aj_wt rest) 8 = true) (hea : Nat.ble (aj_ea [v1, v2, v3, v4, v5]).length N.2.2.1 = true)
    (k : aj_wp E al al X N d1 bc1 bs1 0 (aj_en [v1, v2, v3, v4, v5] N.2.2.1) [] sh g (aj_K E al ao X M d bc2 bs2 q lv rest Q)) : aj_wp E al ao X M d bc bs pc lv (v5 :: v4 :: v3 :: v2 :: v1 :: rest) sh g Q :=
  aj_callS [v1, v2, v3, v4, v5] q hl hd hq rfl hdd hbc hbs hwt hea k
theorem aj_callI0 {N : aj_M} {index d1 bc1 bs1 bc2 bs2 : Nat} {r : Int} {rest : List aj_A} (q : Nat) (hl : aj_il E M.1.cls index N 0) (hd : decode M.2.1 pc = .ok (.invokespecial index, 3)) (hq : pc + 3 = q) (hdd : d1 + 1 = d) (hbc : bc2 + bc1 = bc) (hbs : bs2 + bs1 = bs) (hwt : Nat.ble (aj_wt rest) 8 = true) (hea : Nat.ble (aj_ea [(1, r)]).length N.2.2.1 = true) (h0 : 0 ≤ r)
    (k : aj_wp E al al X N d1 bc1 bs1 0 (aj_en [(1, r)] N.2.2.1) [] sh g (aj_K E al ao X M d bc2 bs2 q lv rest Q)) : aj_wp E al ao X M d bc bs pc lv ((1, r) :: rest) sh g Q :=
  aj_callI [] q hl hd hq rfl hdd hbc hbs hwt hea h0 k
theorem aj_callI1 {N : aj_M} {index d1 bc1 bs1 bc2 bs2 : Nat} {r : Int} {rest : List aj_A} {v1 : aj_A} (q : Nat) (hl : aj_il E M.1.cls index N 1) (hd : decode M.2.1 pc = .ok (.invokespecial index, 3)) (hq : pc + 3 = q) (hdd : d1 + 1 = d) (hbc : bc2 + bc1 = bc) (hbs : bs2 + bs1 = bs) (hwt : Nat.ble (aj_wt rest) 8 = true) (hea : Nat.ble (aj_ea [(1, r), v1]).length N.2.2.1 = true) (h0 : 0 ≤ r)
    (k : aj_wp E al al X N d1 bc1 bs1 0 (aj_en [(1, r), v1] N.2.2.1) [] sh g (aj_K E al ao X M d bc2 bs2 q lv rest Q)) : aj_wp E al ao X M d bc bs pc lv (v1 :: (1, r) :: rest) sh g Q :=
  aj_callI [v1] q hl hd hq rfl hdd hbc hbs hwt hea h0 k
theorem aj_callI2 {N : aj_M} {index d1 bc1 bs1 bc2 bs2 : Nat} {r : Int} {rest : List aj_A} {v1 v2 : aj_A} (q : Nat) (hl : aj_il E M.1.cls index N 2) (hd : decode M.2.1 pc = .ok (.invokespecial index, 3)) (hq : pc + 3 = q) (hdd : d1 + 1 = d) (hbc : bc2 + bc1 = bc) (hbs : bs2 + bs1 = bs) (hwt : Nat.ble (aj_wt rest) 8 = true) (hea : Nat.ble (aj_ea [(1, r), v1, v2]).length N.2.2.1 = true) (h0 : 0 ≤ r)
    (k : aj_wp E al al X N d1 bc1 bs1 0 (aj_en [(1, r), v1, v2] N.2.2.1) [] sh g (aj_K E al ao X M d bc2 bs2 q lv rest Q)) : aj_wp E al ao X M d bc bs pc lv (v2 :: v1 :: (1, r) :: rest) sh g Q :=
  aj_callI [v1, v2] q hl hd hq rfl hdd hbc hbs hwt hea h0 k
theorem aj_callI3 {N : aj_M} {index d1 bc1 bs1 bc2 bs2 : Nat} {r : Int} {rest : List aj_A} {v1 v2 v3 : aj_A} (q : Nat) (hl : aj_il E M.1.cls index N 3) (hd : decode M.2.1 pc = .ok (.invokespecial index, 3)) (hq : pc + 3 = q) (hdd : d1 + 1 = d) (hbc : bc2 + bc1 = bc) (hbs : bs2 + bs1 = bs) (hwt : Nat.ble (aj_wt rest) 8 = true) (hea : Nat.ble (aj_ea [(1, r), v1, v2, v3]).length N.2.2.1 = true) (h0 : 0 ≤ r)
    (k : aj_wp E al al X N d1 bc1 bs1 0 (aj_en [(1, r), v1, v2, v3] N.2.2.1) [] sh g (aj_K E al ao X M d bc2 bs2 q lv rest Q)) : aj_wp E al ao X M d bc bs pc lv (v3 :: v2 :: v1 :: (1, r) :: rest) sh g Q :=
  aj_callI [v1, v2, v3] q hl hd hq rfl hdd hbc hbs hwt hea h0 k
end AJK
end
section
/-! the judgement: arraycopy, Math.min, Math.max, a new array of references, calls by their number of arguments -/
def aj_cpy (g : aj_G) (r0 r1 sp dp n : Int) : aj_G := fun r => if r = r1 then (fun i => if dp ≤ i ∧ i < dp + n then g r0 (sp + (i - dp)) else g r1 i) else g r
theorem aj_cpy_ne (g : aj_G) (r0 : Int) {r1 r : Int} (sp dp n : Int) (h : r ≠ r1) : aj_cpy g r0 r1 sp dp n r = g r := by simp [aj_cpy, h]
theorem aj_cpy_at (g : aj_G) (r0 r1 sp dp n i : Int) : aj_cpy g r0 r1 sp dp n r1 i = if dp ≤ i ∧ i < dp + n then g r0 (sp + (i - dp)) else g r1 i := by simp [aj_cpy]
section AJX
variable {E : aj_E} {al ao : Prop} {X : Option (Nat × (Int → Int))} {M : aj_M} {d bc bs pc : Nat} {lv : List (Option aj_A)} {st : List aj_A} {sh : List aj_S} {g : aj_G} {Q : aj_R → List aj_S → aj_G → Prop}
theorem aj_copyi {r0 r1 sp dp n : Int} {t0 n0 n1 index : Nat} (q : Nat) (hl : Cond.methodLink M.1.cls index arraycopyName ∈ E.2.2.2.1 ∧ Cond.native arraycopyName ∈ E.2.2.2.1 ∧ Cond.static arraycopyName ∈ E.2.2.2.1 ∧ Cond.initialized "java/lang/System" ∈ E.2.2.2.1) (hd : decode M.2.1 pc = .ok (.invokestatic index, 3)) (hq : pc + 3 = q) (hal : ¬ al)
    (hs0 : aj_sh sh r0 = some (.inl (t0, n0))) (hs1 : aj_sh sh r1 = some (.inl (t0, n1))) (ht : E.2.1[t0]? = some .int) (b1 : 0 ≤ sp) (b2 : 0 ≤ dp) (b3 : 0 ≤ n) (b4 : sp + n ≤ n0) (b5 : dp + n ≤ n1) (hdd : 1 ≤ d) (hwt : Nat.ble (aj_wt st) 8 = true)
    (k : aj_wp E al ao X M d bc bs q lv st sh (aj_cpy g r0 r1 sp dp n) Q) : aj_wp E al ao X M d bc bs pc lv ((0, n) :: (0, dp) :: (1, r1) :: (0, sp) :: (1, r0) :: st) sh g Q := by
  subst hq
  intro p l e R s m args below meth c H locs cells slots ls a tc D A hc0
  obtain ⟨h1, h2, h3, ⟨hP, hK, hD, hS, hA⟩, h5, h6, h7⟩ := hc0
  have hts := h1.2.2.2.2
  obtain ⟨z0, y0⟩ := aj_sh_get hs0
  obtain ⟨z1, y1⟩ := aj_sh_get hs1
  have hn0 := h6.2 _ _ _ y0
  have hn1 := h6.2 _ _ _ y1
  have hc : ∀ x : Int, 0 ≤ x → x < 2147483648 → (Int32.ofInt x).toNatClampNeg = x.toNat ∧ ¬ Int32.ofInt x < 0 := by
    intro x x0 x1
    have hI : aj_I x := ⟨by omega, x1⟩
    refine ⟨?_, ?_⟩
    · show (Int32.ofInt x).toInt.toNat = x.toNat
      rw [aj_ti hI]
    · rw [aj_0, aj_lt hI aj_I0]; omega
  obtain ⟨c1, d1⟩ := hc sp b1 (by omega)
  obtain ⟨c2, d2⟩ := hc dp b2 (by omega)
  obtain ⟨c3, d3⟩ := hc n b3 (by omega)
  have he0 : (aj_w E tc a sh g)[r0.toNat]? = some (a r0.toNat, .inl (tc t0, n0, .inl (fun j => Int32.ofInt (g r0 j)))) := by
    rw [aj_w_get hs0]; simp only [aj_cell]; rw [ht]; rfl
  have he1 : (aj_w E tc a sh g)[r1.toNat]? = some (a r1.toNat, .inl (tc t0, n1, .inl (fun j => Int32.ofInt (g r1 j)))) := by
    rw [aj_w_get hs1]; simp only [aj_cell]; rw [ht]; rfl
  simp only [List.map_cons]
  rw [aj_cr z0, aj_cr z1]
  refine va_copyi (sp := Int32.ofInt sp) (dp := Int32.ofInt dp) (n := Int32.ofInt n) h1.1 h1.2.1 (by rw [h1.2.2.1]; exact h5.2.1.symm) h1.2.2.2.1 (hts _ hl.1) (hts _ hl.2.1) (hts _ hl.2.2.1) (hts _ hl.2.2.2) hK hP hD hS r0.toNat r1.toNat t0 t0 he0 he1 (aj_ty_at ht) (aj_ty_at ht) rfl d1 d2 d3 (by rw [c1, c3]; omega) (by rw [c2, c3]; omega) (fun _ _ => rfl) (by omega) ?_ hd (fun H1 locs1 hP1 hD1 hS1 => ?_)
  · rw [aj_wt_eq]
    have := Nat.le_of_ble_eq_true hwt
    have hw : nativeFrameWords "java/lang/System" "arraycopy" 5 = 7 := by decide
    rw [hw]
    omega
  · have hset := aj_w_set (E := E) (tc := tc) (a := a) (g := g) (g' := aj_cpy g r0 r1 sp dp n) (c := .inl (tc t0, n1, .inl (va_cpy (fun j => Int32.ofInt (g r0 (j : Nat))) (fun j => Int32.ofInt (g r1 (j : Nat))) sp.toNat dp.toNat n.toNat))) hs1 (by
        simp only [aj_cell]
        rw [ht]
        show Sum.inl (tc t0, n1, Sum.inl _) = _
        congr 4
        funext j
        rw [aj_cpy_at]
        by_cases hj : dp ≤ (j : Int) ∧ (j : Int) < dp + n
        · rw [if_pos hj, pk_cpy_in (by omega) (by omega)]
          congr 2
          omega
        · rw [if_neg hj, pk_cpy_out (by omega)]) (fun r' hr' => aj_cpy_ne g r0 sp dp n hr')
    rw [c1, c2, c3, hset] at hP1 hD1
    exact k p l e R s m args below meth c H1 locs1 cells slots ls a tc D A ⟨h1, h2, h3, ⟨hP1, hK, hD1, hS1, hA⟩, h5, ⟨fun h => absurd h hal, h6.2⟩, h7⟩
theorem aj_mmax {x y : Int} {index : Nat} (q : Nat) (hl : Cond.methodLink M.1.cls index Lib.Math.max.name ∈ E.2.2.2.1 ∧ Cond.static Lib.Math.max.name ∈ E.2.2.2.1 ∧ Cond.initialized "java/lang/Math" ∈ E.2.2.2.1 ∧ Cond.code Lib.Math.max.name Lib.Math.max.code 2 (some .int) ∈ E.2.2.2.1) (hd : decode M.2.1 pc = .ok (.invokestatic index, 3)) (hq : pc + 3 = q) (hx : aj_I x) (hy : aj_I y) (hdd : 1 ≤ d) (hwt : Nat.ble (aj_wt st) 8 = true) (k : aj_wp E al ao X M d bc bs q lv ((0, if x < y then y else x) :: st) sh g Q) : aj_wp E al ao X M d bc bs pc lv ((0, y) :: (0, x) :: st) sh g Q := by
  subst hq
  intro p l e R s m args below meth c H locs cells slots ls a tc D A hc0
  have kk := k p l e R s m args below meth c H locs cells slots ls a tc D A hc0
  obtain ⟨h1, h2, h3, ⟨hP, hK, hD, hS, hA⟩, h5, h6, h7⟩ := hc0
  have hts := h1.2.2.2.2
  refine va_mmax (x := Int32.ofInt x) (y := Int32.ofInt y) h1.1 h1.2.1 (by rw [h1.2.2.1]; exact h5.2.1.symm) h1.2.2.2.1 (hts _ hl.1) (hts _ hl.2.1) (hts _ hl.2.2.1) (hts _ hl.2.2.2) (by omega) ?_ (by omega) (by omega) hd ?_
  · have := Nat.le_of_ble_eq_true hwt
    rw [aj_wt_eq]; omega
  · have he : (if Int32.ofInt x < Int32.ofInt y then Int32.ofInt y else Int32.ofInt x) = Int32.ofInt (if x < y then y else x) := by
      by_cases h : x < y
      · rw [if_pos h, if_pos ((aj_lt hx hy).mpr h)]
      · rw [if_neg h, if_neg (fun z => h ((aj_lt hx hy).mp z))]
    rw [he]
    exact kk
theorem aj_mmin {x y : Int} {index : Nat} (q : Nat) (hl : Cond.methodLink M.1.cls index Lib.Math.min.name ∈ E.2.2.2.1 ∧ Cond.static Lib.Math.min.name ∈ E.2.2.2.1 ∧ Cond.initialized "java/lang/Math" ∈ E.2.2.2.1 ∧ Cond.code Lib.Math.min.name Lib.Math.min.code 2 (some .int) ∈ E.2.2.2.1) (hd : decode M.2.1 pc = .ok (.invokestatic index, 3)) (hq : pc + 3 = q) (hx : aj_I x) (hy : aj_I y) (hdd : 1 ≤ d) (hwt : Nat.ble (aj_wt st) 8 = true) (k : aj_wp E al ao X M d bc bs q lv ((0, if y < x then y else x) :: st) sh g Q) : aj_wp E al ao X M d bc bs pc lv ((0, y) :: (0, x) :: st) sh g Q := by
  subst hq
  intro p l e R s m args below meth c H locs cells slots ls a tc D A hc0
  have kk := k p l e R s m args below meth c H locs cells slots ls a tc D A hc0
  obtain ⟨h1, h2, h3, ⟨hP, hK, hD, hS, hA⟩, h5, h6, h7⟩ := hc0
  have hts := h1.2.2.2.2
  refine va_mmin (x := Int32.ofInt x) (y := Int32.ofInt y) h1.1 h1.2.1 (by rw [h1.2.2.1]; exact h5.2.1.symm) h1.2.2.2.1 (hts _ hl.1) (hts _ hl.2.1) (hts _ hl.2.2.1) (hts _ hl.2.2.2) (by omega) ?_ (by omega) (by omega) hd ?_
  · have := Nat.le_of_ble_eq_true hwt
    rw [aj_wt_eq]; omega
  · have he : (if Int32.ofInt y < Int32.ofInt x then Int32.ofInt y else Int32.ofInt x) = Int32.ofInt (if y < x then y else x) := by
      by_cases h : y < x
      · rw [if_pos h, if_pos ((aj_lt hy hx).mpr h)]
      · rw [if_neg h, if_neg (fun z => h ((aj_lt hy hx).mp z))]
    rw [he]
    exact kk
theorem aj_newq {index t0 N bc1 bs1 : Nat} {n : Int} {C : String} (q : Nat) (hw : Cond.classLink M.1.cls index C ∈ E.2.2.2.1 ∧ FieldType.object C ∈ aj_aos) (hd : decode M.2.1 pc = .ok (.anewarray index, 3)) (hq : pc + 3 = q) (ht : E.2.1[t0]? = some (.object C))
    (hN : ((N : Nat) : Int) = n) (hN2 : N ≤ 60000) (hbc : bc1 + 1 = bc) (hbs : bs1 + N = bs) (hal : al) (hsz : sh.length < 1000000) (k : aj_wp E al ao X M d bc1 bs1 q lv ((1, sh.length) :: st) (sh ++ [.inl (t0, N)]) (aj_nw g sh.length (fun _ => -1)) Q) : aj_wp E al ao X M d bc bs pc lv ((0, n) :: st) sh g Q := by
  subst hq
  subst hN
  subst hbc
  subst hbs
  intro p l e R s m args below meth c H locs cells slots ls a tc D A hc0
  obtain ⟨h1, h2, h3, ⟨hP, hK, hD, hS, hA⟩, h5, h6, h7⟩ := hc0
  have hts := h1.2.2.2.2
  have ha : a sh.length = H.size := by simpa using h6.1 hal 0 (by omega)
  have hI : aj_I (N : Nat) := ⟨by omega, by omega⟩
  have hnn : ¬ Int32.ofInt (N : Nat) < 0 := by rw [aj_0, aj_lt hI aj_I0]; omega
  have hcl : (Int32.ofInt (N : Nat)).toNatClampNeg = N := by
    show (Int32.ofInt (N : Nat)).toInt.toNat = N
    rw [aj_ti hI]; omega
  rw [List.map_cons]
  refine W.anew (n := Int32.ofInt (N : Nat)) h1.1 h1.2.1 h1.2.2.2.1 (hts _ hw.1) (h7.2.2.2.2.2.2.2.2 _ hw.2) rfl hd rfl hnn (by rw [hcl]; omega) (by omega) (by rw [hcl]; omega) fun cA kA comp f1 f2 f3 f4 => ?_
  rw [hcl]
  generalize hH1 : H.push ({ cls := cA, slots := Array.replicate N .null, vm := .none } : Cell) = H1
  have z1 : H1.size = H.size + 1 := by rw [← hH1, Array.size_push]
  have e1 : H1[H.size]? = some (arrV cA N (fun _ => .null)) := by rw [← hH1, Array.getElem?_push_size, ← arrV_new]
  have o1 : ∀ q : Nat, q < H.size → H1[q]? = H[q]? := fun q hq => by rw [← hH1, Array.getElem?_push, if_neg (Nat.ne_of_lt hq)]
  have hcA : tc t0 = cA := by
    obtain ⟨kA', comp', -, -, -, hR⟩ := (hK.2 t0 _ (aj_ty_at ht)).2
    exact Option.some.inj (hR.symm.trans f1)
  have hcell : va_at D E.1 (a sh.length, aj_cell E tc a (.inl (t0, N)) (fun _ => -1)) H1 := by
    show H1[a sh.length]? = some (vp_cell (tc t0) (N, aj_row a E.2.1[t0]? (fun _ => -1)))
    rw [aj_rowr ht rfl, ha, e1, hcA]
    rfl
  obtain ⟨hP2, hD2, hS2⟩ := aj_push hP hD hS hA ha hcell z1 o1
  have kk := k p l e R s m args below meth c H1 locs (cells + 1) (slots + N) ls a tc D A ⟨h1, h2, ⟨h3.1, h3.2.1, by omega, by omega⟩, ⟨hP2, hK, hD2, hS2, hA⟩, h5, by rw [z1]; exact aj_ph_push h6 (fun t k hx => by cases hx; omega), h7⟩
  rw [show cells + 1 + bc1 = cells + (bc1 + 1) by omega, show slots + N + bs1 = slots + (bs1 + N) by omega, List.map_cons, aj_cr (by omega), Int.toNat_natCast, ha] at kk
  exact kk
end AJX
end
section
/-! the judgement: throwing, and catching in the caller -/
section AJT
variable {E : aj_E} {al ao : Prop} {X : Option (Nat × (Int → Int))} {M : aj_M} {d bc bs pc : Nat} {lv : List (Option aj_A)} {st : List aj_A} {sh : List aj_S} {g : aj_G} {Q : aj_R → List aj_S → aj_G → Prop}
/-- a walk seen from where it stands now: the method is as if called here -/
theorem aj_here {p : Program} {l : Launch} {e : Env} {R : Room} {s : State} {m : MethodId} {args : Array Value} {below : List Frame} {meth : Method} {c : Code} {T : State} {locs : List Loc} {cells slots : Nat}
    (Y : Stand p l e R s m args below meth c T locs cells slots) {k n : Nat} (hk : cells + k ≤ R.cells) (hn : slots + n ≤ R.slots) :
    Stand p l e { frames := R.frames, locals := R.locals, cells := k, slots := n } ((T.setVm s.vm).setFrames (.invoking m args :: below)) m args below meth c T [] 0 0 := by
  have hcur : (T.setVm s.vm).cur < (T.setVm s.vm).threads.size := State.cur_lt_of_top Y.here.top
  have hfr : ((T.setVm s.vm).setFrames (.invoking m args :: below)).frames = .invoking m args :: below := State.frames_setFrames _ hcur
  obtain ⟨g0, hg0⟩ := Option.isSome_iff_exists.mp (show (T.setVm s.vm).topJava?.isSome = true from Y.here.top)
  obtain ⟨r0, hr0⟩ := State.topJava?_eq_some.mp hg0
  have hnil : ((T.heap.toList.drop T.heap.size).map (·.slots.size)).sum = 0 := by
    rw [List.drop_eq_nil_of_le (Nat.le_of_eq Array.length_toList)]
    rfl
  have hlim : e.platform.stackLimits (T.setVm s.vm).me = e.platform.stackLimits s.me := Y.limits
  have hbyt : (T.setVm s.vm).me.stackBytes = s.me.stackBytes := Y.bytes
  exact {
    admits := Y.admits
    cas := Y.cas
    clock := Y.clock
    frames := hfr
    hears := Y.hears
    method := Y.method
    code := Y.code
    here := Y.here
    tail := Y.tail
    warmed := Y.warmed
    limits := by rw [State.stackLimits_setFrames]; rfl
    bytes := by rw [State.stackBytes_setFrames]; rfl
    room := by
      have hu : ((T.setVm s.vm).setFrames (.invoking m args :: below)).localsInUse = s.localsInUse := by
        rw [State.localsInUse_invoking hfr (meth := meth) (c := c) Y.method Y.code, State.localsInUse_invoking Y.frames Y.method Y.code]
      have h0 := Y.room
      simp only [State.hasRoom, Bool.and_eq_true, decide_eq_true_eq] at h0 ⊢
      obtain ⟨⟨⟨⟨r1, r2, r3, r4, r5, r6⟩, r7⟩, r8⟩, r9⟩ := h0
      rw [Y.frames, List.length_cons] at r2 r3
      have q1 := Y.heapSize
      have q2 := Y.used
      simp only [hfr, hu, List.length_cons, State.stackLimits_setFrames, State.stackBytes_setFrames, hlim, hbyt]
      refine ⟨⟨⟨⟨by omega, by omega, by omega, by omega, by omega, r6⟩, ?_⟩, ?_⟩, Y.book⟩
      · show T.heap.size + k ≤ e.platform.maxCells
        omega
      · show T.slotsUsed + n ≤ e.platform.maxSlots
        omega
    same := by
      refine ⟨?_, Nat.le_refl _, Nat.le_refl _, ?_, ?_, fun b c9 h9 => ⟨c9, h9, rfl, rfl, fun _ _ => rfl⟩⟩
      · obtain ⟨t0, ht0, -⟩ := State.frames_cons hr0
        show T.setVm s.vm = { ((T.setVm s.vm).setFrames (.invoking m args :: below)).setFrames (T.setVm s.vm).frames with heap := T.heap, slotsUsed := T.slotsUsed }
        rw [State.setFrames_setFrames, State.setFrames_self ht0]
        rfl
      · show T.slotsUsed = T.slotsUsed + ((T.heap.toList.drop T.heap.size).map (·.slots.size)).sum
        rw [hnil]; rfl
      · show ((T.heap.toList.drop T.heap.size).map (·.slots.size)).sum ≤ 0
        rw [hnil]; exact Nat.le_refl _ }
/-- nothing old was written: the old cells are the old cells -/
theorem aj_olds {s U : State} {k n : Nat} (h : s.sameButNew ({ U with vm := s.vm } : State) [] k n) : s.heap.size ≤ U.heap.size ∧ ∀ q : Nat, q < s.heap.size → U.heap[q]? = s.heap[q]? := by
  obtain ⟨-, h2, -, -, -, h6⟩ := h
  refine ⟨h2, fun q hq => ?_⟩
  obtain ⟨c9, e1, e2, e3, e4⟩ := h6 q _ (Array.getElem?_eq_getElem hq)
  have hs : c9.slots = (s.heap[q]).slots := Array.ext_getElem? fun i => e4 i (fun z => nomatch z)
  rw [hs] at e2
  have e5 : U.heap[q]? = some c9 := e1
  rw [e5, Array.getElem?_eq_getElem hq]
  exact congrArg some e2
def aj_nms : List String := ["java/lang/RuntimeException", "java/lang/Exception"]
/-- the words of 'throw new X()' that are good, and the others by their kinds -/
def aj_thw (E : aj_E) (own : String) (ik ic k : Nat) (X : String) : Prop := aj_exc[k]? = some X ∧ Bundle.fit X = true ∧ Cond.classLink own ik X ∈ E.2.2.2.1 ∧ Cond.initialized X ∈ E.2.2.2.1 ∧
  ∀ w ∈ Bundle.ownAtoms0 own ic X aj_nms, w ∈ E.2.2.2.1 ∨ (∃ x ∈ aj_dcl, w = .declares x) ∨ w = .castable X X ∨ w = .laysStatic Bundle.tN "UNASSIGNED_STACK" Bundle.steD ∨ w = .isRef (.static Bundle.tN "UNASSIGNED_STACK" Bundle.steD) ∨
    w = .laysStatic Bundle.tN "SUPPRESSED_SENTINEL" Bundle.listD ∨ w = .isRef (.static Bundle.tN "SUPPRESSED_SENTINEL" Bundle.listD)
theorem aj_throw {ik ic k : Nat} {C : String} (hw : aj_thw E M.1.cls ik ic k C) (d0 : decode M.2.1 pc = .ok (.new ik, 3)) (d3 : decode M.2.1 (pc + 3) = .ok (.dup, 1)) (d4 : decode M.2.1 (pc + 4) = .ok (.invokespecial ic, 3)) (d7 : decode M.2.1 (pc + 7) = .ok (.athrow, 1))
    (htb : aj_tb M.1 = []) (hao : ¬ ao) (hbc : 1 ≤ bc) (hbs : 6 ≤ bs) (hd : 4 ≤ d) (hq : Q (.inr k) sh g) : aj_wp E al ao X M d bc bs pc lv [] sh g Q := by
  intro p l e R s m args below meth c H locs cells slots ls a tc D A hc0
  obtain ⟨h1, h2, h3, ⟨hP, hK, hD, hS, hA⟩, h5, h6, h7⟩ := hc0
  have hts := h1.2.2.2.2
  intro T hT Y0
  have htr : e.platform.stackTraces = false := (show e.platform.stackTraces = l.stackTraces by rw [Y0.admits.platform]).trans h2.2.2.2.2
  have Y := aj_here Y0 (k := 1) (n := 6) (by omega) (by omega)
  obtain ⟨s', hs'⟩ : ∃ z, z = (T.setVm s.vm).setFrames (.invoking m args :: below) := ⟨_, rfl⟩
  rw [← hs'] at Y
  have hvm : s'.vm = s.vm := by rw [hs']; rfl
  have hhp : s'.heap = H := by rw [hs']; exact hT
  have hW0 : s.WarmedH s'.vm := by rw [hvm]; exact State.WarmedH.refl s
  have hth := aj_th_at h7.2.2.2 hS hhp hW0
  have hgood : ∀ w ∈ E.2.2.2.1, w.before args s' = true := fun w hw => word_at hW0 (h7.1.1 w hw) (hts w hw)
  obtain ⟨hX, hfit, hk, hini, hat⟩ := hw
  have hCm : C ∈ aj_exc := List.mem_of_getElem? hX
  have hz : ∀ {n dd : String}, aj_zs n dd A s' s'.heap → (Cond.laysStatic Bundle.tN n dd).before args s' = true ∧ (Cond.isRef (.static Bundle.tN n dd)).before args s' = true := by
    rintro n dd ⟨b, cell, z1, z2, z3⟩
    exact z3 s' args (Vm.Alike.refl _) z1
  have hall : ∀ w ∈ Bundle.ownAtoms0 M.1.cls ic C aj_nms, w.before args s' = true := by
    intro w hw
    rcases hat w hw with h | ⟨x, hx, rfl⟩ | rfl | rfl | rfl | rfl | rfl
    · exact hgood w h
    · exact va_Nw.use rfl (hth.1 x hx)
    · exact va_Nw.use rfl (hth.2.1 C hCm)
    · exact (hz hth.2.2.2.1).1
    · exact (hz hth.2.2.2.1).2
    · exact (hz hth.2.2.2.2.1).1
    · exact (hz hth.2.2.2.2.1).2
  have hown : s'.vm.findClass M.1.cls = some m.cls := by rw [hvm]; exact h1.2.2.2.1
  have hins : (Cond.instantiable C 6).before args s' = true := hall _ (by simp [Bundle.ownAtoms0])
  obtain ⟨vm1, cX, kX, hfX, hkX, -, -, Y1, st1⟩ := Y.newCold h1.1 (own := M.1.cls) (C := C) (index := ik) (n := 6) hown (hgood _ hk) hins (hgood _ hini)
    (g := F0 m pc ls []) rfl (by rw [h1.2.1]; exact d0) (Nat.le_refl _) (Nat.le_refl _)
  generalize hT1 : (T.setVm vm1).pushCell { cls := cX, slots := kX.instanceTypes.map defaultValue, vm := .none } = T1 at Y1 st1
  have hcell : T1.heap[T.heap.size]? = some (freshCell cX kX) := by rw [← hT1]; exact State.heap_pushCell_size _ _
  have d3' : decode c.code (pc + 3) = .ok (.dup, 1) := by rw [h1.2.1]; exact d3
  have hcat : (Value.ref T.heap.size).category = 1 := rfl
  have hempty : c.exceptionTable.toList = [] := by
    have := h2.2.2.2.1
    rw [htb] at this
    exact List.map_eq_nil_iff.mp this
  obtain ⟨U, hsteps, hrun, hend, hW, hsame, ce, hce, hO⟩ := Y1.ctorThrow0 h1.1 htr (own := M.1.cls) (cls := C) (names := aj_nms) (ic := ic) hown hfit (by decide +kernel) hall (fun x hx => nomatch hx) hfX hkX hcell (by rw [hhp, hT]; exact Nat.le_refl _)
    (g := { method := m, pc := pc + 4, locals := ls, stack := .ref T.heap.size :: .ref T.heap.size :: [], locked := none }) rfl (by rw [h1.2.2.1]; exact h5.2.1) rfl rfl (rest := []) rfl
    (by rw [h1.2.1]; exact d4) (by rw [h1.2.1]; exact d7) (by rw [hempty]; exact fun x hx => nomatch hx) (by show 2 + 3 < R.frames; omega) (by
      simp only [List.map_cons, List.map_nil, List.sum_cons, List.sum_nil, hcat]
      show 2 * 0 + (1 + 0) + (13 * (2 + 1) + 41) ≤ R.locals
      omega) h2.2.1
  obtain ⟨f1, f2⟩ := aj_olds hsame
  rw [hhp] at f1 f2
  have hWs : s.WarmedH U.vm := State.WarmedH.trans hW0 hW
  have hcl : U.vm.findClass C = some ce.cls := by
    rw [hW.alike.findClass]
    exact hO.cls
  have hfrm : s.sameButNew ({ U with vm := s.vm } : State) locs (cells + bc) (slots + bs) := by
    subst hs'
    obtain ⟨e1, e2⟩ := hsame
    rw [State.setFrames_setFrames] at e1
    have g2 : (T.setVm s.vm).sameButNew ({ U with vm := s.vm } : State) [] (0 + 1) (0 + 6) := ⟨e1, e2⟩
    have g3 := Y0.same.trans g2
    rw [List.append_nil] at g3
    exact g3.mono (by omega) (by omega)
  refine ⟨U, ?_, .threw T.heap.size, .inr k, sh, g, hrun, hend, hq, ⟨T.heap.size, ce, C, rfl, hce, hO.vm, hX, hcl⟩, hP.kept (fun j y hy => f2 y.1 ((hP j y hy).lt)), hD, ⟨Nat.le_trans hS.1 f1, fun q q1 q2 => by rw [f2 q (Nat.lt_of_lt_of_le q1 hS.1)]; exact hS.2.1 q q1 q2⟩, ⟨fun h => absurd h hao, h6.2⟩, locs, hWs, hfrm, hS.2.2⟩
  refine st1 _ ?_
  show Steps p.tables e below (T1.setTop { method := m, pc := pc + 3, locals := ls, stack := .ref T.heap.size :: [], locked := none }) _
  jvm_step Y1.here [Y1.here.top, h1.1, d3', Value.category]
  exact hsteps
/-! a callee that throws -/
def aj_QT (E : aj_E) (al : Prop) (a tc : Nat → Nat) (D : va_G) (A : Nat → Prop) (Q : aj_R → List aj_S → aj_G → Prop) : Array Value → State → Outcome → State → Prop := fun _ s o t =>
  ∃ (k : Nat) (sh : List aj_S) (g : aj_G) (b : Nat) (cell : Cell) (C : String), o = .threw b ∧ t.heap[b]? = some cell ∧ cell.vm = .none ∧ aj_exc[k]? = some C ∧ t.vm.findClass C = some cell.cls ∧ Q (.inr k) sh g ∧ va_P D E.1 (aj_w E tc a sh g) t.heap ∧ va_D A (aj_w E tc a sh g) ∧ va_F A s t ∧ aj_ph al sh a t.heap.size
theorem aj_metT {l : Launch} {vs : List aj_A} (hst : l.stackTraces = false) (hy : plainName M.1.cls = true) (htb : aj_tb M.1 = []) (hlen : Nat.ble (aj_ea vs).length M.2.2.1 = true) (hret : ∀ r sh g, Q r sh g → ∃ k, r = .inr k) (k : aj_wp E al al X M d bc bs 0 (aj_en vs M.2.2.1) [] sh g Q) (a tc : Nat → Nat) (D : va_G) (A : Nat → Prop) :
    MetFree l M.1 (headSpec (aj_ws E M) (aj_rm d bc bs)) (aj_Pc E al X vs sh g a tc D A) (fun _ _ _ _ _ => True) (fun w s o t => aj_QT E al a tc D A Q w s o t ∧ ∃ L, FrameEndT s o t L bc bs ∧ ∀ q ∈ L, A q.base) := by
  have hcode : ∀ (w : Array Value) (s : State), (headSpec (aj_ws E M) (aj_rm d bc bs)).pre.before w s = true → (Cond.code M.1 M.2.1 M.2.2.1 M.2.2.2).before w s = true := fun w s h => atoms_spec (ws := aj_ws E M) h _ List.mem_cons_self
  refine MetFree.of_bodyS (code := M.2.1) (maxLocals := M.2.2.1) (ret := M.2.2.2) hy (fun w s m h hn => ?_) ?_
  · obtain ⟨meth, c, h1, h2, h3, h4, h5, h6, -, -⟩ := Cond.code_spec hn (hcode w s h)
    exact ⟨meth, c, h1, h2, h3, h4, h5, h6⟩
  · intro p e s m args below meth c s₁ B hml hv _
    obtain ⟨rfl, hP, hK, hD, hA, h6, h7⟩ := hv
    have hts := atoms_spec (ws := aj_ws E M) B.pre
    have hle : (aj_ea vs).length ≤ M.2.2.1 := Nat.le_of_ble_eq_true hlen
    have hT : c.exceptionTable.toList.map (fun h => (h.startPc, h.endPc, h.handlerPc, h.catchType)) = aj_tb M.1 := by
      obtain ⟨meth', c', g1, g2, -, -, -, -, g3, -⟩ := Cond.code_spec B.named (hts _ List.mem_cons_self)
      have e1 : meth' = meth := Option.some.inj (g1.symm.trans B.method)
      subst e1
      have e2 : c' = c := Option.some.inj (g2.symm.trans (Stand.of_body B).code)
      subst e2
      rw [htb, Array.isEmpty_iff.mp g3]
      rfl
    have hl := lv_entry (vs.map (aj_c a)) (n := M.2.2.1) (by rw [aj_ea_len]; exact hle)
    rw [lg_entry_eq]
    generalize (lg_sl (vs.map (aj_c a)) ++ List.replicate (M.2.2.1 - (lg_sl (vs.map (aj_c a))).length) Slot.unset).toArray = ls at hl ⊢
    have hW := k p l e (aj_rm d bc bs) s m (vs.map (aj_c a)).toArray below meth c s.heap [] 0 0 ls a tc D A
      ⟨⟨B.exec, B.bytes, hml, findClass_of_methodNamed B.named, fun w hw => hts w (List.mem_cons_of_mem _ hw)⟩, ⟨B.returns, B.notSynchronized, (name_of_methodNamed B.named B.method).1, hT, hst⟩, ⟨Nat.le_refl _, Nat.le_refl _, by show 0 + bc ≤ bc; omega, by show 0 + bs ≤ bs; omega⟩, ⟨hP, hK, hD, va_S.rf, hA⟩, ⟨aj_en_len hle, aj_entry hl⟩, h6, h7⟩
    have hh0 : s₁.heap = s.heap := by rw [B.state]; rfl
    obtain ⟨t, a1, o, r, sh1, g1, e1, e2, e3, e4, e5, e6, e7, e8, L, e9, e10, e11⟩ := hW s₁ hh0 (Stand.of_body B)
    obtain ⟨k, rfl⟩ := hret _ _ _ e3
    obtain ⟨b, cell, C, f1, f2, f3, f4, f5⟩ := e4
    rw [Nat.zero_add, Nat.zero_add] at e10
    exact ⟨t, o, a1, e1, e2, ⟨k, sh1, g1, b, cell, C, f1, f2, f3, f4, f5, e3, e5, e6, e7, e8⟩, L, ⟨⟨b, f1⟩, e9, e10⟩, e11⟩
theorem aj_stx {a : Nat → Nat} {ls : Array Slot} {n i x : Nat} {lv : List (Option aj_A)} (ho : aj_ok lv i = true) (h : lv_has ls n ((i, Value.ref x) :: (aj_l a lv).filter (fun q => !(q.1 == i) && !(q.1 + 1 == i && q.2.category == 2)))) : lv_has ls n (aj_l a (lv.set i none)) := by
  refine ⟨h.1, h.2.1, fun q hq => h.2.2 q ?_⟩
  obtain ⟨j, u⟩ := q
  obtain ⟨y, h1, h2⟩ := aj_l_mem.mp hq
  unfold aj_ok at ho
  rw [Bool.and_eq_true] at ho
  have hlt : i < lv.length := Nat.blt_eq ▸ ho.1
  by_cases hj : j = i
  · subst hj
    rw [List.getElem?_set_self hlt] at h1
    cases h1
  · rw [List.getElem?_set_ne (Ne.symm hj)] at h1
    refine List.mem_cons_of_mem _ (List.mem_filter.mpr ⟨aj_l_mem.mpr ⟨y, h1, h2⟩, ?_⟩)
    have hb : ¬ (j + 1 = i ∧ u.category = 2) := by
      rintro ⟨e1, e2⟩
      subst e1
      rw [h2] at e2
      exact aj_nl_spec ho.2 h1 e2
    simp only [Bool.and_eq_true, Bool.not_eq_true', beq_eq_false_iff_ne, ne_eq, Bool.and_eq_false_imp, beq_iff_eq]
    exact ⟨hj, fun e1 e2 => hb ⟨e1, e2⟩⟩
/-- the handler for what was thrown: its row in the method's table, the rows ahead, the store of the exception -/
def aj_hdl (E : aj_E) (M : aj_M) (pc k i q : Nat) : Prop := ∃ (pre suf : List (Nat × Nat × Nat × Nat)) (x : Nat × Nat × Nat × Nat) (C : String), aj_tb M.1 = pre ++ x :: suf ∧ aj_exc[k]? = some C ∧ (x.1 ≤ pc ∧ pc < x.2.1) ∧ x.2.2.2 ≠ 0 ∧ Cond.classLink M.1.cls x.2.2.2 C ∈ E.2.2.2.1 ∧
  (∀ z ∈ pre, z.2.2.2 ≠ 0 ∧ ∃ C', C' ∈ aj_exc ∧ C ≠ C' ∧ Cond.classLink M.1.cls z.2.2.2 C' ∈ E.2.2.2.1) ∧
  ((∃ j : Fin 4, (j : Nat) = i ∧ decode M.2.1 x.2.2.1 = .ok (.astore_n j, 1) ∧ x.2.2.1 + 1 = q) ∨ (decode M.2.1 x.2.2.1 = .ok (.astore i, 2) ∧ x.2.2.1 + 2 = q))
theorem aj_caught {p : Program} {l : Launch} {e : Env} {R : Room} {s : State} {m : MethodId} {args : Array Value} {below : List Frame} {meth : Method} {c : Code} {H : Heap} {locs : List Loc} {cells slots : Nat} {ls : Array Slot} {a tc : Nat → Nat} {D : va_G} {A : Nat → Prop} {k i q b : Nat} {cell : Cell} {C : String} {rest : List Value} {T s0 : State}
    (hh : aj_hdl E M pc k i q) (ho : aj_ok lv i = true) (kk : aj_wp E al ao X M d bc bs q (lv.set i none) [] sh g Q)
    (hc0 : aj_cx E al X M d bc bs lv sh g a tc D A p l R s m args meth c H locs cells slots ls)
    (hT : T.heap = H) (Y : Stand p l e R s m args below meth c T locs cells slots) (hcell : H[b]? = some cell) (hv : cell.vm = .none) (hC : aj_exc[k]? = some C) (hcl : s.vm.findClass C = some cell.cls)
    (hcome : Steps p.tables e below s0 ((T.setTop (F0 m pc ls rest)).pushFrame (.throwing b))) :
    ∃ t, Steps p.tables e below s0 t ∧ aj_fin E ao a tc D A Q below s (cells + bc) (slots + bs) t := by
  have hc1 := hc0
  obtain ⟨h1, h2, h3, ⟨hP, hK, hD, hS, hA⟩, h5, h6, h7⟩ := hc0
  have hts := h1.2.2.2.2
  obtain ⟨pre, suf, x, C', htb, hC', hcov, hx0, hlink, hpass, hst⟩ := hh
  have e0 : C' = C := Option.some.inj (hC'.symm.trans hC)
  subst e0
  have hpl : e.platform.magicAccessors = ({} : Platform).magicAccessors := by rw [Y.admits.platform]
  have hmap := h2.2.2.2.1
  rw [htb] at hmap
  obtain ⟨pre1, r1, hsp, hpre1, hr1⟩ := List.map_eq_append_iff.mp hmap
  obtain ⟨x1, suf1, rfl, hx1, hsuf1⟩ := List.map_eq_cons_iff.mp hr1
  subst hx1
  have hth := h7.2.2.2
  have hCm : C' ∈ aj_exc := List.mem_of_getElem? hC
  obtain ⟨c3, c4, hc3, hc4, hasg⟩ := Cond.castable_spec (va_Nw.use (A := args) rfl (hth.2.1 C' hCm))
  cases Option.some.inj (hc3.symm.trans hcl)
  cases Option.some.inj (hc4.symm.trans hcl)
  obtain ⟨c5, hc5, hcl5⟩ := Cond.classLink_spec h1.2.2.2.1 (hts _ hlink) e.platform hpl
  cases Option.some.inj (hcl.symm.trans hc5)
  obtain ⟨vm', Y', st⟩ := Y.thenCaughtThrough b (g := F0 m pc ls rest) rfl hcome (by rw [hT]; exact hcell) (by rw [hv]; rfl) (by obtain ⟨k9, h9, -⟩ := Vm.findClass_spec hcl; exact ⟨k9, h9⟩) pre1 x1 suf1 hsp
    (fun z hz => by
      obtain ⟨hz0, C2, hC2, hne, hl2⟩ := hpass (z.startPc, z.endPc, z.handlerPc, z.catchType) (by rw [← hpre1]; exact List.mem_map.mpr ⟨z, hz, rfl⟩)
      obtain ⟨c6, hc6, hcl6⟩ := Cond.classLink_spec h1.2.2.2.1 (hts _ hl2) e.platform hpl
      obtain ⟨a8, b8, y1, y2, y3⟩ := hth.2.2.1 C' hCm C2 hC2 hne
      cases Option.some.inj (y1.symm.trans hcl)
      cases Option.some.inj (y2.symm.trans hc6)
      exact Or.inr ⟨hz0, _, hcl6, y3⟩) (by
      show covers x1 pc = true
      unfold covers
      simp only [Bool.and_eq_true, decide_eq_true_eq]
      exact ⟨by simpa using hcov.1, by simpa using hcov.2⟩) (Or.inr ⟨hx0, cell.cls, hcl5, hasg⟩)
  have hlen : (lv.set i none).length = M.2.2.1 := by rw [List.length_set]; exact h5.1
  have hi : i < M.2.2.1 := by
    unfold aj_ok at ho
    rw [Bool.and_eq_true] at ho
    rw [← h5.1]
    exact Nat.blt_eq ▸ ho.1
  have hgo : ∀ ls' : Array Slot, lv_has ls' M.2.2.1 ((i, Value.ref b) :: (aj_l a lv).filter (fun q => !(q.1 == i) && !(q.1 + 1 == i && q.2.category == 2))) → W p l e R s m args below meth c H locs cells slots (aj_fin E ao a tc D A Q below s (cells + bc) (slots + bs)) (F0 m q ls' []) := fun ls' hl => kk p l e R s m args below meth c H locs cells slots ls' a tc D A
    ⟨h1, h2, h3, ⟨hP, hK, hD, hS, hA⟩, ⟨hlen, aj_stx ho hl⟩, h6, h7⟩
  have hWW : W p l e R s m args below meth c H locs cells slots (aj_fin E ao a tc D A Q below s (cells + bc) (slots + bs)) (F0 m x1.handlerPc ls [.ref b]) := by
    rcases hst with ⟨j, hj, hd, hq⟩ | ⟨hd, hq⟩
    · subst hq
      exact lv_astore_n h1.1 h1.2.1 hd hj h5.2 hi rfl hgo
    · subst hq
      exact lv_astore h1.1 h1.2.1 hd h5.2 hi rfl hgo
  obtain ⟨t, a1, b1⟩ := hWW (T.setVm vm') hT Y'
  exact ⟨t, st.trans a1, b1⟩
/-- what behind a call that throws goes on -/
def aj_KT (E : aj_E) (al ao : Prop) (X : Option (Nat × (Int → Int))) (M : aj_M) (d bc bs pc i : Nat) (lv : List (Option aj_A)) (Q : aj_R → List aj_S → aj_G → Prop) : aj_R → List aj_S → aj_G → Prop := fun r sh g => match r with
  | .inl _ => False
  | .inr k => ∃ q, aj_hdl E M pc k i q ∧ aj_wp E al ao X M d bc bs q (lv.set i none) [] sh g Q
theorem aj_KT_ret {i : Nat} (r : aj_R) (sh : List aj_S) (g : aj_G) (h : aj_KT E al ao X M d bc bs pc i lv Q r sh g) : ∃ k, r = .inr k := by
  cases r with
  | inl v => exact False.elim h
  | inr k => exact ⟨k, rfl⟩
theorem aj_callT {N : aj_M} {index n ci d1 bc1 bs1 bc2 bs2 i : Nat} {r : Int} {rest : List aj_A} (vs : List aj_A) (hl : aj_vl E M.1.cls index N n ci) (hd : decode M.2.1 pc = .ok (.invokevirtual index, 3)) (hn : vs.length = n) (hdd : d1 + 1 = d) (hbc : bc2 + bc1 = bc) (hbs : bs2 + bs1 = bs) (hwt : Nat.ble (aj_wt rest) 8 = true) (hea : Nat.ble (aj_ea ((1, r) :: vs)).length N.2.2.1 = true)
    (hs : aj_sh sh r = some (.inr ci)) (ho : aj_ok lv i = true) (k : aj_wp E al al X N d1 bc1 bs1 0 (aj_en ((1, r) :: vs) N.2.2.1) [] sh g (aj_KT E al ao X M d bc2 bs2 pc i lv Q)) : aj_wp E al ao X M d bc bs pc lv (vs.reverse ++ (1, r) :: rest) sh g Q := by
  subst hbc
  subst hbs
  intro p l e R s m args below meth c H locs cells slots ls a tc D A hc0
  have hM := aj_metT (l := l) hc0.2.1.2.2.2.2 hl.1.2.2.2.2.2.1 hl.1.2.2.2.2.2.2 hea aj_KT_ret k a tc D A
  obtain ⟨h0, -⟩ := aj_sh_get hs
  obtain ⟨h1, h2, h3, ⟨hP, hK, hD, hS, hA⟩, h5, h6, h7⟩ := hc0
  have hts := h1.2.2.2.2
  subst hdd
  have hcb := aj_cb (bc1 := bc1) (bs1 := bs1) hl.1 h7.1 hts h3.1 (by omega)
  obtain ⟨hrc, hrs, hfr, hlo, hws, hcw, hcode, hini, hy, hsig, hlk⟩ := hcb
  obtain ⟨rc, hrc', hrn⟩ := hl.2.2.2
  obtain ⟨cellB, hcB, hoB, hclB⟩ := va_recv hK hP hrc' (aj_w_get (E := E) (tc := tc) (a := a) (g := g) hs)
  rw [hrn] at hclB
  have hBack : BackT l R p e below s args N.1 3 8 (PreOf R bc1 bs1 (aj_Pc E al X ((1, r) :: vs) sh g a tc D A)) (fun B w b B' => ∃ (g' : JFrame) (mk : MethodId) (t : State) (L : List Loc), B'.U.heap = t.heap ∧ B'.U.vm = t.vm ∧ aj_QT E al a tc D A (aj_KT E al ao X M (d1 + 1) bc2 bs2 pc i lv Q) w (B.U.calling g' mk w) (.threw b) t ∧ B'.locs = B.locs ++ L ∧ (∀ q ∈ L, A q.base) ∧ B'.cells = B.cells + bc1 ∧ B'.slots = B.slots + bs1) := by
    refine BackT.of_free (S := headSpec (aj_ws E N) (aj_rm d1 bc1 bs1)) (bytes := N.2.1) (maxL := N.2.2.1) (ret := N.2.2.2) (E := fun _ _ _ _ L k n => k = bc1 ∧ n = bs1 ∧ ∀ q ∈ L, A q.base) hM hfr hlo ?_ ?_ (fun _ _ _ _ _ _ _ _ _ => trivial) ?_ ?_
    · intro m meth c B w Y hp
      exact ⟨atoms_intro fun z hz => hws z hz _ _ Y.warmed, hws _ hcw _ _ Y.warmed, word_at Y.warmed (Or.inl (by first | rfl | simp [Cond.onTables, Cond.keeps, Cond.steady])) hini, hp.1, hp.2.1⟩
    · intro m meth c B w g' mk Y hp
      exact aj_blind _ _ _ _ hp.2.2
    · rintro w s9 o t ⟨hq, L, hF, hL⟩
      exact ⟨L, bc1, bs1, hF, rfl, rfl, hL⟩
    · rintro m meth c B w g' mk b t L k9 n9 Y hp ⟨hq, -⟩ hF ⟨rfl, rfl, hL⟩
      exact ⟨g', mk, t, L, rfl, rfl, hq, rfl, hL, rfl, rfl⟩
  intro T hT Y
  obtain ⟨mk, methM, hnamed, hmethM, hstM, habM⟩ := Cond.instanceMethod_spec (hts _ hl.2.1)
  obtain ⟨methM', cM, hmethM', -, -, -, -, -, -, hsigM⟩ := Cond.code_spec hnamed hcode
  cases hmethM.symm.trans hmethM'
  obtain ⟨c2, r2, m2, q1, q2, q3, q4, kP, hkP, hkPi⟩ := Cond.selects_spec (hts _ hl.2.2.1)
  cases hclB.symm.trans q1
  cases (State.methodFound?_of_named hnamed hy).symm.trans q2
  cases hnamed.symm.trans q3
  have hselP : selectMethod e.platform s.vm cellB.cls mk = .method mk := by rw [Launch.admits_selectMethod Y.admits]; exact q4
  obtain ⟨vm₁, Y₁, hstep₁⟩ := Y.invokevirtual h1.1 h1.2.2.2.1 hlk hnamed hmethM hstM hkP hkPi hy (a := a r.toNat) (cell := cellB) (by rw [hT]; exact hcB)
    (fun z h => by rw [h] at hoB; cases hoB) hselP hmethM habM hkP hkPi (g := F0 m pc ls ((vs.reverse ++ (1, r) :: rest).map (aj_c a))) rfl (argsL := vs.map (aj_c a)) (rest := rest.map (aj_c a)) (by rw [List.length_map, hn]; exact hsig _ hsigM) (by
      show (vs.reverse ++ (1, r) :: rest).map (aj_c a) = _
      rw [List.map_append, List.map_reverse, List.map_cons, aj_cr h0]) (by rw [h1.2.1]; exact hd)
  obtain ⟨b, B, Y', ⟨g', mk', t, L, f1, f2, ⟨k9, sh1, g1, b', cell, C, o1, o2, o3, o4, o5, ⟨q9, hh9, kk9⟩, o7, o8, o9, o10⟩, f4, f5, f6, f7⟩, hsteps⟩ := hBack m meth c ⟨T.setVm vm₁, locs, cells, slots⟩ (F0 m pc ls (rest.map (aj_c a))) (.invokevirtual index) mk (Value.ref (a r.toNat) :: vs.map (aj_c a)).toArray Y₁ rfl (by rw [h1.2.2.1]; exact h5.2.1) (by rw [h1.2.1]; exact hd) (lv_room (by rw [aj_wt_eq]; exact Nat.le_of_ble_eq_true hwt)) (Y₁.named hnamed)
    ⟨by show cells + bc1 ≤ R.cells; omega, by show slots + bs1 ≤ R.slots; omega, by rw [List.map_cons, aj_cr h0], by show va_P D E.1 (aj_w E tc a sh g) T.heap; rw [hT]; exact hP, va_K.moved Y₁.warmed.alike hK, hD, fun q hq => hA q (Nat.le_trans hS.1 (by rw [← hT]; exact hq)), by show aj_ph al sh a T.heap.size; rw [hT]; exact h6, h7.1, aj_xs_at h7.2 hS (show (T.setVm vm₁).heap = H from hT) Y₁.warmed⟩
  cases o1
  obtain ⟨U, l2, c2', s2⟩ := B
  dsimp only [Pt.U, Pt.locs, Pt.cells, Pt.slots] at Y' f1 f2 f4 f6 f7 hsteps o9
  subst f4; subst f6; subst f7
  have hF1 : T.heap.size ≤ t.heap.size ∧ ∀ q : Nat, q < T.heap.size → ¬ A q → t.heap[q]? = T.heap[q]? := o9
  rw [hT] at hF1
  have hS1 : va_S A s.heap U.heap (locs ++ L) := ⟨Nat.le_trans hS.1 (by rw [f1]; exact hF1.1), fun q u1 u2 => by rw [f1, hF1.2 q (Nat.lt_of_lt_of_le u1 hS.1) u2]; exact hS.2.1 q u1 u2, fun q hq => (List.mem_append.mp hq).elim (hS.2.2 q) (f5 q)⟩
  have hcl : s.vm.findClass C = some cell.cls := by
    rw [← f2, Y'.warmed.alike.findClass] at o5
    exact o5
  obtain ⟨t9, a9, b9⟩ := aj_caught (d := d1 + 1) (bc := bc2) (bs := bs2) (cells := cells + bc1) (slots := slots + bs1) hh9 ho kk9
    ⟨h1, h2, ⟨h3.1, h3.2.1, by omega, by omega⟩, ⟨by rw [f1]; exact o7, hK, o8, hS1, hA⟩, h5, by rw [f1]; exact o10, h7⟩ rfl Y' (by rw [f1]; exact o2) o3 o4 hcl (hstep₁ _ fun acts => by rw [doInvoke_state]; exact hsteps)
  rw [show cells + bc1 + bc2 = cells + (bc2 + bc1) by omega, show slots + bs1 + bs2 = slots + (bs2 + bs1) by omega] at b9
  exact ⟨t9, a9, b9⟩
end AJT
end
section
/-! the judgement: a static method with a table of handlers, called; a constructor of a nest mate, called -/
section AJW
variable {E : aj_E} {al ao : Prop} {X : Option (Nat × (Int → Int))} {M : aj_M} {d bc bs pc : Nat} {lv : List (Option aj_A)} {st : List aj_A} {sh : List aj_S} {g : aj_G} {Q : aj_R → List aj_S → aj_G → Prop}
def aj_wsW (E : aj_E) (M : aj_M) : List Cond := Cond.codeWith M.1 M.2.1 M.2.2.1 M.2.2.2 (aj_tb M.1) :: E.2.2.2.1
theorem aj_metW {l : Launch} {vs : List aj_A} (hst : l.stackTraces = false) (hy : plainName M.1.cls = true) (hlen : Nat.ble (aj_ea vs).length M.2.2.1 = true) (hret : ∀ r sh g, Q r sh g → ∃ v, r = .inl v) (k : aj_wp E al al X M d bc bs 0 (aj_en vs M.2.2.1) [] sh g Q) (a tc : Nat → Nat) (D : va_G) (A : Nat → Prop) :
    Met l M.1 (aj_wsW E M) (aj_rm d bc bs) (aj_Pc E al X vs sh g a tc D A) (aj_Qc E al a tc D A Q) bc bs A := by
  refine va_MetW (cc := M.2.1) (maxL := M.2.2.1) (ret := M.2.2.2) (hh := aj_tb M.1) hy rfl ?_
  intro p e s m args below meth c s₁ B hml hv
  obtain ⟨rfl, hP, hK, hD, hA, h6, h7⟩ := hv
  have hts := atoms_spec (ws := aj_wsW E M) B.pre
  have hle : (aj_ea vs).length ≤ M.2.2.1 := Nat.le_of_ble_eq_true hlen
  have hT : c.exceptionTable.toList.map (fun h => (h.startPc, h.endPc, h.handlerPc, h.catchType)) = aj_tb M.1 := by
    obtain ⟨m', meth', c', g0, g1, g2, -, -, g3, -⟩ := Cond.codeWith_spec (hts _ List.mem_cons_self)
    have e0 : m' = m := Option.some.inj (g0.symm.trans B.named)
    subst e0
    have e1 : meth' = meth := Option.some.inj (g1.symm.trans B.method)
    subst e1
    have e2 : c' = c := Option.some.inj (g2.symm.trans (Stand.of_body B).code)
    subst e2
    exact g3
  have hl := lv_entry (vs.map (aj_c a)) (n := M.2.2.1) (by rw [aj_ea_len]; exact hle)
  rw [lg_entry_eq]
  generalize (lg_sl (vs.map (aj_c a)) ++ List.replicate (M.2.2.1 - (lg_sl (vs.map (aj_c a))).length) Slot.unset).toArray = ls at hl ⊢
  have hW := k p l e (aj_rm d bc bs) s m (vs.map (aj_c a)).toArray below meth c s.heap [] 0 0 ls a tc D A
    ⟨⟨B.exec, B.bytes, hml, findClass_of_methodNamed B.named, fun w hw => hts w (List.mem_cons_of_mem _ hw)⟩, ⟨B.returns, B.notSynchronized, (name_of_methodNamed B.named B.method).1, hT, hst⟩, ⟨Nat.le_refl _, Nat.le_refl _, by show 0 + bc ≤ bc; omega, by show 0 + bs ≤ bs; omega⟩, ⟨hP, hK, hD, va_S.rf, hA⟩, ⟨aj_en_len hle, aj_entry hl⟩, h6, h7⟩
  refine aj_monoW ?_ hW
  rintro t ⟨o, r, sh1, g1, e1, e2, e3, e4, e5, e6, e7, e8, L, e9, e10, e11⟩
  obtain ⟨v, rfl⟩ := hret _ _ _ e3
  rw [Nat.zero_add, Nat.zero_add] at e10
  exact ⟨o, e1, e2, ⟨v, sh1, g1, e4, e3, e5, e6, e7, e8⟩, L, ⟨⟨_, e4⟩, e9, e10⟩, e11⟩
def aj_wl (E : aj_E) (own : String) (index : Nat) (N : aj_M) (n : Nat) : Prop := Cond.methodLink own index N.1 ∈ E.2.2.2.1 ∧ Cond.codeWith N.1 N.2.1 N.2.2.1 N.2.2.2 (aj_tb N.1) ∈ E.2.2.2.1 ∧ Cond.initialized N.1.cls ∈ E.2.2.2.1 ∧
  (N.1.cls ≠ "java/lang/invoke/MethodHandle" ∧ N.1.cls ≠ "java/lang/invoke/VarHandle" ∧ (parseMethodDescriptor N.1.desc).map (fun d => d.parameters.length) = some n) ∧ N.2.2.1 ≤ 29 ∧ plainName N.1.cls = true ∧ Cond.static N.1 ∈ E.2.2.2.1
theorem aj_callW {N : aj_M} {index n d1 bc1 bs1 bc2 bs2 : Nat} {rest : List aj_A} (vs : List aj_A) (q : Nat) (hl : aj_wl E M.1.cls index N n) (hd : decode M.2.1 pc = .ok (.invokestatic index, 3)) (hq : pc + 3 = q) (hn : vs.length = n) (hdd : d1 + 1 = d) (hbc : bc2 + bc1 = bc) (hbs : bs2 + bs1 = bs) (hwt : Nat.ble (aj_wt rest) 8 = true) (hea : Nat.ble (aj_ea vs).length N.2.2.1 = true)
    (k : aj_wp E al al X N d1 bc1 bs1 0 (aj_en vs N.2.2.1) [] sh g (aj_K E al ao X M d bc2 bs2 q lv rest Q)) : aj_wp E al ao X M d bc bs pc lv (vs.reverse ++ rest) sh g Q := by
  subst hq
  intro p l e R s m args below meth c H locs cells slots ls a tc D A hc0
  obtain ⟨w1, w2, w3, ⟨w4, w5, w6⟩, w7, w8, w9⟩ := hl
  have hM := aj_metW (l := l) hc0.2.1.2.2.2.2 w8 hea aj_K_ret k a tc D A
  refine aj_after (rest := rest) (argsA := (vs.map (aj_c a)).toArray) (st0 := (vs.reverse ++ rest).map (aj_c a)) hc0 hbc hbs ?_
  obtain ⟨h1, h2, h3, ⟨hP, hK, hD, hS, hA⟩, h5, h6, h7⟩ := hc0
  have hts := h1.2.2.2.2
  subst hdd
  have hws : ∀ w ∈ aj_wsW E N, ∀ a' U, s.WarmedH U.vm → w.before a' U = true := pay_in hts (fun w hw => by
    rcases List.mem_cons.mp hw with rfl | h
    · exact ⟨w2, h7.1.1 _ w2⟩
    · exact ⟨h, h7.1.1 _ h⟩)
  have hB : Back l R p e below s args N.1 3 8 (PreOf R bc1 bs1 (aj_Pc E al X vs sh g a tc D A)) (PostOf (aj_Qc E al a tc D A (aj_K E al ao X M (d1 + 1) bc2 bs2 (pc + 3) lv rest Q)) bc1 bs1 A) :=
    va_backW (hh := aj_tb N.1) (bytes := N.2.1) (maxL := N.2.2.1) (ret := N.2.2.2) hM aj_blind rfl rfl (by show d1 + 2 + 1 ≤ R.frames; omega) (by show 8 + (N.2.2.1 + 11) + 48 * d1 ≤ R.locals; omega) hws List.mem_cons_self (fun a' U hW => word_at hW (h7.1.1 _ w3) (hts _ w3))
  intro T hT Y
  obtain ⟨mk, methM, cM, hnamed, hmethM, -, -, -, -, -, -, hsigM⟩ := Cond.codeWith_spec (hts _ w2)
  have hstatic : methM.isStatic = true := Cond.static_spec hnamed hmethM (hts _ w9)
  obtain ⟨kP, hkP, -⟩ := className_of_methodNamed hnamed
  have hinitP : kP.init = .initialized := Cond.initialized_spec (findClass_of_methodNamed hnamed) hkP (hts _ w3)
  have hnn : vs.length = methM.sig.parameters.length := by
    rw [hsigM] at w6
    exact hn.trans (Option.some.inj w6).symm
  obtain ⟨vm₁, Y₁, hstep₁⟩ := Y.invokestatic h1.1 h1.2.2.2.1 (hts _ w1) hnamed hmethM hstatic hkP hinitP ⟨w4, w5⟩ (g := F0 m pc ls ((vs.reverse ++ rest).map (aj_c a))) rfl (argsL := vs.map (aj_c a)) (rest := rest.map (aj_c a)) (by rw [List.length_map]; exact hnn) (by
    show (vs.reverse ++ rest).map (aj_c a) = _
    rw [List.map_append, List.map_reverse]) (by rw [h1.2.1]; exact hd)
  obtain ⟨v, ⟨U', l2, c2, s2⟩, Y', ⟨g', mk', t, L, e1, e2, hq, f1, hL, f2, f3⟩, hsteps⟩ := hB m meth c ⟨T.setVm vm₁, locs, cells, slots⟩ (F0 m pc ls (rest.map (aj_c a))) (.invokestatic index) mk (vs.map (aj_c a)).toArray Y₁ rfl (by rw [h1.2.2.1]; exact h5.2.1) (by rw [h1.2.1]; exact hd) (lv_room (by rw [aj_wt_eq]; exact Nat.le_of_ble_eq_true hwt)) (Y₁.named hnamed)
    ⟨by show cells + bc1 ≤ R.cells; omega, by show slots + bs1 ≤ R.slots; omega, rfl, by show va_P D E.1 (aj_w E tc a sh g) T.heap; rw [hT]; exact hP, va_K.moved Y₁.warmed.alike hK, hD, fun q hq => hA q (Nat.le_trans hS.1 (by rw [← hT]; exact hq)), by show aj_ph al sh a T.heap.size; rw [hT]; exact h6, h7.1, aj_xs_at h7.2 hS (show (T.setVm vm₁).heap = H from hT) Y₁.warmed⟩
  dsimp only [Pt.U, Pt.locs, Pt.cells, Pt.slots] at Y' e1 e2 f1 f2 f3 hsteps
  subst f1; subst f2; subst f3
  exact ⟨v, (T.setVm vm₁).calling g' mk' (vs.map (aj_c a)).toArray, t, U', L, hT, Y', hL, e1, e2, hq, fun target h => hstep₁ _ fun acts => by rw [doInvoke_state]; exact hsteps.trans h⟩
/-! a nest mate's private constructor -/
def aj_nl1 (E : aj_E) (own host : String) (index : Nat) (N : aj_M) (n : Nat) : Prop := (own, index, N.1, host) ∈ E.2.2.2.2 ∧ Cond.code N.1 N.2.1 N.2.2.1 N.2.2.2 ∈ E.2.2.2.1 ∧ Cond.initialized N.1.cls ∈ E.2.2.2.1 ∧
  (N.1.cls ≠ "java/lang/invoke/MethodHandle" ∧ N.1.cls ≠ "java/lang/invoke/VarHandle" ∧ (parseMethodDescriptor N.1.desc).map (fun d => d.parameters.length) = some n) ∧ N.2.2.1 ≤ 29 ∧ plainName N.1.cls = true ∧ aj_tb N.1 = [] ∧ Cond.instanceMethod N.1 ∈ E.2.2.2.1 ∧ N.1.name = "<init>" ∧ N.2.2.2 = none
theorem aj_callN {N : aj_M} {host : String} {index d1 bc1 bs1 bc2 bs2 : Nat} {r : Int} {rest : List aj_A} (q : Nat) (hl : aj_nl1 E M.1.cls host index N 0) (hd : decode M.2.1 pc = .ok (.invokespecial index, 3)) (hq : pc + 3 = q) (hdd : d1 + 1 = d) (hbc : bc2 + bc1 = bc) (hbs : bs2 + bs1 = bs) (hwt : Nat.ble (aj_wt rest) 8 = true) (hea : Nat.ble (aj_ea [(1, r)]).length N.2.2.1 = true) (h0 : 0 ≤ r)
    (k : aj_wp E al al X N d1 bc1 bs1 0 (aj_en [(1, r)] N.2.2.1) [] sh g (aj_K E al ao X M d bc2 bs2 q lv rest Q)) : aj_wp E al ao X M d bc bs pc lv ((1, r) :: rest) sh g Q := by
  subst hq
  intro p l e R s m args below meth c H locs cells slots ls a tc D A hc0
  obtain ⟨w1, w2, w3, w4, w7, w8, w9, w10, w11, w12⟩ := hl
  have hM := aj_met (l := l) hc0.2.1.2.2.2.2 w8 w9 hea aj_K_ret k a tc D A
  refine aj_after (rest := rest) (argsA := (Value.ref (a r.toNat) :: ([] : List Value)).toArray) (st0 := ((1, r) :: rest).map (aj_c a)) hc0 hbc hbs ?_
  obtain ⟨h1, h2, h3, ⟨hP, hK, hD, hS, hA⟩, h5, h6, h7⟩ := hc0
  have hts := h1.2.2.2.2
  subst hdd
  have hcn : va_CN R s args M.1.cls index N.1 host N.2.1 N.2.2.1 N.2.2.2 (aj_ws E N) (aj_rm d1 bc1 bs1) bc1 bs1 0 := va_cnB (ws' := E.2.2.2.1) 0 hts (fun w hw => by
    rcases List.mem_cons.mp hw with rfl | h
    · exact ⟨w2, h7.1.1 _ w2⟩
    · exact ⟨h, h7.1.1 _ h⟩) rfl rfl rfl (h7.2.2.1 _ w1) (hts _ w3) w4 ⟨by show d1 + 2 + 1 ≤ R.frames; omega, by show 8 + (N.2.2.1 + 11) + 48 * d1 ≤ R.locals; omega⟩
  rw [w12] at hcn
  refine va_runIN (As := []) (b := a r.toNat) h1 hM ⟨hcn, w11, hts _ w10⟩ ⟨aj_blind, fun U hU hW => ?_⟩ rfl rfl h5.2.1 ?_ (lv_room (by rw [aj_wt_eq]; exact Nat.le_of_ble_eq_true hwt)) hd ⟨by omega, by omega⟩
  · refine ⟨by rw [List.map_cons, aj_cr h0]; rfl, by rw [hU]; exact hP, va_K.moved hW.alike hK, hD, fun q hq => hA q (by rw [hU] at hq; exact Nat.le_trans hS.1 hq), by rw [hU]; exact h6, h7.1, aj_xs_at h7.2 hS hU hW⟩
  · show ((1, r) :: rest).map (aj_c a) = _
    rw [List.map_cons, aj_cr h0]; rfl
theorem aj_ldc2 {index : Nat} {x : Int} (q : Nat) (hw : Cond.constantLong M.1.cls index (Int64.ofInt x) ∈ E.2.2.2.1) (hd : decode M.2.1 pc = .ok (.ldc2_w index, 3)) (hq : pc + 3 = q) (k : aj_wp E al ao X M d bc bs q lv ((2, x) :: st) sh g Q) : aj_wp E al ao X M d bc bs pc lv st sh g Q := by
  subst hq
  intro p l e R s m args below meth c H locs cells slots ls a tc D A hc0
  have kk := k p l e R s m args below meth c H locs cells slots ls a tc D A hc0
  obtain ⟨h1, h2, h3, h4, h5, h6, h7⟩ := hc0
  exact lv_ldc2 h1.1 h1.2.1 h1.2.2.2.1 (h1.2.2.2.2 _ hw) hd kk
theorem aj_ldc {index : Nat} {x : Int} (q : Nat) (hw : Cond.constant M.1.cls index (Int32.ofInt x) ∈ E.2.2.2.1) (hd : decode M.2.1 pc = .ok (.ldc index, 2)) (hq : pc + 2 = q) (k : aj_wp E al ao X M d bc bs q lv ((0, x) :: st) sh g Q) : aj_wp E al ao X M d bc bs pc lv st sh g Q := by
  subst hq
  intro p l e R s m args below meth c H locs cells slots ls a tc D A hc0
  have kk := k p l e R s m args below meth c H locs cells slots ls a tc D A hc0
  obtain ⟨h1, h2, h3, h4, h5, h6, h7⟩ := hc0
  exact lv_ldc h1.1 h1.2.1 h1.2.2.2.1 (h1.2.2.2.2 _ hw) hd kk
/-! rows of rows: new int[8][8] -/
theorem aj_outer (c : ClassId) (N h0 : Nat) : ∀ i : Nat, Jvm.Free.Multi.outerC c N h0 i = arrV c N (fun j => if j < i then .ref (h0 + 1 + j) else .null)
  | 0 => by
    show ({ cls := c, slots := Array.replicate N .null } : Cell) = _
    rw [arrV_new]
    congr 1
  | i + 1 => by
    show (Jvm.Free.Multi.outerC c N h0 i).setSlot i (.ref (h0 + 1 + i)) = _
    rw [aj_outer c N h0 i, arrV_store]
    congr 1
    funext j
    unfold updV
    by_cases h : j = i
    · subst h
      rw [if_pos rfl, if_pos (by omega)]
    · rw [if_neg h]
      show (if j < i then Value.ref (h0 + 1 + j) else Value.null) = _
      by_cases h2 : j < i
      · rw [if_pos h2, if_pos (by omega)]
      · rw [if_neg h2, if_neg (by omega)]
def aj_mg (g : aj_G) (k : Int) : aj_G := fun r => if r = k then (fun i => if 0 ≤ i ∧ i < 8 then k + 1 + i else -1) else if k < r ∧ r ≤ k + 8 then (fun _ => 0) else g r
theorem aj_mna {index t0 t1 bc1 bs1 : Nat} (q : Nat) (hw : Cond.classLink M.1.cls index "[[I" ∈ E.2.2.2.1 ∧ Cond.arrayClass .int ∈ E.2.2.2.1) (hd : decode M.2.1 pc = .ok (.multianewarray index 2, 4)) (hq : pc + 4 = q) (ht0 : E.2.1[t0]? = some (.array .int)) (ht1 : E.2.1[t1]? = some .int)
    (hbc : bc1 + 9 = bc) (hbs : bs1 + 72 = bs) (hal : al) (hsz : sh.length + 8 < 1000000) (k : aj_wp E al ao X M d bc1 bs1 q lv ((1, sh.length) :: st) (sh ++ (.inl (t0, 8) :: List.replicate 8 (.inl (t1, 8)))) (aj_mg g sh.length) Q) : aj_wp E al ao X M d bc bs pc lv ((0, 8) :: (0, 8) :: st) sh g Q := by
  subst hq
  subst hbc
  subst hbs
  intro p l e R s m args below meth c H locs cells slots ls a tc D A hc0
  obtain ⟨h1, h2, h3, ⟨hP, hK, hD, hS, hA⟩, h5, h6, h7⟩ := hc0
  have hts := h1.2.2.2.2
  have ha : ∀ j, j ≤ 8 → a (sh.length + j) = H.size + j := fun j hj => h6.1 hal j (by omega)
  have h8 : (Int32.ofInt 8).toNatClampNeg = 8 := by decide +kernel
  have hover : (Cond.arrayOver (.array .int)).before args s = true := h7.2.2.2.2.2.2.2.2 (.array .int) (by simp [aj_aos])
  intro T hT Y
  obtain ⟨vm1, cA, comp, -, fA, fC, -, -, Y', step⟩ := Y.multianewarray2F h1.1 h1.2.2.2.1 (ty := .int) (hts _ hw.1) hover (hts _ hw.2) (g := F0 m pc ls (((0, 8) :: (0, 8) :: st).map (aj_c a))) rfl (by rw [h1.2.1]; exact hd) (n := Int32.ofInt 8) (k := Int32.ofInt 8) (rest := st.map (aj_c a)) rfl (by decide +kernel) (by decide +kernel) (by rw [h8]; decide) (by rw [h8]; decide) (by rw [h8]; decide) (by decide +kernel) (by decide +kernel) (by rw [h8]; omega) (by rw [h8]; omega)
  rw [h8] at Y' step
  have hTh : (T.setVm vm1).heap = H := hT
  obtain ⟨f1, f2, -, -⟩ := Jvm.Free.Multi.fill_facts (T.setVm vm1) cA comp 8 8 (defaultValue .int) 8
  have f3 := fun (x : Nat) (hx : x < H.size) => Jvm.Free.Multi.fill_old (T.setVm vm1) cA comp 8 8 (defaultValue .int) (a := x) (by rw [hTh]; exact hx) 8
  have f4 := fun (j : Nat) (hj : j < 8) => Jvm.Free.Multi.fill_inner (T.setVm vm1) cA comp 8 8 (defaultValue .int) 8 j hj
  generalize hF : Jvm.Free.Multi.fill (T.setVm vm1) cA comp 8 8 (defaultValue .int) 8 = F at Y' step f1 f2 f3 f4
  rw [hTh] at f1 f2 f3 f4
  have hc0 : tc t0 = cA := by
    have hR : s.vm.findClass ("[" ++ (FieldType.array .int).toString) = some (tc t0) := (hK.2 t0 _ (aj_ty_at ht0)).2
    exact Option.some.inj (hR.symm.trans fA)
  have hc1 : tc t1 = comp := by
    have hR : s.vm.findClass ("[" ++ FieldType.int.toString) = some (tc t1) := (hK.2 t1 _ (aj_ty_at ht1)).2
    exact Option.some.inj (hR.symm.trans fC)
  have hat : ∀ (k : Nat) (y : Nat × va_E), (aj_w E tc a (sh ++ (.inl (t0, 8) :: List.replicate 8 (.inl (t1, 8)))) (aj_mg g sh.length))[k]? = some y → (k < sh.length ∧ (aj_w E tc a sh g)[k]? = some y) ∨ (sh.length ≤ k ∧ k ≤ sh.length + 8 ∧ y.1 = H.size + (k - sh.length) ∧ va_at D E.1 y F.heap) := by
    intro k y hy
    rw [aj_w_at] at hy
    by_cases hk : k < sh.length
    · rw [List.getElem?_append_left hk] at hy
      have hg : aj_mg g sh.length (k : Nat) = g (k : Nat) := by unfold aj_mg; rw [if_neg (by omega), if_neg (by omega)]
      rw [hg, ← aj_w_at] at hy
      exact Or.inl ⟨hk, hy⟩
    · rw [List.getElem?_append_right (by omega)] at hy
      refine Or.inr ⟨by omega, ?_⟩
      by_cases h2 : k = sh.length
      · subst h2
        rw [Nat.sub_self, List.getElem?_cons_zero, Option.map_some] at hy
        cases hy
        have h0 := ha 0 (by omega)
        rw [Nat.add_zero, Nat.add_zero] at h0
        refine ⟨by omega, by show a sh.length = _; rw [h0]; omega, ?_⟩
        show F.heap[a sh.length]? = some (vp_cell (tc t0) (8, aj_row a E.2.1[t0]? (aj_mg g sh.length (sh.length : Nat))))
        rw [aj_rowr ht0 rfl, h0, f2, aj_outer, hc0]
        congr 2
        funext j
        have hm : aj_mg g sh.length (sh.length : Nat) (j : Nat) = if (0 : Int) ≤ j ∧ (j : Int) < 8 then (sh.length : Int) + 1 + j else -1 := by unfold aj_mg; rw [if_pos rfl]
        rw [hm]
        by_cases hj : j < 8
        · have hv : (if (0 : Int) ≤ j ∧ (j : Int) < 8 then (sh.length : Int) + 1 + j else -1) = ((sh.length + (1 + j) : Nat) : Int) := by rw [if_pos (by omega)]; omega
          rw [if_pos hj, hv, aj_rfp (by omega), Int.toNat_natCast, ha (1 + j) (by omega), Nat.add_assoc]
          rfl
        · rw [if_neg hj, if_neg (by omega), aj_rfn (by omega)]
          rfl
      · obtain ⟨j, hj⟩ : ∃ j, k = sh.length + (1 + j) := ⟨k - sh.length - 1, by omega⟩
        subst hj
        rw [show sh.length + (1 + j) - sh.length = j + 1 by omega, List.getElem?_cons_succ, List.getElem?_replicate] at hy
        by_cases hj8 : j < 8
        · rw [if_pos hj8, Option.map_some] at hy
          cases hy
          refine ⟨by omega, by show a (sh.length + (1 + j)) = _; rw [ha (1 + j) (by omega)]; omega, ?_⟩
          show F.heap[a (sh.length + (1 + j))]? = some (vp_cell (tc t1) (8, aj_row a E.2.1[t1]? (aj_mg g sh.length ((sh.length + (1 + j) : Nat) : Int))))
          rw [aj_rowi ht1 (Or.inl rfl), ha (1 + j) (by omega), show H.size + (1 + j) = H.size + 1 + j by omega, f4 j hj8, hc1]
          show some ({ cls := comp, slots := Array.replicate 8 (.int 0) } : Cell) = _
          rw [arrV_new]
          congr 2
          funext i
          have hm : aj_mg g sh.length ((sh.length + (1 + j) : Nat) : Int) (i : Nat) = 0 := by unfold aj_mg; rw [if_neg (by omega), if_pos (by omega)]
          rw [hm]
          rfl
        · rw [if_neg hj8] at hy
          cases hy
  have hP2 : va_P D E.1 (aj_w E tc a (sh ++ (.inl (t0, 8) :: List.replicate 8 (.inl (t1, 8)))) (aj_mg g sh.length)) F.heap := by
    intro k y hy
    rcases hat k y hy with ⟨-, h⟩ | ⟨-, -, -, h⟩
    · exact (hP.kept (fun j z hz => f3 z.1 ((hP j z hz).lt))) k y h
    · exact h
  have hD2 : va_D A (aj_w E tc a (sh ++ (.inl (t0, 8) :: List.replicate 8 (.inl (t1, 8)))) (aj_mg g sh.length)) := by
    refine ⟨fun i j x y hx hy he => ?_, fun k y hy => ?_⟩
    · rcases hat i x hx with ⟨x1, x2⟩ | ⟨x1, x2, x3, -⟩ <;> rcases hat j y hy with ⟨y1, y2⟩ | ⟨y1, y2, y3, -⟩
      · exact hD.1 i j x y x2 y2 he
      · have := (hP i x x2).lt
        omega
      · have := (hP j y y2).lt
        omega
      · omega
    · rcases hat k y hy with ⟨x1, x2⟩ | ⟨x1, x2, x3, -⟩
      · exact hD.2 k y x2
      · rw [x3]
        exact hA _ (Nat.le_trans hS.1 (by omega))
  have hS2 : va_S A s.heap F.heap locs := ⟨Nat.le_trans hS.1 (by omega), fun q q1 q2 => (f3 q (Nat.lt_of_lt_of_le q1 hS.1)).trans (hS.2.1 q q1 q2), hS.2.2⟩
  have hph : aj_ph al (sh ++ (.inl (t0, 8) :: List.replicate 8 (.inl (t1, 8)))) a F.heap.size := by
    refine ⟨fun hal j hj => ?_, fun k t n hk => ?_⟩
    · have hl : (sh ++ (.inl (t0, 8) :: List.replicate 8 (.inl (t1, 8)) : List aj_S)).length = sh.length + 9 := by simp
      rw [hl] at hj ⊢
      rw [show sh.length + 9 + j = sh.length + (9 + j) by omega, h6.1 hal (9 + j) (by omega), f1]
      omega
    · by_cases hlt : k < sh.length
      · rw [List.getElem?_append_left hlt] at hk
        exact h6.2 k t n hk
      · rw [List.getElem?_append_right (by omega)] at hk
        have hm : (Sum.inl (t, n) : aj_S) ∈ (.inl (t0, 8) :: List.replicate 8 (.inl (t1, 8)) : List aj_S) := List.mem_of_getElem? hk
        rcases List.mem_cons.mp hm with h | h
        · cases h; omega
        · have := List.eq_of_mem_replicate h
          cases this; omega
  have kk := k p l e R s m args below meth c F.heap locs (cells + 9) (slots + 72) ls a tc D A ⟨h1, h2, ⟨h3.1, h3.2.1, by omega, by omega⟩, ⟨hP2, hK, hD2, hS2, hA⟩, h5, hph, h7⟩
  have ha0 : a sh.length = T.heap.size := by
    have := ha 0 (by omega)
    rw [hT]
    simpa using this
  rw [show cells + 9 + bc1 = cells + (bc1 + 9) by omega, show slots + 72 + bs1 = slots + (bs1 + 72) by omega, List.map_cons, aj_cr (by omega), Int.toNat_natCast, ha0] at kk
  obtain ⟨t, a1, b1⟩ := kk F rfl Y'
  exact ⟨t, step t a1, b1⟩
end AJW
end
section
/-! Words as lists, the LAST letter first; cd: the code (1, then base-4 digits), shortlex order = order of codes. -/
def wd_cd : List Nat → Nat
  | [] => 1
  | i :: w => 4 * wd_cd w + i
def wd_ok (k : Nat) (w : List Nat) : Prop := ∀ i ∈ w, i < k
theorem wd_ok_nil (k : Nat) : wd_ok k [] := fun _ h => by cases h
theorem wd_ok_cons {k i : Nat} {w : List Nat} : wd_ok k (i :: w) ↔ i < k ∧ wd_ok k w := by
  unfold wd_ok
  constructor
  · intro h
    exact ⟨h i List.mem_cons_self, fun j hj => h j (List.mem_cons_of_mem _ hj)⟩
  · intro h j hj
    rcases List.mem_cons.mp hj with rfl | h2
    · exact h.1
    · exact h.2 j h2
theorem wd_pos (w : List Nat) : 1 ≤ wd_cd w := by
  induction w with
  | nil => exact Nat.le_refl 1
  | cons i w ih => show 1 ≤ 4 * wd_cd w + i; omega
theorem wd_lo (w : List Nat) : 4 ^ w.length ≤ wd_cd w := by
  induction w with
  | nil => exact Nat.le_refl 1
  | cons i w ih =>
    show 4 ^ (w.length + 1) ≤ 4 * wd_cd w + i
    rw [Nat.pow_succ]; omega
theorem wd_hi {w : List Nat} (h : wd_ok 4 w) : wd_cd w < 2 * 4 ^ w.length := by
  induction w with
  | nil => show 1 < 2 * 4 ^ 0; decide
  | cons i w ih =>
    obtain ⟨h1, h2⟩ := wd_ok_cons.mp h
    have := ih h2
    show 4 * wd_cd w + i < 2 * 4 ^ (w.length + 1)
    rw [Nat.pow_succ]; omega
theorem wd_len_lt {w v : List Nat} (hw : wd_ok 4 w) (h : w.length < v.length) : wd_cd w < wd_cd v := by
  have h1 := wd_hi hw
  have h2 := wd_lo v
  have h3 : 4 ^ (w.length + 1) ≤ 4 ^ v.length := Nat.pow_le_pow_right (by decide) h
  rw [Nat.pow_succ] at h3
  omega
theorem wd_len_le {w v : List Nat} (hv : wd_ok 4 v) (h : wd_cd w ≤ wd_cd v) : w.length ≤ v.length := by
  rcases Nat.lt_or_ge v.length w.length with h1 | h1
  · have := wd_len_lt hv h1
    omega
  · exact h1
theorem wd_inj : ∀ {w v : List Nat}, wd_ok 4 w → wd_ok 4 v → wd_cd w = wd_cd v → w = v
  | [], [], _, _, _ => rfl
  | [], j :: v, _, _, h => by
    have h1 : 1 = 4 * wd_cd v + j := h
    have := wd_pos v
    omega
  | i :: w, [], _, _, h => by
    have h1 : 4 * wd_cd w + i = 1 := h
    have := wd_pos w
    omega
  | i :: w, j :: v, hw, hv, h => by
    obtain ⟨h1, h2⟩ := wd_ok_cons.mp hw
    obtain ⟨h3, h4⟩ := wd_ok_cons.mp hv
    have h5 : 4 * wd_cd w + i = 4 * wd_cd v + j := h
    have h6 : i = j := by omega
    have h7 : wd_cd w = wd_cd v := by omega
    rw [h6, wd_inj h2 h4 h7]
theorem wd_cons_le {i : Nat} {w v : List Nat} (h : wd_cd w ≤ wd_cd v) : wd_cd (i :: w) ≤ wd_cd (i :: v) := by
  show 4 * wd_cd w + i ≤ 4 * wd_cd v + i
  omega
/-- a code of a longer word is larger than that of its beginning -/
theorem wd_cons_gt (i : Nat) (w : List Nat) : wd_cd w < wd_cd (i :: w) := by
  have := wd_pos w
  show wd_cd w < 4 * wd_cd w + i
  omega

/-! a machine's run over a word, and what tells two states apart (the last letter's outputs differ) -/
def rn (nx : Nat → Nat → Nat) (s : Nat) : List Nat → Nat
  | [] => s
  | i :: w => nx (rn nx s w) i
def df (nx ou : Nat → Nat → Nat) (s : Nat) (nx' ou' : Nat → Nat → Nat) (t : Nat) : List Nat → Prop
  | [] => False
  | i :: w => ou (rn nx s w) i ≠ ou' (rn nx' t w) i
def wd_none (k : Nat) (nx ou : Nat → Nat → Nat) (s : Nat) (nx' ou' : Nat → Nat → Nat) (t : Nat) : Prop := ∀ v, wd_ok k v → ¬ df nx ou s nx' ou' t v
def wd_least (k : Nat) (nx ou : Nat → Nat → Nat) (s : Nat) (nx' ou' : Nat → Nat → Nat) (t : Nat) (w : List Nat) : Prop :=
  wd_ok k w ∧ df nx ou s nx' ou' t w ∧ ∀ v, wd_ok k v → df nx ou s nx' ou' t v → wd_cd w ≤ wd_cd v

/-! breadth first: entries p < cnt with words W p; (at, inp): the next transition to look at -/
def bf_done (at_ inp p i k : Nat) : Prop := i < k ∧ (p < at_ ∨ (p = at_ ∧ i < inp))
def bf_I (k : Nat) (nx : Nat → Nat → Nat) (s : Nat) (nx' : Nat → Nat → Nat) (t : Nat) (W : Nat → List Nat) (cnt at_ inp : Nat) : Prop :=
  0 < cnt ∧ W 0 = [] ∧ at_ ≤ cnt ∧ inp ≤ k ∧ (∀ p, p < cnt → wd_ok k (W p)) ∧ (∀ p q, p < q → q < cnt → wd_cd (W p) < wd_cd (W q)) ∧
  (∀ p i, p < cnt → bf_done at_ inp p i k → ∃ q, q < cnt ∧ rn nx s (W q) = nx (rn nx s (W p)) i ∧ rn nx' t (W q) = nx' (rn nx' t (W p)) i ∧ wd_cd (W q) ≤ wd_cd (i :: W p)) ∧
  (∀ q, 0 < q → q < cnt → ∃ p i, p < q ∧ bf_done at_ inp p i k ∧ W q = i :: W p)
section BF
variable {k s t cnt at_ inp : Nat} {nx nx' ou ou' : Nat → Nat → Nat} {W : Nat → List Nat}
theorem bf_reach (hI : bf_I k nx s nx' t W cnt at_ inp) {c : Nat} (hpr : ∀ p i, p < cnt → i < k → wd_cd (i :: W p) < c → bf_done at_ inp p i k) :
    ∀ u, wd_ok k u → 4 * wd_cd u < c → ∃ p, p < cnt ∧ rn nx s (W p) = rn nx s u ∧ rn nx' t (W p) = rn nx' t u ∧ wd_cd (W p) ≤ wd_cd u := by
  obtain ⟨h0, hW0, -, -, -, -, h4, -⟩ := hI
  intro u
  induction u with
  | nil => exact fun _ _ => ⟨0, h0, by rw [hW0], by rw [hW0], by rw [hW0]; exact Nat.le_refl _⟩
  | cons i u ih =>
    intro hok hc
    obtain ⟨hi, hu⟩ := wd_ok_cons.mp hok
    have e1 : wd_cd (i :: u) = 4 * wd_cd u + i := rfl
    obtain ⟨p, hp, e2, e3, hle⟩ := ih hu (by omega)
    have hlt : wd_cd (i :: W p) < c := by
      have e4 : wd_cd (i :: W p) = 4 * wd_cd (W p) + i := rfl
      omega
    obtain ⟨q, hq, g1, g2, g3⟩ := h4 p i hp (hpr p i hp hi hlt)
    refine ⟨q, hq, ?_, ?_, ?_⟩
    · show _ = nx (rn nx s u) i
      rw [g1, e2]
    · show _ = nx' (rn nx' t u) i
      rw [g2, e3]
    · exact Nat.le_trans g3 (wd_cons_le hle)
theorem bf_min (hI : bf_I k nx s nx' t W cnt at_ inp) {c : Nat} (hpr : ∀ p i, p < cnt → i < k → wd_cd (i :: W p) < c → bf_done at_ inp p i k)
    (hnd : ∀ p i, p < cnt → wd_cd (i :: W p) < c → bf_done at_ inp p i k → ¬ df nx ou s nx' ou' t (i :: W p)) : ∀ v, wd_ok k v → df nx ou s nx' ou' t v → c ≤ wd_cd v := by
  intro v hv hd
  rcases Nat.lt_or_ge (wd_cd v) c with hlt | hge
  · cases v with
    | nil => exact absurd hd (fun h => h)
    | cons j u =>
      obtain ⟨hj, hu⟩ := wd_ok_cons.mp hv
      have e1 : wd_cd (j :: u) = 4 * wd_cd u + j := rfl
      obtain ⟨p, hp, e2, e3, hle⟩ := bf_reach hI hpr u hu (by omega)
      have hlt2 : wd_cd (j :: W p) < c := Nat.lt_of_le_of_lt (wd_cons_le hle) hlt
      refine absurd ?_ (hnd p j hp hlt2 (hpr p j hp hj hlt2))
      show ou (rn nx s (W p)) j ≠ ou' (rn nx' t (W p)) j
      rw [e2, e3]
      exact hd
  · exact hge
/-- in the order of the words: what comes before is done -/
theorem bf_before (hI : bf_I k nx s nx' t W cnt at_ inp) (hk : k ≤ 4) (hat : at_ < cnt) (hin : inp < k) {p i : Nat} (hp : p < cnt) (hi : i < k) (h : wd_cd (i :: W p) < wd_cd (inp :: W at_)) : bf_done at_ inp p i k := by
  obtain ⟨-, -, -, -, -, h2, -, -⟩ := hI
  have e1 : wd_cd (i :: W p) = 4 * wd_cd (W p) + i := rfl
  have e2 : wd_cd (inp :: W at_) = 4 * wd_cd (W at_) + inp := rfl
  refine ⟨hi, ?_⟩
  rcases Nat.lt_trichotomy p at_ with h1 | h1 | h1
  · exact Or.inl h1
  · subst h1
    exact Or.inr ⟨rfl, by omega⟩
  · have := h2 at_ p h1 hp
    omega
theorem bf_found (hI : bf_I k nx s nx' t W cnt at_ inp) (hk : k ≤ 4) (hat : at_ < cnt) (hin : inp < k) (hnd : ∀ p i, p < cnt → bf_done at_ inp p i k → ¬ df nx ou s nx' ou' t (i :: W p)) (hd : df nx ou s nx' ou' t (inp :: W at_)) :
    wd_least k nx ou s nx' ou' t (inp :: W at_) :=
  ⟨wd_ok_cons.mpr ⟨hin, hI.2.2.2.2.1 at_ hat⟩, hd, bf_min hI (fun p i hp hi h => bf_before hI hk hat hin hp hi h) (fun p i hp _ h => hnd p i hp h)⟩
theorem bf_none (hI : bf_I k nx s nx' t W cnt cnt 0) (hnd : ∀ p i, p < cnt → bf_done cnt 0 p i k → ¬ df nx ou s nx' ou' t (i :: W p)) : wd_none k nx ou s nx' ou' t := by
  intro v hv hd
  have h := bf_min (c := wd_cd v + 1) hI (fun p i hp hi _ => ⟨hi, Or.inl hp⟩) (fun p i hp _ h => hnd p i hp h) v hv hd
  omega
theorem bf_0 (hW : W 0 = []) : bf_I k nx s nx' t W 1 0 0 := by
  refine ⟨by decide, hW, by decide, Nat.zero_le _, ?_, ?_, ?_, ?_⟩
  · intro p hp
    have : p = 0 := by omega
    subst this
    rw [hW]
    exact wd_ok_nil k
  · intro p q h1 h2; omega
  · rintro p i hp ⟨-, h | ⟨-, h⟩⟩ <;> omega
  · intro q h1 h2; omega
theorem bf_row (hI : bf_I k nx s nx' t W cnt at_ k) (hat : at_ < cnt) : bf_I k nx s nx' t W cnt (at_ + 1) 0 := by
  obtain ⟨h0, hW0, h1, h2, h3, h4, h5, h6⟩ := hI
  have to : ∀ p i, bf_done (at_ + 1) 0 p i k → bf_done at_ k p i k := by
    rintro p i ⟨hi, h | ⟨-, h⟩⟩
    · rcases Nat.lt_or_ge p at_ with g | g
      · exact ⟨hi, Or.inl g⟩
      · exact ⟨hi, Or.inr ⟨by omega, hi⟩⟩
    · omega
  have back : ∀ p i, bf_done at_ k p i k → bf_done (at_ + 1) 0 p i k := by
    rintro p i ⟨hi, h | ⟨h, -⟩⟩
    · exact ⟨hi, Or.inl (by omega)⟩
    · exact ⟨hi, Or.inl (by omega)⟩
  refine ⟨h0, hW0, hat, Nat.zero_le _, h3, h4, fun p i hp hd => h5 p i hp (to p i hd), fun q g1 g2 => ?_⟩
  obtain ⟨p, i, e1, e2, e3⟩ := h6 q g1 g2
  exact ⟨p, i, e1, back p i e2, e3⟩
theorem bf_le (hI : bf_I k nx s nx' t W cnt at_ inp) (hk : k ≤ 4) (hat : at_ < cnt) {q : Nat} (hq : q < cnt) : wd_cd (W q) ≤ wd_cd (inp :: W at_) := by
  obtain ⟨-, hW0, -, -, -, h2, -, h6⟩ := hI
  have e2 : wd_cd (inp :: W at_) = 4 * wd_cd (W at_) + inp := rfl
  have hp := wd_pos (W at_)
  rcases Nat.eq_zero_or_pos q with rfl | g
  · rw [hW0]
    show 1 ≤ _
    omega
  · obtain ⟨p, i, e1, ⟨hi, hd⟩, e3⟩ := h6 q g hq
    have e4 : wd_cd (W q) = 4 * wd_cd (W p) + i := by rw [e3]; rfl
    rcases hd with hd | ⟨hd, h⟩
    · have := h2 p at_ hd hat
      omega
    · subst hd
      omega
theorem bf_lt (hI : bf_I k nx s nx' t W cnt at_ inp) (hk : k ≤ 4) (hat : at_ < cnt) {q : Nat} (hq : q < cnt) : wd_cd (W q) < wd_cd (inp :: W at_) := by
  obtain ⟨-, hW0, -, -, -, h2, -, h6⟩ := hI
  have e2 : wd_cd (inp :: W at_) = 4 * wd_cd (W at_) + inp := rfl
  have hp := wd_pos (W at_)
  rcases Nat.eq_zero_or_pos q with rfl | g
  · rw [hW0]
    show 1 < _
    omega
  · obtain ⟨p, i, e1, ⟨hi, hd⟩, e3⟩ := h6 q g hq
    have e4 : wd_cd (W q) = 4 * wd_cd (W p) + i := by rw [e3]; rfl
    rcases hd with hd | ⟨hd, h⟩
    · have := h2 p at_ hd hat
      omega
    · subst hd
      omega
theorem bf_done_step {p i : Nat} (h : bf_done at_ (inp + 1) p i k) : bf_done at_ inp p i k ∨ (p = at_ ∧ i = inp) := by
  obtain ⟨hi, h | ⟨h, g⟩⟩ := h
  · exact Or.inl ⟨hi, Or.inl h⟩
  · rcases Nat.lt_or_ge i inp with g2 | g2
    · exact Or.inl ⟨hi, Or.inr ⟨h, g2⟩⟩
    · exact Or.inr ⟨h, by omega⟩
theorem bf_done_mono {p i : Nat} (h : bf_done at_ inp p i k) : bf_done at_ (inp + 1) p i k := by
  obtain ⟨hi, h | ⟨h, g⟩⟩ := h
  · exact ⟨hi, Or.inl h⟩
  · exact ⟨hi, Or.inr ⟨h, by omega⟩⟩
/-- the pair was there -/
theorem bf_seen (hI : bf_I k nx s nx' t W cnt at_ inp) (hk : k ≤ 4) (hat : at_ < cnt) (hin : inp < k) {q : Nat} (hq : q < cnt) (e1 : rn nx s (W q) = nx (rn nx s (W at_)) inp) (e2 : rn nx' t (W q) = nx' (rn nx' t (W at_)) inp) :
    bf_I k nx s nx' t W cnt at_ (inp + 1) := by
  have hle := bf_le hI hk hat hq
  obtain ⟨h0, hW0, h1, h2, h3, h4, h5, h6⟩ := hI
  refine ⟨h0, hW0, h1, hin, h3, h4, fun p i hp hd => ?_, fun q g1 g2 => ?_⟩
  · rcases bf_done_step hd with hd | ⟨rfl, rfl⟩
    · exact h5 p i hp hd
    · exact ⟨q, hq, e1, e2, hle⟩
  · obtain ⟨p, i, a1, a2, a3⟩ := h6 q g1 g2
    exact ⟨p, i, a1, bf_done_mono a2, a3⟩
/-- the pair is new -/
theorem bf_new (hI : bf_I k nx s nx' t W cnt at_ inp) (hk : k ≤ 4) (hat : at_ < cnt) (hin : inp < k) {W' : Nat → List Nat} (hW : ∀ q, q < cnt → W' q = W q) (hc : W' cnt = inp :: W at_) :
    bf_I k nx s nx' t W' (cnt + 1) at_ (inp + 1) := by
  have hlt : ∀ q, q < cnt → wd_cd (W q) < wd_cd (inp :: W at_) := fun q hq => bf_lt hI hk hat hq
  obtain ⟨h0, hW0, h1, h2, h3, h4, h5, h6⟩ := hI
  refine ⟨by omega, by rw [hW 0 h0]; exact hW0, by omega, hin, fun p hp => ?_, fun p q g1 g2 => ?_, fun p i hp hd => ?_, fun q g1 g2 => ?_⟩
  · rcases Nat.lt_or_ge p cnt with g | g
    · rw [hW p g]; exact h3 p g
    · have : p = cnt := by omega
      subst this
      rw [hc]
      exact wd_ok_cons.mpr ⟨hin, h3 at_ hat⟩
  · rcases Nat.lt_or_ge q cnt with g | g
    · rw [hW q g, hW p (by omega)]; exact h4 p q g1 g
    · have : q = cnt := by omega
      subst this
      rw [hc, hW p g1]
      exact hlt p g1
  · rcases bf_done_step hd with hd | ⟨rfl, rfl⟩
    · have hp2 : p < cnt := by
        obtain ⟨-, h | ⟨h, -⟩⟩ := hd <;> omega
      obtain ⟨q, a1, a2, a3, a4⟩ := h5 p i hp2 hd
      exact ⟨q, by omega, by rw [hW q a1, hW p hp2]; exact a2, by rw [hW q a1, hW p hp2]; exact a3, by rw [hW q a1, hW p hp2]; exact a4⟩
    · exact ⟨cnt, by omega, by rw [hc, hW p hat]; rfl, by rw [hc, hW p hat]; rfl, by rw [hc, hW p hat]; exact Nat.le_refl _⟩
  · rcases Nat.lt_or_ge q cnt with g | g
    · obtain ⟨p, i, a1, a2, a3⟩ := h6 q g1 g
      exact ⟨p, i, a1, bf_done_mono a2, by rw [hW q g, hW p (by omega)]; exact a3⟩
    · have : q = cnt := by omega
      subst this
      exact ⟨at_, inp, hat, ⟨hin, Or.inr ⟨rfl, by omega⟩⟩, by rw [hc, hW at_ hat]⟩
end BF
end
section
/-! Counting, refinement, Moore's bound. -/
theorem mo_least {P : Nat → Prop} (h : ∃ n, P n) : ∃ n, P n ∧ ∀ m, m < n → ¬ P m := by
  obtain ⟨n, hn⟩ := h
  induction n using Nat.strongRecOn with
  | ind n ih =>
    by_cases hx : ∃ m, m < n ∧ P m
    · obtain ⟨m, h1, h2⟩ := hx
      exact ih m h1 h2
    · exact ⟨n, hn, fun m h1 h2 => hx ⟨m, h1, h2⟩⟩
noncomputable def mo_c (P : Nat → Prop) : Nat → Nat
  | 0 => 0
  | n + 1 => mo_c P n + @ite Nat (P n) (Classical.propDecidable _) 1 0
theorem mo_c_t {P : Nat → Prop} {n : Nat} (h : P n) : mo_c P (n + 1) = mo_c P n + 1 := by
  show mo_c P n + @ite Nat (P n) (Classical.propDecidable _) 1 0 = _
  rw [if_pos h]
theorem mo_c_f {P : Nat → Prop} {n : Nat} (h : ¬ P n) : mo_c P (n + 1) = mo_c P n := by
  show mo_c P n + @ite Nat (P n) (Classical.propDecidable _) 1 0 = _
  rw [if_neg h]; rfl
theorem mo_c_le (P : Nat → Prop) (n : Nat) : mo_c P n ≤ n := by
  induction n with
  | zero => exact Nat.le_refl 0
  | succ n ih =>
    by_cases h : P n
    · rw [mo_c_t h]; omega
    · rw [mo_c_f h]; omega
theorem mo_c_mono {P P' : Nat → Prop} {n : Nat} (h : ∀ s, s < n → P s → P' s) : mo_c P n ≤ mo_c P' n := by
  induction n with
  | zero => exact Nat.le_refl 0
  | succ n ih =>
    have h1 := ih (fun s hs => h s (by omega))
    by_cases hp : P n
    · rw [mo_c_t hp, mo_c_t (h n (by omega) hp)]; omega
    · rw [mo_c_f hp]
      by_cases hq : P' n
      · rw [mo_c_t hq]; omega
      · rw [mo_c_f hq]; exact h1
theorem mo_c_strict {P P' : Nat → Prop} {n x : Nat} (h : ∀ s, s < n → P s → P' s) (hx : x < n) (h1 : P' x) (h2 : ¬ P x) : mo_c P n + 1 ≤ mo_c P' n := by
  induction n with
  | zero => omega
  | succ n ih =>
    rcases Nat.lt_or_ge x n with g | g
    · have h3 := ih (fun s hs => h s (by omega)) g
      by_cases hp : P n
      · rw [mo_c_t hp, mo_c_t (h n (by omega) hp)]; omega
      · rw [mo_c_f hp]
        by_cases hq : P' n
        · rw [mo_c_t hq]; omega
        · rw [mo_c_f hq]; exact h3
    · have e : x = n := by omega
      subst e
      rw [mo_c_f h2, mo_c_t h1]
      have := mo_c_mono (n := x) (fun s hs => h s (by omega))
      omega
theorem mo_one : ∀ m, 1 ≤ mo_c (fun s => s = 0) (m + 1)
  | 0 => by rw [mo_c_t (P := fun s => s = 0) rfl]; exact Nat.le_add_left 1 _
  | m + 1 => by rw [mo_c_f (P := fun s => s = 0) (by omega)]; exact mo_one m
/-- a state that is the least of its class -/
def mo_rep (E : Nat → Nat → Prop) (s : Nat) : Prop := ∀ t, t < s → ¬ E t s
def mo_eq (E : Nat → Nat → Prop) : Prop := (∀ a, E a a) ∧ (∀ a b, E a b → E b a) ∧ ∀ a b c, E a b → E b c → E a c
theorem mo_refine {E E' : Nat → Nat → Prop} (hE : mo_eq E) (hE' : mo_eq E') (hsub : ∀ a b, E' a b → E a b) {n a b : Nat} (ha : a < n) (hb : b < n) (h1 : E a b) (h2 : ¬ E' a b) : mo_c (mo_rep E) n + 1 ≤ mo_c (mo_rep E') n := by
  obtain ⟨r, hr, hrm⟩ := mo_least (P := fun r => E r a) ⟨a, hE.1 a⟩
  obtain ⟨y, hy, hyr, hyn⟩ : ∃ y, y < n ∧ E y r ∧ ¬ E' y r := by
    by_cases g : E' a r
    · refine ⟨b, hb, hE.2.2 b a r (hE.2.1 a b h1) (hE.2.1 r a hr), fun g2 => h2 ?_⟩
      exact hE'.2.2 a r b g (hE'.2.1 b r g2)
    · exact ⟨a, ha, hE.2.1 r a hr, g⟩
  obtain ⟨x, ⟨hx1, hx2⟩, hxm⟩ := mo_least (P := fun x => E x r ∧ ¬ E' x r) ⟨y, hyr, hyn⟩
  have hxy : x ≤ y := Nat.le_of_not_lt fun g => hxm y g ⟨hyr, hyn⟩
  refine mo_c_strict (x := x) (fun s _ h t ht g => h t ht (hsub t s g)) (Nat.lt_of_le_of_lt hxy hy) (fun t ht g => ?_) (fun h => ?_)
  · refine hxm t ht ⟨hE.2.2 t x r (hsub t x g) hx1, fun g2 => hx2 ?_⟩
    exact hE'.2.2 x t r (hE'.2.1 t x g) g2
  · have hxa : E x a := hE.2.2 x r a hx1 hr
    have hne : r ≠ x := fun e => hx2 (by rw [← e]; exact hE'.1 r)
    have hle : r ≤ x := Nat.le_of_not_lt fun g => hrm x g hxa
    exact h r (by omega) (hE.2.1 x r hx1)

theorem rn_app (nx : Nat → Nat → Nat) (s i : Nat) (w : List Nat) : rn nx s (w ++ [i]) = rn nx (nx s i) w := by
  induction w with
  | nil => rfl
  | cons j w ih => show nx (rn nx s (w ++ [i])) j = nx (rn nx (nx s i) w) j; rw [ih]
theorem df_app {nx ou nx' ou' : Nat → Nat → Nat} {s t i j : Nat} {w : List Nat} : df nx ou s nx' ou' t ((j :: w) ++ [i]) ↔ df nx ou (nx s i) nx' ou' (nx' t i) (j :: w) := by
  show ou (rn nx s (w ++ [i])) j ≠ ou' (rn nx' t (w ++ [i])) j ↔ _
  rw [rn_app, rn_app]
  exact Iff.rfl
theorem wd_ok_app {k i : Nat} {w : List Nat} : wd_ok k (w ++ [i]) ↔ wd_ok k w ∧ i < k := by
  unfold wd_ok
  constructor
  · intro h
    exact ⟨fun j hj => h j (List.mem_append_left _ hj), h i (List.mem_append_right _ List.mem_cons_self)⟩
  · rintro ⟨h1, h2⟩ j hj
    rcases List.mem_append.mp hj with g | g
    · exact h1 j g
    · rw [List.mem_singleton.mp g]; exact h2
/-- alike under words of at most l letters -/
def mo_el (k : Nat) (nx ou : Nat → Nat → Nat) (l s t : Nat) : Prop := ∀ w, wd_ok k w → w.length ≤ l → ¬ df nx ou s nx ou t w
section MO
variable {k n : Nat} {nx ou : Nat → Nat → Nat}
theorem mo_el_eq (l : Nat) : mo_eq (mo_el k nx ou l) := by
  refine ⟨fun a w _ _ h => ?_, fun a b h w hw hl g => ?_, fun a b c h1 h2 w hw hl g => ?_⟩
  · cases w with
    | nil => exact h
    | cons i w => exact h rfl
  · cases w with
    | nil => exact g
    | cons i w => exact h (i :: w) hw hl (fun e => g e.symm)
  · cases w with
    | nil => exact g
    | cons i w =>
      have e1 : ou (rn nx a w) i = ou (rn nx b w) i := Decidable.byContradiction fun e => h1 (i :: w) hw hl e
      have e2 : ou (rn nx b w) i = ou (rn nx c w) i := Decidable.byContradiction fun e => h2 (i :: w) hw hl e
      exact g (e1.trans e2)
theorem mo_el_le {l l' s t : Nat} (h : mo_el k nx ou l' s t) (hl : l ≤ l') : mo_el k nx ou l s t := fun w hw g => h w hw (Nat.le_trans g hl)
def mo_stable (k n : Nat) (nx ou : Nat → Nat → Nat) (l : Nat) : Prop := ∀ s t, s < n → t < n → mo_el k nx ou l s t → mo_el k nx ou (l + 1) s t
theorem mo_all (hc : ∀ s i, s < n → i < k → nx s i < n) {l : Nat} (hs : mo_stable k n nx ou l) : ∀ m s t, s < n → t < n → mo_el k nx ou l s t → mo_el k nx ou m s t := by
  intro m
  induction m with
  | zero => exact fun s t _ _ h => mo_el_le h (Nat.zero_le l)
  | succ m ih =>
    intro s t h1 h2 h w hw hl
    rcases Nat.lt_or_ge (l + 1) w.length with g | g
    · rcases List.eq_nil_or_concat w with rfl | ⟨u, i, rfl⟩
      · exact fun x => x
      · rw [List.concat_eq_append] at *
        obtain ⟨hu, hi⟩ := wd_ok_app.mp hw
        have hlen : u.length + 1 ≤ m + 1 := by simpa using hl
        cases u with
        | nil => simp at g
        | cons j u =>
          rw [df_app]
          have h3 := hs s t h1 h2 h
          have h4 : mo_el k nx ou l (nx s i) (nx t i) := by
            intro v hv hvl g2
            cases v with
            | nil => exact g2
            | cons x v =>
              refine h3 ((x :: v) ++ [i]) (wd_ok_app.mpr ⟨hv, hi⟩) (by simp at hvl ⊢; omega) ?_
              rw [df_app]; exact g2
          exact ih (nx s i) (nx t i) (hc s i h1 hi) (hc t i h2 hi) h4 (j :: u) hu (by omega)
    · exact hs s t h1 h2 h w hw g
theorem mo_steps (hn : 0 < n) : ∀ l, (∀ j, j < l → ¬ mo_stable k n nx ou j) → l + 1 ≤ mo_c (mo_rep (mo_el k nx ou l)) n := by
  intro l
  induction l with
  | zero =>
    intro _
    obtain ⟨m, rfl⟩ : ∃ m, n = m + 1 := ⟨n - 1, by omega⟩
    have : mo_c (fun s => s = 0) (m + 1) ≤ mo_c (mo_rep (mo_el k nx ou 0)) (m + 1) := mo_c_mono fun s _ e t ht => by omega
    have h1 := mo_one m
    omega
  | succ l ih =>
    intro h
    have h1 := ih fun j hj => h j (by omega)
    have h2 := h l (by omega)
    unfold mo_stable at h2
    have h3 : ∃ s t, s < n ∧ t < n ∧ mo_el k nx ou l s t ∧ ¬ mo_el k nx ou (l + 1) s t := by
      refine Classical.byContradiction fun g => h2 fun s t a b c => Classical.byContradiction fun d => g ⟨s, t, a, b, c, d⟩
    obtain ⟨s, t, a, b, c, d⟩ := h3
    have := mo_refine (mo_el_eq l) (mo_el_eq (l + 1)) (fun x y g => mo_el_le g (by omega)) a b c d
    omega
/-- Moore: what n - 1 letters don't tell apart, no word does -/
theorem mo_bound (hn : 0 < n) (hc : ∀ s i, s < n → i < k → nx s i < n) {s t : Nat} (hs : s < n) (ht : t < n) (h : mo_el k nx ou (n - 1) s t) (m : Nat) : mo_el k nx ou m s t := by
  by_cases g : ∃ j, j < n ∧ mo_stable k n nx ou j
  · obtain ⟨j, hj, hst⟩ := g
    exact mo_all hc hst m s t hs ht (mo_el_le h (by omega))
  · have h1 := mo_steps (k := k) (nx := nx) (ou := ou) hn n fun j hj g2 => g ⟨j, hj, g2⟩
    have h2 := mo_c_le (mo_rep (mo_el k nx ou n)) n
    omega
theorem mo_len (hk : k ≤ 4) (hn : 0 < n) (hc : ∀ s i, s < n → i < k → nx s i < n) {s t : Nat} (hs : s < n) (ht : t < n) {w : List Nat} (h : wd_least k nx ou s nx ou t w) : w.length ≤ n - 1 := by
  rcases Nat.lt_or_ge (n - 1) w.length with g | g
  · refine absurd h.2.1 (mo_bound hn hc hs ht (fun v hv hl hd => ?_) w.length w h.1 (Nat.le_refl _))
    have h1 := h.2.2 v hv hd
    have h2 : wd_cd v < wd_cd w := wd_len_lt (fun i hi => Nat.lt_of_lt_of_le (hv i hi) hk) (by omega)
    omega
  · exact g
end MO
end
section
/-! codes and digits; lengths of shortest words; the greedy least word -/
theorem wd_div : ∀ (j : Nat) (w : List Nat), wd_ok 4 w → j ≤ w.length → wd_cd w / 4 ^ j = wd_cd (w.drop j)
  | 0, w, _, _ => by simp
  | j + 1, [], _, h => by simp at h
  | j + 1, i :: w, hw, h => by
    obtain ⟨h1, h2⟩ := wd_ok_cons.mp hw
    have ih := wd_div j w h2 (by simpa using h)
    rw [List.drop_succ_cons, ← ih]
    show (4 * wd_cd w + i) / 4 ^ (j + 1) = _
    rw [Nat.pow_succ, Nat.mul_comm (4 ^ j) 4, ← Nat.div_div_eq_div_mul]
    congr 1
    omega
theorem wd_dig {w : List Nat} {j : Nat} (hw : wd_ok 4 w) (hj : j < w.length) : wd_cd w / 4 ^ j % 4 = w[j] := by
  rw [wd_div j w hw (by omega), List.drop_eq_getElem_cons hj]
  show (4 * wd_cd _ + w[j]) % 4 = w[j]
  have := hw w[j] (List.getElem_mem hj)
  omega
theorem wd_gt1 {w : List Nat} : 1 < wd_cd w ↔ 0 < w.length := by
  cases w with
  | nil => simp [wd_cd]
  | cons i w =>
    have := wd_pos w
    show 1 < 4 * wd_cd w + i ↔ _
    simp
    omega
theorem wd_bound {w : List Nat} (hw : wd_ok 4 w) {n : Nat} (h : w.length ≤ n) : wd_cd w < 2 * 4 ^ n := by
  have h1 := wd_hi hw
  have h2 : 4 ^ w.length ≤ 4 ^ n := Nat.pow_le_pow_right (by decide) h
  omega
theorem wd_cd_app (i : Nat) (v : List Nat) : wd_cd (v ++ [i]) = wd_cd v + (3 + i) * 4 ^ v.length := by
  induction v with
  | nil => show 4 * 1 + i = 1 + (3 + i) * 4 ^ 0; omega
  | cons j v ih =>
    show 4 * wd_cd (v ++ [i]) + j = 4 * wd_cd v + j + (3 + i) * 4 ^ (v.length + 1)
    rw [ih, Nat.pow_succ, Nat.mul_add, ← Nat.mul_assoc, Nat.mul_comm 4 (3 + i), Nat.mul_assoc (3 + i) 4, Nat.mul_comm 4 (4 ^ v.length)]
    omega
theorem wd_app_lt {v u : List Nat} {i j : Nat} (hv : wd_ok 4 v) (hl : v.length = u.length) (h : i < j) : wd_cd (v ++ [i]) < wd_cd (u ++ [j]) := by
  rw [wd_cd_app, wd_cd_app, ← hl]
  have h1 := wd_hi hv
  have h2 := wd_lo u
  rw [← hl] at h2
  have h3 : (3 + i + 1) * 4 ^ v.length ≤ (3 + j) * 4 ^ v.length := Nat.mul_le_mul_right _ (by omega)
  rw [Nat.add_mul] at h3
  omega
theorem wd_ok_le {k k' : Nat} (h : k ≤ k') {w : List Nat} (hw : wd_ok k w) : wd_ok k' w := fun i hi => Nat.lt_of_lt_of_le (hw i hi) h
/-- the shortest words that tell s and t apart have m letters -/
def wd_ln (k : Nat) (nx ou : Nat → Nat → Nat) (s t m : Nat) : Prop := (∃ w, wd_ok k w ∧ w.length = m ∧ df nx ou s nx ou t w) ∧ ∀ w, wd_ok k w → w.length < m → ¬ df nx ou s nx ou t w
section LN
variable {k s t m : Nat} {nx ou : Nat → Nat → Nat}
theorem ln_pos (h : wd_ln k nx ou s t m) : 0 < m := by
  obtain ⟨⟨w, -, h1, h2⟩, -⟩ := h
  cases w with
  | nil => exact absurd h2 (fun z => z)
  | cons i w => rw [← h1]; exact Nat.succ_pos _
theorem ln_uniq {m' : Nat} (h : wd_ln k nx ou s t m) (h' : wd_ln k nx ou s t m') : m = m' := by
  obtain ⟨⟨w, a1, a2, a3⟩, a4⟩ := h
  obtain ⟨⟨v, b1, b2, b3⟩, b4⟩ := h'
  rcases Nat.lt_trichotomy m m' with g | g | g
  · exact absurd a3 (b4 w a1 (by omega))
  · exact g
  · exact absurd b3 (a4 v b1 (by omega))
theorem ln_one : wd_ln k nx ou s t 1 ↔ ∃ i, i < k ∧ ou s i ≠ ou t i := by
  constructor
  · rintro ⟨⟨w, a1, a2, a3⟩, -⟩
    match w, a2 with
    | [i], _ => exact ⟨i, (wd_ok_cons.mp a1).1, a3⟩
  · rintro ⟨i, hi, h⟩
    refine ⟨⟨[i], wd_ok_cons.mpr ⟨hi, wd_ok_nil k⟩, rfl, h⟩, fun w _ hl => ?_⟩
    have : w = [] := List.eq_nil_of_length_eq_zero (by omega)
    subst this
    exact fun z => z
theorem df_nil_not {w : List Nat} (h : df nx ou s nx ou t w) : w ≠ [] := by
  intro e
  subst e
  exact h
theorem ln_app {i : Nat} {u : List Nat} (hu : u ≠ []) : df nx ou s nx ou t (u ++ [i]) ↔ df nx ou (nx s i) nx ou (nx t i) u := by
  cases u with
  | nil => exact absurd rfl hu
  | cons j u => exact df_app
theorem ln_succ (hm : 0 < m) : wd_ln k nx ou s t (m + 1) ↔ (∀ w, wd_ok k w → w.length ≤ m → ¬ df nx ou s nx ou t w) ∧ ∃ i, i < k ∧ wd_ln k nx ou (nx s i) (nx t i) m := by
  have key : (∀ w, wd_ok k w → w.length ≤ m → ¬ df nx ou s nx ou t w) → ∀ i, i < k → ∀ v, wd_ok k v → v.length < m → ¬ df nx ou (nx s i) nx ou (nx t i) v := by
    intro h i hi v hv hl hd
    exact h (v ++ [i]) (wd_ok_app.mpr ⟨hv, hi⟩) (by rw [List.length_append, List.length_singleton]; omega) ((ln_app (df_nil_not hd)).mpr hd)
  constructor
  · rintro ⟨⟨w, a1, a2, a3⟩, a4⟩
    have hs : ∀ w, wd_ok k w → w.length ≤ m → ¬ df nx ou s nx ou t w := fun w hw hl => a4 w hw (by omega)
    refine ⟨hs, ?_⟩
    rcases List.eq_nil_or_concat w with rfl | ⟨u, i, rfl⟩
    · simp at a2
    · rw [List.concat_eq_append] at a1 a2 a3
      obtain ⟨b1, b2⟩ := wd_ok_app.mp a1
      have b3 : u.length = m := by rw [List.length_append, List.length_singleton] at a2; omega
      have b4 : u ≠ [] := fun e => by subst e; simp at b3; omega
      exact ⟨i, b2, ⟨u, b1, b3, (ln_app b4).mp a3⟩, key hs i b2⟩
  · rintro ⟨hs, i, hi, ⟨v, b1, b2, b3⟩, -⟩
    refine ⟨⟨v ++ [i], wd_ok_app.mpr ⟨b1, hi⟩, by rw [List.length_append, List.length_singleton, b2], (ln_app (df_nil_not b3)).mpr b3⟩, fun w hw hl => hs w hw (by omega)⟩
theorem least_len (hk : k ≤ 4) {w : List Nat} (h : wd_least k nx ou s nx ou t w) : wd_ln k nx ou s t w.length := by
  refine ⟨⟨w, h.1, rfl, h.2.1⟩, fun v hv hl hd => ?_⟩
  have h1 := h.2.2 v hv hd
  have h2 := wd_len_lt (wd_ok_le hk hv) hl
  omega
theorem least_uniq (hk : k ≤ 4) {nx' ou' : Nat → Nat → Nat} {w v : List Nat} (h : wd_least k nx ou s nx' ou' t w) (h' : wd_least k nx ou s nx' ou' t v) : w = v :=
  wd_inj (wd_ok_le hk h.1) (wd_ok_le hk h'.1) (Nat.le_antisymm (h.2.2 v h'.1 h'.2.1) (h'.2.2 w h.1 h.2.1))
theorem least_ex {nx' ou' : Nat → Nat → Nat} {w : List Nat} (hw : wd_ok k w) (hd : df nx ou s nx' ou' t w) : ∃ v, wd_least k nx ou s nx' ou' t v := by
  obtain ⟨c, ⟨v, h1, h2, h3⟩, h4⟩ := mo_least (P := fun c => ∃ v, wd_ok k v ∧ df nx ou s nx' ou' t v ∧ wd_cd v = c) ⟨_, w, hw, hd, rfl⟩
  refine ⟨v, h1, h2, fun u hu hdu => ?_⟩
  rcases Nat.lt_or_ge (wd_cd u) (wd_cd v) with g | g
  · exact absurd ⟨u, hu, hdu, rfl⟩ (h4 (wd_cd u) (by omega))
  · exact g
theorem least_one (hk : k ≤ 4) {i : Nat} (hi : i < k) (h : ou s i ≠ ou t i) (hm : ∀ j, j < i → ou s j = ou t j) : wd_least k nx ou s nx ou t [i] := by
  refine ⟨wd_ok_cons.mpr ⟨hi, wd_ok_nil k⟩, h, fun v hv hd => ?_⟩
  match v, hd with
  | [j], hd =>
    show 4 * 1 + i ≤ 4 * 1 + j
    rcases Nat.lt_or_ge j i with g | g
    · exact absurd (hm j g) hd
    · omega
  | j :: x :: v, _ =>
    have := wd_pos v
    obtain ⟨h1, -⟩ := wd_ok_cons.mp hv
    show 4 * 1 + i ≤ 4 * (4 * wd_cd v + x) + j
    omega
/-- greedy: the least first letter that leaves a shortest word, then the least word behind it -/
theorem least_app (hk : k ≤ 4) (hm : 0 < m) (h : wd_ln k nx ou s t (m + 1)) {i : Nat} (hi : i < k) (hl : wd_ln k nx ou (nx s i) (nx t i) m) (hlt : ∀ j, j < i → ¬ wd_ln k nx ou (nx s j) (nx t j) m) {v : List Nat} (hv : wd_least k nx ou (nx s i) nx ou (nx t i) v) : wd_least k nx ou s nx ou t (v ++ [i]) := by
  have hvl : v.length = m := ln_uniq (least_len hk hv) hl
  have hvn : v ≠ [] := df_nil_not hv.2.1
  refine ⟨wd_ok_app.mpr ⟨hv.1, hi⟩, (ln_app hvn).mpr hv.2.1, fun u hu hd => ?_⟩
  have hul : m + 1 ≤ u.length := by
    rcases Nat.lt_or_ge u.length (m + 1) with g | g
    · exact absurd hd (h.2 u hu g)
    · exact g
  have hlen : (v ++ [i]).length = m + 1 := by rw [List.length_append, List.length_singleton, hvl]
  rcases Nat.lt_or_ge (m + 1) u.length with g | g
  · exact Nat.le_of_lt (wd_len_lt (wd_ok_le hk (wd_ok_app.mpr ⟨hv.1, hi⟩)) (by omega))
  · rcases List.eq_nil_or_concat u with rfl | ⟨x, j, rfl⟩
    · simp at hul
    · rw [List.concat_eq_append] at *
      obtain ⟨b1, b2⟩ := wd_ok_app.mp hu
      have b3 : x.length = m := by rw [List.length_append, List.length_singleton] at hul g; omega
      have b4 : x ≠ [] := fun e => by subst e; simp at b3; omega
      have hdx := (ln_app b4).mp hd
      have hj : wd_ln k nx ou (nx s j) (nx t j) m := ⟨⟨x, b1, b3, hdx⟩, fun y hy hyl hyd => h.2 (y ++ [j]) (wd_ok_app.mpr ⟨hy, b2⟩) (by rw [List.length_append, List.length_singleton]; omega) ((ln_app (df_nil_not hyd)).mpr hyd)⟩
      rcases Nat.lt_trichotomy i j with g2 | g2 | g2
      · exact Nat.le_of_lt (wd_app_lt (wd_ok_le hk hv.1) (by omega) g2)
      · subst g2
        have := hv.2.2 x b1 hdx
        rw [wd_cd_app, wd_cd_app, hvl, b3]
        omega
      · exact absurd hj (hlt j g2)
end LN
end
section
/-! pigeonhole; states that are alike; the numbering as a trace that class and reference share -/
theorem pg_hole : ∀ (n N : Nat) (f : Nat → Nat), (∀ a, a < N → f a < n) → (∀ a b, a < N → b < N → f a = f b → a = b) → N ≤ n
  | 0, N, f, h, _ => by
    rcases Nat.eq_zero_or_pos N with g | g
    · omega
    · exact absurd (h 0 g) (Nat.not_lt_zero _)
  | n + 1, N, f, h, hi => by
    by_cases g : ∃ a, a < N ∧ f a = n
    · obtain ⟨a, ha, hf⟩ := g
      have h1 := pg_hole n (N - 1) (fun b => if b < a then f b else f (b + 1)) (fun b hb => by
          skip
          by_cases hba : b < a
          · rw [if_pos hba]
            have h2 := h b (by omega)
            have h3 : f b ≠ n := fun e => by have := hi b a (by omega) ha (e.trans hf.symm); omega
            omega
          · rw [if_neg hba]
            have h2 := h (b + 1) (by omega)
            have h3 : f (b + 1) ≠ n := fun e => by have := hi (b + 1) a (by omega) ha (e.trans hf.symm); omega
            omega) (fun b c hb hc e => by
          skip
          by_cases hba : b < a
          · rw [if_pos hba] at e
            by_cases hca : c < a
            · rw [if_pos hca] at e
              exact hi b c (by omega) (by omega) e
            · rw [if_neg hca] at e
              have := hi b (c + 1) (by omega) (by omega) e
              omega
          · rw [if_neg hba] at e
            by_cases hca : c < a
            · rw [if_pos hca] at e
              have := hi (b + 1) c (by omega) (by omega) e
              omega
            · rw [if_neg hca] at e
              have := hi (b + 1) (c + 1) (by omega) (by omega) e
              omega)
      omega
    · have h1 := pg_hole n N f (fun a ha => by
        have h2 := h a ha
        have h3 : f a ≠ n := fun e => g ⟨a, ha, e⟩
        omega) hi
      omega
/-! alike -/
def al_k (k : Nat) (nx ou : Nat → Nat → Nat) (s t : Nat) : Prop := wd_none k nx ou s nx ou t
section ALK
variable {k : Nat} {nx ou : Nat → Nat → Nat}
theorem al_refl (s : Nat) : al_k k nx ou s s := by
  intro v _ h
  cases v with
  | nil => exact h
  | cons i v => exact h rfl
theorem al_symm {s t : Nat} (h : al_k k nx ou s t) : al_k k nx ou t s := by
  intro v hv hd
  cases v with
  | nil => exact hd
  | cons i v => exact h (i :: v) hv (fun e => hd e.symm)
theorem al_trans {s t u : Nat} (h1 : al_k k nx ou s t) (h2 : al_k k nx ou t u) : al_k k nx ou s u := by
  intro v hv hd
  cases v with
  | nil => exact hd
  | cons i v =>
    have e1 : ou (rn nx s v) i = ou (rn nx t v) i := Decidable.byContradiction fun e => h1 (i :: v) hv e
    have e2 : ou (rn nx t v) i = ou (rn nx u v) i := Decidable.byContradiction fun e => h2 (i :: v) hv e
    exact hd (e1.trans e2)
theorem al_out {s t i : Nat} (h : al_k k nx ou s t) (hi : i < k) : ou s i = ou t i := Decidable.byContradiction fun e => h [i] (wd_ok_cons.mpr ⟨hi, wd_ok_nil k⟩) e
theorem al_next {s t i : Nat} (h : al_k k nx ou s t) (hi : i < k) : al_k k nx ou (nx s i) (nx t i) := by
  intro v hv hd
  cases v with
  | nil => exact hd
  | cons j v => exact h ((j :: v) ++ [i]) (wd_ok_app.mpr ⟨hv, hi⟩) (df_app.mpr hd)
theorem al_run {s t : Nat} (h : al_k k nx ou s t) : ∀ w, wd_ok k w → al_k k nx ou (rn nx s w) (rn nx t w)
  | [], _ => h
  | i :: w, hw => by
    obtain ⟨h1, h2⟩ := wd_ok_cons.mp hw
    exact al_next (al_run h w h2) h1
end ALK
/-- the twin: the first state that is alike -/
def tw_ok (k n : Nat) (nx ou : Nat → Nat → Nat) (tw : Nat → Nat) : Prop := ∀ s, s < n → tw s ≤ s ∧ al_k k nx ou s (tw s) ∧ ∀ t, t < tw s → ¬ al_k k nx ou s t
section TW
variable {k n : Nat} {nx ou : Nat → Nat → Nat} {tw : Nat → Nat}
theorem tw_eq (h : tw_ok k n nx ou tw) {s t : Nat} (hs : s < n) (ht : t < n) : tw s = tw t ↔ al_k k nx ou s t := by
  obtain ⟨a1, a2, a3⟩ := h s hs
  obtain ⟨b1, b2, b3⟩ := h t ht
  constructor
  · intro e
    rw [← e] at b2
    exact al_trans a2 (al_symm b2)
  · intro e
    rcases Nat.lt_trichotomy (tw s) (tw t) with g | g | g
    · exact absurd (al_trans (al_symm e) a2) (b3 _ g)
    · exact g
    · exact absurd (al_trans e b2) (a3 _ g)
theorem tw_lt (h : tw_ok k n nx ou tw) {s : Nat} (hs : s < n) : tw s < n := Nat.lt_of_le_of_lt (h s hs).1 hs
theorem tw_tw (h : tw_ok k n nx ou tw) {s : Nat} (hs : s < n) : tw (tw s) = tw s := (tw_eq h (tw_lt h hs) hs).mpr (al_symm (h s hs).2.1)
end TW
/-! the trace -/
def nb_up (f : Nat → Nat) (a x : Nat) : Nat → Nat := fun b => if b = a then x else f b
theorem nb_up_self (f : Nat → Nat) (a x : Nat) : nb_up f a x a = x := if_pos rfl
theorem nb_up_ne (f : Nat → Nat) {a b : Nat} (x : Nat) (h : b ≠ a) : nb_up f a x b = f b := if_neg h
def nb_in (N : Nat) (mb : Nat → Nat) (t : Nat) : Bool := (List.range N).any (fun a => mb a == t)
theorem nb_in_iff {N : Nat} {mb : Nat → Nat} {t : Nat} : nb_in N mb t = true ↔ ∃ a, a < N ∧ mb a = t := by
  unfold nb_in
  rw [List.any_eq_true]
  constructor
  · rintro ⟨a, h1, h2⟩
    exact ⟨a, List.mem_range.mp h1, by simpa using h2⟩
  · rintro ⟨a, h1, h2⟩
    exact ⟨a, List.mem_range.mpr h1, by simpa using h2⟩
abbrev nb_T : Type := Nat × (Nat → Nat) × (Nat → Nat) × (Nat → Nat)
def nb_st (k : Nat) (nx : Nat → Nat → Nat) (tw : Nat → Nat) (j : Nat) (q : nb_T) : nb_T :=
  if nb_in q.1 q.2.1 (tw (nx (q.2.1 (j / k)) (j % k))) = true then q
  else (q.1 + 1, nb_up q.2.1 q.1 (tw (nx (q.2.1 (j / k)) (j % k))), nb_up q.2.2.1 q.1 (j / k), nb_up q.2.2.2 q.1 (j % k))
def nb (k : Nat) (nx : Nat → Nat → Nat) (tw : Nat → Nat) (s0 : Nat) : Nat → nb_T
  | 0 => (1, fun _ => tw s0, fun _ => 0, fun _ => 0)
  | j + 1 => nb_st k nx tw j (nb k nx tw s0 j)
/-- what holds all along, as long as the place is in the list -/
def nb_I (k n : Nat) (nx : Nat → Nat → Nat) (tw : Nat → Nat) (s0 j : Nat) (q : nb_T) : Prop :=
  0 < q.1 ∧ q.2.1 0 = tw s0 ∧ (∀ a, a < q.1 → q.2.1 a < n ∧ tw (q.2.1 a) = q.2.1 a) ∧ (∀ a b, a < q.1 → b < q.1 → q.2.1 a = q.2.1 b → a = b) ∧
  (∀ a, 0 < a → a < q.1 → q.2.2.1 a < a ∧ q.2.2.2 a < k ∧ q.2.1 a = tw (nx (q.2.1 (q.2.2.1 a)) (q.2.2.2 a))) ∧
  ∀ a i, i < k → a * k + i < j → ∃ b, b < q.1 ∧ q.2.1 b = tw (nx (q.2.1 a) i)
section NB
variable {k n s0 : Nat} {nx ou : Nat → Nat → Nat} {tw : Nat → Nat}
theorem nb_le {j : Nat} {q : nb_T} (h : nb_I k n nx tw s0 j q) : q.1 ≤ n := pg_hole n q.1 q.2.1 (fun a ha => (h.2.2.1 a ha).1) h.2.2.2.1
theorem nb_step (hk : 0 < k) (htw : tw_ok k n nx ou tw) (hc : ∀ s i, s < n → i < k → nx s i < n) {j : Nat} {q : nb_T} (h : nb_I k n nx tw s0 j q) (hj : j / k < q.1) : nb_I k n nx tw s0 (j + 1) (nb_st k nx tw j q) := by
  have hlt : j % k < k := Nat.mod_lt _ hk
  have hjj : j / k * k + j % k = j := by rw [Nat.mul_comm]; exact Nat.div_add_mod j k
  obtain ⟨h1, h2, h3, h4, h5, h6⟩ := h
  have hm := h3 _ hj
  have ht : tw (nx (q.2.1 (j / k)) (j % k)) < n := tw_lt htw (hc _ _ hm.1 hlt)
  have htt := tw_tw htw (hc _ _ hm.1 hlt)
  have key : ∀ a i, i < k → a * k + i = j → a = j / k ∧ i = j % k := by
    intro a i hi e
    rw [← e]
    exact ⟨by rw [Nat.mul_comm, Nat.mul_add_div hk, Nat.div_eq_of_lt hi]; rfl, by rw [Nat.mul_comm, Nat.mul_add_mod, Nat.mod_eq_of_lt hi]⟩
  unfold nb_st
  by_cases g : nb_in q.1 q.2.1 (tw (nx (q.2.1 (j / k)) (j % k))) = true
  · rw [if_pos g]
    refine ⟨h1, h2, h3, h4, h5, fun a i hi hl => ?_⟩
    rcases Nat.lt_or_ge (a * k + i) j with g2 | g2
    · exact h6 a i hi g2
    · obtain ⟨rfl, rfl⟩ := key a i hi (by omega)
      exact nb_in_iff.mp g
  · rw [if_neg g]
    have hne : ∀ a, a < q.1 → q.2.1 a ≠ tw (nx (q.2.1 (j / k)) (j % k)) := fun a ha e => g (nb_in_iff.mpr ⟨a, ha, e⟩)
    refine ⟨by show 0 < q.1 + 1; omega, ?_, fun a ha => ?_, fun a b ha hb e => ?_, fun a ha0 ha => ?_, fun a i hi hl => ?_⟩
    · show nb_up _ _ _ 0 = _
      rw [nb_up_ne _ _ (by omega)]; exact h2
    · show nb_up _ _ _ a < n ∧ tw (nb_up _ _ _ a) = nb_up _ _ _ a
      by_cases e : a = q.1
      · subst e
        rw [nb_up_self]
        exact ⟨ht, htt⟩
      · rw [nb_up_ne _ _ e]
        exact h3 a (by have : a < q.1 + 1 := ha; omega)
    · have ha' : a < q.1 + 1 := ha
      have hb' : b < q.1 + 1 := hb
      have e' : nb_up q.2.1 q.1 (tw (nx (q.2.1 (j / k)) (j % k))) a = nb_up q.2.1 q.1 (tw (nx (q.2.1 (j / k)) (j % k))) b := e
      by_cases ea : a = q.1
      · by_cases eb : b = q.1
        · omega
        · rw [ea, nb_up_self, nb_up_ne _ _ eb] at e'
          exact absurd e'.symm (hne b (by omega))
      · by_cases eb : b = q.1
        · rw [eb, nb_up_self, nb_up_ne _ _ ea] at e'
          exact absurd e' (hne a (by omega))
        · rw [nb_up_ne _ _ ea, nb_up_ne _ _ eb] at e'
          exact h4 a b (by omega) (by omega) e'
    · have ha' : a < q.1 + 1 := ha
      show nb_up q.2.2.1 q.1 (j / k) a < a ∧ nb_up q.2.2.2 q.1 (j % k) a < k ∧ nb_up q.2.1 q.1 _ a = tw (nx (nb_up q.2.1 q.1 _ (nb_up q.2.2.1 q.1 (j / k) a)) (nb_up q.2.2.2 q.1 (j % k) a))
      by_cases ea : a = q.1
      · subst ea
        rw [nb_up_self, nb_up_self, nb_up_self, nb_up_ne _ _ (by omega)]
        exact ⟨hj, hlt, rfl⟩
      · rw [nb_up_ne _ _ ea, nb_up_ne _ _ ea, nb_up_ne _ _ ea]
        obtain ⟨c1, c2, c3⟩ := h5 a ha0 (by omega)
        rw [nb_up_ne _ _ (by omega)]
        exact ⟨c1, c2, c3⟩
    · show ∃ b, b < q.1 + 1 ∧ nb_up q.2.1 q.1 _ b = tw (nx (nb_up q.2.1 q.1 _ a) i)
      rcases Nat.lt_or_ge (a * k + i) j with g2 | g2
      · have ha : a < q.1 := by
          have : a ≤ j / k := by
            rw [Nat.le_div_iff_mul_le hk]; omega
          omega
        obtain ⟨b, b1, b2⟩ := h6 a i hi g2
        exact ⟨b, by omega, by rw [nb_up_ne _ _ (by omega), nb_up_ne _ _ (by omega)]; exact b2⟩
      · obtain ⟨rfl, rfl⟩ := key a i hi (by omega)
        exact ⟨q.1, by omega, by rw [nb_up_self, nb_up_ne _ _ (by omega)]⟩
theorem nb_0 (hn : s0 < n) (htw : tw_ok k n nx ou tw) : nb_I k n nx tw s0 0 (nb k nx tw s0 0) := by
  refine ⟨Nat.one_pos, rfl, fun a _ => ⟨tw_lt htw hn, tw_tw htw hn⟩, fun a b ha hb _ => ?_, fun a h0 ha => ?_, fun a i _ h => absurd h (Nat.not_lt_zero _)⟩
  · have ha' : a < 1 := ha
    have hb' : b < 1 := hb
    omega
  · have ha' : a < 1 := ha
    omega
end NB
end
section
/-! states of two machines that are alike; words that tell; the family as a trace -/
section XA
variable {k : Nat} {nx ou nx' ou' : Nat → Nat → Nat}
theorem xa_out {s s' : Nat} (h : wd_none k nx ou s nx' ou' s') {w : List Nat} {i : Nat} (hw : wd_ok k w) (hi : i < k) : ou (rn nx s w) i = ou' (rn nx' s' w) i :=
  Decidable.byContradiction fun e => h (i :: w) (wd_ok_cons.mpr ⟨hi, hw⟩) e
theorem xa_df {s t s' t' : Nat} (h1 : wd_none k nx ou s nx' ou' s') (h2 : wd_none k nx ou t nx' ou' t') {w : List Nat} (hw : wd_ok k w) : df nx ou s nx ou t w ↔ df nx' ou' s' nx' ou' t' w := by
  cases w with
  | nil => exact Iff.rfl
  | cons i w =>
    obtain ⟨a, b⟩ := wd_ok_cons.mp hw
    show ou (rn nx s w) i ≠ ou (rn nx t w) i ↔ ou' (rn nx' s' w) i ≠ ou' (rn nx' t' w) i
    rw [xa_out h1 b a, xa_out h2 b a]
theorem xa_least {s t s' t' : Nat} (h1 : wd_none k nx ou s nx' ou' s') (h2 : wd_none k nx ou t nx' ou' t') {w : List Nat} : wd_least k nx ou s nx ou t w ↔ wd_least k nx' ou' s' nx' ou' t' w := by
  constructor
  · rintro ⟨a, b, c⟩
    exact ⟨a, (xa_df h1 h2 a).mp b, fun v hv hd => c v hv ((xa_df h1 h2 hv).mpr hd)⟩
  · rintro ⟨a, b, c⟩
    exact ⟨a, (xa_df h1 h2 a).mpr b, fun v hv hd => c v hv ((xa_df h1 h2 hv).mp hd)⟩
theorem xa_none {s t s' t' : Nat} (h1 : wd_none k nx ou s nx' ou' s') (h2 : wd_none k nx ou t nx' ou' t') : wd_none k nx ou s nx ou t ↔ wd_none k nx' ou' s' nx' ou' t' :=
  ⟨fun h v hv hd => h v hv ((xa_df h1 h2 hv).mpr hd), fun h v hv hd => h v hv ((xa_df h1 h2 hv).mp hd)⟩
/-- a word tells two states apart: somewhere on its way their outputs differ -/
def tl (nx ou : Nat → Nat → Nat) (s t : Nat) : List Nat → Prop
  | [] => False
  | i :: w => tl nx ou s t w ∨ df nx ou s nx ou t (i :: w)
theorem xa_tl {s t s' t' : Nat} (h1 : wd_none k nx ou s nx' ou' s') (h2 : wd_none k nx ou t nx' ou' t') : ∀ w : List Nat, wd_ok k w → (tl nx ou s t w ↔ tl nx' ou' s' t' w)
  | [], _ => Iff.rfl
  | i :: w, hw => by
    obtain ⟨a, b⟩ := wd_ok_cons.mp hw
    show (tl nx ou s t w ∨ df nx ou s nx ou t (i :: w)) ↔ (tl nx' ou' s' t' w ∨ df nx' ou' s' nx' ou' t' (i :: w))
    rw [xa_tl h1 h2 w b, xa_df h1 h2 hw]
theorem tl_df {s t : Nat} {w : List Nat} (h : df nx ou s nx ou t w) : tl nx ou s t w := by
  cases w with
  | nil => exact h
  | cons i w => exact Or.inr h
theorem tl_ex {s t : Nat} : ∀ {w : List Nat}, wd_ok k w → tl nx ou s t w → ∃ v, wd_ok k v ∧ df nx ou s nx ou t v
  | [], _, h => absurd h (fun z => z)
  | i :: w, hw, h => by
    rcases h with h | h
    · exact tl_ex (wd_ok_cons.mp hw).2 h
    · exact ⟨_, hw, h⟩
theorem tl_symm {s t : Nat} : ∀ {w : List Nat}, tl nx ou s t w → tl nx ou t s w
  | [], h => h
  | i :: w, h => by
    rcases h with h | h
    · exact Or.inl (tl_symm h)
    · exact Or.inr (fun e => h e.symm)
theorem tl_trans {s t u : Nat} : ∀ {w : List Nat}, ¬ tl nx ou s t w → ¬ tl nx ou t u w → ¬ tl nx ou s u w
  | [], _, _, h => h
  | i :: w, h1, h2, h => by
    rcases h with h | h
    · exact tl_trans (fun z => h1 (Or.inl z)) (fun z => h2 (Or.inl z)) h
    · have e1 : ou (rn nx s w) i = ou (rn nx t w) i := Decidable.byContradiction fun e => h1 (Or.inr e)
      have e2 : ou (rn nx t w) i = ou (rn nx u w) i := Decidable.byContradiction fun e => h2 (Or.inr e)
      exact h (e1.trans e2)
theorem tl_irr {s : Nat} : ∀ w : List Nat, ¬ tl nx ou s s w
  | [], h => h
  | i :: w, h => by
    rcases h with h | h
    · exact tl_irr w h
    · exact h rfl
end XA
/-! a machine whose states stand for states of another -/
theorem mm_run {k N : Nat} {nx ou mnx : Nat → Nat → Nat} {mb : Nat → Nat} (hc : ∀ a i, a < N → i < k → mnx a i < N ∧ al_k k nx ou (mb (mnx a i)) (nx (mb a) i)) {a : Nat} (ha : a < N) : ∀ w, wd_ok k w → rn mnx a w < N ∧ al_k k nx ou (mb (rn mnx a w)) (rn nx (mb a) w)
  | [], _ => ⟨ha, al_refl _⟩
  | i :: w, hw => by
    obtain ⟨h1, h2⟩ := wd_ok_cons.mp hw
    obtain ⟨a1, a2⟩ := mm_run hc ha w h2
    obtain ⟨b1, b2⟩ := hc _ i a1 h1
    exact ⟨b1, al_trans b2 (al_next a2 h1)⟩
theorem mm_none {k N : Nat} {nx ou mnx mou : Nat → Nat → Nat} {mb : Nat → Nat} (hc : ∀ a i, a < N → i < k → mnx a i < N ∧ al_k k nx ou (mb (mnx a i)) (nx (mb a) i)) (ho : ∀ a i, a < N → i < k → mou a i = ou (mb a) i) {a : Nat} (ha : a < N) : wd_none k mnx mou a nx ou (mb a) := by
  intro v hv hd
  cases v with
  | nil => exact hd
  | cons i w =>
    obtain ⟨h1, h2⟩ := wd_ok_cons.mp hv
    obtain ⟨a1, a2⟩ := mm_run hc ha w h2
    exact hd ((ho _ i a1 h1).trans (al_out a2 h1))
/-! the family -/
section FM
variable {k N : Nat} {nx ou : Nat → Nat → Nat}
def fm_un (nx ou : Nat → Nat → Nat) (F : Nat → List Nat) (c s t : Nat) : Prop := ∀ w, w < c → ¬ tl nx ou s t (F w)
theorem fm_eq (F : Nat → List Nat) (c : Nat) : mo_eq (fm_un nx ou F c) :=
  ⟨fun a w _ => tl_irr _, fun a b h w hw z => h w hw (tl_symm z), fun a b d h1 h2 w hw => tl_trans (h1 w hw) (h2 w hw)⟩
/-- each word of the family told a pair that none before it told: so there are fewer than states -/
theorem fm_size (hN : 0 < N) {F : Nat → List Nat} : ∀ c, (∀ w, w < c → ∃ s t, s < N ∧ t < N ∧ fm_un nx ou F w s t ∧ tl nx ou s t (F w)) → c + 1 ≤ mo_c (mo_rep (fm_un nx ou F c)) N
  | 0, _ => by
    obtain ⟨m, rfl⟩ : ∃ m, N = m + 1 := ⟨N - 1, by omega⟩
    have h1 := mo_one m
    have h2 : mo_c (fun s => s = 0) (m + 1) ≤ mo_c (mo_rep (fm_un nx ou F 0)) (m + 1) := mo_c_mono fun s _ e t ht => by omega
    omega
  | c + 1, h => by
    have ih := fm_size hN c (fun w hw => h w (by omega))
    obtain ⟨s, t, a1, a2, a3, a4⟩ := h c (by omega)
    have := mo_refine (fm_eq (nx := nx) (ou := ou) F c) (fm_eq F (c + 1)) (fun x y g w hw => g w (by omega)) a1 a2 a3 (fun g => g c (by omega) a4)
    omega
theorem fm_le (hN : 0 < N) {F : Nat → List Nat} {c : Nat} (h : ∀ w, w < c → ∃ s t, s < N ∧ t < N ∧ fm_un nx ou F w s t ∧ tl nx ou s t (F w)) : c + 1 ≤ N :=
  Nat.le_trans (fm_size hN c h) (mo_c_le _ N)
end FM
end
section
-- ===== PART A: goes FIRST, ahead of the names: the tables' words, and 'selects' of the private methods out of them =====
/-- a private method of a class that the tables say can be made, by its rows of tables_1 -/
def lw_okq (q : MethodName × Nat) : Prop := (q.1.cls ≠ "java/lang/invoke/MethodHandle" ∧ q.1.cls ≠ "java/lang/invoke/VarHandle") ∧ Cond.instantiable q.1.cls q.2 ∈ tables_1 ∧ Cond.privateMethod q.1 ∈ tables_1 ∧ Cond.instanceMethod q.1 ∈ tables_1
theorem lw_p0 : lw_okq (⟨"TestBench$Suite", "behindInput", "(II)I"⟩, 15) := ⟨⟨by decide +kernel, by decide +kernel⟩, List.mem_of_getElem? (i := 211) (by decide +kernel), List.mem_of_getElem? (i := 358) (by decide +kernel), List.mem_of_getElem? (i := 359) (by decide +kernel)⟩
theorem lw_p1 : lw_okq (⟨"java/lang/Throwable", "fillInStackTrace", "(I)Ljava/lang/Throwable;"⟩, 6) := ⟨⟨by decide +kernel, by decide +kernel⟩, List.mem_of_getElem? (i := 456) (by decide +kernel), List.mem_of_getElem? (i := 454) (by decide +kernel), List.mem_of_getElem? (i := 455) (by decide +kernel)⟩
theorem lw_p2 : lw_okq (⟨"TestBench$Reduction", "findTwins", "(LTestBench$Machine;LTestBench$PairSearch;)V"⟩, 6) := ⟨⟨by decide +kernel, by decide +kernel⟩, List.mem_of_getElem? (i := 78) (by decide +kernel), List.mem_of_getElem? (i := 515) (by decide +kernel), List.mem_of_getElem? (i := 516) (by decide +kernel)⟩
theorem lw_p3 : lw_okq (⟨"TestBench$PairSearch", "forget", "()V"⟩, 8) := ⟨⟨by decide +kernel, by decide +kernel⟩, List.mem_of_getElem? (i := 160) (by decide +kernel), List.mem_of_getElem? (i := 523) (by decide +kernel), List.mem_of_getElem? (i := 524) (by decide +kernel)⟩
theorem lw_p4 : lw_okq (⟨"TestBench$PairSearch", "reach", "(IIII)V"⟩, 8) := ⟨⟨by decide +kernel, by decide +kernel⟩, List.mem_of_getElem? (i := 160) (by decide +kernel), List.mem_of_getElem? (i := 527) (by decide +kernel), List.mem_of_getElem? (i := 528) (by decide +kernel)⟩
theorem lw_p5 : lw_okq (⟨"TestBench$PairSearch", "spell", "(II)V"⟩, 8) := ⟨⟨by decide +kernel, by decide +kernel⟩, List.mem_of_getElem? (i := 160) (by decide +kernel), List.mem_of_getElem? (i := 532) (by decide +kernel), List.mem_of_getElem? (i := 533) (by decide +kernel)⟩
theorem lw_p6 : lw_okq (⟨"TestBench$Reduction", "addState", "(III)V"⟩, 6) := ⟨⟨by decide +kernel, by decide +kernel⟩, List.mem_of_getElem? (i := 78) (by decide +kernel), List.mem_of_getElem? (i := 537) (by decide +kernel), List.mem_of_getElem? (i := 538) (by decide +kernel)⟩
theorem lw_p7 : lw_okq (⟨"TestBench$Family", "firstWord", "(LTestBench$Machine;II)I"⟩, 4) := ⟨⟨by decide +kernel, by decide +kernel⟩, List.mem_of_getElem? (i := 110) (by decide +kernel), List.mem_of_getElem? (i := 548) (by decide +kernel), List.mem_of_getElem? (i := 549) (by decide +kernel)⟩
theorem lw_p8 : lw_okq (⟨"TestBench$Family", "chooseOwn", "(LTestBench$Machine;I)V"⟩, 4) := ⟨⟨by decide +kernel, by decide +kernel⟩, List.mem_of_getElem? (i := 110) (by decide +kernel), List.mem_of_getElem? (i := 564) (by decide +kernel), List.mem_of_getElem? (i := 565) (by decide +kernel)⟩
theorem lw_p9 : lw_okq (⟨"TestBench$Family", "ownTells", "(LTestBench$Machine;II)Z"⟩, 4) := ⟨⟨by decide +kernel, by decide +kernel⟩, List.mem_of_getElem? (i := 110) (by decide +kernel), List.mem_of_getElem? (i := 568) (by decide +kernel), List.mem_of_getElem? (i := 569) (by decide +kernel)⟩
theorem lw_p10 : lw_okq (⟨"TestBench$Suite", "addNode", "(III)V"⟩, 15) := ⟨⟨by decide +kernel, by decide +kernel⟩, List.mem_of_getElem? (i := 211) (by decide +kernel), List.mem_of_getElem? (i := 598) (by decide +kernel), List.mem_of_getElem? (i := 599) (by decide +kernel)⟩
theorem lw_p11 : lw_okq (⟨"TestBench$Suite", "enter", "(II)I"⟩, 15) := ⟨⟨by decide +kernel, by decide +kernel⟩, List.mem_of_getElem? (i := 211) (by decide +kernel), List.mem_of_getElem? (i := 602) (by decide +kernel), List.mem_of_getElem? (i := 603) (by decide +kernel)⟩
theorem lw_p12 : lw_okq (⟨"TestBench$Suite", "grow", "(IIZ)V"⟩, 15) := ⟨⟨by decide +kernel, by decide +kernel⟩, List.mem_of_getElem? (i := 211) (by decide +kernel), List.mem_of_getElem? (i := 607) (by decide +kernel), List.mem_of_getElem? (i := 608) (by decide +kernel)⟩
theorem lw_p13 : lw_okq (⟨"TestBench$Suite", "addFamily", "(I)V"⟩, 15) := ⟨⟨by decide +kernel, by decide +kernel⟩, List.mem_of_getElem? (i := 211) (by decide +kernel), List.mem_of_getElem? (i := 611) (by decide +kernel), List.mem_of_getElem? (i := 612) (by decide +kernel)⟩
theorem lw_p14 : lw_okq (⟨"TestBench$Suite", "addWord", "(ILTestBench$Word;)V"⟩, 15) := ⟨⟨by decide +kernel, by decide +kernel⟩, List.mem_of_getElem? (i := 211) (by decide +kernel), List.mem_of_getElem? (i := 615) (by decide +kernel), List.mem_of_getElem? (i := 616) (by decide +kernel)⟩
theorem lw_p15 : lw_okq (⟨"TestBench$Suite", "addOwn", "(I)V"⟩, 15) := ⟨⟨by decide +kernel, by decide +kernel⟩, List.mem_of_getElem? (i := 211) (by decide +kernel), List.mem_of_getElem? (i := 619) (by decide +kernel), List.mem_of_getElem? (i := 620) (by decide +kernel)⟩
def lw_privs_1 : List (MethodName × Nat) := [(⟨"TestBench$Suite", "behindInput", "(II)I"⟩, 15), (⟨"java/lang/Throwable", "fillInStackTrace", "(I)Ljava/lang/Throwable;"⟩, 6), (⟨"TestBench$Reduction", "findTwins", "(LTestBench$Machine;LTestBench$PairSearch;)V"⟩, 6), (⟨"TestBench$PairSearch", "forget", "()V"⟩, 8), (⟨"TestBench$PairSearch", "reach", "(IIII)V"⟩, 8), (⟨"TestBench$PairSearch", "spell", "(II)V"⟩, 8), (⟨"TestBench$Reduction", "addState", "(III)V"⟩, 6), (⟨"TestBench$Family", "firstWord", "(LTestBench$Machine;II)I"⟩, 4), (⟨"TestBench$Family", "chooseOwn", "(LTestBench$Machine;I)V"⟩, 4), (⟨"TestBench$Family", "ownTells", "(LTestBench$Machine;II)Z"⟩, 4), (⟨"TestBench$Suite", "addNode", "(III)V"⟩, 15), (⟨"TestBench$Suite", "enter", "(II)I"⟩, 15), (⟨"TestBench$Suite", "grow", "(IIZ)V"⟩, 15), (⟨"TestBench$Suite", "addFamily", "(I)V"⟩, 15), (⟨"TestBench$Suite", "addWord", "(ILTestBench$Word;)V"⟩, 15), (⟨"TestBench$Suite", "addOwn", "(I)V"⟩, 15)]
theorem lw_r1 : ∀ q ∈ lw_privs_1, lw_okq q := List.forall_mem_cons.mpr ⟨lw_p0, List.forall_mem_cons.mpr ⟨lw_p1, List.forall_mem_cons.mpr ⟨lw_p2, List.forall_mem_cons.mpr ⟨lw_p3, List.forall_mem_cons.mpr ⟨lw_p4, List.forall_mem_cons.mpr ⟨lw_p5, List.forall_mem_cons.mpr ⟨lw_p6, List.forall_mem_cons.mpr ⟨lw_p7, List.forall_mem_cons.mpr ⟨lw_p8, List.forall_mem_cons.mpr ⟨lw_p9, List.forall_mem_cons.mpr ⟨lw_p10, List.forall_mem_cons.mpr ⟨lw_p11, List.forall_mem_cons.mpr ⟨lw_p12, List.forall_mem_cons.mpr ⟨lw_p13, List.forall_mem_cons.mpr ⟨lw_p14, List.forall_mem_cons.mpr ⟨lw_p15, fun _ h => absurd h List.not_mem_nil⟩⟩⟩⟩⟩⟩⟩⟩⟩⟩⟩⟩⟩⟩⟩⟩
theorem lw_p16 : lw_okq (⟨"TestBench$Suite", "orderTests", "()V"⟩, 15) := ⟨⟨by decide +kernel, by decide +kernel⟩, List.mem_of_getElem? (i := 211) (by decide +kernel), List.mem_of_getElem? (i := 627) (by decide +kernel), List.mem_of_getElem? (i := 628) (by decide +kernel)⟩
theorem lw_p17 : lw_okq (⟨"TestBench$Trial", "step", "(LTestBench$Suite;LTestBench$Machine;I)V"⟩, 2) := ⟨⟨by decide +kernel, by decide +kernel⟩, List.mem_of_getElem? (i := 196) (by decide +kernel), List.mem_of_getElem? (i := 672) (by decide +kernel), List.mem_of_getElem? (i := 673) (by decide +kernel)⟩
theorem lw_p18 : lw_okq (⟨"TestBench", "tellInput", "()I"⟩, 14) := ⟨⟨by decide +kernel, by decide +kernel⟩, List.mem_of_getElem? (i := 20) (by decide +kernel), List.mem_of_getElem? (i := 691) (by decide +kernel), List.mem_of_getElem? (i := 692) (by decide +kernel)⟩
theorem lw_p19 : lw_okq (⟨"TestBenchModel", "isState", "(I)Z"⟩, 37) := ⟨⟨by decide +kernel, by decide +kernel⟩, List.mem_of_getElem? (i := 710) (by decide +kernel), List.mem_of_getElem? (i := 837) (by decide +kernel), List.mem_of_getElem? (i := 838) (by decide +kernel)⟩
theorem lw_p20 : lw_okq (⟨"TestBenchModel", "isInput", "(I)Z"⟩, 37) := ⟨⟨by decide +kernel, by decide +kernel⟩, List.mem_of_getElem? (i := 710) (by decide +kernel), List.mem_of_getElem? (i := 841) (by decide +kernel), List.mem_of_getElem? (i := 842) (by decide +kernel)⟩
theorem lw_p21 : lw_okq (⟨"TestBenchModel", "measure", "()V"⟩, 37) := ⟨⟨by decide +kernel, by decide +kernel⟩, List.mem_of_getElem? (i := 710) (by decide +kernel), List.mem_of_getElem? (i := 856) (by decide +kernel), List.mem_of_getElem? (i := 857) (by decide +kernel)⟩
theorem lw_p22 : lw_okq (⟨"TestBenchModel", "number", "()V"⟩, 37) := ⟨⟨by decide +kernel, by decide +kernel⟩, List.mem_of_getElem? (i := 710) (by decide +kernel), List.mem_of_getElem? (i := 860) (by decide +kernel), List.mem_of_getElem? (i := 861) (by decide +kernel)⟩
theorem lw_p23 : lw_okq (⟨"TestBenchModel", "take", "(IJ)V"⟩, 37) := ⟨⟨by decide +kernel, by decide +kernel⟩, List.mem_of_getElem? (i := 710) (by decide +kernel), List.mem_of_getElem? (i := 864) (by decide +kernel), List.mem_of_getElem? (i := 865) (by decide +kernel)⟩
theorem lw_p24 : lw_okq (⟨"TestBenchModel", "choose", "()V"⟩, 37) := ⟨⟨by decide +kernel, by decide +kernel⟩, List.mem_of_getElem? (i := 710) (by decide +kernel), List.mem_of_getElem? (i := 868) (by decide +kernel), List.mem_of_getElem? (i := 869) (by decide +kernel)⟩
theorem lw_p25 : lw_okq (⟨"TestBenchModel", "tells", "(JII)Z"⟩, 37) := ⟨⟨by decide +kernel, by decide +kernel⟩, List.mem_of_getElem? (i := 710) (by decide +kernel), List.mem_of_getElem? (i := 872) (by decide +kernel), List.mem_of_getElem? (i := 873) (by decide +kernel)⟩
theorem lw_p26 : lw_okq (⟨"TestBenchModel", "leastWord", "(II)J"⟩, 37) := ⟨⟨by decide +kernel, by decide +kernel⟩, List.mem_of_getElem? (i := 710) (by decide +kernel), List.mem_of_getElem? (i := 883) (by decide +kernel), List.mem_of_getElem? (i := 884) (by decide +kernel)⟩
theorem lw_p27 : lw_okq (⟨"TestBenchModel", "fits", "(IIII)Z"⟩, 37) := ⟨⟨by decide +kernel, by decide +kernel⟩, List.mem_of_getElem? (i := 710) (by decide +kernel), List.mem_of_getElem? (i := 887) (by decide +kernel), List.mem_of_getElem? (i := 888) (by decide +kernel)⟩
theorem lw_p28 : lw_okq (⟨"TestBenchModel", "chooseOwn", "(II)V"⟩, 37) := ⟨⟨by decide +kernel, by decide +kernel⟩, List.mem_of_getElem? (i := 710) (by decide +kernel), List.mem_of_getElem? (i := 891) (by decide +kernel), List.mem_of_getElem? (i := 892) (by decide +kernel)⟩
theorem lw_p29 : lw_okq (⟨"TestBenchModel", "putAll", "(JIIZ)V"⟩, 37) := ⟨⟨by decide +kernel, by decide +kernel⟩, List.mem_of_getElem? (i := 710) (by decide +kernel), List.mem_of_getElem? (i := 919) (by decide +kernel), List.mem_of_getElem? (i := 920) (by decide +kernel)⟩
theorem lw_p30 : lw_okq (⟨"TestBenchModel", "putEnds", "(JJIIZ)V"⟩, 37) := ⟨⟨by decide +kernel, by decide +kernel⟩, List.mem_of_getElem? (i := 710) (by decide +kernel), List.mem_of_getElem? (i := 923) (by decide +kernel), List.mem_of_getElem? (i := 924) (by decide +kernel)⟩
theorem lw_p31 : lw_okq (⟨"TestBenchModel", "put", "(JJJ)V"⟩, 37) := ⟨⟨by decide +kernel, by decide +kernel⟩, List.mem_of_getElem? (i := 710) (by decide +kernel), List.mem_of_getElem? (i := 927) (by decide +kernel), List.mem_of_getElem? (i := 928) (by decide +kernel)⟩
def lw_privs_2 : List (MethodName × Nat) := [(⟨"TestBench$Suite", "orderTests", "()V"⟩, 15), (⟨"TestBench$Trial", "step", "(LTestBench$Suite;LTestBench$Machine;I)V"⟩, 2), (⟨"TestBench", "tellInput", "()I"⟩, 14), (⟨"TestBenchModel", "isState", "(I)Z"⟩, 37), (⟨"TestBenchModel", "isInput", "(I)Z"⟩, 37), (⟨"TestBenchModel", "measure", "()V"⟩, 37), (⟨"TestBenchModel", "number", "()V"⟩, 37), (⟨"TestBenchModel", "take", "(IJ)V"⟩, 37), (⟨"TestBenchModel", "choose", "()V"⟩, 37), (⟨"TestBenchModel", "tells", "(JII)Z"⟩, 37), (⟨"TestBenchModel", "leastWord", "(II)J"⟩, 37), (⟨"TestBenchModel", "fits", "(IIII)Z"⟩, 37), (⟨"TestBenchModel", "chooseOwn", "(II)V"⟩, 37), (⟨"TestBenchModel", "putAll", "(JIIZ)V"⟩, 37), (⟨"TestBenchModel", "putEnds", "(JJIIZ)V"⟩, 37), (⟨"TestBenchModel", "put", "(JJJ)V"⟩, 37)]
theorem lw_r2 : ∀ q ∈ lw_privs_2, lw_okq q := List.forall_mem_cons.mpr ⟨lw_p16, List.forall_mem_cons.mpr ⟨lw_p17, List.forall_mem_cons.mpr ⟨lw_p18, List.forall_mem_cons.mpr ⟨lw_p19, List.forall_mem_cons.mpr ⟨lw_p20, List.forall_mem_cons.mpr ⟨lw_p21, List.forall_mem_cons.mpr ⟨lw_p22, List.forall_mem_cons.mpr ⟨lw_p23, List.forall_mem_cons.mpr ⟨lw_p24, List.forall_mem_cons.mpr ⟨lw_p25, List.forall_mem_cons.mpr ⟨lw_p26, List.forall_mem_cons.mpr ⟨lw_p27, List.forall_mem_cons.mpr ⟨lw_p28, List.forall_mem_cons.mpr ⟨lw_p29, List.forall_mem_cons.mpr ⟨lw_p30, List.forall_mem_cons.mpr ⟨lw_p31, fun _ h => absurd h List.not_mem_nil⟩⟩⟩⟩⟩⟩⟩⟩⟩⟩⟩⟩⟩⟩⟩⟩
theorem lw_p32 : lw_okq (⟨"TestBenchModel", "led", "(IJ)I"⟩, 37) := ⟨⟨by decide +kernel, by decide +kernel⟩, List.mem_of_getElem? (i := 710) (by decide +kernel), List.mem_of_getElem? (i := 931) (by decide +kernel), List.mem_of_getElem? (i := 932) (by decide +kernel)⟩
theorem lw_p33 : lw_okq (⟨"TestBenchModel", "isAccess", "(J)Z"⟩, 37) := ⟨⟨by decide +kernel, by decide +kernel⟩, List.mem_of_getElem? (i := 710) (by decide +kernel), List.mem_of_getElem? (i := 935) (by decide +kernel), List.mem_of_getElem? (i := 936) (by decide +kernel)⟩
theorem lw_p34 : lw_okq (⟨"TestBenchModel", "list", "()V"⟩, 37) := ⟨⟨by decide +kernel, by decide +kernel⟩, List.mem_of_getElem? (i := 710) (by decide +kernel), List.mem_of_getElem? (i := 939) (by decide +kernel), List.mem_of_getElem? (i := 940) (by decide +kernel)⟩
theorem lw_p35 : lw_okq (⟨"TestBenchModel", "isEnd", "(I)Z"⟩, 37) := ⟨⟨by decide +kernel, by decide +kernel⟩, List.mem_of_getElem? (i := 710) (by decide +kernel), List.mem_of_getElem? (i := 943) (by decide +kernel), List.mem_of_getElem? (i := 944) (by decide +kernel)⟩
theorem lw_p36 : lw_okq (⟨"TestBenchModel", "isTest", "(I)Z"⟩, 37) := ⟨⟨by decide +kernel, by decide +kernel⟩, List.mem_of_getElem? (i := 710) (by decide +kernel), List.mem_of_getElem? (i := 951) (by decide +kernel), List.mem_of_getElem? (i := 952) (by decide +kernel)⟩
theorem lw_p37 : lw_okq (⟨"TestBenchModel", "unfold", "(I)I"⟩, 37) := ⟨⟨by decide +kernel, by decide +kernel⟩, List.mem_of_getElem? (i := 710) (by decide +kernel), List.mem_of_getElem? (i := 955) (by decide +kernel), List.mem_of_getElem? (i := 956) (by decide +kernel)⟩
theorem lw_p38 : lw_okq (⟨"TestBenchModel", "expected", "(I)I"⟩, 37) := ⟨⟨by decide +kernel, by decide +kernel⟩, List.mem_of_getElem? (i := 710) (by decide +kernel), List.mem_of_getElem? (i := 959) (by decide +kernel), List.mem_of_getElem? (i := 960) (by decide +kernel)⟩
theorem lw_p39 : lw_okq (⟨"TestBenchModel", "fails", "(I)I"⟩, 37) := ⟨⟨by decide +kernel, by decide +kernel⟩, List.mem_of_getElem? (i := 710) (by decide +kernel), List.mem_of_getElem? (i := 975) (by decide +kernel), List.mem_of_getElem? (i := 976) (by decide +kernel)⟩
def lw_privs_3 : List (MethodName × Nat) := [(⟨"TestBenchModel", "led", "(IJ)I"⟩, 37), (⟨"TestBenchModel", "isAccess", "(J)Z"⟩, 37), (⟨"TestBenchModel", "list", "()V"⟩, 37), (⟨"TestBenchModel", "isEnd", "(I)Z"⟩, 37), (⟨"TestBenchModel", "isTest", "(I)Z"⟩, 37), (⟨"TestBenchModel", "unfold", "(I)I"⟩, 37), (⟨"TestBenchModel", "expected", "(I)I"⟩, 37), (⟨"TestBenchModel", "fails", "(I)I"⟩, 37)]
theorem lw_r3 : ∀ q ∈ lw_privs_3, lw_okq q := List.forall_mem_cons.mpr ⟨lw_p32, List.forall_mem_cons.mpr ⟨lw_p33, List.forall_mem_cons.mpr ⟨lw_p34, List.forall_mem_cons.mpr ⟨lw_p35, List.forall_mem_cons.mpr ⟨lw_p36, List.forall_mem_cons.mpr ⟨lw_p37, List.forall_mem_cons.mpr ⟨lw_p38, List.forall_mem_cons.mpr ⟨lw_p39, fun _ h => absurd h List.not_mem_nil⟩⟩⟩⟩⟩⟩⟩⟩
def lw_privs : List (MethodName × Nat) := lw_privs_1 ++ (lw_privs_2 ++ (lw_privs_3))
def lw_tbl : List Cond := k2_sels lw_privs ++ tables_1
theorem lw_privs_ok : ∀ q ∈ lw_privs, lw_okq q := by
  show ∀ q ∈ lw_privs_1 ++ (lw_privs_2 ++ (lw_privs_3)), lw_okq q
  exact List.forall_mem_append.mpr ⟨lw_r1, List.forall_mem_append.mpr ⟨lw_r2, lw_r3⟩⟩
end
section
/-! names: the classes, their fields, the words of the tables that a walk may use -/
def nm_T0 : u_T := fun k => match k with
  | 0 => ("TestBench$Machine", "inputs", "I", true)
  | 1 => ("TestBench$Machine", "nexts", "[I", true)
  | 2 => ("TestBench$Machine", "outputs", "[I", true)
  | _ => ("TestBench$Machine", "states", "I", false)
def nm_t0 : Nat → FieldType := fun k => match k with
  | 0 => .int
  | 1 => (.array .int)
  | 2 => (.array .int)
  | _ => .int
def nm_T1 : u_T := fun k => match k with
  | 0 => ("TestBench$Word", "letters", "[I", true)
  | _ => ("TestBench$Word", "length", "I", false)
def nm_t1 : Nat → FieldType := fun k => match k with
  | 0 => (.array .int)
  | _ => .int
def nm_T2 : u_T := fun k => match k with
  | 0 => ("TestBench$PairSearch", "found", "LTestBench$Word;", true)
  | 1 => ("TestBench$PairSearch", "one", "[I", true)
  | 2 => ("TestBench$PairSearch", "other", "[I", true)
  | 3 => ("TestBench$PairSearch", "from", "[I", true)
  | 4 => ("TestBench$PairSearch", "by", "[I", true)
  | 5 => ("TestBench$PairSearch", "depth", "[I", true)
  | 6 => ("TestBench$PairSearch", "seen", "[Z", true)
  | _ => ("TestBench$PairSearch", "reached", "I", false)
def nm_t2 : Nat → FieldType := fun k => match k with
  | 0 => (.object "TestBench$Word")
  | 1 => (.array .int)
  | 2 => (.array .int)
  | 3 => (.array .int)
  | 4 => (.array .int)
  | 5 => (.array .int)
  | 6 => (.array .boolean)
  | _ => .int
def nm_T3 : u_T := fun k => match k with
  | 0 => ("TestBench$Reduction", "machine", "LTestBench$Machine;", true)
  | 1 => ("TestBench$Reduction", "number", "[I", true)
  | 2 => ("TestBench$Reduction", "twin", "[I", true)
  | 3 => ("TestBench$Reduction", "member", "[I", true)
  | 4 => ("TestBench$Reduction", "earlier", "[I", true)
  | _ => ("TestBench$Reduction", "by", "[I", true)
def nm_t3 : Nat → FieldType := fun k => match k with
  | 0 => (.object "TestBench$Machine")
  | 1 => (.array .int)
  | 2 => (.array .int)
  | 3 => (.array .int)
  | 4 => (.array .int)
  | _ => (.array .int)
def nm_T4 : u_T := fun k => match k with
  | 0 => ("TestBench$Family", "words", "[LTestBench$Word;", true)
  | 1 => ("TestBench$Family", "owned", "[[I", true)
  | 2 => ("TestBench$Family", "ownSize", "[I", true)
  | _ => ("TestBench$Family", "size", "I", false)
def nm_t4 : Nat → FieldType := fun k => match k with
  | 0 => (.array (.object "TestBench$Word"))
  | 1 => (.array (.array .int))
  | 2 => (.array .int)
  | _ => .int
def nm_T5 : u_T := fun k => match k with
  | 0 => ("TestBench$Suite", "reduction", "LTestBench$Reduction;", true)
  | 1 => ("TestBench$Suite", "machine", "LTestBench$Machine;", true)
  | 2 => ("TestBench$Suite", "family", "LTestBench$Family;", true)
  | 3 => ("TestBench$Suite", "children", "[I", true)
  | 4 => ("TestBench$Suite", "above", "[I", true)
  | 5 => ("TestBench$Suite", "by", "[I", true)
  | 6 => ("TestBench$Suite", "depth", "[I", true)
  | 7 => ("TestBench$Suite", "state", "[I", true)
  | 8 => ("TestBench$Suite", "leaves", "[I", true)
  | 9 => ("TestBench$Suite", "open", "[I", true)
  | 10 => ("TestBench$Suite", "access", "[I", true)
  | 11 => ("TestBench$Suite", "reach", "[I", true)
  | 12 => ("TestBench$Suite", "size", "I", false)
  | 13 => ("TestBench$Suite", "tests", "I", false)
  | _ => ("TestBench$Suite", "fits", "Z", false)
def nm_t5 : Nat → FieldType := fun k => match k with
  | 0 => (.object "TestBench$Reduction")
  | 1 => (.object "TestBench$Machine")
  | 2 => (.object "TestBench$Family")
  | 3 => (.array .int)
  | 4 => (.array .int)
  | 5 => (.array .int)
  | 6 => (.array .int)
  | 7 => (.array .int)
  | 8 => (.array .int)
  | 9 => (.array .int)
  | 10 => (.array .int)
  | 11 => (.array .int)
  | 12 => .int
  | 13 => .int
  | _ => .boolean
def nm_T6 : u_T := fun k => match k with
  | 0 => ("TestBench$Trial", "state", "[I", true)
  | _ => ("TestBench$Trial", "wrong", "[I", true)
def nm_t6 : Nat → FieldType := fun k => match k with
  | 0 => (.array .int)
  | _ => (.array .int)
def nm_T7 : u_T := fun k => match k with
  | 0 => ("TestBench", "specification", "LTestBench$Machine;", true)
  | 1 => ("TestBench", "reduction", "LTestBench$Reduction;", true)
  | 2 => ("TestBench", "family", "LTestBench$Family;", true)
  | 3 => ("TestBench", "implementation", "LTestBench$Machine;", true)
  | 4 => ("TestBench", "search", "LTestBench$PairSearch;", true)
  | 5 => ("TestBench", "trial", "LTestBench$Trial;", true)
  | 6 => ("TestBench", "word", "LTestBench$Word;", true)
  | 7 => ("TestBench", "suite", "LTestBench$Suite;", false)
  | 8 => ("TestBench", "spare", "LTestBench$Suite;", false)
  | 9 => ("TestBench", "start", "I", false)
  | 10 => ("TestBench", "sealed", "Z", false)
  | 11 => ("TestBench", "failedPlace", "I", false)
  | 12 => ("TestBench", "handTest", "I", false)
  | _ => ("TestBench", "handPlace", "I", false)
def nm_t7 : Nat → FieldType := fun k => match k with
  | 0 => (.object "TestBench$Machine")
  | 1 => (.object "TestBench$Reduction")
  | 2 => (.object "TestBench$Family")
  | 3 => (.object "TestBench$Machine")
  | 4 => (.object "TestBench$PairSearch")
  | 5 => (.object "TestBench$Trial")
  | 6 => (.object "TestBench$Word")
  | 7 => (.object "TestBench$Suite")
  | 8 => (.object "TestBench$Suite")
  | 9 => .int
  | 10 => .boolean
  | 11 => .int
  | 12 => .int
  | _ => .int
def nm_T8 : u_T := fun k => match k with
  | 0 => ("TestBenchModel", "thrown", "I", false)
  | 1 => ("TestBenchModel", "n", "I", true)
  | 2 => ("TestBenchModel", "k", "I", true)
  | 3 => ("TestBenchModel", "next", "[I", true)
  | 4 => ("TestBenchModel", "output", "[I", true)
  | 5 => ("TestBenchModel", "start", "I", false)
  | 6 => ("TestBenchModel", "sealed", "Z", false)
  | 7 => ("TestBenchModel", "told", "[I", true)
  | 8 => ("TestBenchModel", "minimals", "I", false)
  | 9 => ("TestBenchModel", "minimalOf", "[I", true)
  | 10 => ("TestBenchModel", "stateOf", "[I", true)
  | 11 => ("TestBenchModel", "access", "[J", true)
  | 12 => ("TestBenchModel", "families", "I", false)
  | 13 => ("TestBenchModel", "family", "[J", true)
  | 14 => ("TestBenchModel", "owns", "[I", true)
  | 15 => ("TestBenchModel", "own", "[I", true)
  | 16 => ("TestBenchModel", "word", "J", false)
  | 17 => ("TestBenchModel", "implemented", "I", false)
  | 18 => ("TestBenchModel", "goes", "[I", true)
  | 19 => ("TestBenchModel", "gives", "[I", true)
  | 20 => ("TestBenchModel", "made", "Z", false)
  | 21 => ("TestBenchModel", "places", "I", false)
  | 22 => ("TestBenchModel", "child", "[I", true)
  | 23 => ("TestBenchModel", "newPlaces", "I", false)
  | 24 => ("TestBenchModel", "newChild", "[I", true)
  | 25 => ("TestBenchModel", "tests", "I", false)
  | 26 => ("TestBenchModel", "testPlace", "[I", true)
  | 27 => ("TestBenchModel", "parent", "[I", true)
  | 28 => ("TestBenchModel", "by", "[I", true)
  | 29 => ("TestBenchModel", "failed", "I", false)
  | 30 => ("TestBenchModel", "hand", "I", false)
  | 31 => ("TestBenchModel", "handAt", "I", false)
  | 32 => ("TestBenchModel", "path", "[I", true)
  | 33 => ("TestBenchModel", "seen", "[I", true)
  | 34 => ("TestBenchModel", "came", "[Z", true)
  | 35 => ("TestBenchModel", "trail", "[J", true)
  | _ => ("TestBenchModel", "gone", "[Z", true)
def nm_t8 : Nat → FieldType := fun k => match k with
  | 0 => .int
  | 1 => .int
  | 2 => .int
  | 3 => (.array .int)
  | 4 => (.array .int)
  | 5 => .int
  | 6 => .boolean
  | 7 => (.array .int)
  | 8 => .int
  | 9 => (.array .int)
  | 10 => (.array .int)
  | 11 => (.array .long)
  | 12 => .int
  | 13 => (.array .long)
  | 14 => (.array .int)
  | 15 => (.array .int)
  | 16 => .long
  | 17 => .int
  | 18 => (.array .int)
  | 19 => (.array .int)
  | 20 => .boolean
  | 21 => .int
  | 22 => (.array .int)
  | 23 => .int
  | 24 => (.array .int)
  | 25 => .int
  | 26 => (.array .int)
  | 27 => (.array .int)
  | 28 => (.array .int)
  | 29 => .int
  | 30 => .int
  | 31 => .int
  | 32 => (.array .int)
  | 33 => (.array .int)
  | 34 => (.array .boolean)
  | 35 => (.array .long)
  | _ => (.array .boolean)
def nm_cl : List vw_C := [("TestBench$Machine", nm_T0, 4), ("TestBench$Word", nm_T1, 2), ("TestBench$PairSearch", nm_T2, 8), ("TestBench$Reduction", nm_T3, 6), ("TestBench$Family", nm_T4, 4), ("TestBench$Suite", nm_T5, 15), ("TestBench$Trial", nm_T6, 2), ("TestBench", nm_T7, 14), ("TestBenchModel", nm_T8, 37)]
def nm_ty : List FieldType := [.int, .boolean, .long, (.object "TestBench$Word"), (.array .int)]
def nm_ks : List (List Nat) := [[0, 1, 1, 0], [1, 0], [1, 1, 1, 1, 1, 1, 1, 0], [1, 1, 1, 1, 1, 1], [1, 1, 1, 0], [1, 1, 1, 1, 1, 1, 1, 1, 1, 1, 1, 1, 0, 0, 0], [1, 1], [1, 1, 1, 1, 1, 1, 1, 1, 1, 0, 0, 0, 0, 0], [0, 0, 0, 1, 1, 0, 0, 1, 0, 1, 1, 1, 0, 1, 1, 1, 2, 0, 1, 1, 0, 0, 1, 0, 1, 0, 1, 1, 1, 0, 0, 0, 1, 1, 1, 1, 1]]
def nm_kd (ci j : Nat) : Nat := ((nm_ks[ci]?.getD [])[j]?).getD 0
def nm_ws : List Cond := lw_tbl.filter goodWord
def nm_nest : List (String × Nat × MethodName × String) := [("TestBench$Family", 30, ⟨"TestBench$Word", "<init>", "()V"⟩, "TestBench"), ("TestBench", 48, ⟨"TestBench$PairSearch", "<init>", "()V"⟩, "TestBench"), ("TestBench$PairSearch", 11, ⟨"TestBench$Word", "<init>", "()V"⟩, "TestBench"), ("TestBench", 55, ⟨"TestBench$Trial", "<init>", "()V"⟩, "TestBench"), ("TestBench", 62, ⟨"TestBench$Word", "<init>", "()V"⟩, "TestBench")]
def nE : aj_E := (nm_cl, nm_ty, nm_kd, nm_ws, nm_nest)
theorem nm_at {w : Cond} (i : Nat) (h : lw_tbl[i]? = some w) (hg : goodWord w = true) : w ∈ nm_ws := List.mem_filter.mpr ⟨List.mem_of_getElem? h, hg⟩
theorem nm_mem {f : Nat → Cond} {N : Nat} (ps : List Nat) (h : (List.range N).all (fun k => decide (lw_tbl[ps.getD k 0]? = some (f k)) && goodWord (f k)) = true) : ∀ w ∈ (List.range N).map f, w ∈ nm_ws := by
  intro w hw
  obtain ⟨k, hk, rfl⟩ := List.mem_map.mp hw
  have h1 := List.all_eq_true.mp h k hk
  rw [Bool.and_eq_true] at h1
  exact nm_at _ (of_decide_eq_true h1.1) h1.2
set_option maxRecDepth 20000 in
theorem nm_in0 : ∀ w ∈ u_ws "TestBench$Machine" nm_T0 4, w ∈ nm_ws := nm_mem [107, 109, 111, 113] (by decide +kernel)
theorem nm_n0 : ∀ a, a < 4 → ∀ b, b < 4 → a ≠ b → (nm_T0 a).2.1 ≠ (nm_T0 b).2.1 := by decide +kernel
theorem nm_y0 : ∀ k, k < 4 → parseFieldDescriptor (nm_T0 k).2.2.1 = some (nm_t0 k) := by decide +kernel
theorem nm_k0 : ∀ k, k < 4 → nm_kd 0 k = aj_kd (nm_t0 k) ∧ aj_smp (nm_t0 k) = true := by decide +kernel
set_option maxRecDepth 20000 in
theorem nm_in1 : ∀ w ∈ u_ws "TestBench$Word" nm_T1 2, w ∈ nm_ws := nm_mem [173, 175] (by decide +kernel)
theorem nm_n1 : ∀ a, a < 2 → ∀ b, b < 2 → a ≠ b → (nm_T1 a).2.1 ≠ (nm_T1 b).2.1 := by decide +kernel
theorem nm_y1 : ∀ k, k < 2 → parseFieldDescriptor (nm_T1 k).2.2.1 = some (nm_t1 k) := by decide +kernel
theorem nm_k1 : ∀ k, k < 2 → nm_kd 1 k = aj_kd (nm_t1 k) ∧ aj_smp (nm_t1 k) = true := by decide +kernel
set_option maxRecDepth 20000 in
theorem nm_in2 : ∀ w ∈ u_ws "TestBench$PairSearch" nm_T2 8, w ∈ nm_ws := nm_mem [217, 219, 221, 223, 225, 227, 229, 231] (by decide +kernel)
theorem nm_n2 : ∀ a, a < 8 → ∀ b, b < 8 → a ≠ b → (nm_T2 a).2.1 ≠ (nm_T2 b).2.1 := by decide +kernel
theorem nm_y2 : ∀ k, k < 8 → parseFieldDescriptor (nm_T2 k).2.2.1 = some (nm_t2 k) := by decide +kernel
theorem nm_k2 : ∀ k, k < 8 → nm_kd 2 k = aj_kd (nm_t2 k) ∧ aj_smp (nm_t2 k) = true := by decide +kernel
set_option maxRecDepth 20000 in
theorem nm_in3 : ∀ w ∈ u_ws "TestBench$Reduction" nm_T3 6, w ∈ nm_ws := nm_mem [136, 138, 140, 142, 144, 146] (by decide +kernel)
theorem nm_n3 : ∀ a, a < 6 → ∀ b, b < 6 → a ≠ b → (nm_T3 a).2.1 ≠ (nm_T3 b).2.1 := by decide +kernel
theorem nm_y3 : ∀ k, k < 6 → parseFieldDescriptor (nm_T3 k).2.2.1 = some (nm_t3 k) := by decide +kernel
theorem nm_k3 : ∀ k, k < 6 → nm_kd 3 k = aj_kd (nm_t3 k) ∧ aj_smp (nm_t3 k) = true := by decide +kernel
set_option maxRecDepth 20000 in
theorem nm_in4 : ∀ w ∈ u_ws "TestBench$Family" nm_T4 4, w ∈ nm_ws := nm_mem [190, 192, 194, 196] (by decide +kernel)
theorem nm_n4 : ∀ a, a < 4 → ∀ b, b < 4 → a ≠ b → (nm_T4 a).2.1 ≠ (nm_T4 b).2.1 := by decide +kernel
theorem nm_y4 : ∀ k, k < 4 → parseFieldDescriptor (nm_T4 k).2.2.1 = some (nm_t4 k) := by decide +kernel
theorem nm_k4 : ∀ k, k < 4 → nm_kd 4 k = aj_kd (nm_t4 k) ∧ aj_smp (nm_t4 k) = true := by decide +kernel
set_option maxRecDepth 20000 in
theorem nm_in5 : ∀ w ∈ u_ws "TestBench$Suite" nm_T5 15, w ∈ nm_ws := nm_mem [279, 281, 283, 285, 287, 289, 291, 293, 295, 297, 299, 301, 303, 305, 307] (by decide +kernel)
theorem nm_n5 : ∀ a, a < 15 → ∀ b, b < 15 → a ≠ b → (nm_T5 a).2.1 ≠ (nm_T5 b).2.1 := by decide +kernel
theorem nm_y5 : ∀ k, k < 15 → parseFieldDescriptor (nm_T5 k).2.2.1 = some (nm_t5 k) := by decide +kernel
theorem nm_k5 : ∀ k, k < 15 → nm_kd 5 k = aj_kd (nm_t5 k) ∧ aj_smp (nm_t5 k) = true := by decide +kernel
set_option maxRecDepth 20000 in
theorem nm_in6 : ∀ w ∈ u_ws "TestBench$Trial" nm_T6 2, w ∈ nm_ws := nm_mem [243, 245] (by decide +kernel)
theorem nm_n6 : ∀ a, a < 2 → ∀ b, b < 2 → a ≠ b → (nm_T6 a).2.1 ≠ (nm_T6 b).2.1 := by decide +kernel
theorem nm_y6 : ∀ k, k < 2 → parseFieldDescriptor (nm_T6 k).2.2.1 = some (nm_t6 k) := by decide +kernel
theorem nm_k6 : ∀ k, k < 2 → nm_kd 6 k = aj_kd (nm_t6 k) ∧ aj_smp (nm_t6 k) = true := by decide +kernel
set_option maxRecDepth 20000 in
theorem nm_in7 : ∀ w ∈ u_ws "TestBench" nm_T7 14, w ∈ nm_ws := nm_mem [324, 326, 328, 330, 332, 334, 336, 338, 340, 342, 344, 346, 348, 350] (by decide +kernel)
theorem nm_n7 : ∀ a, a < 14 → ∀ b, b < 14 → a ≠ b → (nm_T7 a).2.1 ≠ (nm_T7 b).2.1 := by decide +kernel
theorem nm_y7 : ∀ k, k < 14 → parseFieldDescriptor (nm_T7 k).2.2.1 = some (nm_t7 k) := by decide +kernel
theorem nm_k7 : ∀ k, k < 14 → nm_kd 7 k = aj_kd (nm_t7 k) ∧ aj_smp (nm_t7 k) = true := by decide +kernel
set_option maxRecDepth 20000 in
theorem nm_in8 : ∀ w ∈ u_ws "TestBenchModel" nm_T8 37, w ∈ nm_ws := nm_mem [792, 794, 796, 798, 800, 802, 804, 806, 808, 810, 812, 814, 816, 818, 820, 822, 824, 826, 828, 830, 832, 834, 836, 838, 840, 842, 844, 846, 848, 850, 852, 854, 856, 858, 860, 862, 864] (by decide +kernel)
theorem nm_n8 : ∀ a, a < 37 → ∀ b, b < 37 → a ≠ b → (nm_T8 a).2.1 ≠ (nm_T8 b).2.1 := by decide +kernel
theorem nm_y8 : ∀ k, k < 37 → parseFieldDescriptor (nm_T8 k).2.2.1 = some (nm_t8 k) := by decide +kernel
theorem nm_k8 : ∀ k, k < 37 → nm_kd 8 k = aj_kd (nm_t8 k) ∧ aj_smp (nm_t8 k) = true := by decide +kernel
theorem nE_good : aj_good nE := by
  refine ⟨fun w hw => good_of_word (List.mem_filter.mp hw).2, fun ci q hq => ?_⟩
  have hl : ci < 9 := (List.getElem?_eq_some_iff.mp (show nm_cl[ci]? = some q from hq)).1
  have hq2 : nm_cl[ci]? = some q := hq
  match ci, hl with
  | 0, _ => cases hq2; exact ⟨nm_in0, nm_n0, nm_t0, nm_y0, nm_k0⟩
  | 1, _ => cases hq2; exact ⟨nm_in1, nm_n1, nm_t1, nm_y1, nm_k1⟩
  | 2, _ => cases hq2; exact ⟨nm_in2, nm_n2, nm_t2, nm_y2, nm_k2⟩
  | 3, _ => cases hq2; exact ⟨nm_in3, nm_n3, nm_t3, nm_y3, nm_k3⟩
  | 4, _ => cases hq2; exact ⟨nm_in4, nm_n4, nm_t4, nm_y4, nm_k4⟩
  | 5, _ => cases hq2; exact ⟨nm_in5, nm_n5, nm_t5, nm_y5, nm_k5⟩
  | 6, _ => cases hq2; exact ⟨nm_in6, nm_n6, nm_t6, nm_y6, nm_k6⟩
  | 7, _ => cases hq2; exact ⟨nm_in7, nm_n7, nm_t7, nm_y7, nm_k7⟩
  | 8, _ => cases hq2; exact ⟨nm_in8, nm_n8, nm_t8, nm_y8, nm_k8⟩
end
section
/-! the methods: name, code, locals, answer; their instructions -/
theorem dx {c : ByteArray} {l : List (Nat × Instr × Nat)} (h : l.all (fun q => decide (decode c q.1 = .ok (q.2.1, q.2.2))) = true) (i : Nat) {pc len : Nat} {ins : Instr} (hi : l[i]? = some (pc, ins, len)) : decode c pc = .ok (ins, len) :=
  of_decide_eq_true (List.all_eq_true.mp h (pc, ins, len) (List.mem_of_getElem? hi))
def m_Bench_init : aj_M := (⟨"TestBench", "<init>", "(II)V"⟩, prog_1_method_1_code, 5, none)
def l_Bench_init : List (Nat × Instr × Nat) := [(0, .aload_n 0, 1), (1, .invokespecial 3, 3), (4, .iconst 1, 1), (5, .bipush 8, 2), (7, .iload_n 1, 1), (8, .invokestatic 9, 3), (11, .invokestatic 15, 3), (14, .istore_n 3, 1), (15, .iconst 1, 1), (16, .iconst 3, 1), (17, .iload_n 2, 1), (18, .invokestatic 9, 3), (21, .invokestatic 15, 3), (24, .istore 4, 2), (26, .aload_n 0, 1), (27, .new 18, 3), (30, .dup, 1), (31, .bipush 8, 2), (33, .iload_n 3, 1), (34, .iload 4, 2), (36, .invokespecial 20, 3), (39, .putfield 23, 3), (42, .aload_n 0, 1), (43, .new 27, 3), (46, .dup, 1), (47, .iload 4, 2), (49, .invokespecial 29, 3), (52, .putfield 32, 3), (55, .aload_n 0, 1), (56, .new 36, 3), (59, .dup, 1), (60, .invokespecial 38, 3), (63, .putfield 39, 3), (66, .aload_n 0, 1), (67, .new 18, 3), (70, .dup, 1), (71, .bipush 10, 2), (73, .iconst 0, 1), (74, .iload 4, 2), (76, .invokespecial 20, 3), (79, .putfield 43, 3), (82, .aload_n 0, 1), (83, .new 46, 3), (86, .dup, 1), (87, .invokespecial 48, 3), (90, .putfield 49, 3), (93, .aload_n 0, 1), (94, .new 53, 3), (97, .dup, 1), (98, .invokespecial 55, 3), (101, .putfield 56, 3), (104, .aload_n 0, 1), (105, .new 60, 3), (108, .dup, 1), (109, .invokespecial 62, 3), (112, .putfield 63, 3), (115, .aload_n 0, 1), (116, .new 67, 3), (119, .dup, 1), (120, .aload_n 0, 1), (121, .getfield 32, 3), (124, .aload_n 0, 1), (125, .getfield 39, 3), (128, .invokespecial 69, 3), (131, .putfield 72, 3), (134, .aload_n 0, 1), (135, .new 67, 3), (138, .dup, 1), (139, .aload_n 0, 1), (140, .getfield 32, 3), (143, .aload_n 0, 1), (144, .getfield 39, 3), (147, .invokespecial 69, 3), (150, .putfield 76, 3), (153, .aload_n 0, 1), (154, .iconst 0, 1), (155, .putfield 79, 3), (158, .aload_n 0, 1), (159, .iconst 0, 1), (160, .putfield 83, 3), (163, .aload_n 0, 1), (164, .iconst (-1), 1), (165, .putfield 87, 3), (168, .aload_n 0, 1), (169, .iconst (-1), 1), (170, .putfield 90, 3), (173, .aload_n 0, 1), (174, .iconst 0, 1), (175, .putfield 93, 3), (178, .return_, 1)]
set_option maxRecDepth 100000 in
theorem d_Bench_init : l_Bench_init.all (fun q => decide (decode prog_1_method_1_code q.1 = .ok (q.2.1, q.2.2))) = true := by decide +kernel
def m_Bench_edge : aj_M := (⟨"TestBench", "edge", "(IIII)V"⟩, prog_1_method_2_code, 5, none)
def l_Bench_edge : List (Nat × Instr × Nat) := [(0, .aload_n 0, 1), (1, .getfield 23, 3), (4, .iload_n 1, 1), (5, .iload_n 2, 1), (6, .iload_n 3, 1), (7, .iload 4, 2), (9, .invokevirtual 96, 3), (12, .ifCond .ne 11, 3), (15, .new 100, 3), (18, .dup, 1), (19, .invokespecial 102, 3), (22, .athrow, 1), (23, .aload_n 0, 1), (24, .getfield 83, 3), (27, .ifCond .eq 11, 3), (30, .new 103, 3), (33, .dup, 1), (34, .invokespecial 105, 3), (37, .athrow, 1), (38, .aload_n 0, 1), (39, .getfield 23, 3), (42, .iload_n 1, 1), (43, .iload_n 2, 1), (44, .iload_n 3, 1), (45, .iload 4, 2), (47, .invokevirtual 106, 3), (50, .return_, 1)]
set_option maxRecDepth 100000 in
theorem d_Bench_edge : l_Bench_edge.all (fun q => decide (decode prog_1_method_2_code q.1 = .ok (q.2.1, q.2.2))) = true := by decide +kernel
def m_Bench_start : aj_M := (⟨"TestBench", "start", "(I)V"⟩, prog_1_method_3_code, 2, none)
def l_Bench_start : List (Nat × Instr × Nat) := [(0, .aload_n 0, 1), (1, .getfield 23, 3), (4, .iload_n 1, 1), (5, .invokevirtual 110, 3), (8, .ifCond .ne 11, 3), (11, .new 100, 3), (14, .dup, 1), (15, .invokespecial 102, 3), (18, .athrow, 1), (19, .aload_n 0, 1), (20, .getfield 83, 3), (23, .ifCond .eq 11, 3), (26, .new 103, 3), (29, .dup, 1), (30, .invokespecial 105, 3), (33, .athrow, 1), (34, .aload_n 0, 1), (35, .iload_n 1, 1), (36, .putfield 79, 3), (39, .return_, 1)]
set_option maxRecDepth 100000 in
theorem d_Bench_start : l_Bench_start.all (fun q => decide (decode prog_1_method_3_code q.1 = .ok (q.2.1, q.2.2))) = true := by decide +kernel
def m_Bench_seal : aj_M := (⟨"TestBench", "seal", "()I"⟩, prog_1_method_4_code, 1, (some .int))
def l_Bench_seal : List (Nat × Instr × Nat) := [(0, .aload_n 0, 1), (1, .getfield 83, 3), (4, .ifCond .eq 11, 3), (7, .new 103, 3), (10, .dup, 1), (11, .invokespecial 105, 3), (14, .athrow, 1), (15, .aload_n 0, 1), (16, .getfield 32, 3), (19, .aload_n 0, 1), (20, .getfield 23, 3), (23, .aload_n 0, 1), (24, .getfield 79, 3), (27, .aload_n 0, 1), (28, .getfield 49, 3), (31, .invokevirtual 114, 3), (34, .aload_n 0, 1), (35, .getfield 39, 3), (38, .aload_n 0, 1), (39, .getfield 32, 3), (42, .getfield 118, 3), (45, .aload_n 0, 1), (46, .getfield 49, 3), (49, .invokevirtual 121, 3), (52, .aload_n 0, 1), (53, .getfield 43, 3), (56, .aload_n 0, 1), (57, .getfield 32, 3), (60, .getfield 118, 3), (63, .invokevirtual 125, 3), (66, .aload_n 0, 1), (67, .iconst 1, 1), (68, .putfield 83, 3), (71, .aload_n 0, 1), (72, .getfield 32, 3), (75, .getfield 118, 3), (78, .getfield 129, 3), (81, .ireturn, 1)]
set_option maxRecDepth 100000 in
theorem d_Bench_seal : l_Bench_seal.all (fun q => decide (decode prog_1_method_4_code q.1 = .ok (q.2.1, q.2.2))) = true := by decide +kernel
def m_Bench_minimal : aj_M := (⟨"TestBench", "minimal", "(I)I"⟩, prog_1_method_5_code, 2, (some .int))
def l_Bench_minimal : List (Nat × Instr × Nat) := [(0, .aload_n 0, 1), (1, .getfield 83, 3), (4, .ifCond .eq 26, 3), (7, .aload_n 0, 1), (8, .getfield 23, 3), (11, .iload_n 1, 1), (12, .invokevirtual 110, 3), (15, .ifCond .eq 15, 3), (18, .aload_n 0, 1), (19, .getfield 32, 3), (22, .getfield 132, 3), (25, .iload_n 1, 1), (26, .iaload, 1), (27, .goto 4, 3), (30, .iconst (-1), 1), (31, .ireturn, 1)]
set_option maxRecDepth 100000 in
theorem d_Bench_minimal : l_Bench_minimal.all (fun q => decide (decode prog_1_method_5_code q.1 = .ok (q.2.1, q.2.2))) = true := by decide +kernel
def m_Bench_apart : aj_M := (⟨"TestBench", "apart", "(II)I"⟩, prog_1_method_6_code, 3, (some .int))
def l_Bench_apart : List (Nat × Instr × Nat) := [(0, .aload_n 0, 1), (1, .getfield 23, 3), (4, .iload_n 1, 1), (5, .invokevirtual 110, 3), (8, .ifCond .eq 14, 3), (11, .aload_n 0, 1), (12, .getfield 23, 3), (15, .iload_n 2, 1), (16, .invokevirtual 110, 3), (19, .ifCond .ne 11, 3), (22, .new 100, 3), (25, .dup, 1), (26, .invokespecial 102, 3), (29, .athrow, 1), (30, .aload_n 0, 1), (31, .getfield 83, 3), (34, .ifCond .ne 11, 3), (37, .new 103, 3), (40, .dup, 1), (41, .invokespecial 105, 3), (44, .athrow, 1), (45, .aload_n 0, 1), (46, .getfield 49, 3), (49, .aload_n 0, 1), (50, .getfield 23, 3), (53, .iload_n 1, 1), (54, .aload_n 0, 1), (55, .getfield 23, 3), (58, .iload_n 2, 1), (59, .invokevirtual 136, 3), (62, .pop, 1), (63, .aload_n 0, 1), (64, .getfield 63, 3), (67, .aload_n 0, 1), (68, .getfield 49, 3), (71, .getfield 140, 3), (74, .invokevirtual 143, 3), (77, .aload_n 0, 1), (78, .getfield 63, 3), (81, .getfield 146, 3), (84, .ireturn, 1)]
set_option maxRecDepth 100000 in
theorem d_Bench_apart : l_Bench_apart.all (fun q => decide (decode prog_1_method_6_code q.1 = .ok (q.2.1, q.2.2))) = true := by decide +kernel
def m_Bench_word : aj_M := (⟨"TestBench", "word", "(I)I"⟩, prog_1_method_7_code, 2, (some .int))
def l_Bench_word : List (Nat × Instr × Nat) := [(0, .aload_n 0, 1), (1, .getfield 63, 3), (4, .iload_n 1, 1), (5, .invokevirtual 149, 3), (8, .ireturn, 1)]
set_option maxRecDepth 100000 in
theorem d_Bench_word : l_Bench_word.all (fun q => decide (decode prog_1_method_7_code q.1 = .ok (q.2.1, q.2.2))) = true := by decide +kernel
def m_Bench_family : aj_M := (⟨"TestBench", "family", "(II)I"⟩, prog_1_method_8_code, 3, (some .int))
def l_Bench_family : List (Nat × Instr × Nat) := [(0, .aload_n 0, 1), (1, .getfield 83, 3), (4, .ifCond .ne 5, 3), (7, .iconst (-1), 1), (8, .ireturn, 1), (9, .iload_n 1, 1), (10, .iconst (-1), 1), (11, .if_icmp .ne 11, 3), (14, .aload_n 0, 1), (15, .getfield 39, 3), (18, .getfield 153, 3), (21, .ireturn, 1), (22, .aload_n 0, 1), (23, .getfield 39, 3), (26, .iload_n 1, 1), (27, .invokevirtual 156, 3), (30, .ifCond .ne 5, 3), (33, .iconst (-1), 1), (34, .ireturn, 1), (35, .iload_n 2, 1), (36, .iconst (-1), 1), (37, .if_icmp .ne 18, 3), (40, .aload_n 0, 1), (41, .getfield 39, 3), (44, .getfield 159, 3), (47, .iload_n 1, 1), (48, .aaload, 1), (49, .getfield 146, 3), (52, .goto 16, 3), (55, .aload_n 0, 1), (56, .getfield 39, 3), (59, .getfield 159, 3), (62, .iload_n 1, 1), (63, .aaload, 1), (64, .iload_n 2, 1), (65, .invokevirtual 149, 3), (68, .ireturn, 1)]
set_option maxRecDepth 100000 in
theorem d_Bench_family : l_Bench_family.all (fun q => decide (decode prog_1_method_8_code q.1 = .ok (q.2.1, q.2.2))) = true := by decide +kernel
def m_Bench_own : aj_M := (⟨"TestBench", "own", "(II)I"⟩, prog_1_method_9_code, 3, (some .int))
def l_Bench_own : List (Nat × Instr × Nat) := [(0, .aload_n 0, 1), (1, .getfield 83, 3), (4, .ifCond .eq 17, 3), (7, .aload_n 0, 1), (8, .getfield 32, 3), (11, .getfield 118, 3), (14, .iload_n 1, 1), (15, .invokevirtual 110, 3), (18, .ifCond .ne 5, 3), (21, .iconst (-1), 1), (22, .ireturn, 1), (23, .iload_n 2, 1), (24, .iconst (-1), 1), (25, .if_icmp .ne 13, 3), (28, .aload_n 0, 1), (29, .getfield 39, 3), (32, .getfield 163, 3), (35, .iload_n 1, 1), (36, .iaload, 1), (37, .ireturn, 1), (38, .iload_n 2, 1), (39, .ifCond .lt 30, 3), (42, .iload_n 2, 1), (43, .aload_n 0, 1), (44, .getfield 39, 3), (47, .getfield 163, 3), (50, .iload_n 1, 1), (51, .iaload, 1), (52, .if_icmp .ge 17, 3), (55, .aload_n 0, 1), (56, .getfield 39, 3), (59, .getfield 166, 3), (62, .iload_n 1, 1), (63, .aaload, 1), (64, .iload_n 2, 1), (65, .iaload, 1), (66, .goto 4, 3), (69, .iconst (-1), 1), (70, .ireturn, 1)]
set_option maxRecDepth 100000 in
theorem d_Bench_own : l_Bench_own.all (fun q => decide (decode prog_1_method_9_code q.1 = .ok (q.2.1, q.2.2))) = true := by decide +kernel
def m_Bench_suite : aj_M := (⟨"TestBench", "suite", "(II)I"⟩, prog_1_method_10_code, 4, (some .int))
def l_Bench_suite : List (Nat × Instr × Nat) := [(0, .iload_n 1, 1), (1, .ifCond .lt 17, 3), (4, .iload_n 1, 1), (5, .iconst 2, 1), (6, .if_icmp .ge 12, 3), (9, .iload_n 2, 1), (10, .ifCond .lt 8, 3), (13, .iload_n 2, 1), (14, .iconst 2, 1), (15, .if_icmp .le 11, 3), (18, .new 100, 3), (21, .dup, 1), (22, .invokespecial 102, 3), (25, .athrow, 1), (26, .aload_n 0, 1), (27, .getfield 83, 3), (30, .ifCond .ne 11, 3), (33, .new 103, 3), (36, .dup, 1), (37, .invokespecial 105, 3), (40, .athrow, 1), (41, .aload_n 0, 1), (42, .getfield 76, 3), (45, .iload_n 1, 1), (46, .iload_n 2, 1), (47, .invokevirtual 170, 3), (50, .ifCond .ne 11, 3), (53, .new 174, 3), (56, .dup, 1), (57, .invokespecial 176, 3), (60, .athrow, 1), (61, .aload_n 0, 1), (62, .getfield 72, 3), (65, .astore_n 3, 1), (66, .aload_n 0, 1), (67, .aload_n 0, 1), (68, .getfield 76, 3), (71, .putfield 72, 3), (74, .aload_n 0, 1), (75, .aload_n 3, 1), (76, .putfield 76, 3), (79, .aload_n 0, 1), (80, .iconst (-1), 1), (81, .putfield 90, 3), (84, .aload_n 0, 1), (85, .getfield 72, 3), (88, .getfield 177, 3), (91, .ireturn, 1)]
set_option maxRecDepth 100000 in
theorem d_Bench_suite : l_Bench_suite.all (fun q => decide (decode prog_1_method_10_code q.1 = .ok (q.2.1, q.2.2))) = true := by decide +kernel
def m_Bench_test : aj_M := (⟨"TestBench", "test", "(IIZ)I"⟩, prog_1_method_11_code, 4, (some .int))
def l_Bench_test : List (Nat × Instr × Nat) := [(0, .aload_n 0, 1), (1, .getfield 72, 3), (4, .iload_n 1, 1), (5, .invokevirtual 180, 3), (8, .ifCond .ne 5, 3), (11, .iconst (-1), 1), (12, .ireturn, 1), (13, .iload_n 2, 1), (14, .iconst (-1), 1), (15, .if_icmp .ne 12, 3), (18, .aload_n 0, 1), (19, .getfield 72, 3), (22, .iload_n 1, 1), (23, .invokevirtual 183, 3), (26, .ireturn, 1), (27, .iload_n 2, 1), (28, .ifCond .lt 15, 3), (31, .iload_n 2, 1), (32, .aload_n 0, 1), (33, .getfield 72, 3), (36, .iload_n 1, 1), (37, .invokevirtual 183, 3), (40, .if_icmp .lt 5, 3), (43, .iconst (-1), 1), (44, .ireturn, 1), (45, .iload_n 3, 1), (46, .ifCond .eq 15, 3), (49, .aload_n 0, 1), (50, .getfield 72, 3), (53, .iload_n 1, 1), (54, .iload_n 2, 1), (55, .invokevirtual 186, 3), (58, .goto 12, 3), (61, .aload_n 0, 1), (62, .getfield 72, 3), (65, .iload_n 1, 1), (66, .iload_n 2, 1), (67, .invokevirtual 189, 3), (70, .ireturn, 1)]
set_option maxRecDepth 100000 in
theorem d_Bench_test : l_Bench_test.all (fun q => decide (decode prog_1_method_11_code q.1 = .ok (q.2.1, q.2.2))) = true := by decide +kernel
def m_Bench_resize : aj_M := (⟨"TestBench", "resize", "(I)V"⟩, prog_1_method_12_code, 2, none)
def l_Bench_resize : List (Nat × Instr × Nat) := [(0, .iload_n 1, 1), (1, .iconst 1, 1), (2, .if_icmp .lt 9, 3), (5, .iload_n 1, 1), (6, .bipush 10, 2), (8, .if_icmp .le 11, 3), (11, .new 100, 3), (14, .dup, 1), (15, .invokespecial 102, 3), (18, .athrow, 1), (19, .aload_n 0, 1), (20, .getfield 83, 3), (23, .ifCond .ne 11, 3), (26, .new 103, 3), (29, .dup, 1), (30, .invokespecial 105, 3), (33, .athrow, 1), (34, .aload_n 0, 1), (35, .getfield 43, 3), (38, .iload_n 1, 1), (39, .invokevirtual 192, 3), (42, .return_, 1)]
set_option maxRecDepth 100000 in
theorem d_Bench_resize : l_Bench_resize.all (fun q => decide (decode prog_1_method_12_code q.1 = .ok (q.2.1, q.2.2))) = true := by decide +kernel
def m_Bench_change : aj_M := (⟨"TestBench", "change", "(IIII)V"⟩, prog_1_method_13_code, 5, none)
def l_Bench_change : List (Nat × Instr × Nat) := [(0, .aload_n 0, 1), (1, .getfield 83, 3), (4, .ifCond .ne 11, 3), (7, .new 103, 3), (10, .dup, 1), (11, .invokespecial 105, 3), (14, .athrow, 1), (15, .aload_n 0, 1), (16, .getfield 43, 3), (19, .iload_n 1, 1), (20, .iload_n 2, 1), (21, .iload_n 3, 1), (22, .iload 4, 2), (24, .invokevirtual 96, 3), (27, .ifCond .ne 11, 3), (30, .new 100, 3), (33, .dup, 1), (34, .invokespecial 102, 3), (37, .athrow, 1), (38, .aload_n 0, 1), (39, .getfield 43, 3), (42, .iload_n 1, 1), (43, .iload_n 2, 1), (44, .iload_n 3, 1), (45, .iload 4, 2), (47, .invokevirtual 106, 3), (50, .return_, 1)]
set_option maxRecDepth 100000 in
theorem d_Bench_change : l_Bench_change.all (fun q => decide (decode prog_1_method_13_code q.1 = .ok (q.2.1, q.2.2))) = true := by decide +kernel
def m_Bench_run : aj_M := (⟨"TestBench", "run", "()I"⟩, prog_1_method_14_code, 2, (some .int))
def l_Bench_run : List (Nat × Instr × Nat) := [(0, .aload_n 0, 1), (1, .getfield 72, 3), (4, .invokevirtual 195, 3), (7, .ifCond .ne 11, 3), (10, .new 103, 3), (13, .dup, 1), (14, .invokespecial 105, 3), (17, .athrow, 1), (18, .aload_n 0, 1), (19, .getfield 56, 3), (22, .aload_n 0, 1), (23, .getfield 72, 3), (26, .aload_n 0, 1), (27, .getfield 43, 3), (30, .invokevirtual 199, 3), (33, .istore_n 1, 1), (34, .aload_n 0, 1), (35, .iload_n 1, 1), (36, .iconst (-1), 1), (37, .if_icmp .ne 7, 3), (40, .iconst (-1), 1), (41, .goto 15, 3), (44, .aload_n 0, 1), (45, .getfield 56, 3), (48, .aload_n 0, 1), (49, .getfield 72, 3), (52, .iload_n 1, 1), (53, .invokevirtual 203, 3), (56, .putfield 87, 3), (59, .iload_n 1, 1), (60, .ireturn, 1)]
set_option maxRecDepth 100000 in
theorem d_Bench_run : l_Bench_run.all (fun q => decide (decode prog_1_method_14_code q.1 = .ok (q.2.1, q.2.2))) = true := by decide +kernel
def m_Bench_failed : aj_M := (⟨"TestBench", "failed", "()I"⟩, prog_1_method_15_code, 1, (some .int))
def l_Bench_failed : List (Nat × Instr × Nat) := [(0, .aload_n 0, 1), (1, .getfield 87, 3), (4, .ireturn, 1)]
set_option maxRecDepth 100000 in
theorem d_Bench_failed : l_Bench_failed.all (fun q => decide (decode prog_1_method_15_code q.1 = .ok (q.2.1, q.2.2))) = true := by decide +kernel
def m_Bench_begin : aj_M := (⟨"TestBench", "begin", "(I)I"⟩, prog_1_method_16_code, 2, (some .int))
def l_Bench_begin : List (Nat × Instr × Nat) := [(0, .aload_n 0, 1), (1, .getfield 72, 3), (4, .iload_n 1, 1), (5, .invokevirtual 180, 3), (8, .ifCond .ne 11, 3), (11, .new 100, 3), (14, .dup, 1), (15, .invokespecial 102, 3), (18, .athrow, 1), (19, .aload_n 0, 1), (20, .iload_n 1, 1), (21, .putfield 90, 3), (24, .aload_n 0, 1), (25, .iconst 0, 1), (26, .putfield 93, 3), (29, .aload_n 0, 1), (30, .invokevirtual 207, 3), (33, .ireturn, 1)]
set_option maxRecDepth 100000 in
theorem d_Bench_begin : l_Bench_begin.all (fun q => decide (decode prog_1_method_16_code q.1 = .ok (q.2.1, q.2.2))) = true := by decide +kernel
def m_Bench_give : aj_M := (⟨"TestBench", "give", "(I)I"⟩, prog_1_method_17_code, 2, (some .int))
def l_Bench_give : List (Nat × Instr × Nat) := [(0, .aload_n 0, 1), (1, .getfield 90, 3), (4, .iconst (-1), 1), (5, .if_icmp .ne 11, 3), (8, .new 103, 3), (11, .dup, 1), (12, .invokespecial 105, 3), (15, .athrow, 1), (16, .aload_n 0, 1), (17, .getfield 23, 3), (20, .iload_n 1, 1), (21, .invokevirtual 211, 3), (24, .ifCond .ne 11, 3), (27, .new 100, 3), (30, .dup, 1), (31, .invokespecial 102, 3), (34, .athrow, 1), (35, .iload_n 1, 1), (36, .aload_n 0, 1), (37, .getfield 72, 3), (40, .aload_n 0, 1), (41, .getfield 90, 3), (44, .aload_n 0, 1), (45, .getfield 93, 3), (48, .invokevirtual 186, 3), (51, .if_icmp .eq 11, 3), (54, .aload_n 0, 1), (55, .iconst (-1), 1), (56, .putfield 90, 3), (59, .bipush (-2), 2), (61, .ireturn, 1), (62, .aload_n 0, 1), (63, .dup, 1), (64, .getfield 93, 3), (67, .iconst 1, 1), (68, .iadd, 1), (69, .putfield 93, 3), (72, .aload_n 0, 1), (73, .invokevirtual 207, 3), (76, .ireturn, 1)]
set_option maxRecDepth 100000 in
theorem d_Bench_give : l_Bench_give.all (fun q => decide (decode prog_1_method_17_code q.1 = .ok (q.2.1, q.2.2))) = true := by decide +kernel
def m_Bench_same : aj_M := (⟨"TestBench", "same", "()I"⟩, prog_1_method_18_code, 1, (some .int))
def l_Bench_same : List (Nat × Instr × Nat) := [(0, .aload_n 0, 1), (1, .getfield 83, 3), (4, .ifCond .ne 11, 3), (7, .new 103, 3), (10, .dup, 1), (11, .invokespecial 105, 3), (14, .athrow, 1), (15, .aload_n 0, 1), (16, .getfield 49, 3), (19, .aload_n 0, 1), (20, .getfield 43, 3), (23, .iconst 0, 1), (24, .aload_n 0, 1), (25, .getfield 32, 3), (28, .getfield 118, 3), (31, .iconst 0, 1), (32, .invokevirtual 136, 3), (35, .pop, 1), (36, .aload_n 0, 1), (37, .getfield 63, 3), (40, .aload_n 0, 1), (41, .getfield 49, 3), (44, .getfield 140, 3), (47, .invokevirtual 143, 3), (50, .aload_n 0, 1), (51, .getfield 63, 3), (54, .getfield 146, 3), (57, .ireturn, 1)]
set_option maxRecDepth 100000 in
theorem d_Bench_same : l_Bench_same.all (fun q => decide (decode prog_1_method_18_code q.1 = .ok (q.2.1, q.2.2))) = true := by decide +kernel
def m_Bench_covered : aj_M := (⟨"TestBench", "covered", "()I"⟩, prog_1_method_19_code, 1, (some .int))
def l_Bench_covered : List (Nat × Instr × Nat) := [(0, .aload_n 0, 1), (1, .getfield 72, 3), (4, .invokevirtual 195, 3), (7, .ifCond .eq 13, 3), (10, .aload_n 0, 1), (11, .getfield 72, 3), (14, .invokevirtual 214, 3), (17, .goto 4, 3), (20, .iconst 0, 1), (21, .ireturn, 1)]
set_option maxRecDepth 100000 in
theorem d_Bench_covered : l_Bench_covered.all (fun q => decide (decode prog_1_method_19_code q.1 = .ok (q.2.1, q.2.2))) = true := by decide +kernel
def m_Bench_look : aj_M := (⟨"TestBench", "look", "(I)I"⟩, prog_1_method_20_code, 2, (some .int))
def l_Bench_look : List (Nat × Instr × Nat) := [(0, .iload_n 1, 1), (1, .tableswitch 107 0 6 #[43, 51, 59, 72, 83, 91, 99], 43), (44, .aload_n 0, 1), (45, .getfield 23, 3), (48, .getfield 129, 3), (51, .ireturn, 1), (52, .aload_n 0, 1), (53, .getfield 23, 3), (56, .getfield 217, 3), (59, .ireturn, 1), (60, .aload_n 0, 1), (61, .getfield 83, 3), (64, .ifCond .eq 7, 3), (67, .iconst 1, 1), (68, .goto 4, 3), (71, .iconst 0, 1), (72, .ireturn, 1), (73, .aload_n 0, 1), (74, .getfield 32, 3), (77, .getfield 118, 3), (80, .getfield 129, 3), (83, .ireturn, 1), (84, .aload_n 0, 1), (85, .getfield 72, 3), (88, .getfield 177, 3), (91, .ireturn, 1), (92, .aload_n 0, 1), (93, .getfield 43, 3), (96, .getfield 129, 3), (99, .ireturn, 1), (100, .aload_n 0, 1), (101, .getfield 72, 3), (104, .getfield 220, 3), (107, .ireturn, 1), (108, .iconst (-1), 1), (109, .ireturn, 1)]
set_option maxRecDepth 100000 in
theorem d_Bench_look : l_Bench_look.all (fun q => decide (decode prog_1_method_20_code q.1 = .ok (q.2.1, q.2.2))) = true := by decide +kernel
def m_Bench_tellInput : aj_M := (⟨"TestBench", "tellInput", "()I"⟩, prog_1_method_21_code, 1, (some .int))
def l_Bench_tellInput : List (Nat × Instr × Nat) := [(0, .aload_n 0, 1), (1, .getfield 93, 3), (4, .aload_n 0, 1), (5, .getfield 72, 3), (8, .aload_n 0, 1), (9, .getfield 90, 3), (12, .invokevirtual 183, 3), (15, .if_icmp .ge 19, 3), (18, .aload_n 0, 1), (19, .getfield 72, 3), (22, .aload_n 0, 1), (23, .getfield 90, 3), (26, .aload_n 0, 1), (27, .getfield 93, 3), (30, .invokevirtual 189, 3), (33, .ireturn, 1), (34, .aload_n 0, 1), (35, .iconst (-1), 1), (36, .putfield 90, 3), (39, .iconst (-1), 1), (40, .ireturn, 1)]
set_option maxRecDepth 100000 in
theorem d_Bench_tellInput : l_Bench_tellInput.all (fun q => decide (decode prog_1_method_21_code q.1 = .ok (q.2.1, q.2.2))) = true := by decide +kernel
def m_Model_init : aj_M := (⟨"TestBenchModel", "<init>", "(II)V"⟩, prog_10_method_1_code, 5, none)
def l_Model_init : List (Nat × Instr × Nat) := [(0, .aload_n 0, 1), (1, .invokespecial 1, 3), (4, .aload_n 0, 1), (5, .bipush 24, 2), (7, .newarray .int, 2), (9, .putfield 7, 3), (12, .aload_n 0, 1), (13, .bipush 24, 2), (15, .newarray .int, 2), (17, .putfield 13, 3), (20, .aload_n 0, 1), (21, .bipush 64, 2), (23, .newarray .int, 2), (25, .putfield 16, 3), (28, .aload_n 0, 1), (29, .bipush 8, 2), (31, .newarray .int, 2), (33, .putfield 19, 3), (36, .aload_n 0, 1), (37, .bipush 8, 2), (39, .newarray .int, 2), (41, .putfield 22, 3), (44, .aload_n 0, 1), (45, .bipush 8, 2), (47, .newarray .long, 2), (49, .putfield 25, 3), (52, .aload_n 0, 1), (53, .bipush 28, 2), (55, .newarray .long, 2), (57, .putfield 29, 3), (60, .aload_n 0, 1), (61, .bipush 8, 2), (63, .newarray .int, 2), (65, .putfield 32, 3), (68, .aload_n 0, 1), (69, .bipush 64, 2), (71, .newarray .int, 2), (73, .putfield 35, 3), (76, .aload_n 0, 1), (77, .lconst 1, 1), (78, .putfield 38, 3), (81, .aload_n 0, 1), (82, .bipush 30, 2), (84, .newarray .int, 2), (86, .putfield 42, 3), (89, .aload_n 0, 1), (90, .bipush 30, 2), (92, .newarray .int, 2), (94, .putfield 45, 3), (97, .aload_n 0, 1), (98, .sipush 2403, 3), (101, .newarray .int, 2), (103, .putfield 48, 3), (106, .aload_n 0, 1), (107, .sipush 2403, 3), (110, .newarray .int, 2), (112, .putfield 51, 3), (115, .aload_n 0, 1), (116, .sipush 801, 3), (119, .newarray .int, 2), (121, .putfield 54, 3), (124, .aload_n 0, 1), (125, .sipush 801, 3), (128, .newarray .int, 2), (130, .putfield 57, 3), (133, .aload_n 0, 1), (134, .sipush 801, 3), (137, .newarray .int, 2), (139, .putfield 60, 3), (142, .aload_n 0, 1), (143, .iconst (-1), 1), (144, .putfield 63, 3), (147, .aload_n 0, 1), (148, .iconst (-1), 1), (149, .putfield 67, 3), (152, .aload_n 0, 1), (153, .bipush 64, 2), (155, .newarray .int, 2), (157, .putfield 70, 3), (160, .aload_n 0, 1), (161, .bipush 80, 2), (163, .newarray .int, 2), (165, .putfield 73, 3), (168, .aload_n 0, 1), (169, .bipush 80, 2), (171, .newarray .boolean, 2), (173, .putfield 76, 3), (176, .aload_n 0, 1), (177, .bipush 80, 2), (179, .newarray .long, 2), (181, .putfield 80, 3), (184, .aload_n 0, 1), (185, .bipush 24, 2), (187, .newarray .boolean, 2), (189, .putfield 83, 3), (192, .aload_n 0, 1), (193, .iload_n 1, 1), (194, .iconst 1, 1), (195, .if_icmp .ge 7, 3), (198, .iconst 1, 1), (199, .goto 15, 3), (202, .iload_n 1, 1), (203, .bipush 8, 2), (205, .if_icmp .le 8, 3), (208, .bipush 8, 2), (210, .goto 4, 3), (213, .iload_n 1, 1), (214, .putfield 86, 3), (217, .aload_n 0, 1), (218, .iload_n 2, 1), (219, .iconst 1, 1), (220, .if_icmp .ge 7, 3), (223, .iconst 1, 1), (224, .goto 13, 3), (227, .iload_n 2, 1), (228, .iconst 3, 1), (229, .if_icmp .le 7, 3), (232, .iconst 3, 1), (233, .goto 4, 3), (236, .iload_n 2, 1), (237, .putfield 89, 3), (240, .iconst 0, 1), (241, .istore_n 3, 1), (242, .iload_n 3, 1), (243, .bipush 8, 2), (245, .if_icmp .ge 36, 3), (248, .iconst 0, 1), (249, .istore 4, 2), (251, .iload 4, 2), (253, .iconst 3, 1), (254, .if_icmp .ge 21, 3), (257, .aload_n 0, 1), (258, .getfield 7, 3), (261, .iconst 3, 1), (262, .iload_n 3, 1), (263, .imul, 1), (264, .iload 4, 2), (266, .iadd, 1), (267, .iload_n 3, 1), (268, .iastore, 1), (269, .iinc 4 1, 3), (272, .goto (-21), 3), (275, .iinc 3 1, 3), (278, .goto (-36), 3), (281, .return_, 1)]
set_option maxRecDepth 100000 in
theorem d_Model_init : l_Model_init.all (fun q => decide (decode prog_10_method_1_code q.1 = .ok (q.2.1, q.2.2))) = true := by decide +kernel
def m_Model_thrown : aj_M := (⟨"TestBenchModel", "thrown", "()I"⟩, prog_10_method_2_code, 1, (some .int))
def l_Model_thrown : List (Nat × Instr × Nat) := [(0, .aload_n 0, 1), (1, .getfield 92, 3), (4, .ireturn, 1)]
set_option maxRecDepth 100000 in
theorem d_Model_thrown : l_Model_thrown.all (fun q => decide (decode prog_10_method_2_code q.1 = .ok (q.2.1, q.2.2))) = true := by decide +kernel
def m_Model_isState : aj_M := (⟨"TestBenchModel", "isState", "(I)Z"⟩, prog_10_method_3_code, 2, (some .boolean))
def l_Model_isState : List (Nat × Instr × Nat) := [(0, .iload_n 1, 1), (1, .ifCond .lt 15, 3), (4, .iload_n 1, 1), (5, .aload_n 0, 1), (6, .getfield 86, 3), (9, .if_icmp .ge 7, 3), (12, .iconst 1, 1), (13, .goto 4, 3), (16, .iconst 0, 1), (17, .ireturn, 1)]
set_option maxRecDepth 100000 in
theorem d_Model_isState : l_Model_isState.all (fun q => decide (decode prog_10_method_3_code q.1 = .ok (q.2.1, q.2.2))) = true := by decide +kernel
def m_Model_isInput : aj_M := (⟨"TestBenchModel", "isInput", "(I)Z"⟩, prog_10_method_4_code, 2, (some .boolean))
def l_Model_isInput : List (Nat × Instr × Nat) := [(0, .iload_n 1, 1), (1, .ifCond .lt 15, 3), (4, .iload_n 1, 1), (5, .aload_n 0, 1), (6, .getfield 89, 3), (9, .if_icmp .ge 7, 3), (12, .iconst 1, 1), (13, .goto 4, 3), (16, .iconst 0, 1), (17, .ireturn, 1)]
set_option maxRecDepth 100000 in
theorem d_Model_isInput : l_Model_isInput.all (fun q => decide (decode prog_10_method_4_code q.1 = .ok (q.2.1, q.2.2))) = true := by decide +kernel
def m_Model_isOutput : aj_M := (⟨"TestBenchModel", "isOutput", "(I)Z"⟩, prog_10_method_5_code, 1, (some .boolean))
def l_Model_isOutput : List (Nat × Instr × Nat) := [(0, .iload_n 0, 1), (1, .ifCond .lt 12, 3), (4, .iload_n 0, 1), (5, .iconst 4, 1), (6, .if_icmp .ge 7, 3), (9, .iconst 1, 1), (10, .goto 4, 3), (13, .iconst 0, 1), (14, .ireturn, 1)]
set_option maxRecDepth 100000 in
theorem d_Model_isOutput : l_Model_isOutput.all (fun q => decide (decode prog_10_method_5_code q.1 = .ok (q.2.1, q.2.2))) = true := by decide +kernel
def m_Model_edge : aj_M := (⟨"TestBenchModel", "edge", "(IIII)V"⟩, prog_10_method_6_code, 5, none)
def l_Model_edge : List (Nat × Instr × Nat) := [(0, .aload_n 0, 1), (1, .aload_n 0, 1), (2, .iload_n 1, 1), (3, .invokevirtual 95, 3), (6, .ifCond .eq 27, 3), (9, .aload_n 0, 1), (10, .iload_n 2, 1), (11, .invokevirtual 99, 3), (14, .ifCond .eq 19, 3), (17, .aload_n 0, 1), (18, .iload_n 3, 1), (19, .invokevirtual 95, 3), (22, .ifCond .eq 11, 3), (25, .iload 4, 2), (27, .invokestatic 102, 3), (30, .ifCond .ne 7, 3), (33, .iconst 1, 1), (34, .goto 15, 3), (37, .aload_n 0, 1), (38, .getfield 105, 3), (41, .ifCond .eq 7, 3), (44, .iconst 2, 1), (45, .goto 4, 3), (48, .iconst 0, 1), (49, .putfield 92, 3), (52, .aload_n 0, 1), (53, .getfield 92, 3), (56, .ifCond .ne 26, 3), (59, .aload_n 0, 1), (60, .getfield 7, 3), (63, .iconst 3, 1), (64, .iload_n 1, 1), (65, .imul, 1), (66, .iload_n 2, 1), (67, .iadd, 1), (68, .iload_n 3, 1), (69, .iastore, 1), (70, .aload_n 0, 1), (71, .getfield 13, 3), (74, .iconst 3, 1), (75, .iload_n 1, 1), (76, .imul, 1), (77, .iload_n 2, 1), (78, .iadd, 1), (79, .iload 4, 2), (81, .iastore, 1), (82, .return_, 1)]
set_option maxRecDepth 100000 in
theorem d_Model_edge : l_Model_edge.all (fun q => decide (decode prog_10_method_6_code q.1 = .ok (q.2.1, q.2.2))) = true := by decide +kernel
def m_Model_start : aj_M := (⟨"TestBenchModel", "start", "(I)V"⟩, prog_10_method_7_code, 2, none)
def l_Model_start : List (Nat × Instr × Nat) := [(0, .aload_n 0, 1), (1, .aload_n 0, 1), (2, .iload_n 1, 1), (3, .invokevirtual 95, 3), (6, .ifCond .ne 7, 3), (9, .iconst 1, 1), (10, .goto 15, 3), (13, .aload_n 0, 1), (14, .getfield 105, 3), (17, .ifCond .eq 7, 3), (20, .iconst 2, 1), (21, .goto 4, 3), (24, .iconst 0, 1), (25, .putfield 92, 3), (28, .aload_n 0, 1), (29, .aload_n 0, 1), (30, .getfield 92, 3), (33, .ifCond .ne 7, 3), (36, .iload_n 1, 1), (37, .goto 7, 3), (40, .aload_n 0, 1), (41, .getfield 109, 3), (44, .putfield 109, 3), (47, .return_, 1)]
set_option maxRecDepth 100000 in
theorem d_Model_start : l_Model_start.all (fun q => decide (decode prog_10_method_7_code q.1 = .ok (q.2.1, q.2.2))) = true := by decide +kernel
def m_Model_length : aj_M := (⟨"TestBenchModel", "length", "(J)I"⟩, prog_10_method_8_code, 5, (some .int))
def l_Model_length : List (Nat × Instr × Nat) := [(0, .iconst 0, 1), (1, .istore_n 2, 1), (2, .lload_n 0, 1), (3, .lstore_n 3, 1), (4, .lload_n 3, 1), (5, .lconst 1, 1), (6, .lcmp, 1), (7, .ifCond .le 13, 3), (10, .iinc 2 1, 3), (13, .lload_n 3, 1), (14, .iconst 2, 1), (15, .lshr, 1), (16, .lstore_n 3, 1), (17, .goto (-13), 3), (20, .iload_n 2, 1), (21, .ireturn, 1)]
set_option maxRecDepth 100000 in
theorem d_Model_length : l_Model_length.all (fun q => decide (decode prog_10_method_8_code q.1 = .ok (q.2.1, q.2.2))) = true := by decide +kernel
def m_Model_at : aj_M := (⟨"TestBenchModel", "at", "(JI)I"⟩, prog_10_method_9_code, 3, (some .int))
def l_Model_at : List (Nat × Instr × Nat) := [(0, .lload_n 0, 1), (1, .iconst 2, 1), (2, .lload_n 0, 1), (3, .invokestatic 112, 3), (6, .iconst 1, 1), (7, .isub, 1), (8, .iload_n 2, 1), (9, .isub, 1), (10, .imul, 1), (11, .lshr, 1), (12, .ldc2_w 116, 3), (15, .land, 1), (16, .l2i, 1), (17, .ireturn, 1)]
set_option maxRecDepth 100000 in
theorem d_Model_at : l_Model_at.all (fun q => decide (decode prog_10_method_9_code q.1 = .ok (q.2.1, q.2.2))) = true := by decide +kernel
def m_Model_led : aj_M := (⟨"TestBenchModel", "led", "(IJ)I"⟩, prog_10_method_10_code, 6, (some .int))
def l_Model_led : List (Nat × Instr × Nat) := [(0, .iload_n 1, 1), (1, .istore 4, 2), (3, .iconst 0, 1), (4, .istore 5, 2), (6, .iload 5, 2), (8, .lload_n 2, 1), (9, .invokestatic 112, 3), (12, .if_icmp .ge 27, 3), (15, .aload_n 0, 1), (16, .getfield 7, 3), (19, .iconst 3, 1), (20, .iload 4, 2), (22, .imul, 1), (23, .lload_n 2, 1), (24, .iload 5, 2), (26, .invokestatic 118, 3), (29, .iadd, 1), (30, .iaload, 1), (31, .istore 4, 2), (33, .iinc 5 1, 3), (36, .goto (-30), 3), (39, .iload 4, 2), (41, .ireturn, 1)]
set_option maxRecDepth 100000 in
theorem d_Model_led : l_Model_led.all (fun q => decide (decode prog_10_method_10_code q.1 = .ok (q.2.1, q.2.2))) = true := by decide +kernel
def m_Model_tells : aj_M := (⟨"TestBenchModel", "tells", "(JII)Z"⟩, prog_10_method_11_code, 10, (some .boolean))
def l_Model_tells : List (Nat × Instr × Nat) := [(0, .iload_n 3, 1), (1, .istore 5, 2), (3, .iload 4, 2), (5, .istore 6, 2), (7, .iconst 0, 1), (8, .istore 7, 2), (10, .iconst 0, 1), (11, .istore 8, 2), (13, .iload 8, 2), (15, .lload_n 1, 1), (16, .invokestatic 112, 3), (19, .if_icmp .ge 84, 3), (22, .lload_n 1, 1), (23, .iload 8, 2), (25, .invokestatic 118, 3), (28, .istore 9, 2), (30, .iload 7, 2), (32, .ifCond .ne 30, 3), (35, .aload_n 0, 1), (36, .getfield 13, 3), (39, .iconst 3, 1), (40, .iload 5, 2), (42, .imul, 1), (43, .iload 9, 2), (45, .iadd, 1), (46, .iaload, 1), (47, .aload_n 0, 1), (48, .getfield 13, 3), (51, .iconst 3, 1), (52, .iload 6, 2), (54, .imul, 1), (55, .iload 9, 2), (57, .iadd, 1), (58, .iaload, 1), (59, .if_icmp .eq 7, 3), (62, .iconst 1, 1), (63, .goto 4, 3), (66, .iconst 0, 1), (67, .istore 7, 2), (69, .aload_n 0, 1), (70, .getfield 7, 3), (73, .iconst 3, 1), (74, .iload 5, 2), (76, .imul, 1), (77, .iload 9, 2), (79, .iadd, 1), (80, .iaload, 1), (81, .istore 5, 2), (83, .aload_n 0, 1), (84, .getfield 7, 3), (87, .iconst 3, 1), (88, .iload 6, 2), (90, .imul, 1), (91, .iload 9, 2), (93, .iadd, 1), (94, .iaload, 1), (95, .istore 6, 2), (97, .iinc 8 1, 3), (100, .goto (-87), 3), (103, .iload 7, 2), (105, .ireturn, 1)]
set_option maxRecDepth 100000 in
theorem d_Model_tells : l_Model_tells.all (fun q => decide (decode prog_10_method_11_code q.1 = .ok (q.2.1, q.2.2))) = true := by decide +kernel
def m_Model_measure : aj_M := (⟨"TestBenchModel", "measure", "()V"⟩, prog_10_method_12_code, 7, none)
def l_Model_measure : List (Nat × Instr × Nat) := [(0, .iconst 0, 1), (1, .istore_n 1, 1), (2, .iload_n 1, 1), (3, .bipush 64, 2), (5, .if_icmp .ge 16, 3), (8, .aload_n 0, 1), (9, .getfield 16, 3), (12, .iload_n 1, 1), (13, .iconst 0, 1), (14, .iastore, 1), (15, .iinc 1 1, 3), (18, .goto (-16), 3), (21, .iconst 1, 1), (22, .istore_n 1, 1), (23, .iload_n 1, 1), (24, .aload_n 0, 1), (25, .getfield 86, 3), (28, .if_icmp .gt 193, 3), (31, .iconst 0, 1), (32, .istore_n 2, 1), (33, .iload_n 2, 1), (34, .aload_n 0, 1), (35, .getfield 86, 3), (38, .if_icmp .ge 177, 3), (41, .iconst 0, 1), (42, .istore_n 3, 1), (43, .iload_n 3, 1), (44, .aload_n 0, 1), (45, .getfield 86, 3), (48, .if_icmp .ge 161, 3), (51, .iconst 0, 1), (52, .istore 4, 2), (54, .iconst 0, 1), (55, .istore 5, 2), (57, .iload 5, 2), (59, .aload_n 0, 1), (60, .getfield 89, 3), (63, .if_icmp .ge 109, 3), (66, .aload_n 0, 1), (67, .getfield 16, 3), (70, .bipush 8, 2), (72, .iload_n 2, 1), (73, .imul, 1), (74, .iload_n 3, 1), (75, .iadd, 1), (76, .iaload, 1), (77, .ifCond .ne 95, 3), (80, .aload_n 0, 1), (81, .getfield 16, 3), (84, .bipush 8, 2), (86, .aload_n 0, 1), (87, .getfield 7, 3), (90, .iconst 3, 1), (91, .iload_n 2, 1), (92, .imul, 1), (93, .iload 5, 2), (95, .iadd, 1), (96, .iaload, 1), (97, .imul, 1), (98, .aload_n 0, 1), (99, .getfield 7, 3), (102, .iconst 3, 1), (103, .iload_n 3, 1), (104, .imul, 1), (105, .iload 5, 2), (107, .iadd, 1), (108, .iaload, 1), (109, .iadd, 1), (110, .iaload, 1), (111, .istore 6, 2), (113, .iload 4, 2), (115, .ifCond .ne 44, 3), (118, .iload_n 1, 1), (119, .iconst 1, 1), (120, .if_icmp .ne 31, 3), (123, .aload_n 0, 1), (124, .getfield 13, 3), (127, .iconst 3, 1), (128, .iload_n 2, 1), (129, .imul, 1), (130, .iload 5, 2), (132, .iadd, 1), (133, .iaload, 1), (134, .aload_n 0, 1), (135, .getfield 13, 3), (138, .iconst 3, 1), (139, .iload_n 3, 1), (140, .imul, 1), (141, .iload 5, 2), (143, .iadd, 1), (144, .iaload, 1), (145, .if_icmp .eq 18, 3), (148, .goto 11, 3), (151, .iload 6, 2), (153, .iload_n 1, 1), (154, .iconst 1, 1), (155, .isub, 1), (156, .if_icmp .ne 7, 3), (159, .iconst 1, 1), (160, .goto 4, 3), (163, .iconst 0, 1), (164, .istore 4, 2), (166, .iinc 5 1, 3), (169, .goto (-112), 3), (172, .aload_n 0, 1), (173, .getfield 16, 3), (176, .bipush 8, 2), (178, .iload_n 2, 1), (179, .imul, 1), (180, .iload_n 3, 1), (181, .iadd, 1), (182, .iload 4, 2), (184, .ifCond .eq 7, 3), (187, .iload_n 1, 1), (188, .goto 14, 3), (191, .aload_n 0, 1), (192, .getfield 16, 3), (195, .bipush 8, 2), (197, .iload_n 2, 1), (198, .imul, 1), (199, .iload_n 3, 1), (200, .iadd, 1), (201, .iaload, 1), (202, .iastore, 1), (203, .iinc 3 1, 3), (206, .goto (-163), 3), (209, .iinc 2 1, 3), (212, .goto (-179), 3), (215, .iinc 1 1, 3), (218, .goto (-195), 3), (221, .return_, 1)]
set_option maxRecDepth 100000 in
theorem d_Model_measure : l_Model_measure.all (fun q => decide (decode prog_10_method_12_code q.1 = .ok (q.2.1, q.2.2))) = true := by decide +kernel
def m_Model_leastWord : aj_M := (⟨"TestBenchModel", "leastWord", "(II)J"⟩, prog_10_method_13_code, 10, (some .long))
def l_Model_leastWord : List (Nat × Instr × Nat) := [(0, .lconst 1, 1), (1, .lstore_n 3, 1), (2, .iload_n 1, 1), (3, .istore 5, 2), (5, .iload_n 2, 1), (6, .istore 6, 2), (8, .aload_n 0, 1), (9, .getfield 16, 3), (12, .bipush 8, 2), (14, .iload_n 1, 1), (15, .imul, 1), (16, .iload_n 2, 1), (17, .iadd, 1), (18, .iaload, 1), (19, .istore 7, 2), (21, .iload 7, 2), (23, .ifCond .le 73, 3), (26, .iconst 0, 1), (27, .istore 8, 2), (29, .aload_n 0, 1), (30, .iload 5, 2), (32, .iload 6, 2), (34, .iload 8, 2), (36, .iload 7, 2), (38, .invokevirtual 122, 3), (41, .ifCond .ne 9, 3), (44, .iinc 8 1, 3), (47, .goto (-18), 3), (50, .lload_n 3, 1), (51, .iconst 2, 1), (52, .lshl, 1), (53, .iload 8, 2), (55, .i2l, 1), (56, .lor, 1), (57, .lstore_n 3, 1), (58, .aload_n 0, 1), (59, .getfield 7, 3), (62, .iconst 3, 1), (63, .iload 5, 2), (65, .imul, 1), (66, .iload 8, 2), (68, .iadd, 1), (69, .iaload, 1), (70, .istore 9, 2), (72, .aload_n 0, 1), (73, .getfield 7, 3), (76, .iconst 3, 1), (77, .iload 6, 2), (79, .imul, 1), (80, .iload 8, 2), (82, .iadd, 1), (83, .iaload, 1), (84, .istore 6, 2), (86, .iload 9, 2), (88, .istore 5, 2), (90, .iinc 7 (-1), 3), (93, .goto (-72), 3), (96, .lload_n 3, 1), (97, .lreturn, 1)]
set_option maxRecDepth 100000 in
theorem d_Model_leastWord : l_Model_leastWord.all (fun q => decide (decode prog_10_method_13_code q.1 = .ok (q.2.1, q.2.2))) = true := by decide +kernel
def m_Model_fits : aj_M := (⟨"TestBenchModel", "fits", "(IIII)Z"⟩, prog_10_method_14_code, 5, (some .boolean))
def l_Model_fits : List (Nat × Instr × Nat) := [(0, .iload 4, 2), (2, .iconst 1, 1), (3, .if_icmp .ne 34, 3), (6, .aload_n 0, 1), (7, .getfield 13, 3), (10, .iconst 3, 1), (11, .iload_n 1, 1), (12, .imul, 1), (13, .iload_n 3, 1), (14, .iadd, 1), (15, .iaload, 1), (16, .aload_n 0, 1), (17, .getfield 13, 3), (20, .iconst 3, 1), (21, .iload_n 2, 1), (22, .imul, 1), (23, .iload_n 3, 1), (24, .iadd, 1), (25, .iaload, 1), (26, .if_icmp .eq 7, 3), (29, .iconst 1, 1), (30, .goto 48, 3), (33, .iconst 0, 1), (34, .goto 44, 3), (37, .aload_n 0, 1), (38, .getfield 16, 3), (41, .bipush 8, 2), (43, .aload_n 0, 1), (44, .getfield 7, 3), (47, .iconst 3, 1), (48, .iload_n 1, 1), (49, .imul, 1), (50, .iload_n 3, 1), (51, .iadd, 1), (52, .iaload, 1), (53, .imul, 1), (54, .aload_n 0, 1), (55, .getfield 7, 3), (58, .iconst 3, 1), (59, .iload_n 2, 1), (60, .imul, 1), (61, .iload_n 3, 1), (62, .iadd, 1), (63, .iaload, 1), (64, .iadd, 1), (65, .iaload, 1), (66, .iload 4, 2), (68, .iconst 1, 1), (69, .isub, 1), (70, .if_icmp .ne 7, 3), (73, .iconst 1, 1), (74, .goto 4, 3), (77, .iconst 0, 1), (78, .ireturn, 1)]
set_option maxRecDepth 100000 in
theorem d_Model_fits : l_Model_fits.all (fun q => decide (decode prog_10_method_14_code q.1 = .ok (q.2.1, q.2.2))) = true := by decide +kernel
def m_Model_number : aj_M := (⟨"TestBenchModel", "number", "()V"⟩, prog_10_method_15_code, 4, none)
def l_Model_number : List (Nat × Instr × Nat) := [(0, .iconst 0, 1), (1, .istore_n 1, 1), (2, .iload_n 1, 1), (3, .bipush 8, 2), (5, .if_icmp .ge 16, 3), (8, .aload_n 0, 1), (9, .getfield 19, 3), (12, .iload_n 1, 1), (13, .iconst (-1), 1), (14, .iastore, 1), (15, .iinc 1 1, 3), (18, .goto (-16), 3), (21, .aload_n 0, 1), (22, .iconst 0, 1), (23, .putfield 126, 3), (26, .aload_n 0, 1), (27, .aload_n 0, 1), (28, .getfield 109, 3), (31, .lconst 1, 1), (32, .invokevirtual 129, 3), (35, .iconst 0, 1), (36, .istore_n 1, 1), (37, .iload_n 1, 1), (38, .aload_n 0, 1), (39, .getfield 126, 3), (42, .if_icmp .ge 66, 3), (45, .iconst 0, 1), (46, .istore_n 2, 1), (47, .iload_n 2, 1), (48, .aload_n 0, 1), (49, .getfield 89, 3), (52, .if_icmp .ge 50, 3), (55, .aload_n 0, 1), (56, .getfield 7, 3), (59, .iconst 3, 1), (60, .aload_n 0, 1), (61, .getfield 22, 3), (64, .iload_n 1, 1), (65, .iaload, 1), (66, .imul, 1), (67, .iload_n 2, 1), (68, .iadd, 1), (69, .iaload, 1), (70, .istore_n 3, 1), (71, .aload_n 0, 1), (72, .getfield 19, 3), (75, .iload_n 3, 1), (76, .iaload, 1), (77, .ifCond .ge 19, 3), (80, .aload_n 0, 1), (81, .iload_n 3, 1), (82, .aload_n 0, 1), (83, .getfield 25, 3), (86, .iload_n 1, 1), (87, .laload, 1), (88, .iconst 2, 1), (89, .lshl, 1), (90, .iload_n 2, 1), (91, .i2l, 1), (92, .lor, 1), (93, .invokevirtual 129, 3), (96, .iinc 2 1, 3), (99, .goto (-52), 3), (102, .iinc 1 1, 3), (105, .goto (-68), 3), (108, .return_, 1)]
set_option maxRecDepth 100000 in
theorem d_Model_number : l_Model_number.all (fun q => decide (decode prog_10_method_15_code q.1 = .ok (q.2.1, q.2.2))) = true := by decide +kernel
def m_Model_take : aj_M := (⟨"TestBenchModel", "take", "(IJ)V"⟩, prog_10_method_16_code, 5, none)
def l_Model_take : List (Nat × Instr × Nat) := [(0, .aload_n 0, 1), (1, .getfield 22, 3), (4, .aload_n 0, 1), (5, .getfield 126, 3), (8, .iload_n 1, 1), (9, .iastore, 1), (10, .aload_n 0, 1), (11, .getfield 25, 3), (14, .aload_n 0, 1), (15, .getfield 126, 3), (18, .lload_n 2, 1), (19, .lastore, 1), (20, .iconst 0, 1), (21, .istore 4, 2), (23, .iload 4, 2), (25, .aload_n 0, 1), (26, .getfield 86, 3), (29, .if_icmp .ge 45, 3), (32, .aload_n 0, 1), (33, .getfield 19, 3), (36, .iload 4, 2), (38, .aload_n 0, 1), (39, .getfield 16, 3), (42, .bipush 8, 2), (44, .iload_n 1, 1), (45, .imul, 1), (46, .iload 4, 2), (48, .iadd, 1), (49, .iaload, 1), (50, .ifCond .ne 10, 3), (53, .aload_n 0, 1), (54, .getfield 126, 3), (57, .goto 10, 3), (60, .aload_n 0, 1), (61, .getfield 19, 3), (64, .iload 4, 2), (66, .iaload, 1), (67, .iastore, 1), (68, .iinc 4 1, 3), (71, .goto (-48), 3), (74, .aload_n 0, 1), (75, .dup, 1), (76, .getfield 126, 3), (79, .iconst 1, 1), (80, .iadd, 1), (81, .putfield 126, 3), (84, .return_, 1)]
set_option maxRecDepth 100000 in
theorem d_Model_take : l_Model_take.all (fun q => decide (decode prog_10_method_16_code q.1 = .ok (q.2.1, q.2.2))) = true := by decide +kernel
def m_Model_choose : aj_M := (⟨"TestBenchModel", "choose", "()V"⟩, prog_10_method_17_code, 5, none)
def l_Model_choose : List (Nat × Instr × Nat) := [(0, .aload_n 0, 1), (1, .iconst 0, 1), (2, .putfield 133, 3), (5, .iconst 0, 1), (6, .istore_n 1, 1), (7, .iload_n 1, 1), (8, .aload_n 0, 1), (9, .getfield 126, 3), (12, .if_icmp .ge 122, 3), (15, .iload_n 1, 1), (16, .iconst 1, 1), (17, .iadd, 1), (18, .istore_n 2, 1), (19, .iload_n 2, 1), (20, .aload_n 0, 1), (21, .getfield 126, 3), (24, .if_icmp .ge 104, 3), (27, .iconst 0, 1), (28, .istore_n 3, 1), (29, .iconst 0, 1), (30, .istore 4, 2), (32, .iload 4, 2), (34, .aload_n 0, 1), (35, .getfield 133, 3), (38, .if_icmp .ge 45, 3), (41, .iload_n 3, 1), (42, .ifCond .ne 29, 3), (45, .aload_n 0, 1), (46, .aload_n 0, 1), (47, .getfield 29, 3), (50, .iload 4, 2), (52, .laload, 1), (53, .aload_n 0, 1), (54, .getfield 22, 3), (57, .iload_n 1, 1), (58, .iaload, 1), (59, .aload_n 0, 1), (60, .getfield 22, 3), (63, .iload_n 2, 1), (64, .iaload, 1), (65, .invokevirtual 136, 3), (68, .ifCond .eq 7, 3), (71, .iconst 1, 1), (72, .goto 4, 3), (75, .iconst 0, 1), (76, .istore_n 3, 1), (77, .iinc 4 1, 3), (80, .goto (-48), 3), (83, .iload_n 3, 1), (84, .ifCond .ne 38, 3), (87, .aload_n 0, 1), (88, .getfield 29, 3), (91, .aload_n 0, 1), (92, .getfield 133, 3), (95, .aload_n 0, 1), (96, .aload_n 0, 1), (97, .getfield 22, 3), (100, .iload_n 1, 1), (101, .iaload, 1), (102, .aload_n 0, 1), (103, .getfield 22, 3), (106, .iload_n 2, 1), (107, .iaload, 1), (108, .invokevirtual 140, 3), (111, .lastore, 1), (112, .aload_n 0, 1), (113, .dup, 1), (114, .getfield 133, 3), (117, .iconst 1, 1), (118, .iadd, 1), (119, .putfield 133, 3), (122, .iinc 2 1, 3), (125, .goto (-106), 3), (128, .iinc 1 1, 3), (131, .goto (-124), 3), (134, .iconst 0, 1), (135, .istore_n 1, 1), (136, .iload_n 1, 1), (137, .aload_n 0, 1), (138, .getfield 126, 3), (141, .if_icmp .ge 38, 3), (144, .aload_n 0, 1), (145, .getfield 32, 3), (148, .iload_n 1, 1), (149, .iconst 0, 1), (150, .iastore, 1), (151, .iconst 0, 1), (152, .istore_n 2, 1), (153, .iload_n 2, 1), (154, .aload_n 0, 1), (155, .getfield 126, 3), (158, .if_icmp .ge 15, 3), (161, .aload_n 0, 1), (162, .iload_n 1, 1), (163, .iload_n 2, 1), (164, .invokevirtual 144, 3), (167, .iinc 2 1, 3), (170, .goto (-17), 3), (173, .iinc 1 1, 3), (176, .goto (-40), 3), (179, .return_, 1)]
set_option maxRecDepth 100000 in
theorem d_Model_choose : l_Model_choose.all (fun q => decide (decode prog_10_method_17_code q.1 = .ok (q.2.1, q.2.2))) = true := by decide +kernel
def m_Model_chooseOwn : aj_M := (⟨"TestBenchModel", "chooseOwn", "(II)V"⟩, prog_10_method_18_code, 5, none)
def l_Model_chooseOwn : List (Nat × Instr × Nat) := [(0, .iload_n 1, 1), (1, .iload_n 2, 1), (2, .if_icmp .ne 7, 3), (5, .iconst 1, 1), (6, .goto 4, 3), (9, .iconst 0, 1), (10, .istore_n 3, 1), (11, .iconst 0, 1), (12, .istore 4, 2), (14, .iload 4, 2), (16, .aload_n 0, 1), (17, .getfield 32, 3), (20, .iload_n 1, 1), (21, .iaload, 1), (22, .if_icmp .ge 55, 3), (25, .iload_n 3, 1), (26, .ifCond .ne 39, 3), (29, .aload_n 0, 1), (30, .aload_n 0, 1), (31, .getfield 29, 3), (34, .aload_n 0, 1), (35, .getfield 35, 3), (38, .bipush 8, 2), (40, .iload_n 1, 1), (41, .imul, 1), (42, .iload 4, 2), (44, .iadd, 1), (45, .iaload, 1), (46, .laload, 1), (47, .aload_n 0, 1), (48, .getfield 22, 3), (51, .iload_n 1, 1), (52, .iaload, 1), (53, .aload_n 0, 1), (54, .getfield 22, 3), (57, .iload_n 2, 1), (58, .iaload, 1), (59, .invokevirtual 136, 3), (62, .ifCond .eq 7, 3), (65, .iconst 1, 1), (66, .goto 4, 3), (69, .iconst 0, 1), (70, .istore_n 3, 1), (71, .iinc 4 1, 3), (74, .goto (-60), 3), (77, .iconst 0, 1), (78, .istore 4, 2), (80, .iload 4, 2), (82, .aload_n 0, 1), (83, .getfield 133, 3), (86, .if_icmp .ge 69, 3), (89, .iload_n 3, 1), (90, .ifCond .ne 65, 3), (93, .aload_n 0, 1), (94, .aload_n 0, 1), (95, .getfield 29, 3), (98, .iload 4, 2), (100, .laload, 1), (101, .aload_n 0, 1), (102, .getfield 22, 3), (105, .iload_n 1, 1), (106, .iaload, 1), (107, .aload_n 0, 1), (108, .getfield 22, 3), (111, .iload_n 2, 1), (112, .iaload, 1), (113, .invokevirtual 136, 3), (116, .ifCond .eq 33, 3), (119, .aload_n 0, 1), (120, .getfield 35, 3), (123, .bipush 8, 2), (125, .iload_n 1, 1), (126, .imul, 1), (127, .aload_n 0, 1), (128, .getfield 32, 3), (131, .iload_n 1, 1), (132, .iaload, 1), (133, .iadd, 1), (134, .iload 4, 2), (136, .iastore, 1), (137, .aload_n 0, 1), (138, .getfield 32, 3), (141, .iload_n 1, 1), (142, .dup2, 1), (143, .iaload, 1), (144, .iconst 1, 1), (145, .iadd, 1), (146, .iastore, 1), (147, .iconst 1, 1), (148, .istore_n 3, 1), (149, .iinc 4 1, 3), (152, .goto (-72), 3), (155, .return_, 1)]
set_option maxRecDepth 100000 in
theorem d_Model_chooseOwn : l_Model_chooseOwn.all (fun q => decide (decode prog_10_method_18_code q.1 = .ok (q.2.1, q.2.2))) = true := by decide +kernel
def m_Model_seal : aj_M := (⟨"TestBenchModel", "seal", "()I"⟩, prog_10_method_19_code, 3, (some .int))
def l_Model_seal : List (Nat × Instr × Nat) := [(0, .aload_n 0, 1), (1, .aload_n 0, 1), (2, .getfield 105, 3), (5, .ifCond .eq 7, 3), (8, .iconst 1, 1), (9, .goto 4, 3), (12, .iconst 0, 1), (13, .putfield 92, 3), (16, .aload_n 0, 1), (17, .getfield 92, 3), (20, .ifCond .le 5, 3), (23, .iconst 0, 1), (24, .ireturn, 1), (25, .aload_n 0, 1), (26, .iconst 1, 1), (27, .putfield 105, 3), (30, .aload_n 0, 1), (31, .invokevirtual 148, 3), (34, .aload_n 0, 1), (35, .invokevirtual 151, 3), (38, .aload_n 0, 1), (39, .invokevirtual 154, 3), (42, .aload_n 0, 1), (43, .aload_n 0, 1), (44, .getfield 126, 3), (47, .putfield 157, 3), (50, .iconst 0, 1), (51, .istore_n 1, 1), (52, .iload_n 1, 1), (53, .aload_n 0, 1), (54, .getfield 126, 3), (57, .if_icmp .ge 80, 3), (60, .iconst 0, 1), (61, .istore_n 2, 1), (62, .iload_n 2, 1), (63, .aload_n 0, 1), (64, .getfield 89, 3), (67, .if_icmp .ge 64, 3), (70, .aload_n 0, 1), (71, .getfield 42, 3), (74, .iconst 3, 1), (75, .iload_n 1, 1), (76, .imul, 1), (77, .iload_n 2, 1), (78, .iadd, 1), (79, .aload_n 0, 1), (80, .getfield 19, 3), (83, .aload_n 0, 1), (84, .getfield 7, 3), (87, .iconst 3, 1), (88, .aload_n 0, 1), (89, .getfield 22, 3), (92, .iload_n 1, 1), (93, .iaload, 1), (94, .imul, 1), (95, .iload_n 2, 1), (96, .iadd, 1), (97, .iaload, 1), (98, .iaload, 1), (99, .iastore, 1), (100, .aload_n 0, 1), (101, .getfield 45, 3), (104, .iconst 3, 1), (105, .iload_n 1, 1), (106, .imul, 1), (107, .iload_n 2, 1), (108, .iadd, 1), (109, .aload_n 0, 1), (110, .getfield 13, 3), (113, .iconst 3, 1), (114, .aload_n 0, 1), (115, .getfield 22, 3), (118, .iload_n 1, 1), (119, .iaload, 1), (120, .imul, 1), (121, .iload_n 2, 1), (122, .iadd, 1), (123, .iaload, 1), (124, .iastore, 1), (125, .iinc 2 1, 3), (128, .goto (-66), 3), (131, .iinc 1 1, 3), (134, .goto (-82), 3), (137, .aload_n 0, 1), (138, .getfield 126, 3), (141, .ireturn, 1)]
set_option maxRecDepth 100000 in
theorem d_Model_seal : l_Model_seal.all (fun q => decide (decode prog_10_method_19_code q.1 = .ok (q.2.1, q.2.2))) = true := by decide +kernel
def m_Model_minimal : aj_M := (⟨"TestBenchModel", "minimal", "(I)I"⟩, prog_10_method_20_code, 2, (some .int))
def l_Model_minimal : List (Nat × Instr × Nat) := [(0, .aload_n 0, 1), (1, .iconst 0, 1), (2, .putfield 92, 3), (5, .aload_n 0, 1), (6, .getfield 105, 3), (9, .ifCond .eq 11, 3), (12, .aload_n 0, 1), (13, .iload_n 1, 1), (14, .invokevirtual 95, 3), (17, .ifCond .ne 7, 3), (20, .iconst (-1), 1), (21, .goto 21, 3), (24, .aload_n 0, 1), (25, .getfield 19, 3), (28, .aload_n 0, 1), (29, .iload_n 1, 1), (30, .invokevirtual 95, 3), (33, .ifCond .eq 7, 3), (36, .iload_n 1, 1), (37, .goto 4, 3), (40, .iconst 0, 1), (41, .iaload, 1), (42, .ireturn, 1)]
set_option maxRecDepth 100000 in
theorem d_Model_minimal : l_Model_minimal.all (fun q => decide (decode prog_10_method_20_code q.1 = .ok (q.2.1, q.2.2))) = true := by decide +kernel
def m_Model_apart : aj_M := (⟨"TestBenchModel", "apart", "(II)I"⟩, prog_10_method_21_code, 3, (some .int))
def l_Model_apart : List (Nat × Instr × Nat) := [(0, .aload_n 0, 1), (1, .aload_n 0, 1), (2, .iload_n 1, 1), (3, .invokevirtual 95, 3), (6, .ifCond .eq 11, 3), (9, .aload_n 0, 1), (10, .iload_n 2, 1), (11, .invokevirtual 95, 3), (14, .ifCond .ne 7, 3), (17, .iconst 1, 1), (18, .goto 15, 3), (21, .aload_n 0, 1), (22, .getfield 105, 3), (25, .ifCond .ne 7, 3), (28, .iconst 2, 1), (29, .goto 4, 3), (32, .iconst 0, 1), (33, .putfield 92, 3), (36, .aload_n 0, 1), (37, .getfield 92, 3), (40, .ifCond .le 5, 3), (43, .iconst 0, 1), (44, .ireturn, 1), (45, .aload_n 0, 1), (46, .aload_n 0, 1), (47, .iload_n 1, 1), (48, .iload_n 2, 1), (49, .invokevirtual 140, 3), (52, .putfield 38, 3), (55, .aload_n 0, 1), (56, .getfield 16, 3), (59, .bipush 8, 2), (61, .iload_n 1, 1), (62, .imul, 1), (63, .iload_n 2, 1), (64, .iadd, 1), (65, .iaload, 1), (66, .ireturn, 1)]
set_option maxRecDepth 100000 in
theorem d_Model_apart : l_Model_apart.all (fun q => decide (decode prog_10_method_21_code q.1 = .ok (q.2.1, q.2.2))) = true := by decide +kernel
def m_Model_word : aj_M := (⟨"TestBenchModel", "word", "(I)I"⟩, prog_10_method_22_code, 2, (some .int))
def l_Model_word : List (Nat × Instr × Nat) := [(0, .aload_n 0, 1), (1, .iconst 0, 1), (2, .putfield 92, 3), (5, .iload_n 1, 1), (6, .ifCond .lt 14, 3), (9, .iload_n 1, 1), (10, .aload_n 0, 1), (11, .getfield 38, 3), (14, .invokestatic 112, 3), (17, .if_icmp .lt 7, 3), (20, .iconst (-1), 1), (21, .goto 11, 3), (24, .aload_n 0, 1), (25, .getfield 38, 3), (28, .iload_n 1, 1), (29, .invokestatic 118, 3), (32, .ireturn, 1)]
set_option maxRecDepth 100000 in
theorem d_Model_word : l_Model_word.all (fun q => decide (decode prog_10_method_22_code q.1 = .ok (q.2.1, q.2.2))) = true := by decide +kernel
def m_Model_family : aj_M := (⟨"TestBenchModel", "family", "(II)I"⟩, prog_10_method_23_code, 3, (some .int))
def l_Model_family : List (Nat × Instr × Nat) := [(0, .aload_n 0, 1), (1, .iconst 0, 1), (2, .putfield 92, 3), (5, .aload_n 0, 1), (6, .getfield 105, 3), (9, .ifCond .eq 16, 3), (12, .iload_n 1, 1), (13, .iconst (-1), 1), (14, .if_icmp .lt 11, 3), (17, .iload_n 1, 1), (18, .aload_n 0, 1), (19, .getfield 133, 3), (22, .if_icmp .lt 5, 3), (25, .iconst (-1), 1), (26, .ireturn, 1), (27, .iload_n 1, 1), (28, .iconst (-1), 1), (29, .if_icmp .ne 8, 3), (32, .aload_n 0, 1), (33, .getfield 133, 3), (36, .ireturn, 1), (37, .iload_n 2, 1), (38, .iconst (-1), 1), (39, .if_icmp .ne 15, 3), (42, .aload_n 0, 1), (43, .getfield 29, 3), (46, .iload_n 1, 1), (47, .laload, 1), (48, .invokestatic 112, 3), (51, .goto 34, 3), (54, .iload_n 2, 1), (55, .ifCond .lt 16, 3), (58, .iload_n 2, 1), (59, .aload_n 0, 1), (60, .getfield 29, 3), (63, .iload_n 1, 1), (64, .laload, 1), (65, .invokestatic 112, 3), (68, .if_icmp .lt 7, 3), (71, .iconst (-1), 1), (72, .goto 13, 3), (75, .aload_n 0, 1), (76, .getfield 29, 3), (79, .iload_n 1, 1), (80, .laload, 1), (81, .iload_n 2, 1), (82, .invokestatic 118, 3), (85, .ireturn, 1)]
set_option maxRecDepth 100000 in
theorem d_Model_family : l_Model_family.all (fun q => decide (decode prog_10_method_23_code q.1 = .ok (q.2.1, q.2.2))) = true := by decide +kernel
def m_Model_own : aj_M := (⟨"TestBenchModel", "own", "(II)I"⟩, prog_10_method_24_code, 3, (some .int))
def l_Model_own : List (Nat × Instr × Nat) := [(0, .aload_n 0, 1), (1, .iconst 0, 1), (2, .putfield 92, 3), (5, .aload_n 0, 1), (6, .getfield 105, 3), (9, .ifCond .eq 15, 3), (12, .iload_n 1, 1), (13, .ifCond .lt 11, 3), (16, .iload_n 1, 1), (17, .aload_n 0, 1), (18, .getfield 126, 3), (21, .if_icmp .lt 5, 3), (24, .iconst (-1), 1), (25, .ireturn, 1), (26, .iload_n 2, 1), (27, .iconst (-1), 1), (28, .if_icmp .ne 12, 3), (31, .aload_n 0, 1), (32, .getfield 32, 3), (35, .iload_n 1, 1), (36, .iaload, 1), (37, .goto 32, 3), (40, .iload_n 2, 1), (41, .ifCond .lt 13, 3), (44, .iload_n 2, 1), (45, .aload_n 0, 1), (46, .getfield 32, 3), (49, .iload_n 1, 1), (50, .iaload, 1), (51, .if_icmp .lt 7, 3), (54, .iconst (-1), 1), (55, .goto 14, 3), (58, .aload_n 0, 1), (59, .getfield 35, 3), (62, .bipush 8, 2), (64, .iload_n 1, 1), (65, .imul, 1), (66, .iload_n 2, 1), (67, .iadd, 1), (68, .iaload, 1), (69, .ireturn, 1)]
set_option maxRecDepth 100000 in
theorem d_Model_own : l_Model_own.all (fun q => decide (decode prog_10_method_24_code q.1 = .ok (q.2.1, q.2.2))) = true := by decide +kernel
def m_Model_put : aj_M := (⟨"TestBenchModel", "put", "(JJJ)V"⟩, prog_10_method_25_code, 13, none)
def l_Model_put : List (Nat × Instr × Nat) := [(0, .iconst 0, 1), (1, .istore 7, 2), (3, .iconst 0, 1), (4, .istore 8, 2), (6, .iload 8, 2), (8, .iconst 3, 1), (9, .if_icmp .ge 115, 3), (12, .iload 8, 2), (14, .ifCond .ne 7, 3), (17, .lload_n 1, 1), (18, .goto 15, 3), (21, .iload 8, 2), (23, .iconst 1, 1), (24, .if_icmp .ne 7, 3), (27, .lload_n 3, 1), (28, .goto 5, 3), (31, .lload 5, 2), (33, .lstore 9, 2), (35, .iconst 0, 1), (36, .istore 11, 2), (38, .iload 11, 2), (40, .lload 9, 2), (42, .invokestatic 112, 3), (45, .if_icmp .ge 73, 3), (48, .aload_n 0, 1), (49, .getfield 160, 3), (52, .sipush 800, 3), (55, .if_icmp .gt 63, 3), (58, .iconst 3, 1), (59, .iload 7, 2), (61, .imul, 1), (62, .lload 9, 2), (64, .iload 11, 2), (66, .invokestatic 118, 3), (69, .iadd, 1), (70, .istore 12, 2), (72, .aload_n 0, 1), (73, .getfield 51, 3), (76, .iload 12, 2), (78, .iaload, 1), (79, .ifCond .ne 24, 3), (82, .aload_n 0, 1), (83, .getfield 51, 3), (86, .iload 12, 2), (88, .aload_n 0, 1), (89, .getfield 160, 3), (92, .iastore, 1), (93, .aload_n 0, 1), (94, .dup, 1), (95, .getfield 160, 3), (98, .iconst 1, 1), (99, .iadd, 1), (100, .putfield 160, 3), (103, .aload_n 0, 1), (104, .getfield 51, 3), (107, .iload 12, 2), (109, .iaload, 1), (110, .istore 7, 2), (112, .iinc 11 1, 3), (115, .goto (-77), 3), (118, .iinc 8 1, 3), (121, .goto (-115), 3), (124, .return_, 1)]
set_option maxRecDepth 100000 in
theorem d_Model_put : l_Model_put.all (fun q => decide (decode prog_10_method_25_code q.1 = .ok (q.2.1, q.2.2))) = true := by decide +kernel
def m_Model_putAll : aj_M := (⟨"TestBenchModel", "putAll", "(JIIZ)V"⟩, prog_10_method_26_code, 10, none)
def l_Model_putAll : List (Nat × Instr × Nat) := [(0, .lconst 1, 1), (1, .lstore 6, 2), (3, .lload 6, 2), (5, .invokestatic 112, 3), (8, .iload 4, 2), (10, .if_icmp .gt 107, 3), (13, .iconst 1, 1), (14, .istore 8, 2), (16, .iconst 0, 1), (17, .istore 9, 2), (19, .iload 9, 2), (21, .lload 6, 2), (23, .invokestatic 112, 3), (26, .if_icmp .ge 50, 3), (29, .iload 8, 2), (31, .ifCond .eq 36, 3), (34, .lload 6, 2), (36, .iload 9, 2), (38, .invokestatic 118, 3), (41, .aload_n 0, 1), (42, .getfield 89, 3), (45, .if_icmp .ge 22, 3), (48, .lload 6, 2), (50, .iconst 2, 1), (51, .lload 6, 2), (53, .invokestatic 112, 3), (56, .imul, 1), (57, .lshr, 1), (58, .lconst 1, 1), (59, .lcmp, 1), (60, .ifCond .ne 7, 3), (63, .iconst 1, 1), (64, .goto 4, 3), (67, .iconst 0, 1), (68, .istore 8, 2), (70, .iinc 9 1, 3), (73, .goto (-54), 3), (76, .iload 8, 2), (78, .ifCond .eq 30, 3), (81, .lload 6, 2), (83, .iconst 2, 1), (84, .lload 6, 2), (86, .invokestatic 112, 3), (89, .imul, 1), (90, .lshr, 1), (91, .lconst 1, 1), (92, .lcmp, 1), (93, .ifCond .ne 15, 3), (96, .aload_n 0, 1), (97, .lload_n 1, 1), (98, .lload 6, 2), (100, .iload_n 3, 1), (101, .iload 4, 2), (103, .iload 5, 2), (105, .invokevirtual 163, 3), (108, .lload 6, 2), (110, .lconst 1, 1), (111, .ladd, 1), (112, .lstore 6, 2), (114, .goto (-111), 3), (117, .return_, 1)]
set_option maxRecDepth 100000 in
theorem d_Model_putAll : l_Model_putAll.all (fun q => decide (decode prog_10_method_26_code q.1 = .ok (q.2.1, q.2.2))) = true := by decide +kernel
def m_Model_putEnds : aj_M := (⟨"TestBenchModel", "putEnds", "(JJIIZ)V"⟩, prog_10_method_27_code, 10, none)
def l_Model_putEnds : List (Nat × Instr × Nat) := [(0, .iload 5, 2), (2, .ifCond .eq 8, 3), (5, .iload 7, 2), (7, .ifCond .eq 44, 3), (10, .aload_n 0, 1), (11, .lload_n 1, 1), (12, .lload_n 3, 1), (13, .lconst 1, 1), (14, .invokevirtual 167, 3), (17, .iconst 0, 1), (18, .istore 8, 2), (20, .iload 8, 2), (22, .aload_n 0, 1), (23, .getfield 133, 3), (26, .if_icmp .ge 22, 3), (29, .aload_n 0, 1), (30, .lload_n 1, 1), (31, .lload_n 3, 1), (32, .aload_n 0, 1), (33, .getfield 29, 3), (36, .iload 8, 2), (38, .laload, 1), (39, .invokevirtual 167, 3), (42, .iinc 8 1, 3), (45, .goto (-25), 3), (48, .goto 85, 3), (51, .lload_n 3, 1), (52, .invokestatic 112, 3), (55, .iload 6, 2), (57, .if_icmp .ne 76, 3), (60, .aload_n 0, 1), (61, .lload_n 1, 1), (62, .lload_n 3, 1), (63, .lconst 1, 1), (64, .invokevirtual 167, 3), (67, .aload_n 0, 1), (68, .getfield 19, 3), (71, .aload_n 0, 1), (72, .aload_n 0, 1), (73, .aload_n 0, 1), (74, .getfield 109, 3), (77, .lload_n 1, 1), (78, .invokevirtual 171, 3), (81, .lload_n 3, 1), (82, .invokevirtual 171, 3), (85, .iaload, 1), (86, .istore 8, 2), (88, .iconst 0, 1), (89, .istore 9, 2), (91, .iload 9, 2), (93, .aload_n 0, 1), (94, .getfield 32, 3), (97, .iload 8, 2), (99, .iaload, 1), (100, .if_icmp .ge 33, 3), (103, .aload_n 0, 1), (104, .lload_n 1, 1), (105, .lload_n 3, 1), (106, .aload_n 0, 1), (107, .getfield 29, 3), (110, .aload_n 0, 1), (111, .getfield 35, 3), (114, .bipush 8, 2), (116, .iload 8, 2), (118, .imul, 1), (119, .iload 9, 2), (121, .iadd, 1), (122, .iaload, 1), (123, .laload, 1), (124, .invokevirtual 167, 3), (127, .iinc 9 1, 3), (130, .goto (-39), 3), (133, .return_, 1)]
set_option maxRecDepth 100000 in
theorem d_Model_putEnds : l_Model_putEnds.all (fun q => decide (decode prog_10_method_27_code q.1 = .ok (q.2.1, q.2.2))) = true := by decide +kernel
def m_Model_isAccess : aj_M := (⟨"TestBenchModel", "isAccess", "(J)Z"⟩, prog_10_method_28_code, 5, (some .boolean))
def l_Model_isAccess : List (Nat × Instr × Nat) := [(0, .iconst 0, 1), (1, .istore_n 3, 1), (2, .iconst 0, 1), (3, .istore 4, 2), (5, .iload 4, 2), (7, .aload_n 0, 1), (8, .getfield 126, 3), (11, .if_icmp .ge 31, 3), (14, .iload_n 3, 1), (15, .ifCond .ne 15, 3), (18, .aload_n 0, 1), (19, .getfield 25, 3), (22, .iload 4, 2), (24, .laload, 1), (25, .lload_n 1, 1), (26, .lcmp, 1), (27, .ifCond .ne 7, 3), (30, .iconst 1, 1), (31, .goto 4, 3), (34, .iconst 0, 1), (35, .istore_n 3, 1), (36, .iinc 4 1, 3), (39, .goto (-34), 3), (42, .iload_n 3, 1), (43, .ireturn, 1)]
set_option maxRecDepth 100000 in
theorem d_Model_isAccess : l_Model_isAccess.all (fun q => decide (decode prog_10_method_28_code q.1 = .ok (q.2.1, q.2.2))) = true := by decide +kernel
def m_Model_suite : aj_M := (⟨"TestBenchModel", "suite", "(II)I"⟩, prog_10_method_29_code, 7, (some .int))
def l_Model_suite : List (Nat × Instr × Nat) := [(0, .aload_n 0, 1), (1, .iload_n 1, 1), (2, .ifCond .lt 17, 3), (5, .iload_n 1, 1), (6, .iconst 1, 1), (7, .if_icmp .gt 12, 3), (10, .iload_n 2, 1), (11, .ifCond .lt 8, 3), (14, .iload_n 2, 1), (15, .iconst 2, 1), (16, .if_icmp .le 7, 3), (19, .iconst 1, 1), (20, .goto 15, 3), (23, .aload_n 0, 1), (24, .getfield 105, 3), (27, .ifCond .ne 7, 3), (30, .iconst 2, 1), (31, .goto 4, 3), (34, .iconst 0, 1), (35, .putfield 92, 3), (38, .aload_n 0, 1), (39, .getfield 92, 3), (42, .ifCond .le 5, 3), (45, .iconst 0, 1), (46, .ireturn, 1), (47, .iconst 0, 1), (48, .istore_n 3, 1), (49, .iload_n 3, 1), (50, .sipush 2403, 3), (53, .if_icmp .ge 16, 3), (56, .aload_n 0, 1), (57, .getfield 51, 3), (60, .iload_n 3, 1), (61, .iconst 0, 1), (62, .iastore, 1), (63, .iinc 3 1, 3), (66, .goto (-17), 3), (69, .aload_n 0, 1), (70, .iconst 1, 1), (71, .putfield 160, 3), (74, .iconst 0, 1), (75, .istore_n 3, 1), (76, .iload_n 3, 1), (77, .aload_n 0, 1), (78, .getfield 126, 3), (81, .if_icmp .ge 72, 3), (84, .aload_n 0, 1), (85, .aload_n 0, 1), (86, .getfield 25, 3), (89, .iload_n 3, 1), (90, .laload, 1), (91, .iload_n 1, 1), (92, .iload_n 2, 1), (93, .iconst 1, 1), (94, .invokevirtual 175, 3), (97, .iconst 0, 1), (98, .istore 4, 2), (100, .iload 4, 2), (102, .aload_n 0, 1), (103, .getfield 89, 3), (106, .if_icmp .ge 41, 3), (109, .aload_n 0, 1), (110, .getfield 25, 3), (113, .iload_n 3, 1), (114, .laload, 1), (115, .iconst 2, 1), (116, .lshl, 1), (117, .iload 4, 2), (119, .i2l, 1), (120, .lor, 1), (121, .lstore 5, 2), (123, .aload_n 0, 1), (124, .lload 5, 2), (126, .invokevirtual 179, 3), (129, .ifCond .ne 12, 3), (132, .aload_n 0, 1), (133, .lload 5, 2), (135, .iload_n 1, 1), (136, .iload_n 2, 1), (137, .iconst 0, 1), (138, .invokevirtual 175, 3), (141, .iinc 4 1, 3), (144, .goto (-44), 3), (147, .iinc 3 1, 3), (150, .goto (-74), 3), (153, .aload_n 0, 1), (154, .aload_n 0, 1), (155, .getfield 160, 3), (158, .sipush 800, 3), (161, .if_icmp .le 7, 3), (164, .iconst 3, 1), (165, .goto 4, 3), (168, .iconst 0, 1), (169, .putfield 92, 3), (172, .aload_n 0, 1), (173, .getfield 92, 3), (176, .ifCond .le 5, 3), (179, .iconst 0, 1), (180, .ireturn, 1), (181, .aload_n 0, 1), (182, .aload_n 0, 1), (183, .getfield 160, 3), (186, .putfield 183, 3), (189, .iconst 0, 1), (190, .istore_n 3, 1), (191, .iload_n 3, 1), (192, .sipush 2403, 3), (195, .if_icmp .ge 21, 3), (198, .aload_n 0, 1), (199, .getfield 48, 3), (202, .iload_n 3, 1), (203, .aload_n 0, 1), (204, .getfield 51, 3), (207, .iload_n 3, 1), (208, .iaload, 1), (209, .iastore, 1), (210, .iinc 3 1, 3), (213, .goto (-22), 3), (216, .aload_n 0, 1), (217, .invokevirtual 186, 3), (220, .aload_n 0, 1), (221, .iconst 1, 1), (222, .putfield 189, 3), (225, .aload_n 0, 1), (226, .iconst (-1), 1), (227, .putfield 67, 3), (230, .aload_n 0, 1), (231, .getfield 192, 3), (234, .ireturn, 1)]
set_option maxRecDepth 100000 in
theorem d_Model_suite : l_Model_suite.all (fun q => decide (decode prog_10_method_29_code q.1 = .ok (q.2.1, q.2.2))) = true := by decide +kernel
def m_Model_list : aj_M := (⟨"TestBenchModel", "list", "()V"⟩, prog_10_method_30_code, 6, none)
def l_Model_list : List (Nat × Instr × Nat) := [(0, .aload_n 0, 1), (1, .iconst 0, 1), (2, .putfield 192, 3), (5, .iconst 0, 1), (6, .istore_n 1, 1), (7, .iconst 0, 1), (8, .istore_n 2, 1), (9, .iconst 1, 1), (10, .istore_n 3, 1), (11, .iload_n 3, 1), (12, .ifCond .eq 153, 3), (15, .iload_n 2, 1), (16, .istore 4, 2), (18, .iload 4, 2), (20, .aload_n 0, 1), (21, .getfield 89, 3), (24, .if_icmp .ge 36, 3), (27, .aload_n 0, 1), (28, .getfield 48, 3), (31, .iconst 3, 1), (32, .iload_n 1, 1), (33, .imul, 1), (34, .iload 4, 2), (36, .aload_n 0, 1), (37, .getfield 89, 3), (40, .if_icmp .ge 8, 3), (43, .iload 4, 2), (45, .goto 4, 3), (48, .iconst 0, 1), (49, .iadd, 1), (50, .iaload, 1), (51, .ifCond .ne 9, 3), (54, .iinc 4 1, 3), (57, .goto (-39), 3), (60, .iload 4, 2), (62, .aload_n 0, 1), (63, .getfield 89, 3), (66, .if_icmp .ge 71, 3), (69, .aload_n 0, 1), (70, .getfield 48, 3), (73, .iconst 3, 1), (74, .iload_n 1, 1), (75, .imul, 1), (76, .iload 4, 2), (78, .iadd, 1), (79, .iaload, 1), (80, .istore 5, 2), (82, .aload_n 0, 1), (83, .getfield 57, 3), (86, .iload 5, 2), (88, .iload_n 1, 1), (89, .iastore, 1), (90, .aload_n 0, 1), (91, .getfield 60, 3), (94, .iload 5, 2), (96, .iload 4, 2), (98, .iastore, 1), (99, .iload 5, 2), (101, .istore_n 1, 1), (102, .iconst 0, 1), (103, .istore_n 2, 1), (104, .aload_n 0, 1), (105, .iload 5, 2), (107, .invokevirtual 195, 3), (110, .ifCond .eq 24, 3), (113, .aload_n 0, 1), (114, .getfield 54, 3), (117, .aload_n 0, 1), (118, .getfield 192, 3), (121, .iload 5, 2), (123, .iastore, 1), (124, .aload_n 0, 1), (125, .dup, 1), (126, .getfield 192, 3), (129, .iconst 1, 1), (130, .iadd, 1), (131, .putfield 192, 3), (134, .goto 28, 3), (137, .iload_n 1, 1), (138, .ifCond .ne 8, 3), (141, .iconst 0, 1), (142, .istore_n 3, 1), (143, .goto 19, 3), (146, .aload_n 0, 1), (147, .getfield 60, 3), (150, .iload_n 1, 1), (151, .iaload, 1), (152, .iconst 1, 1), (153, .iadd, 1), (154, .istore_n 2, 1), (155, .aload_n 0, 1), (156, .getfield 57, 3), (159, .iload_n 1, 1), (160, .iaload, 1), (161, .istore_n 1, 1), (162, .goto (-151), 3), (165, .return_, 1)]
set_option maxRecDepth 100000 in
theorem d_Model_list : l_Model_list.all (fun q => decide (decode prog_10_method_30_code q.1 = .ok (q.2.1, q.2.2))) = true := by decide +kernel
def m_Model_isEnd : aj_M := (⟨"TestBenchModel", "isEnd", "(I)Z"⟩, prog_10_method_31_code, 2, (some .boolean))
def l_Model_isEnd : List (Nat × Instr × Nat) := [(0, .aload_n 0, 1), (1, .getfield 48, 3), (4, .iconst 3, 1), (5, .iload_n 1, 1), (6, .imul, 1), (7, .iaload, 1), (8, .ifCond .ne 33, 3), (11, .aload_n 0, 1), (12, .getfield 48, 3), (15, .iconst 3, 1), (16, .iload_n 1, 1), (17, .imul, 1), (18, .iconst 1, 1), (19, .iadd, 1), (20, .iaload, 1), (21, .ifCond .ne 20, 3), (24, .aload_n 0, 1), (25, .getfield 48, 3), (28, .iconst 3, 1), (29, .iload_n 1, 1), (30, .imul, 1), (31, .iconst 2, 1), (32, .iadd, 1), (33, .iaload, 1), (34, .ifCond .ne 7, 3), (37, .iconst 1, 1), (38, .goto 4, 3), (41, .iconst 0, 1), (42, .ireturn, 1)]
set_option maxRecDepth 100000 in
theorem d_Model_isEnd : l_Model_isEnd.all (fun q => decide (decode prog_10_method_31_code q.1 = .ok (q.2.1, q.2.2))) = true := by decide +kernel
def m_Model_unfold : aj_M := (⟨"TestBenchModel", "unfold", "(I)I"⟩, prog_10_method_32_code, 5, (some .int))
def l_Model_unfold : List (Nat × Instr × Nat) := [(0, .iconst 0, 1), (1, .istore_n 2, 1), (2, .aload_n 0, 1), (3, .getfield 54, 3), (6, .iload_n 1, 1), (7, .iaload, 1), (8, .istore_n 3, 1), (9, .iload_n 3, 1), (10, .ifCond .le 16, 3), (13, .iinc 2 1, 3), (16, .aload_n 0, 1), (17, .getfield 57, 3), (20, .iload_n 3, 1), (21, .iaload, 1), (22, .istore_n 3, 1), (23, .goto (-14), 3), (26, .iload_n 2, 1), (27, .istore_n 3, 1), (28, .aload_n 0, 1), (29, .getfield 54, 3), (32, .iload_n 1, 1), (33, .iaload, 1), (34, .istore 4, 2), (36, .iload 4, 2), (38, .ifCond .le 31, 3), (41, .iinc 3 (-1), 3), (44, .aload_n 0, 1), (45, .getfield 70, 3), (48, .iload_n 3, 1), (49, .aload_n 0, 1), (50, .getfield 60, 3), (53, .iload 4, 2), (55, .iaload, 1), (56, .iastore, 1), (57, .aload_n 0, 1), (58, .getfield 57, 3), (61, .iload 4, 2), (63, .iaload, 1), (64, .istore 4, 2), (66, .goto (-30), 3), (69, .iload_n 2, 1), (70, .ireturn, 1)]
set_option maxRecDepth 100000 in
theorem d_Model_unfold : l_Model_unfold.all (fun q => decide (decode prog_10_method_32_code q.1 = .ok (q.2.1, q.2.2))) = true := by decide +kernel
def m_Model_expected : aj_M := (⟨"TestBenchModel", "expected", "(I)I"⟩, prog_10_method_33_code, 4, (some .int))
def l_Model_expected : List (Nat × Instr × Nat) := [(0, .aload_n 0, 1), (1, .getfield 109, 3), (4, .istore_n 2, 1), (5, .iconst 0, 1), (6, .istore_n 3, 1), (7, .iload_n 3, 1), (8, .iload_n 1, 1), (9, .if_icmp .ge 25, 3), (12, .aload_n 0, 1), (13, .getfield 7, 3), (16, .iconst 3, 1), (17, .iload_n 2, 1), (18, .imul, 1), (19, .aload_n 0, 1), (20, .getfield 70, 3), (23, .iload_n 3, 1), (24, .iaload, 1), (25, .iadd, 1), (26, .iaload, 1), (27, .istore_n 2, 1), (28, .iinc 3 1, 3), (31, .goto (-24), 3), (34, .aload_n 0, 1), (35, .getfield 13, 3), (38, .iconst 3, 1), (39, .iload_n 2, 1), (40, .imul, 1), (41, .aload_n 0, 1), (42, .getfield 70, 3), (45, .iload_n 1, 1), (46, .iaload, 1), (47, .iadd, 1), (48, .iaload, 1), (49, .ireturn, 1)]
set_option maxRecDepth 100000 in
theorem d_Model_expected : l_Model_expected.all (fun q => decide (decode prog_10_method_33_code q.1 = .ok (q.2.1, q.2.2))) = true := by decide +kernel
def m_Model_isTest : aj_M := (⟨"TestBenchModel", "isTest", "(I)Z"⟩, prog_10_method_34_code, 2, (some .boolean))
def l_Model_isTest : List (Nat × Instr × Nat) := [(0, .aload_n 0, 1), (1, .getfield 189, 3), (4, .ifCond .eq 19, 3), (7, .iload_n 1, 1), (8, .ifCond .lt 15, 3), (11, .iload_n 1, 1), (12, .aload_n 0, 1), (13, .getfield 192, 3), (16, .if_icmp .ge 7, 3), (19, .iconst 1, 1), (20, .goto 4, 3), (23, .iconst 0, 1), (24, .ireturn, 1)]
set_option maxRecDepth 100000 in
theorem d_Model_isTest : l_Model_isTest.all (fun q => decide (decode prog_10_method_34_code q.1 = .ok (q.2.1, q.2.2))) = true := by decide +kernel
def m_Model_test : aj_M := (⟨"TestBenchModel", "test", "(IIZ)I"⟩, prog_10_method_35_code, 5, (some .int))
def l_Model_test : List (Nat × Instr × Nat) := [(0, .aload_n 0, 1), (1, .iconst 0, 1), (2, .putfield 92, 3), (5, .aload_n 0, 1), (6, .iload_n 1, 1), (7, .invokevirtual 198, 3), (10, .ifCond .ne 5, 3), (13, .iconst (-1), 1), (14, .ireturn, 1), (15, .aload_n 0, 1), (16, .iload_n 1, 1), (17, .invokevirtual 201, 3), (20, .istore 4, 2), (22, .iload_n 2, 1), (23, .iconst (-1), 1), (24, .if_icmp .ne 8, 3), (27, .iload 4, 2), (29, .goto 35, 3), (32, .iload_n 2, 1), (33, .ifCond .lt 9, 3), (36, .iload_n 2, 1), (37, .iload 4, 2), (39, .if_icmp .lt 7, 3), (42, .iconst (-1), 1), (43, .goto 21, 3), (46, .iload_n 3, 1), (47, .ifCond .eq 11, 3), (50, .aload_n 0, 1), (51, .iload_n 2, 1), (52, .invokevirtual 205, 3), (55, .goto 9, 3), (58, .aload_n 0, 1), (59, .getfield 70, 3), (62, .iload_n 2, 1), (63, .iaload, 1), (64, .ireturn, 1)]
set_option maxRecDepth 100000 in
theorem d_Model_test : l_Model_test.all (fun q => decide (decode prog_10_method_35_code q.1 = .ok (q.2.1, q.2.2))) = true := by decide +kernel
def m_Model_resize : aj_M := (⟨"TestBenchModel", "resize", "(I)V"⟩, prog_10_method_36_code, 5, none)
def l_Model_resize : List (Nat × Instr × Nat) := [(0, .aload_n 0, 1), (1, .iload_n 1, 1), (2, .iconst 1, 1), (3, .if_icmp .lt 9, 3), (6, .iload_n 1, 1), (7, .bipush 10, 2), (9, .if_icmp .le 7, 3), (12, .iconst 1, 1), (13, .goto 15, 3), (16, .aload_n 0, 1), (17, .getfield 105, 3), (20, .ifCond .ne 7, 3), (23, .iconst 2, 1), (24, .goto 4, 3), (27, .iconst 0, 1), (28, .putfield 92, 3), (31, .aload_n 0, 1), (32, .getfield 92, 3), (35, .ifCond .le 4, 3), (38, .return_, 1), (39, .iconst 0, 1), (40, .istore_n 2, 1), (41, .iload_n 2, 1), (42, .iload_n 1, 1), (43, .if_icmp .ge 99, 3), (46, .iconst 0, 1), (47, .istore_n 3, 1), (48, .iload_n 3, 1), (49, .aload_n 0, 1), (50, .getfield 89, 3), (53, .if_icmp .ge 83, 3), (56, .iconst 3, 1), (57, .iload_n 2, 1), (58, .imul, 1), (59, .iload_n 3, 1), (60, .iadd, 1), (61, .istore 4, 2), (63, .aload_n 0, 1), (64, .getfield 45, 3), (67, .iload 4, 2), (69, .iload_n 2, 1), (70, .aload_n 0, 1), (71, .getfield 157, 3), (74, .if_icmp .ge 13, 3), (77, .aload_n 0, 1), (78, .getfield 45, 3), (81, .iload 4, 2), (83, .iaload, 1), (84, .goto 4, 3), (87, .iconst 0, 1), (88, .iastore, 1), (89, .aload_n 0, 1), (90, .getfield 42, 3), (93, .iload 4, 2), (95, .iload_n 2, 1), (96, .aload_n 0, 1), (97, .getfield 157, 3), (100, .if_icmp .lt 7, 3), (103, .iload_n 2, 1), (104, .goto 25, 3), (107, .aload_n 0, 1), (108, .getfield 42, 3), (111, .iload 4, 2), (113, .iaload, 1), (114, .iload_n 1, 1), (115, .if_icmp .lt 7, 3), (118, .iconst 0, 1), (119, .goto 10, 3), (122, .aload_n 0, 1), (123, .getfield 42, 3), (126, .iload 4, 2), (128, .iaload, 1), (129, .iastore, 1), (130, .iinc 3 1, 3), (133, .goto (-85), 3), (136, .iinc 2 1, 3), (139, .goto (-98), 3), (142, .aload_n 0, 1), (143, .iload_n 1, 1), (144, .putfield 157, 3), (147, .return_, 1)]
set_option maxRecDepth 100000 in
theorem d_Model_resize : l_Model_resize.all (fun q => decide (decode prog_10_method_36_code q.1 = .ok (q.2.1, q.2.2))) = true := by decide +kernel
def m_Model_change : aj_M := (⟨"TestBenchModel", "change", "(IIII)V"⟩, prog_10_method_37_code, 5, none)
def l_Model_change : List (Nat × Instr × Nat) := [(0, .aload_n 0, 1), (1, .aload_n 0, 1), (2, .getfield 105, 3), (5, .ifCond .ne 7, 3), (8, .iconst 1, 1), (9, .goto 48, 3), (12, .iload_n 1, 1), (13, .ifCond .lt 39, 3), (16, .iload_n 1, 1), (17, .aload_n 0, 1), (18, .getfield 157, 3), (21, .if_icmp .ge 31, 3), (24, .aload_n 0, 1), (25, .iload_n 2, 1), (26, .invokevirtual 99, 3), (29, .ifCond .eq 23, 3), (32, .iload_n 3, 1), (33, .ifCond .lt 19, 3), (36, .iload_n 3, 1), (37, .aload_n 0, 1), (38, .getfield 157, 3), (41, .if_icmp .ge 11, 3), (44, .iload 4, 2), (46, .invokestatic 102, 3), (49, .ifCond .ne 7, 3), (52, .iconst 2, 1), (53, .goto 4, 3), (56, .iconst 0, 1), (57, .putfield 92, 3), (60, .aload_n 0, 1), (61, .getfield 92, 3), (64, .ifCond .ne 26, 3), (67, .aload_n 0, 1), (68, .getfield 42, 3), (71, .iconst 3, 1), (72, .iload_n 1, 1), (73, .imul, 1), (74, .iload_n 2, 1), (75, .iadd, 1), (76, .iload_n 3, 1), (77, .iastore, 1), (78, .aload_n 0, 1), (79, .getfield 45, 3), (82, .iconst 3, 1), (83, .iload_n 1, 1), (84, .imul, 1), (85, .iload_n 2, 1), (86, .iadd, 1), (87, .iload 4, 2), (89, .iastore, 1), (90, .return_, 1)]
set_option maxRecDepth 100000 in
theorem d_Model_change : l_Model_change.all (fun q => decide (decode prog_10_method_37_code q.1 = .ok (q.2.1, q.2.2))) = true := by decide +kernel
def m_Model_fails : aj_M := (⟨"TestBenchModel", "fails", "(I)I"⟩, prog_10_method_38_code, 4, (some .int))
def l_Model_fails : List (Nat × Instr × Nat) := [(0, .iconst 0, 1), (1, .istore_n 2, 1), (2, .iconst 0, 1), (3, .istore_n 3, 1), (4, .iload_n 3, 1), (5, .iload_n 1, 1), (6, .if_icmp .ge 50, 3), (9, .aload_n 0, 1), (10, .getfield 45, 3), (13, .iconst 3, 1), (14, .iload_n 2, 1), (15, .imul, 1), (16, .aload_n 0, 1), (17, .getfield 70, 3), (20, .iload_n 3, 1), (21, .iaload, 1), (22, .iadd, 1), (23, .iaload, 1), (24, .aload_n 0, 1), (25, .iload_n 3, 1), (26, .invokevirtual 205, 3), (29, .if_icmp .eq 5, 3), (32, .iload_n 3, 1), (33, .ireturn, 1), (34, .aload_n 0, 1), (35, .getfield 42, 3), (38, .iconst 3, 1), (39, .iload_n 2, 1), (40, .imul, 1), (41, .aload_n 0, 1), (42, .getfield 70, 3), (45, .iload_n 3, 1), (46, .iaload, 1), (47, .iadd, 1), (48, .iaload, 1), (49, .istore_n 2, 1), (50, .iinc 3 1, 3), (53, .goto (-49), 3), (56, .iconst (-1), 1), (57, .ireturn, 1)]
set_option maxRecDepth 100000 in
theorem d_Model_fails : l_Model_fails.all (fun q => decide (decode prog_10_method_38_code q.1 = .ok (q.2.1, q.2.2))) = true := by decide +kernel
def m_Model_run : aj_M := (⟨"TestBenchModel", "run", "()I"⟩, prog_10_method_39_code, 2, (some .int))
def l_Model_run : List (Nat × Instr × Nat) := [(0, .aload_n 0, 1), (1, .aload_n 0, 1), (2, .getfield 189, 3), (5, .ifCond .eq 7, 3), (8, .iconst 0, 1), (9, .goto 4, 3), (12, .iconst 1, 1), (13, .putfield 92, 3), (16, .aload_n 0, 1), (17, .getfield 92, 3), (20, .ifCond .le 5, 3), (23, .iconst 0, 1), (24, .ireturn, 1), (25, .aload_n 0, 1), (26, .iconst (-1), 1), (27, .putfield 63, 3), (30, .iconst 0, 1), (31, .istore_n 1, 1), (32, .iload_n 1, 1), (33, .aload_n 0, 1), (34, .getfield 192, 3), (37, .if_icmp .ge 31, 3), (40, .aload_n 0, 1), (41, .aload_n 0, 1), (42, .aload_n 0, 1), (43, .iload_n 1, 1), (44, .invokevirtual 201, 3), (47, .invokevirtual 208, 3), (50, .putfield 63, 3), (53, .aload_n 0, 1), (54, .getfield 63, 3), (57, .ifCond .lt 5, 3), (60, .iload_n 1, 1), (61, .ireturn, 1), (62, .iinc 1 1, 3), (65, .goto (-33), 3), (68, .iconst (-1), 1), (69, .ireturn, 1)]
set_option maxRecDepth 100000 in
theorem d_Model_run : l_Model_run.all (fun q => decide (decode prog_10_method_39_code q.1 = .ok (q.2.1, q.2.2))) = true := by decide +kernel
def m_Model_failed : aj_M := (⟨"TestBenchModel", "failed", "()I"⟩, prog_10_method_40_code, 1, (some .int))
def l_Model_failed : List (Nat × Instr × Nat) := [(0, .aload_n 0, 1), (1, .iconst 0, 1), (2, .putfield 92, 3), (5, .aload_n 0, 1), (6, .getfield 63, 3), (9, .ireturn, 1)]
set_option maxRecDepth 100000 in
theorem d_Model_failed : l_Model_failed.all (fun q => decide (decode prog_10_method_40_code q.1 = .ok (q.2.1, q.2.2))) = true := by decide +kernel
def m_Model_begin : aj_M := (⟨"TestBenchModel", "begin", "(I)I"⟩, prog_10_method_41_code, 3, (some .int))
def l_Model_begin : List (Nat × Instr × Nat) := [(0, .aload_n 0, 1), (1, .aload_n 0, 1), (2, .iload_n 1, 1), (3, .invokevirtual 198, 3), (6, .ifCond .eq 7, 3), (9, .iconst 0, 1), (10, .goto 4, 3), (13, .iconst 1, 1), (14, .putfield 92, 3), (17, .aload_n 0, 1), (18, .getfield 92, 3), (21, .ifCond .le 5, 3), (24, .iconst 0, 1), (25, .ireturn, 1), (26, .aload_n 0, 1), (27, .iload_n 1, 1), (28, .invokevirtual 201, 3), (31, .istore_n 2, 1), (32, .aload_n 0, 1), (33, .iload_n 1, 1), (34, .putfield 67, 3), (37, .aload_n 0, 1), (38, .iconst 0, 1), (39, .putfield 211, 3), (42, .aload_n 0, 1), (43, .getfield 70, 3), (46, .iconst 0, 1), (47, .iaload, 1), (48, .ireturn, 1)]
set_option maxRecDepth 100000 in
theorem d_Model_begin : l_Model_begin.all (fun q => decide (decode prog_10_method_41_code q.1 = .ok (q.2.1, q.2.2))) = true := by decide +kernel
def m_Model_give : aj_M := (⟨"TestBenchModel", "give", "(I)I"⟩, prog_10_method_42_code, 4, (some .int))
def l_Model_give : List (Nat × Instr × Nat) := [(0, .aload_n 0, 1), (1, .aload_n 0, 1), (2, .getfield 67, 3), (5, .ifCond .ge 7, 3), (8, .iconst 1, 1), (9, .goto 15, 3), (12, .iload_n 1, 1), (13, .invokestatic 102, 3), (16, .ifCond .ne 7, 3), (19, .iconst 2, 1), (20, .goto 4, 3), (23, .iconst 0, 1), (24, .putfield 92, 3), (27, .aload_n 0, 1), (28, .getfield 92, 3), (31, .ifCond .le 5, 3), (34, .iconst 0, 1), (35, .ireturn, 1), (36, .aload_n 0, 1), (37, .aload_n 0, 1), (38, .getfield 67, 3), (41, .invokevirtual 201, 3), (44, .istore_n 2, 1), (45, .aload_n 0, 1), (46, .aload_n 0, 1), (47, .getfield 211, 3), (50, .invokevirtual 205, 3), (53, .istore_n 3, 1), (54, .aload_n 0, 1), (55, .dup, 1), (56, .getfield 211, 3), (59, .iconst 1, 1), (60, .iadd, 1), (61, .putfield 211, 3), (64, .iload_n 1, 1), (65, .iload_n 3, 1), (66, .if_icmp .ne 11, 3), (69, .aload_n 0, 1), (70, .getfield 211, 3), (73, .iload_n 2, 1), (74, .if_icmp .ne 20, 3), (77, .aload_n 0, 1), (78, .iconst (-1), 1), (79, .putfield 67, 3), (82, .iload_n 1, 1), (83, .iload_n 3, 1), (84, .if_icmp .eq 8, 3), (87, .bipush (-2), 2), (89, .goto 4, 3), (92, .iconst (-1), 1), (93, .ireturn, 1), (94, .aload_n 0, 1), (95, .getfield 70, 3), (98, .aload_n 0, 1), (99, .getfield 211, 3), (102, .iaload, 1), (103, .ireturn, 1)]
set_option maxRecDepth 100000 in
theorem d_Model_give : l_Model_give.all (fun q => decide (decode prog_10_method_42_code q.1 = .ok (q.2.1, q.2.2))) = true := by decide +kernel
def m_Model_same : aj_M := (⟨"TestBenchModel", "same", "()I"⟩, prog_10_method_43_code, 9, (some .int))
def l_Model_same : List (Nat × Instr × Nat) := [(0, .aload_n 0, 1), (1, .aload_n 0, 1), (2, .getfield 105, 3), (5, .ifCond .eq 7, 3), (8, .iconst 0, 1), (9, .goto 4, 3), (12, .iconst 1, 1), (13, .putfield 92, 3), (16, .aload_n 0, 1), (17, .getfield 92, 3), (20, .ifCond .le 5, 3), (23, .iconst 0, 1), (24, .ireturn, 1), (25, .aload_n 0, 1), (26, .lconst 1, 1), (27, .putfield 38, 3), (30, .iconst 0, 1), (31, .istore_n 1, 1), (32, .iload_n 1, 1), (33, .bipush 80, 2), (35, .if_icmp .ge 16, 3), (38, .aload_n 0, 1), (39, .getfield 76, 3), (42, .iload_n 1, 1), (43, .iconst 0, 1), (44, .bastore, 1), (45, .iinc 1 1, 3), (48, .goto (-16), 3), (51, .iconst 1, 1), (52, .istore_n 1, 1), (53, .aload_n 0, 1), (54, .getfield 73, 3), (57, .iconst 0, 1), (58, .bipush 10, 2), (60, .aload_n 0, 1), (61, .getfield 109, 3), (64, .imul, 1), (65, .iastore, 1), (66, .aload_n 0, 1), (67, .getfield 80, 3), (70, .iconst 0, 1), (71, .lconst 1, 1), (72, .lastore, 1), (73, .aload_n 0, 1), (74, .getfield 76, 3), (77, .bipush 10, 2), (79, .aload_n 0, 1), (80, .getfield 109, 3), (83, .imul, 1), (84, .iconst 1, 1), (85, .bastore, 1), (86, .iconst 0, 1), (87, .istore_n 2, 1), (88, .iload_n 2, 1), (89, .iload_n 1, 1), (90, .if_icmp .ge 181, 3), (93, .aload_n 0, 1), (94, .getfield 80, 3), (97, .iload_n 2, 1), (98, .laload, 1), (99, .invokestatic 112, 3), (102, .bipush 20, 2), (104, .if_icmp .ge 167, 3), (107, .aload_n 0, 1), (108, .getfield 73, 3), (111, .iload_n 2, 1), (112, .iaload, 1), (113, .bipush 10, 2), (115, .idiv, 1), (116, .istore_n 3, 1), (117, .aload_n 0, 1), (118, .getfield 73, 3), (121, .iload_n 2, 1), (122, .iaload, 1), (123, .bipush 10, 2), (125, .irem, 1), (126, .istore 4, 2), (128, .iconst 0, 1), (129, .istore 5, 2), (131, .iload 5, 2), (133, .aload_n 0, 1), (134, .getfield 89, 3), (137, .if_icmp .ge 128, 3), (140, .aload_n 0, 1), (141, .getfield 80, 3), (144, .iload_n 2, 1), (145, .laload, 1), (146, .iconst 2, 1), (147, .lshl, 1), (148, .iload 5, 2), (150, .i2l, 1), (151, .lor, 1), (152, .lstore 6, 2), (154, .aload_n 0, 1), (155, .getfield 13, 3), (158, .iconst 3, 1), (159, .iload_n 3, 1), (160, .imul, 1), (161, .iload 5, 2), (163, .iadd, 1), (164, .iaload, 1), (165, .aload_n 0, 1), (166, .getfield 45, 3), (169, .iconst 3, 1), (170, .iload 4, 2), (172, .imul, 1), (173, .iload 5, 2), (175, .iadd, 1), (176, .iaload, 1), (177, .if_icmp .eq 16, 3), (180, .aload_n 0, 1), (181, .aload_n 0, 1), (182, .getfield 38, 3), (185, .lload 6, 2), (187, .invokestatic 214, 3), (190, .putfield 38, 3), (193, .bipush 10, 2), (195, .aload_n 0, 1), (196, .getfield 7, 3), (199, .iconst 3, 1), (200, .iload_n 3, 1), (201, .imul, 1), (202, .iload 5, 2), (204, .iadd, 1), (205, .iaload, 1), (206, .imul, 1), (207, .aload_n 0, 1), (208, .getfield 42, 3), (211, .iconst 3, 1), (212, .iload 4, 2), (214, .imul, 1), (215, .iload 5, 2), (217, .iadd, 1), (218, .iaload, 1), (219, .iadd, 1), (220, .istore 8, 2), (222, .aload_n 0, 1), (223, .getfield 76, 3), (226, .iload 8, 2), (228, .baload, 1), (229, .ifCond .ne 30, 3), (232, .aload_n 0, 1), (233, .getfield 76, 3), (236, .iload 8, 2), (238, .iconst 1, 1), (239, .bastore, 1), (240, .aload_n 0, 1), (241, .getfield 73, 3), (244, .iload_n 1, 1), (245, .iload 8, 2), (247, .iastore, 1), (248, .aload_n 0, 1), (249, .getfield 80, 3), (252, .iload_n 1, 1), (253, .lload 6, 2), (255, .lastore, 1), (256, .iinc 1 1, 3), (259, .iinc 5 1, 3), (262, .goto (-131), 3), (265, .iinc 2 1, 3), (268, .goto (-180), 3), (271, .aload_n 0, 1), (272, .getfield 38, 3), (275, .invokestatic 112, 3), (278, .ireturn, 1)]
set_option maxRecDepth 100000 in
theorem d_Model_same : l_Model_same.all (fun q => decide (decode prog_10_method_43_code q.1 = .ok (q.2.1, q.2.2))) = true := by decide +kernel
def m_Model_least : aj_M := (⟨"TestBenchModel", "least", "(JJ)J"⟩, prog_10_method_44_code, 4, (some .long))
def l_Model_least : List (Nat × Instr × Nat) := [(0, .lload_n 0, 1), (1, .lconst 1, 1), (2, .lcmp, 1), (3, .ifCond .eq 31, 3), (6, .lload_n 2, 1), (7, .invokestatic 112, 3), (10, .lload_n 0, 1), (11, .invokestatic 112, 3), (14, .if_icmp .lt 20, 3), (17, .lload_n 2, 1), (18, .invokestatic 112, 3), (21, .lload_n 0, 1), (22, .invokestatic 112, 3), (25, .if_icmp .ne 13, 3), (28, .lload_n 2, 1), (29, .lload_n 0, 1), (30, .lcmp, 1), (31, .ifCond .ge 7, 3), (34, .lload_n 2, 1), (35, .goto 4, 3), (38, .lload_n 0, 1), (39, .lreturn, 1)]
set_option maxRecDepth 100000 in
theorem d_Model_least : l_Model_least.all (fun q => decide (decode prog_10_method_44_code q.1 = .ok (q.2.1, q.2.2))) = true := by decide +kernel
def m_Model_covered : aj_M := (⟨"TestBenchModel", "covered", "()I"⟩, prog_10_method_45_code, 6, (some .int))
def l_Model_covered : List (Nat × Instr × Nat) := [(0, .aload_n 0, 1), (1, .iconst 0, 1), (2, .putfield 92, 3), (5, .iconst 0, 1), (6, .istore_n 1, 1), (7, .iconst 0, 1), (8, .istore_n 2, 1), (9, .iload_n 2, 1), (10, .bipush 24, 2), (12, .if_icmp .ge 16, 3), (15, .aload_n 0, 1), (16, .getfield 83, 3), (19, .iload_n 2, 1), (20, .iconst 0, 1), (21, .bastore, 1), (22, .iinc 2 1, 3), (25, .goto (-16), 3), (28, .iconst 0, 1), (29, .istore_n 2, 1), (30, .aload_n 0, 1), (31, .getfield 189, 3), (34, .ifCond .eq 124, 3), (37, .iload_n 2, 1), (38, .aload_n 0, 1), (39, .getfield 192, 3), (42, .if_icmp .ge 116, 3), (45, .aload_n 0, 1), (46, .iload_n 2, 1), (47, .invokevirtual 201, 3), (50, .istore_n 3, 1), (51, .aload_n 0, 1), (52, .getfield 19, 3), (55, .aload_n 0, 1), (56, .getfield 109, 3), (59, .iaload, 1), (60, .istore 4, 2), (62, .iconst 0, 1), (63, .istore 5, 2), (65, .iload 5, 2), (67, .iload_n 3, 1), (68, .if_icmp .ge 84, 3), (71, .iload_n 1, 1), (72, .aload_n 0, 1), (73, .getfield 83, 3), (76, .iconst 3, 1), (77, .iload 4, 2), (79, .imul, 1), (80, .aload_n 0, 1), (81, .getfield 70, 3), (84, .iload 5, 2), (86, .iaload, 1), (87, .iadd, 1), (88, .baload, 1), (89, .ifCond .eq 7, 3), (92, .iconst 0, 1), (93, .goto 4, 3), (96, .iconst 1, 1), (97, .iadd, 1), (98, .istore_n 1, 1), (99, .aload_n 0, 1), (100, .getfield 83, 3), (103, .iconst 3, 1), (104, .iload 4, 2), (106, .imul, 1), (107, .aload_n 0, 1), (108, .getfield 70, 3), (111, .iload 5, 2), (113, .iaload, 1), (114, .iadd, 1), (115, .iconst 1, 1), (116, .bastore, 1), (117, .aload_n 0, 1), (118, .getfield 19, 3), (121, .aload_n 0, 1), (122, .getfield 7, 3), (125, .iconst 3, 1), (126, .aload_n 0, 1), (127, .getfield 22, 3), (130, .iload 4, 2), (132, .iaload, 1), (133, .imul, 1), (134, .aload_n 0, 1), (135, .getfield 70, 3), (138, .iload 5, 2), (140, .iaload, 1), (141, .iadd, 1), (142, .iaload, 1), (143, .iaload, 1), (144, .istore 4, 2), (146, .iinc 5 1, 3), (149, .goto (-84), 3), (152, .iinc 2 1, 3), (155, .goto (-125), 3), (158, .iload_n 1, 1), (159, .ireturn, 1)]
set_option maxRecDepth 100000 in
theorem d_Model_covered : l_Model_covered.all (fun q => decide (decode prog_10_method_45_code q.1 = .ok (q.2.1, q.2.2))) = true := by decide +kernel
def m_Model_look : aj_M := (⟨"TestBenchModel", "look", "(I)I"⟩, prog_10_method_46_code, 2, (some .int))
def l_Model_look : List (Nat × Instr × Nat) := [(0, .aload_n 0, 1), (1, .iconst 0, 1), (2, .putfield 92, 3), (5, .iload_n 1, 1), (6, .iconst 4, 1), (7, .if_icmp .ge 60, 3), (10, .iload_n 1, 1), (11, .ifCond .ne 10, 3), (14, .aload_n 0, 1), (15, .getfield 86, 3), (18, .goto 48, 3), (21, .iload_n 1, 1), (22, .iconst 1, 1), (23, .if_icmp .ne 10, 3), (26, .aload_n 0, 1), (27, .getfield 89, 3), (30, .goto 36, 3), (33, .iload_n 1, 1), (34, .iconst 2, 1), (35, .if_icmp .ne 18, 3), (38, .aload_n 0, 1), (39, .getfield 105, 3), (42, .ifCond .eq 7, 3), (45, .iconst 1, 1), (46, .goto 20, 3), (49, .iconst 0, 1), (50, .goto 16, 3), (53, .iload_n 1, 1), (54, .iconst 3, 1), (55, .if_icmp .ne 10, 3), (58, .aload_n 0, 1), (59, .getfield 126, 3), (62, .goto 4, 3), (65, .iconst (-1), 1), (66, .ireturn, 1), (67, .iload_n 1, 1), (68, .iconst 4, 1), (69, .if_icmp .ne 21, 3), (72, .aload_n 0, 1), (73, .getfield 189, 3), (76, .ifCond .eq 10, 3), (79, .aload_n 0, 1), (80, .getfield 192, 3), (83, .goto 44, 3), (86, .iconst 0, 1), (87, .goto 40, 3), (90, .iload_n 1, 1), (91, .iconst 5, 1), (92, .if_icmp .ne 10, 3), (95, .aload_n 0, 1), (96, .getfield 157, 3), (99, .goto 28, 3), (102, .iload_n 1, 1), (103, .bipush 6, 2), (105, .if_icmp .ne 21, 3), (108, .aload_n 0, 1), (109, .getfield 189, 3), (112, .ifCond .eq 10, 3), (115, .aload_n 0, 1), (116, .getfield 183, 3), (119, .goto 8, 3), (122, .iconst 0, 1), (123, .goto 4, 3), (126, .iconst (-1), 1), (127, .ireturn, 1)]
set_option maxRecDepth 100000 in
theorem d_Model_look : l_Model_look.all (fun q => decide (decode prog_10_method_46_code q.1 = .ok (q.2.1, q.2.2))) = true := by decide +kernel
def m_Family_init : aj_M := (⟨"TestBench$Family", "<init>", "()V"⟩, prog_2_method_1_code, 2, none)
def l_Family_init : List (Nat × Instr × Nat) := [(0, .aload_n 0, 1), (1, .invokespecial 3, 3), (4, .aload_n 0, 1), (5, .bipush 8, 2), (7, .anewarray 9, 3), (10, .putfield 11, 3), (13, .aload_n 0, 1), (14, .bipush 8, 2), (16, .bipush 8, 2), (18, .multianewarray 17 2, 4), (22, .putfield 19, 3), (25, .aload_n 0, 1), (26, .bipush 8, 2), (28, .newarray .int, 2), (30, .putfield 22, 3), (33, .aload_n 0, 1), (34, .iconst 0, 1), (35, .putfield 26, 3), (38, .iconst 0, 1), (39, .istore_n 1, 1), (40, .iload_n 1, 1), (41, .aload_n 0, 1), (42, .getfield 11, 3), (45, .arraylength, 1), (46, .if_icmp .ge 22, 3), (49, .aload_n 0, 1), (50, .getfield 11, 3), (53, .iload_n 1, 1), (54, .new 9, 3), (57, .dup, 1), (58, .invokespecial 30, 3), (61, .aastore, 1), (62, .iinc 1 1, 3), (65, .goto (-25), 3), (68, .return_, 1)]
set_option maxRecDepth 100000 in
theorem d_Family_init : l_Family_init.all (fun q => decide (decode prog_2_method_1_code q.1 = .ok (q.2.1, q.2.2))) = true := by decide +kernel
def m_Family_has : aj_M := (⟨"TestBench$Family", "has", "(I)Z"⟩, prog_2_method_2_code, 2, (some .boolean))
def l_Family_has : List (Nat × Instr × Nat) := [(0, .iload_n 1, 1), (1, .ifCond .lt 15, 3), (4, .iload_n 1, 1), (5, .aload_n 0, 1), (6, .getfield 26, 3), (9, .if_icmp .ge 7, 3), (12, .iconst 1, 1), (13, .goto 4, 3), (16, .iconst 0, 1), (17, .ireturn, 1)]
set_option maxRecDepth 100000 in
theorem d_Family_has : l_Family_has.all (fun q => decide (decode prog_2_method_2_code q.1 = .ok (q.2.1, q.2.2))) = true := by decide +kernel
def m_Family_choose : aj_M := (⟨"TestBench$Family", "choose", "(LTestBench$Machine;LTestBench$PairSearch;)V"⟩, prog_2_method_3_code, 5, none)
def l_Family_choose : List (Nat × Instr × Nat) := [(0, .iconst 0, 1), (1, .istore_n 3, 1), (2, .iload_n 3, 1), (3, .aload_n 1, 1), (4, .getfield 31, 3), (7, .if_icmp .ge 79, 3), (10, .iload_n 3, 1), (11, .iconst 1, 1), (12, .iadd, 1), (13, .istore 4, 2), (15, .iload 4, 2), (17, .aload_n 1, 1), (18, .getfield 31, 3), (21, .if_icmp .ge 59, 3), (24, .aload_n 0, 1), (25, .aload_n 1, 1), (26, .iload_n 3, 1), (27, .iload 4, 2), (29, .invokevirtual 36, 3), (32, .iconst (-1), 1), (33, .if_icmp .ne 41, 3), (36, .aload_n 2, 1), (37, .aload_n 1, 1), (38, .iload_n 3, 1), (39, .aload_n 1, 1), (40, .iload 4, 2), (42, .invokevirtual 40, 3), (45, .ifCond .eq 29, 3), (48, .aload_n 0, 1), (49, .getfield 11, 3), (52, .aload_n 0, 1), (53, .getfield 26, 3), (56, .aaload, 1), (57, .aload_n 2, 1), (58, .getfield 46, 3), (61, .invokevirtual 50, 3), (64, .aload_n 0, 1), (65, .dup, 1), (66, .getfield 26, 3), (69, .iconst 1, 1), (70, .iadd, 1), (71, .putfield 26, 3), (74, .iinc 4 1, 3), (77, .goto (-62), 3), (80, .iinc 3 1, 3), (83, .goto (-81), 3), (86, .iconst 0, 1), (87, .istore_n 3, 1), (88, .iload_n 3, 1), (89, .aload_n 1, 1), (90, .getfield 31, 3), (93, .if_icmp .ge 15, 3), (96, .aload_n 0, 1), (97, .aload_n 1, 1), (98, .iload_n 3, 1), (99, .invokevirtual 54, 3), (102, .iinc 3 1, 3), (105, .goto (-17), 3), (108, .return_, 1)]
set_option maxRecDepth 100000 in
theorem d_Family_choose : l_Family_choose.all (fun q => decide (decode prog_2_method_3_code q.1 = .ok (q.2.1, q.2.2))) = true := by decide +kernel
def m_Family_chooseOwn : aj_M := (⟨"TestBench$Family", "chooseOwn", "(LTestBench$Machine;I)V"⟩, prog_2_method_4_code, 4, none)
def l_Family_chooseOwn : List (Nat × Instr × Nat) := [(0, .iconst 0, 1), (1, .istore_n 3, 1), (2, .iload_n 3, 1), (3, .aload_n 1, 1), (4, .getfield 31, 3), (7, .if_icmp .ge 54, 3), (10, .iload_n 3, 1), (11, .iload_n 2, 1), (12, .if_icmp .eq 43, 3), (15, .aload_n 0, 1), (16, .aload_n 1, 1), (17, .iload_n 2, 1), (18, .iload_n 3, 1), (19, .invokevirtual 58, 3), (22, .ifCond .ne 33, 3), (25, .aload_n 0, 1), (26, .getfield 19, 3), (29, .iload_n 2, 1), (30, .aaload, 1), (31, .aload_n 0, 1), (32, .getfield 22, 3), (35, .iload_n 2, 1), (36, .iaload, 1), (37, .aload_n 0, 1), (38, .aload_n 1, 1), (39, .iload_n 2, 1), (40, .iload_n 3, 1), (41, .invokevirtual 36, 3), (44, .iastore, 1), (45, .aload_n 0, 1), (46, .getfield 22, 3), (49, .iload_n 2, 1), (50, .dup2, 1), (51, .iaload, 1), (52, .iconst 1, 1), (53, .iadd, 1), (54, .iastore, 1), (55, .iinc 3 1, 3), (58, .goto (-56), 3), (61, .return_, 1)]
set_option maxRecDepth 100000 in
theorem d_Family_chooseOwn : l_Family_chooseOwn.all (fun q => decide (decode prog_2_method_4_code q.1 = .ok (q.2.1, q.2.2))) = true := by decide +kernel
def m_Family_ownTells : aj_M := (⟨"TestBench$Family", "ownTells", "(LTestBench$Machine;II)Z"⟩, prog_2_method_5_code, 5, (some .boolean))
def l_Family_ownTells : List (Nat × Instr × Nat) := [(0, .iconst 0, 1), (1, .istore 4, 2), (3, .iload 4, 2), (5, .aload_n 0, 1), (6, .getfield 22, 3), (9, .iload_n 2, 1), (10, .iaload, 1), (11, .if_icmp .ge 34, 3), (14, .aload_n 1, 1), (15, .aload_n 0, 1), (16, .getfield 11, 3), (19, .aload_n 0, 1), (20, .getfield 19, 3), (23, .iload_n 2, 1), (24, .aaload, 1), (25, .iload 4, 2), (27, .iaload, 1), (28, .aaload, 1), (29, .iload_n 2, 1), (30, .iload_n 3, 1), (31, .invokevirtual 62, 3), (34, .ifCond .eq 5, 3), (37, .iconst 1, 1), (38, .ireturn, 1), (39, .iinc 4 1, 3), (42, .goto (-39), 3), (45, .iconst 0, 1), (46, .ireturn, 1)]
set_option maxRecDepth 100000 in
theorem d_Family_ownTells : l_Family_ownTells.all (fun q => decide (decode prog_2_method_5_code q.1 = .ok (q.2.1, q.2.2))) = true := by decide +kernel
def m_Family_firstWord : aj_M := (⟨"TestBench$Family", "firstWord", "(LTestBench$Machine;II)I"⟩, prog_2_method_6_code, 5, (some .int))
def l_Family_firstWord : List (Nat × Instr × Nat) := [(0, .iconst 0, 1), (1, .istore 4, 2), (3, .iload 4, 2), (5, .aload_n 0, 1), (6, .getfield 26, 3), (9, .if_icmp .ge 28, 3), (12, .aload_n 1, 1), (13, .aload_n 0, 1), (14, .getfield 11, 3), (17, .iload 4, 2), (19, .aaload, 1), (20, .iload_n 2, 1), (21, .iload_n 3, 1), (22, .invokevirtual 62, 3), (25, .ifCond .eq 6, 3), (28, .iload 4, 2), (30, .ireturn, 1), (31, .iinc 4 1, 3), (34, .goto (-31), 3), (37, .iconst (-1), 1), (38, .ireturn, 1)]
set_option maxRecDepth 100000 in
theorem d_Family_firstWord : l_Family_firstWord.all (fun q => decide (decode prog_2_method_6_code q.1 = .ok (q.2.1, q.2.2))) = true := by decide +kernel
def m_Machine_init : aj_M := (⟨"TestBench$Machine", "<init>", "(III)V"⟩, prog_3_method_1_code, 4, none)
def l_Machine_init : List (Nat × Instr × Nat) := [(0, .aload_n 0, 1), (1, .invokespecial 3, 3), (4, .aload_n 0, 1), (5, .iload_n 3, 1), (6, .putfield 9, 3), (9, .aload_n 0, 1), (10, .iload_n 1, 1), (11, .iload_n 3, 1), (12, .imul, 1), (13, .newarray .int, 2), (15, .putfield 15, 3), (18, .aload_n 0, 1), (19, .iload_n 1, 1), (20, .iload_n 3, 1), (21, .imul, 1), (22, .newarray .int, 2), (24, .putfield 19, 3), (27, .aload_n 0, 1), (28, .iconst 0, 1), (29, .putfield 22, 3), (32, .aload_n 0, 1), (33, .iload_n 2, 1), (34, .invokevirtual 25, 3), (37, .return_, 1)]
set_option maxRecDepth 100000 in
theorem d_Machine_init : l_Machine_init.all (fun q => decide (decode prog_3_method_1_code q.1 = .ok (q.2.1, q.2.2))) = true := by decide +kernel
def m_Machine_hasState : aj_M := (⟨"TestBench$Machine", "hasState", "(I)Z"⟩, prog_3_method_2_code, 2, (some .boolean))
def l_Machine_hasState : List (Nat × Instr × Nat) := [(0, .iload_n 1, 1), (1, .ifCond .lt 15, 3), (4, .iload_n 1, 1), (5, .aload_n 0, 1), (6, .getfield 22, 3), (9, .if_icmp .ge 7, 3), (12, .iconst 1, 1), (13, .goto 4, 3), (16, .iconst 0, 1), (17, .ireturn, 1)]
set_option maxRecDepth 100000 in
theorem d_Machine_hasState : l_Machine_hasState.all (fun q => decide (decode prog_3_method_2_code q.1 = .ok (q.2.1, q.2.2))) = true := by decide +kernel
def m_Machine_hasOutput : aj_M := (⟨"TestBench$Machine", "hasOutput", "(I)Z"⟩, prog_3_method_3_code, 2, (some .boolean))
def l_Machine_hasOutput : List (Nat × Instr × Nat) := [(0, .iload_n 1, 1), (1, .ifCond .lt 12, 3), (4, .iload_n 1, 1), (5, .iconst 4, 1), (6, .if_icmp .ge 7, 3), (9, .iconst 1, 1), (10, .goto 4, 3), (13, .iconst 0, 1), (14, .ireturn, 1)]
set_option maxRecDepth 100000 in
theorem d_Machine_hasOutput : l_Machine_hasOutput.all (fun q => decide (decode prog_3_method_3_code q.1 = .ok (q.2.1, q.2.2))) = true := by decide +kernel
def m_Machine_allows : aj_M := (⟨"TestBench$Machine", "allows", "(IIII)Z"⟩, prog_3_method_4_code, 5, (some .boolean))
def l_Machine_allows : List (Nat × Instr × Nat) := [(0, .aload_n 0, 1), (1, .iload_n 1, 1), (2, .invokevirtual 29, 3), (5, .ifCond .eq 36, 3), (8, .aload_n 0, 1), (9, .iload_n 3, 1), (10, .invokevirtual 29, 3), (13, .ifCond .eq 28, 3), (16, .iload_n 2, 1), (17, .ifCond .lt 24, 3), (20, .iload_n 2, 1), (21, .aload_n 0, 1), (22, .getfield 9, 3), (25, .if_icmp .ge 16, 3), (28, .aload_n 0, 1), (29, .iload 4, 2), (31, .invokevirtual 33, 3), (34, .ifCond .eq 7, 3), (37, .iconst 1, 1), (38, .goto 4, 3), (41, .iconst 0, 1), (42, .ireturn, 1)]
set_option maxRecDepth 100000 in
theorem d_Machine_allows : l_Machine_allows.all (fun q => decide (decode prog_3_method_4_code q.1 = .ok (q.2.1, q.2.2))) = true := by decide +kernel
def m_Machine_set : aj_M := (⟨"TestBench$Machine", "set", "(IIII)V"⟩, prog_3_method_5_code, 5, none)
def l_Machine_set : List (Nat × Instr × Nat) := [(0, .aload_n 0, 1), (1, .getfield 15, 3), (4, .iload_n 1, 1), (5, .aload_n 0, 1), (6, .getfield 9, 3), (9, .imul, 1), (10, .iload_n 2, 1), (11, .iadd, 1), (12, .iload_n 3, 1), (13, .iastore, 1), (14, .aload_n 0, 1), (15, .getfield 19, 3), (18, .iload_n 1, 1), (19, .aload_n 0, 1), (20, .getfield 9, 3), (23, .imul, 1), (24, .iload_n 2, 1), (25, .iadd, 1), (26, .iload 4, 2), (28, .iastore, 1), (29, .return_, 1)]
set_option maxRecDepth 100000 in
theorem d_Machine_set : l_Machine_set.all (fun q => decide (decode prog_3_method_5_code q.1 = .ok (q.2.1, q.2.2))) = true := by decide +kernel
def m_Machine_next : aj_M := (⟨"TestBench$Machine", "next", "(II)I"⟩, prog_3_method_6_code, 3, (some .int))
def l_Machine_next : List (Nat × Instr × Nat) := [(0, .aload_n 0, 1), (1, .getfield 15, 3), (4, .iload_n 1, 1), (5, .aload_n 0, 1), (6, .getfield 9, 3), (9, .imul, 1), (10, .iload_n 2, 1), (11, .iadd, 1), (12, .iaload, 1), (13, .ireturn, 1)]
set_option maxRecDepth 100000 in
theorem d_Machine_next : l_Machine_next.all (fun q => decide (decode prog_3_method_6_code q.1 = .ok (q.2.1, q.2.2))) = true := by decide +kernel
def m_Machine_output : aj_M := (⟨"TestBench$Machine", "output", "(II)I"⟩, prog_3_method_7_code, 3, (some .int))
def l_Machine_output : List (Nat × Instr × Nat) := [(0, .aload_n 0, 1), (1, .getfield 19, 3), (4, .iload_n 1, 1), (5, .aload_n 0, 1), (6, .getfield 9, 3), (9, .imul, 1), (10, .iload_n 2, 1), (11, .iadd, 1), (12, .iaload, 1), (13, .ireturn, 1)]
set_option maxRecDepth 100000 in
theorem d_Machine_output : l_Machine_output.all (fun q => decide (decode prog_3_method_7_code q.1 = .ok (q.2.1, q.2.2))) = true := by decide +kernel
def m_Machine_copy : aj_M := (⟨"TestBench$Machine", "copy", "(LTestBench$Machine;)V"⟩, prog_3_method_8_code, 2, none)
def l_Machine_copy : List (Nat × Instr × Nat) := [(0, .aload_n 0, 1), (1, .aload_n 1, 1), (2, .getfield 22, 3), (5, .putfield 22, 3), (8, .aload_n 1, 1), (9, .getfield 15, 3), (12, .iconst 0, 1), (13, .aload_n 0, 1), (14, .getfield 15, 3), (17, .iconst 0, 1), (18, .aload_n 0, 1), (19, .getfield 22, 3), (22, .aload_n 0, 1), (23, .getfield 9, 3), (26, .imul, 1), (27, .invokestatic 36, 3), (30, .aload_n 1, 1), (31, .getfield 19, 3), (34, .iconst 0, 1), (35, .aload_n 0, 1), (36, .getfield 19, 3), (39, .iconst 0, 1), (40, .aload_n 0, 1), (41, .getfield 22, 3), (44, .aload_n 0, 1), (45, .getfield 9, 3), (48, .imul, 1), (49, .invokestatic 36, 3), (52, .return_, 1)]
set_option maxRecDepth 100000 in
theorem d_Machine_copy : l_Machine_copy.all (fun q => decide (decode prog_3_method_8_code q.1 = .ok (q.2.1, q.2.2))) = true := by decide +kernel
def m_Machine_fitTo : aj_M := (⟨"TestBench$Machine", "fitTo", "(I)V"⟩, prog_3_method_9_code, 4, none)
def l_Machine_fitTo : List (Nat × Instr × Nat) := [(0, .iconst 0, 1), (1, .istore_n 2, 1), (2, .iload_n 2, 1), (3, .iload_n 1, 1), (4, .if_icmp .ge 67, 3), (7, .iconst 0, 1), (8, .istore_n 3, 1), (9, .iload_n 3, 1), (10, .aload_n 0, 1), (11, .getfield 9, 3), (14, .if_icmp .ge 51, 3), (17, .iload_n 2, 1), (18, .aload_n 0, 1), (19, .getfield 22, 3), (22, .if_icmp .lt 14, 3), (25, .aload_n 0, 1), (26, .iload_n 2, 1), (27, .iload_n 3, 1), (28, .iload_n 2, 1), (29, .iconst 0, 1), (30, .invokevirtual 42, 3), (33, .goto 26, 3), (36, .aload_n 0, 1), (37, .iload_n 2, 1), (38, .iload_n 3, 1), (39, .invokevirtual 46, 3), (42, .iload_n 1, 1), (43, .if_icmp .lt 16, 3), (46, .aload_n 0, 1), (47, .iload_n 2, 1), (48, .iload_n 3, 1), (49, .iconst 0, 1), (50, .aload_n 0, 1), (51, .iload_n 2, 1), (52, .iload_n 3, 1), (53, .invokevirtual 50, 3), (56, .invokevirtual 42, 3), (59, .iinc 3 1, 3), (62, .goto (-53), 3), (65, .iinc 2 1, 3), (68, .goto (-66), 3), (71, .aload_n 0, 1), (72, .iload_n 1, 1), (73, .putfield 22, 3), (76, .return_, 1)]
set_option maxRecDepth 100000 in
theorem d_Machine_fitTo : l_Machine_fitTo.all (fun q => decide (decode prog_3_method_9_code q.1 = .ok (q.2.1, q.2.2))) = true := by decide +kernel
def m_Machine_tellsApart : aj_M := (⟨"TestBench$Machine", "tellsApart", "(LTestBench$Word;II)Z"⟩, prog_3_method_10_code, 8, (some .boolean))
def l_Machine_tellsApart : List (Nat × Instr × Nat) := [(0, .iload_n 2, 1), (1, .istore 4, 2), (3, .iload_n 3, 1), (4, .istore 5, 2), (6, .iconst 0, 1), (7, .istore 6, 2), (9, .iload 6, 2), (11, .aload_n 1, 1), (12, .getfield 53, 3), (15, .if_icmp .ge 59, 3), (18, .aload_n 1, 1), (19, .getfield 58, 3), (22, .iload 6, 2), (24, .iaload, 1), (25, .istore 7, 2), (27, .aload_n 0, 1), (28, .iload 4, 2), (30, .iload 7, 2), (32, .invokevirtual 50, 3), (35, .aload_n 0, 1), (36, .iload 5, 2), (38, .iload 7, 2), (40, .invokevirtual 50, 3), (43, .if_icmp .eq 5, 3), (46, .iconst 1, 1), (47, .ireturn, 1), (48, .aload_n 0, 1), (49, .iload 4, 2), (51, .iload 7, 2), (53, .invokevirtual 46, 3), (56, .istore 4, 2), (58, .aload_n 0, 1), (59, .iload 5, 2), (61, .iload 7, 2), (63, .invokevirtual 46, 3), (66, .istore 5, 2), (68, .iinc 6 1, 3), (71, .goto (-62), 3), (74, .iconst 0, 1), (75, .ireturn, 1)]
set_option maxRecDepth 100000 in
theorem d_Machine_tellsApart : l_Machine_tellsApart.all (fun q => decide (decode prog_3_method_10_code q.1 = .ok (q.2.1, q.2.2))) = true := by decide +kernel
def m_Search_init : aj_M := (⟨"TestBench$PairSearch", "<init>", "()V"⟩, prog_4_method_1_code, 1, none)
def l_Search_init : List (Nat × Instr × Nat) := [(0, .aload_n 0, 1), (1, .invokespecial 3, 3), (4, .aload_n 0, 1), (5, .new 9, 3), (8, .dup, 1), (9, .invokespecial 11, 3), (12, .putfield 12, 3), (15, .aload_n 0, 1), (16, .bipush 100, 2), (18, .newarray .int, 2), (20, .putfield 18, 3), (23, .aload_n 0, 1), (24, .bipush 100, 2), (26, .newarray .int, 2), (28, .putfield 22, 3), (31, .aload_n 0, 1), (32, .bipush 100, 2), (34, .newarray .int, 2), (36, .putfield 25, 3), (39, .aload_n 0, 1), (40, .bipush 100, 2), (42, .newarray .int, 2), (44, .putfield 28, 3), (47, .aload_n 0, 1), (48, .bipush 100, 2), (50, .newarray .int, 2), (52, .putfield 31, 3), (55, .aload_n 0, 1), (56, .bipush 100, 2), (58, .newarray .boolean, 2), (60, .putfield 34, 3), (63, .aload_n 0, 1), (64, .iconst 0, 1), (65, .putfield 38, 3), (68, .return_, 1)]
set_option maxRecDepth 100000 in
theorem d_Search_init : l_Search_init.all (fun q => decide (decode prog_4_method_1_code q.1 = .ok (q.2.1, q.2.2))) = true := by decide +kernel
def m_Search_find : aj_M := (⟨"TestBench$PairSearch", "find", "(LTestBench$Machine;ILTestBench$Machine;I)Z"⟩, prog_4_method_2_code, 7, (some .boolean))
def l_Search_find : List (Nat × Instr × Nat) := [(0, .aload_n 0, 1), (1, .invokevirtual 42, 3), (4, .aload_n 0, 1), (5, .iload_n 2, 1), (6, .iload 4, 2), (8, .iconst (-1), 1), (9, .iconst (-1), 1), (10, .invokevirtual 45, 3), (13, .iconst 0, 1), (14, .istore 5, 2), (16, .iload 5, 2), (18, .bipush 100, 2), (20, .if_icmp .ge 109, 3), (23, .iload 5, 2), (25, .aload_n 0, 1), (26, .getfield 38, 3), (29, .if_icmp .ge 100, 3), (32, .iconst 0, 1), (33, .istore 6, 2), (35, .iload 6, 2), (37, .aload_n 1, 1), (38, .getfield 49, 3), (41, .if_icmp .ge 82, 3), (44, .aload_n 1, 1), (45, .aload_n 0, 1), (46, .getfield 18, 3), (49, .iload 5, 2), (51, .iaload, 1), (52, .iload 6, 2), (54, .invokevirtual 54, 3), (57, .aload_n 3, 1), (58, .aload_n 0, 1), (59, .getfield 22, 3), (62, .iload 5, 2), (64, .iaload, 1), (65, .iload 6, 2), (67, .invokevirtual 54, 3), (70, .if_icmp .eq 13, 3), (73, .aload_n 0, 1), (74, .iload 5, 2), (76, .iload 6, 2), (78, .invokevirtual 58, 3), (81, .iconst 1, 1), (82, .ireturn, 1), (83, .aload_n 0, 1), (84, .aload_n 1, 1), (85, .aload_n 0, 1), (86, .getfield 18, 3), (89, .iload 5, 2), (91, .iaload, 1), (92, .iload 6, 2), (94, .invokevirtual 62, 3), (97, .aload_n 3, 1), (98, .aload_n 0, 1), (99, .getfield 22, 3), (102, .iload 5, 2), (104, .iaload, 1), (105, .iload 6, 2), (107, .invokevirtual 62, 3), (110, .iload 5, 2), (112, .iload 6, 2), (114, .invokevirtual 45, 3), (117, .iinc 6 1, 3), (120, .goto (-85), 3), (123, .iinc 5 1, 3), (126, .goto (-110), 3), (129, .iconst 0, 1), (130, .ireturn, 1)]
set_option maxRecDepth 100000 in
theorem d_Search_find : l_Search_find.all (fun q => decide (decode prog_4_method_2_code q.1 = .ok (q.2.1, q.2.2))) = true := by decide +kernel
def m_Search_forget : aj_M := (⟨"TestBench$PairSearch", "forget", "()V"⟩, prog_4_method_3_code, 2, none)
def l_Search_forget : List (Nat × Instr × Nat) := [(0, .aload_n 0, 1), (1, .iconst 0, 1), (2, .putfield 38, 3), (5, .aload_n 0, 1), (6, .getfield 12, 3), (9, .iconst 0, 1), (10, .putfield 65, 3), (13, .iconst 0, 1), (14, .istore_n 1, 1), (15, .iload_n 1, 1), (16, .bipush 100, 2), (18, .if_icmp .ge 16, 3), (21, .aload_n 0, 1), (22, .getfield 34, 3), (25, .iload_n 1, 1), (26, .iconst 0, 1), (27, .bastore, 1), (28, .iinc 1 1, 3), (31, .goto (-16), 3), (34, .return_, 1)]
set_option maxRecDepth 100000 in
theorem d_Search_forget : l_Search_forget.all (fun q => decide (decode prog_4_method_3_code q.1 = .ok (q.2.1, q.2.2))) = true := by decide +kernel
def m_Search_reach : aj_M := (⟨"TestBench$PairSearch", "reach", "(IIII)V"⟩, prog_4_method_4_code, 6, none)
def l_Search_reach : List (Nat × Instr × Nat) := [(0, .iload_n 1, 1), (1, .bipush 10, 2), (3, .imul, 1), (4, .iload_n 2, 1), (5, .iadd, 1), (6, .istore 5, 2), (8, .aload_n 0, 1), (9, .getfield 34, 3), (12, .iload 5, 2), (14, .baload, 1), (15, .ifCond .eq 4, 3), (18, .return_, 1), (19, .aload_n 0, 1), (20, .getfield 34, 3), (23, .iload 5, 2), (25, .iconst 1, 1), (26, .bastore, 1), (27, .aload_n 0, 1), (28, .getfield 18, 3), (31, .aload_n 0, 1), (32, .getfield 38, 3), (35, .iload_n 1, 1), (36, .iastore, 1), (37, .aload_n 0, 1), (38, .getfield 22, 3), (41, .aload_n 0, 1), (42, .getfield 38, 3), (45, .iload_n 2, 1), (46, .iastore, 1), (47, .aload_n 0, 1), (48, .getfield 25, 3), (51, .aload_n 0, 1), (52, .getfield 38, 3), (55, .iload_n 3, 1), (56, .iastore, 1), (57, .aload_n 0, 1), (58, .getfield 28, 3), (61, .aload_n 0, 1), (62, .getfield 38, 3), (65, .iload 4, 2), (67, .iastore, 1), (68, .aload_n 0, 1), (69, .getfield 31, 3), (72, .aload_n 0, 1), (73, .getfield 38, 3), (76, .iload_n 3, 1), (77, .iconst (-1), 1), (78, .if_icmp .ne 7, 3), (81, .iconst 0, 1), (82, .goto 11, 3), (85, .aload_n 0, 1), (86, .getfield 31, 3), (89, .iload_n 3, 1), (90, .iaload, 1), (91, .iconst 1, 1), (92, .iadd, 1), (93, .iastore, 1), (94, .aload_n 0, 1), (95, .dup, 1), (96, .getfield 38, 3), (99, .iconst 1, 1), (100, .iadd, 1), (101, .putfield 38, 3), (104, .return_, 1)]
set_option maxRecDepth 100000 in
theorem d_Search_reach : l_Search_reach.all (fun q => decide (decode prog_4_method_4_code q.1 = .ok (q.2.1, q.2.2))) = true := by decide +kernel
def m_Search_spell : aj_M := (⟨"TestBench$PairSearch", "spell", "(II)V"⟩, prog_4_method_5_code, 5, none)
def l_Search_spell : List (Nat × Instr × Nat) := [(0, .aload_n 0, 1), (1, .getfield 12, 3), (4, .aload_n 0, 1), (5, .getfield 31, 3), (8, .iload_n 1, 1), (9, .iaload, 1), (10, .iconst 1, 1), (11, .iadd, 1), (12, .putfield 65, 3), (15, .aload_n 0, 1), (16, .getfield 12, 3), (19, .getfield 68, 3), (22, .aload_n 0, 1), (23, .getfield 31, 3), (26, .iload_n 1, 1), (27, .iaload, 1), (28, .iload_n 2, 1), (29, .iastore, 1), (30, .iload_n 1, 1), (31, .istore_n 3, 1), (32, .aload_n 0, 1), (33, .getfield 31, 3), (36, .iload_n 1, 1), (37, .iaload, 1), (38, .iconst 1, 1), (39, .isub, 1), (40, .istore 4, 2), (42, .iload 4, 2), (44, .ifCond .lt 32, 3), (47, .aload_n 0, 1), (48, .getfield 12, 3), (51, .getfield 68, 3), (54, .iload 4, 2), (56, .aload_n 0, 1), (57, .getfield 28, 3), (60, .iload_n 3, 1), (61, .iaload, 1), (62, .iastore, 1), (63, .aload_n 0, 1), (64, .getfield 25, 3), (67, .iload_n 3, 1), (68, .iaload, 1), (69, .istore_n 3, 1), (70, .iinc 4 (-1), 3), (73, .goto (-31), 3), (76, .return_, 1)]
set_option maxRecDepth 100000 in
theorem d_Search_spell : l_Search_spell.all (fun q => decide (decode prog_4_method_5_code q.1 = .ok (q.2.1, q.2.2))) = true := by decide +kernel
def m_Reduction_init : aj_M := (⟨"TestBench$Reduction", "<init>", "(I)V"⟩, prog_5_method_1_code, 2, none)
def l_Reduction_init : List (Nat × Instr × Nat) := [(0, .aload_n 0, 1), (1, .invokespecial 3, 3), (4, .aload_n 0, 1), (5, .bipush 8, 2), (7, .newarray .int, 2), (9, .putfield 9, 3), (12, .aload_n 0, 1), (13, .bipush 8, 2), (15, .newarray .int, 2), (17, .putfield 15, 3), (20, .aload_n 0, 1), (21, .bipush 8, 2), (23, .newarray .int, 2), (25, .putfield 18, 3), (28, .aload_n 0, 1), (29, .bipush 8, 2), (31, .newarray .int, 2), (33, .putfield 21, 3), (36, .aload_n 0, 1), (37, .bipush 8, 2), (39, .newarray .int, 2), (41, .putfield 24, 3), (44, .aload_n 0, 1), (45, .new 27, 3), (48, .dup, 1), (49, .bipush 8, 2), (51, .iconst 0, 1), (52, .iload_n 1, 1), (53, .invokespecial 29, 3), (56, .putfield 32, 3), (59, .return_, 1)]
set_option maxRecDepth 100000 in
theorem d_Reduction_init : l_Reduction_init.all (fun q => decide (decode prog_5_method_1_code q.1 = .ok (q.2.1, q.2.2))) = true := by decide +kernel
def m_Reduction_reduce : aj_M := (⟨"TestBench$Reduction", "reduce", "(LTestBench$Machine;ILTestBench$PairSearch;)V"⟩, prog_5_method_2_code, 7, none)
def l_Reduction_reduce : List (Nat × Instr × Nat) := [(0, .aload_n 0, 1), (1, .aload_n 1, 1), (2, .aload_n 3, 1), (3, .invokevirtual 36, 3), (6, .iconst 0, 1), (7, .istore 4, 2), (9, .iload 4, 2), (11, .aload_n 1, 1), (12, .getfield 40, 3), (15, .if_icmp .ge 17, 3), (18, .aload_n 0, 1), (19, .getfield 9, 3), (22, .iload 4, 2), (24, .iconst (-1), 1), (25, .iastore, 1), (26, .iinc 4 1, 3), (29, .goto (-20), 3), (32, .aload_n 0, 1), (33, .aload_n 0, 1), (34, .getfield 15, 3), (37, .iload_n 2, 1), (38, .iaload, 1), (39, .iconst (-1), 1), (40, .iconst (-1), 1), (41, .invokevirtual 44, 3), (44, .iconst 0, 1), (45, .istore 4, 2), (47, .iload 4, 2), (49, .bipush 8, 2), (51, .if_icmp .ge 111, 3), (54, .iload 4, 2), (56, .aload_n 0, 1), (57, .getfield 32, 3), (60, .getfield 40, 3), (63, .if_icmp .ge 99, 3), (66, .iconst 0, 1), (67, .istore 5, 2), (69, .iload 5, 2), (71, .aload_n 1, 1), (72, .getfield 47, 3), (75, .if_icmp .ge 81, 3), (78, .aload_n 0, 1), (79, .getfield 15, 3), (82, .aload_n 1, 1), (83, .aload_n 0, 1), (84, .getfield 18, 3), (87, .iload 4, 2), (89, .iaload, 1), (90, .iload 5, 2), (92, .invokevirtual 50, 3), (95, .iaload, 1), (96, .istore 6, 2), (98, .aload_n 0, 1), (99, .getfield 9, 3), (102, .iload 6, 2), (104, .iaload, 1), (105, .iconst (-1), 1), (106, .if_icmp .ne 13, 3), (109, .aload_n 0, 1), (110, .iload 6, 2), (112, .iload 4, 2), (114, .iload 5, 2), (116, .invokevirtual 44, 3), (119, .aload_n 0, 1), (120, .getfield 32, 3), (123, .iload 4, 2), (125, .iload 5, 2), (127, .aload_n 0, 1), (128, .getfield 9, 3), (131, .iload 6, 2), (133, .iaload, 1), (134, .aload_n 1, 1), (135, .aload_n 0, 1), (136, .getfield 18, 3), (139, .iload 4, 2), (141, .iaload, 1), (142, .iload 5, 2), (144, .invokevirtual 54, 3), (147, .invokevirtual 57, 3), (150, .iinc 5 1, 3), (153, .goto (-84), 3), (156, .iinc 4 1, 3), (159, .goto (-112), 3), (162, .iconst 0, 1), (163, .istore 4, 2), (165, .iload 4, 2), (167, .aload_n 1, 1), (168, .getfield 40, 3), (171, .if_icmp .ge 28, 3), (174, .aload_n 0, 1), (175, .getfield 9, 3), (178, .iload 4, 2), (180, .aload_n 0, 1), (181, .getfield 9, 3), (184, .aload_n 0, 1), (185, .getfield 15, 3), (188, .iload 4, 2), (190, .iaload, 1), (191, .iaload, 1), (192, .iastore, 1), (193, .iinc 4 1, 3), (196, .goto (-31), 3), (199, .return_, 1)]
set_option maxRecDepth 100000 in
theorem d_Reduction_reduce : l_Reduction_reduce.all (fun q => decide (decode prog_5_method_2_code q.1 = .ok (q.2.1, q.2.2))) = true := by decide +kernel
def m_Reduction_isAccess : aj_M := (⟨"TestBench$Reduction", "isAccess", "(II)Z"⟩, prog_5_method_3_code, 4, (some .boolean))
def l_Reduction_isAccess : List (Nat × Instr × Nat) := [(0, .aload_n 0, 1), (1, .getfield 32, 3), (4, .iload_n 1, 1), (5, .iload_n 2, 1), (6, .invokevirtual 50, 3), (9, .istore_n 3, 1), (10, .aload_n 0, 1), (11, .getfield 21, 3), (14, .iload_n 3, 1), (15, .iaload, 1), (16, .iload_n 1, 1), (17, .if_icmp .ne 17, 3), (20, .aload_n 0, 1), (21, .getfield 24, 3), (24, .iload_n 3, 1), (25, .iaload, 1), (26, .iload_n 2, 1), (27, .if_icmp .ne 7, 3), (30, .iconst 1, 1), (31, .goto 4, 3), (34, .iconst 0, 1), (35, .ireturn, 1)]
set_option maxRecDepth 100000 in
theorem d_Reduction_isAccess : l_Reduction_isAccess.all (fun q => decide (decode prog_5_method_3_code q.1 = .ok (q.2.1, q.2.2))) = true := by decide +kernel
def m_Reduction_findTwins : aj_M := (⟨"TestBench$Reduction", "findTwins", "(LTestBench$Machine;LTestBench$PairSearch;)V"⟩, prog_5_method_4_code, 5, none)
def l_Reduction_findTwins : List (Nat × Instr × Nat) := [(0, .iconst 0, 1), (1, .istore_n 3, 1), (2, .iload_n 3, 1), (3, .aload_n 1, 1), (4, .getfield 40, 3), (7, .if_icmp .ge 52, 3), (10, .aload_n 0, 1), (11, .getfield 15, 3), (14, .iload_n 3, 1), (15, .iload_n 3, 1), (16, .iastore, 1), (17, .iload_n 3, 1), (18, .iconst 1, 1), (19, .isub, 1), (20, .istore 4, 2), (22, .iload 4, 2), (24, .ifCond .lt 29, 3), (27, .aload_n 2, 1), (28, .aload_n 1, 1), (29, .iload_n 3, 1), (30, .aload_n 1, 1), (31, .iload 4, 2), (33, .invokevirtual 61, 3), (36, .ifCond .ne 11, 3), (39, .aload_n 0, 1), (40, .getfield 15, 3), (43, .iload_n 3, 1), (44, .iload 4, 2), (46, .iastore, 1), (47, .iinc 4 (-1), 3), (50, .goto (-28), 3), (53, .iinc 3 1, 3), (56, .goto (-54), 3), (59, .return_, 1)]
set_option maxRecDepth 100000 in
theorem d_Reduction_findTwins : l_Reduction_findTwins.all (fun q => decide (decode prog_5_method_4_code q.1 = .ok (q.2.1, q.2.2))) = true := by decide +kernel
def m_Reduction_addState : aj_M := (⟨"TestBench$Reduction", "addState", "(III)V"⟩, prog_5_method_5_code, 5, none)
def l_Reduction_addState : List (Nat × Instr × Nat) := [(0, .aload_n 0, 1), (1, .getfield 32, 3), (4, .getfield 40, 3), (7, .istore 4, 2), (9, .aload_n 0, 1), (10, .getfield 32, 3), (13, .iload 4, 2), (15, .iconst 1, 1), (16, .iadd, 1), (17, .putfield 40, 3), (20, .aload_n 0, 1), (21, .getfield 9, 3), (24, .iload_n 1, 1), (25, .iload 4, 2), (27, .iastore, 1), (28, .aload_n 0, 1), (29, .getfield 18, 3), (32, .iload 4, 2), (34, .iload_n 1, 1), (35, .iastore, 1), (36, .aload_n 0, 1), (37, .getfield 21, 3), (40, .iload 4, 2), (42, .iload_n 2, 1), (43, .iastore, 1), (44, .aload_n 0, 1), (45, .getfield 24, 3), (48, .iload 4, 2), (50, .iload_n 3, 1), (51, .iastore, 1), (52, .return_, 1)]
set_option maxRecDepth 100000 in
theorem d_Reduction_addState : l_Reduction_addState.all (fun q => decide (decode prog_5_method_5_code q.1 = .ok (q.2.1, q.2.2))) = true := by decide +kernel
def m_Suite_init : aj_M := (⟨"TestBench$Suite", "<init>", "(LTestBench$Reduction;LTestBench$Family;)V"⟩, prog_6_method_1_code, 3, none)
def l_Suite_init : List (Nat × Instr × Nat) := [(0, .aload_n 0, 1), (1, .invokespecial 3, 3), (4, .aload_n 0, 1), (5, .sipush 800, 3), (8, .newarray .int, 2), (10, .putfield 9, 3), (13, .aload_n 0, 1), (14, .sipush 800, 3), (17, .newarray .int, 2), (19, .putfield 15, 3), (22, .aload_n 0, 1), (23, .sipush 800, 3), (26, .newarray .int, 2), (28, .putfield 18, 3), (31, .aload_n 0, 1), (32, .sipush 800, 3), (35, .newarray .int, 2), (37, .putfield 21, 3), (40, .aload_n 0, 1), (41, .sipush 800, 3), (44, .newarray .int, 2), (46, .putfield 24, 3), (49, .aload_n 0, 1), (50, .sipush 800, 3), (53, .newarray .int, 2), (55, .putfield 27, 3), (58, .aload_n 0, 1), (59, .bipush 8, 2), (61, .newarray .int, 2), (63, .putfield 30, 3), (66, .aload_n 0, 1), (67, .bipush 13, 2), (69, .newarray .int, 2), (71, .putfield 33, 3), (74, .aload_n 0, 1), (75, .iconst 0, 1), (76, .putfield 36, 3), (79, .aload_n 0, 1), (80, .iconst 0, 1), (81, .putfield 40, 3), (84, .aload_n 0, 1), (85, .iconst 0, 1), (86, .putfield 43, 3), (89, .aload_n 0, 1), (90, .aload_n 1, 1), (91, .putfield 47, 3), (94, .aload_n 0, 1), (95, .aload_n 2, 1), (96, .putfield 51, 3), (99, .aload_n 0, 1), (100, .aload_n 1, 1), (101, .getfield 55, 3), (104, .putfield 61, 3), (107, .aload_n 0, 1), (108, .sipush 800, 3), (111, .aload_n 0, 1), (112, .getfield 61, 3), (115, .getfield 62, 3), (118, .imul, 1), (119, .newarray .int, 2), (121, .putfield 67, 3), (124, .return_, 1)]
set_option maxRecDepth 100000 in
theorem d_Suite_init : l_Suite_init.all (fun q => decide (decode prog_6_method_1_code q.1 = .ok (q.2.1, q.2.2))) = true := by decide +kernel
def m_Suite_isMade : aj_M := (⟨"TestBench$Suite", "isMade", "()Z"⟩, prog_6_method_2_code, 1, (some .boolean))
def l_Suite_isMade : List (Nat × Instr × Nat) := [(0, .aload_n 0, 1), (1, .getfield 36, 3), (4, .ifCond .le 7, 3), (7, .iconst 1, 1), (8, .goto 4, 3), (11, .iconst 0, 1), (12, .ireturn, 1)]
set_option maxRecDepth 100000 in
theorem d_Suite_isMade : l_Suite_isMade.all (fun q => decide (decode prog_6_method_2_code q.1 = .ok (q.2.1, q.2.2))) = true := by decide +kernel
def m_Suite_hasTest : aj_M := (⟨"TestBench$Suite", "hasTest", "(I)Z"⟩, prog_6_method_3_code, 2, (some .boolean))
def l_Suite_hasTest : List (Nat × Instr × Nat) := [(0, .iload_n 1, 1), (1, .ifCond .lt 15, 3), (4, .iload_n 1, 1), (5, .aload_n 0, 1), (6, .getfield 40, 3), (9, .if_icmp .ge 7, 3), (12, .iconst 1, 1), (13, .goto 4, 3), (16, .iconst 0, 1), (17, .ireturn, 1)]
set_option maxRecDepth 100000 in
theorem d_Suite_hasTest : l_Suite_hasTest.all (fun q => decide (decode prog_6_method_3_code q.1 = .ok (q.2.1, q.2.2))) = true := by decide +kernel
def m_Suite_lengthOf : aj_M := (⟨"TestBench$Suite", "lengthOf", "(I)I"⟩, prog_6_method_4_code, 2, (some .int))
def l_Suite_lengthOf : List (Nat × Instr × Nat) := [(0, .aload_n 0, 1), (1, .getfield 18, 3), (4, .aload_n 0, 1), (5, .getfield 24, 3), (8, .iload_n 1, 1), (9, .iaload, 1), (10, .iaload, 1), (11, .ireturn, 1)]
set_option maxRecDepth 100000 in
theorem d_Suite_lengthOf : l_Suite_lengthOf.all (fun q => decide (decode prog_6_method_4_code q.1 = .ok (q.2.1, q.2.2))) = true := by decide +kernel
def m_Suite_inputAt : aj_M := (⟨"TestBench$Suite", "inputAt", "(II)I"⟩, prog_6_method_5_code, 3, (some .int))
def l_Suite_inputAt : List (Nat × Instr × Nat) := [(0, .aload_n 0, 1), (1, .getfield 15, 3), (4, .aload_n 0, 1), (5, .iload_n 1, 1), (6, .iload_n 2, 1), (7, .invokevirtual 70, 3), (10, .iaload, 1), (11, .ireturn, 1)]
set_option maxRecDepth 100000 in
theorem d_Suite_inputAt : l_Suite_inputAt.all (fun q => decide (decode prog_6_method_5_code q.1 = .ok (q.2.1, q.2.2))) = true := by decide +kernel
def m_Suite_outputAt : aj_M := (⟨"TestBench$Suite", "outputAt", "(II)I"⟩, prog_6_method_6_code, 3, (some .int))
def l_Suite_outputAt : List (Nat × Instr × Nat) := [(0, .aload_n 0, 1), (1, .aload_n 0, 1), (2, .iload_n 1, 1), (3, .iload_n 2, 1), (4, .invokevirtual 70, 3), (7, .invokevirtual 74, 3), (10, .ireturn, 1)]
set_option maxRecDepth 100000 in
theorem d_Suite_outputAt : l_Suite_outputAt.all (fun q => decide (decode prog_6_method_6_code q.1 = .ok (q.2.1, q.2.2))) = true := by decide +kernel
def m_Suite_outputInto : aj_M := (⟨"TestBench$Suite", "outputInto", "(I)I"⟩, prog_6_method_7_code, 2, (some .int))
def l_Suite_outputInto : List (Nat × Instr × Nat) := [(0, .aload_n 0, 1), (1, .getfield 61, 3), (4, .aload_n 0, 1), (5, .getfield 21, 3), (8, .aload_n 0, 1), (9, .getfield 9, 3), (12, .iload_n 1, 1), (13, .iaload, 1), (14, .iaload, 1), (15, .aload_n 0, 1), (16, .getfield 15, 3), (19, .iload_n 1, 1), (20, .iaload, 1), (21, .invokevirtual 78, 3), (24, .ireturn, 1)]
set_option maxRecDepth 100000 in
theorem d_Suite_outputInto : l_Suite_outputInto.all (fun q => decide (decode prog_6_method_7_code q.1 = .ok (q.2.1, q.2.2))) = true := by decide +kernel
def m_Suite_transitions : aj_M := (⟨"TestBench$Suite", "transitions", "()I"⟩, prog_6_method_8_code, 3, (some .int))
def l_Suite_transitions : List (Nat × Instr × Nat) := [(0, .iconst 0, 1), (1, .istore_n 1, 1), (2, .iconst 1, 1), (3, .istore_n 2, 1), (4, .iload_n 2, 1), (5, .aload_n 0, 1), (6, .getfield 36, 3), (9, .if_icmp .ge 40, 3), (12, .iload_n 1, 1), (13, .iconst 1, 1), (14, .aload_n 0, 1), (15, .getfield 21, 3), (18, .aload_n 0, 1), (19, .getfield 9, 3), (22, .iload_n 2, 1), (23, .iaload, 1), (24, .iaload, 1), (25, .aload_n 0, 1), (26, .getfield 61, 3), (29, .getfield 62, 3), (32, .imul, 1), (33, .aload_n 0, 1), (34, .getfield 15, 3), (37, .iload_n 2, 1), (38, .iaload, 1), (39, .iadd, 1), (40, .ishl, 1), (41, .ior, 1), (42, .istore_n 1, 1), (43, .iinc 2 1, 3), (46, .goto (-42), 3), (49, .iload_n 1, 1), (50, .invokestatic 81, 3), (53, .ireturn, 1)]
set_option maxRecDepth 100000 in
theorem d_Suite_transitions : l_Suite_transitions.all (fun q => decide (decode prog_6_method_8_code q.1 = .ok (q.2.1, q.2.2))) = true := by decide +kernel
def m_Suite_build : aj_M := (⟨"TestBench$Suite", "build", "(II)Z"⟩, prog_6_method_9_code, 5, (some .boolean))
def l_Suite_build : List (Nat × Instr × Nat) := [(0, .aload_n 0, 1), (1, .iconst 0, 1), (2, .putfield 36, 3), (5, .aload_n 0, 1), (6, .iconst 0, 1), (7, .putfield 40, 3), (10, .aload_n 0, 1), (11, .iconst 1, 1), (12, .putfield 43, 3), (15, .aload_n 0, 1), (16, .iconst (-1), 1), (17, .iconst (-1), 1), (18, .iconst 0, 1), (19, .invokevirtual 86, 3), (22, .iconst 0, 1), (23, .istore_n 3, 1), (24, .iload_n 3, 1), (25, .aload_n 0, 1), (26, .getfield 61, 3), (29, .getfield 90, 3), (32, .if_icmp .ge 62, 3), (35, .aload_n 0, 1), (36, .getfield 30, 3), (39, .iload_n 3, 1), (40, .iload_n 3, 1), (41, .ifCond .ne 7, 3), (44, .iconst 0, 1), (45, .goto 30, 3), (48, .aload_n 0, 1), (49, .aload_n 0, 1), (50, .getfield 30, 3), (53, .aload_n 0, 1), (54, .getfield 47, 3), (57, .getfield 93, 3), (60, .iload_n 3, 1), (61, .iaload, 1), (62, .iaload, 1), (63, .aload_n 0, 1), (64, .getfield 47, 3), (67, .getfield 96, 3), (70, .iload_n 3, 1), (71, .iaload, 1), (72, .invokevirtual 97, 3), (75, .iastore, 1), (76, .aload_n 0, 1), (77, .aload_n 0, 1), (78, .getfield 30, 3), (81, .iload_n 3, 1), (82, .iaload, 1), (83, .iload_n 2, 1), (84, .iconst 0, 1), (85, .invokevirtual 100, 3), (88, .iinc 3 1, 3), (91, .goto (-67), 3), (94, .iconst 0, 1), (95, .istore_n 3, 1), (96, .iload_n 3, 1), (97, .aload_n 0, 1), (98, .getfield 61, 3), (101, .getfield 90, 3), (104, .if_icmp .ge 70, 3), (107, .iconst 0, 1), (108, .istore 4, 2), (110, .iload 4, 2), (112, .aload_n 0, 1), (113, .getfield 61, 3), (116, .getfield 62, 3), (119, .if_icmp .ge 49, 3), (122, .aload_n 0, 1), (123, .getfield 47, 3), (126, .iload_n 3, 1), (127, .iload 4, 2), (129, .invokevirtual 104, 3), (132, .ifCond .ne 30, 3), (135, .aload_n 0, 1), (136, .aload_n 0, 1), (137, .aload_n 0, 1), (138, .getfield 30, 3), (141, .iload_n 3, 1), (142, .iaload, 1), (143, .iload 4, 2), (145, .invokevirtual 97, 3), (148, .iload_n 2, 1), (149, .iload_n 1, 1), (150, .iconst 1, 1), (151, .if_icmp .ne 7, 3), (154, .iconst 1, 1), (155, .goto 4, 3), (158, .iconst 0, 1), (159, .invokevirtual 100, 3), (162, .iinc 4 1, 3), (165, .goto (-55), 3), (168, .iinc 3 1, 3), (171, .goto (-75), 3), (174, .aload_n 0, 1), (175, .getfield 43, 3), (178, .ifCond .eq 7, 3), (181, .aload_n 0, 1), (182, .invokevirtual 108, 3), (185, .aload_n 0, 1), (186, .getfield 43, 3), (189, .ireturn, 1)]
set_option maxRecDepth 100000 in
theorem d_Suite_build : l_Suite_build.all (fun q => decide (decode prog_6_method_9_code q.1 = .ok (q.2.1, q.2.2))) = true := by decide +kernel
def m_Suite_grow : aj_M := (⟨"TestBench$Suite", "grow", "(IIZ)V"⟩, prog_6_method_10_code, 10, none)
def l_Suite_grow : List (Nat × Instr × Nat) := [(0, .iconst 0, 1), (1, .istore 4, 2), (3, .iconst 1, 1), (4, .istore 5, 2), (6, .aload_n 0, 1), (7, .getfield 33, 3), (10, .iconst 0, 1), (11, .iload_n 1, 1), (12, .iastore, 1), (13, .iconst 0, 1), (14, .istore 6, 2), (16, .aload_n 0, 1), (17, .getfield 43, 3), (20, .ifCond .eq 129, 3), (23, .iload 6, 2), (25, .iload_n 2, 1), (26, .if_icmp .gt 123, 3), (29, .iload 5, 2), (31, .istore 7, 2), (33, .iload 4, 2), (35, .istore 8, 2), (37, .iload 8, 2), (39, .iload 5, 2), (41, .if_icmp .ge 94, 3), (44, .iload_n 3, 1), (45, .ifCond .ne 17, 3), (48, .aload_n 0, 1), (49, .aload_n 0, 1), (50, .getfield 33, 3), (53, .iload 8, 2), (55, .iaload, 1), (56, .invokevirtual 111, 3), (59, .goto 20, 3), (62, .iload 6, 2), (64, .iload_n 2, 1), (65, .if_icmp .ne 14, 3), (68, .aload_n 0, 1), (69, .aload_n 0, 1), (70, .getfield 33, 3), (73, .iload 8, 2), (75, .iaload, 1), (76, .invokevirtual 115, 3), (79, .iconst 0, 1), (80, .istore 9, 2), (82, .iload 6, 2), (84, .iload_n 2, 1), (85, .if_icmp .ge 44, 3), (88, .iload 9, 2), (90, .aload_n 0, 1), (91, .getfield 61, 3), (94, .getfield 62, 3), (97, .if_icmp .ge 32, 3), (100, .aload_n 0, 1), (101, .getfield 33, 3), (104, .iload 7, 2), (106, .aload_n 0, 1), (107, .aload_n 0, 1), (108, .getfield 33, 3), (111, .iload 8, 2), (113, .iaload, 1), (114, .iload 9, 2), (116, .invokevirtual 97, 3), (119, .iastore, 1), (120, .iinc 7 1, 3), (123, .iinc 9 1, 3), (126, .goto (-44), 3), (129, .iinc 8 1, 3), (132, .goto (-95), 3), (135, .iload 5, 2), (137, .istore 4, 2), (139, .iload 7, 2), (141, .istore 5, 2), (143, .iinc 6 1, 3), (146, .goto (-130), 3), (149, .return_, 1)]
set_option maxRecDepth 100000 in
theorem d_Suite_grow : l_Suite_grow.all (fun q => decide (decode prog_6_method_10_code q.1 = .ok (q.2.1, q.2.2))) = true := by decide +kernel
def m_Suite_addFamily : aj_M := (⟨"TestBench$Suite", "addFamily", "(I)V"⟩, prog_6_method_11_code, 3, none)
def l_Suite_addFamily : List (Nat × Instr × Nat) := [(0, .iconst 0, 1), (1, .istore_n 2, 1), (2, .iload_n 2, 1), (3, .aload_n 0, 1), (4, .getfield 51, 3), (7, .getfield 118, 3), (10, .if_icmp .ge 23, 3), (13, .aload_n 0, 1), (14, .iload_n 1, 1), (15, .aload_n 0, 1), (16, .getfield 51, 3), (19, .getfield 121, 3), (22, .iload_n 2, 1), (23, .aaload, 1), (24, .invokevirtual 125, 3), (27, .iinc 2 1, 3), (30, .goto (-28), 3), (33, .return_, 1)]
set_option maxRecDepth 100000 in
theorem d_Suite_addFamily : l_Suite_addFamily.all (fun q => decide (decode prog_6_method_11_code q.1 = .ok (q.2.1, q.2.2))) = true := by decide +kernel
def m_Suite_addOwn : aj_M := (⟨"TestBench$Suite", "addOwn", "(I)V"⟩, prog_6_method_12_code, 4, none)
def l_Suite_addOwn : List (Nat × Instr × Nat) := [(0, .aload_n 0, 1), (1, .getfield 21, 3), (4, .iload_n 1, 1), (5, .iaload, 1), (6, .istore_n 2, 1), (7, .iconst 0, 1), (8, .istore_n 3, 1), (9, .iload_n 3, 1), (10, .aload_n 0, 1), (11, .getfield 51, 3), (14, .getfield 129, 3), (17, .iload_n 2, 1), (18, .iaload, 1), (19, .if_icmp .ge 33, 3), (22, .aload_n 0, 1), (23, .iload_n 1, 1), (24, .aload_n 0, 1), (25, .getfield 51, 3), (28, .getfield 121, 3), (31, .aload_n 0, 1), (32, .getfield 51, 3), (35, .getfield 132, 3), (38, .iload_n 2, 1), (39, .aaload, 1), (40, .iload_n 3, 1), (41, .iaload, 1), (42, .aaload, 1), (43, .invokevirtual 125, 3), (46, .iinc 3 1, 3), (49, .goto (-40), 3), (52, .return_, 1)]
set_option maxRecDepth 100000 in
theorem d_Suite_addOwn : l_Suite_addOwn.all (fun q => decide (decode prog_6_method_12_code q.1 = .ok (q.2.1, q.2.2))) = true := by decide +kernel
def m_Suite_addWord : aj_M := (⟨"TestBench$Suite", "addWord", "(ILTestBench$Word;)V"⟩, prog_6_method_13_code, 5, none)
def l_Suite_addWord : List (Nat × Instr × Nat) := [(0, .iload_n 1, 1), (1, .istore_n 3, 1), (2, .iconst 0, 1), (3, .istore 4, 2), (5, .iload 4, 2), (7, .aload_n 2, 1), (8, .getfield 136, 3), (11, .if_icmp .ge 22, 3), (14, .aload_n 0, 1), (15, .iload_n 3, 1), (16, .aload_n 2, 1), (17, .getfield 141, 3), (20, .iload 4, 2), (22, .iaload, 1), (23, .invokevirtual 97, 3), (26, .istore_n 3, 1), (27, .iinc 4 1, 3), (30, .goto (-25), 3), (33, .return_, 1)]
set_option maxRecDepth 100000 in
theorem d_Suite_addWord : l_Suite_addWord.all (fun q => decide (decode prog_6_method_13_code q.1 = .ok (q.2.1, q.2.2))) = true := by decide +kernel
def m_Suite_enter : aj_M := (⟨"TestBench$Suite", "enter", "(II)I"⟩, prog_6_method_14_code, 4, (some .int))
def l_Suite_enter : List (Nat × Instr × Nat) := [(0, .iload_n 1, 1), (1, .aload_n 0, 1), (2, .getfield 61, 3), (5, .getfield 62, 3), (8, .imul, 1), (9, .iload_n 2, 1), (10, .iadd, 1), (11, .istore_n 3, 1), (12, .aload_n 0, 1), (13, .getfield 67, 3), (16, .iload_n 3, 1), (17, .iaload, 1), (18, .iconst (-1), 1), (19, .if_icmp .ne 50, 3), (22, .aload_n 0, 1), (23, .getfield 36, 3), (26, .sipush 800, 3), (29, .if_icmp .ne 10, 3), (32, .aload_n 0, 1), (33, .iconst 0, 1), (34, .putfield 43, 3), (37, .iload_n 1, 1), (38, .ireturn, 1), (39, .aload_n 0, 1), (40, .getfield 67, 3), (43, .iload_n 3, 1), (44, .aload_n 0, 1), (45, .getfield 36, 3), (48, .iastore, 1), (49, .aload_n 0, 1), (50, .iload_n 1, 1), (51, .iload_n 2, 1), (52, .aload_n 0, 1), (53, .getfield 61, 3), (56, .aload_n 0, 1), (57, .getfield 21, 3), (60, .iload_n 1, 1), (61, .iaload, 1), (62, .iload_n 2, 1), (63, .invokevirtual 144, 3), (66, .invokevirtual 86, 3), (69, .aload_n 0, 1), (70, .getfield 67, 3), (73, .iload_n 3, 1), (74, .iaload, 1), (75, .ireturn, 1)]
set_option maxRecDepth 100000 in
theorem d_Suite_enter : l_Suite_enter.all (fun q => decide (decode prog_6_method_14_code q.1 = .ok (q.2.1, q.2.2))) = true := by decide +kernel
def m_Suite_addNode : aj_M := (⟨"TestBench$Suite", "addNode", "(III)V"⟩, prog_6_method_15_code, 5, none)
def l_Suite_addNode : List (Nat × Instr × Nat) := [(0, .aload_n 0, 1), (1, .getfield 9, 3), (4, .aload_n 0, 1), (5, .getfield 36, 3), (8, .iload_n 1, 1), (9, .iastore, 1), (10, .aload_n 0, 1), (11, .getfield 15, 3), (14, .aload_n 0, 1), (15, .getfield 36, 3), (18, .iload_n 2, 1), (19, .iastore, 1), (20, .aload_n 0, 1), (21, .getfield 18, 3), (24, .aload_n 0, 1), (25, .getfield 36, 3), (28, .iload_n 1, 1), (29, .iconst (-1), 1), (30, .if_icmp .ne 7, 3), (33, .iconst 0, 1), (34, .goto 11, 3), (37, .aload_n 0, 1), (38, .getfield 18, 3), (41, .iload_n 1, 1), (42, .iaload, 1), (43, .iconst 1, 1), (44, .iadd, 1), (45, .iastore, 1), (46, .aload_n 0, 1), (47, .getfield 21, 3), (50, .aload_n 0, 1), (51, .getfield 36, 3), (54, .iload_n 3, 1), (55, .iastore, 1), (56, .iconst 0, 1), (57, .istore 4, 2), (59, .iload 4, 2), (61, .aload_n 0, 1), (62, .getfield 61, 3), (65, .getfield 62, 3), (68, .if_icmp .ge 30, 3), (71, .aload_n 0, 1), (72, .getfield 67, 3), (75, .aload_n 0, 1), (76, .getfield 36, 3), (79, .aload_n 0, 1), (80, .getfield 61, 3), (83, .getfield 62, 3), (86, .imul, 1), (87, .iload 4, 2), (89, .iadd, 1), (90, .iconst (-1), 1), (91, .iastore, 1), (92, .iinc 4 1, 3), (95, .goto (-36), 3), (98, .aload_n 0, 1), (99, .dup, 1), (100, .getfield 36, 3), (103, .iconst 1, 1), (104, .iadd, 1), (105, .putfield 36, 3), (108, .return_, 1)]
set_option maxRecDepth 100000 in
theorem d_Suite_addNode : l_Suite_addNode.all (fun q => decide (decode prog_6_method_15_code q.1 = .ok (q.2.1, q.2.2))) = true := by decide +kernel
def m_Suite_orderTests : aj_M := (⟨"TestBench$Suite", "orderTests", "()V"⟩, prog_6_method_16_code, 7, none)
def l_Suite_orderTests : List (Nat × Instr × Nat) := [(0, .iconst 1, 1), (1, .istore_n 1, 1), (2, .aload_n 0, 1), (3, .getfield 27, 3), (6, .iconst 0, 1), (7, .iconst 0, 1), (8, .iastore, 1), (9, .iconst 0, 1), (10, .istore_n 2, 1), (11, .iload_n 2, 1), (12, .aload_n 0, 1), (13, .getfield 36, 3), (16, .if_icmp .ge 110, 3), (19, .iload_n 1, 1), (20, .ifCond .le 106, 3), (23, .iinc 1 (-1), 3), (26, .aload_n 0, 1), (27, .getfield 27, 3), (30, .iload_n 1, 1), (31, .iaload, 1), (32, .istore_n 3, 1), (33, .iload_n 1, 1), (34, .istore 4, 2), (36, .aload_n 0, 1), (37, .getfield 61, 3), (40, .getfield 62, 3), (43, .iconst 1, 1), (44, .isub, 1), (45, .istore 5, 2), (47, .iload 5, 2), (49, .ifCond .lt 45, 3), (52, .aload_n 0, 1), (53, .getfield 67, 3), (56, .iload_n 3, 1), (57, .aload_n 0, 1), (58, .getfield 61, 3), (61, .getfield 62, 3), (64, .imul, 1), (65, .iload 5, 2), (67, .iadd, 1), (68, .iaload, 1), (69, .istore 6, 2), (71, .iload 6, 2), (73, .iconst (-1), 1), (74, .if_icmp .eq 14, 3), (77, .aload_n 0, 1), (78, .getfield 27, 3), (81, .iload_n 1, 1), (82, .iload 6, 2), (84, .iastore, 1), (85, .iinc 1 1, 3), (88, .iinc 5 (-1), 3), (91, .goto (-44), 3), (94, .iload_n 1, 1), (95, .iload 4, 2), (97, .if_icmp .ne 23, 3), (100, .aload_n 0, 1), (101, .getfield 24, 3), (104, .aload_n 0, 1), (105, .getfield 40, 3), (108, .iload_n 3, 1), (109, .iastore, 1), (110, .aload_n 0, 1), (111, .dup, 1), (112, .getfield 40, 3), (115, .iconst 1, 1), (116, .iadd, 1), (117, .putfield 40, 3), (120, .iinc 2 1, 3), (123, .goto (-112), 3), (126, .return_, 1)]
set_option maxRecDepth 100000 in
theorem d_Suite_orderTests : l_Suite_orderTests.all (fun q => decide (decode prog_6_method_16_code q.1 = .ok (q.2.1, q.2.2))) = true := by decide +kernel
def m_Suite_behindInput : aj_M := (⟨"TestBench$Suite", "behindInput", "(II)I"⟩, prog_6_method_17_code, 5, (some .int))
def l_Suite_behindInput : List (Nat × Instr × Nat) := [(0, .aload_n 0, 1), (1, .getfield 24, 3), (4, .iload_n 1, 1), (5, .iaload, 1), (6, .istore_n 3, 1), (7, .aload_n 0, 1), (8, .getfield 18, 3), (11, .iload_n 3, 1), (12, .iaload, 1), (13, .istore 4, 2), (15, .iload 4, 2), (17, .iload_n 2, 1), (18, .iconst 1, 1), (19, .iadd, 1), (20, .if_icmp .le 16, 3), (23, .aload_n 0, 1), (24, .getfield 9, 3), (27, .iload_n 3, 1), (28, .iaload, 1), (29, .istore_n 3, 1), (30, .iinc 4 (-1), 3), (33, .goto (-18), 3), (36, .iload_n 3, 1), (37, .ireturn, 1)]
set_option maxRecDepth 100000 in
theorem d_Suite_behindInput : l_Suite_behindInput.all (fun q => decide (decode prog_6_method_17_code q.1 = .ok (q.2.1, q.2.2))) = true := by decide +kernel
def m_Trial_init : aj_M := (⟨"TestBench$Trial", "<init>", "()V"⟩, prog_7_method_1_code, 1, none)
def l_Trial_init : List (Nat × Instr × Nat) := [(0, .aload_n 0, 1), (1, .invokespecial 3, 3), (4, .aload_n 0, 1), (5, .sipush 800, 3), (8, .newarray .int, 2), (10, .putfield 9, 3), (13, .aload_n 0, 1), (14, .sipush 800, 3), (17, .newarray .int, 2), (19, .putfield 15, 3), (22, .return_, 1)]
set_option maxRecDepth 100000 in
theorem d_Trial_init : l_Trial_init.all (fun q => decide (decode prog_7_method_1_code q.1 = .ok (q.2.1, q.2.2))) = true := by decide +kernel
def m_Trial_firstFailure : aj_M := (⟨"TestBench$Trial", "firstFailure", "(LTestBench$Suite;LTestBench$Machine;)I"⟩, prog_7_method_2_code, 4, (some .int))
def l_Trial_firstFailure : List (Nat × Instr × Nat) := [(0, .aload_n 0, 1), (1, .getfield 9, 3), (4, .iconst 0, 1), (5, .iconst 0, 1), (6, .iastore, 1), (7, .aload_n 0, 1), (8, .getfield 15, 3), (11, .iconst 0, 1), (12, .iconst (-1), 1), (13, .iastore, 1), (14, .iconst 1, 1), (15, .istore_n 3, 1), (16, .iload_n 3, 1), (17, .aload_n 1, 1), (18, .getfield 18, 3), (21, .if_icmp .ge 16, 3), (24, .aload_n 0, 1), (25, .aload_n 1, 1), (26, .aload_n 2, 1), (27, .iload_n 3, 1), (28, .invokevirtual 24, 3), (31, .iinc 3 1, 3), (34, .goto (-18), 3), (37, .iconst 0, 1), (38, .istore_n 3, 1), (39, .iload_n 3, 1), (40, .aload_n 1, 1), (41, .getfield 28, 3), (44, .if_icmp .ge 21, 3), (47, .aload_n 0, 1), (48, .aload_n 1, 1), (49, .iload_n 3, 1), (50, .invokevirtual 31, 3), (53, .iconst (-1), 1), (54, .if_icmp .eq 5, 3), (57, .iload_n 3, 1), (58, .ireturn, 1), (59, .iinc 3 1, 3), (62, .goto (-23), 3), (65, .iconst (-1), 1), (66, .ireturn, 1)]
set_option maxRecDepth 100000 in
theorem d_Trial_firstFailure : l_Trial_firstFailure.all (fun q => decide (decode prog_7_method_2_code q.1 = .ok (q.2.1, q.2.2))) = true := by decide +kernel
def m_Trial_placeOf : aj_M := (⟨"TestBench$Trial", "placeOf", "(LTestBench$Suite;I)I"⟩, prog_7_method_3_code, 3, (some .int))
def l_Trial_placeOf : List (Nat × Instr × Nat) := [(0, .aload_n 0, 1), (1, .getfield 15, 3), (4, .aload_n 1, 1), (5, .getfield 35, 3), (8, .iload_n 2, 1), (9, .iaload, 1), (10, .iaload, 1), (11, .ireturn, 1)]
set_option maxRecDepth 100000 in
theorem d_Trial_placeOf : l_Trial_placeOf.all (fun q => decide (decode prog_7_method_3_code q.1 = .ok (q.2.1, q.2.2))) = true := by decide +kernel
def m_Trial_step : aj_M := (⟨"TestBench$Trial", "step", "(LTestBench$Suite;LTestBench$Machine;I)V"⟩, prog_7_method_4_code, 6, none)
def l_Trial_step : List (Nat × Instr × Nat) := [(0, .aload_n 1, 1), (1, .getfield 38, 3), (4, .iload_n 3, 1), (5, .iaload, 1), (6, .istore 4, 2), (8, .aload_n 1, 1), (9, .getfield 41, 3), (12, .iload_n 3, 1), (13, .iaload, 1), (14, .istore 5, 2), (16, .aload_n 0, 1), (17, .getfield 9, 3), (20, .iload_n 3, 1), (21, .aload_n 2, 1), (22, .aload_n 0, 1), (23, .getfield 9, 3), (26, .iload 4, 2), (28, .iaload, 1), (29, .iload 5, 2), (31, .invokevirtual 44, 3), (34, .iastore, 1), (35, .aload_n 0, 1), (36, .getfield 15, 3), (39, .iload_n 3, 1), (40, .aload_n 0, 1), (41, .getfield 15, 3), (44, .iload 4, 2), (46, .iaload, 1), (47, .iastore, 1), (48, .aload_n 0, 1), (49, .getfield 15, 3), (52, .iload 4, 2), (54, .iaload, 1), (55, .iconst (-1), 1), (56, .if_icmp .ne 38, 3), (59, .aload_n 2, 1), (60, .aload_n 0, 1), (61, .getfield 9, 3), (64, .iload 4, 2), (66, .iaload, 1), (67, .iload 5, 2), (69, .invokevirtual 50, 3), (72, .aload_n 1, 1), (73, .iload_n 3, 1), (74, .invokevirtual 53, 3), (77, .if_icmp .eq 17, 3), (80, .aload_n 0, 1), (81, .getfield 15, 3), (84, .iload_n 3, 1), (85, .aload_n 1, 1), (86, .getfield 57, 3), (89, .iload_n 3, 1), (90, .iaload, 1), (91, .iconst 1, 1), (92, .isub, 1), (93, .iastore, 1), (94, .return_, 1)]
set_option maxRecDepth 100000 in
theorem d_Trial_step : l_Trial_step.all (fun q => decide (decode prog_7_method_4_code q.1 = .ok (q.2.1, q.2.2))) = true := by decide +kernel
def m_Word_init : aj_M := (⟨"TestBench$Word", "<init>", "()V"⟩, prog_8_method_1_code, 1, none)
def l_Word_init : List (Nat × Instr × Nat) := [(0, .aload_n 0, 1), (1, .invokespecial 3, 3), (4, .aload_n 0, 1), (5, .bipush 100, 2), (7, .newarray .int, 2), (9, .putfield 9, 3), (12, .aload_n 0, 1), (13, .iconst 0, 1), (14, .putfield 15, 3), (17, .return_, 1)]
set_option maxRecDepth 100000 in
theorem d_Word_init : l_Word_init.all (fun q => decide (decode prog_8_method_1_code q.1 = .ok (q.2.1, q.2.2))) = true := by decide +kernel
def m_Word_at : aj_M := (⟨"TestBench$Word", "at", "(I)I"⟩, prog_8_method_2_code, 2, (some .int))
def l_Word_at : List (Nat × Instr × Nat) := [(0, .iload_n 1, 1), (1, .ifCond .lt 20, 3), (4, .iload_n 1, 1), (5, .aload_n 0, 1), (6, .getfield 15, 3), (9, .if_icmp .ge 12, 3), (12, .aload_n 0, 1), (13, .getfield 9, 3), (16, .iload_n 1, 1), (17, .iaload, 1), (18, .goto 4, 3), (21, .iconst (-1), 1), (22, .ireturn, 1)]
set_option maxRecDepth 100000 in
theorem d_Word_at : l_Word_at.all (fun q => decide (decode prog_8_method_2_code q.1 = .ok (q.2.1, q.2.2))) = true := by decide +kernel
def m_Word_copy : aj_M := (⟨"TestBench$Word", "copy", "(LTestBench$Word;)V"⟩, prog_8_method_3_code, 2, none)
def l_Word_copy : List (Nat × Instr × Nat) := [(0, .aload_n 0, 1), (1, .aload_n 1, 1), (2, .getfield 15, 3), (5, .putfield 15, 3), (8, .aload_n 1, 1), (9, .getfield 9, 3), (12, .iconst 0, 1), (13, .aload_n 0, 1), (14, .getfield 9, 3), (17, .iconst 0, 1), (18, .aload_n 0, 1), (19, .getfield 15, 3), (22, .invokestatic 19, 3), (25, .return_, 1)]
set_option maxRecDepth 100000 in
theorem d_Word_copy : l_Word_copy.all (fun q => decide (decode prog_8_method_3_code q.1 = .ok (q.2.1, q.2.2))) = true := by decide +kernel
def m_Law_cell : aj_M := (⟨"TestBenchLaw", "cell", "([II)I"⟩, method_2_code, 2, (some .int))
def l_Law_cell : List (Nat × Instr × Nat) := [(0, .iload_n 1, 1), (1, .aload_n 0, 1), (2, .arraylength, 1), (3, .if_icmp .ge 9, 3), (6, .aload_n 0, 1), (7, .iload_n 1, 1), (8, .iaload, 1), (9, .goto 4, 3), (12, .iconst 0, 1), (13, .ireturn, 1)]
set_option maxRecDepth 100000 in
theorem d_Law_cell : l_Law_cell.all (fun q => decide (decode method_2_code q.1 = .ok (q.2.1, q.2.2))) = true := by decide +kernel
def m_Law_edge : aj_M := (⟨"TestBenchLaw", "edge", "(LTestBench;IIII)I"⟩, method_3_code, 6, (some .int))
def l_Law_edge : List (Nat × Instr × Nat) := [(0, .aload_n 0, 1), (1, .iload_n 1, 1), (2, .iload_n 2, 1), (3, .iload_n 3, 1), (4, .iload 4, 2), (6, .invokevirtual 7, 3), (9, .goto 11, 3), (12, .astore 5, 2), (14, .iconst 1, 1), (15, .ireturn, 1), (16, .astore 5, 2), (18, .iconst 2, 1), (19, .ireturn, 1), (20, .iconst 0, 1), (21, .ireturn, 1)]
set_option maxRecDepth 100000 in
theorem d_Law_edge : l_Law_edge.all (fun q => decide (decode method_3_code q.1 = .ok (q.2.1, q.2.2))) = true := by decide +kernel
def m_Law_start : aj_M := (⟨"TestBenchLaw", "start", "(LTestBench;I)I"⟩, method_4_code, 3, (some .int))
def l_Law_start : List (Nat × Instr × Nat) := [(0, .aload_n 0, 1), (1, .iload_n 1, 1), (2, .invokevirtual 17, 3), (5, .goto 9, 3), (8, .astore_n 2, 1), (9, .iconst 1, 1), (10, .ireturn, 1), (11, .astore_n 2, 1), (12, .iconst 2, 1), (13, .ireturn, 1), (14, .iconst 0, 1), (15, .ireturn, 1)]
set_option maxRecDepth 100000 in
theorem d_Law_start : l_Law_start.all (fun q => decide (decode method_4_code q.1 = .ok (q.2.1, q.2.2))) = true := by decide +kernel
def m_Law_seal : aj_M := (⟨"TestBenchLaw", "seal", "(LTestBench;[J)I"⟩, method_5_code, 3, (some .int))
def l_Law_seal : List (Nat × Instr × Nat) := [(0, .aload_n 1, 1), (1, .iconst 0, 1), (2, .aload_n 0, 1), (3, .invokevirtual 21, 3), (6, .i2l, 1), (7, .lastore, 1), (8, .goto 6, 3), (11, .astore_n 2, 1), (12, .iconst 1, 1), (13, .ireturn, 1), (14, .iconst 0, 1), (15, .ireturn, 1)]
set_option maxRecDepth 100000 in
theorem d_Law_seal : l_Law_seal.all (fun q => decide (decode method_5_code q.1 = .ok (q.2.1, q.2.2))) = true := by decide +kernel
def m_Law_apart : aj_M := (⟨"TestBenchLaw", "apart", "(LTestBench;II[J)I"⟩, method_6_code, 5, (some .int))
def l_Law_apart : List (Nat × Instr × Nat) := [(0, .aload_n 3, 1), (1, .iconst 0, 1), (2, .aload_n 0, 1), (3, .iload_n 1, 1), (4, .iload_n 2, 1), (5, .invokevirtual 25, 3), (8, .i2l, 1), (9, .lastore, 1), (10, .goto 11, 3), (13, .astore 4, 2), (15, .iconst 1, 1), (16, .ireturn, 1), (17, .astore 4, 2), (19, .iconst 2, 1), (20, .ireturn, 1), (21, .iconst 0, 1), (22, .ireturn, 1)]
set_option maxRecDepth 100000 in
theorem d_Law_apart : l_Law_apart.all (fun q => decide (decode method_6_code q.1 = .ok (q.2.1, q.2.2))) = true := by decide +kernel
def m_Law_suite : aj_M := (⟨"TestBenchLaw", "suite", "(LTestBench;II[J)I"⟩, method_7_code, 5, (some .int))
def l_Law_suite : List (Nat × Instr × Nat) := [(0, .aload_n 3, 1), (1, .iconst 0, 1), (2, .aload_n 0, 1), (3, .iload_n 1, 1), (4, .iload_n 2, 1), (5, .invokevirtual 29, 3), (8, .i2l, 1), (9, .lastore, 1), (10, .goto 15, 3), (13, .astore 4, 2), (15, .iconst 1, 1), (16, .ireturn, 1), (17, .astore 4, 2), (19, .iconst 2, 1), (20, .ireturn, 1), (21, .astore 4, 2), (23, .iconst 3, 1), (24, .ireturn, 1), (25, .iconst 0, 1), (26, .ireturn, 1)]
set_option maxRecDepth 100000 in
theorem d_Law_suite : l_Law_suite.all (fun q => decide (decode method_7_code q.1 = .ok (q.2.1, q.2.2))) = true := by decide +kernel
def m_Law_resize : aj_M := (⟨"TestBenchLaw", "resize", "(LTestBench;I)I"⟩, method_8_code, 3, (some .int))
def l_Law_resize : List (Nat × Instr × Nat) := [(0, .aload_n 0, 1), (1, .iload_n 1, 1), (2, .invokevirtual 34, 3), (5, .goto 9, 3), (8, .astore_n 2, 1), (9, .iconst 1, 1), (10, .ireturn, 1), (11, .astore_n 2, 1), (12, .iconst 2, 1), (13, .ireturn, 1), (14, .iconst 0, 1), (15, .ireturn, 1)]
set_option maxRecDepth 100000 in
theorem d_Law_resize : l_Law_resize.all (fun q => decide (decode method_8_code q.1 = .ok (q.2.1, q.2.2))) = true := by decide +kernel
def m_Law_change : aj_M := (⟨"TestBenchLaw", "change", "(LTestBench;IIII)I"⟩, method_9_code, 6, (some .int))
def l_Law_change : List (Nat × Instr × Nat) := [(0, .aload_n 0, 1), (1, .iload_n 1, 1), (2, .iload_n 2, 1), (3, .iload_n 3, 1), (4, .iload 4, 2), (6, .invokevirtual 37, 3), (9, .goto 11, 3), (12, .astore 5, 2), (14, .iconst 1, 1), (15, .ireturn, 1), (16, .astore 5, 2), (18, .iconst 2, 1), (19, .ireturn, 1), (20, .iconst 0, 1), (21, .ireturn, 1)]
set_option maxRecDepth 100000 in
theorem d_Law_change : l_Law_change.all (fun q => decide (decode method_9_code q.1 = .ok (q.2.1, q.2.2))) = true := by decide +kernel
def m_Law_run : aj_M := (⟨"TestBenchLaw", "run", "(LTestBench;[J)I"⟩, method_10_code, 3, (some .int))
def l_Law_run : List (Nat × Instr × Nat) := [(0, .aload_n 1, 1), (1, .iconst 0, 1), (2, .aload_n 0, 1), (3, .invokevirtual 40, 3), (6, .i2l, 1), (7, .lastore, 1), (8, .goto 6, 3), (11, .astore_n 2, 1), (12, .iconst 1, 1), (13, .ireturn, 1), (14, .iconst 0, 1), (15, .ireturn, 1)]
set_option maxRecDepth 100000 in
theorem d_Law_run : l_Law_run.all (fun q => decide (decode method_10_code q.1 = .ok (q.2.1, q.2.2))) = true := by decide +kernel
def m_Law_begin : aj_M := (⟨"TestBenchLaw", "begin", "(LTestBench;I[J)I"⟩, method_11_code, 4, (some .int))
def l_Law_begin : List (Nat × Instr × Nat) := [(0, .aload_n 2, 1), (1, .iconst 0, 1), (2, .aload_n 0, 1), (3, .iload_n 1, 1), (4, .invokevirtual 43, 3), (7, .i2l, 1), (8, .lastore, 1), (9, .goto 6, 3), (12, .astore_n 3, 1), (13, .iconst 1, 1), (14, .ireturn, 1), (15, .iconst 0, 1), (16, .ireturn, 1)]
set_option maxRecDepth 100000 in
theorem d_Law_begin : l_Law_begin.all (fun q => decide (decode method_11_code q.1 = .ok (q.2.1, q.2.2))) = true := by decide +kernel
def m_Law_give : aj_M := (⟨"TestBenchLaw", "give", "(LTestBench;I[J)I"⟩, method_12_code, 4, (some .int))
def l_Law_give : List (Nat × Instr × Nat) := [(0, .aload_n 2, 1), (1, .iconst 0, 1), (2, .aload_n 0, 1), (3, .iload_n 1, 1), (4, .invokevirtual 47, 3), (7, .i2l, 1), (8, .lastore, 1), (9, .goto 9, 3), (12, .astore_n 3, 1), (13, .iconst 1, 1), (14, .ireturn, 1), (15, .astore_n 3, 1), (16, .iconst 2, 1), (17, .ireturn, 1), (18, .iconst 0, 1), (19, .ireturn, 1)]
set_option maxRecDepth 100000 in
theorem d_Law_give : l_Law_give.all (fun q => decide (decode method_12_code q.1 = .ok (q.2.1, q.2.2))) = true := by decide +kernel
def m_Law_same : aj_M := (⟨"TestBenchLaw", "same", "(LTestBench;[J)I"⟩, method_13_code, 3, (some .int))
def l_Law_same : List (Nat × Instr × Nat) := [(0, .aload_n 1, 1), (1, .iconst 0, 1), (2, .aload_n 0, 1), (3, .invokevirtual 50, 3), (6, .i2l, 1), (7, .lastore, 1), (8, .goto 6, 3), (11, .astore_n 2, 1), (12, .iconst 1, 1), (13, .ireturn, 1), (14, .iconst 0, 1), (15, .ireturn, 1)]
set_option maxRecDepth 100000 in
theorem d_Law_same : l_Law_same.all (fun q => decide (decode method_13_code q.1 = .ok (q.2.1, q.2.2))) = true := by decide +kernel
def m_Law_law : aj_M := (⟨"TestBenchLaw", "law", "([I)Z"⟩, code, 7, (some .boolean))
end
section
/-! links: fields, calls -/
theorem wf_Machine_9 : Cond.fieldLink "TestBench$Machine" 9 (nm_T0 0).1 (nm_T0 0).2.1 (nm_T0 0).2.2.1 ∈ nm_ws := nm_at 95 (by decide +kernel) rfl
theorem fl_Machine_9 : aj_fl nE "TestBench$Machine" 9 0 0 0 := ⟨_, _, _, 0, rfl, by decide, rfl, rfl, wf_Machine_9⟩
theorem pl_Machine_9 : aj_pl nE "TestBench$Machine" "<init>" 9 0 0 0 .int := ⟨_, _, _, 0, rfl, by decide, rfl, rfl, wf_Machine_9, by decide +kernel, Or.inr ⟨rfl, rfl, rfl⟩⟩
theorem wf_Suite_62 : Cond.fieldLink "TestBench$Suite" 62 (nm_T0 0).1 (nm_T0 0).2.1 (nm_T0 0).2.2.1 ∈ nm_ws := nm_at 96 (by decide +kernel) rfl
theorem fl_Suite_62 : aj_fl nE "TestBench$Suite" 62 0 0 0 := ⟨_, _, _, 0, rfl, by decide, rfl, rfl, wf_Suite_62⟩
theorem wf_Search_49 : Cond.fieldLink "TestBench$PairSearch" 49 (nm_T0 0).1 (nm_T0 0).2.1 (nm_T0 0).2.2.1 ∈ nm_ws := nm_at 97 (by decide +kernel) rfl
theorem fl_Search_49 : aj_fl nE "TestBench$PairSearch" 49 0 0 0 := ⟨_, _, _, 0, rfl, by decide, rfl, rfl, wf_Search_49⟩
theorem wf_Reduction_47 : Cond.fieldLink "TestBench$Reduction" 47 (nm_T0 0).1 (nm_T0 0).2.1 (nm_T0 0).2.2.1 ∈ nm_ws := nm_at 98 (by decide +kernel) rfl
theorem fl_Reduction_47 : aj_fl nE "TestBench$Reduction" 47 0 0 0 := ⟨_, _, _, 0, rfl, by decide, rfl, rfl, wf_Reduction_47⟩
theorem wf_Bench_217 : Cond.fieldLink "TestBench" 217 (nm_T0 0).1 (nm_T0 0).2.1 (nm_T0 0).2.2.1 ∈ nm_ws := nm_at 99 (by decide +kernel) rfl
theorem fl_Bench_217 : aj_fl nE "TestBench" 217 0 0 0 := ⟨_, _, _, 0, rfl, by decide, rfl, rfl, wf_Bench_217⟩
theorem wf_Machine_15 : Cond.fieldLink "TestBench$Machine" 15 (nm_T0 1).1 (nm_T0 1).2.1 (nm_T0 1).2.2.1 ∈ nm_ws := nm_at 100 (by decide +kernel) rfl
theorem fl_Machine_15 : aj_fl nE "TestBench$Machine" 15 0 1 1 := ⟨_, _, _, 1, rfl, by decide, rfl, rfl, wf_Machine_15⟩
theorem pl_Machine_15 : aj_pl nE "TestBench$Machine" "<init>" 15 0 1 1 (.array .int) := ⟨_, _, _, 1, rfl, by decide, rfl, rfl, wf_Machine_15, by decide +kernel, Or.inr ⟨rfl, rfl, rfl⟩⟩
theorem wf_Machine_19 : Cond.fieldLink "TestBench$Machine" 19 (nm_T0 2).1 (nm_T0 2).2.1 (nm_T0 2).2.2.1 ∈ nm_ws := nm_at 101 (by decide +kernel) rfl
theorem fl_Machine_19 : aj_fl nE "TestBench$Machine" 19 0 1 2 := ⟨_, _, _, 2, rfl, by decide, rfl, rfl, wf_Machine_19⟩
theorem pl_Machine_19 : aj_pl nE "TestBench$Machine" "<init>" 19 0 1 2 (.array .int) := ⟨_, _, _, 2, rfl, by decide, rfl, rfl, wf_Machine_19, by decide +kernel, Or.inr ⟨rfl, rfl, rfl⟩⟩
theorem wf_Machine_22 : Cond.fieldLink "TestBench$Machine" 22 (nm_T0 3).1 (nm_T0 3).2.1 (nm_T0 3).2.2.1 ∈ nm_ws := nm_at 102 (by decide +kernel) rfl
theorem fl_Machine_22 : aj_fl nE "TestBench$Machine" 22 0 0 3 := ⟨_, _, _, 3, rfl, by decide, rfl, rfl, wf_Machine_22⟩
theorem pl_Machine_22 (mn : String) : aj_pl nE "TestBench$Machine" mn 22 0 0 3 .int := ⟨_, _, _, 3, rfl, by decide, rfl, rfl, wf_Machine_22, by decide +kernel, Or.inl rfl⟩
theorem wf_Reduction_40 : Cond.fieldLink "TestBench$Reduction" 40 (nm_T0 3).1 (nm_T0 3).2.1 (nm_T0 3).2.2.1 ∈ nm_ws := nm_at 103 (by decide +kernel) rfl
theorem fl_Reduction_40 : aj_fl nE "TestBench$Reduction" 40 0 0 3 := ⟨_, _, _, 3, rfl, by decide, rfl, rfl, wf_Reduction_40⟩
theorem pl_Reduction_40 (mn : String) : aj_pl nE "TestBench$Reduction" mn 40 0 0 3 .int := ⟨_, _, _, 3, rfl, by decide, rfl, rfl, wf_Reduction_40, by decide +kernel, Or.inl rfl⟩
theorem wf_Family_31 : Cond.fieldLink "TestBench$Family" 31 (nm_T0 3).1 (nm_T0 3).2.1 (nm_T0 3).2.2.1 ∈ nm_ws := nm_at 104 (by decide +kernel) rfl
theorem fl_Family_31 : aj_fl nE "TestBench$Family" 31 0 0 3 := ⟨_, _, _, 3, rfl, by decide, rfl, rfl, wf_Family_31⟩
theorem pl_Family_31 (mn : String) : aj_pl nE "TestBench$Family" mn 31 0 0 3 .int := ⟨_, _, _, 3, rfl, by decide, rfl, rfl, wf_Family_31, by decide +kernel, Or.inl rfl⟩
theorem wf_Bench_129 : Cond.fieldLink "TestBench" 129 (nm_T0 3).1 (nm_T0 3).2.1 (nm_T0 3).2.2.1 ∈ nm_ws := nm_at 105 (by decide +kernel) rfl
theorem fl_Bench_129 : aj_fl nE "TestBench" 129 0 0 3 := ⟨_, _, _, 3, rfl, by decide, rfl, rfl, wf_Bench_129⟩
theorem pl_Bench_129 (mn : String) : aj_pl nE "TestBench" mn 129 0 0 3 .int := ⟨_, _, _, 3, rfl, by decide, rfl, rfl, wf_Bench_129, by decide +kernel, Or.inl rfl⟩
theorem wf_Suite_90 : Cond.fieldLink "TestBench$Suite" 90 (nm_T0 3).1 (nm_T0 3).2.1 (nm_T0 3).2.2.1 ∈ nm_ws := nm_at 106 (by decide +kernel) rfl
theorem fl_Suite_90 : aj_fl nE "TestBench$Suite" 90 0 0 3 := ⟨_, _, _, 3, rfl, by decide, rfl, rfl, wf_Suite_90⟩
theorem pl_Suite_90 (mn : String) : aj_pl nE "TestBench$Suite" mn 90 0 0 3 .int := ⟨_, _, _, 3, rfl, by decide, rfl, rfl, wf_Suite_90, by decide +kernel, Or.inl rfl⟩
theorem wf_Reduction_32 : Cond.fieldLink "TestBench$Reduction" 32 (nm_T3 0).1 (nm_T3 0).2.1 (nm_T3 0).2.2.1 ∈ nm_ws := nm_at 125 (by decide +kernel) rfl
theorem fl_Reduction_32 : aj_fl nE "TestBench$Reduction" 32 3 1 0 := ⟨_, _, _, 0, rfl, by decide, rfl, rfl, wf_Reduction_32⟩
theorem pl_Reduction_32 : aj_pl nE "TestBench$Reduction" "<init>" 32 3 1 0 (.object "TestBench$Machine") := ⟨_, _, _, 0, rfl, by decide, rfl, rfl, wf_Reduction_32, by decide +kernel, Or.inr ⟨rfl, rfl, rfl⟩⟩
theorem wf_Suite_55 : Cond.fieldLink "TestBench$Suite" 55 (nm_T3 0).1 (nm_T3 0).2.1 (nm_T3 0).2.2.1 ∈ nm_ws := nm_at 126 (by decide +kernel) rfl
theorem fl_Suite_55 : aj_fl nE "TestBench$Suite" 55 3 1 0 := ⟨_, _, _, 0, rfl, by decide, rfl, rfl, wf_Suite_55⟩
theorem wf_Bench_118 : Cond.fieldLink "TestBench" 118 (nm_T3 0).1 (nm_T3 0).2.1 (nm_T3 0).2.2.1 ∈ nm_ws := nm_at 127 (by decide +kernel) rfl
theorem fl_Bench_118 : aj_fl nE "TestBench" 118 3 1 0 := ⟨_, _, _, 0, rfl, by decide, rfl, rfl, wf_Bench_118⟩
theorem wf_Reduction_9 : Cond.fieldLink "TestBench$Reduction" 9 (nm_T3 1).1 (nm_T3 1).2.1 (nm_T3 1).2.2.1 ∈ nm_ws := nm_at 128 (by decide +kernel) rfl
theorem fl_Reduction_9 : aj_fl nE "TestBench$Reduction" 9 3 1 1 := ⟨_, _, _, 1, rfl, by decide, rfl, rfl, wf_Reduction_9⟩
theorem pl_Reduction_9 : aj_pl nE "TestBench$Reduction" "<init>" 9 3 1 1 (.array .int) := ⟨_, _, _, 1, rfl, by decide, rfl, rfl, wf_Reduction_9, by decide +kernel, Or.inr ⟨rfl, rfl, rfl⟩⟩
theorem wf_Bench_132 : Cond.fieldLink "TestBench" 132 (nm_T3 1).1 (nm_T3 1).2.1 (nm_T3 1).2.2.1 ∈ nm_ws := nm_at 129 (by decide +kernel) rfl
theorem fl_Bench_132 : aj_fl nE "TestBench" 132 3 1 1 := ⟨_, _, _, 1, rfl, by decide, rfl, rfl, wf_Bench_132⟩
theorem wf_Reduction_15 : Cond.fieldLink "TestBench$Reduction" 15 (nm_T3 2).1 (nm_T3 2).2.1 (nm_T3 2).2.2.1 ∈ nm_ws := nm_at 130 (by decide +kernel) rfl
theorem fl_Reduction_15 : aj_fl nE "TestBench$Reduction" 15 3 1 2 := ⟨_, _, _, 2, rfl, by decide, rfl, rfl, wf_Reduction_15⟩
theorem pl_Reduction_15 : aj_pl nE "TestBench$Reduction" "<init>" 15 3 1 2 (.array .int) := ⟨_, _, _, 2, rfl, by decide, rfl, rfl, wf_Reduction_15, by decide +kernel, Or.inr ⟨rfl, rfl, rfl⟩⟩
theorem wf_Reduction_18 : Cond.fieldLink "TestBench$Reduction" 18 (nm_T3 3).1 (nm_T3 3).2.1 (nm_T3 3).2.2.1 ∈ nm_ws := nm_at 131 (by decide +kernel) rfl
theorem fl_Reduction_18 : aj_fl nE "TestBench$Reduction" 18 3 1 3 := ⟨_, _, _, 3, rfl, by decide, rfl, rfl, wf_Reduction_18⟩
theorem pl_Reduction_18 : aj_pl nE "TestBench$Reduction" "<init>" 18 3 1 3 (.array .int) := ⟨_, _, _, 3, rfl, by decide, rfl, rfl, wf_Reduction_18, by decide +kernel, Or.inr ⟨rfl, rfl, rfl⟩⟩
theorem wf_Reduction_21 : Cond.fieldLink "TestBench$Reduction" 21 (nm_T3 4).1 (nm_T3 4).2.1 (nm_T3 4).2.2.1 ∈ nm_ws := nm_at 132 (by decide +kernel) rfl
theorem fl_Reduction_21 : aj_fl nE "TestBench$Reduction" 21 3 1 4 := ⟨_, _, _, 4, rfl, by decide, rfl, rfl, wf_Reduction_21⟩
theorem pl_Reduction_21 : aj_pl nE "TestBench$Reduction" "<init>" 21 3 1 4 (.array .int) := ⟨_, _, _, 4, rfl, by decide, rfl, rfl, wf_Reduction_21, by decide +kernel, Or.inr ⟨rfl, rfl, rfl⟩⟩
theorem wf_Suite_93 : Cond.fieldLink "TestBench$Suite" 93 (nm_T3 4).1 (nm_T3 4).2.1 (nm_T3 4).2.2.1 ∈ nm_ws := nm_at 133 (by decide +kernel) rfl
theorem fl_Suite_93 : aj_fl nE "TestBench$Suite" 93 3 1 4 := ⟨_, _, _, 4, rfl, by decide, rfl, rfl, wf_Suite_93⟩
theorem wf_Reduction_24 : Cond.fieldLink "TestBench$Reduction" 24 (nm_T3 5).1 (nm_T3 5).2.1 (nm_T3 5).2.2.1 ∈ nm_ws := nm_at 134 (by decide +kernel) rfl
theorem fl_Reduction_24 : aj_fl nE "TestBench$Reduction" 24 3 1 5 := ⟨_, _, _, 5, rfl, by decide, rfl, rfl, wf_Reduction_24⟩
theorem pl_Reduction_24 : aj_pl nE "TestBench$Reduction" "<init>" 24 3 1 5 (.array .int) := ⟨_, _, _, 5, rfl, by decide, rfl, rfl, wf_Reduction_24, by decide +kernel, Or.inr ⟨rfl, rfl, rfl⟩⟩
theorem wf_Suite_96 : Cond.fieldLink "TestBench$Suite" 96 (nm_T3 5).1 (nm_T3 5).2.1 (nm_T3 5).2.2.1 ∈ nm_ws := nm_at 135 (by decide +kernel) rfl
theorem fl_Suite_96 : aj_fl nE "TestBench$Suite" 96 3 1 5 := ⟨_, _, _, 5, rfl, by decide, rfl, rfl, wf_Suite_96⟩
theorem wf_Word_9 : Cond.fieldLink "TestBench$Word" 9 (nm_T1 0).1 (nm_T1 0).2.1 (nm_T1 0).2.2.1 ∈ nm_ws := nm_at 164 (by decide +kernel) rfl
theorem fl_Word_9 : aj_fl nE "TestBench$Word" 9 1 1 0 := ⟨_, _, _, 0, rfl, by decide, rfl, rfl, wf_Word_9⟩
theorem pl_Word_9 : aj_pl nE "TestBench$Word" "<init>" 9 1 1 0 (.array .int) := ⟨_, _, _, 0, rfl, by decide, rfl, rfl, wf_Word_9, by decide +kernel, Or.inr ⟨rfl, rfl, rfl⟩⟩
theorem wf_Search_68 : Cond.fieldLink "TestBench$PairSearch" 68 (nm_T1 0).1 (nm_T1 0).2.1 (nm_T1 0).2.2.1 ∈ nm_ws := nm_at 165 (by decide +kernel) rfl
theorem fl_Search_68 : aj_fl nE "TestBench$PairSearch" 68 1 1 0 := ⟨_, _, _, 0, rfl, by decide, rfl, rfl, wf_Search_68⟩
theorem wf_Machine_58 : Cond.fieldLink "TestBench$Machine" 58 (nm_T1 0).1 (nm_T1 0).2.1 (nm_T1 0).2.2.1 ∈ nm_ws := nm_at 166 (by decide +kernel) rfl
theorem fl_Machine_58 : aj_fl nE "TestBench$Machine" 58 1 1 0 := ⟨_, _, _, 0, rfl, by decide, rfl, rfl, wf_Machine_58⟩
theorem wf_Suite_141 : Cond.fieldLink "TestBench$Suite" 141 (nm_T1 0).1 (nm_T1 0).2.1 (nm_T1 0).2.2.1 ∈ nm_ws := nm_at 167 (by decide +kernel) rfl
theorem fl_Suite_141 : aj_fl nE "TestBench$Suite" 141 1 1 0 := ⟨_, _, _, 0, rfl, by decide, rfl, rfl, wf_Suite_141⟩
theorem wf_Word_15 : Cond.fieldLink "TestBench$Word" 15 (nm_T1 1).1 (nm_T1 1).2.1 (nm_T1 1).2.2.1 ∈ nm_ws := nm_at 168 (by decide +kernel) rfl
theorem fl_Word_15 : aj_fl nE "TestBench$Word" 15 1 0 1 := ⟨_, _, _, 1, rfl, by decide, rfl, rfl, wf_Word_15⟩
theorem pl_Word_15 (mn : String) : aj_pl nE "TestBench$Word" mn 15 1 0 1 .int := ⟨_, _, _, 1, rfl, by decide, rfl, rfl, wf_Word_15, by decide +kernel, Or.inl rfl⟩
theorem wf_Search_65 : Cond.fieldLink "TestBench$PairSearch" 65 (nm_T1 1).1 (nm_T1 1).2.1 (nm_T1 1).2.2.1 ∈ nm_ws := nm_at 169 (by decide +kernel) rfl
theorem fl_Search_65 : aj_fl nE "TestBench$PairSearch" 65 1 0 1 := ⟨_, _, _, 1, rfl, by decide, rfl, rfl, wf_Search_65⟩
theorem pl_Search_65 (mn : String) : aj_pl nE "TestBench$PairSearch" mn 65 1 0 1 .int := ⟨_, _, _, 1, rfl, by decide, rfl, rfl, wf_Search_65, by decide +kernel, Or.inl rfl⟩
theorem wf_Bench_146 : Cond.fieldLink "TestBench" 146 (nm_T1 1).1 (nm_T1 1).2.1 (nm_T1 1).2.2.1 ∈ nm_ws := nm_at 170 (by decide +kernel) rfl
theorem fl_Bench_146 : aj_fl nE "TestBench" 146 1 0 1 := ⟨_, _, _, 1, rfl, by decide, rfl, rfl, wf_Bench_146⟩
theorem pl_Bench_146 (mn : String) : aj_pl nE "TestBench" mn 146 1 0 1 .int := ⟨_, _, _, 1, rfl, by decide, rfl, rfl, wf_Bench_146, by decide +kernel, Or.inl rfl⟩
theorem wf_Machine_53 : Cond.fieldLink "TestBench$Machine" 53 (nm_T1 1).1 (nm_T1 1).2.1 (nm_T1 1).2.2.1 ∈ nm_ws := nm_at 171 (by decide +kernel) rfl
theorem fl_Machine_53 : aj_fl nE "TestBench$Machine" 53 1 0 1 := ⟨_, _, _, 1, rfl, by decide, rfl, rfl, wf_Machine_53⟩
theorem pl_Machine_53 (mn : String) : aj_pl nE "TestBench$Machine" mn 53 1 0 1 .int := ⟨_, _, _, 1, rfl, by decide, rfl, rfl, wf_Machine_53, by decide +kernel, Or.inl rfl⟩
theorem wf_Suite_136 : Cond.fieldLink "TestBench$Suite" 136 (nm_T1 1).1 (nm_T1 1).2.1 (nm_T1 1).2.2.1 ∈ nm_ws := nm_at 172 (by decide +kernel) rfl
theorem fl_Suite_136 : aj_fl nE "TestBench$Suite" 136 1 0 1 := ⟨_, _, _, 1, rfl, by decide, rfl, rfl, wf_Suite_136⟩
theorem pl_Suite_136 (mn : String) : aj_pl nE "TestBench$Suite" mn 136 1 0 1 .int := ⟨_, _, _, 1, rfl, by decide, rfl, rfl, wf_Suite_136, by decide +kernel, Or.inl rfl⟩
theorem wf_Family_11 : Cond.fieldLink "TestBench$Family" 11 (nm_T4 0).1 (nm_T4 0).2.1 (nm_T4 0).2.2.1 ∈ nm_ws := nm_at 178 (by decide +kernel) rfl
theorem fl_Family_11 : aj_fl nE "TestBench$Family" 11 4 1 0 := ⟨_, _, _, 0, rfl, by decide, rfl, rfl, wf_Family_11⟩
theorem pl_Family_11 : aj_pl nE "TestBench$Family" "<init>" 11 4 1 0 (.array (.object "TestBench$Word")) := ⟨_, _, _, 0, rfl, by decide, rfl, rfl, wf_Family_11, by decide +kernel, Or.inr ⟨rfl, rfl, rfl⟩⟩
theorem wf_Bench_159 : Cond.fieldLink "TestBench" 159 (nm_T4 0).1 (nm_T4 0).2.1 (nm_T4 0).2.2.1 ∈ nm_ws := nm_at 179 (by decide +kernel) rfl
theorem fl_Bench_159 : aj_fl nE "TestBench" 159 4 1 0 := ⟨_, _, _, 0, rfl, by decide, rfl, rfl, wf_Bench_159⟩
theorem wf_Suite_121 : Cond.fieldLink "TestBench$Suite" 121 (nm_T4 0).1 (nm_T4 0).2.1 (nm_T4 0).2.2.1 ∈ nm_ws := nm_at 180 (by decide +kernel) rfl
theorem fl_Suite_121 : aj_fl nE "TestBench$Suite" 121 4 1 0 := ⟨_, _, _, 0, rfl, by decide, rfl, rfl, wf_Suite_121⟩
theorem wf_Family_19 : Cond.fieldLink "TestBench$Family" 19 (nm_T4 1).1 (nm_T4 1).2.1 (nm_T4 1).2.2.1 ∈ nm_ws := nm_at 181 (by decide +kernel) rfl
theorem fl_Family_19 : aj_fl nE "TestBench$Family" 19 4 1 1 := ⟨_, _, _, 1, rfl, by decide, rfl, rfl, wf_Family_19⟩
theorem pl_Family_19 : aj_pl nE "TestBench$Family" "<init>" 19 4 1 1 (.array (.array .int)) := ⟨_, _, _, 1, rfl, by decide, rfl, rfl, wf_Family_19, by decide +kernel, Or.inr ⟨rfl, rfl, rfl⟩⟩
theorem wf_Bench_166 : Cond.fieldLink "TestBench" 166 (nm_T4 1).1 (nm_T4 1).2.1 (nm_T4 1).2.2.1 ∈ nm_ws := nm_at 182 (by decide +kernel) rfl
theorem fl_Bench_166 : aj_fl nE "TestBench" 166 4 1 1 := ⟨_, _, _, 1, rfl, by decide, rfl, rfl, wf_Bench_166⟩
theorem wf_Suite_132 : Cond.fieldLink "TestBench$Suite" 132 (nm_T4 1).1 (nm_T4 1).2.1 (nm_T4 1).2.2.1 ∈ nm_ws := nm_at 183 (by decide +kernel) rfl
theorem fl_Suite_132 : aj_fl nE "TestBench$Suite" 132 4 1 1 := ⟨_, _, _, 1, rfl, by decide, rfl, rfl, wf_Suite_132⟩
theorem wf_Family_22 : Cond.fieldLink "TestBench$Family" 22 (nm_T4 2).1 (nm_T4 2).2.1 (nm_T4 2).2.2.1 ∈ nm_ws := nm_at 184 (by decide +kernel) rfl
theorem fl_Family_22 : aj_fl nE "TestBench$Family" 22 4 1 2 := ⟨_, _, _, 2, rfl, by decide, rfl, rfl, wf_Family_22⟩
theorem pl_Family_22 : aj_pl nE "TestBench$Family" "<init>" 22 4 1 2 (.array .int) := ⟨_, _, _, 2, rfl, by decide, rfl, rfl, wf_Family_22, by decide +kernel, Or.inr ⟨rfl, rfl, rfl⟩⟩
theorem wf_Bench_163 : Cond.fieldLink "TestBench" 163 (nm_T4 2).1 (nm_T4 2).2.1 (nm_T4 2).2.2.1 ∈ nm_ws := nm_at 185 (by decide +kernel) rfl
theorem fl_Bench_163 : aj_fl nE "TestBench" 163 4 1 2 := ⟨_, _, _, 2, rfl, by decide, rfl, rfl, wf_Bench_163⟩
theorem wf_Suite_129 : Cond.fieldLink "TestBench$Suite" 129 (nm_T4 2).1 (nm_T4 2).2.1 (nm_T4 2).2.2.1 ∈ nm_ws := nm_at 186 (by decide +kernel) rfl
theorem fl_Suite_129 : aj_fl nE "TestBench$Suite" 129 4 1 2 := ⟨_, _, _, 2, rfl, by decide, rfl, rfl, wf_Suite_129⟩
theorem wf_Family_26 : Cond.fieldLink "TestBench$Family" 26 (nm_T4 3).1 (nm_T4 3).2.1 (nm_T4 3).2.2.1 ∈ nm_ws := nm_at 187 (by decide +kernel) rfl
theorem fl_Family_26 : aj_fl nE "TestBench$Family" 26 4 0 3 := ⟨_, _, _, 3, rfl, by decide, rfl, rfl, wf_Family_26⟩
theorem pl_Family_26 (mn : String) : aj_pl nE "TestBench$Family" mn 26 4 0 3 .int := ⟨_, _, _, 3, rfl, by decide, rfl, rfl, wf_Family_26, by decide +kernel, Or.inl rfl⟩
theorem wf_Bench_153 : Cond.fieldLink "TestBench" 153 (nm_T4 3).1 (nm_T4 3).2.1 (nm_T4 3).2.2.1 ∈ nm_ws := nm_at 188 (by decide +kernel) rfl
theorem fl_Bench_153 : aj_fl nE "TestBench" 153 4 0 3 := ⟨_, _, _, 3, rfl, by decide, rfl, rfl, wf_Bench_153⟩
theorem pl_Bench_153 (mn : String) : aj_pl nE "TestBench" mn 153 4 0 3 .int := ⟨_, _, _, 3, rfl, by decide, rfl, rfl, wf_Bench_153, by decide +kernel, Or.inl rfl⟩
theorem wf_Suite_118 : Cond.fieldLink "TestBench$Suite" 118 (nm_T4 3).1 (nm_T4 3).2.1 (nm_T4 3).2.2.1 ∈ nm_ws := nm_at 189 (by decide +kernel) rfl
theorem fl_Suite_118 : aj_fl nE "TestBench$Suite" 118 4 0 3 := ⟨_, _, _, 3, rfl, by decide, rfl, rfl, wf_Suite_118⟩
theorem pl_Suite_118 (mn : String) : aj_pl nE "TestBench$Suite" mn 118 4 0 3 .int := ⟨_, _, _, 3, rfl, by decide, rfl, rfl, wf_Suite_118, by decide +kernel, Or.inl rfl⟩
theorem wf_Search_12 : Cond.fieldLink "TestBench$PairSearch" 12 (nm_T2 0).1 (nm_T2 0).2.1 (nm_T2 0).2.2.1 ∈ nm_ws := nm_at 207 (by decide +kernel) rfl
theorem fl_Search_12 : aj_fl nE "TestBench$PairSearch" 12 2 1 0 := ⟨_, _, _, 0, rfl, by decide, rfl, rfl, wf_Search_12⟩
theorem pl_Search_12 : aj_pl nE "TestBench$PairSearch" "<init>" 12 2 1 0 (.object "TestBench$Word") := ⟨_, _, _, 0, rfl, by decide, rfl, rfl, wf_Search_12, by decide +kernel, Or.inr ⟨rfl, rfl, rfl⟩⟩
theorem wf_Family_46 : Cond.fieldLink "TestBench$Family" 46 (nm_T2 0).1 (nm_T2 0).2.1 (nm_T2 0).2.2.1 ∈ nm_ws := nm_at 208 (by decide +kernel) rfl
theorem fl_Family_46 : aj_fl nE "TestBench$Family" 46 2 1 0 := ⟨_, _, _, 0, rfl, by decide, rfl, rfl, wf_Family_46⟩
theorem wf_Bench_140 : Cond.fieldLink "TestBench" 140 (nm_T2 0).1 (nm_T2 0).2.1 (nm_T2 0).2.2.1 ∈ nm_ws := nm_at 209 (by decide +kernel) rfl
theorem fl_Bench_140 : aj_fl nE "TestBench" 140 2 1 0 := ⟨_, _, _, 0, rfl, by decide, rfl, rfl, wf_Bench_140⟩
theorem wf_Search_18 : Cond.fieldLink "TestBench$PairSearch" 18 (nm_T2 1).1 (nm_T2 1).2.1 (nm_T2 1).2.2.1 ∈ nm_ws := nm_at 210 (by decide +kernel) rfl
theorem fl_Search_18 : aj_fl nE "TestBench$PairSearch" 18 2 1 1 := ⟨_, _, _, 1, rfl, by decide, rfl, rfl, wf_Search_18⟩
theorem pl_Search_18 : aj_pl nE "TestBench$PairSearch" "<init>" 18 2 1 1 (.array .int) := ⟨_, _, _, 1, rfl, by decide, rfl, rfl, wf_Search_18, by decide +kernel, Or.inr ⟨rfl, rfl, rfl⟩⟩
theorem wf_Search_22 : Cond.fieldLink "TestBench$PairSearch" 22 (nm_T2 2).1 (nm_T2 2).2.1 (nm_T2 2).2.2.1 ∈ nm_ws := nm_at 211 (by decide +kernel) rfl
theorem fl_Search_22 : aj_fl nE "TestBench$PairSearch" 22 2 1 2 := ⟨_, _, _, 2, rfl, by decide, rfl, rfl, wf_Search_22⟩
theorem pl_Search_22 : aj_pl nE "TestBench$PairSearch" "<init>" 22 2 1 2 (.array .int) := ⟨_, _, _, 2, rfl, by decide, rfl, rfl, wf_Search_22, by decide +kernel, Or.inr ⟨rfl, rfl, rfl⟩⟩
theorem wf_Search_25 : Cond.fieldLink "TestBench$PairSearch" 25 (nm_T2 3).1 (nm_T2 3).2.1 (nm_T2 3).2.2.1 ∈ nm_ws := nm_at 212 (by decide +kernel) rfl
theorem fl_Search_25 : aj_fl nE "TestBench$PairSearch" 25 2 1 3 := ⟨_, _, _, 3, rfl, by decide, rfl, rfl, wf_Search_25⟩
theorem pl_Search_25 : aj_pl nE "TestBench$PairSearch" "<init>" 25 2 1 3 (.array .int) := ⟨_, _, _, 3, rfl, by decide, rfl, rfl, wf_Search_25, by decide +kernel, Or.inr ⟨rfl, rfl, rfl⟩⟩
theorem wf_Search_28 : Cond.fieldLink "TestBench$PairSearch" 28 (nm_T2 4).1 (nm_T2 4).2.1 (nm_T2 4).2.2.1 ∈ nm_ws := nm_at 213 (by decide +kernel) rfl
theorem fl_Search_28 : aj_fl nE "TestBench$PairSearch" 28 2 1 4 := ⟨_, _, _, 4, rfl, by decide, rfl, rfl, wf_Search_28⟩
theorem pl_Search_28 : aj_pl nE "TestBench$PairSearch" "<init>" 28 2 1 4 (.array .int) := ⟨_, _, _, 4, rfl, by decide, rfl, rfl, wf_Search_28, by decide +kernel, Or.inr ⟨rfl, rfl, rfl⟩⟩
theorem wf_Search_31 : Cond.fieldLink "TestBench$PairSearch" 31 (nm_T2 5).1 (nm_T2 5).2.1 (nm_T2 5).2.2.1 ∈ nm_ws := nm_at 214 (by decide +kernel) rfl
theorem fl_Search_31 : aj_fl nE "TestBench$PairSearch" 31 2 1 5 := ⟨_, _, _, 5, rfl, by decide, rfl, rfl, wf_Search_31⟩
theorem pl_Search_31 : aj_pl nE "TestBench$PairSearch" "<init>" 31 2 1 5 (.array .int) := ⟨_, _, _, 5, rfl, by decide, rfl, rfl, wf_Search_31, by decide +kernel, Or.inr ⟨rfl, rfl, rfl⟩⟩
theorem wf_Search_34 : Cond.fieldLink "TestBench$PairSearch" 34 (nm_T2 6).1 (nm_T2 6).2.1 (nm_T2 6).2.2.1 ∈ nm_ws := nm_at 215 (by decide +kernel) rfl
theorem fl_Search_34 : aj_fl nE "TestBench$PairSearch" 34 2 1 6 := ⟨_, _, _, 6, rfl, by decide, rfl, rfl, wf_Search_34⟩
theorem pl_Search_34 : aj_pl nE "TestBench$PairSearch" "<init>" 34 2 1 6 (.array .boolean) := ⟨_, _, _, 6, rfl, by decide, rfl, rfl, wf_Search_34, by decide +kernel, Or.inr ⟨rfl, rfl, rfl⟩⟩
theorem wf_Search_38 : Cond.fieldLink "TestBench$PairSearch" 38 (nm_T2 7).1 (nm_T2 7).2.1 (nm_T2 7).2.2.1 ∈ nm_ws := nm_at 216 (by decide +kernel) rfl
theorem fl_Search_38 : aj_fl nE "TestBench$PairSearch" 38 2 0 7 := ⟨_, _, _, 7, rfl, by decide, rfl, rfl, wf_Search_38⟩
theorem pl_Search_38 (mn : String) : aj_pl nE "TestBench$PairSearch" mn 38 2 0 7 .int := ⟨_, _, _, 7, rfl, by decide, rfl, rfl, wf_Search_38, by decide +kernel, Or.inl rfl⟩
theorem wf_Trial_9 : Cond.fieldLink "TestBench$Trial" 9 (nm_T6 0).1 (nm_T6 0).2.1 (nm_T6 0).2.2.1 ∈ nm_ws := nm_at 241 (by decide +kernel) rfl
theorem fl_Trial_9 : aj_fl nE "TestBench$Trial" 9 6 1 0 := ⟨_, _, _, 0, rfl, by decide, rfl, rfl, wf_Trial_9⟩
theorem pl_Trial_9 : aj_pl nE "TestBench$Trial" "<init>" 9 6 1 0 (.array .int) := ⟨_, _, _, 0, rfl, by decide, rfl, rfl, wf_Trial_9, by decide +kernel, Or.inr ⟨rfl, rfl, rfl⟩⟩
theorem wf_Trial_15 : Cond.fieldLink "TestBench$Trial" 15 (nm_T6 1).1 (nm_T6 1).2.1 (nm_T6 1).2.2.1 ∈ nm_ws := nm_at 242 (by decide +kernel) rfl
theorem fl_Trial_15 : aj_fl nE "TestBench$Trial" 15 6 1 1 := ⟨_, _, _, 1, rfl, by decide, rfl, rfl, wf_Trial_15⟩
theorem pl_Trial_15 : aj_pl nE "TestBench$Trial" "<init>" 15 6 1 1 (.array .int) := ⟨_, _, _, 1, rfl, by decide, rfl, rfl, wf_Trial_15, by decide +kernel, Or.inr ⟨rfl, rfl, rfl⟩⟩
theorem wf_Suite_47 : Cond.fieldLink "TestBench$Suite" 47 (nm_T5 0).1 (nm_T5 0).2.1 (nm_T5 0).2.2.1 ∈ nm_ws := nm_at 256 (by decide +kernel) rfl
theorem fl_Suite_47 : aj_fl nE "TestBench$Suite" 47 5 1 0 := ⟨_, _, _, 0, rfl, by decide, rfl, rfl, wf_Suite_47⟩
theorem pl_Suite_47 : aj_pl nE "TestBench$Suite" "<init>" 47 5 1 0 (.object "TestBench$Reduction") := ⟨_, _, _, 0, rfl, by decide, rfl, rfl, wf_Suite_47, by decide +kernel, Or.inr ⟨rfl, rfl, rfl⟩⟩
theorem wf_Suite_61 : Cond.fieldLink "TestBench$Suite" 61 (nm_T5 1).1 (nm_T5 1).2.1 (nm_T5 1).2.2.1 ∈ nm_ws := nm_at 257 (by decide +kernel) rfl
theorem fl_Suite_61 : aj_fl nE "TestBench$Suite" 61 5 1 1 := ⟨_, _, _, 1, rfl, by decide, rfl, rfl, wf_Suite_61⟩
theorem pl_Suite_61 : aj_pl nE "TestBench$Suite" "<init>" 61 5 1 1 (.object "TestBench$Machine") := ⟨_, _, _, 1, rfl, by decide, rfl, rfl, wf_Suite_61, by decide +kernel, Or.inr ⟨rfl, rfl, rfl⟩⟩
theorem wf_Suite_51 : Cond.fieldLink "TestBench$Suite" 51 (nm_T5 2).1 (nm_T5 2).2.1 (nm_T5 2).2.2.1 ∈ nm_ws := nm_at 258 (by decide +kernel) rfl
theorem fl_Suite_51 : aj_fl nE "TestBench$Suite" 51 5 1 2 := ⟨_, _, _, 2, rfl, by decide, rfl, rfl, wf_Suite_51⟩
theorem pl_Suite_51 : aj_pl nE "TestBench$Suite" "<init>" 51 5 1 2 (.object "TestBench$Family") := ⟨_, _, _, 2, rfl, by decide, rfl, rfl, wf_Suite_51, by decide +kernel, Or.inr ⟨rfl, rfl, rfl⟩⟩
theorem wf_Suite_67 : Cond.fieldLink "TestBench$Suite" 67 (nm_T5 3).1 (nm_T5 3).2.1 (nm_T5 3).2.2.1 ∈ nm_ws := nm_at 259 (by decide +kernel) rfl
theorem fl_Suite_67 : aj_fl nE "TestBench$Suite" 67 5 1 3 := ⟨_, _, _, 3, rfl, by decide, rfl, rfl, wf_Suite_67⟩
theorem pl_Suite_67 : aj_pl nE "TestBench$Suite" "<init>" 67 5 1 3 (.array .int) := ⟨_, _, _, 3, rfl, by decide, rfl, rfl, wf_Suite_67, by decide +kernel, Or.inr ⟨rfl, rfl, rfl⟩⟩
theorem wf_Suite_9 : Cond.fieldLink "TestBench$Suite" 9 (nm_T5 4).1 (nm_T5 4).2.1 (nm_T5 4).2.2.1 ∈ nm_ws := nm_at 260 (by decide +kernel) rfl
theorem fl_Suite_9 : aj_fl nE "TestBench$Suite" 9 5 1 4 := ⟨_, _, _, 4, rfl, by decide, rfl, rfl, wf_Suite_9⟩
theorem pl_Suite_9 : aj_pl nE "TestBench$Suite" "<init>" 9 5 1 4 (.array .int) := ⟨_, _, _, 4, rfl, by decide, rfl, rfl, wf_Suite_9, by decide +kernel, Or.inr ⟨rfl, rfl, rfl⟩⟩
theorem wf_Trial_38 : Cond.fieldLink "TestBench$Trial" 38 (nm_T5 4).1 (nm_T5 4).2.1 (nm_T5 4).2.2.1 ∈ nm_ws := nm_at 261 (by decide +kernel) rfl
theorem fl_Trial_38 : aj_fl nE "TestBench$Trial" 38 5 1 4 := ⟨_, _, _, 4, rfl, by decide, rfl, rfl, wf_Trial_38⟩
theorem wf_Suite_15 : Cond.fieldLink "TestBench$Suite" 15 (nm_T5 5).1 (nm_T5 5).2.1 (nm_T5 5).2.2.1 ∈ nm_ws := nm_at 262 (by decide +kernel) rfl
theorem fl_Suite_15 : aj_fl nE "TestBench$Suite" 15 5 1 5 := ⟨_, _, _, 5, rfl, by decide, rfl, rfl, wf_Suite_15⟩
theorem pl_Suite_15 : aj_pl nE "TestBench$Suite" "<init>" 15 5 1 5 (.array .int) := ⟨_, _, _, 5, rfl, by decide, rfl, rfl, wf_Suite_15, by decide +kernel, Or.inr ⟨rfl, rfl, rfl⟩⟩
theorem wf_Trial_41 : Cond.fieldLink "TestBench$Trial" 41 (nm_T5 5).1 (nm_T5 5).2.1 (nm_T5 5).2.2.1 ∈ nm_ws := nm_at 263 (by decide +kernel) rfl
theorem fl_Trial_41 : aj_fl nE "TestBench$Trial" 41 5 1 5 := ⟨_, _, _, 5, rfl, by decide, rfl, rfl, wf_Trial_41⟩
theorem wf_Suite_18 : Cond.fieldLink "TestBench$Suite" 18 (nm_T5 6).1 (nm_T5 6).2.1 (nm_T5 6).2.2.1 ∈ nm_ws := nm_at 264 (by decide +kernel) rfl
theorem fl_Suite_18 : aj_fl nE "TestBench$Suite" 18 5 1 6 := ⟨_, _, _, 6, rfl, by decide, rfl, rfl, wf_Suite_18⟩
theorem pl_Suite_18 : aj_pl nE "TestBench$Suite" "<init>" 18 5 1 6 (.array .int) := ⟨_, _, _, 6, rfl, by decide, rfl, rfl, wf_Suite_18, by decide +kernel, Or.inr ⟨rfl, rfl, rfl⟩⟩
theorem wf_Trial_57 : Cond.fieldLink "TestBench$Trial" 57 (nm_T5 6).1 (nm_T5 6).2.1 (nm_T5 6).2.2.1 ∈ nm_ws := nm_at 265 (by decide +kernel) rfl
theorem fl_Trial_57 : aj_fl nE "TestBench$Trial" 57 5 1 6 := ⟨_, _, _, 6, rfl, by decide, rfl, rfl, wf_Trial_57⟩
theorem wf_Suite_21 : Cond.fieldLink "TestBench$Suite" 21 (nm_T5 7).1 (nm_T5 7).2.1 (nm_T5 7).2.2.1 ∈ nm_ws := nm_at 266 (by decide +kernel) rfl
theorem fl_Suite_21 : aj_fl nE "TestBench$Suite" 21 5 1 7 := ⟨_, _, _, 7, rfl, by decide, rfl, rfl, wf_Suite_21⟩
theorem pl_Suite_21 : aj_pl nE "TestBench$Suite" "<init>" 21 5 1 7 (.array .int) := ⟨_, _, _, 7, rfl, by decide, rfl, rfl, wf_Suite_21, by decide +kernel, Or.inr ⟨rfl, rfl, rfl⟩⟩
theorem wf_Suite_24 : Cond.fieldLink "TestBench$Suite" 24 (nm_T5 8).1 (nm_T5 8).2.1 (nm_T5 8).2.2.1 ∈ nm_ws := nm_at 267 (by decide +kernel) rfl
theorem fl_Suite_24 : aj_fl nE "TestBench$Suite" 24 5 1 8 := ⟨_, _, _, 8, rfl, by decide, rfl, rfl, wf_Suite_24⟩
theorem pl_Suite_24 : aj_pl nE "TestBench$Suite" "<init>" 24 5 1 8 (.array .int) := ⟨_, _, _, 8, rfl, by decide, rfl, rfl, wf_Suite_24, by decide +kernel, Or.inr ⟨rfl, rfl, rfl⟩⟩
theorem wf_Trial_35 : Cond.fieldLink "TestBench$Trial" 35 (nm_T5 8).1 (nm_T5 8).2.1 (nm_T5 8).2.2.1 ∈ nm_ws := nm_at 268 (by decide +kernel) rfl
theorem fl_Trial_35 : aj_fl nE "TestBench$Trial" 35 5 1 8 := ⟨_, _, _, 8, rfl, by decide, rfl, rfl, wf_Trial_35⟩
theorem wf_Suite_27 : Cond.fieldLink "TestBench$Suite" 27 (nm_T5 9).1 (nm_T5 9).2.1 (nm_T5 9).2.2.1 ∈ nm_ws := nm_at 269 (by decide +kernel) rfl
theorem fl_Suite_27 : aj_fl nE "TestBench$Suite" 27 5 1 9 := ⟨_, _, _, 9, rfl, by decide, rfl, rfl, wf_Suite_27⟩
theorem pl_Suite_27 : aj_pl nE "TestBench$Suite" "<init>" 27 5 1 9 (.array .int) := ⟨_, _, _, 9, rfl, by decide, rfl, rfl, wf_Suite_27, by decide +kernel, Or.inr ⟨rfl, rfl, rfl⟩⟩
theorem wf_Suite_30 : Cond.fieldLink "TestBench$Suite" 30 (nm_T5 10).1 (nm_T5 10).2.1 (nm_T5 10).2.2.1 ∈ nm_ws := nm_at 270 (by decide +kernel) rfl
theorem fl_Suite_30 : aj_fl nE "TestBench$Suite" 30 5 1 10 := ⟨_, _, _, 10, rfl, by decide, rfl, rfl, wf_Suite_30⟩
theorem pl_Suite_30 : aj_pl nE "TestBench$Suite" "<init>" 30 5 1 10 (.array .int) := ⟨_, _, _, 10, rfl, by decide, rfl, rfl, wf_Suite_30, by decide +kernel, Or.inr ⟨rfl, rfl, rfl⟩⟩
theorem wf_Suite_33 : Cond.fieldLink "TestBench$Suite" 33 (nm_T5 11).1 (nm_T5 11).2.1 (nm_T5 11).2.2.1 ∈ nm_ws := nm_at 271 (by decide +kernel) rfl
theorem fl_Suite_33 : aj_fl nE "TestBench$Suite" 33 5 1 11 := ⟨_, _, _, 11, rfl, by decide, rfl, rfl, wf_Suite_33⟩
theorem pl_Suite_33 : aj_pl nE "TestBench$Suite" "<init>" 33 5 1 11 (.array .int) := ⟨_, _, _, 11, rfl, by decide, rfl, rfl, wf_Suite_33, by decide +kernel, Or.inr ⟨rfl, rfl, rfl⟩⟩
theorem wf_Suite_36 : Cond.fieldLink "TestBench$Suite" 36 (nm_T5 12).1 (nm_T5 12).2.1 (nm_T5 12).2.2.1 ∈ nm_ws := nm_at 272 (by decide +kernel) rfl
theorem fl_Suite_36 : aj_fl nE "TestBench$Suite" 36 5 0 12 := ⟨_, _, _, 12, rfl, by decide, rfl, rfl, wf_Suite_36⟩
theorem pl_Suite_36 (mn : String) : aj_pl nE "TestBench$Suite" mn 36 5 0 12 .int := ⟨_, _, _, 12, rfl, by decide, rfl, rfl, wf_Suite_36, by decide +kernel, Or.inl rfl⟩
theorem wf_Trial_18 : Cond.fieldLink "TestBench$Trial" 18 (nm_T5 12).1 (nm_T5 12).2.1 (nm_T5 12).2.2.1 ∈ nm_ws := nm_at 273 (by decide +kernel) rfl
theorem fl_Trial_18 : aj_fl nE "TestBench$Trial" 18 5 0 12 := ⟨_, _, _, 12, rfl, by decide, rfl, rfl, wf_Trial_18⟩
theorem pl_Trial_18 (mn : String) : aj_pl nE "TestBench$Trial" mn 18 5 0 12 .int := ⟨_, _, _, 12, rfl, by decide, rfl, rfl, wf_Trial_18, by decide +kernel, Or.inl rfl⟩
theorem wf_Bench_220 : Cond.fieldLink "TestBench" 220 (nm_T5 12).1 (nm_T5 12).2.1 (nm_T5 12).2.2.1 ∈ nm_ws := nm_at 274 (by decide +kernel) rfl
theorem fl_Bench_220 : aj_fl nE "TestBench" 220 5 0 12 := ⟨_, _, _, 12, rfl, by decide, rfl, rfl, wf_Bench_220⟩
theorem pl_Bench_220 (mn : String) : aj_pl nE "TestBench" mn 220 5 0 12 .int := ⟨_, _, _, 12, rfl, by decide, rfl, rfl, wf_Bench_220, by decide +kernel, Or.inl rfl⟩
theorem wf_Suite_40 : Cond.fieldLink "TestBench$Suite" 40 (nm_T5 13).1 (nm_T5 13).2.1 (nm_T5 13).2.2.1 ∈ nm_ws := nm_at 275 (by decide +kernel) rfl
theorem fl_Suite_40 : aj_fl nE "TestBench$Suite" 40 5 0 13 := ⟨_, _, _, 13, rfl, by decide, rfl, rfl, wf_Suite_40⟩
theorem pl_Suite_40 (mn : String) : aj_pl nE "TestBench$Suite" mn 40 5 0 13 .int := ⟨_, _, _, 13, rfl, by decide, rfl, rfl, wf_Suite_40, by decide +kernel, Or.inl rfl⟩
theorem wf_Trial_28 : Cond.fieldLink "TestBench$Trial" 28 (nm_T5 13).1 (nm_T5 13).2.1 (nm_T5 13).2.2.1 ∈ nm_ws := nm_at 276 (by decide +kernel) rfl
theorem fl_Trial_28 : aj_fl nE "TestBench$Trial" 28 5 0 13 := ⟨_, _, _, 13, rfl, by decide, rfl, rfl, wf_Trial_28⟩
theorem pl_Trial_28 (mn : String) : aj_pl nE "TestBench$Trial" mn 28 5 0 13 .int := ⟨_, _, _, 13, rfl, by decide, rfl, rfl, wf_Trial_28, by decide +kernel, Or.inl rfl⟩
theorem wf_Bench_177 : Cond.fieldLink "TestBench" 177 (nm_T5 13).1 (nm_T5 13).2.1 (nm_T5 13).2.2.1 ∈ nm_ws := nm_at 277 (by decide +kernel) rfl
theorem fl_Bench_177 : aj_fl nE "TestBench" 177 5 0 13 := ⟨_, _, _, 13, rfl, by decide, rfl, rfl, wf_Bench_177⟩
theorem pl_Bench_177 (mn : String) : aj_pl nE "TestBench" mn 177 5 0 13 .int := ⟨_, _, _, 13, rfl, by decide, rfl, rfl, wf_Bench_177, by decide +kernel, Or.inl rfl⟩
theorem wf_Suite_43 : Cond.fieldLink "TestBench$Suite" 43 (nm_T5 14).1 (nm_T5 14).2.1 (nm_T5 14).2.2.1 ∈ nm_ws := nm_at 278 (by decide +kernel) rfl
theorem fl_Suite_43 : aj_fl nE "TestBench$Suite" 43 5 0 14 := ⟨_, _, _, 14, rfl, by decide, rfl, rfl, wf_Suite_43⟩
theorem pl_Suite_43 (mn : String) : aj_pl nE "TestBench$Suite" mn 43 5 0 14 .boolean := ⟨_, _, _, 14, rfl, by decide, rfl, rfl, wf_Suite_43, by decide +kernel, Or.inl rfl⟩
theorem wf_Bench_23 : Cond.fieldLink "TestBench" 23 (nm_T7 0).1 (nm_T7 0).2.1 (nm_T7 0).2.2.1 ∈ nm_ws := nm_at 310 (by decide +kernel) rfl
theorem fl_Bench_23 : aj_fl nE "TestBench" 23 7 1 0 := ⟨_, _, _, 0, rfl, by decide, rfl, rfl, wf_Bench_23⟩
theorem pl_Bench_23 : aj_pl nE "TestBench" "<init>" 23 7 1 0 (.object "TestBench$Machine") := ⟨_, _, _, 0, rfl, by decide, rfl, rfl, wf_Bench_23, by decide +kernel, Or.inr ⟨rfl, rfl, rfl⟩⟩
theorem wf_Bench_32 : Cond.fieldLink "TestBench" 32 (nm_T7 1).1 (nm_T7 1).2.1 (nm_T7 1).2.2.1 ∈ nm_ws := nm_at 311 (by decide +kernel) rfl
theorem fl_Bench_32 : aj_fl nE "TestBench" 32 7 1 1 := ⟨_, _, _, 1, rfl, by decide, rfl, rfl, wf_Bench_32⟩
theorem pl_Bench_32 : aj_pl nE "TestBench" "<init>" 32 7 1 1 (.object "TestBench$Reduction") := ⟨_, _, _, 1, rfl, by decide, rfl, rfl, wf_Bench_32, by decide +kernel, Or.inr ⟨rfl, rfl, rfl⟩⟩
theorem wf_Bench_39 : Cond.fieldLink "TestBench" 39 (nm_T7 2).1 (nm_T7 2).2.1 (nm_T7 2).2.2.1 ∈ nm_ws := nm_at 312 (by decide +kernel) rfl
theorem fl_Bench_39 : aj_fl nE "TestBench" 39 7 1 2 := ⟨_, _, _, 2, rfl, by decide, rfl, rfl, wf_Bench_39⟩
theorem pl_Bench_39 : aj_pl nE "TestBench" "<init>" 39 7 1 2 (.object "TestBench$Family") := ⟨_, _, _, 2, rfl, by decide, rfl, rfl, wf_Bench_39, by decide +kernel, Or.inr ⟨rfl, rfl, rfl⟩⟩
theorem wf_Bench_43 : Cond.fieldLink "TestBench" 43 (nm_T7 3).1 (nm_T7 3).2.1 (nm_T7 3).2.2.1 ∈ nm_ws := nm_at 313 (by decide +kernel) rfl
theorem fl_Bench_43 : aj_fl nE "TestBench" 43 7 1 3 := ⟨_, _, _, 3, rfl, by decide, rfl, rfl, wf_Bench_43⟩
theorem pl_Bench_43 : aj_pl nE "TestBench" "<init>" 43 7 1 3 (.object "TestBench$Machine") := ⟨_, _, _, 3, rfl, by decide, rfl, rfl, wf_Bench_43, by decide +kernel, Or.inr ⟨rfl, rfl, rfl⟩⟩
theorem wf_Bench_49 : Cond.fieldLink "TestBench" 49 (nm_T7 4).1 (nm_T7 4).2.1 (nm_T7 4).2.2.1 ∈ nm_ws := nm_at 314 (by decide +kernel) rfl
theorem fl_Bench_49 : aj_fl nE "TestBench" 49 7 1 4 := ⟨_, _, _, 4, rfl, by decide, rfl, rfl, wf_Bench_49⟩
theorem pl_Bench_49 : aj_pl nE "TestBench" "<init>" 49 7 1 4 (.object "TestBench$PairSearch") := ⟨_, _, _, 4, rfl, by decide, rfl, rfl, wf_Bench_49, by decide +kernel, Or.inr ⟨rfl, rfl, rfl⟩⟩
theorem wf_Bench_56 : Cond.fieldLink "TestBench" 56 (nm_T7 5).1 (nm_T7 5).2.1 (nm_T7 5).2.2.1 ∈ nm_ws := nm_at 315 (by decide +kernel) rfl
theorem fl_Bench_56 : aj_fl nE "TestBench" 56 7 1 5 := ⟨_, _, _, 5, rfl, by decide, rfl, rfl, wf_Bench_56⟩
theorem pl_Bench_56 : aj_pl nE "TestBench" "<init>" 56 7 1 5 (.object "TestBench$Trial") := ⟨_, _, _, 5, rfl, by decide, rfl, rfl, wf_Bench_56, by decide +kernel, Or.inr ⟨rfl, rfl, rfl⟩⟩
theorem wf_Bench_63 : Cond.fieldLink "TestBench" 63 (nm_T7 6).1 (nm_T7 6).2.1 (nm_T7 6).2.2.1 ∈ nm_ws := nm_at 316 (by decide +kernel) rfl
theorem fl_Bench_63 : aj_fl nE "TestBench" 63 7 1 6 := ⟨_, _, _, 6, rfl, by decide, rfl, rfl, wf_Bench_63⟩
theorem pl_Bench_63 : aj_pl nE "TestBench" "<init>" 63 7 1 6 (.object "TestBench$Word") := ⟨_, _, _, 6, rfl, by decide, rfl, rfl, wf_Bench_63, by decide +kernel, Or.inr ⟨rfl, rfl, rfl⟩⟩
theorem wf_Bench_72 : Cond.fieldLink "TestBench" 72 (nm_T7 7).1 (nm_T7 7).2.1 (nm_T7 7).2.2.1 ∈ nm_ws := nm_at 317 (by decide +kernel) rfl
theorem fl_Bench_72 : aj_fl nE "TestBench" 72 7 1 7 := ⟨_, _, _, 7, rfl, by decide, rfl, rfl, wf_Bench_72⟩
theorem pl_Bench_72 (mn : String) : aj_pl nE "TestBench" mn 72 7 1 7 (.object "TestBench$Suite") := ⟨_, _, _, 7, rfl, by decide, rfl, rfl, wf_Bench_72, by decide +kernel, Or.inl rfl⟩
theorem wf_Bench_76 : Cond.fieldLink "TestBench" 76 (nm_T7 8).1 (nm_T7 8).2.1 (nm_T7 8).2.2.1 ∈ nm_ws := nm_at 318 (by decide +kernel) rfl
theorem fl_Bench_76 : aj_fl nE "TestBench" 76 7 1 8 := ⟨_, _, _, 8, rfl, by decide, rfl, rfl, wf_Bench_76⟩
theorem pl_Bench_76 (mn : String) : aj_pl nE "TestBench" mn 76 7 1 8 (.object "TestBench$Suite") := ⟨_, _, _, 8, rfl, by decide, rfl, rfl, wf_Bench_76, by decide +kernel, Or.inl rfl⟩
theorem wf_Bench_79 : Cond.fieldLink "TestBench" 79 (nm_T7 9).1 (nm_T7 9).2.1 (nm_T7 9).2.2.1 ∈ nm_ws := nm_at 319 (by decide +kernel) rfl
theorem fl_Bench_79 : aj_fl nE "TestBench" 79 7 0 9 := ⟨_, _, _, 9, rfl, by decide, rfl, rfl, wf_Bench_79⟩
theorem pl_Bench_79 (mn : String) : aj_pl nE "TestBench" mn 79 7 0 9 .int := ⟨_, _, _, 9, rfl, by decide, rfl, rfl, wf_Bench_79, by decide +kernel, Or.inl rfl⟩
theorem wf_Bench_83 : Cond.fieldLink "TestBench" 83 (nm_T7 10).1 (nm_T7 10).2.1 (nm_T7 10).2.2.1 ∈ nm_ws := nm_at 320 (by decide +kernel) rfl
theorem fl_Bench_83 : aj_fl nE "TestBench" 83 7 0 10 := ⟨_, _, _, 10, rfl, by decide, rfl, rfl, wf_Bench_83⟩
theorem pl_Bench_83 (mn : String) : aj_pl nE "TestBench" mn 83 7 0 10 .boolean := ⟨_, _, _, 10, rfl, by decide, rfl, rfl, wf_Bench_83, by decide +kernel, Or.inl rfl⟩
theorem wf_Bench_87 : Cond.fieldLink "TestBench" 87 (nm_T7 11).1 (nm_T7 11).2.1 (nm_T7 11).2.2.1 ∈ nm_ws := nm_at 321 (by decide +kernel) rfl
theorem fl_Bench_87 : aj_fl nE "TestBench" 87 7 0 11 := ⟨_, _, _, 11, rfl, by decide, rfl, rfl, wf_Bench_87⟩
theorem pl_Bench_87 (mn : String) : aj_pl nE "TestBench" mn 87 7 0 11 .int := ⟨_, _, _, 11, rfl, by decide, rfl, rfl, wf_Bench_87, by decide +kernel, Or.inl rfl⟩
theorem wf_Bench_90 : Cond.fieldLink "TestBench" 90 (nm_T7 12).1 (nm_T7 12).2.1 (nm_T7 12).2.2.1 ∈ nm_ws := nm_at 322 (by decide +kernel) rfl
theorem fl_Bench_90 : aj_fl nE "TestBench" 90 7 0 12 := ⟨_, _, _, 12, rfl, by decide, rfl, rfl, wf_Bench_90⟩
theorem pl_Bench_90 (mn : String) : aj_pl nE "TestBench" mn 90 7 0 12 .int := ⟨_, _, _, 12, rfl, by decide, rfl, rfl, wf_Bench_90, by decide +kernel, Or.inl rfl⟩
theorem wf_Bench_93 : Cond.fieldLink "TestBench" 93 (nm_T7 13).1 (nm_T7 13).2.1 (nm_T7 13).2.2.1 ∈ nm_ws := nm_at 323 (by decide +kernel) rfl
theorem fl_Bench_93 : aj_fl nE "TestBench" 93 7 0 13 := ⟨_, _, _, 13, rfl, by decide, rfl, rfl, wf_Bench_93⟩
theorem pl_Bench_93 (mn : String) : aj_pl nE "TestBench" mn 93 7 0 13 .int := ⟨_, _, _, 13, rfl, by decide, rfl, rfl, wf_Bench_93, by decide +kernel, Or.inl rfl⟩
theorem wf_Model_92 : Cond.fieldLink "TestBenchModel" 92 (nm_T8 0).1 (nm_T8 0).2.1 (nm_T8 0).2.2.1 ∈ nm_ws := nm_at 755 (by decide +kernel) rfl
theorem fl_Model_92 : aj_fl nE "TestBenchModel" 92 8 0 0 := ⟨_, _, _, 0, rfl, by decide, rfl, rfl, wf_Model_92⟩
theorem pl_Model_92 (mn : String) : aj_pl nE "TestBenchModel" mn 92 8 0 0 .int := ⟨_, _, _, 0, rfl, by decide, rfl, rfl, wf_Model_92, by decide +kernel, Or.inl rfl⟩
theorem wf_Model_86 : Cond.fieldLink "TestBenchModel" 86 (nm_T8 1).1 (nm_T8 1).2.1 (nm_T8 1).2.2.1 ∈ nm_ws := nm_at 756 (by decide +kernel) rfl
theorem fl_Model_86 : aj_fl nE "TestBenchModel" 86 8 0 1 := ⟨_, _, _, 1, rfl, by decide, rfl, rfl, wf_Model_86⟩
theorem pl_Model_86 : aj_pl nE "TestBenchModel" "<init>" 86 8 0 1 .int := ⟨_, _, _, 1, rfl, by decide, rfl, rfl, wf_Model_86, by decide +kernel, Or.inr ⟨rfl, rfl, rfl⟩⟩
theorem wf_Model_89 : Cond.fieldLink "TestBenchModel" 89 (nm_T8 2).1 (nm_T8 2).2.1 (nm_T8 2).2.2.1 ∈ nm_ws := nm_at 757 (by decide +kernel) rfl
theorem fl_Model_89 : aj_fl nE "TestBenchModel" 89 8 0 2 := ⟨_, _, _, 2, rfl, by decide, rfl, rfl, wf_Model_89⟩
theorem pl_Model_89 : aj_pl nE "TestBenchModel" "<init>" 89 8 0 2 .int := ⟨_, _, _, 2, rfl, by decide, rfl, rfl, wf_Model_89, by decide +kernel, Or.inr ⟨rfl, rfl, rfl⟩⟩
theorem wf_Model_7 : Cond.fieldLink "TestBenchModel" 7 (nm_T8 3).1 (nm_T8 3).2.1 (nm_T8 3).2.2.1 ∈ nm_ws := nm_at 758 (by decide +kernel) rfl
theorem fl_Model_7 : aj_fl nE "TestBenchModel" 7 8 1 3 := ⟨_, _, _, 3, rfl, by decide, rfl, rfl, wf_Model_7⟩
theorem pl_Model_7 : aj_pl nE "TestBenchModel" "<init>" 7 8 1 3 (.array .int) := ⟨_, _, _, 3, rfl, by decide, rfl, rfl, wf_Model_7, by decide +kernel, Or.inr ⟨rfl, rfl, rfl⟩⟩
theorem wf_Model_13 : Cond.fieldLink "TestBenchModel" 13 (nm_T8 4).1 (nm_T8 4).2.1 (nm_T8 4).2.2.1 ∈ nm_ws := nm_at 759 (by decide +kernel) rfl
theorem fl_Model_13 : aj_fl nE "TestBenchModel" 13 8 1 4 := ⟨_, _, _, 4, rfl, by decide, rfl, rfl, wf_Model_13⟩
theorem pl_Model_13 : aj_pl nE "TestBenchModel" "<init>" 13 8 1 4 (.array .int) := ⟨_, _, _, 4, rfl, by decide, rfl, rfl, wf_Model_13, by decide +kernel, Or.inr ⟨rfl, rfl, rfl⟩⟩
theorem wf_Model_109 : Cond.fieldLink "TestBenchModel" 109 (nm_T8 5).1 (nm_T8 5).2.1 (nm_T8 5).2.2.1 ∈ nm_ws := nm_at 760 (by decide +kernel) rfl
theorem fl_Model_109 : aj_fl nE "TestBenchModel" 109 8 0 5 := ⟨_, _, _, 5, rfl, by decide, rfl, rfl, wf_Model_109⟩
theorem pl_Model_109 (mn : String) : aj_pl nE "TestBenchModel" mn 109 8 0 5 .int := ⟨_, _, _, 5, rfl, by decide, rfl, rfl, wf_Model_109, by decide +kernel, Or.inl rfl⟩
theorem wf_Model_105 : Cond.fieldLink "TestBenchModel" 105 (nm_T8 6).1 (nm_T8 6).2.1 (nm_T8 6).2.2.1 ∈ nm_ws := nm_at 761 (by decide +kernel) rfl
theorem fl_Model_105 : aj_fl nE "TestBenchModel" 105 8 0 6 := ⟨_, _, _, 6, rfl, by decide, rfl, rfl, wf_Model_105⟩
theorem pl_Model_105 (mn : String) : aj_pl nE "TestBenchModel" mn 105 8 0 6 .boolean := ⟨_, _, _, 6, rfl, by decide, rfl, rfl, wf_Model_105, by decide +kernel, Or.inl rfl⟩
theorem wf_Model_16 : Cond.fieldLink "TestBenchModel" 16 (nm_T8 7).1 (nm_T8 7).2.1 (nm_T8 7).2.2.1 ∈ nm_ws := nm_at 762 (by decide +kernel) rfl
theorem fl_Model_16 : aj_fl nE "TestBenchModel" 16 8 1 7 := ⟨_, _, _, 7, rfl, by decide, rfl, rfl, wf_Model_16⟩
theorem pl_Model_16 : aj_pl nE "TestBenchModel" "<init>" 16 8 1 7 (.array .int) := ⟨_, _, _, 7, rfl, by decide, rfl, rfl, wf_Model_16, by decide +kernel, Or.inr ⟨rfl, rfl, rfl⟩⟩
theorem wf_Model_126 : Cond.fieldLink "TestBenchModel" 126 (nm_T8 8).1 (nm_T8 8).2.1 (nm_T8 8).2.2.1 ∈ nm_ws := nm_at 763 (by decide +kernel) rfl
theorem fl_Model_126 : aj_fl nE "TestBenchModel" 126 8 0 8 := ⟨_, _, _, 8, rfl, by decide, rfl, rfl, wf_Model_126⟩
theorem pl_Model_126 (mn : String) : aj_pl nE "TestBenchModel" mn 126 8 0 8 .int := ⟨_, _, _, 8, rfl, by decide, rfl, rfl, wf_Model_126, by decide +kernel, Or.inl rfl⟩
theorem wf_Model_19 : Cond.fieldLink "TestBenchModel" 19 (nm_T8 9).1 (nm_T8 9).2.1 (nm_T8 9).2.2.1 ∈ nm_ws := nm_at 764 (by decide +kernel) rfl
theorem fl_Model_19 : aj_fl nE "TestBenchModel" 19 8 1 9 := ⟨_, _, _, 9, rfl, by decide, rfl, rfl, wf_Model_19⟩
theorem pl_Model_19 : aj_pl nE "TestBenchModel" "<init>" 19 8 1 9 (.array .int) := ⟨_, _, _, 9, rfl, by decide, rfl, rfl, wf_Model_19, by decide +kernel, Or.inr ⟨rfl, rfl, rfl⟩⟩
theorem wf_Model_22 : Cond.fieldLink "TestBenchModel" 22 (nm_T8 10).1 (nm_T8 10).2.1 (nm_T8 10).2.2.1 ∈ nm_ws := nm_at 765 (by decide +kernel) rfl
theorem fl_Model_22 : aj_fl nE "TestBenchModel" 22 8 1 10 := ⟨_, _, _, 10, rfl, by decide, rfl, rfl, wf_Model_22⟩
theorem pl_Model_22 : aj_pl nE "TestBenchModel" "<init>" 22 8 1 10 (.array .int) := ⟨_, _, _, 10, rfl, by decide, rfl, rfl, wf_Model_22, by decide +kernel, Or.inr ⟨rfl, rfl, rfl⟩⟩
theorem wf_Model_25 : Cond.fieldLink "TestBenchModel" 25 (nm_T8 11).1 (nm_T8 11).2.1 (nm_T8 11).2.2.1 ∈ nm_ws := nm_at 766 (by decide +kernel) rfl
theorem fl_Model_25 : aj_fl nE "TestBenchModel" 25 8 1 11 := ⟨_, _, _, 11, rfl, by decide, rfl, rfl, wf_Model_25⟩
theorem pl_Model_25 : aj_pl nE "TestBenchModel" "<init>" 25 8 1 11 (.array .long) := ⟨_, _, _, 11, rfl, by decide, rfl, rfl, wf_Model_25, by decide +kernel, Or.inr ⟨rfl, rfl, rfl⟩⟩
theorem wf_Model_133 : Cond.fieldLink "TestBenchModel" 133 (nm_T8 12).1 (nm_T8 12).2.1 (nm_T8 12).2.2.1 ∈ nm_ws := nm_at 767 (by decide +kernel) rfl
theorem fl_Model_133 : aj_fl nE "TestBenchModel" 133 8 0 12 := ⟨_, _, _, 12, rfl, by decide, rfl, rfl, wf_Model_133⟩
theorem pl_Model_133 (mn : String) : aj_pl nE "TestBenchModel" mn 133 8 0 12 .int := ⟨_, _, _, 12, rfl, by decide, rfl, rfl, wf_Model_133, by decide +kernel, Or.inl rfl⟩
theorem wf_Model_29 : Cond.fieldLink "TestBenchModel" 29 (nm_T8 13).1 (nm_T8 13).2.1 (nm_T8 13).2.2.1 ∈ nm_ws := nm_at 768 (by decide +kernel) rfl
theorem fl_Model_29 : aj_fl nE "TestBenchModel" 29 8 1 13 := ⟨_, _, _, 13, rfl, by decide, rfl, rfl, wf_Model_29⟩
theorem pl_Model_29 : aj_pl nE "TestBenchModel" "<init>" 29 8 1 13 (.array .long) := ⟨_, _, _, 13, rfl, by decide, rfl, rfl, wf_Model_29, by decide +kernel, Or.inr ⟨rfl, rfl, rfl⟩⟩
theorem wf_Model_32 : Cond.fieldLink "TestBenchModel" 32 (nm_T8 14).1 (nm_T8 14).2.1 (nm_T8 14).2.2.1 ∈ nm_ws := nm_at 769 (by decide +kernel) rfl
theorem fl_Model_32 : aj_fl nE "TestBenchModel" 32 8 1 14 := ⟨_, _, _, 14, rfl, by decide, rfl, rfl, wf_Model_32⟩
theorem pl_Model_32 : aj_pl nE "TestBenchModel" "<init>" 32 8 1 14 (.array .int) := ⟨_, _, _, 14, rfl, by decide, rfl, rfl, wf_Model_32, by decide +kernel, Or.inr ⟨rfl, rfl, rfl⟩⟩
theorem wf_Model_35 : Cond.fieldLink "TestBenchModel" 35 (nm_T8 15).1 (nm_T8 15).2.1 (nm_T8 15).2.2.1 ∈ nm_ws := nm_at 770 (by decide +kernel) rfl
theorem fl_Model_35 : aj_fl nE "TestBenchModel" 35 8 1 15 := ⟨_, _, _, 15, rfl, by decide, rfl, rfl, wf_Model_35⟩
theorem pl_Model_35 : aj_pl nE "TestBenchModel" "<init>" 35 8 1 15 (.array .int) := ⟨_, _, _, 15, rfl, by decide, rfl, rfl, wf_Model_35, by decide +kernel, Or.inr ⟨rfl, rfl, rfl⟩⟩
theorem wf_Model_38 : Cond.fieldLink "TestBenchModel" 38 (nm_T8 16).1 (nm_T8 16).2.1 (nm_T8 16).2.2.1 ∈ nm_ws := nm_at 771 (by decide +kernel) rfl
theorem fl_Model_38 : aj_fl nE "TestBenchModel" 38 8 2 16 := ⟨_, _, _, 16, rfl, by decide, rfl, rfl, wf_Model_38⟩
theorem pl_Model_38 (mn : String) : aj_pl nE "TestBenchModel" mn 38 8 2 16 .long := ⟨_, _, _, 16, rfl, by decide, rfl, rfl, wf_Model_38, by decide +kernel, Or.inl rfl⟩
theorem wf_Model_157 : Cond.fieldLink "TestBenchModel" 157 (nm_T8 17).1 (nm_T8 17).2.1 (nm_T8 17).2.2.1 ∈ nm_ws := nm_at 772 (by decide +kernel) rfl
theorem fl_Model_157 : aj_fl nE "TestBenchModel" 157 8 0 17 := ⟨_, _, _, 17, rfl, by decide, rfl, rfl, wf_Model_157⟩
theorem pl_Model_157 (mn : String) : aj_pl nE "TestBenchModel" mn 157 8 0 17 .int := ⟨_, _, _, 17, rfl, by decide, rfl, rfl, wf_Model_157, by decide +kernel, Or.inl rfl⟩
theorem wf_Model_42 : Cond.fieldLink "TestBenchModel" 42 (nm_T8 18).1 (nm_T8 18).2.1 (nm_T8 18).2.2.1 ∈ nm_ws := nm_at 773 (by decide +kernel) rfl
theorem fl_Model_42 : aj_fl nE "TestBenchModel" 42 8 1 18 := ⟨_, _, _, 18, rfl, by decide, rfl, rfl, wf_Model_42⟩
theorem pl_Model_42 : aj_pl nE "TestBenchModel" "<init>" 42 8 1 18 (.array .int) := ⟨_, _, _, 18, rfl, by decide, rfl, rfl, wf_Model_42, by decide +kernel, Or.inr ⟨rfl, rfl, rfl⟩⟩
theorem wf_Model_45 : Cond.fieldLink "TestBenchModel" 45 (nm_T8 19).1 (nm_T8 19).2.1 (nm_T8 19).2.2.1 ∈ nm_ws := nm_at 774 (by decide +kernel) rfl
theorem fl_Model_45 : aj_fl nE "TestBenchModel" 45 8 1 19 := ⟨_, _, _, 19, rfl, by decide, rfl, rfl, wf_Model_45⟩
theorem pl_Model_45 : aj_pl nE "TestBenchModel" "<init>" 45 8 1 19 (.array .int) := ⟨_, _, _, 19, rfl, by decide, rfl, rfl, wf_Model_45, by decide +kernel, Or.inr ⟨rfl, rfl, rfl⟩⟩
theorem wf_Model_189 : Cond.fieldLink "TestBenchModel" 189 (nm_T8 20).1 (nm_T8 20).2.1 (nm_T8 20).2.2.1 ∈ nm_ws := nm_at 775 (by decide +kernel) rfl
theorem fl_Model_189 : aj_fl nE "TestBenchModel" 189 8 0 20 := ⟨_, _, _, 20, rfl, by decide, rfl, rfl, wf_Model_189⟩
theorem pl_Model_189 (mn : String) : aj_pl nE "TestBenchModel" mn 189 8 0 20 .boolean := ⟨_, _, _, 20, rfl, by decide, rfl, rfl, wf_Model_189, by decide +kernel, Or.inl rfl⟩
theorem wf_Model_183 : Cond.fieldLink "TestBenchModel" 183 (nm_T8 21).1 (nm_T8 21).2.1 (nm_T8 21).2.2.1 ∈ nm_ws := nm_at 776 (by decide +kernel) rfl
theorem fl_Model_183 : aj_fl nE "TestBenchModel" 183 8 0 21 := ⟨_, _, _, 21, rfl, by decide, rfl, rfl, wf_Model_183⟩
theorem pl_Model_183 (mn : String) : aj_pl nE "TestBenchModel" mn 183 8 0 21 .int := ⟨_, _, _, 21, rfl, by decide, rfl, rfl, wf_Model_183, by decide +kernel, Or.inl rfl⟩
theorem wf_Model_48 : Cond.fieldLink "TestBenchModel" 48 (nm_T8 22).1 (nm_T8 22).2.1 (nm_T8 22).2.2.1 ∈ nm_ws := nm_at 777 (by decide +kernel) rfl
theorem fl_Model_48 : aj_fl nE "TestBenchModel" 48 8 1 22 := ⟨_, _, _, 22, rfl, by decide, rfl, rfl, wf_Model_48⟩
theorem pl_Model_48 : aj_pl nE "TestBenchModel" "<init>" 48 8 1 22 (.array .int) := ⟨_, _, _, 22, rfl, by decide, rfl, rfl, wf_Model_48, by decide +kernel, Or.inr ⟨rfl, rfl, rfl⟩⟩
theorem wf_Model_160 : Cond.fieldLink "TestBenchModel" 160 (nm_T8 23).1 (nm_T8 23).2.1 (nm_T8 23).2.2.1 ∈ nm_ws := nm_at 778 (by decide +kernel) rfl
theorem fl_Model_160 : aj_fl nE "TestBenchModel" 160 8 0 23 := ⟨_, _, _, 23, rfl, by decide, rfl, rfl, wf_Model_160⟩
theorem pl_Model_160 (mn : String) : aj_pl nE "TestBenchModel" mn 160 8 0 23 .int := ⟨_, _, _, 23, rfl, by decide, rfl, rfl, wf_Model_160, by decide +kernel, Or.inl rfl⟩
theorem wf_Model_51 : Cond.fieldLink "TestBenchModel" 51 (nm_T8 24).1 (nm_T8 24).2.1 (nm_T8 24).2.2.1 ∈ nm_ws := nm_at 779 (by decide +kernel) rfl
theorem fl_Model_51 : aj_fl nE "TestBenchModel" 51 8 1 24 := ⟨_, _, _, 24, rfl, by decide, rfl, rfl, wf_Model_51⟩
theorem pl_Model_51 : aj_pl nE "TestBenchModel" "<init>" 51 8 1 24 (.array .int) := ⟨_, _, _, 24, rfl, by decide, rfl, rfl, wf_Model_51, by decide +kernel, Or.inr ⟨rfl, rfl, rfl⟩⟩
theorem wf_Model_192 : Cond.fieldLink "TestBenchModel" 192 (nm_T8 25).1 (nm_T8 25).2.1 (nm_T8 25).2.2.1 ∈ nm_ws := nm_at 780 (by decide +kernel) rfl
theorem fl_Model_192 : aj_fl nE "TestBenchModel" 192 8 0 25 := ⟨_, _, _, 25, rfl, by decide, rfl, rfl, wf_Model_192⟩
theorem pl_Model_192 (mn : String) : aj_pl nE "TestBenchModel" mn 192 8 0 25 .int := ⟨_, _, _, 25, rfl, by decide, rfl, rfl, wf_Model_192, by decide +kernel, Or.inl rfl⟩
theorem wf_Model_54 : Cond.fieldLink "TestBenchModel" 54 (nm_T8 26).1 (nm_T8 26).2.1 (nm_T8 26).2.2.1 ∈ nm_ws := nm_at 781 (by decide +kernel) rfl
theorem fl_Model_54 : aj_fl nE "TestBenchModel" 54 8 1 26 := ⟨_, _, _, 26, rfl, by decide, rfl, rfl, wf_Model_54⟩
theorem pl_Model_54 : aj_pl nE "TestBenchModel" "<init>" 54 8 1 26 (.array .int) := ⟨_, _, _, 26, rfl, by decide, rfl, rfl, wf_Model_54, by decide +kernel, Or.inr ⟨rfl, rfl, rfl⟩⟩
theorem wf_Model_57 : Cond.fieldLink "TestBenchModel" 57 (nm_T8 27).1 (nm_T8 27).2.1 (nm_T8 27).2.2.1 ∈ nm_ws := nm_at 782 (by decide +kernel) rfl
theorem fl_Model_57 : aj_fl nE "TestBenchModel" 57 8 1 27 := ⟨_, _, _, 27, rfl, by decide, rfl, rfl, wf_Model_57⟩
theorem pl_Model_57 : aj_pl nE "TestBenchModel" "<init>" 57 8 1 27 (.array .int) := ⟨_, _, _, 27, rfl, by decide, rfl, rfl, wf_Model_57, by decide +kernel, Or.inr ⟨rfl, rfl, rfl⟩⟩
theorem wf_Model_60 : Cond.fieldLink "TestBenchModel" 60 (nm_T8 28).1 (nm_T8 28).2.1 (nm_T8 28).2.2.1 ∈ nm_ws := nm_at 783 (by decide +kernel) rfl
theorem fl_Model_60 : aj_fl nE "TestBenchModel" 60 8 1 28 := ⟨_, _, _, 28, rfl, by decide, rfl, rfl, wf_Model_60⟩
theorem pl_Model_60 : aj_pl nE "TestBenchModel" "<init>" 60 8 1 28 (.array .int) := ⟨_, _, _, 28, rfl, by decide, rfl, rfl, wf_Model_60, by decide +kernel, Or.inr ⟨rfl, rfl, rfl⟩⟩
theorem wf_Model_63 : Cond.fieldLink "TestBenchModel" 63 (nm_T8 29).1 (nm_T8 29).2.1 (nm_T8 29).2.2.1 ∈ nm_ws := nm_at 784 (by decide +kernel) rfl
theorem fl_Model_63 : aj_fl nE "TestBenchModel" 63 8 0 29 := ⟨_, _, _, 29, rfl, by decide, rfl, rfl, wf_Model_63⟩
theorem pl_Model_63 (mn : String) : aj_pl nE "TestBenchModel" mn 63 8 0 29 .int := ⟨_, _, _, 29, rfl, by decide, rfl, rfl, wf_Model_63, by decide +kernel, Or.inl rfl⟩
theorem wf_Model_67 : Cond.fieldLink "TestBenchModel" 67 (nm_T8 30).1 (nm_T8 30).2.1 (nm_T8 30).2.2.1 ∈ nm_ws := nm_at 785 (by decide +kernel) rfl
theorem fl_Model_67 : aj_fl nE "TestBenchModel" 67 8 0 30 := ⟨_, _, _, 30, rfl, by decide, rfl, rfl, wf_Model_67⟩
theorem pl_Model_67 (mn : String) : aj_pl nE "TestBenchModel" mn 67 8 0 30 .int := ⟨_, _, _, 30, rfl, by decide, rfl, rfl, wf_Model_67, by decide +kernel, Or.inl rfl⟩
theorem wf_Model_211 : Cond.fieldLink "TestBenchModel" 211 (nm_T8 31).1 (nm_T8 31).2.1 (nm_T8 31).2.2.1 ∈ nm_ws := nm_at 786 (by decide +kernel) rfl
theorem fl_Model_211 : aj_fl nE "TestBenchModel" 211 8 0 31 := ⟨_, _, _, 31, rfl, by decide, rfl, rfl, wf_Model_211⟩
theorem pl_Model_211 (mn : String) : aj_pl nE "TestBenchModel" mn 211 8 0 31 .int := ⟨_, _, _, 31, rfl, by decide, rfl, rfl, wf_Model_211, by decide +kernel, Or.inl rfl⟩
theorem wf_Model_70 : Cond.fieldLink "TestBenchModel" 70 (nm_T8 32).1 (nm_T8 32).2.1 (nm_T8 32).2.2.1 ∈ nm_ws := nm_at 787 (by decide +kernel) rfl
theorem fl_Model_70 : aj_fl nE "TestBenchModel" 70 8 1 32 := ⟨_, _, _, 32, rfl, by decide, rfl, rfl, wf_Model_70⟩
theorem pl_Model_70 : aj_pl nE "TestBenchModel" "<init>" 70 8 1 32 (.array .int) := ⟨_, _, _, 32, rfl, by decide, rfl, rfl, wf_Model_70, by decide +kernel, Or.inr ⟨rfl, rfl, rfl⟩⟩
theorem wf_Model_73 : Cond.fieldLink "TestBenchModel" 73 (nm_T8 33).1 (nm_T8 33).2.1 (nm_T8 33).2.2.1 ∈ nm_ws := nm_at 788 (by decide +kernel) rfl
theorem fl_Model_73 : aj_fl nE "TestBenchModel" 73 8 1 33 := ⟨_, _, _, 33, rfl, by decide, rfl, rfl, wf_Model_73⟩
theorem pl_Model_73 : aj_pl nE "TestBenchModel" "<init>" 73 8 1 33 (.array .int) := ⟨_, _, _, 33, rfl, by decide, rfl, rfl, wf_Model_73, by decide +kernel, Or.inr ⟨rfl, rfl, rfl⟩⟩
theorem wf_Model_76 : Cond.fieldLink "TestBenchModel" 76 (nm_T8 34).1 (nm_T8 34).2.1 (nm_T8 34).2.2.1 ∈ nm_ws := nm_at 789 (by decide +kernel) rfl
theorem fl_Model_76 : aj_fl nE "TestBenchModel" 76 8 1 34 := ⟨_, _, _, 34, rfl, by decide, rfl, rfl, wf_Model_76⟩
theorem pl_Model_76 : aj_pl nE "TestBenchModel" "<init>" 76 8 1 34 (.array .boolean) := ⟨_, _, _, 34, rfl, by decide, rfl, rfl, wf_Model_76, by decide +kernel, Or.inr ⟨rfl, rfl, rfl⟩⟩
theorem wf_Model_80 : Cond.fieldLink "TestBenchModel" 80 (nm_T8 35).1 (nm_T8 35).2.1 (nm_T8 35).2.2.1 ∈ nm_ws := nm_at 790 (by decide +kernel) rfl
theorem fl_Model_80 : aj_fl nE "TestBenchModel" 80 8 1 35 := ⟨_, _, _, 35, rfl, by decide, rfl, rfl, wf_Model_80⟩
theorem pl_Model_80 : aj_pl nE "TestBenchModel" "<init>" 80 8 1 35 (.array .long) := ⟨_, _, _, 35, rfl, by decide, rfl, rfl, wf_Model_80, by decide +kernel, Or.inr ⟨rfl, rfl, rfl⟩⟩
theorem wf_Model_83 : Cond.fieldLink "TestBenchModel" 83 (nm_T8 36).1 (nm_T8 36).2.1 (nm_T8 36).2.2.1 ∈ nm_ws := nm_at 791 (by decide +kernel) rfl
theorem fl_Model_83 : aj_fl nE "TestBenchModel" 83 8 1 36 := ⟨_, _, _, 36, rfl, by decide, rfl, rfl, wf_Model_83⟩
theorem pl_Model_83 : aj_pl nE "TestBenchModel" "<init>" 83 8 1 36 (.array .boolean) := ⟨_, _, _, 36, rfl, by decide, rfl, rfl, wf_Model_83, by decide +kernel, Or.inr ⟨rfl, rfl, rfl⟩⟩
end
section
/-! links: the methods that are called -/
set_option maxRecDepth 100000 in
theorem wc_Bench_init : Cond.code m_Bench_init.1 m_Bench_init.2.1 m_Bench_init.2.2.1 m_Bench_init.2.2.2 ∈ nm_ws := nm_at 63 rfl rfl
theorem wi_Bench_init : Cond.instanceMethod m_Bench_init.1 ∈ nm_ws := nm_at 62 (by decide +kernel) rfl
set_option maxRecDepth 100000 in
theorem wc_Bench_apart : Cond.code m_Bench_apart.1 m_Bench_apart.2.1 m_Bench_apart.2.2.1 m_Bench_apart.2.2.2 ∈ nm_ws := nm_at 622 rfl rfl
theorem wi_Bench_apart : Cond.instanceMethod m_Bench_apart.1 ∈ nm_ws := nm_at 620 (by decide +kernel) rfl
theorem wv_Bench_apart : Cond.selects m_Bench_apart.1.cls m_Bench_apart.1 m_Bench_apart.1 ∈ nm_ws := nm_at 621 (by decide +kernel) rfl
set_option maxRecDepth 100000 in
theorem wc_Bench_begin : Cond.code m_Bench_begin.1 m_Bench_begin.2.1 m_Bench_begin.2.2.1 m_Bench_begin.2.2.2 ∈ nm_ws := nm_at 729 rfl rfl
theorem wi_Bench_begin : Cond.instanceMethod m_Bench_begin.1 ∈ nm_ws := nm_at 727 (by decide +kernel) rfl
theorem wv_Bench_begin : Cond.selects m_Bench_begin.1.cls m_Bench_begin.1 m_Bench_begin.1 ∈ nm_ws := nm_at 728 (by decide +kernel) rfl
set_option maxRecDepth 100000 in
theorem wc_Bench_change : Cond.code m_Bench_change.1 m_Bench_change.2.1 m_Bench_change.2.2.1 m_Bench_change.2.2.2 ∈ nm_ws := nm_at 699 rfl rfl
theorem wi_Bench_change : Cond.instanceMethod m_Bench_change.1 ∈ nm_ws := nm_at 697 (by decide +kernel) rfl
theorem wv_Bench_change : Cond.selects m_Bench_change.1.cls m_Bench_change.1 m_Bench_change.1 ∈ nm_ws := nm_at 698 (by decide +kernel) rfl
set_option maxRecDepth 100000 in
theorem wc_Bench_covered : Cond.code m_Bench_covered.1 m_Bench_covered.2.1 m_Bench_covered.2.2.1 m_Bench_covered.2.2.2 ∈ nm_ws := nm_at 417 rfl rfl
theorem wi_Bench_covered : Cond.instanceMethod m_Bench_covered.1 ∈ nm_ws := nm_at 415 (by decide +kernel) rfl
theorem wv_Bench_covered : Cond.selects m_Bench_covered.1.cls m_Bench_covered.1 m_Bench_covered.1 ∈ nm_ws := nm_at 416 (by decide +kernel) rfl
set_option maxRecDepth 100000 in
theorem wc_Bench_edge : Cond.code m_Bench_edge.1 m_Bench_edge.2.1 m_Bench_edge.2.2.1 m_Bench_edge.2.2.2 ∈ nm_ws := nm_at 447 rfl rfl
theorem wi_Bench_edge : Cond.instanceMethod m_Bench_edge.1 ∈ nm_ws := nm_at 445 (by decide +kernel) rfl
theorem wv_Bench_edge : Cond.selects m_Bench_edge.1.cls m_Bench_edge.1 m_Bench_edge.1 ∈ nm_ws := nm_at 446 (by decide +kernel) rfl
set_option maxRecDepth 100000 in
theorem wc_Bench_failed : Cond.code m_Bench_failed.1 m_Bench_failed.2.1 m_Bench_failed.2.2.1 m_Bench_failed.2.2.2 ∈ nm_ws := nm_at 413 rfl rfl
theorem wi_Bench_failed : Cond.instanceMethod m_Bench_failed.1 ∈ nm_ws := nm_at 411 (by decide +kernel) rfl
theorem wv_Bench_failed : Cond.selects m_Bench_failed.1.cls m_Bench_failed.1 m_Bench_failed.1 ∈ nm_ws := nm_at 412 (by decide +kernel) rfl
set_option maxRecDepth 100000 in
theorem wc_Bench_family : Cond.code m_Bench_family.1 m_Bench_family.2.1 m_Bench_family.2.2.1 m_Bench_family.2.2.2 ∈ nm_ws := nm_at 372 rfl rfl
theorem wi_Bench_family : Cond.instanceMethod m_Bench_family.1 ∈ nm_ws := nm_at 370 (by decide +kernel) rfl
theorem wv_Bench_family : Cond.selects m_Bench_family.1.cls m_Bench_family.1 m_Bench_family.1 ∈ nm_ws := nm_at 371 (by decide +kernel) rfl
set_option maxRecDepth 100000 in
theorem wc_Bench_give : Cond.code m_Bench_give.1 m_Bench_give.2.1 m_Bench_give.2.2.1 m_Bench_give.2.2.2 ∈ nm_ws := nm_at 740 rfl rfl
theorem wi_Bench_give : Cond.instanceMethod m_Bench_give.1 ∈ nm_ws := nm_at 738 (by decide +kernel) rfl
theorem wv_Bench_give : Cond.selects m_Bench_give.1.cls m_Bench_give.1 m_Bench_give.1 ∈ nm_ws := nm_at 739 (by decide +kernel) rfl
set_option maxRecDepth 100000 in
theorem wc_Bench_look : Cond.code m_Bench_look.1 m_Bench_look.2.1 m_Bench_look.2.2.1 m_Bench_look.2.2.2 ∈ nm_ws := nm_at 435 rfl rfl
theorem wi_Bench_look : Cond.instanceMethod m_Bench_look.1 ∈ nm_ws := nm_at 433 (by decide +kernel) rfl
theorem wv_Bench_look : Cond.selects m_Bench_look.1.cls m_Bench_look.1 m_Bench_look.1 ∈ nm_ws := nm_at 434 (by decide +kernel) rfl
set_option maxRecDepth 100000 in
theorem wc_Bench_minimal : Cond.code m_Bench_minimal.1 m_Bench_minimal.2.1 m_Bench_minimal.2.2.1 m_Bench_minimal.2.2.2 ∈ nm_ws := nm_at 356 rfl rfl
theorem wi_Bench_minimal : Cond.instanceMethod m_Bench_minimal.1 ∈ nm_ws := nm_at 354 (by decide +kernel) rfl
theorem wv_Bench_minimal : Cond.selects m_Bench_minimal.1.cls m_Bench_minimal.1 m_Bench_minimal.1 ∈ nm_ws := nm_at 355 (by decide +kernel) rfl
set_option maxRecDepth 100000 in
theorem wc_Bench_own : Cond.code m_Bench_own.1 m_Bench_own.2.1 m_Bench_own.2.2.1 m_Bench_own.2.2.2 ∈ nm_ws := nm_at 380 rfl rfl
theorem wi_Bench_own : Cond.instanceMethod m_Bench_own.1 ∈ nm_ws := nm_at 378 (by decide +kernel) rfl
theorem wv_Bench_own : Cond.selects m_Bench_own.1.cls m_Bench_own.1 m_Bench_own.1 ∈ nm_ws := nm_at 379 (by decide +kernel) rfl
set_option maxRecDepth 100000 in
theorem wc_Bench_resize : Cond.code m_Bench_resize.1 m_Bench_resize.2.1 m_Bench_resize.2.2.1 m_Bench_resize.2.2.2 ∈ nm_ws := nm_at 691 rfl rfl
theorem wi_Bench_resize : Cond.instanceMethod m_Bench_resize.1 ∈ nm_ws := nm_at 689 (by decide +kernel) rfl
theorem wv_Bench_resize : Cond.selects m_Bench_resize.1.cls m_Bench_resize.1 m_Bench_resize.1 ∈ nm_ws := nm_at 690 (by decide +kernel) rfl
set_option maxRecDepth 100000 in
theorem wc_Bench_run : Cond.code m_Bench_run.1 m_Bench_run.2.1 m_Bench_run.2.2.1 m_Bench_run.2.2.2 ∈ nm_ws := nm_at 706 rfl rfl
theorem wi_Bench_run : Cond.instanceMethod m_Bench_run.1 ∈ nm_ws := nm_at 704 (by decide +kernel) rfl
theorem wv_Bench_run : Cond.selects m_Bench_run.1.cls m_Bench_run.1 m_Bench_run.1 ∈ nm_ws := nm_at 705 (by decide +kernel) rfl
set_option maxRecDepth 100000 in
theorem wc_Bench_same : Cond.code m_Bench_same.1 m_Bench_same.2.1 m_Bench_same.2.2.1 m_Bench_same.2.2.2 ∈ nm_ws := nm_at 748 rfl rfl
theorem wi_Bench_same : Cond.instanceMethod m_Bench_same.1 ∈ nm_ws := nm_at 746 (by decide +kernel) rfl
theorem wv_Bench_same : Cond.selects m_Bench_same.1.cls m_Bench_same.1 m_Bench_same.1 ∈ nm_ws := nm_at 747 (by decide +kernel) rfl
set_option maxRecDepth 100000 in
theorem wc_Bench_seal : Cond.code m_Bench_seal.1 m_Bench_seal.2.1 m_Bench_seal.2.2.1 m_Bench_seal.2.2.2 ∈ nm_ws := nm_at 549 rfl rfl
theorem wi_Bench_seal : Cond.instanceMethod m_Bench_seal.1 ∈ nm_ws := nm_at 547 (by decide +kernel) rfl
theorem wv_Bench_seal : Cond.selects m_Bench_seal.1.cls m_Bench_seal.1 m_Bench_seal.1 ∈ nm_ws := nm_at 548 (by decide +kernel) rfl
set_option maxRecDepth 100000 in
theorem wc_Bench_start : Cond.code m_Bench_start.1 m_Bench_start.2.1 m_Bench_start.2.2.1 m_Bench_start.2.2.2 ∈ nm_ws := nm_at 542 rfl rfl
theorem wi_Bench_start : Cond.instanceMethod m_Bench_start.1 ∈ nm_ws := nm_at 540 (by decide +kernel) rfl
theorem wv_Bench_start : Cond.selects m_Bench_start.1.cls m_Bench_start.1 m_Bench_start.1 ∈ nm_ws := nm_at 541 (by decide +kernel) rfl
set_option maxRecDepth 100000 in
theorem wc_Bench_suite : Cond.code m_Bench_suite.1 m_Bench_suite.2.1 m_Bench_suite.2.2.1 m_Bench_suite.2.2.2 ∈ nm_ws := nm_at 632 rfl rfl
theorem wi_Bench_suite : Cond.instanceMethod m_Bench_suite.1 ∈ nm_ws := nm_at 630 (by decide +kernel) rfl
theorem wv_Bench_suite : Cond.selects m_Bench_suite.1.cls m_Bench_suite.1 m_Bench_suite.1 ∈ nm_ws := nm_at 631 (by decide +kernel) rfl
set_option maxRecDepth 100000 in
theorem wc_Bench_tellInput : Cond.code m_Bench_tellInput.1 m_Bench_tellInput.2.1 m_Bench_tellInput.2.2.1 m_Bench_tellInput.2.2.2 ∈ nm_ws := nm_at 733 rfl rfl
theorem wi_Bench_tellInput : Cond.instanceMethod m_Bench_tellInput.1 ∈ nm_ws := nm_at 732 (by decide +kernel) rfl
theorem wv_Bench_tellInput : Cond.selects m_Bench_tellInput.1.cls m_Bench_tellInput.1 m_Bench_tellInput.1 ∈ nm_ws := nm_at 18 (by decide +kernel) rfl
set_option maxRecDepth 100000 in
theorem wc_Bench_test : Cond.code m_Bench_test.1 m_Bench_test.2.1 m_Bench_test.2.2.1 m_Bench_test.2.2.2 ∈ nm_ws := nm_at 384 rfl rfl
theorem wi_Bench_test : Cond.instanceMethod m_Bench_test.1 ∈ nm_ws := nm_at 382 (by decide +kernel) rfl
theorem wv_Bench_test : Cond.selects m_Bench_test.1.cls m_Bench_test.1 m_Bench_test.1 ∈ nm_ws := nm_at 383 (by decide +kernel) rfl
set_option maxRecDepth 100000 in
theorem wc_Bench_word : Cond.code m_Bench_word.1 m_Bench_word.2.1 m_Bench_word.2.2.1 m_Bench_word.2.2.2 ∈ nm_ws := nm_at 364 rfl rfl
theorem wi_Bench_word : Cond.instanceMethod m_Bench_word.1 ∈ nm_ws := nm_at 362 (by decide +kernel) rfl
theorem wv_Bench_word : Cond.selects m_Bench_word.1.cls m_Bench_word.1 m_Bench_word.1 ∈ nm_ws := nm_at 363 (by decide +kernel) rfl
set_option maxRecDepth 100000 in
theorem wc_Family_init : Cond.code m_Family_init.1 m_Family_init.2.1 m_Family_init.2.2.1 m_Family_init.2.2.2 ∈ nm_ws := nm_at 153 rfl rfl
theorem wi_Family_init : Cond.instanceMethod m_Family_init.1 ∈ nm_ws := nm_at 152 (by decide +kernel) rfl
set_option maxRecDepth 100000 in
theorem wc_Family_choose : Cond.code m_Family_choose.1 m_Family_choose.2.1 m_Family_choose.2.2.1 m_Family_choose.2.2.2 ∈ nm_ws := nm_at 586 rfl rfl
theorem wi_Family_choose : Cond.instanceMethod m_Family_choose.1 ∈ nm_ws := nm_at 584 (by decide +kernel) rfl
theorem wv_Family_choose : Cond.selects m_Family_choose.1.cls m_Family_choose.1 m_Family_choose.1 ∈ nm_ws := nm_at 585 (by decide +kernel) rfl
set_option maxRecDepth 100000 in
theorem wc_Family_chooseOwn : Cond.code m_Family_chooseOwn.1 m_Family_chooseOwn.2.1 m_Family_chooseOwn.2.2.1 m_Family_chooseOwn.2.2.2 ∈ nm_ws := nm_at 606 rfl rfl
theorem wi_Family_chooseOwn : Cond.instanceMethod m_Family_chooseOwn.1 ∈ nm_ws := nm_at 605 (by decide +kernel) rfl
theorem wv_Family_chooseOwn : Cond.selects m_Family_chooseOwn.1.cls m_Family_chooseOwn.1 m_Family_chooseOwn.1 ∈ nm_ws := nm_at 8 (by decide +kernel) rfl
set_option maxRecDepth 100000 in
theorem wc_Family_firstWord : Cond.code m_Family_firstWord.1 m_Family_firstWord.2.1 m_Family_firstWord.2.2.1 m_Family_firstWord.2.2.2 ∈ nm_ws := nm_at 590 rfl rfl
theorem wi_Family_firstWord : Cond.instanceMethod m_Family_firstWord.1 ∈ nm_ws := nm_at 589 (by decide +kernel) rfl
theorem wv_Family_firstWord : Cond.selects m_Family_firstWord.1.cls m_Family_firstWord.1 m_Family_firstWord.1 ∈ nm_ws := nm_at 7 (by decide +kernel) rfl
set_option maxRecDepth 100000 in
theorem wc_Family_has : Cond.code m_Family_has.1 m_Family_has.2.1 m_Family_has.2.2.1 m_Family_has.2.2.2 ∈ nm_ws := nm_at 376 rfl rfl
theorem wi_Family_has : Cond.instanceMethod m_Family_has.1 ∈ nm_ws := nm_at 374 (by decide +kernel) rfl
theorem wv_Family_has : Cond.selects m_Family_has.1.cls m_Family_has.1 m_Family_has.1 ∈ nm_ws := nm_at 375 (by decide +kernel) rfl
set_option maxRecDepth 100000 in
theorem wc_Family_ownTells : Cond.code m_Family_ownTells.1 m_Family_ownTells.2.1 m_Family_ownTells.2.2.1 m_Family_ownTells.2.2.2 ∈ nm_ws := nm_at 610 rfl rfl
theorem wi_Family_ownTells : Cond.instanceMethod m_Family_ownTells.1 ∈ nm_ws := nm_at 609 (by decide +kernel) rfl
theorem wv_Family_ownTells : Cond.selects m_Family_ownTells.1.cls m_Family_ownTells.1 m_Family_ownTells.1 ∈ nm_ws := nm_at 9 (by decide +kernel) rfl
set_option maxRecDepth 100000 in
theorem wc_Machine_init : Cond.code m_Machine_init.1 m_Machine_init.2.1 m_Machine_init.2.2.1 m_Machine_init.2.2.2 ∈ nm_ws := nm_at 77 rfl rfl
theorem wi_Machine_init : Cond.instanceMethod m_Machine_init.1 ∈ nm_ws := nm_at 76 (by decide +kernel) rfl
set_option maxRecDepth 100000 in
theorem wc_Machine_allows : Cond.code m_Machine_allows.1 m_Machine_allows.2.1 m_Machine_allows.2.2.1 m_Machine_allows.2.2.2 ∈ nm_ws := nm_at 451 rfl rfl
theorem wi_Machine_allows : Cond.instanceMethod m_Machine_allows.1 ∈ nm_ws := nm_at 449 (by decide +kernel) rfl
theorem wv_Machine_allows : Cond.selects m_Machine_allows.1.cls m_Machine_allows.1 m_Machine_allows.1 ∈ nm_ws := nm_at 450 (by decide +kernel) rfl
set_option maxRecDepth 100000 in
theorem wc_Machine_copy : Cond.code m_Machine_copy.1 m_Machine_copy.2.1 m_Machine_copy.2.2.1 m_Machine_copy.2.2.2 ∈ nm_ws := nm_at 614 rfl rfl
theorem wi_Machine_copy : Cond.instanceMethod m_Machine_copy.1 ∈ nm_ws := nm_at 612 (by decide +kernel) rfl
theorem wv_Machine_copy : Cond.selects m_Machine_copy.1.cls m_Machine_copy.1 m_Machine_copy.1 ∈ nm_ws := nm_at 613 (by decide +kernel) rfl
set_option maxRecDepth 100000 in
theorem wc_Machine_fitTo : Cond.code m_Machine_fitTo.1 m_Machine_fitTo.2.1 m_Machine_fitTo.2.2.1 m_Machine_fitTo.2.2.2 ∈ nm_ws := nm_at 82 rfl rfl
theorem wi_Machine_fitTo : Cond.instanceMethod m_Machine_fitTo.1 ∈ nm_ws := nm_at 80 (by decide +kernel) rfl
theorem wv_Machine_fitTo : Cond.selects m_Machine_fitTo.1.cls m_Machine_fitTo.1 m_Machine_fitTo.1 ∈ nm_ws := nm_at 81 (by decide +kernel) rfl
set_option maxRecDepth 100000 in
theorem wc_Machine_hasOutput : Cond.code m_Machine_hasOutput.1 m_Machine_hasOutput.2.1 m_Machine_hasOutput.2.2.1 m_Machine_hasOutput.2.2.2 ∈ nm_ws := nm_at 456 rfl rfl
theorem wi_Machine_hasOutput : Cond.instanceMethod m_Machine_hasOutput.1 ∈ nm_ws := nm_at 454 (by decide +kernel) rfl
theorem wv_Machine_hasOutput : Cond.selects m_Machine_hasOutput.1.cls m_Machine_hasOutput.1 m_Machine_hasOutput.1 ∈ nm_ws := nm_at 455 (by decide +kernel) rfl
set_option maxRecDepth 100000 in
theorem wc_Machine_hasState : Cond.code m_Machine_hasState.1 m_Machine_hasState.2.1 m_Machine_hasState.2.2.1 m_Machine_hasState.2.2.2 ∈ nm_ws := nm_at 360 rfl rfl
theorem wi_Machine_hasState : Cond.instanceMethod m_Machine_hasState.1 ∈ nm_ws := nm_at 358 (by decide +kernel) rfl
theorem wv_Machine_hasState : Cond.selects m_Machine_hasState.1.cls m_Machine_hasState.1 m_Machine_hasState.1 ∈ nm_ws := nm_at 359 (by decide +kernel) rfl
set_option maxRecDepth 100000 in
theorem wc_Machine_next : Cond.code m_Machine_next.1 m_Machine_next.2.1 m_Machine_next.2.2.1 m_Machine_next.2.2.2 ∈ nm_ws := nm_at 90 rfl rfl
theorem wi_Machine_next : Cond.instanceMethod m_Machine_next.1 ∈ nm_ws := nm_at 88 (by decide +kernel) rfl
theorem wv_Machine_next : Cond.selects m_Machine_next.1.cls m_Machine_next.1 m_Machine_next.1 ∈ nm_ws := nm_at 89 (by decide +kernel) rfl
set_option maxRecDepth 100000 in
theorem wc_Machine_output : Cond.code m_Machine_output.1 m_Machine_output.2.1 m_Machine_output.2.2.1 m_Machine_output.2.2.2 ∈ nm_ws := nm_at 94 rfl rfl
theorem wi_Machine_output : Cond.instanceMethod m_Machine_output.1 ∈ nm_ws := nm_at 92 (by decide +kernel) rfl
theorem wv_Machine_output : Cond.selects m_Machine_output.1.cls m_Machine_output.1 m_Machine_output.1 ∈ nm_ws := nm_at 93 (by decide +kernel) rfl
set_option maxRecDepth 100000 in
theorem wc_Machine_set : Cond.code m_Machine_set.1 m_Machine_set.2.1 m_Machine_set.2.2.1 m_Machine_set.2.2.2 ∈ nm_ws := nm_at 86 rfl rfl
theorem wi_Machine_set : Cond.instanceMethod m_Machine_set.1 ∈ nm_ws := nm_at 84 (by decide +kernel) rfl
theorem wv_Machine_set : Cond.selects m_Machine_set.1.cls m_Machine_set.1 m_Machine_set.1 ∈ nm_ws := nm_at 85 (by decide +kernel) rfl
set_option maxRecDepth 100000 in
theorem wc_Machine_tellsApart : Cond.code m_Machine_tellsApart.1 m_Machine_tellsApart.2.1 m_Machine_tellsApart.2.2.1 m_Machine_tellsApart.2.2.2 ∈ nm_ws := nm_at 594 rfl rfl
theorem wi_Machine_tellsApart : Cond.instanceMethod m_Machine_tellsApart.1 ∈ nm_ws := nm_at 592 (by decide +kernel) rfl
theorem wv_Machine_tellsApart : Cond.selects m_Machine_tellsApart.1.cls m_Machine_tellsApart.1 m_Machine_tellsApart.1 ∈ nm_ws := nm_at 593 (by decide +kernel) rfl
set_option maxRecDepth 100000 in
theorem wc_Search_find : Cond.code m_Search_find.1 m_Search_find.2.1 m_Search_find.2.2.1 m_Search_find.2.2.2 ∈ nm_ws := nm_at 561 rfl rfl
theorem wi_Search_find : Cond.instanceMethod m_Search_find.1 ∈ nm_ws := nm_at 559 (by decide +kernel) rfl
theorem wv_Search_find : Cond.selects m_Search_find.1.cls m_Search_find.1 m_Search_find.1 ∈ nm_ws := nm_at 560 (by decide +kernel) rfl
set_option maxRecDepth 100000 in
theorem wc_Search_forget : Cond.code m_Search_forget.1 m_Search_forget.2.1 m_Search_forget.2.2.1 m_Search_forget.2.2.2 ∈ nm_ws := nm_at 565 rfl rfl
theorem wi_Search_forget : Cond.instanceMethod m_Search_forget.1 ∈ nm_ws := nm_at 564 (by decide +kernel) rfl
theorem wv_Search_forget : Cond.selects m_Search_forget.1.cls m_Search_forget.1 m_Search_forget.1 ∈ nm_ws := nm_at 3 (by decide +kernel) rfl
set_option maxRecDepth 100000 in
theorem wc_Search_reach : Cond.code m_Search_reach.1 m_Search_reach.2.1 m_Search_reach.2.2.1 m_Search_reach.2.2.2 ∈ nm_ws := nm_at 569 rfl rfl
theorem wi_Search_reach : Cond.instanceMethod m_Search_reach.1 ∈ nm_ws := nm_at 568 (by decide +kernel) rfl
theorem wv_Search_reach : Cond.selects m_Search_reach.1.cls m_Search_reach.1 m_Search_reach.1 ∈ nm_ws := nm_at 4 (by decide +kernel) rfl
set_option maxRecDepth 100000 in
theorem wc_Search_spell : Cond.code m_Search_spell.1 m_Search_spell.2.1 m_Search_spell.2.2.1 m_Search_spell.2.2.2 ∈ nm_ws := nm_at 574 rfl rfl
theorem wi_Search_spell : Cond.instanceMethod m_Search_spell.1 ∈ nm_ws := nm_at 573 (by decide +kernel) rfl
theorem wv_Search_spell : Cond.selects m_Search_spell.1.cls m_Search_spell.1 m_Search_spell.1 ∈ nm_ws := nm_at 5 (by decide +kernel) rfl
set_option maxRecDepth 100000 in
theorem wc_Reduction_init : Cond.code m_Reduction_init.1 m_Reduction_init.2.1 m_Reduction_init.2.2.1 m_Reduction_init.2.2.2 ∈ nm_ws := nm_at 121 rfl rfl
theorem wi_Reduction_init : Cond.instanceMethod m_Reduction_init.1 ∈ nm_ws := nm_at 120 (by decide +kernel) rfl
set_option maxRecDepth 100000 in
theorem wc_Reduction_addState : Cond.code m_Reduction_addState.1 m_Reduction_addState.2.1 m_Reduction_addState.2.2.1 m_Reduction_addState.2.2.2 ∈ nm_ws := nm_at 579 rfl rfl
theorem wi_Reduction_addState : Cond.instanceMethod m_Reduction_addState.1 ∈ nm_ws := nm_at 578 (by decide +kernel) rfl
theorem wv_Reduction_addState : Cond.selects m_Reduction_addState.1.cls m_Reduction_addState.1 m_Reduction_addState.1 ∈ nm_ws := nm_at 6 (by decide +kernel) rfl
set_option maxRecDepth 100000 in
theorem wc_Reduction_findTwins : Cond.code m_Reduction_findTwins.1 m_Reduction_findTwins.2.1 m_Reduction_findTwins.2.2.1 m_Reduction_findTwins.2.2.2 ∈ nm_ws := nm_at 557 rfl rfl
theorem wi_Reduction_findTwins : Cond.instanceMethod m_Reduction_findTwins.1 ∈ nm_ws := nm_at 556 (by decide +kernel) rfl
theorem wv_Reduction_findTwins : Cond.selects m_Reduction_findTwins.1.cls m_Reduction_findTwins.1 m_Reduction_findTwins.1 ∈ nm_ws := nm_at 2 (by decide +kernel) rfl
set_option maxRecDepth 100000 in
theorem wc_Reduction_isAccess : Cond.code m_Reduction_isAccess.1 m_Reduction_isAccess.2.1 m_Reduction_isAccess.2.2.1 m_Reduction_isAccess.2.2.2 ∈ nm_ws := nm_at 665 rfl rfl
theorem wi_Reduction_isAccess : Cond.instanceMethod m_Reduction_isAccess.1 ∈ nm_ws := nm_at 663 (by decide +kernel) rfl
theorem wv_Reduction_isAccess : Cond.selects m_Reduction_isAccess.1.cls m_Reduction_isAccess.1 m_Reduction_isAccess.1 ∈ nm_ws := nm_at 664 (by decide +kernel) rfl
set_option maxRecDepth 100000 in
theorem wc_Reduction_reduce : Cond.code m_Reduction_reduce.1 m_Reduction_reduce.2.1 m_Reduction_reduce.2.2.1 m_Reduction_reduce.2.2.2 ∈ nm_ws := nm_at 553 rfl rfl
theorem wi_Reduction_reduce : Cond.instanceMethod m_Reduction_reduce.1 ∈ nm_ws := nm_at 551 (by decide +kernel) rfl
theorem wv_Reduction_reduce : Cond.selects m_Reduction_reduce.1.cls m_Reduction_reduce.1 m_Reduction_reduce.1 ∈ nm_ws := nm_at 552 (by decide +kernel) rfl
set_option maxRecDepth 100000 in
theorem wc_Suite_init : Cond.code m_Suite_init.1 m_Suite_init.2.1 m_Suite_init.2.2.1 m_Suite_init.2.2.2 ∈ nm_ws := nm_at 254 rfl rfl
theorem wi_Suite_init : Cond.instanceMethod m_Suite_init.1 ∈ nm_ws := nm_at 253 (by decide +kernel) rfl
set_option maxRecDepth 100000 in
theorem wc_Suite_addFamily : Cond.code m_Suite_addFamily.1 m_Suite_addFamily.2.1 m_Suite_addFamily.2.2.1 m_Suite_addFamily.2.2.2 ∈ nm_ws := nm_at 653 rfl rfl
theorem wi_Suite_addFamily : Cond.instanceMethod m_Suite_addFamily.1 ∈ nm_ws := nm_at 652 (by decide +kernel) rfl
theorem wv_Suite_addFamily : Cond.selects m_Suite_addFamily.1.cls m_Suite_addFamily.1 m_Suite_addFamily.1 ∈ nm_ws := nm_at 13 (by decide +kernel) rfl
set_option maxRecDepth 100000 in
theorem wc_Suite_addNode : Cond.code m_Suite_addNode.1 m_Suite_addNode.2.1 m_Suite_addNode.2.2.1 m_Suite_addNode.2.2.2 ∈ nm_ws := nm_at 640 rfl rfl
theorem wi_Suite_addNode : Cond.instanceMethod m_Suite_addNode.1 ∈ nm_ws := nm_at 639 (by decide +kernel) rfl
theorem wv_Suite_addNode : Cond.selects m_Suite_addNode.1.cls m_Suite_addNode.1 m_Suite_addNode.1 ∈ nm_ws := nm_at 10 (by decide +kernel) rfl
set_option maxRecDepth 100000 in
theorem wc_Suite_addOwn : Cond.code m_Suite_addOwn.1 m_Suite_addOwn.2.1 m_Suite_addOwn.2.2.1 m_Suite_addOwn.2.2.2 ∈ nm_ws := nm_at 661 rfl rfl
theorem wi_Suite_addOwn : Cond.instanceMethod m_Suite_addOwn.1 ∈ nm_ws := nm_at 660 (by decide +kernel) rfl
theorem wv_Suite_addOwn : Cond.selects m_Suite_addOwn.1.cls m_Suite_addOwn.1 m_Suite_addOwn.1 ∈ nm_ws := nm_at 15 (by decide +kernel) rfl
set_option maxRecDepth 100000 in
theorem wc_Suite_addWord : Cond.code m_Suite_addWord.1 m_Suite_addWord.2.1 m_Suite_addWord.2.2.1 m_Suite_addWord.2.2.2 ∈ nm_ws := nm_at 657 rfl rfl
theorem wi_Suite_addWord : Cond.instanceMethod m_Suite_addWord.1 ∈ nm_ws := nm_at 656 (by decide +kernel) rfl
theorem wv_Suite_addWord : Cond.selects m_Suite_addWord.1.cls m_Suite_addWord.1 m_Suite_addWord.1 ∈ nm_ws := nm_at 14 (by decide +kernel) rfl
set_option maxRecDepth 100000 in
theorem wc_Suite_behindInput : Cond.code m_Suite_behindInput.1 m_Suite_behindInput.2.1 m_Suite_behindInput.2.2.1 m_Suite_behindInput.2.2.2 ∈ nm_ws := nm_at 400 rfl rfl
theorem wi_Suite_behindInput : Cond.instanceMethod m_Suite_behindInput.1 ∈ nm_ws := nm_at 399 (by decide +kernel) rfl
theorem wv_Suite_behindInput : Cond.selects m_Suite_behindInput.1.cls m_Suite_behindInput.1 m_Suite_behindInput.1 ∈ nm_ws := nm_at 0 (by decide +kernel) rfl
set_option maxRecDepth 100000 in
theorem wc_Suite_build : Cond.code m_Suite_build.1 m_Suite_build.2.1 m_Suite_build.2.2.1 m_Suite_build.2.2.2 ∈ nm_ws := nm_at 636 rfl rfl
theorem wi_Suite_build : Cond.instanceMethod m_Suite_build.1 ∈ nm_ws := nm_at 634 (by decide +kernel) rfl
theorem wv_Suite_build : Cond.selects m_Suite_build.1.cls m_Suite_build.1 m_Suite_build.1 ∈ nm_ws := nm_at 635 (by decide +kernel) rfl
set_option maxRecDepth 100000 in
theorem wc_Suite_enter : Cond.code m_Suite_enter.1 m_Suite_enter.2.1 m_Suite_enter.2.2.1 m_Suite_enter.2.2.2 ∈ nm_ws := nm_at 644 rfl rfl
theorem wi_Suite_enter : Cond.instanceMethod m_Suite_enter.1 ∈ nm_ws := nm_at 643 (by decide +kernel) rfl
theorem wv_Suite_enter : Cond.selects m_Suite_enter.1.cls m_Suite_enter.1 m_Suite_enter.1 ∈ nm_ws := nm_at 11 (by decide +kernel) rfl
set_option maxRecDepth 100000 in
theorem wc_Suite_grow : Cond.code m_Suite_grow.1 m_Suite_grow.2.1 m_Suite_grow.2.2.1 m_Suite_grow.2.2.2 ∈ nm_ws := nm_at 649 rfl rfl
theorem wi_Suite_grow : Cond.instanceMethod m_Suite_grow.1 ∈ nm_ws := nm_at 648 (by decide +kernel) rfl
theorem wv_Suite_grow : Cond.selects m_Suite_grow.1.cls m_Suite_grow.1 m_Suite_grow.1 ∈ nm_ws := nm_at 12 (by decide +kernel) rfl
set_option maxRecDepth 100000 in
theorem wc_Suite_hasTest : Cond.code m_Suite_hasTest.1 m_Suite_hasTest.2.1 m_Suite_hasTest.2.2.1 m_Suite_hasTest.2.2.2 ∈ nm_ws := nm_at 388 rfl rfl
theorem wi_Suite_hasTest : Cond.instanceMethod m_Suite_hasTest.1 ∈ nm_ws := nm_at 386 (by decide +kernel) rfl
theorem wv_Suite_hasTest : Cond.selects m_Suite_hasTest.1.cls m_Suite_hasTest.1 m_Suite_hasTest.1 ∈ nm_ws := nm_at 387 (by decide +kernel) rfl
set_option maxRecDepth 100000 in
theorem wc_Suite_inputAt : Cond.code m_Suite_inputAt.1 m_Suite_inputAt.2.1 m_Suite_inputAt.2.2.1 m_Suite_inputAt.2.2.2 ∈ nm_ws := nm_at 409 rfl rfl
theorem wi_Suite_inputAt : Cond.instanceMethod m_Suite_inputAt.1 ∈ nm_ws := nm_at 407 (by decide +kernel) rfl
theorem wv_Suite_inputAt : Cond.selects m_Suite_inputAt.1.cls m_Suite_inputAt.1 m_Suite_inputAt.1 ∈ nm_ws := nm_at 408 (by decide +kernel) rfl
set_option maxRecDepth 100000 in
theorem wc_Suite_isMade : Cond.code m_Suite_isMade.1 m_Suite_isMade.2.1 m_Suite_isMade.2.2.1 m_Suite_isMade.2.2.2 ∈ nm_ws := nm_at 421 rfl rfl
theorem wi_Suite_isMade : Cond.instanceMethod m_Suite_isMade.1 ∈ nm_ws := nm_at 419 (by decide +kernel) rfl
theorem wv_Suite_isMade : Cond.selects m_Suite_isMade.1.cls m_Suite_isMade.1 m_Suite_isMade.1 ∈ nm_ws := nm_at 420 (by decide +kernel) rfl
set_option maxRecDepth 100000 in
theorem wc_Suite_lengthOf : Cond.code m_Suite_lengthOf.1 m_Suite_lengthOf.2.1 m_Suite_lengthOf.2.2.1 m_Suite_lengthOf.2.2.2 ∈ nm_ws := nm_at 392 rfl rfl
theorem wi_Suite_lengthOf : Cond.instanceMethod m_Suite_lengthOf.1 ∈ nm_ws := nm_at 390 (by decide +kernel) rfl
theorem wv_Suite_lengthOf : Cond.selects m_Suite_lengthOf.1.cls m_Suite_lengthOf.1 m_Suite_lengthOf.1 ∈ nm_ws := nm_at 391 (by decide +kernel) rfl
set_option maxRecDepth 100000 in
theorem wc_Suite_orderTests : Cond.code m_Suite_orderTests.1 m_Suite_orderTests.2.1 m_Suite_orderTests.2.2.1 m_Suite_orderTests.2.2.2 ∈ nm_ws := nm_at 669 rfl rfl
theorem wi_Suite_orderTests : Cond.instanceMethod m_Suite_orderTests.1 ∈ nm_ws := nm_at 668 (by decide +kernel) rfl
theorem wv_Suite_orderTests : Cond.selects m_Suite_orderTests.1.cls m_Suite_orderTests.1 m_Suite_orderTests.1 ∈ nm_ws := nm_at 16 (by decide +kernel) rfl
set_option maxRecDepth 100000 in
theorem wc_Suite_outputAt : Cond.code m_Suite_outputAt.1 m_Suite_outputAt.2.1 m_Suite_outputAt.2.2.1 m_Suite_outputAt.2.2.2 ∈ nm_ws := nm_at 396 rfl rfl
theorem wi_Suite_outputAt : Cond.instanceMethod m_Suite_outputAt.1 ∈ nm_ws := nm_at 394 (by decide +kernel) rfl
theorem wv_Suite_outputAt : Cond.selects m_Suite_outputAt.1.cls m_Suite_outputAt.1 m_Suite_outputAt.1 ∈ nm_ws := nm_at 395 (by decide +kernel) rfl
set_option maxRecDepth 100000 in
theorem wc_Suite_outputInto : Cond.code m_Suite_outputInto.1 m_Suite_outputInto.2.1 m_Suite_outputInto.2.2.1 m_Suite_outputInto.2.2.2 ∈ nm_ws := nm_at 404 rfl rfl
theorem wi_Suite_outputInto : Cond.instanceMethod m_Suite_outputInto.1 ∈ nm_ws := nm_at 402 (by decide +kernel) rfl
theorem wv_Suite_outputInto : Cond.selects m_Suite_outputInto.1.cls m_Suite_outputInto.1 m_Suite_outputInto.1 ∈ nm_ws := nm_at 403 (by decide +kernel) rfl
set_option maxRecDepth 100000 in
theorem wc_Suite_transitions : Cond.code m_Suite_transitions.1 m_Suite_transitions.2.1 m_Suite_transitions.2.2.1 m_Suite_transitions.2.2.2 ∈ nm_ws := nm_at 425 rfl rfl
theorem wi_Suite_transitions : Cond.instanceMethod m_Suite_transitions.1 ∈ nm_ws := nm_at 423 (by decide +kernel) rfl
theorem wv_Suite_transitions : Cond.selects m_Suite_transitions.1.cls m_Suite_transitions.1 m_Suite_transitions.1 ∈ nm_ws := nm_at 424 (by decide +kernel) rfl
set_option maxRecDepth 100000 in
theorem wc_Trial_firstFailure : Cond.code m_Trial_firstFailure.1 m_Trial_firstFailure.2.1 m_Trial_firstFailure.2.2.1 m_Trial_firstFailure.2.2.2 ∈ nm_ws := nm_at 710 rfl rfl
theorem wi_Trial_firstFailure : Cond.instanceMethod m_Trial_firstFailure.1 ∈ nm_ws := nm_at 708 (by decide +kernel) rfl
theorem wv_Trial_firstFailure : Cond.selects m_Trial_firstFailure.1.cls m_Trial_firstFailure.1 m_Trial_firstFailure.1 ∈ nm_ws := nm_at 709 (by decide +kernel) rfl
set_option maxRecDepth 100000 in
theorem wc_Trial_placeOf : Cond.code m_Trial_placeOf.1 m_Trial_placeOf.2.1 m_Trial_placeOf.2.2.1 m_Trial_placeOf.2.2.2 ∈ nm_ws := nm_at 721 rfl rfl
theorem wi_Trial_placeOf : Cond.instanceMethod m_Trial_placeOf.1 ∈ nm_ws := nm_at 719 (by decide +kernel) rfl
theorem wv_Trial_placeOf : Cond.selects m_Trial_placeOf.1.cls m_Trial_placeOf.1 m_Trial_placeOf.1 ∈ nm_ws := nm_at 720 (by decide +kernel) rfl
set_option maxRecDepth 100000 in
theorem wc_Trial_step : Cond.code m_Trial_step.1 m_Trial_step.2.1 m_Trial_step.2.2.1 m_Trial_step.2.2.2 ∈ nm_ws := nm_at 714 rfl rfl
theorem wi_Trial_step : Cond.instanceMethod m_Trial_step.1 ∈ nm_ws := nm_at 713 (by decide +kernel) rfl
theorem wv_Trial_step : Cond.selects m_Trial_step.1.cls m_Trial_step.1 m_Trial_step.1 ∈ nm_ws := nm_at 17 (by decide +kernel) rfl
set_option maxRecDepth 100000 in
theorem wc_Word_at : Cond.code m_Word_at.1 m_Word_at.2.1 m_Word_at.2.2.1 m_Word_at.2.2.2 ∈ nm_ws := nm_at 368 rfl rfl
theorem wi_Word_at : Cond.instanceMethod m_Word_at.1 ∈ nm_ws := nm_at 366 (by decide +kernel) rfl
theorem wv_Word_at : Cond.selects m_Word_at.1.cls m_Word_at.1 m_Word_at.1 ∈ nm_ws := nm_at 367 (by decide +kernel) rfl
set_option maxRecDepth 100000 in
theorem wc_Word_copy : Cond.code m_Word_copy.1 m_Word_copy.2.1 m_Word_copy.2.2.1 m_Word_copy.2.2.2 ∈ nm_ws := nm_at 599 rfl rfl
theorem wi_Word_copy : Cond.instanceMethod m_Word_copy.1 ∈ nm_ws := nm_at 597 (by decide +kernel) rfl
theorem wv_Word_copy : Cond.selects m_Word_copy.1.cls m_Word_copy.1 m_Word_copy.1 ∈ nm_ws := nm_at 598 (by decide +kernel) rfl
set_option maxRecDepth 100000 in
theorem wc_Law_cell : Cond.code m_Law_cell.1 m_Law_cell.2.1 m_Law_cell.2.2.1 m_Law_cell.2.2.2 ∈ nm_ws := nm_at 438 rfl rfl
theorem wt_Law_cell : Cond.static m_Law_cell.1 ∈ nm_ws := nm_at 437 (by decide +kernel) rfl
set_option maxRecDepth 100000 in
theorem wc_Model_init : Cond.code m_Model_init.1 m_Model_init.2.1 m_Model_init.2.2.1 m_Model_init.2.2.2 ∈ nm_ws := nm_at 753 rfl rfl
theorem wi_Model_init : Cond.instanceMethod m_Model_init.1 ∈ nm_ws := nm_at 752 (by decide +kernel) rfl
set_option maxRecDepth 100000 in
theorem wc_Model_apart : Cond.code m_Model_apart.1 m_Model_apart.2.1 m_Model_apart.2.2.1 m_Model_apart.2.2.2 ∈ nm_ws := nm_at 941 rfl rfl
theorem wi_Model_apart : Cond.instanceMethod m_Model_apart.1 ∈ nm_ws := nm_at 939 (by decide +kernel) rfl
theorem wv_Model_apart : Cond.selects m_Model_apart.1.cls m_Model_apart.1 m_Model_apart.1 ∈ nm_ws := nm_at 940 (by decide +kernel) rfl
set_option maxRecDepth 100000 in
theorem wc_Model_at : Cond.code m_Model_at.1 m_Model_at.2.1 m_Model_at.2.2.1 m_Model_at.2.2.2 ∈ nm_ws := nm_at 920 rfl rfl
theorem wt_Model_at : Cond.static m_Model_at.1 ∈ nm_ws := nm_at 919 (by decide +kernel) rfl
set_option maxRecDepth 100000 in
theorem wc_Model_begin : Cond.code m_Model_begin.1 m_Model_begin.2.1 m_Model_begin.2.2.1 m_Model_begin.2.2.2 ∈ nm_ws := nm_at 1025 rfl rfl
theorem wi_Model_begin : Cond.instanceMethod m_Model_begin.1 ∈ nm_ws := nm_at 1023 (by decide +kernel) rfl
theorem wv_Model_begin : Cond.selects m_Model_begin.1.cls m_Model_begin.1 m_Model_begin.1 ∈ nm_ws := nm_at 1024 (by decide +kernel) rfl
set_option maxRecDepth 100000 in
theorem wc_Model_change : Cond.code m_Model_change.1 m_Model_change.2.1 m_Model_change.2.2.1 m_Model_change.2.2.2 ∈ nm_ws := nm_at 1009 rfl rfl
theorem wi_Model_change : Cond.instanceMethod m_Model_change.1 ∈ nm_ws := nm_at 1007 (by decide +kernel) rfl
theorem wv_Model_change : Cond.selects m_Model_change.1.cls m_Model_change.1 m_Model_change.1 ∈ nm_ws := nm_at 1008 (by decide +kernel) rfl
set_option maxRecDepth 100000 in
theorem wc_Model_choose : Cond.code m_Model_choose.1 m_Model_choose.2.1 m_Model_choose.2.2.1 m_Model_choose.2.2.2 ∈ nm_ws := nm_at 910 rfl rfl
theorem wi_Model_choose : Cond.instanceMethod m_Model_choose.1 ∈ nm_ws := nm_at 909 (by decide +kernel) rfl
theorem wv_Model_choose : Cond.selects m_Model_choose.1.cls m_Model_choose.1 m_Model_choose.1 ∈ nm_ws := nm_at 24 (by decide +kernel) rfl
set_option maxRecDepth 100000 in
theorem wc_Model_chooseOwn : Cond.code m_Model_chooseOwn.1 m_Model_chooseOwn.2.1 m_Model_chooseOwn.2.2.1 m_Model_chooseOwn.2.2.2 ∈ nm_ws := nm_at 933 rfl rfl
theorem wi_Model_chooseOwn : Cond.instanceMethod m_Model_chooseOwn.1 ∈ nm_ws := nm_at 932 (by decide +kernel) rfl
theorem wv_Model_chooseOwn : Cond.selects m_Model_chooseOwn.1.cls m_Model_chooseOwn.1 m_Model_chooseOwn.1 ∈ nm_ws := nm_at 28 (by decide +kernel) rfl
set_option maxRecDepth 100000 in
theorem wc_Model_covered : Cond.code m_Model_covered.1 m_Model_covered.2.1 m_Model_covered.2.2.1 m_Model_covered.2.2.2 ∈ nm_ws := nm_at 1040 rfl rfl
theorem wi_Model_covered : Cond.instanceMethod m_Model_covered.1 ∈ nm_ws := nm_at 1038 (by decide +kernel) rfl
theorem wv_Model_covered : Cond.selects m_Model_covered.1.cls m_Model_covered.1 m_Model_covered.1 ∈ nm_ws := nm_at 1039 (by decide +kernel) rfl
set_option maxRecDepth 100000 in
theorem wc_Model_edge : Cond.code m_Model_edge.1 m_Model_edge.2.1 m_Model_edge.2.2.1 m_Model_edge.2.2.2 ∈ nm_ws := nm_at 875 rfl rfl
theorem wi_Model_edge : Cond.instanceMethod m_Model_edge.1 ∈ nm_ws := nm_at 873 (by decide +kernel) rfl
theorem wv_Model_edge : Cond.selects m_Model_edge.1.cls m_Model_edge.1 m_Model_edge.1 ∈ nm_ws := nm_at 874 (by decide +kernel) rfl
set_option maxRecDepth 100000 in
theorem wc_Model_expected : Cond.code m_Model_expected.1 m_Model_expected.2.1 m_Model_expected.2.2.1 m_Model_expected.2.2.2 ∈ nm_ws := nm_at 1001 rfl rfl
theorem wi_Model_expected : Cond.instanceMethod m_Model_expected.1 ∈ nm_ws := nm_at 1000 (by decide +kernel) rfl
theorem wv_Model_expected : Cond.selects m_Model_expected.1.cls m_Model_expected.1 m_Model_expected.1 ∈ nm_ws := nm_at 38 (by decide +kernel) rfl
set_option maxRecDepth 100000 in
theorem wc_Model_failed : Cond.code m_Model_failed.1 m_Model_failed.2.1 m_Model_failed.2.2.1 m_Model_failed.2.2.2 ∈ nm_ws := nm_at 1021 rfl rfl
theorem wi_Model_failed : Cond.instanceMethod m_Model_failed.1 ∈ nm_ws := nm_at 1019 (by decide +kernel) rfl
theorem wv_Model_failed : Cond.selects m_Model_failed.1.cls m_Model_failed.1 m_Model_failed.1 ∈ nm_ws := nm_at 1020 (by decide +kernel) rfl
set_option maxRecDepth 100000 in
theorem wc_Model_fails : Cond.code m_Model_fails.1 m_Model_fails.2.1 m_Model_fails.2.2.1 m_Model_fails.2.2.2 ∈ nm_ws := nm_at 1017 rfl rfl
theorem wi_Model_fails : Cond.instanceMethod m_Model_fails.1 ∈ nm_ws := nm_at 1016 (by decide +kernel) rfl
theorem wv_Model_fails : Cond.selects m_Model_fails.1.cls m_Model_fails.1 m_Model_fails.1 ∈ nm_ws := nm_at 39 (by decide +kernel) rfl
set_option maxRecDepth 100000 in
theorem wc_Model_family : Cond.code m_Model_family.1 m_Model_family.2.1 m_Model_family.2.2.1 m_Model_family.2.2.2 ∈ nm_ws := nm_at 949 rfl rfl
theorem wi_Model_family : Cond.instanceMethod m_Model_family.1 ∈ nm_ws := nm_at 947 (by decide +kernel) rfl
theorem wv_Model_family : Cond.selects m_Model_family.1.cls m_Model_family.1 m_Model_family.1 ∈ nm_ws := nm_at 948 (by decide +kernel) rfl
set_option maxRecDepth 100000 in
theorem wc_Model_fits : Cond.code m_Model_fits.1 m_Model_fits.2.1 m_Model_fits.2.2.1 m_Model_fits.2.2.2 ∈ nm_ws := nm_at 929 rfl rfl
theorem wi_Model_fits : Cond.instanceMethod m_Model_fits.1 ∈ nm_ws := nm_at 928 (by decide +kernel) rfl
theorem wv_Model_fits : Cond.selects m_Model_fits.1.cls m_Model_fits.1 m_Model_fits.1 ∈ nm_ws := nm_at 27 (by decide +kernel) rfl
set_option maxRecDepth 100000 in
theorem wc_Model_give : Cond.code m_Model_give.1 m_Model_give.2.1 m_Model_give.2.2.1 m_Model_give.2.2.2 ∈ nm_ws := nm_at 1029 rfl rfl
theorem wi_Model_give : Cond.instanceMethod m_Model_give.1 ∈ nm_ws := nm_at 1027 (by decide +kernel) rfl
theorem wv_Model_give : Cond.selects m_Model_give.1.cls m_Model_give.1 m_Model_give.1 ∈ nm_ws := nm_at 1028 (by decide +kernel) rfl
set_option maxRecDepth 100000 in
theorem wc_Model_isAccess : Cond.code m_Model_isAccess.1 m_Model_isAccess.2.1 m_Model_isAccess.2.2.1 m_Model_isAccess.2.2.2 ∈ nm_ws := nm_at 977 rfl rfl
theorem wi_Model_isAccess : Cond.instanceMethod m_Model_isAccess.1 ∈ nm_ws := nm_at 976 (by decide +kernel) rfl
theorem wv_Model_isAccess : Cond.selects m_Model_isAccess.1.cls m_Model_isAccess.1 m_Model_isAccess.1 ∈ nm_ws := nm_at 33 (by decide +kernel) rfl
set_option maxRecDepth 100000 in
theorem wc_Model_isEnd : Cond.code m_Model_isEnd.1 m_Model_isEnd.2.1 m_Model_isEnd.2.2.1 m_Model_isEnd.2.2.2 ∈ nm_ws := nm_at 985 rfl rfl
theorem wi_Model_isEnd : Cond.instanceMethod m_Model_isEnd.1 ∈ nm_ws := nm_at 984 (by decide +kernel) rfl
theorem wv_Model_isEnd : Cond.selects m_Model_isEnd.1.cls m_Model_isEnd.1 m_Model_isEnd.1 ∈ nm_ws := nm_at 35 (by decide +kernel) rfl
set_option maxRecDepth 100000 in
theorem wc_Model_isInput : Cond.code m_Model_isInput.1 m_Model_isInput.2.1 m_Model_isInput.2.2.1 m_Model_isInput.2.2.2 ∈ nm_ws := nm_at 883 rfl rfl
theorem wi_Model_isInput : Cond.instanceMethod m_Model_isInput.1 ∈ nm_ws := nm_at 882 (by decide +kernel) rfl
theorem wv_Model_isInput : Cond.selects m_Model_isInput.1.cls m_Model_isInput.1 m_Model_isInput.1 ∈ nm_ws := nm_at 20 (by decide +kernel) rfl
set_option maxRecDepth 100000 in
theorem wc_Model_isOutput : Cond.code m_Model_isOutput.1 m_Model_isOutput.2.1 m_Model_isOutput.2.2.1 m_Model_isOutput.2.2.2 ∈ nm_ws := nm_at 886 rfl rfl
theorem wt_Model_isOutput : Cond.static m_Model_isOutput.1 ∈ nm_ws := nm_at 885 (by decide +kernel) rfl
set_option maxRecDepth 100000 in
theorem wc_Model_isState : Cond.code m_Model_isState.1 m_Model_isState.2.1 m_Model_isState.2.2.1 m_Model_isState.2.2.2 ∈ nm_ws := nm_at 879 rfl rfl
theorem wi_Model_isState : Cond.instanceMethod m_Model_isState.1 ∈ nm_ws := nm_at 878 (by decide +kernel) rfl
theorem wv_Model_isState : Cond.selects m_Model_isState.1.cls m_Model_isState.1 m_Model_isState.1 ∈ nm_ws := nm_at 19 (by decide +kernel) rfl
set_option maxRecDepth 100000 in
theorem wc_Model_isTest : Cond.code m_Model_isTest.1 m_Model_isTest.2.1 m_Model_isTest.2.2.1 m_Model_isTest.2.2.2 ∈ nm_ws := nm_at 993 rfl rfl
theorem wi_Model_isTest : Cond.instanceMethod m_Model_isTest.1 ∈ nm_ws := nm_at 992 (by decide +kernel) rfl
theorem wv_Model_isTest : Cond.selects m_Model_isTest.1.cls m_Model_isTest.1 m_Model_isTest.1 ∈ nm_ws := nm_at 36 (by decide +kernel) rfl
set_option maxRecDepth 100000 in
theorem wc_Model_least : Cond.code m_Model_least.1 m_Model_least.2.1 m_Model_least.2.2.1 m_Model_least.2.2.2 ∈ nm_ws := nm_at 1036 rfl rfl
theorem wt_Model_least : Cond.static m_Model_least.1 ∈ nm_ws := nm_at 1035 (by decide +kernel) rfl
set_option maxRecDepth 100000 in
theorem wc_Model_leastWord : Cond.code m_Model_leastWord.1 m_Model_leastWord.2.1 m_Model_leastWord.2.2.1 m_Model_leastWord.2.2.2 ∈ nm_ws := nm_at 925 rfl rfl
theorem wi_Model_leastWord : Cond.instanceMethod m_Model_leastWord.1 ∈ nm_ws := nm_at 924 (by decide +kernel) rfl
theorem wv_Model_leastWord : Cond.selects m_Model_leastWord.1.cls m_Model_leastWord.1 m_Model_leastWord.1 ∈ nm_ws := nm_at 26 (by decide +kernel) rfl
set_option maxRecDepth 100000 in
theorem wc_Model_led : Cond.code m_Model_led.1 m_Model_led.2.1 m_Model_led.2.2.1 m_Model_led.2.2.2 ∈ nm_ws := nm_at 973 rfl rfl
theorem wi_Model_led : Cond.instanceMethod m_Model_led.1 ∈ nm_ws := nm_at 972 (by decide +kernel) rfl
theorem wv_Model_led : Cond.selects m_Model_led.1.cls m_Model_led.1 m_Model_led.1 ∈ nm_ws := nm_at 32 (by decide +kernel) rfl
set_option maxRecDepth 100000 in
theorem wc_Model_length : Cond.code m_Model_length.1 m_Model_length.2.1 m_Model_length.2.2.1 m_Model_length.2.2.2 ∈ nm_ws := nm_at 917 rfl rfl
theorem wt_Model_length : Cond.static m_Model_length.1 ∈ nm_ws := nm_at 916 (by decide +kernel) rfl
set_option maxRecDepth 100000 in
theorem wc_Model_list : Cond.code m_Model_list.1 m_Model_list.2.1 m_Model_list.2.2.1 m_Model_list.2.2.2 ∈ nm_ws := nm_at 981 rfl rfl
theorem wi_Model_list : Cond.instanceMethod m_Model_list.1 ∈ nm_ws := nm_at 980 (by decide +kernel) rfl
theorem wv_Model_list : Cond.selects m_Model_list.1.cls m_Model_list.1 m_Model_list.1 ∈ nm_ws := nm_at 34 (by decide +kernel) rfl
set_option maxRecDepth 100000 in
theorem wc_Model_look : Cond.code m_Model_look.1 m_Model_look.2.1 m_Model_look.2.2.1 m_Model_look.2.2.2 ∈ nm_ws := nm_at 1044 rfl rfl
theorem wi_Model_look : Cond.instanceMethod m_Model_look.1 ∈ nm_ws := nm_at 1042 (by decide +kernel) rfl
theorem wv_Model_look : Cond.selects m_Model_look.1.cls m_Model_look.1 m_Model_look.1 ∈ nm_ws := nm_at 1043 (by decide +kernel) rfl
set_option maxRecDepth 100000 in
theorem wc_Model_measure : Cond.code m_Model_measure.1 m_Model_measure.2.1 m_Model_measure.2.2.1 m_Model_measure.2.2.2 ∈ nm_ws := nm_at 898 rfl rfl
theorem wi_Model_measure : Cond.instanceMethod m_Model_measure.1 ∈ nm_ws := nm_at 897 (by decide +kernel) rfl
theorem wv_Model_measure : Cond.selects m_Model_measure.1.cls m_Model_measure.1 m_Model_measure.1 ∈ nm_ws := nm_at 21 (by decide +kernel) rfl
set_option maxRecDepth 100000 in
theorem wc_Model_minimal : Cond.code m_Model_minimal.1 m_Model_minimal.2.1 m_Model_minimal.2.2.1 m_Model_minimal.2.2.2 ∈ nm_ws := nm_at 937 rfl rfl
theorem wi_Model_minimal : Cond.instanceMethod m_Model_minimal.1 ∈ nm_ws := nm_at 935 (by decide +kernel) rfl
theorem wv_Model_minimal : Cond.selects m_Model_minimal.1.cls m_Model_minimal.1 m_Model_minimal.1 ∈ nm_ws := nm_at 936 (by decide +kernel) rfl
set_option maxRecDepth 100000 in
theorem wc_Model_number : Cond.code m_Model_number.1 m_Model_number.2.1 m_Model_number.2.2.1 m_Model_number.2.2.2 ∈ nm_ws := nm_at 902 rfl rfl
theorem wi_Model_number : Cond.instanceMethod m_Model_number.1 ∈ nm_ws := nm_at 901 (by decide +kernel) rfl
theorem wv_Model_number : Cond.selects m_Model_number.1.cls m_Model_number.1 m_Model_number.1 ∈ nm_ws := nm_at 22 (by decide +kernel) rfl
set_option maxRecDepth 100000 in
theorem wc_Model_own : Cond.code m_Model_own.1 m_Model_own.2.1 m_Model_own.2.2.1 m_Model_own.2.2.2 ∈ nm_ws := nm_at 953 rfl rfl
theorem wi_Model_own : Cond.instanceMethod m_Model_own.1 ∈ nm_ws := nm_at 951 (by decide +kernel) rfl
theorem wv_Model_own : Cond.selects m_Model_own.1.cls m_Model_own.1 m_Model_own.1 ∈ nm_ws := nm_at 952 (by decide +kernel) rfl
set_option maxRecDepth 100000 in
theorem wc_Model_put : Cond.code m_Model_put.1 m_Model_put.2.1 m_Model_put.2.2.1 m_Model_put.2.2.2 ∈ nm_ws := nm_at 969 rfl rfl
theorem wi_Model_put : Cond.instanceMethod m_Model_put.1 ∈ nm_ws := nm_at 968 (by decide +kernel) rfl
theorem wv_Model_put : Cond.selects m_Model_put.1.cls m_Model_put.1 m_Model_put.1 ∈ nm_ws := nm_at 31 (by decide +kernel) rfl
set_option maxRecDepth 100000 in
theorem wc_Model_putAll : Cond.code m_Model_putAll.1 m_Model_putAll.2.1 m_Model_putAll.2.2.1 m_Model_putAll.2.2.2 ∈ nm_ws := nm_at 961 rfl rfl
theorem wi_Model_putAll : Cond.instanceMethod m_Model_putAll.1 ∈ nm_ws := nm_at 960 (by decide +kernel) rfl
theorem wv_Model_putAll : Cond.selects m_Model_putAll.1.cls m_Model_putAll.1 m_Model_putAll.1 ∈ nm_ws := nm_at 29 (by decide +kernel) rfl
set_option maxRecDepth 100000 in
theorem wc_Model_putEnds : Cond.code m_Model_putEnds.1 m_Model_putEnds.2.1 m_Model_putEnds.2.2.1 m_Model_putEnds.2.2.2 ∈ nm_ws := nm_at 965 rfl rfl
theorem wi_Model_putEnds : Cond.instanceMethod m_Model_putEnds.1 ∈ nm_ws := nm_at 964 (by decide +kernel) rfl
theorem wv_Model_putEnds : Cond.selects m_Model_putEnds.1.cls m_Model_putEnds.1 m_Model_putEnds.1 ∈ nm_ws := nm_at 30 (by decide +kernel) rfl
set_option maxRecDepth 100000 in
theorem wc_Model_resize : Cond.code m_Model_resize.1 m_Model_resize.2.1 m_Model_resize.2.2.1 m_Model_resize.2.2.2 ∈ nm_ws := nm_at 1005 rfl rfl
theorem wi_Model_resize : Cond.instanceMethod m_Model_resize.1 ∈ nm_ws := nm_at 1003 (by decide +kernel) rfl
theorem wv_Model_resize : Cond.selects m_Model_resize.1.cls m_Model_resize.1 m_Model_resize.1 ∈ nm_ws := nm_at 1004 (by decide +kernel) rfl
set_option maxRecDepth 100000 in
theorem wc_Model_run : Cond.code m_Model_run.1 m_Model_run.2.1 m_Model_run.2.2.1 m_Model_run.2.2.2 ∈ nm_ws := nm_at 1013 rfl rfl
theorem wi_Model_run : Cond.instanceMethod m_Model_run.1 ∈ nm_ws := nm_at 1011 (by decide +kernel) rfl
theorem wv_Model_run : Cond.selects m_Model_run.1.cls m_Model_run.1 m_Model_run.1 ∈ nm_ws := nm_at 1012 (by decide +kernel) rfl
set_option maxRecDepth 100000 in
theorem wc_Model_same : Cond.code m_Model_same.1 m_Model_same.2.1 m_Model_same.2.2.1 m_Model_same.2.2.2 ∈ nm_ws := nm_at 1033 rfl rfl
theorem wi_Model_same : Cond.instanceMethod m_Model_same.1 ∈ nm_ws := nm_at 1031 (by decide +kernel) rfl
theorem wv_Model_same : Cond.selects m_Model_same.1.cls m_Model_same.1 m_Model_same.1 ∈ nm_ws := nm_at 1032 (by decide +kernel) rfl
set_option maxRecDepth 100000 in
theorem wc_Model_seal : Cond.code m_Model_seal.1 m_Model_seal.2.1 m_Model_seal.2.2.1 m_Model_seal.2.2.2 ∈ nm_ws := nm_at 894 rfl rfl
theorem wi_Model_seal : Cond.instanceMethod m_Model_seal.1 ∈ nm_ws := nm_at 892 (by decide +kernel) rfl
theorem wv_Model_seal : Cond.selects m_Model_seal.1.cls m_Model_seal.1 m_Model_seal.1 ∈ nm_ws := nm_at 893 (by decide +kernel) rfl
set_option maxRecDepth 100000 in
theorem wc_Model_start : Cond.code m_Model_start.1 m_Model_start.2.1 m_Model_start.2.2.1 m_Model_start.2.2.2 ∈ nm_ws := nm_at 890 rfl rfl
theorem wi_Model_start : Cond.instanceMethod m_Model_start.1 ∈ nm_ws := nm_at 888 (by decide +kernel) rfl
theorem wv_Model_start : Cond.selects m_Model_start.1.cls m_Model_start.1 m_Model_start.1 ∈ nm_ws := nm_at 889 (by decide +kernel) rfl
set_option maxRecDepth 100000 in
theorem wc_Model_suite : Cond.code m_Model_suite.1 m_Model_suite.2.1 m_Model_suite.2.2.1 m_Model_suite.2.2.2 ∈ nm_ws := nm_at 957 rfl rfl
theorem wi_Model_suite : Cond.instanceMethod m_Model_suite.1 ∈ nm_ws := nm_at 955 (by decide +kernel) rfl
theorem wv_Model_suite : Cond.selects m_Model_suite.1.cls m_Model_suite.1 m_Model_suite.1 ∈ nm_ws := nm_at 956 (by decide +kernel) rfl
set_option maxRecDepth 100000 in
theorem wc_Model_take : Cond.code m_Model_take.1 m_Model_take.2.1 m_Model_take.2.2.1 m_Model_take.2.2.2 ∈ nm_ws := nm_at 906 rfl rfl
theorem wi_Model_take : Cond.instanceMethod m_Model_take.1 ∈ nm_ws := nm_at 905 (by decide +kernel) rfl
theorem wv_Model_take : Cond.selects m_Model_take.1.cls m_Model_take.1 m_Model_take.1 ∈ nm_ws := nm_at 23 (by decide +kernel) rfl
set_option maxRecDepth 100000 in
theorem wc_Model_tells : Cond.code m_Model_tells.1 m_Model_tells.2.1 m_Model_tells.2.2.1 m_Model_tells.2.2.2 ∈ nm_ws := nm_at 914 rfl rfl
theorem wi_Model_tells : Cond.instanceMethod m_Model_tells.1 ∈ nm_ws := nm_at 913 (by decide +kernel) rfl
theorem wv_Model_tells : Cond.selects m_Model_tells.1.cls m_Model_tells.1 m_Model_tells.1 ∈ nm_ws := nm_at 25 (by decide +kernel) rfl
set_option maxRecDepth 100000 in
theorem wc_Model_test : Cond.code m_Model_test.1 m_Model_test.2.1 m_Model_test.2.2.1 m_Model_test.2.2.2 ∈ nm_ws := nm_at 989 rfl rfl
theorem wi_Model_test : Cond.instanceMethod m_Model_test.1 ∈ nm_ws := nm_at 987 (by decide +kernel) rfl
theorem wv_Model_test : Cond.selects m_Model_test.1.cls m_Model_test.1 m_Model_test.1 ∈ nm_ws := nm_at 988 (by decide +kernel) rfl
set_option maxRecDepth 100000 in
theorem wc_Model_thrown : Cond.code m_Model_thrown.1 m_Model_thrown.2.1 m_Model_thrown.2.2.1 m_Model_thrown.2.2.2 ∈ nm_ws := nm_at 871 rfl rfl
theorem wi_Model_thrown : Cond.instanceMethod m_Model_thrown.1 ∈ nm_ws := nm_at 869 (by decide +kernel) rfl
theorem wv_Model_thrown : Cond.selects m_Model_thrown.1.cls m_Model_thrown.1 m_Model_thrown.1 ∈ nm_ws := nm_at 870 (by decide +kernel) rfl
set_option maxRecDepth 100000 in
theorem wc_Model_unfold : Cond.code m_Model_unfold.1 m_Model_unfold.2.1 m_Model_unfold.2.2.1 m_Model_unfold.2.2.2 ∈ nm_ws := nm_at 997 rfl rfl
theorem wi_Model_unfold : Cond.instanceMethod m_Model_unfold.1 ∈ nm_ws := nm_at 996 (by decide +kernel) rfl
theorem wv_Model_unfold : Cond.selects m_Model_unfold.1.cls m_Model_unfold.1 m_Model_unfold.1 ∈ nm_ws := nm_at 37 (by decide +kernel) rfl
set_option maxRecDepth 100000 in
theorem wc_Model_word : Cond.code m_Model_word.1 m_Model_word.2.1 m_Model_word.2.2.1 m_Model_word.2.2.2 ∈ nm_ws := nm_at 945 rfl rfl
theorem wi_Model_word : Cond.instanceMethod m_Model_word.1 ∈ nm_ws := nm_at 943 (by decide +kernel) rfl
theorem wv_Model_word : Cond.selects m_Model_word.1.cls m_Model_word.1 m_Model_word.1 ∈ nm_ws := nm_at 944 (by decide +kernel) rfl
theorem wz_Bench : Cond.initialized "TestBench" ∈ nm_ws := nm_at 41 (by decide +kernel) rfl
theorem wz_Family : Cond.initialized "TestBench$Family" ∈ nm_ws := nm_at 45 (by decide +kernel) rfl
theorem wz_Machine : Cond.initialized "TestBench$Machine" ∈ nm_ws := nm_at 43 (by decide +kernel) rfl
theorem wz_Search : Cond.initialized "TestBench$PairSearch" ∈ nm_ws := nm_at 47 (by decide +kernel) rfl
theorem wz_Reduction : Cond.initialized "TestBench$Reduction" ∈ nm_ws := nm_at 44 (by decide +kernel) rfl
theorem wz_Suite : Cond.initialized "TestBench$Suite" ∈ nm_ws := nm_at 49 (by decide +kernel) rfl
theorem wz_Trial : Cond.initialized "TestBench$Trial" ∈ nm_ws := nm_at 48 (by decide +kernel) rfl
theorem wz_Word : Cond.initialized "TestBench$Word" ∈ nm_ws := nm_at 46 (by decide +kernel) rfl
theorem wz_Law : Cond.initialized "TestBenchLaw" ∈ nm_ws := nm_at 40 (by decide +kernel) rfl
theorem wz_Model : Cond.initialized "TestBenchModel" ∈ nm_ws := nm_at 50 (by decide +kernel) rfl
theorem c0_Bench_20 : aj_cl0 nE "TestBench" 20 m_Machine_init 3 := ⟨nm_at 75 (by decide +kernel) rfl, wc_Machine_init, wz_Machine, by decide +kernel, by decide, by decide, rfl⟩
theorem cl_Bench_20 : aj_il nE "TestBench" 20 m_Machine_init 3 := ⟨c0_Bench_20, wi_Machine_init, rfl, rfl⟩
theorem c0_Bench_29 : aj_cl0 nE "TestBench" 29 m_Reduction_init 1 := ⟨nm_at 119 (by decide +kernel) rfl, wc_Reduction_init, wz_Reduction, by decide +kernel, by decide, by decide, rfl⟩
theorem cl_Bench_29 : aj_il nE "TestBench" 29 m_Reduction_init 1 := ⟨c0_Bench_29, wi_Reduction_init, rfl, rfl⟩
theorem c0_Bench_38 : aj_cl0 nE "TestBench" 38 m_Family_init 0 := ⟨nm_at 151 (by decide +kernel) rfl, wc_Family_init, wz_Family, by decide +kernel, by decide, by decide, rfl⟩
theorem cl_Bench_38 : aj_il nE "TestBench" 38 m_Family_init 0 := ⟨c0_Bench_38, wi_Family_init, rfl, rfl⟩
theorem c0_Bench_69 : aj_cl0 nE "TestBench" 69 m_Suite_init 2 := ⟨nm_at 252 (by decide +kernel) rfl, wc_Suite_init, wz_Suite, by decide +kernel, by decide, by decide, rfl⟩
theorem cl_Bench_69 : aj_il nE "TestBench" 69 m_Suite_init 2 := ⟨c0_Bench_69, wi_Suite_init, rfl, rfl⟩
theorem c0_Bench_96 : aj_cl0 nE "TestBench" 96 m_Machine_allows 4 := ⟨nm_at 448 (by decide +kernel) rfl, wc_Machine_allows, wz_Machine, by decide +kernel, by decide, by decide, rfl⟩
theorem cl_Bench_96 : aj_vl nE "TestBench" 96 m_Machine_allows 4 0 := ⟨c0_Bench_96, wi_Machine_allows, wv_Machine_allows, _, rfl, rfl⟩
theorem c0_Bench_106 : aj_cl0 nE "TestBench" 106 m_Machine_set 4 := ⟨nm_at 535 (by decide +kernel) rfl, wc_Machine_set, wz_Machine, by decide +kernel, by decide, by decide, rfl⟩
theorem cl_Bench_106 : aj_vl nE "TestBench" 106 m_Machine_set 4 0 := ⟨c0_Bench_106, wi_Machine_set, wv_Machine_set, _, rfl, rfl⟩
theorem c0_Bench_110 : aj_cl0 nE "TestBench" 110 m_Machine_hasState 1 := ⟨nm_at 357 (by decide +kernel) rfl, wc_Machine_hasState, wz_Machine, by decide +kernel, by decide, by decide, rfl⟩
theorem cl_Bench_110 : aj_vl nE "TestBench" 110 m_Machine_hasState 1 0 := ⟨c0_Bench_110, wi_Machine_hasState, wv_Machine_hasState, _, rfl, rfl⟩
theorem c0_Bench_114 : aj_cl0 nE "TestBench" 114 m_Reduction_reduce 3 := ⟨nm_at 550 (by decide +kernel) rfl, wc_Reduction_reduce, wz_Reduction, by decide +kernel, by decide, by decide, rfl⟩
theorem cl_Bench_114 : aj_vl nE "TestBench" 114 m_Reduction_reduce 3 3 := ⟨c0_Bench_114, wi_Reduction_reduce, wv_Reduction_reduce, _, rfl, rfl⟩
theorem c0_Bench_121 : aj_cl0 nE "TestBench" 121 m_Family_choose 2 := ⟨nm_at 583 (by decide +kernel) rfl, wc_Family_choose, wz_Family, by decide +kernel, by decide, by decide, rfl⟩
theorem cl_Bench_121 : aj_vl nE "TestBench" 121 m_Family_choose 2 4 := ⟨c0_Bench_121, wi_Family_choose, wv_Family_choose, _, rfl, rfl⟩
theorem c0_Bench_125 : aj_cl0 nE "TestBench" 125 m_Machine_copy 1 := ⟨nm_at 611 (by decide +kernel) rfl, wc_Machine_copy, wz_Machine, by decide +kernel, by decide, by decide, rfl⟩
theorem cl_Bench_125 : aj_vl nE "TestBench" 125 m_Machine_copy 1 0 := ⟨c0_Bench_125, wi_Machine_copy, wv_Machine_copy, _, rfl, rfl⟩
theorem c0_Bench_136 : aj_cl0 nE "TestBench" 136 m_Search_find 4 := ⟨nm_at 623 (by decide +kernel) rfl, wc_Search_find, wz_Search, by decide +kernel, by decide, by decide, rfl⟩
theorem cl_Bench_136 : aj_vl nE "TestBench" 136 m_Search_find 4 2 := ⟨c0_Bench_136, wi_Search_find, wv_Search_find, _, rfl, rfl⟩
theorem c0_Bench_143 : aj_cl0 nE "TestBench" 143 m_Word_copy 1 := ⟨nm_at 624 (by decide +kernel) rfl, wc_Word_copy, wz_Word, by decide +kernel, by decide, by decide, rfl⟩
theorem cl_Bench_143 : aj_vl nE "TestBench" 143 m_Word_copy 1 1 := ⟨c0_Bench_143, wi_Word_copy, wv_Word_copy, _, rfl, rfl⟩
theorem c0_Bench_149 : aj_cl0 nE "TestBench" 149 m_Word_at 1 := ⟨nm_at 365 (by decide +kernel) rfl, wc_Word_at, wz_Word, by decide +kernel, by decide, by decide, rfl⟩
theorem cl_Bench_149 : aj_vl nE "TestBench" 149 m_Word_at 1 1 := ⟨c0_Bench_149, wi_Word_at, wv_Word_at, _, rfl, rfl⟩
theorem c0_Bench_156 : aj_cl0 nE "TestBench" 156 m_Family_has 1 := ⟨nm_at 373 (by decide +kernel) rfl, wc_Family_has, wz_Family, by decide +kernel, by decide, by decide, rfl⟩
theorem cl_Bench_156 : aj_vl nE "TestBench" 156 m_Family_has 1 4 := ⟨c0_Bench_156, wi_Family_has, wv_Family_has, _, rfl, rfl⟩
theorem c0_Bench_170 : aj_cl0 nE "TestBench" 170 m_Suite_build 2 := ⟨nm_at 633 (by decide +kernel) rfl, wc_Suite_build, wz_Suite, by decide +kernel, by decide, by decide, rfl⟩
theorem cl_Bench_170 : aj_vl nE "TestBench" 170 m_Suite_build 2 5 := ⟨c0_Bench_170, wi_Suite_build, wv_Suite_build, _, rfl, rfl⟩
theorem c0_Bench_180 : aj_cl0 nE "TestBench" 180 m_Suite_hasTest 1 := ⟨nm_at 385 (by decide +kernel) rfl, wc_Suite_hasTest, wz_Suite, by decide +kernel, by decide, by decide, rfl⟩
theorem cl_Bench_180 : aj_vl nE "TestBench" 180 m_Suite_hasTest 1 5 := ⟨c0_Bench_180, wi_Suite_hasTest, wv_Suite_hasTest, _, rfl, rfl⟩
theorem c0_Bench_183 : aj_cl0 nE "TestBench" 183 m_Suite_lengthOf 1 := ⟨nm_at 389 (by decide +kernel) rfl, wc_Suite_lengthOf, wz_Suite, by decide +kernel, by decide, by decide, rfl⟩
theorem cl_Bench_183 : aj_vl nE "TestBench" 183 m_Suite_lengthOf 1 5 := ⟨c0_Bench_183, wi_Suite_lengthOf, wv_Suite_lengthOf, _, rfl, rfl⟩
theorem c0_Bench_186 : aj_cl0 nE "TestBench" 186 m_Suite_outputAt 2 := ⟨nm_at 393 (by decide +kernel) rfl, wc_Suite_outputAt, wz_Suite, by decide +kernel, by decide, by decide, rfl⟩
theorem cl_Bench_186 : aj_vl nE "TestBench" 186 m_Suite_outputAt 2 5 := ⟨c0_Bench_186, wi_Suite_outputAt, wv_Suite_outputAt, _, rfl, rfl⟩
theorem c0_Bench_189 : aj_cl0 nE "TestBench" 189 m_Suite_inputAt 2 := ⟨nm_at 406 (by decide +kernel) rfl, wc_Suite_inputAt, wz_Suite, by decide +kernel, by decide, by decide, rfl⟩
theorem cl_Bench_189 : aj_vl nE "TestBench" 189 m_Suite_inputAt 2 5 := ⟨c0_Bench_189, wi_Suite_inputAt, wv_Suite_inputAt, _, rfl, rfl⟩
theorem c0_Bench_192 : aj_cl0 nE "TestBench" 192 m_Machine_fitTo 1 := ⟨nm_at 692 (by decide +kernel) rfl, wc_Machine_fitTo, wz_Machine, by decide +kernel, by decide, by decide, rfl⟩
theorem cl_Bench_192 : aj_vl nE "TestBench" 192 m_Machine_fitTo 1 0 := ⟨c0_Bench_192, wi_Machine_fitTo, wv_Machine_fitTo, _, rfl, rfl⟩
theorem c0_Bench_195 : aj_cl0 nE "TestBench" 195 m_Suite_isMade 0 := ⟨nm_at 418 (by decide +kernel) rfl, wc_Suite_isMade, wz_Suite, by decide +kernel, by decide, by decide, rfl⟩
theorem cl_Bench_195 : aj_vl nE "TestBench" 195 m_Suite_isMade 0 5 := ⟨c0_Bench_195, wi_Suite_isMade, wv_Suite_isMade, _, rfl, rfl⟩
theorem c0_Bench_199 : aj_cl0 nE "TestBench" 199 m_Trial_firstFailure 2 := ⟨nm_at 707 (by decide +kernel) rfl, wc_Trial_firstFailure, wz_Trial, by decide +kernel, by decide, by decide, rfl⟩
theorem cl_Bench_199 : aj_vl nE "TestBench" 199 m_Trial_firstFailure 2 6 := ⟨c0_Bench_199, wi_Trial_firstFailure, wv_Trial_firstFailure, _, rfl, rfl⟩
theorem c0_Bench_203 : aj_cl0 nE "TestBench" 203 m_Trial_placeOf 2 := ⟨nm_at 722 (by decide +kernel) rfl, wc_Trial_placeOf, wz_Trial, by decide +kernel, by decide, by decide, rfl⟩
theorem cl_Bench_203 : aj_vl nE "TestBench" 203 m_Trial_placeOf 2 6 := ⟨c0_Bench_203, wi_Trial_placeOf, wv_Trial_placeOf, _, rfl, rfl⟩
theorem c0_Bench_207 : aj_cl0 nE "TestBench" 207 m_Bench_tellInput 0 := ⟨nm_at 730 (by decide +kernel) rfl, wc_Bench_tellInput, wz_Bench, by decide +kernel, by decide, by decide, rfl⟩
theorem cl_Bench_207 : aj_vl nE "TestBench" 207 m_Bench_tellInput 0 7 := ⟨c0_Bench_207, wi_Bench_tellInput, wv_Bench_tellInput, _, rfl, rfl⟩
theorem c0_Bench_211 : aj_cl0 nE "TestBench" 211 m_Machine_hasOutput 1 := ⟨nm_at 741 (by decide +kernel) rfl, wc_Machine_hasOutput, wz_Machine, by decide +kernel, by decide, by decide, rfl⟩
theorem cl_Bench_211 : aj_vl nE "TestBench" 211 m_Machine_hasOutput 1 0 := ⟨c0_Bench_211, wi_Machine_hasOutput, wv_Machine_hasOutput, _, rfl, rfl⟩
theorem c0_Bench_214 : aj_cl0 nE "TestBench" 214 m_Suite_transitions 0 := ⟨nm_at 422 (by decide +kernel) rfl, wc_Suite_transitions, wz_Suite, by decide +kernel, by decide, by decide, rfl⟩
theorem cl_Bench_214 : aj_vl nE "TestBench" 214 m_Suite_transitions 0 5 := ⟨c0_Bench_214, wi_Suite_transitions, wv_Suite_transitions, _, rfl, rfl⟩
theorem c0_Family_36 : aj_cl0 nE "TestBench$Family" 36 m_Family_firstWord 3 := ⟨nm_at 587 (by decide +kernel) rfl, wc_Family_firstWord, wz_Family, by decide +kernel, by decide, by decide, rfl⟩
theorem cl_Family_36 : aj_vl nE "TestBench$Family" 36 m_Family_firstWord 3 4 := ⟨c0_Family_36, wi_Family_firstWord, wv_Family_firstWord, _, rfl, rfl⟩
theorem c0_Family_40 : aj_cl0 nE "TestBench$Family" 40 m_Search_find 4 := ⟨nm_at 595 (by decide +kernel) rfl, wc_Search_find, wz_Search, by decide +kernel, by decide, by decide, rfl⟩
theorem cl_Family_40 : aj_vl nE "TestBench$Family" 40 m_Search_find 4 2 := ⟨c0_Family_40, wi_Search_find, wv_Search_find, _, rfl, rfl⟩
theorem c0_Family_50 : aj_cl0 nE "TestBench$Family" 50 m_Word_copy 1 := ⟨nm_at 596 (by decide +kernel) rfl, wc_Word_copy, wz_Word, by decide +kernel, by decide, by decide, rfl⟩
theorem cl_Family_50 : aj_vl nE "TestBench$Family" 50 m_Word_copy 1 1 := ⟨c0_Family_50, wi_Word_copy, wv_Word_copy, _, rfl, rfl⟩
theorem c0_Family_54 : aj_cl0 nE "TestBench$Family" 54 m_Family_chooseOwn 2 := ⟨nm_at 603 (by decide +kernel) rfl, wc_Family_chooseOwn, wz_Family, by decide +kernel, by decide, by decide, rfl⟩
theorem cl_Family_54 : aj_vl nE "TestBench$Family" 54 m_Family_chooseOwn 2 4 := ⟨c0_Family_54, wi_Family_chooseOwn, wv_Family_chooseOwn, _, rfl, rfl⟩
theorem c0_Family_58 : aj_cl0 nE "TestBench$Family" 58 m_Family_ownTells 3 := ⟨nm_at 607 (by decide +kernel) rfl, wc_Family_ownTells, wz_Family, by decide +kernel, by decide, by decide, rfl⟩
theorem cl_Family_58 : aj_vl nE "TestBench$Family" 58 m_Family_ownTells 3 4 := ⟨c0_Family_58, wi_Family_ownTells, wv_Family_ownTells, _, rfl, rfl⟩
theorem c0_Family_62 : aj_cl0 nE "TestBench$Family" 62 m_Machine_tellsApart 3 := ⟨nm_at 591 (by decide +kernel) rfl, wc_Machine_tellsApart, wz_Machine, by decide +kernel, by decide, by decide, rfl⟩
theorem cl_Family_62 : aj_vl nE "TestBench$Family" 62 m_Machine_tellsApart 3 0 := ⟨c0_Family_62, wi_Machine_tellsApart, wv_Machine_tellsApart, _, rfl, rfl⟩
theorem c0_Machine_25 : aj_cl0 nE "TestBench$Machine" 25 m_Machine_fitTo 1 := ⟨nm_at 79 (by decide +kernel) rfl, wc_Machine_fitTo, wz_Machine, by decide +kernel, by decide, by decide, rfl⟩
theorem cl_Machine_25 : aj_vl nE "TestBench$Machine" 25 m_Machine_fitTo 1 0 := ⟨c0_Machine_25, wi_Machine_fitTo, wv_Machine_fitTo, _, rfl, rfl⟩
theorem c0_Machine_29 : aj_cl0 nE "TestBench$Machine" 29 m_Machine_hasState 1 := ⟨nm_at 452 (by decide +kernel) rfl, wc_Machine_hasState, wz_Machine, by decide +kernel, by decide, by decide, rfl⟩
theorem cl_Machine_29 : aj_vl nE "TestBench$Machine" 29 m_Machine_hasState 1 0 := ⟨c0_Machine_29, wi_Machine_hasState, wv_Machine_hasState, _, rfl, rfl⟩
theorem c0_Machine_33 : aj_cl0 nE "TestBench$Machine" 33 m_Machine_hasOutput 1 := ⟨nm_at 453 (by decide +kernel) rfl, wc_Machine_hasOutput, wz_Machine, by decide +kernel, by decide, by decide, rfl⟩
theorem cl_Machine_33 : aj_vl nE "TestBench$Machine" 33 m_Machine_hasOutput 1 0 := ⟨c0_Machine_33, wi_Machine_hasOutput, wv_Machine_hasOutput, _, rfl, rfl⟩
theorem c0_Machine_42 : aj_cl0 nE "TestBench$Machine" 42 m_Machine_set 4 := ⟨nm_at 83 (by decide +kernel) rfl, wc_Machine_set, wz_Machine, by decide +kernel, by decide, by decide, rfl⟩
theorem cl_Machine_42 : aj_vl nE "TestBench$Machine" 42 m_Machine_set 4 0 := ⟨c0_Machine_42, wi_Machine_set, wv_Machine_set, _, rfl, rfl⟩
theorem c0_Machine_46 : aj_cl0 nE "TestBench$Machine" 46 m_Machine_next 2 := ⟨nm_at 87 (by decide +kernel) rfl, wc_Machine_next, wz_Machine, by decide +kernel, by decide, by decide, rfl⟩
theorem cl_Machine_46 : aj_vl nE "TestBench$Machine" 46 m_Machine_next 2 0 := ⟨c0_Machine_46, wi_Machine_next, wv_Machine_next, _, rfl, rfl⟩
theorem c0_Machine_50 : aj_cl0 nE "TestBench$Machine" 50 m_Machine_output 2 := ⟨nm_at 91 (by decide +kernel) rfl, wc_Machine_output, wz_Machine, by decide +kernel, by decide, by decide, rfl⟩
theorem cl_Machine_50 : aj_vl nE "TestBench$Machine" 50 m_Machine_output 2 0 := ⟨c0_Machine_50, wi_Machine_output, wv_Machine_output, _, rfl, rfl⟩
theorem c0_Search_42 : aj_cl0 nE "TestBench$PairSearch" 42 m_Search_forget 0 := ⟨nm_at 562 (by decide +kernel) rfl, wc_Search_forget, wz_Search, by decide +kernel, by decide, by decide, rfl⟩
theorem cl_Search_42 : aj_vl nE "TestBench$PairSearch" 42 m_Search_forget 0 2 := ⟨c0_Search_42, wi_Search_forget, wv_Search_forget, _, rfl, rfl⟩
theorem c0_Search_45 : aj_cl0 nE "TestBench$PairSearch" 45 m_Search_reach 4 := ⟨nm_at 566 (by decide +kernel) rfl, wc_Search_reach, wz_Search, by decide +kernel, by decide, by decide, rfl⟩
theorem cl_Search_45 : aj_vl nE "TestBench$PairSearch" 45 m_Search_reach 4 2 := ⟨c0_Search_45, wi_Search_reach, wv_Search_reach, _, rfl, rfl⟩
theorem c0_Search_54 : aj_cl0 nE "TestBench$PairSearch" 54 m_Machine_output 2 := ⟨nm_at 570 (by decide +kernel) rfl, wc_Machine_output, wz_Machine, by decide +kernel, by decide, by decide, rfl⟩
theorem cl_Search_54 : aj_vl nE "TestBench$PairSearch" 54 m_Machine_output 2 0 := ⟨c0_Search_54, wi_Machine_output, wv_Machine_output, _, rfl, rfl⟩
theorem c0_Search_58 : aj_cl0 nE "TestBench$PairSearch" 58 m_Search_spell 2 := ⟨nm_at 571 (by decide +kernel) rfl, wc_Search_spell, wz_Search, by decide +kernel, by decide, by decide, rfl⟩
theorem cl_Search_58 : aj_vl nE "TestBench$PairSearch" 58 m_Search_spell 2 2 := ⟨c0_Search_58, wi_Search_spell, wv_Search_spell, _, rfl, rfl⟩
theorem c0_Search_62 : aj_cl0 nE "TestBench$PairSearch" 62 m_Machine_next 2 := ⟨nm_at 575 (by decide +kernel) rfl, wc_Machine_next, wz_Machine, by decide +kernel, by decide, by decide, rfl⟩
theorem cl_Search_62 : aj_vl nE "TestBench$PairSearch" 62 m_Machine_next 2 0 := ⟨c0_Search_62, wi_Machine_next, wv_Machine_next, _, rfl, rfl⟩
theorem c0_Reduction_29 : aj_cl0 nE "TestBench$Reduction" 29 m_Machine_init 3 := ⟨nm_at 124 (by decide +kernel) rfl, wc_Machine_init, wz_Machine, by decide +kernel, by decide, by decide, rfl⟩
theorem cl_Reduction_29 : aj_il nE "TestBench$Reduction" 29 m_Machine_init 3 := ⟨c0_Reduction_29, wi_Machine_init, rfl, rfl⟩
theorem c0_Reduction_36 : aj_cl0 nE "TestBench$Reduction" 36 m_Reduction_findTwins 2 := ⟨nm_at 554 (by decide +kernel) rfl, wc_Reduction_findTwins, wz_Reduction, by decide +kernel, by decide, by decide, rfl⟩
theorem cl_Reduction_36 : aj_vl nE "TestBench$Reduction" 36 m_Reduction_findTwins 2 3 := ⟨c0_Reduction_36, wi_Reduction_findTwins, wv_Reduction_findTwins, _, rfl, rfl⟩
theorem c0_Reduction_44 : aj_cl0 nE "TestBench$Reduction" 44 m_Reduction_addState 3 := ⟨nm_at 576 (by decide +kernel) rfl, wc_Reduction_addState, wz_Reduction, by decide +kernel, by decide, by decide, rfl⟩
theorem cl_Reduction_44 : aj_vl nE "TestBench$Reduction" 44 m_Reduction_addState 3 3 := ⟨c0_Reduction_44, wi_Reduction_addState, wv_Reduction_addState, _, rfl, rfl⟩
theorem c0_Reduction_50 : aj_cl0 nE "TestBench$Reduction" 50 m_Machine_next 2 := ⟨nm_at 580 (by decide +kernel) rfl, wc_Machine_next, wz_Machine, by decide +kernel, by decide, by decide, rfl⟩
theorem cl_Reduction_50 : aj_vl nE "TestBench$Reduction" 50 m_Machine_next 2 0 := ⟨c0_Reduction_50, wi_Machine_next, wv_Machine_next, _, rfl, rfl⟩
theorem c0_Reduction_54 : aj_cl0 nE "TestBench$Reduction" 54 m_Machine_output 2 := ⟨nm_at 581 (by decide +kernel) rfl, wc_Machine_output, wz_Machine, by decide +kernel, by decide, by decide, rfl⟩
theorem cl_Reduction_54 : aj_vl nE "TestBench$Reduction" 54 m_Machine_output 2 0 := ⟨c0_Reduction_54, wi_Machine_output, wv_Machine_output, _, rfl, rfl⟩
theorem c0_Reduction_57 : aj_cl0 nE "TestBench$Reduction" 57 m_Machine_set 4 := ⟨nm_at 582 (by decide +kernel) rfl, wc_Machine_set, wz_Machine, by decide +kernel, by decide, by decide, rfl⟩
theorem cl_Reduction_57 : aj_vl nE "TestBench$Reduction" 57 m_Machine_set 4 0 := ⟨c0_Reduction_57, wi_Machine_set, wv_Machine_set, _, rfl, rfl⟩
theorem c0_Reduction_61 : aj_cl0 nE "TestBench$Reduction" 61 m_Search_find 4 := ⟨nm_at 558 (by decide +kernel) rfl, wc_Search_find, wz_Search, by decide +kernel, by decide, by decide, rfl⟩
theorem cl_Reduction_61 : aj_vl nE "TestBench$Reduction" 61 m_Search_find 4 2 := ⟨c0_Reduction_61, wi_Search_find, wv_Search_find, _, rfl, rfl⟩
theorem c0_Suite_70 : aj_cl0 nE "TestBench$Suite" 70 m_Suite_behindInput 2 := ⟨nm_at 397 (by decide +kernel) rfl, wc_Suite_behindInput, wz_Suite, by decide +kernel, by decide, by decide, rfl⟩
theorem cl_Suite_70 : aj_vl nE "TestBench$Suite" 70 m_Suite_behindInput 2 5 := ⟨c0_Suite_70, wi_Suite_behindInput, wv_Suite_behindInput, _, rfl, rfl⟩
theorem c0_Suite_74 : aj_cl0 nE "TestBench$Suite" 74 m_Suite_outputInto 1 := ⟨nm_at 401 (by decide +kernel) rfl, wc_Suite_outputInto, wz_Suite, by decide +kernel, by decide, by decide, rfl⟩
theorem cl_Suite_74 : aj_vl nE "TestBench$Suite" 74 m_Suite_outputInto 1 5 := ⟨c0_Suite_74, wi_Suite_outputInto, wv_Suite_outputInto, _, rfl, rfl⟩
theorem c0_Suite_78 : aj_cl0 nE "TestBench$Suite" 78 m_Machine_output 2 := ⟨nm_at 405 (by decide +kernel) rfl, wc_Machine_output, wz_Machine, by decide +kernel, by decide, by decide, rfl⟩
theorem cl_Suite_78 : aj_vl nE "TestBench$Suite" 78 m_Machine_output 2 0 := ⟨c0_Suite_78, wi_Machine_output, wv_Machine_output, _, rfl, rfl⟩
theorem c0_Suite_86 : aj_cl0 nE "TestBench$Suite" 86 m_Suite_addNode 3 := ⟨nm_at 637 (by decide +kernel) rfl, wc_Suite_addNode, wz_Suite, by decide +kernel, by decide, by decide, rfl⟩
theorem cl_Suite_86 : aj_vl nE "TestBench$Suite" 86 m_Suite_addNode 3 5 := ⟨c0_Suite_86, wi_Suite_addNode, wv_Suite_addNode, _, rfl, rfl⟩
theorem c0_Suite_97 : aj_cl0 nE "TestBench$Suite" 97 m_Suite_enter 2 := ⟨nm_at 641 (by decide +kernel) rfl, wc_Suite_enter, wz_Suite, by decide +kernel, by decide, by decide, rfl⟩
theorem cl_Suite_97 : aj_vl nE "TestBench$Suite" 97 m_Suite_enter 2 5 := ⟨c0_Suite_97, wi_Suite_enter, wv_Suite_enter, _, rfl, rfl⟩
theorem c0_Suite_100 : aj_cl0 nE "TestBench$Suite" 100 m_Suite_grow 3 := ⟨nm_at 646 (by decide +kernel) rfl, wc_Suite_grow, wz_Suite, by decide +kernel, by decide, by decide, rfl⟩
theorem cl_Suite_100 : aj_vl nE "TestBench$Suite" 100 m_Suite_grow 3 5 := ⟨c0_Suite_100, wi_Suite_grow, wv_Suite_grow, _, rfl, rfl⟩
theorem c0_Suite_104 : aj_cl0 nE "TestBench$Suite" 104 m_Reduction_isAccess 2 := ⟨nm_at 662 (by decide +kernel) rfl, wc_Reduction_isAccess, wz_Reduction, by decide +kernel, by decide, by decide, rfl⟩
theorem cl_Suite_104 : aj_vl nE "TestBench$Suite" 104 m_Reduction_isAccess 2 3 := ⟨c0_Suite_104, wi_Reduction_isAccess, wv_Reduction_isAccess, _, rfl, rfl⟩
theorem c0_Suite_108 : aj_cl0 nE "TestBench$Suite" 108 m_Suite_orderTests 0 := ⟨nm_at 666 (by decide +kernel) rfl, wc_Suite_orderTests, wz_Suite, by decide +kernel, by decide, by decide, rfl⟩
theorem cl_Suite_108 : aj_vl nE "TestBench$Suite" 108 m_Suite_orderTests 0 5 := ⟨c0_Suite_108, wi_Suite_orderTests, wv_Suite_orderTests, _, rfl, rfl⟩
theorem c0_Suite_111 : aj_cl0 nE "TestBench$Suite" 111 m_Suite_addFamily 1 := ⟨nm_at 650 (by decide +kernel) rfl, wc_Suite_addFamily, wz_Suite, by decide +kernel, by decide, by decide, rfl⟩
theorem cl_Suite_111 : aj_vl nE "TestBench$Suite" 111 m_Suite_addFamily 1 5 := ⟨c0_Suite_111, wi_Suite_addFamily, wv_Suite_addFamily, _, rfl, rfl⟩
theorem c0_Suite_115 : aj_cl0 nE "TestBench$Suite" 115 m_Suite_addOwn 1 := ⟨nm_at 658 (by decide +kernel) rfl, wc_Suite_addOwn, wz_Suite, by decide +kernel, by decide, by decide, rfl⟩
theorem cl_Suite_115 : aj_vl nE "TestBench$Suite" 115 m_Suite_addOwn 1 5 := ⟨c0_Suite_115, wi_Suite_addOwn, wv_Suite_addOwn, _, rfl, rfl⟩
theorem c0_Suite_125 : aj_cl0 nE "TestBench$Suite" 125 m_Suite_addWord 2 := ⟨nm_at 654 (by decide +kernel) rfl, wc_Suite_addWord, wz_Suite, by decide +kernel, by decide, by decide, rfl⟩
theorem cl_Suite_125 : aj_vl nE "TestBench$Suite" 125 m_Suite_addWord 2 5 := ⟨c0_Suite_125, wi_Suite_addWord, wv_Suite_addWord, _, rfl, rfl⟩
theorem c0_Suite_144 : aj_cl0 nE "TestBench$Suite" 144 m_Machine_next 2 := ⟨nm_at 645 (by decide +kernel) rfl, wc_Machine_next, wz_Machine, by decide +kernel, by decide, by decide, rfl⟩
theorem cl_Suite_144 : aj_vl nE "TestBench$Suite" 144 m_Machine_next 2 0 := ⟨c0_Suite_144, wi_Machine_next, wv_Machine_next, _, rfl, rfl⟩
theorem c0_Trial_24 : aj_cl0 nE "TestBench$Trial" 24 m_Trial_step 3 := ⟨nm_at 711 (by decide +kernel) rfl, wc_Trial_step, wz_Trial, by decide +kernel, by decide, by decide, rfl⟩
theorem cl_Trial_24 : aj_vl nE "TestBench$Trial" 24 m_Trial_step 3 6 := ⟨c0_Trial_24, wi_Trial_step, wv_Trial_step, _, rfl, rfl⟩
theorem c0_Trial_31 : aj_cl0 nE "TestBench$Trial" 31 m_Trial_placeOf 2 := ⟨nm_at 718 (by decide +kernel) rfl, wc_Trial_placeOf, wz_Trial, by decide +kernel, by decide, by decide, rfl⟩
theorem cl_Trial_31 : aj_vl nE "TestBench$Trial" 31 m_Trial_placeOf 2 6 := ⟨c0_Trial_31, wi_Trial_placeOf, wv_Trial_placeOf, _, rfl, rfl⟩
theorem c0_Trial_44 : aj_cl0 nE "TestBench$Trial" 44 m_Machine_next 2 := ⟨nm_at 715 (by decide +kernel) rfl, wc_Machine_next, wz_Machine, by decide +kernel, by decide, by decide, rfl⟩
theorem cl_Trial_44 : aj_vl nE "TestBench$Trial" 44 m_Machine_next 2 0 := ⟨c0_Trial_44, wi_Machine_next, wv_Machine_next, _, rfl, rfl⟩
theorem c0_Trial_50 : aj_cl0 nE "TestBench$Trial" 50 m_Machine_output 2 := ⟨nm_at 716 (by decide +kernel) rfl, wc_Machine_output, wz_Machine, by decide +kernel, by decide, by decide, rfl⟩
theorem cl_Trial_50 : aj_vl nE "TestBench$Trial" 50 m_Machine_output 2 0 := ⟨c0_Trial_50, wi_Machine_output, wv_Machine_output, _, rfl, rfl⟩
theorem c0_Trial_53 : aj_cl0 nE "TestBench$Trial" 53 m_Suite_outputInto 1 := ⟨nm_at 717 (by decide +kernel) rfl, wc_Suite_outputInto, wz_Suite, by decide +kernel, by decide, by decide, rfl⟩
theorem cl_Trial_53 : aj_vl nE "TestBench$Trial" 53 m_Suite_outputInto 1 5 := ⟨c0_Trial_53, wi_Suite_outputInto, wv_Suite_outputInto, _, rfl, rfl⟩
theorem c0_Law_7 : aj_cl0 nE "TestBenchLaw" 7 m_Bench_edge 4 := ⟨nm_at 444 (by decide +kernel) rfl, wc_Bench_edge, wz_Bench, by decide +kernel, by decide, by decide, rfl⟩
theorem cl_Law_7 : aj_vl nE "TestBenchLaw" 7 m_Bench_edge 4 7 := ⟨c0_Law_7, wi_Bench_edge, wv_Bench_edge, _, rfl, rfl⟩
theorem c0_Law_17 : aj_cl0 nE "TestBenchLaw" 17 m_Bench_start 1 := ⟨nm_at 539 (by decide +kernel) rfl, wc_Bench_start, wz_Bench, by decide +kernel, by decide, by decide, rfl⟩
theorem cl_Law_17 : aj_vl nE "TestBenchLaw" 17 m_Bench_start 1 7 := ⟨c0_Law_17, wi_Bench_start, wv_Bench_start, _, rfl, rfl⟩
theorem c0_Law_21 : aj_cl0 nE "TestBenchLaw" 21 m_Bench_seal 0 := ⟨nm_at 546 (by decide +kernel) rfl, wc_Bench_seal, wz_Bench, by decide +kernel, by decide, by decide, rfl⟩
theorem cl_Law_21 : aj_vl nE "TestBenchLaw" 21 m_Bench_seal 0 7 := ⟨c0_Law_21, wi_Bench_seal, wv_Bench_seal, _, rfl, rfl⟩
theorem c0_Law_25 : aj_cl0 nE "TestBenchLaw" 25 m_Bench_apart 2 := ⟨nm_at 619 (by decide +kernel) rfl, wc_Bench_apart, wz_Bench, by decide +kernel, by decide, by decide, rfl⟩
theorem cl_Law_25 : aj_vl nE "TestBenchLaw" 25 m_Bench_apart 2 7 := ⟨c0_Law_25, wi_Bench_apart, wv_Bench_apart, _, rfl, rfl⟩
theorem c0_Law_29 : aj_cl0 nE "TestBenchLaw" 29 m_Bench_suite 2 := ⟨nm_at 629 (by decide +kernel) rfl, wc_Bench_suite, wz_Bench, by decide +kernel, by decide, by decide, rfl⟩
theorem cl_Law_29 : aj_vl nE "TestBenchLaw" 29 m_Bench_suite 2 7 := ⟨c0_Law_29, wi_Bench_suite, wv_Bench_suite, _, rfl, rfl⟩
theorem c0_Law_34 : aj_cl0 nE "TestBenchLaw" 34 m_Bench_resize 1 := ⟨nm_at 688 (by decide +kernel) rfl, wc_Bench_resize, wz_Bench, by decide +kernel, by decide, by decide, rfl⟩
theorem cl_Law_34 : aj_vl nE "TestBenchLaw" 34 m_Bench_resize 1 7 := ⟨c0_Law_34, wi_Bench_resize, wv_Bench_resize, _, rfl, rfl⟩
theorem c0_Law_37 : aj_cl0 nE "TestBenchLaw" 37 m_Bench_change 4 := ⟨nm_at 696 (by decide +kernel) rfl, wc_Bench_change, wz_Bench, by decide +kernel, by decide, by decide, rfl⟩
theorem cl_Law_37 : aj_vl nE "TestBenchLaw" 37 m_Bench_change 4 7 := ⟨c0_Law_37, wi_Bench_change, wv_Bench_change, _, rfl, rfl⟩
theorem c0_Law_40 : aj_cl0 nE "TestBenchLaw" 40 m_Bench_run 0 := ⟨nm_at 703 (by decide +kernel) rfl, wc_Bench_run, wz_Bench, by decide +kernel, by decide, by decide, rfl⟩
theorem cl_Law_40 : aj_vl nE "TestBenchLaw" 40 m_Bench_run 0 7 := ⟨c0_Law_40, wi_Bench_run, wv_Bench_run, _, rfl, rfl⟩
theorem c0_Law_43 : aj_cl0 nE "TestBenchLaw" 43 m_Bench_begin 1 := ⟨nm_at 726 (by decide +kernel) rfl, wc_Bench_begin, wz_Bench, by decide +kernel, by decide, by decide, rfl⟩
theorem cl_Law_43 : aj_vl nE "TestBenchLaw" 43 m_Bench_begin 1 7 := ⟨c0_Law_43, wi_Bench_begin, wv_Bench_begin, _, rfl, rfl⟩
theorem c0_Law_47 : aj_cl0 nE "TestBenchLaw" 47 m_Bench_give 1 := ⟨nm_at 737 (by decide +kernel) rfl, wc_Bench_give, wz_Bench, by decide +kernel, by decide, by decide, rfl⟩
theorem cl_Law_47 : aj_vl nE "TestBenchLaw" 47 m_Bench_give 1 7 := ⟨c0_Law_47, wi_Bench_give, wv_Bench_give, _, rfl, rfl⟩
theorem c0_Law_50 : aj_cl0 nE "TestBenchLaw" 50 m_Bench_same 0 := ⟨nm_at 745 (by decide +kernel) rfl, wc_Bench_same, wz_Bench, by decide +kernel, by decide, by decide, rfl⟩
theorem cl_Law_50 : aj_vl nE "TestBenchLaw" 50 m_Bench_same 0 7 := ⟨c0_Law_50, wi_Bench_same, wv_Bench_same, _, rfl, rfl⟩
theorem c0_Law_53 : aj_cl0 nE "TestBenchLaw" 53 m_Law_cell 2 := ⟨nm_at 436 (by decide +kernel) rfl, wc_Law_cell, wz_Law, by decide +kernel, by decide, by decide, rfl⟩
theorem cl_Law_53 : aj_sl nE "TestBenchLaw" 53 m_Law_cell 2 := ⟨c0_Law_53, wt_Law_cell⟩
theorem c0_Law_59 : aj_cl0 nE "TestBenchLaw" 59 m_Bench_init 2 := ⟨nm_at 61 (by decide +kernel) rfl, wc_Bench_init, wz_Bench, by decide +kernel, by decide, by decide, rfl⟩
theorem cl_Law_59 : aj_il nE "TestBenchLaw" 59 m_Bench_init 2 := ⟨c0_Law_59, wi_Bench_init, rfl, rfl⟩
theorem c0_Law_64 : aj_cl0 nE "TestBenchLaw" 64 m_Model_init 2 := ⟨nm_at 751 (by decide +kernel) rfl, wc_Model_init, wz_Model, by decide +kernel, by decide, by decide, rfl⟩
theorem cl_Law_64 : aj_il nE "TestBenchLaw" 64 m_Model_init 2 := ⟨c0_Law_64, wi_Model_init, rfl, rfl⟩
theorem c0_Law_68 : aj_cl0 nE "TestBenchLaw" 68 m_Model_edge 4 := ⟨nm_at 872 (by decide +kernel) rfl, wc_Model_edge, wz_Model, by decide +kernel, by decide, by decide, rfl⟩
theorem cl_Law_68 : aj_vl nE "TestBenchLaw" 68 m_Model_edge 4 8 := ⟨c0_Law_68, wi_Model_edge, wv_Model_edge, _, rfl, rfl⟩
theorem c0_Law_69 : aj_cl0 nE "TestBenchLaw" 69 m_Model_thrown 0 := ⟨nm_at 868 (by decide +kernel) rfl, wc_Model_thrown, wz_Model, by decide +kernel, by decide, by decide, rfl⟩
theorem cl_Law_69 : aj_vl nE "TestBenchLaw" 69 m_Model_thrown 0 8 := ⟨c0_Law_69, wi_Model_thrown, wv_Model_thrown, _, rfl, rfl⟩
theorem c0_Law_75 : aj_cl0 nE "TestBenchLaw" 75 m_Model_start 1 := ⟨nm_at 887 (by decide +kernel) rfl, wc_Model_start, wz_Model, by decide +kernel, by decide, by decide, rfl⟩
theorem cl_Law_75 : aj_vl nE "TestBenchLaw" 75 m_Model_start 1 8 := ⟨c0_Law_75, wi_Model_start, wv_Model_start, _, rfl, rfl⟩
theorem c0_Law_79 : aj_cl0 nE "TestBenchLaw" 79 m_Model_seal 0 := ⟨nm_at 891 (by decide +kernel) rfl, wc_Model_seal, wz_Model, by decide +kernel, by decide, by decide, rfl⟩
theorem cl_Law_79 : aj_vl nE "TestBenchLaw" 79 m_Model_seal 0 8 := ⟨c0_Law_79, wi_Model_seal, wv_Model_seal, _, rfl, rfl⟩
theorem c0_Law_80 : aj_cl0 nE "TestBenchLaw" 80 m_Bench_minimal 1 := ⟨nm_at 353 (by decide +kernel) rfl, wc_Bench_minimal, wz_Bench, by decide +kernel, by decide, by decide, rfl⟩
theorem cl_Law_80 : aj_vl nE "TestBenchLaw" 80 m_Bench_minimal 1 7 := ⟨c0_Law_80, wi_Bench_minimal, wv_Bench_minimal, _, rfl, rfl⟩
theorem c0_Law_83 : aj_cl0 nE "TestBenchLaw" 83 m_Model_minimal 1 := ⟨nm_at 934 (by decide +kernel) rfl, wc_Model_minimal, wz_Model, by decide +kernel, by decide, by decide, rfl⟩
theorem cl_Law_83 : aj_vl nE "TestBenchLaw" 83 m_Model_minimal 1 8 := ⟨c0_Law_83, wi_Model_minimal, wv_Model_minimal, _, rfl, rfl⟩
theorem c0_Law_87 : aj_cl0 nE "TestBenchLaw" 87 m_Model_apart 2 := ⟨nm_at 938 (by decide +kernel) rfl, wc_Model_apart, wz_Model, by decide +kernel, by decide, by decide, rfl⟩
theorem cl_Law_87 : aj_vl nE "TestBenchLaw" 87 m_Model_apart 2 8 := ⟨c0_Law_87, wi_Model_apart, wv_Model_apart, _, rfl, rfl⟩
theorem c0_Law_88 : aj_cl0 nE "TestBenchLaw" 88 m_Bench_word 1 := ⟨nm_at 361 (by decide +kernel) rfl, wc_Bench_word, wz_Bench, by decide +kernel, by decide, by decide, rfl⟩
theorem cl_Law_88 : aj_vl nE "TestBenchLaw" 88 m_Bench_word 1 7 := ⟨c0_Law_88, wi_Bench_word, wv_Bench_word, _, rfl, rfl⟩
theorem c0_Law_91 : aj_cl0 nE "TestBenchLaw" 91 m_Model_word 1 := ⟨nm_at 942 (by decide +kernel) rfl, wc_Model_word, wz_Model, by decide +kernel, by decide, by decide, rfl⟩
theorem cl_Law_91 : aj_vl nE "TestBenchLaw" 91 m_Model_word 1 8 := ⟨c0_Law_91, wi_Model_word, wv_Model_word, _, rfl, rfl⟩
theorem c0_Law_92 : aj_cl0 nE "TestBenchLaw" 92 m_Bench_family 2 := ⟨nm_at 369 (by decide +kernel) rfl, wc_Bench_family, wz_Bench, by decide +kernel, by decide, by decide, rfl⟩
theorem cl_Law_92 : aj_vl nE "TestBenchLaw" 92 m_Bench_family 2 7 := ⟨c0_Law_92, wi_Bench_family, wv_Bench_family, _, rfl, rfl⟩
theorem c0_Law_95 : aj_cl0 nE "TestBenchLaw" 95 m_Model_family 2 := ⟨nm_at 946 (by decide +kernel) rfl, wc_Model_family, wz_Model, by decide +kernel, by decide, by decide, rfl⟩
theorem cl_Law_95 : aj_vl nE "TestBenchLaw" 95 m_Model_family 2 8 := ⟨c0_Law_95, wi_Model_family, wv_Model_family, _, rfl, rfl⟩
theorem c0_Law_96 : aj_cl0 nE "TestBenchLaw" 96 m_Bench_own 2 := ⟨nm_at 377 (by decide +kernel) rfl, wc_Bench_own, wz_Bench, by decide +kernel, by decide, by decide, rfl⟩
theorem cl_Law_96 : aj_vl nE "TestBenchLaw" 96 m_Bench_own 2 7 := ⟨c0_Law_96, wi_Bench_own, wv_Bench_own, _, rfl, rfl⟩
theorem c0_Law_99 : aj_cl0 nE "TestBenchLaw" 99 m_Model_own 2 := ⟨nm_at 950 (by decide +kernel) rfl, wc_Model_own, wz_Model, by decide +kernel, by decide, by decide, rfl⟩
theorem cl_Law_99 : aj_vl nE "TestBenchLaw" 99 m_Model_own 2 8 := ⟨c0_Law_99, wi_Model_own, wv_Model_own, _, rfl, rfl⟩
theorem c0_Law_102 : aj_cl0 nE "TestBenchLaw" 102 m_Model_suite 2 := ⟨nm_at 954 (by decide +kernel) rfl, wc_Model_suite, wz_Model, by decide +kernel, by decide, by decide, rfl⟩
theorem cl_Law_102 : aj_vl nE "TestBenchLaw" 102 m_Model_suite 2 8 := ⟨c0_Law_102, wi_Model_suite, wv_Model_suite, _, rfl, rfl⟩
theorem c0_Law_103 : aj_cl0 nE "TestBenchLaw" 103 m_Bench_test 3 := ⟨nm_at 381 (by decide +kernel) rfl, wc_Bench_test, wz_Bench, by decide +kernel, by decide, by decide, rfl⟩
theorem cl_Law_103 : aj_vl nE "TestBenchLaw" 103 m_Bench_test 3 7 := ⟨c0_Law_103, wi_Bench_test, wv_Bench_test, _, rfl, rfl⟩
theorem c0_Law_107 : aj_cl0 nE "TestBenchLaw" 107 m_Model_test 3 := ⟨nm_at 986 (by decide +kernel) rfl, wc_Model_test, wz_Model, by decide +kernel, by decide, by decide, rfl⟩
theorem cl_Law_107 : aj_vl nE "TestBenchLaw" 107 m_Model_test 3 8 := ⟨c0_Law_107, wi_Model_test, wv_Model_test, _, rfl, rfl⟩
theorem c0_Law_110 : aj_cl0 nE "TestBenchLaw" 110 m_Model_resize 1 := ⟨nm_at 1002 (by decide +kernel) rfl, wc_Model_resize, wz_Model, by decide +kernel, by decide, by decide, rfl⟩
theorem cl_Law_110 : aj_vl nE "TestBenchLaw" 110 m_Model_resize 1 8 := ⟨c0_Law_110, wi_Model_resize, wv_Model_resize, _, rfl, rfl⟩
theorem c0_Law_113 : aj_cl0 nE "TestBenchLaw" 113 m_Model_change 4 := ⟨nm_at 1006 (by decide +kernel) rfl, wc_Model_change, wz_Model, by decide +kernel, by decide, by decide, rfl⟩
theorem cl_Law_113 : aj_vl nE "TestBenchLaw" 113 m_Model_change 4 8 := ⟨c0_Law_113, wi_Model_change, wv_Model_change, _, rfl, rfl⟩
theorem c0_Law_116 : aj_cl0 nE "TestBenchLaw" 116 m_Model_run 0 := ⟨nm_at 1010 (by decide +kernel) rfl, wc_Model_run, wz_Model, by decide +kernel, by decide, by decide, rfl⟩
theorem cl_Law_116 : aj_vl nE "TestBenchLaw" 116 m_Model_run 0 8 := ⟨c0_Law_116, wi_Model_run, wv_Model_run, _, rfl, rfl⟩
theorem c0_Law_117 : aj_cl0 nE "TestBenchLaw" 117 m_Bench_failed 0 := ⟨nm_at 410 (by decide +kernel) rfl, wc_Bench_failed, wz_Bench, by decide +kernel, by decide, by decide, rfl⟩
theorem cl_Law_117 : aj_vl nE "TestBenchLaw" 117 m_Bench_failed 0 7 := ⟨c0_Law_117, wi_Bench_failed, wv_Bench_failed, _, rfl, rfl⟩
theorem c0_Law_120 : aj_cl0 nE "TestBenchLaw" 120 m_Model_failed 0 := ⟨nm_at 1018 (by decide +kernel) rfl, wc_Model_failed, wz_Model, by decide +kernel, by decide, by decide, rfl⟩
theorem cl_Law_120 : aj_vl nE "TestBenchLaw" 120 m_Model_failed 0 8 := ⟨c0_Law_120, wi_Model_failed, wv_Model_failed, _, rfl, rfl⟩
theorem c0_Law_124 : aj_cl0 nE "TestBenchLaw" 124 m_Model_begin 1 := ⟨nm_at 1022 (by decide +kernel) rfl, wc_Model_begin, wz_Model, by decide +kernel, by decide, by decide, rfl⟩
theorem cl_Law_124 : aj_vl nE "TestBenchLaw" 124 m_Model_begin 1 8 := ⟨c0_Law_124, wi_Model_begin, wv_Model_begin, _, rfl, rfl⟩
theorem c0_Law_127 : aj_cl0 nE "TestBenchLaw" 127 m_Model_give 1 := ⟨nm_at 1026 (by decide +kernel) rfl, wc_Model_give, wz_Model, by decide +kernel, by decide, by decide, rfl⟩
theorem cl_Law_127 : aj_vl nE "TestBenchLaw" 127 m_Model_give 1 8 := ⟨c0_Law_127, wi_Model_give, wv_Model_give, _, rfl, rfl⟩
theorem c0_Law_130 : aj_cl0 nE "TestBenchLaw" 130 m_Model_same 0 := ⟨nm_at 1030 (by decide +kernel) rfl, wc_Model_same, wz_Model, by decide +kernel, by decide, by decide, rfl⟩
theorem cl_Law_130 : aj_vl nE "TestBenchLaw" 130 m_Model_same 0 8 := ⟨c0_Law_130, wi_Model_same, wv_Model_same, _, rfl, rfl⟩
theorem c0_Law_131 : aj_cl0 nE "TestBenchLaw" 131 m_Bench_covered 0 := ⟨nm_at 414 (by decide +kernel) rfl, wc_Bench_covered, wz_Bench, by decide +kernel, by decide, by decide, rfl⟩
theorem cl_Law_131 : aj_vl nE "TestBenchLaw" 131 m_Bench_covered 0 7 := ⟨c0_Law_131, wi_Bench_covered, wv_Bench_covered, _, rfl, rfl⟩
theorem c0_Law_134 : aj_cl0 nE "TestBenchLaw" 134 m_Model_covered 0 := ⟨nm_at 1037 (by decide +kernel) rfl, wc_Model_covered, wz_Model, by decide +kernel, by decide, by decide, rfl⟩
theorem cl_Law_134 : aj_vl nE "TestBenchLaw" 134 m_Model_covered 0 8 := ⟨c0_Law_134, wi_Model_covered, wv_Model_covered, _, rfl, rfl⟩
theorem c0_Law_135 : aj_cl0 nE "TestBenchLaw" 135 m_Bench_look 1 := ⟨nm_at 432 (by decide +kernel) rfl, wc_Bench_look, wz_Bench, by decide +kernel, by decide, by decide, rfl⟩
theorem cl_Law_135 : aj_vl nE "TestBenchLaw" 135 m_Bench_look 1 7 := ⟨c0_Law_135, wi_Bench_look, wv_Bench_look, _, rfl, rfl⟩
theorem c0_Law_138 : aj_cl0 nE "TestBenchLaw" 138 m_Model_look 1 := ⟨nm_at 1041 (by decide +kernel) rfl, wc_Model_look, wz_Model, by decide +kernel, by decide, by decide, rfl⟩
theorem cl_Law_138 : aj_vl nE "TestBenchLaw" 138 m_Model_look 1 8 := ⟨c0_Law_138, wi_Model_look, wv_Model_look, _, rfl, rfl⟩
theorem c0_Model_95 : aj_cl0 nE "TestBenchModel" 95 m_Model_isState 1 := ⟨nm_at 876 (by decide +kernel) rfl, wc_Model_isState, wz_Model, by decide +kernel, by decide, by decide, rfl⟩
theorem cl_Model_95 : aj_vl nE "TestBenchModel" 95 m_Model_isState 1 8 := ⟨c0_Model_95, wi_Model_isState, wv_Model_isState, _, rfl, rfl⟩
theorem c0_Model_99 : aj_cl0 nE "TestBenchModel" 99 m_Model_isInput 1 := ⟨nm_at 880 (by decide +kernel) rfl, wc_Model_isInput, wz_Model, by decide +kernel, by decide, by decide, rfl⟩
theorem cl_Model_99 : aj_vl nE "TestBenchModel" 99 m_Model_isInput 1 8 := ⟨c0_Model_99, wi_Model_isInput, wv_Model_isInput, _, rfl, rfl⟩
theorem c0_Model_102 : aj_cl0 nE "TestBenchModel" 102 m_Model_isOutput 1 := ⟨nm_at 884 (by decide +kernel) rfl, wc_Model_isOutput, wz_Model, by decide +kernel, by decide, by decide, rfl⟩
theorem cl_Model_102 : aj_sl nE "TestBenchModel" 102 m_Model_isOutput 1 := ⟨c0_Model_102, wt_Model_isOutput⟩
theorem c0_Model_112 : aj_cl0 nE "TestBenchModel" 112 m_Model_length 1 := ⟨nm_at 915 (by decide +kernel) rfl, wc_Model_length, wz_Model, by decide +kernel, by decide, by decide, rfl⟩
theorem cl_Model_112 : aj_sl nE "TestBenchModel" 112 m_Model_length 1 := ⟨c0_Model_112, wt_Model_length⟩
theorem c0_Model_118 : aj_cl0 nE "TestBenchModel" 118 m_Model_at 2 := ⟨nm_at 918 (by decide +kernel) rfl, wc_Model_at, wz_Model, by decide +kernel, by decide, by decide, rfl⟩
theorem cl_Model_118 : aj_sl nE "TestBenchModel" 118 m_Model_at 2 := ⟨c0_Model_118, wt_Model_at⟩
theorem c0_Model_122 : aj_cl0 nE "TestBenchModel" 122 m_Model_fits 4 := ⟨nm_at 926 (by decide +kernel) rfl, wc_Model_fits, wz_Model, by decide +kernel, by decide, by decide, rfl⟩
theorem cl_Model_122 : aj_vl nE "TestBenchModel" 122 m_Model_fits 4 8 := ⟨c0_Model_122, wi_Model_fits, wv_Model_fits, _, rfl, rfl⟩
theorem c0_Model_129 : aj_cl0 nE "TestBenchModel" 129 m_Model_take 2 := ⟨nm_at 903 (by decide +kernel) rfl, wc_Model_take, wz_Model, by decide +kernel, by decide, by decide, rfl⟩
theorem cl_Model_129 : aj_vl nE "TestBenchModel" 129 m_Model_take 2 8 := ⟨c0_Model_129, wi_Model_take, wv_Model_take, _, rfl, rfl⟩
theorem c0_Model_136 : aj_cl0 nE "TestBenchModel" 136 m_Model_tells 3 := ⟨nm_at 911 (by decide +kernel) rfl, wc_Model_tells, wz_Model, by decide +kernel, by decide, by decide, rfl⟩
theorem cl_Model_136 : aj_vl nE "TestBenchModel" 136 m_Model_tells 3 8 := ⟨c0_Model_136, wi_Model_tells, wv_Model_tells, _, rfl, rfl⟩
theorem c0_Model_140 : aj_cl0 nE "TestBenchModel" 140 m_Model_leastWord 2 := ⟨nm_at 922 (by decide +kernel) rfl, wc_Model_leastWord, wz_Model, by decide +kernel, by decide, by decide, rfl⟩
theorem cl_Model_140 : aj_vl nE "TestBenchModel" 140 m_Model_leastWord 2 8 := ⟨c0_Model_140, wi_Model_leastWord, wv_Model_leastWord, _, rfl, rfl⟩
theorem c0_Model_144 : aj_cl0 nE "TestBenchModel" 144 m_Model_chooseOwn 2 := ⟨nm_at 930 (by decide +kernel) rfl, wc_Model_chooseOwn, wz_Model, by decide +kernel, by decide, by decide, rfl⟩
theorem cl_Model_144 : aj_vl nE "TestBenchModel" 144 m_Model_chooseOwn 2 8 := ⟨c0_Model_144, wi_Model_chooseOwn, wv_Model_chooseOwn, _, rfl, rfl⟩
theorem c0_Model_148 : aj_cl0 nE "TestBenchModel" 148 m_Model_measure 0 := ⟨nm_at 895 (by decide +kernel) rfl, wc_Model_measure, wz_Model, by decide +kernel, by decide, by decide, rfl⟩
theorem cl_Model_148 : aj_vl nE "TestBenchModel" 148 m_Model_measure 0 8 := ⟨c0_Model_148, wi_Model_measure, wv_Model_measure, _, rfl, rfl⟩
theorem c0_Model_151 : aj_cl0 nE "TestBenchModel" 151 m_Model_number 0 := ⟨nm_at 899 (by decide +kernel) rfl, wc_Model_number, wz_Model, by decide +kernel, by decide, by decide, rfl⟩
theorem cl_Model_151 : aj_vl nE "TestBenchModel" 151 m_Model_number 0 8 := ⟨c0_Model_151, wi_Model_number, wv_Model_number, _, rfl, rfl⟩
theorem c0_Model_154 : aj_cl0 nE "TestBenchModel" 154 m_Model_choose 0 := ⟨nm_at 907 (by decide +kernel) rfl, wc_Model_choose, wz_Model, by decide +kernel, by decide, by decide, rfl⟩
theorem cl_Model_154 : aj_vl nE "TestBenchModel" 154 m_Model_choose 0 8 := ⟨c0_Model_154, wi_Model_choose, wv_Model_choose, _, rfl, rfl⟩
theorem c0_Model_163 : aj_cl0 nE "TestBenchModel" 163 m_Model_putEnds 5 := ⟨nm_at 962 (by decide +kernel) rfl, wc_Model_putEnds, wz_Model, by decide +kernel, by decide, by decide, rfl⟩
theorem cl_Model_163 : aj_vl nE "TestBenchModel" 163 m_Model_putEnds 5 8 := ⟨c0_Model_163, wi_Model_putEnds, wv_Model_putEnds, _, rfl, rfl⟩
theorem c0_Model_167 : aj_cl0 nE "TestBenchModel" 167 m_Model_put 3 := ⟨nm_at 966 (by decide +kernel) rfl, wc_Model_put, wz_Model, by decide +kernel, by decide, by decide, rfl⟩
theorem cl_Model_167 : aj_vl nE "TestBenchModel" 167 m_Model_put 3 8 := ⟨c0_Model_167, wi_Model_put, wv_Model_put, _, rfl, rfl⟩
theorem c0_Model_171 : aj_cl0 nE "TestBenchModel" 171 m_Model_led 2 := ⟨nm_at 970 (by decide +kernel) rfl, wc_Model_led, wz_Model, by decide +kernel, by decide, by decide, rfl⟩
theorem cl_Model_171 : aj_vl nE "TestBenchModel" 171 m_Model_led 2 8 := ⟨c0_Model_171, wi_Model_led, wv_Model_led, _, rfl, rfl⟩
theorem c0_Model_175 : aj_cl0 nE "TestBenchModel" 175 m_Model_putAll 4 := ⟨nm_at 958 (by decide +kernel) rfl, wc_Model_putAll, wz_Model, by decide +kernel, by decide, by decide, rfl⟩
theorem cl_Model_175 : aj_vl nE "TestBenchModel" 175 m_Model_putAll 4 8 := ⟨c0_Model_175, wi_Model_putAll, wv_Model_putAll, _, rfl, rfl⟩
theorem c0_Model_179 : aj_cl0 nE "TestBenchModel" 179 m_Model_isAccess 1 := ⟨nm_at 974 (by decide +kernel) rfl, wc_Model_isAccess, wz_Model, by decide +kernel, by decide, by decide, rfl⟩
theorem cl_Model_179 : aj_vl nE "TestBenchModel" 179 m_Model_isAccess 1 8 := ⟨c0_Model_179, wi_Model_isAccess, wv_Model_isAccess, _, rfl, rfl⟩
theorem c0_Model_186 : aj_cl0 nE "TestBenchModel" 186 m_Model_list 0 := ⟨nm_at 978 (by decide +kernel) rfl, wc_Model_list, wz_Model, by decide +kernel, by decide, by decide, rfl⟩
theorem cl_Model_186 : aj_vl nE "TestBenchModel" 186 m_Model_list 0 8 := ⟨c0_Model_186, wi_Model_list, wv_Model_list, _, rfl, rfl⟩
theorem c0_Model_195 : aj_cl0 nE "TestBenchModel" 195 m_Model_isEnd 1 := ⟨nm_at 982 (by decide +kernel) rfl, wc_Model_isEnd, wz_Model, by decide +kernel, by decide, by decide, rfl⟩
theorem cl_Model_195 : aj_vl nE "TestBenchModel" 195 m_Model_isEnd 1 8 := ⟨c0_Model_195, wi_Model_isEnd, wv_Model_isEnd, _, rfl, rfl⟩
theorem c0_Model_198 : aj_cl0 nE "TestBenchModel" 198 m_Model_isTest 1 := ⟨nm_at 990 (by decide +kernel) rfl, wc_Model_isTest, wz_Model, by decide +kernel, by decide, by decide, rfl⟩
theorem cl_Model_198 : aj_vl nE "TestBenchModel" 198 m_Model_isTest 1 8 := ⟨c0_Model_198, wi_Model_isTest, wv_Model_isTest, _, rfl, rfl⟩
theorem c0_Model_201 : aj_cl0 nE "TestBenchModel" 201 m_Model_unfold 1 := ⟨nm_at 994 (by decide +kernel) rfl, wc_Model_unfold, wz_Model, by decide +kernel, by decide, by decide, rfl⟩
theorem cl_Model_201 : aj_vl nE "TestBenchModel" 201 m_Model_unfold 1 8 := ⟨c0_Model_201, wi_Model_unfold, wv_Model_unfold, _, rfl, rfl⟩
theorem c0_Model_205 : aj_cl0 nE "TestBenchModel" 205 m_Model_expected 1 := ⟨nm_at 998 (by decide +kernel) rfl, wc_Model_expected, wz_Model, by decide +kernel, by decide, by decide, rfl⟩
theorem cl_Model_205 : aj_vl nE "TestBenchModel" 205 m_Model_expected 1 8 := ⟨c0_Model_205, wi_Model_expected, wv_Model_expected, _, rfl, rfl⟩
theorem c0_Model_208 : aj_cl0 nE "TestBenchModel" 208 m_Model_fails 1 := ⟨nm_at 1014 (by decide +kernel) rfl, wc_Model_fails, wz_Model, by decide +kernel, by decide, by decide, rfl⟩
theorem cl_Model_208 : aj_vl nE "TestBenchModel" 208 m_Model_fails 1 8 := ⟨c0_Model_208, wi_Model_fails, wv_Model_fails, _, rfl, rfl⟩
theorem c0_Model_214 : aj_cl0 nE "TestBenchModel" 214 m_Model_least 2 := ⟨nm_at 1034 (by decide +kernel) rfl, wc_Model_least, wz_Model, by decide +kernel, by decide, by decide, rfl⟩
theorem cl_Model_214 : aj_sl nE "TestBenchModel" 214 m_Model_least 2 := ⟨c0_Model_214, wt_Model_least⟩
end
section
/-! class Machine: the small methods -/
theorem ix_lt {s s' i' k : Int} (hk : k = 1 ∨ k = 2 ∨ k = 3) (h : s' < s) (hi : i' < k) : s' * k + i' < s * k := by
  rcases hk with rfl | rfl | rfl <;> omega
theorem ix_inj {s s' i i' k : Int} (hk : k = 1 ∨ k = 2 ∨ k = 3) (h0 : 0 ≤ i) (h1 : i < k) (h2 : 0 ≤ i') (h3 : i' < k) : s' * k + i' = s * k + i ↔ s' = s ∧ i' = i := by
  rcases hk with rfl | rfl | rfl <;> omega
theorem ix_0 {s i k : Int} (hk : k = 1 ∨ k = 2 ∨ k = 3) (h : 0 ≤ s) (hi : 0 ≤ i) : 0 ≤ s * k + i := by
  rcases hk with rfl | rfl | rfl <;> omega
theorem ix_in {s i k n : Int} (hk : k = 1 ∨ k = 2 ∨ k = 3) (h : s < n) (hi : i < k) : s * k + i < n * k := by
  rcases hk with rfl | rfl | rfl <;> omega
/-- a Machine at place r: its two arrays stand behind it -/
def mcs (sh : List aj_S) (g : aj_G) (r : Int) (L : Nat) : Prop := aj_sh sh r = some (.inr 0) ∧ g r 1 = r + 1 ∧ g r 2 = r + 2 ∧ aj_sh sh (r + 1) = some (.inl (0, L)) ∧ aj_sh sh (r + 2) = some (.inl (0, L))
set_option maxHeartbeats 4000000 in
theorem k_Machine_hasState {al : Prop} {X : Option (Nat × (Int → Int))} {d : Nat} {sh : List aj_S} {g : aj_G} {Q : aj_R → List aj_S → aj_G → Prop} {r s : Int}
    (hs : aj_sh sh r = some (.inr 0)) (hx : aj_I s) (hn : aj_I (g r 3)) (hk : Q (.inl (some (0, if 0 ≤ s ∧ s < g r 3 then 1 else 0))) sh g) : aj_wp nE al al X m_Machine_hasState (d) 0 0 0 [some (1, r), some (0, s)] [] sh g Q := by
  refine aj_iload_n 1 1 (dx d_Machine_hasState 0 rfl) rfl rfl rfl ?_
  refine aj_if_lt 16 4 (dx d_Machine_hasState 1 rfl) rfl rfl hx (fun h1 => ?_) (fun h1 => ?_)
  · refine aj_iconst 17 (dx d_Machine_hasState 8 rfl) rfl ?_
    refine aj_zret (dx d_Machine_hasState 9 rfl) rfl (by omega) id ?_
    first | (rw [if_pos (by omega)] at hk; exact hk) | (rw [if_neg (by omega)] at hk; exact hk)
  · refine aj_iload_n 1 5 (dx d_Machine_hasState 2 rfl) rfl rfl rfl ?_
    refine aj_aload_n 0 6 (dx d_Machine_hasState 3 rfl) rfl rfl rfl ?_
    refine aj_getf 9 fl_Machine_22 (dx d_Machine_hasState 4 rfl) rfl (by assumption) ?_
    refine aj_icmp_ge 16 12 (dx d_Machine_hasState 5 rfl) rfl rfl hx hn (fun h9 => ?_) (fun h9 => ?_)
    · refine aj_iconst 17 (dx d_Machine_hasState 8 rfl) rfl ?_
      refine aj_zret (dx d_Machine_hasState 9 rfl) rfl (by omega) id ?_
      first | (rw [if_pos (by omega)] at hk; exact hk) | (rw [if_neg (by omega)] at hk; exact hk)
    · refine aj_iconst 13 (dx d_Machine_hasState 6 rfl) rfl ?_
      refine aj_goto 17 (dx d_Machine_hasState 7 rfl) rfl ?_
      refine aj_zret (dx d_Machine_hasState 9 rfl) rfl (by omega) id ?_
      first | (rw [if_pos (by omega)] at hk; exact hk) | (rw [if_neg (by omega)] at hk; exact hk)

set_option maxHeartbeats 4000000 in
theorem k_Machine_hasOutput {al : Prop} {X : Option (Nat × (Int → Int))} {d : Nat} {sh : List aj_S} {g : aj_G} {Q : aj_R → List aj_S → aj_G → Prop} {r s : Int}
    (hx : aj_I s) (hk : Q (.inl (some (0, if 0 ≤ s ∧ s < 4 then 1 else 0))) sh g) : aj_wp nE al al X m_Machine_hasOutput (d) 0 0 0 [some (1, r), some (0, s)] [] sh g Q := by
  refine aj_iload_n 1 1 (dx d_Machine_hasOutput 0 rfl) rfl rfl rfl ?_
  refine aj_if_lt 13 4 (dx d_Machine_hasOutput 1 rfl) rfl rfl hx (fun h1 => ?_) (fun h1 => ?_)
  · refine aj_iconst 14 (dx d_Machine_hasOutput 7 rfl) rfl ?_
    refine aj_zret (dx d_Machine_hasOutput 8 rfl) rfl (by omega) id ?_
    first | (rw [if_pos (by omega)] at hk; exact hk) | (rw [if_neg (by omega)] at hk; exact hk)
  · refine aj_iload_n 1 5 (dx d_Machine_hasOutput 2 rfl) rfl rfl rfl ?_
    refine aj_iconst 6 (dx d_Machine_hasOutput 3 rfl) rfl ?_
    refine aj_icmp_ge 13 9 (dx d_Machine_hasOutput 4 rfl) rfl rfl hx (by unfold aj_I; omega) (fun h6 => ?_) (fun h6 => ?_)
    · refine aj_iconst 14 (dx d_Machine_hasOutput 7 rfl) rfl ?_
      refine aj_zret (dx d_Machine_hasOutput 8 rfl) rfl (by omega) id ?_
      first | (rw [if_pos (by omega)] at hk; exact hk) | (rw [if_neg (by omega)] at hk; exact hk)
    · refine aj_iconst 10 (dx d_Machine_hasOutput 5 rfl) rfl ?_
      refine aj_goto 14 (dx d_Machine_hasOutput 6 rfl) rfl ?_
      refine aj_zret (dx d_Machine_hasOutput 8 rfl) rfl (by omega) id ?_
      first | (rw [if_pos (by omega)] at hk; exact hk) | (rw [if_neg (by omega)] at hk; exact hk)

set_option maxHeartbeats 4000000 in
theorem k_Machine_set {al : Prop} {X : Option (Nat × (Int → Int))} {d : Nat} {sh : List aj_S} {g : aj_G} {Q : aj_R → List aj_S → aj_G → Prop} {r s i nx ou : Int} {L : Nat}
    (hm : mcs sh g r L) (h0 : 0 ≤ s * g r 0 + i) (h1 : s * g r 0 + i < L) (hk : Q (.inl none) sh (aj_up (aj_up g (r + 1) (s * g r 0 + i) nx) (r + 2) (s * g r 0 + i) ou)) : aj_wp nE al al X m_Machine_set (d) 0 0 0 [some (1, r), some (0, s), some (0, i), some (0, nx), some (0, ou)] [] sh g Q := by
  refine aj_aload_n 0 1 (dx d_Machine_set 0 rfl) rfl rfl rfl ?_
  refine aj_getf 4 fl_Machine_15 (dx d_Machine_set 1 rfl) rfl hm.1 ?_
  rw [hm.2.1]
  refine aj_iload_n 1 5 (dx d_Machine_set 2 rfl) rfl rfl rfl ?_
  refine aj_aload_n 0 6 (dx d_Machine_set 3 rfl) rfl rfl rfl ?_
  refine aj_getf 9 fl_Machine_9 (dx d_Machine_set 4 rfl) rfl hm.1 ?_
  refine aj_imul 10 (dx d_Machine_set 5 rfl) rfl ?_
  refine aj_iload_n 2 11 (dx d_Machine_set 6 rfl) rfl rfl rfl ?_
  refine aj_iadd 12 (dx d_Machine_set 7 rfl) rfl ?_
  refine aj_iload_n 3 13 (dx d_Machine_set 8 rfl) rfl rfl rfl ?_
  refine aj_iast 14 (dx d_Machine_set 9 rfl) rfl hm.2.2.2.1 rfl h0 h1 ?_
  refine aj_aload_n 0 15 (dx d_Machine_set 10 rfl) rfl rfl rfl ?_
  refine aj_getf 18 fl_Machine_19 (dx d_Machine_set 11 rfl) rfl hm.1 ?_
  rw [aj_up_ne g _ _ (show r ≠ r + 1 by omega)]
  rw [hm.2.2.1]
  refine aj_iload_n 1 19 (dx d_Machine_set 12 rfl) rfl rfl rfl ?_
  refine aj_aload_n 0 20 (dx d_Machine_set 13 rfl) rfl rfl rfl ?_
  refine aj_getf 23 fl_Machine_9 (dx d_Machine_set 14 rfl) rfl hm.1 ?_
  rw [aj_up_ne g _ _ (show r ≠ r + 1 by omega)]
  refine aj_imul 24 (dx d_Machine_set 15 rfl) rfl ?_
  refine aj_iload_n 2 25 (dx d_Machine_set 16 rfl) rfl rfl rfl ?_
  refine aj_iadd 26 (dx d_Machine_set 17 rfl) rfl ?_
  refine aj_iload 4 28 (dx d_Machine_set 18 rfl) rfl rfl ?_
  refine aj_iast 29 (dx d_Machine_set 19 rfl) rfl hm.2.2.2.2 rfl h0 h1 ?_
  refine aj_vret (dx d_Machine_set 20 rfl) rfl id ?_
  exact hk

set_option maxHeartbeats 4000000 in
theorem k_Machine_next {al : Prop} {X : Option (Nat × (Int → Int))} {d : Nat} {sh : List aj_S} {g : aj_G} {Q : aj_R → List aj_S → aj_G → Prop} {r s i : Int} {L : Nat}
    (hm : mcs sh g r L) (h0 : 0 ≤ s * g r 0 + i) (h1 : s * g r 0 + i < L) (hk : Q (.inl (some (0, g (r + 1) (s * g r 0 + i)))) sh g) : aj_wp nE al al X m_Machine_next (d) 0 0 0 [some (1, r), some (0, s), some (0, i)] [] sh g Q := by
  refine aj_aload_n 0 1 (dx d_Machine_next 0 rfl) rfl rfl rfl ?_
  refine aj_getf 4 fl_Machine_15 (dx d_Machine_next 1 rfl) rfl hm.1 ?_
  rw [hm.2.1]
  refine aj_iload_n 1 5 (dx d_Machine_next 2 rfl) rfl rfl rfl ?_
  refine aj_aload_n 0 6 (dx d_Machine_next 3 rfl) rfl rfl rfl ?_
  refine aj_getf 9 fl_Machine_9 (dx d_Machine_next 4 rfl) rfl hm.1 ?_
  refine aj_imul 10 (dx d_Machine_next 5 rfl) rfl ?_
  refine aj_iload_n 2 11 (dx d_Machine_next 6 rfl) rfl rfl rfl ?_
  refine aj_iadd 12 (dx d_Machine_next 7 rfl) rfl ?_
  refine aj_iald 13 (dx d_Machine_next 8 rfl) rfl hm.2.2.2.1 rfl h0 h1 ?_
  refine aj_iret (dx d_Machine_next 9 rfl) rfl id ?_
  exact hk

set_option maxHeartbeats 4000000 in
theorem k_Machine_output {al : Prop} {X : Option (Nat × (Int → Int))} {d : Nat} {sh : List aj_S} {g : aj_G} {Q : aj_R → List aj_S → aj_G → Prop} {r s i : Int} {L : Nat}
    (hm : mcs sh g r L) (h0 : 0 ≤ s * g r 0 + i) (h1 : s * g r 0 + i < L) (hk : Q (.inl (some (0, g (r + 2) (s * g r 0 + i)))) sh g) : aj_wp nE al al X m_Machine_output (d) 0 0 0 [some (1, r), some (0, s), some (0, i)] [] sh g Q := by
  refine aj_aload_n 0 1 (dx d_Machine_output 0 rfl) rfl rfl rfl ?_
  refine aj_getf 4 fl_Machine_19 (dx d_Machine_output 1 rfl) rfl hm.1 ?_
  rw [hm.2.2.1]
  refine aj_iload_n 1 5 (dx d_Machine_output 2 rfl) rfl rfl rfl ?_
  refine aj_aload_n 0 6 (dx d_Machine_output 3 rfl) rfl rfl rfl ?_
  refine aj_getf 9 fl_Machine_9 (dx d_Machine_output 4 rfl) rfl hm.1 ?_
  refine aj_imul 10 (dx d_Machine_output 5 rfl) rfl ?_
  refine aj_iload_n 2 11 (dx d_Machine_output 6 rfl) rfl rfl rfl ?_
  refine aj_iadd 12 (dx d_Machine_output 7 rfl) rfl ?_
  refine aj_iald 13 (dx d_Machine_output 8 rfl) rfl hm.2.2.2.2 rfl h0 h1 ?_
  refine aj_iret (dx d_Machine_output 9 rfl) rfl id ?_
  exact hk

set_option maxHeartbeats 4000000 in
theorem k_Machine_allows {al : Prop} {X : Option (Nat × (Int → Int))} {d : Nat} {sh : List aj_S} {g : aj_G} {Q : aj_R → List aj_S → aj_G → Prop} {r s i t u : Int}
    (hs : aj_sh sh r = some (.inr 0)) (x1 : aj_I s) (x2 : aj_I i) (x3 : aj_I t) (x4 : aj_I u) (hn : aj_I (g r 3)) (hi : aj_I (g r 0)) (hk : Q (.inl (some (0, if (0 ≤ s ∧ s < g r 3) ∧ (0 ≤ t ∧ t < g r 3) ∧ (0 ≤ i ∧ i < g r 0) ∧ (0 ≤ u ∧ u < 4) then 1 else 0))) sh g) : aj_wp nE al al X m_Machine_allows (d + 1) 0 0 0 [some (1, r), some (0, s), some (0, i), some (0, t), some (0, u)] [] sh g Q := by
  refine aj_aload_n 0 1 (dx d_Machine_allows 0 rfl) rfl rfl rfl ?_
  refine aj_iload_n 1 2 (dx d_Machine_allows 1 rfl) rfl rfl rfl ?_
  refine aj_callV1 5 cl_Machine_29 (dx d_Machine_allows 2 rfl) rfl rfl rfl rfl rfl rfl (by assumption) (k_Machine_hasState hs x1 hn ?_)
  change aj_wp _ _ _ _ _ _ _ _ _ _ _ _ _ _
  refine aj_if_eq 41 8 (dx d_Machine_allows 3 rfl) rfl rfl (by split <;> (unfold aj_I; omega)) (fun h5 => ?_) (fun h5 => ?_)
  · refine aj_iconst 42 (dx d_Machine_allows 20 rfl) rfl ?_
    refine aj_zret (dx d_Machine_allows 21 rfl) rfl (by omega) id ?_
    first | (rw [if_pos (by omega)] at hk; exact hk) | (rw [if_neg (by omega)] at hk; exact hk)
  · refine aj_aload_n 0 9 (dx d_Machine_allows 4 rfl) rfl rfl rfl ?_
    refine aj_iload_n 3 10 (dx d_Machine_allows 5 rfl) rfl rfl rfl ?_
    refine aj_callV1 13 cl_Machine_29 (dx d_Machine_allows 6 rfl) rfl rfl rfl rfl rfl rfl (by assumption) (k_Machine_hasState hs x3 hn ?_)
    change aj_wp _ _ _ _ _ _ _ _ _ _ _ _ _ _
    refine aj_if_eq 41 16 (dx d_Machine_allows 7 rfl) rfl rfl (by split <;> (unfold aj_I; omega)) (fun h13 => ?_) (fun h13 => ?_)
    · refine aj_iconst 42 (dx d_Machine_allows 20 rfl) rfl ?_
      refine aj_zret (dx d_Machine_allows 21 rfl) rfl (by omega) id ?_
      first | (rw [if_pos (by omega)] at hk; exact hk) | (rw [if_neg (by omega)] at hk; exact hk)
    · refine aj_iload_n 2 17 (dx d_Machine_allows 8 rfl) rfl rfl rfl ?_
      refine aj_if_lt 41 20 (dx d_Machine_allows 9 rfl) rfl rfl x2 (fun h17 => ?_) (fun h17 => ?_)
      · refine aj_iconst 42 (dx d_Machine_allows 20 rfl) rfl ?_
        refine aj_zret (dx d_Machine_allows 21 rfl) rfl (by omega) id ?_
        first | (rw [if_pos (by omega)] at hk; exact hk) | (rw [if_neg (by omega)] at hk; exact hk)
      · refine aj_iload_n 2 21 (dx d_Machine_allows 10 rfl) rfl rfl rfl ?_
        refine aj_aload_n 0 22 (dx d_Machine_allows 11 rfl) rfl rfl rfl ?_
        refine aj_getf 25 fl_Machine_9 (dx d_Machine_allows 12 rfl) rfl (by assumption) ?_
        refine aj_icmp_ge 41 28 (dx d_Machine_allows 13 rfl) rfl rfl x2 hi (fun h25 => ?_) (fun h25 => ?_)
        · refine aj_iconst 42 (dx d_Machine_allows 20 rfl) rfl ?_
          refine aj_zret (dx d_Machine_allows 21 rfl) rfl (by omega) id ?_
          first | (rw [if_pos (by omega)] at hk; exact hk) | (rw [if_neg (by omega)] at hk; exact hk)
        · refine aj_aload_n 0 29 (dx d_Machine_allows 14 rfl) rfl rfl rfl ?_
          refine aj_iload 4 31 (dx d_Machine_allows 15 rfl) rfl rfl ?_
          refine aj_callV1 34 cl_Machine_33 (dx d_Machine_allows 16 rfl) rfl rfl rfl rfl rfl rfl (by assumption) (k_Machine_hasOutput x4 ?_)
          change aj_wp _ _ _ _ _ _ _ _ _ _ _ _ _ _
          refine aj_if_eq 41 37 (dx d_Machine_allows 17 rfl) rfl rfl (by split <;> (unfold aj_I; omega)) (fun h34 => ?_) (fun h34 => ?_)
          · refine aj_iconst 42 (dx d_Machine_allows 20 rfl) rfl ?_
            refine aj_zret (dx d_Machine_allows 21 rfl) rfl (by omega) id ?_
            first | (rw [if_pos (by omega)] at hk; exact hk) | (rw [if_neg (by omega)] at hk; exact hk)
          · refine aj_iconst 38 (dx d_Machine_allows 18 rfl) rfl ?_
            refine aj_goto 42 (dx d_Machine_allows 19 rfl) rfl ?_
            refine aj_zret (dx d_Machine_allows 21 rfl) rfl (by omega) id ?_
            first | (rw [if_pos (by omega)] at hk; exact hk) | (rw [if_neg (by omega)] at hk; exact hk)
end
section
/-! Machine.fitTo -/
theorem mcs_of {sh : List aj_S} {g g1 : aj_G} {r : Int} {L : Nat} (h : mcs sh g r L) (e : g1 r = g r) : mcs sh g1 r L := by
  unfold mcs at h ⊢
  rw [e]
  exact h
def fit_n (g : aj_G) (r n k s i : Int) : Int := if g r 3 ≤ s then s else if n ≤ g (r + 1) (s * k + i) then 0 else g (r + 1) (s * k + i)
def fit_o (g : aj_G) (r k s i : Int) : Int := if g r 3 ≤ s then 0 else g (r + 2) (s * k + i)
def fit_I (g g1 : aj_G) (r n k s i : Int) : Prop := (∀ r', r' ≠ r + 1 → r' ≠ r + 2 → g1 r' = g r') ∧ ∀ s' i', 0 ≤ s' → s' < n → 0 ≤ i' → i' < k →
  g1 (r + 1) (s' * k + i') = (if s' < s ∨ (s' = s ∧ i' < i) then fit_n g r n k s' i' else g (r + 1) (s' * k + i')) ∧ g1 (r + 2) (s' * k + i') = (if s' < s ∨ (s' = s ∧ i' < i) then fit_o g r k s' i' else g (r + 2) (s' * k + i'))
theorem fit_0 {g : aj_G} {r n k : Int} : fit_I g g r n k 0 0 := by
  refine ⟨fun _ _ _ => rfl, fun s' i' h1 h2 h3 h4 => ?_⟩
  rw [if_neg (by omega), if_neg (by omega)]
  exact ⟨rfl, rfl⟩
theorem fit_row {g g1 : aj_G} {r n k s : Int} (h : fit_I g g1 r n k s k) : fit_I g g1 r n k (s + 1) 0 := by
  refine ⟨h.1, fun s' i' h1 h2 h3 h4 => ?_⟩
  obtain ⟨a, b⟩ := h.2 s' i' h1 h2 h3 h4
  by_cases c : s' < s ∨ (s' = s ∧ i' < k)
  · rw [if_pos c] at a b
    rw [if_pos (by omega), if_pos (by omega)]
    exact ⟨a, b⟩
  · rw [if_neg c] at a b
    rw [if_neg (by omega), if_neg (by omega)]
    exact ⟨a, b⟩
theorem fit_skip {g g1 : aj_G} {r n k s i : Int} (h : fit_I g g1 r n k s i) (ha : fit_n g r n k s i = g (r + 1) (s * k + i)) (hb : fit_o g r k s i = g (r + 2) (s * k + i)) : fit_I g g1 r n k s (i + 1) := by
  refine ⟨h.1, fun s' i' h1 h2 h3 h4 => ?_⟩
  obtain ⟨a, b⟩ := h.2 s' i' h1 h2 h3 h4
  by_cases c : s' < s ∨ (s' = s ∧ i' < i)
  · rw [if_pos c] at a b
    rw [if_pos (by omega), if_pos (by omega)]
    exact ⟨a, b⟩
  · rw [if_neg c] at a b
    by_cases e : s' = s ∧ i' = i
    · obtain ⟨rfl, rfl⟩ := e
      rw [if_pos (by omega), if_pos (by omega), ha, hb]
      exact ⟨a, b⟩
    · rw [if_neg (by omega), if_neg (by omega)]
      exact ⟨a, b⟩
theorem fit_step {g g1 : aj_G} {r n k s i a0 b0 : Int} (hk : k = 1 ∨ k = 2 ∨ k = 3) (h : fit_I g g1 r n k s i) (hi0 : 0 ≤ i) (hi1 : i < k) (ha : fit_n g r n k s i = a0) (hb : fit_o g r k s i = b0) : fit_I g (aj_up (aj_up g1 (r + 1) (s * k + i) a0) (r + 2) (s * k + i) b0) r n k s (i + 1) := by
  refine ⟨fun r' e1 e2 => by rw [aj_up_ne _ _ _ e2, aj_up_ne _ _ _ e1]; exact h.1 r' e1 e2, fun s' i' h1 h2 h3 h4 => ?_⟩
  obtain ⟨a, b⟩ := h.2 s' i' h1 h2 h3 h4
  have e3 := ix_inj (s := s) (s' := s') hk hi0 hi1 h3 h4
  have u1 : aj_up (aj_up g1 (r + 1) (s * k + i) a0) (r + 2) (s * k + i) b0 (r + 1) (s' * k + i') = (if s' = s ∧ i' = i then a0 else g1 (r + 1) (s' * k + i')) := by
    rw [aj_up_ne _ _ _ (show r + 1 ≠ r + 2 by omega), aj_up_at]
    by_cases e : s' = s ∧ i' = i
    · rw [if_pos e, if_pos ⟨rfl, e3.mpr e⟩]
    · rw [if_neg e, if_neg (fun z => e (e3.mp z.2))]
  have u2 : aj_up (aj_up g1 (r + 1) (s * k + i) a0) (r + 2) (s * k + i) b0 (r + 2) (s' * k + i') = (if s' = s ∧ i' = i then b0 else g1 (r + 2) (s' * k + i')) := by
    rw [aj_up_at]
    by_cases e : s' = s ∧ i' = i
    · rw [if_pos e, if_pos ⟨rfl, e3.mpr e⟩]
    · rw [if_neg e, if_neg (fun z => e (e3.mp z.2)), aj_up_ne _ _ _ (show r + 2 ≠ r + 1 by omega)]
  rw [u1, u2]
  by_cases e : s' = s ∧ i' = i
  · obtain ⟨rfl, rfl⟩ := e
    have c2 : s' < s' ∨ (s' = s' ∧ i' < i' + 1) := by omega
    have c1 : s' = s' ∧ i' = i' := ⟨rfl, rfl⟩
    rw [if_pos c1, if_pos c1, if_pos c2, if_pos c2]
    exact ⟨ha.symm, hb.symm⟩
  · rw [if_neg e, if_neg e]
    by_cases c : s' < s ∨ (s' = s ∧ i' < i)
    · rw [if_pos c] at a b
      have c2 : s' < s ∨ (s' = s ∧ i' < i + 1) := by omega
      rw [if_pos c2, if_pos c2]
      exact ⟨a, b⟩
    · rw [if_neg c] at a b
      have c2 : ¬ (s' < s ∨ (s' = s ∧ i' < i + 1)) := by omega
      rw [if_neg c2, if_neg c2]
      exact ⟨a, b⟩
theorem fit_at {g g1 : aj_G} {r n k s i : Int} (h : fit_I g g1 r n k s i) (h0 : 0 ≤ s) (h1 : s < n) (h2 : 0 ≤ i) (h3 : i < k) : g1 (r + 1) (s * k + i) = g (r + 1) (s * k + i) ∧ g1 (r + 2) (s * k + i) = g (r + 2) (s * k + i) := by
  obtain ⟨a, b⟩ := h.2 s i h0 h1 h2 h3
  rw [if_neg (by omega)] at a b
  exact ⟨a, b⟩
set_option maxHeartbeats 4000000 in
theorem k_fitTo_in {al : Prop} {X : Option (Nat × (Int → Int))} {d : Nat} {sh : List aj_S} {g : aj_G} {Q : aj_R → List aj_S → aj_G → Prop} {r n k : Int} {L : Nat} (hm : mcs sh g r L) (hg0 : g r 0 = k) (hk3 : k = 1 ∨ k = 2 ∨ k = 3) (hn0 : 0 ≤ n) (hnL : n * k ≤ L) (hn9 : n ≤ 1000) (hst : aj_I (g r 3)) (hv : ∀ s i, 0 ≤ s → s < g r 3 → 0 ≤ i → i < k → aj_I (g (r + 1) (s * k + i))) {s : Int} (h0 : 0 ≤ s) (h1 : s < n)
    (K : ∀ g1, fit_I g g1 r n k (s + 1) 0 → aj_wp nE al al X m_Machine_fitTo (d + 1) 0 0 2 [some (1, r), some (0, n), some (0, s + 1), none] [] sh g1 Q) : ∀ (m : Nat) (i : Int) (g1 : aj_G), 0 ≤ i → i ≤ k → (k - i).toNat = m → fit_I g g1 r n k s i →
    aj_wp nE al al X m_Machine_fitTo (d + 1) 0 0 9 [some (1, r), some (0, n), some (0, s), some (0, i)] [] sh g1 Q := by
  intro m
  induction m using Nat.strongRecOn with
  | ind m ih =>
    intro i g1 hi0 hi1 hmm hI
    have hr := hI.1 r (by omega) (by omega)
    have hm1 := mcs_of hm hr
    have hr0 : g1 r 0 = k := by rw [hr]; exact hg0
    have hr3 : g1 r 3 = g r 3 := by rw [hr]
    refine aj_iload_n 3 10 (dx d_Machine_fitTo 7 rfl) rfl rfl rfl ?_
    refine aj_aload_n 0 11 (dx d_Machine_fitTo 8 rfl) rfl rfl rfl ?_
    refine aj_getf 14 fl_Machine_9 (dx d_Machine_fitTo 9 rfl) rfl hm1.1 ?_
    refine aj_icmp_ge 65 17 (dx d_Machine_fitTo 10 rfl) rfl rfl (by unfold aj_I; omega) (by rw [hr0]; unfold aj_I; omega) (fun h14 => ?_) (fun h14 => ?_)
    · rw [hr0] at h14
      have he : i = k := by omega
      subst he
      refine aj_iinc 2 68 (dx d_Machine_fitTo 39 rfl) rfl rfl rfl ?_
      simp only [List.set]
      refine aj_goto 2 (dx d_Machine_fitTo 40 rfl) rfl ?_
      refine aj_forget 3 ?_
      simp only [List.set]
      exact K g1 (fit_row hI)
    · rw [hr0] at h14
      have hx0 : 0 ≤ s * k + i := ix_0 hk3 h0 hi0
      have hx1 : s * k + i < L := by have := ix_in (n := n) hk3 h1 h14; omega
      have hat := fit_at hI h0 h1 hi0 h14
      refine aj_iload_n 2 18 (dx d_Machine_fitTo 11 rfl) rfl rfl rfl ?_
      refine aj_aload_n 0 19 (dx d_Machine_fitTo 12 rfl) rfl rfl rfl ?_
      refine aj_getf 22 fl_Machine_22 (dx d_Machine_fitTo 13 rfl) rfl hm1.1 ?_
      refine aj_icmp_lt 36 25 (dx d_Machine_fitTo 14 rfl) rfl rfl (by unfold aj_I; omega) (by rw [hr3]; exact hst) (fun h22 => ?_) (fun h22 => ?_)
      · rw [hr3] at h22
        refine aj_aload_n 0 37 (dx d_Machine_fitTo 22 rfl) rfl rfl rfl ?_
        refine aj_iload_n 2 38 (dx d_Machine_fitTo 23 rfl) rfl rfl rfl ?_
        refine aj_iload_n 3 39 (dx d_Machine_fitTo 24 rfl) rfl rfl rfl ?_
        refine aj_callV2 42 cl_Machine_46 (dx d_Machine_fitTo 25 rfl) rfl rfl rfl rfl rfl rfl hm1.1 (k_Machine_next hm1 (by rw [hr0]; exact hx0) (by rw [hr0]; exact hx1) ?_)
        change aj_wp _ _ _ _ _ _ _ _ _ _ _ _ _ _
        rw [hr0]
        refine aj_iload_n 1 43 (dx d_Machine_fitTo 26 rfl) rfl rfl rfl ?_
        refine aj_icmp_lt 59 46 (dx d_Machine_fitTo 27 rfl) rfl rfl (by rw [hat.1]; exact hv s i h0 (by omega) hi0 (by omega)) (by unfold aj_I; omega) (fun h43 => ?_) (fun h43 => ?_)
        · rw [hat.1] at h43
          refine aj_iinc 3 62 (dx d_Machine_fitTo 37 rfl) rfl rfl rfl ?_
          simp only [List.set]
          refine aj_goto 9 (dx d_Machine_fitTo 38 rfl) rfl ?_
          first
          | exact ih _ (by omega) (i + 1) _ (by omega) (by omega) rfl (fit_step hk3 hI hi0 h14 (by unfold fit_n; rw [if_pos h22]) (by unfold fit_o; rw [if_pos h22]))
          | exact ih _ (by omega) (i + 1) _ (by omega) (by omega) rfl (fit_skip hI (by unfold fit_n; rw [if_neg (by omega), if_neg (by omega)]) (by unfold fit_o; rw [if_neg (by omega)]))
          | exact ih _ (by omega) (i + 1) _ (by omega) (by omega) rfl (fit_step hk3 hI hi0 h14 (by unfold fit_n; rw [if_neg (by omega), if_pos h43]) (by unfold fit_o; rw [if_neg (by omega), hat.2]))
        · rw [hat.1] at h43
          refine aj_aload_n 0 47 (dx d_Machine_fitTo 28 rfl) rfl rfl rfl ?_
          refine aj_iload_n 2 48 (dx d_Machine_fitTo 29 rfl) rfl rfl rfl ?_
          refine aj_iload_n 3 49 (dx d_Machine_fitTo 30 rfl) rfl rfl rfl ?_
          refine aj_iconst 50 (dx d_Machine_fitTo 31 rfl) rfl ?_
          refine aj_aload_n 0 51 (dx d_Machine_fitTo 32 rfl) rfl rfl rfl ?_
          refine aj_iload_n 2 52 (dx d_Machine_fitTo 33 rfl) rfl rfl rfl ?_
          refine aj_iload_n 3 53 (dx d_Machine_fitTo 34 rfl) rfl rfl rfl ?_
          refine aj_callV2 56 cl_Machine_50 (dx d_Machine_fitTo 35 rfl) rfl rfl rfl rfl rfl rfl hm1.1 (k_Machine_output hm1 (by rw [hr0]; exact hx0) (by rw [hr0]; exact hx1) ?_)
          change aj_wp _ _ _ _ _ _ _ _ _ _ _ _ _ _
          rw [hr0]
          refine aj_callV4 59 cl_Machine_42 (dx d_Machine_fitTo 36 rfl) rfl rfl rfl rfl rfl rfl hm1.1 (k_Machine_set hm1 (by rw [hr0]; exact hx0) (by rw [hr0]; exact hx1) ?_)
          change aj_wp _ _ _ _ _ _ _ _ _ _ _ _ _ _
          rw [hr0]
          refine aj_iinc 3 62 (dx d_Machine_fitTo 37 rfl) rfl rfl rfl ?_
          simp only [List.set]
          refine aj_goto 9 (dx d_Machine_fitTo 38 rfl) rfl ?_
          first
          | exact ih _ (by omega) (i + 1) _ (by omega) (by omega) rfl (fit_step hk3 hI hi0 h14 (by unfold fit_n; rw [if_pos h22]) (by unfold fit_o; rw [if_pos h22]))
          | exact ih _ (by omega) (i + 1) _ (by omega) (by omega) rfl (fit_skip hI (by unfold fit_n; rw [if_neg (by omega), if_neg (by omega)]) (by unfold fit_o; rw [if_neg (by omega)]))
          | exact ih _ (by omega) (i + 1) _ (by omega) (by omega) rfl (fit_step hk3 hI hi0 h14 (by unfold fit_n; rw [if_neg (by omega), if_pos h43]) (by unfold fit_o; rw [if_neg (by omega), hat.2]))
      · rw [hr3] at h22
        refine aj_aload_n 0 26 (dx d_Machine_fitTo 15 rfl) rfl rfl rfl ?_
        refine aj_iload_n 2 27 (dx d_Machine_fitTo 16 rfl) rfl rfl rfl ?_
        refine aj_iload_n 3 28 (dx d_Machine_fitTo 17 rfl) rfl rfl rfl ?_
        refine aj_iload_n 2 29 (dx d_Machine_fitTo 18 rfl) rfl rfl rfl ?_
        refine aj_iconst 30 (dx d_Machine_fitTo 19 rfl) rfl ?_
        refine aj_callV4 33 cl_Machine_42 (dx d_Machine_fitTo 20 rfl) rfl rfl rfl rfl rfl rfl hm1.1 (k_Machine_set hm1 (by rw [hr0]; exact hx0) (by rw [hr0]; exact hx1) ?_)
        change aj_wp _ _ _ _ _ _ _ _ _ _ _ _ _ _
        rw [hr0]
        refine aj_goto 59 (dx d_Machine_fitTo 21 rfl) rfl ?_
        refine aj_iinc 3 62 (dx d_Machine_fitTo 37 rfl) rfl rfl rfl ?_
        simp only [List.set]
        refine aj_goto 9 (dx d_Machine_fitTo 38 rfl) rfl ?_
        first
        | exact ih _ (by omega) (i + 1) _ (by omega) (by omega) rfl (fit_step hk3 hI hi0 h14 (by unfold fit_n; rw [if_pos h22]) (by unfold fit_o; rw [if_pos h22]))
        | exact ih _ (by omega) (i + 1) _ (by omega) (by omega) rfl (fit_skip hI (by unfold fit_n; rw [if_neg (by omega), if_neg (by omega)]) (by unfold fit_o; rw [if_neg (by omega)]))
        | exact ih _ (by omega) (i + 1) _ (by omega) (by omega) rfl (fit_step hk3 hI hi0 h14 (by unfold fit_n; rw [if_neg (by omega), if_pos h43]) (by unfold fit_o; rw [if_neg (by omega), hat.2]))
set_option maxHeartbeats 4000000 in
theorem k_fitTo_out {al : Prop} {X : Option (Nat × (Int → Int))} {d : Nat} {sh : List aj_S} {g : aj_G} {Q : aj_R → List aj_S → aj_G → Prop} {r n k : Int} {L : Nat} (hm : mcs sh g r L) (hg0 : g r 0 = k) (hk3 : k = 1 ∨ k = 2 ∨ k = 3) (hn0 : 0 ≤ n) (hnL : n * k ≤ L) (hn9 : n ≤ 1000) (hst : aj_I (g r 3)) (hv : ∀ s i, 0 ≤ s → s < g r 3 → 0 ≤ i → i < k → aj_I (g (r + 1) (s * k + i)))
    (hk : ∀ g1, fit_I g g1 r n k n 0 → Q (.inl none) sh (aj_up g1 r 3 n)) : ∀ (m : Nat) (s : Int) (g1 : aj_G), 0 ≤ s → s ≤ n → (n - s).toNat = m → fit_I g g1 r n k s 0 →
    aj_wp nE al al X m_Machine_fitTo (d + 1) 0 0 2 [some (1, r), some (0, n), some (0, s), none] [] sh g1 Q := by
  intro m
  induction m using Nat.strongRecOn with
  | ind m ih =>
    intro s g1 h0 h1 hmm hI
    refine aj_iload_n 2 3 (dx d_Machine_fitTo 2 rfl) rfl rfl rfl ?_
    refine aj_iload_n 1 4 (dx d_Machine_fitTo 3 rfl) rfl rfl rfl ?_
    refine aj_icmp_ge 71 7 (dx d_Machine_fitTo 4 rfl) rfl rfl (by unfold aj_I; omega) (by unfold aj_I; omega) (fun h4 => ?_) (fun h4 => ?_)
    · have hr := hI.1 r (by omega) (by omega)
      refine aj_aload_n 0 72 (dx d_Machine_fitTo 41 rfl) rfl rfl rfl ?_
      refine aj_iload_n 1 73 (dx d_Machine_fitTo 42 rfl) rfl rfl rfl ?_
      refine aj_putf 76 (pl_Machine_22 _) (dx d_Machine_fitTo 43 rfl) rfl (mcs_of hm hr).1 (aj_fitI _) ?_
      refine aj_vret (dx d_Machine_fitTo 44 rfl) rfl id ?_
      exact hk g1 (by have e : s = n := by omega
                      subst e; exact hI)
    · refine aj_iconst 8 (dx d_Machine_fitTo 5 rfl) rfl ?_
      refine aj_istore_n 3 9 (dx d_Machine_fitTo 6 rfl) rfl rfl rfl ?_
      simp only [List.set]
      exact k_fitTo_in hm hg0 hk3 hn0 hnL hn9 hst hv h0 h4 (fun g2 hI2 => ih _ (by omega) (s + 1) g2 (by omega) (by omega) rfl hI2) _ 0 g1 (by omega) (by omega) rfl hI
set_option maxHeartbeats 4000000 in
theorem k_Machine_fitTo {al : Prop} {X : Option (Nat × (Int → Int))} {d : Nat} {sh : List aj_S} {g : aj_G} {Q : aj_R → List aj_S → aj_G → Prop} {r n k : Int} {L : Nat} (hm : mcs sh g r L) (hg0 : g r 0 = k) (hk3 : k = 1 ∨ k = 2 ∨ k = 3) (hn0 : 0 ≤ n) (hnL : n * k ≤ L) (hn9 : n ≤ 1000) (hst : aj_I (g r 3)) (hv : ∀ s i, 0 ≤ s → s < g r 3 → 0 ≤ i → i < k → aj_I (g (r + 1) (s * k + i)))
    (hk : ∀ g1, fit_I g g1 r n k n 0 → Q (.inl none) sh (aj_up g1 r 3 n)) : aj_wp nE al al X m_Machine_fitTo (d + 1) 0 0 0 [some (1, r), some (0, n), none, none] [] sh g Q := by
  refine aj_iconst 1 (dx d_Machine_fitTo 0 rfl) rfl ?_
  refine aj_istore_n 2 2 (dx d_Machine_fitTo 1 rfl) rfl rfl rfl ?_
  simp only [List.set]
  exact k_fitTo_out hm hg0 hk3 hn0 hnL hn9 hst hv hk _ 0 g (by omega) hn0 rfl fit_0
end
section
/-! reading behind writing; Word, Machine.copy, Machine.tellsApart -/
theorem aj_up_app (g : aj_G) (r i x r' : Int) : aj_up g r i x r' = if r' = r then (fun i' => if i' = i then x else g r i') else g r' := rfl
theorem aj_cpy_app (g : aj_G) (r0 r1 sp dp n r : Int) : aj_cpy g r0 r1 sp dp n r = if r = r1 then (fun i => if dp ≤ i ∧ i < dp + n then g r0 (sp + (i - dp)) else g r1 i) else g r := rfl
theorem ne_1 (r a b : Int) : (r + a = r + b) = (a = b) := propext (by omega)
theorem ne_2 (r b : Int) : (r = r + b) = (0 = b) := propext (by omega)
theorem ne_3 (r a : Int) : (r + a = r) = (a = 0) := propext (by omega)
def wds (sh : List aj_S) (g : aj_G) (r : Int) : Prop := aj_sh sh r = some (.inr 1) ∧ g r 0 = r + 1 ∧ aj_sh sh (r + 1) = some (.inl (0, 100))
theorem cp_Word_19 : Cond.methodLink "TestBench$Word" 19 arraycopyName ∈ nE.2.2.2.1 ∧ Cond.native arraycopyName ∈ nE.2.2.2.1 ∧ Cond.static arraycopyName ∈ nE.2.2.2.1 ∧ Cond.initialized "java/lang/System" ∈ nE.2.2.2.1 := ⟨nm_at 600 (by decide +kernel) rfl, nm_at 602 (by decide +kernel) rfl, nm_at 601 (by decide +kernel) rfl, nm_at 56 (by decide +kernel) rfl⟩
theorem cp_Machine_36 : Cond.methodLink "TestBench$Machine" 36 arraycopyName ∈ nE.2.2.2.1 ∧ Cond.native arraycopyName ∈ nE.2.2.2.1 ∧ Cond.static arraycopyName ∈ nE.2.2.2.1 ∧ Cond.initialized "java/lang/System" ∈ nE.2.2.2.1 := ⟨nm_at 615 (by decide +kernel) rfl, nm_at 602 (by decide +kernel) rfl, nm_at 601 (by decide +kernel) rfl, nm_at 56 (by decide +kernel) rfl⟩
set_option maxHeartbeats 4000000 in
theorem k_Word_at {al : Prop} {X : Option (Nat × (Int → Int))} {d : Nat} {sh : List aj_S} {g : aj_G} {Q : aj_R → List aj_S → aj_G → Prop} {r i : Int}
    (hw : wds sh g r) (hx : aj_I i) (hl0 : 0 ≤ g r 1) (hl1 : g r 1 ≤ 100) (hk : Q (.inl (some (0, if 0 ≤ i ∧ i < g r 1 then g (r + 1) i else -1))) sh g) : aj_wp nE al al X m_Word_at (d) 0 0 0 [some (1, r), some (0, i)] [] sh g Q := by
  refine aj_iload_n 1 1 (dx d_Word_at 0 rfl) rfl rfl rfl ?_
  refine aj_if_lt 21 4 (dx d_Word_at 1 rfl) rfl rfl hx (fun h1 => ?_) (fun h1 => ?_)
  · refine aj_iconst 22 (dx d_Word_at 11 rfl) rfl ?_
    refine aj_iret (dx d_Word_at 12 rfl) rfl id ?_
    first | (rw [if_pos (by omega)] at hk; exact hk) | (rw [if_neg (by omega)] at hk; exact hk)
  · refine aj_iload_n 1 5 (dx d_Word_at 2 rfl) rfl rfl rfl ?_
    refine aj_aload_n 0 6 (dx d_Word_at 3 rfl) rfl rfl rfl ?_
    refine aj_getf 9 fl_Word_15 (dx d_Word_at 4 rfl) rfl hw.1 ?_
    refine aj_icmp_ge 21 12 (dx d_Word_at 5 rfl) rfl rfl hx (by unfold aj_I; omega) (fun h9 => ?_) (fun h9 => ?_)
    · refine aj_iconst 22 (dx d_Word_at 11 rfl) rfl ?_
      refine aj_iret (dx d_Word_at 12 rfl) rfl id ?_
      first | (rw [if_pos (by omega)] at hk; exact hk) | (rw [if_neg (by omega)] at hk; exact hk)
    · refine aj_aload_n 0 13 (dx d_Word_at 6 rfl) rfl rfl rfl ?_
      refine aj_getf 16 fl_Word_9 (dx d_Word_at 7 rfl) rfl hw.1 ?_
      rw [hw.2.1]
      refine aj_iload_n 1 17 (dx d_Word_at 8 rfl) rfl rfl rfl ?_
      refine aj_iald 18 (dx d_Word_at 9 rfl) rfl hw.2.2 rfl (by omega) (by omega) ?_
      refine aj_goto 22 (dx d_Word_at 10 rfl) rfl ?_
      refine aj_iret (dx d_Word_at 12 rfl) rfl id ?_
      first | (rw [if_pos (by omega)] at hk; exact hk) | (rw [if_neg (by omega)] at hk; exact hk)

set_option maxHeartbeats 4000000 in
theorem k_Word_copy {al : Prop} {X : Option (Nat × (Int → Int))} {d : Nat} {sh : List aj_S} {g : aj_G} {Q : aj_R → List aj_S → aj_G → Prop} {r r2 : Int}
    (hal : ¬ al) (hw : wds sh g r) (hw2 : wds sh g r2) (hne : r2 ≠ r) (hl0 : 0 ≤ g r2 1) (hl1 : g r2 1 ≤ 100) (hk : Q (.inl none) sh (aj_cpy (aj_up g r 1 (g r2 1)) (r2 + 1) (r + 1) 0 0 (g r2 1))) : aj_wp nE al al X m_Word_copy (d + 1) 0 0 0 [some (1, r), some (1, r2)] [] sh g Q := by
  refine aj_aload_n 0 1 (dx d_Word_copy 0 rfl) rfl rfl rfl ?_
  refine aj_aload_n 1 2 (dx d_Word_copy 1 rfl) rfl rfl rfl ?_
  refine aj_getf 5 fl_Word_15 (dx d_Word_copy 2 rfl) rfl hw2.1 ?_
  refine aj_putf 8 (pl_Word_15 _) (dx d_Word_copy 3 rfl) rfl hw.1 (aj_fitI _) ?_
  refine aj_aload_n 1 9 (dx d_Word_copy 4 rfl) rfl rfl rfl ?_
  refine aj_getf 12 fl_Word_9 (dx d_Word_copy 5 rfl) rfl hw2.1 ?_
  rw [aj_up_ne _ _ _ hne, hw2.2.1]
  refine aj_iconst 13 (dx d_Word_copy 6 rfl) rfl ?_
  refine aj_aload_n 0 14 (dx d_Word_copy 7 rfl) rfl rfl rfl ?_
  refine aj_getf 17 fl_Word_9 (dx d_Word_copy 8 rfl) rfl hw.1 ?_
  rw [aj_up_ni _ _ _ (show (0 : Int) ≠ 1 by omega), hw.2.1]
  refine aj_iconst 18 (dx d_Word_copy 9 rfl) rfl ?_
  refine aj_aload_n 0 19 (dx d_Word_copy 10 rfl) rfl rfl rfl ?_
  refine aj_getf 22 fl_Word_15 (dx d_Word_copy 11 rfl) rfl hw.1 ?_
  rw [aj_up_self]
  refine aj_copyi 25 cp_Word_19 (dx d_Word_copy 12 rfl) rfl hal hw2.2.2 hw.2.2 rfl (by omega) (by omega) hl0 (by omega) (by omega) (by omega) rfl ?_
  refine aj_vret (dx d_Word_copy 13 rfl) rfl id ?_
  exact hk

set_option maxHeartbeats 4000000 in
theorem k_Machine_copy {al : Prop} {X : Option (Nat × (Int → Int))} {d : Nat} {sh : List aj_S} {g : aj_G} {Q : aj_R → List aj_S → aj_G → Prop} {r r2 : Int} {L L2 : Nat}
    (hal : ¬ al) (hm : mcs sh g r L) (hm2 : mcs sh g r2 L2) (hne : r2 ≠ r) (ha1 : r2 ≠ r + 1) (ha2 : r ≠ r2 + 1) (h0 : 0 ≤ g r2 3 * g r 0) (h1 : g r2 3 * g r 0 ≤ L) (h2 : g r2 3 * g r 0 ≤ L2) (hk : Q (.inl none) sh (aj_cpy (aj_cpy (aj_up g r 3 (g r2 3)) (r2 + 1) (r + 1) 0 0 (g r2 3 * g r 0)) (r2 + 2) (r + 2) 0 0 (g r2 3 * g r 0))) : aj_wp nE al al X m_Machine_copy (d + 1) 0 0 0 [some (1, r), some (1, r2)] [] sh g Q := by
  refine aj_aload_n 0 1 (dx d_Machine_copy 0 rfl) rfl rfl rfl ?_
  refine aj_aload_n 1 2 (dx d_Machine_copy 1 rfl) rfl rfl rfl ?_
  refine aj_getf 5 fl_Machine_22 (dx d_Machine_copy 2 rfl) rfl hm2.1 ?_
  refine aj_putf 8 (pl_Machine_22 _) (dx d_Machine_copy 3 rfl) rfl hm.1 (aj_fitI _) ?_
  refine aj_aload_n 1 9 (dx d_Machine_copy 4 rfl) rfl rfl rfl ?_
  refine aj_getf 12 fl_Machine_15 (dx d_Machine_copy 5 rfl) rfl hm2.1 ?_
  rw [aj_up_ne _ _ _ hne, hm2.2.1]
  refine aj_iconst 13 (dx d_Machine_copy 6 rfl) rfl ?_
  refine aj_aload_n 0 14 (dx d_Machine_copy 7 rfl) rfl rfl rfl ?_
  refine aj_getf 17 fl_Machine_15 (dx d_Machine_copy 8 rfl) rfl hm.1 ?_
  rw [aj_up_ni _ _ _ (show (1 : Int) ≠ 3 by omega), hm.2.1]
  refine aj_iconst 18 (dx d_Machine_copy 9 rfl) rfl ?_
  refine aj_aload_n 0 19 (dx d_Machine_copy 10 rfl) rfl rfl rfl ?_
  refine aj_getf 22 fl_Machine_22 (dx d_Machine_copy 11 rfl) rfl hm.1 ?_
  rw [aj_up_self]
  refine aj_aload_n 0 23 (dx d_Machine_copy 12 rfl) rfl rfl rfl ?_
  refine aj_getf 26 fl_Machine_9 (dx d_Machine_copy 13 rfl) rfl hm.1 ?_
  rw [aj_up_ni _ _ _ (show (0 : Int) ≠ 3 by omega)]
  refine aj_imul 27 (dx d_Machine_copy 14 rfl) rfl ?_
  refine aj_copyi 30 cp_Machine_36 (dx d_Machine_copy 15 rfl) rfl hal hm2.2.2.2.1 hm.2.2.2.1 rfl (by omega) (by omega) h0 (by omega) (by omega) (by omega) rfl ?_
  refine aj_aload_n 1 31 (dx d_Machine_copy 16 rfl) rfl rfl rfl ?_
  refine aj_getf 34 fl_Machine_19 (dx d_Machine_copy 17 rfl) rfl hm2.1 ?_
  rw [aj_cpy_ne _ _ _ _ _ ha1, aj_up_ne _ _ _ hne, hm2.2.2.1]
  refine aj_iconst 35 (dx d_Machine_copy 18 rfl) rfl ?_
  refine aj_aload_n 0 36 (dx d_Machine_copy 19 rfl) rfl rfl rfl ?_
  refine aj_getf 39 fl_Machine_19 (dx d_Machine_copy 20 rfl) rfl hm.1 ?_
  rw [aj_cpy_ne _ _ _ _ _ (show r ≠ r + 1 by omega), aj_up_ni _ _ _ (show (2 : Int) ≠ 3 by omega), hm.2.2.1]
  refine aj_iconst 40 (dx d_Machine_copy 21 rfl) rfl ?_
  refine aj_aload_n 0 41 (dx d_Machine_copy 22 rfl) rfl rfl rfl ?_
  refine aj_getf 44 fl_Machine_22 (dx d_Machine_copy 23 rfl) rfl hm.1 ?_
  rw [aj_cpy_ne _ _ _ _ _ (show r ≠ r + 1 by omega), aj_up_self]
  refine aj_aload_n 0 45 (dx d_Machine_copy 24 rfl) rfl rfl rfl ?_
  refine aj_getf 48 fl_Machine_9 (dx d_Machine_copy 25 rfl) rfl hm.1 ?_
  rw [aj_cpy_ne _ _ _ _ _ (show r ≠ r + 1 by omega), aj_up_ni _ _ _ (show (0 : Int) ≠ 3 by omega)]
  refine aj_imul 49 (dx d_Machine_copy 26 rfl) rfl ?_
  refine aj_copyi 52 cp_Machine_36 (dx d_Machine_copy 27 rfl) rfl hal hm2.2.2.2.2 hm.2.2.2.2 rfl (by omega) (by omega) h0 (by omega) (by omega) (by omega) rfl ?_
  refine aj_vret (dx d_Machine_copy 28 rfl) rfl id ?_
  exact hk

/-- a Machine with its tables -/
def mcm (sh : List aj_S) (g : aj_G) (r : Int) (L k n : Nat) (nx ou : Nat → Nat → Nat) : Prop := mcs sh g r L ∧ g r 0 = k ∧ g r 3 = n ∧ (n : Int) * k ≤ L ∧ ((k : Int) = 1 ∨ (k : Int) = 2 ∨ (k : Int) = 3) ∧ n ≤ 10 ∧
  ∀ x i : Nat, x < n → i < k → g (r + 1) ((x : Int) * k + i) = nx x i ∧ g (r + 2) ((x : Int) * k + i) = ou x i ∧ nx x i < n ∧ ou x i < 4
section SM
variable {al : Prop} {X : Option (Nat × (Int → Int))} {d : Nat} {sh : List aj_S} {g : aj_G} {Q : aj_R → List aj_S → aj_G → Prop} {r : Int} {L k n x i : Nat} {nx ou : Nat → Nat → Nat}
theorem mcm_lo (hm : mcm sh g r L k n nx ou) : 0 ≤ (x : Int) * g r 0 + i := by
  rw [hm.2.1]
  exact ix_0 hm.2.2.2.2.1 (by omega) (by omega)
theorem mcm_hi (hm : mcm sh g r L k n nx ou) (hx : x < n) (hi : i < k) : (x : Int) * g r 0 + i < L := by
  rw [hm.2.1]
  have h1 := ix_in (s := x) (i := i) (n := n) hm.2.2.2.2.1 (by omega) (by omega)
  have h2 := hm.2.2.2.1
  omega
theorem s_next (hm : mcm sh g r L k n nx ou) (hx : x < n) (hi : i < k) (hk : Q (.inl (some (0, (nx x i : Int)))) sh g) : aj_wp nE al al X m_Machine_next d 0 0 0 [some (1, r), some (0, (x : Int)), some (0, (i : Int))] [] sh g Q :=
  k_Machine_next hm.1 (mcm_lo hm) (mcm_hi hm hx hi) (by rw [hm.2.1, (hm.2.2.2.2.2.2 x i hx hi).1]; exact hk)
theorem s_output (hm : mcm sh g r L k n nx ou) (hx : x < n) (hi : i < k) (hk : Q (.inl (some (0, (ou x i : Int)))) sh g) : aj_wp nE al al X m_Machine_output d 0 0 0 [some (1, r), some (0, (x : Int)), some (0, (i : Int))] [] sh g Q :=
  k_Machine_output hm.1 (mcm_lo hm) (mcm_hi hm hx hi) (by rw [hm.2.1, (hm.2.2.2.2.2.2 x i hx hi).2.1]; exact hk)
end SM
/-- a Word at r holds the letters of w (its last letter first) -/
def wat (g : aj_G) (r : Int) (w : List Nat) : Prop := g r 1 = w.length ∧ ∀ (j : Nat) (h : j < w.length), g (r + 1) ((w.length : Int) - 1 - j) = (w[j] : Nat)
theorem rn_lt {nx : Nat → Nat → Nat} {n k : Nat} (hc : ∀ s i, s < n → i < k → nx s i < n) {s : Nat} (hs : s < n) : ∀ w, wd_ok k w → rn nx s w < n
  | [], _ => hs
  | i :: w, hw => hc _ _ (rn_lt hc hs w (wd_ok_cons.mp hw).2) (wd_ok_cons.mp hw).1
theorem tl_drop {nx ou : Nat → Nat → Nat} {s t : Nat} : ∀ {w : List Nat} {j : Nat}, tl nx ou s t (w.drop j) → tl nx ou s t w
  | [], j, h => by rw [List.drop_nil] at h; exact h
  | i :: w, 0, h => h
  | i :: w, j + 1, h => Or.inl (tl_drop (w := w) (j := j) h)
set_option maxHeartbeats 4000000 in
theorem k_tells_loop {al : Prop} {X : Option (Nat × (Int → Int))} {d : Nat} {sh : List aj_S} {g : aj_G} {Q : aj_R → List aj_S → aj_G → Prop} {r rw_ : Int} {L k n s t : Nat} {nx ou : Nat → Nat → Nat} {w : List Nat} (hm : mcm sh g r L k n nx ou) (hw : wds sh g rw_) (ha : wat g rw_ w) (hok : wd_ok k w) (hlen : w.length ≤ 100) (hs : s < n) (ht : t < n) (hk1 : tl nx ou s t w → Q (.inl (some (0, 1))) sh g) (hk0 : ¬ tl nx ou s t w → Q (.inl (some (0, 0))) sh g) : ∀ (m i a b : Nat), i ≤ w.length → w.length - i = m → a < n → b < n → a = rn nx s (w.drop (w.length - i)) → b = rn nx t (w.drop (w.length - i)) → ¬ tl nx ou s t (w.drop (w.length - i)) →
    aj_wp nE al al X m_Machine_tellsApart (d + 1) 0 0 9 [some (1, r), some (1, rw_), some (0, (s : Int)), some (0, (t : Int)), some (0, (a : Int)), some (0, (b : Int)), some (0, (i : Int)), none] [] sh g Q := by
  intro m
  induction m using Nat.strongRecOn with
  | ind m ih =>
    intro i a b hi hmm ha2 hb2 hd1 hd2 hnt
    refine aj_iload 6 11 (dx d_Machine_tellsApart 6 rfl) rfl rfl ?_
    refine aj_aload_n 1 12 (dx d_Machine_tellsApart 7 rfl) rfl rfl rfl ?_
    refine aj_getf 15 fl_Machine_53 (dx d_Machine_tellsApart 8 rfl) rfl hw.1 ?_
    refine aj_icmp_ge 74 18 (dx d_Machine_tellsApart 9 rfl) rfl rfl (by unfold aj_I; omega) (by rw [ha.1]; unfold aj_I; omega) (fun h15 => ?_) (fun h15 => ?_)
    · refine aj_iconst 75 (dx d_Machine_tellsApart 38 rfl) rfl ?_
      refine aj_zret (dx d_Machine_tellsApart 39 rfl) rfl (by omega) id ?_
      rw [ha.1] at h15
      rw [show w.length - i = 0 by omega] at hnt
      exact hk0 hnt
    · rw [ha.1] at h15
      obtain ⟨j, hj⟩ : ∃ j : Nat, w.length = i + 1 + j := ⟨w.length - (i + 1), by omega⟩
      have hjl : j < w.length := by omega
      have hlet : g (rw_ + 1) ((i : Nat) : Int) = (w[j] : Nat) := by
        have := ha.2 j hjl
        rw [show (w.length : Int) - 1 - j = i by omega] at this
        exact this
      have hlk : w[j] < k := hok _ (List.getElem_mem hjl)
      have hdr : w.drop j = w[j] :: w.drop (j + 1) := List.drop_eq_getElem_cons hjl
      have he : w.length - i = j + 1 := by omega
      rw [he] at hd1 hd2 hnt
      have hok2 : wd_ok k (w.drop (j + 1)) := fun a ha => hok a (List.mem_of_mem_drop ha)
      have hc : ∀ s i, s < n → i < k → nx s i < n := fun s i h1 h2 => (hm.2.2.2.2.2.2 s i h1 h2).2.2.1
      have ho1 := (hm.2.2.2.2.2.2 a w[j] ha2 hlk).2.2.2
      have ho2 := (hm.2.2.2.2.2.2 b w[j] hb2 hlk).2.2.2
      have hn10 := hm.2.2.2.2.2.1
      refine aj_aload_n 1 19 (dx d_Machine_tellsApart 10 rfl) rfl rfl rfl ?_
      refine aj_getf 22 fl_Machine_58 (dx d_Machine_tellsApart 11 rfl) rfl hw.1 ?_
      rw [hw.2.1]
      refine aj_iload 6 24 (dx d_Machine_tellsApart 12 rfl) rfl rfl ?_
      refine aj_iald 25 (dx d_Machine_tellsApart 13 rfl) rfl hw.2.2 rfl (by omega) (by omega) ?_
      rw [hlet]
      refine aj_istore 7 27 (dx d_Machine_tellsApart 14 rfl) rfl rfl ?_
      simp only [List.set]
      refine aj_aload_n 0 28 (dx d_Machine_tellsApart 15 rfl) rfl rfl rfl ?_
      refine aj_iload 4 30 (dx d_Machine_tellsApart 16 rfl) rfl rfl ?_
      refine aj_iload 7 32 (dx d_Machine_tellsApart 17 rfl) rfl rfl ?_
      refine aj_callV2 35 cl_Machine_50 (dx d_Machine_tellsApart 18 rfl) rfl rfl rfl rfl rfl rfl hm.1.1 (s_output hm ha2 hlk ?_)
      change aj_wp _ _ _ _ _ _ _ _ _ _ _ _ _ _
      refine aj_aload_n 0 36 (dx d_Machine_tellsApart 19 rfl) rfl rfl rfl ?_
      refine aj_iload 5 38 (dx d_Machine_tellsApart 20 rfl) rfl rfl ?_
      refine aj_iload 7 40 (dx d_Machine_tellsApart 21 rfl) rfl rfl ?_
      refine aj_callV2 43 cl_Machine_50 (dx d_Machine_tellsApart 22 rfl) rfl rfl rfl rfl rfl rfl hm.1.1 (s_output hm hb2 hlk ?_)
      change aj_wp _ _ _ _ _ _ _ _ _ _ _ _ _ _
      refine aj_icmp_eq 48 46 (dx d_Machine_tellsApart 23 rfl) rfl rfl (by unfold aj_I; omega) (by unfold aj_I; omega) (fun h43 => ?_) (fun h43 => ?_)
      · refine aj_aload_n 0 49 (dx d_Machine_tellsApart 26 rfl) rfl rfl rfl ?_
        refine aj_iload 4 51 (dx d_Machine_tellsApart 27 rfl) rfl rfl ?_
        refine aj_iload 7 53 (dx d_Machine_tellsApart 28 rfl) rfl rfl ?_
        refine aj_callV2 56 cl_Machine_46 (dx d_Machine_tellsApart 29 rfl) rfl rfl rfl rfl rfl rfl hm.1.1 (s_next hm ha2 hlk ?_)
        change aj_wp _ _ _ _ _ _ _ _ _ _ _ _ _ _
        refine aj_istore 4 58 (dx d_Machine_tellsApart 30 rfl) rfl rfl ?_
        simp only [List.set]
        refine aj_aload_n 0 59 (dx d_Machine_tellsApart 31 rfl) rfl rfl rfl ?_
        refine aj_iload 5 61 (dx d_Machine_tellsApart 32 rfl) rfl rfl ?_
        refine aj_iload 7 63 (dx d_Machine_tellsApart 33 rfl) rfl rfl ?_
        refine aj_callV2 66 cl_Machine_46 (dx d_Machine_tellsApart 34 rfl) rfl rfl rfl rfl rfl rfl hm.1.1 (s_next hm hb2 hlk ?_)
        change aj_wp _ _ _ _ _ _ _ _ _ _ _ _ _ _
        refine aj_istore 5 68 (dx d_Machine_tellsApart 35 rfl) rfl rfl ?_
        simp only [List.set]
        refine aj_iinc 6 71 (dx d_Machine_tellsApart 36 rfl) rfl rfl rfl ?_
        simp only [List.set]
        refine aj_goto 9 (dx d_Machine_tellsApart 37 rfl) rfl ?_
        refine aj_forget 7 ?_
        simp only [List.set]
        have hih := ih _ (by omega) (i + 1) (nx a w[j]) (nx b w[j]) (by omega) rfl (hc _ _ ha2 hlk) (hc _ _ hb2 hlk) (by rw [show w.length - (i + 1) = j by omega, hdr, hd1]; rfl) (by rw [show w.length - (i + 1) = j by omega, hdr, hd2]; rfl) (by
          rw [show w.length - (i + 1) = j by omega, hdr]
          rintro (z | z)
          · exact hnt z
          · exact z (by rw [← hd1, ← hd2]; omega))
        rw [show ((i : Nat) : Int) + 1 = ((i + 1 : Nat) : Int) by omega]
        exact hih
      · refine aj_iconst 47 (dx d_Machine_tellsApart 24 rfl) rfl ?_
        refine aj_zret (dx d_Machine_tellsApart 25 rfl) rfl (by omega) id ?_
        refine hk1 ?_
        have h2 : tl nx ou s t (w.drop j) := by
          rw [hdr]
          exact Or.inr (fun z => h43 (by rw [hd1, hd2]; exact congrArg _ z))
        exact tl_drop h2
set_option maxHeartbeats 4000000 in
theorem k_Machine_tellsApart {al : Prop} {X : Option (Nat × (Int → Int))} {d : Nat} {sh : List aj_S} {g : aj_G} {Q : aj_R → List aj_S → aj_G → Prop} {r rw_ : Int} {L k n s t : Nat} {nx ou : Nat → Nat → Nat} {w : List Nat} (hm : mcm sh g r L k n nx ou) (hw : wds sh g rw_) (ha : wat g rw_ w) (hok : wd_ok k w) (hlen : w.length ≤ 100) (hs : s < n) (ht : t < n) (hk1 : tl nx ou s t w → Q (.inl (some (0, 1))) sh g) (hk0 : ¬ tl nx ou s t w → Q (.inl (some (0, 0))) sh g) : aj_wp nE al al X m_Machine_tellsApart (d + 1) 0 0 0 [some (1, r), some (1, rw_), some (0, (s : Int)), some (0, (t : Int)), none, none, none, none] [] sh g Q := by
  refine aj_iload_n 2 1 (dx d_Machine_tellsApart 0 rfl) rfl rfl rfl ?_
  refine aj_istore 4 3 (dx d_Machine_tellsApart 1 rfl) rfl rfl ?_
  simp only [List.set]
  refine aj_iload_n 3 4 (dx d_Machine_tellsApart 2 rfl) rfl rfl rfl ?_
  refine aj_istore 5 6 (dx d_Machine_tellsApart 3 rfl) rfl rfl ?_
  simp only [List.set]
  refine aj_iconst 7 (dx d_Machine_tellsApart 4 rfl) rfl ?_
  refine aj_istore 6 9 (dx d_Machine_tellsApart 5 rfl) rfl rfl ?_
  simp only [List.set]
  exact k_tells_loop hm hw ha hok hlen hs ht hk1 hk0 _ 0 s t (Nat.zero_le _) rfl hs ht (by rw [Nat.sub_zero, List.drop_length]; rfl) (by rw [Nat.sub_zero, List.drop_length]; rfl) (by rw [Nat.sub_zero, List.drop_length]; exact fun z => z)
end
section
/-! PairSearch: forget, reach, spell -/
def pss (sh : List aj_S) (g : aj_G) (r : Int) : Prop := aj_sh sh r = some (.inr 2) ∧ (g r 0 = r + 1 ∧ g r 1 = r + 3 ∧ g r 2 = r + 4 ∧ g r 3 = r + 5 ∧ g r 4 = r + 6 ∧ g r 5 = r + 7 ∧ g r 6 = r + 8) ∧ (aj_sh sh (r + 1) = some (.inr 1) ∧ g (r + 1) 0 = r + 2 ∧ aj_sh sh (r + 2) = some (.inl (0, 100))) ∧
  aj_sh sh (r + 3) = some (.inl (0, 100)) ∧ aj_sh sh (r + 4) = some (.inl (0, 100)) ∧ aj_sh sh (r + 5) = some (.inl (0, 100)) ∧ aj_sh sh (r + 6) = some (.inl (0, 100)) ∧ aj_sh sh (r + 7) = some (.inl (0, 100)) ∧ aj_sh sh (r + 8) = some (.inl (1, 100))
theorem pss_of {sh : List aj_S} {g g1 : aj_G} {r : Int} (h : pss sh g r) (e : ∀ j, j ≠ 7 → g1 r j = g r j) (e1 : g1 (r + 1) 0 = g (r + 1) 0) : pss sh g1 r := by
  obtain ⟨h1, ⟨a0, a1, a2, a3, a4, a5, a6⟩, ⟨b1, b2, b3⟩, h4⟩ := h
  exact ⟨h1, ⟨by rw [e _ (by omega)]; exact a0, by rw [e _ (by omega)]; exact a1, by rw [e _ (by omega)]; exact a2, by rw [e _ (by omega)]; exact a3, by rw [e _ (by omega)]; exact a4, by rw [e _ (by omega)]; exact a5, by rw [e _ (by omega)]; exact a6⟩, ⟨b1, by rw [e1]; exact b2, b3⟩, h4⟩
def fg_P (g g1 : aj_G) (r : Int) : Prop := (∀ r', r' ≠ r → r' ≠ r + 1 → r' ≠ r + 8 → g1 r' = g r') ∧ (∀ j, j ≠ 7 → g1 r j = g r j) ∧ g1 r 7 = 0 ∧ (∀ j, j ≠ 1 → g1 (r + 1) j = g (r + 1) j) ∧ g1 (r + 1) 1 = 0
set_option maxHeartbeats 4000000 in
theorem k_forget_loop {al : Prop} {X : Option (Nat × (Int → Int))} {d : Nat} {sh : List aj_S} {g : aj_G} {Q : aj_R → List aj_S → aj_G → Prop} {r : Int} (hp : pss sh g r) (hk : ∀ g1, fg_P g g1 r → (∀ j, 0 ≤ j → j < 100 → g1 (r + 8) j = 0) → Q (.inl none) sh g1) : ∀ (m : Nat) (i : Int) (g1 : aj_G), 0 ≤ i → i ≤ 100 → (100 - i).toNat = m → fg_P g g1 r → (∀ j, 0 ≤ j → j < i → g1 (r + 8) j = 0) →
    aj_wp nE al al X m_Search_forget d 0 0 15 [some (1, r), some (0, i)] [] sh g1 Q := by
  intro m
  induction m using Nat.strongRecOn with
  | ind m ih =>
    intro i g1 i0 i1 hmm hP hz
    have hp1 := pss_of hp hP.2.1 (hP.2.2.2.1 0 (by omega))
    refine aj_iload_n 1 16 (dx d_Search_forget 9 rfl) rfl rfl rfl ?_
    refine aj_bipush 18 (dx d_Search_forget 10 rfl) rfl (by decide +kernel) ?_
    refine aj_icmp_ge 34 21 (dx d_Search_forget 11 rfl) rfl rfl (by unfold aj_I; omega) (by unfold aj_I; omega) (fun h18 => ?_) (fun h18 => ?_)
    · refine aj_vret (dx d_Search_forget 19 rfl) rfl id ?_
      exact hk g1 hP (fun j j0 j1 => hz j j0 (by omega))
    · refine aj_aload_n 0 22 (dx d_Search_forget 12 rfl) rfl rfl rfl ?_
      refine aj_getf 25 fl_Search_34 (dx d_Search_forget 13 rfl) rfl hp1.1 ?_
      rw [hp1.2.1.2.2.2.2.2.2]
      refine aj_iload_n 1 26 (dx d_Search_forget 14 rfl) rfl rfl rfl ?_
      refine aj_iconst 27 (dx d_Search_forget 15 rfl) rfl ?_
      refine aj_zast 28 (dx d_Search_forget 16 rfl) rfl hp1.2.2.2.2.2.2.2.2 rfl (by omega) (by omega) (Or.inl rfl) ?_
      refine aj_iinc 1 31 (dx d_Search_forget 17 rfl) rfl rfl rfl ?_
      simp only [List.set]
      refine aj_goto 15 (dx d_Search_forget 18 rfl) rfl ?_
      exact ih _ (by omega) (i + 1) _ (by omega) (by omega) rfl ⟨fun r' c1 c2 c3 => by rw [aj_up_ne _ _ _ c3]; exact hP.1 r' c1 c2 c3, fun j hj => by rw [aj_up_ne _ _ _ (by omega)]; exact hP.2.1 j hj, by rw [aj_up_ne _ _ _ (by omega)]; exact hP.2.2.1, fun j hj => by rw [aj_up_ne _ _ _ (by omega)]; exact hP.2.2.2.1 j hj, by rw [aj_up_ne _ _ _ (by omega)]; exact hP.2.2.2.2⟩ (fun j j0 j1 => by
        rw [aj_up_at]
        by_cases e : j = i
        · rw [if_pos ⟨rfl, e⟩]
        · rw [if_neg (fun z => e z.2)]
          exact hz j j0 (by omega))
set_option maxHeartbeats 4000000 in
theorem k_Search_forget {al : Prop} {X : Option (Nat × (Int → Int))} {d : Nat} {sh : List aj_S} {g : aj_G} {Q : aj_R → List aj_S → aj_G → Prop} {r : Int} (hp : pss sh g r) (hk : ∀ g1, fg_P g g1 r → (∀ j, 0 ≤ j → j < 100 → g1 (r + 8) j = 0) → Q (.inl none) sh g1) : aj_wp nE al al X m_Search_forget d 0 0 0 [some (1, r), none] [] sh g Q := by
  refine aj_aload_n 0 1 (dx d_Search_forget 0 rfl) rfl rfl rfl ?_
  refine aj_iconst 2 (dx d_Search_forget 1 rfl) rfl ?_
  refine aj_putf 5 (pl_Search_38 _) (dx d_Search_forget 2 rfl) rfl hp.1 (aj_fitI _) ?_
  refine aj_aload_n 0 6 (dx d_Search_forget 3 rfl) rfl rfl rfl ?_
  refine aj_getf 9 fl_Search_12 (dx d_Search_forget 4 rfl) rfl hp.1 ?_
  rw [aj_up_ni _ _ _ (show (0 : Int) ≠ 7 by omega), hp.2.1.1]
  refine aj_iconst 10 (dx d_Search_forget 5 rfl) rfl ?_
  refine aj_putf 13 (pl_Search_65 _) (dx d_Search_forget 6 rfl) rfl hp.2.2.1.1 (aj_fitI _) ?_
  refine aj_iconst 14 (dx d_Search_forget 7 rfl) rfl ?_
  refine aj_istore_n 1 15 (dx d_Search_forget 8 rfl) rfl rfl rfl ?_
  simp only [List.set]
  refine k_forget_loop hp hk _ 0 _ (by omega) (by omega) rfl ⟨fun r' c1 c2 c3 => ?_, fun j hj => ?_, ?_, fun j hj => ?_, ?_⟩ (fun j j0 j1 => by omega)
  · rw [aj_up_ne _ _ _ c2, aj_up_ne _ _ _ c1]
  · rw [aj_up_ne _ _ _ (by omega), aj_up_ni _ _ _ hj]
  · rw [aj_up_ne _ _ _ (by omega), aj_up_self]
  · rw [aj_up_ni _ _ _ hj, aj_up_ne _ _ _ (by omega)]
  · rw [aj_up_self]
def rc_g (g : aj_G) (r s t b i : Int) : aj_G := aj_up (aj_up (aj_up (aj_up (aj_up (aj_up (aj_up g (r + 8) (s * 10 + t) 1) (r + 3) (g r 7) s) (r + 4) (g r 7) t) (r + 5) (g r 7) b) (r + 6) (g r 7) i) (r + 7) (g r 7) (if b = -1 then 0 else g (r + 7) b + 1)) r 7 (g r 7 + 1)
set_option maxHeartbeats 4000000 in
theorem k_Search_reach {al : Prop} {X : Option (Nat × (Int → Int))} {d : Nat} {sh : List aj_S} {g : aj_G} {Q : aj_R → List aj_S → aj_G → Prop} {r : Int} {s t b i : Int} (hp : pss sh g r) (h0 : 0 ≤ s * 10 + t) (h1 : s * 10 + t < 100) (hz : aj_I (g (r + 8) (s * 10 + t))) (hc0 : 0 ≤ g r 7) (hc1 : g (r + 8) (s * 10 + t) = 0 → g r 7 < 100) (hb : aj_I b) (hb0 : b ≠ -1 → 0 ≤ b ∧ b < g r 7)
    (hk1 : g (r + 8) (s * 10 + t) ≠ 0 → Q (.inl none) sh g) (hk0 : g (r + 8) (s * 10 + t) = 0 → Q (.inl none) sh (rc_g g r s t b i)) : aj_wp nE al al X m_Search_reach d 0 0 0 [some (1, r), some (0, s), some (0, t), some (0, b), some (0, i), none] [] sh g Q := by
  refine aj_iload_n 1 1 (dx d_Search_reach 0 rfl) rfl rfl rfl ?_
  refine aj_bipush 3 (dx d_Search_reach 1 rfl) rfl (by decide +kernel) ?_
  refine aj_imul 4 (dx d_Search_reach 2 rfl) rfl ?_
  refine aj_iload_n 2 5 (dx d_Search_reach 3 rfl) rfl rfl rfl ?_
  refine aj_iadd 6 (dx d_Search_reach 4 rfl) rfl ?_
  refine aj_istore 5 8 (dx d_Search_reach 5 rfl) rfl rfl ?_
  simp only [List.set]
  refine aj_aload_n 0 9 (dx d_Search_reach 6 rfl) rfl rfl rfl ?_
  refine aj_getf 12 fl_Search_34 (dx d_Search_reach 7 rfl) rfl hp.1 ?_
  rw [hp.2.1.2.2.2.2.2.2]
  refine aj_iload 5 14 (dx d_Search_reach 8 rfl) rfl rfl ?_
  refine aj_zald 15 (dx d_Search_reach 9 rfl) rfl hp.2.2.2.2.2.2.2.2 rfl (by omega) (by omega) ?_
  refine aj_if_eq 19 18 (dx d_Search_reach 10 rfl) rfl rfl hz (fun h15 => ?_) (fun h15 => ?_)
  · have hc2 := hc1 h15
    refine aj_aload_n 0 20 (dx d_Search_reach 12 rfl) rfl rfl rfl ?_
    refine aj_getf 23 fl_Search_34 (dx d_Search_reach 13 rfl) rfl hp.1 ?_
    rw [hp.2.1.2.2.2.2.2.2]
    refine aj_iload 5 25 (dx d_Search_reach 14 rfl) rfl rfl ?_
    refine aj_iconst 26 (dx d_Search_reach 15 rfl) rfl ?_
    refine aj_zast 27 (dx d_Search_reach 16 rfl) rfl hp.2.2.2.2.2.2.2.2 rfl (by omega) (by omega) (Or.inr rfl) ?_
    refine aj_aload_n 0 28 (dx d_Search_reach 17 rfl) rfl rfl rfl ?_
    refine aj_getf 31 fl_Search_18 (dx d_Search_reach 18 rfl) rfl hp.1 ?_
    simp only [aj_up_app, ne_1, ne_2, ne_3, Int.reduceEq, ↓reduceIte]
    rw [hp.2.1.2.1]
    refine aj_aload_n 0 32 (dx d_Search_reach 19 rfl) rfl rfl rfl ?_
    refine aj_getf 35 fl_Search_38 (dx d_Search_reach 20 rfl) rfl hp.1 ?_
    simp only [aj_up_app, ne_1, ne_2, ne_3, Int.reduceEq, ↓reduceIte]
    refine aj_iload_n 1 36 (dx d_Search_reach 21 rfl) rfl rfl rfl ?_
    refine aj_iast 37 (dx d_Search_reach 22 rfl) rfl hp.2.2.2.1 rfl (by omega) (by omega) ?_
    refine aj_aload_n 0 38 (dx d_Search_reach 23 rfl) rfl rfl rfl ?_
    refine aj_getf 41 fl_Search_22 (dx d_Search_reach 24 rfl) rfl hp.1 ?_
    simp only [aj_up_app, ne_1, ne_2, ne_3, Int.reduceEq, ↓reduceIte]
    rw [hp.2.1.2.2.1]
    refine aj_aload_n 0 42 (dx d_Search_reach 25 rfl) rfl rfl rfl ?_
    refine aj_getf 45 fl_Search_38 (dx d_Search_reach 26 rfl) rfl hp.1 ?_
    simp only [aj_up_app, ne_1, ne_2, ne_3, Int.reduceEq, ↓reduceIte]
    refine aj_iload_n 2 46 (dx d_Search_reach 27 rfl) rfl rfl rfl ?_
    refine aj_iast 47 (dx d_Search_reach 28 rfl) rfl hp.2.2.2.2.1 rfl (by omega) (by omega) ?_
    refine aj_aload_n 0 48 (dx d_Search_reach 29 rfl) rfl rfl rfl ?_
    refine aj_getf 51 fl_Search_25 (dx d_Search_reach 30 rfl) rfl hp.1 ?_
    simp only [aj_up_app, ne_1, ne_2, ne_3, Int.reduceEq, ↓reduceIte]
    rw [hp.2.1.2.2.2.1]
    refine aj_aload_n 0 52 (dx d_Search_reach 31 rfl) rfl rfl rfl ?_
    refine aj_getf 55 fl_Search_38 (dx d_Search_reach 32 rfl) rfl hp.1 ?_
    simp only [aj_up_app, ne_1, ne_2, ne_3, Int.reduceEq, ↓reduceIte]
    refine aj_iload_n 3 56 (dx d_Search_reach 33 rfl) rfl rfl rfl ?_
    refine aj_iast 57 (dx d_Search_reach 34 rfl) rfl hp.2.2.2.2.2.1 rfl (by omega) (by omega) ?_
    refine aj_aload_n 0 58 (dx d_Search_reach 35 rfl) rfl rfl rfl ?_
    refine aj_getf 61 fl_Search_28 (dx d_Search_reach 36 rfl) rfl hp.1 ?_
    simp only [aj_up_app, ne_1, ne_2, ne_3, Int.reduceEq, ↓reduceIte]
    rw [hp.2.1.2.2.2.2.1]
    refine aj_aload_n 0 62 (dx d_Search_reach 37 rfl) rfl rfl rfl ?_
    refine aj_getf 65 fl_Search_38 (dx d_Search_reach 38 rfl) rfl hp.1 ?_
    simp only [aj_up_app, ne_1, ne_2, ne_3, Int.reduceEq, ↓reduceIte]
    refine aj_iload 4 67 (dx d_Search_reach 39 rfl) rfl rfl ?_
    refine aj_iast 68 (dx d_Search_reach 40 rfl) rfl hp.2.2.2.2.2.2.1 rfl (by omega) (by omega) ?_
    refine aj_aload_n 0 69 (dx d_Search_reach 41 rfl) rfl rfl rfl ?_
    refine aj_getf 72 fl_Search_31 (dx d_Search_reach 42 rfl) rfl hp.1 ?_
    simp only [aj_up_app, ne_1, ne_2, ne_3, Int.reduceEq, ↓reduceIte]
    rw [hp.2.1.2.2.2.2.2.1]
    refine aj_aload_n 0 73 (dx d_Search_reach 43 rfl) rfl rfl rfl ?_
    refine aj_getf 76 fl_Search_38 (dx d_Search_reach 44 rfl) rfl hp.1 ?_
    simp only [aj_up_app, ne_1, ne_2, ne_3, Int.reduceEq, ↓reduceIte]
    refine aj_iload_n 3 77 (dx d_Search_reach 45 rfl) rfl rfl rfl ?_
    refine aj_iconst 78 (dx d_Search_reach 46 rfl) rfl ?_
    refine aj_icmp_ne 85 81 (dx d_Search_reach 47 rfl) rfl rfl hb (by unfold aj_I; omega) (fun h78 => ?_) (fun h78 => ?_)
    · obtain ⟨hb1, hb2⟩ := hb0 h78
      refine aj_aload_n 0 86 (dx d_Search_reach 50 rfl) rfl rfl rfl ?_
      refine aj_getf 89 fl_Search_31 (dx d_Search_reach 51 rfl) rfl hp.1 ?_
      simp only [aj_up_app, ne_1, ne_2, ne_3, Int.reduceEq, ↓reduceIte]
      rw [hp.2.1.2.2.2.2.2.1]
      refine aj_iload_n 3 90 (dx d_Search_reach 52 rfl) rfl rfl rfl ?_
      refine aj_iald 91 (dx d_Search_reach 53 rfl) rfl hp.2.2.2.2.2.2.2.1 rfl (by omega) (by omega) ?_
      simp only [aj_up_app, ne_1, ne_2, ne_3, Int.reduceEq, ↓reduceIte]
      refine aj_iconst 92 (dx d_Search_reach 54 rfl) rfl ?_
      refine aj_iadd 93 (dx d_Search_reach 55 rfl) rfl ?_
      refine aj_iast 94 (dx d_Search_reach 56 rfl) rfl hp.2.2.2.2.2.2.2.1 rfl (by omega) (by omega) ?_
      refine aj_aload_n 0 95 (dx d_Search_reach 57 rfl) rfl rfl rfl ?_
      refine aj_dup 96 (dx d_Search_reach 58 rfl) rfl rfl ?_
      refine aj_getf 99 fl_Search_38 (dx d_Search_reach 59 rfl) rfl hp.1 ?_
      simp only [aj_up_app, ne_1, ne_2, ne_3, Int.reduceEq, ↓reduceIte]
      refine aj_iconst 100 (dx d_Search_reach 60 rfl) rfl ?_
      refine aj_iadd 101 (dx d_Search_reach 61 rfl) rfl ?_
      refine aj_putf 104 (pl_Search_38 _) (dx d_Search_reach 62 rfl) rfl hp.1 (aj_fitI _) ?_
      refine aj_vret (dx d_Search_reach 63 rfl) rfl id ?_
      have hkk := hk0 h15
      unfold rc_g at hkk
      first
      | (rw [if_pos h78] at hkk; exact hkk)
      | (rw [if_neg h78] at hkk; exact hkk)
    · refine aj_iconst 82 (dx d_Search_reach 48 rfl) rfl ?_
      refine aj_goto 93 (dx d_Search_reach 49 rfl) rfl ?_
      refine aj_iast 94 (dx d_Search_reach 56 rfl) rfl hp.2.2.2.2.2.2.2.1 rfl (by omega) (by omega) ?_
      refine aj_aload_n 0 95 (dx d_Search_reach 57 rfl) rfl rfl rfl ?_
      refine aj_dup 96 (dx d_Search_reach 58 rfl) rfl rfl ?_
      refine aj_getf 99 fl_Search_38 (dx d_Search_reach 59 rfl) rfl hp.1 ?_
      simp only [aj_up_app, ne_1, ne_2, ne_3, Int.reduceEq, ↓reduceIte]
      refine aj_iconst 100 (dx d_Search_reach 60 rfl) rfl ?_
      refine aj_iadd 101 (dx d_Search_reach 61 rfl) rfl ?_
      refine aj_putf 104 (pl_Search_38 _) (dx d_Search_reach 62 rfl) rfl hp.1 (aj_fitI _) ?_
      refine aj_vret (dx d_Search_reach 63 rfl) rfl id ?_
      have hkk := hk0 h15
      unfold rc_g at hkk
      first
      | (rw [if_pos h78] at hkk; exact hkk)
      | (rw [if_neg h78] at hkk; exact hkk)
  · refine aj_vret (dx d_Search_reach 11 rfl) rfl id ?_
    exact hk1 h15
end
section
/-! PairSearch.spell -/
/-- the entries of the search hold words: each is an earlier one with a letter more -/
def bs_E (g : aj_G) (r : Int) (cnt : Nat) (W : Nat → List Nat) : Prop := W 0 = [] ∧ ∀ p : Nat, p < cnt → g (r + 7) p = (W p).length ∧ (W p).length ≤ p ∧ (0 < p → ∃ q a : Nat, q < p ∧ g (r + 5) p = q ∧ g (r + 6) p = a ∧ W p = a :: W q)
theorem bs_E_of {g g1 : aj_G} {r : Int} {cnt : Nat} {W : Nat → List Nat} (h : bs_E g r cnt W) (e5 : g1 (r + 5) = g (r + 5)) (e6 : g1 (r + 6) = g (r + 6)) (e7 : g1 (r + 7) = g (r + 7)) : bs_E g1 r cnt W := by
  unfold bs_E at h ⊢
  rw [e5, e6, e7]
  exact h
def sp_I (g g1 : aj_G) (r : Int) (w : List Nat) (e : Nat) : Prop := (∀ r', r' ≠ r + 1 → r' ≠ r + 2 → g1 r' = g r') ∧ (∀ j, j ≠ 1 → g1 (r + 1) j = g (r + 1) j) ∧ g1 (r + 1) 1 = w.length ∧ ∀ j x : Nat, j ≤ e → w[j]? = some x → g1 (r + 2) ((w.length : Int) - 1 - j) = x
theorem sp_step {g g1 : aj_G} {r : Int} {w : List Nat} {e a : Nat} (h : sp_I g g1 r w e) (ha : w[e + 1]? = some a) : sp_I g (aj_up g1 (r + 2) ((w.length : Int) - 1 - (e + 1 : Nat)) a) r w (e + 1) := by
  refine ⟨fun r' c1 c2 => by rw [aj_up_ne _ _ _ c2]; exact h.1 r' c1 c2, fun j hj => by rw [aj_up_ne _ _ _ (by omega)]; exact h.2.1 j hj, by rw [aj_up_ne _ _ _ (by omega)]; exact h.2.2.1, fun j x hj hx => ?_⟩
  rw [aj_up_at]
  by_cases c : j = e + 1
  · subst c
    rw [if_pos ⟨rfl, rfl⟩]
    rw [ha] at hx
    cases hx
    rfl
  · rw [if_neg (fun z => c (by omega))]
    exact h.2.2.2 j x (by omega) hx
theorem drop_next {l v : List Nat} {e a : Nat} (h : l.drop e = a :: v) : l[e]? = some a ∧ l.drop (e + 1) = v := by
  constructor
  · have := congrArg (fun z => z[0]?) h
    simpa using this
  · rw [← List.drop_drop, h]
    rfl
set_option maxHeartbeats 4000000 in
theorem k_spell_loop {al : Prop} {X : Option (Nat × (Int → Int))} {d : Nat} {sh : List aj_S} {g : aj_G} {Q : aj_R → List aj_S → aj_G → Prop} {r : Int} {cnt last inp : Nat} {W : Nat → List Nat} (hp : pss sh g r) (hE : bs_E g r cnt W) (hc : cnt ≤ 100) (hl : last < cnt) (hk : ∀ g1, sp_I g g1 r (inp :: W last) (W last).length → Q (.inl none) sh g1) : ∀ (q : Nat) (g1 : aj_G), q < cnt → (W q).length ≤ (W last).length → (W last).drop ((W last).length - (W q).length) = W q → sp_I g g1 r (inp :: W last) ((W last).length - (W q).length) →
    aj_wp nE al al X m_Search_spell d 0 0 42 [some (1, r), some (0, (last : Int)), some (0, (inp : Int)), some (0, (q : Int)), some (0, ((W q).length : Int) - 1)] [] sh g1 Q := by
  intro q
  induction q using Nat.strongRecOn with
  | ind q ih =>
    intro g1 hq hlq hdr hI
    have hp1 := pss_of hp (fun j _ => by rw [hI.1 r (by omega) (by omega)]) (hI.2.1 0 (by omega))
    have hE1 := bs_E_of hE (hI.1 _ (by omega) (by omega)) (hI.1 _ (by omega) (by omega)) (hI.1 (r + 7) (by omega) (by omega))
    have hql := (hE.2 q hq).2.1
    refine aj_iload 4 44 (dx d_Search_spell 27 rfl) rfl rfl ?_
    refine aj_if_lt 76 47 (dx d_Search_spell 28 rfl) rfl rfl (by unfold aj_I; omega) (fun h44 => ?_) (fun h44 => ?_)
    · refine aj_vret (dx d_Search_spell 45 rfl) rfl id ?_
      refine hk g1 ?_
      rw [show (W q).length = 0 by omega, Nat.sub_zero] at hI
      exact hI
    · obtain ⟨f1, f2, f3⟩ := hE1.2 q hq
      have hq0 : 0 < q := by
        rcases Nat.eq_zero_or_pos q with z | z
        · rw [z, hE.1] at h44; simp at h44
        · exact z
      obtain ⟨q2, a, hq2, e5, e6, eW⟩ := f3 hq0
      have hlen : (W q).length = (W q2).length + 1 := by rw [eW]; rfl
      obtain ⟨d1, d2⟩ := drop_next (hdr.trans eW)
      have hpos : ((W q).length : Int) - 1 = (((inp :: W last).length : Nat) : Int) - 1 - (((W last).length - (W q).length + 1 : Nat) : Int) := by
        rw [List.length_cons]; omega
      have hst := sp_step (e := (W last).length - (W q).length) (a := a) hI (by rw [List.getElem?_cons_succ]; exact d1)
      rw [← hpos] at hst
      refine aj_aload_n 0 48 (dx d_Search_spell 29 rfl) rfl rfl rfl ?_
      refine aj_getf 51 fl_Search_12 (dx d_Search_spell 30 rfl) rfl hp1.1 ?_
      rw [hp1.2.1.1]
      refine aj_getf 54 fl_Search_68 (dx d_Search_spell 31 rfl) rfl hp1.2.2.1.1 ?_
      rw [hp1.2.2.1.2.1]
      refine aj_iload 4 56 (dx d_Search_spell 32 rfl) rfl rfl ?_
      refine aj_aload_n 0 57 (dx d_Search_spell 33 rfl) rfl rfl rfl ?_
      refine aj_getf 60 fl_Search_28 (dx d_Search_spell 34 rfl) rfl hp1.1 ?_
      rw [hp1.2.1.2.2.2.2.1]
      refine aj_iload_n 3 61 (dx d_Search_spell 35 rfl) rfl rfl rfl ?_
      refine aj_iald 62 (dx d_Search_spell 36 rfl) rfl hp1.2.2.2.2.2.2.1 rfl (by omega) (by omega) ?_
      rw [e6]
      refine aj_iast 63 (dx d_Search_spell 37 rfl) rfl hp1.2.2.1.2.2 rfl (by omega) (by omega) ?_
      refine aj_aload_n 0 64 (dx d_Search_spell 38 rfl) rfl rfl rfl ?_
      refine aj_getf 67 fl_Search_25 (dx d_Search_spell 39 rfl) rfl hp1.1 ?_
      simp only [aj_up_app, ne_1, ne_2, ne_3, Int.reduceEq, ↓reduceIte]
      rw [hp1.2.1.2.2.2.1]
      refine aj_iload_n 3 68 (dx d_Search_spell 40 rfl) rfl rfl rfl ?_
      refine aj_iald 69 (dx d_Search_spell 41 rfl) rfl hp1.2.2.2.2.2.1 rfl (by omega) (by omega) ?_
      simp only [aj_up_app, ne_1, ne_2, ne_3, Int.reduceEq, ↓reduceIte]
      rw [e5]
      refine aj_istore_n 3 70 (dx d_Search_spell 42 rfl) rfl rfl rfl ?_
      simp only [List.set]
      refine aj_iinc 4 73 (dx d_Search_spell 43 rfl) rfl rfl rfl ?_
      simp only [List.set]
      refine aj_goto 42 (dx d_Search_spell 44 rfl) rfl ?_
      have hih := ih q2 hq2 _ (by omega) (by omega) (by rw [show (W last).length - (W q2).length = (W last).length - (W q).length + 1 by omega]; exact d2) (by rw [show (W last).length - (W q2).length = (W last).length - (W q).length + 1 by omega]; exact hst)
      rw [show ((W q).length : Int) - 1 + -1 = ((W q2).length : Int) - 1 by omega]
      exact hih
set_option maxHeartbeats 4000000 in
theorem k_Search_spell {al : Prop} {X : Option (Nat × (Int → Int))} {d : Nat} {sh : List aj_S} {g : aj_G} {Q : aj_R → List aj_S → aj_G → Prop} {r : Int} {cnt last inp : Nat} {W : Nat → List Nat} (hp : pss sh g r) (hE : bs_E g r cnt W) (hc : cnt ≤ 100) (hl : last < cnt) (hk : ∀ g1, sp_I g g1 r (inp :: W last) (W last).length → Q (.inl none) sh g1) : aj_wp nE al al X m_Search_spell d 0 0 0 [some (1, r), some (0, (last : Int)), some (0, (inp : Int)), none, none] [] sh g Q := by
  obtain ⟨f1, f2, f3⟩ := hE.2 last hl
  refine aj_aload_n 0 1 (dx d_Search_spell 0 rfl) rfl rfl rfl ?_
  refine aj_getf 4 fl_Search_12 (dx d_Search_spell 1 rfl) rfl hp.1 ?_
  rw [hp.2.1.1]
  refine aj_aload_n 0 5 (dx d_Search_spell 2 rfl) rfl rfl rfl ?_
  refine aj_getf 8 fl_Search_31 (dx d_Search_spell 3 rfl) rfl hp.1 ?_
  rw [hp.2.1.2.2.2.2.2.1]
  refine aj_iload_n 1 9 (dx d_Search_spell 4 rfl) rfl rfl rfl ?_
  refine aj_iald 10 (dx d_Search_spell 5 rfl) rfl hp.2.2.2.2.2.2.2.1 rfl (by omega) (by omega) ?_
  rw [f1]
  refine aj_iconst 11 (dx d_Search_spell 6 rfl) rfl ?_
  refine aj_iadd 12 (dx d_Search_spell 7 rfl) rfl ?_
  refine aj_putf 15 (pl_Search_65 _) (dx d_Search_spell 8 rfl) rfl hp.2.2.1.1 (aj_fitI _) ?_
  refine aj_aload_n 0 16 (dx d_Search_spell 9 rfl) rfl rfl rfl ?_
  refine aj_getf 19 fl_Search_12 (dx d_Search_spell 10 rfl) rfl hp.1 ?_
  simp only [aj_up_app, ne_1, ne_2, ne_3, Int.reduceEq, ↓reduceIte]
  rw [hp.2.1.1]
  refine aj_getf 22 fl_Search_68 (dx d_Search_spell 11 rfl) rfl hp.2.2.1.1 ?_
  simp only [aj_up_app, ne_1, ne_2, ne_3, Int.reduceEq, ↓reduceIte]
  rw [hp.2.2.1.2.1]
  refine aj_aload_n 0 23 (dx d_Search_spell 12 rfl) rfl rfl rfl ?_
  refine aj_getf 26 fl_Search_31 (dx d_Search_spell 13 rfl) rfl hp.1 ?_
  simp only [aj_up_app, ne_1, ne_2, ne_3, Int.reduceEq, ↓reduceIte]
  rw [hp.2.1.2.2.2.2.2.1]
  refine aj_iload_n 1 27 (dx d_Search_spell 14 rfl) rfl rfl rfl ?_
  refine aj_iald 28 (dx d_Search_spell 15 rfl) rfl hp.2.2.2.2.2.2.2.1 rfl (by omega) (by omega) ?_
  simp only [aj_up_app, ne_1, ne_2, ne_3, Int.reduceEq, ↓reduceIte]
  rw [f1]
  refine aj_iload_n 2 29 (dx d_Search_spell 16 rfl) rfl rfl rfl ?_
  refine aj_iast 30 (dx d_Search_spell 17 rfl) rfl hp.2.2.1.2.2 rfl (by omega) (by omega) ?_
  refine aj_iload_n 1 31 (dx d_Search_spell 18 rfl) rfl rfl rfl ?_
  refine aj_istore_n 3 32 (dx d_Search_spell 19 rfl) rfl rfl rfl ?_
  simp only [List.set]
  refine aj_aload_n 0 33 (dx d_Search_spell 20 rfl) rfl rfl rfl ?_
  refine aj_getf 36 fl_Search_31 (dx d_Search_spell 21 rfl) rfl hp.1 ?_
  simp only [aj_up_app, ne_1, ne_2, ne_3, Int.reduceEq, ↓reduceIte]
  rw [hp.2.1.2.2.2.2.2.1]
  refine aj_iload_n 1 37 (dx d_Search_spell 22 rfl) rfl rfl rfl ?_
  refine aj_iald 38 (dx d_Search_spell 23 rfl) rfl hp.2.2.2.2.2.2.2.1 rfl (by omega) (by omega) ?_
  simp only [aj_up_app, ne_1, ne_2, ne_3, Int.reduceEq, ↓reduceIte]
  rw [f1]
  refine aj_iconst 39 (dx d_Search_spell 24 rfl) rfl ?_
  refine aj_isub 40 (dx d_Search_spell 25 rfl) rfl ?_
  refine aj_istore 4 42 (dx d_Search_spell 26 rfl) rfl rfl ?_
  simp only [List.set]
  refine k_spell_loop hp hE hc hl hk last _ hl (Nat.le_refl _) (by rw [Nat.sub_self]; rfl) ?_
  rw [Nat.sub_self]
  refine ⟨fun r' c1 c2 => by rw [aj_up_ne _ _ _ c2, aj_up_ne _ _ _ c1], fun j hj => by rw [aj_up_ne _ _ _ (by omega), aj_up_ni _ _ _ hj], by rw [aj_up_ne _ _ _ (by omega), aj_up_self, List.length_cons]; omega, fun j x hj hx => ?_⟩
  have : j = 0 := by omega
  subst this
  have hx2 : inp = x := by simpa using hx
  rw [List.length_cons, show (((W last).length + 1 : Nat) : Int) - 1 - (0 : Nat) = ((W last).length : Int) by omega, aj_up_self, hx2]
end
section
/-! PairSearch.find -/
theorem rc_3 (g : aj_G) (r s t b i j : Int) : rc_g g r s t b i (r + 3) j = if j = g r 7 then s else g (r + 3) j := by
  unfold rc_g
  simp only [aj_up_app, ne_1, ne_2, ne_3, Int.reduceEq, ↓reduceIte]
theorem rc_4 (g : aj_G) (r s t b i j : Int) : rc_g g r s t b i (r + 4) j = if j = g r 7 then t else g (r + 4) j := by
  unfold rc_g
  simp only [aj_up_app, ne_1, ne_2, ne_3, Int.reduceEq, ↓reduceIte]
theorem rc_5 (g : aj_G) (r s t b i j : Int) : rc_g g r s t b i (r + 5) j = if j = g r 7 then b else g (r + 5) j := by
  unfold rc_g
  simp only [aj_up_app, ne_1, ne_2, ne_3, Int.reduceEq, ↓reduceIte]
theorem rc_6 (g : aj_G) (r s t b i j : Int) : rc_g g r s t b i (r + 6) j = if j = g r 7 then i else g (r + 6) j := by
  unfold rc_g
  simp only [aj_up_app, ne_1, ne_2, ne_3, Int.reduceEq, ↓reduceIte]
theorem rc_7 (g : aj_G) (r s t b i j : Int) : rc_g g r s t b i (r + 7) j = if j = g r 7 then (if b = -1 then 0 else g (r + 7) b + 1) else g (r + 7) j := by
  unfold rc_g
  simp only [aj_up_app, ne_1, ne_2, ne_3, Int.reduceEq, ↓reduceIte]
theorem rc_8 (g : aj_G) (r s t b i j : Int) : rc_g g r s t b i (r + 8) j = if j = s * 10 + t then 1 else g (r + 8) j := by
  unfold rc_g
  simp only [aj_up_app, ne_1, ne_2, ne_3, Int.reduceEq, ↓reduceIte]
theorem rc_0 (g : aj_G) (r s t b i j : Int) : rc_g g r s t b i r j = if j = 7 then g r 7 + 1 else g r j := by
  unfold rc_g
  simp only [aj_up_app, ne_1, ne_2, ne_3, Int.reduceEq, ↓reduceIte]
theorem rc_x (g : aj_G) (r s t b i : Int) {r' : Int} (h : r' ≠ r) (h3 : r' < r + 3 ∨ r + 8 < r') : rc_g g r s t b i r' = g r' := by
  unfold rc_g
  rw [aj_up_ne _ _ _ h, aj_up_ne _ _ _ (by omega), aj_up_ne _ _ _ (by omega), aj_up_ne _ _ _ (by omega), aj_up_ne _ _ _ (by omega), aj_up_ne _ _ _ (by omega), aj_up_ne _ _ _ (by omega)]
theorem mcm_of {sh : List aj_S} {g g1 : aj_G} {r : Int} {L k n : Nat} {nx ou : Nat → Nat → Nat} (h : mcm sh g r L k n nx ou) (e0 : g1 r = g r) (e1 : g1 (r + 1) = g (r + 1)) (e2 : g1 (r + 2) = g (r + 2)) : mcm sh g1 r L k n nx ou := by
  unfold mcm mcs at h ⊢
  rw [e0, e1, e2]
  exact h
def fd_F (g g1 : aj_G) (r : Int) : Prop := (∀ r', r' < r ∨ r + 8 < r' → g1 r' = g r') ∧ (∀ j, j ≠ 7 → g1 r j = g r j) ∧ ∀ j, j ≠ 1 → g1 (r + 1) j = g (r + 1) j
def bs_I (g g1 : aj_G) (r : Int) (k s t : Nat) (nx ou nx' ou' : Nat → Nat → Nat) (W : Nat → List Nat) (cnt at_ inp : Nat) : Prop :=
  fd_F g g1 r ∧ g1 r 7 = cnt ∧ g1 (r + 1) 1 = 0 ∧ (∀ p : Nat, p < cnt → g1 (r + 3) p = rn nx s (W p) ∧ g1 (r + 4) p = rn nx' t (W p)) ∧ bs_E g1 r cnt W ∧
  (∀ x y : Nat, x < 10 → y < 10 → (g1 (r + 8) ((x : Int) * 10 + y) = 0 ∧ ∀ p, p < cnt → ¬ (rn nx s (W p) = x ∧ rn nx' t (W p) = y)) ∨ (g1 (r + 8) ((x : Int) * 10 + y) = 1 ∧ ∃ p, p < cnt ∧ rn nx s (W p) = x ∧ rn nx' t (W p) = y)) ∧
  (∀ p q, p < cnt → q < cnt → rn nx s (W p) = rn nx s (W q) → rn nx' t (W p) = rn nx' t (W q) → p = q) ∧ bf_I k nx s nx' t W cnt at_ inp ∧
  ∀ p i, p < cnt → bf_done at_ inp p i k → ¬ df nx ou s nx' ou' t (i :: W p)
section BS
variable {g g1 : aj_G} {r : Int} {k s t n n' : Nat} {nx ou nx' ou' : Nat → Nat → Nat} {W : Nat → List Nat} {cnt at_ inp : Nat}
theorem bs_lt (hn : n ≤ 10) (hn' : n' ≤ 10) (hc : ∀ s i, s < n → i < k → nx s i < n) (hc' : ∀ s i, s < n' → i < k → nx' s i < n') (hs : s < n) (ht : t < n') (hI : bs_I g g1 r k s t nx ou nx' ou' W cnt at_ inp) {p : Nat} (hp : p < cnt) : rn nx s (W p) < n ∧ rn nx' t (W p) < n' :=
  ⟨rn_lt hc hs _ (hI.2.2.2.2.2.2.2.1.2.2.2.2.1 p hp), rn_lt hc' ht _ (hI.2.2.2.2.2.2.2.1.2.2.2.2.1 p hp)⟩
theorem bs_cnt (hn : n ≤ 10) (hn' : n' ≤ 10) (hc : ∀ s i, s < n → i < k → nx s i < n) (hc' : ∀ s i, s < n' → i < k → nx' s i < n') (hs : s < n) (ht : t < n') (hI : bs_I g g1 r k s t nx ou nx' ou' W cnt at_ inp) : cnt ≤ 100 :=
  pg_hole 100 cnt (fun p => rn nx s (W p) * 10 + rn nx' t (W p)) (fun p hp => by have := bs_lt hn hn' hc hc' hs ht hI hp; omega) (fun p q hp hq e => by
    have h1 := bs_lt hn hn' hc hc' hs ht hI hp
    have h2 := bs_lt hn hn' hc hc' hs ht hI hq
    exact hI.2.2.2.2.2.2.1 p q hp hq (by omega) (by omega))
theorem bs_room (hn : n ≤ 10) (hn' : n' ≤ 10) (hc : ∀ s i, s < n → i < k → nx s i < n) (hc' : ∀ s i, s < n' → i < k → nx' s i < n') (hs : s < n) (ht : t < n') (hI : bs_I g g1 r k s t nx ou nx' ou' W cnt at_ inp) {x y : Nat} (hx : x < 10) (hy : y < 10) (h : ∀ p, p < cnt → ¬ (rn nx s (W p) = x ∧ rn nx' t (W p) = y)) : cnt < 100 :=
  pg_hole 100 (cnt + 1) (fun p => if p < cnt then rn nx s (W p) * 10 + rn nx' t (W p) else x * 10 + y) (fun p hp => by
    by_cases c : p < cnt
    · rw [if_pos c]
      have := bs_lt hn hn' hc hc' hs ht hI c
      omega
    · rw [if_neg c]; omega) (fun p q hp hq e => by
    by_cases c : p < cnt
    · by_cases c2 : q < cnt
      · rw [if_pos c, if_pos c2] at e
        have h1 := bs_lt hn hn' hc hc' hs ht hI c
        have h2 := bs_lt hn hn' hc hc' hs ht hI c2
        exact hI.2.2.2.2.2.2.1 p q c c2 (by omega) (by omega)
      · rw [if_pos c, if_neg c2] at e
        have h1 := bs_lt hn hn' hc hc' hs ht hI c
        exact absurd ⟨by omega, by omega⟩ (h p c)
    · by_cases c2 : q < cnt
      · rw [if_neg c, if_pos c2] at e
        have h1 := bs_lt hn hn' hc hc' hs ht hI c2
        exact absurd ⟨by omega, by omega⟩ (h q c2)
      · omega)
theorem bs_seen (hk : k ≤ 4) (hI : bs_I g g1 r k s t nx ou nx' ou' W cnt at_ inp) (hat : at_ < cnt) (hin : inp < k) (hnd : ¬ df nx ou s nx' ou' t (inp :: W at_)) {p : Nat} (hp : p < cnt) (e1 : rn nx s (W p) = nx (rn nx s (W at_)) inp) (e2 : rn nx' t (W p) = nx' (rn nx' t (W at_)) inp) : bs_I g g1 r k s t nx ou nx' ou' W cnt at_ (inp + 1) := by
  obtain ⟨a1, a2, a3, a4, a5, a6, a7, a8, a9⟩ := hI
  refine ⟨a1, a2, a3, a4, a5, a6, a7, bf_seen a8 hk hat hin hp e1 e2, fun q i hq hd => ?_⟩
  rcases bf_done_step hd with hd | ⟨rfl, rfl⟩
  · exact a9 q i hq hd
  · exact hnd
theorem bs_new (hk : k ≤ 4) (hI : bs_I g g1 r k s t nx ou nx' ou' W cnt at_ inp) (hat : at_ < cnt) (hin : inp < k) (hnd : ¬ df nx ou s nx' ou' t (inp :: W at_)) (hx : nx (rn nx s (W at_)) inp < 10) (hy : nx' (rn nx' t (W at_)) inp < 10)
    (hu : ∀ p, p < cnt → ¬ (rn nx s (W p) = nx (rn nx s (W at_)) inp ∧ rn nx' t (W p) = nx' (rn nx' t (W at_)) inp)) :
    bs_I g (rc_g g1 r (nx (rn nx s (W at_)) inp : Nat) (nx' (rn nx' t (W at_)) inp : Nat) (at_ : Nat) (inp : Nat)) r k s t nx ou nx' ou' (fun p => if p = cnt then inp :: W at_ else W p) (cnt + 1) at_ (inp + 1) := by
  obtain ⟨a1, a2, a3, a4, a5, a6, a7, a8, a9⟩ := hI
  have hW : ∀ q, q < cnt → (fun p => if p = cnt then inp :: W at_ else W p) q = W q := fun q hq => if_neg (by omega)
  have hWc : (fun p => if p = cnt then inp :: W at_ else W p) cnt = inp :: W at_ := if_pos rfl
  generalize (fun p => if p = cnt then inp :: W at_ else W p) = W' at hW hWc
  have h0 : 0 < cnt := a8.1
  refine ⟨⟨fun r' h => by rw [rc_x _ _ _ _ _ _ (by omega) (by omega)]; exact a1.1 r' h, fun j hj => by rw [rc_0, if_neg hj]; exact a1.2.1 j hj, fun j hj => by rw [rc_x _ _ _ _ _ _ (by omega) (by omega)]; exact a1.2.2 j hj⟩, by rw [rc_0, if_pos rfl, a2]; omega, by rw [rc_x _ _ _ _ _ _ (by omega) (by omega)]; exact a3, fun p hp => ?_, ⟨by rw [hW 0 h0]; exact a5.1, fun p hp => ?_⟩, fun x y hx2 hy2 => ?_, fun p q hp hq e1 e2 => ?_, bf_new a8 hk hat hin hW hWc, fun p i hp hd => ?_⟩
  · rw [rc_3, rc_4, a2]
    by_cases c : p = cnt
    · subst c
      rw [if_pos rfl, if_pos rfl, hWc]
      exact ⟨rfl, rfl⟩
    · rw [if_neg (by omega), if_neg (by omega), hW p (by omega)]
      exact a4 p (by omega)
  · rw [rc_5, rc_6, rc_7, a2]
    by_cases c : p = cnt
    · subst c
      rw [if_pos rfl, if_pos rfl, if_pos rfl, hWc, if_neg (by omega)]
      have h7 := a5.2 at_ hat
      refine ⟨by rw [h7.1, List.length_cons]; omega, by rw [List.length_cons]; omega, fun _ => ⟨at_, inp, hat, rfl, rfl, by rw [hW at_ hat]⟩⟩
    · rw [if_neg (by omega), if_neg (by omega), if_neg (by omega), hW p (by omega)]
      obtain ⟨b1, b2, b3⟩ := a5.2 p (by omega)
      refine ⟨b1, b2, fun h => ?_⟩
      obtain ⟨q, a, c1, c2, c3, c4⟩ := b3 h
      exact ⟨q, a, c1, c2, c3, by rw [hW q (by omega)]; exact c4⟩
  · rw [rc_8]
    by_cases c : x = nx (rn nx s (W at_)) inp ∧ y = nx' (rn nx' t (W at_)) inp
    · refine Or.inr ⟨by rw [if_pos (by rw [c.1, c.2])], cnt, by omega, ?_, ?_⟩
      · rw [hWc, c.1]; rfl
      · rw [hWc, c.2]; rfl
    · rw [if_neg (by omega)]
      rcases a6 x y hx2 hy2 with ⟨b1, b2⟩ | ⟨b1, p, b2, b3⟩
      · refine Or.inl ⟨b1, fun p hp z => ?_⟩
        by_cases e : p = cnt
        · subst e
          rw [hWc] at z
          exact c ⟨z.1.symm, z.2.symm⟩
        · rw [hW p (by omega)] at z
          exact b2 p (by omega) z
      · exact Or.inr ⟨b1, p, by omega, by rw [hW p b2]; exact b3⟩
  · by_cases c : p = cnt
    · by_cases c2 : q = cnt
      · omega
      · rw [c, hWc, hW q (by omega)] at e1 e2
        exact absurd ⟨e1.symm, e2.symm⟩ (hu q (by omega))
    · by_cases c2 : q = cnt
      · rw [c2, hWc, hW p (by omega)] at e1 e2
        exact absurd ⟨e1, e2⟩ (hu p (by omega))
      · rw [hW p (by omega), hW q (by omega)] at e1 e2
        exact a7 p q (by omega) (by omega) e1 e2
  · have hpc : p < cnt := by
      obtain ⟨-, h | ⟨h, -⟩⟩ := hd <;> omega
    rw [hW p hpc]
    rcases bf_done_step hd with hd | ⟨rfl, rfl⟩
    · exact a9 p i hpc hd
    · exact hnd
end BS
set_option maxHeartbeats 4000000 in
theorem k_find_in {al : Prop} {X : Option (Nat × (Int → Int))} {d : Nat} {sh : List aj_S} {g : aj_G} {Q : aj_R → List aj_S → aj_G → Prop} {r ra rb : Int} {La Lb k n n' s t : Nat} {nx ou nx' ou' : Nat → Nat → Nat} (hp : pss sh g r) (hA : mcm sh g ra La k n nx ou) (hB : mcm sh g rb Lb k n' nx' ou') (hda : ra + 2 < r ∨ r + 8 < ra) (hdb : rb + 2 < r ∨ r + 8 < rb) (hs : s < n) (ht : t < n')
    (hk1 : ∀ g1 w, fd_F g g1 r → wd_least k nx ou s nx' ou' t w → w.length ≤ 100 → wat g1 (r + 1) w → Q (.inl (some (0, 1))) sh g1) (hk0 : ∀ g1, fd_F g g1 r → wd_none k nx ou s nx' ou' t → g1 (r + 1) 1 = 0 → Q (.inl (some (0, 0))) sh g1) {at_ : Nat}
    (K : ∀ W cnt g1, at_ < cnt → bs_I g g1 r k s t nx ou nx' ou' W cnt (at_ + 1) 0 → aj_wp nE al al X m_Search_find (d + 1) 0 0 16 [some (1, r), some (1, ra), some (0, (s : Int)), some (1, rb), some (0, (t : Int)), some (0, (at_ : Int) + 1), none] [] sh g1 Q) :
    ∀ (m : Nat) (W : Nat → List Nat) (cnt inp : Nat) (g1 : aj_G), inp ≤ k → at_ < cnt → k - inp = m → bs_I g g1 r k s t nx ou nx' ou' W cnt at_ inp →
    aj_wp nE al al X m_Search_find (d + 1) 0 0 35 [some (1, r), some (1, ra), some (0, (s : Int)), some (1, rb), some (0, (t : Int)), some (0, (at_ : Int)), some (0, (inp : Int))] [] sh g1 Q := by
  intro m
  induction m using Nat.strongRecOn with
  | ind m ih =>
    intro W cnt inp g1 hin0 hat hmm hI
    have hF := hI.1
    have hp1 := pss_of hp hF.2.1 (hF.2.2 0 (by omega))
    have hA1 := mcm_of hA (hF.1 _ (by omega)) (hF.1 _ (by omega)) (hF.1 _ (by omega))
    have hB1 := mcm_of hB (hF.1 _ (by omega)) (hF.1 _ (by omega)) (hF.1 _ (by omega))
    have hc : ∀ s i, s < n → i < k → nx s i < n := fun s i h1 h2 => (hA.2.2.2.2.2.2 s i h1 h2).2.2.1
    have hc' : ∀ s i, s < n' → i < k → nx' s i < n' := fun s i h1 h2 => (hB.2.2.2.2.2.2 s i h1 h2).2.2.1
    have hn := hA.2.2.2.2.2.1
    have hn' := hB.2.2.2.2.2.1
    have hk3 := hA.2.2.2.2.1
    have hcnt := bs_cnt hn hn' hc hc' hs ht hI
    refine aj_iload 6 37 (dx d_Search_find 19 rfl) rfl rfl ?_
    refine aj_aload_n 1 38 (dx d_Search_find 20 rfl) rfl rfl rfl ?_
    refine aj_getf 41 fl_Search_49 (dx d_Search_find 21 rfl) rfl hA1.1.1 ?_
    refine aj_icmp_ge 123 44 (dx d_Search_find 22 rfl) rfl rfl (by unfold aj_I; omega) (by rw [hA1.2.1]; unfold aj_I; omega) (fun h41 => ?_) (fun h41 => ?_)
    · rw [hA1.2.1] at h41
      have hik : inp = k := by omega
      subst hik
      refine aj_iinc 5 126 (dx d_Search_find 64 rfl) rfl rfl rfl ?_
      simp only [List.set]
      refine aj_goto 16 (dx d_Search_find 65 rfl) rfl ?_
      refine aj_forget 6 ?_
      simp only [List.set]
      have := K W cnt g1 hat ⟨hI.1, hI.2.1, hI.2.2.1, hI.2.2.2.1, hI.2.2.2.2.1, hI.2.2.2.2.2.1, hI.2.2.2.2.2.2.1, bf_row hI.2.2.2.2.2.2.2.1 hat, fun p i hpp hd => hI.2.2.2.2.2.2.2.2 p i hpp (by
        obtain ⟨x1, x2 | ⟨x2, x3⟩⟩ := hd
        · rcases Nat.lt_or_ge p at_ with z | z
          · exact ⟨x1, Or.inl z⟩
          · exact ⟨x1, Or.inr ⟨by omega, x1⟩⟩
        · omega)⟩
      exact this
    · rw [hA1.2.1] at h41
      have hin : inp < k := by omega
      have he := hI.2.2.2.1 at_ hat
      have hlt := bs_lt hn hn' hc hc' hs ht hI hat
      have ho1 := (hA.2.2.2.2.2.2 _ inp hlt.1 hin).2.2
      have ho2 := (hB.2.2.2.2.2.2 _ inp hlt.2 hin).2.2
      refine aj_aload_n 1 45 (dx d_Search_find 23 rfl) rfl rfl rfl ?_
      refine aj_aload_n 0 46 (dx d_Search_find 24 rfl) rfl rfl rfl ?_
      refine aj_getf 49 fl_Search_18 (dx d_Search_find 25 rfl) rfl hp1.1 ?_
      rw [hp1.2.1.2.1]
      refine aj_iload 5 51 (dx d_Search_find 26 rfl) rfl rfl ?_
      refine aj_iald 52 (dx d_Search_find 27 rfl) rfl hp1.2.2.2.1 rfl (by omega) (by omega) ?_
      rw [he.1]
      refine aj_iload 6 54 (dx d_Search_find 28 rfl) rfl rfl ?_
      refine aj_callV2 57 cl_Search_54 (dx d_Search_find 29 rfl) rfl rfl rfl rfl rfl rfl hA1.1.1 (s_output hA1 hlt.1 hin ?_)
      change aj_wp _ _ _ _ _ _ _ _ _ _ _ _ _ _
      refine aj_aload_n 3 58 (dx d_Search_find 30 rfl) rfl rfl rfl ?_
      refine aj_aload_n 0 59 (dx d_Search_find 31 rfl) rfl rfl rfl ?_
      refine aj_getf 62 fl_Search_22 (dx d_Search_find 32 rfl) rfl hp1.1 ?_
      rw [hp1.2.1.2.2.1]
      refine aj_iload 5 64 (dx d_Search_find 33 rfl) rfl rfl ?_
      refine aj_iald 65 (dx d_Search_find 34 rfl) rfl hp1.2.2.2.2.1 rfl (by omega) (by omega) ?_
      rw [he.2]
      refine aj_iload 6 67 (dx d_Search_find 35 rfl) rfl rfl ?_
      refine aj_callV2 70 cl_Search_54 (dx d_Search_find 36 rfl) rfl rfl rfl rfl rfl rfl hB1.1.1 (s_output hB1 hlt.2 hin ?_)
      change aj_wp _ _ _ _ _ _ _ _ _ _ _ _ _ _
      refine aj_icmp_eq 83 73 (dx d_Search_find 37 rfl) rfl rfl (by unfold aj_I; omega) (by unfold aj_I; omega) (fun h70 => ?_) (fun h70 => ?_)
      · have hnd : ¬ df nx ou s nx' ou' t (inp :: W at_) := fun z => z (by omega)
        refine aj_aload_n 0 84 (dx d_Search_find 44 rfl) rfl rfl rfl ?_
        refine aj_aload_n 1 85 (dx d_Search_find 45 rfl) rfl rfl rfl ?_
        refine aj_aload_n 0 86 (dx d_Search_find 46 rfl) rfl rfl rfl ?_
        refine aj_getf 89 fl_Search_18 (dx d_Search_find 47 rfl) rfl hp1.1 ?_
        rw [hp1.2.1.2.1]
        refine aj_iload 5 91 (dx d_Search_find 48 rfl) rfl rfl ?_
        refine aj_iald 92 (dx d_Search_find 49 rfl) rfl hp1.2.2.2.1 rfl (by omega) (by omega) ?_
        rw [he.1]
        refine aj_iload 6 94 (dx d_Search_find 50 rfl) rfl rfl ?_
        refine aj_callV2 97 cl_Search_62 (dx d_Search_find 51 rfl) rfl rfl rfl rfl rfl rfl hA1.1.1 (s_next hA1 hlt.1 hin ?_)
        change aj_wp _ _ _ _ _ _ _ _ _ _ _ _ _ _
        refine aj_aload_n 3 98 (dx d_Search_find 52 rfl) rfl rfl rfl ?_
        refine aj_aload_n 0 99 (dx d_Search_find 53 rfl) rfl rfl rfl ?_
        refine aj_getf 102 fl_Search_22 (dx d_Search_find 54 rfl) rfl hp1.1 ?_
        rw [hp1.2.1.2.2.1]
        refine aj_iload 5 104 (dx d_Search_find 55 rfl) rfl rfl ?_
        refine aj_iald 105 (dx d_Search_find 56 rfl) rfl hp1.2.2.2.2.1 rfl (by omega) (by omega) ?_
        rw [he.2]
        refine aj_iload 6 107 (dx d_Search_find 57 rfl) rfl rfl ?_
        refine aj_callV2 110 cl_Search_62 (dx d_Search_find 58 rfl) rfl rfl rfl rfl rfl rfl hB1.1.1 (s_next hB1 hlt.2 hin ?_)
        change aj_wp _ _ _ _ _ _ _ _ _ _ _ _ _ _
        refine aj_iload 5 112 (dx d_Search_find 59 rfl) rfl rfl ?_
        refine aj_iload 6 114 (dx d_Search_find 60 rfl) rfl rfl ?_
        refine aj_callV4 117 cl_Search_45 (dx d_Search_find 61 rfl) rfl rfl rfl rfl rfl rfl hp1.1 (k_Search_reach hp1 (by omega) (by omega) (by rcases hI.2.2.2.2.2.1 _ _ (Nat.lt_of_lt_of_le ho1.1 hn) (Nat.lt_of_lt_of_le ho2.1 hn') with z | z <;> (rw [z.1]; unfold aj_I; omega)) (by rw [hI.2.1]; omega) (fun hz => ?_) (by unfold aj_I; omega) (by rw [hI.2.1]; omega) (fun hz => ?_) (fun hz => ?_))
        · rcases hI.2.2.2.2.2.1 _ _ (Nat.lt_of_lt_of_le ho1.1 hn) (Nat.lt_of_lt_of_le ho2.1 hn') with z | z
          · have := bs_room hn hn' hc hc' hs ht hI (Nat.lt_of_lt_of_le ho1.1 hn) (Nat.lt_of_lt_of_le ho2.1 hn') z.2
            rw [hI.2.1]; omega
          · rw [z.1] at hz; omega
        · rcases hI.2.2.2.2.2.1 _ _ (Nat.lt_of_lt_of_le ho1.1 hn) (Nat.lt_of_lt_of_le ho2.1 hn') with z | ⟨z, p, z1, z2, z3⟩
          · exact absurd z.1 hz
          · change aj_wp _ _ _ _ _ _ _ _ _ _ _ _ _ _
            refine aj_iinc 6 120 (dx d_Search_find 62 rfl) rfl rfl rfl ?_
            simp only [List.set]
            refine aj_goto 35 (dx d_Search_find 63 rfl) rfl ?_
            have hih := ih _ (by omega) W cnt (inp + 1) g1 (by omega) hat rfl (bs_seen (by omega) hI hat hin hnd z1 z2 z3)
            rw [show ((inp : Nat) : Int) + 1 = ((inp + 1 : Nat) : Int) by omega]
            exact hih
        · rcases hI.2.2.2.2.2.1 _ _ (Nat.lt_of_lt_of_le ho1.1 hn) (Nat.lt_of_lt_of_le ho2.1 hn') with z | ⟨z, p, z1, z2, z3⟩
          · change aj_wp _ _ _ _ _ _ _ _ _ _ _ _ _ _
            refine aj_iinc 6 120 (dx d_Search_find 62 rfl) rfl rfl rfl ?_
            simp only [List.set]
            refine aj_goto 35 (dx d_Search_find 63 rfl) rfl ?_
            have hih := ih _ (by omega) _ (cnt + 1) (inp + 1) _ (by omega) (by omega) rfl (bs_new (by omega) hI hat hin hnd (Nat.lt_of_lt_of_le ho1.1 hn) (Nat.lt_of_lt_of_le ho2.1 hn') z.2)
            rw [show ((inp : Nat) : Int) + 1 = ((inp + 1 : Nat) : Int) by omega]
            exact hih
          · rw [z] at hz; omega
      · refine aj_aload_n 0 74 (dx d_Search_find 38 rfl) rfl rfl rfl ?_
        refine aj_iload 5 76 (dx d_Search_find 39 rfl) rfl rfl ?_
        refine aj_iload 6 78 (dx d_Search_find 40 rfl) rfl rfl ?_
        refine aj_callV2 81 cl_Search_58 (dx d_Search_find 41 rfl) rfl rfl rfl rfl rfl rfl hp1.1 (k_Search_spell hp1 hI.2.2.2.2.1 hcnt hat (fun g2 hsp => ?_))
        change aj_wp _ _ _ _ _ _ _ _ _ _ _ _ _ _
        refine aj_iconst 82 (dx d_Search_find 42 rfl) rfl ?_
        refine aj_zret (dx d_Search_find 43 rfl) rfl (by omega) id ?_
        have hw : (inp :: W at_).length ≤ 100 := by
          have := (hI.2.2.2.2.1.2 at_ hat).2.1
          rw [List.length_cons]; omega
        refine hk1 g2 (inp :: W at_) ⟨fun r' z => by rw [hsp.1 r' (by omega) (by omega)]; exact hF.1 r' z, fun j z => by rw [hsp.1 r (by omega) (by omega)]; exact hF.2.1 j z, fun j z => by rw [hsp.2.1 j z]; exact hF.2.2 j z⟩ (bf_found hI.2.2.2.2.2.2.2.1 (by omega) hat hin hI.2.2.2.2.2.2.2.2 (fun z => h70 (congrArg _ z))) hw ⟨hsp.2.2.1, fun j hj => ?_⟩
        rw [show r + 1 + 1 = r + 2 by omega]
        exact hsp.2.2.2 j _ (by rw [List.length_cons] at hj; omega) (List.getElem?_eq_getElem hj)
set_option maxHeartbeats 4000000 in
theorem k_find_out {al : Prop} {X : Option (Nat × (Int → Int))} {d : Nat} {sh : List aj_S} {g : aj_G} {Q : aj_R → List aj_S → aj_G → Prop} {r ra rb : Int} {La Lb k n n' s t : Nat} {nx ou nx' ou' : Nat → Nat → Nat} (hp : pss sh g r) (hA : mcm sh g ra La k n nx ou) (hB : mcm sh g rb Lb k n' nx' ou') (hda : ra + 2 < r ∨ r + 8 < ra) (hdb : rb + 2 < r ∨ r + 8 < rb) (hs : s < n) (ht : t < n')
    (hk1 : ∀ g1 w, fd_F g g1 r → wd_least k nx ou s nx' ou' t w → w.length ≤ 100 → wat g1 (r + 1) w → Q (.inl (some (0, 1))) sh g1) (hk0 : ∀ g1, fd_F g g1 r → wd_none k nx ou s nx' ou' t → g1 (r + 1) 1 = 0 → Q (.inl (some (0, 0))) sh g1) : ∀ (m : Nat) (W : Nat → List Nat) (cnt at_ : Nat) (g1 : aj_G), at_ ≤ cnt → 100 - at_ = m → bs_I g g1 r k s t nx ou nx' ou' W cnt at_ 0 →
    aj_wp nE al al X m_Search_find (d + 1) 0 0 16 [some (1, r), some (1, ra), some (0, (s : Int)), some (1, rb), some (0, (t : Int)), some (0, (at_ : Int)), none] [] sh g1 Q := by
  intro m
  induction m using Nat.strongRecOn with
  | ind m ih =>
    intro W cnt at_ g1 hat0 hmm hI
    have hF := hI.1
    have hp1 := pss_of hp hF.2.1 (hF.2.2 0 (by omega))
    have hA1 := mcm_of hA (hF.1 _ (by omega)) (hF.1 _ (by omega)) (hF.1 _ (by omega))
    have hB1 := mcm_of hB (hF.1 _ (by omega)) (hF.1 _ (by omega)) (hF.1 _ (by omega))
    have hc : ∀ s i, s < n → i < k → nx s i < n := fun s i h1 h2 => (hA.2.2.2.2.2.2 s i h1 h2).2.2.1
    have hc' : ∀ s i, s < n' → i < k → nx' s i < n' := fun s i h1 h2 => (hB.2.2.2.2.2.2 s i h1 h2).2.2.1
    have hn := hA.2.2.2.2.2.1
    have hn' := hB.2.2.2.2.2.1
    have hk3 := hA.2.2.2.2.1
    have hcnt := bs_cnt hn hn' hc hc' hs ht hI
    refine aj_iload 5 18 (dx d_Search_find 10 rfl) rfl rfl ?_
    refine aj_bipush 20 (dx d_Search_find 11 rfl) rfl (by decide +kernel) ?_
    refine aj_icmp_ge 129 23 (dx d_Search_find 12 rfl) rfl rfl (by unfold aj_I; omega) (by unfold aj_I; omega) (fun h20 => ?_) (fun h20 => ?_)
    · refine aj_iconst 130 (dx d_Search_find 66 rfl) rfl ?_
      refine aj_zret (dx d_Search_find 67 rfl) rfl (by omega) id ?_
      have hac : at_ = cnt := by omega
      subst hac
      exact hk0 g1 hF (bf_none hI.2.2.2.2.2.2.2.1 hI.2.2.2.2.2.2.2.2) hI.2.2.1
    · refine aj_iload 5 25 (dx d_Search_find 13 rfl) rfl rfl ?_
      refine aj_aload_n 0 26 (dx d_Search_find 14 rfl) rfl rfl rfl ?_
      refine aj_getf 29 fl_Search_38 (dx d_Search_find 15 rfl) rfl hp1.1 ?_
      refine aj_icmp_ge 129 32 (dx d_Search_find 16 rfl) rfl rfl (by unfold aj_I; omega) (by rw [hI.2.1]; unfold aj_I; omega) (fun h29 => ?_) (fun h29 => ?_)
      · rw [hI.2.1] at h29
        refine aj_iconst 130 (dx d_Search_find 66 rfl) rfl ?_
        refine aj_zret (dx d_Search_find 67 rfl) rfl (by omega) id ?_
        have hac : at_ = cnt := by omega
        subst hac
        exact hk0 g1 hF (bf_none hI.2.2.2.2.2.2.2.1 hI.2.2.2.2.2.2.2.2) hI.2.2.1
      · rw [hI.2.1] at h29
        have hat : at_ < cnt := by omega
        refine aj_iconst 33 (dx d_Search_find 17 rfl) rfl ?_
        refine aj_istore 6 35 (dx d_Search_find 18 rfl) rfl rfl ?_
        simp only [List.set]
        exact k_find_in hp hA hB hda hdb hs ht hk1 hk0 (fun W2 c2 g2 hat2 hI2 => by
          have hc2 := bs_cnt hn hn' hc hc' hs ht hI2
          have := ih _ (by omega) W2 c2 (at_ + 1) g2 (by omega) rfl hI2
          rw [show ((at_ : Nat) : Int) + 1 = ((at_ + 1 : Nat) : Int) by omega]
          exact this) _ W cnt 0 g1 (Nat.zero_le _) hat rfl hI
set_option maxHeartbeats 4000000 in
theorem k_Search_find {al : Prop} {X : Option (Nat × (Int → Int))} {d : Nat} {sh : List aj_S} {g : aj_G} {Q : aj_R → List aj_S → aj_G → Prop} {r ra rb : Int} {La Lb k n n' s t : Nat} {nx ou nx' ou' : Nat → Nat → Nat} (hp : pss sh g r) (hA : mcm sh g ra La k n nx ou) (hB : mcm sh g rb Lb k n' nx' ou') (hda : ra + 2 < r ∨ r + 8 < ra) (hdb : rb + 2 < r ∨ r + 8 < rb) (hs : s < n) (ht : t < n')
    (hk1 : ∀ g1 w, fd_F g g1 r → wd_least k nx ou s nx' ou' t w → w.length ≤ 100 → wat g1 (r + 1) w → Q (.inl (some (0, 1))) sh g1) (hk0 : ∀ g1, fd_F g g1 r → wd_none k nx ou s nx' ou' t → g1 (r + 1) 1 = 0 → Q (.inl (some (0, 0))) sh g1) : aj_wp nE al al X m_Search_find (d + 1) 0 0 0 [some (1, r), some (1, ra), some (0, (s : Int)), some (1, rb), some (0, (t : Int)), none, none] [] sh g Q := by
  have hn := hA.2.2.2.2.2.1
  have hn' := hB.2.2.2.2.2.1
  refine aj_aload_n 0 1 (dx d_Search_find 0 rfl) rfl rfl rfl ?_
  refine aj_callV0 4 cl_Search_42 (dx d_Search_find 1 rfl) rfl rfl rfl rfl rfl rfl hp.1 (k_Search_forget hp (fun g1 hfg hz0 => ?_))
  change aj_wp _ _ _ _ _ _ _ _ _ _ _ _ _ _
  refine aj_aload_n 0 5 (dx d_Search_find 2 rfl) rfl rfl rfl ?_
  refine aj_iload_n 2 6 (dx d_Search_find 3 rfl) rfl rfl rfl ?_
  refine aj_iload 4 8 (dx d_Search_find 4 rfl) rfl rfl ?_
  refine aj_iconst 9 (dx d_Search_find 5 rfl) rfl ?_
  refine aj_iconst 10 (dx d_Search_find 6 rfl) rfl ?_
  refine aj_callV4 13 cl_Search_45 (dx d_Search_find 7 rfl) rfl rfl rfl rfl rfl rfl (pss_of hp hfg.2.1 (hfg.2.2.2.1 0 (by omega))).1 (k_Search_reach (pss_of hp hfg.2.1 (hfg.2.2.2.1 0 (by omega))) (by omega) (by omega) (by rw [hz0 _ (by omega) (by omega)]; unfold aj_I; omega) (by rw [hfg.2.2.1]; omega) (fun _ => by rw [hfg.2.2.1]; omega) (by unfold aj_I; omega) (fun z => absurd rfl z) (fun z => absurd (hz0 _ (by omega) (by omega)) z) (fun _ => ?_))
  change aj_wp _ _ _ _ _ _ _ _ _ _ _ _ _ _
  refine aj_iconst 14 (dx d_Search_find 8 rfl) rfl ?_
  refine aj_istore 5 16 (dx d_Search_find 9 rfl) rfl rfl ?_
  simp only [List.set]
  refine k_find_out hp hA hB hda hdb hs ht hk1 hk0 _ (fun _ => []) 1 0 _ (Nat.zero_le _) rfl ?_
  refine ⟨⟨fun r' z => ?_, fun j z => ?_, fun j z => ?_⟩, ?_, ?_, fun p hp1 => ?_, ⟨rfl, fun p hp1 => ?_⟩, fun x y hx hy => ?_, fun p q h1 h2 _ _ => by omega, bf_0 rfl, fun p i h1 h2 => ?_⟩
  · rw [rc_x _ _ _ _ _ _ (by omega) (by omega)]
    exact hfg.1 r' (by omega) (by omega) (by omega)
  · rw [rc_0, if_neg z]
    exact hfg.2.1 j z
  · rw [rc_x _ _ _ _ _ _ (by omega) (by omega)]
    exact hfg.2.2.2.1 j z
  · rw [rc_0, if_pos rfl, hfg.2.2.1]
    rfl
  · rw [rc_x _ _ _ _ _ _ (by omega) (by omega)]
    exact hfg.2.2.2.2
  · have : p = 0 := by omega
    subst this
    rw [rc_3, rc_4, hfg.2.2.1, if_pos (by omega), if_pos (by omega)]
    exact ⟨rfl, rfl⟩
  · have : p = 0 := by omega
    subst this
    rw [rc_7, hfg.2.2.1, if_pos rfl, if_pos (by omega)]
    exact ⟨rfl, Nat.le_refl _, fun z => by omega⟩
  · rw [rc_8]
    by_cases c : x = s ∧ y = t
    · obtain ⟨rfl, rfl⟩ := c
      exact Or.inr ⟨if_pos rfl, 0, by omega, rfl, rfl⟩
    · rw [if_neg (by omega)]
      exact Or.inl ⟨hz0 _ (by omega) (by omega), fun p hp1 z => c ⟨z.1.symm, z.2.symm⟩⟩
  · obtain ⟨-, h3 | ⟨-, h3⟩⟩ := h2 <;> omega
end
section
/-! Reduction: findTwins, addState. From here on places are numbers: 1 the specification (tables 2, 3), 4 the reduction (5 number, 6 twin, 7 member, 8 earlier, 9 by), 10 its machine (11, 12), 44 the search -/
def rds (sh : List aj_S) (g : aj_G) : Prop := aj_sh sh 4 = some (.inr 3) ∧ (g 4 0 = 10 ∧ g 4 1 = 5 ∧ g 4 2 = 6 ∧ g 4 3 = 7 ∧ g 4 4 = 8 ∧ g 4 5 = 9) ∧ aj_sh sh 5 = some (.inl (0, 8)) ∧ aj_sh sh 6 = some (.inl (0, 8)) ∧ aj_sh sh 7 = some (.inl (0, 8)) ∧ aj_sh sh 8 = some (.inl (0, 8)) ∧ aj_sh sh 9 = some (.inl (0, 8)) ∧ aj_sh sh 10 = some (.inr 0)
theorem rds_of {sh : List aj_S} {g g1 : aj_G} (h : rds sh g) (e : g1 4 = g 4) : rds sh g1 := by
  unfold rds at h ⊢
  rw [e]
  exact h
def tw1 (k : Nat) (nx ou : Nat → Nat → Nat) (x c : Nat) : Prop := c ≤ x ∧ al_k k nx ou x c ∧ ∀ t, t < c → ¬ al_k k nx ou x t
/-- what findTwins may have changed -/
def tw_F (g g1 : aj_G) : Prop := (∀ r', r' ≠ 6 → r' < 44 ∨ 52 < r' → g1 r' = g r') ∧ (∀ j, j ≠ 7 → g1 44 j = g 44 j) ∧ ∀ j, j ≠ 1 → g1 45 j = g 45 j
theorem tw_F_0 (g : aj_G) : tw_F g g := ⟨fun _ _ _ => rfl, fun _ _ => rfl, fun _ _ => rfl⟩
theorem tw_F_up {g g1 : aj_G} {i x : Int} (h : tw_F g g1) : tw_F g (aj_up g1 6 i x) := ⟨fun r' a b => by rw [aj_up_ne _ _ _ a]; exact h.1 r' a b, fun j hj => by rw [aj_up_ne _ _ _ (by omega)]; exact h.2.1 j hj, fun j hj => by rw [aj_up_ne _ _ _ (by omega)]; exact h.2.2 j hj⟩
theorem tw_F_fd {g g1 g2 : aj_G} (h : tw_F g g1) (h2 : fd_F g1 g2 44) : tw_F g g2 ∧ g2 6 = g1 6 := ⟨⟨fun r' a b => by rw [h2.1 r' (by omega)]; exact h.1 r' a b, fun j hj => by rw [h2.2.1 j hj]; exact h.2.1 j hj, fun j hj => by
  have := h2.2.2 j hj
  rw [show (44 : Int) + 1 = 45 by omega] at this
  rw [this]; exact h.2.2 j hj⟩, h2.1 6 (by omega)⟩
set_option maxHeartbeats 4000000 in
theorem k_findTwins_in {al : Prop} {X : Option (Nat × (Int → Int))} {d : Nat} {sh : List aj_S} {g : aj_G} {Q : aj_R → List aj_S → aj_G → Prop} {L k n : Nat} {nx ou : Nat → Nat → Nat} (hr : rds sh g) (hA : mcm sh g 1 L k n nx ou) (hn8 : n ≤ 8) (hp : pss sh g 44) (hk : ∀ g1, tw_F g g1 → (∀ x : Nat, x < n → ∃ c : Nat, g1 6 x = c ∧ tw1 k nx ou x c) → Q (.inl none) sh g1) {s : Nat} (hs : s < n)
    (K : ∀ g1, tw_F g g1 → (∀ x : Nat, x < s + 1 → ∃ c : Nat, g1 6 x = c ∧ tw1 k nx ou x c) → aj_wp nE al al X m_Reduction_findTwins (d + 2) 0 0 2 [some (1, 4), some (1, 1), some (1, 44), some (0, (s : Int) + 1), none] [] sh g1 Q) :
    ∀ (m : Nat) (t : Int) (c : Nat) (g1 : aj_G), -1 ≤ t → t < s → (t + 1).toNat = m → tw_F g g1 → (∀ x : Nat, x < s → ∃ c : Nat, g1 6 x = c ∧ tw1 k nx ou x c) → g1 6 s = c → t < c → c ≤ s → al_k k nx ou s c → (∀ t' : Nat, t < t' → t' < c → ¬ al_k k nx ou s t') →
    aj_wp nE al al X m_Reduction_findTwins (d + 2) 0 0 22 [some (1, 4), some (1, 1), some (1, 44), some (0, (s : Int)), some (0, t)] [] sh g1 Q := by
  intro m
  induction m using Nat.strongRecOn with
  | ind m ih =>
    intro t c g1 ht0 ht1 hmm hF hdone hcur htc hcs hal hno
    have hr1 := rds_of hr (hF.1 4 (by omega) (by omega))
    have hA1 := mcm_of hA (hF.1 _ (by omega) (by omega)) (hF.1 _ (by omega) (by omega)) (hF.1 _ (by omega) (by omega))
    have hp1 := pss_of hp hF.2.1 (hF.2.2 0 (by omega))
    refine aj_iload 4 24 (dx d_Reduction_findTwins 15 rfl) rfl rfl ?_
    refine aj_if_lt 53 27 (dx d_Reduction_findTwins 16 rfl) rfl rfl (by unfold aj_I; omega) (fun h24 => ?_) (fun h24 => ?_)
    · refine aj_iinc 3 56 (dx d_Reduction_findTwins 31 rfl) rfl rfl rfl ?_
      simp only [List.set]
      refine aj_goto 2 (dx d_Reduction_findTwins 32 rfl) rfl ?_
      refine aj_forget 4 ?_
      simp only [List.set]
      refine K g1 hF (fun x hx => ?_)
      by_cases e : x = s
      · subst e
        exact ⟨c, hcur, by omega, hal, fun t' h2 => hno t' (by omega) h2⟩
      · exact hdone x (by omega)
    · obtain ⟨u, rfl⟩ : ∃ u : Nat, t = u := ⟨t.toNat, by omega⟩
      refine aj_aload_n 2 28 (dx d_Reduction_findTwins 17 rfl) rfl rfl rfl ?_
      refine aj_aload_n 1 29 (dx d_Reduction_findTwins 18 rfl) rfl rfl rfl ?_
      refine aj_iload_n 3 30 (dx d_Reduction_findTwins 19 rfl) rfl rfl rfl ?_
      refine aj_aload_n 1 31 (dx d_Reduction_findTwins 20 rfl) rfl rfl rfl ?_
      refine aj_iload 4 33 (dx d_Reduction_findTwins 21 rfl) rfl rfl ?_
      refine aj_callV4 36 cl_Reduction_61 (dx d_Reduction_findTwins 22 rfl) rfl rfl rfl rfl rfl rfl hp1.1 (k_Search_find hp1 hA1 hA1 (by omega) (by omega) hs (show u < n by omega) (fun g2 w hfd hw _ _ => ?_) (fun g2 hfd hw _ => ?_))
      · obtain ⟨hF2, e6⟩ := tw_F_fd hF hfd
        change aj_wp _ _ _ _ _ _ _ _ _ _ _ _ _ _
        refine aj_if_ne 47 39 (dx d_Reduction_findTwins 23 rfl) rfl rfl (by unfold aj_I; omega) (fun h36 => ?_) (fun h36 => ?_)
        · refine aj_iinc 4 50 (dx d_Reduction_findTwins 29 rfl) rfl rfl rfl ?_
          simp only [List.set]
          refine aj_goto 22 (dx d_Reduction_findTwins 30 rfl) rfl ?_
          have hih := ih _ (by omega) ((u : Int) - 1) c g2 (by omega) (by omega) rfl hF2 (fun x hx => by rw [e6]; exact hdone x hx) (by rw [e6]; exact hcur) (by omega) hcs hal (fun t' h1 h2 => by
            rcases Nat.lt_or_ge u t' with z | z
            · exact hno t' (by omega) h2
            · have : t' = u := by omega
              subst this
              exact fun z2 => z2 w hw.1 hw.2.1)
          rw [show (u : Int) + -1 = (u : Int) - 1 by omega]
          exact hih
        · exact absurd h36 (by omega)
      · obtain ⟨hF2, e6⟩ := tw_F_fd hF hfd
        change aj_wp _ _ _ _ _ _ _ _ _ _ _ _ _ _
        refine aj_if_ne 47 39 (dx d_Reduction_findTwins 23 rfl) rfl rfl (by unfold aj_I; omega) (fun h36 => ?_) (fun h36 => ?_)
        · exact absurd rfl h36
        · refine aj_aload_n 0 40 (dx d_Reduction_findTwins 24 rfl) rfl rfl rfl ?_
          refine aj_getf 43 fl_Reduction_15 (dx d_Reduction_findTwins 25 rfl) rfl (rds_of hr (hF2.1 4 (by omega) (by omega))).1 ?_
          rw [(rds_of hr (hF2.1 4 (by omega) (by omega))).2.1.2.2.1]
          refine aj_iload_n 3 44 (dx d_Reduction_findTwins 26 rfl) rfl rfl rfl ?_
          refine aj_iload 4 46 (dx d_Reduction_findTwins 27 rfl) rfl rfl ?_
          refine aj_iast 47 (dx d_Reduction_findTwins 28 rfl) rfl hr.2.2.2.1 rfl (by omega) (by omega) ?_
          refine aj_iinc 4 50 (dx d_Reduction_findTwins 29 rfl) rfl rfl rfl ?_
          simp only [List.set]
          refine aj_goto 22 (dx d_Reduction_findTwins 30 rfl) rfl ?_
          have hih := ih _ (by omega) ((u : Int) - 1) u (aj_up g2 6 (s : Int) (u : Int)) (by omega) (by omega) rfl (tw_F_up hF2) (fun x hx => by rw [aj_up_ni _ _ _ (show (x : Int) ≠ s by omega), e6]; exact hdone x hx) (by rw [aj_up_self]) (by omega) (by omega) hw (fun t' h1 h2 => by omega)
          rw [show (u : Int) + -1 = (u : Int) - 1 by omega]
          exact hih
set_option maxHeartbeats 4000000 in
theorem k_findTwins_out {al : Prop} {X : Option (Nat × (Int → Int))} {d : Nat} {sh : List aj_S} {g : aj_G} {Q : aj_R → List aj_S → aj_G → Prop} {L k n : Nat} {nx ou : Nat → Nat → Nat} (hr : rds sh g) (hA : mcm sh g 1 L k n nx ou) (hn8 : n ≤ 8) (hp : pss sh g 44) (hk : ∀ g1, tw_F g g1 → (∀ x : Nat, x < n → ∃ c : Nat, g1 6 x = c ∧ tw1 k nx ou x c) → Q (.inl none) sh g1) : ∀ (m s : Nat) (g1 : aj_G), s ≤ n → n - s = m → tw_F g g1 → (∀ x : Nat, x < s → ∃ c : Nat, g1 6 x = c ∧ tw1 k nx ou x c) →
    aj_wp nE al al X m_Reduction_findTwins (d + 2) 0 0 2 [some (1, 4), some (1, 1), some (1, 44), some (0, (s : Int)), none] [] sh g1 Q := by
  intro m
  induction m using Nat.strongRecOn with
  | ind m ih =>
    intro s g1 hs0 hmm hF hdone
    have hr1 := rds_of hr (hF.1 4 (by omega) (by omega))
    have hA1 := mcm_of hA (hF.1 _ (by omega) (by omega)) (hF.1 _ (by omega) (by omega)) (hF.1 _ (by omega) (by omega))
    have hp1 := pss_of hp hF.2.1 (hF.2.2 0 (by omega))
    refine aj_iload_n 3 3 (dx d_Reduction_findTwins 2 rfl) rfl rfl rfl ?_
    refine aj_aload_n 1 4 (dx d_Reduction_findTwins 3 rfl) rfl rfl rfl ?_
    refine aj_getf 7 fl_Reduction_40 (dx d_Reduction_findTwins 4 rfl) rfl hA1.1.1 ?_
    refine aj_icmp_ge 59 10 (dx d_Reduction_findTwins 5 rfl) rfl rfl (by unfold aj_I; omega) (by rw [hA1.2.2.1]; unfold aj_I; omega) (fun h7 => ?_) (fun h7 => ?_)
    · rw [hA1.2.2.1] at h7
      refine aj_vret (dx d_Reduction_findTwins 33 rfl) rfl id ?_
      exact hk g1 hF (fun x hx => hdone x (by omega))
    · rw [hA1.2.2.1] at h7
      have hs : s < n := by omega
      refine aj_aload_n 0 11 (dx d_Reduction_findTwins 6 rfl) rfl rfl rfl ?_
      refine aj_getf 14 fl_Reduction_15 (dx d_Reduction_findTwins 7 rfl) rfl hr1.1 ?_
      rw [hr1.2.1.2.2.1]
      refine aj_iload_n 3 15 (dx d_Reduction_findTwins 8 rfl) rfl rfl rfl ?_
      refine aj_iload_n 3 16 (dx d_Reduction_findTwins 9 rfl) rfl rfl rfl ?_
      refine aj_iast 17 (dx d_Reduction_findTwins 10 rfl) rfl hr1.2.2.2.1 rfl (by omega) (by omega) ?_
      refine aj_iload_n 3 18 (dx d_Reduction_findTwins 11 rfl) rfl rfl rfl ?_
      refine aj_iconst 19 (dx d_Reduction_findTwins 12 rfl) rfl ?_
      refine aj_isub 20 (dx d_Reduction_findTwins 13 rfl) rfl ?_
      refine aj_istore 4 22 (dx d_Reduction_findTwins 14 rfl) rfl rfl ?_
      simp only [List.set]
      refine k_findTwins_in hr hA hn8 hp hk hs (fun g2 hF2 hd2 => ?_) _ ((s : Int) - 1) s _ (by omega) (by omega) rfl (tw_F_up hF) (fun x hx => by rw [aj_up_ni _ _ _ (show (x : Int) ≠ s by omega)]; exact hdone x hx) (by rw [aj_up_self]) (by omega) (Nat.le_refl _) (al_refl s) (fun t' h1 h2 => by omega)
      have := ih _ (by omega) (s + 1) g2 (by omega) rfl hF2 hd2
      rw [show ((s : Nat) : Int) + 1 = ((s + 1 : Nat) : Int) by omega]
      exact this
set_option maxHeartbeats 4000000 in
theorem k_findTwins {al : Prop} {X : Option (Nat × (Int → Int))} {d : Nat} {sh : List aj_S} {g : aj_G} {Q : aj_R → List aj_S → aj_G → Prop} {L k n : Nat} {nx ou : Nat → Nat → Nat} (hr : rds sh g) (hA : mcm sh g 1 L k n nx ou) (hn8 : n ≤ 8) (hp : pss sh g 44) (hk : ∀ g1, tw_F g g1 → (∀ x : Nat, x < n → ∃ c : Nat, g1 6 x = c ∧ tw1 k nx ou x c) → Q (.inl none) sh g1) : aj_wp nE al al X m_Reduction_findTwins (d + 2) 0 0 0 [some (1, 4), some (1, 1), some (1, 44), none, none] [] sh g Q := by
  refine aj_iconst 1 (dx d_Reduction_findTwins 0 rfl) rfl ?_
  refine aj_istore_n 3 2 (dx d_Reduction_findTwins 1 rfl) rfl rfl rfl ?_
  simp only [List.set]
  exact k_findTwins_out hr hA hn8 hp hk _ 0 g (Nat.zero_le _) rfl (tw_F_0 g) (fun x hx => absurd hx (Nat.not_lt_zero _))
def as_g (g : aj_G) (s b i : Int) : aj_G := aj_up (aj_up (aj_up (aj_up (aj_up g 10 3 (g 10 3 + 1)) 5 s (g 10 3)) 7 (g 10 3) s) 8 (g 10 3) b) 9 (g 10 3) i
set_option maxHeartbeats 4000000 in
theorem k_addState {al : Prop} {X : Option (Nat × (Int → Int))} {d : Nat} {sh : List aj_S} {g : aj_G} {Q : aj_R → List aj_S → aj_G → Prop} {s b i : Int}
    (hr : rds sh g) (h0 : 0 ≤ g 10 3) (h1 : g 10 3 < 8) (s0 : 0 ≤ s) (s1 : s < 8) (hk : Q (.inl none) sh (as_g g s b i)) : aj_wp nE al al X m_Reduction_addState (d) 0 0 0 [some (1, 4), some (0, s), some (0, b), some (0, i), none] [] sh g Q := by
  refine aj_aload_n 0 1 (dx d_Reduction_addState 0 rfl) rfl rfl rfl ?_
  refine aj_getf 4 fl_Reduction_32 (dx d_Reduction_addState 1 rfl) rfl hr.1 ?_
  rw [hr.2.1.1]
  refine aj_getf 7 fl_Reduction_40 (dx d_Reduction_addState 2 rfl) rfl hr.2.2.2.2.2.2.2 ?_
  refine aj_istore 4 9 (dx d_Reduction_addState 3 rfl) rfl rfl ?_
  simp only [List.set]
  refine aj_aload_n 0 10 (dx d_Reduction_addState 4 rfl) rfl rfl rfl ?_
  refine aj_getf 13 fl_Reduction_32 (dx d_Reduction_addState 5 rfl) rfl hr.1 ?_
  rw [hr.2.1.1]
  refine aj_iload 4 15 (dx d_Reduction_addState 6 rfl) rfl rfl ?_
  refine aj_iconst 16 (dx d_Reduction_addState 7 rfl) rfl ?_
  refine aj_iadd 17 (dx d_Reduction_addState 8 rfl) rfl ?_
  refine aj_putf 20 (pl_Reduction_40 _) (dx d_Reduction_addState 9 rfl) rfl hr.2.2.2.2.2.2.2 (aj_fitI _) ?_
  refine aj_aload_n 0 21 (dx d_Reduction_addState 10 rfl) rfl rfl rfl ?_
  refine aj_getf 24 fl_Reduction_9 (dx d_Reduction_addState 11 rfl) rfl hr.1 ?_
  simp only [aj_up_app, Int.reduceEq, ↓reduceIte]
  rw [hr.2.1.2.1]
  refine aj_iload_n 1 25 (dx d_Reduction_addState 12 rfl) rfl rfl rfl ?_
  refine aj_iload 4 27 (dx d_Reduction_addState 13 rfl) rfl rfl ?_
  refine aj_iast 28 (dx d_Reduction_addState 14 rfl) rfl hr.2.2.1 rfl (by omega) (by omega) ?_
  refine aj_aload_n 0 29 (dx d_Reduction_addState 15 rfl) rfl rfl rfl ?_
  refine aj_getf 32 fl_Reduction_18 (dx d_Reduction_addState 16 rfl) rfl hr.1 ?_
  simp only [aj_up_app, Int.reduceEq, ↓reduceIte]
  rw [hr.2.1.2.2.2.1]
  refine aj_iload 4 34 (dx d_Reduction_addState 17 rfl) rfl rfl ?_
  refine aj_iload_n 1 35 (dx d_Reduction_addState 18 rfl) rfl rfl rfl ?_
  refine aj_iast 36 (dx d_Reduction_addState 19 rfl) rfl hr.2.2.2.2.1 rfl (by omega) (by omega) ?_
  refine aj_aload_n 0 37 (dx d_Reduction_addState 20 rfl) rfl rfl rfl ?_
  refine aj_getf 40 fl_Reduction_21 (dx d_Reduction_addState 21 rfl) rfl hr.1 ?_
  simp only [aj_up_app, Int.reduceEq, ↓reduceIte]
  rw [hr.2.1.2.2.2.2.1]
  refine aj_iload 4 42 (dx d_Reduction_addState 22 rfl) rfl rfl ?_
  refine aj_iload_n 2 43 (dx d_Reduction_addState 23 rfl) rfl rfl rfl ?_
  refine aj_iast 44 (dx d_Reduction_addState 24 rfl) rfl hr.2.2.2.2.2.1 rfl (by omega) (by omega) ?_
  refine aj_aload_n 0 45 (dx d_Reduction_addState 25 rfl) rfl rfl rfl ?_
  refine aj_getf 48 fl_Reduction_24 (dx d_Reduction_addState 26 rfl) rfl hr.1 ?_
  simp only [aj_up_app, Int.reduceEq, ↓reduceIte]
  rw [hr.2.1.2.2.2.2.2]
  refine aj_iload 4 50 (dx d_Reduction_addState 27 rfl) rfl rfl ?_
  refine aj_iload_n 3 51 (dx d_Reduction_addState 28 rfl) rfl rfl rfl ?_
  refine aj_iast 52 (dx d_Reduction_addState 29 rfl) rfl hr.2.2.2.2.2.2.1 rfl (by omega) (by omega) ?_
  refine aj_vret (dx d_Reduction_addState 30 rfl) rfl id ?_
  exact hk
end
section
/-! Reduction.reduce: the pictures -/
theorem ij_key {k a i j : Nat} (hk : 0 < k) (hi : i < k) (e : a * k + i = j) : j / k = a ∧ j % k = i := by
  rw [← e]
  exact ⟨by rw [Nat.mul_comm, Nat.mul_add_div hk, Nat.div_eq_of_lt hi]; rfl, by rw [Nat.mul_comm, Nat.mul_add_mod, Nat.mod_eq_of_lt hi]⟩
theorem ij_cast {k a i j : Nat} (e : a * k + i = j) : (a : Int) * (k : Int) + (i : Int) = (j : Int) := by
  rw [← e]
  push_cast
  rfl
/-- the reduction's cells at the place j of the numbering -/
def rd_I (gt g1 : aj_G) (k n s0 : Nat) (nx ou : Nat → Nat → Nat) (tw : Nat → Nat) (j : Nat) (q : nb_T) : Prop :=
  (∀ r', r' ≠ 5 → (r' < 7 ∨ 12 < r') → g1 r' = gt r') ∧ (∀ x, x ≠ 3 → g1 10 x = gt 10 x) ∧ g1 10 3 = q.1 ∧
  (∀ a : Nat, a < q.1 → g1 7 a = q.2.1 a ∧ g1 5 (q.2.1 a : Nat) = a ∧ (a = 0 → g1 8 a = -1 ∧ g1 9 a = -1) ∧ (0 < a → g1 8 a = q.2.2.1 a ∧ g1 9 a = q.2.2.2 a)) ∧
  (∀ x : Nat, x < n → (∀ a, a < q.1 → q.2.1 a ≠ x) → g1 5 x = -1) ∧
  (∀ a i : Nat, i < k → a * k + i < j → ∃ b : Nat, b < q.1 ∧ q.2.1 b = tw (nx (q.2.1 a) i) ∧ g1 11 ((a * k + i : Nat) : Int) = b ∧ g1 12 ((a * k + i : Nat) : Int) = ou (q.2.1 a) i) ∧
  nb_I k n nx tw s0 j q
section RD
variable {gt g1 : aj_G} {k n s0 : Nat} {nx ou : Nat → Nat → Nat} {tw : Nat → Nat} {j : Nat} {q : nb_T}
theorem rd_old (hk : 0 < k) (htw : tw_ok k n nx ou tw) (hc : ∀ s i, s < n → i < k → nx s i < n) (h : rd_I gt g1 k n s0 nx ou tw j q) (hj : j / k < q.1) {b : Nat} (hb : b < q.1) (e : q.2.1 b = tw (nx (q.2.1 (j / k)) (j % k))) :
    rd_I gt (aj_up (aj_up g1 11 (j : Int) (b : Int)) 12 (j : Int) (ou (q.2.1 (j / k)) (j % k) : Nat)) k n s0 nx ou tw (j + 1) (nb_st k nx tw j q) := by
  have hn := nb_step hk htw hc h.2.2.2.2.2.2 hj
  have hq : nb_st k nx tw j q = q := if_pos (nb_in_iff.mpr ⟨b, hb, e⟩)
  rw [hq] at hn ⊢
  obtain ⟨a1, a2, a3, a4, a5, a6, a7⟩ := h
  refine ⟨fun r' c1 c2 => by rw [aj_up_ne _ _ _ (by omega), aj_up_ne _ _ _ (by omega)]; exact a1 r' c1 c2, fun x hx => by rw [aj_up_ne _ _ _ (by omega), aj_up_ne _ _ _ (by omega)]; exact a2 x hx, by rw [aj_up_ne _ _ _ (by omega), aj_up_ne _ _ _ (by omega)]; exact a3, fun a ha => ?_, fun x hx hne => by rw [aj_up_ne _ _ _ (by omega), aj_up_ne _ _ _ (by omega)]; exact a5 x hx hne, fun a i hi hl => ?_, hn⟩
  · simp only [aj_up_app, Int.reduceEq, ↓reduceIte]
    exact a4 a ha
  · simp only [aj_up_app, Int.reduceEq, ↓reduceIte]
    by_cases c : a * k + i = j
    · obtain ⟨e1, e2⟩ := ij_key hk hi c
      rw [if_pos (by rw [c]), if_pos (by rw [c])]
      exact ⟨b, hb, by rw [e, e1, e2], rfl, by rw [e1, e2]⟩
    · rw [if_neg (by omega), if_neg (by omega)]
      exact a6 a i hi (by omega)
theorem rd_new (hk : 0 < k) (htw : tw_ok k n nx ou tw) (hc : ∀ s i, s < n → i < k → nx s i < n) (h : rd_I gt g1 k n s0 nx ou tw j q) (hj : j / k < q.1) (hne : ∀ a, a < q.1 → q.2.1 a ≠ tw (nx (q.2.1 (j / k)) (j % k))) :
    rd_I gt (aj_up (aj_up (as_g g1 (tw (nx (q.2.1 (j / k)) (j % k)) : Nat) (j / k : Nat) (j % k : Nat)) 11 (j : Int) (q.1 : Int)) 12 (j : Int) (ou (q.2.1 (j / k)) (j % k) : Nat)) k n s0 nx ou tw (j + 1) (nb_st k nx tw j q) := by
  have hn := nb_step hk htw hc h.2.2.2.2.2.2 hj
  have hq : nb_st k nx tw j q = (q.1 + 1, nb_up q.2.1 q.1 (tw (nx (q.2.1 (j / k)) (j % k))), nb_up q.2.2.1 q.1 (j / k), nb_up q.2.2.2 q.1 (j % k)) := if_neg (fun z => by obtain ⟨a, h1, h2⟩ := nb_in_iff.mp z; exact hne a h1 h2)
  rw [hq] at hn ⊢
  obtain ⟨a1, a2, a3, a4, a5, a6, a7⟩ := h
  generalize htt : tw (nx (q.2.1 (j / k)) (j % k)) = t at hne hn ⊢
  unfold as_g
  rw [a3]
  refine ⟨fun r' c1 c2 => by rw [aj_up_ne _ _ _ (by omega), aj_up_ne _ _ _ (by omega), aj_up_ne _ _ _ (by omega), aj_up_ne _ _ _ (by omega), aj_up_ne _ _ _ (by omega), aj_up_ne _ _ _ c1, aj_up_ne _ _ _ (by omega)]; exact a1 r' c1 c2, fun x hx => ?_, ?_, fun a ha => ?_, fun x hx hne2 => ?_, fun a i hi hl => ?_, hn⟩
  · simp only [aj_up_app, Int.reduceEq, ↓reduceIte]
    rw [if_neg hx]
    exact a2 x hx
  · simp only [aj_up_app, Int.reduceEq, ↓reduceIte]
    push_cast
    rfl
  · simp only [aj_up_app, Int.reduceEq, ↓reduceIte]
    have ha' : a < q.1 + 1 := ha
    show (if (a : Int) = (q.1 : Int) then (t : Int) else g1 7 a) = (nb_up q.2.1 q.1 t a : Nat) ∧ (if ((nb_up q.2.1 q.1 t a : Nat) : Int) = (t : Int) then (q.1 : Int) else g1 5 (nb_up q.2.1 q.1 t a : Nat)) = a ∧ (a = 0 → (if (a : Int) = (q.1 : Int) then ((j / k : Nat) : Int) else g1 8 a) = -1 ∧ (if (a : Int) = (q.1 : Int) then ((j % k : Nat) : Int) else g1 9 a) = -1) ∧ (0 < a → (if (a : Int) = (q.1 : Int) then ((j / k : Nat) : Int) else g1 8 a) = (nb_up q.2.2.1 q.1 (j / k) a : Nat) ∧ (if (a : Int) = (q.1 : Int) then ((j % k : Nat) : Int) else g1 9 a) = (nb_up q.2.2.2 q.1 (j % k) a : Nat))
    have hpos : 0 < q.1 := a7.1
    by_cases e : a = q.1
    · subst e
      rw [if_pos rfl, if_pos rfl, if_pos rfl, nb_up_self, nb_up_self, nb_up_self, if_pos rfl]
      exact ⟨rfl, rfl, fun z => by omega, fun _ => ⟨rfl, rfl⟩⟩
    · have hca : ¬ (a : Int) = (q.1 : Int) := by omega
      have hcm : ¬ ((q.2.1 a : Nat) : Int) = (t : Int) := fun z => hne a (by omega) (by omega)
      rw [nb_up_ne _ _ e, nb_up_ne _ _ e, nb_up_ne _ _ e]
      simp only [if_neg hca, if_neg hcm]
      exact a4 a (by omega)
  · simp only [aj_up_app, Int.reduceEq, ↓reduceIte]
    have h1 : nb_up q.2.1 q.1 t q.1 ≠ x := hne2 q.1 (Nat.lt_succ_self _)
    rw [nb_up_self] at h1
    rw [if_neg (fun z => h1 (by omega))]
    refine a5 x hx (fun a ha z => hne2 a (Nat.lt_succ_of_lt ha) ?_)
    show nb_up q.2.1 q.1 t a = x
    rw [nb_up_ne _ _ (by omega)]
    exact z
  · simp only [aj_up_app, Int.reduceEq, ↓reduceIte]
    show ∃ b : Nat, b < q.1 + 1 ∧ nb_up q.2.1 q.1 t b = tw (nx (nb_up q.2.1 q.1 t a) i) ∧ _ = (b : Int) ∧ _ = ((ou (nb_up q.2.1 q.1 t a) i : Nat) : Int)
    by_cases c : a * k + i = j
    · obtain ⟨e1, e2⟩ := ij_key hk hi c
      rw [if_pos (by rw [c]), if_pos (by rw [c])]
      have : nb_up q.2.1 q.1 t a = q.2.1 (j / k) := by rw [nb_up_ne _ _ (by omega), e1]
      rw [this, ← e2]
      exact ⟨q.1, Nat.lt_succ_self _, by rw [nb_up_self, htt], rfl, rfl⟩
    · rw [if_neg (by omega), if_neg (by omega)]
      have ha : a < q.1 := by
        have : a ≤ j / k := by rw [Nat.le_div_iff_mul_le hk]; omega
        omega
      obtain ⟨b, b1, b2, b3, b4⟩ := a6 a i hi (by omega)
      exact ⟨b, by omega, by rw [nb_up_ne _ _ (by omega), nb_up_ne _ _ (by omega)]; exact b2, b3, by rw [nb_up_ne _ _ (by omega)]; exact b4⟩
end RD
theorem tw1_eq {k : Nat} {nx ou : Nat → Nat → Nat} {x c c' : Nat} (h : tw1 k nx ou x c) (h' : tw1 k nx ou x c') : c = c' := by
  rcases Nat.lt_trichotomy c c' with z | z | z
  · exact absurd h.2.1 (h'.2.2 c z)
  · exact z
  · exact absurd h'.2.1 (h.2.2 c' z)
/-- what reduce leaves -/
def rd_P (g : aj_G) (k n s0 : Nat) (nx ou : Nat → Nat → Nat) (tw : Nat → Nat) (N : Nat) (q : nb_T) : Prop :=
  tw_ok k n nx ou tw ∧ q = nb k nx tw s0 (N * k) ∧ q.1 = N ∧ nb_I k n nx tw s0 (N * k) q ∧ g 10 3 = N ∧
  (∀ a : Nat, a < N → g 7 a = q.2.1 a ∧ (a = 0 → g 8 a = -1 ∧ g 9 a = -1) ∧ (0 < a → g 8 a = q.2.2.1 a ∧ g 9 a = q.2.2.2 a)) ∧
  (∀ a i : Nat, i < k → a < N → ∃ b : Nat, b < N ∧ q.2.1 b = tw (nx (q.2.1 a) i) ∧ g 11 ((a : Int) * k + i) = b ∧ g 12 ((a : Int) * k + i) = ou (q.2.1 a) i) ∧
  ∀ x : Nat, x < n → (∀ a : Nat, a < N → q.2.1 a = tw x → g 5 x = a) ∧ ((∀ a, a < N → q.2.1 a ≠ tw x) → g 5 x = -1)
def rd_F (g g1 : aj_G) : Prop := (∀ r', r' < 5 ∨ (12 < r' ∧ r' < 44) ∨ 52 < r' → g1 r' = g r') ∧ (∀ j, j ≠ 3 → g1 10 j = g 10 j) ∧ (∀ j, j ≠ 7 → g1 44 j = g 44 j) ∧ ∀ j, j ≠ 1 → g1 45 j = g 45 j
end
section
/-! Reduction.reduce: the walk -/
set_option maxHeartbeats 4000000 in
theorem k_red_tail {al : Prop} {X : Option (Nat × (Int → Int))} {d : Nat} {sh : List aj_S} {Q : aj_R → List aj_S → aj_G → Prop} {L L10 k n s0 : Nat} {nx ou : Nat → Nat → Nat} {g2 : aj_G} {i inp j x t : Nat} {v : Int} (hr : rds sh g2) (hA : mcm sh g2 1 L k n nx ou) (hM : mcs sh g2 10 L10) (h10 : g2 10 0 = k) (hj : i * k + inp = j) (hjL : j < L10) (hi8 : i < 8) (h7 : g2 7 i = (x : Nat)) (hx : x < n) (hin : inp < k) (ht8 : t < 8) (h5 : g2 5 t = v)
    (K : aj_wp nE al al X m_Reduction_reduce (d + 3) 0 0 69 [some (1, 4), some (1, 1), some (0, (s0 : Int)), some (1, 44), some (0, (i : Int)), some (0, (inp : Int) + 1), none] [] sh (aj_up (aj_up g2 11 (j : Int) v) 12 (j : Int) (ou x inp : Nat)) Q) : aj_wp nE al al X m_Reduction_reduce (d + 3) 0 0 119 [some (1, 4), some (1, 1), some (0, (s0 : Int)), some (1, 44), some (0, (i : Int)), some (0, (inp : Int)), some (0, (t : Int))] [] sh g2 Q := by
  have hid := ij_cast hj
  refine aj_aload_n 0 120 (dx d_Reduction_reduce 63 rfl) rfl rfl rfl ?_
  refine aj_getf 123 fl_Reduction_32 (dx d_Reduction_reduce 64 rfl) rfl hr.1 ?_
  rw [hr.2.1.1]
  refine aj_iload 4 125 (dx d_Reduction_reduce 65 rfl) rfl rfl ?_
  refine aj_iload 5 127 (dx d_Reduction_reduce 66 rfl) rfl rfl ?_
  refine aj_aload_n 0 128 (dx d_Reduction_reduce 67 rfl) rfl rfl rfl ?_
  refine aj_getf 131 fl_Reduction_9 (dx d_Reduction_reduce 68 rfl) rfl hr.1 ?_
  rw [hr.2.1.2.1]
  refine aj_iload 6 133 (dx d_Reduction_reduce 69 rfl) rfl rfl ?_
  refine aj_iald 134 (dx d_Reduction_reduce 70 rfl) rfl hr.2.2.1 rfl (by omega) (by omega) ?_
  rw [h5]
  refine aj_aload_n 1 135 (dx d_Reduction_reduce 71 rfl) rfl rfl rfl ?_
  refine aj_aload_n 0 136 (dx d_Reduction_reduce 72 rfl) rfl rfl rfl ?_
  refine aj_getf 139 fl_Reduction_18 (dx d_Reduction_reduce 73 rfl) rfl hr.1 ?_
  rw [hr.2.1.2.2.2.1]
  refine aj_iload 4 141 (dx d_Reduction_reduce 74 rfl) rfl rfl ?_
  refine aj_iald 142 (dx d_Reduction_reduce 75 rfl) rfl hr.2.2.2.2.1 rfl (by omega) (by omega) ?_
  rw [h7]
  refine aj_iload 5 144 (dx d_Reduction_reduce 76 rfl) rfl rfl ?_
  refine aj_callV2 147 cl_Reduction_54 (dx d_Reduction_reduce 77 rfl) rfl rfl rfl rfl rfl rfl hA.1.1 (s_output hA hx hin ?_)
  change aj_wp _ _ _ _ _ _ _ _ _ _ _ _ _ _
  refine aj_callV4 150 cl_Reduction_57 (dx d_Reduction_reduce 78 rfl) rfl rfl rfl rfl rfl rfl hr.2.2.2.2.2.2.2 (k_Machine_set hM (by rw [h10, hid]; omega) (by rw [h10, hid]; omega) ?_)
  change aj_wp _ _ _ _ _ _ _ _ _ _ _ _ _ _
  rw [h10, hid, show (10 : Int) + 1 = 11 from rfl, show (10 : Int) + 2 = 12 from rfl]
  refine aj_iinc 5 153 (dx d_Reduction_reduce 79 rfl) rfl rfl rfl ?_
  simp only [List.set]
  refine aj_goto 69 (dx d_Reduction_reduce 80 rfl) rfl ?_
  refine aj_forget 6 ?_
  simp only [List.set]
  exact K
theorem nb_mono_st {k : Nat} {nx : Nat → Nat → Nat} {tw : Nat → Nat} {j : Nat} (q : nb_T) : q.1 ≤ (nb_st k nx tw j q).1 := by
  unfold nb_st
  split
  · exact Nat.le_refl _
  · exact Nat.le_succ _
theorem pg_lt8 {k n s0 : Nat} {nx : Nat → Nat → Nat} {tw : Nat → Nat} {j : Nat} {q : nb_T} (hn8 : n ≤ 8) {t : Nat} (ht : t < n) (h : nb_I k n nx tw s0 j q) (hne : ∀ a, a < q.1 → q.2.1 a ≠ t) : q.1 < 8 := by
  have := pg_hole n (q.1 + 1) (fun a => if a < q.1 then q.2.1 a else t) (fun a ha => by
    by_cases c : a < q.1
    · rw [if_pos c]; exact (h.2.2.1 a c).1
    · rw [if_neg c]; exact ht) (fun a b ha hb e => by
    by_cases c : a < q.1
    · by_cases c2 : b < q.1
      · rw [if_pos c, if_pos c2] at e
        exact h.2.2.2.1 a b c c2 e
      · rw [if_pos c, if_neg c2] at e
        exact absurd e (hne a c)
    · by_cases c2 : b < q.1
      · rw [if_neg c, if_pos c2] at e
        exact absurd e.symm (hne b c2)
      · omega)
  omega
set_option maxHeartbeats 4000000 in
theorem k_red_in {al : Prop} {X : Option (Nat × (Int → Int))} {d : Nat} {sh : List aj_S} {Q : aj_R → List aj_S → aj_G → Prop} {L L10 k n s0 : Nat} {nx ou : Nat → Nat → Nat} {gt : aj_G} {tw : Nat → Nat} (hr : rds sh gt) (hA : mcm sh gt 1 L k n nx ou) (hM : mcs sh gt 10 L10) (h10 : gt 10 0 = k) (hL10 : 8 * k ≤ L10) (hn8 : n ≤ 8) (htw : tw_ok k n nx ou tw) (ht6 : ∀ x : Nat, x < n → gt 6 x = tw x) {i : Nat}
    (K : ∀ g1, rd_I gt g1 k n s0 nx ou tw ((i + 1) * k) (nb k nx tw s0 ((i + 1) * k)) → i < (nb k nx tw s0 ((i + 1) * k)).1 → aj_wp nE al al X m_Reduction_reduce (d + 3) 0 0 47 [some (1, 4), some (1, 1), some (0, (s0 : Int)), some (1, 44), some (0, (i : Int) + 1), none, none] [] sh g1 Q) :
    ∀ (m inp : Nat) (g1 : aj_G), inp ≤ k → k - inp = m → rd_I gt g1 k n s0 nx ou tw (i * k + inp) (nb k nx tw s0 (i * k + inp)) → i < (nb k nx tw s0 (i * k + inp)).1 →
    aj_wp nE al al X m_Reduction_reduce (d + 3) 0 0 69 [some (1, 4), some (1, 1), some (0, (s0 : Int)), some (1, 44), some (0, (i : Int)), some (0, (inp : Int)), none] [] sh g1 Q := by
  intro m
  induction m using Nat.strongRecOn with
  | ind m ih =>
    intro inp g1 hin0 hmm hI hi
    have hr1 := rds_of hr (hI.1 4 (by omega) (by omega))
    have hA1 := mcm_of hA (hI.1 1 (by omega) (by omega)) (hI.1 2 (by omega) (by omega)) (hI.1 3 (by omega) (by omega))
    have hc : ∀ s i, s < n → i < k → nx s i < n := fun s i h1 h2 => (hA.2.2.2.2.2.2 s i h1 h2).2.2.1
    have hk3 := hA.2.2.2.2.1
    have hk0 : 0 < k := by omega
    have hNn := nb_le hI.2.2.2.2.2.2
    have h100 : g1 10 0 = k := by rw [hI.2.1 0 (by omega)]; exact h10
    have hM1 : mcs sh g1 10 L10 := ⟨hM.1, by rw [hI.2.1 1 (by omega)]; exact hM.2.1, by rw [hI.2.1 2 (by omega)]; exact hM.2.2.1, hM.2.2.2⟩
    refine aj_iload 5 71 (dx d_Reduction_reduce 37 rfl) rfl rfl ?_
    refine aj_aload_n 1 72 (dx d_Reduction_reduce 38 rfl) rfl rfl rfl ?_
    refine aj_getf 75 fl_Reduction_47 (dx d_Reduction_reduce 39 rfl) rfl hA1.1.1 ?_
    refine aj_icmp_ge 156 78 (dx d_Reduction_reduce 40 rfl) rfl rfl (by unfold aj_I; omega) (by rw [hA1.2.1]; unfold aj_I; omega) (fun h75 => ?_) (fun h75 => ?_)
    · rw [hA1.2.1] at h75
      have he : inp = k := by omega
      rw [he] at hI hi
      have he2 : (i + 1) * k = i * k + k := by rw [Nat.add_mul, Nat.one_mul]
      rw [← he2] at hI hi
      refine aj_iinc 4 159 (dx d_Reduction_reduce 81 rfl) rfl rfl rfl ?_
      simp only [List.set]
      refine aj_goto 47 (dx d_Reduction_reduce 82 rfl) rfl ?_
      refine aj_forget 5 ?_
      simp only [List.set]
      exact K g1 hI hi
    · rw [hA1.2.1] at h75
      have hin : inp < k := by omega
      obtain ⟨ek1, ek2⟩ := ij_key hk0 hin rfl
      have hmb := (hI.2.2.2.2.2.2.2.2.1 i hi)
      have hnx : nx ((nb k nx tw s0 (i * k + inp)).2.1 i) inp < n := hc _ _ hmb.1 hin
      have htl := tw_lt htw hnx
      have hjL : i * k + inp < L10 := by
        have h1 : (i + 1) * k ≤ 8 * k := Nat.mul_le_mul_right k (by omega)
        rw [Nat.add_mul] at h1
        omega
      have hjd : (i * k + inp) / k < (nb k nx tw s0 (i * k + inp)).1 := by rw [ek1]; exact hi
      have hnum : (g1 5 (tw (nx ((nb k nx tw s0 (i * k + inp)).2.1 i) inp) : Nat) = -1 ∧ ∀ a, a < (nb k nx tw s0 (i * k + inp)).1 → (nb k nx tw s0 (i * k + inp)).2.1 a ≠ tw (nx ((nb k nx tw s0 (i * k + inp)).2.1 i) inp)) ∨ ∃ b : Nat, g1 5 (tw (nx ((nb k nx tw s0 (i * k + inp)).2.1 i) inp) : Nat) = b ∧ b < (nb k nx tw s0 (i * k + inp)).1 ∧ (nb k nx tw s0 (i * k + inp)).2.1 b = tw (nx ((nb k nx tw s0 (i * k + inp)).2.1 i) inp) := by
        by_cases hm : ∃ b, b < (nb k nx tw s0 (i * k + inp)).1 ∧ (nb k nx tw s0 (i * k + inp)).2.1 b = tw (nx ((nb k nx tw s0 (i * k + inp)).2.1 i) inp)
        · obtain ⟨b, b1, b2⟩ := hm
          exact Or.inr ⟨b, by rw [← b2]; exact (hI.2.2.2.1 b b1).2.1, b1, b2⟩
        · have hne : ∀ a, a < (nb k nx tw s0 (i * k + inp)).1 → (nb k nx tw s0 (i * k + inp)).2.1 a ≠ tw (nx ((nb k nx tw s0 (i * k + inp)).2.1 i) inp) := fun a h1 h2 => hm ⟨a, h1, h2⟩
          exact Or.inl ⟨hI.2.2.2.2.1 _ htl hne, hne⟩
      refine aj_aload_n 0 79 (dx d_Reduction_reduce 41 rfl) rfl rfl rfl ?_
      refine aj_getf 82 fl_Reduction_15 (dx d_Reduction_reduce 42 rfl) rfl hr1.1 ?_
      rw [hr1.2.1.2.2.1]
      refine aj_aload_n 1 83 (dx d_Reduction_reduce 43 rfl) rfl rfl rfl ?_
      refine aj_aload_n 0 84 (dx d_Reduction_reduce 44 rfl) rfl rfl rfl ?_
      refine aj_getf 87 fl_Reduction_18 (dx d_Reduction_reduce 45 rfl) rfl hr1.1 ?_
      rw [hr1.2.1.2.2.2.1]
      refine aj_iload 4 89 (dx d_Reduction_reduce 46 rfl) rfl rfl ?_
      refine aj_iald 90 (dx d_Reduction_reduce 47 rfl) rfl hr1.2.2.2.2.1 rfl (by omega) (by omega) ?_
      rw [(hI.2.2.2.1 i hi).1]
      refine aj_iload 5 92 (dx d_Reduction_reduce 48 rfl) rfl rfl ?_
      refine aj_callV2 95 cl_Reduction_50 (dx d_Reduction_reduce 49 rfl) rfl rfl rfl rfl rfl rfl hA1.1.1 (s_next hA1 hmb.1 hin ?_)
      change aj_wp _ _ _ _ _ _ _ _ _ _ _ _ _ _
      refine aj_iald 96 (dx d_Reduction_reduce 50 rfl) rfl hr1.2.2.2.1 rfl (by omega) (by omega) ?_
      rw [show g1 6 = gt 6 from hI.1 6 (by omega) (by omega), ht6 _ hnx]
      refine aj_istore 6 98 (dx d_Reduction_reduce 51 rfl) rfl rfl ?_
      simp only [List.set]
      refine aj_aload_n 0 99 (dx d_Reduction_reduce 52 rfl) rfl rfl rfl ?_
      refine aj_getf 102 fl_Reduction_9 (dx d_Reduction_reduce 53 rfl) rfl hr1.1 ?_
      rw [hr1.2.1.2.1]
      refine aj_iload 6 104 (dx d_Reduction_reduce 54 rfl) rfl rfl ?_
      refine aj_iald 105 (dx d_Reduction_reduce 55 rfl) rfl hr1.2.2.1 rfl (by omega) (by omega) ?_
      refine aj_iconst 106 (dx d_Reduction_reduce 56 rfl) rfl ?_
      refine aj_icmp_ne 119 109 (dx d_Reduction_reduce 57 rfl) rfl rfl (by rcases hnum with z | ⟨b, z, zb, -⟩; (rw [z.1]; unfold aj_I; omega); (rw [z]; unfold aj_I; omega)) (by unfold aj_I; omega) (fun h106 => ?_) (fun h106 => ?_)
      · rcases hnum with ⟨z, -⟩ | ⟨b, z, hb, eb⟩
        · exact absurd z h106
        · refine k_red_tail hr1 hA1 hM1 h100 rfl hjL (by omega) (hI.2.2.2.1 i hi).1 hmb.1 hin (by omega) z ?_
          have hst := rd_old hk0 htw hc hI hjd hb (by rw [ek1, ek2]; exact eb)
          rw [ek1, ek2] at hst
          exact ih _ (by omega) (inp + 1) _ (by omega) rfl hst (Nat.lt_of_lt_of_le hi (nb_mono_st _))
      · refine aj_aload_n 0 110 (dx d_Reduction_reduce 58 rfl) rfl rfl rfl ?_
        refine aj_iload 6 112 (dx d_Reduction_reduce 59 rfl) rfl rfl ?_
        refine aj_iload 4 114 (dx d_Reduction_reduce 60 rfl) rfl rfl ?_
        refine aj_iload 5 116 (dx d_Reduction_reduce 61 rfl) rfl rfl ?_
        refine aj_callV3 119 cl_Reduction_44 (dx d_Reduction_reduce 62 rfl) rfl rfl rfl rfl rfl rfl hr1.1 (k_addState hr1 (by rw [hI.2.2.1]; omega) (by rw [hI.2.2.1]; have := pg_lt8 hn8 htl hI.2.2.2.2.2.2 (by rcases hnum with z | ⟨b, z, -, -⟩; exact z.2; rw [z] at h106; omega); omega) (by omega) (by omega) ?_)
        change aj_wp _ _ _ _ _ _ _ _ _ _ _ _ _ _
        have hne := (by rcases hnum with z | ⟨b, z, -, -⟩; exact z.2; rw [z] at h106; omega : ∀ a, a < (nb k nx tw s0 (i * k + inp)).1 → (nb k nx tw s0 (i * k + inp)).2.1 a ≠ tw (nx ((nb k nx tw s0 (i * k + inp)).2.1 i) inp))
        have hst := rd_new hk0 htw hc hI hjd (by rw [ek1, ek2]; exact hne)
        rw [ek1, ek2] at hst
        refine k_red_tail (L := L) (nx := nx) (v := ((nb k nx tw s0 (i * k + inp)).1 : Nat)) (x := (nb k nx tw s0 (i * k + inp)).2.1 i) ?_ ?_ ?_ ?_ rfl hjL (by omega) ?_ hmb.1 hin (by omega) ?_ (ih _ (by omega) (inp + 1) _ (by omega) rfl hst (Nat.lt_of_lt_of_le hi (nb_mono_st _)))
        · refine rds_of hr1 ?_
          unfold as_g
          simp only [aj_up_app, Int.reduceEq, Int.reduceAdd, ↓reduceIte]
        · refine mcm_of hA1 ?_ ?_ ?_ <;> (unfold as_g; simp only [aj_up_app, Int.reduceEq, Int.reduceAdd, ↓reduceIte])
        · refine ⟨hM.1, ?_, ?_, hM.2.2.2⟩
          · unfold as_g
            simp only [aj_up_app, Int.reduceEq, Int.reduceAdd, ↓reduceIte]
            exact hM1.2.1
          · unfold as_g
            simp only [aj_up_app, Int.reduceEq, Int.reduceAdd, ↓reduceIte]
            exact hM1.2.2.1
        · unfold as_g
          simp only [aj_up_app, Int.reduceEq, Int.reduceAdd, ↓reduceIte]
          exact h100
        · unfold as_g
          simp only [aj_up_app, Int.reduceEq, Int.reduceAdd, ↓reduceIte]
          rw [hI.2.2.1, if_neg (by omega)]
          exact (hI.2.2.2.1 i hi).1
        · unfold as_g
          simp only [aj_up_app, Int.reduceEq, Int.reduceAdd, ↓reduceIte]
          exact hI.2.2.1
set_option maxHeartbeats 4000000 in
theorem k_red_3 {al : Prop} {X : Option (Nat × (Int → Int))} {d : Nat} {sh : List aj_S} {Q : aj_R → List aj_S → aj_G → Prop} {L L10 k n s0 : Nat} {nx ou : Nat → Nat → Nat} {gt : aj_G} {tw : Nat → Nat} (hr : rds sh gt) (hA : mcm sh gt 1 L k n nx ou) (hM : mcs sh gt 10 L10) (h10 : gt 10 0 = k) (hL10 : 8 * k ≤ L10) (hn8 : n ≤ 8) (htw : tw_ok k n nx ou tw) (ht6 : ∀ x : Nat, x < n → gt 6 x = tw x) (hk : ∀ g1 N q, (∀ r', r' ≠ 5 → (r' < 7 ∨ 12 < r') → g1 r' = gt r') → (∀ x, x ≠ 3 → g1 10 x = gt 10 x) → rd_P g1 k n s0 nx ou tw N q → Q (.inl none) sh g1) {g3 : aj_G} {N : Nat} (hN : (nb k nx tw s0 (N * k)).1 = N) (hI : rd_I gt g3 k n s0 nx ou tw (N * k) (nb k nx tw s0 (N * k))) :
    ∀ (m x : Nat) (g1 : aj_G), x ≤ n → n - x = m → (∀ r', r' ≠ 5 → g1 r' = g3 r') → (∀ y : Nat, y < n → g1 5 y = if y < x then g3 5 (tw y : Nat) else g3 5 y) →
    aj_wp nE al al X m_Reduction_reduce (d + 3) 0 0 165 [some (1, 4), some (1, 1), some (0, (s0 : Int)), some (1, 44), some (0, (x : Int)), none, none] [] sh g1 Q := by
  intro m
  induction m using Nat.strongRecOn with
  | ind m ih =>
    intro x g1 hx0 hmm hE hV
    have hr1 := rds_of hr (by rw [hE 4 (by omega)]; exact hI.1 4 (by omega) (by omega) : g1 4 = gt 4)
    have hA1 := mcm_of hA (by rw [hE 1 (by omega)]; exact hI.1 1 (by omega) (by omega) : g1 1 = gt 1) (by rw [show (1 : Int) + 1 = 2 from rfl, hE 2 (by omega)]; exact hI.1 2 (by omega) (by omega) : g1 (1 + 1) = gt (1 + 1)) (by rw [show (1 : Int) + 2 = 3 from rfl, hE 3 (by omega)]; exact hI.1 3 (by omega) (by omega) : g1 (1 + 2) = gt (1 + 2))
    refine aj_iload 4 167 (dx d_Reduction_reduce 85 rfl) rfl rfl ?_
    refine aj_aload_n 1 168 (dx d_Reduction_reduce 86 rfl) rfl rfl rfl ?_
    refine aj_getf 171 fl_Reduction_40 (dx d_Reduction_reduce 87 rfl) rfl hA1.1.1 ?_
    refine aj_icmp_ge 199 174 (dx d_Reduction_reduce 88 rfl) rfl rfl (by unfold aj_I; omega) (by rw [hA1.2.2.1]; unfold aj_I; omega) (fun h171 => ?_) (fun h171 => ?_)
    · rw [hA1.2.2.1] at h171
      refine aj_vret (dx d_Reduction_reduce 102 rfl) rfl id ?_
      have hxn : x = n := by omega
      subst hxn
      refine hk g1 N _ (fun r' c1 c2 => by rw [hE r' c1]; exact hI.1 r' c1 c2) (fun y hy => by rw [hE 10 (by omega)]; exact hI.2.1 y hy) ⟨htw, rfl, hN, hI.2.2.2.2.2.2, by rw [hE 10 (by omega), hI.2.2.1, hN], fun a ha => ?_, fun a i hi ha => ?_, fun y hy => ⟨fun a ha e => ?_, fun hne => ?_⟩⟩
      · rw [hE 7 (by omega), hE 8 (by omega), hE 9 (by omega)]
        obtain ⟨z1, z2, z3, z4⟩ := hI.2.2.2.1 a (by omega)
        exact ⟨z1, z3, z4⟩
      · rw [hE 11 (by omega), hE 12 (by omega)]
        have hl : a * k + i < N * k := by
          have h1 : (a + 1) * k ≤ N * k := Nat.mul_le_mul_right k ha
          rw [Nat.add_mul] at h1
          omega
        obtain ⟨b, b1, b2, b3, b4⟩ := hI.2.2.2.2.2.1 a i hi hl
        rw [ij_cast (rfl : a * k + i = a * k + i)]
        exact ⟨b, by omega, b2, b3, b4⟩
      · rw [hV y hy, if_pos hy, ← e]
        exact (hI.2.2.2.1 a (by omega)).2.1
      · rw [hV y hy, if_pos hy]
        exact hI.2.2.2.2.1 _ (tw_lt htw hy) (fun a ha => hne a (by omega))
    · rw [hA1.2.2.1] at h171
      have hx : x < n := by omega
      have e6 : g1 6 x = tw x := by rw [hE 6 (by omega), hI.1 6 (by omega) (by omega)]; exact ht6 x hx
      have htl := tw_lt htw hx
      have hval : g1 5 (tw x : Nat) = g3 5 (tw x : Nat) := by
        rw [hV _ htl]
        by_cases c : tw x < x
        · rw [if_pos c, tw_tw htw hx]
        · rw [if_neg c]
      refine aj_aload_n 0 175 (dx d_Reduction_reduce 89 rfl) rfl rfl rfl ?_
      refine aj_getf 178 fl_Reduction_9 (dx d_Reduction_reduce 90 rfl) rfl hr1.1 ?_
      rw [hr1.2.1.2.1]
      refine aj_iload 4 180 (dx d_Reduction_reduce 91 rfl) rfl rfl ?_
      refine aj_aload_n 0 181 (dx d_Reduction_reduce 92 rfl) rfl rfl rfl ?_
      refine aj_getf 184 fl_Reduction_9 (dx d_Reduction_reduce 93 rfl) rfl hr1.1 ?_
      rw [hr1.2.1.2.1]
      refine aj_aload_n 0 185 (dx d_Reduction_reduce 94 rfl) rfl rfl rfl ?_
      refine aj_getf 188 fl_Reduction_15 (dx d_Reduction_reduce 95 rfl) rfl hr1.1 ?_
      rw [hr1.2.1.2.2.1]
      refine aj_iload 4 190 (dx d_Reduction_reduce 96 rfl) rfl rfl ?_
      refine aj_iald 191 (dx d_Reduction_reduce 97 rfl) rfl hr1.2.2.2.1 rfl (by omega) (by omega) ?_
      rw [e6]
      refine aj_iald 192 (dx d_Reduction_reduce 98 rfl) rfl hr1.2.2.1 rfl (by omega) (by omega) ?_
      rw [hval]
      refine aj_iast 193 (dx d_Reduction_reduce 99 rfl) rfl hr1.2.2.1 rfl (by omega) (by omega) ?_
      refine aj_iinc 4 196 (dx d_Reduction_reduce 100 rfl) rfl rfl rfl ?_
      simp only [List.set]
      refine aj_goto 165 (dx d_Reduction_reduce 101 rfl) rfl ?_
      have hih := ih _ (by omega) (x + 1) (aj_up g1 5 (x : Int) (g3 5 (tw x : Nat))) (by omega) rfl (fun r' c => by rw [aj_up_ne _ _ _ c]; exact hE r' c) (fun y hy => by
        rw [aj_up_at]
        by_cases c : y = x
        · subst c
          rw [if_pos ⟨rfl, rfl⟩, if_pos (by omega)]
        · rw [if_neg (by omega), hV y hy]
          by_cases c2 : y < x
          · rw [if_pos c2, if_pos (by omega)]
          · rw [if_neg c2, if_neg (by omega)])
      rw [show ((x : Nat) : Int) + 1 = ((x + 1 : Nat) : Int) by omega]
      exact hih
set_option maxHeartbeats 4000000 in
theorem k_red_2 {al : Prop} {X : Option (Nat × (Int → Int))} {d : Nat} {sh : List aj_S} {Q : aj_R → List aj_S → aj_G → Prop} {L L10 k n s0 : Nat} {nx ou : Nat → Nat → Nat} {gt : aj_G} {tw : Nat → Nat} (hr : rds sh gt) (hA : mcm sh gt 1 L k n nx ou) (hM : mcs sh gt 10 L10) (h10 : gt 10 0 = k) (hL10 : 8 * k ≤ L10) (hn8 : n ≤ 8) (htw : tw_ok k n nx ou tw) (ht6 : ∀ x : Nat, x < n → gt 6 x = tw x) (hk : ∀ g1 N q, (∀ r', r' ≠ 5 → (r' < 7 ∨ 12 < r') → g1 r' = gt r') → (∀ x, x ≠ 3 → g1 10 x = gt 10 x) → rd_P g1 k n s0 nx ou tw N q → Q (.inl none) sh g1) :
    ∀ (m i : Nat) (g1 : aj_G), i ≤ (nb k nx tw s0 (i * k)).1 → 8 - i = m → rd_I gt g1 k n s0 nx ou tw (i * k) (nb k nx tw s0 (i * k)) →
    aj_wp nE al al X m_Reduction_reduce (d + 3) 0 0 47 [some (1, 4), some (1, 1), some (0, (s0 : Int)), some (1, 44), some (0, (i : Int)), none, none] [] sh g1 Q := by
  intro m
  induction m using Nat.strongRecOn with
  | ind m ih =>
    intro i g1 hi0 hmm hI
    have hr1 := rds_of hr (hI.1 4 (by omega) (by omega))
    have hA1 := mcm_of hA (hI.1 1 (by omega) (by omega)) (hI.1 2 (by omega) (by omega)) (hI.1 3 (by omega) (by omega))
    have hc : ∀ s i, s < n → i < k → nx s i < n := fun s i h1 h2 => (hA.2.2.2.2.2.2 s i h1 h2).2.2.1
    have hk3 := hA.2.2.2.2.1
    have hk0 : 0 < k := by omega
    have hNn := nb_le hI.2.2.2.2.2.2
    have h100 : g1 10 0 = k := by rw [hI.2.1 0 (by omega)]; exact h10
    have hM1 : mcs sh g1 10 L10 := ⟨hM.1, by rw [hI.2.1 1 (by omega)]; exact hM.2.1, by rw [hI.2.1 2 (by omega)]; exact hM.2.2.1, hM.2.2.2⟩
    refine aj_iload 4 49 (dx d_Reduction_reduce 27 rfl) rfl rfl ?_
    refine aj_bipush 51 (dx d_Reduction_reduce 28 rfl) rfl (by decide +kernel) ?_
    refine aj_icmp_ge 162 54 (dx d_Reduction_reduce 29 rfl) rfl rfl (by unfold aj_I; omega) (by unfold aj_I; omega) (fun h51 => ?_) (fun h51 => ?_)
    · have hNi : (nb k nx tw s0 (i * k)).1 = i := by omega
      refine aj_iconst 163 (dx d_Reduction_reduce 83 rfl) rfl ?_
      refine aj_istore 4 165 (dx d_Reduction_reduce 84 rfl) rfl rfl ?_
      simp only [List.set]
      exact k_red_3 hr hA hM h10 hL10 hn8 htw ht6 hk (N := i) hNi hI _ 0 g1 (Nat.zero_le _) rfl (fun _ _ => rfl) (fun y _ => by rw [if_neg (by omega)])
    · refine aj_iload 4 56 (dx d_Reduction_reduce 30 rfl) rfl rfl ?_
      refine aj_aload_n 0 57 (dx d_Reduction_reduce 31 rfl) rfl rfl rfl ?_
      refine aj_getf 60 fl_Reduction_32 (dx d_Reduction_reduce 32 rfl) rfl hr1.1 ?_
      rw [hr1.2.1.1]
      refine aj_getf 63 fl_Reduction_40 (dx d_Reduction_reduce 33 rfl) rfl hM1.1 ?_
      refine aj_icmp_ge 162 66 (dx d_Reduction_reduce 34 rfl) rfl rfl (by unfold aj_I; omega) (by rw [hI.2.2.1]; unfold aj_I; omega) (fun h63 => ?_) (fun h63 => ?_)
      · rw [hI.2.2.1] at h63
        have hNi : (nb k nx tw s0 (i * k)).1 = i := by omega
        refine aj_iconst 163 (dx d_Reduction_reduce 83 rfl) rfl ?_
        refine aj_istore 4 165 (dx d_Reduction_reduce 84 rfl) rfl rfl ?_
        simp only [List.set]
        exact k_red_3 hr hA hM h10 hL10 hn8 htw ht6 hk (N := i) hNi hI _ 0 g1 (Nat.zero_le _) rfl (fun _ _ => rfl) (fun y _ => by rw [if_neg (by omega)])
      · rw [hI.2.2.1] at h63
        refine aj_iconst 67 (dx d_Reduction_reduce 35 rfl) rfl ?_
        refine aj_istore 5 69 (dx d_Reduction_reduce 36 rfl) rfl rfl ?_
        simp only [List.set]
        refine k_red_in hr hA hM h10 hL10 hn8 htw ht6 (fun g2 hI2 hi2 => ?_) _ 0 g1 (Nat.zero_le _) rfl hI (by show i < (nb k nx tw s0 (i * k)).1; omega)
        have := ih _ (by omega) (i + 1) g2 hi2 rfl hI2
        rw [show ((i : Nat) : Int) + 1 = ((i + 1 : Nat) : Int) by omega]
        exact this
set_option maxHeartbeats 4000000 in
theorem k_red_1 {al : Prop} {X : Option (Nat × (Int → Int))} {d : Nat} {sh : List aj_S} {Q : aj_R → List aj_S → aj_G → Prop} {L L10 k n s0 : Nat} {nx ou : Nat → Nat → Nat} {gt : aj_G} {tw : Nat → Nat} (hr : rds sh gt) (hA : mcm sh gt 1 L k n nx ou) (hM : mcs sh gt 10 L10) (h10 : gt 10 0 = k) (hL10 : 8 * k ≤ L10) (hn8 : n ≤ 8) (htw : tw_ok k n nx ou tw) (ht6 : ∀ x : Nat, x < n → gt 6 x = tw x) (hk : ∀ g1 N q, (∀ r', r' ≠ 5 → (r' < 7 ∨ 12 < r') → g1 r' = gt r') → (∀ x, x ≠ 3 → g1 10 x = gt 10 x) → rd_P g1 k n s0 nx ou tw N q → Q (.inl none) sh g1) (hs0 : s0 < n) (h103 : gt 10 3 = 0) :
    ∀ (m x : Nat) (g1 : aj_G), x ≤ n → n - x = m → (∀ r', r' ≠ 5 → g1 r' = gt r') → (∀ y : Nat, y < x → g1 5 y = -1) →
    aj_wp nE al al X m_Reduction_reduce (d + 3) 0 0 9 [some (1, 4), some (1, 1), some (0, (s0 : Int)), some (1, 44), some (0, (x : Int)), none, none] [] sh g1 Q := by
  intro m
  induction m using Nat.strongRecOn with
  | ind m ih =>
    intro x g1 hx0 hmm hE hV
    have hr1 := rds_of hr (hE 4 (by omega))
    have hA1 := mcm_of hA (hE 1 (by omega)) (hE _ (by omega)) (hE _ (by omega))
    refine aj_iload 4 11 (dx d_Reduction_reduce 6 rfl) rfl rfl ?_
    refine aj_aload_n 1 12 (dx d_Reduction_reduce 7 rfl) rfl rfl rfl ?_
    refine aj_getf 15 fl_Reduction_40 (dx d_Reduction_reduce 8 rfl) rfl hA1.1.1 ?_
    refine aj_icmp_ge 32 18 (dx d_Reduction_reduce 9 rfl) rfl rfl (by unfold aj_I; omega) (by rw [hA1.2.2.1]; unfold aj_I; omega) (fun h15 => ?_) (fun h15 => ?_)
    · rw [hA1.2.2.1] at h15
      have htl := tw_lt htw hs0
      refine aj_aload_n 0 33 (dx d_Reduction_reduce 17 rfl) rfl rfl rfl ?_
      refine aj_aload_n 0 34 (dx d_Reduction_reduce 18 rfl) rfl rfl rfl ?_
      refine aj_getf 37 fl_Reduction_15 (dx d_Reduction_reduce 19 rfl) rfl hr1.1 ?_
      rw [hr1.2.1.2.2.1]
      refine aj_iload_n 2 38 (dx d_Reduction_reduce 20 rfl) rfl rfl rfl ?_
      refine aj_iald 39 (dx d_Reduction_reduce 21 rfl) rfl hr1.2.2.2.1 rfl (by omega) (by omega) ?_
      rw [hE 6 (by omega), ht6 _ hs0]
      refine aj_iconst 40 (dx d_Reduction_reduce 22 rfl) rfl ?_
      refine aj_iconst 41 (dx d_Reduction_reduce 23 rfl) rfl ?_
      refine aj_callV3 44 cl_Reduction_44 (dx d_Reduction_reduce 24 rfl) rfl rfl rfl rfl rfl rfl hr1.1 (k_addState hr1 (by rw [hE 10 (by omega), h103]; omega) (by rw [hE 10 (by omega), h103]; omega) (by omega) (by omega) ?_)
      change aj_wp _ _ _ _ _ _ _ _ _ _ _ _ _ _
      refine aj_iconst 45 (dx d_Reduction_reduce 25 rfl) rfl ?_
      refine aj_istore 4 47 (dx d_Reduction_reduce 26 rfl) rfl rfl ?_
      simp only [List.set]
      have h103' : g1 10 3 = 0 := by rw [hE 10 (by omega)]; exact h103
      refine k_red_2 hr hA hM h10 hL10 hn8 htw ht6 hk _ 0 _ (by rw [Nat.zero_mul]; exact Nat.zero_le _) rfl ?_
      rw [Nat.zero_mul]
      have hn0 := nb_0 (k := k) hs0 htw
      refine ⟨fun r' c1 c2 => ?_, fun y hy => ?_, ?_, fun a ha => ?_, fun y hy hne => ?_, fun a i hi hl => absurd hl (Nat.not_lt_zero _), hn0⟩
      · unfold as_g
        rw [aj_up_ne _ _ _ (by omega), aj_up_ne _ _ _ (by omega), aj_up_ne _ _ _ (by omega), aj_up_ne _ _ _ c1, aj_up_ne _ _ _ (by omega)]
        exact hE r' c1
      · unfold as_g
        simp only [aj_up_app, Int.reduceEq, Int.reduceAdd, ↓reduceIte]
        rw [if_neg hy, hE 10 (by omega)]
      · unfold as_g
        simp only [aj_up_app, Int.reduceEq, Int.reduceAdd, ↓reduceIte]
        rw [h103']
        rfl
      · have ha0 : a = 0 := by
          have : a < 1 := ha
          omega
        subst ha0
        unfold as_g
        simp only [aj_up_app, Int.reduceEq, Int.reduceAdd, ↓reduceIte]
        rw [h103']
        exact ⟨if_pos rfl, if_pos rfl, fun _ => ⟨if_pos rfl, if_pos rfl⟩, fun z => absurd z (Nat.lt_irrefl _)⟩
      · have hne0 : tw s0 ≠ y := hne 0 Nat.one_pos
        unfold as_g
        simp only [aj_up_app, Int.reduceEq, Int.reduceAdd, ↓reduceIte]
        rw [if_neg (fun z => hne0 (by omega))]
        exact hV y (by omega)
    · rw [hA1.2.2.1] at h15
      refine aj_aload_n 0 19 (dx d_Reduction_reduce 10 rfl) rfl rfl rfl ?_
      refine aj_getf 22 fl_Reduction_9 (dx d_Reduction_reduce 11 rfl) rfl hr1.1 ?_
      rw [hr1.2.1.2.1]
      refine aj_iload 4 24 (dx d_Reduction_reduce 12 rfl) rfl rfl ?_
      refine aj_iconst 25 (dx d_Reduction_reduce 13 rfl) rfl ?_
      refine aj_iast 26 (dx d_Reduction_reduce 14 rfl) rfl hr1.2.2.1 rfl (by omega) (by omega) ?_
      refine aj_iinc 4 29 (dx d_Reduction_reduce 15 rfl) rfl rfl rfl ?_
      simp only [List.set]
      refine aj_goto 9 (dx d_Reduction_reduce 16 rfl) rfl ?_
      have hih := ih _ (by omega) (x + 1) (aj_up g1 5 (x : Int) (-1)) (by omega) rfl (fun r' c => by rw [aj_up_ne _ _ _ c]; exact hE r' c) (fun y hy => by
        rw [aj_up_at]
        by_cases c : y = x
        · rw [if_pos ⟨rfl, by omega⟩]
        · rw [if_neg (by omega)]
          exact hV y (by omega))
      rw [show ((x : Nat) : Int) + 1 = ((x + 1 : Nat) : Int) by omega]
      exact hih
set_option maxHeartbeats 4000000 in
theorem k_Reduction_reduce {al : Prop} {X : Option (Nat × (Int → Int))} {d : Nat} {sh : List aj_S} {Q : aj_R → List aj_S → aj_G → Prop} {L L10 k n s0 : Nat} {nx ou : Nat → Nat → Nat} {g : aj_G} (hr : rds sh g) (hA : mcm sh g 1 L k n nx ou) (hM : mcs sh g 10 L10) (h10 : g 10 0 = k) (hL10 : 8 * k ≤ L10) (hn8 : n ≤ 8) (hp : pss sh g 44) (hs0 : s0 < n) (h103 : g 10 3 = 0)
    (hk : ∀ g1 tw N q, rd_F g g1 → rd_P g1 k n s0 nx ou tw N q → Q (.inl none) sh g1) : aj_wp nE al al X m_Reduction_reduce (d + 3) 0 0 0 [some (1, 4), some (1, 1), some (0, (s0 : Int)), some (1, 44), none, none, none] [] sh g Q := by
  refine aj_aload_n 0 1 (dx d_Reduction_reduce 0 rfl) rfl rfl rfl ?_
  refine aj_aload_n 1 2 (dx d_Reduction_reduce 1 rfl) rfl rfl rfl ?_
  refine aj_aload_n 3 3 (dx d_Reduction_reduce 2 rfl) rfl rfl rfl ?_
  refine aj_callV2 6 cl_Reduction_36 (dx d_Reduction_reduce 3 rfl) rfl rfl rfl rfl rfl rfl hr.1 (k_findTwins hr hA hn8 hp (fun gt hF hT => ?_))
  change aj_wp _ _ _ _ _ _ _ _ _ _ _ _ _ _
  refine aj_iconst 7 (dx d_Reduction_reduce 4 rfl) rfl ?_
  refine aj_istore 4 9 (dx d_Reduction_reduce 5 rfl) rfl rfl ?_
  simp only [List.set]
  have htw : tw_ok k n nx ou (fun x => (gt 6 x).toNat) := by
    intro x hx
    obtain ⟨c, e, h1⟩ := hT x hx
    show (gt 6 x).toNat ≤ x ∧ al_k k nx ou x (gt 6 x).toNat ∧ ∀ t, t < (gt 6 x).toNat → ¬ al_k k nx ou x t
    rw [e, Int.toNat_natCast]
    exact h1
  have ht6 : ∀ x : Nat, x < n → gt 6 x = ((fun x : Nat => (gt 6 x).toNat) x : Nat) := by
    intro x hx
    obtain ⟨c, e, h1⟩ := hT x hx
    show gt 6 x = ((gt 6 x).toNat : Int)
    rw [e, Int.toNat_natCast]
  refine k_red_1 (rds_of hr (hF.1 4 (by omega) (by omega))) (mcm_of hA (hF.1 _ (by omega) (by omega)) (hF.1 _ (by omega) (by omega)) (hF.1 _ (by omega) (by omega))) (mcs_of hM (hF.1 10 (by omega) (by omega))) (by rw [hF.1 10 (by omega) (by omega)]; exact h10) hL10 hn8 htw ht6 (fun g1 N q c1 c2 c3 => hk g1 _ N q ⟨fun r' z => ?_, fun j z => ?_, fun j z => ?_, fun j z => ?_⟩ c3) hs0 (by rw [hF.1 10 (by omega) (by omega)]; exact h103) _ 0 gt (Nat.zero_le _) rfl (fun _ _ => rfl) (fun y hy => absurd hy (Nat.not_lt_zero _))
  · rw [c1 r' (by omega) (by omega)]
    exact hF.1 r' (by omega) (by omega)
  · rw [c2 j z, hF.1 10 (by omega) (by omega)]
  · rw [c1 44 (by omega) (by omega)]
    exact hF.2.1 j z
  · rw [c1 45 (by omega) (by omega)]
    exact hF.2.2 j z
end
section
/-! Family: has, firstWord, ownTells, chooseOwn. Places: 13 the family, 14 its words (25, 27 .. 39), 15 owned (16 .. 23), 24 ownSize -/
def fms (sh : List aj_S) (g : aj_G) : Prop := aj_sh sh 13 = some (.inr 4) ∧ (g 13 0 = 14 ∧ g 13 1 = 15 ∧ g 13 2 = 24) ∧ aj_sh sh 14 = some (.inl (3, 8)) ∧ aj_sh sh 15 = some (.inl (4, 8)) ∧ aj_sh sh 24 = some (.inl (0, 8)) ∧
  ∀ w : Nat, w < 8 → g 14 w = 25 + 2 * (w : Int) ∧ wds sh g (25 + 2 * (w : Int)) ∧ g 15 w = 16 + (w : Int) ∧ aj_sh sh (16 + (w : Int)) = some (.inl (0, 8))
theorem fms_of {sh : List aj_S} {g g1 : aj_G} (h : fms sh g) (e : ∀ j, j ≠ 3 → g1 13 j = g 13 j) (e4 : g1 14 = g 14) (e5 : g1 15 = g 15) (ew : ∀ w : Nat, w < 8 → g1 (25 + 2 * (w : Int)) 0 = g (25 + 2 * (w : Int)) 0) : fms sh g1 := by
  obtain ⟨h1, ⟨a, b, c⟩, h3, h4, h5, h6⟩ := h
  refine ⟨h1, ⟨by rw [e _ (by omega)]; exact a, by rw [e _ (by omega)]; exact b, by rw [e _ (by omega)]; exact c⟩, h3, h4, h5, fun w hw => ?_⟩
  obtain ⟨x1, x2, x3, x4⟩ := h6 w hw
  exact ⟨by rw [e4]; exact x1, ⟨x2.1, by rw [ew w hw]; exact x2.2.1, x2.2.2⟩, by rw [e5]; exact x3, x4⟩
/-- the family's words -/
def fam (g : aj_G) (k c : Nat) (F : Nat → List Nat) : Prop := g 13 3 = c ∧ c ≤ 8 ∧ ∀ w : Nat, w < c → wat g (25 + 2 * (w : Int)) (F w) ∧ wd_ok k (F w) ∧ (F w).length ≤ 100
theorem fam_of {g g1 : aj_G} {k c : Nat} {F : Nat → List Nat} (h : fam g k c F) (e3 : g1 13 3 = g 13 3) (e : ∀ w : Nat, w < 8 → g1 (25 + 2 * (w : Int)) = g (25 + 2 * (w : Int)) ∧ g1 (25 + 2 * (w : Int) + 1) = g (25 + 2 * (w : Int) + 1)) : fam g1 k c F := by
  refine ⟨by rw [e3]; exact h.1, h.2.1, fun w hw => ?_⟩
  obtain ⟨a, b⟩ := h.2.2 w hw
  obtain ⟨c1, c2⟩ := e w (by have := h.2.1; omega)
  refine ⟨?_, b⟩
  unfold wat at a ⊢
  rw [c1, c2]
  exact a
def oat (g : aj_G) (i : Nat) (o : Nat × (Nat → Nat)) : Prop := g 24 i = o.1 ∧ ∀ v : Nat, v < o.1 → g (16 + (i : Int)) v = o.2 v
set_option maxHeartbeats 4000000 in
theorem k_Family_has {al : Prop} {X : Option (Nat × (Int → Int))} {d : Nat} {sh : List aj_S} {g : aj_G} {Q : aj_R → List aj_S → aj_G → Prop} {w : Int}
    (hf : fms sh g) (hx : aj_I w) (hn : aj_I (g 13 3)) (hk : Q (.inl (some (0, if 0 ≤ w ∧ w < g 13 3 then 1 else 0))) sh g) : aj_wp nE al al X m_Family_has (d) 0 0 0 [some (1, 13), some (0, w)] [] sh g Q := by
  refine aj_iload_n 1 1 (dx d_Family_has 0 rfl) rfl rfl rfl ?_
  refine aj_if_lt 16 4 (dx d_Family_has 1 rfl) rfl rfl hx (fun h1 => ?_) (fun h1 => ?_)
  · refine aj_iconst 17 (dx d_Family_has 8 rfl) rfl ?_
    refine aj_zret (dx d_Family_has 9 rfl) rfl (by omega) id ?_
    first | (rw [if_pos (by omega)] at hk; exact hk) | (rw [if_neg (by omega)] at hk; exact hk)
  · refine aj_iload_n 1 5 (dx d_Family_has 2 rfl) rfl rfl rfl ?_
    refine aj_aload_n 0 6 (dx d_Family_has 3 rfl) rfl rfl rfl ?_
    refine aj_getf 9 fl_Family_26 (dx d_Family_has 4 rfl) rfl hf.1 ?_
    refine aj_icmp_ge 16 12 (dx d_Family_has 5 rfl) rfl rfl hx hn (fun h9 => ?_) (fun h9 => ?_)
    · refine aj_iconst 17 (dx d_Family_has 8 rfl) rfl ?_
      refine aj_zret (dx d_Family_has 9 rfl) rfl (by omega) id ?_
      first | (rw [if_pos (by omega)] at hk; exact hk) | (rw [if_neg (by omega)] at hk; exact hk)
    · refine aj_iconst 13 (dx d_Family_has 6 rfl) rfl ?_
      refine aj_goto 17 (dx d_Family_has 7 rfl) rfl ?_
      refine aj_zret (dx d_Family_has 9 rfl) rfl (by omega) id ?_
      first | (rw [if_pos (by omega)] at hk; exact hk) | (rw [if_neg (by omega)] at hk; exact hk)

set_option maxHeartbeats 4000000 in
theorem k_firstWord_loop {al : Prop} {X : Option (Nat × (Int → Int))} {d : Nat} {sh : List aj_S} {g : aj_G} {Q : aj_R → List aj_S → aj_G → Prop} {L k n c i j : Nat} {nx ou : Nat → Nat → Nat} {F : Nat → List Nat} (hf : fms sh g) (hm : mcm sh g 10 L k n nx ou) (hF : fam g k c F) (hi : i < n) (hj : j < n) (hk1 : ∀ w : Nat, w < c → tl nx ou i j (F w) → (∀ w', w' < w → ¬ tl nx ou i j (F w')) → Q (.inl (some (0, (w : Int)))) sh g) (hk0 : (∀ w, w < c → ¬ tl nx ou i j (F w)) → Q (.inl (some (0, -1))) sh g) : ∀ (m w : Nat), w ≤ c → c - w = m → (∀ w', w' < w → ¬ tl nx ou i j (F w')) →
    aj_wp nE al al X m_Family_firstWord (d + 2) 0 0 3 [some (1, 13), some (1, 10), some (0, (i : Int)), some (0, (j : Int)), some (0, (w : Int))] [] sh g Q := by
  have hc8 := hF.2.1
  intro m
  induction m using Nat.strongRecOn with
  | ind m ih =>
    intro w hw0 hmm hno
    refine aj_iload 4 5 (dx d_Family_firstWord 2 rfl) rfl rfl ?_
    refine aj_aload_n 0 6 (dx d_Family_firstWord 3 rfl) rfl rfl rfl ?_
    refine aj_getf 9 fl_Family_26 (dx d_Family_firstWord 4 rfl) rfl hf.1 ?_
    refine aj_icmp_ge 37 12 (dx d_Family_firstWord 5 rfl) rfl rfl (by unfold aj_I; omega) (by rw [hF.1]; unfold aj_I; omega) (fun h9 => ?_) (fun h9 => ?_)
    · rw [hF.1] at h9
      refine aj_iconst 38 (dx d_Family_firstWord 19 rfl) rfl ?_
      refine aj_iret (dx d_Family_firstWord 20 rfl) rfl id ?_
      exact hk0 (fun w2 h2 => hno w2 (by omega))
    · rw [hF.1] at h9
      have hwc : w < c := by omega
      have hw8 : w < 8 := by omega
      obtain ⟨f1, f2, f3⟩ := hF.2.2 w hwc
      refine aj_aload_n 1 13 (dx d_Family_firstWord 6 rfl) rfl rfl rfl ?_
      refine aj_aload_n 0 14 (dx d_Family_firstWord 7 rfl) rfl rfl rfl ?_
      refine aj_getf 17 fl_Family_11 (dx d_Family_firstWord 8 rfl) rfl hf.1 ?_
      rw [hf.2.1.1]
      refine aj_iload 4 19 (dx d_Family_firstWord 9 rfl) rfl rfl ?_
      refine aj_aald 20 (dx d_Family_firstWord 10 rfl) rfl hf.2.2.1 rfl rfl (by omega) (by omega) ?_
      rw [(hf.2.2.2.2.2 w hw8).1]
      refine aj_iload_n 2 21 (dx d_Family_firstWord 11 rfl) rfl rfl rfl ?_
      refine aj_iload_n 3 22 (dx d_Family_firstWord 12 rfl) rfl rfl rfl ?_
      refine aj_callV3 25 cl_Family_62 (dx d_Family_firstWord 13 rfl) rfl rfl rfl rfl rfl rfl hm.1.1 (k_Machine_tellsApart hm (hf.2.2.2.2.2 w hw8).2.1 f1 f2 f3 hi hj (fun ht => ?_) (fun ht => ?_))
      · change aj_wp _ _ _ _ _ _ _ _ _ _ _ _ _ _
        refine aj_if_eq 31 28 (dx d_Family_firstWord 14 rfl) rfl rfl (by unfold aj_I; omega) (fun h25 => ?_) (fun h25 => ?_)
        · exact absurd h25 (by omega)
        · refine aj_iload 4 30 (dx d_Family_firstWord 15 rfl) rfl rfl ?_
          refine aj_iret (dx d_Family_firstWord 16 rfl) rfl id ?_
          exact hk1 w hwc ht hno
      · change aj_wp _ _ _ _ _ _ _ _ _ _ _ _ _ _
        refine aj_if_eq 31 28 (dx d_Family_firstWord 14 rfl) rfl rfl (by unfold aj_I; omega) (fun h25 => ?_) (fun h25 => ?_)
        · refine aj_iinc 4 34 (dx d_Family_firstWord 17 rfl) rfl rfl rfl ?_
          simp only [List.set]
          refine aj_goto 3 (dx d_Family_firstWord 18 rfl) rfl ?_
          have hih := ih _ (by omega) (w + 1) (by omega) rfl (fun w2 h2 => by
            rcases Nat.lt_or_ge w2 w with z | z
            · exact hno w2 z
            · rw [show w2 = w by omega]; exact ht)
          rw [show ((w : Nat) : Int) + 1 = ((w + 1 : Nat) : Int) by omega]
          exact hih
        · exact absurd rfl h25
set_option maxHeartbeats 4000000 in
theorem k_firstWord {al : Prop} {X : Option (Nat × (Int → Int))} {d : Nat} {sh : List aj_S} {g : aj_G} {Q : aj_R → List aj_S → aj_G → Prop} {L k n c i j : Nat} {nx ou : Nat → Nat → Nat} {F : Nat → List Nat} (hf : fms sh g) (hm : mcm sh g 10 L k n nx ou) (hF : fam g k c F) (hi : i < n) (hj : j < n) (hk1 : ∀ w : Nat, w < c → tl nx ou i j (F w) → (∀ w', w' < w → ¬ tl nx ou i j (F w')) → Q (.inl (some (0, (w : Int)))) sh g) (hk0 : (∀ w, w < c → ¬ tl nx ou i j (F w)) → Q (.inl (some (0, -1))) sh g) : aj_wp nE al al X m_Family_firstWord (d + 2) 0 0 0 [some (1, 13), some (1, 10), some (0, (i : Int)), some (0, (j : Int)), none] [] sh g Q := by
  refine aj_iconst 1 (dx d_Family_firstWord 0 rfl) rfl ?_
  refine aj_istore 4 3 (dx d_Family_firstWord 1 rfl) rfl rfl ?_
  simp only [List.set]
  exact k_firstWord_loop hf hm hF hi hj hk1 hk0 _ 0 (Nat.zero_le _) rfl (fun w h => absurd h (Nat.not_lt_zero _))
set_option maxHeartbeats 4000000 in
theorem k_ownTells_loop {al : Prop} {X : Option (Nat × (Int → Int))} {d : Nat} {sh : List aj_S} {g : aj_G} {Q : aj_R → List aj_S → aj_G → Prop} {L k n c i j : Nat} {nx ou : Nat → Nat → Nat} {F : Nat → List Nat} (hf : fms sh g) (hm : mcm sh g 10 L k n nx ou) (hn8 : n ≤ 8) (hF : fam g k c F) (hi : i < n) (hj : j < n) {o : Nat × (Nat → Nat)} (ho : oat g i o) (ho8 : o.1 ≤ 8) (hoc : ∀ v, v < o.1 → o.2 v < c) (hk1 : (∃ v, v < o.1 ∧ tl nx ou i j (F (o.2 v))) → Q (.inl (some (0, 1))) sh g) (hk0 : (∀ v, v < o.1 → ¬ tl nx ou i j (F (o.2 v))) → Q (.inl (some (0, 0))) sh g) : ∀ (m v : Nat), v ≤ o.1 → o.1 - v = m → (∀ v', v' < v → ¬ tl nx ou i j (F (o.2 v'))) →
    aj_wp nE al al X m_Family_ownTells (d + 2) 0 0 3 [some (1, 13), some (1, 10), some (0, (i : Int)), some (0, (j : Int)), some (0, (v : Int))] [] sh g Q := by
  have hc8 := hF.2.1
  intro m
  induction m using Nat.strongRecOn with
  | ind m ih =>
    intro v hv0 hmm hno
    refine aj_iload 4 5 (dx d_Family_ownTells 2 rfl) rfl rfl ?_
    refine aj_aload_n 0 6 (dx d_Family_ownTells 3 rfl) rfl rfl rfl ?_
    refine aj_getf 9 fl_Family_22 (dx d_Family_ownTells 4 rfl) rfl hf.1 ?_
    rw [hf.2.1.2.2]
    refine aj_iload_n 2 10 (dx d_Family_ownTells 5 rfl) rfl rfl rfl ?_
    refine aj_iald 11 (dx d_Family_ownTells 6 rfl) rfl hf.2.2.2.2.1 rfl (by omega) (by omega) ?_
    rw [ho.1]
    refine aj_icmp_ge 45 14 (dx d_Family_ownTells 7 rfl) rfl rfl (by unfold aj_I; omega) (by unfold aj_I; omega) (fun h11 => ?_) (fun h11 => ?_)
    · refine aj_iconst 46 (dx d_Family_ownTells 26 rfl) rfl ?_
      refine aj_zret (dx d_Family_ownTells 27 rfl) rfl (by omega) id ?_
      exact hk0 (fun w2 h2 => hno w2 (by omega))
    · have hvo : v < o.1 := by omega
      have hwc := hoc v hvo
      have hw8 : o.2 v < 8 := by omega
      obtain ⟨f1, f2, f3⟩ := hF.2.2 (o.2 v) hwc
      refine aj_aload_n 1 15 (dx d_Family_ownTells 8 rfl) rfl rfl rfl ?_
      refine aj_aload_n 0 16 (dx d_Family_ownTells 9 rfl) rfl rfl rfl ?_
      refine aj_getf 19 fl_Family_11 (dx d_Family_ownTells 10 rfl) rfl hf.1 ?_
      rw [hf.2.1.1]
      refine aj_aload_n 0 20 (dx d_Family_ownTells 11 rfl) rfl rfl rfl ?_
      refine aj_getf 23 fl_Family_19 (dx d_Family_ownTells 12 rfl) rfl hf.1 ?_
      rw [hf.2.1.2.1]
      refine aj_iload_n 2 24 (dx d_Family_ownTells 13 rfl) rfl rfl rfl ?_
      refine aj_aald 25 (dx d_Family_ownTells 14 rfl) rfl hf.2.2.2.1 rfl rfl (by omega) (by omega) ?_
      rw [(hf.2.2.2.2.2 i (by omega)).2.2.1]
      refine aj_iload 4 27 (dx d_Family_ownTells 15 rfl) rfl rfl ?_
      refine aj_iald 28 (dx d_Family_ownTells 16 rfl) rfl (hf.2.2.2.2.2 i (by omega)).2.2.2 rfl (by omega) (by omega) ?_
      rw [ho.2 v hvo]
      refine aj_aald 29 (dx d_Family_ownTells 17 rfl) rfl hf.2.2.1 rfl rfl (by omega) (by omega) ?_
      rw [(hf.2.2.2.2.2 (o.2 v) hw8).1]
      refine aj_iload_n 2 30 (dx d_Family_ownTells 18 rfl) rfl rfl rfl ?_
      refine aj_iload_n 3 31 (dx d_Family_ownTells 19 rfl) rfl rfl rfl ?_
      refine aj_callV3 34 cl_Family_62 (dx d_Family_ownTells 20 rfl) rfl rfl rfl rfl rfl rfl hm.1.1 (k_Machine_tellsApart hm (hf.2.2.2.2.2 (o.2 v) hw8).2.1 f1 f2 f3 hi hj (fun ht => ?_) (fun ht => ?_))
      · change aj_wp _ _ _ _ _ _ _ _ _ _ _ _ _ _
        refine aj_if_eq 39 37 (dx d_Family_ownTells 21 rfl) rfl rfl (by unfold aj_I; omega) (fun h34 => ?_) (fun h34 => ?_)
        · exact absurd h34 (by omega)
        · refine aj_iconst 38 (dx d_Family_ownTells 22 rfl) rfl ?_
          refine aj_zret (dx d_Family_ownTells 23 rfl) rfl (by omega) id ?_
          exact hk1 ⟨v, hvo, ht⟩
      · change aj_wp _ _ _ _ _ _ _ _ _ _ _ _ _ _
        refine aj_if_eq 39 37 (dx d_Family_ownTells 21 rfl) rfl rfl (by unfold aj_I; omega) (fun h34 => ?_) (fun h34 => ?_)
        · refine aj_iinc 4 42 (dx d_Family_ownTells 24 rfl) rfl rfl rfl ?_
          simp only [List.set]
          refine aj_goto 3 (dx d_Family_ownTells 25 rfl) rfl ?_
          have hih := ih _ (by omega) (v + 1) (by omega) rfl (fun w2 h2 => by
            rcases Nat.lt_or_ge w2 v with z | z
            · exact hno w2 z
            · rw [show w2 = v by omega]; exact ht)
          rw [show ((v : Nat) : Int) + 1 = ((v + 1 : Nat) : Int) by omega]
          exact hih
        · exact absurd rfl h34
set_option maxHeartbeats 4000000 in
theorem k_ownTells {al : Prop} {X : Option (Nat × (Int → Int))} {d : Nat} {sh : List aj_S} {g : aj_G} {Q : aj_R → List aj_S → aj_G → Prop} {L k n c i j : Nat} {nx ou : Nat → Nat → Nat} {F : Nat → List Nat} (hf : fms sh g) (hm : mcm sh g 10 L k n nx ou) (hn8 : n ≤ 8) (hF : fam g k c F) (hi : i < n) (hj : j < n) {o : Nat × (Nat → Nat)} (ho : oat g i o) (ho8 : o.1 ≤ 8) (hoc : ∀ v, v < o.1 → o.2 v < c) (hk1 : (∃ v, v < o.1 ∧ tl nx ou i j (F (o.2 v))) → Q (.inl (some (0, 1))) sh g) (hk0 : (∀ v, v < o.1 → ¬ tl nx ou i j (F (o.2 v))) → Q (.inl (some (0, 0))) sh g) : aj_wp nE al al X m_Family_ownTells (d + 2) 0 0 0 [some (1, 13), some (1, 10), some (0, (i : Int)), some (0, (j : Int)), none] [] sh g Q := by
  refine aj_iconst 1 (dx d_Family_ownTells 0 rfl) rfl ?_
  refine aj_istore 4 3 (dx d_Family_ownTells 1 rfl) rfl rfl ?_
  simp only [List.set]
  exact k_ownTells_loop hf hm hn8 hF hi hj ho ho8 hoc hk1 hk0 _ 0 (Nat.zero_le _) rfl (fun w h => absurd h (Nat.not_lt_zero _))
end
section
/-! the family and the own words as traces; Family.chooseOwn -/
abbrev fm_T : Type := Nat × (Nat → List Nat)
def fm_up (f : Nat → List Nat) (a : Nat) (x : List Nat) : Nat → List Nat := fun b => if b = a then x else f b
theorem fm_up_self (f : Nat → List Nat) (a : Nat) (x : List Nat) : fm_up f a x a = x := if_pos rfl
theorem fm_up_ne (f : Nat → List Nat) {a b : Nat} (x : List Nat) (h : b ≠ a) : fm_up f a x b = f b := if_neg h
/-- the least word that tells two states apart -/
noncomputable def lwd (k : Nat) (nx ou : Nat → Nat → Nat) (i j : Nat) : List Nat := @dite (List Nat) (∃ w, wd_least k nx ou i nx ou j w) (Classical.propDecidable _) (fun h => Classical.choose h) (fun _ => [])
theorem lwd_eq {k : Nat} {nx ou : Nat → Nat → Nat} {i j : Nat} {w : List Nat} (hk : k ≤ 4) (h : wd_least k nx ou i nx ou j w) : lwd k nx ou i j = w := by
  have hx : ∃ w, wd_least k nx ou i nx ou j w := ⟨w, h⟩
  unfold lwd
  rw [dif_pos hx]
  exact least_uniq hk (Classical.choose_spec hx) h
noncomputable def fm_st (T : Nat → Nat → List Nat → Prop) (lw : Nat → Nat → List Nat) (i j : Nat) (q : fm_T) : fm_T := @ite fm_T (∃ w, w < q.1 ∧ T i j (q.2 w)) (Classical.propDecidable _) q (q.1 + 1, fm_up q.2 q.1 (lw i j))
noncomputable def fm_in (T : Nat → Nat → List Nat → Prop) (lw : Nat → Nat → List Nat) (i : Nat) : Nat → fm_T → fm_T
  | 0, q => q
  | m + 1, q => fm_st T lw i (i + 1 + m) (fm_in T lw i m q)
noncomputable def fm_out (T : Nat → Nat → List Nat → Prop) (lw : Nat → Nat → List Nat) (N : Nat) : Nat → fm_T
  | 0 => (0, fun _ => [])
  | i + 1 => fm_in T lw i (N - 1 - i) (fm_out T lw N i)
def fm_I (k N : Nat) (nx ou : Nat → Nat → Nat) (q : fm_T) (i j : Nat) : Prop := (∀ w, w < q.1 → wd_ok k (q.2 w) ∧ (q.2 w).length ≤ 100 ∧ ∃ s t, s < N ∧ t < N ∧ fm_un nx ou q.2 w s t ∧ tl nx ou s t (q.2 w)) ∧ ∀ a b, a < b → b < N → (a < i ∨ (a = i ∧ b < j)) → ∃ w, w < q.1 ∧ tl nx ou a b (q.2 w)
section FI
variable {k N : Nat} {nx ou : Nat → Nat → Nat} {lw : Nat → Nat → List Nat} {q : fm_T} {i j : Nat}
theorem fm_I_le (hN : 0 < N) (h : fm_I k N nx ou q i j) : q.1 + 1 ≤ N := fm_le hN (fun w hw => (h.1 w hw).2.2)
theorem fm_I_old (h : fm_I k N nx ou q i j) {w : Nat} (hw : w < q.1) (ht : tl nx ou i j (q.2 w)) : fm_st (tl nx ou) lw i j q = q ∧ fm_I k N nx ou q i (j + 1) := by
  refine ⟨if_pos ⟨w, hw, ht⟩, h.1, fun a b h1 h2 h3 => ?_⟩
  by_cases c : a < i ∨ (a = i ∧ b < j)
  · exact h.2 a b h1 h2 c
  · have e1 : a = i := by omega
    have e2 : b = j := by omega
    rw [e1, e2]
    exact ⟨w, hw, ht⟩
theorem fm_I_new (h : fm_I k N nx ou q i j) (hij : i < j) (hj : j < N) (hno : ∀ w, w < q.1 → ¬ tl nx ou i j (q.2 w)) (hl : wd_least k nx ou i nx ou j (lw i j)) (hl2 : (lw i j).length ≤ 100) : fm_st (tl nx ou) lw i j q = (q.1 + 1, fm_up q.2 q.1 (lw i j)) ∧ fm_I k N nx ou (q.1 + 1, fm_up q.2 q.1 (lw i j)) i (j + 1) := by
  refine ⟨if_neg (fun z => by obtain ⟨w, h1, h2⟩ := z; exact hno w h1 h2), fun w hw => ?_, fun a b h1 h2 h3 => ?_⟩
  · have hw' : w < q.1 + 1 := hw
    show wd_ok k (fm_up q.2 q.1 (lw i j) w) ∧ (fm_up q.2 q.1 (lw i j) w).length ≤ 100 ∧ ∃ s t, s < N ∧ t < N ∧ fm_un nx ou (fm_up q.2 q.1 (lw i j)) w s t ∧ tl nx ou s t (fm_up q.2 q.1 (lw i j) w)
    have hun : ∀ s t, fm_un nx ou q.2 w s t → w ≤ q.1 → fm_un nx ou (fm_up q.2 q.1 (lw i j)) w s t := fun s t z hle w2 h2 => by
      rw [fm_up_ne _ _ (by omega)]
      exact z w2 h2
    by_cases c : w = q.1
    · subst c
      rw [fm_up_self]
      exact ⟨hl.1, hl2, i, j, by omega, hj, hun i j (fun w2 h2 => hno w2 h2) (Nat.le_refl _), tl_df hl.2.1⟩
    · rw [fm_up_ne _ _ c]
      obtain ⟨b1, b2, s, t, b3, b4, b5, b6⟩ := h.1 w (by omega)
      exact ⟨b1, b2, s, t, b3, b4, hun s t b5 (by omega), b6⟩
  · show ∃ w, w < q.1 + 1 ∧ tl nx ou a b (fm_up q.2 q.1 (lw i j) w)
    by_cases c : a < i ∨ (a = i ∧ b < j)
    · obtain ⟨w, x1, x2⟩ := h.2 a b h1 h2 c
      exact ⟨w, by omega, by rw [fm_up_ne _ _ (by omega)]; exact x2⟩
    · have e1 : a = i := by omega
      have e2 : b = j := by omega
      exact ⟨q.1, Nat.lt_succ_self _, by rw [fm_up_self, e1, e2]; exact tl_df hl.2.1⟩
theorem fm_I_row (h : fm_I k N nx ou q i N) : fm_I k N nx ou q (i + 1) (i + 2) :=
  ⟨h.1, fun a b h1 h2 h3 => h.2 a b h1 h2 (by omega)⟩
end FI
/-- the first word of the family that tells i and j -/
noncomputable def fwd (T : Nat → Nat → List Nat → Prop) (F : Nat → List Nat) (c i j : Nat) : Nat := @dite Nat (∃ w, w < c ∧ T i j (F w) ∧ ∀ w', w' < w → ¬ T i j (F w')) (Classical.propDecidable _) (fun h => Classical.choose h) (fun _ => 0)
theorem fwd_eq {T : Nat → Nat → List Nat → Prop} {F : Nat → List Nat} {c i j w : Nat} (h1 : w < c) (h2 : T i j (F w)) (h3 : ∀ w', w' < w → ¬ T i j (F w')) : fwd T F c i j = w := by
  have hx : ∃ w, w < c ∧ T i j (F w) ∧ ∀ w', w' < w → ¬ T i j (F w') := ⟨w, h1, h2, h3⟩
  unfold fwd
  rw [dif_pos hx]
  obtain ⟨a1, a2, a3⟩ := Classical.choose_spec hx
  rcases Nat.lt_trichotomy (Classical.choose hx) w with z | z | z
  · exact absurd a2 (h3 _ z)
  · exact z
  · exact absurd h2 (a3 _ z)
abbrev ow_T : Type := Nat × (Nat → Nat)
noncomputable def ow_st (T : Nat → Nat → List Nat → Prop) (F : Nat → List Nat) (c i j : Nat) (o : ow_T) : ow_T := @ite ow_T (i = j ∨ ∃ v, v < o.1 ∧ T i j (F (o.2 v))) (Classical.propDecidable _) o (o.1 + 1, nb_up o.2 o.1 (fwd T F c i j))
noncomputable def ow (T : Nat → Nat → List Nat → Prop) (F : Nat → List Nat) (c i : Nat) : Nat → ow_T
  | 0 => (0, fun _ => 0)
  | j + 1 => ow_st T F c i j (ow T F c i j)
theorem ow_le {T : Nat → Nat → List Nat → Prop} {F : Nat → List Nat} {c i : Nat} : ∀ j, (ow T F c i j).1 ≤ j
  | 0 => Nat.le_refl _
  | j + 1 => by
    have ih := ow_le (T := T) (F := F) (c := c) (i := i) j
    show (ow_st T F c i j (ow T F c i j)).1 ≤ j + 1
    unfold ow_st
    split
    · omega
    · show (ow T F c i j).1 + 1 ≤ j + 1; omega
def co_F (g g1 : aj_G) (i : Nat) : Prop := (∀ r', r' ≠ 24 → r' ≠ 16 + (i : Int) → g1 r' = g r') ∧ ∀ x, x ≠ (i : Int) → g1 24 x = g 24 x
theorem co_up {g g1 : aj_G} {i : Nat} {o : ow_T} {w : Nat} (hF : co_F g g1 i) (hi : i < 8) (ho : oat g1 i o) : co_F g (aj_up (aj_up g1 (16 + (i : Int)) (o.1 : Int) (w : Int)) 24 (i : Int) ((o.1 : Int) + 1)) i ∧ oat (aj_up (aj_up g1 (16 + (i : Int)) (o.1 : Int) (w : Int)) 24 (i : Int) ((o.1 : Int) + 1)) i (o.1 + 1, nb_up o.2 o.1 w) := by
  refine ⟨⟨fun r' c1 c2 => by rw [aj_up_ne _ _ _ c1, aj_up_ne _ _ _ c2]; exact hF.1 r' c1 c2, fun x hx => by rw [aj_up_ni _ _ _ hx, aj_up_ne _ _ _ (by omega)]; exact hF.2 x hx⟩, by rw [aj_up_self]; push_cast; rfl, fun v hv => ?_⟩
  have hv' : v < o.1 + 1 := hv
  rw [aj_up_ne _ _ _ (by omega), aj_up_at]
  by_cases c : v = o.1
  · rw [if_pos ⟨rfl, by omega⟩, c]
    show (w : Int) = (nb_up o.2 o.1 w o.1 : Nat)
    rw [nb_up_self]
  · rw [if_neg (by omega)]
    show g1 (16 + (i : Int)) v = (nb_up o.2 o.1 w v : Nat)
    rw [nb_up_ne _ _ c]
    exact ho.2 v (by omega)
set_option maxHeartbeats 4000000 in
theorem k_chooseOwn_loop {al : Prop} {X : Option (Nat × (Int → Int))} {d : Nat} {sh : List aj_S} {g : aj_G} {Q : aj_R → List aj_S → aj_G → Prop} {L k n c i : Nat} {nx ou : Nat → Nat → Nat} {F : Nat → List Nat} (hf : fms sh g) (hm : mcm sh g 10 L k n nx ou) (hn8 : n ≤ 8) (hF : fam g k c F) (hi : i < n) (hcov : ∀ a b, a < n → b < n → a ≠ b → ∃ w, w < c ∧ tl nx ou a b (F w)) (hk : ∀ g1, co_F g g1 i → oat g1 i (ow (tl nx ou) F c i n) → Q (.inl none) sh g1) : ∀ (m j : Nat) (g1 : aj_G), j ≤ n → n - j = m → co_F g g1 i → oat g1 i (ow (tl nx ou) F c i j) → (∀ v, v < (ow (tl nx ou) F c i j).1 → (ow (tl nx ou) F c i j).2 v < c) →
    aj_wp nE al al X m_Family_chooseOwn (d + 3) 0 0 2 [some (1, 13), some (1, 10), some (0, (i : Int)), some (0, (j : Int))] [] sh g1 Q := by
  intro m
  induction m using Nat.strongRecOn with
  | ind m ih =>
    intro j g1 hj0 hmm hC ho hoc
    have hf1 := fms_of hf (fun j _ => by rw [hC.1 13 (by omega) (by omega)]) (hC.1 14 (by omega) (by omega)) (hC.1 15 (by omega) (by omega)) (fun w hw => by rw [hC.1 _ (by omega) (by omega)])
    have hm1 := mcm_of hm (hC.1 10 (by omega) (by omega)) (hC.1 _ (by omega) (by omega)) (hC.1 _ (by omega) (by omega))
    have hF1 := fam_of hF (by rw [hC.1 13 (by omega) (by omega)]) (fun w hw => ⟨hC.1 _ (by omega) (by omega), hC.1 _ (by omega) (by omega)⟩)
    have hole := ow_le (T := tl nx ou) (F := F) (c := c) (i := i) j
    refine aj_iload_n 3 3 (dx d_Family_chooseOwn 2 rfl) rfl rfl rfl ?_
    refine aj_aload_n 1 4 (dx d_Family_chooseOwn 3 rfl) rfl rfl rfl ?_
    refine aj_getf 7 fl_Family_31 (dx d_Family_chooseOwn 4 rfl) rfl hm1.1.1 ?_
    refine aj_icmp_ge 61 10 (dx d_Family_chooseOwn 5 rfl) rfl rfl (by unfold aj_I; omega) (by rw [hm1.2.2.1]; unfold aj_I; omega) (fun h7 => ?_) (fun h7 => ?_)
    · rw [hm1.2.2.1] at h7
      refine aj_vret (dx d_Family_chooseOwn 39 rfl) rfl id ?_
      have hjn : j = n := by omega
      subst hjn
      exact hk g1 hC ho
    · rw [hm1.2.2.1] at h7
      have hj : j < n := by omega
      refine aj_iload_n 3 11 (dx d_Family_chooseOwn 6 rfl) rfl rfl rfl ?_
      refine aj_iload_n 2 12 (dx d_Family_chooseOwn 7 rfl) rfl rfl rfl ?_
      refine aj_icmp_eq 55 15 (dx d_Family_chooseOwn 8 rfl) rfl rfl (by unfold aj_I; omega) (by unfold aj_I; omega) (fun h12 => ?_) (fun h12 => ?_)
      · refine aj_iinc 3 58 (dx d_Family_chooseOwn 37 rfl) rfl rfl rfl ?_
        simp only [List.set]
        refine aj_goto 2 (dx d_Family_chooseOwn 38 rfl) rfl ?_
        have hst : ow (tl nx ou) F c i (j + 1) = ow (tl nx ou) F c i j := if_pos (Or.inl (by omega))
        have hih := ih _ (by omega) (j + 1) g1 (by omega) rfl hC (by rw [hst]; exact ho) (by rw [hst]; exact hoc)
        rw [show ((j : Nat) : Int) + 1 = ((j + 1 : Nat) : Int) by omega]
        exact hih
      · refine aj_aload_n 0 16 (dx d_Family_chooseOwn 9 rfl) rfl rfl rfl ?_
        refine aj_aload_n 1 17 (dx d_Family_chooseOwn 10 rfl) rfl rfl rfl ?_
        refine aj_iload_n 2 18 (dx d_Family_chooseOwn 11 rfl) rfl rfl rfl ?_
        refine aj_iload_n 3 19 (dx d_Family_chooseOwn 12 rfl) rfl rfl rfl ?_
        refine aj_callV3 22 cl_Family_58 (dx d_Family_chooseOwn 13 rfl) rfl rfl rfl rfl rfl rfl hf1.1 (k_ownTells hf1 hm1 hn8 hF1 hi hj ho (by omega) hoc (fun ht => ?_) (fun ht => ?_))
        · change aj_wp _ _ _ _ _ _ _ _ _ _ _ _ _ _
          refine aj_if_ne 55 25 (dx d_Family_chooseOwn 14 rfl) rfl rfl (by unfold aj_I; omega) (fun h22 => ?_) (fun h22 => ?_)
          · refine aj_iinc 3 58 (dx d_Family_chooseOwn 37 rfl) rfl rfl rfl ?_
            simp only [List.set]
            refine aj_goto 2 (dx d_Family_chooseOwn 38 rfl) rfl ?_
            have hst : ow (tl nx ou) F c i (j + 1) = ow (tl nx ou) F c i j := if_pos (Or.inr ht)
            have hih := ih _ (by omega) (j + 1) g1 (by omega) rfl hC (by rw [hst]; exact ho) (by rw [hst]; exact hoc)
            rw [show ((j : Nat) : Int) + 1 = ((j + 1 : Nat) : Int) by omega]
            exact hih
          · exact absurd h22 (by omega)
        · change aj_wp _ _ _ _ _ _ _ _ _ _ _ _ _ _
          refine aj_if_ne 55 25 (dx d_Family_chooseOwn 14 rfl) rfl rfl (by unfold aj_I; omega) (fun h22 => ?_) (fun h22 => ?_)
          · exact absurd rfl h22
          · refine aj_aload_n 0 26 (dx d_Family_chooseOwn 15 rfl) rfl rfl rfl ?_
            refine aj_getf 29 fl_Family_19 (dx d_Family_chooseOwn 16 rfl) rfl hf1.1 ?_
            rw [hf1.2.1.2.1]
            refine aj_iload_n 2 30 (dx d_Family_chooseOwn 17 rfl) rfl rfl rfl ?_
            refine aj_aald 31 (dx d_Family_chooseOwn 18 rfl) rfl hf1.2.2.2.1 rfl rfl (by omega) (by omega) ?_
            rw [(hf1.2.2.2.2.2 i (by omega)).2.2.1]
            refine aj_aload_n 0 32 (dx d_Family_chooseOwn 19 rfl) rfl rfl rfl ?_
            refine aj_getf 35 fl_Family_22 (dx d_Family_chooseOwn 20 rfl) rfl hf1.1 ?_
            rw [hf1.2.1.2.2]
            refine aj_iload_n 2 36 (dx d_Family_chooseOwn 21 rfl) rfl rfl rfl ?_
            refine aj_iald 37 (dx d_Family_chooseOwn 22 rfl) rfl hf1.2.2.2.2.1 rfl (by omega) (by omega) ?_
            rw [ho.1]
            refine aj_aload_n 0 38 (dx d_Family_chooseOwn 23 rfl) rfl rfl rfl ?_
            refine aj_aload_n 1 39 (dx d_Family_chooseOwn 24 rfl) rfl rfl rfl ?_
            refine aj_iload_n 2 40 (dx d_Family_chooseOwn 25 rfl) rfl rfl rfl ?_
            refine aj_iload_n 3 41 (dx d_Family_chooseOwn 26 rfl) rfl rfl rfl ?_
            refine aj_callV3 44 cl_Family_36 (dx d_Family_chooseOwn 27 rfl) rfl rfl rfl rfl rfl rfl hf1.1 (k_firstWord hf1 hm1 hF1 hi hj (fun w hw1 hw2 hw3 => ?_) (fun hnone => ?_))
            · change aj_wp _ _ _ _ _ _ _ _ _ _ _ _ _ _
              refine aj_iast 45 (dx d_Family_chooseOwn 28 rfl) rfl (hf1.2.2.2.2.2 i (by omega)).2.2.2 rfl (by omega) (by omega) ?_
              refine aj_aload_n 0 46 (dx d_Family_chooseOwn 29 rfl) rfl rfl rfl ?_
              refine aj_getf 49 fl_Family_22 (dx d_Family_chooseOwn 30 rfl) rfl hf1.1 ?_
              rw [aj_up_ne _ _ _ (by omega), hf1.2.1.2.2]
              refine aj_iload_n 2 50 (dx d_Family_chooseOwn 31 rfl) rfl rfl rfl ?_
              refine aj_dup2 51 (dx d_Family_chooseOwn 32 rfl) rfl rfl rfl ?_
              refine aj_iald 52 (dx d_Family_chooseOwn 33 rfl) rfl hf1.2.2.2.2.1 rfl (by omega) (by omega) ?_
              rw [aj_up_ne _ _ _ (by omega), ho.1]
              refine aj_iconst 53 (dx d_Family_chooseOwn 34 rfl) rfl ?_
              refine aj_iadd 54 (dx d_Family_chooseOwn 35 rfl) rfl ?_
              refine aj_iast 55 (dx d_Family_chooseOwn 36 rfl) rfl hf1.2.2.2.2.1 rfl (by omega) (by omega) ?_
              refine aj_iinc 3 58 (dx d_Family_chooseOwn 37 rfl) rfl rfl rfl ?_
              simp only [List.set]
              refine aj_goto 2 (dx d_Family_chooseOwn 38 rfl) rfl ?_
              have hne : i ≠ j := by omega
              have hst : ow (tl nx ou) F c i (j + 1) = ((ow (tl nx ou) F c i j).1 + 1, nb_up (ow (tl nx ou) F c i j).2 (ow (tl nx ou) F c i j).1 w) := by
                show ow_st (tl nx ou) F c i j (ow (tl nx ou) F c i j) = _
                unfold ow_st
                rw [if_neg (by rintro (z | ⟨v, z1, z2⟩); exact hne z; exact ht v z1 z2), fwd_eq hw1 hw2 hw3]
              obtain ⟨hC2, ho2⟩ := co_up (w := w) hC (by omega) ho
              have hih := ih _ (by omega) (j + 1) _ (by omega) rfl hC2 (by rw [hst]; exact ho2) (by
                rw [hst]
                intro v hv
                have hv' : v < (ow (tl nx ou) F c i j).1 + 1 := hv
                show nb_up _ _ _ v < c
                by_cases e : v = (ow (tl nx ou) F c i j).1
                · rw [e, nb_up_self]; exact hw1
                · rw [nb_up_ne _ _ e]; exact hoc v (by omega))
              rw [show ((j : Nat) : Int) + 1 = ((j + 1 : Nat) : Int) by omega]
              exact hih
            · obtain ⟨w, z1, z2⟩ := hcov i j hi hj (by omega)
              exact absurd z2 (hnone w z1)
set_option maxHeartbeats 4000000 in
theorem k_chooseOwn {al : Prop} {X : Option (Nat × (Int → Int))} {d : Nat} {sh : List aj_S} {g : aj_G} {Q : aj_R → List aj_S → aj_G → Prop} {L k n c i : Nat} {nx ou : Nat → Nat → Nat} {F : Nat → List Nat} (hf : fms sh g) (hm : mcm sh g 10 L k n nx ou) (hn8 : n ≤ 8) (hF : fam g k c F) (hi : i < n) (hcov : ∀ a b, a < n → b < n → a ≠ b → ∃ w, w < c ∧ tl nx ou a b (F w)) (hk : ∀ g1, co_F g g1 i → oat g1 i (ow (tl nx ou) F c i n) → Q (.inl none) sh g1) (h24 : g 24 i = 0) : aj_wp nE al al X m_Family_chooseOwn (d + 3) 0 0 0 [some (1, 13), some (1, 10), some (0, (i : Int)), none] [] sh g Q := by
  refine aj_iconst 1 (dx d_Family_chooseOwn 0 rfl) rfl ?_
  refine aj_istore_n 3 2 (dx d_Family_chooseOwn 1 rfl) rfl rfl rfl ?_
  simp only [List.set]
  exact k_chooseOwn_loop hf hm hn8 hF hi hcov hk _ 0 g (Nat.zero_le _) rfl ⟨fun _ _ _ => rfl, fun _ _ => rfl⟩ ⟨h24, fun v hv => absurd hv (Nat.not_lt_zero _)⟩ (fun v hv => absurd hv (Nat.not_lt_zero _))
end
section
/-! Family.choose -/
def fc_F (g g1 : aj_G) : Prop := (∀ r', r' < 13 ∨ (13 < r' ∧ r' < 25) ∨ (40 < r' ∧ r' < 44) ∨ 52 < r' → g1 r' = g r') ∧ (∀ j, j ≠ 3 → g1 13 j = g 13 j) ∧ (∀ w : Nat, w < 8 → g1 (25 + 2 * (w : Int)) 0 = g (25 + 2 * (w : Int)) 0) ∧ (∀ j, j ≠ 7 → g1 44 j = g 44 j) ∧ ∀ j, j ≠ 1 → g1 45 j = g 45 j
theorem fc_F_0 (g : aj_G) : fc_F g g := ⟨fun _ _ => rfl, fun _ _ => rfl, fun _ _ => rfl, fun _ _ => rfl, fun _ _ => rfl⟩
theorem fc_F_fd {g g1 g2 : aj_G} (h : fc_F g g1) (h2 : fd_F g1 g2 44) : fc_F g g2 := ⟨fun r' z => by rw [h2.1 r' (by omega)]; exact h.1 r' z, fun j z => by rw [h2.1 13 (by omega)]; exact h.2.1 j z, fun w hw => by rw [h2.1 _ (by omega)]; exact h.2.2.1 w hw, fun j z => by rw [h2.2.1 j z]; exact h.2.2.2.1 j z, fun j z => by
  have := h2.2.2 j z
  rw [show (44 : Int) + 1 = 45 from rfl] at this
  rw [this]; exact h.2.2.2.2 j z⟩
theorem fam_fd {g1 g2 : aj_G} {k c : Nat} {F : Nat → List Nat} (h : fam g1 k c F) (h2 : fd_F g1 g2 44) : fam g2 k c F := fam_of h (by rw [h2.1 13 (by omega)]) (fun w hw => ⟨h2.1 _ (by omega), h2.1 _ (by omega)⟩)
/-- the memory behind words[size].copy(search.found); size++ -/
def fc_g (g : aj_G) (c : Nat) : aj_G := aj_up (aj_cpy (aj_up g (25 + 2 * (c : Int)) 1 (g 45 1)) (45 + 1) (25 + 2 * (c : Int) + 1) 0 0 (g 45 1)) 13 3 ((c : Int) + 1)
theorem fc_new {g g2 : aj_G} {k c : Nat} {F : Nat → List Nat} {w : List Nat} (h : fc_F g g2) (hF : fam g2 k c F) (hc : c < 8) (hw : wat g2 45 w) (hok : wd_ok k w) (hl : w.length ≤ 100) : fc_F g (fc_g g2 c) ∧ fam (fc_g g2 c) k (c + 1) (fm_up F c w) := by
  have far : ∀ r', r' ≠ 13 → r' ≠ 25 + 2 * (c : Int) → r' ≠ 25 + 2 * (c : Int) + 1 → fc_g g2 c r' = g2 r' := fun r' c1 c2 c3 => by
    unfold fc_g
    rw [aj_up_ne _ _ _ c1, aj_cpy_ne _ _ _ _ _ c3, aj_up_ne _ _ _ c2]
  have r13 : ∀ j, fc_g g2 c 13 j = if j = 3 then (c : Int) + 1 else g2 13 j := fun j => by
    unfold fc_g
    rw [aj_up_at]
    by_cases e : j = 3
    · rw [if_pos ⟨rfl, e⟩, if_pos e]
    · rw [if_neg (fun z => e z.2), if_neg e, aj_cpy_ne _ _ _ _ _ (by omega), aj_up_ne _ _ _ (by omega)]
  have rw0 : ∀ j, fc_g g2 c (25 + 2 * (c : Int)) j = if j = 1 then g2 45 1 else g2 (25 + 2 * (c : Int)) j := fun j => by
    unfold fc_g
    rw [aj_up_ne _ _ _ (by omega), aj_cpy_ne _ _ _ _ _ (by omega), aj_up_at]
    by_cases e : j = 1
    · rw [if_pos ⟨rfl, e⟩, if_pos e]
    · rw [if_neg (fun z => e z.2), if_neg e]
  have rw1 : ∀ j, 0 ≤ j → j < g2 45 1 → fc_g g2 c (25 + 2 * (c : Int) + 1) j = g2 46 j := fun j h0 h1 => by
    unfold fc_g
    rw [aj_up_ne _ _ _ (by omega), aj_cpy_at, if_pos ⟨h0, by omega⟩, aj_up_ne _ _ _ (by omega)]
    rw [show (0 : Int) + (j - 0) = j by omega]
    rfl
  refine ⟨⟨fun r' z => by rw [far r' (by omega) (by omega) (by omega)]; exact h.1 r' z, fun j z => by rw [r13, if_neg z]; exact h.2.1 j z, fun w2 hw2 => ?_, fun j z => by rw [far 44 (by omega) (by omega) (by omega)]; exact h.2.2.2.1 j z, fun j z => by rw [far 45 (by omega) (by omega) (by omega)]; exact h.2.2.2.2 j z⟩, by rw [r13, if_pos rfl]; push_cast; rfl, by omega, fun w2 hw2 => ?_⟩
  · by_cases e : w2 = c
    · subst e
      rw [rw0, if_neg (by omega)]
      exact h.2.2.1 w2 hw2
    · rw [far _ (by omega) (by omega) (by omega)]
      exact h.2.2.1 w2 hw2
  · by_cases e : w2 = c
    · subst e
      rw [fm_up_self]
      refine ⟨⟨by rw [rw0, if_pos rfl]; exact hw.1, fun j hj => ?_⟩, hok, hl⟩
      rw [rw1 _ (by omega) (by rw [hw.1]; omega)]
      exact hw.2 j hj
    · rw [fm_up_ne _ _ e]
      obtain ⟨a, b⟩ := hF.2.2 w2 (by omega)
      refine ⟨?_, b⟩
      unfold wat at a ⊢
      rw [far (25 + 2 * (w2 : Int)) (by omega) (by omega) (by omega), far (25 + 2 * (w2 : Int) + 1) (by omega) (by omega) (by omega)]
      exact a
set_option maxHeartbeats 4000000 in
theorem k_choose_in {al : Prop} {X : Option (Nat × (Int → Int))} {d : Nat} {sh : List aj_S} {g : aj_G} {Q : aj_R → List aj_S → aj_G → Prop} {L k n : Nat} {nx ou : Nat → Nat → Nat} (hal : ¬ al) (hf : fms sh g) (hm : mcm sh g 10 L k n nx ou) (hn8 : n ≤ 8) (hn0 : 0 < n) (hp : pss sh g 44) (hdist : ∀ a b, a < n → b < n → a ≠ b → ¬ wd_none k nx ou a nx ou b) {i : Nat} (hi : i < n)
    (K : ∀ g1, fc_F g g1 → fam g1 k (fm_in (tl nx ou) (lwd k nx ou) i (n - 1 - i) (fm_out (tl nx ou) (lwd k nx ou) n i)).1 (fm_in (tl nx ou) (lwd k nx ou) i (n - 1 - i) (fm_out (tl nx ou) (lwd k nx ou) n i)).2 → fm_I k n nx ou (fm_in (tl nx ou) (lwd k nx ou) i (n - 1 - i) (fm_out (tl nx ou) (lwd k nx ou) n i)) (i + 1) (i + 2) → aj_wp nE al al X m_Family_choose (d + 4) 0 0 2 [some (1, 13), some (1, 10), some (1, 44), some (0, (i : Int) + 1), none] [] sh g1 Q) :
    ∀ (m j : Nat) (g1 : aj_G), i + 1 ≤ j → j ≤ n → n - j = m → fc_F g g1 → fam g1 k (fm_in (tl nx ou) (lwd k nx ou) i (j - (i + 1)) (fm_out (tl nx ou) (lwd k nx ou) n i)).1 (fm_in (tl nx ou) (lwd k nx ou) i (j - (i + 1)) (fm_out (tl nx ou) (lwd k nx ou) n i)).2 → fm_I k n nx ou (fm_in (tl nx ou) (lwd k nx ou) i (j - (i + 1)) (fm_out (tl nx ou) (lwd k nx ou) n i)) i j →
    aj_wp nE al al X m_Family_choose (d + 4) 0 0 15 [some (1, 13), some (1, 10), some (1, 44), some (0, (i : Int)), some (0, (j : Int))] [] sh g1 Q := by
  intro m
  induction m using Nat.strongRecOn with
  | ind m ih =>
    intro j g1 hj0 hj1 hmm hC hF hI
    have hf1 := fms_of hf hC.2.1 (hC.1 14 (by omega)) (hC.1 15 (by omega)) hC.2.2.1
    have hm1 := mcm_of hm (hC.1 10 (by omega)) (hC.1 _ (by omega)) (hC.1 _ (by omega))
    have hp1 := pss_of hp hC.2.2.2.1 (hC.2.2.2.2 0 (by omega))
    have hk3 := hm.2.2.2.2.1
    refine aj_iload 4 17 (dx d_Family_choose 10 rfl) rfl rfl ?_
    refine aj_aload_n 1 18 (dx d_Family_choose 11 rfl) rfl rfl rfl ?_
    refine aj_getf 21 fl_Family_31 (dx d_Family_choose 12 rfl) rfl hm1.1.1 ?_
    refine aj_icmp_ge 80 24 (dx d_Family_choose 13 rfl) rfl rfl (by unfold aj_I; omega) (by rw [hm1.2.2.1]; unfold aj_I; omega) (fun h21 => ?_) (fun h21 => ?_)
    · rw [hm1.2.2.1] at h21
      have hj : j = n := by omega
      refine aj_iinc 3 83 (dx d_Family_choose 44 rfl) rfl rfl rfl ?_
      simp only [List.set]
      refine aj_goto 2 (dx d_Family_choose 45 rfl) rfl ?_
      refine aj_forget 4 ?_
      simp only [List.set]
      rw [hj] at hF hI
      exact K g1 hC (by rw [show n - 1 - i = n - (i + 1) by omega]; exact hF) (by rw [show n - 1 - i = n - (i + 1) by omega]; exact fm_I_row hI)
    · rw [hm1.2.2.1] at h21
      have hj : j < n := by omega
      have hqn := fm_I_le hn0 hI
      have hidx : j + 1 - (i + 1) = j - (i + 1) + 1 := by omega
      have hjj : i + 1 + (j - (i + 1)) = j := by omega
      have hq2 : fm_in (tl nx ou) (lwd k nx ou) i (j + 1 - (i + 1)) (fm_out (tl nx ou) (lwd k nx ou) n i) = fm_st (tl nx ou) (lwd k nx ou) i j (fm_in (tl nx ou) (lwd k nx ou) i (j - (i + 1)) (fm_out (tl nx ou) (lwd k nx ou) n i)) := by
        rw [hidx]
        show fm_st (tl nx ou) (lwd k nx ou) i (i + 1 + (j - (i + 1))) _ = _
        rw [hjj]
      refine aj_aload_n 0 25 (dx d_Family_choose 14 rfl) rfl rfl rfl ?_
      refine aj_aload_n 1 26 (dx d_Family_choose 15 rfl) rfl rfl rfl ?_
      refine aj_iload_n 3 27 (dx d_Family_choose 16 rfl) rfl rfl rfl ?_
      refine aj_iload 4 29 (dx d_Family_choose 17 rfl) rfl rfl ?_
      refine aj_callV3 32 cl_Family_36 (dx d_Family_choose 18 rfl) rfl rfl rfl rfl rfl rfl hf1.1 (k_firstWord hf1 hm1 hF (show i < n by omega) hj (fun w hw1 hw2 hw3 => ?_) (fun hnone => ?_))
      · change aj_wp _ _ _ _ _ _ _ _ _ _ _ _ _ _
        refine aj_iconst 33 (dx d_Family_choose 19 rfl) rfl ?_
        refine aj_icmp_ne 74 36 (dx d_Family_choose 20 rfl) rfl rfl (by unfold aj_I; omega) (by unfold aj_I; omega) (fun h33 => ?_) (fun h33 => ?_)
        · refine aj_iinc 4 77 (dx d_Family_choose 42 rfl) rfl rfl rfl ?_
          simp only [List.set]
          refine aj_goto 15 (dx d_Family_choose 43 rfl) rfl ?_
          obtain ⟨e1, e2⟩ := fm_I_old (lw := lwd k nx ou) hI hw1 hw2
          rw [e1] at hq2
          have hih := ih _ (by omega) (j + 1) g1 (by omega) (by omega) rfl hC (by rw [hq2]; exact hF) (by rw [hq2]; exact e2)
          rw [show ((j : Nat) : Int) + 1 = ((j + 1 : Nat) : Int) by omega]
          exact hih
        · exact absurd h33 (by omega)
      · change aj_wp _ _ _ _ _ _ _ _ _ _ _ _ _ _
        refine aj_iconst 33 (dx d_Family_choose 19 rfl) rfl ?_
        refine aj_icmp_ne 74 36 (dx d_Family_choose 20 rfl) rfl rfl (by unfold aj_I; omega) (by unfold aj_I; omega) (fun h33 => ?_) (fun h33 => ?_)
        · exact absurd rfl h33
        · refine aj_aload_n 2 37 (dx d_Family_choose 21 rfl) rfl rfl rfl ?_
          refine aj_aload_n 1 38 (dx d_Family_choose 22 rfl) rfl rfl rfl ?_
          refine aj_iload_n 3 39 (dx d_Family_choose 23 rfl) rfl rfl rfl ?_
          refine aj_aload_n 1 40 (dx d_Family_choose 24 rfl) rfl rfl rfl ?_
          refine aj_iload 4 42 (dx d_Family_choose 25 rfl) rfl rfl ?_
          refine aj_callV4 45 cl_Family_40 (dx d_Family_choose 26 rfl) rfl rfl rfl rfl rfl rfl hp1.1 (k_Search_find hp1 hm1 hm1 (by omega) (by omega) (show i < n by omega) hj (fun g2 w hfd hw hwl hwat => ?_) (fun g2 hfd hw _ => ?_))
          · have hC2 := fc_F_fd hC hfd
            have hF2 := fam_fd hF hfd
            have hf2 := fms_of hf hC2.2.1 (hC2.1 14 (by omega)) (hC2.1 15 (by omega)) hC2.2.2.1
            have hp2 := pss_of hp hC2.2.2.2.1 (hC2.2.2.2.2 0 (by omega))
            have hc8 : (fm_in (tl nx ou) (lwd k nx ou) i (j - (i + 1)) (fm_out (tl nx ou) (lwd k nx ou) n i)).1 < 8 := by omega
            have hw2 := (hf2.2.2.2.2.2 _ hc8).2.1
            have hlw := lwd_eq (by omega) hw
            have hwat : wat g2 45 w := hwat
            change aj_wp _ _ _ _ _ _ _ _ _ _ _ _ _ _
            refine aj_if_eq 74 48 (dx d_Family_choose 27 rfl) rfl rfl (by unfold aj_I; omega) (fun h45 => ?_) (fun h45 => ?_)
            · exact absurd h45 (by omega)
            · refine aj_aload_n 0 49 (dx d_Family_choose 28 rfl) rfl rfl rfl ?_
              refine aj_getf 52 fl_Family_11 (dx d_Family_choose 29 rfl) rfl hf2.1 ?_
              rw [hf2.2.1.1]
              refine aj_aload_n 0 53 (dx d_Family_choose 30 rfl) rfl rfl rfl ?_
              refine aj_getf 56 fl_Family_26 (dx d_Family_choose 31 rfl) rfl hf2.1 ?_
              refine aj_aald 57 (dx d_Family_choose 32 rfl) rfl hf2.2.2.1 rfl rfl (by rw [hF2.1]; omega) (by rw [hF2.1]; omega) ?_
              rw [hF2.1, (hf2.2.2.2.2.2 _ hc8).1]
              refine aj_aload_n 2 58 (dx d_Family_choose 33 rfl) rfl rfl rfl ?_
              refine aj_getf 61 fl_Family_46 (dx d_Family_choose 34 rfl) rfl hp2.1 ?_
              rw [show g2 44 0 = 45 from hp2.2.1.1]
              refine aj_callV1 64 cl_Family_50 (dx d_Family_choose 35 rfl) rfl rfl rfl rfl rfl rfl hw2.1 (k_Word_copy hal hw2 ⟨hp2.2.2.1.1, hp2.2.2.1.2.1, hp2.2.2.1.2.2⟩ (by omega) (by rw [hwat.1]; omega) (by rw [hwat.1]; omega) ?_)
              change aj_wp _ _ _ _ _ _ _ _ _ _ _ _ _ _
              refine aj_aload_n 0 65 (dx d_Family_choose 36 rfl) rfl rfl rfl ?_
              refine aj_dup 66 (dx d_Family_choose 37 rfl) rfl rfl ?_
              refine aj_getf 69 fl_Family_26 (dx d_Family_choose 38 rfl) rfl hf2.1 ?_
              rw [aj_cpy_ne _ _ _ _ _ (by omega), aj_up_ne _ _ _ (by omega), hF2.1]
              refine aj_iconst 70 (dx d_Family_choose 39 rfl) rfl ?_
              refine aj_iadd 71 (dx d_Family_choose 40 rfl) rfl ?_
              refine aj_putf 74 (pl_Family_26 _) (dx d_Family_choose 41 rfl) rfl hf2.1 (aj_fitI _) ?_
              refine aj_iinc 4 77 (dx d_Family_choose 42 rfl) rfl rfl rfl ?_
              simp only [List.set]
              refine aj_goto 15 (dx d_Family_choose 43 rfl) rfl ?_
              obtain ⟨e1, e2⟩ := fm_I_new (lw := lwd k nx ou) hI (by omega) hj hnone (by rw [hlw]; exact hw) (by rw [hlw]; exact hwl)
              rw [e1, hlw] at hq2
              rw [hlw] at e2
              obtain ⟨hC3, hF3⟩ := fc_new hC2 hF2 hc8 hwat hw.1 hwl
              have hih := ih _ (by omega) (j + 1) _ (by omega) (by omega) rfl hC3 (by rw [hq2]; exact hF3) (by rw [hq2]; exact e2)
              rw [show ((j : Nat) : Int) + 1 = ((j + 1 : Nat) : Int) by omega]
              exact hih
          · exact absurd hw (hdist i j (by omega) hj (by omega))
def ch_F (g g1 : aj_G) : Prop := (∀ r', r' < 13 ∨ r' = 14 ∨ r' = 15 ∨ (40 < r' ∧ r' < 44) ∨ 52 < r' → g1 r' = g r') ∧ (∀ j, j ≠ 3 → g1 13 j = g 13 j) ∧ (∀ w : Nat, w < 8 → g1 (25 + 2 * (w : Int)) 0 = g (25 + 2 * (w : Int)) 0) ∧ (∀ j, j ≠ 7 → g1 44 j = g 44 j) ∧ ∀ j, j ≠ 1 → g1 45 j = g 45 j
set_option maxHeartbeats 4000000 in
theorem k_choose_2 {al : Prop} {X : Option (Nat × (Int → Int))} {d : Nat} {sh : List aj_S} {g : aj_G} {Q : aj_R → List aj_S → aj_G → Prop} {L k n : Nat} {nx ou : Nat → Nat → Nat} (hal : ¬ al) (hf : fms sh g) (hm : mcm sh g 10 L k n nx ou) (hn8 : n ≤ 8) (hn0 : 0 < n) (hp : pss sh g 44) (hdist : ∀ a b, a < n → b < n → a ≠ b → ¬ wd_none k nx ou a nx ou b) (hk : ∀ g1, ch_F g g1 → fam g1 k (fm_out (tl nx ou) (lwd k nx ou) n n).1 (fm_out (tl nx ou) (lwd k nx ou) n n).2 → (∀ a, a < n → oat g1 a (ow (tl nx ou) (fm_out (tl nx ou) (lwd k nx ou) n n).2 (fm_out (tl nx ou) (lwd k nx ou) n n).1 a n)) → Q (.inl none) sh g1) {gb : aj_G} (hC : fc_F g gb) (hF : fam gb k (fm_out (tl nx ou) (lwd k nx ou) n n).1 (fm_out (tl nx ou) (lwd k nx ou) n n).2) (hcov : ∀ a b, a < n → b < n → a ≠ b → ∃ w, w < (fm_out (tl nx ou) (lwd k nx ou) n n).1 ∧ tl nx ou a b ((fm_out (tl nx ou) (lwd k nx ou) n n).2 w)) :
    ∀ (m i : Nat) (g1 : aj_G), i ≤ n → n - i = m → (∀ r', r' ≠ 24 → (r' < 16 ∨ 23 < r') → g1 r' = gb r') → (∀ a, a < i → oat g1 a (ow (tl nx ou) (fm_out (tl nx ou) (lwd k nx ou) n n).2 (fm_out (tl nx ou) (lwd k nx ou) n n).1 a n)) → (∀ a : Nat, i ≤ a → a < 8 → g1 24 a = 0) →
    aj_wp nE al al X m_Family_choose (d + 4) 0 0 88 [some (1, 13), some (1, 10), some (1, 44), some (0, (i : Int)), none] [] sh g1 Q := by
  intro m
  induction m using Nat.strongRecOn with
  | ind m ih =>
    intro i g1 hi0 hmm hE hd hz
    have hf1 := fms_of (g1 := g1) hf (fun j z => by rw [hE 13 (by omega) (by omega)]; exact hC.2.1 j z) (by rw [hE 14 (by omega) (by omega)]; exact hC.1 14 (by omega)) (by rw [hE 15 (by omega) (by omega)]; exact hC.1 15 (by omega)) (fun w hw => by rw [hE _ (by omega) (by omega)]; exact hC.2.2.1 w hw)
    have hm1 := mcm_of (g1 := g1) hm (by rw [hE 10 (by omega) (by omega)]; exact hC.1 10 (by omega)) (by rw [hE _ (by omega) (by omega)]; exact hC.1 _ (by omega)) (by rw [hE _ (by omega) (by omega)]; exact hC.1 _ (by omega))
    have hF1 := fam_of (g1 := g1) hF (by rw [hE 13 (by omega) (by omega)]) (fun w hw => ⟨hE _ (by omega) (by omega), hE _ (by omega) (by omega)⟩)
    refine aj_iload_n 3 89 (dx d_Family_choose 48 rfl) rfl rfl rfl ?_
    refine aj_aload_n 1 90 (dx d_Family_choose 49 rfl) rfl rfl rfl ?_
    refine aj_getf 93 fl_Family_31 (dx d_Family_choose 50 rfl) rfl hm1.1.1 ?_
    refine aj_icmp_ge 108 96 (dx d_Family_choose 51 rfl) rfl rfl (by unfold aj_I; omega) (by rw [hm1.2.2.1]; unfold aj_I; omega) (fun h93 => ?_) (fun h93 => ?_)
    · rw [hm1.2.2.1] at h93
      refine aj_vret (dx d_Family_choose 58 rfl) rfl id ?_
      exact hk g1 ⟨fun r' z => by rw [hE r' (by omega) (by omega)]; exact hC.1 r' (by omega), fun j z => by rw [hE 13 (by omega) (by omega)]; exact hC.2.1 j z, fun w hw => by rw [hE _ (by omega) (by omega)]; exact hC.2.2.1 w hw, fun j z => by rw [hE 44 (by omega) (by omega)]; exact hC.2.2.2.1 j z, fun j z => by rw [hE 45 (by omega) (by omega)]; exact hC.2.2.2.2 j z⟩ hF1 (fun a ha => hd a (by omega))
    · rw [hm1.2.2.1] at h93
      have hi : i < n := by omega
      refine aj_aload_n 0 97 (dx d_Family_choose 52 rfl) rfl rfl rfl ?_
      refine aj_aload_n 1 98 (dx d_Family_choose 53 rfl) rfl rfl rfl ?_
      refine aj_iload_n 3 99 (dx d_Family_choose 54 rfl) rfl rfl rfl ?_
      refine aj_callV2 102 cl_Family_54 (dx d_Family_choose 55 rfl) rfl rfl rfl rfl rfl rfl hf1.1 (k_chooseOwn hf1 hm1 hn8 hF1 hi hcov (fun g2 hco ho => ?_) (hz i (Nat.le_refl _) (by omega)))
      change aj_wp _ _ _ _ _ _ _ _ _ _ _ _ _ _
      refine aj_iinc 3 105 (dx d_Family_choose 56 rfl) rfl rfl rfl ?_
      simp only [List.set]
      refine aj_goto 88 (dx d_Family_choose 57 rfl) rfl ?_
      have hih := ih _ (by omega) (i + 1) g2 (by omega) rfl (fun r' c1 c2 => by rw [hco.1 r' c1 (by omega)]; exact hE r' c1 c2) (fun a ha => by
        by_cases e : a = i
        · subst e; exact ho
        · have := hd a (by omega)
          unfold oat at this ⊢
          rw [hco.2 a (by omega), hco.1 (16 + (a : Int)) (by omega) (by omega)]
          exact this) (fun a h1 h2 => by rw [hco.2 a (by omega)]; exact hz a (by omega) h2)
      rw [show ((i : Nat) : Int) + 1 = ((i + 1 : Nat) : Int) by omega]
      exact hih
set_option maxHeartbeats 4000000 in
theorem k_choose_1 {al : Prop} {X : Option (Nat × (Int → Int))} {d : Nat} {sh : List aj_S} {g : aj_G} {Q : aj_R → List aj_S → aj_G → Prop} {L k n : Nat} {nx ou : Nat → Nat → Nat} (hal : ¬ al) (hf : fms sh g) (hm : mcm sh g 10 L k n nx ou) (hn8 : n ≤ 8) (hn0 : 0 < n) (hp : pss sh g 44) (hdist : ∀ a b, a < n → b < n → a ≠ b → ¬ wd_none k nx ou a nx ou b) (hk : ∀ g1, ch_F g g1 → fam g1 k (fm_out (tl nx ou) (lwd k nx ou) n n).1 (fm_out (tl nx ou) (lwd k nx ou) n n).2 → (∀ a, a < n → oat g1 a (ow (tl nx ou) (fm_out (tl nx ou) (lwd k nx ou) n n).2 (fm_out (tl nx ou) (lwd k nx ou) n n).1 a n)) → Q (.inl none) sh g1) (hz : ∀ a : Nat, a < 8 → g 24 a = 0) :
    ∀ (m i : Nat) (g1 : aj_G), i ≤ n → n - i = m → fc_F g g1 → fam g1 k (fm_out (tl nx ou) (lwd k nx ou) n i).1 (fm_out (tl nx ou) (lwd k nx ou) n i).2 → fm_I k n nx ou (fm_out (tl nx ou) (lwd k nx ou) n i) i (i + 1) →
    aj_wp nE al al X m_Family_choose (d + 4) 0 0 2 [some (1, 13), some (1, 10), some (1, 44), some (0, (i : Int)), none] [] sh g1 Q := by
  intro m
  induction m using Nat.strongRecOn with
  | ind m ih =>
    intro i g1 hi0 hmm hC hF hI
    have hf1 := fms_of hf hC.2.1 (hC.1 14 (by omega)) (hC.1 15 (by omega)) hC.2.2.1
    have hm1 := mcm_of hm (hC.1 10 (by omega)) (hC.1 _ (by omega)) (hC.1 _ (by omega))
    have hp1 := pss_of hp hC.2.2.2.1 (hC.2.2.2.2 0 (by omega))
    have hk3 := hm.2.2.2.2.1
    refine aj_iload_n 3 3 (dx d_Family_choose 2 rfl) rfl rfl rfl ?_
    refine aj_aload_n 1 4 (dx d_Family_choose 3 rfl) rfl rfl rfl ?_
    refine aj_getf 7 fl_Family_31 (dx d_Family_choose 4 rfl) rfl hm1.1.1 ?_
    refine aj_icmp_ge 86 10 (dx d_Family_choose 5 rfl) rfl rfl (by unfold aj_I; omega) (by rw [hm1.2.2.1]; unfold aj_I; omega) (fun h7 => ?_) (fun h7 => ?_)
    · rw [hm1.2.2.1] at h7
      have hi : i = n := by omega
      subst hi
      refine aj_iconst 87 (dx d_Family_choose 46 rfl) rfl ?_
      refine aj_istore_n 3 88 (dx d_Family_choose 47 rfl) rfl rfl rfl ?_
      simp only [List.set]
      refine k_choose_2 hal hf hm hn8 hn0 hp hdist hk hC hF (fun a b h1 h2 h3 => ?_) _ 0 g1 (Nat.zero_le _) rfl (fun _ _ _ => rfl) (fun a ha => absurd ha (Nat.not_lt_zero _)) (fun a h1 h2 => by rw [hC.1 24 (by omega)]; exact hz a h2)
      rcases Nat.lt_or_ge a b with z | z
      · exact hI.2 a b z h2 (by omega)
      · obtain ⟨w, w1, w2⟩ := hI.2 b a (by omega) h1 (by omega)
        exact ⟨w, w1, tl_symm w2⟩
    · rw [hm1.2.2.1] at h7
      have hi : i < n := by omega
      refine aj_iload_n 3 11 (dx d_Family_choose 6 rfl) rfl rfl rfl ?_
      refine aj_iconst 12 (dx d_Family_choose 7 rfl) rfl ?_
      refine aj_iadd 13 (dx d_Family_choose 8 rfl) rfl ?_
      refine aj_istore 4 15 (dx d_Family_choose 9 rfl) rfl rfl ?_
      simp only [List.set]
      rw [show ((i : Nat) : Int) + 1 = ((i + 1 : Nat) : Int) by omega]
      refine k_choose_in hal hf hm hn8 hn0 hp hdist hi (fun g2 hC2 hF2 hI2 => ?_) _ (i + 1) g1 (Nat.le_refl _) (by omega) rfl hC (by rw [Nat.sub_self]; exact hF) (by rw [Nat.sub_self]; exact hI)
      have := ih _ (by omega) (i + 1) g2 (by omega) rfl hC2 hF2 hI2
      rw [show ((i : Nat) : Int) + 1 = ((i + 1 : Nat) : Int) by omega]
      exact this
set_option maxHeartbeats 4000000 in
theorem k_Family_choose {al : Prop} {X : Option (Nat × (Int → Int))} {d : Nat} {sh : List aj_S} {g : aj_G} {Q : aj_R → List aj_S → aj_G → Prop} {L k n : Nat} {nx ou : Nat → Nat → Nat} (hal : ¬ al) (hf : fms sh g) (hm : mcm sh g 10 L k n nx ou) (hn8 : n ≤ 8) (hn0 : 0 < n) (hp : pss sh g 44) (hdist : ∀ a b, a < n → b < n → a ≠ b → ¬ wd_none k nx ou a nx ou b) (hk : ∀ g1, ch_F g g1 → fam g1 k (fm_out (tl nx ou) (lwd k nx ou) n n).1 (fm_out (tl nx ou) (lwd k nx ou) n n).2 → (∀ a, a < n → oat g1 a (ow (tl nx ou) (fm_out (tl nx ou) (lwd k nx ou) n n).2 (fm_out (tl nx ou) (lwd k nx ou) n n).1 a n)) → Q (.inl none) sh g1) (hz : ∀ a : Nat, a < 8 → g 24 a = 0) (h133 : g 13 3 = 0) : aj_wp nE al al X m_Family_choose (d + 4) 0 0 0 [some (1, 13), some (1, 10), some (1, 44), none, none] [] sh g Q := by
  refine aj_iconst 1 (dx d_Family_choose 0 rfl) rfl ?_
  refine aj_istore_n 3 2 (dx d_Family_choose 1 rfl) rfl rfl rfl ?_
  simp only [List.set]
  exact k_choose_1 hal hf hm hn8 hn0 hp hdist hk hz _ 0 g (Nat.zero_le _) rfl (fc_F_0 g) ⟨h133, Nat.zero_le _, fun w hw => absurd hw (Nat.not_lt_zero _)⟩ ⟨fun w hw => absurd hw (Nat.not_lt_zero _), fun a b h1 h2 h3 => by omega⟩
end
section
/-! links: the law's own methods, what is thrown, the nest mates' constructors, what is made -/
set_option maxRecDepth 100000 in
theorem ww_Law_edge : Cond.codeWith m_Law_edge.1 m_Law_edge.2.1 m_Law_edge.2.2.1 m_Law_edge.2.2.2 (aj_tb m_Law_edge.1) ∈ nm_ws := nm_at 441 rfl rfl
theorem wl_Law_65 : aj_wl nE "TestBenchLaw" 65 m_Law_edge 5 := ⟨nm_at 439 (by decide +kernel) rfl, ww_Law_edge, nm_at 40 (by decide +kernel) rfl, by decide +kernel, by decide, by decide, nm_at 440 (by decide +kernel) rfl⟩
set_option maxRecDepth 100000 in
theorem ww_Law_start : Cond.codeWith m_Law_start.1 m_Law_start.2.1 m_Law_start.2.2.1 m_Law_start.2.2.2 (aj_tb m_Law_start.1) ∈ nm_ws := nm_at 538 rfl rfl
theorem wl_Law_72 : aj_wl nE "TestBenchLaw" 72 m_Law_start 2 := ⟨nm_at 536 (by decide +kernel) rfl, ww_Law_start, nm_at 40 (by decide +kernel) rfl, by decide +kernel, by decide, by decide, nm_at 537 (by decide +kernel) rfl⟩
set_option maxRecDepth 100000 in
theorem ww_Law_seal : Cond.codeWith m_Law_seal.1 m_Law_seal.2.1 m_Law_seal.2.2.1 m_Law_seal.2.2.2 (aj_tb m_Law_seal.1) ∈ nm_ws := nm_at 545 rfl rfl
theorem wl_Law_76 : aj_wl nE "TestBenchLaw" 76 m_Law_seal 2 := ⟨nm_at 543 (by decide +kernel) rfl, ww_Law_seal, nm_at 40 (by decide +kernel) rfl, by decide +kernel, by decide, by decide, nm_at 544 (by decide +kernel) rfl⟩
set_option maxRecDepth 100000 in
theorem ww_Law_apart : Cond.codeWith m_Law_apart.1 m_Law_apart.2.1 m_Law_apart.2.2.1 m_Law_apart.2.2.2 (aj_tb m_Law_apart.1) ∈ nm_ws := nm_at 618 rfl rfl
theorem wl_Law_84 : aj_wl nE "TestBenchLaw" 84 m_Law_apart 4 := ⟨nm_at 616 (by decide +kernel) rfl, ww_Law_apart, nm_at 40 (by decide +kernel) rfl, by decide +kernel, by decide, by decide, nm_at 617 (by decide +kernel) rfl⟩
set_option maxRecDepth 100000 in
theorem ww_Law_suite : Cond.codeWith m_Law_suite.1 m_Law_suite.2.1 m_Law_suite.2.2.1 m_Law_suite.2.2.2 (aj_tb m_Law_suite.1) ∈ nm_ws := nm_at 627 rfl rfl
theorem wl_Law_100 : aj_wl nE "TestBenchLaw" 100 m_Law_suite 4 := ⟨nm_at 625 (by decide +kernel) rfl, ww_Law_suite, nm_at 40 (by decide +kernel) rfl, by decide +kernel, by decide, by decide, nm_at 626 (by decide +kernel) rfl⟩
set_option maxRecDepth 100000 in
theorem ww_Law_resize : Cond.codeWith m_Law_resize.1 m_Law_resize.2.1 m_Law_resize.2.2.1 m_Law_resize.2.2.2 (aj_tb m_Law_resize.1) ∈ nm_ws := nm_at 687 rfl rfl
theorem wl_Law_108 : aj_wl nE "TestBenchLaw" 108 m_Law_resize 2 := ⟨nm_at 685 (by decide +kernel) rfl, ww_Law_resize, nm_at 40 (by decide +kernel) rfl, by decide +kernel, by decide, by decide, nm_at 686 (by decide +kernel) rfl⟩
set_option maxRecDepth 100000 in
theorem ww_Law_change : Cond.codeWith m_Law_change.1 m_Law_change.2.1 m_Law_change.2.2.1 m_Law_change.2.2.2 (aj_tb m_Law_change.1) ∈ nm_ws := nm_at 695 rfl rfl
theorem wl_Law_111 : aj_wl nE "TestBenchLaw" 111 m_Law_change 5 := ⟨nm_at 693 (by decide +kernel) rfl, ww_Law_change, nm_at 40 (by decide +kernel) rfl, by decide +kernel, by decide, by decide, nm_at 694 (by decide +kernel) rfl⟩
set_option maxRecDepth 100000 in
theorem ww_Law_run : Cond.codeWith m_Law_run.1 m_Law_run.2.1 m_Law_run.2.2.1 m_Law_run.2.2.2 (aj_tb m_Law_run.1) ∈ nm_ws := nm_at 702 rfl rfl
theorem wl_Law_114 : aj_wl nE "TestBenchLaw" 114 m_Law_run 2 := ⟨nm_at 700 (by decide +kernel) rfl, ww_Law_run, nm_at 40 (by decide +kernel) rfl, by decide +kernel, by decide, by decide, nm_at 701 (by decide +kernel) rfl⟩
set_option maxRecDepth 100000 in
theorem ww_Law_begin : Cond.codeWith m_Law_begin.1 m_Law_begin.2.1 m_Law_begin.2.2.1 m_Law_begin.2.2.2 (aj_tb m_Law_begin.1) ∈ nm_ws := nm_at 725 rfl rfl
theorem wl_Law_121 : aj_wl nE "TestBenchLaw" 121 m_Law_begin 3 := ⟨nm_at 723 (by decide +kernel) rfl, ww_Law_begin, nm_at 40 (by decide +kernel) rfl, by decide +kernel, by decide, by decide, nm_at 724 (by decide +kernel) rfl⟩
set_option maxRecDepth 100000 in
theorem ww_Law_give : Cond.codeWith m_Law_give.1 m_Law_give.2.1 m_Law_give.2.2.1 m_Law_give.2.2.2 (aj_tb m_Law_give.1) ∈ nm_ws := nm_at 736 rfl rfl
theorem wl_Law_125 : aj_wl nE "TestBenchLaw" 125 m_Law_give 3 := ⟨nm_at 734 (by decide +kernel) rfl, ww_Law_give, nm_at 40 (by decide +kernel) rfl, by decide +kernel, by decide, by decide, nm_at 735 (by decide +kernel) rfl⟩
set_option maxRecDepth 100000 in
theorem ww_Law_same : Cond.codeWith m_Law_same.1 m_Law_same.2.1 m_Law_same.2.2.1 m_Law_same.2.2.2 (aj_tb m_Law_same.1) ∈ nm_ws := nm_at 744 rfl rfl
theorem wl_Law_128 : aj_wl nE "TestBenchLaw" 128 m_Law_same 2 := ⟨nm_at 742 (by decide +kernel) rfl, ww_Law_same, nm_at 40 (by decide +kernel) rfl, by decide +kernel, by decide, by decide, nm_at 743 (by decide +kernel) rfl⟩
theorem th_mem {L : List Cond} {X : String} (h : L.all (fun w => decide (w ∈ nm_ws) || (aj_dcl.any (fun x => decide (w = .declares x))) || decide (w = .castable X X) || decide (w = .laysStatic Bundle.tN "UNASSIGNED_STACK" Bundle.steD) || decide (w = .isRef (.static Bundle.tN "UNASSIGNED_STACK" Bundle.steD)) || decide (w = .laysStatic Bundle.tN "SUPPRESSED_SENTINEL" Bundle.listD) || decide (w = .isRef (.static Bundle.tN "SUPPRESSED_SENTINEL" Bundle.listD))) = true) :
    ∀ w ∈ L, w ∈ nE.2.2.2.1 ∨ (∃ x ∈ aj_dcl, w = .declares x) ∨ w = .castable X X ∨ w = .laysStatic Bundle.tN "UNASSIGNED_STACK" Bundle.steD ∨ w = .isRef (.static Bundle.tN "UNASSIGNED_STACK" Bundle.steD) ∨ w = .laysStatic Bundle.tN "SUPPRESSED_SENTINEL" Bundle.listD ∨ w = .isRef (.static Bundle.tN "SUPPRESSED_SENTINEL" Bundle.listD) := by
  intro w hw
  have h1 := List.all_eq_true.mp h w hw
  simp only [Bool.or_eq_true, decide_eq_true_eq, List.any_eq_true] at h1
  rcases h1 with (((((h | h) | h) | h) | h) | h) | h
  · exact Or.inl h
  · exact Or.inr (Or.inl h)
  · exact Or.inr (Or.inr (Or.inl h))
  · exact Or.inr (Or.inr (Or.inr (Or.inl h)))
  · exact Or.inr (Or.inr (Or.inr (Or.inr (Or.inl h))))
  · exact Or.inr (Or.inr (Or.inr (Or.inr (Or.inr (Or.inl h)))))
  · exact Or.inr (Or.inr (Or.inr (Or.inr (Or.inr (Or.inr h)))))
set_option maxRecDepth 100000 in
theorem th_IAE : aj_thw nE "TestBench" 100 102 0 "java/lang/IllegalArgumentException" := ⟨rfl, by decide +kernel, nm_at 457 (by decide +kernel) rfl, nm_at 54 (by decide +kernel) rfl, th_mem (by decide +kernel)⟩
set_option maxRecDepth 100000 in
theorem th_ISE : aj_thw nE "TestBench" 103 105 1 "java/lang/IllegalStateException" := ⟨rfl, by decide +kernel, nm_at 520 (by decide +kernel) rfl, nm_at 55 (by decide +kernel) rfl, th_mem (by decide +kernel)⟩
set_option maxRecDepth 100000 in
theorem th_UOE : aj_thw nE "TestBench" 174 176 2 "java/lang/UnsupportedOperationException" := ⟨rfl, by decide +kernel, nm_at 670 (by decide +kernel) rfl, nm_at 57 (by decide +kernel) rfl, th_mem (by decide +kernel)⟩
theorem hc_IAE : Cond.classLink "TestBenchLaw" 13 "java/lang/IllegalArgumentException" ∈ nm_ws := nm_at 442 (by decide +kernel) rfl
theorem hc_ISE : Cond.classLink "TestBenchLaw" 15 "java/lang/IllegalStateException" ∈ nm_ws := nm_at 443 (by decide +kernel) rfl
theorem hc_UOE : Cond.classLink "TestBenchLaw" 32 "java/lang/UnsupportedOperationException" ∈ nm_ws := nm_at 628 (by decide +kernel) rfl
set_option maxRecDepth 100000 in
theorem wk_Word_init : Cond.code m_Word_init.1 m_Word_init.2.1 m_Word_init.2.2.1 m_Word_init.2.2.2 ∈ nm_ws := nm_at 162 rfl rfl
theorem nl_Family_30 : aj_nl1 nE "TestBench$Family" "TestBench" 30 m_Word_init 0 := ⟨by decide +kernel, wk_Word_init, nm_at 46 (by decide +kernel) rfl, by decide +kernel, by decide, by decide, rfl, nm_at 161 (by decide +kernel) rfl, rfl, rfl⟩
set_option maxRecDepth 100000 in
theorem wk_Search_init : Cond.code m_Search_init.1 m_Search_init.2.1 m_Search_init.2.2.1 m_Search_init.2.2.2 ∈ nm_ws := nm_at 203 rfl rfl
theorem nl_Bench_48 : aj_nl1 nE "TestBench" "TestBench" 48 m_Search_init 0 := ⟨by decide +kernel, wk_Search_init, nm_at 47 (by decide +kernel) rfl, by decide +kernel, by decide, by decide, rfl, nm_at 202 (by decide +kernel) rfl, rfl, rfl⟩
theorem nl_Search_11 : aj_nl1 nE "TestBench$PairSearch" "TestBench" 11 m_Word_init 0 := ⟨by decide +kernel, wk_Word_init, nm_at 46 (by decide +kernel) rfl, by decide +kernel, by decide, by decide, rfl, nm_at 161 (by decide +kernel) rfl, rfl, rfl⟩
set_option maxRecDepth 100000 in
theorem wk_Trial_init : Cond.code m_Trial_init.1 m_Trial_init.2.1 m_Trial_init.2.2.1 m_Trial_init.2.2.2 ∈ nm_ws := nm_at 239 rfl rfl
theorem nl_Bench_55 : aj_nl1 nE "TestBench" "TestBench" 55 m_Trial_init 0 := ⟨by decide +kernel, wk_Trial_init, nm_at 48 (by decide +kernel) rfl, by decide +kernel, by decide, by decide, rfl, nm_at 238 (by decide +kernel) rfl, rfl, rfl⟩
theorem nl_Bench_62 : aj_nl1 nE "TestBench" "TestBench" 62 m_Word_init 0 := ⟨by decide +kernel, wk_Word_init, nm_at 46 (by decide +kernel) rfl, by decide +kernel, by decide, by decide, rfl, nm_at 161 (by decide +kernel) rfl, rfl, rfl⟩
theorem nw_Law_8 : aj_nl0 nE "TestBenchLaw" 8 7 14 := ⟨"TestBench", nm_T7, rfl, nm_at 59 (by decide +kernel) rfl, nm_at 60 (by decide +kernel) rfl, nm_at 41 (by decide +kernel) rfl⟩
theorem nw_Bench_18 : aj_nl0 nE "TestBench" 18 0 4 := ⟨"TestBench$Machine", nm_T0, rfl, nm_at 73 (by decide +kernel) rfl, nm_at 74 (by decide +kernel) rfl, nm_at 43 (by decide +kernel) rfl⟩
theorem nw_Bench_27 : aj_nl0 nE "TestBench" 27 3 6 := ⟨"TestBench$Reduction", nm_T3, rfl, nm_at 117 (by decide +kernel) rfl, nm_at 118 (by decide +kernel) rfl, nm_at 44 (by decide +kernel) rfl⟩
theorem nw_Reduction_27 : aj_nl0 nE "TestBench$Reduction" 27 0 4 := ⟨"TestBench$Machine", nm_T0, rfl, nm_at 123 (by decide +kernel) rfl, nm_at 74 (by decide +kernel) rfl, nm_at 43 (by decide +kernel) rfl⟩
theorem nw_Bench_36 : aj_nl0 nE "TestBench" 36 4 4 := ⟨"TestBench$Family", nm_T4, rfl, nm_at 149 (by decide +kernel) rfl, nm_at 150 (by decide +kernel) rfl, nm_at 45 (by decide +kernel) rfl⟩
theorem nw_Family_9 : aj_nl0 nE "TestBench$Family" 9 1 2 := ⟨"TestBench$Word", nm_T1, rfl, nm_at 155 (by decide +kernel) rfl, nm_at 159 (by decide +kernel) rfl, nm_at 46 (by decide +kernel) rfl⟩
theorem nw_Bench_46 : aj_nl0 nE "TestBench" 46 2 8 := ⟨"TestBench$PairSearch", nm_T2, rfl, nm_at 199 (by decide +kernel) rfl, nm_at 200 (by decide +kernel) rfl, nm_at 47 (by decide +kernel) rfl⟩
theorem nw_Search_9 : aj_nl0 nE "TestBench$PairSearch" 9 1 2 := ⟨"TestBench$Word", nm_T1, rfl, nm_at 205 (by decide +kernel) rfl, nm_at 159 (by decide +kernel) rfl, nm_at 46 (by decide +kernel) rfl⟩
theorem nw_Bench_53 : aj_nl0 nE "TestBench" 53 6 2 := ⟨"TestBench$Trial", nm_T6, rfl, nm_at 235 (by decide +kernel) rfl, nm_at 236 (by decide +kernel) rfl, nm_at 48 (by decide +kernel) rfl⟩
theorem nw_Bench_60 : aj_nl0 nE "TestBench" 60 1 2 := ⟨"TestBench$Word", nm_T1, rfl, nm_at 248 (by decide +kernel) rfl, nm_at 159 (by decide +kernel) rfl, nm_at 46 (by decide +kernel) rfl⟩
theorem nw_Bench_67 : aj_nl0 nE "TestBench" 67 5 15 := ⟨"TestBench$Suite", nm_T5, rfl, nm_at 250 (by decide +kernel) rfl, nm_at 251 (by decide +kernel) rfl, nm_at 49 (by decide +kernel) rfl⟩
theorem nw_Law_62 : aj_nl0 nE "TestBenchLaw" 62 8 37 := ⟨"TestBenchModel", nm_T8, rfl, nm_at 749 (by decide +kernel) rfl, nm_at 750 (by decide +kernel) rfl, nm_at 50 (by decide +kernel) rfl⟩
theorem ob_Bench_3 : Cond.methodLink "TestBench" 3 Lib.objectInit ∈ nm_ws ∧ Cond.instanceMethod Lib.objectInit ∈ nm_ws ∧ Cond.code Lib.objectInit ⟨#[0xb1]⟩ 1 none ∈ nm_ws := ⟨nm_at 64 (by decide +kernel) rfl, nm_at 65 (by decide +kernel) rfl, nm_at 66 (by decide +kernel) rfl⟩
theorem ob_Machine_3 : Cond.methodLink "TestBench$Machine" 3 Lib.objectInit ∈ nm_ws ∧ Cond.instanceMethod Lib.objectInit ∈ nm_ws ∧ Cond.code Lib.objectInit ⟨#[0xb1]⟩ 1 none ∈ nm_ws := ⟨nm_at 78 (by decide +kernel) rfl, nm_at 65 (by decide +kernel) rfl, nm_at 66 (by decide +kernel) rfl⟩
theorem ob_Reduction_3 : Cond.methodLink "TestBench$Reduction" 3 Lib.objectInit ∈ nm_ws ∧ Cond.instanceMethod Lib.objectInit ∈ nm_ws ∧ Cond.code Lib.objectInit ⟨#[0xb1]⟩ 1 none ∈ nm_ws := ⟨nm_at 122 (by decide +kernel) rfl, nm_at 65 (by decide +kernel) rfl, nm_at 66 (by decide +kernel) rfl⟩
theorem ob_Family_3 : Cond.methodLink "TestBench$Family" 3 Lib.objectInit ∈ nm_ws ∧ Cond.instanceMethod Lib.objectInit ∈ nm_ws ∧ Cond.code Lib.objectInit ⟨#[0xb1]⟩ 1 none ∈ nm_ws := ⟨nm_at 154 (by decide +kernel) rfl, nm_at 65 (by decide +kernel) rfl, nm_at 66 (by decide +kernel) rfl⟩
theorem ob_Word_3 : Cond.methodLink "TestBench$Word" 3 Lib.objectInit ∈ nm_ws ∧ Cond.instanceMethod Lib.objectInit ∈ nm_ws ∧ Cond.code Lib.objectInit ⟨#[0xb1]⟩ 1 none ∈ nm_ws := ⟨nm_at 163 (by decide +kernel) rfl, nm_at 65 (by decide +kernel) rfl, nm_at 66 (by decide +kernel) rfl⟩
theorem ob_Search_3 : Cond.methodLink "TestBench$PairSearch" 3 Lib.objectInit ∈ nm_ws ∧ Cond.instanceMethod Lib.objectInit ∈ nm_ws ∧ Cond.code Lib.objectInit ⟨#[0xb1]⟩ 1 none ∈ nm_ws := ⟨nm_at 204 (by decide +kernel) rfl, nm_at 65 (by decide +kernel) rfl, nm_at 66 (by decide +kernel) rfl⟩
theorem ob_Trial_3 : Cond.methodLink "TestBench$Trial" 3 Lib.objectInit ∈ nm_ws ∧ Cond.instanceMethod Lib.objectInit ∈ nm_ws ∧ Cond.code Lib.objectInit ⟨#[0xb1]⟩ 1 none ∈ nm_ws := ⟨nm_at 240 (by decide +kernel) rfl, nm_at 65 (by decide +kernel) rfl, nm_at 66 (by decide +kernel) rfl⟩
theorem ob_Suite_3 : Cond.methodLink "TestBench$Suite" 3 Lib.objectInit ∈ nm_ws ∧ Cond.instanceMethod Lib.objectInit ∈ nm_ws ∧ Cond.code Lib.objectInit ⟨#[0xb1]⟩ 1 none ∈ nm_ws := ⟨nm_at 255 (by decide +kernel) rfl, nm_at 65 (by decide +kernel) rfl, nm_at 66 (by decide +kernel) rfl⟩
theorem ob_Model_1 : Cond.methodLink "TestBenchModel" 1 Lib.objectInit ∈ nm_ws ∧ Cond.instanceMethod Lib.objectInit ∈ nm_ws ∧ Cond.code Lib.objectInit ⟨#[0xb1]⟩ 1 none ∈ nm_ws := ⟨nm_at 754 (by decide +kernel) rfl, nm_at 65 (by decide +kernel) rfl, nm_at 66 (by decide +kernel) rfl⟩
theorem mm_Bench_9 : Cond.methodLink "TestBench" 9 Lib.Math.min.name ∈ nm_ws ∧ Cond.static Lib.Math.min.name ∈ nm_ws ∧ Cond.initialized "java/lang/Math" ∈ nm_ws ∧ Cond.code Lib.Math.min.name Lib.Math.min.code 2 (some .int) ∈ nm_ws := ⟨nm_at 67 (by decide +kernel) rfl, nm_at 68 (by decide +kernel) rfl, nm_at 42 (by decide +kernel) rfl, nm_at 69 (by decide +kernel) rfl⟩
theorem mm_Bench_15 : Cond.methodLink "TestBench" 15 Lib.Math.max.name ∈ nm_ws ∧ Cond.static Lib.Math.max.name ∈ nm_ws ∧ Cond.initialized "java/lang/Math" ∈ nm_ws ∧ Cond.code Lib.Math.max.name Lib.Math.max.code 2 (some .int) ∈ nm_ws := ⟨nm_at 70 (by decide +kernel) rfl, nm_at 71 (by decide +kernel) rfl, nm_at 42 (by decide +kernel) rfl, nm_at 72 (by decide +kernel) rfl⟩
end
section
/-! longs as words; Model: length, at. Places: 78 the model, its rows 79 to 99 -/
theorem lg_bv (n : Nat) : (Int64.ofInt (n : Int)).toBitVec = BitVec.ofNat 64 n := by
  show (BitVec.ofInt 64 (n : Int)) = _
  exact BitVec.ofInt_natCast 64 n
theorem lg_ct : ∀ y, y < 64 → ((Int32.ofInt ((y : Nat) : Int)).toInt64 &&& 63).toBitVec.smod 64 = BitVec.ofNat 64 y := by decide +kernel
theorem lg_shr {n y : Nat} (hn : n < 2 ^ 63) (hy : y < 64) : Int64.ofInt (n : Int) >>> ((Int32.ofInt (y : Int)).toInt64 &&& 63) = Int64.ofInt ((n / 2 ^ y : Nat) : Int) := by
  apply Int64.toBitVec_inj.mp
  rw [Int64.toBitVec_shiftRight, lg_ct y hy, lg_bv, lg_bv]
  have hm : (BitVec.ofNat 64 n).msb = false := by
    rw [BitVec.msb_eq_false_iff_two_mul_lt, BitVec.toNat_ofNat, Nat.mod_eq_of_lt (by omega)]
    omega
  rw [BitVec.sshiftRight', BitVec.sshiftRight_eq_of_msb_false hm]
  apply BitVec.eq_of_toNat_eq
  rw [BitVec.toNat_ushiftRight, BitVec.toNat_ofNat, BitVec.toNat_ofNat, BitVec.toNat_ofNat, Nat.mod_eq_of_lt (show n < 2 ^ 64 by omega), Nat.mod_eq_of_lt (show y < 2 ^ 64 by omega), Nat.shiftRight_eq_div_pow, Nat.mod_eq_of_lt]
  exact Nat.lt_of_le_of_lt (Nat.div_le_self _ _) (by omega)
theorem lg_shl {n : Nat} (hn : n < 2 ^ 60) : Int64.ofInt (n : Int) <<< ((Int32.ofInt 2).toInt64 &&& 63) = Int64.ofInt ((4 * n : Nat) : Int) := by
  apply Int64.toBitVec_inj.mp
  have h2 : ((Int32.ofInt 2).toInt64 &&& 63).toBitVec.smod 64 = BitVec.ofNat 64 2 := lg_ct 2 (by decide)
  rw [Int64.toBitVec_shiftLeft, h2, lg_bv, lg_bv]
  apply BitVec.eq_of_toNat_eq
  rw [BitVec.shiftLeft_eq', BitVec.toNat_shiftLeft, BitVec.toNat_ofNat, BitVec.toNat_ofNat, BitVec.toNat_ofNat, Nat.mod_eq_of_lt (show n < 2 ^ 64 by omega), Nat.mod_eq_of_lt (show 2 < 2 ^ 64 by omega), Nat.shiftLeft_eq]
  congr 1
  omega
theorem lg_or {n i : Nat} (hn : n < 2 ^ 60) (hi : i < 4) : Int64.ofInt ((4 * n : Nat) : Int) ||| Int64.ofInt (i : Int) = Int64.ofInt ((4 * n + i : Nat) : Int) := by
  apply Int64.toBitVec_inj.mp
  rw [Int64.toBitVec_or, lg_bv, lg_bv, lg_bv]
  apply BitVec.eq_of_toNat_eq
  rw [BitVec.toNat_or, BitVec.toNat_ofNat, BitVec.toNat_ofNat, BitVec.toNat_ofNat, Nat.mod_eq_of_lt (show 4 * n < 2 ^ 64 by omega), Nat.mod_eq_of_lt (show i < 2 ^ 64 by omega), Nat.mod_eq_of_lt (show 4 * n + i < 2 ^ 64 by omega)]
  exact (Nat.two_pow_add_eq_or_of_lt (i := 2) hi n).symm
theorem lg_and {n : Nat} (hn : n < 2 ^ 63) : Int64.ofInt (n : Int) &&& Int64.ofInt 3 = Int64.ofInt ((n % 4 : Nat) : Int) := by
  apply Int64.toBitVec_inj.mp
  have h3 : (Int64.ofInt 3).toBitVec = BitVec.ofNat 64 3 := lg_bv 3
  rw [Int64.toBitVec_and, lg_bv, h3, lg_bv]
  apply BitVec.eq_of_toNat_eq
  rw [BitVec.toNat_and, BitVec.toNat_ofNat, BitVec.toNat_ofNat, BitVec.toNat_ofNat, Nat.mod_eq_of_lt (show n < 2 ^ 64 by omega), Nat.mod_eq_of_lt (show 3 < 2 ^ 64 by omega), Nat.mod_eq_of_lt (show n % 4 < 2 ^ 64 by omega)]
  exact Nat.and_two_pow_sub_one_eq_mod n 2

section AJV
variable {E : aj_E} {al ao : Prop} {X : Option (Nat × (Int → Int))} {M : aj_M} {d bc bs pc : Nat} {lv : List (Option aj_A)} {st : List aj_A} {sh : List aj_S} {g : aj_G} {Q : aj_R → List aj_S → aj_G → Prop}
theorem aj_getfv {index ci t : Nat} {jz r v : Int} (q : Nat) (hf : aj_fl E M.1.cls index ci t jz) (hd : decode M.2.1 pc = .ok (.getfield index, 3)) (hq : pc + 3 = q) (hs : aj_sh sh r = some (.inr ci)) (hv : g r jz = v) (k : aj_wp E al ao X M d bc bs q lv ((t, v) :: st) sh g Q) : aj_wp E al ao X M d bc bs pc lv ((1, r) :: st) sh g Q :=
  aj_getf q hf hd hq hs (by rw [hv]; exact k)
end AJV
def mo_t : List (Nat × Nat × Nat × Nat) := [(3, 79, 0, 24), (4, 80, 0, 24), (7, 81, 0, 64), (9, 82, 0, 8), (10, 83, 0, 8), (11, 84, 2, 8), (13, 85, 2, 28), (14, 86, 0, 8), (15, 87, 0, 64), (18, 88, 0, 30), (19, 89, 0, 30), (22, 90, 0, 2403), (24, 91, 0, 2403), (26, 92, 0, 801), (27, 93, 0, 801), (28, 94, 0, 801), (32, 95, 0, 64), (33, 96, 0, 80), (34, 97, 1, 80), (35, 98, 2, 80), (36, 99, 1, 24)]
/-- the model's rows -/
def mos (sh : List aj_S) (g : aj_G) : Prop := aj_sh sh 78 = some (.inr 8) ∧ ∀ q ∈ mo_t, g 78 (q.1 : Nat) = (q.2.1 : Nat) ∧ aj_sh sh ((q.2.1 : Nat) : Int) = some (.inl (q.2.2.1, q.2.2.2))
def mo_fin (j : Int) : Prop := j = 3 ∨ j = 4 ∨ j = 7 ∨ j = 9 ∨ j = 10 ∨ j = 11 ∨ j = 13 ∨ j = 14 ∨ j = 15 ∨ j = 18 ∨ j = 19 ∨ j = 22 ∨ j = 24 ∨ j = 26 ∨ j = 27 ∨ j = 28 ∨ j = 32 ∨ j = 33 ∨ j = 34 ∨ j = 35 ∨ j = 36
theorem mo_in {q : Nat × Nat × Nat × Nat} (h : q ∈ mo_t) : mo_fin (q.1 : Nat) := by
  unfold mo_t at h
  simp only [List.mem_cons, List.not_mem_nil, or_false] at h
  unfold mo_fin
  rcases h with h | h | h | h | h | h | h | h | h | h | h | h | h | h | h | h | h | h | h | h | h <;> (subst h; simp)
theorem mos_of {sh : List aj_S} {g g1 : aj_G} (h : mos sh g) (e : ∀ j, mo_fin j → g1 78 j = g 78 j) : mos sh g1 := ⟨h.1, fun q hq => ⟨by rw [e _ (mo_in hq)]; exact (h.2 q hq).1, (h.2 q hq).2⟩⟩
theorem mf_next {sh : List aj_S} {g : aj_G} (h : mos sh g) : g 78 3 = 79 := (h.2 (3, 79, 0, 24) (by decide)).1
theorem ms_next {sh : List aj_S} {g : aj_G} (h : mos sh g) : aj_sh sh 79 = some (.inl (0, 24)) := (h.2 (3, 79, 0, 24) (by decide)).2
theorem mf_output {sh : List aj_S} {g : aj_G} (h : mos sh g) : g 78 4 = 80 := (h.2 (4, 80, 0, 24) (by decide)).1
theorem ms_output {sh : List aj_S} {g : aj_G} (h : mos sh g) : aj_sh sh 80 = some (.inl (0, 24)) := (h.2 (4, 80, 0, 24) (by decide)).2
theorem mf_told {sh : List aj_S} {g : aj_G} (h : mos sh g) : g 78 7 = 81 := (h.2 (7, 81, 0, 64) (by decide)).1
theorem ms_told {sh : List aj_S} {g : aj_G} (h : mos sh g) : aj_sh sh 81 = some (.inl (0, 64)) := (h.2 (7, 81, 0, 64) (by decide)).2
theorem mf_minimalOf {sh : List aj_S} {g : aj_G} (h : mos sh g) : g 78 9 = 82 := (h.2 (9, 82, 0, 8) (by decide)).1
theorem ms_minimalOf {sh : List aj_S} {g : aj_G} (h : mos sh g) : aj_sh sh 82 = some (.inl (0, 8)) := (h.2 (9, 82, 0, 8) (by decide)).2
theorem mf_stateOf {sh : List aj_S} {g : aj_G} (h : mos sh g) : g 78 10 = 83 := (h.2 (10, 83, 0, 8) (by decide)).1
theorem ms_stateOf {sh : List aj_S} {g : aj_G} (h : mos sh g) : aj_sh sh 83 = some (.inl (0, 8)) := (h.2 (10, 83, 0, 8) (by decide)).2
theorem mf_access {sh : List aj_S} {g : aj_G} (h : mos sh g) : g 78 11 = 84 := (h.2 (11, 84, 2, 8) (by decide)).1
theorem ms_access {sh : List aj_S} {g : aj_G} (h : mos sh g) : aj_sh sh 84 = some (.inl (2, 8)) := (h.2 (11, 84, 2, 8) (by decide)).2
theorem mf_family {sh : List aj_S} {g : aj_G} (h : mos sh g) : g 78 13 = 85 := (h.2 (13, 85, 2, 28) (by decide)).1
theorem ms_family {sh : List aj_S} {g : aj_G} (h : mos sh g) : aj_sh sh 85 = some (.inl (2, 28)) := (h.2 (13, 85, 2, 28) (by decide)).2
theorem mf_owns {sh : List aj_S} {g : aj_G} (h : mos sh g) : g 78 14 = 86 := (h.2 (14, 86, 0, 8) (by decide)).1
theorem ms_owns {sh : List aj_S} {g : aj_G} (h : mos sh g) : aj_sh sh 86 = some (.inl (0, 8)) := (h.2 (14, 86, 0, 8) (by decide)).2
theorem mf_own {sh : List aj_S} {g : aj_G} (h : mos sh g) : g 78 15 = 87 := (h.2 (15, 87, 0, 64) (by decide)).1
theorem ms_own {sh : List aj_S} {g : aj_G} (h : mos sh g) : aj_sh sh 87 = some (.inl (0, 64)) := (h.2 (15, 87, 0, 64) (by decide)).2
theorem mf_goes {sh : List aj_S} {g : aj_G} (h : mos sh g) : g 78 18 = 88 := (h.2 (18, 88, 0, 30) (by decide)).1
theorem ms_goes {sh : List aj_S} {g : aj_G} (h : mos sh g) : aj_sh sh 88 = some (.inl (0, 30)) := (h.2 (18, 88, 0, 30) (by decide)).2
theorem mf_gives {sh : List aj_S} {g : aj_G} (h : mos sh g) : g 78 19 = 89 := (h.2 (19, 89, 0, 30) (by decide)).1
theorem ms_gives {sh : List aj_S} {g : aj_G} (h : mos sh g) : aj_sh sh 89 = some (.inl (0, 30)) := (h.2 (19, 89, 0, 30) (by decide)).2
theorem mf_child {sh : List aj_S} {g : aj_G} (h : mos sh g) : g 78 22 = 90 := (h.2 (22, 90, 0, 2403) (by decide)).1
theorem ms_child {sh : List aj_S} {g : aj_G} (h : mos sh g) : aj_sh sh 90 = some (.inl (0, 2403)) := (h.2 (22, 90, 0, 2403) (by decide)).2
theorem mf_newChild {sh : List aj_S} {g : aj_G} (h : mos sh g) : g 78 24 = 91 := (h.2 (24, 91, 0, 2403) (by decide)).1
theorem ms_newChild {sh : List aj_S} {g : aj_G} (h : mos sh g) : aj_sh sh 91 = some (.inl (0, 2403)) := (h.2 (24, 91, 0, 2403) (by decide)).2
theorem mf_testPlace {sh : List aj_S} {g : aj_G} (h : mos sh g) : g 78 26 = 92 := (h.2 (26, 92, 0, 801) (by decide)).1
theorem ms_testPlace {sh : List aj_S} {g : aj_G} (h : mos sh g) : aj_sh sh 92 = some (.inl (0, 801)) := (h.2 (26, 92, 0, 801) (by decide)).2
theorem mf_parent {sh : List aj_S} {g : aj_G} (h : mos sh g) : g 78 27 = 93 := (h.2 (27, 93, 0, 801) (by decide)).1
theorem ms_parent {sh : List aj_S} {g : aj_G} (h : mos sh g) : aj_sh sh 93 = some (.inl (0, 801)) := (h.2 (27, 93, 0, 801) (by decide)).2
theorem mf_by {sh : List aj_S} {g : aj_G} (h : mos sh g) : g 78 28 = 94 := (h.2 (28, 94, 0, 801) (by decide)).1
theorem ms_by {sh : List aj_S} {g : aj_G} (h : mos sh g) : aj_sh sh 94 = some (.inl (0, 801)) := (h.2 (28, 94, 0, 801) (by decide)).2
theorem mf_path {sh : List aj_S} {g : aj_G} (h : mos sh g) : g 78 32 = 95 := (h.2 (32, 95, 0, 64) (by decide)).1
theorem ms_path {sh : List aj_S} {g : aj_G} (h : mos sh g) : aj_sh sh 95 = some (.inl (0, 64)) := (h.2 (32, 95, 0, 64) (by decide)).2
theorem mf_seen {sh : List aj_S} {g : aj_G} (h : mos sh g) : g 78 33 = 96 := (h.2 (33, 96, 0, 80) (by decide)).1
theorem ms_seen {sh : List aj_S} {g : aj_G} (h : mos sh g) : aj_sh sh 96 = some (.inl (0, 80)) := (h.2 (33, 96, 0, 80) (by decide)).2
theorem mf_came {sh : List aj_S} {g : aj_G} (h : mos sh g) : g 78 34 = 97 := (h.2 (34, 97, 1, 80) (by decide)).1
theorem ms_came {sh : List aj_S} {g : aj_G} (h : mos sh g) : aj_sh sh 97 = some (.inl (1, 80)) := (h.2 (34, 97, 1, 80) (by decide)).2
theorem mf_trail {sh : List aj_S} {g : aj_G} (h : mos sh g) : g 78 35 = 98 := (h.2 (35, 98, 2, 80) (by decide)).1
theorem ms_trail {sh : List aj_S} {g : aj_G} (h : mos sh g) : aj_sh sh 98 = some (.inl (2, 80)) := (h.2 (35, 98, 2, 80) (by decide)).2
theorem mf_gone {sh : List aj_S} {g : aj_G} (h : mos sh g) : g 78 36 = 99 := (h.2 (36, 99, 1, 24) (by decide)).1
theorem ms_gone {sh : List aj_S} {g : aj_G} (h : mos sh g) : aj_sh sh 99 = some (.inl (1, 24)) := (h.2 (36, 99, 1, 24) (by decide)).2
theorem ld_116 : Cond.constantLong "TestBenchModel" 116 (Int64.ofInt 3) ∈ nm_ws := nm_at 921 (by decide +kernel) rfl
theorem wd_lt63 {w : List Nat} (hw : wd_ok 4 w) (hl : w.length ≤ 24) : wd_cd w < 2 ^ 60 := by
  have := wd_bound hw hl
  omega
set_option maxHeartbeats 4000000 in
theorem k_length_loop {al : Prop} {X : Option (Nat × (Int → Int))} {d : Nat} {sh : List aj_S} {g : aj_G} {Q : aj_R → List aj_S → aj_G → Prop} {w : List Nat} (hw : wd_ok 4 w) (hl : w.length ≤ 24) (hk : Q (.inl (some (0, (w.length : Int)))) sh g) : ∀ (m j : Nat), j + m = w.length →
    aj_wp nE al al X m_Model_length d 0 0 4 [some (2, (wd_cd w : Int)), none, some (0, (j : Int)), some (2, (wd_cd (w.drop j) : Int)), none] [] sh g Q := by
  intro m
  induction m with
  | zero =>
    intro j hj
    rw [show j = w.length by omega, List.drop_length]
    refine aj_lload_n 3 5 (dx d_Model_length 4 rfl) rfl rfl rfl ?_
    refine aj_lconst (x := 1) 6 (dx d_Model_length 5 rfl) rfl rfl ?_
    refine aj_lcmp 7 (dx d_Model_length 6 rfl) rfl (by unfold aj_L wd_cd; omega) (by unfold aj_L; omega) ?_
    refine aj_if_le 20 10 (dx d_Model_length 7 rfl) rfl rfl (by unfold aj_I aj_sg; split <;> (try split) <;> omega) (fun h7 => ?_) (fun h7 => ?_)
    · refine aj_iload_n 2 21 (dx d_Model_length 14 rfl) rfl rfl rfl ?_
      refine aj_iret (dx d_Model_length 15 rfl) rfl id ?_
      exact hk
    · exact absurd h7 (by decide)
  | succ m ih =>
    intro j hj
    have hok : wd_ok 4 (w.drop j) := fun i hi => hw i (List.mem_of_mem_drop hi)
    have hlen : (w.drop j).length = w.length - j := List.length_drop
    have hb := wd_lt63 hok (by omega)
    have hg : 1 < wd_cd (w.drop j) := wd_gt1.mpr (by omega)
    have hdv : wd_cd (w.drop j) / 2 ^ 2 = wd_cd (w.drop (j + 1)) := by
      have := wd_div 1 (w.drop j) hok (by omega)
      rw [List.drop_drop] at this
      exact this
    refine aj_lload_n 3 5 (dx d_Model_length 4 rfl) rfl rfl rfl ?_
    refine aj_lconst (x := 1) 6 (dx d_Model_length 5 rfl) rfl rfl ?_
    refine aj_lcmp 7 (dx d_Model_length 6 rfl) rfl (by unfold aj_L; omega) (by unfold aj_L; omega) ?_
    refine aj_if_le 20 10 (dx d_Model_length 7 rfl) rfl rfl (by unfold aj_I aj_sg; split <;> (try split) <;> omega) (fun h7 => ?_) (fun h7 => ?_)
    · rw [aj_sg, if_pos (by omega)] at h7; exact absurd h7 (by decide)
    · refine aj_iinc 2 13 (dx d_Model_length 8 rfl) rfl rfl rfl ?_
      simp only [List.set]
      refine aj_lload_n 3 14 (dx d_Model_length 9 rfl) rfl rfl rfl ?_
      refine aj_iconst 15 (dx d_Model_length 10 rfl) rfl ?_
      refine aj_lshr 16 (dx d_Model_length 11 rfl) rfl (lg_shr (y := 2) (by omega) (by omega)) ?_
      refine aj_lstore_n 3 17 (dx d_Model_length 12 rfl) rfl rfl rfl rfl ?_
      simp only [List.set]
      refine aj_goto 4 (dx d_Model_length 13 rfl) rfl ?_
      have hih := ih (j + 1) (by omega)
      rw [← hdv] at hih
      rw [show ((j : Nat) : Int) + 1 = ((j + 1 : Nat) : Int) by omega]
      exact hih
set_option maxHeartbeats 4000000 in
theorem k_Model_length {al : Prop} {X : Option (Nat × (Int → Int))} {d : Nat} {sh : List aj_S} {g : aj_G} {Q : aj_R → List aj_S → aj_G → Prop} {w : List Nat} (hw : wd_ok 4 w) (hl : w.length ≤ 24) (hk : Q (.inl (some (0, (w.length : Int)))) sh g) : aj_wp nE al al X m_Model_length d 0 0 0 [some (2, (wd_cd w : Int)), none, none, none, none] [] sh g Q := by
  refine aj_iconst 1 (dx d_Model_length 0 rfl) rfl ?_
  refine aj_istore_n 2 2 (dx d_Model_length 1 rfl) rfl rfl rfl ?_
  simp only [List.set]
  refine aj_lload_n 0 3 (dx d_Model_length 2 rfl) rfl rfl rfl ?_
  refine aj_lstore_n 3 4 (dx d_Model_length 3 rfl) rfl rfl rfl rfl ?_
  simp only [List.set]
  exact k_length_loop hw hl hk w.length 0 (by omega)
theorem wd_at {w : List Nat} (hw : wd_ok 4 w) {i : Nat} (hi : i < w.length) : wd_cd w / 2 ^ (2 * (w.length - 1 - i)) % 4 = w[w.length - 1 - i] := by
  have := wd_dig (j := w.length - 1 - i) hw (by omega)
  rw [show 2 ^ (2 * (w.length - 1 - i)) = 4 ^ (w.length - 1 - i) by rw [Nat.pow_mul]]
  exact this
set_option maxHeartbeats 4000000 in
theorem k_Model_at {al : Prop} {X : Option (Nat × (Int → Int))} {d : Nat} {sh : List aj_S} {g : aj_G} {Q : aj_R → List aj_S → aj_G → Prop} {w : List Nat} (hw : wd_ok 4 w) (hl : w.length ≤ 24) {i : Nat} (hi : i < w.length) (hk : Q (.inl (some (0, (w[w.length - 1 - i] : Int)))) sh g) : aj_wp nE al al X m_Model_at (d + 1) 0 0 0 [some (2, (wd_cd w : Int)), none, some (0, (i : Int))] [] sh g Q := by
  have hb := wd_lt63 hw hl
  have hlt : wd_cd w / 2 ^ (2 * (w.length - 1 - i)) < 2 ^ 60 := Nat.lt_of_le_of_lt (Nat.div_le_self _ _) hb
  refine aj_lload_n 0 1 (dx d_Model_at 0 rfl) rfl rfl rfl ?_
  refine aj_iconst 2 (dx d_Model_at 1 rfl) rfl ?_
  refine aj_lload_n 0 3 (dx d_Model_at 2 rfl) rfl rfl rfl ?_
  refine aj_callS1 6 cl_Model_112 (dx d_Model_at 3 rfl) rfl rfl rfl rfl rfl rfl (k_Model_length hw hl ?_)
  change aj_wp _ _ _ _ _ _ _ _ _ _ _ _ _ _
  refine aj_iconst 7 (dx d_Model_at 4 rfl) rfl ?_
  refine aj_isub 8 (dx d_Model_at 5 rfl) rfl ?_
  refine aj_iload_n 2 9 (dx d_Model_at 6 rfl) rfl rfl rfl ?_
  refine aj_isub 10 (dx d_Model_at 7 rfl) rfl ?_
  refine aj_imul 11 (dx d_Model_at 8 rfl) rfl ?_
  refine aj_lshr 12 (dx d_Model_at 9 rfl) rfl (by rw [show (2 : Int) * ((w.length : Int) - 1 - (i : Int)) = ((2 * (w.length - 1 - i) : Nat) : Int) by omega]; exact lg_shr (by omega) (by omega)) ?_
  refine aj_ldc2 15 ld_116 (dx d_Model_at 10 rfl) rfl ?_
  refine aj_land 16 (dx d_Model_at 11 rfl) rfl (lg_and (by omega)) ?_
  refine aj_l2i 17 (dx d_Model_at 12 rfl) rfl ?_
  refine aj_iret (dx d_Model_at 13 rfl) rfl id ?_
  rw [wd_at hw hi]
  exact hk
end
section
/-! Model: the small questions, led, tells, fits, leastWord -/
def mmm (sh : List aj_S) (g : aj_G) (k n : Nat) (nx ou : Nat → Nat → Nat) : Prop := mos sh g ∧ g 78 1 = n ∧ g 78 2 = k ∧ (1 ≤ k ∧ k ≤ 3) ∧ (1 ≤ n ∧ n ≤ 8) ∧ ∀ x i : Nat, x < n → i < k → g 79 (3 * (x : Int) + i) = nx x i ∧ g 80 (3 * (x : Int) + i) = ou x i ∧ nx x i < n ∧ ou x i < 4
theorem mmm_of {sh : List aj_S} {g g1 : aj_G} {k n : Nat} {nx ou : Nat → Nat → Nat} (h : mmm sh g k n nx ou) (e : ∀ j, mo_fin j ∨ j = 1 ∨ j = 2 → g1 78 j = g 78 j) (e1 : g1 79 = g 79) (e2 : g1 80 = g 80) : mmm sh g1 k n nx ou :=
  ⟨mos_of h.1 (fun j hj => e j (Or.inl hj)), by rw [e 1 (by omega)]; exact h.2.1, by rw [e 2 (by omega)]; exact h.2.2.1, h.2.2.2.1, h.2.2.2.2.1, fun x i hx hi => by rw [e1, e2]; exact h.2.2.2.2.2 x i hx hi⟩
set_option maxHeartbeats 4000000 in
theorem k_Model_isState {al : Prop} {X : Option (Nat × (Int → Int))} {d : Nat} {sh : List aj_S} {g : aj_G} {Q : aj_R → List aj_S → aj_G → Prop} {s : Int} {k n : Nat} {nx ou : Nat → Nat → Nat}
    (hM : mmm sh g k n nx ou) (hx : aj_I s) (hk : Q (.inl (some (0, if 0 ≤ s ∧ s < n then 1 else 0))) sh g) : aj_wp nE al al X m_Model_isState (d) 0 0 0 [some (1, 78), some (0, s)] [] sh g Q := by
  refine aj_iload_n 1 1 (dx d_Model_isState 0 rfl) rfl rfl rfl ?_
  refine aj_if_lt 16 4 (dx d_Model_isState 1 rfl) rfl rfl hx (fun h1 => ?_) (fun h1 => ?_)
  · refine aj_iconst 17 (dx d_Model_isState 8 rfl) rfl ?_
    refine aj_zret (dx d_Model_isState 9 rfl) rfl (by omega) id ?_
    first | (rw [if_pos (by omega)] at hk; exact hk) | (rw [if_neg (by omega)] at hk; exact hk)
  · refine aj_iload_n 1 5 (dx d_Model_isState 2 rfl) rfl rfl rfl ?_
    refine aj_aload_n 0 6 (dx d_Model_isState 3 rfl) rfl rfl rfl ?_
    refine aj_getf 9 fl_Model_86 (dx d_Model_isState 4 rfl) rfl hM.1.1 ?_
    refine aj_icmp_ge 16 12 (dx d_Model_isState 5 rfl) rfl rfl hx (by rw [hM.2.1]; have := hM.2.2.2.2.1; unfold aj_I; omega) (fun h9 => ?_) (fun h9 => ?_)
    · rw [hM.2.1] at h9
      refine aj_iconst 17 (dx d_Model_isState 8 rfl) rfl ?_
      refine aj_zret (dx d_Model_isState 9 rfl) rfl (by omega) id ?_
      first | (rw [if_pos (by omega)] at hk; exact hk) | (rw [if_neg (by omega)] at hk; exact hk)
    · rw [hM.2.1] at h9
      refine aj_iconst 13 (dx d_Model_isState 6 rfl) rfl ?_
      refine aj_goto 17 (dx d_Model_isState 7 rfl) rfl ?_
      refine aj_zret (dx d_Model_isState 9 rfl) rfl (by omega) id ?_
      first | (rw [if_pos (by omega)] at hk; exact hk) | (rw [if_neg (by omega)] at hk; exact hk)

set_option maxHeartbeats 4000000 in
theorem k_Model_isInput {al : Prop} {X : Option (Nat × (Int → Int))} {d : Nat} {sh : List aj_S} {g : aj_G} {Q : aj_R → List aj_S → aj_G → Prop} {s : Int} {k n : Nat} {nx ou : Nat → Nat → Nat}
    (hM : mmm sh g k n nx ou) (hx : aj_I s) (hk : Q (.inl (some (0, if 0 ≤ s ∧ s < k then 1 else 0))) sh g) : aj_wp nE al al X m_Model_isInput (d) 0 0 0 [some (1, 78), some (0, s)] [] sh g Q := by
  refine aj_iload_n 1 1 (dx d_Model_isInput 0 rfl) rfl rfl rfl ?_
  refine aj_if_lt 16 4 (dx d_Model_isInput 1 rfl) rfl rfl hx (fun h1 => ?_) (fun h1 => ?_)
  · refine aj_iconst 17 (dx d_Model_isInput 8 rfl) rfl ?_
    refine aj_zret (dx d_Model_isInput 9 rfl) rfl (by omega) id ?_
    first | (rw [if_pos (by omega)] at hk; exact hk) | (rw [if_neg (by omega)] at hk; exact hk)
  · refine aj_iload_n 1 5 (dx d_Model_isInput 2 rfl) rfl rfl rfl ?_
    refine aj_aload_n 0 6 (dx d_Model_isInput 3 rfl) rfl rfl rfl ?_
    refine aj_getf 9 fl_Model_89 (dx d_Model_isInput 4 rfl) rfl hM.1.1 ?_
    refine aj_icmp_ge 16 12 (dx d_Model_isInput 5 rfl) rfl rfl hx (by rw [hM.2.2.1]; have := hM.2.2.2.1; unfold aj_I; omega) (fun h9 => ?_) (fun h9 => ?_)
    · rw [hM.2.2.1] at h9
      refine aj_iconst 17 (dx d_Model_isInput 8 rfl) rfl ?_
      refine aj_zret (dx d_Model_isInput 9 rfl) rfl (by omega) id ?_
      first | (rw [if_pos (by omega)] at hk; exact hk) | (rw [if_neg (by omega)] at hk; exact hk)
    · rw [hM.2.2.1] at h9
      refine aj_iconst 13 (dx d_Model_isInput 6 rfl) rfl ?_
      refine aj_goto 17 (dx d_Model_isInput 7 rfl) rfl ?_
      refine aj_zret (dx d_Model_isInput 9 rfl) rfl (by omega) id ?_
      first | (rw [if_pos (by omega)] at hk; exact hk) | (rw [if_neg (by omega)] at hk; exact hk)

set_option maxHeartbeats 4000000 in
theorem k_Model_isOutput {al : Prop} {X : Option (Nat × (Int → Int))} {d : Nat} {sh : List aj_S} {g : aj_G} {Q : aj_R → List aj_S → aj_G → Prop} {s : Int}
    (hx : aj_I s) (hk : Q (.inl (some (0, if 0 ≤ s ∧ s < 4 then 1 else 0))) sh g) : aj_wp nE al al X m_Model_isOutput (d) 0 0 0 [some (0, s)] [] sh g Q := by
  refine aj_iload_n 0 1 (dx d_Model_isOutput 0 rfl) rfl rfl rfl ?_
  refine aj_if_lt 13 4 (dx d_Model_isOutput 1 rfl) rfl rfl hx (fun h1 => ?_) (fun h1 => ?_)
  · refine aj_iconst 14 (dx d_Model_isOutput 7 rfl) rfl ?_
    refine aj_zret (dx d_Model_isOutput 8 rfl) rfl (by omega) id ?_
    first | (rw [if_pos (by omega)] at hk; exact hk) | (rw [if_neg (by omega)] at hk; exact hk)
  · refine aj_iload_n 0 5 (dx d_Model_isOutput 2 rfl) rfl rfl rfl ?_
    refine aj_iconst 6 (dx d_Model_isOutput 3 rfl) rfl ?_
    refine aj_icmp_ge 13 9 (dx d_Model_isOutput 4 rfl) rfl rfl hx (by unfold aj_I; omega) (fun h6 => ?_) (fun h6 => ?_)
    · refine aj_iconst 14 (dx d_Model_isOutput 7 rfl) rfl ?_
      refine aj_zret (dx d_Model_isOutput 8 rfl) rfl (by omega) id ?_
      first | (rw [if_pos (by omega)] at hk; exact hk) | (rw [if_neg (by omega)] at hk; exact hk)
    · refine aj_iconst 10 (dx d_Model_isOutput 5 rfl) rfl ?_
      refine aj_goto 14 (dx d_Model_isOutput 6 rfl) rfl ?_
      refine aj_zret (dx d_Model_isOutput 8 rfl) rfl (by omega) id ?_
      first | (rw [if_pos (by omega)] at hk; exact hk) | (rw [if_neg (by omega)] at hk; exact hk)

set_option maxHeartbeats 4000000 in
theorem k_Model_thrown {al : Prop} {X : Option (Nat × (Int → Int))} {d : Nat} {sh : List aj_S} {g : aj_G} {Q : aj_R → List aj_S → aj_G → Prop} 
    (hm : aj_sh sh 78 = some (.inr 8)) (hk : Q (.inl (some (0, g 78 0))) sh g) : aj_wp nE al al X m_Model_thrown (d) 0 0 0 [some (1, 78)] [] sh g Q := by
  refine aj_aload_n 0 1 (dx d_Model_thrown 0 rfl) rfl rfl rfl ?_
  refine aj_getf 4 fl_Model_92 (dx d_Model_thrown 1 rfl) rfl (by assumption) ?_
  refine aj_iret (dx d_Model_thrown 2 rfl) rfl id ?_
  exact hk

set_option maxHeartbeats 4000000 in
theorem k_led_loop {al : Prop} {X : Option (Nat × (Int → Int))} {d : Nat} {sh : List aj_S} {g : aj_G} {Q : aj_R → List aj_S → aj_G → Prop} {k n : Nat} {nx ou : Nat → Nat → Nat} (hM : mmm sh g k n nx ou) {w : List Nat} (hok : wd_ok k w) (hl : w.length ≤ 24) {s : Nat} (hs : s < n) (hk : Q (.inl (some (0, (rn nx s w : Int)))) sh g) : ∀ (m i a : Nat), i ≤ w.length → w.length - i = m → a < n → a = rn nx s (w.drop (w.length - i)) →
    aj_wp nE al al X m_Model_led (d + 2) 0 0 6 [some (1, 78), some (0, (s : Int)), some (2, (wd_cd w : Int)), none, some (0, (a : Int)), some (0, (i : Int))] [] sh g Q := by
  have hk4 := hM.2.2.2.1
  have hn8 := hM.2.2.2.2.1
  intro m
  induction m using Nat.strongRecOn with
  | ind m ih =>
    intro i a hi hmm ha hd1
    refine aj_iload 5 8 (dx d_Model_led 4 rfl) rfl rfl ?_
    refine aj_lload_n 2 9 (dx d_Model_led 5 rfl) rfl rfl rfl ?_
    refine aj_callS1 12 cl_Model_112 (dx d_Model_led 6 rfl) rfl rfl rfl rfl rfl rfl (k_Model_length (wd_ok_le (by omega) hok) hl ?_)
    change aj_wp _ _ _ _ _ _ _ _ _ _ _ _ _ _
    refine aj_icmp_ge 39 15 (dx d_Model_led 7 rfl) rfl rfl (by unfold aj_I; omega) (by unfold aj_I; omega) (fun h12 => ?_) (fun h12 => ?_)
    · refine aj_iload 4 41 (dx d_Model_led 21 rfl) rfl rfl ?_
      refine aj_iret (dx d_Model_led 22 rfl) rfl id ?_
      rw [hd1, show w.length - i = 0 by omega]
      exact hk
    · obtain ⟨j, hj⟩ : ∃ j : Nat, w.length = i + 1 + j := ⟨w.length - (i + 1), by omega⟩
      have hjl : j < w.length := by omega
      have hlk : w[j] < k := hok _ (List.getElem_mem hjl)
      have hdr : w.drop j = w[j] :: w.drop (j + 1) := List.drop_eq_getElem_cons hjl
      have he : w.length - i = j + 1 := by omega
      have hwi : w[w.length - 1 - i]'(by omega) = w[j] := by congr 1; omega
      rw [he] at hd1
      refine aj_aload_n 0 16 (dx d_Model_led 8 rfl) rfl rfl rfl ?_
      refine aj_getfv (v := 79) 19 fl_Model_7 (dx d_Model_led 9 rfl) rfl hM.1.1 (by first | exact mf_next hM.1 | (simp [aj_up_at]; exact mf_next hM.1) | exact mf_next (by assumption)) ?_
      refine aj_iconst 20 (dx d_Model_led 10 rfl) rfl ?_
      refine aj_iload 4 22 (dx d_Model_led 11 rfl) rfl rfl ?_
      refine aj_imul 23 (dx d_Model_led 12 rfl) rfl ?_
      refine aj_lload_n 2 24 (dx d_Model_led 13 rfl) rfl rfl rfl ?_
      refine aj_iload 5 26 (dx d_Model_led 14 rfl) rfl rfl ?_
      refine aj_callS2 29 cl_Model_118 (dx d_Model_led 15 rfl) rfl rfl rfl rfl rfl rfl (k_Model_at (wd_ok_le (by omega) hok) hl (show i < w.length by omega) ?_)
      change aj_wp _ _ _ _ _ _ _ _ _ _ _ _ _ _
      rw [hwi]
      refine aj_iadd 30 (dx d_Model_led 16 rfl) rfl ?_
      refine aj_iald 31 (dx d_Model_led 17 rfl) rfl (ms_next hM.1) rfl (by omega) (by omega) ?_
      rw [(hM.2.2.2.2.2 a w[j] ha hlk).1]
      refine aj_istore 4 33 (dx d_Model_led 18 rfl) rfl rfl ?_
      simp only [List.set]
      refine aj_iinc 5 36 (dx d_Model_led 19 rfl) rfl rfl rfl ?_
      simp only [List.set]
      refine aj_goto 6 (dx d_Model_led 20 rfl) rfl ?_
      have hih := ih _ (by omega) (i + 1) (nx a w[j]) (by omega) rfl (hM.2.2.2.2.2 a w[j] ha hlk).2.2.1 (by rw [show w.length - (i + 1) = j by omega, hdr, hd1]; rfl)
      rw [show ((i : Nat) : Int) + 1 = ((i + 1 : Nat) : Int) by omega]
      exact hih
set_option maxHeartbeats 4000000 in
theorem k_Model_led {al : Prop} {X : Option (Nat × (Int → Int))} {d : Nat} {sh : List aj_S} {g : aj_G} {Q : aj_R → List aj_S → aj_G → Prop} {k n : Nat} {nx ou : Nat → Nat → Nat} (hM : mmm sh g k n nx ou) {w : List Nat} (hok : wd_ok k w) (hl : w.length ≤ 24) {s : Nat} (hs : s < n) (hk : Q (.inl (some (0, (rn nx s w : Int)))) sh g) : aj_wp nE al al X m_Model_led (d + 2) 0 0 0 [some (1, 78), some (0, (s : Int)), some (2, (wd_cd w : Int)), none, none, none] [] sh g Q := by
  refine aj_iload_n 1 1 (dx d_Model_led 0 rfl) rfl rfl rfl ?_
  refine aj_istore 4 3 (dx d_Model_led 1 rfl) rfl rfl ?_
  simp only [List.set]
  refine aj_iconst 4 (dx d_Model_led 2 rfl) rfl ?_
  refine aj_istore 5 6 (dx d_Model_led 3 rfl) rfl rfl ?_
  simp only [List.set]
  exact k_led_loop hM hok hl hs hk _ 0 s (by omega) rfl hs (by rw [Nat.sub_zero, List.drop_length]; rfl)
set_option maxHeartbeats 4000000 in
theorem k_mtells_loop {al : Prop} {X : Option (Nat × (Int → Int))} {d : Nat} {sh : List aj_S} {g : aj_G} {Q : aj_R → List aj_S → aj_G → Prop} {k n : Nat} {nx ou : Nat → Nat → Nat} (hM : mmm sh g k n nx ou) {w : List Nat} (hok : wd_ok k w) (hl : w.length ≤ 24) {s t : Nat} (hs : s < n) (ht : t < n) (hk1 : tl nx ou s t w → Q (.inl (some (0, 1))) sh g) (hk0 : ¬ tl nx ou s t w → Q (.inl (some (0, 0))) sh g) : ∀ (m i a b : Nat) (x : Int), i ≤ w.length → w.length - i = m → a < n → b < n → a = rn nx s (w.drop (w.length - i)) → b = rn nx t (w.drop (w.length - i)) → ((x = 1 ∧ tl nx ou s t (w.drop (w.length - i))) ∨ (x = 0 ∧ ¬ tl nx ou s t (w.drop (w.length - i)))) →
    aj_wp nE al al X m_Model_tells (d + 2) 0 0 13 [some (1, 78), some (2, (wd_cd w : Int)), none, some (0, (s : Int)), some (0, (t : Int)), some (0, (a : Int)), some (0, (b : Int)), some (0, x), some (0, (i : Int)), none] [] sh g Q := by
  have hk4 := hM.2.2.2.1
  have hn8 := hM.2.2.2.2.1
  intro m
  induction m using Nat.strongRecOn with
  | ind m ih =>
    intro i a b x hi hmm ha hb hd1 hd2 hdf
    refine aj_iload 8 15 (dx d_Model_tells 8 rfl) rfl rfl ?_
    refine aj_lload_n 1 16 (dx d_Model_tells 9 rfl) rfl rfl rfl ?_
    refine aj_callS1 19 cl_Model_112 (dx d_Model_tells 10 rfl) rfl rfl rfl rfl rfl rfl (k_Model_length (wd_ok_le (by omega) hok) hl ?_)
    change aj_wp _ _ _ _ _ _ _ _ _ _ _ _ _ _
    refine aj_icmp_ge 103 22 (dx d_Model_tells 11 rfl) rfl rfl (by unfold aj_I; omega) (by unfold aj_I; omega) (fun h19 => ?_) (fun h19 => ?_)
    · refine aj_iload 7 105 (dx d_Model_tells 59 rfl) rfl rfl ?_
      refine aj_zret (dx d_Model_tells 60 rfl) rfl (by omega) id ?_
      rw [show w.length - i = 0 by omega] at hdf
      rcases hdf with ⟨h, h2⟩ | ⟨h, h2⟩
      · rw [h]; exact hk1 h2
      · rw [h]; exact hk0 h2
    · obtain ⟨j, hj⟩ : ∃ j : Nat, w.length = i + 1 + j := ⟨w.length - (i + 1), by omega⟩
      have hjl : j < w.length := by omega
      have hlk : w[j] < k := hok _ (List.getElem_mem hjl)
      have hdr : w.drop j = w[j] :: w.drop (j + 1) := List.drop_eq_getElem_cons hjl
      have he : w.length - i = j + 1 := by omega
      have hwi : w[w.length - 1 - i]'(by omega) = w[j] := by congr 1; omega
      rw [he] at hd1 hd2 hdf
      have ho1 := (hM.2.2.2.2.2 a w[j] ha hlk).2.2.2
      have ho2 := (hM.2.2.2.2.2 b w[j] hb hlk).2.2.2
      refine aj_lload_n 1 23 (dx d_Model_tells 12 rfl) rfl rfl rfl ?_
      refine aj_iload 8 25 (dx d_Model_tells 13 rfl) rfl rfl ?_
      refine aj_callS2 28 cl_Model_118 (dx d_Model_tells 14 rfl) rfl rfl rfl rfl rfl rfl (k_Model_at (wd_ok_le (by omega) hok) hl (show i < w.length by omega) ?_)
      change aj_wp _ _ _ _ _ _ _ _ _ _ _ _ _ _
      rw [hwi]
      refine aj_istore 9 30 (dx d_Model_tells 15 rfl) rfl rfl ?_
      simp only [List.set]
      refine aj_iload 7 32 (dx d_Model_tells 16 rfl) rfl rfl ?_
      refine aj_if_ne 62 35 (dx d_Model_tells 17 rfl) rfl rfl (by rcases hdf with ⟨h, -⟩ | ⟨h, -⟩ <;> rw [h] <;> unfold aj_I <;> omega) (fun h32 => ?_) (fun h32 => ?_)
      · have hz : x = 1 := by rcases hdf with ⟨h, -⟩ | ⟨h, -⟩ <;> omega
        have htl : tl nx ou s t (w.drop (j + 1)) := by rcases hdf with ⟨-, h⟩ | ⟨h, -⟩
                                                       · exact h
                                                       · omega
        refine aj_iconst 63 (dx d_Model_tells 35 rfl) rfl ?_
        refine aj_goto 67 (dx d_Model_tells 36 rfl) rfl ?_
        refine aj_istore 7 69 (dx d_Model_tells 38 rfl) rfl rfl ?_
        simp only [List.set]
        refine aj_aload_n 0 70 (dx d_Model_tells 39 rfl) rfl rfl rfl ?_
        refine aj_getfv (v := 79) 73 fl_Model_7 (dx d_Model_tells 40 rfl) rfl hM.1.1 (by first | exact mf_next hM.1 | (simp [aj_up_at]; exact mf_next hM.1) | exact mf_next (by assumption)) ?_
        refine aj_iconst 74 (dx d_Model_tells 41 rfl) rfl ?_
        refine aj_iload 5 76 (dx d_Model_tells 42 rfl) rfl rfl ?_
        refine aj_imul 77 (dx d_Model_tells 43 rfl) rfl ?_
        refine aj_iload 9 79 (dx d_Model_tells 44 rfl) rfl rfl ?_
        refine aj_iadd 80 (dx d_Model_tells 45 rfl) rfl ?_
        refine aj_iald 81 (dx d_Model_tells 46 rfl) rfl (ms_next hM.1) rfl (by omega) (by omega) ?_
        rw [(hM.2.2.2.2.2 a w[j] ha hlk).1]
        refine aj_istore 5 83 (dx d_Model_tells 47 rfl) rfl rfl ?_
        simp only [List.set]
        refine aj_aload_n 0 84 (dx d_Model_tells 48 rfl) rfl rfl rfl ?_
        refine aj_getfv (v := 79) 87 fl_Model_7 (dx d_Model_tells 49 rfl) rfl hM.1.1 (by first | exact mf_next hM.1 | (simp [aj_up_at]; exact mf_next hM.1) | exact mf_next (by assumption)) ?_
        refine aj_iconst 88 (dx d_Model_tells 50 rfl) rfl ?_
        refine aj_iload 6 90 (dx d_Model_tells 51 rfl) rfl rfl ?_
        refine aj_imul 91 (dx d_Model_tells 52 rfl) rfl ?_
        refine aj_iload 9 93 (dx d_Model_tells 53 rfl) rfl rfl ?_
        refine aj_iadd 94 (dx d_Model_tells 54 rfl) rfl ?_
        refine aj_iald 95 (dx d_Model_tells 55 rfl) rfl (ms_next hM.1) rfl (by omega) (by omega) ?_
        rw [(hM.2.2.2.2.2 b w[j] hb hlk).1]
        refine aj_istore 6 97 (dx d_Model_tells 56 rfl) rfl rfl ?_
        simp only [List.set]
        refine aj_iinc 8 100 (dx d_Model_tells 57 rfl) rfl rfl rfl ?_
        simp only [List.set]
        refine aj_goto 13 (dx d_Model_tells 58 rfl) rfl ?_
        refine aj_forget 9 ?_
        simp only [List.set]
        have hih := ih _ (by omega) (i + 1) (nx a w[j]) (nx b w[j]) 1 (by omega) rfl (hM.2.2.2.2.2 a w[j] ha hlk).2.2.1 (hM.2.2.2.2.2 b w[j] hb hlk).2.2.1 (by rw [show w.length - (i + 1) = j by omega, hdr, hd1]; rfl) (by rw [show w.length - (i + 1) = j by omega, hdr, hd2]; rfl) (Or.inl ⟨rfl, by rw [show w.length - (i + 1) = j by omega, hdr]; exact Or.inl htl⟩)
        rw [show ((i : Nat) : Int) + 1 = ((i + 1 : Nat) : Int) by omega]
        exact hih
      · have hz : x = 0 := by omega
        have hnt : ¬ tl nx ou s t (w.drop (j + 1)) := by rcases hdf with ⟨h, -⟩ | ⟨-, h⟩
                                                         · omega
                                                         · exact h
        refine aj_aload_n 0 36 (dx d_Model_tells 18 rfl) rfl rfl rfl ?_
        refine aj_getfv (v := 80) 39 fl_Model_13 (dx d_Model_tells 19 rfl) rfl hM.1.1 (by first | exact mf_output hM.1 | (simp [aj_up_at]; exact mf_output hM.1) | exact mf_output (by assumption)) ?_
        refine aj_iconst 40 (dx d_Model_tells 20 rfl) rfl ?_
        refine aj_iload 5 42 (dx d_Model_tells 21 rfl) rfl rfl ?_
        refine aj_imul 43 (dx d_Model_tells 22 rfl) rfl ?_
        refine aj_iload 9 45 (dx d_Model_tells 23 rfl) rfl rfl ?_
        refine aj_iadd 46 (dx d_Model_tells 24 rfl) rfl ?_
        refine aj_iald 47 (dx d_Model_tells 25 rfl) rfl (ms_output hM.1) rfl (by omega) (by omega) ?_
        rw [(hM.2.2.2.2.2 a w[j] ha hlk).2.1]
        refine aj_aload_n 0 48 (dx d_Model_tells 26 rfl) rfl rfl rfl ?_
        refine aj_getfv (v := 80) 51 fl_Model_13 (dx d_Model_tells 27 rfl) rfl hM.1.1 (by first | exact mf_output hM.1 | (simp [aj_up_at]; exact mf_output hM.1) | exact mf_output (by assumption)) ?_
        refine aj_iconst 52 (dx d_Model_tells 28 rfl) rfl ?_
        refine aj_iload 6 54 (dx d_Model_tells 29 rfl) rfl rfl ?_
        refine aj_imul 55 (dx d_Model_tells 30 rfl) rfl ?_
        refine aj_iload 9 57 (dx d_Model_tells 31 rfl) rfl rfl ?_
        refine aj_iadd 58 (dx d_Model_tells 32 rfl) rfl ?_
        refine aj_iald 59 (dx d_Model_tells 33 rfl) rfl (ms_output hM.1) rfl (by omega) (by omega) ?_
        rw [(hM.2.2.2.2.2 b w[j] hb hlk).2.1]
        refine aj_icmp_eq 66 62 (dx d_Model_tells 34 rfl) rfl rfl (by unfold aj_I; omega) (by unfold aj_I; omega) (fun h59 => ?_) (fun h59 => ?_)
        · refine aj_iconst 67 (dx d_Model_tells 37 rfl) rfl ?_
          refine aj_istore 7 69 (dx d_Model_tells 38 rfl) rfl rfl ?_
          simp only [List.set]
          refine aj_aload_n 0 70 (dx d_Model_tells 39 rfl) rfl rfl rfl ?_
          refine aj_getfv (v := 79) 73 fl_Model_7 (dx d_Model_tells 40 rfl) rfl hM.1.1 (by first | exact mf_next hM.1 | (simp [aj_up_at]; exact mf_next hM.1) | exact mf_next (by assumption)) ?_
          refine aj_iconst 74 (dx d_Model_tells 41 rfl) rfl ?_
          refine aj_iload 5 76 (dx d_Model_tells 42 rfl) rfl rfl ?_
          refine aj_imul 77 (dx d_Model_tells 43 rfl) rfl ?_
          refine aj_iload 9 79 (dx d_Model_tells 44 rfl) rfl rfl ?_
          refine aj_iadd 80 (dx d_Model_tells 45 rfl) rfl ?_
          refine aj_iald 81 (dx d_Model_tells 46 rfl) rfl (ms_next hM.1) rfl (by omega) (by omega) ?_
          rw [(hM.2.2.2.2.2 a w[j] ha hlk).1]
          refine aj_istore 5 83 (dx d_Model_tells 47 rfl) rfl rfl ?_
          simp only [List.set]
          refine aj_aload_n 0 84 (dx d_Model_tells 48 rfl) rfl rfl rfl ?_
          refine aj_getfv (v := 79) 87 fl_Model_7 (dx d_Model_tells 49 rfl) rfl hM.1.1 (by first | exact mf_next hM.1 | (simp [aj_up_at]; exact mf_next hM.1) | exact mf_next (by assumption)) ?_
          refine aj_iconst 88 (dx d_Model_tells 50 rfl) rfl ?_
          refine aj_iload 6 90 (dx d_Model_tells 51 rfl) rfl rfl ?_
          refine aj_imul 91 (dx d_Model_tells 52 rfl) rfl ?_
          refine aj_iload 9 93 (dx d_Model_tells 53 rfl) rfl rfl ?_
          refine aj_iadd 94 (dx d_Model_tells 54 rfl) rfl ?_
          refine aj_iald 95 (dx d_Model_tells 55 rfl) rfl (ms_next hM.1) rfl (by omega) (by omega) ?_
          rw [(hM.2.2.2.2.2 b w[j] hb hlk).1]
          refine aj_istore 6 97 (dx d_Model_tells 56 rfl) rfl rfl ?_
          simp only [List.set]
          refine aj_iinc 8 100 (dx d_Model_tells 57 rfl) rfl rfl rfl ?_
          simp only [List.set]
          refine aj_goto 13 (dx d_Model_tells 58 rfl) rfl ?_
          refine aj_forget 9 ?_
          simp only [List.set]
          have hih := ih _ (by omega) (i + 1) (nx a w[j]) (nx b w[j]) 0 (by omega) rfl (hM.2.2.2.2.2 a w[j] ha hlk).2.2.1 (hM.2.2.2.2.2 b w[j] hb hlk).2.2.1 (by rw [show w.length - (i + 1) = j by omega, hdr, hd1]; rfl) (by rw [show w.length - (i + 1) = j by omega, hdr, hd2]; rfl) (Or.inr ⟨rfl, by
            rw [show w.length - (i + 1) = j by omega, hdr]
            rintro (z | z)
            · exact hnt z
            · exact z (by rw [← hd1, ← hd2]; omega)⟩)
          rw [show ((i : Nat) : Int) + 1 = ((i + 1 : Nat) : Int) by omega]
          exact hih
        · refine aj_iconst 63 (dx d_Model_tells 35 rfl) rfl ?_
          refine aj_goto 67 (dx d_Model_tells 36 rfl) rfl ?_
          refine aj_istore 7 69 (dx d_Model_tells 38 rfl) rfl rfl ?_
          simp only [List.set]
          refine aj_aload_n 0 70 (dx d_Model_tells 39 rfl) rfl rfl rfl ?_
          refine aj_getfv (v := 79) 73 fl_Model_7 (dx d_Model_tells 40 rfl) rfl hM.1.1 (by first | exact mf_next hM.1 | (simp [aj_up_at]; exact mf_next hM.1) | exact mf_next (by assumption)) ?_
          refine aj_iconst 74 (dx d_Model_tells 41 rfl) rfl ?_
          refine aj_iload 5 76 (dx d_Model_tells 42 rfl) rfl rfl ?_
          refine aj_imul 77 (dx d_Model_tells 43 rfl) rfl ?_
          refine aj_iload 9 79 (dx d_Model_tells 44 rfl) rfl rfl ?_
          refine aj_iadd 80 (dx d_Model_tells 45 rfl) rfl ?_
          refine aj_iald 81 (dx d_Model_tells 46 rfl) rfl (ms_next hM.1) rfl (by omega) (by omega) ?_
          rw [(hM.2.2.2.2.2 a w[j] ha hlk).1]
          refine aj_istore 5 83 (dx d_Model_tells 47 rfl) rfl rfl ?_
          simp only [List.set]
          refine aj_aload_n 0 84 (dx d_Model_tells 48 rfl) rfl rfl rfl ?_
          refine aj_getfv (v := 79) 87 fl_Model_7 (dx d_Model_tells 49 rfl) rfl hM.1.1 (by first | exact mf_next hM.1 | (simp [aj_up_at]; exact mf_next hM.1) | exact mf_next (by assumption)) ?_
          refine aj_iconst 88 (dx d_Model_tells 50 rfl) rfl ?_
          refine aj_iload 6 90 (dx d_Model_tells 51 rfl) rfl rfl ?_
          refine aj_imul 91 (dx d_Model_tells 52 rfl) rfl ?_
          refine aj_iload 9 93 (dx d_Model_tells 53 rfl) rfl rfl ?_
          refine aj_iadd 94 (dx d_Model_tells 54 rfl) rfl ?_
          refine aj_iald 95 (dx d_Model_tells 55 rfl) rfl (ms_next hM.1) rfl (by omega) (by omega) ?_
          rw [(hM.2.2.2.2.2 b w[j] hb hlk).1]
          refine aj_istore 6 97 (dx d_Model_tells 56 rfl) rfl rfl ?_
          simp only [List.set]
          refine aj_iinc 8 100 (dx d_Model_tells 57 rfl) rfl rfl rfl ?_
          simp only [List.set]
          refine aj_goto 13 (dx d_Model_tells 58 rfl) rfl ?_
          refine aj_forget 9 ?_
          simp only [List.set]
          have hih := ih _ (by omega) (i + 1) (nx a w[j]) (nx b w[j]) 1 (by omega) rfl (hM.2.2.2.2.2 a w[j] ha hlk).2.2.1 (hM.2.2.2.2.2 b w[j] hb hlk).2.2.1 (by rw [show w.length - (i + 1) = j by omega, hdr, hd1]; rfl) (by rw [show w.length - (i + 1) = j by omega, hdr, hd2]; rfl) (Or.inl ⟨rfl, by rw [show w.length - (i + 1) = j by omega, hdr]; exact Or.inr (fun z => h59 (by rw [hd1, hd2]; exact congrArg _ z))⟩)
          rw [show ((i : Nat) : Int) + 1 = ((i + 1 : Nat) : Int) by omega]
          exact hih
set_option maxHeartbeats 4000000 in
theorem k_Model_tells {al : Prop} {X : Option (Nat × (Int → Int))} {d : Nat} {sh : List aj_S} {g : aj_G} {Q : aj_R → List aj_S → aj_G → Prop} {k n : Nat} {nx ou : Nat → Nat → Nat} (hM : mmm sh g k n nx ou) {w : List Nat} (hok : wd_ok k w) (hl : w.length ≤ 24) {s t : Nat} (hs : s < n) (ht : t < n) (hk1 : tl nx ou s t w → Q (.inl (some (0, 1))) sh g) (hk0 : ¬ tl nx ou s t w → Q (.inl (some (0, 0))) sh g) : aj_wp nE al al X m_Model_tells (d + 2) 0 0 0 [some (1, 78), some (2, (wd_cd w : Int)), none, some (0, (s : Int)), some (0, (t : Int)), none, none, none, none, none] [] sh g Q := by
  refine aj_iload_n 3 1 (dx d_Model_tells 0 rfl) rfl rfl rfl ?_
  refine aj_istore 5 3 (dx d_Model_tells 1 rfl) rfl rfl ?_
  simp only [List.set]
  refine aj_iload 4 5 (dx d_Model_tells 2 rfl) rfl rfl ?_
  refine aj_istore 6 7 (dx d_Model_tells 3 rfl) rfl rfl ?_
  simp only [List.set]
  refine aj_iconst 8 (dx d_Model_tells 4 rfl) rfl ?_
  refine aj_istore 7 10 (dx d_Model_tells 5 rfl) rfl rfl ?_
  simp only [List.set]
  refine aj_iconst 11 (dx d_Model_tells 6 rfl) rfl ?_
  refine aj_istore 8 13 (dx d_Model_tells 7 rfl) rfl rfl ?_
  simp only [List.set]
  exact k_mtells_loop hM hok hl hs ht hk1 hk0 _ 0 s t 0 (by omega) rfl hs ht (by rw [Nat.sub_zero, List.drop_length]; rfl) (by rw [Nat.sub_zero, List.drop_length]; rfl) (Or.inr ⟨rfl, by rw [Nat.sub_zero, List.drop_length]; exact id⟩)
/-- the table of the distances -/
def tdm (g : aj_G) (k n : Nat) (nx ou : Nat → Nat → Nat) : Prop := ∀ s t : Nat, s < n → t < n → ∃ m : Nat, g 81 (8 * (s : Int) + t) = m ∧ m ≤ n ∧ ((m = 0 ∧ al_k k nx ou s t) ∨ wd_ln k nx ou s t m)
theorem ln_al {k : Nat} {nx ou : Nat → Nat → Nat} {s t m : Nat} (h : wd_ln k nx ou s t m) (h2 : al_k k nx ou s t) : False := by
  obtain ⟨⟨w, h3, -, h5⟩, -⟩ := h
  exact h2 w h3 h5
theorem td_iff {g : aj_G} {k n : Nat} {nx ou : Nat → Nat → Nat} (h : tdm g k n nx ou) {s t m : Nat} (hs : s < n) (ht : t < n) (hm : 0 < m) : g 81 (8 * (s : Int) + t) = m ↔ wd_ln k nx ou s t m := by
  obtain ⟨m', e, -, h1⟩ := h s t hs ht
  rw [e]
  constructor
  · intro z
    rcases h1 with ⟨h2, -⟩ | h2
    · omega
    · rw [show m = m' by omega]; exact h2
  · intro z
    rcases h1 with ⟨-, h2⟩ | h2
    · exact (ln_al z h2).elim
    · rw [ln_uniq z h2]
def ftP (k : Nat) (nx ou : Nat → Nat → Nat) (a b l i : Nat) : Prop := (l = 1 ∧ ou a i ≠ ou b i) ∨ (1 < l ∧ wd_ln k nx ou (nx a i) (nx b i) (l - 1))
set_option maxHeartbeats 4000000 in
theorem k_Model_fits {al : Prop} {X : Option (Nat × (Int → Int))} {d : Nat} {sh : List aj_S} {g : aj_G} {Q : aj_R → List aj_S → aj_G → Prop} {k n : Nat} {nx ou : Nat → Nat → Nat} (hM : mmm sh g k n nx ou) (hT : tdm g k n nx ou) {a b i l : Nat} (ha : a < n) (hb : b < n) (hi : i < k) (hl0 : 0 < l) (hl9 : l ≤ 9) (hk1 : ftP k nx ou a b l i → Q (.inl (some (0, 1))) sh g) (hk0 : ¬ ftP k nx ou a b l i → Q (.inl (some (0, 0))) sh g) : aj_wp nE al al X m_Model_fits d 0 0 0 [some (1, 78), some (0, (a : Int)), some (0, (b : Int)), some (0, (i : Int)), some (0, (l : Int))] [] sh g Q := by
  have hk4 := hM.2.2.2.1
  have hn8 := hM.2.2.2.2.1
  obtain ⟨e1, e2, e3, e4⟩ := hM.2.2.2.2.2 a i ha hi
  obtain ⟨f1, f2, f3, f4⟩ := hM.2.2.2.2.2 b i hb hi
  obtain ⟨m', t1, t2, -⟩ := hT (nx a i) (nx b i) e3 f3
  refine aj_iload 4 2 (dx d_Model_fits 0 rfl) rfl rfl ?_
  refine aj_iconst 3 (dx d_Model_fits 1 rfl) rfl ?_
  refine aj_icmp_ne 37 6 (dx d_Model_fits 2 rfl) rfl rfl (by unfold aj_I; omega) (by unfold aj_I; omega) (fun h3 => ?_) (fun h3 => ?_)
  · refine aj_aload_n 0 38 (dx d_Model_fits 24 rfl) rfl rfl rfl ?_
    refine aj_getfv (v := 81) 41 fl_Model_16 (dx d_Model_fits 25 rfl) rfl hM.1.1 (by first | exact mf_told hM.1 | (simp [aj_up_at]; exact mf_told hM.1) | exact mf_told (by assumption)) ?_
    refine aj_bipush 43 (dx d_Model_fits 26 rfl) rfl (by decide +kernel) ?_
    refine aj_aload_n 0 44 (dx d_Model_fits 27 rfl) rfl rfl rfl ?_
    refine aj_getfv (v := 79) 47 fl_Model_7 (dx d_Model_fits 28 rfl) rfl hM.1.1 (by first | exact mf_next hM.1 | (simp [aj_up_at]; exact mf_next hM.1) | exact mf_next (by assumption)) ?_
    refine aj_iconst 48 (dx d_Model_fits 29 rfl) rfl ?_
    refine aj_iload_n 1 49 (dx d_Model_fits 30 rfl) rfl rfl rfl ?_
    refine aj_imul 50 (dx d_Model_fits 31 rfl) rfl ?_
    refine aj_iload_n 3 51 (dx d_Model_fits 32 rfl) rfl rfl rfl ?_
    refine aj_iadd 52 (dx d_Model_fits 33 rfl) rfl ?_
    refine aj_iald 53 (dx d_Model_fits 34 rfl) rfl (ms_next hM.1) rfl (by omega) (by omega) ?_
    rw [e1]
    refine aj_imul 54 (dx d_Model_fits 35 rfl) rfl ?_
    refine aj_aload_n 0 55 (dx d_Model_fits 36 rfl) rfl rfl rfl ?_
    refine aj_getfv (v := 79) 58 fl_Model_7 (dx d_Model_fits 37 rfl) rfl hM.1.1 (by first | exact mf_next hM.1 | (simp [aj_up_at]; exact mf_next hM.1) | exact mf_next (by assumption)) ?_
    refine aj_iconst 59 (dx d_Model_fits 38 rfl) rfl ?_
    refine aj_iload_n 2 60 (dx d_Model_fits 39 rfl) rfl rfl rfl ?_
    refine aj_imul 61 (dx d_Model_fits 40 rfl) rfl ?_
    refine aj_iload_n 3 62 (dx d_Model_fits 41 rfl) rfl rfl rfl ?_
    refine aj_iadd 63 (dx d_Model_fits 42 rfl) rfl ?_
    refine aj_iald 64 (dx d_Model_fits 43 rfl) rfl (ms_next hM.1) rfl (by omega) (by omega) ?_
    rw [f1]
    refine aj_iadd 65 (dx d_Model_fits 44 rfl) rfl ?_
    refine aj_iald 66 (dx d_Model_fits 45 rfl) rfl (ms_told hM.1) rfl (by omega) (by omega) ?_
    rw [t1]
    refine aj_iload 4 68 (dx d_Model_fits 46 rfl) rfl rfl ?_
    refine aj_iconst 69 (dx d_Model_fits 47 rfl) rfl ?_
    refine aj_isub 70 (dx d_Model_fits 48 rfl) rfl ?_
    refine aj_icmp_ne 77 73 (dx d_Model_fits 49 rfl) rfl rfl (by unfold aj_I; omega) (by unfold aj_I; omega) (fun h70 => ?_) (fun h70 => ?_)
    · refine aj_iconst 78 (dx d_Model_fits 52 rfl) rfl ?_
      refine aj_zret (dx d_Model_fits 53 rfl) rfl (by omega) id ?_
      refine hk0 ?_
      rintro (⟨z, -⟩ | ⟨-, z⟩)
      · omega
      · have := (td_iff hT e3 f3 (by omega)).mpr z
        rw [t1] at this
        omega
    · refine aj_iconst 74 (dx d_Model_fits 50 rfl) rfl ?_
      refine aj_goto 78 (dx d_Model_fits 51 rfl) rfl ?_
      refine aj_zret (dx d_Model_fits 53 rfl) rfl (by omega) id ?_
      refine hk1 (Or.inr ⟨by omega, (td_iff hT e3 f3 (by omega)).mp (by rw [t1]; omega)⟩)
  · refine aj_aload_n 0 7 (dx d_Model_fits 3 rfl) rfl rfl rfl ?_
    refine aj_getfv (v := 80) 10 fl_Model_13 (dx d_Model_fits 4 rfl) rfl hM.1.1 (by first | exact mf_output hM.1 | (simp [aj_up_at]; exact mf_output hM.1) | exact mf_output (by assumption)) ?_
    refine aj_iconst 11 (dx d_Model_fits 5 rfl) rfl ?_
    refine aj_iload_n 1 12 (dx d_Model_fits 6 rfl) rfl rfl rfl ?_
    refine aj_imul 13 (dx d_Model_fits 7 rfl) rfl ?_
    refine aj_iload_n 3 14 (dx d_Model_fits 8 rfl) rfl rfl rfl ?_
    refine aj_iadd 15 (dx d_Model_fits 9 rfl) rfl ?_
    refine aj_iald 16 (dx d_Model_fits 10 rfl) rfl (ms_output hM.1) rfl (by omega) (by omega) ?_
    rw [e2]
    refine aj_aload_n 0 17 (dx d_Model_fits 11 rfl) rfl rfl rfl ?_
    refine aj_getfv (v := 80) 20 fl_Model_13 (dx d_Model_fits 12 rfl) rfl hM.1.1 (by first | exact mf_output hM.1 | (simp [aj_up_at]; exact mf_output hM.1) | exact mf_output (by assumption)) ?_
    refine aj_iconst 21 (dx d_Model_fits 13 rfl) rfl ?_
    refine aj_iload_n 2 22 (dx d_Model_fits 14 rfl) rfl rfl rfl ?_
    refine aj_imul 23 (dx d_Model_fits 15 rfl) rfl ?_
    refine aj_iload_n 3 24 (dx d_Model_fits 16 rfl) rfl rfl rfl ?_
    refine aj_iadd 25 (dx d_Model_fits 17 rfl) rfl ?_
    refine aj_iald 26 (dx d_Model_fits 18 rfl) rfl (ms_output hM.1) rfl (by omega) (by omega) ?_
    rw [f2]
    refine aj_icmp_eq 33 29 (dx d_Model_fits 19 rfl) rfl rfl (by unfold aj_I; omega) (by unfold aj_I; omega) (fun h26 => ?_) (fun h26 => ?_)
    · refine aj_iconst 34 (dx d_Model_fits 22 rfl) rfl ?_
      refine aj_goto 78 (dx d_Model_fits 23 rfl) rfl ?_
      refine aj_zret (dx d_Model_fits 53 rfl) rfl (by omega) id ?_
      refine hk0 ?_
      rintro (⟨-, z⟩ | ⟨z, -⟩)
      · omega
      · omega
    · refine aj_iconst 30 (dx d_Model_fits 20 rfl) rfl ?_
      refine aj_goto 78 (dx d_Model_fits 21 rfl) rfl ?_
      refine aj_zret (dx d_Model_fits 53 rfl) rfl (by omega) id ?_
      exact hk1 (Or.inl ⟨by omega, by omega⟩)
theorem ft_ex {k : Nat} {nx ou : Nat → Nat → Nat} {a b l : Nat} (h : wd_ln k nx ou a b l) : ∃ i, i < k ∧ ftP k nx ou a b l i := by
  have h0 := ln_pos h
  rcases Nat.lt_or_ge 1 l with h1 | h1
  · obtain ⟨m, rfl⟩ : ∃ m, l = m + 1 := ⟨l - 1, by omega⟩
    obtain ⟨-, i, hi, h2⟩ := (ln_succ (by omega)).mp h
    exact ⟨i, hi, Or.inr ⟨h1, h2⟩⟩
  · have e : l = 1 := by omega
    subst e
    obtain ⟨i, hi, h2⟩ := ln_one.mp h
    exact ⟨i, hi, Or.inl ⟨rfl, h2⟩⟩
set_option maxHeartbeats 4000000 in
theorem k_least_in {al : Prop} {X : Option (Nat × (Int → Int))} {d : Nat} {sh : List aj_S} {g : aj_G} {Q : aj_R → List aj_S → aj_G → Prop} {k n : Nat} {nx ou : Nat → Nat → Nat} (hM : mmm sh g k n nx ou) (hT : tdm g k n nx ou) {s t a b l : Nat} {pre : List Nat} (ha : a < n) (hb : b < n) (hl0 : 0 < l) (hl9 : l ≤ 9) (hpb : wd_cd pre < 2 ^ 60)
    (hgo : ∀ i : Nat, i < k → ftP k nx ou a b l i → (∀ j, j < i → ¬ ftP k nx ou a b l j) → aj_wp nE al al X m_Model_leastWord (d + 1) 0 0 21 [some (1, 78), some (0, (s : Int)), some (0, (t : Int)), some (2, (wd_cd (i :: pre) : Int)), none, some (0, (nx a i : Int)), some (0, (nx b i : Int)), some (0, (l : Int) - 1), none, none] [] sh g Q) :
    ∀ (m i : Nat), (∃ i0, i0 < k ∧ i ≤ i0 ∧ ftP k nx ou a b l i0) → k - i = m → (∀ j, j < i → ¬ ftP k nx ou a b l j) →
    aj_wp nE al al X m_Model_leastWord (d + 1) 0 0 29 [some (1, 78), some (0, (s : Int)), some (0, (t : Int)), some (2, (wd_cd pre : Int)), none, some (0, (a : Int)), some (0, (b : Int)), some (0, (l : Int)), some (0, (i : Int)), none] [] sh g Q := by
  have hk4 := hM.2.2.2.1
  have hn8 := hM.2.2.2.2.1
  intro m
  induction m using Nat.strongRecOn with
  | ind m ih =>
    intro i hex0 hmm hno
    have hik : i < k := by obtain ⟨i0, h1, h2, -⟩ := hex0; omega
    have hex : ∃ i0, i0 < k ∧ ftP k nx ou a b l i0 := by obtain ⟨i0, h1, -, h2⟩ := hex0; exact ⟨i0, h1, h2⟩
    refine aj_aload_n 0 30 (dx d_Model_leastWord 19 rfl) rfl rfl rfl ?_
    refine aj_iload 5 32 (dx d_Model_leastWord 20 rfl) rfl rfl ?_
    refine aj_iload 6 34 (dx d_Model_leastWord 21 rfl) rfl rfl ?_
    refine aj_iload 8 36 (dx d_Model_leastWord 22 rfl) rfl rfl ?_
    refine aj_iload 7 38 (dx d_Model_leastWord 23 rfl) rfl rfl ?_
    refine aj_callV4 41 cl_Model_122 (dx d_Model_leastWord 24 rfl) rfl rfl rfl rfl rfl rfl hM.1.1 (k_Model_fits hM hT ha hb hik hl0 hl9 (fun hf => ?_) (fun hf => ?_))
    · change aj_wp _ _ _ _ _ _ _ _ _ _ _ _ _ _
      refine aj_if_ne 50 44 (dx d_Model_leastWord 25 rfl) rfl rfl (by unfold aj_I; omega) (fun h41 => ?_) (fun h41 => ?_)
      · refine aj_lload_n 3 51 (dx d_Model_leastWord 28 rfl) rfl rfl rfl ?_
        refine aj_iconst 52 (dx d_Model_leastWord 29 rfl) rfl ?_
        refine aj_lshl 53 (dx d_Model_leastWord 30 rfl) rfl (lg_shl hpb) ?_
        refine aj_iload 8 55 (dx d_Model_leastWord 31 rfl) rfl rfl ?_
        refine aj_i2l 56 (dx d_Model_leastWord 32 rfl) rfl (by unfold aj_I; omega) ?_
        refine aj_lor 57 (dx d_Model_leastWord 33 rfl) rfl (lg_or hpb (by omega)) ?_
        rw [show 4 * wd_cd pre + i = wd_cd (i :: pre) from rfl]
        refine aj_lstore_n 3 58 (dx d_Model_leastWord 34 rfl) rfl rfl rfl rfl ?_
        simp only [List.set]
        refine aj_aload_n 0 59 (dx d_Model_leastWord 35 rfl) rfl rfl rfl ?_
        refine aj_getfv (v := 79) 62 fl_Model_7 (dx d_Model_leastWord 36 rfl) rfl hM.1.1 (by first | exact mf_next hM.1 | (simp [aj_up_at]; exact mf_next hM.1) | exact mf_next (by assumption)) ?_
        refine aj_iconst 63 (dx d_Model_leastWord 37 rfl) rfl ?_
        refine aj_iload 5 65 (dx d_Model_leastWord 38 rfl) rfl rfl ?_
        refine aj_imul 66 (dx d_Model_leastWord 39 rfl) rfl ?_
        refine aj_iload 8 68 (dx d_Model_leastWord 40 rfl) rfl rfl ?_
        refine aj_iadd 69 (dx d_Model_leastWord 41 rfl) rfl ?_
        refine aj_iald 70 (dx d_Model_leastWord 42 rfl) rfl (ms_next hM.1) rfl (by omega) (by omega) ?_
        rw [(hM.2.2.2.2.2 a i ha hik).1]
        refine aj_istore 9 72 (dx d_Model_leastWord 43 rfl) rfl rfl ?_
        simp only [List.set]
        refine aj_aload_n 0 73 (dx d_Model_leastWord 44 rfl) rfl rfl rfl ?_
        refine aj_getfv (v := 79) 76 fl_Model_7 (dx d_Model_leastWord 45 rfl) rfl hM.1.1 (by first | exact mf_next hM.1 | (simp [aj_up_at]; exact mf_next hM.1) | exact mf_next (by assumption)) ?_
        refine aj_iconst 77 (dx d_Model_leastWord 46 rfl) rfl ?_
        refine aj_iload 6 79 (dx d_Model_leastWord 47 rfl) rfl rfl ?_
        refine aj_imul 80 (dx d_Model_leastWord 48 rfl) rfl ?_
        refine aj_iload 8 82 (dx d_Model_leastWord 49 rfl) rfl rfl ?_
        refine aj_iadd 83 (dx d_Model_leastWord 50 rfl) rfl ?_
        refine aj_iald 84 (dx d_Model_leastWord 51 rfl) rfl (ms_next hM.1) rfl (by omega) (by omega) ?_
        rw [(hM.2.2.2.2.2 b i hb hik).1]
        refine aj_istore 6 86 (dx d_Model_leastWord 52 rfl) rfl rfl ?_
        simp only [List.set]
        refine aj_iload 9 88 (dx d_Model_leastWord 53 rfl) rfl rfl ?_
        refine aj_istore 5 90 (dx d_Model_leastWord 54 rfl) rfl rfl ?_
        simp only [List.set]
        refine aj_iinc 7 93 (dx d_Model_leastWord 55 rfl) rfl rfl rfl ?_
        simp only [List.set]
        refine aj_goto 21 (dx d_Model_leastWord 56 rfl) rfl ?_
        refine aj_forget 8 ?_
        refine aj_forget 9 ?_
        simp only [List.set]
        exact hgo i hik hf hno
      · exact absurd h41 (by decide)
    · change aj_wp _ _ _ _ _ _ _ _ _ _ _ _ _ _
      refine aj_if_ne 50 44 (dx d_Model_leastWord 25 rfl) rfl rfl (by unfold aj_I; omega) (fun h41 => ?_) (fun h41 => ?_)
      · exact absurd rfl h41
      · refine aj_iinc 8 47 (dx d_Model_leastWord 26 rfl) rfl rfl rfl ?_
        simp only [List.set]
        refine aj_goto 29 (dx d_Model_leastWord 27 rfl) rfl ?_
        have hih := ih (k - (i + 1)) (by omega) (i + 1) (by
          obtain ⟨i0, h1, h2⟩ := hex
          refine ⟨i0, h1, ?_, h2⟩
          rcases Nat.lt_trichotomy i0 i with z | z | z
          · exact (hno i0 z h2).elim
          · rw [z] at h2; exact (hf h2).elim
          · omega) rfl (fun j hj => by
          rcases Nat.lt_or_ge j i with z | z
          · exact hno j z
          · rw [show j = i by omega]; exact hf)
        rw [show ((i : Nat) : Int) + 1 = ((i + 1 : Nat) : Int) by omega]
        exact hih
set_option maxHeartbeats 4000000 in
theorem k_least_out {al : Prop} {X : Option (Nat × (Int → Int))} {d : Nat} {sh : List aj_S} {g : aj_G} {Q : aj_R → List aj_S → aj_G → Prop} {k n : Nat} {nx ou : Nat → Nat → Nat} (hM : mmm sh g k n nx ou) (hT : tdm g k n nx ou) {s t : Nat} (hs : s < n) (ht : t < n) (hk1 : ∀ w, wd_least k nx ou s nx ou t w → w.length ≤ n → Q (.inl (some (2, (wd_cd w : Int)))) sh g) (hk0 : al_k k nx ou s t → Q (.inl (some (2, 1))) sh g) : ∀ (m l a b : Nat) (pre : List Nat), l = m → a < n → b < n → wd_ok k pre → pre.length + l ≤ n → ((0 < l ∧ wd_ln k nx ou a b l ∧ ∀ v, wd_least k nx ou a nx ou b v → wd_least k nx ou s nx ou t (v ++ pre)) ∨ (l = 0 ∧ wd_least k nx ou s nx ou t pre)) →
    aj_wp nE al al X m_Model_leastWord (d + 1) 0 0 21 [some (1, 78), some (0, (s : Int)), some (0, (t : Int)), some (2, (wd_cd pre : Int)), none, some (0, (a : Int)), some (0, (b : Int)), some (0, (l : Int)), none, none] [] sh g Q := by
  have hk4 := hM.2.2.2.1
  have hn8 := hM.2.2.2.2.1
  intro m
  induction m using Nat.strongRecOn with
  | ind m ih =>
    intro l a b pre hlm ha hb hpo hpl hst
    refine aj_iload 7 23 (dx d_Model_leastWord 15 rfl) rfl rfl ?_
    refine aj_if_le 96 26 (dx d_Model_leastWord 16 rfl) rfl rfl (by unfold aj_I; omega) (fun h23 => ?_) (fun h23 => ?_)
    · refine aj_lload_n 3 97 (dx d_Model_leastWord 57 rfl) rfl rfl rfl ?_
      refine aj_lret (dx d_Model_leastWord 58 rfl) rfl id ?_
      have hfin : wd_least k nx ou s nx ou t pre := by
        rcases hst with ⟨h, -⟩ | ⟨-, h⟩
        · omega
        · exact h
      exact hk1 pre hfin (by omega)
    · have hl0 : 0 < l := by omega
      obtain ⟨-, hln, hgl⟩ : 0 < l ∧ wd_ln k nx ou a b l ∧ ∀ v, wd_least k nx ou a nx ou b v → wd_least k nx ou s nx ou t (v ++ pre) := by
        rcases hst with h | ⟨h, -⟩
        · exact h
        · omega
      refine aj_iconst 27 (dx d_Model_leastWord 17 rfl) rfl ?_
      refine aj_istore 8 29 (dx d_Model_leastWord 18 rfl) rfl rfl ?_
      simp only [List.set]
      refine k_least_in (pre := pre) hM hT ha hb hl0 (by omega) (wd_lt63 (wd_ok_le (by omega) hpo) (by omega)) (fun i hi hf hno => ?_) _ 0 (by
        obtain ⟨i0, h1, h2⟩ := ft_ex hln
        exact ⟨i0, h1, Nat.zero_le _, h2⟩) rfl (fun j hj => absurd hj (Nat.not_lt_zero _))
      obtain ⟨l', rfl⟩ : ∃ l', l = l' + 1 := ⟨l - 1, by omega⟩
      rw [show ((l' + 1 : Nat) : Int) - 1 = (l' : Nat) by omega]
      rcases hf with ⟨h1, h2⟩ | ⟨h1, h2⟩
      · have e : l' = 0 := by omega
        subst e
        refine ih 0 (by omega) 0 (nx a i) (nx b i) (i :: pre) rfl (hM.2.2.2.2.2 a i ha hi).2.2.1 (hM.2.2.2.2.2 b i hb hi).2.2.1 (wd_ok_cons.mpr ⟨hi, hpo⟩) (by rw [List.length_cons]; omega) (Or.inr ⟨rfl, ?_⟩)
        exact hgl [i] (least_one (by omega) hi h2 (fun j hj => Decidable.byContradiction fun z => hno j hj (Or.inl ⟨rfl, z⟩)))
      · refine ih l' (by omega) l' (nx a i) (nx b i) (i :: pre) rfl (hM.2.2.2.2.2 a i ha hi).2.2.1 (hM.2.2.2.2.2 b i hb hi).2.2.1 (wd_ok_cons.mpr ⟨hi, hpo⟩) (by rw [List.length_cons]; omega) (Or.inl ⟨by omega, h2, fun v hv => ?_⟩)
        have h3 := least_app (by omega) (by omega) hln hi h2 (fun j hj z => hno j hj (Or.inr ⟨h1, z⟩)) hv
        have h4 := hgl _ h3
        rw [List.append_assoc] at h4
        exact h4
set_option maxHeartbeats 4000000 in
theorem k_Model_leastWord {al : Prop} {X : Option (Nat × (Int → Int))} {d : Nat} {sh : List aj_S} {g : aj_G} {Q : aj_R → List aj_S → aj_G → Prop} {k n : Nat} {nx ou : Nat → Nat → Nat} (hM : mmm sh g k n nx ou) (hT : tdm g k n nx ou) {s t : Nat} (hs : s < n) (ht : t < n) (hk1 : ∀ w, wd_least k nx ou s nx ou t w → w.length ≤ n → Q (.inl (some (2, (wd_cd w : Int)))) sh g) (hk0 : al_k k nx ou s t → Q (.inl (some (2, 1))) sh g) : aj_wp nE al al X m_Model_leastWord (d + 1) 0 0 0 [some (1, 78), some (0, (s : Int)), some (0, (t : Int)), none, none, none, none, none, none, none] [] sh g Q := by
  have hn8 := hM.2.2.2.2.1
  obtain ⟨m, e1, e2, e3⟩ := hT s t hs ht
  refine aj_lconst (x := 1) 1 (dx d_Model_leastWord 0 rfl) rfl rfl ?_
  refine aj_lstore_n 3 2 (dx d_Model_leastWord 1 rfl) rfl rfl rfl rfl ?_
  simp only [List.set]
  refine aj_iload_n 1 3 (dx d_Model_leastWord 2 rfl) rfl rfl rfl ?_
  refine aj_istore 5 5 (dx d_Model_leastWord 3 rfl) rfl rfl ?_
  simp only [List.set]
  refine aj_iload_n 2 6 (dx d_Model_leastWord 4 rfl) rfl rfl rfl ?_
  refine aj_istore 6 8 (dx d_Model_leastWord 5 rfl) rfl rfl ?_
  simp only [List.set]
  refine aj_aload_n 0 9 (dx d_Model_leastWord 6 rfl) rfl rfl rfl ?_
  refine aj_getfv (v := 81) 12 fl_Model_16 (dx d_Model_leastWord 7 rfl) rfl hM.1.1 (by first | exact mf_told hM.1 | (simp [aj_up_at]; exact mf_told hM.1) | exact mf_told (by assumption)) ?_
  refine aj_bipush 14 (dx d_Model_leastWord 8 rfl) rfl (by decide +kernel) ?_
  refine aj_iload_n 1 15 (dx d_Model_leastWord 9 rfl) rfl rfl rfl ?_
  refine aj_imul 16 (dx d_Model_leastWord 10 rfl) rfl ?_
  refine aj_iload_n 2 17 (dx d_Model_leastWord 11 rfl) rfl rfl rfl ?_
  refine aj_iadd 18 (dx d_Model_leastWord 12 rfl) rfl ?_
  refine aj_iald 19 (dx d_Model_leastWord 13 rfl) rfl (ms_told hM.1) rfl (by omega) (by omega) ?_
  rw [e1]
  refine aj_istore 7 21 (dx d_Model_leastWord 14 rfl) rfl rfl ?_
  simp only [List.set]
  rcases e3 with ⟨rfl, h⟩ | h
  · refine aj_iload 7 23 (dx d_Model_leastWord 15 rfl) rfl rfl ?_
    refine aj_if_le 96 26 (dx d_Model_leastWord 16 rfl) rfl rfl (by unfold aj_I; omega) (fun h23 => ?_) (fun h23 => absurd h23 (by decide))
    refine aj_lload_n 3 97 (dx d_Model_leastWord 57 rfl) rfl rfl rfl ?_
    refine aj_lret (dx d_Model_leastWord 58 rfl) rfl id ?_
    exact hk0 h
  · exact k_least_out hM hT hs ht hk1 hk0 m m s t [] rfl hs ht (wd_ok_nil k) (by simpa using e2) (Or.inl ⟨ln_pos h, h, fun v hv => by rw [List.append_nil]; exact hv⟩)
end
section
/-! Model.measure: the table of the distances -/
def tdi (g : aj_G) (k n : Nat) (nx ou : Nat → Nat → Nat) (L : Nat → Nat → Nat) : Prop := ∀ s t : Nat, s < n → t < n → ∃ m : Nat, g 81 (8 * (s : Int) + t) = m ∧ ((m = 0 ∧ mo_el k nx ou (L s t) s t) ∨ (wd_ln k nx ou s t m ∧ m ≤ L s t))
theorem tdi_up {g : aj_G} {k n l s t : Nat} {nx ou : Nat → Nat → Nat} {L L' : Nat → Nat → Nat} {v : Nat} (h : tdi g k n nx ou L) (ht : t < 8) (hn : n ≤ 8) (hv : (v = 0 ∧ mo_el k nx ou l s t) ∨ (wd_ln k nx ou s t v ∧ v ≤ l)) (hL : ∀ a b, a < n → b < n → ¬ (a = s ∧ b = t) → L' a b = L a b) (hs : L' s t = l) : tdi (aj_up g 81 (8 * (s : Int) + t) (v : Nat)) k n nx ou L' := by
  intro a b ha hb
  by_cases e : a = s ∧ b = t
  · obtain ⟨rfl, rfl⟩ := e
    exact ⟨v, by rw [aj_up_self], by rw [hs]; exact hv⟩
  · obtain ⟨m, h1, h2⟩ := h a b ha hb
    exact ⟨m, by rw [aj_up_ni _ _ _ (by omega)]; exact h1, by rw [hL a b ha hb e]; exact h2⟩
theorem ms_iff {k : Nat} {nx ou : Nat → Nat → Nat} {s t l : Nat} (hl : 0 < l) (h : mo_el k nx ou (l - 1) s t) : wd_ln k nx ou s t l ↔ ∃ i, i < k ∧ ftP k nx ou s t l i := by
  refine ⟨ft_ex, ?_⟩
  rintro ⟨i, hi, ⟨h1, h2⟩ | ⟨h1, h2⟩⟩
  · subst h1
    exact ln_one.mpr ⟨i, hi, h2⟩
  · obtain ⟨m, rfl⟩ : ∃ m, l = m + 1 := ⟨l - 1, by omega⟩
    exact (ln_succ (by omega)).mpr ⟨fun w hw hwl => h w hw hwl, i, hi, h2⟩
theorem mz_next {k : Nat} {nx ou : Nat → Nat → Nat} {s t l : Nat} (hl : 0 < l) (h : mo_el k nx ou (l - 1) s t) (hn : ¬ wd_ln k nx ou s t l) : mo_el k nx ou l s t := by
  intro w hw hwl hd
  rcases Nat.lt_or_ge w.length l with z | z
  · exact h w hw (by omega) hd
  · exact hn ⟨⟨w, hw, by omega, hd⟩, fun v hv hvl => h v hv (by omega)⟩
theorem ms_far {g : aj_G} {k n : Nat} {nx ou : Nat → Nat → Nat} {L : Nat → Nat → Nat} {l a b m : Nat} (h : tdi g k n nx ou L) (hL : ∀ a b, l ≤ L a b + 1) (ha : a < n) (hb : b < n) (hl : 1 < l) (hm : g 81 (8 * (a : Int) + b) = (m : Nat)) : m = l - 1 ↔ wd_ln k nx ou a b (l - 1) := by
  obtain ⟨m', e, h1⟩ := h a b ha hb
  have hL1 := hL a b
  have em : m = m' := by omega
  subst em
  constructor
  · intro z
    rcases h1 with ⟨h2, -⟩ | ⟨h2, -⟩
    · omega
    · rw [← z]; exact h2
  · intro z
    rcases h1 with ⟨-, h2⟩ | ⟨h2, -⟩
    · obtain ⟨⟨w, w1, w2, w3⟩, -⟩ := z
      exact (h2 w w1 (by omega) w3).elim
    · exact ln_uniq h2 z
def ms_L (l s t a b : Nat) : Nat := if a < s ∨ (a = s ∧ b < t) then l else l - 1
theorem ms_L_up {l s t a b : Nat} (h : ¬ (a = s ∧ b = t)) : ms_L l s (t + 1) a b = ms_L l s t a b := by
  unfold ms_L
  by_cases z : a < s ∨ (a = s ∧ b < t)
  · rw [if_pos z, if_pos (by omega)]
  · rw [if_neg z, if_neg (by omega)]
set_option maxHeartbeats 4000000 in
theorem k_ms_in {al : Prop} {X : Option (Nat × (Int → Int))} {d : Nat} {sh : List aj_S} {g : aj_G} {Q : aj_R → List aj_S → aj_G → Prop} {k n : Nat} {nx ou : Nat → Nat → Nat} (hM : mmm sh g k n nx ou) {L : Nat → Nat → Nat} {l s t m1 : Nat} (hT : tdi g k n nx ou L) (hL : ∀ a b, l ≤ L a b + 1) (hL2 : ∀ a b, L a b ≤ l) (hl0 : 0 < l) (hl9 : l ≤ 8) (hs : s < n) (ht : t < n) (hm1 : g 81 (8 * (s : Int) + t) = (m1 : Nat)) (hm9 : m1 ≤ 9) (hm2 : (m1 = 0 ∧ mo_el k nx ou (l - 1) s t) ∨ m1 ≠ 0)
    (hgo0 : m1 ≠ 0 ∨ (m1 = 0 ∧ mo_el k nx ou (l - 1) s t ∧ ¬ wd_ln k nx ou s t l) → aj_wp nE al al X m_Model_measure d 0 0 172 [some (1, 78), some (0, (l : Int)), some (0, (s : Int)), some (0, (t : Int)), some (0, 0), none, none] [] sh g Q) (hgo1 : m1 = 0 → wd_ln k nx ou s t l → aj_wp nE al al X m_Model_measure d 0 0 172 [some (1, 78), some (0, (l : Int)), some (0, (s : Int)), some (0, (t : Int)), some (0, 1), none, none] [] sh g Q) :
    ∀ (m i : Nat) (x : Int), i ≤ k → k - i = m → ((x = 1 ∧ ∃ i0, i0 < i ∧ ftP k nx ou s t l i0) ∨ (x = 0 ∧ ∀ i0, i0 < i → ¬ ftP k nx ou s t l i0)) → (m1 ≠ 0 → ∀ i0, ¬ i0 < i) →
    aj_wp nE al al X m_Model_measure d 0 0 57 [some (1, 78), some (0, (l : Int)), some (0, (s : Int)), some (0, (t : Int)), some (0, x), some (0, (i : Int)), none] [] sh g Q := by
  have hk4 := hM.2.2.2.1
  have hn8 := hM.2.2.2.2.1
  intro m
  induction m using Nat.strongRecOn with
  | ind m ih =>
    intro i x hi hmm hx hm3
    refine aj_iload 5 59 (dx d_Model_measure 34 rfl) rfl rfl ?_
    refine aj_aload_n 0 60 (dx d_Model_measure 35 rfl) rfl rfl rfl ?_
    refine aj_getfv (v := (k : Int)) 63 fl_Model_89 (dx d_Model_measure 36 rfl) rfl hM.1.1 hM.2.2.1 ?_
    refine aj_icmp_ge 172 66 (dx d_Model_measure 37 rfl) rfl rfl (by unfold aj_I; omega) (by unfold aj_I; omega) (fun h63 => ?_) (fun h63 => ?_)
    · refine aj_forget 5 ?_
      simp only [List.set]
      rcases hx with ⟨rfl, i0, h1, h2⟩ | ⟨rfl, h1⟩
      · rcases hm2 with h3 | h3
        · exact hgo1 h3.1 ((ms_iff hl0 h3.2).mpr ⟨i0, by omega, h2⟩)
        · exact (hm3 h3 i0 h1).elim
      · exact hgo0 (by
          rcases hm2 with h3 | h3
          · exact Or.inr ⟨h3.1, h3.2, fun z => by
              obtain ⟨i0, y1, y2⟩ := (ms_iff hl0 h3.2).mp z
              exact h1 i0 (by omega) y2⟩
          · exact Or.inl h3)
    · have hik : i < k := by omega
      obtain ⟨e1, e2, e3, e4⟩ := hM.2.2.2.2.2 s i hs hik
      obtain ⟨f1, f2, f3, f4⟩ := hM.2.2.2.2.2 t i ht hik
      obtain ⟨mf, t1, t2⟩ := hT (nx s i) (nx t i) e3 f3
      have hmf : mf ≤ 9 := by
        have := hL2 (nx s i) (nx t i)
        rcases t2 with ⟨z, -⟩ | ⟨-, z⟩ <;> omega
      have hfar := fun h1 : 1 < l => ms_far hT hL e3 f3 h1 t1
      refine aj_aload_n 0 67 (dx d_Model_measure 38 rfl) rfl rfl rfl ?_
      refine aj_getfv (v := 81) 70 fl_Model_16 (dx d_Model_measure 39 rfl) rfl hM.1.1 (by first | exact mf_told hM.1 | (simp [aj_up_at]; exact mf_told hM.1) | exact mf_told (by assumption)) ?_
      refine aj_bipush 72 (dx d_Model_measure 40 rfl) rfl (by decide +kernel) ?_
      refine aj_iload_n 2 73 (dx d_Model_measure 41 rfl) rfl rfl rfl ?_
      refine aj_imul 74 (dx d_Model_measure 42 rfl) rfl ?_
      refine aj_iload_n 3 75 (dx d_Model_measure 43 rfl) rfl rfl rfl ?_
      refine aj_iadd 76 (dx d_Model_measure 44 rfl) rfl ?_
      refine aj_iald 77 (dx d_Model_measure 45 rfl) rfl (ms_told hM.1) rfl (by omega) (by omega) ?_
      rw [hm1]
      refine aj_if_ne 172 80 (dx d_Model_measure 46 rfl) rfl rfl (by unfold aj_I; omega) (fun h77 => ?_) (fun h77 => ?_)
      · refine aj_forget 5 ?_
        simp only [List.set]
        have h3 : m1 ≠ 0 := by omega
        rcases hx with ⟨-, i0, h1, -⟩ | ⟨rfl, -⟩
        · exact (hm3 h3 i0 h1).elim
        · exact hgo0 (Or.inl h3)
      · refine aj_aload_n 0 81 (dx d_Model_measure 47 rfl) rfl rfl rfl ?_
        refine aj_getfv (v := 81) 84 fl_Model_16 (dx d_Model_measure 48 rfl) rfl hM.1.1 (by first | exact mf_told hM.1 | (simp [aj_up_at]; exact mf_told hM.1) | exact mf_told (by assumption)) ?_
        refine aj_bipush 86 (dx d_Model_measure 49 rfl) rfl (by decide +kernel) ?_
        refine aj_aload_n 0 87 (dx d_Model_measure 50 rfl) rfl rfl rfl ?_
        refine aj_getfv (v := 79) 90 fl_Model_7 (dx d_Model_measure 51 rfl) rfl hM.1.1 (by first | exact mf_next hM.1 | (simp [aj_up_at]; exact mf_next hM.1) | exact mf_next (by assumption)) ?_
        refine aj_iconst 91 (dx d_Model_measure 52 rfl) rfl ?_
        refine aj_iload_n 2 92 (dx d_Model_measure 53 rfl) rfl rfl rfl ?_
        refine aj_imul 93 (dx d_Model_measure 54 rfl) rfl ?_
        refine aj_iload 5 95 (dx d_Model_measure 55 rfl) rfl rfl ?_
        refine aj_iadd 96 (dx d_Model_measure 56 rfl) rfl ?_
        refine aj_iald 97 (dx d_Model_measure 57 rfl) rfl (ms_next hM.1) rfl (by omega) (by omega) ?_
        rw [e1]
        refine aj_imul 98 (dx d_Model_measure 58 rfl) rfl ?_
        refine aj_aload_n 0 99 (dx d_Model_measure 59 rfl) rfl rfl rfl ?_
        refine aj_getfv (v := 79) 102 fl_Model_7 (dx d_Model_measure 60 rfl) rfl hM.1.1 (by first | exact mf_next hM.1 | (simp [aj_up_at]; exact mf_next hM.1) | exact mf_next (by assumption)) ?_
        refine aj_iconst 103 (dx d_Model_measure 61 rfl) rfl ?_
        refine aj_iload_n 3 104 (dx d_Model_measure 62 rfl) rfl rfl rfl ?_
        refine aj_imul 105 (dx d_Model_measure 63 rfl) rfl ?_
        refine aj_iload 5 107 (dx d_Model_measure 64 rfl) rfl rfl ?_
        refine aj_iadd 108 (dx d_Model_measure 65 rfl) rfl ?_
        refine aj_iald 109 (dx d_Model_measure 66 rfl) rfl (ms_next hM.1) rfl (by omega) (by omega) ?_
        rw [f1]
        refine aj_iadd 110 (dx d_Model_measure 67 rfl) rfl ?_
        refine aj_iald 111 (dx d_Model_measure 68 rfl) rfl (ms_told hM.1) rfl (by omega) (by omega) ?_
        rw [t1]
        refine aj_istore 6 113 (dx d_Model_measure 69 rfl) rfl rfl ?_
        simp only [List.set]
        refine aj_iload 4 115 (dx d_Model_measure 70 rfl) rfl rfl ?_
        refine aj_if_ne 159 118 (dx d_Model_measure 71 rfl) rfl rfl (by rcases hx with ⟨h, -⟩ | ⟨h, -⟩ <;> rw [h] <;> unfold aj_I <;> omega) (fun h115 => ?_) (fun h115 => ?_)
        · have hyes : ∃ i0, i0 < i ∧ ftP k nx ou s t l i0 := by
            rcases hx with ⟨-, h⟩ | ⟨h, -⟩
            · exact h
            · omega
          refine aj_iconst 160 (dx d_Model_measure 98 rfl) rfl ?_
          refine aj_goto 164 (dx d_Model_measure 99 rfl) rfl ?_
          refine aj_istore 4 166 (dx d_Model_measure 101 rfl) rfl rfl ?_
          simp only [List.set]
          refine aj_iinc 5 169 (dx d_Model_measure 102 rfl) rfl rfl rfl ?_
          simp only [List.set]
          refine aj_goto 57 (dx d_Model_measure 103 rfl) rfl ?_
          refine aj_forget 6 ?_
          simp only [List.set]
          have hih := ih _ (by omega) (i + 1) 1 (by omega) rfl (Or.inl ⟨rfl, by obtain ⟨i0, y1, y2⟩ := hyes; exact ⟨i0, by omega, y2⟩⟩) (fun z => absurd (show m1 = 0 by omega) z)
          rw [show ((i : Nat) : Int) + 1 = ((i + 1 : Nat) : Int) by omega]
          exact hih
        · have hno : ∀ i0, i0 < i → ¬ ftP k nx ou s t l i0 := by
            rcases hx with ⟨h, -⟩ | ⟨-, h⟩
            · omega
            · exact h
          refine aj_iload_n 1 119 (dx d_Model_measure 72 rfl) rfl rfl rfl ?_
          refine aj_iconst 120 (dx d_Model_measure 73 rfl) rfl ?_
          refine aj_icmp_ne 151 123 (dx d_Model_measure 74 rfl) rfl rfl (by unfold aj_I; omega) (by unfold aj_I; omega) (fun h120 => ?_) (fun h120 => ?_)
          · refine aj_iload 6 153 (dx d_Model_measure 93 rfl) rfl rfl ?_
            refine aj_iload_n 1 154 (dx d_Model_measure 94 rfl) rfl rfl rfl ?_
            refine aj_iconst 155 (dx d_Model_measure 95 rfl) rfl ?_
            refine aj_isub 156 (dx d_Model_measure 96 rfl) rfl ?_
            refine aj_icmp_ne 163 159 (dx d_Model_measure 97 rfl) rfl rfl (by unfold aj_I; omega) (by unfold aj_I; omega) (fun h156 => ?_) (fun h156 => ?_)
            · refine aj_iconst 164 (dx d_Model_measure 100 rfl) rfl ?_
              refine aj_istore 4 166 (dx d_Model_measure 101 rfl) rfl rfl ?_
              simp only [List.set]
              refine aj_iinc 5 169 (dx d_Model_measure 102 rfl) rfl rfl rfl ?_
              simp only [List.set]
              refine aj_goto 57 (dx d_Model_measure 103 rfl) rfl ?_
              refine aj_forget 6 ?_
              simp only [List.set]
              have hih := ih _ (by omega) (i + 1) 0 (by omega) rfl (Or.inr ⟨rfl, fun i0 h0 => by
                rcases Nat.lt_or_ge i0 i with z | z
                · exact hno i0 z
                · rw [show i0 = i by omega]
                  rintro (⟨y1, y2⟩ | ⟨y1, y2⟩)
                  · omega
                  · have := (hfar y1).mpr y2
                    omega⟩) (fun z => absurd (show m1 = 0 by omega) z)
              rw [show ((i : Nat) : Int) + 1 = ((i + 1 : Nat) : Int) by omega]
              exact hih
            · refine aj_iconst 160 (dx d_Model_measure 98 rfl) rfl ?_
              refine aj_goto 164 (dx d_Model_measure 99 rfl) rfl ?_
              refine aj_istore 4 166 (dx d_Model_measure 101 rfl) rfl rfl ?_
              simp only [List.set]
              refine aj_iinc 5 169 (dx d_Model_measure 102 rfl) rfl rfl rfl ?_
              simp only [List.set]
              refine aj_goto 57 (dx d_Model_measure 103 rfl) rfl ?_
              refine aj_forget 6 ?_
              simp only [List.set]
              have hih := ih _ (by omega) (i + 1) 1 (by omega) rfl (Or.inl ⟨rfl, i, by omega, Or.inr ⟨by omega, (hfar (by omega)).mp (by omega)⟩⟩) (fun z => absurd (show m1 = 0 by omega) z)
              rw [show ((i : Nat) : Int) + 1 = ((i + 1 : Nat) : Int) by omega]
              exact hih
          · refine aj_aload_n 0 124 (dx d_Model_measure 75 rfl) rfl rfl rfl ?_
            refine aj_getfv (v := 80) 127 fl_Model_13 (dx d_Model_measure 76 rfl) rfl hM.1.1 (by first | exact mf_output hM.1 | (simp [aj_up_at]; exact mf_output hM.1) | exact mf_output (by assumption)) ?_
            refine aj_iconst 128 (dx d_Model_measure 77 rfl) rfl ?_
            refine aj_iload_n 2 129 (dx d_Model_measure 78 rfl) rfl rfl rfl ?_
            refine aj_imul 130 (dx d_Model_measure 79 rfl) rfl ?_
            refine aj_iload 5 132 (dx d_Model_measure 80 rfl) rfl rfl ?_
            refine aj_iadd 133 (dx d_Model_measure 81 rfl) rfl ?_
            refine aj_iald 134 (dx d_Model_measure 82 rfl) rfl (ms_output hM.1) rfl (by omega) (by omega) ?_
            rw [e2]
            refine aj_aload_n 0 135 (dx d_Model_measure 83 rfl) rfl rfl rfl ?_
            refine aj_getfv (v := 80) 138 fl_Model_13 (dx d_Model_measure 84 rfl) rfl hM.1.1 (by first | exact mf_output hM.1 | (simp [aj_up_at]; exact mf_output hM.1) | exact mf_output (by assumption)) ?_
            refine aj_iconst 139 (dx d_Model_measure 85 rfl) rfl ?_
            refine aj_iload_n 3 140 (dx d_Model_measure 86 rfl) rfl rfl rfl ?_
            refine aj_imul 141 (dx d_Model_measure 87 rfl) rfl ?_
            refine aj_iload 5 143 (dx d_Model_measure 88 rfl) rfl rfl ?_
            refine aj_iadd 144 (dx d_Model_measure 89 rfl) rfl ?_
            refine aj_iald 145 (dx d_Model_measure 90 rfl) rfl (ms_output hM.1) rfl (by omega) (by omega) ?_
            rw [f2]
            refine aj_icmp_eq 163 148 (dx d_Model_measure 91 rfl) rfl rfl (by unfold aj_I; omega) (by unfold aj_I; omega) (fun h145 => ?_) (fun h145 => ?_)
            · refine aj_iconst 164 (dx d_Model_measure 100 rfl) rfl ?_
              refine aj_istore 4 166 (dx d_Model_measure 101 rfl) rfl rfl ?_
              simp only [List.set]
              refine aj_iinc 5 169 (dx d_Model_measure 102 rfl) rfl rfl rfl ?_
              simp only [List.set]
              refine aj_goto 57 (dx d_Model_measure 103 rfl) rfl ?_
              refine aj_forget 6 ?_
              simp only [List.set]
              have hih := ih _ (by omega) (i + 1) 0 (by omega) rfl (Or.inr ⟨rfl, fun i0 h0 => by
                rcases Nat.lt_or_ge i0 i with z | z
                · exact hno i0 z
                · rw [show i0 = i by omega]
                  rintro (⟨y1, y2⟩ | ⟨y1, y2⟩)
                  · exact y2 (by omega)
                  · omega⟩) (fun z => absurd (show m1 = 0 by omega) z)
              rw [show ((i : Nat) : Int) + 1 = ((i + 1 : Nat) : Int) by omega]
              exact hih
            · refine aj_goto 159 (dx d_Model_measure 92 rfl) rfl ?_
              refine aj_iconst 160 (dx d_Model_measure 98 rfl) rfl ?_
              refine aj_goto 164 (dx d_Model_measure 99 rfl) rfl ?_
              refine aj_istore 4 166 (dx d_Model_measure 101 rfl) rfl rfl ?_
              simp only [List.set]
              refine aj_iinc 5 169 (dx d_Model_measure 102 rfl) rfl rfl rfl ?_
              simp only [List.set]
              refine aj_goto 57 (dx d_Model_measure 103 rfl) rfl ?_
              refine aj_forget 6 ?_
              simp only [List.set]
              have hih := ih _ (by omega) (i + 1) 1 (by omega) rfl (Or.inl ⟨rfl, i, by omega, Or.inl ⟨by omega, by omega⟩⟩) (fun z => absurd (show m1 = 0 by omega) z)
              rw [show ((i : Nat) : Int) + 1 = ((i + 1 : Nat) : Int) by omega]
              exact hih
set_option maxHeartbeats 4000000 in
theorem k_ms_t {al : Prop} {X : Option (Nat × (Int → Int))} {d : Nat} {sh : List aj_S} {g : aj_G} {Q : aj_R → List aj_S → aj_G → Prop} {k n : Nat} {nx ou : Nat → Nat → Nat} {l s : Nat} (hl0 : 0 < l) (hl9 : l ≤ 8) (hs : s < n) (hn9 : n ≤ 8)
    (hgo : ∀ g1, (∀ r, r ≠ 81 → g1 r = g r) → mmm sh g1 k n nx ou → tdi g1 k n nx ou (ms_L l s n) → aj_wp nE al al X m_Model_measure d 0 0 209 [some (1, 78), some (0, (l : Int)), some (0, (s : Int)), none, none, none, none] [] sh g1 Q) :
    ∀ (m t : Nat) (g1 : aj_G), t ≤ n → n - t = m → (∀ r, r ≠ 81 → g1 r = g r) → mmm sh g1 k n nx ou → tdi g1 k n nx ou (ms_L l s t) →
    aj_wp nE al al X m_Model_measure d 0 0 43 [some (1, 78), some (0, (l : Int)), some (0, (s : Int)), some (0, (t : Int)), none, none, none] [] sh g1 Q := by
  intro m
  induction m using Nat.strongRecOn with
  | ind m ih =>
    intro t g1 ht hmm hF hM1 hT
    refine aj_iload_n 3 44 (dx d_Model_measure 26 rfl) rfl rfl rfl ?_
    refine aj_aload_n 0 45 (dx d_Model_measure 27 rfl) rfl rfl rfl ?_
    refine aj_getfv (v := (n : Int)) 48 fl_Model_86 (dx d_Model_measure 28 rfl) rfl hM1.1.1 hM1.2.1 ?_
    refine aj_icmp_ge 209 51 (dx d_Model_measure 29 rfl) rfl rfl (by unfold aj_I; omega) (by unfold aj_I; omega) (fun h48 => ?_) (fun h48 => ?_)
    · refine aj_forget 3 ?_
      refine aj_forget 4 ?_
      refine aj_forget 5 ?_
      simp only [List.set]
      rw [show t = n by omega] at hT
      exact hgo g1 hF hM1 hT
    · refine aj_iconst 52 (dx d_Model_measure 30 rfl) rfl ?_
      refine aj_istore 4 54 (dx d_Model_measure 31 rfl) rfl rfl ?_
      simp only [List.set]
      refine aj_iconst 55 (dx d_Model_measure 32 rfl) rfl ?_
      refine aj_istore 5 57 (dx d_Model_measure 33 rfl) rfl rfl ?_
      simp only [List.set]
      obtain ⟨m1, hm1, hm2⟩ := hT s t hs (by omega)
      have hLe : ms_L l s t s t = l - 1 := by unfold ms_L; rw [if_neg (by omega)]
      rw [hLe] at hm2
      have hL2 : ∀ a b, ms_L l s t a b ≤ l := fun a b => by unfold ms_L; split <;> omega
      have hstep : ∀ v : Nat, ((v = 0 ∧ mo_el k nx ou l s t) ∨ (wd_ln k nx ou s t v ∧ v ≤ l)) → aj_wp nE al al X m_Model_measure d 0 0 43 [some (1, 78), some (0, (l : Int)), some (0, (s : Int)), some (0, ((t + 1 : Nat) : Int)), none, none, none] [] sh (aj_up g1 81 (8 * (s : Int) + t) (v : Nat)) Q := fun v hv =>
        ih _ (by omega) (t + 1) (aj_up g1 81 (8 * (s : Int) + t) (v : Nat)) (by omega) rfl (fun r hr => by rw [aj_up_ne _ _ _ hr]; exact hF r hr) (mmm_of hM1 (fun j hj => by rw [aj_up_ne _ _ _ (by omega)]) (aj_up_ne _ _ _ (by omega)) (aj_up_ne _ _ _ (by omega))) (tdi_up hT (by omega) (by omega) hv (fun a b ha hb hne => ms_L_up hne) (by unfold ms_L; rw [if_pos (by omega)]))
      refine k_ms_in hM1 hT (fun a b => by unfold ms_L; split <;> omega) hL2 hl0 hl9 hs (by omega) hm1 (by rcases hm2 with ⟨z, -⟩ | ⟨-, z⟩ <;> omega) (by
        rcases hm2 with z | ⟨z, -⟩
        · exact Or.inl z
        · exact Or.inr (by have := ln_pos z; omega)) (fun hz => ?_) (fun hz hw => ?_) _ 0 0 (by omega) rfl (Or.inr ⟨rfl, fun i0 h => absurd h (Nat.not_lt_zero _)⟩) (fun _ i0 h => absurd h (Nat.not_lt_zero _))
      · refine aj_aload_n 0 173 (dx d_Model_measure 104 rfl) rfl rfl rfl ?_
        refine aj_getfv (v := 81) 176 fl_Model_16 (dx d_Model_measure 105 rfl) rfl hM1.1.1 (by first | exact mf_told hM1.1 | (simp [aj_up_at]; exact mf_told hM1.1) | exact mf_told (by assumption)) ?_
        refine aj_bipush 178 (dx d_Model_measure 106 rfl) rfl (by decide +kernel) ?_
        refine aj_iload_n 2 179 (dx d_Model_measure 107 rfl) rfl rfl rfl ?_
        refine aj_imul 180 (dx d_Model_measure 108 rfl) rfl ?_
        refine aj_iload_n 3 181 (dx d_Model_measure 109 rfl) rfl rfl rfl ?_
        refine aj_iadd 182 (dx d_Model_measure 110 rfl) rfl ?_
        refine aj_iload 4 184 (dx d_Model_measure 111 rfl) rfl rfl ?_
        refine aj_if_eq 191 187 (dx d_Model_measure 112 rfl) rfl rfl (by unfold aj_I; omega) (fun h184 => ?_) (fun h184 => ?_)
        · refine aj_aload_n 0 192 (dx d_Model_measure 115 rfl) rfl rfl rfl ?_
          refine aj_getfv (v := 81) 195 fl_Model_16 (dx d_Model_measure 116 rfl) rfl hM1.1.1 (by first | exact mf_told hM1.1 | (simp [aj_up_at]; exact mf_told hM1.1) | exact mf_told (by assumption)) ?_
          refine aj_bipush 197 (dx d_Model_measure 117 rfl) rfl (by decide +kernel) ?_
          refine aj_iload_n 2 198 (dx d_Model_measure 118 rfl) rfl rfl rfl ?_
          refine aj_imul 199 (dx d_Model_measure 119 rfl) rfl ?_
          refine aj_iload_n 3 200 (dx d_Model_measure 120 rfl) rfl rfl rfl ?_
          refine aj_iadd 201 (dx d_Model_measure 121 rfl) rfl ?_
          refine aj_iald 202 (dx d_Model_measure 122 rfl) rfl (ms_told hM1.1) rfl (by omega) (by omega) ?_
          rw [hm1]
          refine aj_iast 203 (dx d_Model_measure 123 rfl) rfl (ms_told hM1.1) rfl (by omega) (by omega) ?_
          refine aj_iinc 3 206 (dx d_Model_measure 124 rfl) rfl rfl rfl ?_
          simp only [List.set]
          refine aj_goto 43 (dx d_Model_measure 125 rfl) rfl ?_
          refine aj_forget 4 ?_
          simp only [List.set]
          rw [show ((t : Nat) : Int) + 1 = ((t + 1 : Nat) : Int) by omega]
          refine hstep m1 ?_
          rcases hz with z | ⟨z1, z2, z3⟩
          · rcases hm2 with ⟨y, -⟩ | ⟨y1, y2⟩
            · exact absurd y z
            · exact Or.inr ⟨y1, by omega⟩
          · exact Or.inl ⟨z1, mz_next hl0 z2 z3⟩
        · exact absurd rfl h184
      · refine aj_aload_n 0 173 (dx d_Model_measure 104 rfl) rfl rfl rfl ?_
        refine aj_getfv (v := 81) 176 fl_Model_16 (dx d_Model_measure 105 rfl) rfl hM1.1.1 (by first | exact mf_told hM1.1 | (simp [aj_up_at]; exact mf_told hM1.1) | exact mf_told (by assumption)) ?_
        refine aj_bipush 178 (dx d_Model_measure 106 rfl) rfl (by decide +kernel) ?_
        refine aj_iload_n 2 179 (dx d_Model_measure 107 rfl) rfl rfl rfl ?_
        refine aj_imul 180 (dx d_Model_measure 108 rfl) rfl ?_
        refine aj_iload_n 3 181 (dx d_Model_measure 109 rfl) rfl rfl rfl ?_
        refine aj_iadd 182 (dx d_Model_measure 110 rfl) rfl ?_
        refine aj_iload 4 184 (dx d_Model_measure 111 rfl) rfl rfl ?_
        refine aj_if_eq 191 187 (dx d_Model_measure 112 rfl) rfl rfl (by unfold aj_I; omega) (fun h184 => ?_) (fun h184 => ?_)
        · exact absurd h184 (by decide)
        · refine aj_iload_n 1 188 (dx d_Model_measure 113 rfl) rfl rfl rfl ?_
          refine aj_goto 202 (dx d_Model_measure 114 rfl) rfl ?_
          refine aj_iast 203 (dx d_Model_measure 123 rfl) rfl (ms_told hM1.1) rfl (by omega) (by omega) ?_
          refine aj_iinc 3 206 (dx d_Model_measure 124 rfl) rfl rfl rfl ?_
          simp only [List.set]
          refine aj_goto 43 (dx d_Model_measure 125 rfl) rfl ?_
          refine aj_forget 4 ?_
          simp only [List.set]
          rw [show ((t : Nat) : Int) + 1 = ((t + 1 : Nat) : Int) by omega]
          exact hstep l (Or.inr ⟨hw, Nat.le_refl _⟩)
set_option maxHeartbeats 4000000 in
theorem k_ms_s {al : Prop} {X : Option (Nat × (Int → Int))} {d : Nat} {sh : List aj_S} {g : aj_G} {Q : aj_R → List aj_S → aj_G → Prop} {k n : Nat} {nx ou : Nat → Nat → Nat} {l : Nat} (hl0 : 0 < l) (hl9 : l ≤ 8) (hn9 : n ≤ 8)
    (hgo : ∀ g1, (∀ r, r ≠ 81 → g1 r = g r) → mmm sh g1 k n nx ou → tdi g1 k n nx ou (fun _ _ => l) → aj_wp nE al al X m_Model_measure d 0 0 215 [some (1, 78), some (0, (l : Int)), none, none, none, none, none] [] sh g1 Q) :
    ∀ (m s : Nat) (g1 : aj_G), s ≤ n → n - s = m → (∀ r, r ≠ 81 → g1 r = g r) → mmm sh g1 k n nx ou → tdi g1 k n nx ou (ms_L l s 0) →
    aj_wp nE al al X m_Model_measure d 0 0 33 [some (1, 78), some (0, (l : Int)), some (0, (s : Int)), none, none, none, none] [] sh g1 Q := by
  intro m
  induction m using Nat.strongRecOn with
  | ind m ih =>
    intro s g1 hs hmm hF hM1 hT
    refine aj_iload_n 2 34 (dx d_Model_measure 20 rfl) rfl rfl rfl ?_
    refine aj_aload_n 0 35 (dx d_Model_measure 21 rfl) rfl rfl rfl ?_
    refine aj_getfv (v := (n : Int)) 38 fl_Model_86 (dx d_Model_measure 22 rfl) rfl hM1.1.1 hM1.2.1 ?_
    refine aj_icmp_ge 215 41 (dx d_Model_measure 23 rfl) rfl rfl (by unfold aj_I; omega) (by unfold aj_I; omega) (fun h38 => ?_) (fun h38 => ?_)
    · refine aj_forget 2 ?_
      simp only [List.set]
      rw [show s = n by omega] at hT
      exact hgo g1 hF hM1 (fun a b ha hb => by
        obtain ⟨m', e1, e2⟩ := hT a b ha hb
        refine ⟨m', e1, ?_⟩
        have : ms_L l n 0 a b = l := by unfold ms_L; rw [if_pos (by omega)]
        rw [this] at e2
        exact e2)
    · refine aj_iconst 42 (dx d_Model_measure 24 rfl) rfl ?_
      refine aj_istore_n 3 43 (dx d_Model_measure 25 rfl) rfl rfl rfl ?_
      simp only [List.set]
      refine k_ms_t hl0 hl9 (show s < n by omega) hn9 (g := g1) (fun g2 hF2 hM2 hT2 => ?_) _ 0 g1 (by omega) rfl (fun r _ => rfl) hM1 hT
      refine aj_iinc 2 212 (dx d_Model_measure 126 rfl) rfl rfl rfl ?_
      simp only [List.set]
      refine aj_goto 33 (dx d_Model_measure 127 rfl) rfl ?_
      rw [show ((s : Nat) : Int) + 1 = ((s + 1 : Nat) : Int) by omega]
      exact ih _ (by omega) (s + 1) g2 (by omega) rfl (fun r hr => (hF2 r hr).trans (hF r hr)) hM2 (fun a b ha hb => by
        obtain ⟨m', e1, e2⟩ := hT2 a b ha hb
        refine ⟨m', e1, ?_⟩
        have : ms_L l (s + 1) 0 a b = ms_L l s n a b := by
          unfold ms_L
          by_cases z : a < s ∨ (a = s ∧ b < n)
          · rw [if_pos z, if_pos (by omega)]
          · rw [if_neg z, if_neg (by omega)]
        rw [this]
        exact e2)
set_option maxHeartbeats 4000000 in
theorem k_ms_l {al : Prop} {X : Option (Nat × (Int → Int))} {d : Nat} {sh : List aj_S} {g : aj_G} {Q : aj_R → List aj_S → aj_G → Prop} {k n : Nat} {nx ou : Nat → Nat → Nat} (hs0 : ∀ s i, s < n → i < k → nx s i < n) (hk : ∀ g1, (∀ r, r ≠ 81 → g1 r = g r) → mmm sh g1 k n nx ou → tdm g1 k n nx ou → Q (.inl none) sh g1) : ∀ (m l : Nat) (g1 : aj_G), 1 ≤ l → l ≤ n + 1 → n + 1 - l = m → (∀ r, r ≠ 81 → g1 r = g r) → mmm sh g1 k n nx ou → tdi g1 k n nx ou (fun _ _ => l - 1) →
    aj_wp nE al al X m_Model_measure d 0 0 23 [some (1, 78), some (0, (l : Int)), none, none, none, none, none] [] sh g1 Q := by
  intro m
  induction m using Nat.strongRecOn with
  | ind m ih =>
    intro l g1 hl1 hln hmm hF hM1 hT
    have hn8 := hM1.2.2.2.2.1
    refine aj_iload_n 1 24 (dx d_Model_measure 14 rfl) rfl rfl rfl ?_
    refine aj_aload_n 0 25 (dx d_Model_measure 15 rfl) rfl rfl rfl ?_
    refine aj_getfv (v := (n : Int)) 28 fl_Model_86 (dx d_Model_measure 16 rfl) rfl hM1.1.1 hM1.2.1 ?_
    refine aj_icmp_gt 221 31 (dx d_Model_measure 17 rfl) rfl rfl (by unfold aj_I; omega) (by unfold aj_I; omega) (fun h28 => ?_) (fun h28 => ?_)
    · refine aj_vret (dx d_Model_measure 130 rfl) rfl id ?_
      refine hk g1 hF hM1 (fun a b ha hb => ?_)
      obtain ⟨m', e1, e2⟩ := hT a b ha hb
      rw [show l - 1 = n by omega] at e2
      rcases e2 with ⟨z1, z2⟩ | ⟨z1, z2⟩
      · exact ⟨m', e1, by omega, Or.inl ⟨z1, fun w hw hd => mo_bound (by omega) hs0 ha hb (mo_el_le (show mo_el k nx ou n a b from z2) (by omega)) w.length w hw (Nat.le_refl _) hd⟩⟩
      · exact ⟨m', e1, z2, Or.inr z1⟩
    · refine aj_iconst 32 (dx d_Model_measure 18 rfl) rfl ?_
      refine aj_istore_n 2 33 (dx d_Model_measure 19 rfl) rfl rfl rfl ?_
      simp only [List.set]
      refine k_ms_s (l := l) (by omega) (by omega) (by omega) (g := g1) (fun g2 hF2 hM2 hT2 => ?_) _ 0 g1 (by omega) rfl (fun r _ => rfl) hM1 (fun a b ha hb => by
        obtain ⟨m', e1, e2⟩ := hT a b ha hb
        refine ⟨m', e1, ?_⟩
        have : ms_L l 0 0 a b = l - 1 := by unfold ms_L; rw [if_neg (by omega)]
        rw [this]
        exact e2)
      refine aj_iinc 1 218 (dx d_Model_measure 128 rfl) rfl rfl rfl ?_
      simp only [List.set]
      refine aj_goto 23 (dx d_Model_measure 129 rfl) rfl ?_
      rw [show ((l : Nat) : Int) + 1 = ((l + 1 : Nat) : Int) by omega]
      exact ih _ (by omega) (l + 1) g2 (by omega) (by omega) rfl (fun r hr => (hF2 r hr).trans (hF r hr)) hM2 hT2
set_option maxHeartbeats 4000000 in
theorem k_ms_z {al : Prop} {X : Option (Nat × (Int → Int))} {d : Nat} {sh : List aj_S} {g : aj_G} {Q : aj_R → List aj_S → aj_G → Prop} {k n : Nat} {nx ou : Nat → Nat → Nat} (hs0 : ∀ s i, s < n → i < k → nx s i < n) (hk : ∀ g1, (∀ r, r ≠ 81 → g1 r = g r) → mmm sh g1 k n nx ou → tdm g1 k n nx ou → Q (.inl none) sh g1) : ∀ (m x : Nat) (g1 : aj_G), x ≤ 64 → 64 - x = m → (∀ r, r ≠ 81 → g1 r = g r) → mmm sh g1 k n nx ou → (∀ y : Nat, y < x → g1 81 (y : Nat) = 0) →
    aj_wp nE al al X m_Model_measure d 0 0 2 [some (1, 78), some (0, (x : Int)), none, none, none, none, none] [] sh g1 Q := by
  intro m
  induction m using Nat.strongRecOn with
  | ind m ih =>
    intro x g1 hx hmm hF hM1 hZ
    have hn8 := hM1.2.2.2.2.1
    refine aj_iload_n 1 3 (dx d_Model_measure 2 rfl) rfl rfl rfl ?_
    refine aj_bipush 5 (dx d_Model_measure 3 rfl) rfl (by decide +kernel) ?_
    refine aj_icmp_ge 21 8 (dx d_Model_measure 4 rfl) rfl rfl (by unfold aj_I; omega) (by unfold aj_I; omega) (fun h5 => ?_) (fun h5 => ?_)
    · refine aj_iconst 22 (dx d_Model_measure 12 rfl) rfl ?_
      refine aj_istore_n 1 23 (dx d_Model_measure 13 rfl) rfl rfl rfl ?_
      simp only [List.set]
      refine k_ms_l hs0 hk _ 1 g1 (by omega) (by omega) rfl hF hM1 (fun a b ha hb => ⟨0, ?_, Or.inl ⟨rfl, ?_⟩⟩)
      · exact hZ (8 * a + b) (by omega)
      · intro w hw hwl hd
        have hwl0 : w.length ≤ 1 - 1 := hwl
        have : w = [] := List.length_eq_zero_iff.mp (by omega)
        subst this
        exact hd
    · refine aj_aload_n 0 9 (dx d_Model_measure 5 rfl) rfl rfl rfl ?_
      refine aj_getfv (v := 81) 12 fl_Model_16 (dx d_Model_measure 6 rfl) rfl hM1.1.1 (by first | exact mf_told hM1.1 | (simp [aj_up_at]; exact mf_told hM1.1) | exact mf_told (by assumption)) ?_
      refine aj_iload_n 1 13 (dx d_Model_measure 7 rfl) rfl rfl rfl ?_
      refine aj_iconst 14 (dx d_Model_measure 8 rfl) rfl ?_
      refine aj_iast 15 (dx d_Model_measure 9 rfl) rfl (ms_told hM1.1) rfl (by omega) (by omega) ?_
      refine aj_iinc 1 18 (dx d_Model_measure 10 rfl) rfl rfl rfl ?_
      simp only [List.set]
      refine aj_goto 2 (dx d_Model_measure 11 rfl) rfl ?_
      rw [show ((x : Nat) : Int) + 1 = ((x + 1 : Nat) : Int) by omega]
      exact ih _ (by omega) (x + 1) _ (by omega) rfl (fun r hr => by rw [aj_up_ne _ _ _ hr]; exact hF r hr) (mmm_of hM1 (fun j hj => by rw [aj_up_ne _ _ _ (by omega)]) (aj_up_ne _ _ _ (by omega)) (aj_up_ne _ _ _ (by omega))) (fun y hy => by
        by_cases e : y = x
        · subst e; rw [aj_up_self]
        · rw [aj_up_ni _ _ _ (by omega)]; exact hZ y (by omega))
set_option maxHeartbeats 4000000 in
theorem k_Model_measure {al : Prop} {X : Option (Nat × (Int → Int))} {d : Nat} {sh : List aj_S} {g : aj_G} {Q : aj_R → List aj_S → aj_G → Prop} {k n : Nat} {nx ou : Nat → Nat → Nat} (hM : mmm sh g k n nx ou) (hs0 : ∀ s i, s < n → i < k → nx s i < n) (hk : ∀ g1, (∀ r, r ≠ 81 → g1 r = g r) → mmm sh g1 k n nx ou → tdm g1 k n nx ou → Q (.inl none) sh g1) : aj_wp nE al al X m_Model_measure d 0 0 0 [some (1, 78), none, none, none, none, none, none] [] sh g Q := by
  refine aj_iconst 1 (dx d_Model_measure 0 rfl) rfl ?_
  refine aj_istore_n 1 2 (dx d_Model_measure 1 rfl) rfl rfl rfl ?_
  simp only [List.set]
  exact k_ms_z hs0 hk _ 0 g (by omega) rfl (fun r _ => rfl) hM (fun y hy => absurd hy (Nat.not_lt_zero _))
end
section
/-! access words; Model: take, number -/
def acF (q : nb_T) : Nat → Nat → List Nat
  | 0, _ => []
  | f + 1, a => if a = 0 then [] else q.2.2.2 a :: acF q f (q.2.2.1 a)
/-- the access word of the a-th state (its last letter first) -/
def ac (q : nb_T) (a : Nat) : List Nat := acF q a a
theorem acF_0 (q : nb_T) (f : Nat) : acF q f 0 = [] := by cases f <;> rfl
theorem acF_eq {q : nb_T} {N : Nat} (h : ∀ a, 0 < a → a < N → q.2.2.1 a < a) : ∀ a, a < N → ∀ f f', a ≤ f → a ≤ f' → acF q f a = acF q f' a := by
  intro a
  induction a using Nat.strongRecOn with
  | ind a ih =>
    intro ha f f' hf hf'
    by_cases e : a = 0
    · subst e; rw [acF_0, acF_0]
    · obtain ⟨x, rfl⟩ : ∃ x, f = x + 1 := ⟨f - 1, by omega⟩
      obtain ⟨y, rfl⟩ : ∃ y, f' = y + 1 := ⟨f' - 1, by omega⟩
      have hlt := h a (by omega) ha
      show (if a = 0 then [] else q.2.2.2 a :: acF q x (q.2.2.1 a)) = (if a = 0 then [] else q.2.2.2 a :: acF q y (q.2.2.1 a))
      rw [if_neg e, if_neg e, ih _ hlt (by omega) x y (by omega) (by omega)]
theorem ac_0 (q : nb_T) : ac q 0 = [] := rfl
theorem ac_s {q : nb_T} {N : Nat} (h : ∀ a, 0 < a → a < N → q.2.2.1 a < a) {a : Nat} (h0 : 0 < a) (ha : a < N) : ac q a = q.2.2.2 a :: ac q (q.2.2.1 a) := by
  obtain ⟨x, rfl⟩ : ∃ x, a = x + 1 := ⟨a - 1, by omega⟩
  have hlt := h _ h0 ha
  show (if x + 1 = 0 then [] else q.2.2.2 (x + 1) :: acF q x (q.2.2.1 (x + 1))) = _
  rw [if_neg (by omega)]
  congr 1
  exact acF_eq h _ (by omega) _ _ (by omega) (Nat.le_refl _)
theorem ac_len {q : nb_T} {N : Nat} (h : ∀ a, 0 < a → a < N → q.2.2.1 a < a) : ∀ a, a < N → (ac q a).length ≤ a := by
  intro a
  induction a using Nat.strongRecOn with
  | ind a ih =>
    intro ha
    by_cases e : a = 0
    · subst e; exact Nat.le_refl 0
    · have hlt := h a (by omega) ha
      rw [ac_s h (by omega) ha, List.length_cons]
      have := ih _ hlt (by omega)
      omega
theorem ac_ok {q : nb_T} {N k : Nat} (h : ∀ a, 0 < a → a < N → q.2.2.1 a < a) (h2 : ∀ a, 0 < a → a < N → q.2.2.2 a < k) : ∀ a, a < N → wd_ok k (ac q a) := by
  intro a
  induction a using Nat.strongRecOn with
  | ind a ih =>
    intro ha
    by_cases e : a = 0
    · subst e; exact wd_ok_nil k
    · rw [ac_s h (by omega) ha]
      exact wd_ok_cons.mpr ⟨h2 a (by omega) ha, ih _ (h a (by omega) ha) (by have := h a (by omega) ha; omega)⟩
theorem ac_up {q q' : nb_T} {N : Nat} (h : ∀ a, 0 < a → a < N → q.2.2.1 a < a) (e1 : ∀ a, a < N → q'.2.2.1 a = q.2.2.1 a) (e2 : ∀ a, a < N → q'.2.2.2 a = q.2.2.2 a) : ∀ a, a < N → ac q' a = ac q a := by
  intro a
  induction a using Nat.strongRecOn with
  | ind a ih =>
    intro ha
    by_cases e : a = 0
    · subst e; rfl
    · have h' : ∀ a, 0 < a → a < N → q'.2.2.1 a < a := fun a h0 ha => by rw [e1 a ha]; exact h a h0 ha
      rw [ac_s h (by omega) ha, ac_s h' (by omega) ha, e1 a ha, e2 a ha, ih _ (h a (by omega) ha) (by have := h a (by omega) ha; omega)]
/-! the model's numbering -/
def nbm (g : aj_G) (k n s0 : Nat) (nx ou : Nat → Nat → Nat) (tw : Nat → Nat) (j : Nat) (q : nb_T) (sf : Nat → Nat) : Prop :=
  q = nb k nx tw s0 j ∧ nb_I k n nx tw s0 j q ∧ g 78 8 = q.1 ∧ (∀ a : Nat, a < q.1 → g 83 a = sf a ∧ sf a < n ∧ tw (sf a) = q.2.1 a ∧ g 84 a = wd_cd (ac q a)) ∧
  ∀ x : Nat, x < n → (∀ a : Nat, a < q.1 → q.2.1 a = tw x → g 82 x = a) ∧ ((∀ a, a < q.1 → q.2.1 a ≠ tw x) → g 82 x = -1)
def tk_P (k n : Nat) (nx ou : Nat → Nat → Nat) (g g1 : aj_G) (c s : Nat) (w : Int) : Prop := (∀ r, r ≠ 78 → r ≠ 82 → r ≠ 83 → r ≠ 84 → g1 r = g r) ∧ (∀ j, j ≠ 8 → g1 78 j = g 78 j) ∧ g1 78 8 = c + 1 ∧ (∀ x, x ≠ (c : Int) → g1 83 x = g 83 x) ∧ g1 83 c = s ∧ (∀ x, x ≠ (c : Int) → g1 84 x = g 84 x) ∧ g1 84 c = w ∧
  ∀ x : Nat, x < n → (al_k k nx ou s x → g1 82 x = c) ∧ (¬ al_k k nx ou s x → g1 82 x = g 82 x)
theorem td_al {g : aj_G} {k n : Nat} {nx ou : Nat → Nat → Nat} (h : tdm g k n nx ou) {s t : Nat} (hs : s < n) (ht : t < n) : g 81 (8 * (s : Int) + t) = 0 ↔ al_k k nx ou s t := by
  obtain ⟨m', e, -, h1⟩ := h s t hs ht
  rw [e]
  constructor
  · intro z
    rcases h1 with ⟨-, h2⟩ | h2
    · exact h2
    · have := ln_pos h2; omega
  · intro z
    rcases h1 with ⟨h2, -⟩ | h2
    · omega
    · exact (ln_al h2 z).elim
section NBM
variable {g g1 : aj_G} {k n s0 : Nat} {nx ou : Nat → Nat → Nat} {tw sf : Nat → Nat} {q : nb_T}
theorem nbm_tw (htw : tw_ok k n nx ou tw) (hc : ∀ s i, s < n → i < k → nx s i < n) {j m i : Nat} (h : nbm g k n s0 nx ou tw j q sf) (hm : m < q.1) (hi : i < k) : tw (nx (q.2.1 m) i) = tw (nx (sf m) i) := by
  obtain ⟨-, hI, -, h4, -⟩ := h
  obtain ⟨-, s1, s2, -⟩ := h4 m hm
  obtain ⟨m1, m2⟩ := hI.2.2.1 m hm
  have ha : al_k k nx ou (q.2.1 m) (sf m) := (tw_eq htw m1 s1).mp (by rw [m2, s2])
  exact (tw_eq htw (hc _ _ m1 hi) (hc _ _ s1 hi)).mpr (al_next ha hi)
theorem nbm_jk {k m i : Nat} (hi : i < k) : (m * k + i) / k = m ∧ (m * k + i) % k = i := by
  have hk : 0 < k := by omega
  exact ⟨by rw [Nat.mul_comm, Nat.mul_add_div hk, Nat.div_eq_of_lt hi]; rfl, by rw [Nat.mul_comm, Nat.mul_add_mod, Nat.mod_eq_of_lt hi]⟩
theorem nbm_keep (htw : tw_ok k n nx ou tw) (hc : ∀ s i, s < n → i < k → nx s i < n) {m i a : Nat} (h : nbm g k n s0 nx ou tw (m * k + i) q sf) (hm : m < q.1) (hi : i < k) (ha : a < q.1) (he : q.2.1 a = tw (nx (sf m) i)) : nbm g k n s0 nx ou tw (m * k + i + 1) q sf := by
  have ht := nbm_tw htw hc h hm hi
  obtain ⟨e1, e2⟩ := nbm_jk (m := m) hi
  obtain ⟨h1, hI, h3, h4, h5⟩ := h
  have hs := nb_step (by omega) htw hc hI (by rw [e1]; exact hm)
  have hq : nb_st k nx tw (m * k + i) q = q := by
    unfold nb_st
    rw [e1, e2, if_pos (nb_in_iff.mpr ⟨a, ha, by rw [ht]; exact he⟩)]
  rw [hq] at hs
  refine ⟨?_, hs, h3, h4, h5⟩
  show q = nb_st k nx tw (m * k + i) (nb k nx tw s0 (m * k + i))
  rw [← h1, hq]
theorem nbm_add (htw : tw_ok k n nx ou tw) (hc : ∀ s i, s < n → i < k → nx s i < n) {m i : Nat} (h : nbm g k n s0 nx ou tw (m * k + i) q sf) (hm : m < q.1) (hi : i < k) (hno : ∀ a, a < q.1 → q.2.1 a ≠ tw (nx (sf m) i)) (hP : tk_P k n nx ou g g1 q.1 (nx (sf m) i) (wd_cd (i :: ac q m) : Nat)) :
    ∃ q', q'.1 = q.1 + 1 ∧ nbm g1 k n s0 nx ou tw (m * k + i + 1) q' (nb_up sf q.1 (nx (sf m) i)) := by
  have ht := nbm_tw htw hc h hm hi
  obtain ⟨e1, e2⟩ := nbm_jk (m := m) hi
  obtain ⟨h1, hI, h3, h4, h5⟩ := h
  have hs := nb_step (by omega) htw hc hI (by rw [e1]; exact hm)
  have hq : nb_st k nx tw (m * k + i) q = (q.1 + 1, nb_up q.2.1 q.1 (tw (nx (sf m) i)), nb_up q.2.2.1 q.1 m, nb_up q.2.2.2 q.1 i) := by
    unfold nb_st
    rw [e1, e2, ht, if_neg]
    intro z
    obtain ⟨a, ha, he⟩ := nb_in_iff.mp z
    exact hno a ha he
  have hto : nx (sf m) i < n := hc _ _ (h4 m hm).2.1 hi
  refine ⟨(q.1 + 1, nb_up q.2.1 q.1 (tw (nx (sf m) i)), nb_up q.2.2.1 q.1 m, nb_up q.2.2.2 q.1 i), rfl, ?_, by rw [← hq]; exact hs, ?_, fun a ha => ?_, fun x hx => ?_⟩
  · show _ = nb_st k nx tw (m * k + i) (nb k nx tw s0 (m * k + i))
    rw [← h1, hq]
  · rw [hP.2.2.1]; show ((q.1 : Nat) : Int) + 1 = ((q.1 + 1 : Nat) : Int); omega
  · have ha' : a < q.1 + 1 := ha
    have h5' : ∀ a, 0 < a → a < q.1 → q.2.2.1 a < a := fun a h0 ha => (hI.2.2.2.2.1 a h0 ha).1
    have hac : ∀ a, a < q.1 → ac (q.1 + 1, nb_up q.2.1 q.1 (tw (nx (sf m) i)), nb_up q.2.2.1 q.1 m, nb_up q.2.2.2 q.1 i) a = ac q a := ac_up h5' (fun a ha => nb_up_ne _ _ (by omega)) (fun a ha => nb_up_ne _ _ (by omega))
    by_cases e : a = q.1
    · subst e
      refine ⟨by rw [hP.2.2.2.2.1, nb_up_self], by rw [nb_up_self]; exact hto, ?_, ?_⟩
      · show tw (nb_up sf q.1 _ q.1) = nb_up q.2.1 q.1 _ q.1
        rw [nb_up_self, nb_up_self]
      · rw [hP.2.2.2.2.2.2.1]
        have : ac (q.1 + 1, nb_up q.2.1 q.1 (tw (nx (sf m) i)), nb_up q.2.2.1 q.1 m, nb_up q.2.2.2 q.1 i) q.1 = i :: ac q m := by
          rw [ac_s (N := q.1 + 1) (fun a h0 ha => ?_) hI.1 (by omega)]
          · show nb_up q.2.2.2 q.1 i q.1 :: ac _ (nb_up q.2.2.1 q.1 m q.1) = _
            rw [nb_up_self, nb_up_self, hac m hm]
          · show nb_up q.2.2.1 q.1 m a < a
            by_cases e : a = q.1
            · rw [e, nb_up_self]; exact hm
            · rw [nb_up_ne _ _ e]; exact h5' a h0 (by omega)
        rw [this]
    · obtain ⟨f1, f2, f3, f4⟩ := h4 a (by omega)
      refine ⟨by rw [hP.2.2.2.1 _ (by omega), nb_up_ne _ _ e]; exact f1, by rw [nb_up_ne _ _ e]; exact f2, ?_, ?_⟩
      · show tw (nb_up sf q.1 _ a) = nb_up q.2.1 q.1 _ a
        rw [nb_up_ne _ _ e, nb_up_ne _ _ e]; exact f3
      · rw [hP.2.2.2.2.2.1 _ (by omega), hac a (by omega)]; exact f4
  · obtain ⟨p1, p2⟩ := hP.2.2.2.2.2.2.2 x hx
    have hal : al_k k nx ou (nx (sf m) i) x ↔ tw (nx (sf m) i) = tw x := (tw_eq htw hto hx).symm
    refine ⟨fun a ha hq => ?_, fun hn => ?_⟩
    · have ha' : a < q.1 + 1 := ha
      have hq' : nb_up q.2.1 q.1 (tw (nx (sf m) i)) a = tw x := hq
      by_cases e : a = q.1
      · rw [e, nb_up_self] at hq'
        rw [p1 (hal.mpr hq'), e]
      · rw [nb_up_ne _ _ e] at hq'
        rw [p2 (fun z => hno a (by omega) (by rw [hal.mp z]; exact hq')), (h5 x hx).1 a (by omega) hq']
    · have hnx : tw (nx (sf m) i) ≠ tw x := by
        have := hn q.1 (show q.1 < q.1 + 1 by omega)
        rw [show (q.1 + 1, nb_up q.2.1 q.1 (tw (nx (sf m) i)), nb_up q.2.2.1 q.1 m, nb_up q.2.2.2 q.1 i).2.1 q.1 = tw (nx (sf m) i) from nb_up_self _ _ _] at this
        exact this
      rw [p2 (fun z => hnx (hal.mp z)), (h5 x hx).2 (fun a ha z => ?_)]
      have := hn a (show a < q.1 + 1 by omega)
      exact this (by show nb_up q.2.1 q.1 _ a = _; rw [nb_up_ne _ _ (by omega)]; exact z)
end NBM
/-! past its end the numbering stands still -/
theorem nb_far {k : Nat} {nx : Nat → Nat → Nat} {tw : Nat → Nat} {s0 : Nat} : ∀ j x, (nb k nx tw s0 j).1 ≤ x → (nb k nx tw s0 j).2.1 x = tw s0
  | 0, x, _ => rfl
  | j + 1, x, h => by
    have ih := nb_far (k := k) (nx := nx) (tw := tw) (s0 := s0) j x
    show (nb_st k nx tw j (nb k nx tw s0 j)).2.1 x = tw s0
    have h' : (nb_st k nx tw j (nb k nx tw s0 j)).1 ≤ x := h
    unfold nb_st at h' ⊢
    by_cases z : nb_in (nb k nx tw s0 j).1 (nb k nx tw s0 j).2.1 (tw (nx ((nb k nx tw s0 j).2.1 (j / k)) (j % k))) = true
    · rw [if_pos z] at h' ⊢
      exact ih h'
    · rw [if_neg z] at h' ⊢
      have h'' : (nb k nx tw s0 j).1 + 1 ≤ x := h'
      show nb_up _ _ _ x = _
      rw [nb_up_ne _ _ (by omega)]
      exact ih (by omega)
theorem nb_fix {k n : Nat} {nx : Nat → Nat → Nat} {tw : Nat → Nat} {s0 N : Nat} (hk : 0 < k) (hN : (nb k nx tw s0 (N * k)).1 = N) (hI : nb_I k n nx tw s0 (N * k) (nb k nx tw s0 (N * k))) : ∀ e, nb k nx tw s0 (N * k + e) = nb k nx tw s0 (N * k)
  | 0 => rfl
  | e + 1 => by
    have ih := nb_fix hk hN hI e
    show nb_st k nx tw (N * k + e) (nb k nx tw s0 (N * k + e)) = _
    rw [ih]
    have hge : N ≤ (N * k + e) / k := by rw [Nat.le_div_iff_mul_le hk]; omega
    have hfar := nb_far (k := k) (nx := nx) (tw := tw) (s0 := s0) (N * k) ((N * k + e) / k) (by rw [hN]; exact hge)
    unfold nb_st
    rw [hfar, if_pos]
    have hlt : (N * k + e) % k < k := Nat.mod_lt _ hk
    have h0 : 0 < N := by rw [← hN]; exact hI.1
    have hNk : k ≤ N * k := Nat.le_mul_of_pos_left k h0
    obtain ⟨b, b1, b2⟩ := hI.2.2.2.2.2 0 ((N * k + e) % k) hlt (by omega)
    rw [hI.2.1] at b2
    exact nb_in_iff.mpr ⟨b, b1, b2⟩
theorem nb_uniq {k n : Nat} {nx : Nat → Nat → Nat} {tw : Nat → Nat} {s0 N N' : Nat} (hk : 0 < k) (hN : (nb k nx tw s0 (N * k)).1 = N) (hI : nb_I k n nx tw s0 (N * k) (nb k nx tw s0 (N * k))) (hN' : (nb k nx tw s0 (N' * k)).1 = N') (hI' : nb_I k n nx tw s0 (N' * k) (nb k nx tw s0 (N' * k))) : N = N' := by
  rcases Nat.le_total N N' with h | h
  · have e := nb_fix hk hN hI (N' * k - N * k)
    have : N * k ≤ N' * k := Nat.mul_le_mul_right k h
    rw [show N * k + (N' * k - N * k) = N' * k by omega] at e
    rw [← hN', e, hN]
  · have e := nb_fix hk hN' hI' (N * k - N' * k)
    have : N' * k ≤ N * k := Nat.mul_le_mul_right k h
    rw [show N' * k + (N * k - N' * k) = N * k by omega] at e
    rw [← hN, e, hN']
set_option maxHeartbeats 4000000 in
theorem k_take_loop {al : Prop} {X : Option (Nat × (Int → Int))} {d : Nat} {sh : List aj_S} {g : aj_G} {Q : aj_R → List aj_S → aj_G → Prop} {k n : Nat} {nx ou : Nat → Nat → Nat} {c s : Nat} {w : Int} (hT : tdm g k n nx ou) (hc8 : c < 8) (hs : s < n) (hk : ∀ g1, tk_P k n nx ou g g1 c s w → Q (.inl none) sh g1) :
    ∀ (m t : Nat) (g1 : aj_G), t ≤ n → n - t = m → mmm sh g1 k n nx ou → g1 78 8 = (c : Nat) → (∀ r, r ≠ 78 → r ≠ 82 → r ≠ 83 → r ≠ 84 → g1 r = g r) → (∀ j, j ≠ 8 → g1 78 j = g 78 j) → (∀ x, x ≠ (c : Int) → g1 83 x = g 83 x) → g1 83 c = s → (∀ x, x ≠ (c : Int) → g1 84 x = g 84 x) → g1 84 c = w →
      (∀ x : Nat, x < n → (x < t → al_k k nx ou s x → g1 82 x = c) ∧ (x < t → ¬ al_k k nx ou s x → g1 82 x = g 82 x) ∧ (t ≤ x → g1 82 x = g 82 x)) →
    aj_wp nE al al X m_Model_take d 0 0 23 [some (1, 78), some (0, (s : Int)), some (2, w), none, some (0, (t : Int))] [] sh g1 Q := by
  intro m
  induction m using Nat.strongRecOn with
  | ind m ih =>
    intro t g1 ht hmm hM1 hc1 hF hF8 h83 h83c h84 h84c h82
    have hn8 := hM1.2.2.2.2.1
    have h81 : g1 81 = g 81 := hF 81 (by omega) (by omega) (by omega) (by omega)
    refine aj_iload 4 25 (dx d_Model_take 14 rfl) rfl rfl ?_
    refine aj_aload_n 0 26 (dx d_Model_take 15 rfl) rfl rfl rfl ?_
    refine aj_getfv (v := (n : Int)) 29 fl_Model_86 (dx d_Model_take 16 rfl) rfl hM1.1.1 hM1.2.1 ?_
    refine aj_icmp_ge 74 32 (dx d_Model_take 17 rfl) rfl rfl (by unfold aj_I; omega) (by unfold aj_I; omega) (fun h29 => ?_) (fun h29 => ?_)
    · refine aj_aload_n 0 75 (dx d_Model_take 40 rfl) rfl rfl rfl ?_
      refine aj_dup 76 (dx d_Model_take 41 rfl) rfl rfl ?_
      refine aj_getfv (v := (c : Int)) 79 fl_Model_126 (dx d_Model_take 42 rfl) rfl hM1.1.1 hc1 ?_
      refine aj_iconst 80 (dx d_Model_take 43 rfl) rfl ?_
      refine aj_iadd 81 (dx d_Model_take 44 rfl) rfl ?_
      refine aj_putf 84 (pl_Model_126 _) (dx d_Model_take 45 rfl) rfl hM1.1.1 (aj_fitI _) ?_
      refine aj_vret (dx d_Model_take 46 rfl) rfl id ?_
      refine hk _ ⟨fun r h1 h2 h3 h4 => ?_, fun j hj => ?_, by rw [aj_up_self], fun x hx => ?_, ?_, fun x hx => ?_, ?_, fun x hx => ?_⟩
      · rw [aj_up_ne _ _ _ h1]; exact hF r h1 h2 h3 h4
      · rw [aj_up_ni _ _ _ hj]; exact hF8 j hj
      · rw [aj_up_ne _ _ _ (by omega)]; exact h83 x hx
      · rw [aj_up_ne _ _ _ (by omega)]; exact h83c
      · rw [aj_up_ne _ _ _ (by omega)]; exact h84 x hx
      · rw [aj_up_ne _ _ _ (by omega)]; exact h84c
      · rw [aj_up_ne _ _ _ (by omega)]
        obtain ⟨y1, y2, -⟩ := h82 x hx
        exact ⟨y1 (by omega), y2 (by omega)⟩
    · have htn : t < n := by omega
      obtain ⟨m', t1, t2, -⟩ := hT s t hs htn
      have hta := td_al hT hs htn
      obtain ⟨v1, v2, v3⟩ := h82 t htn
      refine aj_aload_n 0 33 (dx d_Model_take 18 rfl) rfl rfl rfl ?_
      refine aj_getfv (v := 82) 36 fl_Model_19 (dx d_Model_take 19 rfl) rfl hM1.1.1 (by first | exact mf_minimalOf hM1.1 | (simp [aj_up_at]; exact mf_minimalOf hM1.1) | exact mf_minimalOf (by assumption)) ?_
      refine aj_iload 4 38 (dx d_Model_take 20 rfl) rfl rfl ?_
      refine aj_aload_n 0 39 (dx d_Model_take 21 rfl) rfl rfl rfl ?_
      refine aj_getfv (v := 81) 42 fl_Model_16 (dx d_Model_take 22 rfl) rfl hM1.1.1 (by first | exact mf_told hM1.1 | (simp [aj_up_at]; exact mf_told hM1.1) | exact mf_told (by assumption)) ?_
      refine aj_bipush 44 (dx d_Model_take 23 rfl) rfl (by decide +kernel) ?_
      refine aj_iload_n 1 45 (dx d_Model_take 24 rfl) rfl rfl rfl ?_
      refine aj_imul 46 (dx d_Model_take 25 rfl) rfl ?_
      refine aj_iload 4 48 (dx d_Model_take 26 rfl) rfl rfl ?_
      refine aj_iadd 49 (dx d_Model_take 27 rfl) rfl ?_
      refine aj_iald 50 (dx d_Model_take 28 rfl) rfl (ms_told hM1.1) rfl (by omega) (by omega) ?_
      rw [h81]
      refine aj_if_ne 60 53 (dx d_Model_take 29 rfl) rfl rfl (by rw [t1]; unfold aj_I; omega) (fun h50 => ?_) (fun h50 => ?_)
      · refine aj_aload_n 0 61 (dx d_Model_take 33 rfl) rfl rfl rfl ?_
        refine aj_getfv (v := 82) 64 fl_Model_19 (dx d_Model_take 34 rfl) rfl hM1.1.1 (by first | exact mf_minimalOf hM1.1 | (simp [aj_up_at]; exact mf_minimalOf hM1.1) | exact mf_minimalOf (by assumption)) ?_
        refine aj_iload 4 66 (dx d_Model_take 35 rfl) rfl rfl ?_
        refine aj_iald 67 (dx d_Model_take 36 rfl) rfl (ms_minimalOf hM1.1) rfl (by omega) (by omega) ?_
        refine aj_iast 68 (dx d_Model_take 37 rfl) rfl (ms_minimalOf hM1.1) rfl (by omega) (by omega) ?_
        refine aj_iinc 4 71 (dx d_Model_take 38 rfl) rfl rfl rfl ?_
        simp only [List.set]
        refine aj_goto 23 (dx d_Model_take 39 rfl) rfl ?_
        rw [show ((t : Nat) : Int) + 1 = ((t + 1 : Nat) : Int) by omega]
        exact ih _ (by omega) (t + 1) _ (by omega) rfl (mmm_of hM1 (fun j hj => by rw [aj_up_ne _ _ _ (by omega)]) (aj_up_ne _ _ _ (by omega)) (aj_up_ne _ _ _ (by omega))) (by rw [aj_up_ne _ _ _ (by omega)]; exact hc1) (fun r h1 h2 h3 h4 => by rw [aj_up_ne _ _ _ h2]; exact hF r h1 h2 h3 h4) (fun j hj => by rw [aj_up_ne _ _ _ (by omega)]; exact hF8 j hj) (fun x hx => by rw [aj_up_ne _ _ _ (by omega)]; exact h83 x hx) (by rw [aj_up_ne _ _ _ (by omega)]; exact h83c) (fun x hx => by rw [aj_up_ne _ _ _ (by omega)]; exact h84 x hx) (by rw [aj_up_ne _ _ _ (by omega)]; exact h84c) (fun x hx => by
          by_cases e : x = t
          · subst e
            rw [aj_up_self]
            exact ⟨fun _ z => absurd (hta.mpr z) (by omega), fun _ _ => v3 (by omega), fun z => absurd z (by omega)⟩
          · rw [aj_up_ni _ _ _ (by omega)]
            obtain ⟨y1, y2, y3⟩ := h82 x hx
            exact ⟨fun z => y1 (by omega), fun z => y2 (by omega), fun z => y3 (by omega)⟩)
      · refine aj_aload_n 0 54 (dx d_Model_take 30 rfl) rfl rfl rfl ?_
        refine aj_getfv (v := (c : Int)) 57 fl_Model_126 (dx d_Model_take 31 rfl) rfl hM1.1.1 hc1 ?_
        refine aj_goto 67 (dx d_Model_take 32 rfl) rfl ?_
        refine aj_iast 68 (dx d_Model_take 37 rfl) rfl (ms_minimalOf hM1.1) rfl (by omega) (by omega) ?_
        refine aj_iinc 4 71 (dx d_Model_take 38 rfl) rfl rfl rfl ?_
        simp only [List.set]
        refine aj_goto 23 (dx d_Model_take 39 rfl) rfl ?_
        rw [show ((t : Nat) : Int) + 1 = ((t + 1 : Nat) : Int) by omega]
        exact ih _ (by omega) (t + 1) _ (by omega) rfl (mmm_of hM1 (fun j hj => by rw [aj_up_ne _ _ _ (by omega)]) (aj_up_ne _ _ _ (by omega)) (aj_up_ne _ _ _ (by omega))) (by rw [aj_up_ne _ _ _ (by omega)]; exact hc1) (fun r h1 h2 h3 h4 => by rw [aj_up_ne _ _ _ h2]; exact hF r h1 h2 h3 h4) (fun j hj => by rw [aj_up_ne _ _ _ (by omega)]; exact hF8 j hj) (fun x hx => by rw [aj_up_ne _ _ _ (by omega)]; exact h83 x hx) (by rw [aj_up_ne _ _ _ (by omega)]; exact h83c) (fun x hx => by rw [aj_up_ne _ _ _ (by omega)]; exact h84 x hx) (by rw [aj_up_ne _ _ _ (by omega)]; exact h84c) (fun x hx => by
          by_cases e : x = t
          · subst e
            rw [aj_up_self]
            exact ⟨fun _ _ => rfl, fun _ z => absurd (hta.mp (by omega)) z, fun z => absurd z (by omega)⟩
          · rw [aj_up_ni _ _ _ (by omega)]
            obtain ⟨y1, y2, y3⟩ := h82 x hx
            exact ⟨fun z => y1 (by omega), fun z => y2 (by omega), fun z => y3 (by omega)⟩)
set_option maxHeartbeats 4000000 in
theorem k_Model_take {al : Prop} {X : Option (Nat × (Int → Int))} {d : Nat} {sh : List aj_S} {g : aj_G} {Q : aj_R → List aj_S → aj_G → Prop} {k n : Nat} {nx ou : Nat → Nat → Nat} {c s : Nat} {w : Int} (hM : mmm sh g k n nx ou) (hT : tdm g k n nx ou) (hc : g 78 8 = (c : Nat)) (hc8 : c < 8) (hs : s < n) (hk : ∀ g1, tk_P k n nx ou g g1 c s w → Q (.inl none) sh g1) :
    aj_wp nE al al X m_Model_take d 0 0 0 [some (1, 78), some (0, (s : Int)), some (2, w), none, none] [] sh g Q := by
  refine aj_aload_n 0 1 (dx d_Model_take 0 rfl) rfl rfl rfl ?_
  refine aj_getfv (v := 83) 4 fl_Model_22 (dx d_Model_take 1 rfl) rfl hM.1.1 (by first | exact mf_stateOf hM.1 | (simp [aj_up_at]; exact mf_stateOf hM.1) | exact mf_stateOf (by assumption)) ?_
  refine aj_aload_n 0 5 (dx d_Model_take 2 rfl) rfl rfl rfl ?_
  refine aj_getfv (v := (c : Int)) 8 fl_Model_126 (dx d_Model_take 3 rfl) rfl hM.1.1 (by first | exact hc | (simp [aj_up_at]; exact hc)) ?_
  refine aj_iload_n 1 9 (dx d_Model_take 4 rfl) rfl rfl rfl ?_
  refine aj_iast 10 (dx d_Model_take 5 rfl) rfl (ms_stateOf hM.1) rfl (by omega) (by omega) ?_
  refine aj_aload_n 0 11 (dx d_Model_take 6 rfl) rfl rfl rfl ?_
  refine aj_getfv (v := 84) 14 fl_Model_25 (dx d_Model_take 7 rfl) rfl hM.1.1 (by first | exact mf_access hM.1 | (simp [aj_up_at]; exact mf_access hM.1) | exact mf_access (by assumption)) ?_
  refine aj_aload_n 0 15 (dx d_Model_take 8 rfl) rfl rfl rfl ?_
  refine aj_getfv (v := (c : Int)) 18 fl_Model_126 (dx d_Model_take 9 rfl) rfl hM.1.1 (by first | exact hc | (simp [aj_up_at]; exact hc)) ?_
  refine aj_lload_n 2 19 (dx d_Model_take 10 rfl) rfl rfl rfl ?_
  refine aj_last 20 (dx d_Model_take 11 rfl) rfl (ms_access hM.1) rfl (by omega) (by omega) ?_
  refine aj_iconst 21 (dx d_Model_take 12 rfl) rfl ?_
  refine aj_istore 4 23 (dx d_Model_take 13 rfl) rfl rfl ?_
  simp only [List.set]
  exact k_take_loop hT hc8 hs hk _ 0 _ (by omega) rfl (mmm_of hM (fun j hj => by simp [aj_up_at]) (by funext j; simp [aj_up_at]) (by funext j; simp [aj_up_at])) (by simp [aj_up_at]; exact hc) (fun r h1 h2 h3 h4 => by rw [aj_up_ne _ _ _ h4, aj_up_ne _ _ _ h3]) (fun j hj => by simp [aj_up_at]) (fun x hx => by simp [aj_up_at, hx]) (by simp [aj_up_at]) (fun x hx => by simp [aj_up_at, hx]) (by simp [aj_up_at]) (fun x hx => ⟨fun z => absurd z (Nat.not_lt_zero _), fun z => absurd z (Nat.not_lt_zero _), fun _ => by simp [aj_up_at]⟩)
def nu_F (g g1 : aj_G) : Prop := (∀ r, r ≠ 78 → r ≠ 82 → r ≠ 83 → r ≠ 84 → g1 r = g r) ∧ ∀ j, j ≠ 8 → g1 78 j = g 78 j
theorem nu_tk {k n c s : Nat} {nx ou : Nat → Nat → Nat} {g g1 g2 : aj_G} {w : Int} (h : nu_F g g1) (h2 : tk_P k n nx ou g1 g2 c s w) : nu_F g g2 := ⟨fun r a b c d => (h2.1 r a b c d).trans (h.1 r a b c d), fun j hj => (h2.2.1 j hj).trans (h.2 j hj)⟩
theorem nu_M {sh : List aj_S} {k n : Nat} {nx ou : Nat → Nat → Nat} {g g1 : aj_G} (hM : mmm sh g k n nx ou) (h : nu_F g g1) : mmm sh g1 k n nx ou := mmm_of hM (fun j hj => h.2 j (by unfold mo_fin at hj; omega)) (h.1 79 (by omega) (by omega) (by omega) (by omega)) (h.1 80 (by omega) (by omega) (by omega) (by omega))
theorem nu_T {k n : Nat} {nx ou : Nat → Nat → Nat} {g g1 : aj_G} (hT : tdm g k n nx ou) (h : nu_F g g1) : tdm g1 k n nx ou := by
  unfold tdm
  rw [h.1 81 (by omega) (by omega) (by omega) (by omega)]
  exact hT
set_option maxHeartbeats 4000000 in
theorem k_nu_in {al : Prop} {X : Option (Nat × (Int → Int))} {d : Nat} {sh : List aj_S} {g : aj_G} {Q : aj_R → List aj_S → aj_G → Prop} {k n : Nat} {nx ou : Nat → Nat → Nat} {s0 : Nat} {tw : Nat → Nat} (hM : mmm sh g k n nx ou) (hT : tdm g k n nx ou) (htw : tw_ok k n nx ou tw) (hcl : ∀ s i, s < n → i < k → nx s i < n) {m : Nat}
    (hgo : ∀ g1 q sf, nu_F g g1 → nbm g1 k n s0 nx ou tw ((m + 1) * k) q sf → m < q.1 → aj_wp nE al al X m_Model_number (d + 1) 0 0 102 [some (1, 78), some (0, (m : Int)), none, none] [] sh g1 Q) :
    ∀ (x i : Nat) (g1 : aj_G) (q : nb_T) (sf : Nat → Nat), i ≤ k → k - i = x → nu_F g g1 → mmm sh g1 k n nx ou → nbm g1 k n s0 nx ou tw (m * k + i) q sf → m < q.1 →
    aj_wp nE al al X m_Model_number (d + 1) 0 0 47 [some (1, 78), some (0, (m : Int)), some (0, (i : Int)), none] [] sh g1 Q := by
  have hk4 := hM.2.2.2.1
  have hn8 := hM.2.2.2.2.1
  intro x
  induction x using Nat.strongRecOn with
  | ind x ih =>
    intro i g1 q sf hi hxx hF hM1 hB hm
    have hqn := nb_le hB.2.1
    refine aj_iload_n 2 48 (dx d_Model_number 28 rfl) rfl rfl rfl ?_
    refine aj_aload_n 0 49 (dx d_Model_number 29 rfl) rfl rfl rfl ?_
    refine aj_getfv (v := (k : Int)) 52 fl_Model_89 (dx d_Model_number 30 rfl) rfl hM1.1.1 hM1.2.2.1 ?_
    refine aj_icmp_ge 102 55 (dx d_Model_number 31 rfl) rfl rfl (by unfold aj_I; omega) (by unfold aj_I; omega) (fun h52 => ?_) (fun h52 => ?_)
    · refine aj_forget 2 ?_
      simp only [List.set]
      have e : i = k := by omega
      subst e
      exact hgo g1 q sf hF (by rw [show (m + 1) * i = m * i + i by rw [Nat.succ_mul]]; exact hB) hm
    · have hik : i < k := by omega
      obtain ⟨s1, s2, s3, s4⟩ := hB.2.2.2.1 m hm
      obtain ⟨e1, e2, e3, e4⟩ := hM1.2.2.2.2.2 (sf m) i s2 hik
      have h5' : ∀ a, 0 < a → a < q.1 → q.2.2.1 a < a := fun a h0 ha => (hB.2.1.2.2.2.2.1 a h0 ha).1
      have hok := ac_ok h5' (fun a h0 ha => (hB.2.1.2.2.2.2.1 a h0 ha).2.1) m hm
      have hlen := ac_len h5' m hm
      have hq8 := nb_le hB.2.1
      have hpb : wd_cd (ac q m) < 2 ^ 60 := wd_lt63 (wd_ok_le (by omega) hok) (by omega)
      have hmo : (∃ a : Nat, a < q.1 ∧ q.2.1 a = tw (nx (sf m) i) ∧ g1 82 ((nx (sf m) i : Nat) : Int) = a) ∨ ((∀ a, a < q.1 → q.2.1 a ≠ tw (nx (sf m) i)) ∧ g1 82 ((nx (sf m) i : Nat) : Int) = -1) := by
        by_cases z : ∃ a, a < q.1 ∧ q.2.1 a = tw (nx (sf m) i)
        · obtain ⟨a, z1, z2⟩ := z
          exact Or.inl ⟨a, z1, z2, (hB.2.2.2.2 _ e3).1 a z1 z2⟩
        · have z' : ∀ a, a < q.1 → q.2.1 a ≠ tw (nx (sf m) i) := fun a h1 h2 => z ⟨a, h1, h2⟩
          exact Or.inr ⟨z', (hB.2.2.2.2 _ e3).2 z'⟩
      refine aj_aload_n 0 56 (dx d_Model_number 32 rfl) rfl rfl rfl ?_
      refine aj_getfv (v := 79) 59 fl_Model_7 (dx d_Model_number 33 rfl) rfl hM1.1.1 (by first | exact mf_next hM1.1 | (simp [aj_up_at]; exact mf_next hM1.1) | exact mf_next (by assumption)) ?_
      refine aj_iconst 60 (dx d_Model_number 34 rfl) rfl ?_
      refine aj_aload_n 0 61 (dx d_Model_number 35 rfl) rfl rfl rfl ?_
      refine aj_getfv (v := 83) 64 fl_Model_22 (dx d_Model_number 36 rfl) rfl hM1.1.1 (by first | exact mf_stateOf hM1.1 | (simp [aj_up_at]; exact mf_stateOf hM1.1) | exact mf_stateOf (by assumption)) ?_
      refine aj_iload_n 1 65 (dx d_Model_number 37 rfl) rfl rfl rfl ?_
      refine aj_iald 66 (dx d_Model_number 38 rfl) rfl (ms_stateOf hM1.1) rfl (by omega) (by omega) ?_
      rw [s1]
      refine aj_imul 67 (dx d_Model_number 39 rfl) rfl ?_
      refine aj_iload_n 2 68 (dx d_Model_number 40 rfl) rfl rfl rfl ?_
      refine aj_iadd 69 (dx d_Model_number 41 rfl) rfl ?_
      refine aj_iald 70 (dx d_Model_number 42 rfl) rfl (ms_next hM1.1) rfl (by omega) (by omega) ?_
      rw [e1]
      refine aj_istore_n 3 71 (dx d_Model_number 43 rfl) rfl rfl rfl ?_
      simp only [List.set]
      refine aj_aload_n 0 72 (dx d_Model_number 44 rfl) rfl rfl rfl ?_
      refine aj_getfv (v := 82) 75 fl_Model_19 (dx d_Model_number 45 rfl) rfl hM1.1.1 (by first | exact mf_minimalOf hM1.1 | (simp [aj_up_at]; exact mf_minimalOf hM1.1) | exact mf_minimalOf (by assumption)) ?_
      refine aj_iload_n 3 76 (dx d_Model_number 46 rfl) rfl rfl rfl ?_
      refine aj_iald 77 (dx d_Model_number 47 rfl) rfl (ms_minimalOf hM1.1) rfl (by omega) (by omega) ?_
      refine aj_if_ge 96 80 (dx d_Model_number 48 rfl) rfl rfl (by rcases hmo with ⟨a, z1, -, z3⟩ | ⟨-, z3⟩ <;> rw [z3] <;> unfold aj_I <;> omega) (fun h77 => ?_) (fun h77 => ?_)
      · refine aj_iinc 2 99 (dx d_Model_number 61 rfl) rfl rfl rfl ?_
        simp only [List.set]
        refine aj_goto 47 (dx d_Model_number 62 rfl) rfl ?_
        obtain ⟨a, z1, z2, -⟩ : ∃ a : Nat, a < q.1 ∧ q.2.1 a = tw (nx (sf m) i) ∧ g1 82 ((nx (sf m) i : Nat) : Int) = a := by
          rcases hmo with z | ⟨-, z⟩
          · exact z
          · omega
        refine aj_forget 3 ?_
        simp only [List.set]
        rw [show ((i : Nat) : Int) + 1 = ((i + 1 : Nat) : Int) by omega]
        exact ih _ (by omega) (i + 1) g1 q sf (by omega) rfl hF hM1 (nbm_keep htw hcl hB hm hik z1 z2) hm
      · have hno2 : ∀ a, a < q.1 → q.2.1 a ≠ tw (nx (sf m) i) := by
          rcases hmo with ⟨a, -, -, z⟩ | ⟨z, -⟩
          · omega
          · exact z
        have hq9 : q.1 < 8 := by
          obtain ⟨e1, e2⟩ := nbm_jk (m := m) hik
          have hs := nb_step (by omega) htw hcl hB.2.1 (by rw [e1]; exact hm)
          have hq : (nb_st k nx tw (m * k + i) q).1 = q.1 + 1 := by
            unfold nb_st
            rw [e1, e2, nbm_tw htw hcl hB hm hik, if_neg]
            intro z
            obtain ⟨a, ha, he⟩ := nb_in_iff.mp z
            exact hno2 a ha he
          have := nb_le hs
          omega
        refine aj_aload_n 0 81 (dx d_Model_number 49 rfl) rfl rfl rfl ?_
        refine aj_iload_n 3 82 (dx d_Model_number 50 rfl) rfl rfl rfl ?_
        refine aj_aload_n 0 83 (dx d_Model_number 51 rfl) rfl rfl rfl ?_
        refine aj_getfv (v := 84) 86 fl_Model_25 (dx d_Model_number 52 rfl) rfl hM1.1.1 (by first | exact mf_access hM1.1 | (simp [aj_up_at]; exact mf_access hM1.1) | exact mf_access (by assumption)) ?_
        refine aj_iload_n 1 87 (dx d_Model_number 53 rfl) rfl rfl rfl ?_
        refine aj_lald 88 (dx d_Model_number 54 rfl) rfl (ms_access hM1.1) rfl (by omega) (by omega) ?_
        rw [s4]
        refine aj_iconst 89 (dx d_Model_number 55 rfl) rfl ?_
        refine aj_lshl 90 (dx d_Model_number 56 rfl) rfl (lg_shl hpb) ?_
        refine aj_iload_n 2 91 (dx d_Model_number 57 rfl) rfl rfl rfl ?_
        refine aj_i2l 92 (dx d_Model_number 58 rfl) rfl (by unfold aj_I; omega) ?_
        refine aj_lor 93 (dx d_Model_number 59 rfl) rfl (lg_or hpb (by omega)) ?_
        rw [show 4 * wd_cd (ac q m) + i = wd_cd (i :: ac q m) from rfl]
        refine aj_callV2 96 cl_Model_129 (dx d_Model_number 60 rfl) rfl rfl rfl rfl rfl rfl hM1.1.1 (k_Model_take hM1 (nu_T hT hF) hB.2.2.1 hq9 e3 (fun g2 hP => ?_))
        change aj_wp _ _ _ _ _ _ _ _ _ _ _ _ _ _
        refine aj_iinc 2 99 (dx d_Model_number 61 rfl) rfl rfl rfl ?_
        simp only [List.set]
        refine aj_goto 47 (dx d_Model_number 62 rfl) rfl ?_
        refine aj_forget 3 ?_
        simp only [List.set]
        rw [show ((i : Nat) : Int) + 1 = ((i + 1 : Nat) : Int) by omega]
        obtain ⟨q2, hq2, hB2⟩ := nbm_add htw hcl hB hm hik hno2 hP
        exact ih _ (by omega) (i + 1) g2 q2 _ (by omega) rfl (nu_tk hF hP) (nu_M hM1 ⟨fun r a b c d => hP.1 r a b c d, hP.2.1⟩) hB2 (by omega)
set_option maxHeartbeats 4000000 in
theorem k_nu_out {al : Prop} {X : Option (Nat × (Int → Int))} {d : Nat} {sh : List aj_S} {g : aj_G} {Q : aj_R → List aj_S → aj_G → Prop} {k n : Nat} {nx ou : Nat → Nat → Nat} {s0 : Nat} {tw : Nat → Nat} (hM : mmm sh g k n nx ou) (hT : tdm g k n nx ou) (htw : tw_ok k n nx ou tw) (hcl : ∀ s i, s < n → i < k → nx s i < n) (hk : ∀ g1 q sf N, nu_F g g1 → nbm g1 k n s0 nx ou tw (N * k) q sf → q.1 = N → Q (.inl none) sh g1) : ∀ (x m : Nat) (g1 : aj_G) (q : nb_T) (sf : Nat → Nat), 8 - m = x → nu_F g g1 → mmm sh g1 k n nx ou → nbm g1 k n s0 nx ou tw (m * k) q sf → m ≤ q.1 →
    aj_wp nE al al X m_Model_number (d + 1) 0 0 37 [some (1, 78), some (0, (m : Int)), none, none] [] sh g1 Q := by
  have hk4 := hM.2.2.2.1
  have hn8 := hM.2.2.2.2.1
  intro x
  induction x using Nat.strongRecOn with
  | ind x ih =>
    intro m g1 q sf hxx hF hM1 hB hm
    have hqn := nb_le hB.2.1
    refine aj_iload_n 1 38 (dx d_Model_number 22 rfl) rfl rfl rfl ?_
    refine aj_aload_n 0 39 (dx d_Model_number 23 rfl) rfl rfl rfl ?_
    refine aj_getfv (v := (q.1 : Int)) 42 fl_Model_126 (dx d_Model_number 24 rfl) rfl hM1.1.1 hB.2.2.1 ?_
    refine aj_icmp_ge 108 45 (dx d_Model_number 25 rfl) rfl rfl (by have := nb_le hB.2.1; unfold aj_I; omega) (by have := nb_le hB.2.1; unfold aj_I; omega) (fun h42 => ?_) (fun h42 => ?_)
    · refine aj_vret (dx d_Model_number 65 rfl) rfl id ?_
      exact hk g1 q sf m hF hB (by omega)
    · refine aj_iconst 46 (dx d_Model_number 26 rfl) rfl ?_
      refine aj_istore_n 2 47 (dx d_Model_number 27 rfl) rfl rfl rfl ?_
      simp only [List.set]
      refine k_nu_in hM1 (nu_T hT hF) htw hcl (fun g2 q2 sf2 hF2 hB2 hm2 => ?_) _ 0 g1 q sf (by omega) rfl ⟨fun _ _ _ _ _ => rfl, fun _ _ => rfl⟩ hM1 (by rw [Nat.add_zero]; exact hB) (by omega)
      have hF3 : nu_F g g2 := ⟨fun r a b c d => (hF2.1 r a b c d).trans (hF.1 r a b c d), fun j hj => (hF2.2 j hj).trans (hF.2 j hj)⟩
      refine aj_iinc 1 105 (dx d_Model_number 63 rfl) rfl rfl rfl ?_
      simp only [List.set]
      refine aj_goto 37 (dx d_Model_number 64 rfl) rfl ?_
      rw [show ((m : Nat) : Int) + 1 = ((m + 1 : Nat) : Int) by omega]
      exact ih (8 - (m + 1)) (by have := nb_le hB2.2.1; omega) (m + 1) g2 q2 sf2 rfl hF3 (nu_M hM hF3) hB2 (by omega)
set_option maxHeartbeats 4000000 in
theorem k_nu_z {al : Prop} {X : Option (Nat × (Int → Int))} {d : Nat} {sh : List aj_S} {g : aj_G} {Q : aj_R → List aj_S → aj_G → Prop} {k n : Nat} {nx ou : Nat → Nat → Nat} {s0 : Nat} {tw : Nat → Nat} (hM : mmm sh g k n nx ou) (hT : tdm g k n nx ou) (htw : tw_ok k n nx ou tw) (hcl : ∀ s i, s < n → i < k → nx s i < n) (hs0 : s0 < n) (hst : g 78 5 = (s0 : Nat)) (hk : ∀ g1 q sf N, nu_F g g1 → nbm g1 k n s0 nx ou tw (N * k) q sf → q.1 = N → Q (.inl none) sh g1) : ∀ (m x : Nat) (g1 : aj_G), x ≤ 8 → 8 - x = m → nu_F g g1 → mmm sh g1 k n nx ou → (∀ y : Nat, y < x → g1 82 (y : Nat) = -1) →
    aj_wp nE al al X m_Model_number (d + 1) 0 0 2 [some (1, 78), some (0, (x : Int)), none, none] [] sh g1 Q := by
  have hn8 := hM.2.2.2.2.1
  intro m
  induction m using Nat.strongRecOn with
  | ind m ih =>
    intro x g1 hx hmm hF hM1 hZ
    have hst1 : g1 78 5 = (s0 : Nat) := (hF.2 5 (by omega)).trans hst
    refine aj_iload_n 1 3 (dx d_Model_number 2 rfl) rfl rfl rfl ?_
    refine aj_bipush 5 (dx d_Model_number 3 rfl) rfl (by decide +kernel) ?_
    refine aj_icmp_ge 21 8 (dx d_Model_number 4 rfl) rfl rfl (by unfold aj_I; omega) (by unfold aj_I; omega) (fun h5 => ?_) (fun h5 => ?_)
    · have hF2 : nu_F g (aj_up g1 78 8 0) := ⟨fun r a b c d => by rw [aj_up_ne _ _ _ a]; exact hF.1 r a b c d, fun j hj => by rw [aj_up_ni _ _ _ hj]; exact hF.2 j hj⟩
      have hM2 : mmm sh (aj_up g1 78 8 0) k n nx ou := nu_M hM hF2
      refine aj_aload_n 0 22 (dx d_Model_number 12 rfl) rfl rfl rfl ?_
      refine aj_iconst 23 (dx d_Model_number 13 rfl) rfl ?_
      refine aj_putf 26 (pl_Model_126 _) (dx d_Model_number 14 rfl) rfl hM1.1.1 (aj_fitI _) ?_
      refine aj_aload_n 0 27 (dx d_Model_number 15 rfl) rfl rfl rfl ?_
      refine aj_aload_n 0 28 (dx d_Model_number 16 rfl) rfl rfl rfl ?_
      refine aj_getfv (v := (s0 : Int)) 31 fl_Model_109 (dx d_Model_number 17 rfl) rfl hM1.1.1 (by first | exact hst1 | (simp [aj_up_at]; exact hst1)) ?_
      refine aj_lconst (x := 1) 32 (dx d_Model_number 18 rfl) rfl rfl ?_
      refine aj_callV2 35 cl_Model_129 (dx d_Model_number 19 rfl) rfl rfl rfl rfl rfl rfl hM1.1.1 (k_Model_take (c := 0) hM2 (nu_T hT hF2) (by rw [aj_up_self]; rfl) (by omega) hs0 (fun g2 hP => ?_))
      change aj_wp _ _ _ _ _ _ _ _ _ _ _ _ _ _
      refine aj_iconst 36 (dx d_Model_number 20 rfl) rfl ?_
      refine aj_istore_n 1 37 (dx d_Model_number 21 rfl) rfl rfl rfl ?_
      simp only [List.set]
      have hF3 := nu_tk hF2 hP
      refine k_nu_out hM hT htw hcl hk _ 0 g2 (nb k nx tw s0 0) (fun _ => s0) rfl hF3 (nu_M hM hF3) ⟨by rw [Nat.zero_mul], by rw [Nat.zero_mul]; exact nb_0 hs0 htw, hP.2.2.1, fun a ha => ?_, fun y hy => ?_⟩ (by omega)
      · have ha' : a < 1 := ha
        rw [show a = 0 by omega]
        exact ⟨hP.2.2.2.2.1, hs0, rfl, hP.2.2.2.2.2.2.1⟩
      · obtain ⟨p1, p2⟩ := hP.2.2.2.2.2.2.2 y hy
        have hal : al_k k nx ou s0 y ↔ tw s0 = tw y := (tw_eq htw hs0 hy).symm
        refine ⟨fun a ha hq => ?_, fun hn => ?_⟩
        · have ha' : a < 1 := ha
          rw [show a = 0 by omega]
          exact p1 (hal.mpr hq)
        · rw [p2 (fun z => hn 0 (show 0 < 1 by omega) (hal.mp z)), aj_up_ne _ _ _ (by omega)]
          exact hZ y (by omega)
    · refine aj_aload_n 0 9 (dx d_Model_number 5 rfl) rfl rfl rfl ?_
      refine aj_getfv (v := 82) 12 fl_Model_19 (dx d_Model_number 6 rfl) rfl hM1.1.1 (by first | exact mf_minimalOf hM1.1 | (simp [aj_up_at]; exact mf_minimalOf hM1.1) | exact mf_minimalOf (by assumption)) ?_
      refine aj_iload_n 1 13 (dx d_Model_number 7 rfl) rfl rfl rfl ?_
      refine aj_iconst 14 (dx d_Model_number 8 rfl) rfl ?_
      refine aj_iast 15 (dx d_Model_number 9 rfl) rfl (ms_minimalOf hM1.1) rfl (by omega) (by omega) ?_
      refine aj_iinc 1 18 (dx d_Model_number 10 rfl) rfl rfl rfl ?_
      simp only [List.set]
      refine aj_goto 2 (dx d_Model_number 11 rfl) rfl ?_
      rw [show ((x : Nat) : Int) + 1 = ((x + 1 : Nat) : Int) by omega]
      exact ih _ (by omega) (x + 1) _ (by omega) rfl ⟨fun r a b c d => by rw [aj_up_ne _ _ _ b]; exact hF.1 r a b c d, fun j hj => by rw [aj_up_ne _ _ _ (by omega)]; exact hF.2 j hj⟩ (mmm_of hM1 (fun j hj => by rw [aj_up_ne _ _ _ (by omega)]) (aj_up_ne _ _ _ (by omega)) (aj_up_ne _ _ _ (by omega))) (fun y hy => by
        by_cases e : y = x
        · subst e; rw [aj_up_self]
        · rw [aj_up_ni _ _ _ (by omega)]; exact hZ y (by omega))
set_option maxHeartbeats 4000000 in
theorem k_Model_number {al : Prop} {X : Option (Nat × (Int → Int))} {d : Nat} {sh : List aj_S} {g : aj_G} {Q : aj_R → List aj_S → aj_G → Prop} {k n : Nat} {nx ou : Nat → Nat → Nat} {s0 : Nat} {tw : Nat → Nat} (hM : mmm sh g k n nx ou) (hT : tdm g k n nx ou) (htw : tw_ok k n nx ou tw) (hcl : ∀ s i, s < n → i < k → nx s i < n) (hs0 : s0 < n) (hst : g 78 5 = (s0 : Nat)) (hk : ∀ g1 q sf N, nu_F g g1 → nbm g1 k n s0 nx ou tw (N * k) q sf → q.1 = N → Q (.inl none) sh g1) : aj_wp nE al al X m_Model_number (d + 1) 0 0 0 [some (1, 78), none, none, none] [] sh g Q := by
  refine aj_iconst 1 (dx d_Model_number 0 rfl) rfl ?_
  refine aj_istore_n 1 2 (dx d_Model_number 1 rfl) rfl rfl rfl ?_
  simp only [List.set]
  exact k_nu_z hM hT htw hcl hs0 hst hk _ 0 g (by omega) rfl ⟨fun _ _ _ _ _ => rfl, fun _ _ => rfl⟩ hM (fun y hy => absurd hy (Nat.not_lt_zero _))
end
section
/-! Model: choose, chooseOwn -/
/-- the numbered states, as the model's family sees them: nx, ou the whole machine, mnx, mou the small one -/
def chH (g : aj_G) (k n : Nat) (nx ou : Nat → Nat → Nat) (N : Nat) (sf : Nat → Nat) (mnx mou : Nat → Nat → Nat) (lw : Nat → Nat → List Nat) : Prop := (∀ a : Nat, a < N → g 83 a = sf a ∧ sf a < n) ∧ g 78 8 = N ∧ (0 < N ∧ N ≤ 8) ∧
  (∀ i j w, i < N → j < N → wd_ok k w → (tl nx ou (sf i) (sf j) w ↔ tl mnx mou i j w)) ∧ (∀ i j, i < N → j < N → i ≠ j → wd_least k nx ou (sf i) nx ou (sf j) (lw i j) ∧ wd_least k mnx mou i mnx mou j (lw i j) ∧ (lw i j).length ≤ 8)
theorem chH_of {g g1 : aj_G} {k n : Nat} {nx ou : Nat → Nat → Nat} {N : Nat} {sf : Nat → Nat} {mnx mou : Nat → Nat → Nat} {lw : Nat → Nat → List Nat} (h : chH g k n nx ou N sf mnx mou lw) (e1 : g1 83 = g 83) (e2 : g1 78 8 = g 78 8) : chH g1 k n nx ou N sf mnx mou lw :=
  ⟨fun a ha => by rw [e1]; exact h.1 a ha, by rw [e2]; exact h.2.1, h.2.2⟩
def famM (g : aj_G) (k c : Nat) (F : Nat → List Nat) : Prop := g 78 12 = c ∧ c ≤ 8 ∧ ∀ w : Nat, w < c → g 85 w = wd_cd (F w) ∧ wd_ok k (F w) ∧ (F w).length ≤ 8
theorem famM_of {g g1 : aj_G} {k c : Nat} {F : Nat → List Nat} (h : famM g k c F) (e1 : g1 78 12 = g 78 12) (e2 : g1 85 = g 85) : famM g1 k c F := ⟨by rw [e1]; exact h.1, h.2.1, fun w hw => by rw [e2]; exact h.2.2 w hw⟩
theorem famM_add {g : aj_G} {k c : Nat} {F : Nat → List Nat} {w : List Nat} (h : famM g k c F) (hc : c < 8) (hw : wd_ok k w) (hl : w.length ≤ 8) : famM (aj_up (aj_up g 85 (c : Nat) (wd_cd w : Nat)) 78 12 ((c : Int) + 1)) k (c + 1) (fm_up F c w) := by
  refine ⟨by rw [aj_up_self]; push_cast; rfl, by omega, fun v hv => ?_⟩
  rw [aj_up_ne _ _ _ (by omega)]
  by_cases e : v = c
  · subst e
    rw [aj_up_self, fm_up_self]
    exact ⟨rfl, hw, hl⟩
  · rw [aj_up_ni _ _ _ (by omega), fm_up_ne _ _ e]
    exact h.2.2 v (by omega)
def mc_F (g g1 : aj_G) : Prop := (∀ r, r ≠ 78 → r ≠ 85 → g1 r = g r) ∧ ∀ j, j ≠ 12 → g1 78 j = g 78 j
theorem mc_M {sh : List aj_S} {k n : Nat} {nx ou : Nat → Nat → Nat} {g g1 : aj_G} (hM : mmm sh g k n nx ou) (h : mc_F g g1) : mmm sh g1 k n nx ou := mmm_of hM (fun j hj => h.2 j (by unfold mo_fin at hj; omega)) (h.1 79 (by omega) (by omega)) (h.1 80 (by omega) (by omega))
theorem mc_T {k n : Nat} {nx ou : Nat → Nat → Nat} {g g1 : aj_G} (hT : tdm g k n nx ou) (h : mc_F g g1) : tdm g1 k n nx ou := by
  unfold tdm
  rw [h.1 81 (by omega) (by omega)]
  exact hT
set_option maxHeartbeats 4000000 in
theorem k_mc_w {al : Prop} {X : Option (Nat × (Int → Int))} {d : Nat} {sh : List aj_S} {g : aj_G} {Q : aj_R → List aj_S → aj_G → Prop} {k n : Nat} {nx ou : Nat → Nat → Nat} {N : Nat} {sf : Nat → Nat} {mnx mou : Nat → Nat → Nat} {lw : Nat → Nat → List Nat} {c i j : Nat} {F : Nat → List Nat} (hM : mmm sh g k n nx ou) (hC : chH g k n nx ou N sf mnx mou lw) (hF : famM g k c F) (hi : i < N) (hj : j < N)
    (hgo1 : (∃ v, v < c ∧ tl mnx mou i j (F v)) → aj_wp nE al al X m_Model_choose (d + 3) 0 0 83 [some (1, 78), some (0, (i : Int)), some (0, (j : Int)), some (0, 1), none] [] sh g Q) (hgo0 : (∀ v, v < c → ¬ tl mnx mou i j (F v)) → aj_wp nE al al X m_Model_choose (d + 3) 0 0 83 [some (1, 78), some (0, (i : Int)), some (0, (j : Int)), some (0, 0), none] [] sh g Q) :
    ∀ (m w : Nat) (x : Int), w ≤ c → c - w = m → ((x = 1 ∧ ∃ v, v < w ∧ tl mnx mou i j (F v)) ∨ (x = 0 ∧ ∀ v, v < w → ¬ tl mnx mou i j (F v))) →
    aj_wp nE al al X m_Model_choose (d + 3) 0 0 32 [some (1, 78), some (0, (i : Int)), some (0, (j : Int)), some (0, x), some (0, (w : Int))] [] sh g Q := by
  have hN8 := hC.2.2.1
  have hc8 := hF.2.1
  intro m
  induction m using Nat.strongRecOn with
  | ind m ih =>
    intro w x hw hmm hx
    refine aj_iload 4 34 (dx d_Model_choose 21 rfl) rfl rfl ?_
    refine aj_aload_n 0 35 (dx d_Model_choose 22 rfl) rfl rfl rfl ?_
    refine aj_getfv (v := (c : Int)) 38 fl_Model_133 (dx d_Model_choose 23 rfl) rfl hM.1.1 (by first | exact hF.1 | (simp [aj_up_at]; exact hF.1)) ?_
    refine aj_icmp_ge 83 41 (dx d_Model_choose 24 rfl) rfl rfl (by unfold aj_I; omega) (by unfold aj_I; omega) (fun h38 => ?_) (fun h38 => ?_)
    · refine aj_forget 4 ?_
      simp only [List.set]
      have e : w = c := by omega
      subst e
      rcases hx with ⟨rfl, h⟩ | ⟨rfl, h⟩
      · exact hgo1 h
      · exact hgo0 h
    · have hwc : w < c := by omega
      obtain ⟨f1, f2, f3⟩ := hF.2.2 w hwc
      refine aj_iload_n 3 42 (dx d_Model_choose 25 rfl) rfl rfl rfl ?_
      refine aj_if_ne 71 45 (dx d_Model_choose 26 rfl) rfl rfl (by rcases hx with ⟨h, -⟩ | ⟨h, -⟩ <;> rw [h] <;> unfold aj_I <;> omega) (fun h42 => ?_) (fun h42 => ?_)
      · have hyes : ∃ v, v < w ∧ tl mnx mou i j (F v) := by
          rcases hx with ⟨-, h⟩ | ⟨h, -⟩
          · exact h
          · omega
        refine aj_iconst 72 (dx d_Model_choose 42 rfl) rfl ?_
        refine aj_goto 76 (dx d_Model_choose 43 rfl) rfl ?_
        refine aj_istore_n 3 77 (dx d_Model_choose 45 rfl) rfl rfl rfl ?_
        simp only [List.set]
        refine aj_iinc 4 80 (dx d_Model_choose 46 rfl) rfl rfl rfl ?_
        simp only [List.set]
        refine aj_goto 32 (dx d_Model_choose 47 rfl) rfl ?_
        have hih := ih _ (by omega) (w + 1) 1 (by omega) rfl (Or.inl ⟨rfl, by obtain ⟨v, y1, y2⟩ := hyes; exact ⟨v, by omega, y2⟩⟩)
        rw [show ((w : Nat) : Int) + 1 = ((w + 1 : Nat) : Int) by omega]
        exact hih
      · have hno : ∀ v, v < w → ¬ tl mnx mou i j (F v) := by
          rcases hx with ⟨h, -⟩ | ⟨-, h⟩
          · omega
          · exact h
        refine aj_aload_n 0 46 (dx d_Model_choose 27 rfl) rfl rfl rfl ?_
        refine aj_aload_n 0 47 (dx d_Model_choose 28 rfl) rfl rfl rfl ?_
        refine aj_getfv (v := 85) 50 fl_Model_29 (dx d_Model_choose 29 rfl) rfl hM.1.1 (by first | exact mf_family hM.1 | (simp [aj_up_at]; exact mf_family hM.1) | exact mf_family (by assumption)) ?_
        refine aj_iload 4 52 (dx d_Model_choose 30 rfl) rfl rfl ?_
        refine aj_lald 53 (dx d_Model_choose 31 rfl) rfl (ms_family hM.1) rfl (by omega) (by omega) ?_
        rw [f1]
        refine aj_aload_n 0 54 (dx d_Model_choose 32 rfl) rfl rfl rfl ?_
        refine aj_getfv (v := 83) 57 fl_Model_22 (dx d_Model_choose 33 rfl) rfl hM.1.1 (by first | exact mf_stateOf hM.1 | (simp [aj_up_at]; exact mf_stateOf hM.1) | exact mf_stateOf (by assumption)) ?_
        refine aj_iload_n 1 58 (dx d_Model_choose 34 rfl) rfl rfl rfl ?_
        refine aj_iald 59 (dx d_Model_choose 35 rfl) rfl (ms_stateOf hM.1) rfl (by omega) (by omega) ?_
        rw [(hC.1 i hi).1]
        refine aj_aload_n 0 60 (dx d_Model_choose 36 rfl) rfl rfl rfl ?_
        refine aj_getfv (v := 83) 63 fl_Model_22 (dx d_Model_choose 37 rfl) rfl hM.1.1 (by first | exact mf_stateOf hM.1 | (simp [aj_up_at]; exact mf_stateOf hM.1) | exact mf_stateOf (by assumption)) ?_
        refine aj_iload_n 2 64 (dx d_Model_choose 38 rfl) rfl rfl rfl ?_
        refine aj_iald 65 (dx d_Model_choose 39 rfl) rfl (ms_stateOf hM.1) rfl (by omega) (by omega) ?_
        rw [(hC.1 j hj).1]
        refine aj_callV3 68 cl_Model_136 (dx d_Model_choose 40 rfl) rfl rfl rfl rfl rfl rfl hM.1.1 (k_Model_tells hM f2 (by omega) (hC.1 i hi).2 (hC.1 j hj).2 (fun ht => ?_) (fun ht => ?_))
        · change aj_wp _ _ _ _ _ _ _ _ _ _ _ _ _ _
          refine aj_if_eq 75 71 (dx d_Model_choose 41 rfl) rfl rfl (by unfold aj_I; omega) (fun h68 => ?_) (fun h68 => ?_)
          · exact absurd h68 (by decide)
          · refine aj_iconst 72 (dx d_Model_choose 42 rfl) rfl ?_
            refine aj_goto 76 (dx d_Model_choose 43 rfl) rfl ?_
            refine aj_istore_n 3 77 (dx d_Model_choose 45 rfl) rfl rfl rfl ?_
            simp only [List.set]
            refine aj_iinc 4 80 (dx d_Model_choose 46 rfl) rfl rfl rfl ?_
            simp only [List.set]
            refine aj_goto 32 (dx d_Model_choose 47 rfl) rfl ?_
            have hih := ih _ (by omega) (w + 1) 1 (by omega) rfl (Or.inl ⟨rfl, w, by omega, (hC.2.2.2.1 i j (F w) hi hj f2).mp ht⟩)
            rw [show ((w : Nat) : Int) + 1 = ((w + 1 : Nat) : Int) by omega]
            exact hih
        · change aj_wp _ _ _ _ _ _ _ _ _ _ _ _ _ _
          refine aj_if_eq 75 71 (dx d_Model_choose 41 rfl) rfl rfl (by unfold aj_I; omega) (fun h68 => ?_) (fun h68 => ?_)
          · refine aj_iconst 76 (dx d_Model_choose 44 rfl) rfl ?_
            have hnt : ¬ tl mnx mou i j (F w) := fun z => ht ((hC.2.2.2.1 i j (F w) hi hj f2).mpr z)
            refine aj_istore_n 3 77 (dx d_Model_choose 45 rfl) rfl rfl rfl ?_
            simp only [List.set]
            refine aj_iinc 4 80 (dx d_Model_choose 46 rfl) rfl rfl rfl ?_
            simp only [List.set]
            refine aj_goto 32 (dx d_Model_choose 47 rfl) rfl ?_
            have hih := ih _ (by omega) (w + 1) 0 (by omega) rfl (Or.inr ⟨rfl, fun v hv => by
              rcases Nat.lt_or_ge v w with z | z
              · exact hno v z
              · rw [show v = w by omega]; exact hnt⟩)
            rw [show ((w : Nat) : Int) + 1 = ((w + 1 : Nat) : Int) by omega]
            exact hih
          · exact absurd rfl h68
set_option maxHeartbeats 4000000 in
theorem k_mc_j {al : Prop} {X : Option (Nat × (Int → Int))} {d : Nat} {sh : List aj_S} {g : aj_G} {Q : aj_R → List aj_S → aj_G → Prop} {k n : Nat} {nx ou : Nat → Nat → Nat} {N : Nat} {sf : Nat → Nat} {mnx mou : Nat → Nat → Nat} {lw : Nat → Nat → List Nat} {i : Nat} (hM : mmm sh g k n nx ou) (hT : tdm g k n nx ou) (hC : chH g k n nx ou N sf mnx mou lw) (hi : i < N)
    (hgo : ∀ g1 q, mc_F g g1 → q = (fm_in (tl mnx mou) lw i (N - (i + 1)) (fm_out (tl mnx mou) lw N i)) → famM g1 k q.1 q.2 → fm_I k N mnx mou q i N → aj_wp nE al al X m_Model_choose (d + 3) 0 0 128 [some (1, 78), some (0, (i : Int)), none, none, none] [] sh g1 Q) :
    ∀ (m j : Nat) (g1 : aj_G) (q : fm_T), i + 1 ≤ j → j ≤ N → N - j = m → mc_F g g1 → q = (fm_in (tl mnx mou) lw i (j - (i + 1)) (fm_out (tl mnx mou) lw N i)) → famM g1 k q.1 q.2 → fm_I k N mnx mou q i j →
    aj_wp nE al al X m_Model_choose (d + 3) 0 0 19 [some (1, 78), some (0, (i : Int)), some (0, (j : Int)), none, none] [] sh g1 Q := by
  have hN8 := hC.2.2.1
  have hk4 := hM.2.2.2.1
  intro m
  induction m using Nat.strongRecOn with
  | ind m ih =>
    intro j g1 q hj1 hjn hmm hF hq hFm hI
    have hM1 := mc_M hM hF
    have hC1 : chH g1 k n nx ou N sf mnx mou lw := chH_of hC (hF.1 83 (by omega) (by omega)) (hF.2 8 (by omega))
    have hq9 := fm_I_le (by omega) hI
    refine aj_iload_n 2 20 (dx d_Model_choose 13 rfl) rfl rfl rfl ?_
    refine aj_aload_n 0 21 (dx d_Model_choose 14 rfl) rfl rfl rfl ?_
    refine aj_getfv (v := (N : Int)) 24 fl_Model_126 (dx d_Model_choose 15 rfl) rfl hM1.1.1 hC1.2.1 ?_
    refine aj_icmp_ge 128 27 (dx d_Model_choose 16 rfl) rfl rfl (by unfold aj_I; omega) (by unfold aj_I; omega) (fun h24 => ?_) (fun h24 => ?_)
    · refine aj_forget 2 ?_
      simp only [List.set]
      have e : j = N := by omega
      subst e
      exact hgo g1 q hF hq hFm hI
    · have hjN : j < N := by omega
      refine aj_iconst 28 (dx d_Model_choose 17 rfl) rfl ?_
      refine aj_istore_n 3 29 (dx d_Model_choose 18 rfl) rfl rfl rfl ?_
      simp only [List.set]
      refine aj_iconst 30 (dx d_Model_choose 19 rfl) rfl ?_
      refine aj_istore 4 32 (dx d_Model_choose 20 rfl) rfl rfl ?_
      simp only [List.set]
      refine k_mc_w hM1 hC1 hFm hi hjN (fun hv => ?_) (fun hv => ?_) _ 0 0 (by omega) rfl (Or.inr ⟨rfl, fun v hv => absurd hv (Nat.not_lt_zero _)⟩)
      · refine aj_iload_n 3 84 (dx d_Model_choose 48 rfl) rfl rfl rfl ?_
        refine aj_if_ne 122 87 (dx d_Model_choose 49 rfl) rfl rfl (by unfold aj_I; omega) (fun h84 => ?_) (fun h84 => ?_)
        · refine aj_iinc 2 125 (dx d_Model_choose 71 rfl) rfl rfl rfl ?_
          simp only [List.set]
          refine aj_goto 19 (dx d_Model_choose 72 rfl) rfl ?_
          obtain ⟨v, hv1, hv2⟩ := hv
          refine aj_forget 3 ?_
          simp only [List.set]
          rw [show ((j : Nat) : Int) + 1 = ((j + 1 : Nat) : Int) by omega]
          have hqe : fm_in (tl mnx mou) lw i (j + 1 - (i + 1)) (fm_out (tl mnx mou) lw N i) = q := by
            rw [show j + 1 - (i + 1) = (j - (i + 1)) + 1 by omega]
            show fm_st (tl mnx mou) lw i (i + 1 + (j - (i + 1))) (fm_in (tl mnx mou) lw i (j - (i + 1)) (fm_out (tl mnx mou) lw N i)) = _
            rw [show i + 1 + (j - (i + 1)) = j by omega, ← hq]
            exact (fm_I_old hI hv1 hv2).1
          exact ih _ (by omega) (j + 1) g1 q (by omega) (by omega) rfl hF hqe.symm hFm (fm_I_old (lw := lw) hI hv1 hv2).2
        · exact absurd h84 (by decide)
      · obtain ⟨l1, l2, l3⟩ := hC.2.2.2.2 i j hi hjN (by omega)
        refine aj_iload_n 3 84 (dx d_Model_choose 48 rfl) rfl rfl rfl ?_
        refine aj_if_ne 122 87 (dx d_Model_choose 49 rfl) rfl rfl (by unfold aj_I; omega) (fun h84 => ?_) (fun h84 => ?_)
        · exact absurd rfl h84
        · refine aj_aload_n 0 88 (dx d_Model_choose 50 rfl) rfl rfl rfl ?_
          refine aj_getfv (v := 85) 91 fl_Model_29 (dx d_Model_choose 51 rfl) rfl hM1.1.1 (by first | exact mf_family hM1.1 | (simp [aj_up_at]; exact mf_family hM1.1) | exact mf_family (by assumption)) ?_
          refine aj_aload_n 0 92 (dx d_Model_choose 52 rfl) rfl rfl rfl ?_
          refine aj_getfv (v := (q.1 : Int)) 95 fl_Model_133 (dx d_Model_choose 53 rfl) rfl hM1.1.1 (by first | exact hFm.1 | (simp [aj_up_at]; exact hFm.1)) ?_
          refine aj_aload_n 0 96 (dx d_Model_choose 54 rfl) rfl rfl rfl ?_
          refine aj_aload_n 0 97 (dx d_Model_choose 55 rfl) rfl rfl rfl ?_
          refine aj_getfv (v := 83) 100 fl_Model_22 (dx d_Model_choose 56 rfl) rfl hM1.1.1 (by first | exact mf_stateOf hM1.1 | (simp [aj_up_at]; exact mf_stateOf hM1.1) | exact mf_stateOf (by assumption)) ?_
          refine aj_iload_n 1 101 (dx d_Model_choose 57 rfl) rfl rfl rfl ?_
          refine aj_iald 102 (dx d_Model_choose 58 rfl) rfl (ms_stateOf hM1.1) rfl (by omega) (by omega) ?_
          rw [(hC1.1 i hi).1]
          refine aj_aload_n 0 103 (dx d_Model_choose 59 rfl) rfl rfl rfl ?_
          refine aj_getfv (v := 83) 106 fl_Model_22 (dx d_Model_choose 60 rfl) rfl hM1.1.1 (by first | exact mf_stateOf hM1.1 | (simp [aj_up_at]; exact mf_stateOf hM1.1) | exact mf_stateOf (by assumption)) ?_
          refine aj_iload_n 2 107 (dx d_Model_choose 61 rfl) rfl rfl rfl ?_
          refine aj_iald 108 (dx d_Model_choose 62 rfl) rfl (ms_stateOf hM1.1) rfl (by omega) (by omega) ?_
          rw [(hC1.1 j hjN).1]
          refine aj_callV2 111 cl_Model_140 (dx d_Model_choose 63 rfl) rfl rfl rfl rfl rfl rfl hM1.1.1 (k_Model_leastWord hM1 (mc_T hT hF) (hC1.1 i hi).2 (hC1.1 j hjN).2 (fun w hw hwl => ?_) (fun hal => ?_))
          · have hwe : w = lw i j := least_uniq (by omega) hw l1
            subst hwe
            have hF2 : mc_F g (aj_up (aj_up g1 85 (q.1 : Nat) (wd_cd (lw i j) : Nat)) 78 12 ((q.1 : Int) + 1)) := ⟨fun r a b => by rw [aj_up_ne _ _ _ a, aj_up_ne _ _ _ b]; exact hF.1 r a b, fun j hj => by rw [aj_up_ni _ _ _ hj, aj_up_ne _ _ _ (by omega)]; exact hF.2 j hj⟩
            change aj_wp _ _ _ _ _ _ _ _ _ _ _ _ _ _
            refine aj_last 112 (dx d_Model_choose 64 rfl) rfl (ms_family hM1.1) rfl (by omega) (by omega) ?_
            refine aj_aload_n 0 113 (dx d_Model_choose 65 rfl) rfl rfl rfl ?_
            refine aj_dup 114 (dx d_Model_choose 66 rfl) rfl rfl ?_
            refine aj_getfv (v := (q.1 : Int)) 117 fl_Model_133 (dx d_Model_choose 67 rfl) rfl hM1.1.1 (by first | exact hFm.1 | (simp [aj_up_at]; exact hFm.1)) ?_
            refine aj_iconst 118 (dx d_Model_choose 68 rfl) rfl ?_
            refine aj_iadd 119 (dx d_Model_choose 69 rfl) rfl ?_
            refine aj_putf 122 (pl_Model_133 _) (dx d_Model_choose 70 rfl) rfl hM1.1.1 (aj_fitI _) ?_
            refine aj_iinc 2 125 (dx d_Model_choose 71 rfl) rfl rfl rfl ?_
            simp only [List.set]
            refine aj_goto 19 (dx d_Model_choose 72 rfl) rfl ?_
            refine aj_forget 3 ?_
            simp only [List.set]
            rw [show ((j : Nat) : Int) + 1 = ((j + 1 : Nat) : Int) by omega]
            have hqe : fm_in (tl mnx mou) lw i (j + 1 - (i + 1)) (fm_out (tl mnx mou) lw N i) = (q.1 + 1, fm_up q.2 q.1 (lw i j)) := by
              rw [show j + 1 - (i + 1) = (j - (i + 1)) + 1 by omega]
              show fm_st (tl mnx mou) lw i (i + 1 + (j - (i + 1))) (fm_in (tl mnx mou) lw i (j - (i + 1)) (fm_out (tl mnx mou) lw N i)) = _
              rw [show i + 1 + (j - (i + 1)) = j by omega, ← hq]
              exact (fm_I_new hI (by omega) hjN hv l2 (by omega)).1
            exact ih _ (by omega) (j + 1) _ (q.1 + 1, fm_up q.2 q.1 (lw i j)) (by omega) (by omega) rfl hF2 hqe.symm (famM_add hFm (by omega) l2.1 l3) (fm_I_new hI (by omega) hjN hv l2 (by omega)).2
          · exact (l1.2.1 |> fun z => (hal _ l1.1 z)).elim
set_option maxHeartbeats 4000000 in
theorem k_mc_i {al : Prop} {X : Option (Nat × (Int → Int))} {d : Nat} {sh : List aj_S} {g : aj_G} {Q : aj_R → List aj_S → aj_G → Prop} {k n : Nat} {nx ou : Nat → Nat → Nat} {N : Nat} {sf : Nat → Nat} {mnx mou : Nat → Nat → Nat} {lw : Nat → Nat → List Nat} (hM : mmm sh g k n nx ou) (hT : tdm g k n nx ou) (hC : chH g k n nx ou N sf mnx mou lw)
    (hgo : ∀ g1, mc_F g g1 → famM g1 k (fm_out (tl mnx mou) lw N N).1 (fm_out (tl mnx mou) lw N N).2 → fm_I k N mnx mou (fm_out (tl mnx mou) lw N N) N (N + 1) → aj_wp nE al al X m_Model_choose (d + 3) 0 0 134 [some (1, 78), none, none, none, none] [] sh g1 Q) :
    ∀ (m i : Nat) (g1 : aj_G) (q : fm_T), i ≤ N → N - i = m → mc_F g g1 → q = fm_out (tl mnx mou) lw N i → famM g1 k q.1 q.2 → fm_I k N mnx mou q i (i + 1) →
    aj_wp nE al al X m_Model_choose (d + 3) 0 0 7 [some (1, 78), some (0, (i : Int)), none, none, none] [] sh g1 Q := by
  have hN8 := hC.2.2.1
  intro m
  induction m using Nat.strongRecOn with
  | ind m ih =>
    intro i g1 q hin hmm hF hq hFm hI
    have hM1 := mc_M hM hF
    have hC1 : chH g1 k n nx ou N sf mnx mou lw := chH_of hC (hF.1 83 (by omega) (by omega)) (hF.2 8 (by omega))
    refine aj_iload_n 1 8 (dx d_Model_choose 5 rfl) rfl rfl rfl ?_
    refine aj_aload_n 0 9 (dx d_Model_choose 6 rfl) rfl rfl rfl ?_
    refine aj_getfv (v := (N : Int)) 12 fl_Model_126 (dx d_Model_choose 7 rfl) rfl hM1.1.1 hC1.2.1 ?_
    refine aj_icmp_ge 134 15 (dx d_Model_choose 8 rfl) rfl rfl (by unfold aj_I; omega) (by unfold aj_I; omega) (fun h12 => ?_) (fun h12 => ?_)
    · refine aj_forget 1 ?_
      simp only [List.set]
      have e : i = N := by omega
      subst e
      exact hgo g1 hF (by rw [← hq]; exact hFm) (by rw [← hq]; exact hI)
    · refine aj_iload_n 1 16 (dx d_Model_choose 9 rfl) rfl rfl rfl ?_
      refine aj_iconst 17 (dx d_Model_choose 10 rfl) rfl ?_
      refine aj_iadd 18 (dx d_Model_choose 11 rfl) rfl ?_
      refine aj_istore_n 2 19 (dx d_Model_choose 12 rfl) rfl rfl rfl ?_
      simp only [List.set]
      have e1 : ((i : Nat) : Int) + 1 = ((i + 1 : Nat) : Int) := by omega
      rw [e1]
      refine k_mc_j hM1 (mc_T hT hF) hC1 (show i < N by omega) (fun g2 q2 hF2 hq2 hFm2 hI2 => ?_) _ (i + 1) g1 q (Nat.le_refl _) (by omega) rfl ⟨fun _ _ _ => rfl, fun _ _ => rfl⟩ (by rw [Nat.sub_self]; exact hq) hFm hI
      have hF3 : mc_F g g2 := ⟨fun r a b => (hF2.1 r a b).trans (hF.1 r a b), fun j hj => (hF2.2 j hj).trans (hF.2 j hj)⟩
      refine aj_iinc 1 131 (dx d_Model_choose 73 rfl) rfl rfl rfl ?_
      simp only [List.set]
      refine aj_goto 7 (dx d_Model_choose 74 rfl) rfl ?_
      rw [show ((i : Nat) : Int) + 1 = ((i + 1 : Nat) : Int) by omega]
      exact ih _ (by omega) (i + 1) g2 q2 (by omega) rfl hF3 (by rw [hq2, show N - (i + 1) = N - 1 - i by omega]; rfl) hFm2 (fm_I_row hI2)
def oatM (g : aj_G) (i : Nat) (o : ow_T) : Prop := g 86 i = o.1 ∧ ∀ v : Nat, v < o.1 → g 87 (8 * (i : Int) + v) = o.2 v
def mo_F (g g1 : aj_G) (i : Nat) : Prop := (∀ r, r ≠ 86 → r ≠ 87 → g1 r = g r) ∧ (∀ x, x ≠ (i : Int) → g1 86 x = g 86 x) ∧ ∀ x, x < 8 * (i : Int) ∨ 8 * (i : Int) + 8 ≤ x → g1 87 x = g 87 x
theorem mo_M {sh : List aj_S} {k n i : Nat} {nx ou : Nat → Nat → Nat} {g g1 : aj_G} (hM : mmm sh g k n nx ou) (h : mo_F g g1 i) : mmm sh g1 k n nx ou := mmm_of hM (fun j _ => by rw [h.1 78 (by omega) (by omega)]) (h.1 79 (by omega) (by omega)) (h.1 80 (by omega) (by omega))
set_option maxHeartbeats 4000000 in
theorem k_mo_2 {al : Prop} {X : Option (Nat × (Int → Int))} {d : Nat} {sh : List aj_S} {g : aj_G} {Q : aj_R → List aj_S → aj_G → Prop} {k n : Nat} {nx ou : Nat → Nat → Nat} {N : Nat} {sf : Nat → Nat} {mnx mou : Nat → Nat → Nat} {lw : Nat → Nat → List Nat} {c i j : Nat} {F : Nat → List Nat} {w : ow_T} (hM : mmm sh g k n nx ou) (hC : chH g k n nx ou N sf mnx mou lw) (hF : famM g k c F) (hi : i < N) (hj : j < N) (hcov : i ≠ j → ∃ v, v < c ∧ tl mnx mou i j (F v)) (ho : oatM g i w) (hoj : w.1 ≤ j) (hoc : ∀ v, v < w.1 → w.2 v < c) (hij : ¬ i = j) (hnv : ∀ v, v < w.1 → ¬ tl mnx mou i j (F (w.2 v)))
    (hgo : ∀ g1, mo_F g g1 i → oatM g1 i (ow_st (tl mnx mou) F c i j w) → ∀ x : Int, aj_I x → aj_wp nE al al X m_Model_chooseOwn (d + 3) 0 0 80 [some (1, 78), some (0, (i : Int)), some (0, (j : Int)), some (0, 1), some (0, x)] [] sh g1 Q) :
    ∀ (m v : Nat), v ≤ c → c - v = m → (∀ y, y < v → ¬ tl mnx mou i j (F y)) →
    aj_wp nE al al X m_Model_chooseOwn (d + 3) 0 0 80 [some (1, 78), some (0, (i : Int)), some (0, (j : Int)), some (0, 0), some (0, (v : Int))] [] sh g Q := by
  have hN8 := hC.2.2.1
  have hc8 := hF.2.1
  intro m
  induction m using Nat.strongRecOn with
  | ind m ih =>
    intro v hv hmm hno
    refine aj_iload 4 82 (dx d_Model_chooseOwn 47 rfl) rfl rfl ?_
    refine aj_aload_n 0 83 (dx d_Model_chooseOwn 48 rfl) rfl rfl rfl ?_
    refine aj_getfv (v := (c : Int)) 86 fl_Model_133 (dx d_Model_chooseOwn 49 rfl) rfl hM.1.1 (by first | exact hF.1 | (simp [aj_up_at]; exact hF.1)) ?_
    refine aj_icmp_ge 155 89 (dx d_Model_chooseOwn 50 rfl) rfl rfl (by unfold aj_I; omega) (by unfold aj_I; omega) (fun h86 => ?_) (fun h86 => ?_)
    · obtain ⟨y, y1, y2⟩ := hcov hij
      exact (hno y (by omega) y2).elim
    · have hvc : v < c := by omega
      obtain ⟨f1, f2, f3⟩ := hF.2.2 v hvc
      refine aj_iload_n 3 90 (dx d_Model_chooseOwn 51 rfl) rfl rfl rfl ?_
      refine aj_if_ne 155 93 (dx d_Model_chooseOwn 52 rfl) rfl rfl (by unfold aj_I; omega) (fun h90 => ?_) (fun h90 => ?_)
      · exact absurd rfl h90
      · refine aj_aload_n 0 94 (dx d_Model_chooseOwn 53 rfl) rfl rfl rfl ?_
        refine aj_aload_n 0 95 (dx d_Model_chooseOwn 54 rfl) rfl rfl rfl ?_
        refine aj_getfv (v := 85) 98 fl_Model_29 (dx d_Model_chooseOwn 55 rfl) rfl hM.1.1 (by first | exact mf_family hM.1 | (simp [aj_up_at]; exact mf_family hM.1) | exact mf_family (by assumption)) ?_
        refine aj_iload 4 100 (dx d_Model_chooseOwn 56 rfl) rfl rfl ?_
        refine aj_lald 101 (dx d_Model_chooseOwn 57 rfl) rfl (ms_family hM.1) rfl (by omega) (by omega) ?_
        rw [f1]
        refine aj_aload_n 0 102 (dx d_Model_chooseOwn 58 rfl) rfl rfl rfl ?_
        refine aj_getfv (v := 83) 105 fl_Model_22 (dx d_Model_chooseOwn 59 rfl) rfl hM.1.1 (by first | exact mf_stateOf hM.1 | (simp [aj_up_at]; exact mf_stateOf hM.1) | exact mf_stateOf (by assumption)) ?_
        refine aj_iload_n 1 106 (dx d_Model_chooseOwn 60 rfl) rfl rfl rfl ?_
        refine aj_iald 107 (dx d_Model_chooseOwn 61 rfl) rfl (ms_stateOf hM.1) rfl (by omega) (by omega) ?_
        rw [(hC.1 i hi).1]
        refine aj_aload_n 0 108 (dx d_Model_chooseOwn 62 rfl) rfl rfl rfl ?_
        refine aj_getfv (v := 83) 111 fl_Model_22 (dx d_Model_chooseOwn 63 rfl) rfl hM.1.1 (by first | exact mf_stateOf hM.1 | (simp [aj_up_at]; exact mf_stateOf hM.1) | exact mf_stateOf (by assumption)) ?_
        refine aj_iload_n 2 112 (dx d_Model_chooseOwn 64 rfl) rfl rfl rfl ?_
        refine aj_iald 113 (dx d_Model_chooseOwn 65 rfl) rfl (ms_stateOf hM.1) rfl (by omega) (by omega) ?_
        rw [(hC.1 j hj).1]
        refine aj_callV3 116 cl_Model_136 (dx d_Model_chooseOwn 66 rfl) rfl rfl rfl rfl rfl rfl hM.1.1 (k_Model_tells hM f2 (by omega) (hC.1 i hi).2 (hC.1 j hj).2 (fun ht => ?_) (fun ht => ?_))
        · change aj_wp _ _ _ _ _ _ _ _ _ _ _ _ _ _
          refine aj_if_eq 149 119 (dx d_Model_chooseOwn 67 rfl) rfl rfl (by unfold aj_I; omega) (fun h116 => ?_) (fun h116 => ?_)
          · exact absurd h116 (by decide)
          · refine aj_aload_n 0 120 (dx d_Model_chooseOwn 68 rfl) rfl rfl rfl ?_
            refine aj_getfv (v := 87) 123 fl_Model_35 (dx d_Model_chooseOwn 69 rfl) rfl hM.1.1 (by first | exact mf_own hM.1 | (simp [aj_up_at]; exact mf_own hM.1) | exact mf_own (by assumption)) ?_
            refine aj_bipush 125 (dx d_Model_chooseOwn 70 rfl) rfl (by decide +kernel) ?_
            refine aj_iload_n 1 126 (dx d_Model_chooseOwn 71 rfl) rfl rfl rfl ?_
            refine aj_imul 127 (dx d_Model_chooseOwn 72 rfl) rfl ?_
            refine aj_aload_n 0 128 (dx d_Model_chooseOwn 73 rfl) rfl rfl rfl ?_
            refine aj_getfv (v := 86) 131 fl_Model_32 (dx d_Model_chooseOwn 74 rfl) rfl hM.1.1 (by first | exact mf_owns hM.1 | (simp [aj_up_at]; exact mf_owns hM.1) | exact mf_owns (by assumption)) ?_
            refine aj_iload_n 1 132 (dx d_Model_chooseOwn 75 rfl) rfl rfl rfl ?_
            refine aj_iald 133 (dx d_Model_chooseOwn 76 rfl) rfl (ms_owns hM.1) rfl (by omega) (by omega) ?_
            rw [ho.1]
            refine aj_iadd 134 (dx d_Model_chooseOwn 77 rfl) rfl ?_
            refine aj_iload 4 136 (dx d_Model_chooseOwn 78 rfl) rfl rfl ?_
            refine aj_iast 137 (dx d_Model_chooseOwn 79 rfl) rfl (ms_own hM.1) rfl (by omega) (by omega) ?_
            refine aj_aload_n 0 138 (dx d_Model_chooseOwn 80 rfl) rfl rfl rfl ?_
            refine aj_getfv (v := 86) 141 fl_Model_32 (dx d_Model_chooseOwn 81 rfl) rfl hM.1.1 (by first | exact mf_owns hM.1 | (simp [aj_up_at]; exact mf_owns hM.1) | exact mf_owns (by assumption)) ?_
            refine aj_iload_n 1 142 (dx d_Model_chooseOwn 82 rfl) rfl rfl rfl ?_
            refine aj_dup2 143 (dx d_Model_chooseOwn 83 rfl) rfl rfl rfl ?_
            refine aj_iald 144 (dx d_Model_chooseOwn 84 rfl) rfl (ms_owns hM.1) rfl (by omega) (by omega) ?_
            rw [show aj_up g 87 (8 * (i : Int) + (w.1 : Int)) (v : Int) 86 (i : Int) = (w.1 : Nat) by rw [aj_up_ne _ _ _ (by omega)]; exact ho.1]
            refine aj_iconst 145 (dx d_Model_chooseOwn 85 rfl) rfl ?_
            refine aj_iadd 146 (dx d_Model_chooseOwn 86 rfl) rfl ?_
            refine aj_iast 147 (dx d_Model_chooseOwn 87 rfl) rfl (ms_owns hM.1) rfl (by omega) (by omega) ?_
            refine aj_iconst 148 (dx d_Model_chooseOwn 88 rfl) rfl ?_
            refine aj_istore_n 3 149 (dx d_Model_chooseOwn 89 rfl) rfl rfl rfl ?_
            simp only [List.set]
            refine aj_iinc 4 152 (dx d_Model_chooseOwn 90 rfl) rfl rfl rfl ?_
            simp only [List.set]
            refine aj_goto 80 (dx d_Model_chooseOwn 91 rfl) rfl ?_
            have ht2 := (hC.2.2.2.1 i j (F v) hi hj f2).mp ht
            refine hgo _ ?_ ?_ _ (by unfold aj_I; omega)
            · exact ⟨fun r a b => by rw [aj_up_ne _ _ _ a, aj_up_ne _ _ _ b], fun x hx => by rw [aj_up_ni _ _ _ hx, aj_up_ne _ _ _ (by omega)], fun x hx => by rw [aj_up_ne _ _ _ (by omega), aj_up_ni _ _ _ (by omega)]⟩
            · have hst : ow_st (tl mnx mou) F c i j w = (w.1 + 1, nb_up w.2 w.1 v) := by
                unfold ow_st
                rw [if_neg (by
                  rintro (z | ⟨y, z1, z2⟩)
                  · exact hij z
                  · exact hnv y z1 z2), fwd_eq hvc ht2 hno]
              rw [hst]
              refine ⟨by rw [aj_up_self]; push_cast; rfl, fun y hy => ?_⟩
              have hy' : y < w.1 + 1 := hy
              rw [aj_up_ne _ _ _ (by omega)]
              by_cases e : y = w.1
              · rw [e, aj_up_self]
                show (v : Int) = (nb_up w.2 w.1 v w.1 : Nat)
                rw [nb_up_self]
              · rw [aj_up_ni _ _ _ (by omega)]
                show g 87 (8 * (i : Int) + y) = (nb_up w.2 w.1 v y : Nat)
                rw [nb_up_ne _ _ e]
                exact ho.2 y (by omega)
        · change aj_wp _ _ _ _ _ _ _ _ _ _ _ _ _ _
          refine aj_if_eq 149 119 (dx d_Model_chooseOwn 67 rfl) rfl rfl (by unfold aj_I; omega) (fun h116 => ?_) (fun h116 => ?_)
          · refine aj_iinc 4 152 (dx d_Model_chooseOwn 90 rfl) rfl rfl rfl ?_
            simp only [List.set]
            refine aj_goto 80 (dx d_Model_chooseOwn 91 rfl) rfl ?_
            have hih := ih _ (by omega) (v + 1) (by omega) rfl (fun y hy => by
              rcases Nat.lt_or_ge y v with z | z
              · exact hno y z
              · rw [show y = v by omega]; exact fun z => ht ((hC.2.2.2.1 i j (F v) hi hj f2).mpr z))
            rw [show ((v : Nat) : Int) + 1 = ((v + 1 : Nat) : Int) by omega]
            exact hih
          · exact absurd rfl h116
set_option maxHeartbeats 4000000 in
theorem k_mo_end {al : Prop} {X : Option (Nat × (Int → Int))} {d : Nat} {sh : List aj_S} {g : aj_G} {Q : aj_R → List aj_S → aj_G → Prop} {i j x : Int} (hm1 : mos sh g) (hx : aj_I x) (hc : aj_I (g 78 12)) (hk : Q (.inl none) sh g) : aj_wp nE al al X m_Model_chooseOwn d 0 0 80 [some (1, 78), some (0, i), some (0, j), some (0, 1), some (0, x)] [] sh g Q := by
  refine aj_iload 4 82 (dx d_Model_chooseOwn 47 rfl) rfl rfl ?_
  refine aj_aload_n 0 83 (dx d_Model_chooseOwn 48 rfl) rfl rfl rfl ?_
  refine aj_getf 86 fl_Model_133 (dx d_Model_chooseOwn 49 rfl) rfl hm1.1 ?_
  refine aj_icmp_ge 155 89 (dx d_Model_chooseOwn 50 rfl) rfl rfl hx hc (fun h86 => ?_) (fun h86 => ?_)
  · refine aj_vret (dx d_Model_chooseOwn 92 rfl) rfl id ?_
    exact hk
  · refine aj_iload_n 3 90 (dx d_Model_chooseOwn 51 rfl) rfl rfl rfl ?_
    refine aj_if_ne 155 93 (dx d_Model_chooseOwn 52 rfl) rfl rfl (by unfold aj_I; omega) (fun h90 => ?_) (fun h90 => ?_)
    · refine aj_vret (dx d_Model_chooseOwn 92 rfl) rfl id ?_
      exact hk
    · exact absurd h90 (by decide)
set_option maxHeartbeats 4000000 in
theorem k_mo_1 {al : Prop} {X : Option (Nat × (Int → Int))} {d : Nat} {sh : List aj_S} {g : aj_G} {Q : aj_R → List aj_S → aj_G → Prop} {k n : Nat} {nx ou : Nat → Nat → Nat} {N : Nat} {sf : Nat → Nat} {mnx mou : Nat → Nat → Nat} {lw : Nat → Nat → List Nat} {c i j : Nat} {F : Nat → List Nat} {w : ow_T} (hM : mmm sh g k n nx ou) (hC : chH g k n nx ou N sf mnx mou lw) (hF : famM g k c F) (hi : i < N) (hj : j < N) (hcov : i ≠ j → ∃ v, v < c ∧ tl mnx mou i j (F v)) (ho : oatM g i w) (hoj : w.1 ≤ j) (hoc : ∀ v, v < w.1 → w.2 v < c) (hk : ∀ g1, mo_F g g1 i → oatM g1 i (ow_st (tl mnx mou) F c i j w) → Q (.inl none) sh g1) :
    ∀ (m v : Nat) (x : Int), v ≤ w.1 → w.1 - v = m → ((x = 1 ∧ (i = j ∨ ∃ y, y < v ∧ tl mnx mou i j (F (w.2 y)))) ∨ (x = 0 ∧ (¬ i = j) ∧ ∀ y, y < v → ¬ tl mnx mou i j (F (w.2 y)))) →
    aj_wp nE al al X m_Model_chooseOwn (d + 3) 0 0 14 [some (1, 78), some (0, (i : Int)), some (0, (j : Int)), some (0, x), some (0, (v : Int))] [] sh g Q := by
  have hN8 := hC.2.2.1
  have hc8 := hF.2.1
  intro m
  induction m using Nat.strongRecOn with
  | ind m ih =>
    intro v x hv hmm hx
    refine aj_iload 4 16 (dx d_Model_chooseOwn 9 rfl) rfl rfl ?_
    refine aj_aload_n 0 17 (dx d_Model_chooseOwn 10 rfl) rfl rfl rfl ?_
    refine aj_getfv (v := 86) 20 fl_Model_32 (dx d_Model_chooseOwn 11 rfl) rfl hM.1.1 (by first | exact mf_owns hM.1 | (simp [aj_up_at]; exact mf_owns hM.1) | exact mf_owns (by assumption)) ?_
    refine aj_iload_n 1 21 (dx d_Model_chooseOwn 12 rfl) rfl rfl rfl ?_
    refine aj_iald 22 (dx d_Model_chooseOwn 13 rfl) rfl (ms_owns hM.1) rfl (by omega) (by omega) ?_
    rw [ho.1]
    refine aj_icmp_ge 77 25 (dx d_Model_chooseOwn 14 rfl) rfl rfl (by unfold aj_I; omega) (by unfold aj_I; omega) (fun h22 => ?_) (fun h22 => ?_)
    · refine aj_iconst 78 (dx d_Model_chooseOwn 45 rfl) rfl ?_
      refine aj_istore 4 80 (dx d_Model_chooseOwn 46 rfl) rfl rfl ?_
      simp only [List.set]
      have e : v = w.1 := by omega
      subst e
      rcases hx with ⟨rfl, h⟩ | ⟨rfl, hne, h⟩
      · refine k_mo_end hM.1 (by unfold aj_I; omega) (by rw [hF.1]; unfold aj_I; omega) (hk g ⟨fun _ _ _ => rfl, fun _ _ => rfl, fun _ _ => rfl⟩ ?_)
        have hst : ow_st (tl mnx mou) F c i j w = w := by unfold ow_st; rw [if_pos h]
        rw [hst]
        exact ho
      · refine k_mo_2 hM hC hF hi hj hcov ho hoj hoc hne h (fun g1 hF1 ho1 x hxx => ?_) _ 0 (by omega) rfl (fun y hy => absurd hy (Nat.not_lt_zero _))
        exact k_mo_end (mo_M hM hF1).1 hxx (by rw [hF1.1 78 (by omega) (by omega), hF.1]; unfold aj_I; omega) (hk g1 hF1 ho1)
    · have hvw : v < w.1 := by omega
      have hvc := hoc v hvw
      obtain ⟨f1, f2, f3⟩ := hF.2.2 (w.2 v) hvc
      refine aj_iload_n 3 26 (dx d_Model_chooseOwn 15 rfl) rfl rfl rfl ?_
      refine aj_if_ne 65 29 (dx d_Model_chooseOwn 16 rfl) rfl rfl (by rcases hx with ⟨h, -⟩ | ⟨h, -⟩ <;> rw [h] <;> unfold aj_I <;> omega) (fun h26 => ?_) (fun h26 => ?_)
      · have hyes : i = j ∨ ∃ y, y < v ∧ tl mnx mou i j (F (w.2 y)) := by
          rcases hx with ⟨-, h⟩ | ⟨h, -⟩
          · exact h
          · omega
        refine aj_iconst 66 (dx d_Model_chooseOwn 39 rfl) rfl ?_
        refine aj_goto 70 (dx d_Model_chooseOwn 40 rfl) rfl ?_
        have hlt : w.1 - (v + 1) < m := by clear hyes hx; omega
        have hle : v + 1 ≤ w.1 := by clear hyes hx; omega
        refine aj_istore_n 3 71 (dx d_Model_chooseOwn 42 rfl) rfl rfl rfl ?_
        simp only [List.set]
        refine aj_iinc 4 74 (dx d_Model_chooseOwn 43 rfl) rfl rfl rfl ?_
        simp only [List.set]
        refine aj_goto 14 (dx d_Model_chooseOwn 44 rfl) rfl ?_
        have hih := ih _ hlt (v + 1) 1 hle rfl (Or.inl ⟨rfl, by
          rcases hyes with z | ⟨y, y1, y2⟩
          · exact Or.inl z
          · exact Or.inr ⟨y, Nat.lt_succ_of_lt y1, y2⟩⟩)
        rw [show ((v : Nat) : Int) + 1 = ((v + 1 : Nat) : Int) from rfl]
        exact hih
      · obtain ⟨hne, hno⟩ : (¬ i = j) ∧ ∀ y, y < v → ¬ tl mnx mou i j (F (w.2 y)) := by
          rcases hx with ⟨h, -⟩ | ⟨-, h⟩
          · omega
          · exact h
        refine aj_aload_n 0 30 (dx d_Model_chooseOwn 17 rfl) rfl rfl rfl ?_
        refine aj_aload_n 0 31 (dx d_Model_chooseOwn 18 rfl) rfl rfl rfl ?_
        refine aj_getfv (v := 85) 34 fl_Model_29 (dx d_Model_chooseOwn 19 rfl) rfl hM.1.1 (by first | exact mf_family hM.1 | (simp [aj_up_at]; exact mf_family hM.1) | exact mf_family (by assumption)) ?_
        refine aj_aload_n 0 35 (dx d_Model_chooseOwn 20 rfl) rfl rfl rfl ?_
        refine aj_getfv (v := 87) 38 fl_Model_35 (dx d_Model_chooseOwn 21 rfl) rfl hM.1.1 (by first | exact mf_own hM.1 | (simp [aj_up_at]; exact mf_own hM.1) | exact mf_own (by assumption)) ?_
        refine aj_bipush 40 (dx d_Model_chooseOwn 22 rfl) rfl (by decide +kernel) ?_
        refine aj_iload_n 1 41 (dx d_Model_chooseOwn 23 rfl) rfl rfl rfl ?_
        refine aj_imul 42 (dx d_Model_chooseOwn 24 rfl) rfl ?_
        refine aj_iload 4 44 (dx d_Model_chooseOwn 25 rfl) rfl rfl ?_
        refine aj_iadd 45 (dx d_Model_chooseOwn 26 rfl) rfl ?_
        refine aj_iald 46 (dx d_Model_chooseOwn 27 rfl) rfl (ms_own hM.1) rfl (by omega) (by omega) ?_
        rw [ho.2 v hvw]
        refine aj_lald 47 (dx d_Model_chooseOwn 28 rfl) rfl (ms_family hM.1) rfl (by omega) (by omega) ?_
        rw [f1]
        refine aj_aload_n 0 48 (dx d_Model_chooseOwn 29 rfl) rfl rfl rfl ?_
        refine aj_getfv (v := 83) 51 fl_Model_22 (dx d_Model_chooseOwn 30 rfl) rfl hM.1.1 (by first | exact mf_stateOf hM.1 | (simp [aj_up_at]; exact mf_stateOf hM.1) | exact mf_stateOf (by assumption)) ?_
        refine aj_iload_n 1 52 (dx d_Model_chooseOwn 31 rfl) rfl rfl rfl ?_
        refine aj_iald 53 (dx d_Model_chooseOwn 32 rfl) rfl (ms_stateOf hM.1) rfl (by omega) (by omega) ?_
        rw [(hC.1 i hi).1]
        refine aj_aload_n 0 54 (dx d_Model_chooseOwn 33 rfl) rfl rfl rfl ?_
        refine aj_getfv (v := 83) 57 fl_Model_22 (dx d_Model_chooseOwn 34 rfl) rfl hM.1.1 (by first | exact mf_stateOf hM.1 | (simp [aj_up_at]; exact mf_stateOf hM.1) | exact mf_stateOf (by assumption)) ?_
        refine aj_iload_n 2 58 (dx d_Model_chooseOwn 35 rfl) rfl rfl rfl ?_
        refine aj_iald 59 (dx d_Model_chooseOwn 36 rfl) rfl (ms_stateOf hM.1) rfl (by omega) (by omega) ?_
        rw [(hC.1 j hj).1]
        refine aj_callV3 62 cl_Model_136 (dx d_Model_chooseOwn 37 rfl) rfl rfl rfl rfl rfl rfl hM.1.1 (k_Model_tells hM f2 (by omega) (hC.1 i hi).2 (hC.1 j hj).2 (fun ht => ?_) (fun ht => ?_))
        · change aj_wp _ _ _ _ _ _ _ _ _ _ _ _ _ _
          refine aj_if_eq 69 65 (dx d_Model_chooseOwn 38 rfl) rfl rfl (by unfold aj_I; omega) (fun h62 => ?_) (fun h62 => ?_)
          · exact absurd h62 (by decide)
          · refine aj_iconst 66 (dx d_Model_chooseOwn 39 rfl) rfl ?_
            refine aj_goto 70 (dx d_Model_chooseOwn 40 rfl) rfl ?_
            refine aj_istore_n 3 71 (dx d_Model_chooseOwn 42 rfl) rfl rfl rfl ?_
            simp only [List.set]
            refine aj_iinc 4 74 (dx d_Model_chooseOwn 43 rfl) rfl rfl rfl ?_
            simp only [List.set]
            refine aj_goto 14 (dx d_Model_chooseOwn 44 rfl) rfl ?_
            have hih := ih _ (by omega) (v + 1) 1 (by omega) rfl (Or.inl ⟨rfl, Or.inr ⟨v, by omega, (hC.2.2.2.1 i j _ hi hj f2).mp ht⟩⟩)
            rw [show ((v : Nat) : Int) + 1 = ((v + 1 : Nat) : Int) by omega]
            exact hih
        · change aj_wp _ _ _ _ _ _ _ _ _ _ _ _ _ _
          refine aj_if_eq 69 65 (dx d_Model_chooseOwn 38 rfl) rfl rfl (by unfold aj_I; omega) (fun h62 => ?_) (fun h62 => ?_)
          · refine aj_iconst 70 (dx d_Model_chooseOwn 41 rfl) rfl ?_
            have hnt : ¬ tl mnx mou i j (F (w.2 v)) := fun z => ht ((hC.2.2.2.1 i j _ hi hj f2).mpr z)
            refine aj_istore_n 3 71 (dx d_Model_chooseOwn 42 rfl) rfl rfl rfl ?_
            simp only [List.set]
            refine aj_iinc 4 74 (dx d_Model_chooseOwn 43 rfl) rfl rfl rfl ?_
            simp only [List.set]
            refine aj_goto 14 (dx d_Model_chooseOwn 44 rfl) rfl ?_
            have hih := ih _ (by omega) (v + 1) 0 (by omega) rfl (Or.inr ⟨rfl, hne, fun y hy => by
              rcases Nat.lt_or_ge y v with z | z
              · exact hno y z
              · rw [show y = v by omega]; exact hnt⟩)
            rw [show ((v : Nat) : Int) + 1 = ((v + 1 : Nat) : Int) by omega]
            exact hih
          · exact absurd rfl h62
set_option maxHeartbeats 4000000 in
theorem k_Model_chooseOwn {al : Prop} {X : Option (Nat × (Int → Int))} {d : Nat} {sh : List aj_S} {g : aj_G} {Q : aj_R → List aj_S → aj_G → Prop} {k n : Nat} {nx ou : Nat → Nat → Nat} {N : Nat} {sf : Nat → Nat} {mnx mou : Nat → Nat → Nat} {lw : Nat → Nat → List Nat} {c i j : Nat} {F : Nat → List Nat} {w : ow_T} (hM : mmm sh g k n nx ou) (hC : chH g k n nx ou N sf mnx mou lw) (hF : famM g k c F) (hi : i < N) (hj : j < N) (hcov : i ≠ j → ∃ v, v < c ∧ tl mnx mou i j (F v)) (ho : oatM g i w) (hoj : w.1 ≤ j) (hoc : ∀ v, v < w.1 → w.2 v < c) (hk : ∀ g1, mo_F g g1 i → oatM g1 i (ow_st (tl mnx mou) F c i j w) → Q (.inl none) sh g1) : aj_wp nE al al X m_Model_chooseOwn (d + 3) 0 0 0 [some (1, 78), some (0, (i : Int)), some (0, (j : Int)), none, none] [] sh g Q := by
  refine aj_iload_n 1 1 (dx d_Model_chooseOwn 0 rfl) rfl rfl rfl ?_
  refine aj_iload_n 2 2 (dx d_Model_chooseOwn 1 rfl) rfl rfl rfl ?_
  refine aj_icmp_ne 9 5 (dx d_Model_chooseOwn 2 rfl) rfl rfl (by have := hC.2.2.1; unfold aj_I; omega) (by have := hC.2.2.1; unfold aj_I; omega) (fun h2 => ?_) (fun h2 => ?_)
  · refine aj_iconst 10 (dx d_Model_chooseOwn 5 rfl) rfl ?_
    refine aj_istore_n 3 11 (dx d_Model_chooseOwn 6 rfl) rfl rfl rfl ?_
    simp only [List.set]
    refine aj_iconst 12 (dx d_Model_chooseOwn 7 rfl) rfl ?_
    refine aj_istore 4 14 (dx d_Model_chooseOwn 8 rfl) rfl rfl ?_
    simp only [List.set]
    exact k_mo_1 hM hC hF hi hj hcov ho hoj hoc hk _ 0 0 (by omega) rfl (Or.inr ⟨rfl, by omega, fun y hy => absurd hy (Nat.not_lt_zero _)⟩)
  · refine aj_iconst 6 (dx d_Model_chooseOwn 3 rfl) rfl ?_
    refine aj_goto 10 (dx d_Model_chooseOwn 4 rfl) rfl ?_
    refine aj_istore_n 3 11 (dx d_Model_chooseOwn 6 rfl) rfl rfl rfl ?_
    simp only [List.set]
    refine aj_iconst 12 (dx d_Model_chooseOwn 7 rfl) rfl ?_
    refine aj_istore 4 14 (dx d_Model_chooseOwn 8 rfl) rfl rfl ?_
    simp only [List.set]
    exact k_mo_1 hM hC hF hi hj hcov ho hoj hoc hk _ 0 1 (by omega) rfl (Or.inl ⟨rfl, Or.inl (by omega)⟩)
end
section
/-! Model: choose, seal -/
theorem fwd_lt {T : Nat → Nat → List Nat → Prop} {F : Nat → List Nat} {c i j : Nat} (h : ∃ w, w < c ∧ T i j (F w)) : fwd T F c i j < c := by
  obtain ⟨w, ⟨h1, h2⟩, h3⟩ := mo_least h
  have h4 : ∀ w', w' < w → ¬ T i j (F w') := fun w' hw z => h3 w' hw ⟨by omega, z⟩
  rw [fwd_eq h1 h2 h4]
  exact h1
theorem ow_lt {T : Nat → Nat → List Nat → Prop} {F : Nat → List Nat} {c i N : Nat} (hcov : ∀ j, j < N → i ≠ j → ∃ w, w < c ∧ T i j (F w)) : ∀ j, j ≤ N → ∀ v, v < (ow T F c i j).1 → (ow T F c i j).2 v < c
  | 0, _, v, h => absurd h (Nat.not_lt_zero _)
  | j + 1, hj, v, h => by
    have ih := ow_lt hcov j (by omega)
    have h' : v < (ow_st T F c i j (ow T F c i j)).1 := h
    show (ow_st T F c i j (ow T F c i j)).2 v < c
    by_cases z : i = j ∨ ∃ y, y < (ow T F c i j).1 ∧ T i j (F ((ow T F c i j).2 y))
    · have e : ow_st T F c i j (ow T F c i j) = ow T F c i j := by unfold ow_st; rw [if_pos z]
      rw [e] at h' ⊢
      exact ih v h'
    · have e : ow_st T F c i j (ow T F c i j) = ((ow T F c i j).1 + 1, nb_up (ow T F c i j).2 (ow T F c i j).1 (fwd T F c i j)) := by unfold ow_st; rw [if_neg z]
      rw [e] at h' ⊢
      have h'' : v < (ow T F c i j).1 + 1 := h'
      show nb_up _ _ _ v < c
      by_cases e2 : v = (ow T F c i j).1
      · rw [e2, nb_up_self]
        exact fwd_lt (hcov j (by omega) (fun y => z (Or.inl y)))
      · rw [nb_up_ne _ _ e2]
        exact ih v (by omega)
def cm_F (g g1 : aj_G) : Prop := (∀ r, r ≠ 78 → r ≠ 85 → r ≠ 86 → r ≠ 87 → g1 r = g r) ∧ ∀ j, j ≠ 12 → g1 78 j = g 78 j
theorem cm_M {sh : List aj_S} {k n : Nat} {nx ou : Nat → Nat → Nat} {g g1 : aj_G} (hM : mmm sh g k n nx ou) (h : cm_F g g1) : mmm sh g1 k n nx ou := mmm_of hM (fun j hj => h.2 j (by unfold mo_fin at hj; omega)) (h.1 79 (by omega) (by omega) (by omega) (by omega)) (h.1 80 (by omega) (by omega) (by omega) (by omega))
set_option maxHeartbeats 4000000 in
theorem k_cm_j {al : Prop} {X : Option (Nat × (Int → Int))} {d : Nat} {sh : List aj_S} {g : aj_G} {Q : aj_R → List aj_S → aj_G → Prop} {k n : Nat} {nx ou : Nat → Nat → Nat} {N : Nat} {sf : Nat → Nat} {mnx mou : Nat → Nat → Nat} {lw : Nat → Nat → List Nat} {c : Nat} {F : Nat → List Nat} (hM : mmm sh g k n nx ou) (hC : chH g k n nx ou N sf mnx mou lw) (hF : famM g k c F) (hcov : ∀ i j, i < N → j < N → i ≠ j → ∃ w, w < c ∧ tl mnx mou i j (F w)) {i : Nat} (hi : i < N)
    (hgo : ∀ g1 : aj_G, (∀ r, r ≠ 86 → r ≠ 87 → g1 r = g r) → oatM g1 i (ow (tl mnx mou) F c i N) → (∀ a, a < i → oatM g1 a (ow (tl mnx mou) F c a N)) → aj_wp nE al al X m_Model_choose (d + 4) 0 0 173 [some (1, 78), some (0, (i : Int)), none, none, none] [] sh g1 Q) :
    ∀ (m j : Nat) (g1 : aj_G), j ≤ N → N - j = m → (∀ r, r ≠ 86 → r ≠ 87 → g1 r = g r) → oatM g1 i (ow (tl mnx mou) F c i j) → (∀ a, a < i → oatM g1 a (ow (tl mnx mou) F c a N)) →
    aj_wp nE al al X m_Model_choose (d + 4) 0 0 153 [some (1, 78), some (0, (i : Int)), some (0, (j : Int)), none, none] [] sh g1 Q := by
  have hN8 := hC.2.2.1
  intro m
  induction m using Nat.strongRecOn with
  | ind m ih =>
    intro j g1 hj hmm hG ho hK
    have hM1 : mmm sh g1 k n nx ou := mmm_of hM (fun j _ => by rw [hG 78 (by omega) (by omega)]) (hG 79 (by omega) (by omega)) (hG 80 (by omega) (by omega))
    have hC1 : chH g1 k n nx ou N sf mnx mou lw := chH_of hC (hG 83 (by omega) (by omega)) (by rw [hG 78 (by omega) (by omega)])
    have hF1 : famM g1 k c F := famM_of hF (by rw [hG 78 (by omega) (by omega)]) (hG 85 (by omega) (by omega))
    refine aj_iload_n 2 154 (dx d_Model_choose 88 rfl) rfl rfl rfl ?_
    refine aj_aload_n 0 155 (dx d_Model_choose 89 rfl) rfl rfl rfl ?_
    refine aj_getfv (v := (N : Int)) 158 fl_Model_126 (dx d_Model_choose 90 rfl) rfl hM1.1.1 hC1.2.1 ?_
    refine aj_icmp_ge 173 161 (dx d_Model_choose 91 rfl) rfl rfl (by unfold aj_I; omega) (by unfold aj_I; omega) (fun h158 => ?_) (fun h158 => ?_)
    · refine aj_forget 2 ?_
      simp only [List.set]
      have e : j = N := by omega
      subst e
      exact hgo g1 hG ho hK
    · refine aj_aload_n 0 162 (dx d_Model_choose 92 rfl) rfl rfl rfl ?_
      refine aj_iload_n 1 163 (dx d_Model_choose 93 rfl) rfl rfl rfl ?_
      refine aj_iload_n 2 164 (dx d_Model_choose 94 rfl) rfl rfl rfl ?_
      refine aj_callV2 167 cl_Model_144 (dx d_Model_choose 95 rfl) rfl rfl rfl rfl rfl rfl hM1.1.1 (k_Model_chooseOwn hM1 hC1 hF1 hi (show j < N by omega) (hcov i j hi (by omega)) ho (ow_le j) (ow_lt (hcov i · hi) j (by omega)) (fun g2 hF2 ho2 => ?_))
      change aj_wp _ _ _ _ _ _ _ _ _ _ _ _ _ _
      refine aj_iinc 2 170 (dx d_Model_choose 96 rfl) rfl rfl rfl ?_
      simp only [List.set]
      refine aj_goto 153 (dx d_Model_choose 97 rfl) rfl ?_
      rw [show ((j : Nat) : Int) + 1 = ((j + 1 : Nat) : Int) by omega]
      exact ih _ (by omega) (j + 1) g2 (by omega) rfl (fun r a b => (hF2.1 r a b).trans (hG r a b)) ho2 (fun a ha => by
        obtain ⟨x1, x2⟩ := hK a ha
        exact ⟨by rw [hF2.2.1 _ (by omega)]; exact x1, fun v hv => by
          have hle := ow_le (T := tl mnx mou) (F := F) (c := c) (i := a) N
          rw [hF2.2.2 _ (by omega)]; exact x2 v hv⟩)
set_option maxHeartbeats 4000000 in
theorem k_cm_i {al : Prop} {X : Option (Nat × (Int → Int))} {d : Nat} {sh : List aj_S} {g : aj_G} {Q : aj_R → List aj_S → aj_G → Prop} {k n : Nat} {nx ou : Nat → Nat → Nat} {N : Nat} {sf : Nat → Nat} {mnx mou : Nat → Nat → Nat} {lw : Nat → Nat → List Nat} {c : Nat} {F : Nat → List Nat} (hM : mmm sh g k n nx ou) (hC : chH g k n nx ou N sf mnx mou lw) (hF : famM g k c F) (hcov : ∀ i j, i < N → j < N → i ≠ j → ∃ w, w < c ∧ tl mnx mou i j (F w)) (hk : ∀ g1 : aj_G, (∀ r, r ≠ 86 → r ≠ 87 → g1 r = g r) → (∀ a, a < N → oatM g1 a (ow (tl mnx mou) F c a N)) → Q (.inl none) sh g1) :
    ∀ (m i : Nat) (g1 : aj_G), i ≤ N → N - i = m → (∀ r, r ≠ 86 → r ≠ 87 → g1 r = g r) → (∀ a, a < i → oatM g1 a (ow (tl mnx mou) F c a N)) →
    aj_wp nE al al X m_Model_choose (d + 4) 0 0 136 [some (1, 78), some (0, (i : Int)), none, none, none] [] sh g1 Q := by
  have hN8 := hC.2.2.1
  intro m
  induction m using Nat.strongRecOn with
  | ind m ih =>
    intro i g1 hi hmm hG hK
    have hM1 : mmm sh g1 k n nx ou := mmm_of hM (fun j _ => by rw [hG 78 (by omega) (by omega)]) (hG 79 (by omega) (by omega)) (hG 80 (by omega) (by omega))
    have hC1 : chH g1 k n nx ou N sf mnx mou lw := chH_of hC (hG 83 (by omega) (by omega)) (by rw [hG 78 (by omega) (by omega)])
    have hF1 : famM g1 k c F := famM_of hF (by rw [hG 78 (by omega) (by omega)]) (hG 85 (by omega) (by omega))
    refine aj_iload_n 1 137 (dx d_Model_choose 77 rfl) rfl rfl rfl ?_
    refine aj_aload_n 0 138 (dx d_Model_choose 78 rfl) rfl rfl rfl ?_
    refine aj_getfv (v := (N : Int)) 141 fl_Model_126 (dx d_Model_choose 79 rfl) rfl hM1.1.1 hC1.2.1 ?_
    refine aj_icmp_ge 179 144 (dx d_Model_choose 80 rfl) rfl rfl (by unfold aj_I; omega) (by unfold aj_I; omega) (fun h141 => ?_) (fun h141 => ?_)
    · refine aj_vret (dx d_Model_choose 100 rfl) rfl id ?_
      have e : i = N := by omega
      subst e
      exact hk g1 hG hK
    · refine aj_aload_n 0 145 (dx d_Model_choose 81 rfl) rfl rfl rfl ?_
      refine aj_getfv (v := 86) 148 fl_Model_32 (dx d_Model_choose 82 rfl) rfl hM1.1.1 (by first | exact mf_owns hM1.1 | (simp [aj_up_at]; exact mf_owns hM1.1) | exact mf_owns (by assumption)) ?_
      refine aj_iload_n 1 149 (dx d_Model_choose 83 rfl) rfl rfl rfl ?_
      refine aj_iconst 150 (dx d_Model_choose 84 rfl) rfl ?_
      refine aj_iast 151 (dx d_Model_choose 85 rfl) rfl (ms_owns hM1.1) rfl (by omega) (by omega) ?_
      refine aj_iconst 152 (dx d_Model_choose 86 rfl) rfl ?_
      refine aj_istore_n 2 153 (dx d_Model_choose 87 rfl) rfl rfl rfl ?_
      simp only [List.set]
      refine k_cm_j (g := aj_up g1 86 (i : Int) 0) (mmm_of hM1 (fun j _ => by rw [aj_up_ne _ _ _ (by omega)]) (aj_up_ne _ _ _ (by omega)) (aj_up_ne _ _ _ (by omega))) (chH_of hC1 (aj_up_ne _ _ _ (by omega)) (by rw [aj_up_ne _ _ _ (by omega)])) (famM_of hF1 (by rw [aj_up_ne _ _ _ (by omega)]) (aj_up_ne _ _ _ (by omega))) hcov (show i < N by omega) (fun g2 hG2 ho2 hK2 => ?_) _ 0 _ (by omega) rfl (fun r _ _ => rfl) ⟨by rw [aj_up_self]; rfl, fun v hv => absurd hv (Nat.not_lt_zero _)⟩ (fun a ha => by
        obtain ⟨x1, x2⟩ := hK a ha
        exact ⟨by rw [aj_up_ni _ _ _ (by omega)]; exact x1, fun v hv => by rw [aj_up_ne _ _ _ (by omega)]; exact x2 v hv⟩)
      refine aj_iinc 1 176 (dx d_Model_choose 98 rfl) rfl rfl rfl ?_
      simp only [List.set]
      refine aj_goto 136 (dx d_Model_choose 99 rfl) rfl ?_
      rw [show ((i : Nat) : Int) + 1 = ((i + 1 : Nat) : Int) by omega]
      exact ih _ (by omega) (i + 1) g2 (by omega) rfl (fun r a b => (hG2 r a b).trans (by rw [aj_up_ne _ _ _ a]; exact hG r a b)) (fun a ha => by
        by_cases e : a = i
        · rw [e]; exact ho2
        · exact hK2 a (by omega))
theorem fm_cov {k N : Nat} {mnx mou : Nat → Nat → Nat} {q : fm_T} (h : fm_I k N mnx mou q N (N + 1)) : ∀ i j, i < N → j < N → i ≠ j → ∃ w, w < q.1 ∧ tl mnx mou i j (q.2 w) := by
  intro i j hi hj hij
  rcases Nat.lt_or_gt_of_ne hij with z | z
  · exact h.2 i j z hj (Or.inl hi)
  · obtain ⟨w, w1, w2⟩ := h.2 j i z hi (Or.inl hj)
    exact ⟨w, w1, tl_symm w2⟩
set_option maxHeartbeats 4000000 in
theorem k_Model_choose {al : Prop} {X : Option (Nat × (Int → Int))} {d : Nat} {sh : List aj_S} {g : aj_G} {Q : aj_R → List aj_S → aj_G → Prop} {k n : Nat} {nx ou : Nat → Nat → Nat} {N : Nat} {sf : Nat → Nat} {mnx mou : Nat → Nat → Nat} {lw : Nat → Nat → List Nat} (hM : mmm sh g k n nx ou) (hT : tdm g k n nx ou) (hC : chH g k n nx ou N sf mnx mou lw)
    (hk : ∀ g1, cm_F g g1 → famM g1 k (fm_out (tl mnx mou) lw N N).1 (fm_out (tl mnx mou) lw N N).2 → fm_I k N mnx mou (fm_out (tl mnx mou) lw N N) N (N + 1) → (∀ a, a < N → oatM g1 a (ow (tl mnx mou) (fm_out (tl mnx mou) lw N N).2 (fm_out (tl mnx mou) lw N N).1 a N)) → Q (.inl none) sh g1) :
    aj_wp nE al al X m_Model_choose (d + 4) 0 0 0 [some (1, 78), none, none, none, none] [] sh g Q := by
  refine aj_aload_n 0 1 (dx d_Model_choose 0 rfl) rfl rfl rfl ?_
  refine aj_iconst 2 (dx d_Model_choose 1 rfl) rfl ?_
  refine aj_putf 5 (pl_Model_133 _) (dx d_Model_choose 2 rfl) rfl hM.1.1 (aj_fitI _) ?_
  refine aj_iconst 6 (dx d_Model_choose 3 rfl) rfl ?_
  refine aj_istore_n 1 7 (dx d_Model_choose 4 rfl) rfl rfl rfl ?_
  simp only [List.set]
  have hF0 : mc_F g (aj_up g 78 12 0) := ⟨fun r a _ => by rw [aj_up_ne _ _ _ a], fun j hj => by rw [aj_up_ni _ _ _ hj]⟩
  refine k_mc_i (d := d + 1) (mc_M hM hF0) (mc_T hT hF0) (chH_of hC (aj_up_ne _ _ _ (by omega)) (by rw [aj_up_ni _ _ _ (by omega)])) (fun g1 hG hFm hI => ?_) _ 0 _ (0, fun _ => []) (by omega) rfl ⟨fun _ _ _ => rfl, fun _ _ => rfl⟩ rfl ⟨by rw [aj_up_self]; rfl, by show 0 ≤ 8; omega, fun w hw => absurd hw (Nat.not_lt_zero _)⟩ ⟨fun w hw => absurd hw (Nat.not_lt_zero _), fun a b h1 h2 h3 => by omega⟩
  have hG2 : mc_F g g1 := ⟨fun r a b => (hG.1 r a b).trans (hF0.1 r a b), fun j hj => (hG.2 j hj).trans (hF0.2 j hj)⟩
  have hM1 := mc_M hM hG2
  have hC1 : chH g1 k n nx ou N sf mnx mou lw := chH_of hC (hG2.1 83 (by omega) (by omega)) (hG2.2 8 (by omega))
  refine aj_iconst 135 (dx d_Model_choose 75 rfl) rfl ?_
  refine aj_istore_n 1 136 (dx d_Model_choose 76 rfl) rfl rfl rfl ?_
  simp only [List.set]
  refine k_cm_i hM1 hC1 hFm (fm_cov hI) (fun g2 hG3 hO => hk g2 ⟨fun r a b c e => (hG3 r c e).trans (hG2.1 r a b), fun j hj => by rw [hG3 78 (by omega) (by omega)]; exact hG2.2 j hj⟩ (famM_of hFm (by rw [hG3 78 (by omega) (by omega)]) (hG3 85 (by omega) (by omega))) hI hO) _ 0 g1 (by omega) rfl (fun r _ _ => rfl) (fun a ha => absurd ha (Nat.not_lt_zero _))
theorem none_flip {k : Nat} {nx ou nx' ou' : Nat → Nat → Nat} {s t : Nat} (h : wd_none k nx ou s nx' ou' t) : wd_none k nx' ou' t nx ou s := by
  intro v hv hd
  cases v with
  | nil => exact hd
  | cons i w => exact h (i :: w) hv (Ne.symm hd)
/-- the small machine over the numbering -/
def smm (k n : Nat) (nx ou : Nat → Nat → Nat) (tw : Nat → Nat) (N : Nat) (q : nb_T) (mnx mou : Nat → Nat → Nat) : Prop := ∀ a i, a < N → i < k → mnx a i < N ∧ q.2.1 (mnx a i) = tw (nx (q.2.1 a) i) ∧ mou a i = ou (q.2.1 a) i
section SEAL
variable {g : aj_G} {k n s0 : Nat} {nx ou : Nat → Nat → Nat} {tw sf : Nat → Nat} {N : Nat} {q : nb_T} {mnx mou : Nat → Nat → Nat}
theorem sl_none (htw : tw_ok k n nx ou tw) (hc : ∀ s i, s < n → i < k → nx s i < n) (h : nbm g k n s0 nx ou tw (N * k) q sf) (hN : q.1 = N) (hs : smm k n nx ou tw N q mnx mou) {a : Nat} (ha : a < N) : wd_none k nx ou (sf a) nx ou (q.2.1 a) ∧ wd_none k mnx mou a nx ou (sf a) := by
  subst hN
  have hal : ∀ b, b < q.1 → al_k k nx ou (sf b) (q.2.1 b) := fun b hb => by
    obtain ⟨-, s1, s2, -⟩ := h.2.2.2.1 b hb
    obtain ⟨m1, m2⟩ := h.2.1.2.2.1 b hb
    exact (tw_eq htw s1 m1).mp (by rw [m2, s2])
  refine ⟨hal a ha, mm_none (mb := sf) (N := q.1) (fun b i hb hi => ?_) (fun b i hb hi => ?_) ha⟩
  · obtain ⟨x1, x2, -⟩ := hs b i hb hi
    refine ⟨x1, (tw_eq htw (h.2.2.2.1 _ x1).2.1 (hc _ _ (h.2.2.2.1 b hb).2.1 hi)).mp ?_⟩
    rw [(h.2.2.2.1 _ x1).2.2.1, x2]
    exact nbm_tw htw hc h hb hi
  · rw [(hs b i hb hi).2.2]
    exact (al_out (hal b hb) hi).symm
theorem sl_chH (hk4 : k ≤ 4) (hn : 0 < n) (hn8 : n ≤ 8) (htw : tw_ok k n nx ou tw) (hc : ∀ s i, s < n → i < k → nx s i < n) (h : nbm g k n s0 nx ou tw (N * k) q sf) (hN : q.1 = N) (hs : smm k n nx ou tw N q mnx mou) : chH g k n nx ou N sf mnx mou (lwd k mnx mou) := by
  have hno : ∀ a, a < N → wd_none k nx ou (sf a) mnx mou a := fun a ha => none_flip (sl_none htw hc h hN hs ha).2
  have hle := nb_le h.2.1
  have h0 := h.2.1.1
  refine ⟨fun a ha => ⟨(h.2.2.2.1 a (by omega)).1, (h.2.2.2.1 a (by omega)).2.1⟩, by rw [h.2.2.1, hN], ⟨by omega, by omega⟩, fun i j w hi hj hw => xa_tl (hno i hi) (hno j hj) w hw, fun i j hi hj hij => ?_⟩
  have hna : ¬ al_k k nx ou (sf i) (sf j) := fun z => by
    have e := (tw_eq htw (h.2.2.2.1 i (by omega)).2.1 (h.2.2.2.1 j (by omega)).2.1).mpr z
    rw [(h.2.2.2.1 i (by omega)).2.2.1, (h.2.2.2.1 j (by omega)).2.2.1] at e
    exact hij (h.2.1.2.2.2.1 i j (by omega) (by omega) e)
  obtain ⟨v, hv⟩ := Classical.not_forall.mp hna
  obtain ⟨hv1, hv2⟩ := Classical.not_imp.mp hv
  obtain ⟨w, hw⟩ := least_ex hv1 (Classical.not_not.mp hv2)
  have hw2 := (xa_least (hno i hi) (hno j hj)).mp hw
  rw [lwd_eq hk4 hw2]
  have hl := mo_len hk4 hn hc (h.2.2.2.1 i (by omega)).2.1 (h.2.2.2.1 j (by omega)).2.1 hw
  exact ⟨hw, hw2, by omega⟩
end SEAL
def mim (g : aj_G) (k m : Nat) (ix io : Nat → Nat → Nat) : Prop := g 78 17 = m ∧ m ≤ 10 ∧ ∀ x i : Nat, x < m → i < k → g 88 (3 * (x : Int) + i) = ix x i ∧ g 89 (3 * (x : Int) + i) = io x i ∧ ix x i < m ∧ io x i < 4
def ms_F (g g1 : aj_G) : Prop := (∀ r, r ≠ 78 → (r < 81 ∨ 89 < r) → g1 r = g r) ∧ ∀ j, j ≠ 0 → j ≠ 6 → j ≠ 8 → j ≠ 12 → j ≠ 17 → g1 78 j = g 78 j
/-- what seal leaves in the model -/
def mS (sh : List aj_S) (g : aj_G) (k n s0 : Nat) (nx ou : Nat → Nat → Nat) (tw : Nat → Nat) (N : Nat) (q : nb_T) (sf : Nat → Nat) (mnx mou : Nat → Nat → Nat) : Prop :=
  mmm sh g k n nx ou ∧ tdm g k n nx ou ∧ nbm g k n s0 nx ou tw (N * k) q sf ∧ famM g k (fm_out (tl mnx mou) (lwd k mnx mou) N N).1 (fm_out (tl mnx mou) (lwd k mnx mou) N N).2 ∧
  fm_I k N mnx mou (fm_out (tl mnx mou) (lwd k mnx mou) N N) N (N + 1) ∧ ∀ a, a < N → oatM g a (ow (tl mnx mou) (fm_out (tl mnx mou) (lwd k mnx mou) N N).2 (fm_out (tl mnx mou) (lwd k mnx mou) N N).1 a N)
theorem mS_of {sh : List aj_S} {g g1 : aj_G} {k n s0 : Nat} {nx ou : Nat → Nat → Nat} {tw : Nat → Nat} {N : Nat} {q : nb_T} {sf : Nat → Nat} {mnx mou : Nat → Nat → Nat} (h : mS sh g k n s0 nx ou tw N q sf mnx mou) (e : ∀ r, 79 ≤ r → r ≤ 87 → g1 r = g r) (e8 : ∀ j, mo_fin j ∨ j = 1 ∨ j = 2 ∨ j = 8 ∨ j = 12 → g1 78 j = g 78 j) : mS sh g1 k n s0 nx ou tw N q sf mnx mou := by
  obtain ⟨h1, h2, h3, h4, h5, h6⟩ := h
  refine ⟨mmm_of h1 (fun j hj => e8 j (by
    rcases hj with z | z | z
    · exact Or.inl z
    · exact Or.inr (Or.inl z)
    · exact Or.inr (Or.inr (Or.inl z)))) (e 79 (by omega) (by omega)) (e 80 (by omega) (by omega)), ?_, ?_, famM_of h4 (e8 12 (by omega)) (e 85 (by omega) (by omega)), h5, fun a ha => ?_⟩
  · unfold tdm; rw [e 81 (by omega) (by omega)]; exact h2
  · obtain ⟨a1, a2, a3, a4, a5⟩ := h3
    refine ⟨a1, a2, by rw [e8 8 (by omega)]; exact a3, ?_, ?_⟩
    · rw [e 83 (by omega) (by omega), e 84 (by omega) (by omega)]; exact a4
    · rw [e 82 (by omega) (by omega)]; exact a5
  · obtain ⟨b1, b2⟩ := h6 a ha
    exact ⟨by rw [e 86 (by omega) (by omega)]; exact b1, by rw [e 87 (by omega) (by omega)]; exact b2⟩
set_option maxHeartbeats 4000000 in
theorem k_sl_i {al : Prop} {X : Option (Nat × (Int → Int))} {d : Nat} {sh : List aj_S} {g : aj_G} {Q : aj_R → List aj_S → aj_G → Prop} {k n s0 : Nat} {nx ou : Nat → Nat → Nat} {tw : Nat → Nat} {N : Nat} {q : nb_T} {sf : Nat → Nat} {mnx mou : Nat → Nat → Nat} (hS : mS sh g k n s0 nx ou tw N q sf mnx mou) (htw : tw_ok k n nx ou tw) (hcl : ∀ s i, s < n → i < k → nx s i < n) (hN : q.1 = N) (hm : smm k n nx ou tw N q mnx mou) {a : Nat} (ha : a < N)
    (hgo : ∀ g1 : aj_G, (∀ r, r ≠ 88 → r ≠ 89 → g1 r = g r) → (∀ x i : Nat, x < a + 1 → i < k → g1 88 (3 * (x : Int) + i) = mnx x i ∧ g1 89 (3 * (x : Int) + i) = mou x i) → aj_wp nE al al X m_Model_seal d 0 0 131 [some (1, 78), some (0, (a : Int)), none] [] sh g1 Q) :
    ∀ (m i : Nat) (g1 : aj_G), i ≤ k → k - i = m → (∀ r, r ≠ 88 → r ≠ 89 → g1 r = g r) → (∀ x j : Nat, (x < a ∨ (x = a ∧ j < i)) → j < k → g1 88 (3 * (x : Int) + j) = mnx x j ∧ g1 89 (3 * (x : Int) + j) = mou x j) →
    aj_wp nE al al X m_Model_seal d 0 0 62 [some (1, 78), some (0, (a : Int)), some (0, (i : Int))] [] sh g1 Q := by
  have hN8 := nb_le hS.2.2.1.2.1
  have hn8 := hS.1.2.2.2.2.1
  have hk4 := hS.1.2.2.2.1
  intro m
  induction m using Nat.strongRecOn with
  | ind m ih =>
    intro i g1 hi hmm hG hK
    have hS1 : mS sh g1 k n s0 nx ou tw N q sf mnx mou := mS_of hS (fun r a b => hG r (by omega) (by omega)) (fun j _ => by rw [hG 78 (by omega) (by omega)])
    have hM1 := hS1.1
    refine aj_iload_n 2 63 (dx d_Model_seal 34 rfl) rfl rfl rfl ?_
    refine aj_aload_n 0 64 (dx d_Model_seal 35 rfl) rfl rfl rfl ?_
    refine aj_getfv (v := (k : Int)) 67 fl_Model_89 (dx d_Model_seal 36 rfl) rfl hM1.1.1 hM1.2.2.1 ?_
    refine aj_icmp_ge 131 70 (dx d_Model_seal 37 rfl) rfl rfl (by unfold aj_I; omega) (by unfold aj_I; omega) (fun h67 => ?_) (fun h67 => ?_)
    · refine aj_forget 2 ?_
      simp only [List.set]
      have e : i = k := by omega
      subst e
      exact hgo g1 hG (fun x i hx hi => hK x i (by omega) hi)
    · have hik : i < k := by omega
      obtain ⟨s1, s2, s3, s4⟩ := hS1.2.2.1.2.2.2.1 a (by omega)
      obtain ⟨e1, e2, e3, e4⟩ := hM1.2.2.2.2.2 (sf a) i s2 hik
      obtain ⟨m1, m2, m3⟩ := hm a i ha hik
      have hmo : g1 82 ((nx (sf a) i : Nat) : Int) = (mnx a i : Nat) := (hS1.2.2.1.2.2.2.2 _ e3).1 (mnx a i) (by omega) (by rw [m2]; exact nbm_tw htw hcl hS1.2.2.1 (by omega) hik)
      have hou : ou (sf a) i = mou a i := by
        have := (sl_none htw hcl hS1.2.2.1 hN hm ha).1
        rw [m3]
        exact al_out this hik
      refine aj_aload_n 0 71 (dx d_Model_seal 38 rfl) rfl rfl rfl ?_
      refine aj_getfv (v := 88) 74 fl_Model_42 (dx d_Model_seal 39 rfl) rfl hM1.1.1 (by first | exact mf_goes hM1.1 | (simp [aj_up_at]; exact mf_goes hM1.1) | exact mf_goes (by assumption)) ?_
      refine aj_iconst 75 (dx d_Model_seal 40 rfl) rfl ?_
      refine aj_iload_n 1 76 (dx d_Model_seal 41 rfl) rfl rfl rfl ?_
      refine aj_imul 77 (dx d_Model_seal 42 rfl) rfl ?_
      refine aj_iload_n 2 78 (dx d_Model_seal 43 rfl) rfl rfl rfl ?_
      refine aj_iadd 79 (dx d_Model_seal 44 rfl) rfl ?_
      refine aj_aload_n 0 80 (dx d_Model_seal 45 rfl) rfl rfl rfl ?_
      refine aj_getfv (v := 82) 83 fl_Model_19 (dx d_Model_seal 46 rfl) rfl hM1.1.1 (by first | exact mf_minimalOf hM1.1 | (simp [aj_up_at]; exact mf_minimalOf hM1.1) | exact mf_minimalOf (by assumption)) ?_
      refine aj_aload_n 0 84 (dx d_Model_seal 47 rfl) rfl rfl rfl ?_
      refine aj_getfv (v := 79) 87 fl_Model_7 (dx d_Model_seal 48 rfl) rfl hM1.1.1 (by first | exact mf_next hM1.1 | (simp [aj_up_at]; exact mf_next hM1.1) | exact mf_next (by assumption)) ?_
      refine aj_iconst 88 (dx d_Model_seal 49 rfl) rfl ?_
      refine aj_aload_n 0 89 (dx d_Model_seal 50 rfl) rfl rfl rfl ?_
      refine aj_getfv (v := 83) 92 fl_Model_22 (dx d_Model_seal 51 rfl) rfl hM1.1.1 (by first | exact mf_stateOf hM1.1 | (simp [aj_up_at]; exact mf_stateOf hM1.1) | exact mf_stateOf (by assumption)) ?_
      refine aj_iload_n 1 93 (dx d_Model_seal 52 rfl) rfl rfl rfl ?_
      refine aj_iald 94 (dx d_Model_seal 53 rfl) rfl (ms_stateOf hM1.1) rfl (by omega) (by omega) ?_
      rw [s1]
      refine aj_imul 95 (dx d_Model_seal 54 rfl) rfl ?_
      refine aj_iload_n 2 96 (dx d_Model_seal 55 rfl) rfl rfl rfl ?_
      refine aj_iadd 97 (dx d_Model_seal 56 rfl) rfl ?_
      refine aj_iald 98 (dx d_Model_seal 57 rfl) rfl (ms_next hM1.1) rfl (by omega) (by omega) ?_
      rw [e1]
      refine aj_iald 99 (dx d_Model_seal 58 rfl) rfl (ms_minimalOf hM1.1) rfl (by omega) (by omega) ?_
      rw [hmo]
      refine aj_iast 100 (dx d_Model_seal 59 rfl) rfl (ms_goes hM1.1) rfl (by omega) (by omega) ?_
      refine aj_aload_n 0 101 (dx d_Model_seal 60 rfl) rfl rfl rfl ?_
      refine aj_getfv (v := 89) 104 fl_Model_45 (dx d_Model_seal 61 rfl) rfl hM1.1.1 (by first | exact mf_gives hM1.1 | (simp [aj_up_at]; exact mf_gives hM1.1) | exact mf_gives (by assumption)) ?_
      refine aj_iconst 105 (dx d_Model_seal 62 rfl) rfl ?_
      refine aj_iload_n 1 106 (dx d_Model_seal 63 rfl) rfl rfl rfl ?_
      refine aj_imul 107 (dx d_Model_seal 64 rfl) rfl ?_
      refine aj_iload_n 2 108 (dx d_Model_seal 65 rfl) rfl rfl rfl ?_
      refine aj_iadd 109 (dx d_Model_seal 66 rfl) rfl ?_
      refine aj_aload_n 0 110 (dx d_Model_seal 67 rfl) rfl rfl rfl ?_
      refine aj_getfv (v := 80) 113 fl_Model_13 (dx d_Model_seal 68 rfl) rfl hM1.1.1 (by first | exact mf_output hM1.1 | (simp [aj_up_at]; exact mf_output hM1.1) | exact mf_output (by assumption)) ?_
      refine aj_iconst 114 (dx d_Model_seal 69 rfl) rfl ?_
      refine aj_aload_n 0 115 (dx d_Model_seal 70 rfl) rfl rfl rfl ?_
      refine aj_getfv (v := 83) 118 fl_Model_22 (dx d_Model_seal 71 rfl) rfl hM1.1.1 (by first | exact mf_stateOf hM1.1 | (simp [aj_up_at]; exact mf_stateOf hM1.1) | exact mf_stateOf (by assumption)) ?_
      refine aj_iload_n 1 119 (dx d_Model_seal 72 rfl) rfl rfl rfl ?_
      refine aj_iald 120 (dx d_Model_seal 73 rfl) rfl (ms_stateOf hM1.1) rfl (by omega) (by omega) ?_
      rw [show aj_up g1 88 (3 * (a : Int) + (i : Int)) (mnx a i : Int) 83 (a : Int) = (sf a : Nat) by rw [aj_up_ne _ _ _ (by omega)]; exact s1]
      refine aj_imul 121 (dx d_Model_seal 74 rfl) rfl ?_
      refine aj_iload_n 2 122 (dx d_Model_seal 75 rfl) rfl rfl rfl ?_
      refine aj_iadd 123 (dx d_Model_seal 76 rfl) rfl ?_
      refine aj_iald 124 (dx d_Model_seal 77 rfl) rfl (ms_output hM1.1) rfl (by omega) (by omega) ?_
      rw [show aj_up g1 88 (3 * (a : Int) + (i : Int)) (mnx a i : Int) 80 (3 * (sf a : Int) + (i : Int)) = (mou a i : Nat) by rw [aj_up_ne _ _ _ (by omega), e2, hou]]
      refine aj_iast 125 (dx d_Model_seal 78 rfl) rfl (ms_gives hM1.1) rfl (by omega) (by omega) ?_
      refine aj_iinc 2 128 (dx d_Model_seal 79 rfl) rfl rfl rfl ?_
      simp only [List.set]
      refine aj_goto 62 (dx d_Model_seal 80 rfl) rfl ?_
      rw [show ((i : Nat) : Int) + 1 = ((i + 1 : Nat) : Int) by omega]
      exact ih _ (by omega) (i + 1) _ (by omega) rfl (fun r a b => by rw [aj_up_ne _ _ _ b, aj_up_ne _ _ _ a]; exact hG r a b) (fun x j hx hj => by
        by_cases e : x = a ∧ j = i
        · obtain ⟨rfl, rfl⟩ := e
          exact ⟨by rw [aj_up_ne _ _ _ (by omega), aj_up_self], by rw [aj_up_self]⟩
        · rw [aj_up_ne _ _ _ (by omega), aj_up_ni _ _ _ (by omega), aj_up_ni _ _ _ (by omega), aj_up_ne _ _ _ (by omega)]
          exact hK x j (by omega) hj)
set_option maxHeartbeats 4000000 in
theorem k_sl_a {al : Prop} {X : Option (Nat × (Int → Int))} {d : Nat} {sh : List aj_S} {g : aj_G} {Q : aj_R → List aj_S → aj_G → Prop} {k n s0 : Nat} {nx ou : Nat → Nat → Nat} {tw : Nat → Nat} {N : Nat} {q : nb_T} {sf : Nat → Nat} {mnx mou : Nat → Nat → Nat} (hS : mS sh g k n s0 nx ou tw N q sf mnx mou) (htw : tw_ok k n nx ou tw) (hcl : ∀ s i, s < n → i < k → nx s i < n) (hN : q.1 = N) (hm : smm k n nx ou tw N q mnx mou) (hk : ∀ g1 : aj_G, (∀ r, r ≠ 88 → r ≠ 89 → g1 r = g r) → (∀ x i : Nat, x < N → i < k → g1 88 (3 * (x : Int) + i) = mnx x i ∧ g1 89 (3 * (x : Int) + i) = mou x i) → Q (.inl (some (0, (N : Int)))) sh g1) :
    ∀ (m a : Nat) (g1 : aj_G), a ≤ N → N - a = m → (∀ r, r ≠ 88 → r ≠ 89 → g1 r = g r) → (∀ x i : Nat, x < a → i < k → g1 88 (3 * (x : Int) + i) = mnx x i ∧ g1 89 (3 * (x : Int) + i) = mou x i) →
    aj_wp nE al al X m_Model_seal d 0 0 52 [some (1, 78), some (0, (a : Int)), none] [] sh g1 Q := by
  have hN8 := nb_le hS.2.2.1.2.1
  have hn8 := hS.1.2.2.2.2.1
  intro m
  induction m using Nat.strongRecOn with
  | ind m ih =>
    intro a g1 ha hmm hG hK
    have hS1 : mS sh g1 k n s0 nx ou tw N q sf mnx mou := mS_of hS (fun r a b => hG r (by omega) (by omega)) (fun j _ => by rw [hG 78 (by omega) (by omega)])
    have hM1 := hS1.1
    refine aj_iload_n 1 53 (dx d_Model_seal 28 rfl) rfl rfl rfl ?_
    refine aj_aload_n 0 54 (dx d_Model_seal 29 rfl) rfl rfl rfl ?_
    refine aj_getfv (v := (N : Int)) 57 fl_Model_126 (dx d_Model_seal 30 rfl) rfl hM1.1.1 (by rw [hS1.2.2.1.2.2.1, hN]) ?_
    refine aj_icmp_ge 137 60 (dx d_Model_seal 31 rfl) rfl rfl (by unfold aj_I; omega) (by unfold aj_I; omega) (fun h57 => ?_) (fun h57 => ?_)
    · refine aj_aload_n 0 138 (dx d_Model_seal 83 rfl) rfl rfl rfl ?_
      refine aj_getfv (v := (N : Int)) 141 fl_Model_126 (dx d_Model_seal 84 rfl) rfl hM1.1.1 (by rw [hS1.2.2.1.2.2.1, hN]) ?_
      refine aj_iret (dx d_Model_seal 85 rfl) rfl id ?_
      have e : a = N := by omega
      subst e
      exact hk g1 hG hK
    · refine aj_iconst 61 (dx d_Model_seal 32 rfl) rfl ?_
      refine aj_istore_n 2 62 (dx d_Model_seal 33 rfl) rfl rfl rfl ?_
      simp only [List.set]
      refine k_sl_i hS1 htw hcl hN hm (show a < N by omega) (fun g2 hG2 hK2 => ?_) _ 0 g1 (by omega) rfl (fun r _ _ => rfl) (fun x j hx hj => hK x j (by omega) hj)
      refine aj_iinc 1 134 (dx d_Model_seal 81 rfl) rfl rfl rfl ?_
      simp only [List.set]
      refine aj_goto 52 (dx d_Model_seal 82 rfl) rfl ?_
      rw [show ((a : Nat) : Int) + 1 = ((a + 1 : Nat) : Int) by omega]
      exact ih _ (by omega) (a + 1) g2 (by omega) rfl (fun r a b => (hG2 r a b).trans (hG r a b)) hK2
set_option maxHeartbeats 4000000 in
theorem k_Model_seal {al : Prop} {X : Option (Nat × (Int → Int))} {d : Nat} {sh : List aj_S} {g : aj_G} {Q : aj_R → List aj_S → aj_G → Prop} {k n s0 : Nat} {nx ou : Nat → Nat → Nat} {tw : Nat → Nat} {N : Nat} {q : nb_T} {mnx mou : Nat → Nat → Nat} (hM : mmm sh g k n nx ou) (hcl : ∀ s i, s < n → i < k → nx s i < n) (h6 : g 78 6 = 0) (h5 : g 78 5 = (s0 : Nat)) (hs0 : s0 < n) (htw : tw_ok k n nx ou tw) (hqe : q = nb k nx tw s0 (N * k)) (hq1 : q.1 = N) (hI : nb_I k n nx tw s0 (N * k) q) (hsm : smm k n nx ou tw N q mnx mou)
    (hk : ∀ g1 sf, ms_F g g1 → mS sh g1 k n s0 nx ou tw N q sf mnx mou → g1 78 0 = 0 → g1 78 6 = 1 → mim g1 k N mnx mou → Q (.inl (some (0, (N : Int)))) sh g1) :
    aj_wp nE al al X m_Model_seal (d + 5) 0 0 0 [some (1, 78), none, none] [] sh g Q := by
  have h5x := h5
  refine aj_aload_n 0 1 (dx d_Model_seal 0 rfl) rfl rfl rfl ?_
  refine aj_aload_n 0 2 (dx d_Model_seal 1 rfl) rfl rfl rfl ?_
  refine aj_getfv (v := 0) 5 fl_Model_105 (dx d_Model_seal 2 rfl) rfl hM.1.1 h6 ?_
  refine aj_if_eq 12 8 (dx d_Model_seal 3 rfl) rfl rfl (by unfold aj_I; omega) (fun h5z => ?_) (fun h5z => ?_)
  · refine aj_iconst 13 (dx d_Model_seal 6 rfl) rfl ?_
    refine aj_putf 16 (pl_Model_92 _) (dx d_Model_seal 7 rfl) rfl hM.1.1 (aj_fitI _) ?_
    refine aj_aload_n 0 17 (dx d_Model_seal 8 rfl) rfl rfl rfl ?_
    refine aj_getf 20 fl_Model_92 (dx d_Model_seal 9 rfl) rfl hM.1.1 ?_
    rw [show aj_up g 78 0 0 78 0 = 0 by rw [aj_up_self]]
    refine aj_if_le 25 23 (dx d_Model_seal 10 rfl) rfl rfl (by simp [aj_up_at, aj_I]) (fun h20 => ?_) (fun h20 => ?_)
    · refine aj_aload_n 0 26 (dx d_Model_seal 13 rfl) rfl rfl rfl ?_
      refine aj_iconst 27 (dx d_Model_seal 14 rfl) rfl ?_
      refine aj_putf 30 (pl_Model_105 _) (dx d_Model_seal 15 rfl) rfl hM.1.1 (aj_fitZ (by omega)) ?_
      refine aj_aload_n 0 31 (dx d_Model_seal 16 rfl) rfl rfl rfl ?_
      have hM1 : mmm sh (aj_up (aj_up g 78 0 0) 78 6 1) k n nx ou := mmm_of hM (fun j hj => by simp only [aj_up_at]; rw [if_neg (by unfold mo_fin at hj; omega), if_neg (by unfold mo_fin at hj; omega)]) (by rw [aj_up_ne _ _ _ (by omega), aj_up_ne _ _ _ (by omega)]) (by rw [aj_up_ne _ _ _ (by omega), aj_up_ne _ _ _ (by omega)])
      refine aj_callV0 34 cl_Model_148 (dx d_Model_seal 17 rfl) rfl rfl rfl rfl rfl rfl hM.1.1 (k_Model_measure hM1 hcl (fun g1 hG1 hM2 hT2 => ?_))
      change aj_wp _ _ _ _ _ _ _ _ _ _ _ _ _ _
      refine aj_aload_n 0 35 (dx d_Model_seal 18 rfl) rfl rfl rfl ?_
      refine aj_callV0 38 cl_Model_151 (dx d_Model_seal 19 rfl) rfl rfl rfl rfl rfl rfl hM.1.1 (k_Model_number hM2 hT2 htw hcl hs0 (by rw [hG1 78 (by omega)]; simp [aj_up_at]; exact h5) (fun g2 q2 sf N2 hG2 hB hq2 => ?_))
      change aj_wp _ _ _ _ _ _ _ _ _ _ _ _ _ _
      have hNN : N2 = N := by
        obtain ⟨b1, b2, -⟩ := id hB
        rw [b1] at hq2 b2
        rw [hqe] at hq1 hI
        exact nb_uniq (by have := hM.2.2.2.1; omega) hq2 b2 hq1 hI
      subst hNN
      have hqq : q2 = q := hB.1.trans hqe.symm
      subst hqq
      have hM3 := nu_M hM2 hG2
      have hT3 := nu_T hT2 hG2
      have hk4 := hM.2.2.2.1
      have hn8 := hM.2.2.2.2.1
      have hC := sl_chH (by omega) (by omega) (by omega) htw hcl hB hq2 hsm
      refine aj_aload_n 0 39 (dx d_Model_seal 20 rfl) rfl rfl rfl ?_
      refine aj_callV0 42 cl_Model_154 (dx d_Model_seal 21 rfl) rfl rfl rfl rfl rfl rfl hM.1.1 (k_Model_choose hM3 hT3 hC (fun g3 hG3 hFm hFI hO => ?_))
      change aj_wp _ _ _ _ _ _ _ _ _ _ _ _ _ _
      have hM4 := cm_M hM3 hG3
      have hS : mS sh g3 k n s0 nx ou tw N2 q2 sf mnx mou := by
        refine ⟨hM4, ?_, ?_, hFm, hFI, hO⟩
        · unfold tdm; rw [hG3.1 81 (by omega) (by omega) (by omega) (by omega)]; exact hT3
        · obtain ⟨a1, a2, a3, a4, a5⟩ := hB
          refine ⟨a1, a2, by rw [hG3.2 8 (by omega)]; exact a3, ?_, ?_⟩
          · rw [hG3.1 83 (by omega) (by omega) (by omega) (by omega), hG3.1 84 (by omega) (by omega) (by omega) (by omega)]; exact a4
          · rw [hG3.1 82 (by omega) (by omega) (by omega) (by omega)]; exact a5
      have h38 : g3 78 8 = (N2 : Nat) := by rw [hS.2.2.1.2.2.1, hq2]
      refine aj_aload_n 0 43 (dx d_Model_seal 22 rfl) rfl rfl rfl ?_
      refine aj_aload_n 0 44 (dx d_Model_seal 23 rfl) rfl rfl rfl ?_
      refine aj_getfv (v := (N2 : Int)) 47 fl_Model_126 (dx d_Model_seal 24 rfl) rfl hM4.1.1 h38 ?_
      refine aj_putf 50 (pl_Model_157 _) (dx d_Model_seal 25 rfl) rfl hM4.1.1 (aj_fitI _) ?_
      refine aj_iconst 51 (dx d_Model_seal 26 rfl) rfl ?_
      refine aj_istore_n 1 52 (dx d_Model_seal 27 rfl) rfl rfl rfl ?_
      simp only [List.set]
      have hS2 : mS sh (aj_up g3 78 17 (N2 : Nat)) k n s0 nx ou tw N2 q2 sf mnx mou := mS_of hS (fun r a b => by rw [aj_up_ne _ _ _ (by omega)]) (fun j hj => by rw [aj_up_ni _ _ _ (by unfold mo_fin at hj; omega)])
      have hq8 := nb_le hI
      refine k_sl_a hS2 htw hcl hq2 hsm (fun g4 hG4 hK4 => ?_) _ 0 _ (by omega) rfl (fun r _ _ => rfl) (fun x i hx _ => absurd hx (Nat.not_lt_zero _))
      refine hk g4 sf ⟨fun r a b => ?_, fun j b0 b1 b2 b3 b4 => ?_⟩ (mS_of hS2 (fun r a b => hG4 r (by omega) (by omega)) (fun j _ => by rw [hG4 78 (by omega) (by omega)])) ?_ ?_ ⟨?_, by omega, fun x i hx hi => ?_⟩
      · rw [hG4 r (by omega) (by omega), aj_up_ne _ _ _ a, hG3.1 r a (by omega) (by omega) (by omega), hG2.1 r a (by omega) (by omega) (by omega), hG1 r (by omega), aj_up_ne _ _ _ a, aj_up_ne _ _ _ a]
      · rw [hG4 78 (by omega) (by omega), aj_up_ni _ _ _ b4, hG3.2 j b3, hG2.2 j b2, hG1 78 (by omega), aj_up_ni _ _ _ b1, aj_up_ni _ _ _ b0]
      · rw [hG4 78 (by omega) (by omega), aj_up_ni _ _ _ (by omega), hG3.2 0 (by omega), hG2.2 0 (by omega), hG1 78 (by omega)]; simp [aj_up_at]
      · rw [hG4 78 (by omega) (by omega), aj_up_ni _ _ _ (by omega), hG3.2 6 (by omega), hG2.2 6 (by omega), hG1 78 (by omega)]; simp [aj_up_at]
      · rw [hG4 78 (by omega) (by omega), aj_up_self]
      · obtain ⟨x1, x2⟩ := hK4 x i hx hi
        obtain ⟨m1, m2, m3⟩ := hsm x i hx hi
        exact ⟨x1, x2, m1, by rw [m3]; exact (hM.2.2.2.2.2 _ i (hI.2.2.1 x (by omega)).1 hi).2.2.2⟩
    · exact absurd h20 (by decide)
  · exact absurd rfl h5z
set_option maxHeartbeats 4000000 in
theorem k_Model_seal1 {al : Prop} {X : Option (Nat × (Int → Int))} {d : Nat} {sh : List aj_S} {g : aj_G} {Q : aj_R → List aj_S → aj_G → Prop} (hm : mos sh g) (h6 : g 78 6 = 1) (hk : Q (.inl (some (0, 0))) sh (aj_up g 78 0 1)) : aj_wp nE al al X m_Model_seal d 0 0 0 [some (1, 78), none, none] [] sh g Q := by
  refine aj_aload_n 0 1 (dx d_Model_seal 0 rfl) rfl rfl rfl ?_
  refine aj_aload_n 0 2 (dx d_Model_seal 1 rfl) rfl rfl rfl ?_
  refine aj_getfv (v := 1) 5 fl_Model_105 (dx d_Model_seal 2 rfl) rfl hm.1 h6 ?_
  refine aj_if_eq 12 8 (dx d_Model_seal 3 rfl) rfl rfl (by unfold aj_I; omega) (fun h5 => ?_) (fun h5 => ?_)
  · exact absurd h5 (by decide)
  · refine aj_iconst 9 (dx d_Model_seal 4 rfl) rfl ?_
    refine aj_goto 13 (dx d_Model_seal 5 rfl) rfl ?_
    refine aj_putf 16 (pl_Model_92 _) (dx d_Model_seal 7 rfl) rfl hm.1 (aj_fitI _) ?_
    refine aj_aload_n 0 17 (dx d_Model_seal 8 rfl) rfl rfl rfl ?_
    refine aj_getf 20 fl_Model_92 (dx d_Model_seal 9 rfl) rfl hm.1 ?_
    rw [show aj_up g 78 0 1 78 0 = 1 by rw [aj_up_self]]
    refine aj_if_le 25 23 (dx d_Model_seal 10 rfl) rfl rfl (by unfold aj_I; omega) (fun h20 => ?_) (fun h20 => ?_)
    · exact absurd h20 (by decide)
    · refine aj_iconst 24 (dx d_Model_seal 11 rfl) rfl ?_
      refine aj_iret (dx d_Model_seal 12 rfl) rfl id ?_
      exact hk
end
