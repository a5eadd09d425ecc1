section
/-! A judgement over places: the machine's words are read as whole numbers, a reference as a place's number, the heap as a table of rows of numbers (see PLAN.md). -/
abbrev aj_M : Type := MethodName × ByteArray × Nat × Option FieldType
abbrev aj_S : Type := (Nat × Nat) ⊕ Nat
abbrev aj_A : Type := Nat × Int
abbrev aj_G : Type := Int → Int → Int
abbrev aj_E : Type := List vw_C × List FieldType × (Nat → Nat → Nat) × List Cond × List (String × Nat × MethodName × String)
abbrev aj_R : Type := Option aj_A ⊕ Nat
def aj_rf (a : Nat → Nat) (x : Int) : Option Nat := if x < 0 then none else some (a x.toNat)
def aj_c (a : Nat → Nat) (v : aj_A) : Value := match v.1 with
  | 0 => .int (Int32.ofInt v.2)
  | 1 => va_rf (aj_rf a v.2)
  | _ => .long (Int64.ofInt v.2)
theorem aj_c0 (a : Nat → Nat) (x : Int) : aj_c a (0, x) = .int (Int32.ofInt x) := rfl
theorem aj_c1 (a : Nat → Nat) (x : Int) : aj_c a (1, x) = va_rf (aj_rf a x) := rfl
theorem aj_c2 (a : Nat → Nat) (x : Int) : aj_c a (2, x) = .long (Int64.ofInt x) := rfl
theorem aj_rfp {a : Nat → Nat} {r : Int} (h : 0 ≤ r) : aj_rf a r = some (a r.toNat) := by
  unfold aj_rf
  rw [if_neg (by omega)]
theorem aj_rfn {a : Nat → Nat} {r : Int} (h : r < 0) : aj_rf a r = none := by
  unfold aj_rf
  rw [if_pos h]
theorem aj_cr {a : Nat → Nat} {r : Int} (h : 0 ≤ r) : aj_c a (1, r) = .ref (a r.toNat) := by
  rw [aj_c1, aj_rfp h]; rfl
theorem aj_cat {a : Nat → Nat} {v : aj_A} (h : v.1 < 2) : (aj_c a v).category = 1 := by
  obtain ⟨t, x⟩ := v
  match t, h with
  | 0, _ => rfl
  | 1, _ =>
    rw [aj_c1]
    by_cases hx : x < 0
    · rw [aj_rfn hx]; rfl
    · rw [aj_rfp (by omega)]; rfl
theorem aj_cat2 {a : Nat → Nat} {v : aj_A} (h : ¬ v.1 < 2) : (aj_c a v).category = 2 := by
  obtain ⟨t, x⟩ := v
  match t, h with
  | 0, h => exact absurd (show (0 : Nat) < 2 by decide) h
  | 1, h => exact absurd (show (1 : Nat) < 2 by decide) h
  | t + 2, _ => rfl
/-! numbers -/
def aj_I (x : Int) : Prop := -2147483648 ≤ x ∧ x < 2147483648
def aj_L (x : Int) : Prop := -9223372036854775808 ≤ x ∧ x < 9223372036854775808
theorem aj_ti {x : Int} (h : aj_I x) : (Int32.ofInt x).toInt = x := Int32.toInt_ofInt_of_le h.1 h.2
theorem aj_tl {x : Int} (h : aj_L x) : (Int64.ofInt x).toInt = x := Int64.toInt_ofInt_of_le h.1 h.2
theorem aj_eq {x y : Int} (hx : aj_I x) (hy : aj_I y) : Int32.ofInt x = Int32.ofInt y ↔ x = y := by
  constructor
  · intro h
    have h2 := congrArg Int32.toInt h
    rwa [aj_ti hx, aj_ti hy] at h2
  · intro h
    rw [h]
theorem aj_lt {x y : Int} (hx : aj_I x) (hy : aj_I y) : Int32.ofInt x < Int32.ofInt y ↔ x < y := by
  rw [Int32.lt_iff_toInt_lt, aj_ti hx, aj_ti hy]
theorem aj_le {x y : Int} (hx : aj_I x) (hy : aj_I y) : Int32.ofInt x ≤ Int32.ofInt y ↔ x ≤ y := by
  rw [Int32.le_iff_toInt_le, aj_ti hx, aj_ti hy]
theorem aj_0 : (0 : Int32) = Int32.ofInt 0 := by decide +kernel
theorem aj_I0 : aj_I 0 := by unfold aj_I; omega
theorem aj_clamp {i : Int} {n : Nat} (h0 : 0 ≤ i) (hi : i < n) (hn : n < 2147483648) : (Int32.ofInt i).toNatClampNeg = i.toNat := by
  have h1 : aj_I i := ⟨by omega, by omega⟩
  show (Int32.ofInt i).toInt.toNat = i.toNat
  rw [aj_ti h1]
theorem aj_in {i : Int} {n : Nat} (h0 : 0 ≤ i) (hi : i < n) (hn : n < 2147483648) : vp_in (Int32.ofInt i) n := by
  have h1 : aj_I i := ⟨by omega, by omega⟩
  rw [vp_in_iff, aj_ti h1]
  exact ⟨h0, hi⟩
/-! the picture -/
def aj_nf (E : aj_E) (ci : Nat) : Nat := match E.1[ci]? with
  | some q => q.2.2
  | none => 0
def aj_row (a : Nat → Nat) (t : Option FieldType) (f : Int → Int) : (Nat → Int32) ⊕ (Nat → Int64) ⊕ (Nat → UInt32) ⊕ (Nat → UInt64) ⊕ (Nat → Option Nat) := match t with
  | some .long => .inr (.inl (fun j => Int64.ofInt (f j)))
  | some (.object _) => .inr (.inr (.inr (.inr (fun j => aj_rf a (f j)))))
  | some (.array _) => .inr (.inr (.inr (.inr (fun j => aj_rf a (f j)))))
  | _ => .inl (fun j => Int32.ofInt (f j))
def aj_cell (E : aj_E) (tc a : Nat → Nat) (x : aj_S) (f : Int → Int) : va_E := match x with
  | .inl y => .inl (tc y.1, y.2, aj_row a E.2.1[y.1]? f)
  | .inr ci => .inr (ci, (List.range (aj_nf E ci)).map (fun j => aj_c a (E.2.2.1 ci j, f (j : Nat))))
def aj_w (E : aj_E) (tc a : Nat → Nat) (sh : List aj_S) (g : aj_G) : va_W := sh.mapIdx (fun k x => (a k, aj_cell E tc a x (g (k : Nat))))
def aj_ty (tc : Nat → Nat) (ty : List FieldType) : List (ClassId × FieldType) := ty.mapIdx (fun k t => (tc k, t))
def aj_sh (sh : List aj_S) (r : Int) : Option aj_S := if r < 0 then none else sh[r.toNat]?
def aj_up (g : aj_G) (r i x : Int) : aj_G := fun r' => if r' = r then (fun i' => if i' = i then x else g r i') else g r'
theorem aj_up_self (g : aj_G) (r i x : Int) : aj_up g r i x r i = x := by simp [aj_up]
theorem aj_up_ne (g : aj_G) {r r' : Int} (i x : Int) (h : r' ≠ r) : aj_up g r i x r' = g r' := by simp [aj_up, h]
theorem aj_up_ni (g : aj_G) (r : Int) {i i' : Int} (x : Int) (h : i' ≠ i) : aj_up g r i x r i' = g r i' := by simp [aj_up, h]
theorem aj_up_at (g : aj_G) (r i x r' i' : Int) : aj_up g r i x r' i' = if r' = r ∧ i' = i then x else g r' i' := by
  unfold aj_up
  by_cases h : r' = r
  · subst h
    by_cases h2 : i' = i <;> simp [h2]
  · simp [h]
theorem aj_sh_get {sh : List aj_S} {r : Int} {x : aj_S} (h : aj_sh sh r = some x) : 0 ≤ r ∧ sh[r.toNat]? = some x := by
  unfold aj_sh at h
  by_cases hr : r < 0
  · rw [if_pos hr] at h; cases h
  · rw [if_neg hr] at h
    exact ⟨by omega, h⟩
theorem aj_w_at (E : aj_E) (tc a : Nat → Nat) (sh : List aj_S) (g : aj_G) (k : Nat) : (aj_w E tc a sh g)[k]? = (sh[k]?).map (fun x => (a k, aj_cell E tc a x (g (k : Nat)))) := by
  unfold aj_w
  rw [List.getElem?_mapIdx]
theorem aj_w_get {E : aj_E} {tc a : Nat → Nat} {sh : List aj_S} {g : aj_G} {r : Int} {x : aj_S} (h : aj_sh sh r = some x) : (aj_w E tc a sh g)[r.toNat]? = some (a r.toNat, aj_cell E tc a x (g r)) := by
  obtain ⟨h0, h1⟩ := aj_sh_get h
  rw [aj_w_at, h1, Option.map_some, Int.toNat_of_nonneg h0]
theorem aj_w_set {E : aj_E} {tc a : Nat → Nat} {sh : List aj_S} {g g' : aj_G} {r : Int} {x : aj_S} {c : va_E} (h : aj_sh sh r = some x) (hc : aj_cell E tc a x (g' r) = c) (ho : ∀ r', r' ≠ r → g' r' = g r') : (aj_w E tc a sh g).set r.toNat (a r.toNat, c) = aj_w E tc a sh g' := by
  obtain ⟨h0, h1⟩ := aj_sh_get h
  have hr : ((r.toNat : Nat) : Int) = r := Int.toNat_of_nonneg h0
  have hl : r.toNat < (aj_w E tc a sh g).length := by
    have := (List.getElem?_eq_some_iff.mp h1).1
    unfold aj_w
    rw [List.length_mapIdx]
    exact this
  apply List.ext_getElem?
  intro j
  by_cases hj : r.toNat = j
  · subst hj
    rw [List.getElem?_set_self hl, aj_w_at, h1, Option.map_some, hr, hc]
  · rw [List.getElem?_set_ne hj, aj_w_at, aj_w_at, ho (j : Nat) (fun e => hj (by omega))]
theorem aj_w_push {E : aj_E} {tc a : Nat → Nat} {sh : List aj_S} {g g' : aj_G} {x : aj_S} {c : va_E} (hc : aj_cell E tc a x (g' (sh.length : Nat)) = c) (ho : ∀ k : Nat, k < sh.length → g' (k : Nat) = g (k : Nat)) : aj_w E tc a sh g ++ [(a sh.length, c)] = aj_w E tc a (sh ++ [x]) g' := by
  apply List.ext_getElem?
  intro j
  have hl : (aj_w E tc a sh g).length = sh.length := by unfold aj_w; rw [List.length_mapIdx]
  by_cases hj : j < sh.length
  · rw [List.getElem?_append_left (by rw [hl]; exact hj), aj_w_at, aj_w_at, List.getElem?_append_left hj, ho j hj]
  · rw [List.getElem?_append_right (by rw [hl]; omega), aj_w_at, List.getElem?_append_right (by omega), hl]
    by_cases h2 : j = sh.length
    · subst h2
      simp [hc]
    · have h3 : ∃ k, j - sh.length = k + 1 := ⟨j - sh.length - 1, by omega⟩
      obtain ⟨k, hk⟩ := h3
      rw [hk]
      simp
theorem aj_ty_at {tc : Nat → Nat} {ty : List FieldType} {k : Nat} {t : FieldType} (hk : ty[k]? = some t) : (aj_ty tc ty)[k]? = some (tc k, t) := by
  unfold aj_ty
  rw [List.getElem?_mapIdx, hk]; rfl
theorem aj_nf_of {E : aj_E} {ci : Nat} {C : String} {T : u_T} {N : Nat} (h : E.1[ci]? = some (C, T, N)) : aj_nf E ci = N := by
  unfold aj_nf
  rw [h]
/-! the locals: by slot number -/
def aj_l (a : Nat → Nat) (lv : List (Option aj_A)) : List (Nat × Value) := (List.range lv.length).filterMap (fun i => (lv[i]?).join.map (fun v => (i, aj_c a v)))
theorem aj_l_mem {a : Nat → Nat} {lv : List (Option aj_A)} {i : Nat} {w : Value} : (i, w) ∈ aj_l a lv ↔ ∃ v, lv[i]? = some (some v) ∧ w = aj_c a v := by
  unfold aj_l
  rw [List.mem_filterMap]
  constructor
  · rintro ⟨j, -, hj⟩
    cases hv : (lv[j]?).join with
    | none => rw [hv] at hj; cases hj
    | some v =>
      rw [hv] at hj
      cases hj
      exact ⟨v, Option.join_eq_some_iff.mp hv, rfl⟩
  · rintro ⟨v, h1, rfl⟩
    have hlt : i < lv.length := (List.getElem?_eq_some_iff.mp h1).1
    exact ⟨i, List.mem_range.mpr hlt, by rw [h1]; rfl⟩
theorem aj_lget {ls : Array Slot} {n : Nat} {a : Nat → Nat} {lv : List (Option aj_A)} {i : Nat} {v : aj_A} (h : lv_has ls n (aj_l a lv)) (hv : lv[i]? = some (some v)) : ls[i]? = some (.val (aj_c a v)) := h.2.2 (i, aj_c a v) (aj_l_mem.mpr ⟨v, hv, rfl⟩)
def aj_nl (lv : List (Option aj_A)) (i : Nat) : Bool := match i with
  | 0 => true
  | j + 1 => match lv[j]? with
    | some (some v) => Nat.blt v.1 2
    | _ => true
def aj_ok (lv : List (Option aj_A)) (i : Nat) : Bool := Nat.blt i lv.length && aj_nl lv i
theorem aj_nl_spec {a : Nat → Nat} {lv : List (Option aj_A)} {j : Nat} {v : aj_A} (h : aj_nl lv (j + 1) = true) (hv : lv[j]? = some (some v)) : ¬ (aj_c a v).category = 2 := by
  unfold aj_nl at h
  simp only [hv] at h
  have h2 : v.1 < 2 := Nat.blt_eq ▸ h
  rw [aj_cat h2]
  decide
theorem aj_st1 {a : Nat → Nat} {ls : Array Slot} {n i : Nat} {lv : List (Option aj_A)} {v : aj_A} {w : Value} (hw : aj_c a v = w) (ho : aj_ok lv i = true) (h : lv_has ls n ((i, w) :: (aj_l a lv).filter (fun q => !(q.1 == i) && !(q.1 + 1 == i && q.2.category == 2)))) : lv_has ls n (aj_l a (lv.set i (some v))) := by
  refine ⟨h.1, h.2.1, fun q hq => h.2.2 q ?_⟩
  obtain ⟨j, u⟩ := q
  obtain ⟨y, h1, h2⟩ := aj_l_mem.mp hq
  unfold aj_ok at ho
  rw [Bool.and_eq_true] at ho
  have hlt : i < lv.length := Nat.blt_eq ▸ ho.1
  by_cases hj : j = i
  · subst hj
    rw [List.getElem?_set_self hlt] at h1
    cases h1
    rw [h2, hw]
    exact List.mem_cons_self
  · rw [List.getElem?_set_ne (Ne.symm hj)] at h1
    refine List.mem_cons_of_mem _ (List.mem_filter.mpr ⟨aj_l_mem.mpr ⟨y, h1, h2⟩, ?_⟩)
    have hb : ¬ (j + 1 = i ∧ u.category = 2) := by
      rintro ⟨e1, e2⟩
      subst e1
      rw [h2] at e2
      exact aj_nl_spec ho.2 h1 e2
    simp only [Bool.and_eq_true, Bool.not_eq_true', beq_eq_false_iff_ne, ne_eq, Bool.and_eq_false_imp, beq_iff_eq]
    exact ⟨hj, fun e1 e2 => hb ⟨e1, e2⟩⟩
theorem aj_st2 {a : Nat → Nat} {ls : Array Slot} {n i : Nat} {lv : List (Option aj_A)} {v : aj_A} {w : Value} (hw : aj_c a v = w) (ho : aj_ok lv i = true) (h : lv_has ls n ((i, w) :: (aj_l a lv).filter (fun q => !(q.1 == i) && (!(q.1 == i + 1) && !(q.1 + 1 == i && q.2.category == 2))))) : lv_has ls n (aj_l a ((lv.set i (some v)).set (i + 1) none)) := by
  refine ⟨h.1, h.2.1, fun q hq => h.2.2 q ?_⟩
  obtain ⟨j, u⟩ := q
  obtain ⟨y, h1, h2⟩ := aj_l_mem.mp hq
  unfold aj_ok at ho
  rw [Bool.and_eq_true] at ho
  have hlt : i < lv.length := Nat.blt_eq ▸ ho.1
  have hj1 : ¬ j = i + 1 := by
    intro e
    subst e
    have h3 := h1
    have h4 : i + 1 < ((lv.set i (some v)).set (i + 1) none).length := (List.getElem?_eq_some_iff.mp h1).1
    rw [List.length_set] at h4
    rw [List.getElem?_set_self h4] at h3
    cases h3
  rw [List.getElem?_set_ne (fun e => hj1 e.symm)] at h1
  by_cases hj : j = i
  · subst hj
    rw [List.getElem?_set_self hlt] at h1
    cases h1
    rw [h2, hw]
    exact List.mem_cons_self
  · rw [List.getElem?_set_ne (Ne.symm hj)] at h1
    refine List.mem_cons_of_mem _ (List.mem_filter.mpr ⟨aj_l_mem.mpr ⟨y, h1, h2⟩, ?_⟩)
    have hb : ¬ (j + 1 = i ∧ u.category = 2) := by
      rintro ⟨e1, e2⟩
      subst e1
      rw [h2] at e2
      exact aj_nl_spec ho.2 h1 e2
    simp only [Bool.and_eq_true, Bool.not_eq_true', beq_eq_false_iff_ne, ne_eq, Bool.and_eq_false_imp, beq_iff_eq]
    exact ⟨hj, hj1, fun e1 e2 => hb ⟨e1, e2⟩⟩
/-- a slot is forgotten -/
theorem aj_forget1 {a : Nat → Nat} {ls : Array Slot} {n i : Nat} {lv : List (Option aj_A)} (h : lv_has ls n (aj_l a lv)) : lv_has ls n (aj_l a (lv.set i none)) := by
  refine ⟨h.1, h.2.1, fun q hq => h.2.2 q ?_⟩
  obtain ⟨j, u⟩ := q
  obtain ⟨y, h1, h2⟩ := aj_l_mem.mp hq
  by_cases hj : i = j
  · subst hj
    have h4 : i < (lv.set i none).length := (List.getElem?_eq_some_iff.mp h1).1
    rw [List.length_set] at h4
    rw [List.getElem?_set_self h4] at h1
    cases h1
  · rw [List.getElem?_set_ne hj] at h1
    exact aj_l_mem.mpr ⟨y, h1, h2⟩
/-! a method's first locals -/
def aj_ea : List aj_A → List (Option aj_A)
  | [] => []
  | v :: vs => if v.1 < 2 then some v :: aj_ea vs else some v :: none :: aj_ea vs
def aj_en (vs : List aj_A) (n : Nat) : List (Option aj_A) := aj_ea vs ++ List.replicate (n - (aj_ea vs).length) none
theorem aj_ea_args {a : Nat → Nat} : ∀ (vs : List aj_A) (i j : Nat) (v : aj_A), (aj_ea vs)[j]? = some (some v) → (i + j, aj_c a v) ∈ lv_args i (vs.map (aj_c a))
  | [], i, j, v, h => by simp [aj_ea] at h
  | w :: vs, i, j, v, h => by
    rw [List.map_cons]
    unfold lv_args
    unfold aj_ea at h
    by_cases hw : w.1 < 2
    · rw [if_pos hw] at h
      rw [if_neg (by rw [aj_cat hw]; decide)]
      cases j with
      | zero =>
        simp at h
        subst h
        exact List.mem_cons_self
      | succ j =>
        rw [List.getElem?_cons_succ] at h
        have := aj_ea_args (a := a) vs (i + 1) j v h
        rw [show i + (j + 1) = i + 1 + j by omega]
        exact List.mem_cons_of_mem _ this
    · rw [if_neg hw] at h
      rw [if_pos (aj_cat2 hw)]
      cases j with
      | zero =>
        simp at h
        subst h
        exact List.mem_cons_self
      | succ j =>
        rw [List.getElem?_cons_succ] at h
        cases j with
        | zero => simp at h
        | succ j =>
          rw [List.getElem?_cons_succ] at h
          have := aj_ea_args (a := a) vs (i + 2) j v h
          rw [show i + (j + 1 + 1) = i + 2 + j by omega]
          exact List.mem_cons_of_mem _ this
theorem aj_ea_len {a : Nat → Nat} : ∀ (vs : List aj_A), (lg_sl (vs.map (aj_c a))).length = (aj_ea vs).length
  | [] => rfl
  | w :: vs => by
    have ih := aj_ea_len (a := a) vs
    unfold lg_sl at ih ⊢
    unfold aj_ea
    rw [List.map_cons, List.flatMap_cons, List.length_append, ih]
    by_cases hw : w.1 < 2
    · rw [if_pos hw, if_neg (by rw [aj_cat hw]; decide)]
      simp
      omega
    · rw [if_neg hw, if_pos (aj_cat2 hw)]
      simp
      omega
theorem aj_entry {a : Nat → Nat} {vs : List aj_A} {n : Nat} {ls : Array Slot} (h : lv_has ls n (lv_args 0 (vs.map (aj_c a)))) : lv_has ls n (aj_l a (aj_en vs n)) := by
  refine ⟨h.1, h.2.1, fun q hq => h.2.2 q ?_⟩
  obtain ⟨j, u⟩ := q
  obtain ⟨y, h1, h2⟩ := aj_l_mem.mp hq
  unfold aj_en at h1
  by_cases hj : j < (aj_ea vs).length
  · rw [List.getElem?_append_left hj] at h1
    have := aj_ea_args (a := a) vs 0 j y h1
    rw [Nat.zero_add] at this
    rw [h2]
    exact this
  · rw [List.getElem?_append_right (by omega)] at h1
    rw [List.getElem?_replicate] at h1
    split at h1 <;> cases h1
end
section
/-! the judgement -/
def aj_kd (t : FieldType) : Nat := match t with
  | .long => 2
  | .object _ => 1
  | .array _ => 1
  | _ => 0
def aj_smp (t : FieldType) : Bool := match t with
  | .float => false
  | .double => false
  | _ => true
def aj_good (E : aj_E) : Prop :=
  (∀ w ∈ E.2.2.2.1, (w.onTables && w.keeps) = true ∨ ∃ ty, w = .arrayClass ty) ∧
  ∀ (ci : Nat) (q : vw_C), E.1[ci]? = some q → (∀ w ∈ u_ws q.1 q.2.1 q.2.2, w ∈ E.2.2.2.1) ∧ (∀ a, a < q.2.2 → ∀ b, b < q.2.2 → a ≠ b → (q.2.1 a).2.1 ≠ (q.2.1 b).2.1) ∧
    ∃ ty0 : Nat → FieldType, (∀ k, k < q.2.2 → parseFieldDescriptor (q.2.1 k).2.2.1 = some (ty0 k)) ∧ ∀ k, k < q.2.2 → E.2.2.1 ci k = aj_kd (ty0 k) ∧ aj_smp (ty0 k) = true
def aj_ph (al : Prop) (sh : List aj_S) (a : Nat → Nat) (n : Nat) : Prop := (al → ∀ j, sh.length + j < 1000000 → a (sh.length + j) = n + j) ∧ ∀ (k t n : Nat), sh[k]? = some (.inl (t, n)) → n < 2147483648
def aj_xs (E : aj_E) (X : Option (Nat × (Int → Int))) (a : Nat → Nat) (A : Nat → Prop) (s : State) : Prop := (∀ y, X = some y → va_X (a 1000000) y.1 (fun j => Int32.ofInt (y.2 j)) s s.heap ∧ a 1000000 < s.heap.size ∧ ¬ A (a 1000000) ∧ y.1 < 2147483648) ∧ ∀ w ∈ E.2.2.2.2, va_Nw (.methodLinkNest w.1 w.2.1 w.2.2.1 w.2.2.2) s
def aj_cx (E : aj_E) (al : Prop) (X : Option (Nat × (Int → Int))) (M : aj_M) (d bc bs : Nat) (lv : List (Option aj_A)) (sh : List aj_S) (g : aj_G)
    (a tc : Nat → Nat) (D : va_G) (A : Nat → Prop) (p : Program) (R : Room) (s : State) (m : MethodId) (args : Array Value) (meth : Method) (c : Code) (H : Heap) (locs : List Loc) (cells slots : Nat) (ls : Array Slot) : Prop :=
  (p.tables.exec = Jvm.exec ∧ c.code = M.2.1 ∧ c.maxLocals = M.2.2.1 ∧ s.vm.findClass M.1.cls = some m.cls ∧ ∀ w ∈ E.2.2.2.1, w.before args s = true) ∧
  (meth.sig.returnType = M.2.2.2 ∧ meth.locks = false ∧ meth.name = M.1.name) ∧
  (d + 2 ≤ R.frames ∧ 48 * d ≤ R.locals ∧ cells + bc ≤ R.cells ∧ slots + bs ≤ R.slots) ∧
  (va_P D E.1 (aj_w E tc a sh g) H ∧ va_K D E.1 (aj_ty tc E.2.1) s ∧ va_D A (aj_w E tc a sh g) ∧ va_S A s.heap H locs ∧ ∀ q, s.heap.size ≤ q → A q) ∧
  (lv.length = M.2.2.1 ∧ lv_has ls M.2.2.1 (aj_l a lv)) ∧
  aj_ph al sh a H.size ∧ aj_good E ∧ aj_xs E X a A s
/-- how a method may end: it returns, or it throws an object of the k-th class of exc -/
def aj_out (exc : List String) (a : Nat → Nat) (r : aj_R) (o : Outcome) (t : State) : Prop := match r with
  | .inl v => o = .returned (v.map (aj_c a))
  | .inr k => ∃ (b : Nat) (cell : Cell) (E : String), o = .threw b ∧ t.heap[b]? = some cell ∧ cell.vm = .none ∧ exc[k]? = some E ∧ t.vm.findClass E = some cell.cls
def aj_exc : List String := ["java/lang/IllegalArgumentException", "java/lang/IllegalStateException", "java/lang/UnsupportedOperationException"]
def aj_fin (E : aj_E) (ao : Prop) (a tc : Nat → Nat) (D : va_G) (A : Nat → Prop) (Q : aj_R → List aj_S → aj_G → Prop) (below : List Frame) (s : State) (MC MS : Nat) : State → Prop := fun t =>
  ∃ (o : Outcome) (r : aj_R) (sh : List aj_S) (g : aj_G), t.status = .running ∧ Ended t below o ∧ Q r sh g ∧ aj_out aj_exc a r o t ∧ va_P D E.1 (aj_w E tc a sh g) t.heap ∧ va_D A (aj_w E tc a sh g) ∧ va_F A s t ∧
    aj_ph ao sh a t.heap.size ∧ ∃ L, s.WarmedH t.vm ∧ s.sameButNew ({ t with vm := s.vm } : State) L MC MS ∧ ∀ q ∈ L, A q.base
def aj_wp (E : aj_E) (al ao : Prop) (X : Option (Nat × (Int → Int))) (M : aj_M) (d bc bs : Nat) (pc : Nat) (lv : List (Option aj_A)) (st : List aj_A) (sh : List aj_S) (g : aj_G) (Q : aj_R → List aj_S → aj_G → Prop) : Prop :=
  ∀ (p : Program) (l : Launch) (e : Env) (R : Room) (s : State) (m : MethodId) (args : Array Value) (below : List Frame) (meth : Method) (c : Code) (H : Heap) (locs : List Loc) (cells slots : Nat) (ls : Array Slot) (a tc : Nat → Nat) (D : va_G) (A : Nat → Prop),
    aj_cx E al X M d bc bs lv sh g a tc D A p R s m args meth c H locs cells slots ls →
    W p l e R s m args below meth c H locs cells slots (aj_fin E ao a tc D A Q below s (cells + bc) (slots + bs)) (F0 m pc ls (st.map (aj_c a)))
theorem aj_monoW {p : Program} {l : Launch} {e : Env} {R : Room} {s : State} {m : MethodId} {args : Array Value} {below : List Frame} {meth : Method} {c : Code} {H : Heap} {locs : List Loc} {cells slots : Nat} {Q Q' : State → Prop} {g : JFrame}
    (hq : ∀ t, Q t → Q' t) (k : W p l e R s m args below meth c H locs cells slots Q g) : W p l e R s m args below meth c H locs cells slots Q' g := by
  intro T hT X
  obtain ⟨t, h1, h2⟩ := k T hT X
  exact ⟨t, h1, hq t h2⟩
section AJR
variable {E : aj_E} {al ao : Prop} {X : Option (Nat × (Int → Int))} {M : aj_M} {d bc bs pc : Nat} {lv : List (Option aj_A)} {st : List aj_A} {sh : List aj_S} {g : aj_G} {Q Q' : aj_R → List aj_S → aj_G → Prop}
theorem aj_mono (hq : ∀ r sh g, Q r sh g → Q' r sh g) (k : aj_wp E al ao X M d bc bs pc lv st sh g Q) : aj_wp E al ao X M d bc bs pc lv st sh g Q' := by
  intro p l e R s m args below meth c H locs cells slots ls a tc D A hc
  refine aj_monoW ?_ (k p l e R s m args below meth c H locs cells slots ls a tc D A hc)
  rintro t ⟨o, r, sh, g, e1, e2, e3, e4⟩
  exact ⟨o, r, sh, g, e1, e2, hq r sh g e3, e4⟩
/-- objects have been made: from here on the addresses that come are free -/
theorem aj_off (k : aj_wp E False ao X M d bc bs pc lv st sh g Q) : aj_wp E al ao X M d bc bs pc lv st sh g Q := by
  intro p l e R s m args below meth c H locs cells slots ls a tc D A ⟨h1, h2, h3, h4, h5, h6, h7⟩
  exact k p l e R s m args below meth c H locs cells slots ls a tc D A ⟨h1, h2, h3, h4, h5, ⟨fun h => h.elim, h6.2⟩, h7⟩
theorem aj_forget (i : Nat) (k : aj_wp E al ao X M d bc bs pc (lv.set i none) st sh g Q) : aj_wp E al ao X M d bc bs pc lv st sh g Q := by
  intro p l e R s m args below meth c H locs cells slots ls a tc D A ⟨h1, h2, h3, h4, h5, h6⟩
  exact k p l e R s m args below meth c H locs cells slots ls a tc D A ⟨h1, h2, h3, h4, ⟨by rw [List.length_set]; exact h5.1, aj_forget1 h5.2⟩, h6⟩
/-- an instruction that changes the operand stack alone -/
theorem aj_lift {pc' : Nat} {st' : List aj_A} (h : ∀ (p : Program) (l : Launch) (e : Env) (R : Room) (s : State) (m : MethodId) (args : Array Value) (below : List Frame) (meth : Method) (c : Code) (H : Heap) (locs : List Loc) (cells slots : Nat) (Z : State → Prop) (ls : Array Slot) (a : Nat → Nat),
      p.tables.exec = Jvm.exec → c.code = M.2.1 → lv_has ls M.2.2.1 (aj_l a lv) → W p l e R s m args below meth c H locs cells slots Z (F0 m pc' ls (st'.map (aj_c a))) → W p l e R s m args below meth c H locs cells slots Z (F0 m pc ls (st.map (aj_c a))))
    (k : aj_wp E al ao X M d bc bs pc' lv st' sh g Q) : aj_wp E al ao X M d bc bs pc lv st sh g Q := by
  intro p l e R s m args below meth c H locs cells slots ls a tc D A hc
  exact h p l e R s m args below meth c H locs cells slots _ ls a hc.1.1 hc.1.2.1 hc.2.2.2.2.1.2 (k p l e R s m args below meth c H locs cells slots ls a tc D A hc)
theorem aj_iconst {n : Int} (q : Nat) (hd : decode M.2.1 pc = .ok (.iconst n, 1)) (hq : pc + 1 = q) (k : aj_wp E al ao X M d bc bs q lv ((0, n) :: st) sh g Q) : aj_wp E al ao X M d bc bs pc lv st sh g Q := by
  subst hq
  exact aj_lift (fun p l e R s m args below meth c H locs cells slots Z ls a hx hb hl k => lv_iconst (v := Int32.ofInt n) hx hb hd rfl k) k
theorem aj_bipush {n : Int} (q : Nat) (hd : decode M.2.1 pc = .ok (.bipush n, 2)) (hq : pc + 2 = q) (hn : (Int8.ofInt n).toInt32 = Int32.ofInt n) (k : aj_wp E al ao X M d bc bs q lv ((0, n) :: st) sh g Q) : aj_wp E al ao X M d bc bs pc lv st sh g Q := by
  subst hq
  exact aj_lift (fun p l e R s m args below meth c H locs cells slots Z ls a hx hb hl k => lv_bipush (v := Int32.ofInt n) hx hb hd hn k) k
theorem aj_sipush {n : Int} (q : Nat) (hd : decode M.2.1 pc = .ok (.sipush n, 3)) (hq : pc + 3 = q) (hn : (Int16.ofInt n).toInt32 = Int32.ofInt n) (k : aj_wp E al ao X M d bc bs q lv ((0, n) :: st) sh g Q) : aj_wp E al ao X M d bc bs pc lv st sh g Q := by
  subst hq
  exact aj_lift (fun p l e R s m args below meth c H locs cells slots Z ls a hx hb hl k => lv_sipush (v := Int32.ofInt n) hx hb hd hn k) k
theorem aj_lconst {n : Fin 2} {x : Int} (q : Nat) (hd : decode M.2.1 pc = .ok (.lconst n, 1)) (hq : pc + 1 = q) (hx : ((n : Nat) : Int) = x) (k : aj_wp E al ao X M d bc bs q lv ((2, x) :: st) sh g Q) : aj_wp E al ao X M d bc bs pc lv st sh g Q := by
  subst hq
  subst hx
  exact aj_lift (fun p l e R s m args below meth c H locs cells slots Z ls a hx hb hl k => lv_lconst (v := Int64.ofInt ((n : Nat) : Int)) hx hb hd Int64.ofInt_eq_ofNat.symm k) k
theorem aj_iload_n {n : Fin 4} {x : Int} (i q : Nat) (hd : decode M.2.1 pc = .ok (.iload_n n, 1)) (hi : (n : Nat) = i) (hq : pc + 1 = q) (hl : lv[i]? = some (some (0, x))) (k : aj_wp E al ao X M d bc bs q lv ((0, x) :: st) sh g Q) : aj_wp E al ao X M d bc bs pc lv st sh g Q := by
  subst hq
  exact aj_lift (fun p l e R s m args below meth c H locs cells slots Z ls a hx hb hls k => lv_iload_n (x := Int32.ofInt x) hx hb hd hi (aj_lget hls hl) k) k
theorem aj_iload {x : Int} (i q : Nat) (hd : decode M.2.1 pc = .ok (.iload i, 2)) (hq : pc + 2 = q) (hl : lv[i]? = some (some (0, x))) (k : aj_wp E al ao X M d bc bs q lv ((0, x) :: st) sh g Q) : aj_wp E al ao X M d bc bs pc lv st sh g Q := by
  subst hq
  exact aj_lift (fun p l e R s m args below meth c H locs cells slots Z ls a hx hb hls k => lv_iload (x := Int32.ofInt x) hx hb hd (aj_lget hls hl) k) k
theorem aj_lload_n {n : Fin 4} {x : Int} (i q : Nat) (hd : decode M.2.1 pc = .ok (.lload_n n, 1)) (hi : (n : Nat) = i) (hq : pc + 1 = q) (hl : lv[i]? = some (some (2, x))) (k : aj_wp E al ao X M d bc bs q lv ((2, x) :: st) sh g Q) : aj_wp E al ao X M d bc bs pc lv st sh g Q := by
  subst hq
  exact aj_lift (fun p l e R s m args below meth c H locs cells slots Z ls a hx hb hls k => lv_lload_n (x := Int64.ofInt x) hx hb hd hi (aj_lget hls hl) k) k
theorem aj_lload {x : Int} (i q : Nat) (hd : decode M.2.1 pc = .ok (.lload i, 2)) (hq : pc + 2 = q) (hl : lv[i]? = some (some (2, x))) (k : aj_wp E al ao X M d bc bs q lv ((2, x) :: st) sh g Q) : aj_wp E al ao X M d bc bs pc lv st sh g Q := by
  subst hq
  exact aj_lift (fun p l e R s m args below meth c H locs cells slots Z ls a hx hb hls k => lv_lload (x := Int64.ofInt x) hx hb hd (aj_lget hls hl) k) k
theorem aj_aload_n {n : Fin 4} {x : Int} (i q : Nat) (hd : decode M.2.1 pc = .ok (.aload_n n, 1)) (hi : (n : Nat) = i) (hq : pc + 1 = q) (hl : lv[i]? = some (some (1, x))) (k : aj_wp E al ao X M d bc bs q lv ((1, x) :: st) sh g Q) : aj_wp E al ao X M d bc bs pc lv st sh g Q := by
  subst hq
  refine aj_lift (fun p l e R s m args below meth c H locs cells slots Z ls a hx hb hls k => ?_) k
  have hg := aj_lget hls hl
  rw [List.map_cons] at k
  by_cases h0 : x < 0
  · rw [aj_c1, aj_rfn h0] at hg k
    exact lv_aload_nN hx hb hd hi hg k
  · rw [aj_cr (by omega)] at hg k
    exact lv_aload_n hx hb hd hi hg k
theorem aj_aload {x : Int} (i q : Nat) (hd : decode M.2.1 pc = .ok (.aload i, 2)) (hq : pc + 2 = q) (hl : lv[i]? = some (some (1, x))) (k : aj_wp E al ao X M d bc bs q lv ((1, x) :: st) sh g Q) : aj_wp E al ao X M d bc bs pc lv st sh g Q := by
  subst hq
  refine aj_lift (fun p l e R s m args below meth c H locs cells slots Z ls a hx hb hls k => ?_) k
  have hg := aj_lget hls hl
  rw [List.map_cons] at k
  by_cases h0 : x < 0
  · rw [aj_c1, aj_rfn h0] at hg k
    exact lv_aloadN hx hb hd hg k
  · rw [aj_cr (by omega)] at hg k
    exact lv_aload hx hb hd hg k
/-- an instruction that changes a slot of the locals -/
theorem aj_lst {pc' : Nat} {st' : List aj_A} {lv' : List (Option aj_A)} (hlen : lv'.length = lv.length) (h : ∀ (p : Program) (l : Launch) (e : Env) (R : Room) (s : State) (m : MethodId) (args : Array Value) (below : List Frame) (meth : Method) (c : Code) (H : Heap) (locs : List Loc) (cells slots : Nat) (Z : State → Prop) (ls : Array Slot) (a : Nat → Nat),
      p.tables.exec = Jvm.exec → c.code = M.2.1 → lv.length = M.2.2.1 → lv_has ls M.2.2.1 (aj_l a lv) → (∀ ls', lv_has ls' M.2.2.1 (aj_l a lv') → W p l e R s m args below meth c H locs cells slots Z (F0 m pc' ls' (st'.map (aj_c a)))) → W p l e R s m args below meth c H locs cells slots Z (F0 m pc ls (st.map (aj_c a))))
    (k : aj_wp E al ao X M d bc bs pc' lv' st' sh g Q) : aj_wp E al ao X M d bc bs pc lv st sh g Q := by
  intro p l e R s m args below meth c H locs cells slots ls a tc D A hc
  obtain ⟨h1, h2, h3, h4, h5, h6⟩ := hc
  exact h p l e R s m args below meth c H locs cells slots _ ls a h1.1 h1.2.1 h5.1 h5.2 (fun ls' hls => k p l e R s m args below meth c H locs cells slots ls' a tc D A ⟨h1, h2, h3, h4, ⟨hlen.trans h5.1, hls⟩, h6⟩)
theorem aj_oklt {i : Nat} (h : aj_ok lv i = true) : i < lv.length := by
  unfold aj_ok at h
  rw [Bool.and_eq_true] at h
  exact Nat.blt_eq ▸ h.1
theorem aj_istore_n {n : Fin 4} {x : Int} (i q : Nat) (hd : decode M.2.1 pc = .ok (.istore_n n, 1)) (hi : (n : Nat) = i) (hq : pc + 1 = q) (ho : aj_ok lv i = true) (k : aj_wp E al ao X M d bc bs q (lv.set i (some (0, x))) st sh g Q) : aj_wp E al ao X M d bc bs pc lv ((0, x) :: st) sh g Q := by
  subst hq
  exact aj_lst (List.length_set ..) (fun p l e R s m args below meth c H locs cells slots Z ls a hx hb hn hls k => lv_istore_n (x := Int32.ofInt x) hx hb hd hi hls (hn ▸ aj_oklt ho) rfl (fun ls' h' => k ls' (aj_st1 (v := (0, x)) rfl ho h'))) k
theorem aj_istore {x : Int} (i q : Nat) (hd : decode M.2.1 pc = .ok (.istore i, 2)) (hq : pc + 2 = q) (ho : aj_ok lv i = true) (k : aj_wp E al ao X M d bc bs q (lv.set i (some (0, x))) st sh g Q) : aj_wp E al ao X M d bc bs pc lv ((0, x) :: st) sh g Q := by
  subst hq
  exact aj_lst (List.length_set ..) (fun p l e R s m args below meth c H locs cells slots Z ls a hx hb hn hls k => lv_istore (x := Int32.ofInt x) hx hb hd hls (hn ▸ aj_oklt ho) rfl (fun ls' h' => k ls' (aj_st1 (v := (0, x)) rfl ho h'))) k
theorem aj_lstore_n {n : Fin 4} {x : Int} (i q : Nat) (hd : decode M.2.1 pc = .ok (.lstore_n n, 1)) (hi : (n : Nat) = i) (hq : pc + 1 = q) (ho : aj_ok lv i = true) (ho2 : Nat.blt (i + 1) lv.length = true) (k : aj_wp E al ao X M d bc bs q ((lv.set i (some (2, x))).set (i + 1) none) st sh g Q) : aj_wp E al ao X M d bc bs pc lv ((2, x) :: st) sh g Q := by
  subst hq
  exact aj_lst (by rw [List.length_set, List.length_set]) (fun p l e R s m args below meth c H locs cells slots Z ls a hx hb hn hls k => lv_lstore_n (x := Int64.ofInt x) hx hb hd hi hls (hn ▸ (Nat.blt_eq ▸ ho2)) rfl (fun ls' h' => k ls' (aj_st2 (v := (2, x)) rfl ho h'))) k
theorem aj_lstore {x : Int} (i q : Nat) (hd : decode M.2.1 pc = .ok (.lstore i, 2)) (hq : pc + 2 = q) (ho : aj_ok lv i = true) (ho2 : Nat.blt (i + 1) lv.length = true) (k : aj_wp E al ao X M d bc bs q ((lv.set i (some (2, x))).set (i + 1) none) st sh g Q) : aj_wp E al ao X M d bc bs pc lv ((2, x) :: st) sh g Q := by
  subst hq
  exact aj_lst (by rw [List.length_set, List.length_set]) (fun p l e R s m args below meth c H locs cells slots Z ls a hx hb hn hls k => lv_lstore (x := Int64.ofInt x) hx hb hd hls (hn ▸ (Nat.blt_eq ▸ ho2)) rfl (fun ls' h' => k ls' (aj_st2 (v := (2, x)) rfl ho h'))) k
theorem aj_astore_n {n : Fin 4} {x : Int} (i q : Nat) (hd : decode M.2.1 pc = .ok (.astore_n n, 1)) (hi : (n : Nat) = i) (hq : pc + 1 = q) (ho : aj_ok lv i = true) (k : aj_wp E al ao X M d bc bs q (lv.set i (some (1, x))) st sh g Q) : aj_wp E al ao X M d bc bs pc lv ((1, x) :: st) sh g Q := by
  subst hq
  refine aj_lst (List.length_set ..) (fun p l e R s m args below meth c H locs cells slots Z ls a hx hb hn hls k => ?_) k
  rw [List.map_cons]
  by_cases h0 : x < 0
  · have hw : aj_c a (1, x) = .null := by rw [aj_c1, aj_rfn h0]; rfl
    rw [hw]
    exact lv_astore_nN hx hb hd hi hls (hn ▸ aj_oklt ho) rfl (fun ls' h' => k ls' (aj_st1 hw ho h'))
  · have hw : aj_c a (1, x) = .ref (a x.toNat) := aj_cr (by omega)
    rw [hw]
    exact lv_astore_n hx hb hd hi hls (hn ▸ aj_oklt ho) rfl (fun ls' h' => k ls' (aj_st1 hw ho h'))
theorem aj_astore {x : Int} (i q : Nat) (hd : decode M.2.1 pc = .ok (.astore i, 2)) (hq : pc + 2 = q) (ho : aj_ok lv i = true) (k : aj_wp E al ao X M d bc bs q (lv.set i (some (1, x))) st sh g Q) : aj_wp E al ao X M d bc bs pc lv ((1, x) :: st) sh g Q := by
  subst hq
  refine aj_lst (List.length_set ..) (fun p l e R s m args below meth c H locs cells slots Z ls a hx hb hn hls k => ?_) k
  rw [List.map_cons]
  by_cases h0 : x < 0
  · have hw : aj_c a (1, x) = .null := by rw [aj_c1, aj_rfn h0]; rfl
    rw [hw]
    exact lv_astoreN hx hb hd hls (hn ▸ aj_oklt ho) rfl (fun ls' h' => k ls' (aj_st1 hw ho h'))
  · have hw : aj_c a (1, x) = .ref (a x.toNat) := aj_cr (by omega)
    rw [hw]
    exact lv_astore hx hb hd hls (hn ▸ aj_oklt ho) rfl (fun ls' h' => k ls' (aj_st1 hw ho h'))
theorem aj_iinc {x n : Int} (i q : Nat) (hd : decode M.2.1 pc = .ok (.iinc i n, 3)) (hq : pc + 3 = q) (hl : lv[i]? = some (some (0, x))) (ho : aj_ok lv i = true) (k : aj_wp E al ao X M d bc bs q (lv.set i (some (0, x + n))) st sh g Q) : aj_wp E al ao X M d bc bs pc lv st sh g Q := by
  subst hq
  refine aj_lst (List.length_set ..) (fun p l e R s m args below meth c H locs cells slots Z ls a hx hb hn hls k => ?_) k
  obtain ⟨k0, hk0⟩ := List.getElem?_of_mem (aj_l_mem.mpr ⟨_, hl, rfl⟩ : (i, aj_c a (0, x)) ∈ aj_l a lv)
  exact lv_iinc (x := Int32.ofInt x) (v := Int32.ofInt (x + n)) hx hb hd hls hk0 (Int32.ofInt_add x n).symm (hn ▸ aj_oklt ho) rfl (fun ls' h' => k ls' (aj_st1 (v := (0, x + n)) rfl ho h'))
/-! arithmetic -/
theorem aj_iadd {x y : Int} (q : Nat) (hd : decode M.2.1 pc = .ok (.iadd, 1)) (hq : pc + 1 = q) (k : aj_wp E al ao X M d bc bs q lv ((0, x + y) :: st) sh g Q) : aj_wp E al ao X M d bc bs pc lv ((0, y) :: (0, x) :: st) sh g Q := by
  subst hq
  exact aj_lift (fun p l e R s m args below meth c H locs cells slots Z ls a hx hb hls k => lv_iadd (x := Int32.ofInt x) (y := Int32.ofInt y) hx hb hd (by rw [← Int32.ofInt_add]; exact k)) k
theorem aj_isub {x y : Int} (q : Nat) (hd : decode M.2.1 pc = .ok (.isub, 1)) (hq : pc + 1 = q) (k : aj_wp E al ao X M d bc bs q lv ((0, x - y) :: st) sh g Q) : aj_wp E al ao X M d bc bs pc lv ((0, y) :: (0, x) :: st) sh g Q := by
  subst hq
  exact aj_lift (fun p l e R s m args below meth c H locs cells slots Z ls a hx hb hls k => lv_isub (x := Int32.ofInt x) (y := Int32.ofInt y) hx hb hd (by rw [← Int32.ofInt_sub]; exact k)) k
theorem aj_imul {x y : Int} (q : Nat) (hd : decode M.2.1 pc = .ok (.imul, 1)) (hq : pc + 1 = q) (k : aj_wp E al ao X M d bc bs q lv ((0, x * y) :: st) sh g Q) : aj_wp E al ao X M d bc bs pc lv ((0, y) :: (0, x) :: st) sh g Q := by
  subst hq
  exact aj_lift (fun p l e R s m args below meth c H locs cells slots Z ls a hx hb hls k => lv_imul (x := Int32.ofInt x) (y := Int32.ofInt y) hx hb hd (by rw [← Int32.ofInt_mul]; exact k)) k
theorem aj_ladd {x y : Int} (q : Nat) (hd : decode M.2.1 pc = .ok (.ladd, 1)) (hq : pc + 1 = q) (k : aj_wp E al ao X M d bc bs q lv ((2, x + y) :: st) sh g Q) : aj_wp E al ao X M d bc bs pc lv ((2, y) :: (2, x) :: st) sh g Q := by
  subst hq
  exact aj_lift (fun p l e R s m args below meth c H locs cells slots Z ls a hx hb hls k => lv_ladd (x := Int64.ofInt x) (y := Int64.ofInt y) hx hb hd (by rw [← Int64.ofInt_add]; exact k)) k
theorem aj_idiv {x y v : Int} (q : Nat) (hd : decode M.2.1 pc = .ok (.idiv, 1)) (hq : pc + 1 = q) (hn : ¬ Int32.ofInt y = 0) (hv : Int32.ofInt x / Int32.ofInt y = Int32.ofInt v) (k : aj_wp E al ao X M d bc bs q lv ((0, v) :: st) sh g Q) : aj_wp E al ao X M d bc bs pc lv ((0, y) :: (0, x) :: st) sh g Q := by
  subst hq
  exact aj_lift (fun p l e R s m args below meth c H locs cells slots Z ls a hx hb hls k => lv_idiv (x := Int32.ofInt x) (y := Int32.ofInt y) hx hb hd hn (by rw [hv]; exact k)) k
theorem aj_irem {x y v : Int} (q : Nat) (hd : decode M.2.1 pc = .ok (.irem, 1)) (hq : pc + 1 = q) (hn : ¬ Int32.ofInt y = 0) (hv : Int32.ofInt x - Int32.ofInt x / Int32.ofInt y * Int32.ofInt y = Int32.ofInt v) (k : aj_wp E al ao X M d bc bs q lv ((0, v) :: st) sh g Q) : aj_wp E al ao X M d bc bs pc lv ((0, y) :: (0, x) :: st) sh g Q := by
  subst hq
  exact aj_lift (fun p l e R s m args below meth c H locs cells slots Z ls a hx hb hls k => lv_irem (x := Int32.ofInt x) (y := Int32.ofInt y) hx hb hd hn (by rw [hv]; exact k)) k
theorem aj_iand {x y v : Int} (q : Nat) (hd : decode M.2.1 pc = .ok (.iand, 1)) (hq : pc + 1 = q) (hv : Int32.ofInt x &&& Int32.ofInt y = Int32.ofInt v) (k : aj_wp E al ao X M d bc bs q lv ((0, v) :: st) sh g Q) : aj_wp E al ao X M d bc bs pc lv ((0, y) :: (0, x) :: st) sh g Q := by
  subst hq
  exact aj_lift (fun p l e R s m args below meth c H locs cells slots Z ls a hx hb hls k => lv_iand (x := Int32.ofInt x) (y := Int32.ofInt y) hx hb hd (by rw [hv]; exact k)) k
theorem aj_ior {x y v : Int} (q : Nat) (hd : decode M.2.1 pc = .ok (.ior, 1)) (hq : pc + 1 = q) (hv : Int32.ofInt x ||| Int32.ofInt y = Int32.ofInt v) (k : aj_wp E al ao X M d bc bs q lv ((0, v) :: st) sh g Q) : aj_wp E al ao X M d bc bs pc lv ((0, y) :: (0, x) :: st) sh g Q := by
  subst hq
  exact aj_lift (fun p l e R s m args below meth c H locs cells slots Z ls a hx hb hls k => lv_ior (x := Int32.ofInt x) (y := Int32.ofInt y) hx hb hd (by rw [hv]; exact k)) k
theorem aj_ishl {x y v : Int} (q : Nat) (hd : decode M.2.1 pc = .ok (.ishl, 1)) (hq : pc + 1 = q) (hv : Int32.ofInt x <<< (Int32.ofInt y &&& 31) = Int32.ofInt v) (k : aj_wp E al ao X M d bc bs q lv ((0, v) :: st) sh g Q) : aj_wp E al ao X M d bc bs pc lv ((0, y) :: (0, x) :: st) sh g Q := by
  subst hq
  exact aj_lift (fun p l e R s m args below meth c H locs cells slots Z ls a hx hb hls k => lv_ishl (x := Int32.ofInt x) (y := Int32.ofInt y) hx hb hd (by rw [hv]; exact k)) k
theorem aj_land {x y v : Int} (q : Nat) (hd : decode M.2.1 pc = .ok (.land, 1)) (hq : pc + 1 = q) (hv : Int64.ofInt x &&& Int64.ofInt y = Int64.ofInt v) (k : aj_wp E al ao X M d bc bs q lv ((2, v) :: st) sh g Q) : aj_wp E al ao X M d bc bs pc lv ((2, y) :: (2, x) :: st) sh g Q := by
  subst hq
  exact aj_lift (fun p l e R s m args below meth c H locs cells slots Z ls a hx hb hls k => lv_land (x := Int64.ofInt x) (y := Int64.ofInt y) hx hb hd (by rw [hv]; exact k)) k
theorem aj_lor {x y v : Int} (q : Nat) (hd : decode M.2.1 pc = .ok (.lor, 1)) (hq : pc + 1 = q) (hv : Int64.ofInt x ||| Int64.ofInt y = Int64.ofInt v) (k : aj_wp E al ao X M d bc bs q lv ((2, v) :: st) sh g Q) : aj_wp E al ao X M d bc bs pc lv ((2, y) :: (2, x) :: st) sh g Q := by
  subst hq
  exact aj_lift (fun p l e R s m args below meth c H locs cells slots Z ls a hx hb hls k => lv_lor (x := Int64.ofInt x) (y := Int64.ofInt y) hx hb hd (by rw [hv]; exact k)) k
theorem aj_lshl {x y v : Int} (q : Nat) (hd : decode M.2.1 pc = .ok (.lshl, 1)) (hq : pc + 1 = q) (hv : Int64.ofInt x <<< ((Int32.ofInt y).toInt64 &&& 63) = Int64.ofInt v) (k : aj_wp E al ao X M d bc bs q lv ((2, v) :: st) sh g Q) : aj_wp E al ao X M d bc bs pc lv ((0, y) :: (2, x) :: st) sh g Q := by
  subst hq
  exact aj_lift (fun p l e R s m args below meth c H locs cells slots Z ls a hx hb hls k => lv_lshl (x := Int64.ofInt x) (y := Int32.ofInt y) hx hb hd hv k) k
theorem aj_lshr {x y v : Int} (q : Nat) (hd : decode M.2.1 pc = .ok (.lshr, 1)) (hq : pc + 1 = q) (hv : Int64.ofInt x >>> ((Int32.ofInt y).toInt64 &&& 63) = Int64.ofInt v) (k : aj_wp E al ao X M d bc bs q lv ((2, v) :: st) sh g Q) : aj_wp E al ao X M d bc bs pc lv ((0, y) :: (2, x) :: st) sh g Q := by
  subst hq
  exact aj_lift (fun p l e R s m args below meth c H locs cells slots Z ls a hx hb hls k => lv_lshr (x := Int64.ofInt x) (y := Int32.ofInt y) hx hb hd hv k) k
theorem aj_i2l {x : Int} (q : Nat) (hd : decode M.2.1 pc = .ok (.i2l, 1)) (hq : pc + 1 = q) (hx : aj_I x) (k : aj_wp E al ao X M d bc bs q lv ((2, x) :: st) sh g Q) : aj_wp E al ao X M d bc bs pc lv ((0, x) :: st) sh g Q := by
  subst hq
  exact aj_lift (fun p l e R s m args below meth c H locs cells slots Z ls a hx0 hb hls k => lv_i2l (x := Int32.ofInt x) (v := Int64.ofInt x) hx0 hb hd (Int64.toInt_inj.mp (by rw [Int32.toInt_toInt64, aj_ti hx, aj_tl ⟨by have := hx.1; omega, by have := hx.2; omega⟩])) k) k
theorem aj_l2i {x : Int} (q : Nat) (hd : decode M.2.1 pc = .ok (.l2i, 1)) (hq : pc + 1 = q) (k : aj_wp E al ao X M d bc bs q lv ((0, x) :: st) sh g Q) : aj_wp E al ao X M d bc bs pc lv ((2, x) :: st) sh g Q := by
  subst hq
  exact aj_lift (fun p l e R s m args below meth c H locs cells slots Z ls a hx hb hls k => lv_l2i (x := Int64.ofInt x) (v := Int32.ofInt x) hx hb hd Int64.toInt32_ofInt k) k
def aj_sg (x y : Int) : Int := if y < x then 1 else if x = y then 0 else -1
theorem aj_lcmp {x y : Int} (q : Nat) (hd : decode M.2.1 pc = .ok (.lcmp, 1)) (hq : pc + 1 = q) (h1 : aj_L x) (h2 : aj_L y) (k : aj_wp E al ao X M d bc bs q lv ((0, aj_sg x y) :: st) sh g Q) : aj_wp E al ao X M d bc bs pc lv ((2, y) :: (2, x) :: st) sh g Q := by
  subst hq
  refine aj_lift (fun p l e R s m args below meth c H locs cells slots Z ls a hx hb hls k => W.lcmp (x := Int64.ofInt x) (y := Int64.ofInt y) hx hb hd ?_) k
  have hlt : Int64.ofInt y < Int64.ofInt x ↔ y < x := by rw [Int64.lt_iff_toInt_lt, aj_tl h1, aj_tl h2]
  have heq : Int64.ofInt x = Int64.ofInt y ↔ x = y := by rw [← Int64.toInt_inj, aj_tl h1, aj_tl h2]
  have e : lg_cmp (Int64.ofInt x) (Int64.ofInt y) = Int32.ofInt (aj_sg x y) := by
    unfold lg_cmp aj_sg
    by_cases c1 : y < x
    · simp [hlt, c1]
      try rfl
    · by_cases c2 : x = y
      · subst c2
        simp
        try rfl
      · simp [hlt, heq, c1, c2]
        try rfl
  rw [e]
  exact k
theorem aj_dup {v : aj_A} (q : Nat) (hd : decode M.2.1 pc = .ok (.dup, 1)) (hq : pc + 1 = q) (hv : Nat.blt v.1 2 = true) (k : aj_wp E al ao X M d bc bs q lv (v :: v :: st) sh g Q) : aj_wp E al ao X M d bc bs pc lv (v :: st) sh g Q := by
  subst hq
  exact aj_lift (fun p l e R s m args below meth c H locs cells slots Z ls a hx hb hls k => lv_dup hx hb hd (aj_cat (Nat.blt_eq ▸ hv)) k) k
theorem aj_pop {v : aj_A} (q : Nat) (hd : decode M.2.1 pc = .ok (.pop, 1)) (hq : pc + 1 = q) (hv : Nat.blt v.1 2 = true) (k : aj_wp E al ao X M d bc bs q lv st sh g Q) : aj_wp E al ao X M d bc bs pc lv (v :: st) sh g Q := by
  subst hq
  exact aj_lift (fun p l e R s m args below meth c H locs cells slots Z ls a hx hb hls k => lv_pop hx hb hd (aj_cat (Nat.blt_eq ▸ hv)) k) k
theorem aj_dup_x1 {v w : aj_A} (q : Nat) (hd : decode M.2.1 pc = .ok (.dup_x1, 1)) (hq : pc + 1 = q) (hv : Nat.blt v.1 2 = true) (hw : Nat.blt w.1 2 = true) (k : aj_wp E al ao X M d bc bs q lv (v :: w :: v :: st) sh g Q) : aj_wp E al ao X M d bc bs pc lv (v :: w :: st) sh g Q := by
  subst hq
  exact aj_lift (fun p l e R s m args below meth c H locs cells slots Z ls a hx hb hls k => lv_dup_x1 hx hb hd (aj_cat (Nat.blt_eq ▸ hv)) (aj_cat (Nat.blt_eq ▸ hw)) k) k
theorem aj_dup2 {v w : aj_A} (q : Nat) (hd : decode M.2.1 pc = .ok (.dup2, 1)) (hq : pc + 1 = q) (hv : Nat.blt v.1 2 = true) (hw : Nat.blt w.1 2 = true) (k : aj_wp E al ao X M d bc bs q lv (v :: w :: v :: w :: st) sh g Q) : aj_wp E al ao X M d bc bs pc lv (v :: w :: st) sh g Q := by
  subst hq
  exact aj_lift (fun p l e R s m args below meth c H locs cells slots Z ls a hx hb hls k => lv_dup2_11 hx hb hd (aj_cat (Nat.blt_eq ▸ hv)) (aj_cat (Nat.blt_eq ▸ hw)) k) k
/-! branches -/
theorem aj_goto {off : Int} (t : Nat) (hd : decode M.2.1 pc = .ok (.goto off, 3)) (ht : (pc : Int) + off = (t : Int)) (k : aj_wp E al ao X M d bc bs t lv st sh g Q) : aj_wp E al ao X M d bc bs pc lv st sh g Q :=
  aj_lift (fun p l e R s m args below meth c H locs cells slots Z ls a hx hb hls k => lv_goto hx hb hd ht k) k
theorem aj_lift2 {pc1 pc2 : Nat} {st' : List aj_A} {P : Prop} (h : ∀ (p : Program) (l : Launch) (e : Env) (R : Room) (s : State) (m : MethodId) (args : Array Value) (below : List Frame) (meth : Method) (c : Code) (H : Heap) (locs : List Loc) (cells slots : Nat) (Z : State → Prop) (ls : Array Slot) (a : Nat → Nat),
      p.tables.exec = Jvm.exec → c.code = M.2.1 → (P → W p l e R s m args below meth c H locs cells slots Z (F0 m pc1 ls (st'.map (aj_c a)))) → (¬ P → W p l e R s m args below meth c H locs cells slots Z (F0 m pc2 ls (st'.map (aj_c a)))) → W p l e R s m args below meth c H locs cells slots Z (F0 m pc ls (st.map (aj_c a))))
    (kt : P → aj_wp E al ao X M d bc bs pc1 lv st' sh g Q) (kf : ¬ P → aj_wp E al ao X M d bc bs pc2 lv st' sh g Q) : aj_wp E al ao X M d bc bs pc lv st sh g Q := by
  intro p l e R s m args below meth c H locs cells slots ls a tc D A hc
  exact h p l e R s m args below meth c H locs cells slots _ ls a hc.1.1 hc.1.2.1 (fun hp => kt hp p l e R s m args below meth c H locs cells slots ls a tc D A hc) (fun hp => kf hp p l e R s m args below meth c H locs cells slots ls a tc D A hc)
theorem aj_if_eq {x off : Int} (t q : Nat) (hd : decode M.2.1 pc = .ok (.ifCond .eq off, 3)) (ht : (pc : Int) + off = (t : Int)) (hq : pc + 3 = q) (hx : aj_I x) (kt : x = 0 → aj_wp E al ao X M d bc bs t lv st sh g Q) (kf : ¬ x = 0 → aj_wp E al ao X M d bc bs q lv st sh g Q) : aj_wp E al ao X M d bc bs pc lv ((0, x) :: st) sh g Q := by
  subst hq
  have e : Int32.ofInt x = 0 ↔ x = 0 := by rw [aj_0]; exact aj_eq hx aj_I0
  exact aj_lift2 (fun p l e0 R s m args below meth c H locs cells slots Z ls a hx hb kt kf => lv_if_eq (x := Int32.ofInt x) hx hb hd ht (fun h => kt (e.mp h)) (fun h => kf (fun z => h (e.mpr z)))) kt kf
theorem aj_if_ne {x off : Int} (t q : Nat) (hd : decode M.2.1 pc = .ok (.ifCond .ne off, 3)) (ht : (pc : Int) + off = (t : Int)) (hq : pc + 3 = q) (hx : aj_I x) (kt : ¬ x = 0 → aj_wp E al ao X M d bc bs t lv st sh g Q) (kf : x = 0 → aj_wp E al ao X M d bc bs q lv st sh g Q) : aj_wp E al ao X M d bc bs pc lv ((0, x) :: st) sh g Q := by
  subst hq
  have e : Int32.ofInt x = 0 ↔ x = 0 := by rw [aj_0]; exact aj_eq hx aj_I0
  refine aj_lift2 (P := ¬ x = 0) (fun p l e0 R s m args below meth c H locs cells slots Z ls a hx hb kt kf => lv_if_ne (x := Int32.ofInt x) hx hb hd ht (fun h => kt (fun z => h (e.mpr z))) (fun h => kf (fun z => z (e.mp h)))) kt (fun h => kf (Classical.byContradiction h))
theorem aj_if_lt {x off : Int} (t q : Nat) (hd : decode M.2.1 pc = .ok (.ifCond .lt off, 3)) (ht : (pc : Int) + off = (t : Int)) (hq : pc + 3 = q) (hx : aj_I x) (kt : x < 0 → aj_wp E al ao X M d bc bs t lv st sh g Q) (kf : 0 ≤ x → aj_wp E al ao X M d bc bs q lv st sh g Q) : aj_wp E al ao X M d bc bs pc lv ((0, x) :: st) sh g Q := by
  subst hq
  have e : Int32.ofInt x < 0 ↔ x < 0 := by rw [aj_0]; exact aj_lt hx aj_I0
  exact aj_lift2 (fun p l e0 R s m args below meth c H locs cells slots Z ls a hx hb kt kf => lv_if_lt (x := Int32.ofInt x) hx hb hd ht (fun h => kt (e.mp h)) (fun h => kf (fun z => h (e.mpr z)))) kt (fun h => kf (by omega))
theorem aj_if_ge {x off : Int} (t q : Nat) (hd : decode M.2.1 pc = .ok (.ifCond .ge off, 3)) (ht : (pc : Int) + off = (t : Int)) (hq : pc + 3 = q) (hx : aj_I x) (kt : 0 ≤ x → aj_wp E al ao X M d bc bs t lv st sh g Q) (kf : x < 0 → aj_wp E al ao X M d bc bs q lv st sh g Q) : aj_wp E al ao X M d bc bs pc lv ((0, x) :: st) sh g Q := by
  subst hq
  have e : 0 ≤ Int32.ofInt x ↔ 0 ≤ x := by rw [aj_0]; exact aj_le aj_I0 hx
  exact aj_lift2 (fun p l e0 R s m args below meth c H locs cells slots Z ls a hx hb kt kf => lv_if_ge (x := Int32.ofInt x) hx hb hd ht (fun h => kt (e.mp h)) (fun h => kf (fun z => h (e.mpr z)))) kt (fun h => kf (by omega))
theorem aj_if_gt {x off : Int} (t q : Nat) (hd : decode M.2.1 pc = .ok (.ifCond .gt off, 3)) (ht : (pc : Int) + off = (t : Int)) (hq : pc + 3 = q) (hx : aj_I x) (kt : 0 < x → aj_wp E al ao X M d bc bs t lv st sh g Q) (kf : x ≤ 0 → aj_wp E al ao X M d bc bs q lv st sh g Q) : aj_wp E al ao X M d bc bs pc lv ((0, x) :: st) sh g Q := by
  subst hq
  have e : 0 < Int32.ofInt x ↔ 0 < x := by rw [aj_0]; exact aj_lt aj_I0 hx
  exact aj_lift2 (fun p l e0 R s m args below meth c H locs cells slots Z ls a hx hb kt kf => lv_if_gt (x := Int32.ofInt x) hx hb hd ht (fun h => kt (e.mp h)) (fun h => kf (fun z => h (e.mpr z)))) kt (fun h => kf (by omega))
theorem aj_if_le {x off : Int} (t q : Nat) (hd : decode M.2.1 pc = .ok (.ifCond .le off, 3)) (ht : (pc : Int) + off = (t : Int)) (hq : pc + 3 = q) (hx : aj_I x) (kt : x ≤ 0 → aj_wp E al ao X M d bc bs t lv st sh g Q) (kf : 0 < x → aj_wp E al ao X M d bc bs q lv st sh g Q) : aj_wp E al ao X M d bc bs pc lv ((0, x) :: st) sh g Q := by
  subst hq
  have e : Int32.ofInt x ≤ 0 ↔ x ≤ 0 := by rw [aj_0]; exact aj_le hx aj_I0
  exact aj_lift2 (fun p l e0 R s m args below meth c H locs cells slots Z ls a hx hb kt kf => lv_if_le (x := Int32.ofInt x) hx hb hd ht (fun h => kt (e.mp h)) (fun h => kf (fun z => h (e.mpr z)))) kt (fun h => kf (by omega))
theorem aj_icmp_eq {x y off : Int} (t q : Nat) (hd : decode M.2.1 pc = .ok (.if_icmp .eq off, 3)) (ht : (pc : Int) + off = (t : Int)) (hq : pc + 3 = q) (hx : aj_I x) (hy : aj_I y) (kt : x = y → aj_wp E al ao X M d bc bs t lv st sh g Q) (kf : ¬ x = y → aj_wp E al ao X M d bc bs q lv st sh g Q) : aj_wp E al ao X M d bc bs pc lv ((0, y) :: (0, x) :: st) sh g Q := by
  subst hq
  have e := aj_eq hx hy
  exact aj_lift2 (fun p l e0 R s m args below meth c H locs cells slots Z ls a hx hb kt kf => lv_icmp_eq (x := Int32.ofInt x) (y := Int32.ofInt y) hx hb hd ht (fun h => kt (e.mp h)) (fun h => kf (fun z => h (e.mpr z)))) kt kf
theorem aj_icmp_ne {x y off : Int} (t q : Nat) (hd : decode M.2.1 pc = .ok (.if_icmp .ne off, 3)) (ht : (pc : Int) + off = (t : Int)) (hq : pc + 3 = q) (hx : aj_I x) (hy : aj_I y) (kt : ¬ x = y → aj_wp E al ao X M d bc bs t lv st sh g Q) (kf : x = y → aj_wp E al ao X M d bc bs q lv st sh g Q) : aj_wp E al ao X M d bc bs pc lv ((0, y) :: (0, x) :: st) sh g Q := by
  subst hq
  have e := aj_eq hx hy
  exact aj_lift2 (P := ¬ x = y) (fun p l e0 R s m args below meth c H locs cells slots Z ls a hx hb kt kf => lv_icmp_ne (x := Int32.ofInt x) (y := Int32.ofInt y) hx hb hd ht (fun h => kt (fun z => h (e.mpr z))) (fun h => kf (fun z => z (e.mp h)))) kt (fun h => kf (Classical.byContradiction h))
theorem aj_icmp_lt {x y off : Int} (t q : Nat) (hd : decode M.2.1 pc = .ok (.if_icmp .lt off, 3)) (ht : (pc : Int) + off = (t : Int)) (hq : pc + 3 = q) (hx : aj_I x) (hy : aj_I y) (kt : x < y → aj_wp E al ao X M d bc bs t lv st sh g Q) (kf : y ≤ x → aj_wp E al ao X M d bc bs q lv st sh g Q) : aj_wp E al ao X M d bc bs pc lv ((0, y) :: (0, x) :: st) sh g Q := by
  subst hq
  have e := aj_lt hx hy
  exact aj_lift2 (fun p l e0 R s m args below meth c H locs cells slots Z ls a hx hb kt kf => lv_icmp_lt (x := Int32.ofInt x) (y := Int32.ofInt y) hx hb hd ht (fun h => kt (e.mp h)) (fun h => kf (fun z => h (e.mpr z)))) kt (fun h => kf (by omega))
theorem aj_icmp_ge {x y off : Int} (t q : Nat) (hd : decode M.2.1 pc = .ok (.if_icmp .ge off, 3)) (ht : (pc : Int) + off = (t : Int)) (hq : pc + 3 = q) (hx : aj_I x) (hy : aj_I y) (kt : y ≤ x → aj_wp E al ao X M d bc bs t lv st sh g Q) (kf : x < y → aj_wp E al ao X M d bc bs q lv st sh g Q) : aj_wp E al ao X M d bc bs pc lv ((0, y) :: (0, x) :: st) sh g Q := by
  subst hq
  have e := aj_le hy hx
  exact aj_lift2 (fun p l e0 R s m args below meth c H locs cells slots Z ls a hx hb kt kf => lv_icmp_ge (x := Int32.ofInt x) (y := Int32.ofInt y) hx hb hd ht (fun h => kt (e.mp h)) (fun h => kf (fun z => h (e.mpr z)))) kt (fun h => kf (by omega))
theorem aj_icmp_gt {x y off : Int} (t q : Nat) (hd : decode M.2.1 pc = .ok (.if_icmp .gt off, 3)) (ht : (pc : Int) + off = (t : Int)) (hq : pc + 3 = q) (hx : aj_I x) (hy : aj_I y) (kt : y < x → aj_wp E al ao X M d bc bs t lv st sh g Q) (kf : x ≤ y → aj_wp E al ao X M d bc bs q lv st sh g Q) : aj_wp E al ao X M d bc bs pc lv ((0, y) :: (0, x) :: st) sh g Q := by
  subst hq
  have e := aj_lt hy hx
  exact aj_lift2 (fun p l e0 R s m args below meth c H locs cells slots Z ls a hx hb kt kf => lv_icmp_gt (x := Int32.ofInt x) (y := Int32.ofInt y) hx hb hd ht (fun h => kt (e.mp h)) (fun h => kf (fun z => h (e.mpr z)))) kt (fun h => kf (by omega))
theorem aj_icmp_le {x y off : Int} (t q : Nat) (hd : decode M.2.1 pc = .ok (.if_icmp .le off, 3)) (ht : (pc : Int) + off = (t : Int)) (hq : pc + 3 = q) (hx : aj_I x) (hy : aj_I y) (kt : x ≤ y → aj_wp E al ao X M d bc bs t lv st sh g Q) (kf : y < x → aj_wp E al ao X M d bc bs q lv st sh g Q) : aj_wp E al ao X M d bc bs pc lv ((0, y) :: (0, x) :: st) sh g Q := by
  subst hq
  have e := aj_le hx hy
  exact aj_lift2 (fun p l e0 R s m args below meth c H locs cells slots Z ls a hx hb kt kf => lv_icmp_le (x := Int32.ofInt x) (y := Int32.ofInt y) hx hb hd ht (fun h => kt (e.mp h)) (fun h => kf (fun z => h (e.mpr z)))) kt (fun h => kf (by omega))
theorem aj_tableIn {dflt lo hi off x : Int} {offs : Array Int} {len : Nat} (t : Nat) (hd : decode M.2.1 pc = .ok (.tableswitch dflt lo hi offs, len)) (hx : aj_I x) (h1 : lo ≤ x) (h2 : x ≤ hi) (ho : offs[(x - lo).toNat]? = some off) (ht : (pc : Int) + off = (t : Int)) (k : aj_wp E al ao X M d bc bs t lv st sh g Q) : aj_wp E al ao X M d bc bs pc lv ((0, x) :: st) sh g Q :=
  aj_lift (fun p l e R s m args below meth c H locs cells slots Z ls a hx0 hb hls k => lv_tableIn (x := Int32.ofInt x) hx0 hb hd (by rw [aj_ti hx]; omega) (by rw [aj_ti hx]; omega) (by rw [aj_ti hx]; exact ho) ht k) k
theorem aj_tableOut {dflt lo hi x : Int} {offs : Array Int} {len : Nat} (t : Nat) (hd : decode M.2.1 pc = .ok (.tableswitch dflt lo hi offs, len)) (hx : aj_I x) (h : x < lo ∨ hi < x) (ht : (pc : Int) + dflt = (t : Int)) (k : aj_wp E al ao X M d bc bs t lv st sh g Q) : aj_wp E al ao X M d bc bs pc lv ((0, x) :: st) sh g Q :=
  aj_lift (fun p l e R s m args below meth c H locs cells slots Z ls a hx0 hb hls k => lv_tableOut (x := Int32.ofInt x) hx0 hb hd (by rw [aj_ti hx]; exact h) ht k) k
end AJR
end
section
/-! the judgement: fields, arrays, new cells -/
def aj_dv (k : Nat) : Int := if k = 1 then -1 else 0
theorem aj_dflt {a : Nat → Nat} {t : FieldType} (h : aj_smp t = true) : defaultValue t = aj_c a (aj_kd t, aj_dv (aj_kd t)) := by
  cases t <;> first | (exact absurd h (by decide)) | (simp [aj_kd, aj_dv, aj_c, aj_rf, va_rf, defaultValue]; try rfl)
def aj_fl (E : aj_E) (own : String) (index ci t : Nat) (jz : Int) : Prop := ∃ (C : String) (T : u_T) (N j : Nat), E.1[ci]? = some (C, T, N) ∧ j < N ∧ ((j : Nat) : Int) = jz ∧ E.2.2.1 ci j = t ∧ Cond.fieldLink own index (T j).1 (T j).2.1 (T j).2.2.1 ∈ E.2.2.2.1
def aj_pl (E : aj_E) (own mname : String) (index ci t : Nat) (jz : Int) (ty : FieldType) : Prop := ∃ (C : String) (T : u_T) (N j : Nat), E.1[ci]? = some (C, T, N) ∧ j < N ∧ ((j : Nat) : Int) = jz ∧ E.2.2.1 ci j = t ∧ Cond.fieldLink own index (T j).1 (T j).2.1 (T j).2.2.1 ∈ E.2.2.2.1 ∧
  parseFieldDescriptor (T j).2.2.1 = some ty ∧ ((T j).2.2.2 = false ∨ ((T j).2.2.2 = true ∧ mname = "<init>" ∧ (T j).1 = own))
def aj_fit (ty : FieldType) (v : aj_A) : Prop := ∀ a, narrow ty (aj_c a v) = aj_c a v ∧ fits ty (aj_c a v) = true
theorem aj_fitI (x : Int) : aj_fit .int (0, x) := fun _ => ⟨rfl, rfl⟩
theorem aj_fitJ (x : Int) : aj_fit .long (2, x) := fun _ => ⟨rfl, rfl⟩
theorem aj_fitZ {x : Int} (h : x = 0 ∨ x = 1) : aj_fit .boolean (0, x) := by
  intro a
  rw [aj_c0]
  rcases h with rfl | rfl
  · exact ⟨by decide +kernel, by decide +kernel⟩
  · exact ⟨by decide +kernel, by decide +kernel⟩
theorem aj_fitO (C : String) (x : Int) : aj_fit (.object C) (1, x) := by
  intro a
  rw [aj_c1]
  by_cases h : x < 0
  · rw [aj_rfn h]; exact ⟨rfl, rfl⟩
  · rw [aj_rfp (by omega)]; exact ⟨rfl, rfl⟩
theorem aj_fitA (t : FieldType) (x : Int) : aj_fit (.array t) (1, x) := by
  intro a
  rw [aj_c1]
  by_cases h : x < 0
  · rw [aj_rfn h]; exact ⟨rfl, rfl⟩
  · rw [aj_rfp (by omega)]; exact ⟨rfl, rfl⟩
theorem aj_vpV {N i : Nat} {F : Nat → Value} (h : i < N) : vp_V ((List.range N).map F) i = F i := by
  unfold vp_V
  rw [List.getD_eq_getElem?_getD, List.getElem?_map, List.getElem?_range h]
  rfl
section AJH
variable {E : aj_E} {al ao : Prop} {X : Option (Nat × (Int → Int))} {M : aj_M} {d bc bs pc : Nat} {lv : List (Option aj_A)} {st : List aj_A} {sh : List aj_S} {g : aj_G} {Q : aj_R → List aj_S → aj_G → Prop}
theorem aj_getf {index ci t : Nat} {jz r : Int} (q : Nat) (hf : aj_fl E M.1.cls index ci t jz) (hd : decode M.2.1 pc = .ok (.getfield index, 3)) (hq : pc + 3 = q) (hs : aj_sh sh r = some (.inr ci)) (k : aj_wp E al ao X M d bc bs q lv ((t, g r jz) :: st) sh g Q) : aj_wp E al ao X M d bc bs pc lv ((1, r) :: st) sh g Q := by
  subst hq
  intro p l e R s m args below meth c H locs cells slots ls a tc D A hc0
  have kk := k p l e R s m args below meth c H locs cells slots ls a tc D A hc0
  obtain ⟨h1, h2, h3, ⟨hP, hK, hD, hS, hA⟩, h5, h6, h7⟩ := hc0
  obtain ⟨C, T, N, j, hc, hj, rfl, ht, hw⟩ := hf
  obtain ⟨h0, -⟩ := aj_sh_get hs
  have he := aj_w_get (E := E) (tc := tc) (a := a) (g := g) hs
  rw [List.map_cons, aj_cr h0]
  refine va_get (D := D) (Ts := E.2.2.2.1) h1.1 h1.2.1 h1.2.2.2.2 (h7.1.2 ci _ hc).1 h1.2.2.2.1 hK hP r.toNat he hc j hj (h1.2.2.2.2 _ hw) (fun x hx => hx) (v := aj_c a (t, g r j)) ?_ hd kk
  rw [aj_nf_of hc, List.getElem?_map, List.getElem?_range hj, ← ht]
  rfl
theorem aj_putf {index ci t : Nat} {jz r x : Int} {ty : FieldType} (q : Nat) (hf : aj_pl E M.1.cls M.1.name index ci t jz ty) (hdg : decode M.2.1 pc = .ok (.putfield index, 3)) (hq : pc + 3 = q) (hs : aj_sh sh r = some (.inr ci)) (hfit : aj_fit ty (t, x)) (k : aj_wp E al ao X M d bc bs q lv st sh (aj_up g r jz x) Q) : aj_wp E al ao X M d bc bs pc lv ((t, x) :: (1, r) :: st) sh g Q := by
  subst hq
  intro p l e R s m args below meth c H locs cells slots ls a tc D A hc0
  obtain ⟨h1, h2, h3, ⟨hP, hK, hD, hS, hA⟩, h5, h6, h7⟩ := hc0
  obtain ⟨C, T, N, j, hc, hj, rfl, ht, hw, hd, hfin⟩ := hf
  obtain ⟨h0, -⟩ := aj_sh_get hs
  have he := aj_w_get (E := E) (tc := tc) (a := a) (g := g) hs
  obtain ⟨hin, hnm, ty0, htys, hkd⟩ := h7.1.2 ci _ hc
  have hts := h1.2.2.2.2
  rw [List.map_cons, List.map_cons, aj_cr h0]
  have hap := va_apart (own := M.1.cls) hts hin ty0 htys hnm hK hc
  obtain ⟨r', hr', cell, q1, q2, q3, q4⟩ := hP _ _ he
  have hrr : r' = (C, T, N) := Option.some.inj (hr'.symm.trans hc)
  subst hrr
  obtain ⟨hSl, hfc, kC, hkC, hkind⟩ := hK.1 ci _ hc
  obtain ⟨cf, kf, fi, f, hi, hsl⟩ := hSl j hj
  have hst := (u_facts hfc hkC (u_lays hts hin hj) hi).1
  have kk : ∀ H' : Heap, H'[a r.toNat]? = some (cell.setSlot f.slot (aj_c a (t, x))) → H'.size = H.size → (∀ q, q ≠ a r.toNat → H'[q]? = H[q]?) → W p l e R s m args below meth c H' (locs ++ [⟨a r.toNat, f.slot⟩]) cells slots (aj_fin E ao a tc D A Q below s (cells + bc) (slots + bs)) (F0 m (pc + 3) ls (st.map (aj_c a))) := by
    intro H' e1 e2 e3
    rw [hsl] at e1
    have hcell : va_at D E.1 (a r.toNat, aj_cell E tc a (.inr ci) (aj_up g r j x r)) H' := by
      refine ⟨_, hc, t_OB.to (V := updV (vp_V ((List.range (aj_nf E ci)).map (fun j => aj_c a (E.2.2.1 ci j, g r (j : Nat))))) j (aj_c a (t, x))) ⟨_, e1, q2, q3, t_set q4 hap hj _⟩ (fun i hi => ?_)⟩
      rw [aj_nf_of hc]
      show updV _ j _ i = vp_V _ i
      rw [aj_vpV hi]
      unfold updV
      by_cases hij : i = j
      · subst hij
        rw [if_pos rfl, aj_up_self, ht]
      · rw [if_neg hij, aj_vpV hi, aj_up_ni g r x (fun e => hij (by omega))]
    have hset := aj_w_set (E := E) (tc := tc) (a := a) (g := g) (g' := aj_up g r j x) hs rfl (fun r' hr' => aj_up_ne g j x hr')
    have hP2 := hP.set hD he hcell e3
    rw [hset] at hP2
    have hD2 := hD.set (e := aj_cell E tc a (.inr ci) (aj_up g r j x r)) he
    rw [hset] at hD2
    exact k p l e R s m args below meth c H' _ cells slots ls a tc D A ⟨h1, h2, h3, ⟨hP2, hK, hD2, hS.put e2 e3 (hD.2 _ _ he), hA⟩, h5, by rw [e2]; exact h6, h7⟩
  rcases hfin with hf0 | ⟨hf1, hnm1, hdecl⟩
  · have hlay := hts _ (hin _ (u_in_lay hj))
    unfold u_lay at hlay
    rw [if_neg (by rw [hf0]; decide)] at hlay
    have h8 := u_store hfc hkC hkind hlay hi hd (hfit a).1 (hfit a).2
    exact W.putK h1.1 h1.2.1 (f := f) ⟨h1.2.2.2.1, hts _ hw, ⟨_, _, _, hi⟩, hst⟩ (by rw [q2]; exact h8) q1 q3 (by rw [hsl]; exact k2_hasslot (q4 j hj)) rfl rfl hdg kk
  · have hlay := hts _ (hin _ (u_in_lay hj))
    unfold u_lay at hlay
    rw [if_pos hf1] at hlay
    have hcf : m.cls = cf := by
      obtain ⟨_, _, c', _, _, _, -, -, hf', -, -, -, hown2, -⟩ := Cond.laysFinal_spec hlay
      have e1 : c' = cf := by have := hi.symm.trans hf'; simp at this; exact this.1.symm
      rw [hdecl] at hown2
      rw [← e1]; exact Option.some.inj (h1.2.2.2.1.symm.trans hown2)
    have h8 := u_fits hfc hkC hkind (Or.inr hlay) hi hd (hfit a).1 (hfit a).2
    exact W.putFinK h1.1 h1.2.1 h1.2.2.2.1 (hts _ hw) hi hst hcf (h2.2.2.trans hnm1) (by rw [q2]; exact h8) q1 q3 (by rw [hsl]; exact k2_hasslot (q4 j hj)) rfl rfl hdg kk
/-! arrays -/
theorem aj_at {tc a : Nat → Nat} {D : va_G} {H : Heap} {r : Int} {t0 n : Nat} {V : Int → Value} (hP : va_P D E.1 (aj_w E tc a sh g) H) (hs : aj_sh sh r = some (.inl (t0, n))) (hV : ∀ f : Int → Int, vp_cell (tc t0) (n, aj_row a E.2.1[t0]? f) = arrV (tc t0) n (fun j => V (f j))) : H[a r.toNat]? = some (arrV (tc t0) n (fun j => V (g r j))) := by
  have h := hP _ _ (aj_w_get (E := E) (tc := tc) (a := a) (g := g) hs)
  rw [← hV (g r)]
  exact h
theorem aj_aset {tc a : Nat → Nat} {D : va_G} {A : Nat → Prop} {H H1 : Heap} {r i x : Int} {t0 n : Nat} {V : Int → Value} (hP : va_P D E.1 (aj_w E tc a sh g) H) (hD : va_D A (aj_w E tc a sh g)) (hs : aj_sh sh r = some (.inl (t0, n))) (hV : ∀ f : Int → Int, vp_cell (tc t0) (n, aj_row a E.2.1[t0]? f) = arrV (tc t0) n (fun j => V (f j))) (h0 : 0 ≤ i)
    (e : H1[a r.toNat]? = some ((arrV (tc t0) n (fun j => V (g r j))).setSlot i.toNat (V x))) (oq : ∀ q : Nat, q ≠ a r.toNat → H1[q]? = H[q]?) : va_P D E.1 (aj_w E tc a sh (aj_up g r i x)) H1 ∧ va_D A (aj_w E tc a sh (aj_up g r i x)) := by
  have he := aj_w_get (E := E) (tc := tc) (a := a) (g := g) hs
  have hset := aj_w_set (E := E) (tc := tc) (a := a) (g := g) (g' := aj_up g r i x) hs rfl (fun r' hr' => aj_up_ne g i x hr')
  have hcell : va_at D E.1 (a r.toNat, aj_cell E tc a (.inl (t0, n)) (aj_up g r i x r)) H1 := by
    show H1[a r.toNat]? = some (vp_cell (tc t0) (n, aj_row a E.2.1[t0]? (aj_up g r i x r)))
    rw [hV, e, arrV_store]
    congr 2
    funext q
    unfold updV
    by_cases hq : q = i.toNat
    · rw [if_pos hq, hq, Int.toNat_of_nonneg h0, aj_up_self]
    · rw [if_neg hq, aj_up_ni g r x (fun z => hq (by omega))]
  have hP2 := hP.set hD he hcell oq
  have hD2 := hD.set (e := aj_cell E tc a (.inl (t0, n)) (aj_up g r i x r)) he
  rw [hset] at hP2 hD2
  exact ⟨hP2, hD2⟩
theorem aj_rowi {tc a : Nat → Nat} {t0 n : Nat} {ty : FieldType} (ht : E.2.1[t0]? = some ty) (h : ty = .int ∨ ty = .boolean) (f : Int → Int) : vp_cell (tc t0) (n, aj_row a E.2.1[t0]? f) = arrV (tc t0) n (fun j => .int (Int32.ofInt (f j))) := by
  rw [ht]
  rcases h with rfl | rfl <;> rfl
theorem aj_rowl {tc a : Nat → Nat} {t0 n : Nat} (ht : E.2.1[t0]? = some .long) (f : Int → Int) : vp_cell (tc t0) (n, aj_row a E.2.1[t0]? f) = arrV (tc t0) n (fun j => .long (Int64.ofInt (f j))) := by
  rw [ht]
  rfl
theorem aj_rowr {tc a : Nat → Nat} {t0 n : Nat} {ty : FieldType} (ht : E.2.1[t0]? = some ty) (h : ty.isReference = true) (f : Int → Int) : vp_cell (tc t0) (n, aj_row a E.2.1[t0]? f) = arrV (tc t0) n (fun j => va_rf (aj_rf a (f j))) := by
  rw [ht]
  cases ty <;> first | rfl | exact absurd h (by decide)
theorem aj_arr {tc : Nat → Nat} {D : va_G} {s : State} {t0 : Nat} {ty : FieldType} (hK : va_K D E.1 (aj_ty tc E.2.1) s) (ht : E.2.1[t0]? = some ty) (n : Nat) (z : Nat → Value) : s.isArrayOf (arrV (tc t0) n z) ty := (hK.2 t0 _ (aj_ty_at ht)).1 n z
theorem aj_sz {cA : ClassId} {n : Nat} {z : Nat → Value} {i : Int32} (h : vp_in i n) : ¬ (i < 0 ∨ (arrV cA n z).slots.size ≤ i.toNatClampNeg) := by
  rw [arrV_size]
  exact h
theorem aj_iald {r i : Int} {t0 n : Nat} (q : Nat) (hd : decode M.2.1 pc = .ok (.iaload, 1)) (hq : pc + 1 = q) (hs : aj_sh sh r = some (.inl (t0, n))) (ht : E.2.1[t0]? = some .int) (h0 : 0 ≤ i) (hi : i < n) (k : aj_wp E al ao X M d bc bs q lv ((0, g r i) :: st) sh g Q) : aj_wp E al ao X M d bc bs pc lv ((0, i) :: (1, r) :: st) sh g Q := by
  subst hq
  intro p l e R s m args below meth c H locs cells slots ls a tc D A hc0
  have kk := k p l e R s m args below meth c H locs cells slots ls a tc D A hc0
  obtain ⟨h1, h2, h3, ⟨hP, hK, hD, hS, hA⟩, h5, h6, h7⟩ := hc0
  obtain ⟨hr0, hr1⟩ := aj_sh_get hs
  have hn := h6.2 _ _ _ hr1
  rw [List.map_cons, List.map_cons, aj_cr hr0]
  have hcl := aj_clamp h0 hi hn
  refine W.iald (v := aj_c a (0, g r i)) h1.1 h1.2.1 (aj_at (V := fun x => .int (Int32.ofInt x)) hP hs (aj_rowi ht (Or.inl rfl))) (aj_arr hK ht _ _) (fun q => by cases q) (aj_sz (aj_in h0 hi hn)) ?_ rfl rfl hd kk
  rw [hcl, arrV_read _ _ (by omega), Int.toNat_of_nonneg h0]
  rfl
theorem aj_zald {r i : Int} {t0 n : Nat} (q : Nat) (hd : decode M.2.1 pc = .ok (.baload, 1)) (hq : pc + 1 = q) (hs : aj_sh sh r = some (.inl (t0, n))) (ht : E.2.1[t0]? = some .boolean) (h0 : 0 ≤ i) (hi : i < n) (k : aj_wp E al ao X M d bc bs q lv ((0, g r i) :: st) sh g Q) : aj_wp E al ao X M d bc bs pc lv ((0, i) :: (1, r) :: st) sh g Q := by
  subst hq
  intro p l e R s m args below meth c H locs cells slots ls a tc D A hc0
  have kk := k p l e R s m args below meth c H locs cells slots ls a tc D A hc0
  obtain ⟨h1, h2, h3, ⟨hP, hK, hD, hS, hA⟩, h5, h6, h7⟩ := hc0
  obtain ⟨hr0, hr1⟩ := aj_sh_get hs
  have hn := h6.2 _ _ _ hr1
  rw [List.map_cons, List.map_cons, aj_cr hr0]
  have hcl := aj_clamp h0 hi hn
  refine W.zald (v := aj_c a (0, g r i)) h1.1 h1.2.1 (aj_at (V := fun x => .int (Int32.ofInt x)) hP hs (aj_rowi ht (Or.inr rfl))) (aj_arr hK ht _ _) (fun q => by cases q) (aj_sz (aj_in h0 hi hn)) ?_ rfl rfl hd kk
  rw [hcl, arrV_read _ _ (by omega), Int.toNat_of_nonneg h0]
  rfl
theorem aj_lald {r i : Int} {t0 n : Nat} (q : Nat) (hd : decode M.2.1 pc = .ok (.laload, 1)) (hq : pc + 1 = q) (hs : aj_sh sh r = some (.inl (t0, n))) (ht : E.2.1[t0]? = some .long) (h0 : 0 ≤ i) (hi : i < n) (k : aj_wp E al ao X M d bc bs q lv ((2, g r i) :: st) sh g Q) : aj_wp E al ao X M d bc bs pc lv ((0, i) :: (1, r) :: st) sh g Q := by
  subst hq
  intro p l e R s m args below meth c H locs cells slots ls a tc D A hc0
  have kk := k p l e R s m args below meth c H locs cells slots ls a tc D A hc0
  obtain ⟨h1, h2, h3, ⟨hP, hK, hD, hS, hA⟩, h5, h6, h7⟩ := hc0
  obtain ⟨hr0, hr1⟩ := aj_sh_get hs
  have hn := h6.2 _ _ _ hr1
  rw [List.map_cons, List.map_cons, aj_cr hr0]
  have hcl := aj_clamp h0 hi hn
  refine W.lald (v := aj_c a (2, g r i)) h1.1 h1.2.1 (aj_at (V := fun x => .long (Int64.ofInt x)) hP hs (aj_rowl ht)) (aj_arr hK ht _ _) (fun q => by cases q) (aj_sz (aj_in h0 hi hn)) ?_ rfl rfl hd kk
  rw [hcl, arrV_read _ _ (by omega), Int.toNat_of_nonneg h0]
  rfl
theorem aj_aald {r i : Int} {t0 n : Nat} {ty : FieldType} (q : Nat) (hd : decode M.2.1 pc = .ok (.aaload, 1)) (hq : pc + 1 = q) (hs : aj_sh sh r = some (.inl (t0, n))) (ht : E.2.1[t0]? = some ty) (hty : ty.isReference = true) (h0 : 0 ≤ i) (hi : i < n) (k : aj_wp E al ao X M d bc bs q lv ((1, g r i) :: st) sh g Q) : aj_wp E al ao X M d bc bs pc lv ((0, i) :: (1, r) :: st) sh g Q := by
  subst hq
  intro p l e R s m args below meth c H locs cells slots ls a tc D A hc0
  have kk := k p l e R s m args below meth c H locs cells slots ls a tc D A hc0
  obtain ⟨h1, h2, h3, ⟨hP, hK, hD, hS, hA⟩, h5, h6, h7⟩ := hc0
  obtain ⟨hr0, hr1⟩ := aj_sh_get hs
  have hn := h6.2 _ _ _ hr1
  rw [List.map_cons, List.map_cons, aj_cr hr0]
  have hcl := aj_clamp h0 hi hn
  refine W.aald (v := aj_c a (1, g r i)) h1.1 h1.2.1 (aj_at (V := fun x => va_rf (aj_rf a x)) hP hs (aj_rowr ht hty)) (aj_arr hK ht _ _) hty (fun q => by cases q) (aj_sz (aj_in h0 hi hn)) ?_ rfl rfl hd kk
  rw [hcl, arrV_read _ _ (by omega), Int.toNat_of_nonneg h0]
  rfl
theorem aj_iast {r i x : Int} {t0 n : Nat} (q : Nat) (hd : decode M.2.1 pc = .ok (.iastore, 1)) (hq : pc + 1 = q) (hs : aj_sh sh r = some (.inl (t0, n))) (ht : E.2.1[t0]? = some .int) (h0 : 0 ≤ i) (hi : i < n) (k : aj_wp E al ao X M d bc bs q lv st sh (aj_up g r i x) Q) : aj_wp E al ao X M d bc bs pc lv ((0, x) :: (0, i) :: (1, r) :: st) sh g Q := by
  subst hq
  intro p l e R s m args below meth c H locs cells slots ls a tc D A hc0
  obtain ⟨h1, h2, h3, ⟨hP, hK, hD, hS, hA⟩, h5, h6, h7⟩ := hc0
  obtain ⟨hr0, hr1⟩ := aj_sh_get hs
  have hn := h6.2 _ _ _ hr1
  rw [List.map_cons, List.map_cons, List.map_cons, aj_cr hr0]
  have hcl := aj_clamp h0 hi hn
  refine W.iast (x := Int32.ofInt x) h1.1 h1.2.1 (aj_at (V := fun x => .int (Int32.ofInt x)) hP hs (aj_rowi ht (Or.inl rfl))) (aj_arr hK ht _ _) (fun q => by cases q) (aj_sz (aj_in h0 hi hn)) rfl rfl hd fun H1 e1 z oq => ?_
  rw [hcl] at e1
  obtain ⟨hP2, hD2⟩ := aj_aset (V := fun x => .int (Int32.ofInt x)) hP hD hs (aj_rowi ht (Or.inl rfl)) h0 e1 oq
  exact k p l e R s m args below meth c H1 _ cells slots ls a tc D A ⟨h1, h2, h3, ⟨hP2, hK, hD2, hS.put z oq (hD.2 _ _ (aj_w_get hs)), hA⟩, h5, by rw [z]; exact h6, h7⟩
theorem aj_zast {r i x : Int} {t0 n : Nat} (q : Nat) (hd : decode M.2.1 pc = .ok (.bastore, 1)) (hq : pc + 1 = q) (hs : aj_sh sh r = some (.inl (t0, n))) (ht : E.2.1[t0]? = some .boolean) (h0 : 0 ≤ i) (hi : i < n) (hx : x = 0 ∨ x = 1) (k : aj_wp E al ao X M d bc bs q lv st sh (aj_up g r i x) Q) : aj_wp E al ao X M d bc bs pc lv ((0, x) :: (0, i) :: (1, r) :: st) sh g Q := by
  subst hq
  intro p l e R s m args below meth c H locs cells slots ls a tc D A hc0
  obtain ⟨h1, h2, h3, ⟨hP, hK, hD, hS, hA⟩, h5, h6, h7⟩ := hc0
  obtain ⟨hr0, hr1⟩ := aj_sh_get hs
  have hn := h6.2 _ _ _ hr1
  rw [List.map_cons, List.map_cons, List.map_cons, aj_cr hr0]
  have hcl := aj_clamp h0 hi hn
  refine W.zast (x := Int32.ofInt x) h1.1 h1.2.1 (aj_at (V := fun x => .int (Int32.ofInt x)) hP hs (aj_rowi ht (Or.inr rfl))) (aj_arr hK ht _ _) (fun q => by cases q) (aj_sz (aj_in h0 hi hn)) rfl rfl hd fun H1 e1 z oq => ?_
  have hnar : narrow .boolean (.int (Int32.ofInt x)) = .int (Int32.ofInt x) := by
    rcases hx with rfl | rfl <;> decide +kernel
  rw [hcl, hnar] at e1
  obtain ⟨hP2, hD2⟩ := aj_aset (V := fun x => .int (Int32.ofInt x)) hP hD hs (aj_rowi ht (Or.inr rfl)) h0 e1 oq
  exact k p l e R s m args below meth c H1 _ cells slots ls a tc D A ⟨h1, h2, h3, ⟨hP2, hK, hD2, hS.put z oq (hD.2 _ _ (aj_w_get hs)), hA⟩, h5, by rw [z]; exact h6, h7⟩
theorem aj_last {r i x : Int} {t0 n : Nat} (q : Nat) (hd : decode M.2.1 pc = .ok (.lastore, 1)) (hq : pc + 1 = q) (hs : aj_sh sh r = some (.inl (t0, n))) (ht : E.2.1[t0]? = some .long) (h0 : 0 ≤ i) (hi : i < n) (k : aj_wp E al ao X M d bc bs q lv st sh (aj_up g r i x) Q) : aj_wp E al ao X M d bc bs pc lv ((2, x) :: (0, i) :: (1, r) :: st) sh g Q := by
  subst hq
  intro p l e R s m args below meth c H locs cells slots ls a tc D A hc0
  obtain ⟨h1, h2, h3, ⟨hP, hK, hD, hS, hA⟩, h5, h6, h7⟩ := hc0
  obtain ⟨hr0, hr1⟩ := aj_sh_get hs
  have hn := h6.2 _ _ _ hr1
  rw [List.map_cons, List.map_cons, List.map_cons, aj_cr hr0]
  have hcl := aj_clamp h0 hi hn
  refine W.last (x := Int64.ofInt x) h1.1 h1.2.1 (aj_at (V := fun x => .long (Int64.ofInt x)) hP hs (aj_rowl ht)) (aj_arr hK ht _ _) (fun q => by cases q) (aj_sz (aj_in h0 hi hn)) rfl rfl hd fun H1 e1 z oq => ?_
  rw [hcl] at e1
  obtain ⟨hP2, hD2⟩ := aj_aset (V := fun x => .long (Int64.ofInt x)) hP hD hs (aj_rowl ht) h0 e1 oq
  exact k p l e R s m args below meth c H1 _ cells slots ls a tc D A ⟨h1, h2, h3, ⟨hP2, hK, hD2, hS.put z oq (hD.2 _ _ (aj_w_get hs)), hA⟩, h5, by rw [z]; exact h6, h7⟩
/-- a reference to an object of the class that the array's elements have -/
theorem aj_aast {r i x : Int} {t0 n ci : Nat} {rc : vw_C} (q : Nat) (hd : decode M.2.1 pc = .ok (.aastore, 1)) (hq : pc + 1 = q) (hs : aj_sh sh r = some (.inl (t0, n))) (hc : E.1[ci]? = some rc) (ht : E.2.1[t0]? = some (.object rc.1)) (hx : aj_sh sh x = some (.inr ci)) (h0 : 0 ≤ i) (hi : i < n) (k : aj_wp E al ao X M d bc bs q lv st sh (aj_up g r i x) Q) : aj_wp E al ao X M d bc bs pc lv ((1, x) :: (0, i) :: (1, r) :: st) sh g Q := by
  subst hq
  intro p l e R s m args below meth c H locs cells slots ls a tc D A hc0
  obtain ⟨h1, h2, h3, ⟨hP, hK, hD, hS, hA⟩, h5, h6, h7⟩ := hc0
  obtain ⟨hr0, hr1⟩ := aj_sh_get hs
  obtain ⟨hx0, hx1⟩ := aj_sh_get hx
  have hn := h6.2 _ _ _ hr1
  rw [List.map_cons, List.map_cons, List.map_cons, aj_cr hr0, aj_cr hx0]
  have hcl := aj_clamp h0 hi hn
  have hin := aj_in h0 hi hn
  have hlt : (Int32.ofInt i).toNatClampNeg < n := Nat.not_le.mp fun q => hin (Or.inr q)
  have hneg : ¬ Int32.ofInt i < 0 := fun q => hin (Or.inl q)
  obtain ⟨r', hr', cellV, g1, g2, g3, -⟩ := hP _ _ (aj_w_get (E := E) (tc := tc) (a := a) (g := g) hx)
  have hcls := (hK.1 ci rc hc).2
  obtain ⟨kA, comp, k1, k2, k3, -⟩ := (hK.2 t0 _ (aj_ty_at ht)).2
  have hcomp : comp = D.1 ci := Option.some.inj (k3.symm.trans hcls.1)
  subst hcomp
  obtain ⟨kC, hkC, -⟩ := hcls.2
  refine W.aast h1.1 h1.2.1 (aj_at (V := fun x => va_rf (aj_rf a x)) hP hs (aj_rowr ht rfl)) (fun q h => by cases h) (fun h => by cases h) k1 k2 rfl hkC ⟨hneg, by rw [arrV_size]; exact hlt⟩ g1 (fun q h => by rw [g3] at h; cases h) (by rw [g2]; exact hkC) (by rw [g2]; exact va_assign hcls) rfl rfl hd fun H1 e1 z oq => ?_
  have hV : (Value.ref (a x.toNat)) = va_rf (aj_rf a x) := by rw [aj_rfp hx0]; rfl
  rw [hcl, hV] at e1
  obtain ⟨hP2, hD2⟩ := aj_aset (V := fun x => va_rf (aj_rf a x)) hP hD hs (aj_rowr ht rfl) h0 e1 oq
  exact k p l e R s m args below meth c H1 _ cells slots ls a tc D A ⟨h1, h2, h3, ⟨hP2, hK, hD2, hS.put z oq (hD.2 _ _ (aj_w_get hs)), hA⟩, h5, by rw [z]; exact h6, h7⟩
theorem aj_alen {r : Int} {t0 n : Nat} {ty : FieldType} {nz : Int} (q : Nat) (hd : decode M.2.1 pc = .ok (.arraylength, 1)) (hq : pc + 1 = q) (hs : aj_sh sh r = some (.inl (t0, n))) (ht : E.2.1[t0]? = some ty) (hn : ((n : Nat) : Int) = nz) (k : aj_wp E al ao X M d bc bs q lv ((0, nz) :: st) sh g Q) : aj_wp E al ao X M d bc bs pc lv ((1, r) :: st) sh g Q := by
  subst hq
  subst hn
  intro p l e R s m args below meth c H locs cells slots ls a tc D A hc0
  have kk := k p l e R s m args below meth c H locs cells slots ls a tc D A hc0
  obtain ⟨h1, h2, h3, ⟨hP, hK, hD, hS, hA⟩, h5, h6, h7⟩ := hc0
  obtain ⟨hr0, hr1⟩ := aj_sh_get hs
  rw [List.map_cons, aj_cr hr0]
  have he := aj_w_get (E := E) (tc := tc) (a := a) (g := g) hs
  exact va_alen (v := Int32.ofInt (n : Nat)) h1.1 h1.2.1 hK hP r.toNat t0 he (aj_ty_at ht) Int32.ofInt_eq_ofNat.symm hd kk
theorem aj_sld {L : Nat} {xs : Int → Int} {i : Int} (q : Nat) (hd : decode M.2.1 pc = .ok (.iaload, 1)) (hq : pc + 1 = q) (hX : X = some (L, xs)) (h0 : 0 ≤ i) (hi : i < L) (k : aj_wp E al ao X M d bc bs q lv ((0, xs i) :: st) sh g Q) : aj_wp E al ao X M d bc bs pc lv ((0, i) :: (1, 1000000) :: st) sh g Q := by
  subst hq
  intro p l e R s m args below meth c H locs cells slots ls a tc D A hc0
  have kk := k p l e R s m args below meth c H locs cells slots ls a tc D A hc0
  obtain ⟨h1, h2, h3, ⟨hP, hK, hD, hS, hA⟩, h5, h6, h7⟩ := hc0
  obtain ⟨x1, x2, x3, x4⟩ := h7.2.1 _ hX
  rw [List.map_cons, List.map_cons, aj_cr (by omega : (0 : Int) ≤ 1000000)]
  have hcl := aj_clamp h0 hi x4
  refine va_sld (xs := fun j => Int32.ofInt (xs j)) h1.1 h1.2.1 x1 x2 x3 hS (aj_in h0 hi x4) hd ?_
  rw [hcl, Int.toNat_of_nonneg h0]
  exact kk
theorem aj_slen {L : Nat} {xs : Int → Int} {nz : Int} (q : Nat) (hd : decode M.2.1 pc = .ok (.arraylength, 1)) (hq : pc + 1 = q) (hX : X = some (L, xs)) (hn : ((L : Nat) : Int) = nz) (k : aj_wp E al ao X M d bc bs q lv ((0, nz) :: st) sh g Q) : aj_wp E al ao X M d bc bs pc lv ((1, 1000000) :: st) sh g Q := by
  subst hq
  subst hn
  intro p l e R s m args below meth c H locs cells slots ls a tc D A hc0
  have kk := k p l e R s m args below meth c H locs cells slots ls a tc D A hc0
  obtain ⟨h1, h2, h3, ⟨hP, hK, hD, hS, hA⟩, h5, h6, h7⟩ := hc0
  obtain ⟨x1, x2, x3, x4⟩ := h7.2.1 _ hX
  rw [List.map_cons, aj_cr (by omega : (0 : Int) ≤ 1000000)]
  refine va_slen h1.1 h1.2.1 x1 x2 x3 hS hd ?_
  rw [← Int32.ofInt_eq_ofNat]
  exact kk
end AJH
end
section
/-! the judgement: new cells, ends, calls -/
def aj_nw (g : aj_G) (r : Int) (f : Int → Int) : aj_G := fun r' => if r' = r then f else g r'
theorem aj_nw_self (g : aj_G) (r : Int) (f : Int → Int) : aj_nw g r f r = f := by simp [aj_nw]
theorem aj_nw_ne (g : aj_G) {r r' : Int} (f : Int → Int) (h : r' ≠ r) : aj_nw g r f r' = g r' := by simp [aj_nw, h]
def aj_nl0 (E : aj_E) (own : String) (index ci N : Nat) : Prop := ∃ (C : String) (T : u_T), E.1[ci]? = some (C, T, N) ∧ Cond.classLink own index C ∈ E.2.2.2.1 ∧ Cond.instantiable C N ∈ E.2.2.2.1 ∧ Cond.initialized C ∈ E.2.2.2.1
section AJC
variable {E : aj_E} {al ao : Prop} {X : Option (Nat × (Int → Int))} {M : aj_M} {d bc bs pc : Nat} {lv : List (Option aj_A)} {st : List aj_A} {sh : List aj_S} {g : aj_G} {Q : aj_R → List aj_S → aj_G → Prop}
theorem aj_push {tc a : Nat → Nat} {D : va_G} {A : Nat → Prop} {H H1 : Heap} {s : State} {locs : List Loc} {x : aj_S} {f : Int → Int} (hP : va_P D E.1 (aj_w E tc a sh g) H) (hD : va_D A (aj_w E tc a sh g)) (hS : va_S A s.heap H locs) (hA : ∀ q, s.heap.size ≤ q → A q) (ha : a sh.length = H.size)
    (hcell : va_at D E.1 (a sh.length, aj_cell E tc a x f) H1) (z1 : H1.size = H.size + 1) (o1 : ∀ q : Nat, q < H.size → H1[q]? = H[q]?) :
    va_P D E.1 (aj_w E tc a (sh ++ [x]) (aj_nw g sh.length f)) H1 ∧ va_D A (aj_w E tc a (sh ++ [x]) (aj_nw g sh.length f)) ∧ va_S A s.heap H1 locs := by
  have hk : ∀ (k : Nat) (y : Nat × va_E), (aj_w E tc a sh g)[k]? = some y → H1[y.1]? = H[y.1]? := fun k y hy => o1 y.1 ((hP k y hy).lt)
  have hpush := aj_w_push (E := E) (tc := tc) (a := a) (sh := sh) (g := g) (g' := aj_nw g sh.length f) (x := x) (c := aj_cell E tc a x f) (by rw [aj_nw_self]) (fun k hk => aj_nw_ne g f (by omega))
  rw [← hpush]
  refine ⟨(hP.kept hk).app (fun k y hy => ?_), hD.push hP ha (by rw [ha]; exact hA _ hS.1), ⟨Nat.le_trans hS.1 (by omega), fun q h1 h2 => (o1 q (Nat.lt_of_lt_of_le h1 hS.1)).trans (hS.2.1 q h1 h2), hS.2.2⟩⟩
  have hz : k < 1 := (List.getElem?_eq_some_iff.mp hy).1
  rw [show k = 0 by omega] at hy
  cases hy
  exact hcell
theorem aj_ph_push {a : Nat → Nat} {n : Nat} {x : aj_S} (h : aj_ph al sh a n) (hx : ∀ t k, x = .inl (t, k) → k < 2147483648) : aj_ph al (sh ++ [x]) a (n + 1) := by
  refine ⟨fun hal j hj => ?_, fun k t m hk => ?_⟩
  · rw [List.length_append, List.length_singleton] at hj ⊢
    have := h.1 hal (1 + j) (by omega)
    rw [show sh.length + 1 + j = sh.length + (1 + j) by omega, this]
    omega
  · by_cases hl : k < sh.length
    · rw [List.getElem?_append_left hl] at hk
      exact h.2 k t m hk
    · rw [List.getElem?_append_right (by omega)] at hk
      have hz : k - sh.length < 1 := (List.getElem?_eq_some_iff.mp hk).1
      rw [show k - sh.length = 0 by omega] at hk
      exact hx t m (by simpa using hk)
theorem aj_newa {atype : ArrayType} {ty : FieldType} {t0 : Nat} {n : Int} {N bc1 bs1 : Nat} (q : Nat) (hd : decode M.2.1 pc = .ok (.newarray atype, 2)) (hq : pc + 2 = q) (hty : newarray.typeOf atype = ty) (hty2 : ty = .int ∨ ty = .boolean ∨ ty = .long) (ht : E.2.1[t0]? = some ty) (hw : Cond.arrayClass ty ∈ E.2.2.2.1)
    (hN : ((N : Nat) : Int) = n) (hN2 : N ≤ 60000) (hbc : bc1 + 1 = bc) (hbs : bs1 + N = bs) (hal : al) (hsz : sh.length < 1000000) (k : aj_wp E al ao X M d bc1 bs1 q lv ((1, sh.length) :: st) (sh ++ [.inl (t0, N)]) (aj_nw g sh.length (fun _ => 0)) Q) : aj_wp E al ao X M d bc bs pc lv ((0, n) :: st) sh g Q := by
  subst hq
  subst hN
  subst hbc
  subst hbs
  subst hty
  intro p l e R s m args below meth c H locs cells slots ls a tc D A hc0
  obtain ⟨h1, h2, h3, ⟨hP, hK, hD, hS, hA⟩, h5, h6, h7⟩ := hc0
  have ha : a sh.length = H.size := by simpa using h6.1 hal 0 (by omega)
  have hI : aj_I (N : Nat) := ⟨by omega, by omega⟩
  have hnn : ¬ Int32.ofInt (N : Nat) < 0 := by rw [aj_0, aj_lt hI aj_I0]; omega
  have hcl : (Int32.ofInt (N : Nat)).toNatClampNeg = N := by
    show (Int32.ofInt (N : Nat)).toInt.toNat = N
    rw [aj_ti hI]; omega
  have hby : N * componentBytes (newarray.typeOf atype) ≤ 536870912 := by
    have : componentBytes (newarray.typeOf atype) ≤ 8 := by rcases hty2 with h | h | h <;> rw [h] <;> decide
    exact Nat.le_trans (Nat.mul_le_mul hN2 this) (by decide)
  rw [List.map_cons]
  refine va_newaK (n := Int32.ofInt (N : Nat)) (N := N) h1.1 h1.2.1 (h1.2.2.2.2 _ hw) rfl hd rfl hnn hcl hby (by omega) (by omega) rfl fun H1 cA e1 z1 o1 hAr hNm => ?_
  have hcA : tc t0 = cA := by
    have hR := (hK.2 t0 _ (aj_ty_at ht)).2
    have hR2 : s.vm.findClass ("[" ++ (newarray.typeOf atype).toString) = some (tc t0) := by
      rcases hty2 with h | h | h <;> (rw [h] at hR ⊢; exact hR)
    exact Option.some.inj (hR2.symm.trans hNm)
  have hcell : va_at D E.1 (a sh.length, aj_cell E tc a (.inl (t0, N)) (fun _ => 0)) H1 := by
    show H1[a sh.length]? = some (vp_cell (tc t0) (N, aj_row a E.2.1[t0]? (fun _ => 0)))
    rw [ha, e1, hcA, ht]
    rcases hty2 with h | h | h <;> rw [h] <;> rfl
  obtain ⟨hP2, hD2, hS2⟩ := aj_push hP hD hS hA ha hcell z1 o1
  have kk := k p l e R s m args below meth c H1 locs (cells + 1) (slots + N) ls a tc D A ⟨h1, h2, ⟨h3.1, h3.2.1, by omega, by omega⟩, ⟨hP2, hK, hD2, hS2, hA⟩, h5, by rw [z1]; exact aj_ph_push h6 (fun t k hx => by cases hx; omega), h7⟩
  rw [show cells + 1 + bc1 = cells + (bc1 + 1) by omega, show slots + N + bs1 = slots + (bs1 + N) by omega, List.map_cons, aj_cr (by omega), Int.toNat_natCast, ha] at kk
  exact kk
theorem aj_newo {index ci N bc1 bs1 : Nat} (q : Nat) (hf : aj_nl0 E M.1.cls index ci N) (hd : decode M.2.1 pc = .ok (.new index, 3)) (hq : pc + 3 = q) (hbc : bc1 + 1 = bc) (hbs : bs1 + N = bs) (hal : al) (hsz : sh.length < 1000000) (k : aj_wp E al ao X M d bc1 bs1 q lv ((1, sh.length) :: st) (sh ++ [.inr ci]) (aj_nw g sh.length (fun j => aj_dv (E.2.2.1 ci j.toNat))) Q) : aj_wp E al ao X M d bc bs pc lv st sh g Q := by
  subst hq
  subst hbc
  subst hbs
  intro p l e R s m args below meth c H locs cells slots ls a tc D A hc0
  obtain ⟨h1, h2, h3, ⟨hP, hK, hD, hS, hA⟩, h5, h6, h7⟩ := hc0
  obtain ⟨C, T, hc, hw1, hw2, hw3⟩ := hf
  have ha : a sh.length = H.size := by simpa using h6.1 hal 0 (by omega)
  have hKn := hK.1 ci _ hc
  obtain ⟨hin, hnm, ty0, htys, hkd⟩ := h7.1.2 ci _ hc
  have hts := h1.2.2.2.2
  refine W.newcK h1.1 h1.2.1 h1.2.2.2.1 (hts _ hw1) (hts _ hw2) (hts _ hw3) rfl hd (by omega) (by omega) hKn.2.1 rfl fun H1 kC hkC e1 z1 o1 => ?_
  have hcell : va_at D E.1 (a sh.length, aj_cell E tc a (.inr ci) (fun j => aj_dv (E.2.2.1 ci j.toNat))) H1 := by
    rw [ha]
    refine ⟨_, hc, (u_born ty0 hts hin hKn hkC e1 htys).to (fun j hj => ?_)⟩
    rw [aj_nf_of hc]
    show defaultValue (ty0 j) = vp_V _ j
    rw [aj_vpV hj]
    show defaultValue (ty0 j) = aj_c a (E.2.2.1 ci j, aj_dv (E.2.2.1 ci ((j : Nat) : Int).toNat))
    rw [Int.toNat_natCast, (hkd j hj).1]
    exact aj_dflt (hkd j hj).2
  obtain ⟨hP2, hD2, hS2⟩ := aj_push hP hD hS hA ha hcell z1 o1
  have kk := k p l e R s m args below meth c H1 locs (cells + 1) (slots + N) ls a tc D A ⟨h1, h2, ⟨h3.1, h3.2.1, by omega, by omega⟩, ⟨hP2, hK, hD2, hS2, hA⟩, h5, by rw [z1]; exact aj_ph_push h6 (fun t k hx => by cases hx), h7⟩
  rw [show cells + 1 + bc1 = cells + (bc1 + 1) by omega, show slots + N + bs1 = slots + (bs1 + N) by omega, List.map_cons, aj_cr (by omega), Int.toNat_natCast, ha] at kk
  exact kk
/-! ends -/
theorem aj_end {p : Program} {l : Launch} {e : Env} {R : Room} {s : State} {m : MethodId} {args : Array Value} {below : List Frame} {meth : Method} {c : Code} {H : Heap} {locs : List Loc} {cells slots : Nat} {ls : Array Slot} {a tc : Nat → Nat} {D : va_G} {A : Nat → Prop} {v : Option aj_A} {gf : JFrame}
    (hc : aj_cx E al X M d bc bs lv sh g a tc D A p R s m args meth c H locs cells slots ls) (hq : Q (.inl v) sh g) (hao : ao → al)
    (k : W p l e R s m args below meth c H locs (cells + bc) (slots + bs) (MQ below (fun _ st o t => o = .returned (v.map (aj_c a)) ∧ t.heap = H ∧ s.WarmedH t.vm) args s (cells + bc) (slots + bs) A) gf) :
    W p l e R s m args below meth c H locs cells slots (aj_fin E ao a tc D A Q below s (cells + bc) (slots + bs)) gf := by
  obtain ⟨h1, h2, h3, ⟨hP, hK, hD, hS, hA⟩, h5, h6, h7⟩ := hc
  refine aj_monoW ?_ (W.widen (k := cells + bc) (n := slots + bs) (by omega) (by omega) k)
  rintro t ⟨o, e1, e2, ⟨rfl, ht, hW⟩, L, hF, hL⟩
  exact ⟨_, .inl v, sh, g, e1, e2, hq, rfl, by rw [ht]; exact hP, hD, hS.F ht, ⟨fun h => by rw [ht]; exact h6.1 (hao h), h6.2⟩, L, hF.2.1, hF.2.2, hL⟩
theorem aj_iret {x : Int} (hd : decode M.2.1 pc = .ok (.ireturn, 1)) (hr : M.2.2.2 = some .int) (hao : ao → al) (hq : Q (.inl (some (0, x))) sh g) : aj_wp E al ao X M d bc bs pc lv [(0, x)] sh g Q := by
  intro p l e R s m args below meth c H locs cells slots ls a tc D A hc0
  refine aj_end hc0 hq hao ?_
  obtain ⟨h1, h2, h3, ⟨hP, hK, hD, hS, hA⟩, h5, h6, h7⟩ := hc0
  exact W.iret (v := Int32.ofInt x) h1.1 h1.2.1 (h2.1.trans hr) (fun t ht hW => ⟨rfl, ht, hW⟩) hS.2.2 hd h2.2.1
theorem aj_zret {x : Int} (hd : decode M.2.1 pc = .ok (.ireturn, 1)) (hr : M.2.2.2 = some .boolean) (hx : x = 0 ∨ x = 1) (hao : ao → al) (hq : Q (.inl (some (0, x))) sh g) : aj_wp E al ao X M d bc bs pc lv [(0, x)] sh g Q := by
  intro p l e R s m args below meth c H locs cells slots ls a tc D A hc0
  refine aj_end hc0 hq hao ?_
  obtain ⟨h1, h2, h3, ⟨hP, hK, hD, hS, hA⟩, h5, h6, h7⟩ := hc0
  exact W.zret (v := Int32.ofInt x) h1.1 h1.2.1 (h2.1.trans hr) (by rcases hx with rfl | rfl <;> decide +kernel) (fun t ht hW => ⟨rfl, ht, hW⟩) hS.2.2 hd h2.2.1
theorem aj_lret {x : Int} (hd : decode M.2.1 pc = .ok (.lreturn, 1)) (hr : M.2.2.2 = some .long) (hao : ao → al) (hq : Q (.inl (some (2, x))) sh g) : aj_wp E al ao X M d bc bs pc lv [(2, x)] sh g Q := by
  intro p l e R s m args below meth c H locs cells slots ls a tc D A hc0
  refine aj_end hc0 hq hao ?_
  obtain ⟨h1, h2, h3, ⟨hP, hK, hD, hS, hA⟩, h5, h6, h7⟩ := hc0
  exact W.lret (v := Int64.ofInt x) h1.1 h1.2.1 (h2.1.trans hr) (fun t ht hW => ⟨rfl, ht, hW⟩) hS.2.2 hd h2.2.1
theorem aj_vret (hd : decode M.2.1 pc = .ok (.return_, 1)) (hr : M.2.2.2 = none) (hao : ao → al) (hq : Q (.inl none) sh g) : aj_wp E al ao X M d bc bs pc lv [] sh g Q := by
  intro p l e R s m args below meth c H locs cells slots ls a tc D A hc0
  refine aj_end hc0 hq hao ?_
  obtain ⟨h1, h2, h3, ⟨hP, hK, hD, hS, hA⟩, h5, h6, h7⟩ := hc0
  exact W.vret h1.1 h1.2.1 (h2.1.trans hr) (fun t ht hW => ⟨rfl, ht, hW⟩) hS.2.2 hd h2.2.1
theorem aj_objInit {r : Int} {index : Nat} (q : Nat) (hw : Cond.methodLink M.1.cls index Lib.objectInit ∈ E.2.2.2.1 ∧ Cond.instanceMethod Lib.objectInit ∈ E.2.2.2.1 ∧ Cond.code Lib.objectInit ⟨#[0xb1]⟩ 1 none ∈ E.2.2.2.1) (hd : decode M.2.1 pc = .ok (.invokespecial index, 3)) (hq : pc + 3 = q) (h0 : 0 ≤ r) (hdd : 1 ≤ d) (k : aj_wp E al ao X M d bc bs q lv [] sh g Q) : aj_wp E al ao X M d bc bs pc lv [(1, r)] sh g Q := by
  subst hq
  intro p l e R s m args below meth c H locs cells slots ls a tc D A hc0
  have kk := k p l e R s m args below meth c H locs cells slots ls a tc D A hc0
  obtain ⟨h1, h2, h3, ⟨hP, hK, hD, hS, hA⟩, h5, h6, h7⟩ := hc0
  have hts := h1.2.2.2.2
  rw [List.map_cons, aj_cr h0]
  refine W.objInit h1.1 h1.2.1 h1.2.2.2.1 (hts _ hw.1) (hts _ hw.2.1) (hts _ hw.2.2) rfl (by rw [h1.2.2.1]; exact h5.2.1) rfl hd (by omega) ?_ kk
  show 2 * 0 + 0 + 12 ≤ _
  omega
end AJC
end
section
/-! the judgement: calls -/
def aj_wt : List aj_A → Nat
  | [] => 0
  | v :: vs => (if v.1 < 2 then 1 else 2) + aj_wt vs
theorem aj_wt_eq {a : Nat → Nat} : ∀ st : List aj_A, ((st.map (aj_c a)).map fun v => v.category).sum = aj_wt st
  | [] => rfl
  | v :: vs => by
    rw [List.map_cons, List.map_cons, List.sum_cons, aj_wt_eq vs]
    show _ = (if v.1 < 2 then 1 else 2) + aj_wt vs
    by_cases h : v.1 < 2
    · rw [if_pos h, aj_cat h]
    · rw [if_neg h, aj_cat2 h]
def aj_ws (E : aj_E) (M : aj_M) : List Cond := Cond.code M.1 M.2.1 M.2.2.1 M.2.2.2 :: E.2.2.2.1
def aj_rm (d bc bs : Nat) : Room := { frames := d + 2, cells := bc, slots := bs, locals := 48 * d }
def aj_Pc (E : aj_E) (al : Prop) (X : Option (Nat × (Int → Int))) (vs : List aj_A) (sh : List aj_S) (g : aj_G) (a tc : Nat → Nat) (D : va_G) (A : Nat → Prop) : Array Value → State → Prop := va_Pc (vs.map (aj_c a)) (fun U =>
  va_P D E.1 (aj_w E tc a sh g) U.heap ∧ va_K D E.1 (aj_ty tc E.2.1) U ∧ va_D A (aj_w E tc a sh g) ∧ (∀ q, U.heap.size ≤ q → A q) ∧ aj_ph al sh a U.heap.size ∧ aj_good E ∧ aj_xs E X a A U)
def aj_Qc (E : aj_E) (al : Prop) (a tc : Nat → Nat) (D : va_G) (A : Nat → Prop) (Q : aj_R → List aj_S → aj_G → Prop) : Array Value → State → Outcome → State → Prop := fun _ st o t =>
  ∃ (v : Option aj_A) (sh : List aj_S) (g : aj_G), o = .returned (v.map (aj_c a)) ∧ Q (.inl v) sh g ∧ va_P D E.1 (aj_w E tc a sh g) t.heap ∧ va_D A (aj_w E tc a sh g) ∧ va_F A st t ∧ aj_ph al sh a t.heap.size
theorem aj_blind {E : aj_E} {al : Prop} {X : Option (Nat × (Int → Int))} {vs : List aj_A} {sh : List aj_S} {g : aj_G} {a tc : Nat → Nat} {D : va_G} {A : Nat → Prop} : FrameBlind (aj_Pc E al X vs sh g a tc D A) := by
  intro a' U g' mk q
  obtain ⟨q0, q1, q2, q3, q4, q5, q6, q7⟩ := q
  exact ⟨q0, q1, va_K.moved (u := U) (U := U.calling g' mk a') (Vm.Alike.refl U.vm) q2, q3, q4, q5, q6, fun y hy => ⟨va_X.moved (u := U) (U := U.calling g' mk a') (Vm.Alike.refl U.vm) (q7.1 y hy).1, (q7.1 y hy).2⟩, fun w hw => va_Nw.same rfl rfl (q7.2 w hw)⟩
section AJK
variable {E : aj_E} {al ao : Prop} {X : Option (Nat × (Int → Int))} {M : aj_M} {d bc bs pc : Nat} {lv : List (Option aj_A)} {st : List aj_A} {sh : List aj_S} {g : aj_G} {Q : aj_R → List aj_S → aj_G → Prop}
theorem aj_en_len {vs : List aj_A} {n : Nat} (h : (aj_ea vs).length ≤ n) : (aj_en vs n).length = n := by
  unfold aj_en
  rw [List.length_append, List.length_replicate]
  omega
theorem aj_met {l : Launch} {vs : List aj_A} (hy : plainName M.1.cls = true) (hlen : Nat.ble (aj_ea vs).length M.2.2.1 = true) (hret : ∀ r sh g, Q r sh g → ∃ v, r = .inl v) (k : aj_wp E al al X M d bc bs 0 (aj_en vs M.2.2.1) [] sh g Q) (a tc : Nat → Nat) (D : va_G) (A : Nat → Prop) :
    Met l M.1 (aj_ws E M) (aj_rm d bc bs) (aj_Pc E al X vs sh g a tc D A) (aj_Qc E al a tc D A Q) bc bs A := by
  refine Met.ofW (cc := M.2.1) (maxL := M.2.2.1) (ret := M.2.2.2) hy rfl ?_
  intro p e s m args below meth c s₁ B hml hv
  obtain ⟨rfl, hP, hK, hD, hA, h6, h7⟩ := hv
  have hts := atoms_spec (ws := aj_ws E M) B.pre
  have hle : (aj_ea vs).length ≤ M.2.2.1 := Nat.le_of_ble_eq_true hlen
  have hl := lv_entry (vs.map (aj_c a)) (n := M.2.2.1) (by rw [aj_ea_len]; exact hle)
  rw [lg_entry_eq]
  generalize (lg_sl (vs.map (aj_c a)) ++ List.replicate (M.2.2.1 - (lg_sl (vs.map (aj_c a))).length) Slot.unset).toArray = ls at hl ⊢
  have hW := k p l e (aj_rm d bc bs) s m (vs.map (aj_c a)).toArray below meth c s.heap [] 0 0 ls a tc D A
    ⟨⟨B.exec, B.bytes, hml, findClass_of_methodNamed B.named, fun w hw => hts w (List.mem_cons_of_mem _ hw)⟩, ⟨B.returns, B.notSynchronized, (name_of_methodNamed B.named B.method).1⟩, ⟨Nat.le_refl _, Nat.le_refl _, by show 0 + bc ≤ bc; omega, by show 0 + bs ≤ bs; omega⟩, ⟨hP, hK, hD, va_S.rf, hA⟩, ⟨aj_en_len hle, aj_entry hl⟩, h6, h7⟩
  refine aj_monoW ?_ hW
  rintro t ⟨o, r, sh1, g1, e1, e2, e3, e4, e5, e6, e7, e8, L, e9, e10, e11⟩
  obtain ⟨v, rfl⟩ := hret _ _ _ e3
  rw [Nat.zero_add, Nat.zero_add] at e10
  exact ⟨o, e1, e2, ⟨v, sh1, g1, e4, e3, e5, e6, e7, e8⟩, L, ⟨⟨_, e4⟩, e9, e10⟩, e11⟩
def aj_K (E : aj_E) (al ao : Prop) (X : Option (Nat × (Int → Int))) (M : aj_M) (d bc bs q : Nat) (lv : List (Option aj_A)) (rest : List aj_A) (Q : aj_R → List aj_S → aj_G → Prop) : aj_R → List aj_S → aj_G → Prop := fun r sh g => match r with
  | .inl none => aj_wp E al ao X M d bc bs q lv rest sh g Q
  | .inl (some v) => aj_wp E al ao X M d bc bs q lv (v :: rest) sh g Q
  | .inr _ => False
theorem aj_K_inl {q : Nat} {rest : List aj_A} {v : Option aj_A} (h : aj_K E al ao X M d bc bs q lv rest Q (.inl v) sh g) : aj_wp E al ao X M d bc bs q lv (v.toList ++ rest) sh g Q := by
  cases v <;> exact h
theorem aj_K_ret {q : Nat} {rest : List aj_A} (r : aj_R) (sh : List aj_S) (g : aj_G) (h : aj_K E al ao X M d bc bs q lv rest Q r sh g) : ∃ v, r = .inl v := by
  cases r with
  | inl v => exact ⟨v, rfl⟩
  | inr k => exact False.elim h
theorem aj_after {p : Program} {l : Launch} {e : Env} {R : Room} {s : State} {m : MethodId} {args : Array Value} {below : List Frame} {meth : Method} {c : Code} {H : Heap} {locs : List Loc} {cells slots : Nat} {ls : Array Slot} {a tc : Nat → Nat} {D : va_G} {A : Nat → Prop} {bc1 bs1 bc2 bs2 : Nat} {rest : List aj_A} {st0 : List Value} {argsA : Array Value}
    (hc0 : aj_cx E al X M d bc bs lv sh g a tc D A p R s m args meth c H locs cells slots ls) (hbc : bc2 + bc1 = bc) (hbs : bs2 + bs1 = bs)
    (hr : va_Run p l e R s m args below meth c H locs cells slots bc1 bs1 (F0 m pc ls st0) (rest.map (aj_c a)) (aj_Qc E al a tc D A (aj_K E al ao X M d bc2 bs2 (pc + 3) lv rest Q) argsA) A) :
    W p l e R s m args below meth c H locs cells slots (aj_fin E ao a tc D A Q below s (cells + bc) (slots + bs)) (F0 m pc ls st0) := by
  subst hbc
  subst hbs
  obtain ⟨h1, h2, h3, ⟨hP, hK, hD, hS, hA⟩, h5, h6, h7⟩ := hc0
  intro T hT X0
  obtain ⟨v, st₀, t, T', L, e0, X', hL, e1, e2, ⟨v1, sh1, g1, ev, k0, hP1, hD1, hF1, hph⟩, stp⟩ := hr T hT X0
  have k := aj_K_inl k0
  have hv : v = v1.map (aj_c a) := by injection ev
  subst hv
  have hS1 : va_S A s.heap T'.heap (locs ++ L) := ⟨Nat.le_trans hS.1 (by rw [e1, ← e0]; exact hF1.1), fun q q1 q2 => by rw [e1, hF1.2 q (by rw [e0]; exact Nat.lt_of_lt_of_le q1 hS.1) q2, e0]; exact hS.2.1 q q1 q2, fun q hq => (List.mem_append.mp hq).elim (hS.2.2 q) (hL q)⟩
  have kk := k p l e R s m args below meth c T'.heap (locs ++ L) (cells + bc1) (slots + bs1) ls a tc D A ⟨h1, h2, ⟨h3.1, h3.2.1, by omega, by omega⟩, ⟨by rw [e1]; exact hP1, hK, hD1, hS1, hA⟩, h5, by rw [e1]; exact hph, h7⟩
  rw [show cells + bc1 + bc2 = cells + (bc2 + bc1) by omega, show slots + bs1 + bs2 = slots + (bs2 + bs1) by omega, show (v1.toList ++ rest).map (aj_c a) = (v1.map (aj_c a)).toList ++ rest.map (aj_c a) by cases v1 <;> simp] at kk
  obtain ⟨t2, a1, b1⟩ := kk T' rfl X'
  exact ⟨t2, stp t2 a1, b1⟩
def aj_cl0 (E : aj_E) (own : String) (index : Nat) (N : aj_M) (n : Nat) : Prop := Cond.methodLink own index N.1 ∈ E.2.2.2.1 ∧ Cond.code N.1 N.2.1 N.2.2.1 N.2.2.2 ∈ E.2.2.2.1 ∧ Cond.initialized N.1.cls ∈ E.2.2.2.1 ∧
  (N.1.cls ≠ "java/lang/invoke/MethodHandle" ∧ N.1.cls ≠ "java/lang/invoke/VarHandle" ∧ (parseMethodDescriptor N.1.desc).map (fun d => d.parameters.length) = some n) ∧ N.2.2.1 ≤ 29 ∧ plainName N.1.cls = true
def aj_vl (E : aj_E) (own : String) (index : Nat) (N : aj_M) (n ci : Nat) : Prop := aj_cl0 E own index N n ∧ Cond.instanceMethod N.1 ∈ E.2.2.2.1 ∧ Cond.selects N.1.cls N.1 N.1 ∈ E.2.2.2.1 ∧ ∃ q : vw_C, E.1[ci]? = some q ∧ q.1 = N.1.cls
def aj_sl (E : aj_E) (own : String) (index : Nat) (N : aj_M) (n : Nat) : Prop := aj_cl0 E own index N n ∧ Cond.static N.1 ∈ E.2.2.2.1
def aj_il (E : aj_E) (own : String) (index : Nat) (N : aj_M) (n : Nat) : Prop := aj_cl0 E own index N n ∧ Cond.instanceMethod N.1 ∈ E.2.2.2.1 ∧ N.1.name = "<init>" ∧ N.2.2.2 = none
theorem aj_cb {own : String} {index n d1 bc1 bs1 : Nat} {N : aj_M} {R : Room} {s : State} {args : Array Value} (hl : aj_cl0 E own index N n) (hE : aj_good E) (hts : ∀ w ∈ E.2.2.2.1, w.before args s = true) (hf : d1 + 1 + 2 ≤ R.frames) (hlo : 48 * (d1 + 1) ≤ R.locals) : CallB R s args own index N.1 N.2.1 N.2.2.1 N.2.2.2 (aj_ws E N) (aj_rm d1 bc1 bs1) bc1 bs1 n := by
  obtain ⟨w1, w2, w3, ⟨w4, w5, w6⟩, w7, -⟩ := hl
  refine ⟨rfl, rfl, by show d1 + 2 + 1 ≤ R.frames; omega, ?_, pay_in hts (fun w hw => ?_), List.mem_cons_self, hts _ w2, hts _ w3, ⟨w4, w5⟩, fun sig h => ?_, hts _ w1⟩
  · show 8 + (N.2.2.1 + 11) + 48 * d1 ≤ R.locals
    omega
  · rcases List.mem_cons.mp hw with rfl | h
    · exact ⟨w2, hE.1 _ w2⟩
    · exact ⟨h, hE.1 _ h⟩
  · rw [h] at w6
    exact (Option.some.inj w6).symm
theorem aj_xs_at {a : Nat → Nat} {A : Nat → Prop} {s U : State} {H : Heap} {locs : List Loc} (h : aj_xs E X a A s) (hS : va_S A s.heap H locs) (hU : U.heap = H) (hW : s.WarmedH U.vm) : aj_xs E X a A U := by
  refine ⟨fun y hy => ?_, fun w hw => va_Nw.warmM hW (h.2 w hw)⟩
  obtain ⟨x1, x2, x3, x4⟩ := h.1 y hy
  refine ⟨?_, by rw [hU]; exact Nat.lt_of_lt_of_le x2 hS.1, x3, x4⟩
  rw [hU]
  exact va_X.moved hW.alike (x1.kept (hS.2.1 _ x2 x3))
theorem aj_callV {N : aj_M} {index n ci d1 bc1 bs1 bc2 bs2 : Nat} {r : Int} {rest : List aj_A} (vs : List aj_A) (q : Nat) (hl : aj_vl E M.1.cls index N n ci) (hd : decode M.2.1 pc = .ok (.invokevirtual index, 3)) (hq : pc + 3 = q) (hn : vs.length = n) (hdd : d1 + 1 = d) (hbc : bc2 + bc1 = bc) (hbs : bs2 + bs1 = bs) (hwt : Nat.ble (aj_wt rest) 8 = true) (hea : Nat.ble (aj_ea ((1, r) :: vs)).length N.2.2.1 = true)
    (hs : aj_sh sh r = some (.inr ci)) (k : aj_wp E al al X N d1 bc1 bs1 0 (aj_en ((1, r) :: vs) N.2.2.1) [] sh g (aj_K E al ao X M d bc2 bs2 q lv rest Q)) : aj_wp E al ao X M d bc bs pc lv (vs.reverse ++ (1, r) :: rest) sh g Q := by
  subst hq
  intro p l e R s m args below meth c H locs cells slots ls a tc D A hc0
  have hM := aj_met (l := l) hl.1.2.2.2.2.2 hea aj_K_ret k a tc D A
  obtain ⟨h0, -⟩ := aj_sh_get hs
  refine aj_after (rest := rest) (argsA := (Value.ref (a r.toNat) :: vs.map (aj_c a)).toArray) (st0 := (vs.reverse ++ (1, r) :: rest).map (aj_c a)) hc0 hbc hbs ?_
  obtain ⟨h1, h2, h3, ⟨hP, hK, hD, hS, hA⟩, h5, h6, h7⟩ := hc0
  have hts := h1.2.2.2.2
  subst hdd
  have hcb := aj_cb (bc1 := bc1) (bs1 := bs1) hl.1 h7.1 hts h3.1 (by omega)
  obtain ⟨rc, hrc, hrn⟩ := hl.2.2.2
  refine va_runV (As := vs.map (aj_c a)) (b := a r.toNat) (C := N.1.cls) h1 hM ⟨hcb, hts _ hl.2.1, hts _ hl.2.2.1⟩ ⟨aj_blind, ?_, fun U hU hW => ?_⟩ rfl (by rw [List.length_map]; exact hn) h5.2.1 ?_ (lv_room (by rw [aj_wt_eq]; exact Nat.le_of_ble_eq_true hwt)) hd ⟨by omega, by omega⟩
  · rw [← hrn]
    exact va_recv hK hP hrc (aj_w_get (E := E) (tc := tc) (a := a) (g := g) hs)
  · refine ⟨by rw [List.map_cons, aj_cr h0], by rw [hU]; exact hP, va_K.moved hW.alike hK, hD, fun q hq => hA q (by rw [hU] at hq; exact Nat.le_trans hS.1 hq), by rw [hU]; exact h6, h7.1, aj_xs_at h7.2 hS hU hW⟩
  · show (vs.reverse ++ (1, r) :: rest).map (aj_c a) = _
    rw [List.map_append, List.map_reverse, List.map_cons, aj_cr h0]
theorem aj_callS {N : aj_M} {index n d1 bc1 bs1 bc2 bs2 : Nat} {rest : List aj_A} (vs : List aj_A) (q : Nat) (hl : aj_sl E M.1.cls index N n) (hd : decode M.2.1 pc = .ok (.invokestatic index, 3)) (hq : pc + 3 = q) (hn : vs.length = n) (hdd : d1 + 1 = d) (hbc : bc2 + bc1 = bc) (hbs : bs2 + bs1 = bs) (hwt : Nat.ble (aj_wt rest) 8 = true) (hea : Nat.ble (aj_ea vs).length N.2.2.1 = true)
    (k : aj_wp E al al X N d1 bc1 bs1 0 (aj_en vs N.2.2.1) [] sh g (aj_K E al ao X M d bc2 bs2 q lv rest Q)) : aj_wp E al ao X M d bc bs pc lv (vs.reverse ++ rest) sh g Q := by
  subst hq
  intro p l e R s m args below meth c H locs cells slots ls a tc D A hc0
  have hM := aj_met (l := l) hl.1.2.2.2.2.2 hea aj_K_ret k a tc D A
  refine aj_after (rest := rest) (argsA := (vs.map (aj_c a)).toArray) (st0 := (vs.reverse ++ rest).map (aj_c a)) hc0 hbc hbs ?_
  obtain ⟨h1, h2, h3, ⟨hP, hK, hD, hS, hA⟩, h5, h6, h7⟩ := hc0
  have hts := h1.2.2.2.2
  subst hdd
  have hcb := aj_cb (bc1 := bc1) (bs1 := bs1) hl.1 h7.1 hts h3.1 (by omega)
  refine va_runS (As := vs.map (aj_c a)) h1 hM ⟨hcb, hts _ hl.2⟩ ⟨aj_blind, fun U hU hW => ?_⟩ rfl (by rw [List.length_map]; exact hn) h5.2.1 ?_ (lv_room (by rw [aj_wt_eq]; exact Nat.le_of_ble_eq_true hwt)) hd ⟨by omega, by omega⟩
  · refine ⟨rfl, by rw [hU]; exact hP, va_K.moved hW.alike hK, hD, fun q hq => hA q (by rw [hU] at hq; exact Nat.le_trans hS.1 hq), by rw [hU]; exact h6, h7.1, aj_xs_at h7.2 hS hU hW⟩
  · show (vs.reverse ++ rest).map (aj_c a) = _
    rw [List.map_append, List.map_reverse]
theorem aj_callI {N : aj_M} {index n d1 bc1 bs1 bc2 bs2 : Nat} {r : Int} {rest : List aj_A} (vs : List aj_A) (q : Nat) (hl : aj_il E M.1.cls index N n) (hd : decode M.2.1 pc = .ok (.invokespecial index, 3)) (hq : pc + 3 = q) (hn : vs.length = n) (hdd : d1 + 1 = d) (hbc : bc2 + bc1 = bc) (hbs : bs2 + bs1 = bs) (hwt : Nat.ble (aj_wt rest) 8 = true) (hea : Nat.ble (aj_ea ((1, r) :: vs)).length N.2.2.1 = true) (h0 : 0 ≤ r)
    (k : aj_wp E al al X N d1 bc1 bs1 0 (aj_en ((1, r) :: vs) N.2.2.1) [] sh g (aj_K E al ao X M d bc2 bs2 q lv rest Q)) : aj_wp E al ao X M d bc bs pc lv (vs.reverse ++ (1, r) :: rest) sh g Q := by
  subst hq
  intro p l e R s m args below meth c H locs cells slots ls a tc D A hc0
  have hM := aj_met (l := l) hl.1.2.2.2.2.2 hea aj_K_ret k a tc D A
  refine aj_after (rest := rest) (argsA := (Value.ref (a r.toNat) :: vs.map (aj_c a)).toArray) (st0 := (vs.reverse ++ (1, r) :: rest).map (aj_c a)) hc0 hbc hbs ?_
  obtain ⟨h1, h2, h3, ⟨hP, hK, hD, hS, hA⟩, h5, h6, h7⟩ := hc0
  have hts := h1.2.2.2.2
  subst hdd
  have hcb := aj_cb (bc1 := bc1) (bs1 := bs1) hl.1 h7.1 hts h3.1 (by omega)
  rw [hl.2.2.2] at hcb
  refine va_runI (As := vs.map (aj_c a)) (b := a r.toNat) h1 hM ⟨hcb, hl.2.2.1, hts _ hl.2.1⟩ ⟨aj_blind, fun U hU hW => ?_⟩ rfl (by rw [List.length_map]; exact hn) h5.2.1 ?_ (lv_room (by rw [aj_wt_eq]; exact Nat.le_of_ble_eq_true hwt)) hd ⟨by omega, by omega⟩
  · refine ⟨by rw [List.map_cons, aj_cr h0], by rw [hU]; exact hP, va_K.moved hW.alike hK, hD, fun q hq => hA q (by rw [hU] at hq; exact Nat.le_trans hS.1 hq), by rw [hU]; exact h6, h7.1, aj_xs_at h7.2 hS hU hW⟩
  · show (vs.reverse ++ (1, r) :: rest).map (aj_c a) = _
    rw [List.map_append, List.map_reverse, List.map_cons, aj_cr h0]
theorem aj_callV0 {N : aj_M} {index ci d1 bc1 bs1 bc2 bs2 : Nat} {r : Int} {rest : List aj_A} (q : Nat) (hl : aj_vl E M.1.cls index N 0 ci) (hd : decode M.2.1 pc = .ok (.invokevirtual index, 3)) (hq : pc + 3 = q) (hdd : d1 + 1 = d) (hbc : bc2 + bc1 = bc) (hbs : bs2 + bs1 = bs) (hwt : Nat.ble (aj_wt rest) 8 = true) (hea : Nat.ble (aj_ea [(1, r)]).length N.2.2.1 = true)
    (hs : aj_sh sh r = some (.inr ci)) (k : aj_wp E al al X N d1 bc1 bs1 0 (aj_en [(1, r)] N.2.2.1) [] sh g (aj_K E al ao X M d bc2 bs2 q lv rest Q)) : aj_wp E al ao X M d bc bs pc lv ((1, r) :: rest) sh g Q :=
  aj_callV [] q hl hd hq rfl hdd hbc hbs hwt hea hs k
theorem aj_callV1 {N : aj_M} {index ci d1 bc1 bs1 bc2 bs2 : Nat} {r : Int} {rest : List aj_A} {v1 : aj_A} (q : Nat) (hl : aj_vl E M.1.cls index N 1 ci) (hd : decode M.2.1 pc = .ok (.invokevirtual index, 3)) (hq : pc + 3 = q) (hdd : d1 + 1 = d) (hbc : bc2 + bc1 = bc) (hbs : bs2 + bs1 = bs) (hwt : Nat.ble (aj_wt rest) 8 = true) (hea : Nat.ble (aj_ea [(1, r), v1]).length N.2.2.1 = true)
    (hs : aj_sh sh r = some (.inr ci)) (k : aj_wp E al al X N d1 bc1 bs1 0 (aj_en [(1, r), v1] N.2.2.1) [] sh g (aj_K E al ao X M d bc2 bs2 q lv rest Q)) : aj_wp E al ao X M d bc bs pc lv (v1 :: (1, r) :: rest) sh g Q :=
  aj_callV [v1] q hl hd hq rfl hdd hbc hbs hwt hea hs k
theorem aj_callV2 {N : aj_M} {index ci d1 bc1 bs1 bc2 bs2 : Nat} {r : Int} {rest : List aj_A} {v1 v2 : aj_A} (q : Nat) (hl : aj_vl E M.1.cls index N 2 ci) (hd : decode M.2.1 pc = .ok (.invokevirtual index, 3)) (hq : pc + 3 = q) (hdd : d1 + 1 = d) (hbc : bc2 + bc1 = bc) (hbs : bs2 + bs1 = bs) (hwt : Nat.ble (aj_wt rest) 8 = true) (hea : Nat.ble (aj_ea [(1, r), v1, v2]).length N.2.2.1 = true)
    (hs : aj_sh sh r = some (.inr ci)) (k : aj_wp E al al X N d1 bc1 bs1 0 (aj_en [(1, r), v1, v2] N.2.2.1) [] sh g (aj_K E al ao X M d bc2 bs2 q lv rest Q)) : aj_wp E al ao X M d bc bs pc lv (v2 :: v1 :: (1, r) :: rest) sh g Q :=
  aj_callV [v1, v2] q hl hd hq rfl hdd hbc hbs hwt hea hs k
theorem aj_callV3 {N : aj_M} {index ci d1 bc1 bs1 bc2 bs2 : Nat} {r : Int} {rest : List aj_A} {v1 v2 v3 : aj_A} (q : Nat) (hl : aj_vl E M.1.cls index N 3 ci) (hd : decode M.2.1 pc = .ok (.invokevirtual index, 3)) (hq : pc + 3 = q) (hdd : d1 + 1 = d) (hbc : bc2 + bc1 = bc) (hbs : bs2 + bs1 = bs) (hwt : Nat.ble (aj_wt rest) 8 = true) (hea : Nat.ble (aj_ea [(1, r), v1, v2, v3]).length N.2.2.1 = true)
    (hs : aj_sh sh r = some (.inr ci)) (k : aj_wp E al al X N d1 bc1 bs1 0 (aj_en [(1, r), v1, v2, v3] N.2.2.1) [] sh g (aj_K E al ao X M d bc2 bs2 q lv rest Q)) : aj_wp E al ao X M d bc bs pc lv (v3 :: v2 :: v1 :: (1, r) :: rest) sh g Q :=
  aj_callV [v1, v2, v3] q hl hd hq rfl hdd hbc hbs hwt hea hs k
theorem aj_callV4 {N : aj_M} {index ci d1 bc1 bs1 bc2 bs2 : Nat} {r : Int} {rest : List aj_A} {v1 v2 v3 v4 : aj_A} (q : Nat) (hl : aj_vl E M.1.cls index N 4 ci) (hd : decode M.2.1 pc = .ok (.invokevirtual index, 3)) (hq : pc + 3 = q) (hdd : d1 + 1 = d) (hbc : bc2 + bc1 = bc) (hbs : bs2 + bs1 = bs) (hwt : Nat.ble (aj_wt rest) 8 = true) (hea : Nat.ble (aj_ea [(1, r), v1, v2, v3, v4]).length N.2.2.1 = true)
    (hs : aj_sh sh r = some (.inr ci)) (k : aj_wp E al al X N d1 bc1 bs1 0 (aj_en [(1, r), v1, v2, v3, v4] N.2.2.1) [] sh g (aj_K E al ao X M d bc2 bs2 q lv rest Q)) : aj_wp E al ao X M d bc bs pc lv (v4 :: v3 :: v2 :: v1 :: (1, r) :: rest) sh g Q :=
  aj_callV [v1, v2, v3, v4] q hl hd hq rfl hdd hbc hbs hwt hea hs k
theorem aj_callS0 {N : aj_M} {index d1 bc1 bs1 bc2 bs2 : Nat} {rest : List aj_A} (q : Nat) (hl : aj_sl E M.1.cls index N 0) (hd : decode M.2.1 pc = .ok (.invokestatic index, 3)) (hq : pc + 3 = q) (hdd : d1 + 1 = d) (hbc : bc2 + bc1 = bc) (hbs : bs2 + bs1 = bs) (hwt : Nat.ble (aj_wt rest) 8 = true) (hea : Nat.ble (aj_ea []).length N.2.2.1 = true)
    (k : aj_wp E al al X N d1 bc1 bs1 0 (aj_en [] N.2.2.1) [] sh g (aj_K E al ao X M d bc2 bs2 q lv rest Q)) : aj_wp E al ao X M d bc bs pc lv rest sh g Q :=
  aj_callS [] q hl hd hq rfl hdd hbc hbs hwt hea k
theorem aj_callS1 {N : aj_M} {index d1 bc1 bs1 bc2 bs2 : Nat} {rest : List aj_A} {v1 : aj_A} (q : Nat) (hl : aj_sl E M.1.cls index N 1) (hd : decode M.2.1 pc = .ok (.invokestatic index, 3)) (hq : pc + 3 = q) (hdd : d1 + 1 = d) (hbc : bc2 + bc1 = bc) (hbs : bs2 + bs1 = bs) (hwt : Nat.ble (aj_wt rest) 8 = true) (hea : Nat.ble (aj_ea [v1]).length N.2.2.1 = true)
    (k : aj_wp E al al X N d1 bc1 bs1 0 (aj_en [v1] N.2.2.1) [] sh g (aj_K E al ao X M d bc2 bs2 q lv rest Q)) : aj_wp E al ao X M d bc bs pc lv (v1 :: rest) sh g Q :=
  aj_callS [v1] q hl hd hq rfl hdd hbc hbs hwt hea k
theorem aj_callS2 {N : aj_M} {index d1 bc1 bs1 bc2 bs2 : Nat} {rest : List aj_A} {v1 v2 : aj_A} (q : Nat) (hl : aj_sl E M.1.cls index N 2) (hd : decode M.2.1 pc = .ok (.invokestatic index, 3)) (hq : pc + 3 = q) (hdd : d1 + 1 = d) (hbc : bc2 + bc1 = bc) (hbs : bs2 + bs1 = bs) (hwt : Nat.ble (aj_wt rest) 8 = true) (hea : Nat.ble (aj_ea [v1, v2]).length N.2.2.1 = true)
    (k : aj_wp E al al X N d1 bc1 bs1 0 (aj_en [v1, v2] N.2.2.1) [] sh g (aj_K E al ao X M d bc2 bs2 q lv rest Q)) : aj_wp E al ao X M d bc bs pc lv (v2 :: v1 :: rest) sh g Q :=
  aj_callS [v1, v2] q hl hd hq rfl hdd hbc hbs hwt hea k
theorem aj_callS3 {N : aj_M} {index d1 bc1 bs1 bc2 bs2 : Nat} {rest : List aj_A} {v1 v2 v3 : aj_A} (q : Nat) (hl : aj_sl E M.1.cls index N 3) (hd : decode M.2.1 pc = .ok (.invokestatic index, 3)) (hq : pc + 3 = q) (hdd : d1 + 1 = d) (hbc : bc2 + bc1 = bc) (hbs : bs2 + bs1 = bs) (hwt : Nat.ble (aj_wt rest) 8 = true) (hea : Nat.ble (aj_ea [v1, v2, v3]).length N.2.2.1 = true)
    (k : aj_wp E al al X N d1 bc1 bs1 0 (aj_en [v1, v2, v3] N.2.2.1) [] sh g (aj_K E al ao X M d bc2 bs2 q lv rest Q)) : aj_wp E al ao X M d bc bs pc lv (v3 :: v2 :: v1 :: rest) sh g Q :=
  aj_callS [v1, v2, v3] q hl hd hq rfl hdd hbc hbs hwt hea k
theorem aj_callS4 {N : aj_M} {index d1 bc1 bs1 bc2 bs2 : Nat} {rest : List aj_A} {v1 v2 v3 v4 : aj_A} (q : Nat) (hl : aj_sl E M.1.cls index N 4) (hd : decode M.2.1 pc = .ok (.invokestatic index, 3)) (hq : pc + 3 = q) (hdd : d1 + 1 = d) (hbc : bc2 + bc1 = bc) (hbs : bs2 + bs1 = bs) (hwt : Nat.ble (aj_wt rest) 8 = true) (hea : Nat.ble (aj_ea [v1, v2, v3, v4]).length N.2.2.1 = true)
    (k : aj_wp E al al X N d1 bc1 bs1 0 (aj_en [v1, v2, v3, v4] N.2.2.1) [] sh g (aj_K E al ao X M d bc2 bs2 q lv rest Q)) : aj_wp E al ao X M d bc bs pc lv (v4 :: v3 :: v2 :: v1 :: rest) sh g Q :=
  aj_callS [v1, v2, v3, v4] q hl hd hq rfl hdd hbc hbs hwt hea k
theorem aj_callS5 {N : aj_M} {index d1 bc1 bs1 bc2 bs2 : Nat} {rest : List aj_A} {v1 v2 v3 v4 v5 : aj_A} (q : Nat) (hl : aj_sl E M.1.cls index N 5) (hd : decode M.2.1 pc = .ok (.invokestatic index, 3)) (hq : pc + 3 = q) (hdd : d1 + 1 = d) (hbc : bc2 + bc1 = bc) (hbs : bs2 + bs1 = bs) (hwt : Nat.ble (aj_wt rest) 8 = true) (hea : Nat.ble (aj_ea [v1, v2, v3, v4, v5]).length N.2.2.1 = true)
    (k : aj_wp E al al X N d1 bc1 bs1 0 (aj_en [v1, v2, v3, v4, v5] N.2.2.1) [] sh g (aj_K E al ao X M d bc2 bs2 q lv rest Q)) : aj_wp E al ao X M d bc bs pc lv (v5 :: v4 :: v3 :: v2 :: v1 :: rest) sh g Q :=
  aj_callS [v1, v2, v3, v4, v5] q hl hd hq rfl hdd hbc hbs hwt hea k
theorem aj_callI0 {N : aj_M} {index d1 bc1 bs1 bc2 bs2 : Nat} {r : Int} {rest : List aj_A} (q : Nat) (hl : aj_il E M.1.cls index N 0) (hd : decode M.2.1 pc = .ok (.invokespecial index, 3)) (hq : pc + 3 = q) (hdd : d1 + 1 = d) (hbc : bc2 + bc1 = bc) (hbs : bs2 + bs1 = bs) (hwt : Nat.ble (aj_wt rest) 8 = true) (hea : Nat.ble (aj_ea [(1, r)]).length N.2.2.1 = true) (h0 : 0 ≤ r)
    (k : aj_wp E al al X N d1 bc1 bs1 0 (aj_en [(1, r)] N.2.2.1) [] sh g (aj_K E al ao X M d bc2 bs2 q lv rest Q)) : aj_wp E al ao X M d bc bs pc lv ((1, r) :: rest) sh g Q :=
  aj_callI [] q hl hd hq rfl hdd hbc hbs hwt hea h0 k
theorem aj_callI1 {N : aj_M} {index d1 bc1 bs1 bc2 bs2 : Nat} {r : Int} {rest : List aj_A} {v1 : aj_A} (q : Nat) (hl : aj_il E M.1.cls index N 1) (hd : decode M.2.1 pc = .ok (.invokespecial index, 3)) (hq : pc + 3 = q) (hdd : d1 + 1 = d) (hbc : bc2 + bc1 = bc) (hbs : bs2 + bs1 = bs) (hwt : Nat.ble (aj_wt rest) 8 = true) (hea : Nat.ble (aj_ea [(1, r), v1]).length N.2.2.1 = true) (h0 : 0 ≤ r)
    (k : aj_wp E al al X N d1 bc1 bs1 0 (aj_en [(1, r), v1] N.2.2.1) [] sh g (aj_K E al ao X M d bc2 bs2 q lv rest Q)) : aj_wp E al ao X M d bc bs pc lv (v1 :: (1, r) :: rest) sh g Q :=
  aj_callI [v1] q hl hd hq rfl hdd hbc hbs hwt hea h0 k
theorem aj_callI2 {N : aj_M} {index d1 bc1 bs1 bc2 bs2 : Nat} {r : Int} {rest : List aj_A} {v1 v2 : aj_A} (q : Nat) (hl : aj_il E M.1.cls index N 2) (hd : decode M.2.1 pc = .ok (.invokespecial index, 3)) (hq : pc + 3 = q) (hdd : d1 + 1 = d) (hbc : bc2 + bc1 = bc) (hbs : bs2 + bs1 = bs) (hwt : Nat.ble (aj_wt rest) 8 = true) (hea : Nat.ble (aj_ea [(1, r), v1, v2]).length N.2.2.1 = true) (h0 : 0 ≤ r)
    (k : aj_wp E al al X N d1 bc1 bs1 0 (aj_en [(1, r), v1, v2] N.2.2.1) [] sh g (aj_K E al ao X M d bc2 bs2 q lv rest Q)) : aj_wp E al ao X M d bc bs pc lv (v2 :: v1 :: (1, r) :: rest) sh g Q :=
  aj_callI [v1, v2] q hl hd hq rfl hdd hbc hbs hwt hea h0 k
theorem aj_callI3 {N : aj_M} {index d1 bc1 bs1 bc2 bs2 : Nat} {r : Int} {rest : List aj_A} {v1 v2 v3 : aj_A} (q : Nat) (hl : aj_il E M.1.cls index N 3) (hd : decode M.2.1 pc = .ok (.invokespecial index, 3)) (hq : pc + 3 = q) (hdd : d1 + 1 = d) (hbc : bc2 + bc1 = bc) (hbs : bs2 + bs1 = bs) (hwt : Nat.ble (aj_wt rest) 8 = true) (hea : Nat.ble (aj_ea [(1, r), v1, v2, v3]).length N.2.2.1 = true) (h0 : 0 ≤ r)
    (k : aj_wp E al al X N d1 bc1 bs1 0 (aj_en [(1, r), v1, v2, v3] N.2.2.1) [] sh g (aj_K E al ao X M d bc2 bs2 q lv rest Q)) : aj_wp E al ao X M d bc bs pc lv (v3 :: v2 :: v1 :: (1, r) :: rest) sh g Q :=
  aj_callI [v1, v2, v3] q hl hd hq rfl hdd hbc hbs hwt hea h0 k
end AJK
end
section
/-! the judgement: arraycopy, Math.min, Math.max, a new array of references, calls by their number of arguments -/
def aj_cpy (g : aj_G) (r0 r1 sp dp n : Int) : aj_G := fun r => if r = r1 then (fun i => if dp ≤ i ∧ i < dp + n then g r0 (sp + (i - dp)) else g r1 i) else g r
theorem aj_cpy_ne (g : aj_G) (r0 : Int) {r1 r : Int} (sp dp n : Int) (h : r ≠ r1) : aj_cpy g r0 r1 sp dp n r = g r := by simp [aj_cpy, h]
theorem aj_cpy_at (g : aj_G) (r0 r1 sp dp n i : Int) : aj_cpy g r0 r1 sp dp n r1 i = if dp ≤ i ∧ i < dp + n then g r0 (sp + (i - dp)) else g r1 i := by simp [aj_cpy]
section AJX
variable {E : aj_E} {al ao : Prop} {X : Option (Nat × (Int → Int))} {M : aj_M} {d bc bs pc : Nat} {lv : List (Option aj_A)} {st : List aj_A} {sh : List aj_S} {g : aj_G} {Q : aj_R → List aj_S → aj_G → Prop}
theorem aj_copyi {r0 r1 sp dp n : Int} {t0 n0 n1 index : Nat} (q : Nat) (hl : Cond.methodLink M.1.cls index arraycopyName ∈ E.2.2.2.1 ∧ Cond.native arraycopyName ∈ E.2.2.2.1 ∧ Cond.static arraycopyName ∈ E.2.2.2.1 ∧ Cond.initialized "java/lang/System" ∈ E.2.2.2.1) (hd : decode M.2.1 pc = .ok (.invokestatic index, 3)) (hq : pc + 3 = q) (hal : ¬ al)
    (hs0 : aj_sh sh r0 = some (.inl (t0, n0))) (hs1 : aj_sh sh r1 = some (.inl (t0, n1))) (ht : E.2.1[t0]? = some .int) (b1 : 0 ≤ sp) (b2 : 0 ≤ dp) (b3 : 0 ≤ n) (b4 : sp + n ≤ n0) (b5 : dp + n ≤ n1) (hdd : 1 ≤ d) (hwt : Nat.ble (aj_wt st) 8 = true)
    (k : aj_wp E al ao X M d bc bs q lv st sh (aj_cpy g r0 r1 sp dp n) Q) : aj_wp E al ao X M d bc bs pc lv ((0, n) :: (0, dp) :: (1, r1) :: (0, sp) :: (1, r0) :: st) sh g Q := by
  subst hq
  intro p l e R s m args below meth c H locs cells slots ls a tc D A hc0
  obtain ⟨h1, h2, h3, ⟨hP, hK, hD, hS, hA⟩, h5, h6, h7⟩ := hc0
  have hts := h1.2.2.2.2
  obtain ⟨z0, y0⟩ := aj_sh_get hs0
  obtain ⟨z1, y1⟩ := aj_sh_get hs1
  have hn0 := h6.2 _ _ _ y0
  have hn1 := h6.2 _ _ _ y1
  have hc : ∀ x : Int, 0 ≤ x → x < 2147483648 → (Int32.ofInt x).toNatClampNeg = x.toNat ∧ ¬ Int32.ofInt x < 0 := by
    intro x x0 x1
    have hI : aj_I x := ⟨by omega, x1⟩
    refine ⟨?_, ?_⟩
    · show (Int32.ofInt x).toInt.toNat = x.toNat
      rw [aj_ti hI]
    · rw [aj_0, aj_lt hI aj_I0]; omega
  obtain ⟨c1, d1⟩ := hc sp b1 (by omega)
  obtain ⟨c2, d2⟩ := hc dp b2 (by omega)
  obtain ⟨c3, d3⟩ := hc n b3 (by omega)
  have he0 : (aj_w E tc a sh g)[r0.toNat]? = some (a r0.toNat, .inl (tc t0, n0, .inl (fun j => Int32.ofInt (g r0 j)))) := by
    rw [aj_w_get hs0]; simp only [aj_cell]; rw [ht]; rfl
  have he1 : (aj_w E tc a sh g)[r1.toNat]? = some (a r1.toNat, .inl (tc t0, n1, .inl (fun j => Int32.ofInt (g r1 j)))) := by
    rw [aj_w_get hs1]; simp only [aj_cell]; rw [ht]; rfl
  simp only [List.map_cons]
  rw [aj_cr z0, aj_cr z1]
  refine va_copyi (sp := Int32.ofInt sp) (dp := Int32.ofInt dp) (n := Int32.ofInt n) h1.1 h1.2.1 (by rw [h1.2.2.1]; exact h5.2.1.symm) h1.2.2.2.1 (hts _ hl.1) (hts _ hl.2.1) (hts _ hl.2.2.1) (hts _ hl.2.2.2) hK hP hD hS r0.toNat r1.toNat t0 t0 he0 he1 (aj_ty_at ht) (aj_ty_at ht) rfl d1 d2 d3 (by rw [c1, c3]; omega) (by rw [c2, c3]; omega) (fun _ _ => rfl) (by omega) ?_ hd (fun H1 locs1 hP1 hD1 hS1 => ?_)
  · rw [aj_wt_eq]
    have := Nat.le_of_ble_eq_true hwt
    have hw : nativeFrameWords "java/lang/System" "arraycopy" 5 = 7 := by decide
    rw [hw]
    omega
  · have hset := aj_w_set (E := E) (tc := tc) (a := a) (g := g) (g' := aj_cpy g r0 r1 sp dp n) (c := .inl (tc t0, n1, .inl (va_cpy (fun j => Int32.ofInt (g r0 (j : Nat))) (fun j => Int32.ofInt (g r1 (j : Nat))) sp.toNat dp.toNat n.toNat))) hs1 (by
        simp only [aj_cell]
        rw [ht]
        show Sum.inl (tc t0, n1, Sum.inl _) = _
        congr 4
        funext j
        rw [aj_cpy_at]
        by_cases hj : dp ≤ (j : Int) ∧ (j : Int) < dp + n
        · rw [if_pos hj, pk_cpy_in (by omega) (by omega)]
          congr 2
          omega
        · rw [if_neg hj, pk_cpy_out (by omega)]) (fun r' hr' => aj_cpy_ne g r0 sp dp n hr')
    rw [c1, c2, c3, hset] at hP1 hD1
    exact k p l e R s m args below meth c H1 locs1 cells slots ls a tc D A ⟨h1, h2, h3, ⟨hP1, hK, hD1, hS1, hA⟩, h5, ⟨fun h => absurd h hal, h6.2⟩, h7⟩
theorem aj_mmax {x y : Int} {index : Nat} (q : Nat) (hl : Cond.methodLink M.1.cls index Lib.Math.max.name ∈ E.2.2.2.1 ∧ Cond.static Lib.Math.max.name ∈ E.2.2.2.1 ∧ Cond.initialized "java/lang/Math" ∈ E.2.2.2.1 ∧ Cond.code Lib.Math.max.name Lib.Math.max.code 2 (some .int) ∈ E.2.2.2.1) (hd : decode M.2.1 pc = .ok (.invokestatic index, 3)) (hq : pc + 3 = q) (hx : aj_I x) (hy : aj_I y) (hdd : 1 ≤ d) (hwt : Nat.ble (aj_wt st) 8 = true) (k : aj_wp E al ao X M d bc bs q lv ((0, if x < y then y else x) :: st) sh g Q) : aj_wp E al ao X M d bc bs pc lv ((0, y) :: (0, x) :: st) sh g Q := by
  subst hq
  intro p l e R s m args below meth c H locs cells slots ls a tc D A hc0
  have kk := k p l e R s m args below meth c H locs cells slots ls a tc D A hc0
  obtain ⟨h1, h2, h3, ⟨hP, hK, hD, hS, hA⟩, h5, h6, h7⟩ := hc0
  have hts := h1.2.2.2.2
  refine va_mmax (x := Int32.ofInt x) (y := Int32.ofInt y) h1.1 h1.2.1 (by rw [h1.2.2.1]; exact h5.2.1.symm) h1.2.2.2.1 (hts _ hl.1) (hts _ hl.2.1) (hts _ hl.2.2.1) (hts _ hl.2.2.2) (by omega) ?_ (by omega) (by omega) hd ?_
  · have := Nat.le_of_ble_eq_true hwt
    rw [aj_wt_eq]; omega
  · have he : (if Int32.ofInt x < Int32.ofInt y then Int32.ofInt y else Int32.ofInt x) = Int32.ofInt (if x < y then y else x) := by
      by_cases h : x < y
      · rw [if_pos h, if_pos ((aj_lt hx hy).mpr h)]
      · rw [if_neg h, if_neg (fun z => h ((aj_lt hx hy).mp z))]
    rw [he]
    exact kk
theorem aj_mmin {x y : Int} {index : Nat} (q : Nat) (hl : Cond.methodLink M.1.cls index Lib.Math.min.name ∈ E.2.2.2.1 ∧ Cond.static Lib.Math.min.name ∈ E.2.2.2.1 ∧ Cond.initialized "java/lang/Math" ∈ E.2.2.2.1 ∧ Cond.code Lib.Math.min.name Lib.Math.min.code 2 (some .int) ∈ E.2.2.2.1) (hd : decode M.2.1 pc = .ok (.invokestatic index, 3)) (hq : pc + 3 = q) (hx : aj_I x) (hy : aj_I y) (hdd : 1 ≤ d) (hwt : Nat.ble (aj_wt st) 8 = true) (k : aj_wp E al ao X M d bc bs q lv ((0, if y < x then y else x) :: st) sh g Q) : aj_wp E al ao X M d bc bs pc lv ((0, y) :: (0, x) :: st) sh g Q := by
  subst hq
  intro p l e R s m args below meth c H locs cells slots ls a tc D A hc0
  have kk := k p l e R s m args below meth c H locs cells slots ls a tc D A hc0
  obtain ⟨h1, h2, h3, ⟨hP, hK, hD, hS, hA⟩, h5, h6, h7⟩ := hc0
  have hts := h1.2.2.2.2
  refine va_mmin (x := Int32.ofInt x) (y := Int32.ofInt y) h1.1 h1.2.1 (by rw [h1.2.2.1]; exact h5.2.1.symm) h1.2.2.2.1 (hts _ hl.1) (hts _ hl.2.1) (hts _ hl.2.2.1) (hts _ hl.2.2.2) (by omega) ?_ (by omega) (by omega) hd ?_
  · have := Nat.le_of_ble_eq_true hwt
    rw [aj_wt_eq]; omega
  · have he : (if Int32.ofInt y < Int32.ofInt x then Int32.ofInt y else Int32.ofInt x) = Int32.ofInt (if y < x then y else x) := by
      by_cases h : y < x
      · rw [if_pos h, if_pos ((aj_lt hy hx).mpr h)]
      · rw [if_neg h, if_neg (fun z => h ((aj_lt hy hx).mp z))]
    rw [he]
    exact kk
theorem aj_newq {index t0 N bc1 bs1 : Nat} {n : Int} {C : String} (q : Nat) (hw : Cond.classLink M.1.cls index C ∈ E.2.2.2.1 ∧ Cond.arrayOver (.object C) ∈ E.2.2.2.1) (hd : decode M.2.1 pc = .ok (.anewarray index, 3)) (hq : pc + 3 = q) (ht : E.2.1[t0]? = some (.object C))
    (hN : ((N : Nat) : Int) = n) (hN2 : N ≤ 60000) (hbc : bc1 + 1 = bc) (hbs : bs1 + N = bs) (hal : al) (hsz : sh.length < 1000000) (k : aj_wp E al ao X M d bc1 bs1 q lv ((1, sh.length) :: st) (sh ++ [.inl (t0, N)]) (aj_nw g sh.length (fun _ => -1)) Q) : aj_wp E al ao X M d bc bs pc lv ((0, n) :: st) sh g Q := by
  subst hq
  subst hN
  subst hbc
  subst hbs
  intro p l e R s m args below meth c H locs cells slots ls a tc D A hc0
  obtain ⟨h1, h2, h3, ⟨hP, hK, hD, hS, hA⟩, h5, h6, h7⟩ := hc0
  have hts := h1.2.2.2.2
  have ha : a sh.length = H.size := by simpa using h6.1 hal 0 (by omega)
  have hI : aj_I (N : Nat) := ⟨by omega, by omega⟩
  have hnn : ¬ Int32.ofInt (N : Nat) < 0 := by rw [aj_0, aj_lt hI aj_I0]; omega
  have hcl : (Int32.ofInt (N : Nat)).toNatClampNeg = N := by
    show (Int32.ofInt (N : Nat)).toInt.toNat = N
    rw [aj_ti hI]; omega
  rw [List.map_cons]
  refine W.anew (n := Int32.ofInt (N : Nat)) h1.1 h1.2.1 h1.2.2.2.1 (hts _ hw.1) (hts _ hw.2) rfl hd rfl hnn (by rw [hcl]; omega) (by omega) (by rw [hcl]; omega) fun cA kA comp f1 f2 f3 f4 => ?_
  rw [hcl]
  generalize hH1 : H.push ({ cls := cA, slots := Array.replicate N .null, vm := .none } : Cell) = H1
  have z1 : H1.size = H.size + 1 := by rw [← hH1, Array.size_push]
  have e1 : H1[H.size]? = some (arrV cA N (fun _ => .null)) := by rw [← hH1, Array.getElem?_push_size, ← arrV_new]
  have o1 : ∀ q : Nat, q < H.size → H1[q]? = H[q]? := fun q hq => by rw [← hH1, Array.getElem?_push, if_neg (Nat.ne_of_lt hq)]
  have hcA : tc t0 = cA := by
    obtain ⟨kA', comp', -, -, -, hR⟩ := (hK.2 t0 _ (aj_ty_at ht)).2
    exact Option.some.inj (hR.symm.trans f1)
  have hcell : va_at D E.1 (a sh.length, aj_cell E tc a (.inl (t0, N)) (fun _ => -1)) H1 := by
    show H1[a sh.length]? = some (vp_cell (tc t0) (N, aj_row a E.2.1[t0]? (fun _ => -1)))
    rw [aj_rowr ht rfl, ha, e1, hcA]
    rfl
  obtain ⟨hP2, hD2, hS2⟩ := aj_push hP hD hS hA ha hcell z1 o1
  have kk := k p l e R s m args below meth c H1 locs (cells + 1) (slots + N) ls a tc D A ⟨h1, h2, ⟨h3.1, h3.2.1, by omega, by omega⟩, ⟨hP2, hK, hD2, hS2, hA⟩, h5, by rw [z1]; exact aj_ph_push h6 (fun t k hx => by cases hx; omega), h7⟩
  rw [show cells + 1 + bc1 = cells + (bc1 + 1) by omega, show slots + N + bs1 = slots + (bs1 + N) by omega, List.map_cons, aj_cr (by omega), Int.toNat_natCast, ha] at kk
  exact kk
end AJX
end
section
/-! Words as lists, the LAST letter first; cd: the code (1, then base-4 digits), shortlex order = order of codes. -/
def wd_cd : List Nat → Nat
  | [] => 1
  | i :: w => 4 * wd_cd w + i
def wd_ok (k : Nat) (w : List Nat) : Prop := ∀ i ∈ w, i < k
theorem wd_ok_nil (k : Nat) : wd_ok k [] := fun _ h => by cases h
theorem wd_ok_cons {k i : Nat} {w : List Nat} : wd_ok k (i :: w) ↔ i < k ∧ wd_ok k w := by
  unfold wd_ok
  constructor
  · intro h
    exact ⟨h i List.mem_cons_self, fun j hj => h j (List.mem_cons_of_mem _ hj)⟩
  · intro h j hj
    rcases List.mem_cons.mp hj with rfl | h2
    · exact h.1
    · exact h.2 j h2
theorem wd_pos (w : List Nat) : 1 ≤ wd_cd w := by
  induction w with
  | nil => exact Nat.le_refl 1
  | cons i w ih => show 1 ≤ 4 * wd_cd w + i; omega
theorem wd_lo (w : List Nat) : 4 ^ w.length ≤ wd_cd w := by
  induction w with
  | nil => exact Nat.le_refl 1
  | cons i w ih =>
    show 4 ^ (w.length + 1) ≤ 4 * wd_cd w + i
    rw [Nat.pow_succ]; omega
theorem wd_hi {w : List Nat} (h : wd_ok 4 w) : wd_cd w < 2 * 4 ^ w.length := by
  induction w with
  | nil => show 1 < 2 * 4 ^ 0; decide
  | cons i w ih =>
    obtain ⟨h1, h2⟩ := wd_ok_cons.mp h
    have := ih h2
    show 4 * wd_cd w + i < 2 * 4 ^ (w.length + 1)
    rw [Nat.pow_succ]; omega
theorem wd_len_lt {w v : List Nat} (hw : wd_ok 4 w) (h : w.length < v.length) : wd_cd w < wd_cd v := by
  have h1 := wd_hi hw
  have h2 := wd_lo v
  have h3 : 4 ^ (w.length + 1) ≤ 4 ^ v.length := Nat.pow_le_pow_right (by decide) h
  rw [Nat.pow_succ] at h3
  omega
theorem wd_len_le {w v : List Nat} (hv : wd_ok 4 v) (h : wd_cd w ≤ wd_cd v) : w.length ≤ v.length := by
  rcases Nat.lt_or_ge v.length w.length with h1 | h1
  · have := wd_len_lt hv h1
    omega
  · exact h1
theorem wd_inj : ∀ {w v : List Nat}, wd_ok 4 w → wd_ok 4 v → wd_cd w = wd_cd v → w = v
  | [], [], _, _, _ => rfl
  | [], j :: v, _, _, h => by
    have h1 : 1 = 4 * wd_cd v + j := h
    have := wd_pos v
    omega
  | i :: w, [], _, _, h => by
    have h1 : 4 * wd_cd w + i = 1 := h
    have := wd_pos w
    omega
  | i :: w, j :: v, hw, hv, h => by
    obtain ⟨h1, h2⟩ := wd_ok_cons.mp hw
    obtain ⟨h3, h4⟩ := wd_ok_cons.mp hv
    have h5 : 4 * wd_cd w + i = 4 * wd_cd v + j := h
    have h6 : i = j := by omega
    have h7 : wd_cd w = wd_cd v := by omega
    rw [h6, wd_inj h2 h4 h7]
theorem wd_cons_le {i : Nat} {w v : List Nat} (h : wd_cd w ≤ wd_cd v) : wd_cd (i :: w) ≤ wd_cd (i :: v) := by
  show 4 * wd_cd w + i ≤ 4 * wd_cd v + i
  omega
/-- a code of a longer word is larger than that of its beginning -/
theorem wd_cons_gt (i : Nat) (w : List Nat) : wd_cd w < wd_cd (i :: w) := by
  have := wd_pos w
  show wd_cd w < 4 * wd_cd w + i
  omega

/-! a machine's run over a word, and what tells two states apart (the last letter's outputs differ) -/
def rn (nx : Nat → Nat → Nat) (s : Nat) : List Nat → Nat
  | [] => s
  | i :: w => nx (rn nx s w) i
def df (nx ou : Nat → Nat → Nat) (s : Nat) (nx' ou' : Nat → Nat → Nat) (t : Nat) : List Nat → Prop
  | [] => False
  | i :: w => ou (rn nx s w) i ≠ ou' (rn nx' t w) i
def wd_none (k : Nat) (nx ou : Nat → Nat → Nat) (s : Nat) (nx' ou' : Nat → Nat → Nat) (t : Nat) : Prop := ∀ v, wd_ok k v → ¬ df nx ou s nx' ou' t v
def wd_least (k : Nat) (nx ou : Nat → Nat → Nat) (s : Nat) (nx' ou' : Nat → Nat → Nat) (t : Nat) (w : List Nat) : Prop :=
  wd_ok k w ∧ df nx ou s nx' ou' t w ∧ ∀ v, wd_ok k v → df nx ou s nx' ou' t v → wd_cd w ≤ wd_cd v

/-! breadth first: entries p < cnt with words W p; (at, inp): the next transition to look at -/
def bf_done (at_ inp p i k : Nat) : Prop := i < k ∧ (p < at_ ∨ (p = at_ ∧ i < inp))
def bf_I (k : Nat) (nx : Nat → Nat → Nat) (s : Nat) (nx' : Nat → Nat → Nat) (t : Nat) (W : Nat → List Nat) (cnt at_ inp : Nat) : Prop :=
  0 < cnt ∧ W 0 = [] ∧ at_ ≤ cnt ∧ inp ≤ k ∧ (∀ p, p < cnt → wd_ok k (W p)) ∧ (∀ p q, p < q → q < cnt → wd_cd (W p) < wd_cd (W q)) ∧
  (∀ p i, p < cnt → bf_done at_ inp p i k → ∃ q, q < cnt ∧ rn nx s (W q) = nx (rn nx s (W p)) i ∧ rn nx' t (W q) = nx' (rn nx' t (W p)) i ∧ wd_cd (W q) ≤ wd_cd (i :: W p)) ∧
  (∀ q, 0 < q → q < cnt → ∃ p i, p < q ∧ bf_done at_ inp p i k ∧ W q = i :: W p)
section BF
variable {k s t cnt at_ inp : Nat} {nx nx' ou ou' : Nat → Nat → Nat} {W : Nat → List Nat}
theorem bf_reach (hI : bf_I k nx s nx' t W cnt at_ inp) {c : Nat} (hpr : ∀ p i, p < cnt → i < k → wd_cd (i :: W p) < c → bf_done at_ inp p i k) :
    ∀ u, wd_ok k u → 4 * wd_cd u < c → ∃ p, p < cnt ∧ rn nx s (W p) = rn nx s u ∧ rn nx' t (W p) = rn nx' t u ∧ wd_cd (W p) ≤ wd_cd u := by
  obtain ⟨h0, hW0, -, -, -, -, h4, -⟩ := hI
  intro u
  induction u with
  | nil => exact fun _ _ => ⟨0, h0, by rw [hW0], by rw [hW0], by rw [hW0]; exact Nat.le_refl _⟩
  | cons i u ih =>
    intro hok hc
    obtain ⟨hi, hu⟩ := wd_ok_cons.mp hok
    have e1 : wd_cd (i :: u) = 4 * wd_cd u + i := rfl
    obtain ⟨p, hp, e2, e3, hle⟩ := ih hu (by omega)
    have hlt : wd_cd (i :: W p) < c := by
      have e4 : wd_cd (i :: W p) = 4 * wd_cd (W p) + i := rfl
      omega
    obtain ⟨q, hq, g1, g2, g3⟩ := h4 p i hp (hpr p i hp hi hlt)
    refine ⟨q, hq, ?_, ?_, ?_⟩
    · show _ = nx (rn nx s u) i
      rw [g1, e2]
    · show _ = nx' (rn nx' t u) i
      rw [g2, e3]
    · exact Nat.le_trans g3 (wd_cons_le hle)
theorem bf_min (hI : bf_I k nx s nx' t W cnt at_ inp) {c : Nat} (hpr : ∀ p i, p < cnt → i < k → wd_cd (i :: W p) < c → bf_done at_ inp p i k)
    (hnd : ∀ p i, p < cnt → wd_cd (i :: W p) < c → bf_done at_ inp p i k → ¬ df nx ou s nx' ou' t (i :: W p)) : ∀ v, wd_ok k v → df nx ou s nx' ou' t v → c ≤ wd_cd v := by
  intro v hv hd
  rcases Nat.lt_or_ge (wd_cd v) c with hlt | hge
  · cases v with
    | nil => exact absurd hd (fun h => h)
    | cons j u =>
      obtain ⟨hj, hu⟩ := wd_ok_cons.mp hv
      have e1 : wd_cd (j :: u) = 4 * wd_cd u + j := rfl
      obtain ⟨p, hp, e2, e3, hle⟩ := bf_reach hI hpr u hu (by omega)
      have hlt2 : wd_cd (j :: W p) < c := Nat.lt_of_le_of_lt (wd_cons_le hle) hlt
      refine absurd ?_ (hnd p j hp hlt2 (hpr p j hp hj hlt2))
      show ou (rn nx s (W p)) j ≠ ou' (rn nx' t (W p)) j
      rw [e2, e3]
      exact hd
  · exact hge
/-- in the order of the words: what comes before is done -/
theorem bf_before (hI : bf_I k nx s nx' t W cnt at_ inp) (hk : k ≤ 4) (hat : at_ < cnt) (hin : inp < k) {p i : Nat} (hp : p < cnt) (hi : i < k) (h : wd_cd (i :: W p) < wd_cd (inp :: W at_)) : bf_done at_ inp p i k := by
  obtain ⟨-, -, -, -, -, h2, -, -⟩ := hI
  have e1 : wd_cd (i :: W p) = 4 * wd_cd (W p) + i := rfl
  have e2 : wd_cd (inp :: W at_) = 4 * wd_cd (W at_) + inp := rfl
  refine ⟨hi, ?_⟩
  rcases Nat.lt_trichotomy p at_ with h1 | h1 | h1
  · exact Or.inl h1
  · subst h1
    exact Or.inr ⟨rfl, by omega⟩
  · have := h2 at_ p h1 hp
    omega
theorem bf_found (hI : bf_I k nx s nx' t W cnt at_ inp) (hk : k ≤ 4) (hat : at_ < cnt) (hin : inp < k) (hnd : ∀ p i, p < cnt → bf_done at_ inp p i k → ¬ df nx ou s nx' ou' t (i :: W p)) (hd : df nx ou s nx' ou' t (inp :: W at_)) :
    wd_least k nx ou s nx' ou' t (inp :: W at_) :=
  ⟨wd_ok_cons.mpr ⟨hin, hI.2.2.2.2.1 at_ hat⟩, hd, bf_min hI (fun p i hp hi h => bf_before hI hk hat hin hp hi h) (fun p i hp _ h => hnd p i hp h)⟩
theorem bf_none (hI : bf_I k nx s nx' t W cnt cnt 0) (hnd : ∀ p i, p < cnt → bf_done cnt 0 p i k → ¬ df nx ou s nx' ou' t (i :: W p)) : wd_none k nx ou s nx' ou' t := by
  intro v hv hd
  have h := bf_min (c := wd_cd v + 1) hI (fun p i hp hi _ => ⟨hi, Or.inl hp⟩) (fun p i hp _ h => hnd p i hp h) v hv hd
  omega
theorem bf_0 (hW : W 0 = []) : bf_I k nx s nx' t W 1 0 0 := by
  refine ⟨by decide, hW, by decide, Nat.zero_le _, ?_, ?_, ?_, ?_⟩
  · intro p hp
    have : p = 0 := by omega
    subst this
    rw [hW]
    exact wd_ok_nil k
  · intro p q h1 h2; omega
  · rintro p i hp ⟨-, h | ⟨-, h⟩⟩ <;> omega
  · intro q h1 h2; omega
theorem bf_row (hI : bf_I k nx s nx' t W cnt at_ k) (hat : at_ < cnt) : bf_I k nx s nx' t W cnt (at_ + 1) 0 := by
  obtain ⟨h0, hW0, h1, h2, h3, h4, h5, h6⟩ := hI
  have to : ∀ p i, bf_done (at_ + 1) 0 p i k → bf_done at_ k p i k := by
    rintro p i ⟨hi, h | ⟨-, h⟩⟩
    · rcases Nat.lt_or_ge p at_ with g | g
      · exact ⟨hi, Or.inl g⟩
      · exact ⟨hi, Or.inr ⟨by omega, hi⟩⟩
    · omega
  have back : ∀ p i, bf_done at_ k p i k → bf_done (at_ + 1) 0 p i k := by
    rintro p i ⟨hi, h | ⟨h, -⟩⟩
    · exact ⟨hi, Or.inl (by omega)⟩
    · exact ⟨hi, Or.inl (by omega)⟩
  refine ⟨h0, hW0, hat, Nat.zero_le _, h3, h4, fun p i hp hd => h5 p i hp (to p i hd), fun q g1 g2 => ?_⟩
  obtain ⟨p, i, e1, e2, e3⟩ := h6 q g1 g2
  exact ⟨p, i, e1, back p i e2, e3⟩
theorem bf_le (hI : bf_I k nx s nx' t W cnt at_ inp) (hk : k ≤ 4) (hat : at_ < cnt) {q : Nat} (hq : q < cnt) : wd_cd (W q) ≤ wd_cd (inp :: W at_) := by
  obtain ⟨-, hW0, -, -, -, h2, -, h6⟩ := hI
  have e2 : wd_cd (inp :: W at_) = 4 * wd_cd (W at_) + inp := rfl
  have hp := wd_pos (W at_)
  rcases Nat.eq_zero_or_pos q with rfl | g
  · rw [hW0]
    show 1 ≤ _
    omega
  · obtain ⟨p, i, e1, ⟨hi, hd⟩, e3⟩ := h6 q g hq
    have e4 : wd_cd (W q) = 4 * wd_cd (W p) + i := by rw [e3]; rfl
    rcases hd with hd | ⟨hd, h⟩
    · have := h2 p at_ hd hat
      omega
    · subst hd
      omega
theorem bf_lt (hI : bf_I k nx s nx' t W cnt at_ inp) (hk : k ≤ 4) (hat : at_ < cnt) {q : Nat} (hq : q < cnt) : wd_cd (W q) < wd_cd (inp :: W at_) := by
  obtain ⟨-, hW0, -, -, -, h2, -, h6⟩ := hI
  have e2 : wd_cd (inp :: W at_) = 4 * wd_cd (W at_) + inp := rfl
  have hp := wd_pos (W at_)
  rcases Nat.eq_zero_or_pos q with rfl | g
  · rw [hW0]
    show 1 < _
    omega
  · obtain ⟨p, i, e1, ⟨hi, hd⟩, e3⟩ := h6 q g hq
    have e4 : wd_cd (W q) = 4 * wd_cd (W p) + i := by rw [e3]; rfl
    rcases hd with hd | ⟨hd, h⟩
    · have := h2 p at_ hd hat
      omega
    · subst hd
      omega
theorem bf_done_step {p i : Nat} (h : bf_done at_ (inp + 1) p i k) : bf_done at_ inp p i k ∨ (p = at_ ∧ i = inp) := by
  obtain ⟨hi, h | ⟨h, g⟩⟩ := h
  · exact Or.inl ⟨hi, Or.inl h⟩
  · rcases Nat.lt_or_ge i inp with g2 | g2
    · exact Or.inl ⟨hi, Or.inr ⟨h, g2⟩⟩
    · exact Or.inr ⟨h, by omega⟩
theorem bf_done_mono {p i : Nat} (h : bf_done at_ inp p i k) : bf_done at_ (inp + 1) p i k := by
  obtain ⟨hi, h | ⟨h, g⟩⟩ := h
  · exact ⟨hi, Or.inl h⟩
  · exact ⟨hi, Or.inr ⟨h, by omega⟩⟩
/-- the pair was there -/
theorem bf_seen (hI : bf_I k nx s nx' t W cnt at_ inp) (hk : k ≤ 4) (hat : at_ < cnt) (hin : inp < k) {q : Nat} (hq : q < cnt) (e1 : rn nx s (W q) = nx (rn nx s (W at_)) inp) (e2 : rn nx' t (W q) = nx' (rn nx' t (W at_)) inp) :
    bf_I k nx s nx' t W cnt at_ (inp + 1) := by
  have hle := bf_le hI hk hat hq
  obtain ⟨h0, hW0, h1, h2, h3, h4, h5, h6⟩ := hI
  refine ⟨h0, hW0, h1, hin, h3, h4, fun p i hp hd => ?_, fun q g1 g2 => ?_⟩
  · rcases bf_done_step hd with hd | ⟨rfl, rfl⟩
    · exact h5 p i hp hd
    · exact ⟨q, hq, e1, e2, hle⟩
  · obtain ⟨p, i, a1, a2, a3⟩ := h6 q g1 g2
    exact ⟨p, i, a1, bf_done_mono a2, a3⟩
/-- the pair is new -/
theorem bf_new (hI : bf_I k nx s nx' t W cnt at_ inp) (hk : k ≤ 4) (hat : at_ < cnt) (hin : inp < k) {W' : Nat → List Nat} (hW : ∀ q, q < cnt → W' q = W q) (hc : W' cnt = inp :: W at_) :
    bf_I k nx s nx' t W' (cnt + 1) at_ (inp + 1) := by
  have hlt : ∀ q, q < cnt → wd_cd (W q) < wd_cd (inp :: W at_) := fun q hq => bf_lt hI hk hat hq
  obtain ⟨h0, hW0, h1, h2, h3, h4, h5, h6⟩ := hI
  refine ⟨by omega, by rw [hW 0 h0]; exact hW0, by omega, hin, fun p hp => ?_, fun p q g1 g2 => ?_, fun p i hp hd => ?_, fun q g1 g2 => ?_⟩
  · rcases Nat.lt_or_ge p cnt with g | g
    · rw [hW p g]; exact h3 p g
    · have : p = cnt := by omega
      subst this
      rw [hc]
      exact wd_ok_cons.mpr ⟨hin, h3 at_ hat⟩
  · rcases Nat.lt_or_ge q cnt with g | g
    · rw [hW q g, hW p (by omega)]; exact h4 p q g1 g
    · have : q = cnt := by omega
      subst this
      rw [hc, hW p g1]
      exact hlt p g1
  · rcases bf_done_step hd with hd | ⟨rfl, rfl⟩
    · have hp2 : p < cnt := by
        obtain ⟨-, h | ⟨h, -⟩⟩ := hd <;> omega
      obtain ⟨q, a1, a2, a3, a4⟩ := h5 p i hp2 hd
      exact ⟨q, by omega, by rw [hW q a1, hW p hp2]; exact a2, by rw [hW q a1, hW p hp2]; exact a3, by rw [hW q a1, hW p hp2]; exact a4⟩
    · exact ⟨cnt, by omega, by rw [hc, hW p hat]; rfl, by rw [hc, hW p hat]; rfl, by rw [hc, hW p hat]; exact Nat.le_refl _⟩
  · rcases Nat.lt_or_ge q cnt with g | g
    · obtain ⟨p, i, a1, a2, a3⟩ := h6 q g1 g
      exact ⟨p, i, a1, bf_done_mono a2, by rw [hW q g, hW p (by omega)]; exact a3⟩
    · have : q = cnt := by omega
      subst this
      exact ⟨at_, inp, hat, ⟨hin, Or.inr ⟨rfl, by omega⟩⟩, by rw [hc, hW at_ hat]⟩
end BF
end
section
/-! Counting, refinement, Moore's bound. -/
theorem mo_least {P : Nat → Prop} (h : ∃ n, P n) : ∃ n, P n ∧ ∀ m, m < n → ¬ P m := by
  obtain ⟨n, hn⟩ := h
  induction n using Nat.strongRecOn with
  | ind n ih =>
    by_cases hx : ∃ m, m < n ∧ P m
    · obtain ⟨m, h1, h2⟩ := hx
      exact ih m h1 h2
    · exact ⟨n, hn, fun m h1 h2 => hx ⟨m, h1, h2⟩⟩
noncomputable def mo_c (P : Nat → Prop) : Nat → Nat
  | 0 => 0
  | n + 1 => mo_c P n + @ite Nat (P n) (Classical.propDecidable _) 1 0
theorem mo_c_t {P : Nat → Prop} {n : Nat} (h : P n) : mo_c P (n + 1) = mo_c P n + 1 := by
  show mo_c P n + @ite Nat (P n) (Classical.propDecidable _) 1 0 = _
  rw [if_pos h]
theorem mo_c_f {P : Nat → Prop} {n : Nat} (h : ¬ P n) : mo_c P (n + 1) = mo_c P n := by
  show mo_c P n + @ite Nat (P n) (Classical.propDecidable _) 1 0 = _
  rw [if_neg h]; rfl
theorem mo_c_le (P : Nat → Prop) (n : Nat) : mo_c P n ≤ n := by
  induction n with
  | zero => exact Nat.le_refl 0
  | succ n ih =>
    by_cases h : P n
    · rw [mo_c_t h]; omega
    · rw [mo_c_f h]; omega
theorem mo_c_mono {P P' : Nat → Prop} {n : Nat} (h : ∀ s, s < n → P s → P' s) : mo_c P n ≤ mo_c P' n := by
  induction n with
  | zero => exact Nat.le_refl 0
  | succ n ih =>
    have h1 := ih (fun s hs => h s (by omega))
    by_cases hp : P n
    · rw [mo_c_t hp, mo_c_t (h n (by omega) hp)]; omega
    · rw [mo_c_f hp]
      by_cases hq : P' n
      · rw [mo_c_t hq]; omega
      · rw [mo_c_f hq]; exact h1
theorem mo_c_strict {P P' : Nat → Prop} {n x : Nat} (h : ∀ s, s < n → P s → P' s) (hx : x < n) (h1 : P' x) (h2 : ¬ P x) : mo_c P n + 1 ≤ mo_c P' n := by
  induction n with
  | zero => omega
  | succ n ih =>
    rcases Nat.lt_or_ge x n with g | g
    · have h3 := ih (fun s hs => h s (by omega)) g
      by_cases hp : P n
      · rw [mo_c_t hp, mo_c_t (h n (by omega) hp)]; omega
      · rw [mo_c_f hp]
        by_cases hq : P' n
        · rw [mo_c_t hq]; omega
        · rw [mo_c_f hq]; exact h3
    · have e : x = n := by omega
      subst e
      rw [mo_c_f h2, mo_c_t h1]
      have := mo_c_mono (n := x) (fun s hs => h s (by omega))
      omega
theorem mo_one : ∀ m, 1 ≤ mo_c (fun s => s = 0) (m + 1)
  | 0 => by rw [mo_c_t (P := fun s => s = 0) rfl]; exact Nat.le_add_left 1 _
  | m + 1 => by rw [mo_c_f (P := fun s => s = 0) (by omega)]; exact mo_one m
/-- a state that is the least of its class -/
def mo_rep (E : Nat → Nat → Prop) (s : Nat) : Prop := ∀ t, t < s → ¬ E t s
def mo_eq (E : Nat → Nat → Prop) : Prop := (∀ a, E a a) ∧ (∀ a b, E a b → E b a) ∧ ∀ a b c, E a b → E b c → E a c
theorem mo_refine {E E' : Nat → Nat → Prop} (hE : mo_eq E) (hE' : mo_eq E') (hsub : ∀ a b, E' a b → E a b) {n a b : Nat} (ha : a < n) (hb : b < n) (h1 : E a b) (h2 : ¬ E' a b) : mo_c (mo_rep E) n + 1 ≤ mo_c (mo_rep E') n := by
  obtain ⟨r, hr, hrm⟩ := mo_least (P := fun r => E r a) ⟨a, hE.1 a⟩
  obtain ⟨y, hy, hyr, hyn⟩ : ∃ y, y < n ∧ E y r ∧ ¬ E' y r := by
    by_cases g : E' a r
    · refine ⟨b, hb, hE.2.2 b a r (hE.2.1 a b h1) (hE.2.1 r a hr), fun g2 => h2 ?_⟩
      exact hE'.2.2 a r b g (hE'.2.1 b r g2)
    · exact ⟨a, ha, hE.2.1 r a hr, g⟩
  obtain ⟨x, ⟨hx1, hx2⟩, hxm⟩ := mo_least (P := fun x => E x r ∧ ¬ E' x r) ⟨y, hyr, hyn⟩
  have hxy : x ≤ y := Nat.le_of_not_lt fun g => hxm y g ⟨hyr, hyn⟩
  refine mo_c_strict (x := x) (fun s _ h t ht g => h t ht (hsub t s g)) (Nat.lt_of_le_of_lt hxy hy) (fun t ht g => ?_) (fun h => ?_)
  · refine hxm t ht ⟨hE.2.2 t x r (hsub t x g) hx1, fun g2 => hx2 ?_⟩
    exact hE'.2.2 x t r (hE'.2.1 t x g) g2
  · have hxa : E x a := hE.2.2 x r a hx1 hr
    have hne : r ≠ x := fun e => hx2 (by rw [← e]; exact hE'.1 r)
    have hle : r ≤ x := Nat.le_of_not_lt fun g => hrm x g hxa
    exact h r (by omega) (hE.2.1 x r hx1)

theorem rn_app (nx : Nat → Nat → Nat) (s i : Nat) (w : List Nat) : rn nx s (w ++ [i]) = rn nx (nx s i) w := by
  induction w with
  | nil => rfl
  | cons j w ih => show nx (rn nx s (w ++ [i])) j = nx (rn nx (nx s i) w) j; rw [ih]
theorem df_app {nx ou nx' ou' : Nat → Nat → Nat} {s t i j : Nat} {w : List Nat} : df nx ou s nx' ou' t ((j :: w) ++ [i]) ↔ df nx ou (nx s i) nx' ou' (nx' t i) (j :: w) := by
  show ou (rn nx s (w ++ [i])) j ≠ ou' (rn nx' t (w ++ [i])) j ↔ _
  rw [rn_app, rn_app]
  exact Iff.rfl
theorem wd_ok_app {k i : Nat} {w : List Nat} : wd_ok k (w ++ [i]) ↔ wd_ok k w ∧ i < k := by
  unfold wd_ok
  constructor
  · intro h
    exact ⟨fun j hj => h j (List.mem_append_left _ hj), h i (List.mem_append_right _ List.mem_cons_self)⟩
  · rintro ⟨h1, h2⟩ j hj
    rcases List.mem_append.mp hj with g | g
    · exact h1 j g
    · rw [List.mem_singleton.mp g]; exact h2
/-- alike under words of at most l letters -/
def mo_el (k : Nat) (nx ou : Nat → Nat → Nat) (l s t : Nat) : Prop := ∀ w, wd_ok k w → w.length ≤ l → ¬ df nx ou s nx ou t w
section MO
variable {k n : Nat} {nx ou : Nat → Nat → Nat}
theorem mo_el_eq (l : Nat) : mo_eq (mo_el k nx ou l) := by
  refine ⟨fun a w _ _ h => ?_, fun a b h w hw hl g => ?_, fun a b c h1 h2 w hw hl g => ?_⟩
  · cases w with
    | nil => exact h
    | cons i w => exact h rfl
  · cases w with
    | nil => exact g
    | cons i w => exact h (i :: w) hw hl (fun e => g e.symm)
  · cases w with
    | nil => exact g
    | cons i w =>
      have e1 : ou (rn nx a w) i = ou (rn nx b w) i := Decidable.byContradiction fun e => h1 (i :: w) hw hl e
      have e2 : ou (rn nx b w) i = ou (rn nx c w) i := Decidable.byContradiction fun e => h2 (i :: w) hw hl e
      exact g (e1.trans e2)
theorem mo_el_le {l l' s t : Nat} (h : mo_el k nx ou l' s t) (hl : l ≤ l') : mo_el k nx ou l s t := fun w hw g => h w hw (Nat.le_trans g hl)
def mo_stable (k n : Nat) (nx ou : Nat → Nat → Nat) (l : Nat) : Prop := ∀ s t, s < n → t < n → mo_el k nx ou l s t → mo_el k nx ou (l + 1) s t
theorem mo_all (hc : ∀ s i, s < n → i < k → nx s i < n) {l : Nat} (hs : mo_stable k n nx ou l) : ∀ m s t, s < n → t < n → mo_el k nx ou l s t → mo_el k nx ou m s t := by
  intro m
  induction m with
  | zero => exact fun s t _ _ h => mo_el_le h (Nat.zero_le l)
  | succ m ih =>
    intro s t h1 h2 h w hw hl
    rcases Nat.lt_or_ge (l + 1) w.length with g | g
    · rcases List.eq_nil_or_concat w with rfl | ⟨u, i, rfl⟩
      · exact fun x => x
      · rw [List.concat_eq_append] at *
        obtain ⟨hu, hi⟩ := wd_ok_app.mp hw
        have hlen : u.length + 1 ≤ m + 1 := by simpa using hl
        cases u with
        | nil => simp at g
        | cons j u =>
          rw [df_app]
          have h3 := hs s t h1 h2 h
          have h4 : mo_el k nx ou l (nx s i) (nx t i) := by
            intro v hv hvl g2
            cases v with
            | nil => exact g2
            | cons x v =>
              refine h3 ((x :: v) ++ [i]) (wd_ok_app.mpr ⟨hv, hi⟩) (by simp at hvl ⊢; omega) ?_
              rw [df_app]; exact g2
          exact ih (nx s i) (nx t i) (hc s i h1 hi) (hc t i h2 hi) h4 (j :: u) hu (by omega)
    · exact hs s t h1 h2 h w hw g
theorem mo_steps (hn : 0 < n) : ∀ l, (∀ j, j < l → ¬ mo_stable k n nx ou j) → l + 1 ≤ mo_c (mo_rep (mo_el k nx ou l)) n := by
  intro l
  induction l with
  | zero =>
    intro _
    obtain ⟨m, rfl⟩ : ∃ m, n = m + 1 := ⟨n - 1, by omega⟩
    have : mo_c (fun s => s = 0) (m + 1) ≤ mo_c (mo_rep (mo_el k nx ou 0)) (m + 1) := mo_c_mono fun s _ e t ht => by omega
    have h1 := mo_one m
    omega
  | succ l ih =>
    intro h
    have h1 := ih fun j hj => h j (by omega)
    have h2 := h l (by omega)
    unfold mo_stable at h2
    have h3 : ∃ s t, s < n ∧ t < n ∧ mo_el k nx ou l s t ∧ ¬ mo_el k nx ou (l + 1) s t := by
      refine Classical.byContradiction fun g => h2 fun s t a b c => Classical.byContradiction fun d => g ⟨s, t, a, b, c, d⟩
    obtain ⟨s, t, a, b, c, d⟩ := h3
    have := mo_refine (mo_el_eq l) (mo_el_eq (l + 1)) (fun x y g => mo_el_le g (by omega)) a b c d
    omega
/-- Moore: what n - 1 letters don't tell apart, no word does -/
theorem mo_bound (hn : 0 < n) (hc : ∀ s i, s < n → i < k → nx s i < n) {s t : Nat} (hs : s < n) (ht : t < n) (h : mo_el k nx ou (n - 1) s t) (m : Nat) : mo_el k nx ou m s t := by
  by_cases g : ∃ j, j < n ∧ mo_stable k n nx ou j
  · obtain ⟨j, hj, hst⟩ := g
    exact mo_all hc hst m s t hs ht (mo_el_le h (by omega))
  · have h1 := mo_steps (k := k) (nx := nx) (ou := ou) hn n fun j hj g2 => g ⟨j, hj, g2⟩
    have h2 := mo_c_le (mo_rep (mo_el k nx ou n)) n
    omega
theorem mo_len (hk : k ≤ 4) (hn : 0 < n) (hc : ∀ s i, s < n → i < k → nx s i < n) {s t : Nat} (hs : s < n) (ht : t < n) {w : List Nat} (h : wd_least k nx ou s nx ou t w) : w.length ≤ n - 1 := by
  rcases Nat.lt_or_ge (n - 1) w.length with g | g
  · refine absurd h.2.1 (mo_bound hn hc hs ht (fun v hv hl hd => ?_) w.length w h.1 (Nat.le_refl _))
    have h1 := h.2.2 v hv hd
    have h2 : wd_cd v < wd_cd w := wd_len_lt (fun i hi => Nat.lt_of_lt_of_le (hv i hi) hk) (by omega)
    omega
  · exact g
end MO
end
section
/-! codes and digits; lengths of shortest words; the greedy least word -/
theorem wd_div : ∀ (j : Nat) (w : List Nat), wd_ok 4 w → j ≤ w.length → wd_cd w / 4 ^ j = wd_cd (w.drop j)
  | 0, w, _, _ => by simp
  | j + 1, [], _, h => by simp at h
  | j + 1, i :: w, hw, h => by
    obtain ⟨h1, h2⟩ := wd_ok_cons.mp hw
    have ih := wd_div j w h2 (by simpa using h)
    rw [List.drop_succ_cons, ← ih]
    show (4 * wd_cd w + i) / 4 ^ (j + 1) = _
    rw [Nat.pow_succ, Nat.mul_comm (4 ^ j) 4, ← Nat.div_div_eq_div_mul]
    congr 1
    omega
theorem wd_dig {w : List Nat} {j : Nat} (hw : wd_ok 4 w) (hj : j < w.length) : wd_cd w / 4 ^ j % 4 = w[j] := by
  rw [wd_div j w hw (by omega), List.drop_eq_getElem_cons hj]
  show (4 * wd_cd _ + w[j]) % 4 = w[j]
  have := hw w[j] (List.getElem_mem hj)
  omega
theorem wd_gt1 {w : List Nat} : 1 < wd_cd w ↔ 0 < w.length := by
  cases w with
  | nil => simp [wd_cd]
  | cons i w =>
    have := wd_pos w
    show 1 < 4 * wd_cd w + i ↔ _
    simp
    omega
theorem wd_bound {w : List Nat} (hw : wd_ok 4 w) {n : Nat} (h : w.length ≤ n) : wd_cd w < 2 * 4 ^ n := by
  have h1 := wd_hi hw
  have h2 : 4 ^ w.length ≤ 4 ^ n := Nat.pow_le_pow_right (by decide) h
  omega
theorem wd_cd_app (i : Nat) (v : List Nat) : wd_cd (v ++ [i]) = wd_cd v + (3 + i) * 4 ^ v.length := by
  induction v with
  | nil => show 4 * 1 + i = 1 + (3 + i) * 4 ^ 0; omega
  | cons j v ih =>
    show 4 * wd_cd (v ++ [i]) + j = 4 * wd_cd v + j + (3 + i) * 4 ^ (v.length + 1)
    rw [ih, Nat.pow_succ, Nat.mul_add, ← Nat.mul_assoc, Nat.mul_comm 4 (3 + i), Nat.mul_assoc (3 + i) 4, Nat.mul_comm 4 (4 ^ v.length)]
    omega
theorem wd_app_lt {v u : List Nat} {i j : Nat} (hv : wd_ok 4 v) (hl : v.length = u.length) (h : i < j) : wd_cd (v ++ [i]) < wd_cd (u ++ [j]) := by
  rw [wd_cd_app, wd_cd_app, ← hl]
  have h1 := wd_hi hv
  have h2 := wd_lo u
  rw [← hl] at h2
  have h3 : (3 + i + 1) * 4 ^ v.length ≤ (3 + j) * 4 ^ v.length := Nat.mul_le_mul_right _ (by omega)
  rw [Nat.add_mul] at h3
  omega
theorem wd_ok_le {k k' : Nat} (h : k ≤ k') {w : List Nat} (hw : wd_ok k w) : wd_ok k' w := fun i hi => Nat.lt_of_lt_of_le (hw i hi) h
/-- the shortest words that tell s and t apart have m letters -/
def wd_ln (k : Nat) (nx ou : Nat → Nat → Nat) (s t m : Nat) : Prop := (∃ w, wd_ok k w ∧ w.length = m ∧ df nx ou s nx ou t w) ∧ ∀ w, wd_ok k w → w.length < m → ¬ df nx ou s nx ou t w
section LN
variable {k s t m : Nat} {nx ou : Nat → Nat → Nat}
theorem ln_pos (h : wd_ln k nx ou s t m) : 0 < m := by
  obtain ⟨⟨w, -, h1, h2⟩, -⟩ := h
  cases w with
  | nil => exact absurd h2 (fun z => z)
  | cons i w => rw [← h1]; exact Nat.succ_pos _
theorem ln_uniq {m' : Nat} (h : wd_ln k nx ou s t m) (h' : wd_ln k nx ou s t m') : m = m' := by
  obtain ⟨⟨w, a1, a2, a3⟩, a4⟩ := h
  obtain ⟨⟨v, b1, b2, b3⟩, b4⟩ := h'
  rcases Nat.lt_trichotomy m m' with g | g | g
  · exact absurd a3 (b4 w a1 (by omega))
  · exact g
  · exact absurd b3 (a4 v b1 (by omega))
theorem ln_one : wd_ln k nx ou s t 1 ↔ ∃ i, i < k ∧ ou s i ≠ ou t i := by
  constructor
  · rintro ⟨⟨w, a1, a2, a3⟩, -⟩
    match w, a2 with
    | [i], _ => exact ⟨i, (wd_ok_cons.mp a1).1, a3⟩
  · rintro ⟨i, hi, h⟩
    refine ⟨⟨[i], wd_ok_cons.mpr ⟨hi, wd_ok_nil k⟩, rfl, h⟩, fun w _ hl => ?_⟩
    have : w = [] := List.eq_nil_of_length_eq_zero (by omega)
    subst this
    exact fun z => z
theorem df_nil_not {w : List Nat} (h : df nx ou s nx ou t w) : w ≠ [] := by
  intro e
  subst e
  exact h
theorem ln_app {i : Nat} {u : List Nat} (hu : u ≠ []) : df nx ou s nx ou t (u ++ [i]) ↔ df nx ou (nx s i) nx ou (nx t i) u := by
  cases u with
  | nil => exact absurd rfl hu
  | cons j u => exact df_app
theorem ln_succ (hm : 0 < m) : wd_ln k nx ou s t (m + 1) ↔ (∀ w, wd_ok k w → w.length ≤ m → ¬ df nx ou s nx ou t w) ∧ ∃ i, i < k ∧ wd_ln k nx ou (nx s i) (nx t i) m := by
  have key : (∀ w, wd_ok k w → w.length ≤ m → ¬ df nx ou s nx ou t w) → ∀ i, i < k → ∀ v, wd_ok k v → v.length < m → ¬ df nx ou (nx s i) nx ou (nx t i) v := by
    intro h i hi v hv hl hd
    exact h (v ++ [i]) (wd_ok_app.mpr ⟨hv, hi⟩) (by rw [List.length_append, List.length_singleton]; omega) ((ln_app (df_nil_not hd)).mpr hd)
  constructor
  · rintro ⟨⟨w, a1, a2, a3⟩, a4⟩
    have hs : ∀ w, wd_ok k w → w.length ≤ m → ¬ df nx ou s nx ou t w := fun w hw hl => a4 w hw (by omega)
    refine ⟨hs, ?_⟩
    rcases List.eq_nil_or_concat w with rfl | ⟨u, i, rfl⟩
    · simp at a2
    · rw [List.concat_eq_append] at a1 a2 a3
      obtain ⟨b1, b2⟩ := wd_ok_app.mp a1
      have b3 : u.length = m := by rw [List.length_append, List.length_singleton] at a2; omega
      have b4 : u ≠ [] := fun e => by subst e; simp at b3; omega
      exact ⟨i, b2, ⟨u, b1, b3, (ln_app b4).mp a3⟩, key hs i b2⟩
  · rintro ⟨hs, i, hi, ⟨v, b1, b2, b3⟩, -⟩
    refine ⟨⟨v ++ [i], wd_ok_app.mpr ⟨b1, hi⟩, by rw [List.length_append, List.length_singleton, b2], (ln_app (df_nil_not b3)).mpr b3⟩, fun w hw hl => hs w hw (by omega)⟩
theorem least_len (hk : k ≤ 4) {w : List Nat} (h : wd_least k nx ou s nx ou t w) : wd_ln k nx ou s t w.length := by
  refine ⟨⟨w, h.1, rfl, h.2.1⟩, fun v hv hl hd => ?_⟩
  have h1 := h.2.2 v hv hd
  have h2 := wd_len_lt (wd_ok_le hk hv) hl
  omega
theorem least_uniq (hk : k ≤ 4) {nx' ou' : Nat → Nat → Nat} {w v : List Nat} (h : wd_least k nx ou s nx' ou' t w) (h' : wd_least k nx ou s nx' ou' t v) : w = v :=
  wd_inj (wd_ok_le hk h.1) (wd_ok_le hk h'.1) (Nat.le_antisymm (h.2.2 v h'.1 h'.2.1) (h'.2.2 w h.1 h.2.1))
theorem least_ex {nx' ou' : Nat → Nat → Nat} {w : List Nat} (hw : wd_ok k w) (hd : df nx ou s nx' ou' t w) : ∃ v, wd_least k nx ou s nx' ou' t v := by
  obtain ⟨c, ⟨v, h1, h2, h3⟩, h4⟩ := mo_least (P := fun c => ∃ v, wd_ok k v ∧ df nx ou s nx' ou' t v ∧ wd_cd v = c) ⟨_, w, hw, hd, rfl⟩
  refine ⟨v, h1, h2, fun u hu hdu => ?_⟩
  rcases Nat.lt_or_ge (wd_cd u) (wd_cd v) with g | g
  · exact absurd ⟨u, hu, hdu, rfl⟩ (h4 (wd_cd u) (by omega))
  · exact g
theorem least_one (hk : k ≤ 4) {i : Nat} (hi : i < k) (h : ou s i ≠ ou t i) (hm : ∀ j, j < i → ou s j = ou t j) : wd_least k nx ou s nx ou t [i] := by
  refine ⟨wd_ok_cons.mpr ⟨hi, wd_ok_nil k⟩, h, fun v hv hd => ?_⟩
  match v, hd with
  | [j], hd =>
    show 4 * 1 + i ≤ 4 * 1 + j
    rcases Nat.lt_or_ge j i with g | g
    · exact absurd (hm j g) hd
    · omega
  | j :: x :: v, _ =>
    have := wd_pos v
    obtain ⟨h1, -⟩ := wd_ok_cons.mp hv
    show 4 * 1 + i ≤ 4 * (4 * wd_cd v + x) + j
    omega
/-- greedy: the least first letter that leaves a shortest word, then the least word behind it -/
theorem least_app (hk : k ≤ 4) (hm : 0 < m) (h : wd_ln k nx ou s t (m + 1)) {i : Nat} (hi : i < k) (hl : wd_ln k nx ou (nx s i) (nx t i) m) (hlt : ∀ j, j < i → ¬ wd_ln k nx ou (nx s j) (nx t j) m) {v : List Nat} (hv : wd_least k nx ou (nx s i) nx ou (nx t i) v) : wd_least k nx ou s nx ou t (v ++ [i]) := by
  have hvl : v.length = m := ln_uniq (least_len hk hv) hl
  have hvn : v ≠ [] := df_nil_not hv.2.1
  refine ⟨wd_ok_app.mpr ⟨hv.1, hi⟩, (ln_app hvn).mpr hv.2.1, fun u hu hd => ?_⟩
  have hul : m + 1 ≤ u.length := by
    rcases Nat.lt_or_ge u.length (m + 1) with g | g
    · exact absurd hd (h.2 u hu g)
    · exact g
  have hlen : (v ++ [i]).length = m + 1 := by rw [List.length_append, List.length_singleton, hvl]
  rcases Nat.lt_or_ge (m + 1) u.length with g | g
  · exact Nat.le_of_lt (wd_len_lt (wd_ok_le hk (wd_ok_app.mpr ⟨hv.1, hi⟩)) (by omega))
  · rcases List.eq_nil_or_concat u with rfl | ⟨x, j, rfl⟩
    · simp at hul
    · rw [List.concat_eq_append] at *
      obtain ⟨b1, b2⟩ := wd_ok_app.mp hu
      have b3 : x.length = m := by rw [List.length_append, List.length_singleton] at hul g; omega
      have b4 : x ≠ [] := fun e => by subst e; simp at b3; omega
      have hdx := (ln_app b4).mp hd
      have hj : wd_ln k nx ou (nx s j) (nx t j) m := ⟨⟨x, b1, b3, hdx⟩, fun y hy hyl hyd => h.2 (y ++ [j]) (wd_ok_app.mpr ⟨hy, b2⟩) (by rw [List.length_append, List.length_singleton]; omega) ((ln_app (df_nil_not hyd)).mpr hyd)⟩
      rcases Nat.lt_trichotomy i j with g2 | g2 | g2
      · exact Nat.le_of_lt (wd_app_lt (wd_ok_le hk hv.1) (by omega) g2)
      · subst g2
        have := hv.2.2 x b1 hdx
        rw [wd_cd_app, wd_cd_app, hvl, b3]
        omega
      · exact absurd hj (hlt j g2)
end LN
end
section
/-! pigeonhole; states that are alike; the numbering as a trace that class and reference share -/
theorem pg_hole : ∀ (n N : Nat) (f : Nat → Nat), (∀ a, a < N → f a < n) → (∀ a b, a < N → b < N → f a = f b → a = b) → N ≤ n
  | 0, N, f, h, _ => by
    rcases Nat.eq_zero_or_pos N with g | g
    · omega
    · exact absurd (h 0 g) (Nat.not_lt_zero _)
  | n + 1, N, f, h, hi => by
    by_cases g : ∃ a, a < N ∧ f a = n
    · obtain ⟨a, ha, hf⟩ := g
      have h1 := pg_hole n (N - 1) (fun b => if b < a then f b else f (b + 1)) (fun b hb => by
          skip
          by_cases hba : b < a
          · rw [if_pos hba]
            have h2 := h b (by omega)
            have h3 : f b ≠ n := fun e => by have := hi b a (by omega) ha (e.trans hf.symm); omega
            omega
          · rw [if_neg hba]
            have h2 := h (b + 1) (by omega)
            have h3 : f (b + 1) ≠ n := fun e => by have := hi (b + 1) a (by omega) ha (e.trans hf.symm); omega
            omega) (fun b c hb hc e => by
          skip
          by_cases hba : b < a
          · rw [if_pos hba] at e
            by_cases hca : c < a
            · rw [if_pos hca] at e
              exact hi b c (by omega) (by omega) e
            · rw [if_neg hca] at e
              have := hi b (c + 1) (by omega) (by omega) e
              omega
          · rw [if_neg hba] at e
            by_cases hca : c < a
            · rw [if_pos hca] at e
              have := hi (b + 1) c (by omega) (by omega) e
              omega
            · rw [if_neg hca] at e
              have := hi (b + 1) (c + 1) (by omega) (by omega) e
              omega)
      omega
    · have h1 := pg_hole n N f (fun a ha => by
        have h2 := h a ha
        have h3 : f a ≠ n := fun e => g ⟨a, ha, e⟩
        omega) hi
      omega
/-! alike -/
def al_k (k : Nat) (nx ou : Nat → Nat → Nat) (s t : Nat) : Prop := wd_none k nx ou s nx ou t
section ALK
variable {k : Nat} {nx ou : Nat → Nat → Nat}
theorem al_refl (s : Nat) : al_k k nx ou s s := by
  intro v _ h
  cases v with
  | nil => exact h
  | cons i v => exact h rfl
theorem al_symm {s t : Nat} (h : al_k k nx ou s t) : al_k k nx ou t s := by
  intro v hv hd
  cases v with
  | nil => exact hd
  | cons i v => exact h (i :: v) hv (fun e => hd e.symm)
theorem al_trans {s t u : Nat} (h1 : al_k k nx ou s t) (h2 : al_k k nx ou t u) : al_k k nx ou s u := by
  intro v hv hd
  cases v with
  | nil => exact hd
  | cons i v =>
    have e1 : ou (rn nx s v) i = ou (rn nx t v) i := Decidable.byContradiction fun e => h1 (i :: v) hv e
    have e2 : ou (rn nx t v) i = ou (rn nx u v) i := Decidable.byContradiction fun e => h2 (i :: v) hv e
    exact hd (e1.trans e2)
theorem al_out {s t i : Nat} (h : al_k k nx ou s t) (hi : i < k) : ou s i = ou t i := Decidable.byContradiction fun e => h [i] (wd_ok_cons.mpr ⟨hi, wd_ok_nil k⟩) e
theorem al_next {s t i : Nat} (h : al_k k nx ou s t) (hi : i < k) : al_k k nx ou (nx s i) (nx t i) := by
  intro v hv hd
  cases v with
  | nil => exact hd
  | cons j v => exact h ((j :: v) ++ [i]) (wd_ok_app.mpr ⟨hv, hi⟩) (df_app.mpr hd)
theorem al_run {s t : Nat} (h : al_k k nx ou s t) : ∀ w, wd_ok k w → al_k k nx ou (rn nx s w) (rn nx t w)
  | [], _ => h
  | i :: w, hw => by
    obtain ⟨h1, h2⟩ := wd_ok_cons.mp hw
    exact al_next (al_run h w h2) h1
end ALK
/-- the twin: the first state that is alike -/
def tw_ok (k n : Nat) (nx ou : Nat → Nat → Nat) (tw : Nat → Nat) : Prop := ∀ s, s < n → tw s ≤ s ∧ al_k k nx ou s (tw s) ∧ ∀ t, t < tw s → ¬ al_k k nx ou s t
section TW
variable {k n : Nat} {nx ou : Nat → Nat → Nat} {tw : Nat → Nat}
theorem tw_eq (h : tw_ok k n nx ou tw) {s t : Nat} (hs : s < n) (ht : t < n) : tw s = tw t ↔ al_k k nx ou s t := by
  obtain ⟨a1, a2, a3⟩ := h s hs
  obtain ⟨b1, b2, b3⟩ := h t ht
  constructor
  · intro e
    rw [← e] at b2
    exact al_trans a2 (al_symm b2)
  · intro e
    rcases Nat.lt_trichotomy (tw s) (tw t) with g | g | g
    · exact absurd (al_trans (al_symm e) a2) (b3 _ g)
    · exact g
    · exact absurd (al_trans e b2) (a3 _ g)
theorem tw_lt (h : tw_ok k n nx ou tw) {s : Nat} (hs : s < n) : tw s < n := Nat.lt_of_le_of_lt (h s hs).1 hs
theorem tw_tw (h : tw_ok k n nx ou tw) {s : Nat} (hs : s < n) : tw (tw s) = tw s := (tw_eq h (tw_lt h hs) hs).mpr (al_symm (h s hs).2.1)
end TW
/-! the trace -/
def nb_up (f : Nat → Nat) (a x : Nat) : Nat → Nat := fun b => if b = a then x else f b
theorem nb_up_self (f : Nat → Nat) (a x : Nat) : nb_up f a x a = x := if_pos rfl
theorem nb_up_ne (f : Nat → Nat) {a b : Nat} (x : Nat) (h : b ≠ a) : nb_up f a x b = f b := if_neg h
def nb_in (N : Nat) (mb : Nat → Nat) (t : Nat) : Bool := (List.range N).any (fun a => mb a == t)
theorem nb_in_iff {N : Nat} {mb : Nat → Nat} {t : Nat} : nb_in N mb t = true ↔ ∃ a, a < N ∧ mb a = t := by
  unfold nb_in
  rw [List.any_eq_true]
  constructor
  · rintro ⟨a, h1, h2⟩
    exact ⟨a, List.mem_range.mp h1, by simpa using h2⟩
  · rintro ⟨a, h1, h2⟩
    exact ⟨a, List.mem_range.mpr h1, by simpa using h2⟩
abbrev nb_T : Type := Nat × (Nat → Nat) × (Nat → Nat) × (Nat → Nat)
def nb_st (k : Nat) (nx : Nat → Nat → Nat) (tw : Nat → Nat) (j : Nat) (q : nb_T) : nb_T :=
  if nb_in q.1 q.2.1 (tw (nx (q.2.1 (j / k)) (j % k))) = true then q
  else (q.1 + 1, nb_up q.2.1 q.1 (tw (nx (q.2.1 (j / k)) (j % k))), nb_up q.2.2.1 q.1 (j / k), nb_up q.2.2.2 q.1 (j % k))
def nb (k : Nat) (nx : Nat → Nat → Nat) (tw : Nat → Nat) (s0 : Nat) : Nat → nb_T
  | 0 => (1, fun _ => tw s0, fun _ => 0, fun _ => 0)
  | j + 1 => nb_st k nx tw j (nb k nx tw s0 j)
/-- what holds all along, as long as the place is in the list -/
def nb_I (k n : Nat) (nx : Nat → Nat → Nat) (tw : Nat → Nat) (s0 j : Nat) (q : nb_T) : Prop :=
  0 < q.1 ∧ q.2.1 0 = tw s0 ∧ (∀ a, a < q.1 → q.2.1 a < n ∧ tw (q.2.1 a) = q.2.1 a) ∧ (∀ a b, a < q.1 → b < q.1 → q.2.1 a = q.2.1 b → a = b) ∧
  (∀ a, 0 < a → a < q.1 → q.2.2.1 a < a ∧ q.2.2.2 a < k ∧ q.2.1 a = tw (nx (q.2.1 (q.2.2.1 a)) (q.2.2.2 a))) ∧
  ∀ a i, i < k → a * k + i < j → ∃ b, b < q.1 ∧ q.2.1 b = tw (nx (q.2.1 a) i)
section NB
variable {k n s0 : Nat} {nx ou : Nat → Nat → Nat} {tw : Nat → Nat}
theorem nb_le {j : Nat} {q : nb_T} (h : nb_I k n nx tw s0 j q) : q.1 ≤ n := pg_hole n q.1 q.2.1 (fun a ha => (h.2.2.1 a ha).1) h.2.2.2.1
theorem nb_step (hk : 0 < k) (htw : tw_ok k n nx ou tw) (hc : ∀ s i, s < n → i < k → nx s i < n) {j : Nat} {q : nb_T} (h : nb_I k n nx tw s0 j q) (hj : j / k < q.1) : nb_I k n nx tw s0 (j + 1) (nb_st k nx tw j q) := by
  have hlt : j % k < k := Nat.mod_lt _ hk
  have hjj : j / k * k + j % k = j := by rw [Nat.mul_comm]; exact Nat.div_add_mod j k
  obtain ⟨h1, h2, h3, h4, h5, h6⟩ := h
  have hm := h3 _ hj
  have ht : tw (nx (q.2.1 (j / k)) (j % k)) < n := tw_lt htw (hc _ _ hm.1 hlt)
  have htt := tw_tw htw (hc _ _ hm.1 hlt)
  have key : ∀ a i, i < k → a * k + i = j → a = j / k ∧ i = j % k := by
    intro a i hi e
    rw [← e]
    exact ⟨by rw [Nat.mul_comm, Nat.mul_add_div hk, Nat.div_eq_of_lt hi]; rfl, by rw [Nat.mul_comm, Nat.mul_add_mod, Nat.mod_eq_of_lt hi]⟩
  unfold nb_st
  by_cases g : nb_in q.1 q.2.1 (tw (nx (q.2.1 (j / k)) (j % k))) = true
  · rw [if_pos g]
    refine ⟨h1, h2, h3, h4, h5, fun a i hi hl => ?_⟩
    rcases Nat.lt_or_ge (a * k + i) j with g2 | g2
    · exact h6 a i hi g2
    · obtain ⟨rfl, rfl⟩ := key a i hi (by omega)
      exact nb_in_iff.mp g
  · rw [if_neg g]
    have hne : ∀ a, a < q.1 → q.2.1 a ≠ tw (nx (q.2.1 (j / k)) (j % k)) := fun a ha e => g (nb_in_iff.mpr ⟨a, ha, e⟩)
    refine ⟨by show 0 < q.1 + 1; omega, ?_, fun a ha => ?_, fun a b ha hb e => ?_, fun a ha0 ha => ?_, fun a i hi hl => ?_⟩
    · show nb_up _ _ _ 0 = _
      rw [nb_up_ne _ _ (by omega)]; exact h2
    · show nb_up _ _ _ a < n ∧ tw (nb_up _ _ _ a) = nb_up _ _ _ a
      by_cases e : a = q.1
      · subst e
        rw [nb_up_self]
        exact ⟨ht, htt⟩
      · rw [nb_up_ne _ _ e]
        exact h3 a (by have : a < q.1 + 1 := ha; omega)
    · have ha' : a < q.1 + 1 := ha
      have hb' : b < q.1 + 1 := hb
      have e' : nb_up q.2.1 q.1 (tw (nx (q.2.1 (j / k)) (j % k))) a = nb_up q.2.1 q.1 (tw (nx (q.2.1 (j / k)) (j % k))) b := e
      by_cases ea : a = q.1
      · by_cases eb : b = q.1
        · omega
        · rw [ea, nb_up_self, nb_up_ne _ _ eb] at e'
          exact absurd e'.symm (hne b (by omega))
      · by_cases eb : b = q.1
        · rw [eb, nb_up_self, nb_up_ne _ _ ea] at e'
          exact absurd e' (hne a (by omega))
        · rw [nb_up_ne _ _ ea, nb_up_ne _ _ eb] at e'
          exact h4 a b (by omega) (by omega) e'
    · have ha' : a < q.1 + 1 := ha
      show nb_up q.2.2.1 q.1 (j / k) a < a ∧ nb_up q.2.2.2 q.1 (j % k) a < k ∧ nb_up q.2.1 q.1 _ a = tw (nx (nb_up q.2.1 q.1 _ (nb_up q.2.2.1 q.1 (j / k) a)) (nb_up q.2.2.2 q.1 (j % k) a))
      by_cases ea : a = q.1
      · subst ea
        rw [nb_up_self, nb_up_self, nb_up_self, nb_up_ne _ _ (by omega)]
        exact ⟨hj, hlt, rfl⟩
      · rw [nb_up_ne _ _ ea, nb_up_ne _ _ ea, nb_up_ne _ _ ea]
        obtain ⟨c1, c2, c3⟩ := h5 a ha0 (by omega)
        rw [nb_up_ne _ _ (by omega)]
        exact ⟨c1, c2, c3⟩
    · show ∃ b, b < q.1 + 1 ∧ nb_up q.2.1 q.1 _ b = tw (nx (nb_up q.2.1 q.1 _ a) i)
      rcases Nat.lt_or_ge (a * k + i) j with g2 | g2
      · have ha : a < q.1 := by
          have : a ≤ j / k := by
            rw [Nat.le_div_iff_mul_le hk]; omega
          omega
        obtain ⟨b, b1, b2⟩ := h6 a i hi g2
        exact ⟨b, by omega, by rw [nb_up_ne _ _ (by omega), nb_up_ne _ _ (by omega)]; exact b2⟩
      · obtain ⟨rfl, rfl⟩ := key a i hi (by omega)
        exact ⟨q.1, by omega, by rw [nb_up_self, nb_up_ne _ _ (by omega)]⟩
theorem nb_0 (hn : s0 < n) (htw : tw_ok k n nx ou tw) : nb_I k n nx tw s0 0 (nb k nx tw s0 0) := by
  refine ⟨Nat.one_pos, rfl, fun a _ => ⟨tw_lt htw hn, tw_tw htw hn⟩, fun a b ha hb _ => ?_, fun a h0 ha => ?_, fun a i _ h => absurd h (Nat.not_lt_zero _)⟩
  · have ha' : a < 1 := ha
    have hb' : b < 1 := hb
    omega
  · have ha' : a < 1 := ha
    omega
end NB
end
section
/-! states of two machines that are alike; words that tell; the family as a trace -/
section XA
variable {k : Nat} {nx ou nx' ou' : Nat → Nat → Nat}
theorem xa_out {s s' : Nat} (h : wd_none k nx ou s nx' ou' s') {w : List Nat} {i : Nat} (hw : wd_ok k w) (hi : i < k) : ou (rn nx s w) i = ou' (rn nx' s' w) i :=
  Decidable.byContradiction fun e => h (i :: w) (wd_ok_cons.mpr ⟨hi, hw⟩) e
theorem xa_df {s t s' t' : Nat} (h1 : wd_none k nx ou s nx' ou' s') (h2 : wd_none k nx ou t nx' ou' t') {w : List Nat} (hw : wd_ok k w) : df nx ou s nx ou t w ↔ df nx' ou' s' nx' ou' t' w := by
  cases w with
  | nil => exact Iff.rfl
  | cons i w =>
    obtain ⟨a, b⟩ := wd_ok_cons.mp hw
    show ou (rn nx s w) i ≠ ou (rn nx t w) i ↔ ou' (rn nx' s' w) i ≠ ou' (rn nx' t' w) i
    rw [xa_out h1 b a, xa_out h2 b a]
theorem xa_least {s t s' t' : Nat} (h1 : wd_none k nx ou s nx' ou' s') (h2 : wd_none k nx ou t nx' ou' t') {w : List Nat} : wd_least k nx ou s nx ou t w ↔ wd_least k nx' ou' s' nx' ou' t' w := by
  constructor
  · rintro ⟨a, b, c⟩
    exact ⟨a, (xa_df h1 h2 a).mp b, fun v hv hd => c v hv ((xa_df h1 h2 hv).mpr hd)⟩
  · rintro ⟨a, b, c⟩
    exact ⟨a, (xa_df h1 h2 a).mpr b, fun v hv hd => c v hv ((xa_df h1 h2 hv).mp hd)⟩
theorem xa_none {s t s' t' : Nat} (h1 : wd_none k nx ou s nx' ou' s') (h2 : wd_none k nx ou t nx' ou' t') : wd_none k nx ou s nx ou t ↔ wd_none k nx' ou' s' nx' ou' t' :=
  ⟨fun h v hv hd => h v hv ((xa_df h1 h2 hv).mpr hd), fun h v hv hd => h v hv ((xa_df h1 h2 hv).mp hd)⟩
/-- a word tells two states apart: somewhere on its way their outputs differ -/
def tl (nx ou : Nat → Nat → Nat) (s t : Nat) : List Nat → Prop
  | [] => False
  | i :: w => tl nx ou s t w ∨ df nx ou s nx ou t (i :: w)
theorem xa_tl {s t s' t' : Nat} (h1 : wd_none k nx ou s nx' ou' s') (h2 : wd_none k nx ou t nx' ou' t') : ∀ w : List Nat, wd_ok k w → (tl nx ou s t w ↔ tl nx' ou' s' t' w)
  | [], _ => Iff.rfl
  | i :: w, hw => by
    obtain ⟨a, b⟩ := wd_ok_cons.mp hw
    show (tl nx ou s t w ∨ df nx ou s nx ou t (i :: w)) ↔ (tl nx' ou' s' t' w ∨ df nx' ou' s' nx' ou' t' (i :: w))
    rw [xa_tl h1 h2 w b, xa_df h1 h2 hw]
theorem tl_df {s t : Nat} {w : List Nat} (h : df nx ou s nx ou t w) : tl nx ou s t w := by
  cases w with
  | nil => exact h
  | cons i w => exact Or.inr h
theorem tl_ex {s t : Nat} : ∀ {w : List Nat}, wd_ok k w → tl nx ou s t w → ∃ v, wd_ok k v ∧ df nx ou s nx ou t v
  | [], _, h => absurd h (fun z => z)
  | i :: w, hw, h => by
    rcases h with h | h
    · exact tl_ex (wd_ok_cons.mp hw).2 h
    · exact ⟨_, hw, h⟩
theorem tl_symm {s t : Nat} : ∀ {w : List Nat}, tl nx ou s t w → tl nx ou t s w
  | [], h => h
  | i :: w, h => by
    rcases h with h | h
    · exact Or.inl (tl_symm h)
    · exact Or.inr (fun e => h e.symm)
theorem tl_trans {s t u : Nat} : ∀ {w : List Nat}, ¬ tl nx ou s t w → ¬ tl nx ou t u w → ¬ tl nx ou s u w
  | [], _, _, h => h
  | i :: w, h1, h2, h => by
    rcases h with h | h
    · exact tl_trans (fun z => h1 (Or.inl z)) (fun z => h2 (Or.inl z)) h
    · have e1 : ou (rn nx s w) i = ou (rn nx t w) i := Decidable.byContradiction fun e => h1 (Or.inr e)
      have e2 : ou (rn nx t w) i = ou (rn nx u w) i := Decidable.byContradiction fun e => h2 (Or.inr e)
      exact h (e1.trans e2)
theorem tl_irr {s : Nat} : ∀ w : List Nat, ¬ tl nx ou s s w
  | [], h => h
  | i :: w, h => by
    rcases h with h | h
    · exact tl_irr w h
    · exact h rfl
end XA
/-! a machine whose states stand for states of another -/
theorem mm_run {k N : Nat} {nx ou mnx : Nat → Nat → Nat} {mb : Nat → Nat} (hc : ∀ a i, a < N → i < k → mnx a i < N ∧ al_k k nx ou (mb (mnx a i)) (nx (mb a) i)) {a : Nat} (ha : a < N) : ∀ w, wd_ok k w → rn mnx a w < N ∧ al_k k nx ou (mb (rn mnx a w)) (rn nx (mb a) w)
  | [], _ => ⟨ha, al_refl _⟩
  | i :: w, hw => by
    obtain ⟨h1, h2⟩ := wd_ok_cons.mp hw
    obtain ⟨a1, a2⟩ := mm_run hc ha w h2
    obtain ⟨b1, b2⟩ := hc _ i a1 h1
    exact ⟨b1, al_trans b2 (al_next a2 h1)⟩
theorem mm_none {k N : Nat} {nx ou mnx mou : Nat → Nat → Nat} {mb : Nat → Nat} (hc : ∀ a i, a < N → i < k → mnx a i < N ∧ al_k k nx ou (mb (mnx a i)) (nx (mb a) i)) (ho : ∀ a i, a < N → i < k → mou a i = ou (mb a) i) {a : Nat} (ha : a < N) : wd_none k mnx mou a nx ou (mb a) := by
  intro v hv hd
  cases v with
  | nil => exact hd
  | cons i w =>
    obtain ⟨h1, h2⟩ := wd_ok_cons.mp hv
    obtain ⟨a1, a2⟩ := mm_run hc ha w h2
    exact hd ((ho _ i a1 h1).trans (al_out a2 h1))
/-! the family -/
section FM
variable {k N : Nat} {nx ou : Nat → Nat → Nat}
def fm_un (nx ou : Nat → Nat → Nat) (F : Nat → List Nat) (c s t : Nat) : Prop := ∀ w, w < c → ¬ tl nx ou s t (F w)
theorem fm_eq (F : Nat → List Nat) (c : Nat) : mo_eq (fm_un nx ou F c) :=
  ⟨fun a w _ => tl_irr _, fun a b h w hw z => h w hw (tl_symm z), fun a b d h1 h2 w hw => tl_trans (h1 w hw) (h2 w hw)⟩
/-- each word of the family told a pair that none before it told: so there are fewer than states -/
theorem fm_size (hN : 0 < N) {F : Nat → List Nat} : ∀ c, (∀ w, w < c → ∃ s t, s < N ∧ t < N ∧ fm_un nx ou F w s t ∧ tl nx ou s t (F w)) → c + 1 ≤ mo_c (mo_rep (fm_un nx ou F c)) N
  | 0, _ => by
    obtain ⟨m, rfl⟩ : ∃ m, N = m + 1 := ⟨N - 1, by omega⟩
    have h1 := mo_one m
    have h2 : mo_c (fun s => s = 0) (m + 1) ≤ mo_c (mo_rep (fm_un nx ou F 0)) (m + 1) := mo_c_mono fun s _ e t ht => by omega
    omega
  | c + 1, h => by
    have ih := fm_size hN c (fun w hw => h w (by omega))
    obtain ⟨s, t, a1, a2, a3, a4⟩ := h c (by omega)
    have := mo_refine (fm_eq (nx := nx) (ou := ou) F c) (fm_eq F (c + 1)) (fun x y g w hw => g w (by omega)) a1 a2 a3 (fun g => g c (by omega) a4)
    omega
theorem fm_le (hN : 0 < N) {F : Nat → List Nat} {c : Nat} (h : ∀ w, w < c → ∃ s t, s < N ∧ t < N ∧ fm_un nx ou F w s t ∧ tl nx ou s t (F w)) : c + 1 ≤ N :=
  Nat.le_trans (fm_size hN c h) (mo_c_le _ N)
end FM
end
