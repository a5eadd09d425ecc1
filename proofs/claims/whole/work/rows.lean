section
/-! A judgement over places: the machine's words are read as whole numbers, a reference as a place's number, the heap as a table of rows of numbers (see PLAN.md). -/
abbrev aj_M : Type := MethodName × ByteArray × Nat × Option FieldType
abbrev aj_S : Type := (Nat × Nat) ⊕ Nat
abbrev aj_A : Type := Nat × Int
abbrev aj_G : Type := Int → Int → Int
abbrev aj_E : Type := List vw_C × List FieldType × (Nat → Nat → Nat) × List Cond × List (String × Nat × MethodName × String)
abbrev aj_R : Type := Option aj_A ⊕ Nat
def aj_rf (a : Nat → Nat) (x : Int) : Option Nat := if x < 0 then none else some (a x.toNat)
def aj_c (a : Nat → Nat) (v : aj_A) : Value := match v.1 with
  | 0 => .int (Int32.ofInt v.2)
  | 1 => va_rf (aj_rf a v.2)
  | _ => .long (Int64.ofInt v.2)
theorem aj_c0 (a : Nat → Nat) (x : Int) : aj_c a (0, x) = .int (Int32.ofInt x) := rfl
theorem aj_c1 (a : Nat → Nat) (x : Int) : aj_c a (1, x) = va_rf (aj_rf a x) := rfl
theorem aj_c2 (a : Nat → Nat) (x : Int) : aj_c a (2, x) = .long (Int64.ofInt x) := rfl
theorem aj_rfp {a : Nat → Nat} {r : Int} (h : 0 ≤ r) : aj_rf a r = some (a r.toNat) := by
  unfold aj_rf
  rw [if_neg (by omega)]
theorem aj_rfn {a : Nat → Nat} {r : Int} (h : r < 0) : aj_rf a r = none := by
  unfold aj_rf
  rw [if_pos h]
theorem aj_cr {a : Nat → Nat} {r : Int} (h : 0 ≤ r) : aj_c a (1, r) = .ref (a r.toNat) := by
  rw [aj_c1, aj_rfp h]; rfl
theorem aj_cat {a : Nat → Nat} {v : aj_A} (h : v.1 < 2) : (aj_c a v).category = 1 := by
  obtain ⟨t, x⟩ := v
  match t, h with
  | 0, _ => rfl
  | 1, _ =>
    rw [aj_c1]
    by_cases hx : x < 0
    · rw [aj_rfn hx]; rfl
    · rw [aj_rfp (by omega)]; rfl
theorem aj_cat2 {a : Nat → Nat} {v : aj_A} (h : ¬ v.1 < 2) : (aj_c a v).category = 2 := by
  obtain ⟨t, x⟩ := v
  match t, h with
  | 0, h => exact absurd (show (0 : Nat) < 2 by decide) h
  | 1, h => exact absurd (show (1 : Nat) < 2 by decide) h
  | t + 2, _ => rfl
/-! numbers -/
def aj_I (x : Int) : Prop := -2147483648 ≤ x ∧ x < 2147483648
def aj_L (x : Int) : Prop := -9223372036854775808 ≤ x ∧ x < 9223372036854775808
theorem aj_ti {x : Int} (h : aj_I x) : (Int32.ofInt x).toInt = x := Int32.toInt_ofInt_of_le h.1 h.2
theorem aj_tl {x : Int} (h : aj_L x) : (Int64.ofInt x).toInt = x := Int64.toInt_ofInt_of_le h.1 h.2
theorem aj_eq {x y : Int} (hx : aj_I x) (hy : aj_I y) : Int32.ofInt x = Int32.ofInt y ↔ x = y := by
  constructor
  · intro h
    have h2 := congrArg Int32.toInt h
    rwa [aj_ti hx, aj_ti hy] at h2
  · intro h
    rw [h]
theorem aj_lt {x y : Int} (hx : aj_I x) (hy : aj_I y) : Int32.ofInt x < Int32.ofInt y ↔ x < y := by
  rw [Int32.lt_iff_toInt_lt, aj_ti hx, aj_ti hy]
theorem aj_le {x y : Int} (hx : aj_I x) (hy : aj_I y) : Int32.ofInt x ≤ Int32.ofInt y ↔ x ≤ y := by
  rw [Int32.le_iff_toInt_le, aj_ti hx, aj_ti hy]
theorem aj_0 : (0 : Int32) = Int32.ofInt 0 := by decide +kernel
theorem aj_I0 : aj_I 0 := by unfold aj_I; omega
theorem aj_clamp {i : Int} {n : Nat} (h0 : 0 ≤ i) (hi : i < n) (hn : n < 2147483648) : (Int32.ofInt i).toNatClampNeg = i.toNat := by
  have h1 : aj_I i := ⟨by omega, by omega⟩
  show (Int32.ofInt i).toInt.toNat = i.toNat
  rw [aj_ti h1]
theorem aj_in {i : Int} {n : Nat} (h0 : 0 ≤ i) (hi : i < n) (hn : n < 2147483648) : vp_in (Int32.ofInt i) n := by
  have h1 : aj_I i := ⟨by omega, by omega⟩
  rw [vp_in_iff, aj_ti h1]
  exact ⟨h0, hi⟩
/-! the picture -/
def aj_nf (E : aj_E) (ci : Nat) : Nat := match E.1[ci]? with
  | some q => q.2.2
  | none => 0
def aj_row (a : Nat → Nat) (t : Option FieldType) (f : Int → Int) : (Nat → Int32) ⊕ (Nat → Int64) ⊕ (Nat → UInt32) ⊕ (Nat → UInt64) ⊕ (Nat → Option Nat) := match t with
  | some .long => .inr (.inl (fun j => Int64.ofInt (f j)))
  | some (.object _) => .inr (.inr (.inr (.inr (fun j => aj_rf a (f j)))))
  | some (.array _) => .inr (.inr (.inr (.inr (fun j => aj_rf a (f j)))))
  | _ => .inl (fun j => Int32.ofInt (f j))
def aj_cell (E : aj_E) (tc a : Nat → Nat) (x : aj_S) (f : Int → Int) : va_E := match x with
  | .inl y => .inl (tc y.1, y.2, aj_row a E.2.1[y.1]? f)
  | .inr ci => .inr (ci, (List.range (aj_nf E ci)).map (fun j => aj_c a (E.2.2.1 ci j, f (j : Nat))))
def aj_w (E : aj_E) (tc a : Nat → Nat) (sh : List aj_S) (g : aj_G) : va_W := sh.mapIdx (fun k x => (a k, aj_cell E tc a x (g (k : Nat))))
def aj_ty (tc : Nat → Nat) (ty : List FieldType) : List (ClassId × FieldType) := ty.mapIdx (fun k t => (tc k, t))
def aj_sh (sh : List aj_S) (r : Int) : Option aj_S := if r < 0 then none else sh[r.toNat]?
def aj_up (g : aj_G) (r i x : Int) : aj_G := fun r' => if r' = r then (fun i' => if i' = i then x else g r i') else g r'
theorem aj_up_self (g : aj_G) (r i x : Int) : aj_up g r i x r i = x := by simp [aj_up]
theorem aj_up_ne (g : aj_G) {r r' : Int} (i x : Int) (h : r' ≠ r) : aj_up g r i x r' = g r' := by simp [aj_up, h]
theorem aj_up_ni (g : aj_G) (r : Int) {i i' : Int} (x : Int) (h : i' ≠ i) : aj_up g r i x r i' = g r i' := by simp [aj_up, h]
theorem aj_up_at (g : aj_G) (r i x r' i' : Int) : aj_up g r i x r' i' = if r' = r ∧ i' = i then x else g r' i' := by
  unfold aj_up
  by_cases h : r' = r
  · subst h
    by_cases h2 : i' = i <;> simp [h2]
  · simp [h]
theorem aj_sh_get {sh : List aj_S} {r : Int} {x : aj_S} (h : aj_sh sh r = some x) : 0 ≤ r ∧ sh[r.toNat]? = some x := by
  unfold aj_sh at h
  by_cases hr : r < 0
  · rw [if_pos hr] at h; cases h
  · rw [if_neg hr] at h
    exact ⟨by omega, h⟩
theorem aj_w_at (E : aj_E) (tc a : Nat → Nat) (sh : List aj_S) (g : aj_G) (k : Nat) : (aj_w E tc a sh g)[k]? = (sh[k]?).map (fun x => (a k, aj_cell E tc a x (g (k : Nat)))) := by
  unfold aj_w
  rw [List.getElem?_mapIdx]
theorem aj_w_get {E : aj_E} {tc a : Nat → Nat} {sh : List aj_S} {g : aj_G} {r : Int} {x : aj_S} (h : aj_sh sh r = some x) : (aj_w E tc a sh g)[r.toNat]? = some (a r.toNat, aj_cell E tc a x (g r)) := by
  obtain ⟨h0, h1⟩ := aj_sh_get h
  rw [aj_w_at, h1, Option.map_some, Int.toNat_of_nonneg h0]
theorem aj_w_set {E : aj_E} {tc a : Nat → Nat} {sh : List aj_S} {g g' : aj_G} {r : Int} {x : aj_S} {c : va_E} (h : aj_sh sh r = some x) (hc : aj_cell E tc a x (g' r) = c) (ho : ∀ r', r' ≠ r → g' r' = g r') : (aj_w E tc a sh g).set r.toNat (a r.toNat, c) = aj_w E tc a sh g' := by
  obtain ⟨h0, h1⟩ := aj_sh_get h
  have hr : ((r.toNat : Nat) : Int) = r := Int.toNat_of_nonneg h0
  have hl : r.toNat < (aj_w E tc a sh g).length := by
    have := (List.getElem?_eq_some_iff.mp h1).1
    unfold aj_w
    rw [List.length_mapIdx]
    exact this
  apply List.ext_getElem?
  intro j
  by_cases hj : r.toNat = j
  · subst hj
    rw [List.getElem?_set_self hl, aj_w_at, h1, Option.map_some, hr, hc]
  · rw [List.getElem?_set_ne hj, aj_w_at, aj_w_at, ho (j : Nat) (fun e => hj (by omega))]
theorem aj_w_push {E : aj_E} {tc a : Nat → Nat} {sh : List aj_S} {g g' : aj_G} {x : aj_S} {c : va_E} (hc : aj_cell E tc a x (g' (sh.length : Nat)) = c) (ho : ∀ k : Nat, k < sh.length → g' (k : Nat) = g (k : Nat)) : aj_w E tc a sh g ++ [(a sh.length, c)] = aj_w E tc a (sh ++ [x]) g' := by
  apply List.ext_getElem?
  intro j
  have hl : (aj_w E tc a sh g).length = sh.length := by unfold aj_w; rw [List.length_mapIdx]
  by_cases hj : j < sh.length
  · rw [List.getElem?_append_left (by rw [hl]; exact hj), aj_w_at, aj_w_at, List.getElem?_append_left hj, ho j hj]
  · rw [List.getElem?_append_right (by rw [hl]; omega), aj_w_at, List.getElem?_append_right (by omega), hl]
    by_cases h2 : j = sh.length
    · subst h2
      simp [hc]
    · have h3 : ∃ k, j - sh.length = k + 1 := ⟨j - sh.length - 1, by omega⟩
      obtain ⟨k, hk⟩ := h3
      rw [hk]
      simp
theorem aj_ty_at {tc : Nat → Nat} {ty : List FieldType} {k : Nat} {t : FieldType} (hk : ty[k]? = some t) : (aj_ty tc ty)[k]? = some (tc k, t) := by
  unfold aj_ty
  rw [List.getElem?_mapIdx, hk]; rfl
theorem aj_nf_of {E : aj_E} {ci : Nat} {C : String} {T : u_T} {N : Nat} (h : E.1[ci]? = some (C, T, N)) : aj_nf E ci = N := by
  unfold aj_nf
  rw [h]
/-! the locals: by slot number -/
def aj_l (a : Nat → Nat) (lv : List (Option aj_A)) : List (Nat × Value) := (List.range lv.length).filterMap (fun i => (lv[i]?).join.map (fun v => (i, aj_c a v)))
theorem aj_l_mem {a : Nat → Nat} {lv : List (Option aj_A)} {i : Nat} {w : Value} : (i, w) ∈ aj_l a lv ↔ ∃ v, lv[i]? = some (some v) ∧ w = aj_c a v := by
  unfold aj_l
  rw [List.mem_filterMap]
  constructor
  · rintro ⟨j, -, hj⟩
    cases hv : (lv[j]?).join with
    | none => rw [hv] at hj; cases hj
    | some v =>
      rw [hv] at hj
      cases hj
      exact ⟨v, Option.join_eq_some_iff.mp hv, rfl⟩
  · rintro ⟨v, h1, rfl⟩
    have hlt : i < lv.length := (List.getElem?_eq_some_iff.mp h1).1
    exact ⟨i, List.mem_range.mpr hlt, by rw [h1]; rfl⟩
theorem aj_lget {ls : Array Slot} {n : Nat} {a : Nat → Nat} {lv : List (Option aj_A)} {i : Nat} {v : aj_A} (h : lv_has ls n (aj_l a lv)) (hv : lv[i]? = some (some v)) : ls[i]? = some (.val (aj_c a v)) := h.2.2 (i, aj_c a v) (aj_l_mem.mpr ⟨v, hv, rfl⟩)
def aj_nl (lv : List (Option aj_A)) (i : Nat) : Bool := match i with
  | 0 => true
  | j + 1 => match lv[j]? with
    | some (some v) => Nat.blt v.1 2
    | _ => true
def aj_ok (lv : List (Option aj_A)) (i : Nat) : Bool := Nat.blt i lv.length && aj_nl lv i
theorem aj_nl_spec {a : Nat → Nat} {lv : List (Option aj_A)} {j : Nat} {v : aj_A} (h : aj_nl lv (j + 1) = true) (hv : lv[j]? = some (some v)) : ¬ (aj_c a v).category = 2 := by
  unfold aj_nl at h
  simp only [hv] at h
  have h2 : v.1 < 2 := Nat.blt_eq ▸ h
  rw [aj_cat h2]
  decide
theorem aj_st1 {a : Nat → Nat} {ls : Array Slot} {n i : Nat} {lv : List (Option aj_A)} {v : aj_A} {w : Value} (hw : aj_c a v = w) (ho : aj_ok lv i = true) (h : lv_has ls n ((i, w) :: (aj_l a lv).filter (fun q => !(q.1 == i) && !(q.1 + 1 == i && q.2.category == 2)))) : lv_has ls n (aj_l a (lv.set i (some v))) := by
  refine ⟨h.1, h.2.1, fun q hq => h.2.2 q ?_⟩
  obtain ⟨j, u⟩ := q
  obtain ⟨y, h1, h2⟩ := aj_l_mem.mp hq
  unfold aj_ok at ho
  rw [Bool.and_eq_true] at ho
  have hlt : i < lv.length := Nat.blt_eq ▸ ho.1
  by_cases hj : j = i
  · subst hj
    rw [List.getElem?_set_self hlt] at h1
    cases h1
    rw [h2, hw]
    exact List.mem_cons_self
  · rw [List.getElem?_set_ne (Ne.symm hj)] at h1
    refine List.mem_cons_of_mem _ (List.mem_filter.mpr ⟨aj_l_mem.mpr ⟨y, h1, h2⟩, ?_⟩)
    have hb : ¬ (j + 1 = i ∧ u.category = 2) := by
      rintro ⟨e1, e2⟩
      subst e1
      rw [h2] at e2
      exact aj_nl_spec ho.2 h1 e2
    simp only [Bool.and_eq_true, Bool.not_eq_true', beq_eq_false_iff_ne, ne_eq, Bool.and_eq_false_imp, beq_iff_eq]
    exact ⟨hj, fun e1 e2 => hb ⟨e1, e2⟩⟩
theorem aj_st2 {a : Nat → Nat} {ls : Array Slot} {n i : Nat} {lv : List (Option aj_A)} {v : aj_A} {w : Value} (hw : aj_c a v = w) (ho : aj_ok lv i = true) (h : lv_has ls n ((i, w) :: (aj_l a lv).filter (fun q => !(q.1 == i) && (!(q.1 == i + 1) && !(q.1 + 1 == i && q.2.category == 2))))) : lv_has ls n (aj_l a ((lv.set i (some v)).set (i + 1) none)) := by
  refine ⟨h.1, h.2.1, fun q hq => h.2.2 q ?_⟩
  obtain ⟨j, u⟩ := q
  obtain ⟨y, h1, h2⟩ := aj_l_mem.mp hq
  unfold aj_ok at ho
  rw [Bool.and_eq_true] at ho
  have hlt : i < lv.length := Nat.blt_eq ▸ ho.1
  have hj1 : ¬ j = i + 1 := by
    intro e
    subst e
    have h3 := h1
    have h4 : i + 1 < ((lv.set i (some v)).set (i + 1) none).length := (List.getElem?_eq_some_iff.mp h1).1
    rw [List.length_set] at h4
    rw [List.getElem?_set_self h4] at h3
    cases h3
  rw [List.getElem?_set_ne (fun e => hj1 e.symm)] at h1
  by_cases hj : j = i
  · subst hj
    rw [List.getElem?_set_self hlt] at h1
    cases h1
    rw [h2, hw]
    exact List.mem_cons_self
  · rw [List.getElem?_set_ne (Ne.symm hj)] at h1
    refine List.mem_cons_of_mem _ (List.mem_filter.mpr ⟨aj_l_mem.mpr ⟨y, h1, h2⟩, ?_⟩)
    have hb : ¬ (j + 1 = i ∧ u.category = 2) := by
      rintro ⟨e1, e2⟩
      subst e1
      rw [h2] at e2
      exact aj_nl_spec ho.2 h1 e2
    simp only [Bool.and_eq_true, Bool.not_eq_true', beq_eq_false_iff_ne, ne_eq, Bool.and_eq_false_imp, beq_iff_eq]
    exact ⟨hj, hj1, fun e1 e2 => hb ⟨e1, e2⟩⟩
/-- a slot is forgotten -/
theorem aj_forget1 {a : Nat → Nat} {ls : Array Slot} {n i : Nat} {lv : List (Option aj_A)} (h : lv_has ls n (aj_l a lv)) : lv_has ls n (aj_l a (lv.set i none)) := by
  refine ⟨h.1, h.2.1, fun q hq => h.2.2 q ?_⟩
  obtain ⟨j, u⟩ := q
  obtain ⟨y, h1, h2⟩ := aj_l_mem.mp hq
  by_cases hj : i = j
  · subst hj
    have h4 : i < (lv.set i none).length := (List.getElem?_eq_some_iff.mp h1).1
    rw [List.length_set] at h4
    rw [List.getElem?_set_self h4] at h1
    cases h1
  · rw [List.getElem?_set_ne hj] at h1
    exact aj_l_mem.mpr ⟨y, h1, h2⟩
/-! a method's first locals -/
def aj_ea : List aj_A → List (Option aj_A)
  | [] => []
  | v :: vs => if v.1 < 2 then some v :: aj_ea vs else some v :: none :: aj_ea vs
def aj_en (vs : List aj_A) (n : Nat) : List (Option aj_A) := aj_ea vs ++ List.replicate (n - (aj_ea vs).length) none
theorem aj_ea_args {a : Nat → Nat} : ∀ (vs : List aj_A) (i j : Nat) (v : aj_A), (aj_ea vs)[j]? = some (some v) → (i + j, aj_c a v) ∈ lv_args i (vs.map (aj_c a))
  | [], i, j, v, h => by simp [aj_ea] at h
  | w :: vs, i, j, v, h => by
    rw [List.map_cons]
    unfold lv_args
    unfold aj_ea at h
    by_cases hw : w.1 < 2
    · rw [if_pos hw] at h
      rw [if_neg (by rw [aj_cat hw]; decide)]
      cases j with
      | zero =>
        simp at h
        subst h
        exact List.mem_cons_self
      | succ j =>
        rw [List.getElem?_cons_succ] at h
        have := aj_ea_args (a := a) vs (i + 1) j v h
        rw [show i + (j + 1) = i + 1 + j by omega]
        exact List.mem_cons_of_mem _ this
    · rw [if_neg hw] at h
      rw [if_pos (aj_cat2 hw)]
      cases j with
      | zero =>
        simp at h
        subst h
        exact List.mem_cons_self
      | succ j =>
        rw [List.getElem?_cons_succ] at h
        cases j with
        | zero => simp at h
        | succ j =>
          rw [List.getElem?_cons_succ] at h
          have := aj_ea_args (a := a) vs (i + 2) j v h
          rw [show i + (j + 1 + 1) = i + 2 + j by omega]
          exact List.mem_cons_of_mem _ this
theorem aj_ea_len {a : Nat → Nat} : ∀ (vs : List aj_A), (lg_sl (vs.map (aj_c a))).length = (aj_ea vs).length
  | [] => rfl
  | w :: vs => by
    have ih := aj_ea_len (a := a) vs
    unfold lg_sl at ih ⊢
    unfold aj_ea
    rw [List.map_cons, List.flatMap_cons, List.length_append, ih]
    by_cases hw : w.1 < 2
    · rw [if_pos hw, if_neg (by rw [aj_cat hw]; decide)]
      simp
      omega
    · rw [if_neg hw, if_pos (aj_cat2 hw)]
      simp
      omega
theorem aj_entry {a : Nat → Nat} {vs : List aj_A} {n : Nat} {ls : Array Slot} (h : lv_has ls n (lv_args 0 (vs.map (aj_c a)))) : lv_has ls n (aj_l a (aj_en vs n)) := by
  refine ⟨h.1, h.2.1, fun q hq => h.2.2 q ?_⟩
  obtain ⟨j, u⟩ := q
  obtain ⟨y, h1, h2⟩ := aj_l_mem.mp hq
  unfold aj_en at h1
  by_cases hj : j < (aj_ea vs).length
  · rw [List.getElem?_append_left hj] at h1
    have := aj_ea_args (a := a) vs 0 j y h1
    rw [Nat.zero_add] at this
    rw [h2]
    exact this
  · rw [List.getElem?_append_right (by omega)] at h1
    rw [List.getElem?_replicate] at h1
    split at h1 <;> cases h1
end
section
/-! the judgement -/
def aj_kd (t : FieldType) : Nat := match t with
  | .long => 2
  | .object _ => 1
  | .array _ => 1
  | _ => 0
def aj_smp (t : FieldType) : Bool := match t with
  | .float => false
  | .double => false
  | _ => true
def aj_good (E : aj_E) : Prop :=
  (∀ w ∈ E.2.2.2.1, (w.onTables && w.keeps) = true ∨ ∃ ty, w = .arrayClass ty) ∧
  ∀ (ci : Nat) (q : vw_C), E.1[ci]? = some q → (∀ w ∈ u_ws q.1 q.2.1 q.2.2, w ∈ E.2.2.2.1) ∧ (∀ a, a < q.2.2 → ∀ b, b < q.2.2 → a ≠ b → (q.2.1 a).2.1 ≠ (q.2.1 b).2.1) ∧
    ∃ ty0 : Nat → FieldType, (∀ k, k < q.2.2 → parseFieldDescriptor (q.2.1 k).2.2.1 = some (ty0 k)) ∧ ∀ k, k < q.2.2 → E.2.2.1 ci k = aj_kd (ty0 k) ∧ aj_smp (ty0 k) = true
def aj_ph (al : Prop) (sh : List aj_S) (a : Nat → Nat) (n : Nat) : Prop := (al → ∀ j, sh.length + j < 1000000 → a (sh.length + j) = n + j) ∧ ∀ (k t n : Nat), sh[k]? = some (.inl (t, n)) → n < 2147483648
/-- the tables of handlers: the law's own methods alone have any -/
def aj_tbs : List (MethodName × List (Nat × Nat × Nat × Nat)) := [(⟨"TestBenchLaw", "edge", "(LTestBench;IIII)I"⟩, [(0, 9, 12, 13), (0, 9, 16, 15)]), (⟨"TestBenchLaw", "start", "(LTestBench;I)I"⟩, [(0, 5, 8, 13), (0, 5, 11, 15)]), (⟨"TestBenchLaw", "seal", "(LTestBench;[J)I"⟩, [(0, 8, 11, 15)]), (⟨"TestBenchLaw", "apart", "(LTestBench;II[J)I"⟩, [(0, 10, 13, 13), (0, 10, 17, 15)]), (⟨"TestBenchLaw", "suite", "(LTestBench;II[J)I"⟩, [(0, 10, 13, 13), (0, 10, 17, 15), (0, 10, 21, 32)]), (⟨"TestBenchLaw", "resize", "(LTestBench;I)I"⟩, [(0, 5, 8, 13), (0, 5, 11, 15)]), (⟨"TestBenchLaw", "change", "(LTestBench;IIII)I"⟩, [(0, 9, 12, 15), (0, 9, 16, 13)]), (⟨"TestBenchLaw", "run", "(LTestBench;[J)I"⟩, [(0, 8, 11, 15)]), (⟨"TestBenchLaw", "begin", "(LTestBench;I[J)I"⟩, [(0, 9, 12, 13)]), (⟨"TestBenchLaw", "give", "(LTestBench;I[J)I"⟩, [(0, 9, 12, 15), (0, 9, 15, 13)]), (⟨"TestBenchLaw", "same", "(LTestBench;[J)I"⟩, [(0, 8, 11, 15)])]
def aj_tb (y : MethodName) : List (Nat × Nat × Nat × Nat) := ((aj_tbs.find? (fun q => decide (q.1 = y))).map (·.2)).getD []
def aj_exc : List String := ["java/lang/IllegalArgumentException", "java/lang/IllegalStateException", "java/lang/UnsupportedOperationException"]
def aj_dcl : List MethodName := [⟨"java/lang/RuntimeException", "<init>", "()V"⟩, ⟨"java/lang/Exception", "<init>", "()V"⟩, ⟨"java/lang/Throwable", "<init>", "()V"⟩]
/-- a static field of Throwable: its cell is nobody's here, and whoever has that cell has the field's two words -/
def aj_zs (n d : String) (A : Nat → Prop) (s : State) (H : Heap) : Prop := ∃ (b : Nat) (cell : Cell), H[b]? = some cell ∧ ¬ A b ∧ ∀ (U : State) (w : Array Value), s.vm.Alike U.vm → U.heap[b]? = some cell →
  (Cond.laysStatic Bundle.tN n d).before w U = true ∧ (Cond.isRef (.static Bundle.tN n d)).before w U = true
def aj_aos : List FieldType := [.object "TestBench$Word", .array .int]
/-- what throwing, catching and rows of rows ask beyond the tables' good words -/
def aj_th (A : Nat → Prop) (s : State) : Prop := (∀ x ∈ aj_dcl, va_Nw (.declares x) s) ∧ (∀ x ∈ aj_exc, va_Nw (.castable x x) s) ∧ (∀ x ∈ aj_exc, ∀ y ∈ aj_exc, x ≠ y → va_Nc x y s) ∧
  aj_zs "UNASSIGNED_STACK" Bundle.steD A s s.heap ∧ aj_zs "SUPPRESSED_SENTINEL" Bundle.listD A s s.heap ∧ ∀ ty ∈ aj_aos, va_Nw (.arrayOver ty) s
def aj_xs (E : aj_E) (X : Option (Nat × (Int → Int))) (a : Nat → Nat) (A : Nat → Prop) (s : State) : Prop := (∀ y, X = some y → va_X (a 1000000) y.1 (fun j => Int32.ofInt (y.2 j)) s s.heap ∧ a 1000000 < s.heap.size ∧ ¬ A (a 1000000) ∧ y.1 < 2147483648) ∧ (∀ w ∈ E.2.2.2.2, va_Nw (.methodLinkNest w.1 w.2.1 w.2.2.1 w.2.2.2) s) ∧ aj_th A s
def aj_cx (E : aj_E) (al : Prop) (X : Option (Nat × (Int → Int))) (M : aj_M) (d bc bs : Nat) (lv : List (Option aj_A)) (sh : List aj_S) (g : aj_G)
    (a tc : Nat → Nat) (D : va_G) (A : Nat → Prop) (p : Program) (l : Launch) (R : Room) (s : State) (m : MethodId) (args : Array Value) (meth : Method) (c : Code) (H : Heap) (locs : List Loc) (cells slots : Nat) (ls : Array Slot) : Prop :=
  (p.tables.exec = Jvm.exec ∧ c.code = M.2.1 ∧ c.maxLocals = M.2.2.1 ∧ s.vm.findClass M.1.cls = some m.cls ∧ ∀ w ∈ E.2.2.2.1, w.before args s = true) ∧
  (meth.sig.returnType = M.2.2.2 ∧ meth.locks = false ∧ meth.name = M.1.name ∧ c.exceptionTable.toList.map (fun h => (h.startPc, h.endPc, h.handlerPc, h.catchType)) = aj_tb M.1 ∧ l.stackTraces = false) ∧
  (d + 2 ≤ R.frames ∧ 48 * d ≤ R.locals ∧ cells + bc ≤ R.cells ∧ slots + bs ≤ R.slots) ∧
  (va_P D E.1 (aj_w E tc a sh g) H ∧ va_K D E.1 (aj_ty tc E.2.1) s ∧ va_D A (aj_w E tc a sh g) ∧ va_S A s.heap H locs ∧ ∀ q, s.heap.size ≤ q → A q) ∧
  (lv.length = M.2.2.1 ∧ lv_has ls M.2.2.1 (aj_l a lv)) ∧
  aj_ph al sh a H.size ∧ aj_good E ∧ aj_xs E X a A s
/-- how a method may end: it returns, or it throws an object of the k-th class of exc -/
def aj_out (exc : List String) (a : Nat → Nat) (r : aj_R) (o : Outcome) (t : State) : Prop := match r with
  | .inl v => o = .returned (v.map (aj_c a))
  | .inr k => ∃ (b : Nat) (cell : Cell) (E : String), o = .threw b ∧ t.heap[b]? = some cell ∧ cell.vm = .none ∧ exc[k]? = some E ∧ t.vm.findClass E = some cell.cls
def aj_fin (E : aj_E) (ao : Prop) (a tc : Nat → Nat) (D : va_G) (A : Nat → Prop) (Q : aj_R → List aj_S → aj_G → Prop) (below : List Frame) (s : State) (MC MS : Nat) : State → Prop := fun t =>
  ∃ (o : Outcome) (r : aj_R) (sh : List aj_S) (g : aj_G), t.status = .running ∧ Ended t below o ∧ Q r sh g ∧ aj_out aj_exc a r o t ∧ va_P D E.1 (aj_w E tc a sh g) t.heap ∧ va_D A (aj_w E tc a sh g) ∧ va_F A s t ∧
    aj_ph ao sh a t.heap.size ∧ ∃ L, s.WarmedH t.vm ∧ s.sameButNew ({ t with vm := s.vm } : State) L MC MS ∧ ∀ q ∈ L, A q.base
def aj_wp (E : aj_E) (al ao : Prop) (X : Option (Nat × (Int → Int))) (M : aj_M) (d bc bs : Nat) (pc : Nat) (lv : List (Option aj_A)) (st : List aj_A) (sh : List aj_S) (g : aj_G) (Q : aj_R → List aj_S → aj_G → Prop) : Prop :=
  ∀ (p : Program) (l : Launch) (e : Env) (R : Room) (s : State) (m : MethodId) (args : Array Value) (below : List Frame) (meth : Method) (c : Code) (H : Heap) (locs : List Loc) (cells slots : Nat) (ls : Array Slot) (a tc : Nat → Nat) (D : va_G) (A : Nat → Prop),
    aj_cx E al X M d bc bs lv sh g a tc D A p l R s m args meth c H locs cells slots ls →
    W p l e R s m args below meth c H locs cells slots (aj_fin E ao a tc D A Q below s (cells + bc) (slots + bs)) (F0 m pc ls (st.map (aj_c a)))
theorem aj_monoW {p : Program} {l : Launch} {e : Env} {R : Room} {s : State} {m : MethodId} {args : Array Value} {below : List Frame} {meth : Method} {c : Code} {H : Heap} {locs : List Loc} {cells slots : Nat} {Q Q' : State → Prop} {g : JFrame}
    (hq : ∀ t, Q t → Q' t) (k : W p l e R s m args below meth c H locs cells slots Q g) : W p l e R s m args below meth c H locs cells slots Q' g := by
  intro T hT X
  obtain ⟨t, h1, h2⟩ := k T hT X
  exact ⟨t, h1, hq t h2⟩
section AJR
variable {E : aj_E} {al ao : Prop} {X : Option (Nat × (Int → Int))} {M : aj_M} {d bc bs pc : Nat} {lv : List (Option aj_A)} {st : List aj_A} {sh : List aj_S} {g : aj_G} {Q Q' : aj_R → List aj_S → aj_G → Prop}
theorem aj_mono (hq : ∀ r sh g, Q r sh g → Q' r sh g) (k : aj_wp E al ao X M d bc bs pc lv st sh g Q) : aj_wp E al ao X M d bc bs pc lv st sh g Q' := by
  intro p l e R s m args below meth c H locs cells slots ls a tc D A hc
  refine aj_monoW ?_ (k p l e R s m args below meth c H locs cells slots ls a tc D A hc)
  rintro t ⟨o, r, sh, g, e1, e2, e3, e4⟩
  exact ⟨o, r, sh, g, e1, e2, hq r sh g e3, e4⟩
/-- objects have been made: from here on the addresses that come are free -/
theorem aj_off (k : aj_wp E False ao X M d bc bs pc lv st sh g Q) : aj_wp E al ao X M d bc bs pc lv st sh g Q := by
  intro p l e R s m args below meth c H locs cells slots ls a tc D A ⟨h1, h2, h3, h4, h5, h6, h7⟩
  exact k p l e R s m args below meth c H locs cells slots ls a tc D A ⟨h1, h2, h3, h4, h5, ⟨fun h => h.elim, h6.2⟩, h7⟩
theorem aj_forget (i : Nat) (k : aj_wp E al ao X M d bc bs pc (lv.set i none) st sh g Q) : aj_wp E al ao X M d bc bs pc lv st sh g Q := by
  intro p l e R s m args below meth c H locs cells slots ls a tc D A ⟨h1, h2, h3, h4, h5, h6⟩
  exact k p l e R s m args below meth c H locs cells slots ls a tc D A ⟨h1, h2, h3, h4, ⟨by rw [List.length_set]; exact h5.1, aj_forget1 h5.2⟩, h6⟩
/-- an instruction that changes the operand stack alone -/
theorem aj_lift {pc' : Nat} {st' : List aj_A} (h : ∀ (p : Program) (l : Launch) (e : Env) (R : Room) (s : State) (m : MethodId) (args : Array Value) (below : List Frame) (meth : Method) (c : Code) (H : Heap) (locs : List Loc) (cells slots : Nat) (Z : State → Prop) (ls : Array Slot) (a : Nat → Nat),
      p.tables.exec = Jvm.exec → c.code = M.2.1 → lv_has ls M.2.2.1 (aj_l a lv) → W p l e R s m args below meth c H locs cells slots Z (F0 m pc' ls (st'.map (aj_c a))) → W p l e R s m args below meth c H locs cells slots Z (F0 m pc ls (st.map (aj_c a))))
    (k : aj_wp E al ao X M d bc bs pc' lv st' sh g Q) : aj_wp E al ao X M d bc bs pc lv st sh g Q := by
  intro p l e R s m args below meth c H locs cells slots ls a tc D A hc
  exact h p l e R s m args below meth c H locs cells slots _ ls a hc.1.1 hc.1.2.1 hc.2.2.2.2.1.2 (k p l e R s m args below meth c H locs cells slots ls a tc D A hc)
theorem aj_iconst {n : Int} (q : Nat) (hd : decode M.2.1 pc = .ok (.iconst n, 1)) (hq : pc + 1 = q) (k : aj_wp E al ao X M d bc bs q lv ((0, n) :: st) sh g Q) : aj_wp E al ao X M d bc bs pc lv st sh g Q := by
  subst hq
  exact aj_lift (fun p l e R s m args below meth c H locs cells slots Z ls a hx hb hl k => lv_iconst (v := Int32.ofInt n) hx hb hd rfl k) k
theorem aj_bipush {n : Int} (q : Nat) (hd : decode M.2.1 pc = .ok (.bipush n, 2)) (hq : pc + 2 = q) (hn : (Int8.ofInt n).toInt32 = Int32.ofInt n) (k : aj_wp E al ao X M d bc bs q lv ((0, n) :: st) sh g Q) : aj_wp E al ao X M d bc bs pc lv st sh g Q := by
  subst hq
  exact aj_lift (fun p l e R s m args below meth c H locs cells slots Z ls a hx hb hl k => lv_bipush (v := Int32.ofInt n) hx hb hd hn k) k
theorem aj_sipush {n : Int} (q : Nat) (hd : decode M.2.1 pc = .ok (.sipush n, 3)) (hq : pc + 3 = q) (hn : (Int16.ofInt n).toInt32 = Int32.ofInt n) (k : aj_wp E al ao X M d bc bs q lv ((0, n) :: st) sh g Q) : aj_wp E al ao X M d bc bs pc lv st sh g Q := by
  subst hq
  exact aj_lift (fun p l e R s m args below meth c H locs cells slots Z ls a hx hb hl k => lv_sipush (v := Int32.ofInt n) hx hb hd hn k) k
theorem aj_lconst {n : Fin 2} {x : Int} (q : Nat) (hd : decode M.2.1 pc = .ok (.lconst n, 1)) (hq : pc + 1 = q) (hx : ((n : Nat) : Int) = x) (k : aj_wp E al ao X M d bc bs q lv ((2, x) :: st) sh g Q) : aj_wp E al ao X M d bc bs pc lv st sh g Q := by
  subst hq
  subst hx
  exact aj_lift (fun p l e R s m args below meth c H locs cells slots Z ls a hx hb hl k => lv_lconst (v := Int64.ofInt ((n : Nat) : Int)) hx hb hd Int64.ofInt_eq_ofNat.symm k) k
theorem aj_iload_n {n : Fin 4} {x : Int} (i q : Nat) (hd : decode M.2.1 pc = .ok (.iload_n n, 1)) (hi : (n : Nat) = i) (hq : pc + 1 = q) (hl : lv[i]? = some (some (0, x))) (k : aj_wp E al ao X M d bc bs q lv ((0, x) :: st) sh g Q) : aj_wp E al ao X M d bc bs pc lv st sh g Q := by
  subst hq
  exact aj_lift (fun p l e R s m args below meth c H locs cells slots Z ls a hx hb hls k => lv_iload_n (x := Int32.ofInt x) hx hb hd hi (aj_lget hls hl) k) k
theorem aj_iload {x : Int} (i q : Nat) (hd : decode M.2.1 pc = .ok (.iload i, 2)) (hq : pc + 2 = q) (hl : lv[i]? = some (some (0, x))) (k : aj_wp E al ao X M d bc bs q lv ((0, x) :: st) sh g Q) : aj_wp E al ao X M d bc bs pc lv st sh g Q := by
  subst hq
  exact aj_lift (fun p l e R s m args below meth c H locs cells slots Z ls a hx hb hls k => lv_iload (x := Int32.ofInt x) hx hb hd (aj_lget hls hl) k) k
theorem aj_lload_n {n : Fin 4} {x : Int} (i q : Nat) (hd : decode M.2.1 pc = .ok (.lload_n n, 1)) (hi : (n : Nat) = i) (hq : pc + 1 = q) (hl : lv[i]? = some (some (2, x))) (k : aj_wp E al ao X M d bc bs q lv ((2, x) :: st) sh g Q) : aj_wp E al ao X M d bc bs pc lv st sh g Q := by
  subst hq
  exact aj_lift (fun p l e R s m args below meth c H locs cells slots Z ls a hx hb hls k => lv_lload_n (x := Int64.ofInt x) hx hb hd hi (aj_lget hls hl) k) k
theorem aj_lload {x : Int} (i q : Nat) (hd : decode M.2.1 pc = .ok (.lload i, 2)) (hq : pc + 2 = q) (hl : lv[i]? = some (some (2, x))) (k : aj_wp E al ao X M d bc bs q lv ((2, x) :: st) sh g Q) : aj_wp E al ao X M d bc bs pc lv st sh g Q := by
  subst hq
  exact aj_lift (fun p l e R s m args below meth c H locs cells slots Z ls a hx hb hls k => lv_lload (x := Int64.ofInt x) hx hb hd (aj_lget hls hl) k) k
theorem aj_aload_n {n : Fin 4} {x : Int} (i q : Nat) (hd : decode M.2.1 pc = .ok (.aload_n n, 1)) (hi : (n : Nat) = i) (hq : pc + 1 = q) (hl : lv[i]? = some (some (1, x))) (k : aj_wp E al ao X M d bc bs q lv ((1, x) :: st) sh g Q) : aj_wp E al ao X M d bc bs pc lv st sh g Q := by
  subst hq
  refine aj_lift (fun p l e R s m args below meth c H locs cells slots Z ls a hx hb hls k => ?_) k
  have hg := aj_lget hls hl
  rw [List.map_cons] at k
  by_cases h0 : x < 0
  · rw [aj_c1, aj_rfn h0] at hg k
    exact lv_aload_nN hx hb hd hi hg k
  · rw [aj_cr (by omega)] at hg k
    exact lv_aload_n hx hb hd hi hg k
theorem aj_aload {x : Int} (i q : Nat) (hd : decode M.2.1 pc = .ok (.aload i, 2)) (hq : pc + 2 = q) (hl : lv[i]? = some (some (1, x))) (k : aj_wp E al ao X M d bc bs q lv ((1, x) :: st) sh g Q) : aj_wp E al ao X M d bc bs pc lv st sh g Q := by
  subst hq
  refine aj_lift (fun p l e R s m args below meth c H locs cells slots Z ls a hx hb hls k => ?_) k
  have hg := aj_lget hls hl
  rw [List.map_cons] at k
  by_cases h0 : x < 0
  · rw [aj_c1, aj_rfn h0] at hg k
    exact lv_aloadN hx hb hd hg k
  · rw [aj_cr (by omega)] at hg k
    exact lv_aload hx hb hd hg k
/-- an instruction that changes a slot of the locals -/
theorem aj_lst {pc' : Nat} {st' : List aj_A} {lv' : List (Option aj_A)} (hlen : lv'.length = lv.length) (h : ∀ (p : Program) (l : Launch) (e : Env) (R : Room) (s : State) (m : MethodId) (args : Array Value) (below : List Frame) (meth : Method) (c : Code) (H : Heap) (locs : List Loc) (cells slots : Nat) (Z : State → Prop) (ls : Array Slot) (a : Nat → Nat),
      p.tables.exec = Jvm.exec → c.code = M.2.1 → lv.length = M.2.2.1 → lv_has ls M.2.2.1 (aj_l a lv) → (∀ ls', lv_has ls' M.2.2.1 (aj_l a lv') → W p l e R s m args below meth c H locs cells slots Z (F0 m pc' ls' (st'.map (aj_c a)))) → W p l e R s m args below meth c H locs cells slots Z (F0 m pc ls (st.map (aj_c a))))
    (k : aj_wp E al ao X M d bc bs pc' lv' st' sh g Q) : aj_wp E al ao X M d bc bs pc lv st sh g Q := by
  intro p l e R s m args below meth c H locs cells slots ls a tc D A hc
  obtain ⟨h1, h2, h3, h4, h5, h6⟩ := hc
  exact h p l e R s m args below meth c H locs cells slots _ ls a h1.1 h1.2.1 h5.1 h5.2 (fun ls' hls => k p l e R s m args below meth c H locs cells slots ls' a tc D A ⟨h1, h2, h3, h4, ⟨hlen.trans h5.1, hls⟩, h6⟩)
theorem aj_oklt {i : Nat} (h : aj_ok lv i = true) : i < lv.length := by
  unfold aj_ok at h
  rw [Bool.and_eq_true] at h
  exact Nat.blt_eq ▸ h.1
theorem aj_istore_n {n : Fin 4} {x : Int} (i q : Nat) (hd : decode M.2.1 pc = .ok (.istore_n n, 1)) (hi : (n : Nat) = i) (hq : pc + 1 = q) (ho : aj_ok lv i = true) (k : aj_wp E al ao X M d bc bs q (lv.set i (some (0, x))) st sh g Q) : aj_wp E al ao X M d bc bs pc lv ((0, x) :: st) sh g Q := by
  subst hq
  exact aj_lst (List.length_set ..) (fun p l e R s m args below meth c H locs cells slots Z ls a hx hb hn hls k => lv_istore_n (x := Int32.ofInt x) hx hb hd hi hls (hn ▸ aj_oklt ho) rfl (fun ls' h' => k ls' (aj_st1 (v := (0, x)) rfl ho h'))) k
theorem aj_istore {x : Int} (i q : Nat) (hd : decode M.2.1 pc = .ok (.istore i, 2)) (hq : pc + 2 = q) (ho : aj_ok lv i = true) (k : aj_wp E al ao X M d bc bs q (lv.set i (some (0, x))) st sh g Q) : aj_wp E al ao X M d bc bs pc lv ((0, x) :: st) sh g Q := by
  subst hq
  exact aj_lst (List.length_set ..) (fun p l e R s m args below meth c H locs cells slots Z ls a hx hb hn hls k => lv_istore (x := Int32.ofInt x) hx hb hd hls (hn ▸ aj_oklt ho) rfl (fun ls' h' => k ls' (aj_st1 (v := (0, x)) rfl ho h'))) k
theorem aj_lstore_n {n : Fin 4} {x : Int} (i q : Nat) (hd : decode M.2.1 pc = .ok (.lstore_n n, 1)) (hi : (n : Nat) = i) (hq : pc + 1 = q) (ho : aj_ok lv i = true) (ho2 : Nat.blt (i + 1) lv.length = true) (k : aj_wp E al ao X M d bc bs q ((lv.set i (some (2, x))).set (i + 1) none) st sh g Q) : aj_wp E al ao X M d bc bs pc lv ((2, x) :: st) sh g Q := by
  subst hq
  exact aj_lst (by rw [List.length_set, List.length_set]) (fun p l e R s m args below meth c H locs cells slots Z ls a hx hb hn hls k => lv_lstore_n (x := Int64.ofInt x) hx hb hd hi hls (hn ▸ (Nat.blt_eq ▸ ho2)) rfl (fun ls' h' => k ls' (aj_st2 (v := (2, x)) rfl ho h'))) k
theorem aj_lstore {x : Int} (i q : Nat) (hd : decode M.2.1 pc = .ok (.lstore i, 2)) (hq : pc + 2 = q) (ho : aj_ok lv i = true) (ho2 : Nat.blt (i + 1) lv.length = true) (k : aj_wp E al ao X M d bc bs q ((lv.set i (some (2, x))).set (i + 1) none) st sh g Q) : aj_wp E al ao X M d bc bs pc lv ((2, x) :: st) sh g Q := by
  subst hq
  exact aj_lst (by rw [List.length_set, List.length_set]) (fun p l e R s m args below meth c H locs cells slots Z ls a hx hb hn hls k => lv_lstore (x := Int64.ofInt x) hx hb hd hls (hn ▸ (Nat.blt_eq ▸ ho2)) rfl (fun ls' h' => k ls' (aj_st2 (v := (2, x)) rfl ho h'))) k
theorem aj_astore_n {n : Fin 4} {x : Int} (i q : Nat) (hd : decode M.2.1 pc = .ok (.astore_n n, 1)) (hi : (n : Nat) = i) (hq : pc + 1 = q) (ho : aj_ok lv i = true) (k : aj_wp E al ao X M d bc bs q (lv.set i (some (1, x))) st sh g Q) : aj_wp E al ao X M d bc bs pc lv ((1, x) :: st) sh g Q := by
  subst hq
  refine aj_lst (List.length_set ..) (fun p l e R s m args below meth c H locs cells slots Z ls a hx hb hn hls k => ?_) k
  rw [List.map_cons]
  by_cases h0 : x < 0
  · have hw : aj_c a (1, x) = .null := by rw [aj_c1, aj_rfn h0]; rfl
    rw [hw]
    exact lv_astore_nN hx hb hd hi hls (hn ▸ aj_oklt ho) rfl (fun ls' h' => k ls' (aj_st1 hw ho h'))
  · have hw : aj_c a (1, x) = .ref (a x.toNat) := aj_cr (by omega)
    rw [hw]
    exact lv_astore_n hx hb hd hi hls (hn ▸ aj_oklt ho) rfl (fun ls' h' => k ls' (aj_st1 hw ho h'))
theorem aj_astore {x : Int} (i q : Nat) (hd : decode M.2.1 pc = .ok (.astore i, 2)) (hq : pc + 2 = q) (ho : aj_ok lv i = true) (k : aj_wp E al ao X M d bc bs q (lv.set i (some (1, x))) st sh g Q) : aj_wp E al ao X M d bc bs pc lv ((1, x) :: st) sh g Q := by
  subst hq
  refine aj_lst (List.length_set ..) (fun p l e R s m args below meth c H locs cells slots Z ls a hx hb hn hls k => ?_) k
  rw [List.map_cons]
  by_cases h0 : x < 0
  · have hw : aj_c a (1, x) = .null := by rw [aj_c1, aj_rfn h0]; rfl
    rw [hw]
    exact lv_astoreN hx hb hd hls (hn ▸ aj_oklt ho) rfl (fun ls' h' => k ls' (aj_st1 hw ho h'))
  · have hw : aj_c a (1, x) = .ref (a x.toNat) := aj_cr (by omega)
    rw [hw]
    exact lv_astore hx hb hd hls (hn ▸ aj_oklt ho) rfl (fun ls' h' => k ls' (aj_st1 hw ho h'))
theorem aj_iinc {x n : Int} (i q : Nat) (hd : decode M.2.1 pc = .ok (.iinc i n, 3)) (hq : pc + 3 = q) (hl : lv[i]? = some (some (0, x))) (ho : aj_ok lv i = true) (k : aj_wp E al ao X M d bc bs q (lv.set i (some (0, x + n))) st sh g Q) : aj_wp E al ao X M d bc bs pc lv st sh g Q := by
  subst hq
  refine aj_lst (List.length_set ..) (fun p l e R s m args below meth c H locs cells slots Z ls a hx hb hn hls k => ?_) k
  obtain ⟨k0, hk0⟩ := List.getElem?_of_mem (aj_l_mem.mpr ⟨_, hl, rfl⟩ : (i, aj_c a (0, x)) ∈ aj_l a lv)
  exact lv_iinc (x := Int32.ofInt x) (v := Int32.ofInt (x + n)) hx hb hd hls hk0 (Int32.ofInt_add x n).symm (hn ▸ aj_oklt ho) rfl (fun ls' h' => k ls' (aj_st1 (v := (0, x + n)) rfl ho h'))
/-! arithmetic -/
theorem aj_iadd {x y : Int} (q : Nat) (hd : decode M.2.1 pc = .ok (.iadd, 1)) (hq : pc + 1 = q) (k : aj_wp E al ao X M d bc bs q lv ((0, x + y) :: st) sh g Q) : aj_wp E al ao X M d bc bs pc lv ((0, y) :: (0, x) :: st) sh g Q := by
  subst hq
  exact aj_lift (fun p l e R s m args below meth c H locs cells slots Z ls a hx hb hls k => lv_iadd (x := Int32.ofInt x) (y := Int32.ofInt y) hx hb hd (by rw [← Int32.ofInt_add]; exact k)) k
theorem aj_isub {x y : Int} (q : Nat) (hd : decode M.2.1 pc = .ok (.isub, 1)) (hq : pc + 1 = q) (k : aj_wp E al ao X M d bc bs q lv ((0, x - y) :: st) sh g Q) : aj_wp E al ao X M d bc bs pc lv ((0, y) :: (0, x) :: st) sh g Q := by
  subst hq
  exact aj_lift (fun p l e R s m args below meth c H locs cells slots Z ls a hx hb hls k => lv_isub (x := Int32.ofInt x) (y := Int32.ofInt y) hx hb hd (by rw [← Int32.ofInt_sub]; exact k)) k
theorem aj_imul {x y : Int} (q : Nat) (hd : decode M.2.1 pc = .ok (.imul, 1)) (hq : pc + 1 = q) (k : aj_wp E al ao X M d bc bs q lv ((0, x * y) :: st) sh g Q) : aj_wp E al ao X M d bc bs pc lv ((0, y) :: (0, x) :: st) sh g Q := by
  subst hq
  exact aj_lift (fun p l e R s m args below meth c H locs cells slots Z ls a hx hb hls k => lv_imul (x := Int32.ofInt x) (y := Int32.ofInt y) hx hb hd (by rw [← Int32.ofInt_mul]; exact k)) k
theorem aj_ladd {x y : Int} (q : Nat) (hd : decode M.2.1 pc = .ok (.ladd, 1)) (hq : pc + 1 = q) (k : aj_wp E al ao X M d bc bs q lv ((2, x + y) :: st) sh g Q) : aj_wp E al ao X M d bc bs pc lv ((2, y) :: (2, x) :: st) sh g Q := by
  subst hq
  exact aj_lift (fun p l e R s m args below meth c H locs cells slots Z ls a hx hb hls k => lv_ladd (x := Int64.ofInt x) (y := Int64.ofInt y) hx hb hd (by rw [← Int64.ofInt_add]; exact k)) k
theorem aj_idiv {x y v : Int} (q : Nat) (hd : decode M.2.1 pc = .ok (.idiv, 1)) (hq : pc + 1 = q) (hn : ¬ Int32.ofInt y = 0) (hv : Int32.ofInt x / Int32.ofInt y = Int32.ofInt v) (k : aj_wp E al ao X M d bc bs q lv ((0, v) :: st) sh g Q) : aj_wp E al ao X M d bc bs pc lv ((0, y) :: (0, x) :: st) sh g Q := by
  subst hq
  exact aj_lift (fun p l e R s m args below meth c H locs cells slots Z ls a hx hb hls k => lv_idiv (x := Int32.ofInt x) (y := Int32.ofInt y) hx hb hd hn (by rw [hv]; exact k)) k
theorem aj_irem {x y v : Int} (q : Nat) (hd : decode M.2.1 pc = .ok (.irem, 1)) (hq : pc + 1 = q) (hn : ¬ Int32.ofInt y = 0) (hv : Int32.ofInt x - Int32.ofInt x / Int32.ofInt y * Int32.ofInt y = Int32.ofInt v) (k : aj_wp E al ao X M d bc bs q lv ((0, v) :: st) sh g Q) : aj_wp E al ao X M d bc bs pc lv ((0, y) :: (0, x) :: st) sh g Q := by
  subst hq
  exact aj_lift (fun p l e R s m args below meth c H locs cells slots Z ls a hx hb hls k => lv_irem (x := Int32.ofInt x) (y := Int32.ofInt y) hx hb hd hn (by rw [hv]; exact k)) k
theorem aj_iand {x y v : Int} (q : Nat) (hd : decode M.2.1 pc = .ok (.iand, 1)) (hq : pc + 1 = q) (hv : Int32.ofInt x &&& Int32.ofInt y = Int32.ofInt v) (k : aj_wp E al ao X M d bc bs q lv ((0, v) :: st) sh g Q) : aj_wp E al ao X M d bc bs pc lv ((0, y) :: (0, x) :: st) sh g Q := by
  subst hq
  exact aj_lift (fun p l e R s m args below meth c H locs cells slots Z ls a hx hb hls k => lv_iand (x := Int32.ofInt x) (y := Int32.ofInt y) hx hb hd (by rw [hv]; exact k)) k
theorem aj_ior {x y v : Int} (q : Nat) (hd : decode M.2.1 pc = .ok (.ior, 1)) (hq : pc + 1 = q) (hv : Int32.ofInt x ||| Int32.ofInt y = Int32.ofInt v) (k : aj_wp E al ao X M d bc bs q lv ((0, v) :: st) sh g Q) : aj_wp E al ao X M d bc bs pc lv ((0, y) :: (0, x) :: st) sh g Q := by
  subst hq
  exact aj_lift (fun p l e R s m args below meth c H locs cells slots Z ls a hx hb hls k => lv_ior (x := Int32.ofInt x) (y := Int32.ofInt y) hx hb hd (by rw [hv]; exact k)) k
theorem aj_ishl {x y v : Int} (q : Nat) (hd : decode M.2.1 pc = .ok (.ishl, 1)) (hq : pc + 1 = q) (hv : Int32.ofInt x <<< (Int32.ofInt y &&& 31) = Int32.ofInt v) (k : aj_wp E al ao X M d bc bs q lv ((0, v) :: st) sh g Q) : aj_wp E al ao X M d bc bs pc lv ((0, y) :: (0, x) :: st) sh g Q := by
  subst hq
  exact aj_lift (fun p l e R s m args below meth c H locs cells slots Z ls a hx hb hls k => lv_ishl (x := Int32.ofInt x) (y := Int32.ofInt y) hx hb hd (by rw [hv]; exact k)) k
theorem aj_land {x y v : Int} (q : Nat) (hd : decode M.2.1 pc = .ok (.land, 1)) (hq : pc + 1 = q) (hv : Int64.ofInt x &&& Int64.ofInt y = Int64.ofInt v) (k : aj_wp E al ao X M d bc bs q lv ((2, v) :: st) sh g Q) : aj_wp E al ao X M d bc bs pc lv ((2, y) :: (2, x) :: st) sh g Q := by
  subst hq
  exact aj_lift (fun p l e R s m args below meth c H locs cells slots Z ls a hx hb hls k => lv_land (x := Int64.ofInt x) (y := Int64.ofInt y) hx hb hd (by rw [hv]; exact k)) k
theorem aj_lor {x y v : Int} (q : Nat) (hd : decode M.2.1 pc = .ok (.lor, 1)) (hq : pc + 1 = q) (hv : Int64.ofInt x ||| Int64.ofInt y = Int64.ofInt v) (k : aj_wp E al ao X M d bc bs q lv ((2, v) :: st) sh g Q) : aj_wp E al ao X M d bc bs pc lv ((2, y) :: (2, x) :: st) sh g Q := by
  subst hq
  exact aj_lift (fun p l e R s m args below meth c H locs cells slots Z ls a hx hb hls k => lv_lor (x := Int64.ofInt x) (y := Int64.ofInt y) hx hb hd (by rw [hv]; exact k)) k
theorem aj_lshl {x y v : Int} (q : Nat) (hd : decode M.2.1 pc = .ok (.lshl, 1)) (hq : pc + 1 = q) (hv : Int64.ofInt x <<< ((Int32.ofInt y).toInt64 &&& 63) = Int64.ofInt v) (k : aj_wp E al ao X M d bc bs q lv ((2, v) :: st) sh g Q) : aj_wp E al ao X M d bc bs pc lv ((0, y) :: (2, x) :: st) sh g Q := by
  subst hq
  exact aj_lift (fun p l e R s m args below meth c H locs cells slots Z ls a hx hb hls k => lv_lshl (x := Int64.ofInt x) (y := Int32.ofInt y) hx hb hd hv k) k
theorem aj_lshr {x y v : Int} (q : Nat) (hd : decode M.2.1 pc = .ok (.lshr, 1)) (hq : pc + 1 = q) (hv : Int64.ofInt x >>> ((Int32.ofInt y).toInt64 &&& 63) = Int64.ofInt v) (k : aj_wp E al ao X M d bc bs q lv ((2, v) :: st) sh g Q) : aj_wp E al ao X M d bc bs pc lv ((0, y) :: (2, x) :: st) sh g Q := by
  subst hq
  exact aj_lift (fun p l e R s m args below meth c H locs cells slots Z ls a hx hb hls k => lv_lshr (x := Int64.ofInt x) (y := Int32.ofInt y) hx hb hd hv k) k
theorem aj_i2l {x : Int} (q : Nat) (hd : decode M.2.1 pc = .ok (.i2l, 1)) (hq : pc + 1 = q) (hx : aj_I x) (k : aj_wp E al ao X M d bc bs q lv ((2, x) :: st) sh g Q) : aj_wp E al ao X M d bc bs pc lv ((0, x) :: st) sh g Q := by
  subst hq
  exact aj_lift (fun p l e R s m args below meth c H locs cells slots Z ls a hx0 hb hls k => lv_i2l (x := Int32.ofInt x) (v := Int64.ofInt x) hx0 hb hd (Int64.toInt_inj.mp (by rw [Int32.toInt_toInt64, aj_ti hx, aj_tl ⟨by have := hx.1; omega, by have := hx.2; omega⟩])) k) k
theorem aj_l2i {x : Int} (q : Nat) (hd : decode M.2.1 pc = .ok (.l2i, 1)) (hq : pc + 1 = q) (k : aj_wp E al ao X M d bc bs q lv ((0, x) :: st) sh g Q) : aj_wp E al ao X M d bc bs pc lv ((2, x) :: st) sh g Q := by
  subst hq
  exact aj_lift (fun p l e R s m args below meth c H locs cells slots Z ls a hx hb hls k => lv_l2i (x := Int64.ofInt x) (v := Int32.ofInt x) hx hb hd Int64.toInt32_ofInt k) k
def aj_sg (x y : Int) : Int := if y < x then 1 else if x = y then 0 else -1
theorem aj_lcmp {x y : Int} (q : Nat) (hd : decode M.2.1 pc = .ok (.lcmp, 1)) (hq : pc + 1 = q) (h1 : aj_L x) (h2 : aj_L y) (k : aj_wp E al ao X M d bc bs q lv ((0, aj_sg x y) :: st) sh g Q) : aj_wp E al ao X M d bc bs pc lv ((2, y) :: (2, x) :: st) sh g Q := by
  subst hq
  refine aj_lift (fun p l e R s m args below meth c H locs cells slots Z ls a hx hb hls k => W.lcmp (x := Int64.ofInt x) (y := Int64.ofInt y) hx hb hd ?_) k
  have hlt : Int64.ofInt y < Int64.ofInt x ↔ y < x := by rw [Int64.lt_iff_toInt_lt, aj_tl h1, aj_tl h2]
  have heq : Int64.ofInt x = Int64.ofInt y ↔ x = y := by rw [← Int64.toInt_inj, aj_tl h1, aj_tl h2]
  have e : lg_cmp (Int64.ofInt x) (Int64.ofInt y) = Int32.ofInt (aj_sg x y) := by
    unfold lg_cmp aj_sg
    by_cases c1 : y < x
    · simp [hlt, c1]
      try rfl
    · by_cases c2 : x = y
      · subst c2
        simp
        try rfl
      · simp [hlt, heq, c1, c2]
        try rfl
  rw [e]
  exact k
theorem aj_dup {v : aj_A} (q : Nat) (hd : decode M.2.1 pc = .ok (.dup, 1)) (hq : pc + 1 = q) (hv : Nat.blt v.1 2 = true) (k : aj_wp E al ao X M d bc bs q lv (v :: v :: st) sh g Q) : aj_wp E al ao X M d bc bs pc lv (v :: st) sh g Q := by
  subst hq
  exact aj_lift (fun p l e R s m args below meth c H locs cells slots Z ls a hx hb hls k => lv_dup hx hb hd (aj_cat (Nat.blt_eq ▸ hv)) k) k
theorem aj_pop {v : aj_A} (q : Nat) (hd : decode M.2.1 pc = .ok (.pop, 1)) (hq : pc + 1 = q) (hv : Nat.blt v.1 2 = true) (k : aj_wp E al ao X M d bc bs q lv st sh g Q) : aj_wp E al ao X M d bc bs pc lv (v :: st) sh g Q := by
  subst hq
  exact aj_lift (fun p l e R s m args below meth c H locs cells slots Z ls a hx hb hls k => lv_pop hx hb hd (aj_cat (Nat.blt_eq ▸ hv)) k) k
theorem aj_dup_x1 {v w : aj_A} (q : Nat) (hd : decode M.2.1 pc = .ok (.dup_x1, 1)) (hq : pc + 1 = q) (hv : Nat.blt v.1 2 = true) (hw : Nat.blt w.1 2 = true) (k : aj_wp E al ao X M d bc bs q lv (v :: w :: v :: st) sh g Q) : aj_wp E al ao X M d bc bs pc lv (v :: w :: st) sh g Q := by
  subst hq
  exact aj_lift (fun p l e R s m args below meth c H locs cells slots Z ls a hx hb hls k => lv_dup_x1 hx hb hd (aj_cat (Nat.blt_eq ▸ hv)) (aj_cat (Nat.blt_eq ▸ hw)) k) k
theorem aj_dup2 {v w : aj_A} (q : Nat) (hd : decode M.2.1 pc = .ok (.dup2, 1)) (hq : pc + 1 = q) (hv : Nat.blt v.1 2 = true) (hw : Nat.blt w.1 2 = true) (k : aj_wp E al ao X M d bc bs q lv (v :: w :: v :: w :: st) sh g Q) : aj_wp E al ao X M d bc bs pc lv (v :: w :: st) sh g Q := by
  subst hq
  exact aj_lift (fun p l e R s m args below meth c H locs cells slots Z ls a hx hb hls k => lv_dup2_11 hx hb hd (aj_cat (Nat.blt_eq ▸ hv)) (aj_cat (Nat.blt_eq ▸ hw)) k) k
/-! branches -/
theorem aj_goto {off : Int} (t : Nat) (hd : decode M.2.1 pc = .ok (.goto off, 3)) (ht : (pc : Int) + off = (t : Int)) (k : aj_wp E al ao X M d bc bs t lv st sh g Q) : aj_wp E al ao X M d bc bs pc lv st sh g Q :=
  aj_lift (fun p l e R s m args below meth c H locs cells slots Z ls a hx hb hls k => lv_goto hx hb hd ht k) k
theorem aj_lift2 {pc1 pc2 : Nat} {st' : List aj_A} {P : Prop} (h : ∀ (p : Program) (l : Launch) (e : Env) (R : Room) (s : State) (m : MethodId) (args : Array Value) (below : List Frame) (meth : Method) (c : Code) (H : Heap) (locs : List Loc) (cells slots : Nat) (Z : State → Prop) (ls : Array Slot) (a : Nat → Nat),
      p.tables.exec = Jvm.exec → c.code = M.2.1 → (P → W p l e R s m args below meth c H locs cells slots Z (F0 m pc1 ls (st'.map (aj_c a)))) → (¬ P → W p l e R s m args below meth c H locs cells slots Z (F0 m pc2 ls (st'.map (aj_c a)))) → W p l e R s m args below meth c H locs cells slots Z (F0 m pc ls (st.map (aj_c a))))
    (kt : P → aj_wp E al ao X M d bc bs pc1 lv st' sh g Q) (kf : ¬ P → aj_wp E al ao X M d bc bs pc2 lv st' sh g Q) : aj_wp E al ao X M d bc bs pc lv st sh g Q := by
  intro p l e R s m args below meth c H locs cells slots ls a tc D A hc
  exact h p l e R s m args below meth c H locs cells slots _ ls a hc.1.1 hc.1.2.1 (fun hp => kt hp p l e R s m args below meth c H locs cells slots ls a tc D A hc) (fun hp => kf hp p l e R s m args below meth c H locs cells slots ls a tc D A hc)
theorem aj_if_eq {x off : Int} (t q : Nat) (hd : decode M.2.1 pc = .ok (.ifCond .eq off, 3)) (ht : (pc : Int) + off = (t : Int)) (hq : pc + 3 = q) (hx : aj_I x) (kt : x = 0 → aj_wp E al ao X M d bc bs t lv st sh g Q) (kf : ¬ x = 0 → aj_wp E al ao X M d bc bs q lv st sh g Q) : aj_wp E al ao X M d bc bs pc lv ((0, x) :: st) sh g Q := by
  subst hq
  have e : Int32.ofInt x = 0 ↔ x = 0 := by rw [aj_0]; exact aj_eq hx aj_I0
  exact aj_lift2 (fun p l e0 R s m args below meth c H locs cells slots Z ls a hx hb kt kf => lv_if_eq (x := Int32.ofInt x) hx hb hd ht (fun h => kt (e.mp h)) (fun h => kf (fun z => h (e.mpr z)))) kt kf
theorem aj_if_ne {x off : Int} (t q : Nat) (hd : decode M.2.1 pc = .ok (.ifCond .ne off, 3)) (ht : (pc : Int) + off = (t : Int)) (hq : pc + 3 = q) (hx : aj_I x) (kt : ¬ x = 0 → aj_wp E al ao X M d bc bs t lv st sh g Q) (kf : x = 0 → aj_wp E al ao X M d bc bs q lv st sh g Q) : aj_wp E al ao X M d bc bs pc lv ((0, x) :: st) sh g Q := by
  subst hq
  have e : Int32.ofInt x = 0 ↔ x = 0 := by rw [aj_0]; exact aj_eq hx aj_I0
  refine aj_lift2 (P := ¬ x = 0) (fun p l e0 R s m args below meth c H locs cells slots Z ls a hx hb kt kf => lv_if_ne (x := Int32.ofInt x) hx hb hd ht (fun h => kt (fun z => h (e.mpr z))) (fun h => kf (fun z => z (e.mp h)))) kt (fun h => kf (Classical.byContradiction h))
theorem aj_if_lt {x off : Int} (t q : Nat) (hd : decode M.2.1 pc = .ok (.ifCond .lt off, 3)) (ht : (pc : Int) + off = (t : Int)) (hq : pc + 3 = q) (hx : aj_I x) (kt : x < 0 → aj_wp E al ao X M d bc bs t lv st sh g Q) (kf : 0 ≤ x → aj_wp E al ao X M d bc bs q lv st sh g Q) : aj_wp E al ao X M d bc bs pc lv ((0, x) :: st) sh g Q := by
  subst hq
  have e : Int32.ofInt x < 0 ↔ x < 0 := by rw [aj_0]; exact aj_lt hx aj_I0
  exact aj_lift2 (fun p l e0 R s m args below meth c H locs cells slots Z ls a hx hb kt kf => lv_if_lt (x := Int32.ofInt x) hx hb hd ht (fun h => kt (e.mp h)) (fun h => kf (fun z => h (e.mpr z)))) kt (fun h => kf (by omega))
theorem aj_if_ge {x off : Int} (t q : Nat) (hd : decode M.2.1 pc = .ok (.ifCond .ge off, 3)) (ht : (pc : Int) + off = (t : Int)) (hq : pc + 3 = q) (hx : aj_I x) (kt : 0 ≤ x → aj_wp E al ao X M d bc bs t lv st sh g Q) (kf : x < 0 → aj_wp E al ao X M d bc bs q lv st sh g Q) : aj_wp E al ao X M d bc bs pc lv ((0, x) :: st) sh g Q := by
  subst hq
  have e : 0 ≤ Int32.ofInt x ↔ 0 ≤ x := by rw [aj_0]; exact aj_le aj_I0 hx
  exact aj_lift2 (fun p l e0 R s m args below meth c H locs cells slots Z ls a hx hb kt kf => lv_if_ge (x := Int32.ofInt x) hx hb hd ht (fun h => kt (e.mp h)) (fun h => kf (fun z => h (e.mpr z)))) kt (fun h => kf (by omega))
theorem aj_if_gt {x off : Int} (t q : Nat) (hd : decode M.2.1 pc = .ok (.ifCond .gt off, 3)) (ht : (pc : Int) + off = (t : Int)) (hq : pc + 3 = q) (hx : aj_I x) (kt : 0 < x → aj_wp E al ao X M d bc bs t lv st sh g Q) (kf : x ≤ 0 → aj_wp E al ao X M d bc bs q lv st sh g Q) : aj_wp E al ao X M d bc bs pc lv ((0, x) :: st) sh g Q := by
  subst hq
  have e : 0 < Int32.ofInt x ↔ 0 < x := by rw [aj_0]; exact aj_lt aj_I0 hx
  exact aj_lift2 (fun p l e0 R s m args below meth c H locs cells slots Z ls a hx hb kt kf => lv_if_gt (x := Int32.ofInt x) hx hb hd ht (fun h => kt (e.mp h)) (fun h => kf (fun z => h (e.mpr z)))) kt (fun h => kf (by omega))
theorem aj_if_le {x off : Int} (t q : Nat) (hd : decode M.2.1 pc = .ok (.ifCond .le off, 3)) (ht : (pc : Int) + off = (t : Int)) (hq : pc + 3 = q) (hx : aj_I x) (kt : x ≤ 0 → aj_wp E al ao X M d bc bs t lv st sh g Q) (kf : 0 < x → aj_wp E al ao X M d bc bs q lv st sh g Q) : aj_wp E al ao X M d bc bs pc lv ((0, x) :: st) sh g Q := by
  subst hq
  have e : Int32.ofInt x ≤ 0 ↔ x ≤ 0 := by rw [aj_0]; exact aj_le hx aj_I0
  exact aj_lift2 (fun p l e0 R s m args below meth c H locs cells slots Z ls a hx hb kt kf => lv_if_le (x := Int32.ofInt x) hx hb hd ht (fun h => kt (e.mp h)) (fun h => kf (fun z => h (e.mpr z)))) kt (fun h => kf (by omega))
theorem aj_icmp_eq {x y off : Int} (t q : Nat) (hd : decode M.2.1 pc = .ok (.if_icmp .eq off, 3)) (ht : (pc : Int) + off = (t : Int)) (hq : pc + 3 = q) (hx : aj_I x) (hy : aj_I y) (kt : x = y → aj_wp E al ao X M d bc bs t lv st sh g Q) (kf : ¬ x = y → aj_wp E al ao X M d bc bs q lv st sh g Q) : aj_wp E al ao X M d bc bs pc lv ((0, y) :: (0, x) :: st) sh g Q := by
  subst hq
  have e := aj_eq hx hy
  exact aj_lift2 (fun p l e0 R s m args below meth c H locs cells slots Z ls a hx hb kt kf => lv_icmp_eq (x := Int32.ofInt x) (y := Int32.ofInt y) hx hb hd ht (fun h => kt (e.mp h)) (fun h => kf (fun z => h (e.mpr z)))) kt kf
theorem aj_icmp_ne {x y off : Int} (t q : Nat) (hd : decode M.2.1 pc = .ok (.if_icmp .ne off, 3)) (ht : (pc : Int) + off = (t : Int)) (hq : pc + 3 = q) (hx : aj_I x) (hy : aj_I y) (kt : ¬ x = y → aj_wp E al ao X M d bc bs t lv st sh g Q) (kf : x = y → aj_wp E al ao X M d bc bs q lv st sh g Q) : aj_wp E al ao X M d bc bs pc lv ((0, y) :: (0, x) :: st) sh g Q := by
  subst hq
  have e := aj_eq hx hy
  exact aj_lift2 (P := ¬ x = y) (fun p l e0 R s m args below meth c H locs cells slots Z ls a hx hb kt kf => lv_icmp_ne (x := Int32.ofInt x) (y := Int32.ofInt y) hx hb hd ht (fun h => kt (fun z => h (e.mpr z))) (fun h => kf (fun z => z (e.mp h)))) kt (fun h => kf (Classical.byContradiction h))
theorem aj_icmp_lt {x y off : Int} (t q : Nat) (hd : decode M.2.1 pc = .ok (.if_icmp .lt off, 3)) (ht : (pc : Int) + off = (t : Int)) (hq : pc + 3 = q) (hx : aj_I x) (hy : aj_I y) (kt : x < y → aj_wp E al ao X M d bc bs t lv st sh g Q) (kf : y ≤ x → aj_wp E al ao X M d bc bs q lv st sh g Q) : aj_wp E al ao X M d bc bs pc lv ((0, y) :: (0, x) :: st) sh g Q := by
  subst hq
  have e := aj_lt hx hy
  exact aj_lift2 (fun p l e0 R s m args below meth c H locs cells slots Z ls a hx hb kt kf => lv_icmp_lt (x := Int32.ofInt x) (y := Int32.ofInt y) hx hb hd ht (fun h => kt (e.mp h)) (fun h => kf (fun z => h (e.mpr z)))) kt (fun h => kf (by omega))
theorem aj_icmp_ge {x y off : Int} (t q : Nat) (hd : decode M.2.1 pc = .ok (.if_icmp .ge off, 3)) (ht : (pc : Int) + off = (t : Int)) (hq : pc + 3 = q) (hx : aj_I x) (hy : aj_I y) (kt : y ≤ x → aj_wp E al ao X M d bc bs t lv st sh g Q) (kf : x < y → aj_wp E al ao X M d bc bs q lv st sh g Q) : aj_wp E al ao X M d bc bs pc lv ((0, y) :: (0, x) :: st) sh g Q := by
  subst hq
  have e := aj_le hy hx
  exact aj_lift2 (fun p l e0 R s m args below meth c H locs cells slots Z ls a hx hb kt kf => lv_icmp_ge (x := Int32.ofInt x) (y := Int32.ofInt y) hx hb hd ht (fun h => kt (e.mp h)) (fun h => kf (fun z => h (e.mpr z)))) kt (fun h => kf (by omega))
theorem aj_icmp_gt {x y off : Int} (t q : Nat) (hd : decode M.2.1 pc = .ok (.if_icmp .gt off, 3)) (ht : (pc : Int) + off = (t : Int)) (hq : pc + 3 = q) (hx : aj_I x) (hy : aj_I y) (kt : y < x → aj_wp E al ao X M d bc bs t lv st sh g Q) (kf : x ≤ y → aj_wp E al ao X M d bc bs q lv st sh g Q) : aj_wp E al ao X M d bc bs pc lv ((0, y) :: (0, x) :: st) sh g Q := by
  subst hq
  have e := aj_lt hy hx
  exact aj_lift2 (fun p l e0 R s m args below meth c H locs cells slots Z ls a hx hb kt kf => lv_icmp_gt (x := Int32.ofInt x) (y := Int32.ofInt y) hx hb hd ht (fun h => kt (e.mp h)) (fun h => kf (fun z => h (e.mpr z)))) kt (fun h => kf (by omega))
theorem aj_icmp_le {x y off : Int} (t q : Nat) (hd : decode M.2.1 pc = .ok (.if_icmp .le off, 3)) (ht : (pc : Int) + off = (t : Int)) (hq : pc + 3 = q) (hx : aj_I x) (hy : aj_I y) (kt : x ≤ y → aj_wp E al ao X M d bc bs t lv st sh g Q) (kf : y < x → aj_wp E al ao X M d bc bs q lv st sh g Q) : aj_wp E al ao X M d bc bs pc lv ((0, y) :: (0, x) :: st) sh g Q := by
  subst hq
  have e := aj_le hx hy
  exact aj_lift2 (fun p l e0 R s m args below meth c H locs cells slots Z ls a hx hb kt kf => lv_icmp_le (x := Int32.ofInt x) (y := Int32.ofInt y) hx hb hd ht (fun h => kt (e.mp h)) (fun h => kf (fun z => h (e.mpr z)))) kt (fun h => kf (by omega))
theorem aj_tableIn {dflt lo hi off x : Int} {offs : Array Int} {len : Nat} (t : Nat) (hd : decode M.2.1 pc = .ok (.tableswitch dflt lo hi offs, len)) (hx : aj_I x) (h1 : lo ≤ x) (h2 : x ≤ hi) (ho : offs[(x - lo).toNat]? = some off) (ht : (pc : Int) + off = (t : Int)) (k : aj_wp E al ao X M d bc bs t lv st sh g Q) : aj_wp E al ao X M d bc bs pc lv ((0, x) :: st) sh g Q :=
  aj_lift (fun p l e R s m args below meth c H locs cells slots Z ls a hx0 hb hls k => lv_tableIn (x := Int32.ofInt x) hx0 hb hd (by rw [aj_ti hx]; omega) (by rw [aj_ti hx]; omega) (by rw [aj_ti hx]; exact ho) ht k) k
theorem aj_tableOut {dflt lo hi x : Int} {offs : Array Int} {len : Nat} (t : Nat) (hd : decode M.2.1 pc = .ok (.tableswitch dflt lo hi offs, len)) (hx : aj_I x) (h : x < lo ∨ hi < x) (ht : (pc : Int) + dflt = (t : Int)) (k : aj_wp E al ao X M d bc bs t lv st sh g Q) : aj_wp E al ao X M d bc bs pc lv ((0, x) :: st) sh g Q :=
  aj_lift (fun p l e R s m args below meth c H locs cells slots Z ls a hx0 hb hls k => lv_tableOut (x := Int32.ofInt x) hx0 hb hd (by rw [aj_ti hx]; exact h) ht k) k
end AJR
end
section
/-! the judgement: fields, arrays, new cells -/
def aj_dv (k : Nat) : Int := if k = 1 then -1 else 0
theorem aj_dflt {a : Nat → Nat} {t : FieldType} (h : aj_smp t = true) : defaultValue t = aj_c a (aj_kd t, aj_dv (aj_kd t)) := by
  cases t <;> first | (exact absurd h (by decide)) | (simp [aj_kd, aj_dv, aj_c, aj_rf, va_rf, defaultValue]; try rfl)
def aj_fl (E : aj_E) (own : String) (index ci t : Nat) (jz : Int) : Prop := ∃ (C : String) (T : u_T) (N j : Nat), E.1[ci]? = some (C, T, N) ∧ j < N ∧ ((j : Nat) : Int) = jz ∧ E.2.2.1 ci j = t ∧ Cond.fieldLink own index (T j).1 (T j).2.1 (T j).2.2.1 ∈ E.2.2.2.1
def aj_pl (E : aj_E) (own mname : String) (index ci t : Nat) (jz : Int) (ty : FieldType) : Prop := ∃ (C : String) (T : u_T) (N j : Nat), E.1[ci]? = some (C, T, N) ∧ j < N ∧ ((j : Nat) : Int) = jz ∧ E.2.2.1 ci j = t ∧ Cond.fieldLink own index (T j).1 (T j).2.1 (T j).2.2.1 ∈ E.2.2.2.1 ∧
  parseFieldDescriptor (T j).2.2.1 = some ty ∧ ((T j).2.2.2 = false ∨ ((T j).2.2.2 = true ∧ mname = "<init>" ∧ (T j).1 = own))
def aj_fit (ty : FieldType) (v : aj_A) : Prop := ∀ a, narrow ty (aj_c a v) = aj_c a v ∧ fits ty (aj_c a v) = true
theorem aj_fitI (x : Int) : aj_fit .int (0, x) := fun _ => ⟨rfl, rfl⟩
theorem aj_fitJ (x : Int) : aj_fit .long (2, x) := fun _ => ⟨rfl, rfl⟩
theorem aj_fitZ {x : Int} (h : x = 0 ∨ x = 1) : aj_fit .boolean (0, x) := by
  intro a
  rw [aj_c0]
  rcases h with rfl | rfl
  · exact ⟨by decide +kernel, by decide +kernel⟩
  · exact ⟨by decide +kernel, by decide +kernel⟩
theorem aj_fitO (C : String) (x : Int) : aj_fit (.object C) (1, x) := by
  intro a
  rw [aj_c1]
  by_cases h : x < 0
  · rw [aj_rfn h]; exact ⟨rfl, rfl⟩
  · rw [aj_rfp (by omega)]; exact ⟨rfl, rfl⟩
theorem aj_fitA (t : FieldType) (x : Int) : aj_fit (.array t) (1, x) := by
  intro a
  rw [aj_c1]
  by_cases h : x < 0
  · rw [aj_rfn h]; exact ⟨rfl, rfl⟩
  · rw [aj_rfp (by omega)]; exact ⟨rfl, rfl⟩
theorem aj_vpV {N i : Nat} {F : Nat → Value} (h : i < N) : vp_V ((List.range N).map F) i = F i := by
  unfold vp_V
  rw [List.getD_eq_getElem?_getD, List.getElem?_map, List.getElem?_range h]
  rfl
section AJH
variable {E : aj_E} {al ao : Prop} {X : Option (Nat × (Int → Int))} {M : aj_M} {d bc bs pc : Nat} {lv : List (Option aj_A)} {st : List aj_A} {sh : List aj_S} {g : aj_G} {Q : aj_R → List aj_S → aj_G → Prop}
theorem aj_getf {index ci t : Nat} {jz r : Int} (q : Nat) (hf : aj_fl E M.1.cls index ci t jz) (hd : decode M.2.1 pc = .ok (.getfield index, 3)) (hq : pc + 3 = q) (hs : aj_sh sh r = some (.inr ci)) (k : aj_wp E al ao X M d bc bs q lv ((t, g r jz) :: st) sh g Q) : aj_wp E al ao X M d bc bs pc lv ((1, r) :: st) sh g Q := by
  subst hq
  intro p l e R s m args below meth c H locs cells slots ls a tc D A hc0
  have kk := k p l e R s m args below meth c H locs cells slots ls a tc D A hc0
  obtain ⟨h1, h2, h3, ⟨hP, hK, hD, hS, hA⟩, h5, h6, h7⟩ := hc0
  obtain ⟨C, T, N, j, hc, hj, rfl, ht, hw⟩ := hf
  obtain ⟨h0, -⟩ := aj_sh_get hs
  have he := aj_w_get (E := E) (tc := tc) (a := a) (g := g) hs
  rw [List.map_cons, aj_cr h0]
  refine va_get (D := D) (Ts := E.2.2.2.1) h1.1 h1.2.1 h1.2.2.2.2 (h7.1.2 ci _ hc).1 h1.2.2.2.1 hK hP r.toNat he hc j hj (h1.2.2.2.2 _ hw) (fun x hx => hx) (v := aj_c a (t, g r j)) ?_ hd kk
  rw [aj_nf_of hc, List.getElem?_map, List.getElem?_range hj, ← ht]
  rfl
theorem aj_putf {index ci t : Nat} {jz r x : Int} {ty : FieldType} (q : Nat) (hf : aj_pl E M.1.cls M.1.name index ci t jz ty) (hdg : decode M.2.1 pc = .ok (.putfield index, 3)) (hq : pc + 3 = q) (hs : aj_sh sh r = some (.inr ci)) (hfit : aj_fit ty (t, x)) (k : aj_wp E al ao X M d bc bs q lv st sh (aj_up g r jz x) Q) : aj_wp E al ao X M d bc bs pc lv ((t, x) :: (1, r) :: st) sh g Q := by
  subst hq
  intro p l e R s m args below meth c H locs cells slots ls a tc D A hc0
  obtain ⟨h1, h2, h3, ⟨hP, hK, hD, hS, hA⟩, h5, h6, h7⟩ := hc0
  obtain ⟨C, T, N, j, hc, hj, rfl, ht, hw, hd, hfin⟩ := hf
  obtain ⟨h0, -⟩ := aj_sh_get hs
  have he := aj_w_get (E := E) (tc := tc) (a := a) (g := g) hs
  obtain ⟨hin, hnm, ty0, htys, hkd⟩ := h7.1.2 ci _ hc
  have hts := h1.2.2.2.2
  rw [List.map_cons, List.map_cons, aj_cr h0]
  have hap := va_apart (own := M.1.cls) hts hin ty0 htys hnm hK hc
  obtain ⟨r', hr', cell, q1, q2, q3, q4⟩ := hP _ _ he
  have hrr : r' = (C, T, N) := Option.some.inj (hr'.symm.trans hc)
  subst hrr
  obtain ⟨hSl, hfc, kC, hkC, hkind⟩ := hK.1 ci _ hc
  obtain ⟨cf, kf, fi, f, hi, hsl⟩ := hSl j hj
  have hst := (u_facts hfc hkC (u_lays hts hin hj) hi).1
  have kk : ∀ H' : Heap, H'[a r.toNat]? = some (cell.setSlot f.slot (aj_c a (t, x))) → H'.size = H.size → (∀ q, q ≠ a r.toNat → H'[q]? = H[q]?) → W p l e R s m args below meth c H' (locs ++ [⟨a r.toNat, f.slot⟩]) cells slots (aj_fin E ao a tc D A Q below s (cells + bc) (slots + bs)) (F0 m (pc + 3) ls (st.map (aj_c a))) := by
    intro H' e1 e2 e3
    rw [hsl] at e1
    have hcell : va_at D E.1 (a r.toNat, aj_cell E tc a (.inr ci) (aj_up g r j x r)) H' := by
      refine ⟨_, hc, t_OB.to (V := updV (vp_V ((List.range (aj_nf E ci)).map (fun j => aj_c a (E.2.2.1 ci j, g r (j : Nat))))) j (aj_c a (t, x))) ⟨_, e1, q2, q3, t_set q4 hap hj _⟩ (fun i hi => ?_)⟩
      rw [aj_nf_of hc]
      show updV _ j _ i = vp_V _ i
      rw [aj_vpV hi]
      unfold updV
      by_cases hij : i = j
      · subst hij
        rw [if_pos rfl, aj_up_self, ht]
      · rw [if_neg hij, aj_vpV hi, aj_up_ni g r x (fun e => hij (by omega))]
    have hset := aj_w_set (E := E) (tc := tc) (a := a) (g := g) (g' := aj_up g r j x) hs rfl (fun r' hr' => aj_up_ne g j x hr')
    have hP2 := hP.set hD he hcell e3
    rw [hset] at hP2
    have hD2 := hD.set (e := aj_cell E tc a (.inr ci) (aj_up g r j x r)) he
    rw [hset] at hD2
    exact k p l e R s m args below meth c H' _ cells slots ls a tc D A ⟨h1, h2, h3, ⟨hP2, hK, hD2, hS.put e2 e3 (hD.2 _ _ he), hA⟩, h5, by rw [e2]; exact h6, h7⟩
  rcases hfin with hf0 | ⟨hf1, hnm1, hdecl⟩
  · have hlay := hts _ (hin _ (u_in_lay hj))
    unfold u_lay at hlay
    rw [if_neg (by rw [hf0]; decide)] at hlay
    have h8 := u_store hfc hkC hkind hlay hi hd (hfit a).1 (hfit a).2
    exact W.putK h1.1 h1.2.1 (f := f) ⟨h1.2.2.2.1, hts _ hw, ⟨_, _, _, hi⟩, hst⟩ (by rw [q2]; exact h8) q1 q3 (by rw [hsl]; exact k2_hasslot (q4 j hj)) rfl rfl hdg kk
  · have hlay := hts _ (hin _ (u_in_lay hj))
    unfold u_lay at hlay
    rw [if_pos hf1] at hlay
    have hcf : m.cls = cf := by
      obtain ⟨_, _, c', _, _, _, -, -, hf', -, -, -, hown2, -⟩ := Cond.laysFinal_spec hlay
      have e1 : c' = cf := by have := hi.symm.trans hf'; simp at this; exact this.1.symm
      rw [hdecl] at hown2
      rw [← e1]; exact Option.some.inj (h1.2.2.2.1.symm.trans hown2)
    have h8 := u_fits hfc hkC hkind (Or.inr hlay) hi hd (hfit a).1 (hfit a).2
    exact W.putFinK h1.1 h1.2.1 h1.2.2.2.1 (hts _ hw) hi hst hcf (h2.2.2.1.trans hnm1) (by rw [q2]; exact h8) q1 q3 (by rw [hsl]; exact k2_hasslot (q4 j hj)) rfl rfl hdg kk
/-! arrays -/
theorem aj_at {tc a : Nat → Nat} {D : va_G} {H : Heap} {r : Int} {t0 n : Nat} {V : Int → Value} (hP : va_P D E.1 (aj_w E tc a sh g) H) (hs : aj_sh sh r = some (.inl (t0, n))) (hV : ∀ f : Int → Int, vp_cell (tc t0) (n, aj_row a E.2.1[t0]? f) = arrV (tc t0) n (fun j => V (f j))) : H[a r.toNat]? = some (arrV (tc t0) n (fun j => V (g r j))) := by
  have h := hP _ _ (aj_w_get (E := E) (tc := tc) (a := a) (g := g) hs)
  rw [← hV (g r)]
  exact h
theorem aj_aset {tc a : Nat → Nat} {D : va_G} {A : Nat → Prop} {H H1 : Heap} {r i x : Int} {t0 n : Nat} {V : Int → Value} (hP : va_P D E.1 (aj_w E tc a sh g) H) (hD : va_D A (aj_w E tc a sh g)) (hs : aj_sh sh r = some (.inl (t0, n))) (hV : ∀ f : Int → Int, vp_cell (tc t0) (n, aj_row a E.2.1[t0]? f) = arrV (tc t0) n (fun j => V (f j))) (h0 : 0 ≤ i)
    (e : H1[a r.toNat]? = some ((arrV (tc t0) n (fun j => V (g r j))).setSlot i.toNat (V x))) (oq : ∀ q : Nat, q ≠ a r.toNat → H1[q]? = H[q]?) : va_P D E.1 (aj_w E tc a sh (aj_up g r i x)) H1 ∧ va_D A (aj_w E tc a sh (aj_up g r i x)) := by
  have he := aj_w_get (E := E) (tc := tc) (a := a) (g := g) hs
  have hset := aj_w_set (E := E) (tc := tc) (a := a) (g := g) (g' := aj_up g r i x) hs rfl (fun r' hr' => aj_up_ne g i x hr')
  have hcell : va_at D E.1 (a r.toNat, aj_cell E tc a (.inl (t0, n)) (aj_up g r i x r)) H1 := by
    show H1[a r.toNat]? = some (vp_cell (tc t0) (n, aj_row a E.2.1[t0]? (aj_up g r i x r)))
    rw [hV, e, arrV_store]
    congr 2
    funext q
    unfold updV
    by_cases hq : q = i.toNat
    · rw [if_pos hq, hq, Int.toNat_of_nonneg h0, aj_up_self]
    · rw [if_neg hq, aj_up_ni g r x (fun z => hq (by omega))]
  have hP2 := hP.set hD he hcell oq
  have hD2 := hD.set (e := aj_cell E tc a (.inl (t0, n)) (aj_up g r i x r)) he
  rw [hset] at hP2 hD2
  exact ⟨hP2, hD2⟩
theorem aj_rowi {tc a : Nat → Nat} {t0 n : Nat} {ty : FieldType} (ht : E.2.1[t0]? = some ty) (h : ty = .int ∨ ty = .boolean) (f : Int → Int) : vp_cell (tc t0) (n, aj_row a E.2.1[t0]? f) = arrV (tc t0) n (fun j => .int (Int32.ofInt (f j))) := by
  rw [ht]
  rcases h with rfl | rfl <;> rfl
theorem aj_rowl {tc a : Nat → Nat} {t0 n : Nat} (ht : E.2.1[t0]? = some .long) (f : Int → Int) : vp_cell (tc t0) (n, aj_row a E.2.1[t0]? f) = arrV (tc t0) n (fun j => .long (Int64.ofInt (f j))) := by
  rw [ht]
  rfl
theorem aj_rowr {tc a : Nat → Nat} {t0 n : Nat} {ty : FieldType} (ht : E.2.1[t0]? = some ty) (h : ty.isReference = true) (f : Int → Int) : vp_cell (tc t0) (n, aj_row a E.2.1[t0]? f) = arrV (tc t0) n (fun j => va_rf (aj_rf a (f j))) := by
  rw [ht]
  cases ty <;> first | rfl | exact absurd h (by decide)
theorem aj_arr {tc : Nat → Nat} {D : va_G} {s : State} {t0 : Nat} {ty : FieldType} (hK : va_K D E.1 (aj_ty tc E.2.1) s) (ht : E.2.1[t0]? = some ty) (n : Nat) (z : Nat → Value) : s.isArrayOf (arrV (tc t0) n z) ty := (hK.2 t0 _ (aj_ty_at ht)).1 n z
theorem aj_sz {cA : ClassId} {n : Nat} {z : Nat → Value} {i : Int32} (h : vp_in i n) : ¬ (i < 0 ∨ (arrV cA n z).slots.size ≤ i.toNatClampNeg) := by
  rw [arrV_size]
  exact h
theorem aj_iald {r i : Int} {t0 n : Nat} (q : Nat) (hd : decode M.2.1 pc = .ok (.iaload, 1)) (hq : pc + 1 = q) (hs : aj_sh sh r = some (.inl (t0, n))) (ht : E.2.1[t0]? = some .int) (h0 : 0 ≤ i) (hi : i < n) (k : aj_wp E al ao X M d bc bs q lv ((0, g r i) :: st) sh g Q) : aj_wp E al ao X M d bc bs pc lv ((0, i) :: (1, r) :: st) sh g Q := by
  subst hq
  intro p l e R s m args below meth c H locs cells slots ls a tc D A hc0
  have kk := k p l e R s m args below meth c H locs cells slots ls a tc D A hc0
  obtain ⟨h1, h2, h3, ⟨hP, hK, hD, hS, hA⟩, h5, h6, h7⟩ := hc0
  obtain ⟨hr0, hr1⟩ := aj_sh_get hs
  have hn := h6.2 _ _ _ hr1
  rw [List.map_cons, List.map_cons, aj_cr hr0]
  have hcl := aj_clamp h0 hi hn
  refine W.iald (v := aj_c a (0, g r i)) h1.1 h1.2.1 (aj_at (V := fun x => .int (Int32.ofInt x)) hP hs (aj_rowi ht (Or.inl rfl))) (aj_arr hK ht _ _) (fun q => by cases q) (aj_sz (aj_in h0 hi hn)) ?_ rfl rfl hd kk
  rw [hcl, arrV_read _ _ (by omega), Int.toNat_of_nonneg h0]
  rfl
theorem aj_zald {r i : Int} {t0 n : Nat} (q : Nat) (hd : decode M.2.1 pc = .ok (.baload, 1)) (hq : pc + 1 = q) (hs : aj_sh sh r = some (.inl (t0, n))) (ht : E.2.1[t0]? = some .boolean) (h0 : 0 ≤ i) (hi : i < n) (k : aj_wp E al ao X M d bc bs q lv ((0, g r i) :: st) sh g Q) : aj_wp E al ao X M d bc bs pc lv ((0, i) :: (1, r) :: st) sh g Q := by
  subst hq
  intro p l e R s m args below meth c H locs cells slots ls a tc D A hc0
  have kk := k p l e R s m args below meth c H locs cells slots ls a tc D A hc0
  obtain ⟨h1, h2, h3, ⟨hP, hK, hD, hS, hA⟩, h5, h6, h7⟩ := hc0
  obtain ⟨hr0, hr1⟩ := aj_sh_get hs
  have hn := h6.2 _ _ _ hr1
  rw [List.map_cons, List.map_cons, aj_cr hr0]
  have hcl := aj_clamp h0 hi hn
  refine W.zald (v := aj_c a (0, g r i)) h1.1 h1.2.1 (aj_at (V := fun x => .int (Int32.ofInt x)) hP hs (aj_rowi ht (Or.inr rfl))) (aj_arr hK ht _ _) (fun q => by cases q) (aj_sz (aj_in h0 hi hn)) ?_ rfl rfl hd kk
  rw [hcl, arrV_read _ _ (by omega), Int.toNat_of_nonneg h0]
  rfl
theorem aj_lald {r i : Int} {t0 n : Nat} (q : Nat) (hd : decode M.2.1 pc = .ok (.laload, 1)) (hq : pc + 1 = q) (hs : aj_sh sh r = some (.inl (t0, n))) (ht : E.2.1[t0]? = some .long) (h0 : 0 ≤ i) (hi : i < n) (k : aj_wp E al ao X M d bc bs q lv ((2, g r i) :: st) sh g Q) : aj_wp E al ao X M d bc bs pc lv ((0, i) :: (1, r) :: st) sh g Q := by
  subst hq
  intro p l e R s m args below meth c H locs cells slots ls a tc D A hc0
  have kk := k p l e R s m args below meth c H locs cells slots ls a tc D A hc0
  obtain ⟨h1, h2, h3, ⟨hP, hK, hD, hS, hA⟩, h5, h6, h7⟩ := hc0
  obtain ⟨hr0, hr1⟩ := aj_sh_get hs
  have hn := h6.2 _ _ _ hr1
  rw [List.map_cons, List.map_cons, aj_cr hr0]
  have hcl := aj_clamp h0 hi hn
  refine W.lald (v := aj_c a (2, g r i)) h1.1 h1.2.1 (aj_at (V := fun x => .long (Int64.ofInt x)) hP hs (aj_rowl ht)) (aj_arr hK ht _ _) (fun q => by cases q) (aj_sz (aj_in h0 hi hn)) ?_ rfl rfl hd kk
  rw [hcl, arrV_read _ _ (by omega), Int.toNat_of_nonneg h0]
  rfl
theorem aj_aald {r i : Int} {t0 n : Nat} {ty : FieldType} (q : Nat) (hd : decode M.2.1 pc = .ok (.aaload, 1)) (hq : pc + 1 = q) (hs : aj_sh sh r = some (.inl (t0, n))) (ht : E.2.1[t0]? = some ty) (hty : ty.isReference = true) (h0 : 0 ≤ i) (hi : i < n) (k : aj_wp E al ao X M d bc bs q lv ((1, g r i) :: st) sh g Q) : aj_wp E al ao X M d bc bs pc lv ((0, i) :: (1, r) :: st) sh g Q := by
  subst hq
  intro p l e R s m args below meth c H locs cells slots ls a tc D A hc0
  have kk := k p l e R s m args below meth c H locs cells slots ls a tc D A hc0
  obtain ⟨h1, h2, h3, ⟨hP, hK, hD, hS, hA⟩, h5, h6, h7⟩ := hc0
  obtain ⟨hr0, hr1⟩ := aj_sh_get hs
  have hn := h6.2 _ _ _ hr1
  rw [List.map_cons, List.map_cons, aj_cr hr0]
  have hcl := aj_clamp h0 hi hn
  refine W.aald (v := aj_c a (1, g r i)) h1.1 h1.2.1 (aj_at (V := fun x => va_rf (aj_rf a x)) hP hs (aj_rowr ht hty)) (aj_arr hK ht _ _) hty (fun q => by cases q) (aj_sz (aj_in h0 hi hn)) ?_ rfl rfl hd kk
  rw [hcl, arrV_read _ _ (by omega), Int.toNat_of_nonneg h0]
  rfl
theorem aj_iast {r i x : Int} {t0 n : Nat} (q : Nat) (hd : decode M.2.1 pc = .ok (.iastore, 1)) (hq : pc + 1 = q) (hs : aj_sh sh r = some (.inl (t0, n))) (ht : E.2.1[t0]? = some .int) (h0 : 0 ≤ i) (hi : i < n) (k : aj_wp E al ao X M d bc bs q lv st sh (aj_up g r i x) Q) : aj_wp E al ao X M d bc bs pc lv ((0, x) :: (0, i) :: (1, r) :: st) sh g Q := by
  subst hq
  intro p l e R s m args below meth c H locs cells slots ls a tc D A hc0
  obtain ⟨h1, h2, h3, ⟨hP, hK, hD, hS, hA⟩, h5, h6, h7⟩ := hc0
  obtain ⟨hr0, hr1⟩ := aj_sh_get hs
  have hn := h6.2 _ _ _ hr1
  rw [List.map_cons, List.map_cons, List.map_cons, aj_cr hr0]
  have hcl := aj_clamp h0 hi hn
  refine W.iast (x := Int32.ofInt x) h1.1 h1.2.1 (aj_at (V := fun x => .int (Int32.ofInt x)) hP hs (aj_rowi ht (Or.inl rfl))) (aj_arr hK ht _ _) (fun q => by cases q) (aj_sz (aj_in h0 hi hn)) rfl rfl hd fun H1 e1 z oq => ?_
  rw [hcl] at e1
  obtain ⟨hP2, hD2⟩ := aj_aset (V := fun x => .int (Int32.ofInt x)) hP hD hs (aj_rowi ht (Or.inl rfl)) h0 e1 oq
  exact k p l e R s m args below meth c H1 _ cells slots ls a tc D A ⟨h1, h2, h3, ⟨hP2, hK, hD2, hS.put z oq (hD.2 _ _ (aj_w_get hs)), hA⟩, h5, by rw [z]; exact h6, h7⟩
theorem aj_zast {r i x : Int} {t0 n : Nat} (q : Nat) (hd : decode M.2.1 pc = .ok (.bastore, 1)) (hq : pc + 1 = q) (hs : aj_sh sh r = some (.inl (t0, n))) (ht : E.2.1[t0]? = some .boolean) (h0 : 0 ≤ i) (hi : i < n) (hx : x = 0 ∨ x = 1) (k : aj_wp E al ao X M d bc bs q lv st sh (aj_up g r i x) Q) : aj_wp E al ao X M d bc bs pc lv ((0, x) :: (0, i) :: (1, r) :: st) sh g Q := by
  subst hq
  intro p l e R s m args below meth c H locs cells slots ls a tc D A hc0
  obtain ⟨h1, h2, h3, ⟨hP, hK, hD, hS, hA⟩, h5, h6, h7⟩ := hc0
  obtain ⟨hr0, hr1⟩ := aj_sh_get hs
  have hn := h6.2 _ _ _ hr1
  rw [List.map_cons, List.map_cons, List.map_cons, aj_cr hr0]
  have hcl := aj_clamp h0 hi hn
  refine W.zast (x := Int32.ofInt x) h1.1 h1.2.1 (aj_at (V := fun x => .int (Int32.ofInt x)) hP hs (aj_rowi ht (Or.inr rfl))) (aj_arr hK ht _ _) (fun q => by cases q) (aj_sz (aj_in h0 hi hn)) rfl rfl hd fun H1 e1 z oq => ?_
  have hnar : narrow .boolean (.int (Int32.ofInt x)) = .int (Int32.ofInt x) := by
    rcases hx with rfl | rfl <;> decide +kernel
  rw [hcl, hnar] at e1
  obtain ⟨hP2, hD2⟩ := aj_aset (V := fun x => .int (Int32.ofInt x)) hP hD hs (aj_rowi ht (Or.inr rfl)) h0 e1 oq
  exact k p l e R s m args below meth c H1 _ cells slots ls a tc D A ⟨h1, h2, h3, ⟨hP2, hK, hD2, hS.put z oq (hD.2 _ _ (aj_w_get hs)), hA⟩, h5, by rw [z]; exact h6, h7⟩
theorem aj_last {r i x : Int} {t0 n : Nat} (q : Nat) (hd : decode M.2.1 pc = .ok (.lastore, 1)) (hq : pc + 1 = q) (hs : aj_sh sh r = some (.inl (t0, n))) (ht : E.2.1[t0]? = some .long) (h0 : 0 ≤ i) (hi : i < n) (k : aj_wp E al ao X M d bc bs q lv st sh (aj_up g r i x) Q) : aj_wp E al ao X M d bc bs pc lv ((2, x) :: (0, i) :: (1, r) :: st) sh g Q := by
  subst hq
  intro p l e R s m args below meth c H locs cells slots ls a tc D A hc0
  obtain ⟨h1, h2, h3, ⟨hP, hK, hD, hS, hA⟩, h5, h6, h7⟩ := hc0
  obtain ⟨hr0, hr1⟩ := aj_sh_get hs
  have hn := h6.2 _ _ _ hr1
  rw [List.map_cons, List.map_cons, List.map_cons, aj_cr hr0]
  have hcl := aj_clamp h0 hi hn
  refine W.last (x := Int64.ofInt x) h1.1 h1.2.1 (aj_at (V := fun x => .long (Int64.ofInt x)) hP hs (aj_rowl ht)) (aj_arr hK ht _ _) (fun q => by cases q) (aj_sz (aj_in h0 hi hn)) rfl rfl hd fun H1 e1 z oq => ?_
  rw [hcl] at e1
  obtain ⟨hP2, hD2⟩ := aj_aset (V := fun x => .long (Int64.ofInt x)) hP hD hs (aj_rowl ht) h0 e1 oq
  exact k p l e R s m args below meth c H1 _ cells slots ls a tc D A ⟨h1, h2, h3, ⟨hP2, hK, hD2, hS.put z oq (hD.2 _ _ (aj_w_get hs)), hA⟩, h5, by rw [z]; exact h6, h7⟩
/-- a reference to an object of the class that the array's elements have -/
theorem aj_aast {r i x : Int} {t0 n ci : Nat} {rc : vw_C} (q : Nat) (hd : decode M.2.1 pc = .ok (.aastore, 1)) (hq : pc + 1 = q) (hs : aj_sh sh r = some (.inl (t0, n))) (hc : E.1[ci]? = some rc) (ht : E.2.1[t0]? = some (.object rc.1)) (hx : aj_sh sh x = some (.inr ci)) (h0 : 0 ≤ i) (hi : i < n) (k : aj_wp E al ao X M d bc bs q lv st sh (aj_up g r i x) Q) : aj_wp E al ao X M d bc bs pc lv ((1, x) :: (0, i) :: (1, r) :: st) sh g Q := by
  subst hq
  intro p l e R s m args below meth c H locs cells slots ls a tc D A hc0
  obtain ⟨h1, h2, h3, ⟨hP, hK, hD, hS, hA⟩, h5, h6, h7⟩ := hc0
  obtain ⟨hr0, hr1⟩ := aj_sh_get hs
  obtain ⟨hx0, hx1⟩ := aj_sh_get hx
  have hn := h6.2 _ _ _ hr1
  rw [List.map_cons, List.map_cons, List.map_cons, aj_cr hr0, aj_cr hx0]
  have hcl := aj_clamp h0 hi hn
  have hin := aj_in h0 hi hn
  have hlt : (Int32.ofInt i).toNatClampNeg < n := Nat.not_le.mp fun q => hin (Or.inr q)
  have hneg : ¬ Int32.ofInt i < 0 := fun q => hin (Or.inl q)
  obtain ⟨r', hr', cellV, g1, g2, g3, -⟩ := hP _ _ (aj_w_get (E := E) (tc := tc) (a := a) (g := g) hx)
  have hcls := (hK.1 ci rc hc).2
  obtain ⟨kA, comp, k1, k2, k3, -⟩ := (hK.2 t0 _ (aj_ty_at ht)).2
  have hcomp : comp = D.1 ci := Option.some.inj (k3.symm.trans hcls.1)
  subst hcomp
  obtain ⟨kC, hkC, -⟩ := hcls.2
  refine W.aast h1.1 h1.2.1 (aj_at (V := fun x => va_rf (aj_rf a x)) hP hs (aj_rowr ht rfl)) (fun q h => by cases h) (fun h => by cases h) k1 k2 rfl hkC ⟨hneg, by rw [arrV_size]; exact hlt⟩ g1 (fun q h => by rw [g3] at h; cases h) (by rw [g2]; exact hkC) (by rw [g2]; exact va_assign hcls) rfl rfl hd fun H1 e1 z oq => ?_
  have hV : (Value.ref (a x.toNat)) = va_rf (aj_rf a x) := by rw [aj_rfp hx0]; rfl
  rw [hcl, hV] at e1
  obtain ⟨hP2, hD2⟩ := aj_aset (V := fun x => va_rf (aj_rf a x)) hP hD hs (aj_rowr ht rfl) h0 e1 oq
  exact k p l e R s m args below meth c H1 _ cells slots ls a tc D A ⟨h1, h2, h3, ⟨hP2, hK, hD2, hS.put z oq (hD.2 _ _ (aj_w_get hs)), hA⟩, h5, by rw [z]; exact h6, h7⟩
theorem aj_alen {r : Int} {t0 n : Nat} {ty : FieldType} {nz : Int} (q : Nat) (hd : decode M.2.1 pc = .ok (.arraylength, 1)) (hq : pc + 1 = q) (hs : aj_sh sh r = some (.inl (t0, n))) (ht : E.2.1[t0]? = some ty) (hn : ((n : Nat) : Int) = nz) (k : aj_wp E al ao X M d bc bs q lv ((0, nz) :: st) sh g Q) : aj_wp E al ao X M d bc bs pc lv ((1, r) :: st) sh g Q := by
  subst hq
  subst hn
  intro p l e R s m args below meth c H locs cells slots ls a tc D A hc0
  have kk := k p l e R s m args below meth c H locs cells slots ls a tc D A hc0
  obtain ⟨h1, h2, h3, ⟨hP, hK, hD, hS, hA⟩, h5, h6, h7⟩ := hc0
  obtain ⟨hr0, hr1⟩ := aj_sh_get hs
  rw [List.map_cons, aj_cr hr0]
  have he := aj_w_get (E := E) (tc := tc) (a := a) (g := g) hs
  exact va_alen (v := Int32.ofInt (n : Nat)) h1.1 h1.2.1 hK hP r.toNat t0 he (aj_ty_at ht) Int32.ofInt_eq_ofNat.symm hd kk
theorem aj_sld {L : Nat} {xs : Int → Int} {i : Int} (q : Nat) (hd : decode M.2.1 pc = .ok (.iaload, 1)) (hq : pc + 1 = q) (hX : X = some (L, xs)) (h0 : 0 ≤ i) (hi : i < L) (k : aj_wp E al ao X M d bc bs q lv ((0, xs i) :: st) sh g Q) : aj_wp E al ao X M d bc bs pc lv ((0, i) :: (1, 1000000) :: st) sh g Q := by
  subst hq
  intro p l e R s m args below meth c H locs cells slots ls a tc D A hc0
  have kk := k p l e R s m args below meth c H locs cells slots ls a tc D A hc0
  obtain ⟨h1, h2, h3, ⟨hP, hK, hD, hS, hA⟩, h5, h6, h7⟩ := hc0
  obtain ⟨x1, x2, x3, x4⟩ := h7.2.1 _ hX
  rw [List.map_cons, List.map_cons, aj_cr (by omega : (0 : Int) ≤ 1000000)]
  have hcl := aj_clamp h0 hi x4
  refine va_sld (xs := fun j => Int32.ofInt (xs j)) h1.1 h1.2.1 x1 x2 x3 hS (aj_in h0 hi x4) hd ?_
  rw [hcl, Int.toNat_of_nonneg h0]
  exact kk
theorem aj_slen {L : Nat} {xs : Int → Int} {nz : Int} (q : Nat) (hd : decode M.2.1 pc = .ok (.arraylength, 1)) (hq : pc + 1 = q) (hX : X = some (L, xs)) (hn : ((L : Nat) : Int) = nz) (k : aj_wp E al ao X M d bc bs q lv ((0, nz) :: st) sh g Q) : aj_wp E al ao X M d bc bs pc lv ((1, 1000000) :: st) sh g Q := by
  subst hq
  subst hn
  intro p l e R s m args below meth c H locs cells slots ls a tc D A hc0
  have kk := k p l e R s m args below meth c H locs cells slots ls a tc D A hc0
  obtain ⟨h1, h2, h3, ⟨hP, hK, hD, hS, hA⟩, h5, h6, h7⟩ := hc0
  obtain ⟨x1, x2, x3, x4⟩ := h7.2.1 _ hX
  rw [List.map_cons, aj_cr (by omega : (0 : Int) ≤ 1000000)]
  refine va_slen h1.1 h1.2.1 x1 x2 x3 hS hd ?_
  rw [← Int32.ofInt_eq_ofNat]
  exact kk
end AJH
end
section
/-! the judgement: new cells, ends, calls -/
def aj_nw (g : aj_G) (r : Int) (f : Int → Int) : aj_G := fun r' => if r' = r then f else g r'
theorem aj_nw_self (g : aj_G) (r : Int) (f : Int → Int) : aj_nw g r f r = f := by simp [aj_nw]
theorem aj_nw_ne (g : aj_G) {r r' : Int} (f : Int → Int) (h : r' ≠ r) : aj_nw g r f r' = g r' := by simp [aj_nw, h]
def aj_nl0 (E : aj_E) (own : String) (index ci N : Nat) : Prop := ∃ (C : String) (T : u_T), E.1[ci]? = some (C, T, N) ∧ Cond.classLink own index C ∈ E.2.2.2.1 ∧ Cond.instantiable C N ∈ E.2.2.2.1 ∧ Cond.initialized C ∈ E.2.2.2.1
section AJC
variable {E : aj_E} {al ao : Prop} {X : Option (Nat × (Int → Int))} {M : aj_M} {d bc bs pc : Nat} {lv : List (Option aj_A)} {st : List aj_A} {sh : List aj_S} {g : aj_G} {Q : aj_R → List aj_S → aj_G → Prop}
theorem aj_push {tc a : Nat → Nat} {D : va_G} {A : Nat → Prop} {H H1 : Heap} {s : State} {locs : List Loc} {x : aj_S} {f : Int → Int} (hP : va_P D E.1 (aj_w E tc a sh g) H) (hD : va_D A (aj_w E tc a sh g)) (hS : va_S A s.heap H locs) (hA : ∀ q, s.heap.size ≤ q → A q) (ha : a sh.length = H.size)
    (hcell : va_at D E.1 (a sh.length, aj_cell E tc a x f) H1) (z1 : H1.size = H.size + 1) (o1 : ∀ q : Nat, q < H.size → H1[q]? = H[q]?) :
    va_P D E.1 (aj_w E tc a (sh ++ [x]) (aj_nw g sh.length f)) H1 ∧ va_D A (aj_w E tc a (sh ++ [x]) (aj_nw g sh.length f)) ∧ va_S A s.heap H1 locs := by
  have hk : ∀ (k : Nat) (y : Nat × va_E), (aj_w E tc a sh g)[k]? = some y → H1[y.1]? = H[y.1]? := fun k y hy => o1 y.1 ((hP k y hy).lt)
  have hpush := aj_w_push (E := E) (tc := tc) (a := a) (sh := sh) (g := g) (g' := aj_nw g sh.length f) (x := x) (c := aj_cell E tc a x f) (by rw [aj_nw_self]) (fun k hk => aj_nw_ne g f (by omega))
  rw [← hpush]
  refine ⟨(hP.kept hk).app (fun k y hy => ?_), hD.push hP ha (by rw [ha]; exact hA _ hS.1), ⟨Nat.le_trans hS.1 (by omega), fun q h1 h2 => (o1 q (Nat.lt_of_lt_of_le h1 hS.1)).trans (hS.2.1 q h1 h2), hS.2.2⟩⟩
  have hz : k < 1 := (List.getElem?_eq_some_iff.mp hy).1
  rw [show k = 0 by omega] at hy
  cases hy
  exact hcell
theorem aj_ph_push {a : Nat → Nat} {n : Nat} {x : aj_S} (h : aj_ph al sh a n) (hx : ∀ t k, x = .inl (t, k) → k < 2147483648) : aj_ph al (sh ++ [x]) a (n + 1) := by
  refine ⟨fun hal j hj => ?_, fun k t m hk => ?_⟩
  · rw [List.length_append, List.length_singleton] at hj ⊢
    have := h.1 hal (1 + j) (by omega)
    rw [show sh.length + 1 + j = sh.length + (1 + j) by omega, this]
    omega
  · by_cases hl : k < sh.length
    · rw [List.getElem?_append_left hl] at hk
      exact h.2 k t m hk
    · rw [List.getElem?_append_right (by omega)] at hk
      have hz : k - sh.length < 1 := (List.getElem?_eq_some_iff.mp hk).1
      rw [show k - sh.length = 0 by omega] at hk
      exact hx t m (by simpa using hk)
theorem aj_newa {atype : ArrayType} {ty : FieldType} {t0 : Nat} {n : Int} {N bc1 bs1 : Nat} (q : Nat) (hd : decode M.2.1 pc = .ok (.newarray atype, 2)) (hq : pc + 2 = q) (hty : newarray.typeOf atype = ty) (hty2 : ty = .int ∨ ty = .boolean ∨ ty = .long) (ht : E.2.1[t0]? = some ty) (hw : Cond.arrayClass ty ∈ E.2.2.2.1)
    (hN : ((N : Nat) : Int) = n) (hN2 : N ≤ 60000) (hbc : bc1 + 1 = bc) (hbs : bs1 + N = bs) (hal : al) (hsz : sh.length < 1000000) (k : aj_wp E al ao X M d bc1 bs1 q lv ((1, sh.length) :: st) (sh ++ [.inl (t0, N)]) (aj_nw g sh.length (fun _ => 0)) Q) : aj_wp E al ao X M d bc bs pc lv ((0, n) :: st) sh g Q := by
  subst hq
  subst hN
  subst hbc
  subst hbs
  subst hty
  intro p l e R s m args below meth c H locs cells slots ls a tc D A hc0
  obtain ⟨h1, h2, h3, ⟨hP, hK, hD, hS, hA⟩, h5, h6, h7⟩ := hc0
  have ha : a sh.length = H.size := by simpa using h6.1 hal 0 (by omega)
  have hI : aj_I (N : Nat) := ⟨by omega, by omega⟩
  have hnn : ¬ Int32.ofInt (N : Nat) < 0 := by rw [aj_0, aj_lt hI aj_I0]; omega
  have hcl : (Int32.ofInt (N : Nat)).toNatClampNeg = N := by
    show (Int32.ofInt (N : Nat)).toInt.toNat = N
    rw [aj_ti hI]; omega
  have hby : N * componentBytes (newarray.typeOf atype) ≤ 536870912 := by
    have : componentBytes (newarray.typeOf atype) ≤ 8 := by rcases hty2 with h | h | h <;> rw [h] <;> decide
    exact Nat.le_trans (Nat.mul_le_mul hN2 this) (by decide)
  rw [List.map_cons]
  refine va_newaK (n := Int32.ofInt (N : Nat)) (N := N) h1.1 h1.2.1 (h1.2.2.2.2 _ hw) rfl hd rfl hnn hcl hby (by omega) (by omega) rfl fun H1 cA e1 z1 o1 hAr hNm => ?_
  have hcA : tc t0 = cA := by
    have hR := (hK.2 t0 _ (aj_ty_at ht)).2
    have hR2 : s.vm.findClass ("[" ++ (newarray.typeOf atype).toString) = some (tc t0) := by
      rcases hty2 with h | h | h <;> (rw [h] at hR ⊢; exact hR)
    exact Option.some.inj (hR2.symm.trans hNm)
  have hcell : va_at D E.1 (a sh.length, aj_cell E tc a (.inl (t0, N)) (fun _ => 0)) H1 := by
    show H1[a sh.length]? = some (vp_cell (tc t0) (N, aj_row a E.2.1[t0]? (fun _ => 0)))
    rw [ha, e1, hcA, ht]
    rcases hty2 with h | h | h <;> rw [h] <;> rfl
  obtain ⟨hP2, hD2, hS2⟩ := aj_push hP hD hS hA ha hcell z1 o1
  have kk := k p l e R s m args below meth c H1 locs (cells + 1) (slots + N) ls a tc D A ⟨h1, h2, ⟨h3.1, h3.2.1, by omega, by omega⟩, ⟨hP2, hK, hD2, hS2, hA⟩, h5, by rw [z1]; exact aj_ph_push h6 (fun t k hx => by cases hx; omega), h7⟩
  rw [show cells + 1 + bc1 = cells + (bc1 + 1) by omega, show slots + N + bs1 = slots + (bs1 + N) by omega, List.map_cons, aj_cr (by omega), Int.toNat_natCast, ha] at kk
  exact kk
theorem aj_newo {index ci N bc1 bs1 : Nat} (q : Nat) (hf : aj_nl0 E M.1.cls index ci N) (hd : decode M.2.1 pc = .ok (.new index, 3)) (hq : pc + 3 = q) (hbc : bc1 + 1 = bc) (hbs : bs1 + N = bs) (hal : al) (hsz : sh.length < 1000000) (k : aj_wp E al ao X M d bc1 bs1 q lv ((1, sh.length) :: st) (sh ++ [.inr ci]) (aj_nw g sh.length (fun j => aj_dv (E.2.2.1 ci j.toNat))) Q) : aj_wp E al ao X M d bc bs pc lv st sh g Q := by
  subst hq
  subst hbc
  subst hbs
  intro p l e R s m args below meth c H locs cells slots ls a tc D A hc0
  obtain ⟨h1, h2, h3, ⟨hP, hK, hD, hS, hA⟩, h5, h6, h7⟩ := hc0
  obtain ⟨C, T, hc, hw1, hw2, hw3⟩ := hf
  have ha : a sh.length = H.size := by simpa using h6.1 hal 0 (by omega)
  have hKn := hK.1 ci _ hc
  obtain ⟨hin, hnm, ty0, htys, hkd⟩ := h7.1.2 ci _ hc
  have hts := h1.2.2.2.2
  refine W.newcK h1.1 h1.2.1 h1.2.2.2.1 (hts _ hw1) (hts _ hw2) (hts _ hw3) rfl hd (by omega) (by omega) hKn.2.1 rfl fun H1 kC hkC e1 z1 o1 => ?_
  have hcell : va_at D E.1 (a sh.length, aj_cell E tc a (.inr ci) (fun j => aj_dv (E.2.2.1 ci j.toNat))) H1 := by
    rw [ha]
    refine ⟨_, hc, (u_born ty0 hts hin hKn hkC e1 htys).to (fun j hj => ?_)⟩
    rw [aj_nf_of hc]
    show defaultValue (ty0 j) = vp_V _ j
    rw [aj_vpV hj]
    show defaultValue (ty0 j) = aj_c a (E.2.2.1 ci j, aj_dv (E.2.2.1 ci ((j : Nat) : Int).toNat))
    rw [Int.toNat_natCast, (hkd j hj).1]
    exact aj_dflt (hkd j hj).2
  obtain ⟨hP2, hD2, hS2⟩ := aj_push hP hD hS hA ha hcell z1 o1
  have kk := k p l e R s m args below meth c H1 locs (cells + 1) (slots + N) ls a tc D A ⟨h1, h2, ⟨h3.1, h3.2.1, by omega, by omega⟩, ⟨hP2, hK, hD2, hS2, hA⟩, h5, by rw [z1]; exact aj_ph_push h6 (fun t k hx => by cases hx), h7⟩
  rw [show cells + 1 + bc1 = cells + (bc1 + 1) by omega, show slots + N + bs1 = slots + (bs1 + N) by omega, List.map_cons, aj_cr (by omega), Int.toNat_natCast, ha] at kk
  exact kk
/-! ends -/
theorem aj_end {p : Program} {l : Launch} {e : Env} {R : Room} {s : State} {m : MethodId} {args : Array Value} {below : List Frame} {meth : Method} {c : Code} {H : Heap} {locs : List Loc} {cells slots : Nat} {ls : Array Slot} {a tc : Nat → Nat} {D : va_G} {A : Nat → Prop} {v : Option aj_A} {gf : JFrame}
    (hc : aj_cx E al X M d bc bs lv sh g a tc D A p l R s m args meth c H locs cells slots ls) (hq : Q (.inl v) sh g) (hao : ao → al)
    (k : W p l e R s m args below meth c H locs (cells + bc) (slots + bs) (MQ below (fun _ st o t => o = .returned (v.map (aj_c a)) ∧ t.heap = H ∧ s.WarmedH t.vm) args s (cells + bc) (slots + bs) A) gf) :
    W p l e R s m args below meth c H locs cells slots (aj_fin E ao a tc D A Q below s (cells + bc) (slots + bs)) gf := by
  obtain ⟨h1, h2, h3, ⟨hP, hK, hD, hS, hA⟩, h5, h6, h7⟩ := hc
  refine aj_monoW ?_ (W.widen (k := cells + bc) (n := slots + bs) (by omega) (by omega) k)
  rintro t ⟨o, e1, e2, ⟨rfl, ht, hW⟩, L, hF, hL⟩
  exact ⟨_, .inl v, sh, g, e1, e2, hq, rfl, by rw [ht]; exact hP, hD, hS.F ht, ⟨fun h => by rw [ht]; exact h6.1 (hao h), h6.2⟩, L, hF.2.1, hF.2.2, hL⟩
theorem aj_iret {x : Int} (hd : decode M.2.1 pc = .ok (.ireturn, 1)) (hr : M.2.2.2 = some .int) (hao : ao → al) (hq : Q (.inl (some (0, x))) sh g) : aj_wp E al ao X M d bc bs pc lv [(0, x)] sh g Q := by
  intro p l e R s m args below meth c H locs cells slots ls a tc D A hc0
  refine aj_end hc0 hq hao ?_
  obtain ⟨h1, h2, h3, ⟨hP, hK, hD, hS, hA⟩, h5, h6, h7⟩ := hc0
  exact W.iret (v := Int32.ofInt x) h1.1 h1.2.1 (h2.1.trans hr) (fun t ht hW => ⟨rfl, ht, hW⟩) hS.2.2 hd h2.2.1
theorem aj_zret {x : Int} (hd : decode M.2.1 pc = .ok (.ireturn, 1)) (hr : M.2.2.2 = some .boolean) (hx : x = 0 ∨ x = 1) (hao : ao → al) (hq : Q (.inl (some (0, x))) sh g) : aj_wp E al ao X M d bc bs pc lv [(0, x)] sh g Q := by
  intro p l e R s m args below meth c H locs cells slots ls a tc D A hc0
  refine aj_end hc0 hq hao ?_
  obtain ⟨h1, h2, h3, ⟨hP, hK, hD, hS, hA⟩, h5, h6, h7⟩ := hc0
  exact W.zret (v := Int32.ofInt x) h1.1 h1.2.1 (h2.1.trans hr) (by rcases hx with rfl | rfl <;> decide +kernel) (fun t ht hW => ⟨rfl, ht, hW⟩) hS.2.2 hd h2.2.1
theorem aj_lret {x : Int} (hd : decode M.2.1 pc = .ok (.lreturn, 1)) (hr : M.2.2.2 = some .long) (hao : ao → al) (hq : Q (.inl (some (2, x))) sh g) : aj_wp E al ao X M d bc bs pc lv [(2, x)] sh g Q := by
  intro p l e R s m args below meth c H locs cells slots ls a tc D A hc0
  refine aj_end hc0 hq hao ?_
  obtain ⟨h1, h2, h3, ⟨hP, hK, hD, hS, hA⟩, h5, h6, h7⟩ := hc0
  exact W.lret (v := Int64.ofInt x) h1.1 h1.2.1 (h2.1.trans hr) (fun t ht hW => ⟨rfl, ht, hW⟩) hS.2.2 hd h2.2.1
theorem aj_vret (hd : decode M.2.1 pc = .ok (.return_, 1)) (hr : M.2.2.2 = none) (hao : ao → al) (hq : Q (.inl none) sh g) : aj_wp E al ao X M d bc bs pc lv [] sh g Q := by
  intro p l e R s m args below meth c H locs cells slots ls a tc D A hc0
  refine aj_end hc0 hq hao ?_
  obtain ⟨h1, h2, h3, ⟨hP, hK, hD, hS, hA⟩, h5, h6, h7⟩ := hc0
  exact W.vret h1.1 h1.2.1 (h2.1.trans hr) (fun t ht hW => ⟨rfl, ht, hW⟩) hS.2.2 hd h2.2.1
theorem aj_objInit {r : Int} {index : Nat} (q : Nat) (hw : Cond.methodLink M.1.cls index Lib.objectInit ∈ E.2.2.2.1 ∧ Cond.instanceMethod Lib.objectInit ∈ E.2.2.2.1 ∧ Cond.code Lib.objectInit ⟨#[0xb1]⟩ 1 none ∈ E.2.2.2.1) (hd : decode M.2.1 pc = .ok (.invokespecial index, 3)) (hq : pc + 3 = q) (h0 : 0 ≤ r) (hdd : 1 ≤ d) (k : aj_wp E al ao X M d bc bs q lv [] sh g Q) : aj_wp E al ao X M d bc bs pc lv [(1, r)] sh g Q := by
  subst hq
  intro p l e R s m args below meth c H locs cells slots ls a tc D A hc0
  have kk := k p l e R s m args below meth c H locs cells slots ls a tc D A hc0
  obtain ⟨h1, h2, h3, ⟨hP, hK, hD, hS, hA⟩, h5, h6, h7⟩ := hc0
  have hts := h1.2.2.2.2
  rw [List.map_cons, aj_cr h0]
  refine W.objInit h1.1 h1.2.1 h1.2.2.2.1 (hts _ hw.1) (hts _ hw.2.1) (hts _ hw.2.2) rfl (by rw [h1.2.2.1]; exact h5.2.1) rfl hd (by omega) ?_ kk
  show 2 * 0 + 0 + 12 ≤ _
  omega
end AJC
end
section
/-! the judgement: calls -/
def aj_wt : List aj_A → Nat
  | [] => 0
  | v :: vs => (if v.1 < 2 then 1 else 2) + aj_wt vs
theorem aj_wt_eq {a : Nat → Nat} : ∀ st : List aj_A, ((st.map (aj_c a)).map fun v => v.category).sum = aj_wt st
  | [] => rfl
  | v :: vs => by
    rw [List.map_cons, List.map_cons, List.sum_cons, aj_wt_eq vs]
    show _ = (if v.1 < 2 then 1 else 2) + aj_wt vs
    by_cases h : v.1 < 2
    · rw [if_pos h, aj_cat h]
    · rw [if_neg h, aj_cat2 h]
def aj_ws (E : aj_E) (M : aj_M) : List Cond := Cond.code M.1 M.2.1 M.2.2.1 M.2.2.2 :: E.2.2.2.1
def aj_rm (d bc bs : Nat) : Room := { frames := d + 2, cells := bc, slots := bs, locals := 48 * d }
def aj_Pc (E : aj_E) (al : Prop) (X : Option (Nat × (Int → Int))) (vs : List aj_A) (sh : List aj_S) (g : aj_G) (a tc : Nat → Nat) (D : va_G) (A : Nat → Prop) : Array Value → State → Prop := va_Pc (vs.map (aj_c a)) (fun U =>
  va_P D E.1 (aj_w E tc a sh g) U.heap ∧ va_K D E.1 (aj_ty tc E.2.1) U ∧ va_D A (aj_w E tc a sh g) ∧ (∀ q, U.heap.size ≤ q → A q) ∧ aj_ph al sh a U.heap.size ∧ aj_good E ∧ aj_xs E X a A U)
def aj_Qc (E : aj_E) (al : Prop) (a tc : Nat → Nat) (D : va_G) (A : Nat → Prop) (Q : aj_R → List aj_S → aj_G → Prop) : Array Value → State → Outcome → State → Prop := fun _ st o t =>
  ∃ (v : Option aj_A) (sh : List aj_S) (g : aj_G), o = .returned (v.map (aj_c a)) ∧ Q (.inl v) sh g ∧ va_P D E.1 (aj_w E tc a sh g) t.heap ∧ va_D A (aj_w E tc a sh g) ∧ va_F A st t ∧ aj_ph al sh a t.heap.size
theorem aj_th_same {A : Nat → Prop} {U : State} {g : JFrame} {mk : MethodId} {w : Array Value} (h : aj_th A U) : aj_th A (U.calling g mk w) :=
  ⟨fun x hx => va_Nw.same rfl rfl (h.1 x hx), fun x hx => va_Nw.same rfl rfl (h.2.1 x hx), h.2.2.1, h.2.2.2.1, h.2.2.2.2.1, fun ty hy => h.2.2.2.2.2 ty hy⟩
theorem aj_zs_at {n d : String} {A : Nat → Prop} {s U : State} {H : Heap} {locs : List Loc} (h : aj_zs n d A s s.heap) (hS : va_S A s.heap H locs) (hU : U.heap = H) (hW : s.vm.Alike U.vm) : aj_zs n d A U U.heap := by
  obtain ⟨b, cell, h1, h2, h3⟩ := h
  have hb : U.heap[b]? = some cell := by rw [hU, hS.2.1 b (Array.getElem?_eq_some_iff.mp h1).1 h2]; exact h1
  exact ⟨b, cell, hb, h2, fun V w hV hc => h3 V w (hW.trans hV) hc⟩
theorem aj_ao_at {ty : FieldType} {s U : State} (hW : s.vm.Alike U.vm) (h : va_Nw (.arrayOver ty) s) : va_Nw (.arrayOver ty) U := by
  have h1 : (Cond.arrayOver ty).before #[] (s.setVm U.vm) = true := by rw [Cond.arrayOver_setVmC hW]; exact h
  exact h1
theorem aj_th_at {A : Nat → Prop} {s U : State} {H : Heap} {locs : List Loc} (h : aj_th A s) (hS : va_S A s.heap H locs) (hU : U.heap = H) (hW : s.WarmedH U.vm) : aj_th A U :=
  ⟨fun x hx => va_Nw.warmD hW (h.1 x hx), fun x hx => va_Nw.warmC hW (h.2.1 x hx), fun x hx y hy hn => va_Nc.moved hW.alike (h.2.2.1 x hx y hy hn), aj_zs_at h.2.2.2.1 hS hU hW.alike, aj_zs_at h.2.2.2.2.1 hS hU hW.alike, fun ty hy => aj_ao_at hW.alike (h.2.2.2.2.2 ty hy)⟩
theorem aj_blind {E : aj_E} {al : Prop} {X : Option (Nat × (Int → Int))} {vs : List aj_A} {sh : List aj_S} {g : aj_G} {a tc : Nat → Nat} {D : va_G} {A : Nat → Prop} : FrameBlind (aj_Pc E al X vs sh g a tc D A) := by
  intro a' U g' mk q
  obtain ⟨q0, q1, q2, q3, q4, q5, q6, q7⟩ := q
  exact ⟨q0, q1, va_K.moved (u := U) (U := U.calling g' mk a') (Vm.Alike.refl U.vm) q2, q3, q4, q5, q6, fun y hy => ⟨va_X.moved (u := U) (U := U.calling g' mk a') (Vm.Alike.refl U.vm) (q7.1 y hy).1, (q7.1 y hy).2⟩, fun w hw => va_Nw.same rfl rfl (q7.2.1 w hw), aj_th_same q7.2.2⟩
section AJK
variable {E : aj_E} {al ao : Prop} {X : Option (Nat × (Int → Int))} {M : aj_M} {d bc bs pc : Nat} {lv : List (Option aj_A)} {st : List aj_A} {sh : List aj_S} {g : aj_G} {Q : aj_R → List aj_S → aj_G → Prop}
theorem aj_en_len {vs : List aj_A} {n : Nat} (h : (aj_ea vs).length ≤ n) : (aj_en vs n).length = n := by
  unfold aj_en
  rw [List.length_append, List.length_replicate]
  omega
theorem aj_met {l : Launch} {vs : List aj_A} (hst : l.stackTraces = false) (hy : plainName M.1.cls = true) (htb : aj_tb M.1 = []) (hlen : Nat.ble (aj_ea vs).length M.2.2.1 = true) (hret : ∀ r sh g, Q r sh g → ∃ v, r = .inl v) (k : aj_wp E al al X M d bc bs 0 (aj_en vs M.2.2.1) [] sh g Q) (a tc : Nat → Nat) (D : va_G) (A : Nat → Prop) :
    Met l M.1 (aj_ws E M) (aj_rm d bc bs) (aj_Pc E al X vs sh g a tc D A) (aj_Qc E al a tc D A Q) bc bs A := by
  refine Met.ofW (cc := M.2.1) (maxL := M.2.2.1) (ret := M.2.2.2) hy rfl ?_
  intro p e s m args below meth c s₁ B hml hv
  obtain ⟨rfl, hP, hK, hD, hA, h6, h7⟩ := hv
  have hts := atoms_spec (ws := aj_ws E M) B.pre
  have hle : (aj_ea vs).length ≤ M.2.2.1 := Nat.le_of_ble_eq_true hlen
  have hT : c.exceptionTable.toList.map (fun h => (h.startPc, h.endPc, h.handlerPc, h.catchType)) = aj_tb M.1 := by
    obtain ⟨meth', c', g1, g2, -, -, -, -, g3, -⟩ := Cond.code_spec B.named (hts _ List.mem_cons_self)
    have e1 : meth' = meth := Option.some.inj (g1.symm.trans B.method)
    subst e1
    have e2 : c' = c := Option.some.inj (g2.symm.trans (Stand.of_body B).code)
    subst e2
    rw [htb, Array.isEmpty_iff.mp g3]
    rfl
  have hl := lv_entry (vs.map (aj_c a)) (n := M.2.2.1) (by rw [aj_ea_len]; exact hle)
  rw [lg_entry_eq]
  generalize (lg_sl (vs.map (aj_c a)) ++ List.replicate (M.2.2.1 - (lg_sl (vs.map (aj_c a))).length) Slot.unset).toArray = ls at hl ⊢
  have hW := k p l e (aj_rm d bc bs) s m (vs.map (aj_c a)).toArray below meth c s.heap [] 0 0 ls a tc D A
    ⟨⟨B.exec, B.bytes, hml, findClass_of_methodNamed B.named, fun w hw => hts w (List.mem_cons_of_mem _ hw)⟩, ⟨B.returns, B.notSynchronized, (name_of_methodNamed B.named B.method).1, hT, hst⟩, ⟨Nat.le_refl _, Nat.le_refl _, by show 0 + bc ≤ bc; omega, by show 0 + bs ≤ bs; omega⟩, ⟨hP, hK, hD, va_S.rf, hA⟩, ⟨aj_en_len hle, aj_entry hl⟩, h6, h7⟩
  refine aj_monoW ?_ hW
  rintro t ⟨o, r, sh1, g1, e1, e2, e3, e4, e5, e6, e7, e8, L, e9, e10, e11⟩
  obtain ⟨v, rfl⟩ := hret _ _ _ e3
  rw [Nat.zero_add, Nat.zero_add] at e10
  exact ⟨o, e1, e2, ⟨v, sh1, g1, e4, e3, e5, e6, e7, e8⟩, L, ⟨⟨_, e4⟩, e9, e10⟩, e11⟩
def aj_K (E : aj_E) (al ao : Prop) (X : Option (Nat × (Int → Int))) (M : aj_M) (d bc bs q : Nat) (lv : List (Option aj_A)) (rest : List aj_A) (Q : aj_R → List aj_S → aj_G → Prop) : aj_R → List aj_S → aj_G → Prop := fun r sh g => match r with
  | .inl none => aj_wp E al ao X M d bc bs q lv rest sh g Q
  | .inl (some v) => aj_wp E al ao X M d bc bs q lv (v :: rest) sh g Q
  | .inr _ => False
theorem aj_K_inl {q : Nat} {rest : List aj_A} {v : Option aj_A} (h : aj_K E al ao X M d bc bs q lv rest Q (.inl v) sh g) : aj_wp E al ao X M d bc bs q lv (v.toList ++ rest) sh g Q := by
  cases v <;> exact h
theorem aj_K_ret {q : Nat} {rest : List aj_A} (r : aj_R) (sh : List aj_S) (g : aj_G) (h : aj_K E al ao X M d bc bs q lv rest Q r sh g) : ∃ v, r = .inl v := by
  cases r with
  | inl v => exact ⟨v, rfl⟩
  | inr k => exact False.elim h
theorem aj_after {p : Program} {l : Launch} {e : Env} {R : Room} {s : State} {m : MethodId} {args : Array Value} {below : List Frame} {meth : Method} {c : Code} {H : Heap} {locs : List Loc} {cells slots : Nat} {ls : Array Slot} {a tc : Nat → Nat} {D : va_G} {A : Nat → Prop} {bc1 bs1 bc2 bs2 : Nat} {rest : List aj_A} {st0 : List Value} {argsA : Array Value}
    (hc0 : aj_cx E al X M d bc bs lv sh g a tc D A p l R s m args meth c H locs cells slots ls) (hbc : bc2 + bc1 = bc) (hbs : bs2 + bs1 = bs)
    (hr : va_Run p l e R s m args below meth c H locs cells slots bc1 bs1 (F0 m pc ls st0) (rest.map (aj_c a)) (aj_Qc E al a tc D A (aj_K E al ao X M d bc2 bs2 (pc + 3) lv rest Q) argsA) A) :
    W p l e R s m args below meth c H locs cells slots (aj_fin E ao a tc D A Q below s (cells + bc) (slots + bs)) (F0 m pc ls st0) := by
  subst hbc
  subst hbs
  obtain ⟨h1, h2, h3, ⟨hP, hK, hD, hS, hA⟩, h5, h6, h7⟩ := hc0
  intro T hT X0
  obtain ⟨v, st₀, t, T', L, e0, X', hL, e1, e2, ⟨v1, sh1, g1, ev, k0, hP1, hD1, hF1, hph⟩, stp⟩ := hr T hT X0
  have k := aj_K_inl k0
  have hv : v = v1.map (aj_c a) := by injection ev
  subst hv
  have hS1 : va_S A s.heap T'.heap (locs ++ L) := ⟨Nat.le_trans hS.1 (by rw [e1, ← e0]; exact hF1.1), fun q q1 q2 => by rw [e1, hF1.2 q (by rw [e0]; exact Nat.lt_of_lt_of_le q1 hS.1) q2, e0]; exact hS.2.1 q q1 q2, fun q hq => (List.mem_append.mp hq).elim (hS.2.2 q) (hL q)⟩
  have kk := k p l e R s m args below meth c T'.heap (locs ++ L) (cells + bc1) (slots + bs1) ls a tc D A ⟨h1, h2, ⟨h3.1, h3.2.1, by omega, by omega⟩, ⟨by rw [e1]; exact hP1, hK, hD1, hS1, hA⟩, h5, by rw [e1]; exact hph, h7⟩
  rw [show cells + bc1 + bc2 = cells + (bc2 + bc1) by omega, show slots + bs1 + bs2 = slots + (bs2 + bs1) by omega, show (v1.toList ++ rest).map (aj_c a) = (v1.map (aj_c a)).toList ++ rest.map (aj_c a) by cases v1 <;> simp] at kk
  obtain ⟨t2, a1, b1⟩ := kk T' rfl X'
  exact ⟨t2, stp t2 a1, b1⟩
def aj_cl0 (E : aj_E) (own : String) (index : Nat) (N : aj_M) (n : Nat) : Prop := Cond.methodLink own index N.1 ∈ E.2.2.2.1 ∧ Cond.code N.1 N.2.1 N.2.2.1 N.2.2.2 ∈ E.2.2.2.1 ∧ Cond.initialized N.1.cls ∈ E.2.2.2.1 ∧
  (N.1.cls ≠ "java/lang/invoke/MethodHandle" ∧ N.1.cls ≠ "java/lang/invoke/VarHandle" ∧ (parseMethodDescriptor N.1.desc).map (fun d => d.parameters.length) = some n) ∧ N.2.2.1 ≤ 29 ∧ plainName N.1.cls = true ∧ aj_tb N.1 = []
def aj_vl (E : aj_E) (own : String) (index : Nat) (N : aj_M) (n ci : Nat) : Prop := aj_cl0 E own index N n ∧ Cond.instanceMethod N.1 ∈ E.2.2.2.1 ∧ Cond.selects N.1.cls N.1 N.1 ∈ E.2.2.2.1 ∧ ∃ q : vw_C, E.1[ci]? = some q ∧ q.1 = N.1.cls
def aj_sl (E : aj_E) (own : String) (index : Nat) (N : aj_M) (n : Nat) : Prop := aj_cl0 E own index N n ∧ Cond.static N.1 ∈ E.2.2.2.1
def aj_il (E : aj_E) (own : String) (index : Nat) (N : aj_M) (n : Nat) : Prop := aj_cl0 E own index N n ∧ Cond.instanceMethod N.1 ∈ E.2.2.2.1 ∧ N.1.name = "<init>" ∧ N.2.2.2 = none
theorem aj_cb {own : String} {index n d1 bc1 bs1 : Nat} {N : aj_M} {R : Room} {s : State} {args : Array Value} (hl : aj_cl0 E own index N n) (hE : aj_good E) (hts : ∀ w ∈ E.2.2.2.1, w.before args s = true) (hf : d1 + 1 + 2 ≤ R.frames) (hlo : 48 * (d1 + 1) ≤ R.locals) : CallB R s args own index N.1 N.2.1 N.2.2.1 N.2.2.2 (aj_ws E N) (aj_rm d1 bc1 bs1) bc1 bs1 n := by
  obtain ⟨w1, w2, w3, ⟨w4, w5, w6⟩, w7, -⟩ := hl
  refine ⟨rfl, rfl, by show d1 + 2 + 1 ≤ R.frames; omega, ?_, pay_in hts (fun w hw => ?_), List.mem_cons_self, hts _ w2, hts _ w3, ⟨w4, w5⟩, fun sig h => ?_, hts _ w1⟩
  · show 8 + (N.2.2.1 + 11) + 48 * d1 ≤ R.locals
    omega
  · rcases List.mem_cons.mp hw with rfl | h
    · exact ⟨w2, hE.1 _ w2⟩
    · exact ⟨h, hE.1 _ h⟩
  · rw [h] at w6
    exact (Option.some.inj w6).symm
theorem aj_xs_at {a : Nat → Nat} {A : Nat → Prop} {s U : State} {H : Heap} {locs : List Loc} (h : aj_xs E X a A s) (hS : va_S A s.heap H locs) (hU : U.heap = H) (hW : s.WarmedH U.vm) : aj_xs E X a A U := by
  refine ⟨fun y hy => ?_, fun w hw => va_Nw.warmM hW (h.2.1 w hw), aj_th_at h.2.2 hS hU hW⟩
  obtain ⟨x1, x2, x3, x4⟩ := h.1 y hy
  refine ⟨?_, by rw [hU]; exact Nat.lt_of_lt_of_le x2 hS.1, x3, x4⟩
  rw [hU]
  exact va_X.moved hW.alike (x1.kept (hS.2.1 _ x2 x3))
theorem aj_callV {N : aj_M} {index n ci d1 bc1 bs1 bc2 bs2 : Nat} {r : Int} {rest : List aj_A} (vs : List aj_A) (q : Nat) (hl : aj_vl E M.1.cls index N n ci) (hd : decode M.2.1 pc = .ok (.invokevirtual index, 3)) (hq : pc + 3 = q) (hn : vs.length = n) (hdd : d1 + 1 = d) (hbc : bc2 + bc1 = bc) (hbs : bs2 + bs1 = bs) (hwt : Nat.ble (aj_wt rest) 8 = true) (hea : Nat.ble (aj_ea ((1, r) :: vs)).length N.2.2.1 = true)
    (hs : aj_sh sh r = some (.inr ci)) (k : aj_wp E al al X N d1 bc1 bs1 0 (aj_en ((1, r) :: vs) N.2.2.1) [] sh g (aj_K E al ao X M d bc2 bs2 q lv rest Q)) : aj_wp E al ao X M d bc bs pc lv (vs.reverse ++ (1, r) :: rest) sh g Q := by
  subst hq
  intro p l e R s m args below meth c H locs cells slots ls a tc D A hc0
  have hM := aj_met (l := l) hc0.2.1.2.2.2.2 hl.1.2.2.2.2.2.1 hl.1.2.2.2.2.2.2 hea aj_K_ret k a tc D A
  obtain ⟨h0, -⟩ := aj_sh_get hs
  refine aj_after (rest := rest) (argsA := (Value.ref (a r.toNat) :: vs.map (aj_c a)).toArray) (st0 := (vs.reverse ++ (1, r) :: rest).map (aj_c a)) hc0 hbc hbs ?_
  obtain ⟨h1, h2, h3, ⟨hP, hK, hD, hS, hA⟩, h5, h6, h7⟩ := hc0
  have hts := h1.2.2.2.2
  subst hdd
  have hcb := aj_cb (bc1 := bc1) (bs1 := bs1) hl.1 h7.1 hts h3.1 (by omega)
  obtain ⟨rc, hrc, hrn⟩ := hl.2.2.2
  refine va_runV (As := vs.map (aj_c a)) (b := a r.toNat) (C := N.1.cls) h1 hM ⟨hcb, hts _ hl.2.1, hts _ hl.2.2.1⟩ ⟨aj_blind, ?_, fun U hU hW => ?_⟩ rfl (by rw [List.length_map]; exact hn) h5.2.1 ?_ (lv_room (by rw [aj_wt_eq]; exact Nat.le_of_ble_eq_true hwt)) hd ⟨by omega, by omega⟩
  · rw [← hrn]
    exact va_recv hK hP hrc (aj_w_get (E := E) (tc := tc) (a := a) (g := g) hs)
  · refine ⟨by rw [List.map_cons, aj_cr h0], by rw [hU]; exact hP, va_K.moved hW.alike hK, hD, fun q hq => hA q (by rw [hU] at hq; exact Nat.le_trans hS.1 hq), by rw [hU]; exact h6, h7.1, aj_xs_at h7.2 hS hU hW⟩
  · show (vs.reverse ++ (1, r) :: rest).map (aj_c a) = _
    rw [List.map_append, List.map_reverse, List.map_cons, aj_cr h0]
theorem aj_callS {N : aj_M} {index n d1 bc1 bs1 bc2 bs2 : Nat} {rest : List aj_A} (vs : List aj_A) (q : Nat) (hl : aj_sl E M.1.cls index N n) (hd : decode M.2.1 pc = .ok (.invokestatic index, 3)) (hq : pc + 3 = q) (hn : vs.length = n) (hdd : d1 + 1 = d) (hbc : bc2 + bc1 = bc) (hbs : bs2 + bs1 = bs) (hwt : Nat.ble (aj_wt rest) 8 = true) (hea : Nat.ble (aj_ea vs).length N.2.2.1 = true)
    (k : aj_wp E al al X N d1 bc1 bs1 0 (aj_en vs N.2.2.1) [] sh g (aj_K E al ao X M d bc2 bs2 q lv rest Q)) : aj_wp E al ao X M d bc bs pc lv (vs.reverse ++ rest) sh g Q := by
  subst hq
  intro p l e R s m args below meth c H locs cells slots ls a tc D A hc0
  have hM := aj_met (l := l) hc0.2.1.2.2.2.2 hl.1.2.2.2.2.2.1 hl.1.2.2.2.2.2.2 hea aj_K_ret k a tc D A
  refine aj_after (rest := rest) (argsA := (vs.map (aj_c a)).toArray) (st0 := (vs.reverse ++ rest).map (aj_c a)) hc0 hbc hbs ?_
  obtain ⟨h1, h2, h3, ⟨hP, hK, hD, hS, hA⟩, h5, h6, h7⟩ := hc0
  have hts := h1.2.2.2.2
  subst hdd
  have hcb := aj_cb (bc1 := bc1) (bs1 := bs1) hl.1 h7.1 hts h3.1 (by omega)
  refine va_runS (As := vs.map (aj_c a)) h1 hM ⟨hcb, hts _ hl.2⟩ ⟨aj_blind, fun U hU hW => ?_⟩ rfl (by rw [List.length_map]; exact hn) h5.2.1 ?_ (lv_room (by rw [aj_wt_eq]; exact Nat.le_of_ble_eq_true hwt)) hd ⟨by omega, by omega⟩
  · refine ⟨rfl, by rw [hU]; exact hP, va_K.moved hW.alike hK, hD, fun q hq => hA q (by rw [hU] at hq; exact Nat.le_trans hS.1 hq), by rw [hU]; exact h6, h7.1, aj_xs_at h7.2 hS hU hW⟩
  · show (vs.reverse ++ rest).map (aj_c a) = _
    rw [List.map_append, List.map_reverse]
theorem aj_callI {N : aj_M} {index n d1 bc1 bs1 bc2 bs2 : Nat} {r : Int} {rest : List aj_A} (vs : List aj_A) (q : Nat) (hl : aj_il E M.1.cls index N n) (hd : decode M.2.1 pc = .ok (.invokespecial index, 3)) (hq : pc + 3 = q) (hn : vs.length = n) (hdd : d1 + 1 = d) (hbc : bc2 + bc1 = bc) (hbs : bs2 + bs1 = bs) (hwt : Nat.ble (aj_wt rest) 8 = true) (hea : Nat.ble (aj_ea ((1, r) :: vs)).length N.2.2.1 = true) (h0 : 0 ≤ r)
    (k : aj_wp E al al X N d1 bc1 bs1 0 (aj_en ((1, r) :: vs) N.2.2.1) [] sh g (aj_K E al ao X M d bc2 bs2 q lv rest Q)) : aj_wp E al ao X M d bc bs pc lv (vs.reverse ++ (1, r) :: rest) sh g Q := by
  subst hq
  intro p l e R s m args below meth c H locs cells slots ls a tc D A hc0
  have hM := aj_met (l := l) hc0.2.1.2.2.2.2 hl.1.2.2.2.2.2.1 hl.1.2.2.2.2.2.2 hea aj_K_ret k a tc D A
  refine aj_after (rest := rest) (argsA := (Value.ref (a r.toNat) :: vs.map (aj_c a)).toArray) (st0 := (vs.reverse ++ (1, r) :: rest).map (aj_c a)) hc0 hbc hbs ?_
  obtain ⟨h1, h2, h3, ⟨hP, hK, hD, hS, hA⟩, h5, h6, h7⟩ := hc0
  have hts := h1.2.2.2.2
  subst hdd
  have hcb := aj_cb (bc1 := bc1) (bs1 := bs1) hl.1 h7.1 hts h3.1 (by omega)
  rw [hl.2.2.2] at hcb
  refine va_runI (As := vs.map (aj_c a)) (b := a r.toNat) h1 hM ⟨hcb, hl.2.2.1, hts _ hl.2.1⟩ ⟨aj_blind, fun U hU hW => ?_⟩ rfl (by rw [List.length_map]; exact hn) h5.2.1 ?_ (lv_room (by rw [aj_wt_eq]; exact Nat.le_of_ble_eq_true hwt)) hd ⟨by omega, by omega⟩
  · refine ⟨by rw [List.map_cons, aj_cr h0], by rw [hU]; exact hP, va_K.moved hW.alike hK, hD, fun q hq => hA q (by rw [hU] at hq; exact Nat.le_trans hS.1 hq), by rw [hU]; exact h6, h7.1, aj_xs_at h7.2 hS hU hW⟩
  · show (vs.reverse ++ (1, r) :: rest).map (aj_c a) = _
    rw [List.map_append, List.map_reverse, List.map_cons, aj_cr h0]
theorem aj_callV0 {N : aj_M} {index ci d1 bc1 bs1 bc2 bs2 : Nat} {r : Int} {rest : List aj_A} (q : Nat) (hl : aj_vl E M.1.cls index N 0 ci) (hd : decode M.2.1 pc = .ok (.invokevirtual index, 3)) (hq : pc + 3 = q) (hdd : d1 + 1 = d) (hbc : bc2 + bc1 = bc) (hbs : bs2 + bs1 = bs) (hwt : Nat.ble (aj_wt rest) 8 = true) (hea : Nat.ble (aj_ea [(1, r)]).length N.2.2.1 = true)
    (hs : aj_sh sh r = some (.inr ci)) (k : aj_wp E al al X N d1 bc1 bs1 0 (aj_en [(1, r)] N.2.2.1) [] sh g (aj_K E al ao X M d bc2 bs2 q lv rest Q)) : aj_wp E al ao X M d bc bs pc lv ((1, r) :: rest) sh g Q :=
  aj_callV [] q hl hd hq rfl hdd hbc hbs hwt hea hs k
theorem aj_callV1 {N : aj_M} {index ci d1 bc1 bs1 bc2 bs2 : Nat} {r : Int} {rest : List aj_A} {v1 : aj_A} (q : Nat) (hl : aj_vl E M.1.cls index N 1 ci) (hd : decode M.2.1 pc = .ok (.invokevirtual index, 3)) (hq : pc + 3 = q) (hdd : d1 + 1 = d) (hbc : bc2 + bc1 = bc) (hbs : bs2 + bs1 = bs) (hwt : Nat.ble (aj_wt rest) 8 = true) (hea : Nat.ble (aj_ea [(1, r), v1]).length N.2.2.1 = true)
    (hs : aj_sh sh r = some (.inr ci)) (k : aj_wp E al al X N d1 bc1 bs1 0 (aj_en [(1, r), v1] N.2.2.1) [] sh g (aj_K E al ao X M d bc2 bs2 q lv rest Q)) : aj_wp E al ao X M d bc bs pc lv (v1 :: (1, r) :: rest) sh g Q :=
  aj_callV [v1] q hl hd hq rfl hdd hbc hbs hwt hea hs k
theorem aj_callV2 {N : aj_M} {index ci d1 bc1 bs1 bc2 bs2 : Nat} {r : Int} {rest : List aj_A} {v1 v2 : aj_A} (q : Nat) (hl : aj_vl E M.1.cls index N 2 ci) (hd : decode M.2.1 pc = .ok (.invokevirtual index, 3)) (hq : pc + 3 = q) (hdd : d1 + 1 = d) (hbc : bc2 + bc1 = bc) (hbs : bs2 + bs1 = bs) (hwt : Nat.ble (aj_wt rest) 8 = true) (hea : Nat.ble (aj_ea [(1, r), v1, v2]).length N.2.2.1 = true)
    (hs : aj_sh sh r = some (.inr ci)) (k : aj_wp E al al X N d1 bc1 bs1 0 (aj_en [(1, r), v1, v2] N.2.2.1) [] sh g (aj_K E al ao X M d bc2 bs2 q lv rest Q)) : aj_wp E al ao X M d bc bs pc lv (v2 :: v1 :: (1, r) :: rest) sh g Q :=
  aj_callV [v1, v2] q hl hd hq rfl hdd hbc hbs hwt hea hs k
theorem aj_callV3 {N : aj_M} {index ci d1 bc1 bs1 bc2 bs2 : Nat} {r : Int} {rest : List aj_A} {v1 v2 v3 : aj_A} (q : Nat) (hl : aj_vl E M.1.cls index N 3 ci) (hd : decode M.2.1 pc = .ok (.invokevirtual index, 3)) (hq : pc + 3 = q) (hdd : d1 + 1 = d) (hbc : bc2 + bc1 = bc) (hbs : bs2 + bs1 = bs) (hwt : Nat.ble (aj_wt rest) 8 = true) (hea : Nat.ble (aj_ea [(1, r), v1, v2, v3]).length N.2.2.1 = true)
    (hs : aj_sh sh r = some (.inr ci)) (k : aj_wp E al al X N d1 bc1 bs1 0 (aj_en [(1, r), v1, v2, v3] N.2.2.1) [] sh g (aj_K E al ao X M d bc2 bs2 q lv rest Q)) : aj_wp E al ao X M d bc bs pc lv (v3 :: v2 :: v1 :: (1, r) :: rest) sh g Q :=
  aj_callV [v1, v2, v3] q hl hd hq rfl hdd hbc hbs hwt hea hs k
theorem aj_callV4 {N : aj_M} {index ci d1 bc1 bs1 bc2 bs2 : Nat} {r : Int} {rest : List aj_A} {v1 v2 v3 v4 : aj_A} (q : Nat) (hl : aj_vl E M.1.cls index N 4 ci) (hd : decode M.2.1 pc = .ok (.invokevirtual index, 3)) (hq : pc + 3 = q) (hdd : d1 + 1 = d) (hbc : bc2 + bc1 = bc) (hbs : bs2 + bs1 = bs) (hwt : Nat.ble (aj_wt rest) 8 = true) (hea : Nat.ble (aj_ea [(1, r), v1, v2, v3, v4]).length N.2.2.1 = true)
    (hs : aj_sh sh r = some (.inr ci)) (k : aj_wp E al al X N d1 bc1 bs1 0 (aj_en [(1, r), v1, v2, v3, v4] N.2.2.1) [] sh g (aj_K E al ao X M d bc2 bs2 q lv rest Q)) : aj_wp E al ao X M d bc bs pc lv (v4 :: v3 :: v2 :: v1 :: (1, r) :: rest) sh g Q :=
  aj_callV [v1, v2, v3, v4] q hl hd hq rfl hdd hbc hbs hwt hea hs k
theorem aj_callS0 {N : aj_M} {index d1 bc1 bs1 bc2 bs2 : Nat} {rest : List aj_A} (q : Nat) (hl : aj_sl E M.1.cls index N 0) (hd : decode M.2.1 pc = .ok (.invokestatic index, 3)) (hq : pc + 3 = q) (hdd : d1 + 1 = d) (hbc : bc2 + bc1 = bc) (hbs : bs2 + bs1 = bs) (hwt : Nat.ble (aj_wt rest) 8 = true) (hea : Nat.ble (aj_ea []).length N.2.2.1 = true)
    (k : aj_wp E al al X N d1 bc1 bs1 0 (aj_en [] N.2.2.1) [] sh g (aj_K E al ao X M d bc2 bs2 q lv rest Q)) : aj_wp E al ao X M d bc bs pc lv rest sh g Q :=
  aj_callS [] q hl hd hq rfl hdd hbc hbs hwt hea k
theorem aj_callS1 {N : aj_M} {index d1 bc1 bs1 bc2 bs2 : Nat} {rest : List aj_A} {v1 : aj_A} (q : Nat) (hl : aj_sl E M.1.cls index N 1) (hd : decode M.2.1 pc = .ok (.invokestatic index, 3)) (hq : pc + 3 = q) (hdd : d1 + 1 = d) (hbc : bc2 + bc1 = bc) (hbs : bs2 + bs1 = bs) (hwt : Nat.ble (aj_wt rest) 8 = true) (hea : Nat.ble (aj_ea [v1]).length N.2.2.1 = true)
    (k : aj_wp E al al X N d1 bc1 bs1 0 (aj_en [v1] N.2.2.1) [] sh g (aj_K E al ao X M d bc2 bs2 q lv rest Q)) : aj_wp E al ao X M d bc bs pc lv (v1 :: rest) sh g Q :=
  aj_callS [v1] q hl hd hq rfl hdd hbc hbs hwt hea k
theorem aj_callS2 {N : aj_M} {index d1 bc1 bs1 bc2 bs2 : Nat} {rest : List aj_A} {v1 v2 : aj_A} (q : Nat) (hl : aj_sl E M.1.cls index N 2) (hd : decode M.2.1 pc = .ok (.invokestatic index, 3)) (hq : pc + 3 = q) (hdd : d1 + 1 = d) (hbc : bc2 + bc1 = bc) (hbs : bs2 + bs1 = bs) (hwt : Nat.ble (aj_wt rest) 8 = true) (hea : Nat.ble (aj_ea [v1, v2]).length N.2.2.1 = true)
    (k : aj_wp E al al X N d1 bc1 bs1 0 (aj_en [v1, v2] N.2.2.1) [] sh g (aj_K E al ao X M d bc2 bs2 q lv rest Q)) : aj_wp E al ao X M d bc bs pc lv (v2 :: v1 :: rest) sh g Q :=
  aj_callS [v1, v2] q hl hd hq rfl hdd hbc hbs hwt hea k
theorem aj_callS3 {N : aj_M} {index d1 bc1 bs1 bc2 bs2 : Nat} {rest : List aj_A} {v1 v2 v3 : aj_A} (q : Nat) (hl : aj_sl E M.1.cls index N 3) (hd : decode M.2.1 pc = .ok (.invokestatic index, 3)) (hq : pc + 3 = q) (hdd : d1 + 1 = d) (hbc : bc2 + bc1 = bc) (hbs : bs2 + bs1 = bs) (hwt : Nat.ble (aj_wt rest) 8 = true) (hea : Nat.ble (aj_ea [v1, v2, v3]).length N.2.2.1 = true)
    (k : aj_wp E al al X N d1 bc1 bs1 0 (aj_en [v1, v2, v3] N.2.2.1) [] sh g (aj_K E al ao X M d bc2 bs2 q lv rest Q)) : aj_wp E al ao X M d bc bs pc lv (v3 :: v2 :: v1 :: rest) sh g Q :=
  aj_callS [v1, v2, v3] q hl hd hq rfl hdd hbc hbs hwt hea k
theorem aj_callS4 {N : aj_M} {index d1 bc1 bs1 bc2 bs2 : Nat} {rest : List aj_A} {v1 v2 v3 v4 : aj_A} (q : Nat) (hl : aj_sl E M.1.cls index N 4) (hd : decode M.2.1 pc = .ok (.invokestatic index, 3)) (hq : pc + 3 = q) (hdd : d1 + 1 = d) (hbc : bc2 + bc1 = bc) (hbs : bs2 + bs1 = bs) (hwt : Nat.ble (aj_wt rest) 8 = true) (hea : Nat.ble (aj_ea [v1, v2, v3, v4]).length N.2.2.1 = true)
    (k : aj_wp E al al X N d1 bc1 bs1 0 (aj_en [v1, v2, v3, v4] N.2.2.1) [] sh g (aj_K E al ao X M d bc2 bs2 q lv rest Q)) : aj_wp E al ao X M d bc bs pc lv (v4 :: v3 :: v2 :: v1 :: rest) sh g Q :=
  aj_callS [v1, v2, v3, v4] q hl hd hq rfl hdd hbc hbs hwt hea k
theorem aj_callS5 {N : aj_M} {index d1 bc1 bs1 bc2 bs2 : Nat} {rest : List aj_A} {v1 v2 v3 v4 v5 : aj_A} (q : Nat) (hl : aj_sl E M.1.cls index N 5) (hd : decode M.2.1 pc = .ok (.invokestatic index, 3)) (hq : pc + 3 = q) (hdd : d1 + 1 = d) (hbc : bc2 + bc1 = bc) (hbs : bs2 + bs1 = bs) (hwt : Nat.ble (aj_wt rest) 8 = true) (hea : Nat.ble (aj_ea [v1, v2, v3, v4, v5]).length N.2.2.1 = true)
    (k : aj_wp E al al X N d1 bc1 bs1 0 (aj_en [v1, v2, v3, v4, v5] N.2.2.1) [] sh g (aj_K E al ao X M d bc2 bs2 q lv rest Q)) : aj_wp E al ao X M d bc bs pc lv (v5 :: v4 :: v3 :: v2 :: v1 :: rest) sh g Q :=
  aj_callS [v1, v2, v3, v4, v5] q hl hd hq rfl hdd hbc hbs hwt hea k
theorem aj_callI0 {N : aj_M} {index d1 bc1 bs1 bc2 bs2 : Nat} {r : Int} {rest : List aj_A} (q : Nat) (hl : aj_il E M.1.cls index N 0) (hd : decode M.2.1 pc = .ok (.invokespecial index, 3)) (hq : pc + 3 = q) (hdd : d1 + 1 = d) (hbc : bc2 + bc1 = bc) (hbs : bs2 + bs1 = bs) (hwt : Nat.ble (aj_wt rest) 8 = true) (hea : Nat.ble (aj_ea [(1, r)]).length N.2.2.1 = true) (h0 : 0 ≤ r)
    (k : aj_wp E al al X N d1 bc1 bs1 0 (aj_en [(1, r)] N.2.2.1) [] sh g (aj_K E al ao X M d bc2 bs2 q lv rest Q)) : aj_wp E al ao X M d bc bs pc lv ((1, r) :: rest) sh g Q :=
  aj_callI [] q hl hd hq rfl hdd hbc hbs hwt hea h0 k
theorem aj_callI1 {N : aj_M} {index d1 bc1 bs1 bc2 bs2 : Nat} {r : Int} {rest : List aj_A} {v1 : aj_A} (q : Nat) (hl : aj_il E M.1.cls index N 1) (hd : decode M.2.1 pc = .ok (.invokespecial index, 3)) (hq : pc + 3 = q) (hdd : d1 + 1 = d) (hbc : bc2 + bc1 = bc) (hbs : bs2 + bs1 = bs) (hwt : Nat.ble (aj_wt rest) 8 = true) (hea : Nat.ble (aj_ea [(1, r), v1]).length N.2.2.1 = true) (h0 : 0 ≤ r)
    (k : aj_wp E al al X N d1 bc1 bs1 0 (aj_en [(1, r), v1] N.2.2.1) [] sh g (aj_K E al ao X M d bc2 bs2 q lv rest Q)) : aj_wp E al ao X M d bc bs pc lv (v1 :: (1, r) :: rest) sh g Q :=
  aj_callI [v1] q hl hd hq rfl hdd hbc hbs hwt hea h0 k
theorem aj_callI2 {N : aj_M} {index d1 bc1 bs1 bc2 bs2 : Nat} {r : Int} {rest : List aj_A} {v1 v2 : aj_A} (q : Nat) (hl : aj_il E M.1.cls index N 2) (hd : decode M.2.1 pc = .ok (.invokespecial index, 3)) (hq : pc + 3 = q) (hdd : d1 + 1 = d) (hbc : bc2 + bc1 = bc) (hbs : bs2 + bs1 = bs) (hwt : Nat.ble (aj_wt rest) 8 = true) (hea : Nat.ble (aj_ea [(1, r), v1, v2]).length N.2.2.1 = true) (h0 : 0 ≤ r)
    (k : aj_wp E al al X N d1 bc1 bs1 0 (aj_en [(1, r), v1, v2] N.2.2.1) [] sh g (aj_K E al ao X M d bc2 bs2 q lv rest Q)) : aj_wp E al ao X M d bc bs pc lv (v2 :: v1 :: (1, r) :: rest) sh g Q :=
  aj_callI [v1, v2] q hl hd hq rfl hdd hbc hbs hwt hea h0 k
theorem aj_callI3 {N : aj_M} {index d1 bc1 bs1 bc2 bs2 : Nat} {r : Int} {rest : List aj_A} {v1 v2 v3 : aj_A} (q : Nat) (hl : aj_il E M.1.cls index N 3) (hd : decode M.2.1 pc = .ok (.invokespecial index, 3)) (hq : pc + 3 = q) (hdd : d1 + 1 = d) (hbc : bc2 + bc1 = bc) (hbs : bs2 + bs1 = bs) (hwt : Nat.ble (aj_wt rest) 8 = true) (hea : Nat.ble (aj_ea [(1, r), v1, v2, v3]).length N.2.2.1 = true) (h0 : 0 ≤ r)
    (k : aj_wp E al al X N d1 bc1 bs1 0 (aj_en [(1, r), v1, v2, v3] N.2.2.1) [] sh g (aj_K E al ao X M d bc2 bs2 q lv rest Q)) : aj_wp E al ao X M d bc bs pc lv (v3 :: v2 :: v1 :: (1, r) :: rest) sh g Q :=
  aj_callI [v1, v2, v3] q hl hd hq rfl hdd hbc hbs hwt hea h0 k
end AJK
end
section
/-! the judgement: arraycopy, Math.min, Math.max, a new array of references, calls by their number of arguments -/
def aj_cpy (g : aj_G) (r0 r1 sp dp n : Int) : aj_G := fun r => if r = r1 then (fun i => if dp ≤ i ∧ i < dp + n then g r0 (sp + (i - dp)) else g r1 i) else g r
theorem aj_cpy_ne (g : aj_G) (r0 : Int) {r1 r : Int} (sp dp n : Int) (h : r ≠ r1) : aj_cpy g r0 r1 sp dp n r = g r := by simp [aj_cpy, h]
theorem aj_cpy_at (g : aj_G) (r0 r1 sp dp n i : Int) : aj_cpy g r0 r1 sp dp n r1 i = if dp ≤ i ∧ i < dp + n then g r0 (sp + (i - dp)) else g r1 i := by simp [aj_cpy]
section AJX
variable {E : aj_E} {al ao : Prop} {X : Option (Nat × (Int → Int))} {M : aj_M} {d bc bs pc : Nat} {lv : List (Option aj_A)} {st : List aj_A} {sh : List aj_S} {g : aj_G} {Q : aj_R → List aj_S → aj_G → Prop}
theorem aj_copyi {r0 r1 sp dp n : Int} {t0 n0 n1 index : Nat} (q : Nat) (hl : Cond.methodLink M.1.cls index arraycopyName ∈ E.2.2.2.1 ∧ Cond.native arraycopyName ∈ E.2.2.2.1 ∧ Cond.static arraycopyName ∈ E.2.2.2.1 ∧ Cond.initialized "java/lang/System" ∈ E.2.2.2.1) (hd : decode M.2.1 pc = .ok (.invokestatic index, 3)) (hq : pc + 3 = q) (hal : ¬ al)
    (hs0 : aj_sh sh r0 = some (.inl (t0, n0))) (hs1 : aj_sh sh r1 = some (.inl (t0, n1))) (ht : E.2.1[t0]? = some .int) (b1 : 0 ≤ sp) (b2 : 0 ≤ dp) (b3 : 0 ≤ n) (b4 : sp + n ≤ n0) (b5 : dp + n ≤ n1) (hdd : 1 ≤ d) (hwt : Nat.ble (aj_wt st) 8 = true)
    (k : aj_wp E al ao X M d bc bs q lv st sh (aj_cpy g r0 r1 sp dp n) Q) : aj_wp E al ao X M d bc bs pc lv ((0, n) :: (0, dp) :: (1, r1) :: (0, sp) :: (1, r0) :: st) sh g Q := by
  subst hq
  intro p l e R s m args below meth c H locs cells slots ls a tc D A hc0
  obtain ⟨h1, h2, h3, ⟨hP, hK, hD, hS, hA⟩, h5, h6, h7⟩ := hc0
  have hts := h1.2.2.2.2
  obtain ⟨z0, y0⟩ := aj_sh_get hs0
  obtain ⟨z1, y1⟩ := aj_sh_get hs1
  have hn0 := h6.2 _ _ _ y0
  have hn1 := h6.2 _ _ _ y1
  have hc : ∀ x : Int, 0 ≤ x → x < 2147483648 → (Int32.ofInt x).toNatClampNeg = x.toNat ∧ ¬ Int32.ofInt x < 0 := by
    intro x x0 x1
    have hI : aj_I x := ⟨by omega, x1⟩
    refine ⟨?_, ?_⟩
    · show (Int32.ofInt x).toInt.toNat = x.toNat
      rw [aj_ti hI]
    · rw [aj_0, aj_lt hI aj_I0]; omega
  obtain ⟨c1, d1⟩ := hc sp b1 (by omega)
  obtain ⟨c2, d2⟩ := hc dp b2 (by omega)
  obtain ⟨c3, d3⟩ := hc n b3 (by omega)
  have he0 : (aj_w E tc a sh g)[r0.toNat]? = some (a r0.toNat, .inl (tc t0, n0, .inl (fun j => Int32.ofInt (g r0 j)))) := by
    rw [aj_w_get hs0]; simp only [aj_cell]; rw [ht]; rfl
  have he1 : (aj_w E tc a sh g)[r1.toNat]? = some (a r1.toNat, .inl (tc t0, n1, .inl (fun j => Int32.ofInt (g r1 j)))) := by
    rw [aj_w_get hs1]; simp only [aj_cell]; rw [ht]; rfl
  simp only [List.map_cons]
  rw [aj_cr z0, aj_cr z1]
  refine va_copyi (sp := Int32.ofInt sp) (dp := Int32.ofInt dp) (n := Int32.ofInt n) h1.1 h1.2.1 (by rw [h1.2.2.1]; exact h5.2.1.symm) h1.2.2.2.1 (hts _ hl.1) (hts _ hl.2.1) (hts _ hl.2.2.1) (hts _ hl.2.2.2) hK hP hD hS r0.toNat r1.toNat t0 t0 he0 he1 (aj_ty_at ht) (aj_ty_at ht) rfl d1 d2 d3 (by rw [c1, c3]; omega) (by rw [c2, c3]; omega) (fun _ _ => rfl) (by omega) ?_ hd (fun H1 locs1 hP1 hD1 hS1 => ?_)
  · rw [aj_wt_eq]
    have := Nat.le_of_ble_eq_true hwt
    have hw : nativeFrameWords "java/lang/System" "arraycopy" 5 = 7 := by decide
    rw [hw]
    omega
  · have hset := aj_w_set (E := E) (tc := tc) (a := a) (g := g) (g' := aj_cpy g r0 r1 sp dp n) (c := .inl (tc t0, n1, .inl (va_cpy (fun j => Int32.ofInt (g r0 (j : Nat))) (fun j => Int32.ofInt (g r1 (j : Nat))) sp.toNat dp.toNat n.toNat))) hs1 (by
        simp only [aj_cell]
        rw [ht]
        show Sum.inl (tc t0, n1, Sum.inl _) = _
        congr 4
        funext j
        rw [aj_cpy_at]
        by_cases hj : dp ≤ (j : Int) ∧ (j : Int) < dp + n
        · rw [if_pos hj, pk_cpy_in (by omega) (by omega)]
          congr 2
          omega
        · rw [if_neg hj, pk_cpy_out (by omega)]) (fun r' hr' => aj_cpy_ne g r0 sp dp n hr')
    rw [c1, c2, c3, hset] at hP1 hD1
    exact k p l e R s m args below meth c H1 locs1 cells slots ls a tc D A ⟨h1, h2, h3, ⟨hP1, hK, hD1, hS1, hA⟩, h5, ⟨fun h => absurd h hal, h6.2⟩, h7⟩
theorem aj_mmax {x y : Int} {index : Nat} (q : Nat) (hl : Cond.methodLink M.1.cls index Lib.Math.max.name ∈ E.2.2.2.1 ∧ Cond.static Lib.Math.max.name ∈ E.2.2.2.1 ∧ Cond.initialized "java/lang/Math" ∈ E.2.2.2.1 ∧ Cond.code Lib.Math.max.name Lib.Math.max.code 2 (some .int) ∈ E.2.2.2.1) (hd : decode M.2.1 pc = .ok (.invokestatic index, 3)) (hq : pc + 3 = q) (hx : aj_I x) (hy : aj_I y) (hdd : 1 ≤ d) (hwt : Nat.ble (aj_wt st) 8 = true) (k : aj_wp E al ao X M d bc bs q lv ((0, if x < y then y else x) :: st) sh g Q) : aj_wp E al ao X M d bc bs pc lv ((0, y) :: (0, x) :: st) sh g Q := by
  subst hq
  intro p l e R s m args below meth c H locs cells slots ls a tc D A hc0
  have kk := k p l e R s m args below meth c H locs cells slots ls a tc D A hc0
  obtain ⟨h1, h2, h3, ⟨hP, hK, hD, hS, hA⟩, h5, h6, h7⟩ := hc0
  have hts := h1.2.2.2.2
  refine va_mmax (x := Int32.ofInt x) (y := Int32.ofInt y) h1.1 h1.2.1 (by rw [h1.2.2.1]; exact h5.2.1.symm) h1.2.2.2.1 (hts _ hl.1) (hts _ hl.2.1) (hts _ hl.2.2.1) (hts _ hl.2.2.2) (by omega) ?_ (by omega) (by omega) hd ?_
  · have := Nat.le_of_ble_eq_true hwt
    rw [aj_wt_eq]; omega
  · have he : (if Int32.ofInt x < Int32.ofInt y then Int32.ofInt y else Int32.ofInt x) = Int32.ofInt (if x < y then y else x) := by
      by_cases h : x < y
      · rw [if_pos h, if_pos ((aj_lt hx hy).mpr h)]
      · rw [if_neg h, if_neg (fun z => h ((aj_lt hx hy).mp z))]
    rw [he]
    exact kk
theorem aj_mmin {x y : Int} {index : Nat} (q : Nat) (hl : Cond.methodLink M.1.cls index Lib.Math.min.name ∈ E.2.2.2.1 ∧ Cond.static Lib.Math.min.name ∈ E.2.2.2.1 ∧ Cond.initialized "java/lang/Math" ∈ E.2.2.2.1 ∧ Cond.code Lib.Math.min.name Lib.Math.min.code 2 (some .int) ∈ E.2.2.2.1) (hd : decode M.2.1 pc = .ok (.invokestatic index, 3)) (hq : pc + 3 = q) (hx : aj_I x) (hy : aj_I y) (hdd : 1 ≤ d) (hwt : Nat.ble (aj_wt st) 8 = true) (k : aj_wp E al ao X M d bc bs q lv ((0, if y < x then y else x) :: st) sh g Q) : aj_wp E al ao X M d bc bs pc lv ((0, y) :: (0, x) :: st) sh g Q := by
  subst hq
  intro p l e R s m args below meth c H locs cells slots ls a tc D A hc0
  have kk := k p l e R s m args below meth c H locs cells slots ls a tc D A hc0
  obtain ⟨h1, h2, h3, ⟨hP, hK, hD, hS, hA⟩, h5, h6, h7⟩ := hc0
  have hts := h1.2.2.2.2
  refine va_mmin (x := Int32.ofInt x) (y := Int32.ofInt y) h1.1 h1.2.1 (by rw [h1.2.2.1]; exact h5.2.1.symm) h1.2.2.2.1 (hts _ hl.1) (hts _ hl.2.1) (hts _ hl.2.2.1) (hts _ hl.2.2.2) (by omega) ?_ (by omega) (by omega) hd ?_
  · have := Nat.le_of_ble_eq_true hwt
    rw [aj_wt_eq]; omega
  · have he : (if Int32.ofInt y < Int32.ofInt x then Int32.ofInt y else Int32.ofInt x) = Int32.ofInt (if y < x then y else x) := by
      by_cases h : y < x
      · rw [if_pos h, if_pos ((aj_lt hy hx).mpr h)]
      · rw [if_neg h, if_neg (fun z => h ((aj_lt hy hx).mp z))]
    rw [he]
    exact kk
theorem aj_newq {index t0 N bc1 bs1 : Nat} {n : Int} {C : String} (q : Nat) (hw : Cond.classLink M.1.cls index C ∈ E.2.2.2.1 ∧ FieldType.object C ∈ aj_aos) (hd : decode M.2.1 pc = .ok (.anewarray index, 3)) (hq : pc + 3 = q) (ht : E.2.1[t0]? = some (.object C))
    (hN : ((N : Nat) : Int) = n) (hN2 : N ≤ 60000) (hbc : bc1 + 1 = bc) (hbs : bs1 + N = bs) (hal : al) (hsz : sh.length < 1000000) (k : aj_wp E al ao X M d bc1 bs1 q lv ((1, sh.length) :: st) (sh ++ [.inl (t0, N)]) (aj_nw g sh.length (fun _ => -1)) Q) : aj_wp E al ao X M d bc bs pc lv ((0, n) :: st) sh g Q := by
  subst hq
  subst hN
  subst hbc
  subst hbs
  intro p l e R s m args below meth c H locs cells slots ls a tc D A hc0
  obtain ⟨h1, h2, h3, ⟨hP, hK, hD, hS, hA⟩, h5, h6, h7⟩ := hc0
  have hts := h1.2.2.2.2
  have ha : a sh.length = H.size := by simpa using h6.1 hal 0 (by omega)
  have hI : aj_I (N : Nat) := ⟨by omega, by omega⟩
  have hnn : ¬ Int32.ofInt (N : Nat) < 0 := by rw [aj_0, aj_lt hI aj_I0]; omega
  have hcl : (Int32.ofInt (N : Nat)).toNatClampNeg = N := by
    show (Int32.ofInt (N : Nat)).toInt.toNat = N
    rw [aj_ti hI]; omega
  rw [List.map_cons]
  refine W.anew (n := Int32.ofInt (N : Nat)) h1.1 h1.2.1 h1.2.2.2.1 (hts _ hw.1) (h7.2.2.2.2.2.2.2.2 _ hw.2) rfl hd rfl hnn (by rw [hcl]; omega) (by omega) (by rw [hcl]; omega) fun cA kA comp f1 f2 f3 f4 => ?_
  rw [hcl]
  generalize hH1 : H.push ({ cls := cA, slots := Array.replicate N .null, vm := .none } : Cell) = H1
  have z1 : H1.size = H.size + 1 := by rw [← hH1, Array.size_push]
  have e1 : H1[H.size]? = some (arrV cA N (fun _ => .null)) := by rw [← hH1, Array.getElem?_push_size, ← arrV_new]
  have o1 : ∀ q : Nat, q < H.size → H1[q]? = H[q]? := fun q hq => by rw [← hH1, Array.getElem?_push, if_neg (Nat.ne_of_lt hq)]
  have hcA : tc t0 = cA := by
    obtain ⟨kA', comp', -, -, -, hR⟩ := (hK.2 t0 _ (aj_ty_at ht)).2
    exact Option.some.inj (hR.symm.trans f1)
  have hcell : va_at D E.1 (a sh.length, aj_cell E tc a (.inl (t0, N)) (fun _ => -1)) H1 := by
    show H1[a sh.length]? = some (vp_cell (tc t0) (N, aj_row a E.2.1[t0]? (fun _ => -1)))
    rw [aj_rowr ht rfl, ha, e1, hcA]
    rfl
  obtain ⟨hP2, hD2, hS2⟩ := aj_push hP hD hS hA ha hcell z1 o1
  have kk := k p l e R s m args below meth c H1 locs (cells + 1) (slots + N) ls a tc D A ⟨h1, h2, ⟨h3.1, h3.2.1, by omega, by omega⟩, ⟨hP2, hK, hD2, hS2, hA⟩, h5, by rw [z1]; exact aj_ph_push h6 (fun t k hx => by cases hx; omega), h7⟩
  rw [show cells + 1 + bc1 = cells + (bc1 + 1) by omega, show slots + N + bs1 = slots + (bs1 + N) by omega, List.map_cons, aj_cr (by omega), Int.toNat_natCast, ha] at kk
  exact kk
end AJX
end
section
/-! the judgement: throwing, and catching in the caller -/
section AJT
variable {E : aj_E} {al ao : Prop} {X : Option (Nat × (Int → Int))} {M : aj_M} {d bc bs pc : Nat} {lv : List (Option aj_A)} {st : List aj_A} {sh : List aj_S} {g : aj_G} {Q : aj_R → List aj_S → aj_G → Prop}
/-- a walk seen from where it stands now: the method is as if called here -/
theorem aj_here {p : Program} {l : Launch} {e : Env} {R : Room} {s : State} {m : MethodId} {args : Array Value} {below : List Frame} {meth : Method} {c : Code} {T : State} {locs : List Loc} {cells slots : Nat}
    (Y : Stand p l e R s m args below meth c T locs cells slots) {k n : Nat} (hk : cells + k ≤ R.cells) (hn : slots + n ≤ R.slots) :
    Stand p l e { frames := R.frames, locals := R.locals, cells := k, slots := n } ((T.setVm s.vm).setFrames (.invoking m args :: below)) m args below meth c T [] 0 0 := by
  have hcur : (T.setVm s.vm).cur < (T.setVm s.vm).threads.size := State.cur_lt_of_top Y.here.top
  have hfr : ((T.setVm s.vm).setFrames (.invoking m args :: below)).frames = .invoking m args :: below := State.frames_setFrames _ hcur
  obtain ⟨g0, hg0⟩ := Option.isSome_iff_exists.mp (show (T.setVm s.vm).topJava?.isSome = true from Y.here.top)
  obtain ⟨r0, hr0⟩ := State.topJava?_eq_some.mp hg0
  have hnil : ((T.heap.toList.drop T.heap.size).map (·.slots.size)).sum = 0 := by
    rw [List.drop_eq_nil_of_le (Nat.le_of_eq Array.length_toList)]
    rfl
  have hlim : e.platform.stackLimits (T.setVm s.vm).me = e.platform.stackLimits s.me := Y.limits
  have hbyt : (T.setVm s.vm).me.stackBytes = s.me.stackBytes := Y.bytes
  exact {
    admits := Y.admits
    cas := Y.cas
    clock := Y.clock
    frames := hfr
    hears := Y.hears
    method := Y.method
    code := Y.code
    here := Y.here
    tail := Y.tail
    warmed := Y.warmed
    limits := by rw [State.stackLimits_setFrames]; rfl
    bytes := by rw [State.stackBytes_setFrames]; rfl
    room := by
      have hu : ((T.setVm s.vm).setFrames (.invoking m args :: below)).localsInUse = s.localsInUse := by
        rw [State.localsInUse_invoking hfr (meth := meth) (c := c) Y.method Y.code, State.localsInUse_invoking Y.frames Y.method Y.code]
      have h0 := Y.room
      simp only [State.hasRoom, Bool.and_eq_true, decide_eq_true_eq] at h0 ⊢
      obtain ⟨⟨⟨⟨r1, r2, r3, r4, r5, r6⟩, r7⟩, r8⟩, r9⟩ := h0
      rw [Y.frames, List.length_cons] at r2 r3
      have q1 := Y.heapSize
      have q2 := Y.used
      simp only [hfr, hu, List.length_cons, State.stackLimits_setFrames, State.stackBytes_setFrames, hlim, hbyt]
      refine ⟨⟨⟨⟨by omega, by omega, by omega, by omega, by omega, r6⟩, ?_⟩, ?_⟩, Y.book⟩
      · show T.heap.size + k ≤ e.platform.maxCells
        omega
      · show T.slotsUsed + n ≤ e.platform.maxSlots
        omega
    same := by
      refine ⟨?_, Nat.le_refl _, Nat.le_refl _, ?_, ?_, fun b c9 h9 => ⟨c9, h9, rfl, rfl, fun _ _ => rfl⟩⟩
      · obtain ⟨t0, ht0, -⟩ := State.frames_cons hr0
        show T.setVm s.vm = { ((T.setVm s.vm).setFrames (.invoking m args :: below)).setFrames (T.setVm s.vm).frames with heap := T.heap, slotsUsed := T.slotsUsed }
        rw [State.setFrames_setFrames, State.setFrames_self ht0]
        rfl
      · show T.slotsUsed = T.slotsUsed + ((T.heap.toList.drop T.heap.size).map (·.slots.size)).sum
        rw [hnil]; rfl
      · show ((T.heap.toList.drop T.heap.size).map (·.slots.size)).sum ≤ 0
        rw [hnil]; exact Nat.le_refl _ }
/-- nothing old was written: the old cells are the old cells -/
theorem aj_olds {s U : State} {k n : Nat} (h : s.sameButNew ({ U with vm := s.vm } : State) [] k n) : s.heap.size ≤ U.heap.size ∧ ∀ q : Nat, q < s.heap.size → U.heap[q]? = s.heap[q]? := by
  obtain ⟨-, h2, -, -, -, h6⟩ := h
  refine ⟨h2, fun q hq => ?_⟩
  obtain ⟨c9, e1, e2, e3, e4⟩ := h6 q _ (Array.getElem?_eq_getElem hq)
  have hs : c9.slots = (s.heap[q]).slots := Array.ext_getElem? fun i => e4 i (fun z => nomatch z)
  rw [hs] at e2
  have e5 : U.heap[q]? = some c9 := e1
  rw [e5, Array.getElem?_eq_getElem hq]
  exact congrArg some e2
def aj_nms : List String := ["java/lang/RuntimeException", "java/lang/Exception"]
/-- the words of 'throw new X()' that are good, and the others by their kinds -/
def aj_thw (E : aj_E) (own : String) (ik ic k : Nat) (X : String) : Prop := aj_exc[k]? = some X ∧ Bundle.fit X = true ∧ Cond.classLink own ik X ∈ E.2.2.2.1 ∧ Cond.initialized X ∈ E.2.2.2.1 ∧
  ∀ w ∈ Bundle.ownAtoms0 own ic X aj_nms, w ∈ E.2.2.2.1 ∨ (∃ x ∈ aj_dcl, w = .declares x) ∨ w = .castable X X ∨ w = .laysStatic Bundle.tN "UNASSIGNED_STACK" Bundle.steD ∨ w = .isRef (.static Bundle.tN "UNASSIGNED_STACK" Bundle.steD) ∨
    w = .laysStatic Bundle.tN "SUPPRESSED_SENTINEL" Bundle.listD ∨ w = .isRef (.static Bundle.tN "SUPPRESSED_SENTINEL" Bundle.listD)
theorem aj_throw {ik ic k : Nat} {C : String} (hw : aj_thw E M.1.cls ik ic k C) (d0 : decode M.2.1 pc = .ok (.new ik, 3)) (d3 : decode M.2.1 (pc + 3) = .ok (.dup, 1)) (d4 : decode M.2.1 (pc + 4) = .ok (.invokespecial ic, 3)) (d7 : decode M.2.1 (pc + 7) = .ok (.athrow, 1))
    (htb : aj_tb M.1 = []) (hao : ¬ ao) (hbc : 1 ≤ bc) (hbs : 6 ≤ bs) (hd : 4 ≤ d) (hq : Q (.inr k) sh g) : aj_wp E al ao X M d bc bs pc lv [] sh g Q := by
  intro p l e R s m args below meth c H locs cells slots ls a tc D A hc0
  obtain ⟨h1, h2, h3, ⟨hP, hK, hD, hS, hA⟩, h5, h6, h7⟩ := hc0
  have hts := h1.2.2.2.2
  intro T hT Y0
  have htr : e.platform.stackTraces = false := (show e.platform.stackTraces = l.stackTraces by rw [Y0.admits.platform]).trans h2.2.2.2.2
  have Y := aj_here Y0 (k := 1) (n := 6) (by omega) (by omega)
  obtain ⟨s', hs'⟩ : ∃ z, z = (T.setVm s.vm).setFrames (.invoking m args :: below) := ⟨_, rfl⟩
  rw [← hs'] at Y
  have hvm : s'.vm = s.vm := by rw [hs']; rfl
  have hhp : s'.heap = H := by rw [hs']; exact hT
  have hW0 : s.WarmedH s'.vm := by rw [hvm]; exact State.WarmedH.refl s
  have hth := aj_th_at h7.2.2.2 hS hhp hW0
  have hgood : ∀ w ∈ E.2.2.2.1, w.before args s' = true := fun w hw => word_at hW0 (h7.1.1 w hw) (hts w hw)
  obtain ⟨hX, hfit, hk, hini, hat⟩ := hw
  have hCm : C ∈ aj_exc := List.mem_of_getElem? hX
  have hz : ∀ {n dd : String}, aj_zs n dd A s' s'.heap → (Cond.laysStatic Bundle.tN n dd).before args s' = true ∧ (Cond.isRef (.static Bundle.tN n dd)).before args s' = true := by
    rintro n dd ⟨b, cell, z1, z2, z3⟩
    exact z3 s' args (Vm.Alike.refl _) z1
  have hall : ∀ w ∈ Bundle.ownAtoms0 M.1.cls ic C aj_nms, w.before args s' = true := by
    intro w hw
    rcases hat w hw with h | ⟨x, hx, rfl⟩ | rfl | rfl | rfl | rfl | rfl
    · exact hgood w h
    · exact va_Nw.use rfl (hth.1 x hx)
    · exact va_Nw.use rfl (hth.2.1 C hCm)
    · exact (hz hth.2.2.2.1).1
    · exact (hz hth.2.2.2.1).2
    · exact (hz hth.2.2.2.2.1).1
    · exact (hz hth.2.2.2.2.1).2
  have hown : s'.vm.findClass M.1.cls = some m.cls := by rw [hvm]; exact h1.2.2.2.1
  have hins : (Cond.instantiable C 6).before args s' = true := hall _ (by simp [Bundle.ownAtoms0])
  obtain ⟨vm1, cX, kX, hfX, hkX, -, -, Y1, st1⟩ := Y.newCold h1.1 (own := M.1.cls) (C := C) (index := ik) (n := 6) hown (hgood _ hk) hins (hgood _ hini)
    (g := F0 m pc ls []) rfl (by rw [h1.2.1]; exact d0) (Nat.le_refl _) (Nat.le_refl _)
  generalize hT1 : (T.setVm vm1).pushCell { cls := cX, slots := kX.instanceTypes.map defaultValue, vm := .none } = T1 at Y1 st1
  have hcell : T1.heap[T.heap.size]? = some (freshCell cX kX) := by rw [← hT1]; exact State.heap_pushCell_size _ _
  have d3' : decode c.code (pc + 3) = .ok (.dup, 1) := by rw [h1.2.1]; exact d3
  have hcat : (Value.ref T.heap.size).category = 1 := rfl
  have hempty : c.exceptionTable.toList = [] := by
    have := h2.2.2.2.1
    rw [htb] at this
    exact List.map_eq_nil_iff.mp this
  obtain ⟨U, hsteps, hrun, hend, hW, hsame, ce, hce, hO⟩ := Y1.ctorThrow0 h1.1 htr (own := M.1.cls) (cls := C) (names := aj_nms) (ic := ic) hown hfit (by decide +kernel) hall (fun x hx => nomatch hx) hfX hkX hcell (by rw [hhp, hT]; exact Nat.le_refl _)
    (g := { method := m, pc := pc + 4, locals := ls, stack := .ref T.heap.size :: .ref T.heap.size :: [], locked := none }) rfl (by rw [h1.2.2.1]; exact h5.2.1) rfl rfl (rest := []) rfl
    (by rw [h1.2.1]; exact d4) (by rw [h1.2.1]; exact d7) (by rw [hempty]; exact fun x hx => nomatch hx) (by show 2 + 3 < R.frames; omega) (by
      simp only [List.map_cons, List.map_nil, List.sum_cons, List.sum_nil, hcat]
      show 2 * 0 + (1 + 0) + (13 * (2 + 1) + 41) ≤ R.locals
      omega) h2.2.1
  obtain ⟨f1, f2⟩ := aj_olds hsame
  rw [hhp] at f1 f2
  have hWs : s.WarmedH U.vm := State.WarmedH.trans hW0 hW
  have hcl : U.vm.findClass C = some ce.cls := by
    rw [hW.alike.findClass]
    exact hO.cls
  have hfrm : s.sameButNew ({ U with vm := s.vm } : State) locs (cells + bc) (slots + bs) := by
    subst hs'
    obtain ⟨e1, e2⟩ := hsame
    rw [State.setFrames_setFrames] at e1
    have g2 : (T.setVm s.vm).sameButNew ({ U with vm := s.vm } : State) [] (0 + 1) (0 + 6) := ⟨e1, e2⟩
    have g3 := Y0.same.trans g2
    rw [List.append_nil] at g3
    exact g3.mono (by omega) (by omega)
  refine ⟨U, ?_, .threw T.heap.size, .inr k, sh, g, hrun, hend, hq, ⟨T.heap.size, ce, C, rfl, hce, hO.vm, hX, hcl⟩, hP.kept (fun j y hy => f2 y.1 ((hP j y hy).lt)), hD, ⟨Nat.le_trans hS.1 f1, fun q q1 q2 => by rw [f2 q (Nat.lt_of_lt_of_le q1 hS.1)]; exact hS.2.1 q q1 q2⟩, ⟨fun h => absurd h hao, h6.2⟩, locs, hWs, hfrm, hS.2.2⟩
  refine st1 _ ?_
  show Steps p.tables e below (T1.setTop { method := m, pc := pc + 3, locals := ls, stack := .ref T.heap.size :: [], locked := none }) _
  jvm_step Y1.here [Y1.here.top, h1.1, d3', Value.category]
  exact hsteps
/-! a callee that throws -/
def aj_QT (E : aj_E) (al : Prop) (a tc : Nat → Nat) (D : va_G) (A : Nat → Prop) (Q : aj_R → List aj_S → aj_G → Prop) : Array Value → State → Outcome → State → Prop := fun _ s o t =>
  ∃ (k : Nat) (sh : List aj_S) (g : aj_G) (b : Nat) (cell : Cell) (C : String), o = .threw b ∧ t.heap[b]? = some cell ∧ cell.vm = .none ∧ aj_exc[k]? = some C ∧ t.vm.findClass C = some cell.cls ∧ Q (.inr k) sh g ∧ va_P D E.1 (aj_w E tc a sh g) t.heap ∧ va_D A (aj_w E tc a sh g) ∧ va_F A s t ∧ aj_ph al sh a t.heap.size
theorem aj_metT {l : Launch} {vs : List aj_A} (hst : l.stackTraces = false) (hy : plainName M.1.cls = true) (htb : aj_tb M.1 = []) (hlen : Nat.ble (aj_ea vs).length M.2.2.1 = true) (hret : ∀ r sh g, Q r sh g → ∃ k, r = .inr k) (k : aj_wp E al al X M d bc bs 0 (aj_en vs M.2.2.1) [] sh g Q) (a tc : Nat → Nat) (D : va_G) (A : Nat → Prop) :
    MetFree l M.1 (headSpec (aj_ws E M) (aj_rm d bc bs)) (aj_Pc E al X vs sh g a tc D A) (fun _ _ _ _ _ => True) (fun w s o t => aj_QT E al a tc D A Q w s o t ∧ ∃ L, FrameEndT s o t L bc bs ∧ ∀ q ∈ L, A q.base) := by
  have hcode : ∀ (w : Array Value) (s : State), (headSpec (aj_ws E M) (aj_rm d bc bs)).pre.before w s = true → (Cond.code M.1 M.2.1 M.2.2.1 M.2.2.2).before w s = true := fun w s h => atoms_spec (ws := aj_ws E M) h _ List.mem_cons_self
  refine MetFree.of_bodyS (code := M.2.1) (maxLocals := M.2.2.1) (ret := M.2.2.2) hy (fun w s m h hn => ?_) ?_
  · obtain ⟨meth, c, h1, h2, h3, h4, h5, h6, -, -⟩ := Cond.code_spec hn (hcode w s h)
    exact ⟨meth, c, h1, h2, h3, h4, h5, h6⟩
  · intro p e s m args below meth c s₁ B hml hv _
    obtain ⟨rfl, hP, hK, hD, hA, h6, h7⟩ := hv
    have hts := atoms_spec (ws := aj_ws E M) B.pre
    have hle : (aj_ea vs).length ≤ M.2.2.1 := Nat.le_of_ble_eq_true hlen
    have hT : c.exceptionTable.toList.map (fun h => (h.startPc, h.endPc, h.handlerPc, h.catchType)) = aj_tb M.1 := by
      obtain ⟨meth', c', g1, g2, -, -, -, -, g3, -⟩ := Cond.code_spec B.named (hts _ List.mem_cons_self)
      have e1 : meth' = meth := Option.some.inj (g1.symm.trans B.method)
      subst e1
      have e2 : c' = c := Option.some.inj (g2.symm.trans (Stand.of_body B).code)
      subst e2
      rw [htb, Array.isEmpty_iff.mp g3]
      rfl
    have hl := lv_entry (vs.map (aj_c a)) (n := M.2.2.1) (by rw [aj_ea_len]; exact hle)
    rw [lg_entry_eq]
    generalize (lg_sl (vs.map (aj_c a)) ++ List.replicate (M.2.2.1 - (lg_sl (vs.map (aj_c a))).length) Slot.unset).toArray = ls at hl ⊢
    have hW := k p l e (aj_rm d bc bs) s m (vs.map (aj_c a)).toArray below meth c s.heap [] 0 0 ls a tc D A
      ⟨⟨B.exec, B.bytes, hml, findClass_of_methodNamed B.named, fun w hw => hts w (List.mem_cons_of_mem _ hw)⟩, ⟨B.returns, B.notSynchronized, (name_of_methodNamed B.named B.method).1, hT, hst⟩, ⟨Nat.le_refl _, Nat.le_refl _, by show 0 + bc ≤ bc; omega, by show 0 + bs ≤ bs; omega⟩, ⟨hP, hK, hD, va_S.rf, hA⟩, ⟨aj_en_len hle, aj_entry hl⟩, h6, h7⟩
    have hh0 : s₁.heap = s.heap := by rw [B.state]; rfl
    obtain ⟨t, a1, o, r, sh1, g1, e1, e2, e3, e4, e5, e6, e7, e8, L, e9, e10, e11⟩ := hW s₁ hh0 (Stand.of_body B)
    obtain ⟨k, rfl⟩ := hret _ _ _ e3
    obtain ⟨b, cell, C, f1, f2, f3, f4, f5⟩ := e4
    rw [Nat.zero_add, Nat.zero_add] at e10
    exact ⟨t, o, a1, e1, e2, ⟨k, sh1, g1, b, cell, C, f1, f2, f3, f4, f5, e3, e5, e6, e7, e8⟩, L, ⟨⟨b, f1⟩, e9, e10⟩, e11⟩
theorem aj_stx {a : Nat → Nat} {ls : Array Slot} {n i x : Nat} {lv : List (Option aj_A)} (ho : aj_ok lv i = true) (h : lv_has ls n ((i, Value.ref x) :: (aj_l a lv).filter (fun q => !(q.1 == i) && !(q.1 + 1 == i && q.2.category == 2)))) : lv_has ls n (aj_l a (lv.set i none)) := by
  refine ⟨h.1, h.2.1, fun q hq => h.2.2 q ?_⟩
  obtain ⟨j, u⟩ := q
  obtain ⟨y, h1, h2⟩ := aj_l_mem.mp hq
  unfold aj_ok at ho
  rw [Bool.and_eq_true] at ho
  have hlt : i < lv.length := Nat.blt_eq ▸ ho.1
  by_cases hj : j = i
  · subst hj
    rw [List.getElem?_set_self hlt] at h1
    cases h1
  · rw [List.getElem?_set_ne (Ne.symm hj)] at h1
    refine List.mem_cons_of_mem _ (List.mem_filter.mpr ⟨aj_l_mem.mpr ⟨y, h1, h2⟩, ?_⟩)
    have hb : ¬ (j + 1 = i ∧ u.category = 2) := by
      rintro ⟨e1, e2⟩
      subst e1
      rw [h2] at e2
      exact aj_nl_spec ho.2 h1 e2
    simp only [Bool.and_eq_true, Bool.not_eq_true', beq_eq_false_iff_ne, ne_eq, Bool.and_eq_false_imp, beq_iff_eq]
    exact ⟨hj, fun e1 e2 => hb ⟨e1, e2⟩⟩
/-- the handler for what was thrown: its row in the method's table, the rows ahead, the store of the exception -/
def aj_hdl (E : aj_E) (M : aj_M) (pc k i q : Nat) : Prop := ∃ (pre suf : List (Nat × Nat × Nat × Nat)) (x : Nat × Nat × Nat × Nat) (C : String), aj_tb M.1 = pre ++ x :: suf ∧ aj_exc[k]? = some C ∧ (x.1 ≤ pc ∧ pc < x.2.1) ∧ x.2.2.2 ≠ 0 ∧ Cond.classLink M.1.cls x.2.2.2 C ∈ E.2.2.2.1 ∧
  (∀ z ∈ pre, z.2.2.2 ≠ 0 ∧ ∃ C', C' ∈ aj_exc ∧ C ≠ C' ∧ Cond.classLink M.1.cls z.2.2.2 C' ∈ E.2.2.2.1) ∧
  ((∃ j : Fin 4, (j : Nat) = i ∧ decode M.2.1 x.2.2.1 = .ok (.astore_n j, 1) ∧ x.2.2.1 + 1 = q) ∨ (decode M.2.1 x.2.2.1 = .ok (.astore i, 2) ∧ x.2.2.1 + 2 = q))
theorem aj_caught {p : Program} {l : Launch} {e : Env} {R : Room} {s : State} {m : MethodId} {args : Array Value} {below : List Frame} {meth : Method} {c : Code} {H : Heap} {locs : List Loc} {cells slots : Nat} {ls : Array Slot} {a tc : Nat → Nat} {D : va_G} {A : Nat → Prop} {k i q b : Nat} {cell : Cell} {C : String} {rest : List Value} {T s0 : State}
    (hh : aj_hdl E M pc k i q) (ho : aj_ok lv i = true) (kk : aj_wp E al ao X M d bc bs q (lv.set i none) [] sh g Q)
    (hc0 : aj_cx E al X M d bc bs lv sh g a tc D A p l R s m args meth c H locs cells slots ls)
    (hT : T.heap = H) (Y : Stand p l e R s m args below meth c T locs cells slots) (hcell : H[b]? = some cell) (hv : cell.vm = .none) (hC : aj_exc[k]? = some C) (hcl : s.vm.findClass C = some cell.cls)
    (hcome : Steps p.tables e below s0 ((T.setTop (F0 m pc ls rest)).pushFrame (.throwing b))) :
    ∃ t, Steps p.tables e below s0 t ∧ aj_fin E ao a tc D A Q below s (cells + bc) (slots + bs) t := by
  have hc1 := hc0
  obtain ⟨h1, h2, h3, ⟨hP, hK, hD, hS, hA⟩, h5, h6, h7⟩ := hc0
  have hts := h1.2.2.2.2
  obtain ⟨pre, suf, x, C', htb, hC', hcov, hx0, hlink, hpass, hst⟩ := hh
  have e0 : C' = C := Option.some.inj (hC'.symm.trans hC)
  subst e0
  have hpl : e.platform.magicAccessors = ({} : Platform).magicAccessors := by rw [Y.admits.platform]
  have hmap := h2.2.2.2.1
  rw [htb] at hmap
  obtain ⟨pre1, r1, hsp, hpre1, hr1⟩ := List.map_eq_append_iff.mp hmap
  obtain ⟨x1, suf1, rfl, hx1, hsuf1⟩ := List.map_eq_cons_iff.mp hr1
  subst hx1
  have hth := h7.2.2.2
  have hCm : C' ∈ aj_exc := List.mem_of_getElem? hC
  obtain ⟨c3, c4, hc3, hc4, hasg⟩ := Cond.castable_spec (va_Nw.use (A := args) rfl (hth.2.1 C' hCm))
  cases Option.some.inj (hc3.symm.trans hcl)
  cases Option.some.inj (hc4.symm.trans hcl)
  obtain ⟨c5, hc5, hcl5⟩ := Cond.classLink_spec h1.2.2.2.1 (hts _ hlink) e.platform hpl
  cases Option.some.inj (hcl.symm.trans hc5)
  obtain ⟨vm', Y', st⟩ := Y.thenCaughtThrough b (g := F0 m pc ls rest) rfl hcome (by rw [hT]; exact hcell) (by rw [hv]; rfl) (by obtain ⟨k9, h9, -⟩ := Vm.findClass_spec hcl; exact ⟨k9, h9⟩) pre1 x1 suf1 hsp
    (fun z hz => by
      obtain ⟨hz0, C2, hC2, hne, hl2⟩ := hpass (z.startPc, z.endPc, z.handlerPc, z.catchType) (by rw [← hpre1]; exact List.mem_map.mpr ⟨z, hz, rfl⟩)
      obtain ⟨c6, hc6, hcl6⟩ := Cond.classLink_spec h1.2.2.2.1 (hts _ hl2) e.platform hpl
      obtain ⟨a8, b8, y1, y2, y3⟩ := hth.2.2.1 C' hCm C2 hC2 hne
      cases Option.some.inj (y1.symm.trans hcl)
      cases Option.some.inj (y2.symm.trans hc6)
      exact Or.inr ⟨hz0, _, hcl6, y3⟩) (by
      show covers x1 pc = true
      unfold covers
      simp only [Bool.and_eq_true, decide_eq_true_eq]
      exact ⟨by simpa using hcov.1, by simpa using hcov.2⟩) (Or.inr ⟨hx0, cell.cls, hcl5, hasg⟩)
  have hlen : (lv.set i none).length = M.2.2.1 := by rw [List.length_set]; exact h5.1
  have hi : i < M.2.2.1 := by
    unfold aj_ok at ho
    rw [Bool.and_eq_true] at ho
    rw [← h5.1]
    exact Nat.blt_eq ▸ ho.1
  have hgo : ∀ ls' : Array Slot, lv_has ls' M.2.2.1 ((i, Value.ref b) :: (aj_l a lv).filter (fun q => !(q.1 == i) && !(q.1 + 1 == i && q.2.category == 2))) → W p l e R s m args below meth c H locs cells slots (aj_fin E ao a tc D A Q below s (cells + bc) (slots + bs)) (F0 m q ls' []) := fun ls' hl => kk p l e R s m args below meth c H locs cells slots ls' a tc D A
    ⟨h1, h2, h3, ⟨hP, hK, hD, hS, hA⟩, ⟨hlen, aj_stx ho hl⟩, h6, h7⟩
  have hWW : W p l e R s m args below meth c H locs cells slots (aj_fin E ao a tc D A Q below s (cells + bc) (slots + bs)) (F0 m x1.handlerPc ls [.ref b]) := by
    rcases hst with ⟨j, hj, hd, hq⟩ | ⟨hd, hq⟩
    · subst hq
      exact lv_astore_n h1.1 h1.2.1 hd hj h5.2 hi rfl hgo
    · subst hq
      exact lv_astore h1.1 h1.2.1 hd h5.2 hi rfl hgo
  obtain ⟨t, a1, b1⟩ := hWW (T.setVm vm') hT Y'
  exact ⟨t, st.trans a1, b1⟩
/-- what behind a call that throws goes on -/
def aj_KT (E : aj_E) (al ao : Prop) (X : Option (Nat × (Int → Int))) (M : aj_M) (d bc bs pc i : Nat) (lv : List (Option aj_A)) (Q : aj_R → List aj_S → aj_G → Prop) : aj_R → List aj_S → aj_G → Prop := fun r sh g => match r with
  | .inl _ => False
  | .inr k => ∃ q, aj_hdl E M pc k i q ∧ aj_wp E al ao X M d bc bs q (lv.set i none) [] sh g Q
theorem aj_KT_ret {i : Nat} (r : aj_R) (sh : List aj_S) (g : aj_G) (h : aj_KT E al ao X M d bc bs pc i lv Q r sh g) : ∃ k, r = .inr k := by
  cases r with
  | inl v => exact False.elim h
  | inr k => exact ⟨k, rfl⟩
theorem aj_callT {N : aj_M} {index n ci d1 bc1 bs1 bc2 bs2 i : Nat} {r : Int} {rest : List aj_A} (vs : List aj_A) (hl : aj_vl E M.1.cls index N n ci) (hd : decode M.2.1 pc = .ok (.invokevirtual index, 3)) (hn : vs.length = n) (hdd : d1 + 1 = d) (hbc : bc2 + bc1 = bc) (hbs : bs2 + bs1 = bs) (hwt : Nat.ble (aj_wt rest) 8 = true) (hea : Nat.ble (aj_ea ((1, r) :: vs)).length N.2.2.1 = true)
    (hs : aj_sh sh r = some (.inr ci)) (ho : aj_ok lv i = true) (k : aj_wp E al al X N d1 bc1 bs1 0 (aj_en ((1, r) :: vs) N.2.2.1) [] sh g (aj_KT E al ao X M d bc2 bs2 pc i lv Q)) : aj_wp E al ao X M d bc bs pc lv (vs.reverse ++ (1, r) :: rest) sh g Q := by
  subst hbc
  subst hbs
  intro p l e R s m args below meth c H locs cells slots ls a tc D A hc0
  have hM := aj_metT (l := l) hc0.2.1.2.2.2.2 hl.1.2.2.2.2.2.1 hl.1.2.2.2.2.2.2 hea aj_KT_ret k a tc D A
  obtain ⟨h0, -⟩ := aj_sh_get hs
  obtain ⟨h1, h2, h3, ⟨hP, hK, hD, hS, hA⟩, h5, h6, h7⟩ := hc0
  have hts := h1.2.2.2.2
  subst hdd
  have hcb := aj_cb (bc1 := bc1) (bs1 := bs1) hl.1 h7.1 hts h3.1 (by omega)
  obtain ⟨hrc, hrs, hfr, hlo, hws, hcw, hcode, hini, hy, hsig, hlk⟩ := hcb
  obtain ⟨rc, hrc', hrn⟩ := hl.2.2.2
  obtain ⟨cellB, hcB, hoB, hclB⟩ := va_recv hK hP hrc' (aj_w_get (E := E) (tc := tc) (a := a) (g := g) hs)
  rw [hrn] at hclB
  have hBack : BackT l R p e below s args N.1 3 8 (PreOf R bc1 bs1 (aj_Pc E al X ((1, r) :: vs) sh g a tc D A)) (fun B w b B' => ∃ (g' : JFrame) (mk : MethodId) (t : State) (L : List Loc), B'.U.heap = t.heap ∧ B'.U.vm = t.vm ∧ aj_QT E al a tc D A (aj_KT E al ao X M (d1 + 1) bc2 bs2 pc i lv Q) w (B.U.calling g' mk w) (.threw b) t ∧ B'.locs = B.locs ++ L ∧ (∀ q ∈ L, A q.base) ∧ B'.cells = B.cells + bc1 ∧ B'.slots = B.slots + bs1) := by
    refine BackT.of_free (S := headSpec (aj_ws E N) (aj_rm d1 bc1 bs1)) (bytes := N.2.1) (maxL := N.2.2.1) (ret := N.2.2.2) (E := fun _ _ _ _ L k n => k = bc1 ∧ n = bs1 ∧ ∀ q ∈ L, A q.base) hM hfr hlo ?_ ?_ (fun _ _ _ _ _ _ _ _ _ => trivial) ?_ ?_
    · intro m meth c B w Y hp
      exact ⟨atoms_intro fun z hz => hws z hz _ _ Y.warmed, hws _ hcw _ _ Y.warmed, word_at Y.warmed (Or.inl (by first | rfl | simp [Cond.onTables, Cond.keeps, Cond.steady])) hini, hp.1, hp.2.1⟩
    · intro m meth c B w g' mk Y hp
      exact aj_blind _ _ _ _ hp.2.2
    · rintro w s9 o t ⟨hq, L, hF, hL⟩
      exact ⟨L, bc1, bs1, hF, rfl, rfl, hL⟩
    · rintro m meth c B w g' mk b t L k9 n9 Y hp ⟨hq, -⟩ hF ⟨rfl, rfl, hL⟩
      exact ⟨g', mk, t, L, rfl, rfl, hq, rfl, hL, rfl, rfl⟩
  intro T hT Y
  obtain ⟨mk, methM, hnamed, hmethM, hstM, habM⟩ := Cond.instanceMethod_spec (hts _ hl.2.1)
  obtain ⟨methM', cM, hmethM', -, -, -, -, -, -, hsigM⟩ := Cond.code_spec hnamed hcode
  cases hmethM.symm.trans hmethM'
  obtain ⟨c2, r2, m2, q1, q2, q3, q4, kP, hkP, hkPi⟩ := Cond.selects_spec (hts _ hl.2.2.1)
  cases hclB.symm.trans q1
  cases (State.methodFound?_of_named hnamed hy).symm.trans q2
  cases hnamed.symm.trans q3
  have hselP : selectMethod e.platform s.vm cellB.cls mk = .method mk := by rw [Launch.admits_selectMethod Y.admits]; exact q4
  obtain ⟨vm₁, Y₁, hstep₁⟩ := Y.invokevirtual h1.1 h1.2.2.2.1 hlk hnamed hmethM hstM hkP hkPi hy (a := a r.toNat) (cell := cellB) (by rw [hT]; exact hcB)
    (fun z h => by rw [h] at hoB; cases hoB) hselP hmethM habM hkP hkPi (g := F0 m pc ls ((vs.reverse ++ (1, r) :: rest).map (aj_c a))) rfl (argsL := vs.map (aj_c a)) (rest := rest.map (aj_c a)) (by rw [List.length_map, hn]; exact hsig _ hsigM) (by
      show (vs.reverse ++ (1, r) :: rest).map (aj_c a) = _
      rw [List.map_append, List.map_reverse, List.map_cons, aj_cr h0]) (by rw [h1.2.1]; exact hd)
  obtain ⟨b, B, Y', ⟨g', mk', t, L, f1, f2, ⟨k9, sh1, g1, b', cell, C, o1, o2, o3, o4, o5, ⟨q9, hh9, kk9⟩, o7, o8, o9, o10⟩, f4, f5, f6, f7⟩, hsteps⟩ := hBack m meth c ⟨T.setVm vm₁, locs, cells, slots⟩ (F0 m pc ls (rest.map (aj_c a))) (.invokevirtual index) mk (Value.ref (a r.toNat) :: vs.map (aj_c a)).toArray Y₁ rfl (by rw [h1.2.2.1]; exact h5.2.1) (by rw [h1.2.1]; exact hd) (lv_room (by rw [aj_wt_eq]; exact Nat.le_of_ble_eq_true hwt)) (Y₁.named hnamed)
    ⟨by show cells + bc1 ≤ R.cells; omega, by show slots + bs1 ≤ R.slots; omega, by rw [List.map_cons, aj_cr h0], by show va_P D E.1 (aj_w E tc a sh g) T.heap; rw [hT]; exact hP, va_K.moved Y₁.warmed.alike hK, hD, fun q hq => hA q (Nat.le_trans hS.1 (by rw [← hT]; exact hq)), by show aj_ph al sh a T.heap.size; rw [hT]; exact h6, h7.1, aj_xs_at h7.2 hS (show (T.setVm vm₁).heap = H from hT) Y₁.warmed⟩
  cases o1
  obtain ⟨U, l2, c2', s2⟩ := B
  dsimp only [Pt.U, Pt.locs, Pt.cells, Pt.slots] at Y' f1 f2 f4 f6 f7 hsteps o9
  subst f4; subst f6; subst f7
  have hF1 : T.heap.size ≤ t.heap.size ∧ ∀ q : Nat, q < T.heap.size → ¬ A q → t.heap[q]? = T.heap[q]? := o9
  rw [hT] at hF1
  have hS1 : va_S A s.heap U.heap (locs ++ L) := ⟨Nat.le_trans hS.1 (by rw [f1]; exact hF1.1), fun q u1 u2 => by rw [f1, hF1.2 q (Nat.lt_of_lt_of_le u1 hS.1) u2]; exact hS.2.1 q u1 u2, fun q hq => (List.mem_append.mp hq).elim (hS.2.2 q) (f5 q)⟩
  have hcl : s.vm.findClass C = some cell.cls := by
    rw [← f2, Y'.warmed.alike.findClass] at o5
    exact o5
  obtain ⟨t9, a9, b9⟩ := aj_caught (d := d1 + 1) (bc := bc2) (bs := bs2) (cells := cells + bc1) (slots := slots + bs1) hh9 ho kk9
    ⟨h1, h2, ⟨h3.1, h3.2.1, by omega, by omega⟩, ⟨by rw [f1]; exact o7, hK, o8, hS1, hA⟩, h5, by rw [f1]; exact o10, h7⟩ rfl Y' (by rw [f1]; exact o2) o3 o4 hcl (hstep₁ _ fun acts => by rw [doInvoke_state]; exact hsteps)
  rw [show cells + bc1 + bc2 = cells + (bc2 + bc1) by omega, show slots + bs1 + bs2 = slots + (bs2 + bs1) by omega] at b9
  exact ⟨t9, a9, b9⟩
end AJT
end
section
/-! the judgement: a static method with a table of handlers, called; a constructor of a nest mate, called -/
section AJW
variable {E : aj_E} {al ao : Prop} {X : Option (Nat × (Int → Int))} {M : aj_M} {d bc bs pc : Nat} {lv : List (Option aj_A)} {st : List aj_A} {sh : List aj_S} {g : aj_G} {Q : aj_R → List aj_S → aj_G → Prop}
def aj_wsW (E : aj_E) (M : aj_M) : List Cond := Cond.codeWith M.1 M.2.1 M.2.2.1 M.2.2.2 (aj_tb M.1) :: E.2.2.2.1
theorem aj_metW {l : Launch} {vs : List aj_A} (hst : l.stackTraces = false) (hy : plainName M.1.cls = true) (hlen : Nat.ble (aj_ea vs).length M.2.2.1 = true) (hret : ∀ r sh g, Q r sh g → ∃ v, r = .inl v) (k : aj_wp E al al X M d bc bs 0 (aj_en vs M.2.2.1) [] sh g Q) (a tc : Nat → Nat) (D : va_G) (A : Nat → Prop) :
    Met l M.1 (aj_wsW E M) (aj_rm d bc bs) (aj_Pc E al X vs sh g a tc D A) (aj_Qc E al a tc D A Q) bc bs A := by
  refine va_MetW (cc := M.2.1) (maxL := M.2.2.1) (ret := M.2.2.2) (hh := aj_tb M.1) hy rfl ?_
  intro p e s m args below meth c s₁ B hml hv
  obtain ⟨rfl, hP, hK, hD, hA, h6, h7⟩ := hv
  have hts := atoms_spec (ws := aj_wsW E M) B.pre
  have hle : (aj_ea vs).length ≤ M.2.2.1 := Nat.le_of_ble_eq_true hlen
  have hT : c.exceptionTable.toList.map (fun h => (h.startPc, h.endPc, h.handlerPc, h.catchType)) = aj_tb M.1 := by
    obtain ⟨m', meth', c', g0, g1, g2, -, -, g3, -⟩ := Cond.codeWith_spec (hts _ List.mem_cons_self)
    have e0 : m' = m := Option.some.inj (g0.symm.trans B.named)
    subst e0
    have e1 : meth' = meth := Option.some.inj (g1.symm.trans B.method)
    subst e1
    have e2 : c' = c := Option.some.inj (g2.symm.trans (Stand.of_body B).code)
    subst e2
    exact g3
  have hl := lv_entry (vs.map (aj_c a)) (n := M.2.2.1) (by rw [aj_ea_len]; exact hle)
  rw [lg_entry_eq]
  generalize (lg_sl (vs.map (aj_c a)) ++ List.replicate (M.2.2.1 - (lg_sl (vs.map (aj_c a))).length) Slot.unset).toArray = ls at hl ⊢
  have hW := k p l e (aj_rm d bc bs) s m (vs.map (aj_c a)).toArray below meth c s.heap [] 0 0 ls a tc D A
    ⟨⟨B.exec, B.bytes, hml, findClass_of_methodNamed B.named, fun w hw => hts w (List.mem_cons_of_mem _ hw)⟩, ⟨B.returns, B.notSynchronized, (name_of_methodNamed B.named B.method).1, hT, hst⟩, ⟨Nat.le_refl _, Nat.le_refl _, by show 0 + bc ≤ bc; omega, by show 0 + bs ≤ bs; omega⟩, ⟨hP, hK, hD, va_S.rf, hA⟩, ⟨aj_en_len hle, aj_entry hl⟩, h6, h7⟩
  refine aj_monoW ?_ hW
  rintro t ⟨o, r, sh1, g1, e1, e2, e3, e4, e5, e6, e7, e8, L, e9, e10, e11⟩
  obtain ⟨v, rfl⟩ := hret _ _ _ e3
  rw [Nat.zero_add, Nat.zero_add] at e10
  exact ⟨o, e1, e2, ⟨v, sh1, g1, e4, e3, e5, e6, e7, e8⟩, L, ⟨⟨_, e4⟩, e9, e10⟩, e11⟩
def aj_wl (E : aj_E) (own : String) (index : Nat) (N : aj_M) (n : Nat) : Prop := Cond.methodLink own index N.1 ∈ E.2.2.2.1 ∧ Cond.codeWith N.1 N.2.1 N.2.2.1 N.2.2.2 (aj_tb N.1) ∈ E.2.2.2.1 ∧ Cond.initialized N.1.cls ∈ E.2.2.2.1 ∧
  (N.1.cls ≠ "java/lang/invoke/MethodHandle" ∧ N.1.cls ≠ "java/lang/invoke/VarHandle" ∧ (parseMethodDescriptor N.1.desc).map (fun d => d.parameters.length) = some n) ∧ N.2.2.1 ≤ 29 ∧ plainName N.1.cls = true ∧ Cond.static N.1 ∈ E.2.2.2.1
theorem aj_callW {N : aj_M} {index n d1 bc1 bs1 bc2 bs2 : Nat} {rest : List aj_A} (vs : List aj_A) (q : Nat) (hl : aj_wl E M.1.cls index N n) (hd : decode M.2.1 pc = .ok (.invokestatic index, 3)) (hq : pc + 3 = q) (hn : vs.length = n) (hdd : d1 + 1 = d) (hbc : bc2 + bc1 = bc) (hbs : bs2 + bs1 = bs) (hwt : Nat.ble (aj_wt rest) 8 = true) (hea : Nat.ble (aj_ea vs).length N.2.2.1 = true)
    (k : aj_wp E al al X N d1 bc1 bs1 0 (aj_en vs N.2.2.1) [] sh g (aj_K E al ao X M d bc2 bs2 q lv rest Q)) : aj_wp E al ao X M d bc bs pc lv (vs.reverse ++ rest) sh g Q := by
  subst hq
  intro p l e R s m args below meth c H locs cells slots ls a tc D A hc0
  obtain ⟨w1, w2, w3, ⟨w4, w5, w6⟩, w7, w8, w9⟩ := hl
  have hM := aj_metW (l := l) hc0.2.1.2.2.2.2 w8 hea aj_K_ret k a tc D A
  refine aj_after (rest := rest) (argsA := (vs.map (aj_c a)).toArray) (st0 := (vs.reverse ++ rest).map (aj_c a)) hc0 hbc hbs ?_
  obtain ⟨h1, h2, h3, ⟨hP, hK, hD, hS, hA⟩, h5, h6, h7⟩ := hc0
  have hts := h1.2.2.2.2
  subst hdd
  have hws : ∀ w ∈ aj_wsW E N, ∀ a' U, s.WarmedH U.vm → w.before a' U = true := pay_in hts (fun w hw => by
    rcases List.mem_cons.mp hw with rfl | h
    · exact ⟨w2, h7.1.1 _ w2⟩
    · exact ⟨h, h7.1.1 _ h⟩)
  have hB : Back l R p e below s args N.1 3 8 (PreOf R bc1 bs1 (aj_Pc E al X vs sh g a tc D A)) (PostOf (aj_Qc E al a tc D A (aj_K E al ao X M (d1 + 1) bc2 bs2 (pc + 3) lv rest Q)) bc1 bs1 A) :=
    va_backW (hh := aj_tb N.1) (bytes := N.2.1) (maxL := N.2.2.1) (ret := N.2.2.2) hM aj_blind rfl rfl (by show d1 + 2 + 1 ≤ R.frames; omega) (by show 8 + (N.2.2.1 + 11) + 48 * d1 ≤ R.locals; omega) hws List.mem_cons_self (fun a' U hW => word_at hW (h7.1.1 _ w3) (hts _ w3))
  intro T hT Y
  obtain ⟨mk, methM, cM, hnamed, hmethM, -, -, -, -, -, -, hsigM⟩ := Cond.codeWith_spec (hts _ w2)
  have hstatic : methM.isStatic = true := Cond.static_spec hnamed hmethM (hts _ w9)
  obtain ⟨kP, hkP, -⟩ := className_of_methodNamed hnamed
  have hinitP : kP.init = .initialized := Cond.initialized_spec (findClass_of_methodNamed hnamed) hkP (hts _ w3)
  have hnn : vs.length = methM.sig.parameters.length := by
    rw [hsigM] at w6
    exact hn.trans (Option.some.inj w6).symm
  obtain ⟨vm₁, Y₁, hstep₁⟩ := Y.invokestatic h1.1 h1.2.2.2.1 (hts _ w1) hnamed hmethM hstatic hkP hinitP ⟨w4, w5⟩ (g := F0 m pc ls ((vs.reverse ++ rest).map (aj_c a))) rfl (argsL := vs.map (aj_c a)) (rest := rest.map (aj_c a)) (by rw [List.length_map]; exact hnn) (by
    show (vs.reverse ++ rest).map (aj_c a) = _
    rw [List.map_append, List.map_reverse]) (by rw [h1.2.1]; exact hd)
  obtain ⟨v, ⟨U', l2, c2, s2⟩, Y', ⟨g', mk', t, L, e1, e2, hq, f1, hL, f2, f3⟩, hsteps⟩ := hB m meth c ⟨T.setVm vm₁, locs, cells, slots⟩ (F0 m pc ls (rest.map (aj_c a))) (.invokestatic index) mk (vs.map (aj_c a)).toArray Y₁ rfl (by rw [h1.2.2.1]; exact h5.2.1) (by rw [h1.2.1]; exact hd) (lv_room (by rw [aj_wt_eq]; exact Nat.le_of_ble_eq_true hwt)) (Y₁.named hnamed)
    ⟨by show cells + bc1 ≤ R.cells; omega, by show slots + bs1 ≤ R.slots; omega, rfl, by show va_P D E.1 (aj_w E tc a sh g) T.heap; rw [hT]; exact hP, va_K.moved Y₁.warmed.alike hK, hD, fun q hq => hA q (Nat.le_trans hS.1 (by rw [← hT]; exact hq)), by show aj_ph al sh a T.heap.size; rw [hT]; exact h6, h7.1, aj_xs_at h7.2 hS (show (T.setVm vm₁).heap = H from hT) Y₁.warmed⟩
  dsimp only [Pt.U, Pt.locs, Pt.cells, Pt.slots] at Y' e1 e2 f1 f2 f3 hsteps
  subst f1; subst f2; subst f3
  exact ⟨v, (T.setVm vm₁).calling g' mk' (vs.map (aj_c a)).toArray, t, U', L, hT, Y', hL, e1, e2, hq, fun target h => hstep₁ _ fun acts => by rw [doInvoke_state]; exact hsteps.trans h⟩
/-! a nest mate's private constructor -/
def aj_nl1 (E : aj_E) (own host : String) (index : Nat) (N : aj_M) (n : Nat) : Prop := (own, index, N.1, host) ∈ E.2.2.2.2 ∧ Cond.code N.1 N.2.1 N.2.2.1 N.2.2.2 ∈ E.2.2.2.1 ∧ Cond.initialized N.1.cls ∈ E.2.2.2.1 ∧
  (N.1.cls ≠ "java/lang/invoke/MethodHandle" ∧ N.1.cls ≠ "java/lang/invoke/VarHandle" ∧ (parseMethodDescriptor N.1.desc).map (fun d => d.parameters.length) = some n) ∧ N.2.2.1 ≤ 29 ∧ plainName N.1.cls = true ∧ aj_tb N.1 = [] ∧ Cond.instanceMethod N.1 ∈ E.2.2.2.1 ∧ N.1.name = "<init>" ∧ N.2.2.2 = none
theorem aj_callN {N : aj_M} {host : String} {index d1 bc1 bs1 bc2 bs2 : Nat} {r : Int} {rest : List aj_A} (q : Nat) (hl : aj_nl1 E M.1.cls host index N 0) (hd : decode M.2.1 pc = .ok (.invokespecial index, 3)) (hq : pc + 3 = q) (hdd : d1 + 1 = d) (hbc : bc2 + bc1 = bc) (hbs : bs2 + bs1 = bs) (hwt : Nat.ble (aj_wt rest) 8 = true) (hea : Nat.ble (aj_ea [(1, r)]).length N.2.2.1 = true) (h0 : 0 ≤ r)
    (k : aj_wp E al al X N d1 bc1 bs1 0 (aj_en [(1, r)] N.2.2.1) [] sh g (aj_K E al ao X M d bc2 bs2 q lv rest Q)) : aj_wp E al ao X M d bc bs pc lv ((1, r) :: rest) sh g Q := by
  subst hq
  intro p l e R s m args below meth c H locs cells slots ls a tc D A hc0
  obtain ⟨w1, w2, w3, w4, w7, w8, w9, w10, w11, w12⟩ := hl
  have hM := aj_met (l := l) hc0.2.1.2.2.2.2 w8 w9 hea aj_K_ret k a tc D A
  refine aj_after (rest := rest) (argsA := (Value.ref (a r.toNat) :: ([] : List Value)).toArray) (st0 := ((1, r) :: rest).map (aj_c a)) hc0 hbc hbs ?_
  obtain ⟨h1, h2, h3, ⟨hP, hK, hD, hS, hA⟩, h5, h6, h7⟩ := hc0
  have hts := h1.2.2.2.2
  subst hdd
  have hcn : va_CN R s args M.1.cls index N.1 host N.2.1 N.2.2.1 N.2.2.2 (aj_ws E N) (aj_rm d1 bc1 bs1) bc1 bs1 0 := va_cnB (ws' := E.2.2.2.1) 0 hts (fun w hw => by
    rcases List.mem_cons.mp hw with rfl | h
    · exact ⟨w2, h7.1.1 _ w2⟩
    · exact ⟨h, h7.1.1 _ h⟩) rfl rfl rfl (h7.2.2.1 _ w1) (hts _ w3) w4 ⟨by show d1 + 2 + 1 ≤ R.frames; omega, by show 8 + (N.2.2.1 + 11) + 48 * d1 ≤ R.locals; omega⟩
  rw [w12] at hcn
  refine va_runIN (As := []) (b := a r.toNat) h1 hM ⟨hcn, w11, hts _ w10⟩ ⟨aj_blind, fun U hU hW => ?_⟩ rfl rfl h5.2.1 ?_ (lv_room (by rw [aj_wt_eq]; exact Nat.le_of_ble_eq_true hwt)) hd ⟨by omega, by omega⟩
  · refine ⟨by rw [List.map_cons, aj_cr h0]; rfl, by rw [hU]; exact hP, va_K.moved hW.alike hK, hD, fun q hq => hA q (by rw [hU] at hq; exact Nat.le_trans hS.1 hq), by rw [hU]; exact h6, h7.1, aj_xs_at h7.2 hS hU hW⟩
  · show ((1, r) :: rest).map (aj_c a) = _
    rw [List.map_cons, aj_cr h0]; rfl
theorem aj_ldc2 {index : Nat} {x : Int} (q : Nat) (hw : Cond.constantLong M.1.cls index (Int64.ofInt x) ∈ E.2.2.2.1) (hd : decode M.2.1 pc = .ok (.ldc2_w index, 3)) (hq : pc + 3 = q) (k : aj_wp E al ao X M d bc bs q lv ((2, x) :: st) sh g Q) : aj_wp E al ao X M d bc bs pc lv st sh g Q := by
  subst hq
  intro p l e R s m args below meth c H locs cells slots ls a tc D A hc0
  have kk := k p l e R s m args below meth c H locs cells slots ls a tc D A hc0
  obtain ⟨h1, h2, h3, h4, h5, h6, h7⟩ := hc0
  exact lv_ldc2 h1.1 h1.2.1 h1.2.2.2.1 (h1.2.2.2.2 _ hw) hd kk
theorem aj_ldc {index : Nat} {x : Int} (q : Nat) (hw : Cond.constant M.1.cls index (Int32.ofInt x) ∈ E.2.2.2.1) (hd : decode M.2.1 pc = .ok (.ldc index, 2)) (hq : pc + 2 = q) (k : aj_wp E al ao X M d bc bs q lv ((0, x) :: st) sh g Q) : aj_wp E al ao X M d bc bs pc lv st sh g Q := by
  subst hq
  intro p l e R s m args below meth c H locs cells slots ls a tc D A hc0
  have kk := k p l e R s m args below meth c H locs cells slots ls a tc D A hc0
  obtain ⟨h1, h2, h3, h4, h5, h6, h7⟩ := hc0
  exact lv_ldc h1.1 h1.2.1 h1.2.2.2.1 (h1.2.2.2.2 _ hw) hd kk
/-! rows of rows: new int[8][8] -/
theorem aj_outer (c : ClassId) (N h0 : Nat) : ∀ i : Nat, Jvm.Free.Multi.outerC c N h0 i = arrV c N (fun j => if j < i then .ref (h0 + 1 + j) else .null)
  | 0 => by
    show ({ cls := c, slots := Array.replicate N .null } : Cell) = _
    rw [arrV_new]
    congr 1
  | i + 1 => by
    show (Jvm.Free.Multi.outerC c N h0 i).setSlot i (.ref (h0 + 1 + i)) = _
    rw [aj_outer c N h0 i, arrV_store]
    congr 1
    funext j
    unfold updV
    by_cases h : j = i
    · subst h
      rw [if_pos rfl, if_pos (by omega)]
    · rw [if_neg h]
      show (if j < i then Value.ref (h0 + 1 + j) else Value.null) = _
      by_cases h2 : j < i
      · rw [if_pos h2, if_pos (by omega)]
      · rw [if_neg h2, if_neg (by omega)]
def aj_mg (g : aj_G) (k : Int) : aj_G := fun r => if r = k then (fun i => if 0 ≤ i ∧ i < 8 then k + 1 + i else -1) else if k < r ∧ r ≤ k + 8 then (fun _ => 0) else g r
theorem aj_mna {index t0 t1 bc1 bs1 : Nat} (q : Nat) (hw : Cond.classLink M.1.cls index "[[I" ∈ E.2.2.2.1 ∧ Cond.arrayClass .int ∈ E.2.2.2.1) (hd : decode M.2.1 pc = .ok (.multianewarray index 2, 4)) (hq : pc + 4 = q) (ht0 : E.2.1[t0]? = some (.array .int)) (ht1 : E.2.1[t1]? = some .int)
    (hbc : bc1 + 9 = bc) (hbs : bs1 + 72 = bs) (hal : al) (hsz : sh.length + 8 < 1000000) (k : aj_wp E al ao X M d bc1 bs1 q lv ((1, sh.length) :: st) (sh ++ (.inl (t0, 8) :: List.replicate 8 (.inl (t1, 8)))) (aj_mg g sh.length) Q) : aj_wp E al ao X M d bc bs pc lv ((0, 8) :: (0, 8) :: st) sh g Q := by
  subst hq
  subst hbc
  subst hbs
  intro p l e R s m args below meth c H locs cells slots ls a tc D A hc0
  obtain ⟨h1, h2, h3, ⟨hP, hK, hD, hS, hA⟩, h5, h6, h7⟩ := hc0
  have hts := h1.2.2.2.2
  have ha : ∀ j, j ≤ 8 → a (sh.length + j) = H.size + j := fun j hj => h6.1 hal j (by omega)
  have h8 : (Int32.ofInt 8).toNatClampNeg = 8 := by decide +kernel
  have hover : (Cond.arrayOver (.array .int)).before args s = true := h7.2.2.2.2.2.2.2.2 (.array .int) (by simp [aj_aos])
  intro T hT Y
  obtain ⟨vm1, cA, comp, -, fA, fC, -, -, Y', step⟩ := Y.multianewarray2F h1.1 h1.2.2.2.1 (ty := .int) (hts _ hw.1) hover (hts _ hw.2) (g := F0 m pc ls (((0, 8) :: (0, 8) :: st).map (aj_c a))) rfl (by rw [h1.2.1]; exact hd) (n := Int32.ofInt 8) (k := Int32.ofInt 8) (rest := st.map (aj_c a)) rfl (by decide +kernel) (by decide +kernel) (by rw [h8]; decide) (by rw [h8]; decide) (by rw [h8]; decide) (by decide +kernel) (by decide +kernel) (by rw [h8]; omega) (by rw [h8]; omega)
  rw [h8] at Y' step
  have hTh : (T.setVm vm1).heap = H := hT
  obtain ⟨f1, f2, -, -⟩ := Jvm.Free.Multi.fill_facts (T.setVm vm1) cA comp 8 8 (defaultValue .int) 8
  have f3 := fun (x : Nat) (hx : x < H.size) => Jvm.Free.Multi.fill_old (T.setVm vm1) cA comp 8 8 (defaultValue .int) (a := x) (by rw [hTh]; exact hx) 8
  have f4 := fun (j : Nat) (hj : j < 8) => Jvm.Free.Multi.fill_inner (T.setVm vm1) cA comp 8 8 (defaultValue .int) 8 j hj
  generalize hF : Jvm.Free.Multi.fill (T.setVm vm1) cA comp 8 8 (defaultValue .int) 8 = F at Y' step f1 f2 f3 f4
  rw [hTh] at f1 f2 f3 f4
  have hc0 : tc t0 = cA := by
    have hR : s.vm.findClass ("[" ++ (FieldType.array .int).toString) = some (tc t0) := (hK.2 t0 _ (aj_ty_at ht0)).2
    exact Option.some.inj (hR.symm.trans fA)
  have hc1 : tc t1 = comp := by
    have hR : s.vm.findClass ("[" ++ FieldType.int.toString) = some (tc t1) := (hK.2 t1 _ (aj_ty_at ht1)).2
    exact Option.some.inj (hR.symm.trans fC)
  have hat : ∀ (k : Nat) (y : Nat × va_E), (aj_w E tc a (sh ++ (.inl (t0, 8) :: List.replicate 8 (.inl (t1, 8)))) (aj_mg g sh.length))[k]? = some y → (k < sh.length ∧ (aj_w E tc a sh g)[k]? = some y) ∨ (sh.length ≤ k ∧ k ≤ sh.length + 8 ∧ y.1 = H.size + (k - sh.length) ∧ va_at D E.1 y F.heap) := by
    intro k y hy
    rw [aj_w_at] at hy
    by_cases hk : k < sh.length
    · rw [List.getElem?_append_left hk] at hy
      have hg : aj_mg g sh.length (k : Nat) = g (k : Nat) := by unfold aj_mg; rw [if_neg (by omega), if_neg (by omega)]
      rw [hg, ← aj_w_at] at hy
      exact Or.inl ⟨hk, hy⟩
    · rw [List.getElem?_append_right (by omega)] at hy
      refine Or.inr ⟨by omega, ?_⟩
      by_cases h2 : k = sh.length
      · subst h2
        rw [Nat.sub_self, List.getElem?_cons_zero, Option.map_some] at hy
        cases hy
        have h0 := ha 0 (by omega)
        rw [Nat.add_zero, Nat.add_zero] at h0
        refine ⟨by omega, by show a sh.length = _; rw [h0]; omega, ?_⟩
        show F.heap[a sh.length]? = some (vp_cell (tc t0) (8, aj_row a E.2.1[t0]? (aj_mg g sh.length (sh.length : Nat))))
        rw [aj_rowr ht0 rfl, h0, f2, aj_outer, hc0]
        congr 2
        funext j
        have hm : aj_mg g sh.length (sh.length : Nat) (j : Nat) = if (0 : Int) ≤ j ∧ (j : Int) < 8 then (sh.length : Int) + 1 + j else -1 := by unfold aj_mg; rw [if_pos rfl]
        rw [hm]
        by_cases hj : j < 8
        · have hv : (if (0 : Int) ≤ j ∧ (j : Int) < 8 then (sh.length : Int) + 1 + j else -1) = ((sh.length + (1 + j) : Nat) : Int) := by rw [if_pos (by omega)]; omega
          rw [if_pos hj, hv, aj_rfp (by omega), Int.toNat_natCast, ha (1 + j) (by omega), Nat.add_assoc]
          rfl
        · rw [if_neg hj, if_neg (by omega), aj_rfn (by omega)]
          rfl
      · obtain ⟨j, hj⟩ : ∃ j, k = sh.length + (1 + j) := ⟨k - sh.length - 1, by omega⟩
        subst hj
        rw [show sh.length + (1 + j) - sh.length = j + 1 by omega, List.getElem?_cons_succ, List.getElem?_replicate] at hy
        by_cases hj8 : j < 8
        · rw [if_pos hj8, Option.map_some] at hy
          cases hy
          refine ⟨by omega, by show a (sh.length + (1 + j)) = _; rw [ha (1 + j) (by omega)]; omega, ?_⟩
          show F.heap[a (sh.length + (1 + j))]? = some (vp_cell (tc t1) (8, aj_row a E.2.1[t1]? (aj_mg g sh.length ((sh.length + (1 + j) : Nat) : Int))))
          rw [aj_rowi ht1 (Or.inl rfl), ha (1 + j) (by omega), show H.size + (1 + j) = H.size + 1 + j by omega, f4 j hj8, hc1]
          show some ({ cls := comp, slots := Array.replicate 8 (.int 0) } : Cell) = _
          rw [arrV_new]
          congr 2
          funext i
          have hm : aj_mg g sh.length ((sh.length + (1 + j) : Nat) : Int) (i : Nat) = 0 := by unfold aj_mg; rw [if_neg (by omega), if_pos (by omega)]
          rw [hm]
          rfl
        · rw [if_neg hj8] at hy
          cases hy
  have hP2 : va_P D E.1 (aj_w E tc a (sh ++ (.inl (t0, 8) :: List.replicate 8 (.inl (t1, 8)))) (aj_mg g sh.length)) F.heap := by
    intro k y hy
    rcases hat k y hy with ⟨-, h⟩ | ⟨-, -, -, h⟩
    · exact (hP.kept (fun j z hz => f3 z.1 ((hP j z hz).lt))) k y h
    · exact h
  have hD2 : va_D A (aj_w E tc a (sh ++ (.inl (t0, 8) :: List.replicate 8 (.inl (t1, 8)))) (aj_mg g sh.length)) := by
    refine ⟨fun i j x y hx hy he => ?_, fun k y hy => ?_⟩
    · rcases hat i x hx with ⟨x1, x2⟩ | ⟨x1, x2, x3, -⟩ <;> rcases hat j y hy with ⟨y1, y2⟩ | ⟨y1, y2, y3, -⟩
      · exact hD.1 i j x y x2 y2 he
      · have := (hP i x x2).lt
        omega
      · have := (hP j y y2).lt
        omega
      · omega
    · rcases hat k y hy with ⟨x1, x2⟩ | ⟨x1, x2, x3, -⟩
      · exact hD.2 k y x2
      · rw [x3]
        exact hA _ (Nat.le_trans hS.1 (by omega))
  have hS2 : va_S A s.heap F.heap locs := ⟨Nat.le_trans hS.1 (by omega), fun q q1 q2 => (f3 q (Nat.lt_of_lt_of_le q1 hS.1)).trans (hS.2.1 q q1 q2), hS.2.2⟩
  have hph : aj_ph al (sh ++ (.inl (t0, 8) :: List.replicate 8 (.inl (t1, 8)))) a F.heap.size := by
    refine ⟨fun hal j hj => ?_, fun k t n hk => ?_⟩
    · have hl : (sh ++ (.inl (t0, 8) :: List.replicate 8 (.inl (t1, 8)) : List aj_S)).length = sh.length + 9 := by simp
      rw [hl] at hj ⊢
      rw [show sh.length + 9 + j = sh.length + (9 + j) by omega, h6.1 hal (9 + j) (by omega), f1]
      omega
    · by_cases hlt : k < sh.length
      · rw [List.getElem?_append_left hlt] at hk
        exact h6.2 k t n hk
      · rw [List.getElem?_append_right (by omega)] at hk
        have hm : (Sum.inl (t, n) : aj_S) ∈ (.inl (t0, 8) :: List.replicate 8 (.inl (t1, 8)) : List aj_S) := List.mem_of_getElem? hk
        rcases List.mem_cons.mp hm with h | h
        · cases h; omega
        · have := List.eq_of_mem_replicate h
          cases this; omega
  have kk := k p l e R s m args below meth c F.heap locs (cells + 9) (slots + 72) ls a tc D A ⟨h1, h2, ⟨h3.1, h3.2.1, by omega, by omega⟩, ⟨hP2, hK, hD2, hS2, hA⟩, h5, hph, h7⟩
  have ha0 : a sh.length = T.heap.size := by
    have := ha 0 (by omega)
    rw [hT]
    simpa using this
  rw [show cells + 9 + bc1 = cells + (bc1 + 9) by omega, show slots + 72 + bs1 = slots + (bs1 + 72) by omega, List.map_cons, aj_cr (by omega), Int.toNat_natCast, ha0] at kk
  obtain ⟨t, a1, b1⟩ := kk F rfl Y'
  exact ⟨t, step t a1, b1⟩
end AJW
end
