/-! A judgement over places: the machine's words are read as whole numbers, a reference as a place's number, the heap as a table of rows of numbers (see PLAN.md). -/
abbrev aj_M : Type := MethodName × ByteArray × Nat × Option FieldType
abbrev aj_S : Type := (Nat × Nat) ⊕ Nat
abbrev aj_A : Type := Nat × Int
abbrev aj_G : Type := Int → Int → Int
abbrev aj_E : Type := List vw_C × List FieldType × (Nat → Nat → Nat) × List Cond × List (String × Nat × MethodName × String)
abbrev aj_R : Type := Option aj_A ⊕ Nat
def aj_rf (a : Nat → Nat) (x : Int) : Option Nat := if x < 0 then none else some (a x.toNat)
def aj_c (a : Nat → Nat) (v : aj_A) : Value := match v.1 with
  | 0 => .int (Int32.ofInt v.2)
  | 1 => va_rf (aj_rf a v.2)
  | _ => .long (Int64.ofInt v.2)
theorem aj_c0 (a : Nat → Nat) (x : Int) : aj_c a (0, x) = .int (Int32.ofInt x) := rfl
theorem aj_c1 (a : Nat → Nat) (x : Int) : aj_c a (1, x) = va_rf (aj_rf a x) := rfl
theorem aj_c2 (a : Nat → Nat) (x : Int) : aj_c a (2, x) = .long (Int64.ofInt x) := rfl
theorem aj_rfp {a : Nat → Nat} {r : Int} (h : 0 ≤ r) : aj_rf a r = some (a r.toNat) := by
  unfold aj_rf
  rw [if_neg (by omega)]
theorem aj_rfn {a : Nat → Nat} {r : Int} (h : r < 0) : aj_rf a r = none := by
  unfold aj_rf
  rw [if_pos h]
theorem aj_cr {a : Nat → Nat} {r : Int} (h : 0 ≤ r) : aj_c a (1, r) = .ref (a r.toNat) := by
  rw [aj_c1, aj_rfp h]; rfl
theorem aj_cat {a : Nat → Nat} {v : aj_A} (h : v.1 < 2) : (aj_c a v).category = 1 := by
  obtain ⟨t, x⟩ := v
  match t, h with
  | 0, _ => rfl
  | 1, _ =>
    rw [aj_c1]
    by_cases hx : x < 0
    · rw [aj_rfn hx]; rfl
    · rw [aj_rfp (by omega)]; rfl
theorem aj_cat2 {a : Nat → Nat} {v : aj_A} (h : ¬ v.1 < 2) : (aj_c a v).category = 2 := by
  obtain ⟨t, x⟩ := v
  match t, h with
  | 0, h => exact absurd (show (0 : Nat) < 2 by decide) h
  | 1, h => exact absurd (show (1 : Nat) < 2 by decide) h
  | t + 2, _ => rfl
/-! numbers -/
def aj_I (x : Int) : Prop := -2147483648 ≤ x ∧ x < 2147483648
def aj_L (x : Int) : Prop := -9223372036854775808 ≤ x ∧ x < 9223372036854775808
theorem aj_ti {x : Int} (h : aj_I x) : (Int32.ofInt x).toInt = x := Int32.toInt_ofInt_of_le h.1 h.2
theorem aj_tl {x : Int} (h : aj_L x) : (Int64.ofInt x).toInt = x := Int64.toInt_ofInt_of_le h.1 h.2
theorem aj_eq {x y : Int} (hx : aj_I x) (hy : aj_I y) : Int32.ofInt x = Int32.ofInt y ↔ x = y := by
  constructor
  · intro h
    have h2 := congrArg Int32.toInt h
    rwa [aj_ti hx, aj_ti hy] at h2
  · intro h
    rw [h]
theorem aj_lt {x y : Int} (hx : aj_I x) (hy : aj_I y) : Int32.ofInt x < Int32.ofInt y ↔ x < y := by
  rw [Int32.lt_iff_toInt_lt, aj_ti hx, aj_ti hy]
theorem aj_le {x y : Int} (hx : aj_I x) (hy : aj_I y) : Int32.ofInt x ≤ Int32.ofInt y ↔ x ≤ y := by
  rw [Int32.le_iff_toInt_le, aj_ti hx, aj_ti hy]
theorem aj_0 : (0 : Int32) = Int32.ofInt 0 := by decide +kernel
theorem aj_I0 : aj_I 0 := by unfold aj_I; omega
theorem aj_clamp {i : Int} {n : Nat} (h0 : 0 ≤ i) (hi : i < n) (hn : n < 2147483648) : (Int32.ofInt i).toNatClampNeg = i.toNat := by
  have h1 : aj_I i := ⟨by omega, by omega⟩
  show (Int32.ofInt i).toInt.toNat = i.toNat
  rw [aj_ti h1]
theorem aj_in {i : Int} {n : Nat} (h0 : 0 ≤ i) (hi : i < n) (hn : n < 2147483648) : vp_in (Int32.ofInt i) n := by
  have h1 : aj_I i := ⟨by omega, by omega⟩
  rw [vp_in_iff, aj_ti h1]
  exact ⟨h0, hi⟩
/-! the picture -/
def aj_nf (E : aj_E) (ci : Nat) : Nat := match E.1[ci]? with
  | some q => q.2.2
  | none => 0
def aj_row (a : Nat → Nat) (t : Option FieldType) (f : Int → Int) : (Nat → Int32) ⊕ (Nat → Int64) ⊕ (Nat → UInt32) ⊕ (Nat → UInt64) ⊕ (Nat → Option Nat) := match t with
  | some .long => .inr (.inl (fun j => Int64.ofInt (f j)))
  | some (.object _) => .inr (.inr (.inr (.inr (fun j => aj_rf a (f j)))))
  | some (.array _) => .inr (.inr (.inr (.inr (fun j => aj_rf a (f j)))))
  | _ => .inl (fun j => Int32.ofInt (f j))
def aj_cell (E : aj_E) (tc a : Nat → Nat) (x : aj_S) (f : Int → Int) : va_E := match x with
  | .inl y => .inl (tc y.1, y.2, aj_row a E.2.1[y.1]? f)
  | .inr ci => .inr (ci, (List.range (aj_nf E ci)).map (fun j => aj_c a (E.2.2.1 ci j, f (j : Nat))))
def aj_w (E : aj_E) (tc a : Nat → Nat) (sh : List aj_S) (g : aj_G) : va_W := sh.mapIdx (fun k x => (a k, aj_cell E tc a x (g (k : Nat))))
def aj_ty (tc : Nat → Nat) (ty : List FieldType) : List (ClassId × FieldType) := ty.mapIdx (fun k t => (tc k, t))
def aj_sh (sh : List aj_S) (r : Int) : Option aj_S := if r < 0 then none else sh[r.toNat]?
def aj_up (g : aj_G) (r i x : Int) : aj_G := fun r' => if r' = r then (fun i' => if i' = i then x else g r i') else g r'
theorem aj_up_self (g : aj_G) (r i x : Int) : aj_up g r i x r i = x := by simp [aj_up]
theorem aj_up_ne (g : aj_G) {r r' : Int} (i x : Int) (h : r' ≠ r) : aj_up g r i x r' = g r' := by simp [aj_up, h]
theorem aj_up_ni (g : aj_G) (r : Int) {i i' : Int} (x : Int) (h : i' ≠ i) : aj_up g r i x r i' = g r i' := by simp [aj_up, h]
theorem aj_up_at (g : aj_G) (r i x r' i' : Int) : aj_up g r i x r' i' = if r' = r ∧ i' = i then x else g r' i' := by
  unfold aj_up
  by_cases h : r' = r
  · subst h
    by_cases h2 : i' = i <;> simp [h2]
  · simp [h]
theorem aj_sh_get {sh : List aj_S} {r : Int} {x : aj_S} (h : aj_sh sh r = some x) : 0 ≤ r ∧ sh[r.toNat]? = some x := by
  unfold aj_sh at h
  by_cases hr : r < 0
  · rw [if_pos hr] at h; cases h
  · rw [if_neg hr] at h
    exact ⟨by omega, h⟩
theorem aj_w_at (E : aj_E) (tc a : Nat → Nat) (sh : List aj_S) (g : aj_G) (k : Nat) : (aj_w E tc a sh g)[k]? = (sh[k]?).map (fun x => (a k, aj_cell E tc a x (g (k : Nat)))) := by
  unfold aj_w
  rw [List.getElem?_mapIdx]
theorem aj_w_get {E : aj_E} {tc a : Nat → Nat} {sh : List aj_S} {g : aj_G} {r : Int} {x : aj_S} (h : aj_sh sh r = some x) : (aj_w E tc a sh g)[r.toNat]? = some (a r.toNat, aj_cell E tc a x (g r)) := by
  obtain ⟨h0, h1⟩ := aj_sh_get h
  rw [aj_w_at, h1, Option.map_some, Int.toNat_of_nonneg h0]
theorem aj_w_set {E : aj_E} {tc a : Nat → Nat} {sh : List aj_S} {g g' : aj_G} {r : Int} {x : aj_S} {c : va_E} (h : aj_sh sh r = some x) (hc : aj_cell E tc a x (g' r) = c) (ho : ∀ r', r' ≠ r → g' r' = g r') : (aj_w E tc a sh g).set r.toNat (a r.toNat, c) = aj_w E tc a sh g' := by
  obtain ⟨h0, h1⟩ := aj_sh_get h
  have hr : ((r.toNat : Nat) : Int) = r := Int.toNat_of_nonneg h0
  have hl : r.toNat < (aj_w E tc a sh g).length := by
    have := (List.getElem?_eq_some_iff.mp h1).1
    unfold aj_w
    rw [List.length_mapIdx]
    exact this
  apply List.ext_getElem?
  intro j
  by_cases hj : r.toNat = j
  · subst hj
    rw [List.getElem?_set_self hl, aj_w_at, h1, Option.map_some, hr, hc]
  · rw [List.getElem?_set_ne hj, aj_w_at, aj_w_at, ho (j : Nat) (fun e => hj (by omega))]
theorem aj_w_push {E : aj_E} {tc a : Nat → Nat} {sh : List aj_S} {g g' : aj_G} {x : aj_S} {c : va_E} (hc : aj_cell E tc a x (g' (sh.length : Nat)) = c) (ho : ∀ k : Nat, k < sh.length → g' (k : Nat) = g (k : Nat)) : aj_w E tc a sh g ++ [(a sh.length, c)] = aj_w E tc a (sh ++ [x]) g' := by
  apply List.ext_getElem?
  intro j
  have hl : (aj_w E tc a sh g).length = sh.length := by unfold aj_w; rw [List.length_mapIdx]
  by_cases hj : j < sh.length
  · rw [List.getElem?_append_left (by rw [hl]; exact hj), aj_w_at, aj_w_at, List.getElem?_append_left hj, ho j hj]
  · rw [List.getElem?_append_right (by rw [hl]; omega), aj_w_at, List.getElem?_append_right (by omega), hl]
    by_cases h2 : j = sh.length
    · subst h2
      simp [hc]
    · have h3 : ∃ k, j - sh.length = k + 1 := ⟨j - sh.length - 1, by omega⟩
      obtain ⟨k, hk⟩ := h3
      rw [hk]
      simp
theorem aj_ty_at {tc : Nat → Nat} {ty : List FieldType} {k : Nat} {t : FieldType} (hk : ty[k]? = some t) : (aj_ty tc ty)[k]? = some (tc k, t) := by
  unfold aj_ty
  rw [List.getElem?_mapIdx, hk]; rfl
theorem aj_nf_of {E : aj_E} {ci : Nat} {C : String} {T : u_T} {N : Nat} (h : E.1[ci]? = some (C, T, N)) : aj_nf E ci = N := by
  unfold aj_nf
  rw [h]
/-! the locals: by slot number -/
def aj_l (a : Nat → Nat) (lv : List (Option aj_A)) : List (Nat × Value) := (List.range lv.length).filterMap (fun i => (lv[i]?).join.map (fun v => (i, aj_c a v)))
theorem aj_l_mem {a : Nat → Nat} {lv : List (Option aj_A)} {i : Nat} {w : Value} : (i, w) ∈ aj_l a lv ↔ ∃ v, lv[i]? = some (some v) ∧ w = aj_c a v := by
  unfold aj_l
  rw [List.mem_filterMap]
  constructor
  · rintro ⟨j, -, hj⟩
    cases hv : (lv[j]?).join with
    | none => rw [hv] at hj; cases hj
    | some v =>
      rw [hv] at hj
      cases hj
      exact ⟨v, Option.join_eq_some_iff.mp hv, rfl⟩
  · rintro ⟨v, h1, rfl⟩
    have hlt : i < lv.length := (List.getElem?_eq_some_iff.mp h1).1
    exact ⟨i, List.mem_range.mpr hlt, by rw [h1]; rfl⟩
theorem aj_lget {ls : Array Slot} {n : Nat} {a : Nat → Nat} {lv : List (Option aj_A)} {i : Nat} {v : aj_A} (h : lv_has ls n (aj_l a lv)) (hv : lv[i]? = some (some v)) : ls[i]? = some (.val (aj_c a v)) := h.2.2 (i, aj_c a v) (aj_l_mem.mpr ⟨v, hv, rfl⟩)
def aj_nl (lv : List (Option aj_A)) (i : Nat) : Bool := match i with
  | 0 => true
  | j + 1 => match lv[j]? with
    | some (some v) => Nat.blt v.1 2
    | _ => true
def aj_ok (lv : List (Option aj_A)) (i : Nat) : Bool := Nat.blt i lv.length && aj_nl lv i
theorem aj_nl_spec {a : Nat → Nat} {lv : List (Option aj_A)} {j : Nat} {v : aj_A} (h : aj_nl lv (j + 1) = true) (hv : lv[j]? = some (some v)) : ¬ (aj_c a v).category = 2 := by
  unfold aj_nl at h
  simp only [hv] at h
  have h2 : v.1 < 2 := Nat.blt_eq ▸ h
  rw [aj_cat h2]
  decide
theorem aj_st1 {a : Nat → Nat} {ls : Array Slot} {n i : Nat} {lv : List (Option aj_A)} {v : aj_A} {w : Value} (hw : aj_c a v = w) (ho : aj_ok lv i = true) (h : lv_has ls n ((i, w) :: (aj_l a lv).filter (fun q => !(q.1 == i) && !(q.1 + 1 == i && q.2.category == 2)))) : lv_has ls n (aj_l a (lv.set i (some v))) := by
  refine ⟨h.1, h.2.1, fun q hq => h.2.2 q ?_⟩
  obtain ⟨j, u⟩ := q
  obtain ⟨y, h1, h2⟩ := aj_l_mem.mp hq
  unfold aj_ok at ho
  rw [Bool.and_eq_true] at ho
  have hlt : i < lv.length := Nat.blt_eq ▸ ho.1
  by_cases hj : j = i
  · subst hj
    rw [List.getElem?_set_self hlt] at h1
    cases h1
    rw [h2, hw]
    exact List.mem_cons_self
  · rw [List.getElem?_set_ne (Ne.symm hj)] at h1
    refine List.mem_cons_of_mem _ (List.mem_filter.mpr ⟨aj_l_mem.mpr ⟨y, h1, h2⟩, ?_⟩)
    have hb : ¬ (j + 1 = i ∧ u.category = 2) := by
      rintro ⟨e1, e2⟩
      subst e1
      rw [h2] at e2
      exact aj_nl_spec ho.2 h1 e2
    simp only [Bool.and_eq_true, Bool.not_eq_true', beq_eq_false_iff_ne, ne_eq, Bool.and_eq_false_imp, beq_iff_eq]
    exact ⟨hj, fun e1 e2 => hb ⟨e1, e2⟩⟩
theorem aj_st2 {a : Nat → Nat} {ls : Array Slot} {n i : Nat} {lv : List (Option aj_A)} {v : aj_A} {w : Value} (hw : aj_c a v = w) (ho : aj_ok lv i = true) (h : lv_has ls n ((i, w) :: (aj_l a lv).filter (fun q => !(q.1 == i) && (!(q.1 == i + 1) && !(q.1 + 1 == i && q.2.category == 2))))) : lv_has ls n (aj_l a ((lv.set i (some v)).set (i + 1) none)) := by
  refine ⟨h.1, h.2.1, fun q hq => h.2.2 q ?_⟩
  obtain ⟨j, u⟩ := q
  obtain ⟨y, h1, h2⟩ := aj_l_mem.mp hq
  unfold aj_ok at ho
  rw [Bool.and_eq_true] at ho
  have hlt : i < lv.length := Nat.blt_eq ▸ ho.1
  have hj1 : ¬ j = i + 1 := by
    intro e
    subst e
    have h3 := h1
    have h4 : i + 1 < ((lv.set i (some v)).set (i + 1) none).length := (List.getElem?_eq_some_iff.mp h1).1
    rw [List.length_set] at h4
    rw [List.getElem?_set_self h4] at h3
    cases h3
  rw [List.getElem?_set_ne (fun e => hj1 e.symm)] at h1
  by_cases hj : j = i
  · subst hj
    rw [List.getElem?_set_self hlt] at h1
    cases h1
    rw [h2, hw]
    exact List.mem_cons_self
  · rw [List.getElem?_set_ne (Ne.symm hj)] at h1
    refine List.mem_cons_of_mem _ (List.mem_filter.mpr ⟨aj_l_mem.mpr ⟨y, h1, h2⟩, ?_⟩)
    have hb : ¬ (j + 1 = i ∧ u.category = 2) := by
      rintro ⟨e1, e2⟩
      subst e1
      rw [h2] at e2
      exact aj_nl_spec ho.2 h1 e2
    simp only [Bool.and_eq_true, Bool.not_eq_true', beq_eq_false_iff_ne, ne_eq, Bool.and_eq_false_imp, beq_iff_eq]
    exact ⟨hj, hj1, fun e1 e2 => hb ⟨e1, e2⟩⟩
/-- a slot is forgotten -/
theorem aj_forget1 {a : Nat → Nat} {ls : Array Slot} {n i : Nat} {lv : List (Option aj_A)} (h : lv_has ls n (aj_l a lv)) : lv_has ls n (aj_l a (lv.set i none)) := by
  refine ⟨h.1, h.2.1, fun q hq => h.2.2 q ?_⟩
  obtain ⟨j, u⟩ := q
  obtain ⟨y, h1, h2⟩ := aj_l_mem.mp hq
  by_cases hj : i = j
  · subst hj
    have h4 : i < (lv.set i none).length := (List.getElem?_eq_some_iff.mp h1).1
    rw [List.length_set] at h4
    rw [List.getElem?_set_self h4] at h1
    cases h1
  · rw [List.getElem?_set_ne hj] at h1
    exact aj_l_mem.mpr ⟨y, h1, h2⟩
/-! a method's first locals -/
def aj_ea : List aj_A → List (Option aj_A)
  | [] => []
  | v :: vs => if v.1 < 2 then some v :: aj_ea vs else some v :: none :: aj_ea vs
def aj_en (vs : List aj_A) (n : Nat) : List (Option aj_A) := aj_ea vs ++ List.replicate (n - (aj_ea vs).length) none
theorem aj_ea_args {a : Nat → Nat} : ∀ (vs : List aj_A) (i j : Nat) (v : aj_A), (aj_ea vs)[j]? = some (some v) → (i + j, aj_c a v) ∈ lv_args i (vs.map (aj_c a))
  | [], i, j, v, h => by simp [aj_ea] at h
  | w :: vs, i, j, v, h => by
    rw [List.map_cons]
    unfold lv_args
    unfold aj_ea at h
    by_cases hw : w.1 < 2
    · rw [if_pos hw] at h
      rw [if_neg (by rw [aj_cat hw]; decide)]
      cases j with
      | zero =>
        simp at h
        subst h
        exact List.mem_cons_self
      | succ j =>
        rw [List.getElem?_cons_succ] at h
        have := aj_ea_args (a := a) vs (i + 1) j v h
        rw [show i + (j + 1) = i + 1 + j by omega]
        exact List.mem_cons_of_mem _ this
    · rw [if_neg hw] at h
      rw [if_pos (aj_cat2 hw)]
      cases j with
      | zero =>
        simp at h
        subst h
        exact List.mem_cons_self
      | succ j =>
        rw [List.getElem?_cons_succ] at h
        cases j with
        | zero => simp at h
        | succ j =>
          rw [List.getElem?_cons_succ] at h
          have := aj_ea_args (a := a) vs (i + 2) j v h
          rw [show i + (j + 1 + 1) = i + 2 + j by omega]
          exact List.mem_cons_of_mem _ this
theorem aj_ea_len {a : Nat → Nat} : ∀ (vs : List aj_A), (lg_sl (vs.map (aj_c a))).length = (aj_ea vs).length
  | [] => rfl
  | w :: vs => by
    have ih := aj_ea_len (a := a) vs
    unfold lg_sl at ih ⊢
    unfold aj_ea
    rw [List.map_cons, List.flatMap_cons, List.length_append, ih]
    by_cases hw : w.1 < 2
    · rw [if_pos hw, if_neg (by rw [aj_cat hw]; decide)]
      simp
      omega
    · rw [if_neg hw, if_pos (aj_cat2 hw)]
      simp
      omega
theorem aj_entry {a : Nat → Nat} {vs : List aj_A} {n : Nat} {ls : Array Slot} (h : lv_has ls n (lv_args 0 (vs.map (aj_c a)))) : lv_has ls n (aj_l a (aj_en vs n)) := by
  refine ⟨h.1, h.2.1, fun q hq => h.2.2 q ?_⟩
  obtain ⟨j, u⟩ := q
  obtain ⟨y, h1, h2⟩ := aj_l_mem.mp hq
  unfold aj_en at h1
  by_cases hj : j < (aj_ea vs).length
  · rw [List.getElem?_append_left hj] at h1
    have := aj_ea_args (a := a) vs 0 j y h1
    rw [Nat.zero_add] at this
    rw [h2]
    exact this
  · rw [List.getElem?_append_right (by omega)] at h1
    rw [List.getElem?_replicate] at h1
    split at h1 <;> cases h1
