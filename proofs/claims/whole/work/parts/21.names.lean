/-! names: the classes, their fields, the words of the tables that a walk may use -/
def nm_T0 : u_T := fun k => match k with
  | 0 => ("TestBench$Machine", "inputs", "I", true)
  | 1 => ("TestBench$Machine", "nexts", "[I", true)
  | 2 => ("TestBench$Machine", "outputs", "[I", true)
  | _ => ("TestBench$Machine", "states", "I", false)
def nm_t0 : Nat → FieldType := fun k => match k with
  | 0 => .int
  | 1 => (.array .int)
  | 2 => (.array .int)
  | _ => .int
def nm_T1 : u_T := fun k => match k with
  | 0 => ("TestBench$Word", "letters", "[I", true)
  | _ => ("TestBench$Word", "length", "I", false)
def nm_t1 : Nat → FieldType := fun k => match k with
  | 0 => (.array .int)
  | _ => .int
def nm_T2 : u_T := fun k => match k with
  | 0 => ("TestBench$PairSearch", "found", "LTestBench$Word;", true)
  | 1 => ("TestBench$PairSearch", "one", "[I", true)
  | 2 => ("TestBench$PairSearch", "other", "[I", true)
  | 3 => ("TestBench$PairSearch", "from", "[I", true)
  | 4 => ("TestBench$PairSearch", "by", "[I", true)
  | 5 => ("TestBench$PairSearch", "depth", "[I", true)
  | 6 => ("TestBench$PairSearch", "seen", "[Z", true)
  | _ => ("TestBench$PairSearch", "reached", "I", false)
def nm_t2 : Nat → FieldType := fun k => match k with
  | 0 => (.object "TestBench$Word")
  | 1 => (.array .int)
  | 2 => (.array .int)
  | 3 => (.array .int)
  | 4 => (.array .int)
  | 5 => (.array .int)
  | 6 => (.array .boolean)
  | _ => .int
def nm_T3 : u_T := fun k => match k with
  | 0 => ("TestBench$Reduction", "machine", "LTestBench$Machine;", true)
  | 1 => ("TestBench$Reduction", "number", "[I", true)
  | 2 => ("TestBench$Reduction", "twin", "[I", true)
  | 3 => ("TestBench$Reduction", "member", "[I", true)
  | 4 => ("TestBench$Reduction", "earlier", "[I", true)
  | _ => ("TestBench$Reduction", "by", "[I", true)
def nm_t3 : Nat → FieldType := fun k => match k with
  | 0 => (.object "TestBench$Machine")
  | 1 => (.array .int)
  | 2 => (.array .int)
  | 3 => (.array .int)
  | 4 => (.array .int)
  | _ => (.array .int)
def nm_T4 : u_T := fun k => match k with
  | 0 => ("TestBench$Family", "words", "[LTestBench$Word;", true)
  | 1 => ("TestBench$Family", "owned", "[[I", true)
  | 2 => ("TestBench$Family", "ownSize", "[I", true)
  | _ => ("TestBench$Family", "size", "I", false)
def nm_t4 : Nat → FieldType := fun k => match k with
  | 0 => (.array (.object "TestBench$Word"))
  | 1 => (.array (.array .int))
  | 2 => (.array .int)
  | _ => .int
def nm_T5 : u_T := fun k => match k with
  | 0 => ("TestBench$Suite", "reduction", "LTestBench$Reduction;", true)
  | 1 => ("TestBench$Suite", "machine", "LTestBench$Machine;", true)
  | 2 => ("TestBench$Suite", "family", "LTestBench$Family;", true)
  | 3 => ("TestBench$Suite", "children", "[I", true)
  | 4 => ("TestBench$Suite", "above", "[I", true)
  | 5 => ("TestBench$Suite", "by", "[I", true)
  | 6 => ("TestBench$Suite", "depth", "[I", true)
  | 7 => ("TestBench$Suite", "state", "[I", true)
  | 8 => ("TestBench$Suite", "leaves", "[I", true)
  | 9 => ("TestBench$Suite", "open", "[I", true)
  | 10 => ("TestBench$Suite", "access", "[I", true)
  | 11 => ("TestBench$Suite", "reach", "[I", true)
  | 12 => ("TestBench$Suite", "size", "I", false)
  | 13 => ("TestBench$Suite", "tests", "I", false)
  | _ => ("TestBench$Suite", "fits", "Z", false)
def nm_t5 : Nat → FieldType := fun k => match k with
  | 0 => (.object "TestBench$Reduction")
  | 1 => (.object "TestBench$Machine")
  | 2 => (.object "TestBench$Family")
  | 3 => (.array .int)
  | 4 => (.array .int)
  | 5 => (.array .int)
  | 6 => (.array .int)
  | 7 => (.array .int)
  | 8 => (.array .int)
  | 9 => (.array .int)
  | 10 => (.array .int)
  | 11 => (.array .int)
  | 12 => .int
  | 13 => .int
  | _ => .boolean
def nm_T6 : u_T := fun k => match k with
  | 0 => ("TestBench$Trial", "state", "[I", true)
  | _ => ("TestBench$Trial", "wrong", "[I", true)
def nm_t6 : Nat → FieldType := fun k => match k with
  | 0 => (.array .int)
  | _ => (.array .int)
def nm_T7 : u_T := fun k => match k with
  | 0 => ("TestBench", "specification", "LTestBench$Machine;", true)
  | 1 => ("TestBench", "reduction", "LTestBench$Reduction;", true)
  | 2 => ("TestBench", "family", "LTestBench$Family;", true)
  | 3 => ("TestBench", "implementation", "LTestBench$Machine;", true)
  | 4 => ("TestBench", "search", "LTestBench$PairSearch;", true)
  | 5 => ("TestBench", "trial", "LTestBench$Trial;", true)
  | 6 => ("TestBench", "word", "LTestBench$Word;", true)
  | 7 => ("TestBench", "suite", "LTestBench$Suite;", false)
  | 8 => ("TestBench", "spare", "LTestBench$Suite;", false)
  | 9 => ("TestBench", "start", "I", false)
  | 10 => ("TestBench", "sealed", "Z", false)
  | 11 => ("TestBench", "failedPlace", "I", false)
  | 12 => ("TestBench", "handTest", "I", false)
  | _ => ("TestBench", "handPlace", "I", false)
def nm_t7 : Nat → FieldType := fun k => match k with
  | 0 => (.object "TestBench$Machine")
  | 1 => (.object "TestBench$Reduction")
  | 2 => (.object "TestBench$Family")
  | 3 => (.object "TestBench$Machine")
  | 4 => (.object "TestBench$PairSearch")
  | 5 => (.object "TestBench$Trial")
  | 6 => (.object "TestBench$Word")
  | 7 => (.object "TestBench$Suite")
  | 8 => (.object "TestBench$Suite")
  | 9 => .int
  | 10 => .boolean
  | 11 => .int
  | 12 => .int
  | _ => .int
def nm_T8 : u_T := fun k => match k with
  | 0 => ("TestBenchModel", "thrown", "I", false)
  | 1 => ("TestBenchModel", "n", "I", true)
  | 2 => ("TestBenchModel", "k", "I", true)
  | 3 => ("TestBenchModel", "next", "[I", true)
  | 4 => ("TestBenchModel", "output", "[I", true)
  | 5 => ("TestBenchModel", "start", "I", false)
  | 6 => ("TestBenchModel", "sealed", "Z", false)
  | 7 => ("TestBenchModel", "told", "[I", true)
  | 8 => ("TestBenchModel", "minimals", "I", false)
  | 9 => ("TestBenchModel", "minimalOf", "[I", true)
  | 10 => ("TestBenchModel", "stateOf", "[I", true)
  | 11 => ("TestBenchModel", "access", "[J", true)
  | 12 => ("TestBenchModel", "families", "I", false)
  | 13 => ("TestBenchModel", "family", "[J", true)
  | 14 => ("TestBenchModel", "owns", "[I", true)
  | 15 => ("TestBenchModel", "own", "[I", true)
  | 16 => ("TestBenchModel", "word", "J", false)
  | 17 => ("TestBenchModel", "implemented", "I", false)
  | 18 => ("TestBenchModel", "goes", "[I", true)
  | 19 => ("TestBenchModel", "gives", "[I", true)
  | 20 => ("TestBenchModel", "made", "Z", false)
  | 21 => ("TestBenchModel", "places", "I", false)
  | 22 => ("TestBenchModel", "child", "[I", true)
  | 23 => ("TestBenchModel", "newPlaces", "I", false)
  | 24 => ("TestBenchModel", "newChild", "[I", true)
  | 25 => ("TestBenchModel", "tests", "I", false)
  | 26 => ("TestBenchModel", "testPlace", "[I", true)
  | 27 => ("TestBenchModel", "parent", "[I", true)
  | 28 => ("TestBenchModel", "by", "[I", true)
  | 29 => ("TestBenchModel", "failed", "I", false)
  | 30 => ("TestBenchModel", "hand", "I", false)
  | 31 => ("TestBenchModel", "handAt", "I", false)
  | 32 => ("TestBenchModel", "path", "[I", true)
  | 33 => ("TestBenchModel", "seen", "[I", true)
  | 34 => ("TestBenchModel", "came", "[Z", true)
  | 35 => ("TestBenchModel", "trail", "[J", true)
  | _ => ("TestBenchModel", "gone", "[Z", true)
def nm_t8 : Nat → FieldType := fun k => match k with
  | 0 => .int
  | 1 => .int
  | 2 => .int
  | 3 => (.array .int)
  | 4 => (.array .int)
  | 5 => .int
  | 6 => .boolean
  | 7 => (.array .int)
  | 8 => .int
  | 9 => (.array .int)
  | 10 => (.array .int)
  | 11 => (.array .long)
  | 12 => .int
  | 13 => (.array .long)
  | 14 => (.array .int)
  | 15 => (.array .int)
  | 16 => .long
  | 17 => .int
  | 18 => (.array .int)
  | 19 => (.array .int)
  | 20 => .boolean
  | 21 => .int
  | 22 => (.array .int)
  | 23 => .int
  | 24 => (.array .int)
  | 25 => .int
  | 26 => (.array .int)
  | 27 => (.array .int)
  | 28 => (.array .int)
  | 29 => .int
  | 30 => .int
  | 31 => .int
  | 32 => (.array .int)
  | 33 => (.array .int)
  | 34 => (.array .boolean)
  | 35 => (.array .long)
  | _ => (.array .boolean)
def nm_cl : List vw_C := [("TestBench$Machine", nm_T0, 4), ("TestBench$Word", nm_T1, 2), ("TestBench$PairSearch", nm_T2, 8), ("TestBench$Reduction", nm_T3, 6), ("TestBench$Family", nm_T4, 4), ("TestBench$Suite", nm_T5, 15), ("TestBench$Trial", nm_T6, 2), ("TestBench", nm_T7, 14), ("TestBenchModel", nm_T8, 37)]
def nm_ty : List FieldType := [.int, .boolean, .long, (.object "TestBench$Word"), (.array .int)]
def nm_ks : List (List Nat) := [[0, 1, 1, 0], [1, 0], [1, 1, 1, 1, 1, 1, 1, 0], [1, 1, 1, 1, 1, 1], [1, 1, 1, 0], [1, 1, 1, 1, 1, 1, 1, 1, 1, 1, 1, 1, 0, 0, 0], [1, 1], [1, 1, 1, 1, 1, 1, 1, 1, 1, 0, 0, 0, 0, 0], [0, 0, 0, 1, 1, 0, 0, 1, 0, 1, 1, 1, 0, 1, 1, 1, 2, 0, 1, 1, 0, 0, 1, 0, 1, 0, 1, 1, 1, 0, 0, 0, 1, 1, 1, 1, 1]]
def nm_kd (ci j : Nat) : Nat := ((nm_ks[ci]?.getD [])[j]?).getD 0
def nm_ws : List Cond := lw_tbl.filter goodWord
def nm_nest : List (String × Nat × MethodName × String) := [("TestBench$Family", 30, ⟨"TestBench$Word", "<init>", "()V"⟩, "TestBench"), ("TestBench", 48, ⟨"TestBench$PairSearch", "<init>", "()V"⟩, "TestBench"), ("TestBench$PairSearch", 11, ⟨"TestBench$Word", "<init>", "()V"⟩, "TestBench"), ("TestBench", 55, ⟨"TestBench$Trial", "<init>", "()V"⟩, "TestBench"), ("TestBench", 62, ⟨"TestBench$Word", "<init>", "()V"⟩, "TestBench")]
def nE : aj_E := (nm_cl, nm_ty, nm_kd, nm_ws, nm_nest)
theorem nm_at {w : Cond} (i : Nat) (h : lw_tbl[i]? = some w) (hg : goodWord w = true) : w ∈ nm_ws := List.mem_filter.mpr ⟨List.mem_of_getElem? h, hg⟩
theorem nm_mem {f : Nat → Cond} {N : Nat} (ps : List Nat) (h : (List.range N).all (fun k => decide (lw_tbl[ps.getD k 0]? = some (f k)) && goodWord (f k)) = true) : ∀ w ∈ (List.range N).map f, w ∈ nm_ws := by
  intro w hw
  obtain ⟨k, hk, rfl⟩ := List.mem_map.mp hw
  have h1 := List.all_eq_true.mp h k hk
  rw [Bool.and_eq_true] at h1
  exact nm_at _ (of_decide_eq_true h1.1) h1.2
set_option maxRecDepth 20000 in
theorem nm_in0 : ∀ w ∈ u_ws "TestBench$Machine" nm_T0 4, w ∈ nm_ws := nm_mem [107, 109, 111, 113] (by decide +kernel)
theorem nm_n0 : ∀ a, a < 4 → ∀ b, b < 4 → a ≠ b → (nm_T0 a).2.1 ≠ (nm_T0 b).2.1 := by decide +kernel
theorem nm_y0 : ∀ k, k < 4 → parseFieldDescriptor (nm_T0 k).2.2.1 = some (nm_t0 k) := by decide +kernel
theorem nm_k0 : ∀ k, k < 4 → nm_kd 0 k = aj_kd (nm_t0 k) ∧ aj_smp (nm_t0 k) = true := by decide +kernel
set_option maxRecDepth 20000 in
theorem nm_in1 : ∀ w ∈ u_ws "TestBench$Word" nm_T1 2, w ∈ nm_ws := nm_mem [173, 175] (by decide +kernel)
theorem nm_n1 : ∀ a, a < 2 → ∀ b, b < 2 → a ≠ b → (nm_T1 a).2.1 ≠ (nm_T1 b).2.1 := by decide +kernel
theorem nm_y1 : ∀ k, k < 2 → parseFieldDescriptor (nm_T1 k).2.2.1 = some (nm_t1 k) := by decide +kernel
theorem nm_k1 : ∀ k, k < 2 → nm_kd 1 k = aj_kd (nm_t1 k) ∧ aj_smp (nm_t1 k) = true := by decide +kernel
set_option maxRecDepth 20000 in
theorem nm_in2 : ∀ w ∈ u_ws "TestBench$PairSearch" nm_T2 8, w ∈ nm_ws := nm_mem [217, 219, 221, 223, 225, 227, 229, 231] (by decide +kernel)
theorem nm_n2 : ∀ a, a < 8 → ∀ b, b < 8 → a ≠ b → (nm_T2 a).2.1 ≠ (nm_T2 b).2.1 := by decide +kernel
theorem nm_y2 : ∀ k, k < 8 → parseFieldDescriptor (nm_T2 k).2.2.1 = some (nm_t2 k) := by decide +kernel
theorem nm_k2 : ∀ k, k < 8 → nm_kd 2 k = aj_kd (nm_t2 k) ∧ aj_smp (nm_t2 k) = true := by decide +kernel
set_option maxRecDepth 20000 in
theorem nm_in3 : ∀ w ∈ u_ws "TestBench$Reduction" nm_T3 6, w ∈ nm_ws := nm_mem [136, 138, 140, 142, 144, 146] (by decide +kernel)
theorem nm_n3 : ∀ a, a < 6 → ∀ b, b < 6 → a ≠ b → (nm_T3 a).2.1 ≠ (nm_T3 b).2.1 := by decide +kernel
theorem nm_y3 : ∀ k, k < 6 → parseFieldDescriptor (nm_T3 k).2.2.1 = some (nm_t3 k) := by decide +kernel
theorem nm_k3 : ∀ k, k < 6 → nm_kd 3 k = aj_kd (nm_t3 k) ∧ aj_smp (nm_t3 k) = true := by decide +kernel
set_option maxRecDepth 20000 in
theorem nm_in4 : ∀ w ∈ u_ws "TestBench$Family" nm_T4 4, w ∈ nm_ws := nm_mem [190, 192, 194, 196] (by decide +kernel)
theorem nm_n4 : ∀ a, a < 4 → ∀ b, b < 4 → a ≠ b → (nm_T4 a).2.1 ≠ (nm_T4 b).2.1 := by decide +kernel
theorem nm_y4 : ∀ k, k < 4 → parseFieldDescriptor (nm_T4 k).2.2.1 = some (nm_t4 k) := by decide +kernel
theorem nm_k4 : ∀ k, k < 4 → nm_kd 4 k = aj_kd (nm_t4 k) ∧ aj_smp (nm_t4 k) = true := by decide +kernel
set_option maxRecDepth 20000 in
theorem nm_in5 : ∀ w ∈ u_ws "TestBench$Suite" nm_T5 15, w ∈ nm_ws := nm_mem [279, 281, 283, 285, 287, 289, 291, 293, 295, 297, 299, 301, 303, 305, 307] (by decide +kernel)
theorem nm_n5 : ∀ a, a < 15 → ∀ b, b < 15 → a ≠ b → (nm_T5 a).2.1 ≠ (nm_T5 b).2.1 := by decide +kernel
theorem nm_y5 : ∀ k, k < 15 → parseFieldDescriptor (nm_T5 k).2.2.1 = some (nm_t5 k) := by decide +kernel
theorem nm_k5 : ∀ k, k < 15 → nm_kd 5 k = aj_kd (nm_t5 k) ∧ aj_smp (nm_t5 k) = true := by decide +kernel
set_option maxRecDepth 20000 in
theorem nm_in6 : ∀ w ∈ u_ws "TestBench$Trial" nm_T6 2, w ∈ nm_ws := nm_mem [243, 245] (by decide +kernel)
theorem nm_n6 : ∀ a, a < 2 → ∀ b, b < 2 → a ≠ b → (nm_T6 a).2.1 ≠ (nm_T6 b).2.1 := by decide +kernel
theorem nm_y6 : ∀ k, k < 2 → parseFieldDescriptor (nm_T6 k).2.2.1 = some (nm_t6 k) := by decide +kernel
theorem nm_k6 : ∀ k, k < 2 → nm_kd 6 k = aj_kd (nm_t6 k) ∧ aj_smp (nm_t6 k) = true := by decide +kernel
set_option maxRecDepth 20000 in
theorem nm_in7 : ∀ w ∈ u_ws "TestBench" nm_T7 14, w ∈ nm_ws := nm_mem [324, 326, 328, 330, 332, 334, 336, 338, 340, 342, 344, 346, 348, 350] (by decide +kernel)
theorem nm_n7 : ∀ a, a < 14 → ∀ b, b < 14 → a ≠ b → (nm_T7 a).2.1 ≠ (nm_T7 b).2.1 := by decide +kernel
theorem nm_y7 : ∀ k, k < 14 → parseFieldDescriptor (nm_T7 k).2.2.1 = some (nm_t7 k) := by decide +kernel
theorem nm_k7 : ∀ k, k < 14 → nm_kd 7 k = aj_kd (nm_t7 k) ∧ aj_smp (nm_t7 k) = true := by decide +kernel
set_option maxRecDepth 20000 in
theorem nm_in8 : ∀ w ∈ u_ws "TestBenchModel" nm_T8 37, w ∈ nm_ws := nm_mem [792, 794, 796, 798, 800, 802, 804, 806, 808, 810, 812, 814, 816, 818, 820, 822, 824, 826, 828, 830, 832, 834, 836, 838, 840, 842, 844, 846, 848, 850, 852, 854, 856, 858, 860, 862, 864] (by decide +kernel)
theorem nm_n8 : ∀ a, a < 37 → ∀ b, b < 37 → a ≠ b → (nm_T8 a).2.1 ≠ (nm_T8 b).2.1 := by decide +kernel
theorem nm_y8 : ∀ k, k < 37 → parseFieldDescriptor (nm_T8 k).2.2.1 = some (nm_t8 k) := by decide +kernel
theorem nm_k8 : ∀ k, k < 37 → nm_kd 8 k = aj_kd (nm_t8 k) ∧ aj_smp (nm_t8 k) = true := by decide +kernel
theorem nE_good : aj_good nE := by
  refine ⟨fun w hw => good_of_word (List.mem_filter.mp hw).2, fun ci q hq => ?_⟩
  have hl : ci < 9 := (List.getElem?_eq_some_iff.mp (show nm_cl[ci]? = some q from hq)).1
  have hq2 : nm_cl[ci]? = some q := hq
  match ci, hl with
  | 0, _ => cases hq2; exact ⟨nm_in0, nm_n0, nm_t0, nm_y0, nm_k0⟩
  | 1, _ => cases hq2; exact ⟨nm_in1, nm_n1, nm_t1, nm_y1, nm_k1⟩
  | 2, _ => cases hq2; exact ⟨nm_in2, nm_n2, nm_t2, nm_y2, nm_k2⟩
  | 3, _ => cases hq2; exact ⟨nm_in3, nm_n3, nm_t3, nm_y3, nm_k3⟩
  | 4, _ => cases hq2; exact ⟨nm_in4, nm_n4, nm_t4, nm_y4, nm_k4⟩
  | 5, _ => cases hq2; exact ⟨nm_in5, nm_n5, nm_t5, nm_y5, nm_k5⟩
  | 6, _ => cases hq2; exact ⟨nm_in6, nm_n6, nm_t6, nm_y6, nm_k6⟩
  | 7, _ => cases hq2; exact ⟨nm_in7, nm_n7, nm_t7, nm_y7, nm_k7⟩
  | 8, _ => cases hq2; exact ⟨nm_in8, nm_n8, nm_t8, nm_y8, nm_k8⟩
