/-! longs as words; Model: length, at. Places: 78 the model, its rows 79 to 99 -/
theorem lg_bv (n : Nat) : (Int64.ofInt (n : Int)).toBitVec = BitVec.ofNat 64 n := by
  show (BitVec.ofInt 64 (n : Int)) = _
  exact BitVec.ofInt_natCast 64 n
theorem lg_ct : ∀ y, y < 64 → ((Int32.ofInt ((y : Nat) : Int)).toInt64 &&& 63).toBitVec.smod 64 = BitVec.ofNat 64 y := by decide +kernel
theorem lg_shr {n y : Nat} (hn : n < 2 ^ 63) (hy : y < 64) : Int64.ofInt (n : Int) >>> ((Int32.ofInt (y : Int)).toInt64 &&& 63) = Int64.ofInt ((n / 2 ^ y : Nat) : Int) := by
  apply Int64.toBitVec_inj.mp
  rw [Int64.toBitVec_shiftRight, lg_ct y hy, lg_bv, lg_bv]
  have hm : (BitVec.ofNat 64 n).msb = false := by
    rw [BitVec.msb_eq_false_iff_two_mul_lt, BitVec.toNat_ofNat, Nat.mod_eq_of_lt (by omega)]
    omega
  rw [BitVec.sshiftRight', BitVec.sshiftRight_eq_of_msb_false hm]
  apply BitVec.eq_of_toNat_eq
  rw [BitVec.toNat_ushiftRight, BitVec.toNat_ofNat, BitVec.toNat_ofNat, BitVec.toNat_ofNat, Nat.mod_eq_of_lt (show n < 2 ^ 64 by omega), Nat.mod_eq_of_lt (show y < 2 ^ 64 by omega), Nat.shiftRight_eq_div_pow, Nat.mod_eq_of_lt]
  exact Nat.lt_of_le_of_lt (Nat.div_le_self _ _) (by omega)
theorem lg_shl {n : Nat} (hn : n < 2 ^ 60) : Int64.ofInt (n : Int) <<< ((Int32.ofInt 2).toInt64 &&& 63) = Int64.ofInt ((4 * n : Nat) : Int) := by
  apply Int64.toBitVec_inj.mp
  have h2 : ((Int32.ofInt 2).toInt64 &&& 63).toBitVec.smod 64 = BitVec.ofNat 64 2 := lg_ct 2 (by decide)
  rw [Int64.toBitVec_shiftLeft, h2, lg_bv, lg_bv]
  apply BitVec.eq_of_toNat_eq
  rw [BitVec.shiftLeft_eq', BitVec.toNat_shiftLeft, BitVec.toNat_ofNat, BitVec.toNat_ofNat, BitVec.toNat_ofNat, Nat.mod_eq_of_lt (show n < 2 ^ 64 by omega), Nat.mod_eq_of_lt (show 2 < 2 ^ 64 by omega), Nat.shiftLeft_eq]
  congr 1
  omega
theorem lg_or {n i : Nat} (hn : n < 2 ^ 60) (hi : i < 4) : Int64.ofInt ((4 * n : Nat) : Int) ||| Int64.ofInt (i : Int) = Int64.ofInt ((4 * n + i : Nat) : Int) := by
  apply Int64.toBitVec_inj.mp
  rw [Int64.toBitVec_or, lg_bv, lg_bv, lg_bv]
  apply BitVec.eq_of_toNat_eq
  rw [BitVec.toNat_or, BitVec.toNat_ofNat, BitVec.toNat_ofNat, BitVec.toNat_ofNat, Nat.mod_eq_of_lt (show 4 * n < 2 ^ 64 by omega), Nat.mod_eq_of_lt (show i < 2 ^ 64 by omega), Nat.mod_eq_of_lt (show 4 * n + i < 2 ^ 64 by omega)]
  exact (Nat.two_pow_add_eq_or_of_lt (i := 2) hi n).symm
theorem lg_and {n : Nat} (hn : n < 2 ^ 63) : Int64.ofInt (n : Int) &&& Int64.ofInt 3 = Int64.ofInt ((n % 4 : Nat) : Int) := by
  apply Int64.toBitVec_inj.mp
  have h3 : (Int64.ofInt 3).toBitVec = BitVec.ofNat 64 3 := lg_bv 3
  rw [Int64.toBitVec_and, lg_bv, h3, lg_bv]
  apply BitVec.eq_of_toNat_eq
  rw [BitVec.toNat_and, BitVec.toNat_ofNat, BitVec.toNat_ofNat, BitVec.toNat_ofNat, Nat.mod_eq_of_lt (show n < 2 ^ 64 by omega), Nat.mod_eq_of_lt (show 3 < 2 ^ 64 by omega), Nat.mod_eq_of_lt (show n % 4 < 2 ^ 64 by omega)]
  exact Nat.and_two_pow_sub_one_eq_mod n 2

section AJV
variable {E : aj_E} {al ao : Prop} {X : Option (Nat × (Int → Int))} {M : aj_M} {d bc bs pc : Nat} {lv : List (Option aj_A)} {st : List aj_A} {sh : List aj_S} {g : aj_G} {Q : aj_R → List aj_S → aj_G → Prop}
theorem aj_getfv {index ci t : Nat} {jz r v : Int} (q : Nat) (hf : aj_fl E M.1.cls index ci t jz) (hd : decode M.2.1 pc = .ok (.getfield index, 3)) (hq : pc + 3 = q) (hs : aj_sh sh r = some (.inr ci)) (hv : g r jz = v) (k : aj_wp E al ao X M d bc bs q lv ((t, v) :: st) sh g Q) : aj_wp E al ao X M d bc bs pc lv ((1, r) :: st) sh g Q :=
  aj_getf q hf hd hq hs (by rw [hv]; exact k)
end AJV
def mo_t : List (Nat × Nat × Nat × Nat) := [(3, 79, 0, 24), (4, 80, 0, 24), (7, 81, 0, 64), (9, 82, 0, 8), (10, 83, 0, 8), (11, 84, 2, 8), (13, 85, 2, 28), (14, 86, 0, 8), (15, 87, 0, 64), (18, 88, 0, 30), (19, 89, 0, 30), (22, 90, 0, 2403), (24, 91, 0, 2403), (26, 92, 0, 801), (27, 93, 0, 801), (28, 94, 0, 801), (32, 95, 0, 64), (33, 96, 0, 80), (34, 97, 1, 80), (35, 98, 2, 80), (36, 99, 1, 24)]
/-- the model's rows -/
def mos (sh : List aj_S) (g : aj_G) : Prop := aj_sh sh 78 = some (.inr 8) ∧ ∀ q ∈ mo_t, g 78 (q.1 : Nat) = (q.2.1 : Nat) ∧ aj_sh sh ((q.2.1 : Nat) : Int) = some (.inl (q.2.2.1, q.2.2.2))
def mo_fin (j : Int) : Prop := j = 3 ∨ j = 4 ∨ j = 7 ∨ j = 9 ∨ j = 10 ∨ j = 11 ∨ j = 13 ∨ j = 14 ∨ j = 15 ∨ j = 18 ∨ j = 19 ∨ j = 22 ∨ j = 24 ∨ j = 26 ∨ j = 27 ∨ j = 28 ∨ j = 32 ∨ j = 33 ∨ j = 34 ∨ j = 35 ∨ j = 36
theorem mo_in {q : Nat × Nat × Nat × Nat} (h : q ∈ mo_t) : mo_fin (q.1 : Nat) := by
  unfold mo_t at h
  simp only [List.mem_cons, List.not_mem_nil, or_false] at h
  unfold mo_fin
  rcases h with h | h | h | h | h | h | h | h | h | h | h | h | h | h | h | h | h | h | h | h | h <;> (subst h; simp)
theorem mos_of {sh : List aj_S} {g g1 : aj_G} (h : mos sh g) (e : ∀ j, mo_fin j → g1 78 j = g 78 j) : mos sh g1 := ⟨h.1, fun q hq => ⟨by rw [e _ (mo_in hq)]; exact (h.2 q hq).1, (h.2 q hq).2⟩⟩
theorem mf_next {sh : List aj_S} {g : aj_G} (h : mos sh g) : g 78 3 = 79 := (h.2 (3, 79, 0, 24) (by decide)).1
theorem ms_next {sh : List aj_S} {g : aj_G} (h : mos sh g) : aj_sh sh 79 = some (.inl (0, 24)) := (h.2 (3, 79, 0, 24) (by decide)).2
theorem mf_output {sh : List aj_S} {g : aj_G} (h : mos sh g) : g 78 4 = 80 := (h.2 (4, 80, 0, 24) (by decide)).1
theorem ms_output {sh : List aj_S} {g : aj_G} (h : mos sh g) : aj_sh sh 80 = some (.inl (0, 24)) := (h.2 (4, 80, 0, 24) (by decide)).2
theorem mf_told {sh : List aj_S} {g : aj_G} (h : mos sh g) : g 78 7 = 81 := (h.2 (7, 81, 0, 64) (by decide)).1
theorem ms_told {sh : List aj_S} {g : aj_G} (h : mos sh g) : aj_sh sh 81 = some (.inl (0, 64)) := (h.2 (7, 81, 0, 64) (by decide)).2
theorem mf_minimalOf {sh : List aj_S} {g : aj_G} (h : mos sh g) : g 78 9 = 82 := (h.2 (9, 82, 0, 8) (by decide)).1
theorem ms_minimalOf {sh : List aj_S} {g : aj_G} (h : mos sh g) : aj_sh sh 82 = some (.inl (0, 8)) := (h.2 (9, 82, 0, 8) (by decide)).2
theorem mf_stateOf {sh : List aj_S} {g : aj_G} (h : mos sh g) : g 78 10 = 83 := (h.2 (10, 83, 0, 8) (by decide)).1
theorem ms_stateOf {sh : List aj_S} {g : aj_G} (h : mos sh g) : aj_sh sh 83 = some (.inl (0, 8)) := (h.2 (10, 83, 0, 8) (by decide)).2
theorem mf_access {sh : List aj_S} {g : aj_G} (h : mos sh g) : g 78 11 = 84 := (h.2 (11, 84, 2, 8) (by decide)).1
theorem ms_access {sh : List aj_S} {g : aj_G} (h : mos sh g) : aj_sh sh 84 = some (.inl (2, 8)) := (h.2 (11, 84, 2, 8) (by decide)).2
theorem mf_family {sh : List aj_S} {g : aj_G} (h : mos sh g) : g 78 13 = 85 := (h.2 (13, 85, 2, 28) (by decide)).1
theorem ms_family {sh : List aj_S} {g : aj_G} (h : mos sh g) : aj_sh sh 85 = some (.inl (2, 28)) := (h.2 (13, 85, 2, 28) (by decide)).2
theorem mf_owns {sh : List aj_S} {g : aj_G} (h : mos sh g) : g 78 14 = 86 := (h.2 (14, 86, 0, 8) (by decide)).1
theorem ms_owns {sh : List aj_S} {g : aj_G} (h : mos sh g) : aj_sh sh 86 = some (.inl (0, 8)) := (h.2 (14, 86, 0, 8) (by decide)).2
theorem mf_own {sh : List aj_S} {g : aj_G} (h : mos sh g) : g 78 15 = 87 := (h.2 (15, 87, 0, 64) (by decide)).1
theorem ms_own {sh : List aj_S} {g : aj_G} (h : mos sh g) : aj_sh sh 87 = some (.inl (0, 64)) := (h.2 (15, 87, 0, 64) (by decide)).2
theorem mf_goes {sh : List aj_S} {g : aj_G} (h : mos sh g) : g 78 18 = 88 := (h.2 (18, 88, 0, 30) (by decide)).1
theorem ms_goes {sh : List aj_S} {g : aj_G} (h : mos sh g) : aj_sh sh 88 = some (.inl (0, 30)) := (h.2 (18, 88, 0, 30) (by decide)).2
theorem mf_gives {sh : List aj_S} {g : aj_G} (h : mos sh g) : g 78 19 = 89 := (h.2 (19, 89, 0, 30) (by decide)).1
theorem ms_gives {sh : List aj_S} {g : aj_G} (h : mos sh g) : aj_sh sh 89 = some (.inl (0, 30)) := (h.2 (19, 89, 0, 30) (by decide)).2
theorem mf_child {sh : List aj_S} {g : aj_G} (h : mos sh g) : g 78 22 = 90 := (h.2 (22, 90, 0, 2403) (by decide)).1
theorem ms_child {sh : List aj_S} {g : aj_G} (h : mos sh g) : aj_sh sh 90 = some (.inl (0, 2403)) := (h.2 (22, 90, 0, 2403) (by decide)).2
theorem mf_newChild {sh : List aj_S} {g : aj_G} (h : mos sh g) : g 78 24 = 91 := (h.2 (24, 91, 0, 2403) (by decide)).1
theorem ms_newChild {sh : List aj_S} {g : aj_G} (h : mos sh g) : aj_sh sh 91 = some (.inl (0, 2403)) := (h.2 (24, 91, 0, 2403) (by decide)).2
theorem mf_testPlace {sh : List aj_S} {g : aj_G} (h : mos sh g) : g 78 26 = 92 := (h.2 (26, 92, 0, 801) (by decide)).1
theorem ms_testPlace {sh : List aj_S} {g : aj_G} (h : mos sh g) : aj_sh sh 92 = some (.inl (0, 801)) := (h.2 (26, 92, 0, 801) (by decide)).2
theorem mf_parent {sh : List aj_S} {g : aj_G} (h : mos sh g) : g 78 27 = 93 := (h.2 (27, 93, 0, 801) (by decide)).1
theorem ms_parent {sh : List aj_S} {g : aj_G} (h : mos sh g) : aj_sh sh 93 = some (.inl (0, 801)) := (h.2 (27, 93, 0, 801) (by decide)).2
theorem mf_by {sh : List aj_S} {g : aj_G} (h : mos sh g) : g 78 28 = 94 := (h.2 (28, 94, 0, 801) (by decide)).1
theorem ms_by {sh : List aj_S} {g : aj_G} (h : mos sh g) : aj_sh sh 94 = some (.inl (0, 801)) := (h.2 (28, 94, 0, 801) (by decide)).2
theorem mf_path {sh : List aj_S} {g : aj_G} (h : mos sh g) : g 78 32 = 95 := (h.2 (32, 95, 0, 64) (by decide)).1
theorem ms_path {sh : List aj_S} {g : aj_G} (h : mos sh g) : aj_sh sh 95 = some (.inl (0, 64)) := (h.2 (32, 95, 0, 64) (by decide)).2
theorem mf_seen {sh : List aj_S} {g : aj_G} (h : mos sh g) : g 78 33 = 96 := (h.2 (33, 96, 0, 80) (by decide)).1
theorem ms_seen {sh : List aj_S} {g : aj_G} (h : mos sh g) : aj_sh sh 96 = some (.inl (0, 80)) := (h.2 (33, 96, 0, 80) (by decide)).2
theorem mf_came {sh : List aj_S} {g : aj_G} (h : mos sh g) : g 78 34 = 97 := (h.2 (34, 97, 1, 80) (by decide)).1
theorem ms_came {sh : List aj_S} {g : aj_G} (h : mos sh g) : aj_sh sh 97 = some (.inl (1, 80)) := (h.2 (34, 97, 1, 80) (by decide)).2
theorem mf_trail {sh : List aj_S} {g : aj_G} (h : mos sh g) : g 78 35 = 98 := (h.2 (35, 98, 2, 80) (by decide)).1
theorem ms_trail {sh : List aj_S} {g : aj_G} (h : mos sh g) : aj_sh sh 98 = some (.inl (2, 80)) := (h.2 (35, 98, 2, 80) (by decide)).2
theorem mf_gone {sh : List aj_S} {g : aj_G} (h : mos sh g) : g 78 36 = 99 := (h.2 (36, 99, 1, 24) (by decide)).1
theorem ms_gone {sh : List aj_S} {g : aj_G} (h : mos sh g) : aj_sh sh 99 = some (.inl (1, 24)) := (h.2 (36, 99, 1, 24) (by decide)).2
theorem ld_116 : Cond.constantLong "TestBenchModel" 116 (Int64.ofInt 3) ∈ nm_ws := nm_at 921 (by decide +kernel) rfl
theorem wd_lt63 {w : List Nat} (hw : wd_ok 4 w) (hl : w.length ≤ 24) : wd_cd w < 2 ^ 60 := by
  have := wd_bound hw hl
  omega
set_option maxHeartbeats 4000000 in
theorem k_length_loop {al : Prop} {X : Option (Nat × (Int → Int))} {d : Nat} {sh : List aj_S} {g : aj_G} {Q : aj_R → List aj_S → aj_G → Prop} {w : List Nat} (hw : wd_ok 4 w) (hl : w.length ≤ 24) (hk : Q (.inl (some (0, (w.length : Int)))) sh g) : ∀ (m j : Nat), j + m = w.length →
    aj_wp nE al al X m_Model_length d 0 0 4 [some (2, (wd_cd w : Int)), none, some (0, (j : Int)), some (2, (wd_cd (w.drop j) : Int)), none] [] sh g Q := by
  intro m
  induction m with
  | zero =>
    intro j hj
    rw [show j = w.length by omega, List.drop_length]
    refine aj_lload_n 3 5 (dx d_Model_length 4 rfl) rfl rfl rfl ?_
    refine aj_lconst (x := 1) 6 (dx d_Model_length 5 rfl) rfl rfl ?_
    refine aj_lcmp 7 (dx d_Model_length 6 rfl) rfl (by unfold aj_L wd_cd; omega) (by unfold aj_L; omega) ?_
    refine aj_if_le 20 10 (dx d_Model_length 7 rfl) rfl rfl (by unfold aj_I aj_sg; split <;> (try split) <;> omega) (fun h7 => ?_) (fun h7 => ?_)
    · refine aj_iload_n 2 21 (dx d_Model_length 14 rfl) rfl rfl rfl ?_
      refine aj_iret (dx d_Model_length 15 rfl) rfl id ?_
      exact hk
    · exact absurd h7 (by decide)
  | succ m ih =>
    intro j hj
    have hok : wd_ok 4 (w.drop j) := fun i hi => hw i (List.mem_of_mem_drop hi)
    have hlen : (w.drop j).length = w.length - j := List.length_drop
    have hb := wd_lt63 hok (by omega)
    have hg : 1 < wd_cd (w.drop j) := wd_gt1.mpr (by omega)
    have hdv : wd_cd (w.drop j) / 2 ^ 2 = wd_cd (w.drop (j + 1)) := by
      have := wd_div 1 (w.drop j) hok (by omega)
      rw [List.drop_drop] at this
      exact this
    refine aj_lload_n 3 5 (dx d_Model_length 4 rfl) rfl rfl rfl ?_
    refine aj_lconst (x := 1) 6 (dx d_Model_length 5 rfl) rfl rfl ?_
    refine aj_lcmp 7 (dx d_Model_length 6 rfl) rfl (by unfold aj_L; omega) (by unfold aj_L; omega) ?_
    refine aj_if_le 20 10 (dx d_Model_length 7 rfl) rfl rfl (by unfold aj_I aj_sg; split <;> (try split) <;> omega) (fun h7 => ?_) (fun h7 => ?_)
    · rw [aj_sg, if_pos (by omega)] at h7; exact absurd h7 (by decide)
    · refine aj_iinc 2 13 (dx d_Model_length 8 rfl) rfl rfl rfl ?_
      simp only [List.set]
      refine aj_lload_n 3 14 (dx d_Model_length 9 rfl) rfl rfl rfl ?_
      refine aj_iconst 15 (dx d_Model_length 10 rfl) rfl ?_
      refine aj_lshr 16 (dx d_Model_length 11 rfl) rfl (lg_shr (y := 2) (by omega) (by omega)) ?_
      refine aj_lstore_n 3 17 (dx d_Model_length 12 rfl) rfl rfl rfl rfl ?_
      simp only [List.set]
      refine aj_goto 4 (dx d_Model_length 13 rfl) rfl ?_
      have hih := ih (j + 1) (by omega)
      rw [← hdv] at hih
      rw [show ((j : Nat) : Int) + 1 = ((j + 1 : Nat) : Int) by omega]
      exact hih
set_option maxHeartbeats 4000000 in
theorem k_Model_length {al : Prop} {X : Option (Nat × (Int → Int))} {d : Nat} {sh : List aj_S} {g : aj_G} {Q : aj_R → List aj_S → aj_G → Prop} {w : List Nat} (hw : wd_ok 4 w) (hl : w.length ≤ 24) (hk : Q (.inl (some (0, (w.length : Int)))) sh g) : aj_wp nE al al X m_Model_length d 0 0 0 [some (2, (wd_cd w : Int)), none, none, none, none] [] sh g Q := by
  refine aj_iconst 1 (dx d_Model_length 0 rfl) rfl ?_
  refine aj_istore_n 2 2 (dx d_Model_length 1 rfl) rfl rfl rfl ?_
  simp only [List.set]
  refine aj_lload_n 0 3 (dx d_Model_length 2 rfl) rfl rfl rfl ?_
  refine aj_lstore_n 3 4 (dx d_Model_length 3 rfl) rfl rfl rfl rfl ?_
  simp only [List.set]
  exact k_length_loop hw hl hk w.length 0 (by omega)
theorem wd_at {w : List Nat} (hw : wd_ok 4 w) {i : Nat} (hi : i < w.length) : wd_cd w / 2 ^ (2 * (w.length - 1 - i)) % 4 = w[w.length - 1 - i] := by
  have := wd_dig (j := w.length - 1 - i) hw (by omega)
  rw [show 2 ^ (2 * (w.length - 1 - i)) = 4 ^ (w.length - 1 - i) by rw [Nat.pow_mul]]
  exact this
set_option maxHeartbeats 4000000 in
theorem k_Model_at {al : Prop} {X : Option (Nat × (Int → Int))} {d : Nat} {sh : List aj_S} {g : aj_G} {Q : aj_R → List aj_S → aj_G → Prop} {w : List Nat} (hw : wd_ok 4 w) (hl : w.length ≤ 24) {i : Nat} (hi : i < w.length) (hk : Q (.inl (some (0, (w[w.length - 1 - i] : Int)))) sh g) : aj_wp nE al al X m_Model_at (d + 1) 0 0 0 [some (2, (wd_cd w : Int)), none, some (0, (i : Int))] [] sh g Q := by
  have hb := wd_lt63 hw hl
  have hlt : wd_cd w / 2 ^ (2 * (w.length - 1 - i)) < 2 ^ 60 := Nat.lt_of_le_of_lt (Nat.div_le_self _ _) hb
  refine aj_lload_n 0 1 (dx d_Model_at 0 rfl) rfl rfl rfl ?_
  refine aj_iconst 2 (dx d_Model_at 1 rfl) rfl ?_
  refine aj_lload_n 0 3 (dx d_Model_at 2 rfl) rfl rfl rfl ?_
  refine aj_callS1 6 cl_Model_112 (dx d_Model_at 3 rfl) rfl rfl rfl rfl rfl rfl (k_Model_length hw hl ?_)
  change aj_wp _ _ _ _ _ _ _ _ _ _ _ _ _ _
  refine aj_iconst 7 (dx d_Model_at 4 rfl) rfl ?_
  refine aj_isub 8 (dx d_Model_at 5 rfl) rfl ?_
  refine aj_iload_n 2 9 (dx d_Model_at 6 rfl) rfl rfl rfl ?_
  refine aj_isub 10 (dx d_Model_at 7 rfl) rfl ?_
  refine aj_imul 11 (dx d_Model_at 8 rfl) rfl ?_
  refine aj_lshr 12 (dx d_Model_at 9 rfl) rfl (by rw [show (2 : Int) * ((w.length : Int) - 1 - (i : Int)) = ((2 * (w.length - 1 - i) : Nat) : Int) by omega]; exact lg_shr (by omega) (by omega)) ?_
  refine aj_ldc2 15 ld_116 (dx d_Model_at 10 rfl) rfl ?_
  refine aj_land 16 (dx d_Model_at 11 rfl) rfl (lg_and (by omega)) ?_
  refine aj_l2i 17 (dx d_Model_at 12 rfl) rfl ?_
  refine aj_iret (dx d_Model_at 13 rfl) rfl id ?_
  rw [wd_at hw hi]
  exact hk
