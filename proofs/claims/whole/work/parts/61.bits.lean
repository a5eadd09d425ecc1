/-! Integer.bitCount -/
section AJB
variable {E : aj_E} {al ao : Prop} {X : Option (Nat × (Int → Int))} {M : aj_M} {d bc bs pc : Nat} {lv : List (Option aj_A)} {st : List aj_A} {sh : List aj_S} {g : aj_G} {Q : aj_R → List aj_S → aj_G → Prop}
theorem aj_iushr {x y v : Int} (q : Nat) (hd : decode M.2.1 pc = .ok (.iushr, 1)) (hq : pc + 1 = q) (hv : ((Int32.ofInt x).toUInt32 >>> ((Int32.ofInt y).toUInt32 &&& Int32.toUInt32 31)).toInt32 = Int32.ofInt v) (k : aj_wp E al ao X M d bc bs q lv ((0, v) :: st) sh g Q) : aj_wp E al ao X M d bc bs pc lv ((0, y) :: (0, x) :: st) sh g Q := by
  subst hq
  exact aj_lift (fun p l e R s m args below meth c H locs cells slots Z ls a hx hb hls k => lv_iushr (x := Int32.ofInt x) (y := Int32.ofInt y) hx hb hd hv k) k
theorem aj_ldcw {index : Nat} {x : Int} (q : Nat) (hw : Cond.constant M.1.cls index (Int32.ofInt x) ∈ E.2.2.2.1) (hd : decode M.2.1 pc = .ok (.ldc_w index, 3)) (hq : pc + 3 = q) (k : aj_wp E al ao X M d bc bs q lv ((0, x) :: st) sh g Q) : aj_wp E al ao X M d bc bs pc lv st sh g Q := by
  subst hq
  intro p l e R s m args below meth c H locs cells slots ls a tc D A hc0
  have kk := k p l e R s m args below meth c H locs cells slots ls a tc D A hc0
  obtain ⟨h1, h2, h3, h4, h5, h6, h7⟩ := hc0
  exact lv_ldcw h1.1 h1.2.1 h1.2.2.2.1 (h1.2.2.2.2 _ hw) hd kk
end AJB
theorem ib_bv (n : Nat) : (Int32.ofInt (n : Int)).toBitVec = BitVec.ofNat 32 n := by
  show (BitVec.ofInt 32 (n : Int)) = _
  exact BitVec.ofInt_natCast 32 n
theorem ib_and {x y : Nat} (hx : x < 2 ^ 32) (hy : y < 2 ^ 32) : Int32.ofInt (x : Int) &&& Int32.ofInt (y : Int) = Int32.ofInt ((x &&& y : Nat) : Int) := by
  apply Int32.toBitVec_inj.mp
  rw [Int32.toBitVec_and, ib_bv, ib_bv, ib_bv]
  apply BitVec.eq_of_toNat_eq
  rw [BitVec.toNat_and, BitVec.toNat_ofNat, BitVec.toNat_ofNat, BitVec.toNat_ofNat, Nat.mod_eq_of_lt hx, Nat.mod_eq_of_lt hy, Nat.mod_eq_of_lt (Nat.lt_of_le_of_lt Nat.and_le_left hx)]
theorem ib_or {x y : Nat} (hx : x < 2 ^ 32) (hy : y < 2 ^ 32) : Int32.ofInt (x : Int) ||| Int32.ofInt (y : Int) = Int32.ofInt ((x ||| y : Nat) : Int) := by
  apply Int32.toBitVec_inj.mp
  rw [Int32.toBitVec_or, ib_bv, ib_bv, ib_bv]
  apply BitVec.eq_of_toNat_eq
  rw [BitVec.toNat_or, BitVec.toNat_ofNat, BitVec.toNat_ofNat, BitVec.toNat_ofNat, Nat.mod_eq_of_lt hx, Nat.mod_eq_of_lt hy, Nat.mod_eq_of_lt (Nat.or_lt_two_pow hx hy)]
theorem ib_1 : ∀ e, e < 31 → Int32.ofInt 1 <<< (Int32.ofInt ((e : Nat) : Int) &&& 31) = Int32.ofInt ((2 ^ e : Nat) : Int) := by decide +kernel
theorem ib_ct : ∀ y, y < 32 → ((Int32.ofInt ((y : Nat) : Int)).toUInt32 &&& Int32.toUInt32 31) = UInt32.ofNat y := by decide +kernel
theorem ib_u (n : Nat) : (Int32.ofInt (n : Int)).toUInt32 = UInt32.ofNat n := by
  apply UInt32.toBitVec_inj.mp
  exact ib_bv n
theorem ib_shr {n y : Nat} (hn : n < 2 ^ 32) (hy : y < 32) : ((Int32.ofInt (n : Int)).toUInt32 >>> ((Int32.ofInt (y : Int)).toUInt32 &&& Int32.toUInt32 31)).toInt32 = Int32.ofInt ((n / 2 ^ y : Nat) : Int) := by
  rw [ib_ct y hy, ib_u]
  apply Int32.toBitVec_inj.mp
  rw [ib_bv]
  apply BitVec.eq_of_toNat_eq
  have hd : n / 2 ^ y < 2 ^ 32 := Nat.lt_of_le_of_lt (Nat.div_le_self _ _) hn
  rw [BitVec.toNat_ofNat, Nat.mod_eq_of_lt hd]
  show (UInt32.ofNat n >>> UInt32.ofNat y).toNat = _
  rw [UInt32.toNat_shiftRight, show (UInt32.ofNat n).toNat = n % 2 ^ 32 from rfl, show (UInt32.ofNat y).toNat = y % 2 ^ 32 from rfl, Nat.mod_eq_of_lt hn, Nat.mod_eq_of_lt (show y < 2 ^ 32 by omega), Nat.mod_eq_of_lt hy, Nat.shiftRight_eq_div_pow]
/-! the sum of the bits, byte by byte -/
theorem bt_and {a b m n : Nat} (ha : a < 256) (hm : m < 256) : (a + 256 * b) &&& (m + 256 * n) = (a &&& m) + 256 * (b &&& n) := by
  have h1 : ((a + 256 * b) &&& (m + 256 * n)) % 2 ^ 8 = (a &&& m) := by
    rw [Nat.and_mod_two_pow, show (a + 256 * b) % 2 ^ 8 = a by omega, show (m + 256 * n) % 2 ^ 8 = m by omega]
  have h2 : ((a + 256 * b) &&& (m + 256 * n)) / 2 ^ 8 = (b &&& n) := by
    rw [Nat.and_div_two_pow, show (a + 256 * b) / 2 ^ 8 = b by omega, show (m + 256 * n) / 2 ^ 8 = n by omega]
  omega
def p1 (a : Nat) : Nat := a - ((a / 2) &&& 85)
def p2 (a : Nat) : Nat := (a &&& 51) + ((a / 4) &&& 51)
def p3 (a : Nat) : Nat := (a + a / 16) &&& 15
theorem p1_lt : ∀ a, a < 256 → p1 a ≤ 170 ∧ (a / 2 &&& 85) ≤ a ∧ ∀ e, e < 2 → ((a / 2 + 128 * e) &&& 85) = (a / 2 &&& 85) := by decide +kernel
theorem p2_lt : ∀ a, a < 256 → p2 (p1 a) ≤ 68 ∧ (p1 a &&& 51) + (p1 a / 4 &&& 51) < 256 ∧ ∀ e, e < 4 → ((p1 a / 4 + 64 * e) &&& 51) = (p1 a / 4 &&& 51) := by decide +kernel
theorem p2_m : ∀ a, a < 256 → p2 (p1 a) % 16 ≤ 4 := by decide +kernel
theorem p3_e : ∀ a, a < 69 → ∀ e, e < 5 → ((a + a / 16 + 16 * e) &&& 15) = p3 a := by decide +kernel
def bt8 (a : Nat) : Nat := (a.testBit 0).toNat + (a.testBit 1).toNat + (a.testBit 2).toNat + (a.testBit 3).toNat + (a.testBit 4).toNat + (a.testBit 5).toNat + (a.testBit 6).toNat + (a.testBit 7).toNat
theorem p3_b : ∀ a, a < 256 → p3 (p2 (p1 a)) = bt8 a := by decide +kernel
theorem bt8_le : ∀ a, a < 256 → bt8 a ≤ 8 := by decide +kernel
theorem bt_1 {a b c : Nat} (ha : a < 256) (hb : b < 256) (hc : c < 256) : (a + 256 * (b + 256 * c)) - ((a + 256 * (b + 256 * c)) / 2 &&& 1431655765) = p1 a + 256 * (p1 b + 256 * p1 c) ∧ ((a + 256 * (b + 256 * c)) / 2 &&& 1431655765) ≤ a + 256 * (b + 256 * c) := by
  have h1 : ((a + 256 * (b + 256 * c)) / 2 &&& 1431655765) = (a / 2 &&& 85) + 256 * ((b / 2 &&& 85) + 256 * (c / 2 &&& 85)) := by
    rw [show (a + 256 * (b + 256 * c)) / 2 = (a / 2 + 128 * (b % 2)) + 256 * ((b / 2 + 128 * (c % 2)) + 256 * (c / 2 + 256 * 0)) by omega, show (1431655765 : Nat) = 85 + 256 * (85 + 256 * (85 + 256 * 85)) by rfl, bt_and (by omega) (by omega), bt_and (by omega) (by omega), bt_and (by omega) (by omega), (p1_lt a ha).2.2 _ (by omega), (p1_lt b hb).2.2 _ (by omega), Nat.zero_and, Nat.mul_zero, Nat.add_zero]
  have ea := (p1_lt a ha).2.1
  have eb := (p1_lt b hb).2.1
  have ec := (p1_lt c hc).2.1
  rw [h1]
  unfold p1
  omega
theorem bt_2 {a b c : Nat} (ha : a < 256) (hb : b < 256) (hc : c < 256) : ((p1 a + 256 * (p1 b + 256 * p1 c)) &&& 858993459) + ((p1 a + 256 * (p1 b + 256 * p1 c)) / 4 &&& 858993459) = p2 (p1 a) + 256 * (p2 (p1 b) + 256 * p2 (p1 c)) := by
  have la := (p1_lt a ha).1
  have lb := (p1_lt b hb).1
  have lc := (p1_lt c hc).1
  have h1 : ((p1 a + 256 * (p1 b + 256 * p1 c)) / 4 &&& 858993459) = (p1 a / 4 &&& 51) + 256 * ((p1 b / 4 &&& 51) + 256 * (p1 c / 4 &&& 51)) := by
    rw [show (p1 a + 256 * (p1 b + 256 * p1 c)) / 4 = (p1 a / 4 + 64 * (p1 b % 4)) + 256 * ((p1 b / 4 + 64 * (p1 c % 4)) + 256 * (p1 c / 4 + 256 * 0)) by omega, show (858993459 : Nat) = 51 + 256 * (51 + 256 * (51 + 256 * 51)) by rfl, bt_and (by omega) (by omega), bt_and (by omega) (by omega), bt_and (by omega) (by omega), (p2_lt a ha).2.2 _ (by omega), (p2_lt b hb).2.2 _ (by omega), Nat.zero_and, Nat.mul_zero, Nat.add_zero]
  have h2 : ((p1 a + 256 * (p1 b + 256 * p1 c)) &&& 858993459) = (p1 a &&& 51) + 256 * ((p1 b &&& 51) + 256 * (p1 c &&& 51)) := by
    rw [show p1 a + 256 * (p1 b + 256 * p1 c) = p1 a + 256 * (p1 b + 256 * (p1 c + 256 * 0)) by omega, show (858993459 : Nat) = 51 + 256 * (51 + 256 * (51 + 256 * 51)) by rfl, bt_and (by omega) (by omega), bt_and (by omega) (by omega), bt_and (by omega) (by omega), Nat.zero_and, Nat.mul_zero, Nat.add_zero]
  rw [h1, h2]
  unfold p2
  omega
theorem bt_3 {a b c : Nat} (ha : a < 256) (hb : b < 256) (hc : c < 256) : (((p2 (p1 a) + 256 * (p2 (p1 b) + 256 * p2 (p1 c))) + (p2 (p1 a) + 256 * (p2 (p1 b) + 256 * p2 (p1 c))) / 16) &&& 252645135) = bt8 a + 256 * (bt8 b + 256 * bt8 c) := by
  have la := (p2_lt a ha).1
  have lb := (p2_lt b hb).1
  have lc := (p2_lt c hc).1
  have mb := p2_m b hb
  have mc := p2_m c hc
  rw [show (p2 (p1 a) + 256 * (p2 (p1 b) + 256 * p2 (p1 c))) + (p2 (p1 a) + 256 * (p2 (p1 b) + 256 * p2 (p1 c))) / 16 = (p2 (p1 a) + p2 (p1 a) / 16 + 16 * (p2 (p1 b) % 16)) + 256 * ((p2 (p1 b) + p2 (p1 b) / 16 + 16 * (p2 (p1 c) % 16)) + 256 * ((p2 (p1 c) + p2 (p1 c) / 16 + 16 * 0) + 256 * 0)) by omega, show (252645135 : Nat) = 15 + 256 * (15 + 256 * (15 + 256 * 15)) by rfl, bt_and (by omega) (by omega), bt_and (by omega) (by omega), bt_and (by omega) (by omega), p3_e _ (by omega) _ (by omega), p3_e _ (by omega) _ (by omega), p3_e _ (by omega) _ (by omega), p3_b a ha, p3_b b hb, p3_b c hc, Nat.zero_and, Nat.mul_zero, Nat.add_zero]
theorem mo_c_b (P : Nat → Prop) (t : Nat → Bool) (n : Nat) (h : ∀ e, e < n → (P e ↔ t e = true)) : ∀ m, m ≤ n → mo_c P m = ((List.range m).map (fun e => (t e).toNat)).sum
  | 0, _ => rfl
  | m + 1, hm => by
    rw [List.range_succ, List.map_append, List.sum_append, ← mo_c_b P t n h m (by omega)]
    by_cases c : P m
    · rw [mo_c_t c]
      simp [(h m hm).mp c]
    · rw [mo_c_f c]
      have : t m = false := by
        cases e : t m
        · rfl
        · exact absurd ((h m hm).mpr e) c
      simp [this]
theorem bt_all {s : Nat} (hs : s < 2 ^ 24) : mo_c (fun e => s.testBit e = true) 24 = bt8 (s % 256) + (bt8 (s / 256 % 256) + bt8 (s / 65536)) := by
  rw [mo_c_b (fun e => s.testBit e = true) (fun e => s.testBit e) 24 (fun e _ => Iff.rfl) 24 (Nat.le_refl _)]
  have h1 : ∀ e, e < 8 → (s % 256).testBit e = s.testBit e := fun e he => by
    rw [show (256 : Nat) = 2 ^ 8 from rfl, Nat.testBit_mod_two_pow]
    simp [he]
  have h2 : ∀ e, e < 8 → (s / 256 % 256).testBit e = s.testBit (e + 8) := fun e he => by
    rw [show s / 256 % 256 = s / 2 ^ 8 % 2 ^ 8 from rfl, Nat.testBit_mod_two_pow, Nat.testBit_div_two_pow]
    simp [he, Nat.add_comm]
  have h3 : ∀ e, (s / 65536).testBit e = s.testBit (e + 16) := fun e => by
    rw [show s / 65536 = s / 2 ^ 16 from rfl, Nat.testBit_div_two_pow, Nat.add_comm]
  unfold bt8
  rw [h1 0 (by omega), h1 1 (by omega), h1 2 (by omega), h1 3 (by omega), h1 4 (by omega), h1 5 (by omega), h1 6 (by omega), h1 7 (by omega), h2 0 (by omega), h2 1 (by omega), h2 2 (by omega), h2 3 (by omega), h2 4 (by omega), h2 5 (by omega), h2 6 (by omega), h2 7 (by omega), h3, h3, h3, h3, h3, h3, h3, h3]
  show ((List.range 24).map (fun e => (s.testBit e).toNat)).sum = _
  simp only [show List.range 24 = [0, 1, 2, 3, 4, 5, 6, 7, 8, 9, 10, 11, 12, 13, 14, 15, 16, 17, 18, 19, 20, 21, 22, 23] from rfl, List.map, List.sum_cons, List.sum_nil, Nat.zero_add, Nat.reduceAdd]
  omega
def m_bitCount : aj_M := (⟨"java/lang/Integer", "bitCount", "(I)I"⟩, prog_14_method_49_code, 1, (some .int))
def l_bitCount : List (Nat × Instr × Nat) := [(0, .iload_n 0, 1), (1, .iload_n 0, 1), (2, .iconst 1, 1), (3, .iushr, 1), (4, .ldc_w 265, 3), (7, .iand, 1), (8, .isub, 1), (9, .istore_n 0, 1), (10, .iload_n 0, 1), (11, .ldc_w 266, 3), (14, .iand, 1), (15, .iload_n 0, 1), (16, .iconst 2, 1), (17, .iushr, 1), (18, .ldc_w 266, 3), (21, .iand, 1), (22, .iadd, 1), (23, .istore_n 0, 1), (24, .iload_n 0, 1), (25, .iload_n 0, 1), (26, .iconst 4, 1), (27, .iushr, 1), (28, .iadd, 1), (29, .ldc_w 267, 3), (32, .iand, 1), (33, .istore_n 0, 1), (34, .iload_n 0, 1), (35, .iload_n 0, 1), (36, .bipush 8, 2), (38, .iushr, 1), (39, .iadd, 1), (40, .istore_n 0, 1), (41, .iload_n 0, 1), (42, .iload_n 0, 1), (43, .bipush 16, 2), (45, .iushr, 1), (46, .iadd, 1), (47, .istore_n 0, 1), (48, .iload_n 0, 1), (49, .bipush 63, 2), (51, .iand, 1), (52, .ireturn, 1)]
theorem d_bitCount : l_bitCount.all (fun q => decide (decode prog_14_method_49_code q.1 = .ok (q.2.1, q.2.2))) = true := by decide +kernel
theorem ld_265 : Cond.constant "java/lang/Integer" 265 (Int32.ofInt 1431655765) ∈ nm_ws := nm_at 429 (by decide +kernel) rfl
theorem ld_266 : Cond.constant "java/lang/Integer" 266 (Int32.ofInt 858993459) ∈ nm_ws := nm_at 430 (by decide +kernel) rfl
theorem ld_267 : Cond.constant "java/lang/Integer" 267 (Int32.ofInt 252645135) ∈ nm_ws := nm_at 431 (by decide +kernel) rfl
theorem wc_bitCount : Cond.code m_bitCount.1 m_bitCount.2.1 m_bitCount.2.2.1 m_bitCount.2.2.2 ∈ nm_ws := nm_at 428 rfl rfl
theorem wt_bitCount : Cond.static m_bitCount.1 ∈ nm_ws := nm_at 427 (by decide +kernel) rfl
theorem wz_Integer : Cond.initialized "java/lang/Integer" ∈ nm_ws := nm_at 58 (by decide +kernel) rfl
theorem cl_Suite_81 : aj_sl nE "TestBench$Suite" 81 m_bitCount 1 := ⟨⟨nm_at 426 (by decide +kernel) rfl, wc_bitCount, wz_Integer, by decide +kernel, by decide, by decide, rfl⟩, wt_bitCount⟩
set_option maxHeartbeats 8000000 in
theorem k_bitCount {al : Prop} {X : Option (Nat × (Int → Int))} {d : Nat} {sh : List aj_S} {g : aj_G} {Q : aj_R → List aj_S → aj_G → Prop} {s : Nat} (hs : s < 2 ^ 24) (hk : Q (.inl (some (0, ((mo_c (fun e => s.testBit e = true) 24 : Nat) : Int)))) sh g) : aj_wp nE al al X m_bitCount d 0 0 0 [some (0, (s : Int))] [] sh g Q := by
  obtain ⟨a, ea⟩ : ∃ a, a = s % 256 := ⟨_, rfl⟩
  obtain ⟨b, eb⟩ : ∃ b, b = s / 256 % 256 := ⟨_, rfl⟩
  obtain ⟨c, ec⟩ : ∃ c, c = s / 65536 := ⟨_, rfl⟩
  have ha : a < 256 := by omega
  have hb : b < 256 := by omega
  have hc : c < 256 := by omega
  have es : s = a + 256 * (b + 256 * c) := by omega
  obtain ⟨t1, f1⟩ : ∃ t1, t1 = p1 a + 256 * (p1 b + 256 * p1 c) := ⟨_, rfl⟩
  obtain ⟨t2, f2⟩ : ∃ t2, t2 = p2 (p1 a) + 256 * (p2 (p1 b) + 256 * p2 (p1 c)) := ⟨_, rfl⟩
  obtain ⟨t3, f3⟩ : ∃ t3, t3 = bt8 a + 256 * (bt8 b + 256 * bt8 c) := ⟨_, rfl⟩
  have g1 := bt_1 ha hb hc
  rw [← es, ← f1] at g1
  have g2 := bt_2 ha hb hc
  rw [← f1, ← f2] at g2
  have g3 := bt_3 ha hb hc
  rw [← f2, ← f3] at g3
  have la := (p1_lt a ha).1
  have lb := (p1_lt b hb).1
  have lc := (p1_lt c hc).1
  have ma := (p2_lt a ha).1
  have mb := (p2_lt b hb).1
  have mc := (p2_lt c hc).1
  have na := bt8_le a ha
  have nb := bt8_le b hb
  have nc := bt8_le c hc
  have e1 : (s : Int) - ((s / 2 ^ 1 &&& 1431655765 : Nat) : Int) = (t1 : Int) := by
    have g1' : s - (s / 2 ^ 1 &&& 1431655765) = t1 := g1.1
    have g1'' : (s / 2 ^ 1 &&& 1431655765) ≤ s := g1.2
    omega
  have e2 : ((t1 &&& 858993459 : Nat) : Int) + ((t1 / 2 ^ 2 &&& 858993459 : Nat) : Int) = (t2 : Int) := by
    have g2' : (t1 &&& 858993459) + (t1 / 2 ^ 2 &&& 858993459) = t2 := g2
    omega
  have e3 : ((t2 + t2 / 2 ^ 4) &&& 252645135) = t3 := g3
  have q3 : t3 < 2 ^ 24 := by omega
  have q2 : t2 < 2 ^ 24 := by omega
  have q1 : t1 < 2 ^ 24 := by omega
  clear g1 g2 g3
  refine aj_iload_n 0 1 (dx d_bitCount 0 rfl) rfl rfl rfl ?_
  refine aj_iload_n 0 2 (dx d_bitCount 1 rfl) rfl rfl rfl ?_
  refine aj_iconst 3 (dx d_bitCount 2 rfl) rfl ?_
  refine aj_iushr (v := ((s / 2 ^ 1 : Nat) : Int)) 4 (dx d_bitCount 3 rfl) rfl (ib_shr (n := s) (y := 1) (by omega) (by omega)) ?_
  refine aj_ldcw 7 ld_265 (dx d_bitCount 4 rfl) rfl ?_
  refine aj_iand (v := ((s / 2 ^ 1 &&& 1431655765 : Nat) : Int)) 8 (dx d_bitCount 5 rfl) rfl (ib_and (x := s / 2 ^ 1) (y := 1431655765) (by omega) (by omega)) ?_
  refine aj_isub 9 (dx d_bitCount 6 rfl) rfl ?_
  rw [e1]
  refine aj_istore_n 0 10 (dx d_bitCount 7 rfl) rfl rfl rfl ?_
  simp only [List.set]
  refine aj_iload_n 0 11 (dx d_bitCount 8 rfl) rfl rfl rfl ?_
  refine aj_ldcw 14 ld_266 (dx d_bitCount 9 rfl) rfl ?_
  refine aj_iand (v := ((t1 &&& 858993459 : Nat) : Int)) 15 (dx d_bitCount 10 rfl) rfl (ib_and (x := t1) (y := 858993459) (by omega) (by omega)) ?_
  refine aj_iload_n 0 16 (dx d_bitCount 11 rfl) rfl rfl rfl ?_
  refine aj_iconst 17 (dx d_bitCount 12 rfl) rfl ?_
  refine aj_iushr (v := ((t1 / 2 ^ 2 : Nat) : Int)) 18 (dx d_bitCount 13 rfl) rfl (ib_shr (n := t1) (y := 2) (by omega) (by omega)) ?_
  refine aj_ldcw 21 ld_266 (dx d_bitCount 14 rfl) rfl ?_
  refine aj_iand (v := ((t1 / 2 ^ 2 &&& 858993459 : Nat) : Int)) 22 (dx d_bitCount 15 rfl) rfl (ib_and (x := t1 / 2 ^ 2) (y := 858993459) (by omega) (by omega)) ?_
  refine aj_iadd 23 (dx d_bitCount 16 rfl) rfl ?_
  rw [e2]
  refine aj_istore_n 0 24 (dx d_bitCount 17 rfl) rfl rfl rfl ?_
  simp only [List.set]
  refine aj_iload_n 0 25 (dx d_bitCount 18 rfl) rfl rfl rfl ?_
  refine aj_iload_n 0 26 (dx d_bitCount 19 rfl) rfl rfl rfl ?_
  refine aj_iconst 27 (dx d_bitCount 20 rfl) rfl ?_
  refine aj_iushr (v := ((t2 / 2 ^ 4 : Nat) : Int)) 28 (dx d_bitCount 21 rfl) rfl (ib_shr (n := t2) (y := 4) (by omega) (by omega)) ?_
  refine aj_iadd 29 (dx d_bitCount 22 rfl) rfl ?_
  rw [← Int.natCast_add]
  refine aj_ldcw 32 ld_267 (dx d_bitCount 23 rfl) rfl ?_
  refine aj_iand (v := (((t2 + t2 / 2 ^ 4) &&& 252645135 : Nat) : Int)) 33 (dx d_bitCount 24 rfl) rfl (ib_and (x := t2 + t2 / 2 ^ 4) (y := 252645135) (by omega) (by omega)) ?_
  rw [e3]
  refine aj_istore_n 0 34 (dx d_bitCount 25 rfl) rfl rfl rfl ?_
  simp only [List.set]
  refine aj_iload_n 0 35 (dx d_bitCount 26 rfl) rfl rfl rfl ?_
  refine aj_iload_n 0 36 (dx d_bitCount 27 rfl) rfl rfl rfl ?_
  refine aj_bipush 38 (dx d_bitCount 28 rfl) rfl (by decide +kernel) ?_
  refine aj_iushr (v := ((t3 / 2 ^ 8 : Nat) : Int)) 39 (dx d_bitCount 29 rfl) rfl (ib_shr (n := t3) (y := 8) (by omega) (by omega)) ?_
  refine aj_iadd 40 (dx d_bitCount 30 rfl) rfl ?_
  rw [← Int.natCast_add]
  refine aj_istore_n 0 41 (dx d_bitCount 31 rfl) rfl rfl rfl ?_
  simp only [List.set]
  refine aj_iload_n 0 42 (dx d_bitCount 32 rfl) rfl rfl rfl ?_
  refine aj_iload_n 0 43 (dx d_bitCount 33 rfl) rfl rfl rfl ?_
  refine aj_bipush 45 (dx d_bitCount 34 rfl) rfl (by decide +kernel) ?_
  refine aj_iushr (v := (((t3 + t3 / 2 ^ 8) / 2 ^ 16 : Nat) : Int)) 46 (dx d_bitCount 35 rfl) rfl (ib_shr (n := (t3 + t3 / 2 ^ 8)) (y := 16) (by omega) (by omega)) ?_
  refine aj_iadd 47 (dx d_bitCount 36 rfl) rfl ?_
  rw [← Int.natCast_add]
  refine aj_istore_n 0 48 (dx d_bitCount 37 rfl) rfl rfl rfl ?_
  simp only [List.set]
  refine aj_iload_n 0 49 (dx d_bitCount 38 rfl) rfl rfl rfl ?_
  refine aj_bipush 51 (dx d_bitCount 39 rfl) rfl (by decide +kernel) ?_
  refine aj_iand (v := ((bt8 a + (bt8 b + bt8 c) : Nat) : Int)) 52 (dx d_bitCount 40 rfl) rfl (?_) ?_
  · refine (ib_and (x := t3 + t3 / 2 ^ 8 + (t3 + t3 / 2 ^ 8) / 2 ^ 16) (y := 63) (by omega) (by omega)).trans ?_
    rw [show (63 : Nat) = 2 ^ 6 - 1 from rfl, Nat.and_two_pow_sub_one_eq_mod]
    have k1 : t3 / 2 ^ 8 = bt8 b + 256 * bt8 c := by clear e1 e2 e3; omega
    have k2 : (t3 + t3 / 2 ^ 8) / 2 ^ 16 = bt8 c := by rw [k1]; clear e1 e2 e3; omega
    rw [k2, k1, show (t3 + (bt8 b + 256 * bt8 c) + bt8 c) % 2 ^ 6 = bt8 a + (bt8 b + bt8 c) by clear e1 e2 e3 k1 k2; omega]
  refine aj_iret (dx d_bitCount 41 rfl) rfl id ?_
  rw [bt_all hs, ← ea, ← eb, ← ec] at hk
  exact hk
