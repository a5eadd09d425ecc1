/-! making: Bench, Model -/
def shL (k : Nat) : List aj_S := [.inr 7, .inr 0, .inl (0, 8 * k), .inl (0, 8 * k), .inr 3, .inl (0, 8), .inl (0, 8), .inl (0, 8), .inl (0, 8), .inl (0, 8), .inr 0, .inl (0, 8 * k), .inl (0, 8 * k), .inr 4, .inl (3, 8), .inl (4, 8), .inl (0, 8), .inl (0, 8), .inl (0, 8), .inl (0, 8), .inl (0, 8), .inl (0, 8), .inl (0, 8), .inl (0, 8), .inl (0, 8), .inr 1, .inl (0, 100), .inr 1, .inl (0, 100), .inr 1, .inl (0, 100), .inr 1, .inl (0, 100), .inr 1, .inl (0, 100), .inr 1, .inl (0, 100), .inr 1, .inl (0, 100), .inr 1, .inl (0, 100), .inr 0, .inl (0, 10 * k), .inl (0, 10 * k), .inr 2, .inr 1, .inl (0, 100), .inl (0, 100), .inl (0, 100), .inl (0, 100), .inl (0, 100), .inl (0, 100), .inl (1, 100), .inr 6, .inl (0, 800), .inl (0, 800), .inr 1, .inl (0, 100), .inr 5, .inl (0, 800), .inl (0, 800), .inl (0, 800), .inl (0, 800), .inl (0, 800), .inl (0, 800), .inl (0, 8), .inl (0, 13), .inl (0, 800 * k), .inr 5, .inl (0, 800), .inl (0, 800), .inl (0, 800), .inl (0, 800), .inl (0, 800), .inl (0, 800), .inl (0, 8), .inl (0, 13), .inl (0, 800 * k), .inr 8, .inl (0, 24), .inl (0, 24), .inl (0, 64), .inl (0, 8), .inl (0, 8), .inl (2, 8), .inl (2, 28), .inl (0, 8), .inl (0, 64), .inl (0, 30), .inl (0, 30), .inl (0, 2403), .inl (0, 2403), .inl (0, 801), .inl (0, 801), .inl (0, 801), .inl (0, 64), .inl (0, 80), .inl (1, 80), .inl (2, 80), .inl (1, 24), .inl (2, 1)]
def bsh (k n : Nat) : List aj_S := (shL k).take n
def clN (x : Int) : Nat := if x < 1 then 1 else if 8 < x then 8 else x.toNat
def clK (x : Int) : Nat := if x < 1 then 1 else if 3 < x then 3 else x.toNat
theorem clN_b (x : Int) : 1 ≤ clN x ∧ clN x ≤ 8 := by
  unfold clN
  split
  · omega
  · split <;> omega
theorem clK_b (x : Int) : clK x = 1 ∨ clK x = 2 ∨ clK x = 3 := by
  unfold clK
  split
  · omega
  · split <;> omega
theorem clN_m (x : Int) : (if (1 : Int) < (if x < 8 then x else 8) then (if x < 8 then x else 8) else 1) = (clN x : Int) := by
  unfold clN
  repeat' split
  all_goals omega
theorem clK_m (x : Int) : (if (1 : Int) < (if x < 3 then x else 3) then (if x < 3 then x else 3) else 1) = (clK x : Int) := by
  unfold clK
  repeat' split
  all_goals omega
/-- what Bench's constructor leaves -/
def reF (g : aj_G) : Prop := g 4 0 = 10 ∧ g 4 1 = 5 ∧ g 4 2 = 6 ∧ g 4 3 = 7 ∧ g 4 4 = 8 ∧ g 4 5 = 9
def faF (g : aj_G) : Prop := g 13 0 = 14 ∧ g 13 1 = 15 ∧ g 13 2 = 24 ∧ g 13 3 = 0 ∧ (∀ i, g 24 i = 0) ∧ ∀ v : Nat, v < 8 → g 14 v = 25 + 2 * v ∧ g (25 + 2 * v) 0 = 26 + 2 * v ∧ g 15 v = 16 + v
def seF (g : aj_G) : Prop := g 44 0 = 45 ∧ g 44 1 = 47 ∧ g 44 2 = 48 ∧ g 44 3 = 49 ∧ g 44 4 = 50 ∧ g 44 5 = 51 ∧ g 44 6 = 52 ∧ g 45 0 = 46
def suF0 (g : aj_G) (p : Int) : Prop := g p 0 = 4 ∧ g p 1 = 10 ∧ g p 2 = 13 ∧ g p 3 = p + 9 ∧ g p 4 = p + 1 ∧ g p 5 = p + 2 ∧ g p 6 = p + 3 ∧ g p 7 = p + 4 ∧ g p 8 = p + 5 ∧ g p 9 = p + 6 ∧ g p 10 = p + 7 ∧ g p 11 = p + 8 ∧ g p 12 = 0 ∧ g p 13 = 0
def beF (g : aj_G) : Prop := (g 0 0 = 1 ∧ g 0 1 = 4 ∧ g 0 2 = 13 ∧ g 0 3 = 41 ∧ g 0 4 = 44 ∧ g 0 5 = 53 ∧ g 0 6 = 56 ∧ g 0 7 = 58 ∧ g 0 8 = 68) ∧ g 0 9 = 0 ∧ g 0 10 = 0 ∧ g 0 11 = -1 ∧ g 0 12 = -1 ∧ g 0 13 = 0
def bR (g : aj_G) (k n : Nat) : Prop := beF g ∧ mF g 1 k n ∧ reF g ∧ mF g 10 k 0 ∧ faF g ∧ mF g 41 k 0 ∧ seF g ∧ (g 53 0 = 54 ∧ g 53 1 = 55) ∧ (g 56 0 = 57 ∧ g 56 1 = 0) ∧ suF0 g 58 ∧ suF0 g 68
theorem bR_of {g g1 : aj_G} {k n : Nat} (h : bR g k n) (e : ∀ r', r' < 78 → g1 r' = g r') : bR g1 k n := by
  unfold bR beF reF faF seF suF0 mF at h ⊢
  rw [e 0 (by omega), e 1 (by omega), e (1 + 1) (by omega), e (1 + 2) (by omega), e 4 (by omega), e 10 (by omega), e (10 + 1) (by omega), e (10 + 2) (by omega), e 13 (by omega), e 24 (by omega), e 14 (by omega), e 15 (by omega), e 41 (by omega), e (41 + 1) (by omega), e (41 + 2) (by omega), e 44 (by omega), e 45 (by omega), e 53 (by omega), e 56 (by omega), e 58 (by omega), e 68 (by omega)]
  obtain ⟨h1, h2, h3, h4, ⟨a1, a2, a3, a4, a5, a6⟩, h6⟩ := h
  exact ⟨h1, h2, h3, h4, ⟨a1, a2, a3, a4, a5, fun v hv => ⟨(a6 v hv).1, by rw [e _ (by omega)]; exact (a6 v hv).2.1, (a6 v hv).2.2⟩⟩, h6⟩
set_option maxHeartbeats 32000000 in
theorem k_Bench_init {al : Prop} {X : Option (Nat × (Int → Int))} {d : Nat} {sh : List aj_S} {g : aj_G} {Q : aj_R → List aj_S → aj_G → Prop} (hal : al) {x y : Int} (hx : aj_I x) (hy : aj_I y) (hk : ∀ g1 : aj_G, bR g1 (clK y) (clN x) → Q (.inl none) (bsh (clK y) 78) g1) : aj_wp nE al al X m_Bench_init (d + 5) 77 18032 0 [some (1, 0), some (0, x), some (0, y), none, none] [] [.inr 7] g Q := by
  have hk3 := clK_b y
  have hn8 := (clN_b x).2
  refine aj_aload_n 0 1 (dx d_Bench_init 0 rfl) rfl rfl rfl ?_
  refine aj_objInit 4 ob_Bench_3 (dx d_Bench_init 1 rfl) rfl (by omega) (by omega) ?_
  refine aj_iconst 5 (dx d_Bench_init 2 rfl) rfl ?_
  refine aj_bipush 7 (dx d_Bench_init 3 rfl) rfl (by decide +kernel) ?_
  refine aj_iload_n 1 8 (dx d_Bench_init 4 rfl) rfl rfl rfl ?_
  refine aj_mmin 11 mm_Bench_9 (dx d_Bench_init 5 rfl) rfl (by unfold aj_I; omega) (by first | assumption | (unfold aj_I at *; split <;> omega)) (by omega) rfl ?_
  refine aj_mmax 14 mm_Bench_15 (dx d_Bench_init 6 rfl) rfl (by unfold aj_I; omega) (by first | assumption | (unfold aj_I at *; split <;> omega)) (by omega) rfl ?_
  rw [clN_m]
  refine aj_istore_n 3 15 (dx d_Bench_init 7 rfl) rfl rfl rfl ?_
  simp only [List.set]
  refine aj_iconst 16 (dx d_Bench_init 8 rfl) rfl ?_
  refine aj_iconst 17 (dx d_Bench_init 9 rfl) rfl ?_
  refine aj_iload_n 2 18 (dx d_Bench_init 10 rfl) rfl rfl rfl ?_
  refine aj_mmin 21 mm_Bench_9 (dx d_Bench_init 11 rfl) rfl (by unfold aj_I; omega) (by first | assumption | (unfold aj_I at *; split <;> omega)) (by omega) rfl ?_
  refine aj_mmax 24 mm_Bench_15 (dx d_Bench_init 12 rfl) rfl (by unfold aj_I; omega) (by first | assumption | (unfold aj_I at *; split <;> omega)) (by omega) rfl ?_
  rw [clK_m]
  refine aj_istore 4 26 (dx d_Bench_init 13 rfl) rfl rfl ?_
  simp only [List.set]
  generalize hkk : clK y = k at *
  generalize hnn : clN x = n at *
  change aj_wp _ _ _ _ _ _ _ _ _ _ _ (bsh k 1) _ _
  refine aj_aload_n 0 27 (dx d_Bench_init 14 rfl) rfl rfl rfl ?_
  refine aj_newop (x := 1) (bc1 := 76) (bs1 := 18028) 30 nw_Bench_18 (dx d_Bench_init 15 rfl) rfl rfl rfl hal rfl (by omega) ?_
  change aj_wp _ _ _ _ _ _ _ _ _ _ _ (bsh k 2) _ _
  refine aj_dup 31 (dx d_Bench_init 16 rfl) rfl rfl ?_
  refine aj_bipush 33 (dx d_Bench_init 17 rfl) rfl (by decide +kernel) ?_
  refine aj_iload_n 3 34 (dx d_Bench_init 18 rfl) rfl rfl rfl ?_
  refine aj_iload 4 36 (dx d_Bench_init 19 rfl) rfl rfl ?_
  refine aj_callI3 (bc1 := 2) (bc2 := 74) (bs1 := 60) (bs2 := 17968) 39 cl_Bench_20 (dx d_Bench_init 20 rfl) rfl rfl rfl rfl rfl rfl (by omega) (k_Machine_init (p := 1) (R := 8) (c := n) (k := k) hal (by omega) (by omega) rfl rfl rfl rfl hk3 (Or.inl rfl) hn8 (fun g1 e1 h1 => ?_))
  change aj_wp _ _ _ _ _ _ _ _ _ _ _ (bsh k 4) _ _
  refine aj_putf 42 pl_Bench_23 (dx d_Bench_init 21 rfl) rfl rfl (aj_fitO _ _) ?_
  refine aj_aload_n 0 43 (dx d_Bench_init 22 rfl) rfl rfl rfl ?_
  refine aj_newop (x := 4) (bc1 := 73) (bs1 := 17962) 46 nw_Bench_27 (dx d_Bench_init 23 rfl) rfl rfl rfl hal rfl (by omega) ?_
  change aj_wp _ _ _ _ _ _ _ _ _ _ _ (bsh k 5) _ _
  refine aj_dup 47 (dx d_Bench_init 24 rfl) rfl rfl ?_
  refine aj_iload 4 49 (dx d_Bench_init 25 rfl) rfl rfl ?_
  refine aj_callI1 (bc1 := 8) (bc2 := 65) (bs1 := 104) (bs2 := 17858) 52 cl_Bench_29 (dx d_Bench_init 26 rfl) rfl rfl rfl rfl rfl rfl (by omega) (k_Reduction_init (p := 4) (k := k) hal (by omega) (by omega) rfl rfl hk3 (fun g2 e2 h2 m2 => ?_))
  change aj_wp _ _ _ _ _ _ _ _ _ _ _ (bsh k 13) _ _
  refine aj_putf 55 pl_Bench_32 (dx d_Bench_init 27 rfl) rfl rfl (aj_fitO _ _) ?_
  refine aj_aload_n 0 56 (dx d_Bench_init 28 rfl) rfl rfl rfl ?_
  refine aj_newop (x := 13) (bc1 := 64) (bs1 := 17854) 59 nw_Bench_36 (dx d_Bench_init 29 rfl) rfl rfl rfl hal rfl (by omega) ?_
  change aj_wp _ _ _ _ _ _ _ _ _ _ _ (bsh k 14) _ _
  refine aj_dup 60 (dx d_Bench_init 30 rfl) rfl rfl ?_
  refine aj_callI0 (bc1 := 27) (bc2 := 37) (bs1 := 904) (bs2 := 16950) 63 cl_Bench_38 (dx d_Bench_init 31 rfl) rfl rfl rfl rfl rfl rfl (by omega) (k_Family_init (p := 13) hal (by omega) (by omega) rfl rfl (fun g3 e3 h3 => ?_))
  change aj_wp _ _ _ _ _ _ _ _ _ _ _ (bsh k 41) _ _
  refine aj_putf 66 pl_Bench_39 (dx d_Bench_init 32 rfl) rfl rfl (aj_fitO _ _) ?_
  refine aj_aload_n 0 67 (dx d_Bench_init 33 rfl) rfl rfl rfl ?_
  refine aj_newop (x := 41) (bc1 := 36) (bs1 := 16946) 70 nw_Bench_18 (dx d_Bench_init 34 rfl) rfl rfl rfl hal rfl (by omega) ?_
  change aj_wp _ _ _ _ _ _ _ _ _ _ _ (bsh k 42) _ _
  refine aj_dup 71 (dx d_Bench_init 35 rfl) rfl rfl ?_
  refine aj_bipush 73 (dx d_Bench_init 36 rfl) rfl (by decide +kernel) ?_
  refine aj_iconst 74 (dx d_Bench_init 37 rfl) rfl ?_
  refine aj_iload 4 76 (dx d_Bench_init 38 rfl) rfl rfl ?_
  refine aj_callI3 (bc1 := 2) (bc2 := 34) (bs1 := 60) (bs2 := 16886) 79 cl_Bench_20 (dx d_Bench_init 39 rfl) rfl rfl rfl rfl rfl rfl (by omega) (k_Machine_init (p := 41) (R := 10) (c := 0) (k := k) hal (by omega) (by omega) rfl rfl rfl rfl hk3 (Or.inr rfl) (by omega) (fun g4 e4 h4 => ?_))
  change aj_wp _ _ _ _ _ _ _ _ _ _ _ (bsh k 44) _ _
  refine aj_putf 82 pl_Bench_43 (dx d_Bench_init 40 rfl) rfl rfl (aj_fitO _ _) ?_
  refine aj_aload_n 0 83 (dx d_Bench_init 41 rfl) rfl rfl rfl ?_
  refine aj_newop (x := 44) (bc1 := 33) (bs1 := 16878) 86 nw_Bench_46 (dx d_Bench_init 42 rfl) rfl rfl rfl hal rfl (by omega) ?_
  change aj_wp _ _ _ _ _ _ _ _ _ _ _ (bsh k 45) _ _
  refine aj_dup 87 (dx d_Bench_init 43 rfl) rfl rfl ?_
  refine aj_callN (bc1 := 8) (bc2 := 25) (bs1 := 702) (bs2 := 16176) 90 nl_Bench_48 (dx d_Bench_init 44 rfl) rfl rfl rfl rfl rfl rfl (by omega) (k_Search_init (p := 44) hal (by omega) (by omega) rfl rfl (fun g5 e5 s0 s1 s2 s3 s4 s5 s6 s7 => ?_))
  change aj_wp _ _ _ _ _ _ _ _ _ _ _ (bsh k 53) _ _
  refine aj_putf 93 pl_Bench_49 (dx d_Bench_init 45 rfl) rfl rfl (aj_fitO _ _) ?_
  refine aj_aload_n 0 94 (dx d_Bench_init 46 rfl) rfl rfl rfl ?_
  refine aj_newop (x := 53) (bc1 := 24) (bs1 := 16174) 97 nw_Bench_53 (dx d_Bench_init 47 rfl) rfl rfl rfl hal rfl (by omega) ?_
  change aj_wp _ _ _ _ _ _ _ _ _ _ _ (bsh k 54) _ _
  refine aj_dup 98 (dx d_Bench_init 48 rfl) rfl rfl ?_
  refine aj_callN (bc1 := 2) (bc2 := 22) (bs1 := 1600) (bs2 := 14574) 101 nl_Bench_55 (dx d_Bench_init 49 rfl) rfl rfl rfl rfl rfl rfl (by omega) (k_Trial_init (p := 53) hal (by omega) (by omega) rfl rfl (fun g6 e6 t0 t1 => ?_))
  change aj_wp _ _ _ _ _ _ _ _ _ _ _ (bsh k 56) _ _
  refine aj_putf 104 pl_Bench_56 (dx d_Bench_init 50 rfl) rfl rfl (aj_fitO _ _) ?_
  refine aj_aload_n 0 105 (dx d_Bench_init 51 rfl) rfl rfl rfl ?_
  refine aj_newop (x := 56) (bc1 := 21) (bs1 := 14572) 108 nw_Bench_60 (dx d_Bench_init 52 rfl) rfl rfl rfl hal rfl (by omega) ?_
  change aj_wp _ _ _ _ _ _ _ _ _ _ _ (bsh k 57) _ _
  refine aj_dup 109 (dx d_Bench_init 53 rfl) rfl rfl ?_
  refine aj_callN (bc1 := 1) (bc2 := 20) (bs1 := 100) (bs2 := 14472) 112 nl_Bench_62 (dx d_Bench_init 54 rfl) rfl rfl rfl rfl rfl rfl (by omega) (k_Word_init (p := 56) hal (by omega) (by omega) rfl rfl (fun g7 e7 w0 w1 => ?_))
  change aj_wp _ _ _ _ _ _ _ _ _ _ _ (bsh k 58) _ _
  refine aj_putf 115 pl_Bench_63 (dx d_Bench_init 55 rfl) rfl rfl (aj_fitO _ _) ?_
  refine aj_aload_n 0 116 (dx d_Bench_init 56 rfl) rfl rfl rfl ?_
  refine aj_newop (x := 58) (bc1 := 19) (bs1 := 14457) 119 nw_Bench_67 (dx d_Bench_init 57 rfl) rfl rfl rfl hal rfl (by omega) ?_
  change aj_wp _ _ _ _ _ _ _ _ _ _ _ (bsh k 59) _ _
  refine aj_dup 120 (dx d_Bench_init 58 rfl) rfl rfl ?_
  refine aj_aload_n 0 121 (dx d_Bench_init 59 rfl) rfl rfl rfl ?_
  refine aj_getfv (v := 4) 124 fl_Bench_32 (dx d_Bench_init 60 rfl) rfl rfl (by (repeat (first | rw [aj_up_self] | rw [aj_up_ne _ _ _ (by omega)] | rw [aj_up_ni _ _ _ (by omega)] | rw [aj_nw_ne _ _ (by omega)] | rw [aj_nw_self] | rw [e7 _ (by omega)] | rw [e6 _ (by omega)] | rw [e5 _ (by omega)] | rw [e4 _ (by omega)] | rw [e3 _ (by omega)] | rw [e2 _ (by omega)] | rw [e1 _ (by omega)]))) ?_
  refine aj_aload_n 0 125 (dx d_Bench_init 61 rfl) rfl rfl rfl ?_
  refine aj_getfv (v := 13) 128 fl_Bench_39 (dx d_Bench_init 62 rfl) rfl rfl (by (repeat (first | rw [aj_up_self] | rw [aj_up_ne _ _ _ (by omega)] | rw [aj_up_ni _ _ _ (by omega)] | rw [aj_nw_ne _ _ (by omega)] | rw [aj_nw_self] | rw [e7 _ (by omega)] | rw [e6 _ (by omega)] | rw [e5 _ (by omega)] | rw [e4 _ (by omega)] | rw [e3 _ (by omega)] | rw [e2 _ (by omega)] | rw [e1 _ (by omega)]))) ?_
  refine aj_callI2 (bc1 := 9) (bc2 := 10) (bs1 := 7221) (bs2 := 7236) 131 cl_Bench_69 (dx d_Bench_init 63 rfl) rfl rfl rfl rfl rfl rfl (by omega) (k_Suite_init (p := 58) (k := k) hal (by omega) (by omega) rfl rfl hk3 (by omega) rfl (by (repeat (first | rw [aj_up_self] | rw [aj_up_ne _ _ _ (by omega)] | rw [aj_up_ni _ _ _ (by omega)] | rw [aj_nw_ne _ _ (by omega)] | rw [aj_nw_self] | rw [e7 _ (by omega)] | rw [e6 _ (by omega)] | rw [e5 _ (by omega)] | rw [e4 _ (by omega)] | rw [e3 _ (by omega)] | rw [e2 _ (by omega)] | rw [e1 _ (by omega)])); exact h2.1) rfl (by (repeat (first | rw [aj_up_self] | rw [aj_up_ne _ _ _ (by omega)] | rw [aj_up_ni _ _ _ (by omega)] | rw [aj_nw_ne _ _ (by omega)] | rw [aj_nw_self] | rw [e7 _ (by omega)] | rw [e6 _ (by omega)] | rw [e5 _ (by omega)] | rw [e4 _ (by omega)] | rw [e3 _ (by omega)] | rw [e2 _ (by omega)] | rw [e1 _ (by omega)])); exact m2.1.1) (fun g8 e8 h8 => ?_))
  change aj_wp _ _ _ _ _ _ _ _ _ _ _ (bsh k 68) _ _
  refine aj_putf 134 (pl_Bench_72 _) (dx d_Bench_init 64 rfl) rfl rfl (aj_fitO _ _) ?_
  refine aj_aload_n 0 135 (dx d_Bench_init 65 rfl) rfl rfl rfl ?_
  refine aj_newop (x := 68) (bc1 := 9) (bs1 := 7221) 138 nw_Bench_67 (dx d_Bench_init 66 rfl) rfl rfl rfl hal rfl (by omega) ?_
  change aj_wp _ _ _ _ _ _ _ _ _ _ _ (bsh k 69) _ _
  refine aj_dup 139 (dx d_Bench_init 67 rfl) rfl rfl ?_
  refine aj_aload_n 0 140 (dx d_Bench_init 68 rfl) rfl rfl rfl ?_
  refine aj_getfv (v := 4) 143 fl_Bench_32 (dx d_Bench_init 69 rfl) rfl rfl (by (repeat (first | rw [aj_up_self] | rw [aj_up_ne _ _ _ (by omega)] | rw [aj_up_ni _ _ _ (by omega)] | rw [aj_nw_ne _ _ (by omega)] | rw [aj_nw_self] | rw [e8 _ (by omega)] | rw [e7 _ (by omega)] | rw [e6 _ (by omega)] | rw [e5 _ (by omega)] | rw [e4 _ (by omega)] | rw [e3 _ (by omega)] | rw [e2 _ (by omega)] | rw [e1 _ (by omega)]))) ?_
  refine aj_aload_n 0 144 (dx d_Bench_init 70 rfl) rfl rfl rfl ?_
  refine aj_getfv (v := 13) 147 fl_Bench_39 (dx d_Bench_init 71 rfl) rfl rfl (by (repeat (first | rw [aj_up_self] | rw [aj_up_ne _ _ _ (by omega)] | rw [aj_up_ni _ _ _ (by omega)] | rw [aj_nw_ne _ _ (by omega)] | rw [aj_nw_self] | rw [e8 _ (by omega)] | rw [e7 _ (by omega)] | rw [e6 _ (by omega)] | rw [e5 _ (by omega)] | rw [e4 _ (by omega)] | rw [e3 _ (by omega)] | rw [e2 _ (by omega)] | rw [e1 _ (by omega)]))) ?_
  refine aj_callI2 (bc1 := 9) (bc2 := 0) (bs1 := 7221) (bs2 := 0) 150 cl_Bench_69 (dx d_Bench_init 72 rfl) rfl rfl rfl rfl rfl rfl (by omega) (k_Suite_init (p := 68) (k := k) hal (by omega) (by omega) rfl rfl hk3 (by omega) rfl (by (repeat (first | rw [aj_up_self] | rw [aj_up_ne _ _ _ (by omega)] | rw [aj_up_ni _ _ _ (by omega)] | rw [aj_nw_ne _ _ (by omega)] | rw [aj_nw_self] | rw [e8 _ (by omega)] | rw [e7 _ (by omega)] | rw [e6 _ (by omega)] | rw [e5 _ (by omega)] | rw [e4 _ (by omega)] | rw [e3 _ (by omega)] | rw [e2 _ (by omega)] | rw [e1 _ (by omega)])); exact h2.1) rfl (by (repeat (first | rw [aj_up_self] | rw [aj_up_ne _ _ _ (by omega)] | rw [aj_up_ni _ _ _ (by omega)] | rw [aj_nw_ne _ _ (by omega)] | rw [aj_nw_self] | rw [e8 _ (by omega)] | rw [e7 _ (by omega)] | rw [e6 _ (by omega)] | rw [e5 _ (by omega)] | rw [e4 _ (by omega)] | rw [e3 _ (by omega)] | rw [e2 _ (by omega)] | rw [e1 _ (by omega)])); exact m2.1.1) (fun g9 e9 h9 => ?_))
  change aj_wp _ _ _ _ _ _ _ _ _ _ _ (bsh k 78) _ _
  refine aj_putf 153 (pl_Bench_76 _) (dx d_Bench_init 73 rfl) rfl rfl (aj_fitO _ _) ?_
  refine aj_aload_n 0 154 (dx d_Bench_init 74 rfl) rfl rfl rfl ?_
  refine aj_iconst 155 (dx d_Bench_init 75 rfl) rfl ?_
  refine aj_putf 158 (pl_Bench_79 _) (dx d_Bench_init 76 rfl) rfl rfl (aj_fitI _) ?_
  refine aj_aload_n 0 159 (dx d_Bench_init 77 rfl) rfl rfl rfl ?_
  refine aj_iconst 160 (dx d_Bench_init 78 rfl) rfl ?_
  refine aj_putf 163 (pl_Bench_83 _) (dx d_Bench_init 79 rfl) rfl rfl (aj_fitZ (by omega)) ?_
  refine aj_aload_n 0 164 (dx d_Bench_init 80 rfl) rfl rfl rfl ?_
  refine aj_iconst 165 (dx d_Bench_init 81 rfl) rfl ?_
  refine aj_putf 168 (pl_Bench_87 _) (dx d_Bench_init 82 rfl) rfl rfl (aj_fitI _) ?_
  refine aj_aload_n 0 169 (dx d_Bench_init 83 rfl) rfl rfl rfl ?_
  refine aj_iconst 170 (dx d_Bench_init 84 rfl) rfl ?_
  refine aj_putf 173 (pl_Bench_90 _) (dx d_Bench_init 85 rfl) rfl rfl (aj_fitI _) ?_
  refine aj_aload_n 0 174 (dx d_Bench_init 86 rfl) rfl rfl rfl ?_
  refine aj_iconst 175 (dx d_Bench_init 87 rfl) rfl ?_
  refine aj_putf 178 (pl_Bench_93 _) (dx d_Bench_init 88 rfl) rfl rfl (aj_fitI _) ?_
  refine aj_vret (dx d_Bench_init 89 rfl) rfl id ?_
  have d9 : ∀ r', 0 < r' → (aj_up (aj_up (aj_up (aj_up (aj_up (aj_up g9 0 8 68) 0 9 0) 0 10 0) 0 11 (-1)) 0 12 (-1)) 0 13 0) r' = g9 r' := fun r' h => by rw [aj_up_ne _ _ _ (by omega), aj_up_ne _ _ _ (by omega), aj_up_ne _ _ _ (by omega), aj_up_ne _ _ _ (by omega), aj_up_ne _ _ _ (by omega), aj_up_ne _ _ _ (by omega)]
  have d8 : ∀ r', 0 < r' → r' < 68 → (aj_up (aj_up (aj_up (aj_up (aj_up (aj_up g9 0 8 68) 0 9 0) 0 10 0) 0 11 (-1)) 0 12 (-1)) 0 13 0) r' = g8 r' := fun r' h1 h2 => by rw [d9 r' h1, e9 r' (by omega), aj_nw_ne _ _ (by omega), aj_up_ne _ _ _ (by omega)]
  have d7 : ∀ r', 0 < r' → r' < 58 → (aj_up (aj_up (aj_up (aj_up (aj_up (aj_up g9 0 8 68) 0 9 0) 0 10 0) 0 11 (-1)) 0 12 (-1)) 0 13 0) r' = g7 r' := fun r' h1 h2 => by rw [d8 r' h1 (by omega), e8 r' (by omega), aj_nw_ne _ _ (by omega), aj_up_ne _ _ _ (by omega)]
  have d6 : ∀ r', 0 < r' → r' < 56 → (aj_up (aj_up (aj_up (aj_up (aj_up (aj_up g9 0 8 68) 0 9 0) 0 10 0) 0 11 (-1)) 0 12 (-1)) 0 13 0) r' = g6 r' := fun r' h1 h2 => by rw [d7 r' h1 (by omega), e7 r' (by omega), aj_nw_ne _ _ (by omega), aj_up_ne _ _ _ (by omega)]
  have d5 : ∀ r', 0 < r' → r' < 53 → (aj_up (aj_up (aj_up (aj_up (aj_up (aj_up g9 0 8 68) 0 9 0) 0 10 0) 0 11 (-1)) 0 12 (-1)) 0 13 0) r' = g5 r' := fun r' h1 h2 => by rw [d6 r' h1 (by omega), e6 r' (by omega), aj_nw_ne _ _ (by omega), aj_up_ne _ _ _ (by omega)]
  have d4 : ∀ r', 0 < r' → r' < 44 → (aj_up (aj_up (aj_up (aj_up (aj_up (aj_up g9 0 8 68) 0 9 0) 0 10 0) 0 11 (-1)) 0 12 (-1)) 0 13 0) r' = g4 r' := fun r' h1 h2 => by rw [d5 r' h1 (by omega), e5 r' (by omega), aj_nw_ne _ _ (by omega), aj_up_ne _ _ _ (by omega)]
  have d3 : ∀ r', 0 < r' → r' < 41 → (aj_up (aj_up (aj_up (aj_up (aj_up (aj_up g9 0 8 68) 0 9 0) 0 10 0) 0 11 (-1)) 0 12 (-1)) 0 13 0) r' = g3 r' := fun r' h1 h2 => by rw [d4 r' h1 (by omega), e4 r' (by omega), aj_nw_ne _ _ (by omega), aj_up_ne _ _ _ (by omega)]
  have d2 : ∀ r', 0 < r' → r' < 13 → (aj_up (aj_up (aj_up (aj_up (aj_up (aj_up g9 0 8 68) 0 9 0) 0 10 0) 0 11 (-1)) 0 12 (-1)) 0 13 0) r' = g2 r' := fun r' h1 h2 => by rw [d3 r' h1 (by omega), e3 r' (by omega), aj_nw_ne _ _ (by omega), aj_up_ne _ _ _ (by omega)]
  have d1 : ∀ r', 0 < r' → r' < 4 → (aj_up (aj_up (aj_up (aj_up (aj_up (aj_up g9 0 8 68) 0 9 0) 0 10 0) 0 11 (-1)) 0 12 (-1)) 0 13 0) r' = g1 r' := fun r' h1 h2 => by rw [d2 r' h1 (by omega), e2 r' (by omega), aj_nw_ne _ _ (by omega), aj_up_ne _ _ _ (by omega)]
  refine hk _ ⟨⟨⟨?_, ?_, ?_, ?_, ?_, ?_, ?_, ?_, ?_⟩, ?_, ?_, ?_, ?_, ?_⟩, mF_of h1 (fun r' a b => d1 r' (by omega) (by omega)), ?_, mF_of m2 (fun r' a b => d2 r' (by omega) (by omega)), ?_, mF_of h4 (fun r' a b => d4 r' (by omega) (by omega)), ?_, ?_, ?_, ?_, ?_⟩
  · (repeat (first | rw [aj_up_self] | rw [aj_up_ne _ _ _ (by omega)] | rw [aj_up_ni _ _ _ (by omega)] | rw [aj_nw_ne _ _ (by omega)] | rw [aj_nw_self] | rw [e9 _ (by omega)] | rw [e8 _ (by omega)] | rw [e7 _ (by omega)] | rw [e6 _ (by omega)] | rw [e5 _ (by omega)] | rw [e4 _ (by omega)] | rw [e3 _ (by omega)] | rw [e2 _ (by omega)] | rw [e1 _ (by omega)]))
  · (repeat (first | rw [aj_up_self] | rw [aj_up_ne _ _ _ (by omega)] | rw [aj_up_ni _ _ _ (by omega)] | rw [aj_nw_ne _ _ (by omega)] | rw [aj_nw_self] | rw [e9 _ (by omega)] | rw [e8 _ (by omega)] | rw [e7 _ (by omega)] | rw [e6 _ (by omega)] | rw [e5 _ (by omega)] | rw [e4 _ (by omega)] | rw [e3 _ (by omega)] | rw [e2 _ (by omega)] | rw [e1 _ (by omega)]))
  · (repeat (first | rw [aj_up_self] | rw [aj_up_ne _ _ _ (by omega)] | rw [aj_up_ni _ _ _ (by omega)] | rw [aj_nw_ne _ _ (by omega)] | rw [aj_nw_self] | rw [e9 _ (by omega)] | rw [e8 _ (by omega)] | rw [e7 _ (by omega)] | rw [e6 _ (by omega)] | rw [e5 _ (by omega)] | rw [e4 _ (by omega)] | rw [e3 _ (by omega)] | rw [e2 _ (by omega)] | rw [e1 _ (by omega)]))
  · (repeat (first | rw [aj_up_self] | rw [aj_up_ne _ _ _ (by omega)] | rw [aj_up_ni _ _ _ (by omega)] | rw [aj_nw_ne _ _ (by omega)] | rw [aj_nw_self] | rw [e9 _ (by omega)] | rw [e8 _ (by omega)] | rw [e7 _ (by omega)] | rw [e6 _ (by omega)] | rw [e5 _ (by omega)] | rw [e4 _ (by omega)] | rw [e3 _ (by omega)] | rw [e2 _ (by omega)] | rw [e1 _ (by omega)]))
  · (repeat (first | rw [aj_up_self] | rw [aj_up_ne _ _ _ (by omega)] | rw [aj_up_ni _ _ _ (by omega)] | rw [aj_nw_ne _ _ (by omega)] | rw [aj_nw_self] | rw [e9 _ (by omega)] | rw [e8 _ (by omega)] | rw [e7 _ (by omega)] | rw [e6 _ (by omega)] | rw [e5 _ (by omega)] | rw [e4 _ (by omega)] | rw [e3 _ (by omega)] | rw [e2 _ (by omega)] | rw [e1 _ (by omega)]))
  · (repeat (first | rw [aj_up_self] | rw [aj_up_ne _ _ _ (by omega)] | rw [aj_up_ni _ _ _ (by omega)] | rw [aj_nw_ne _ _ (by omega)] | rw [aj_nw_self] | rw [e9 _ (by omega)] | rw [e8 _ (by omega)] | rw [e7 _ (by omega)] | rw [e6 _ (by omega)] | rw [e5 _ (by omega)] | rw [e4 _ (by omega)] | rw [e3 _ (by omega)] | rw [e2 _ (by omega)] | rw [e1 _ (by omega)]))
  · (repeat (first | rw [aj_up_self] | rw [aj_up_ne _ _ _ (by omega)] | rw [aj_up_ni _ _ _ (by omega)] | rw [aj_nw_ne _ _ (by omega)] | rw [aj_nw_self] | rw [e9 _ (by omega)] | rw [e8 _ (by omega)] | rw [e7 _ (by omega)] | rw [e6 _ (by omega)] | rw [e5 _ (by omega)] | rw [e4 _ (by omega)] | rw [e3 _ (by omega)] | rw [e2 _ (by omega)] | rw [e1 _ (by omega)]))
  · (repeat (first | rw [aj_up_self] | rw [aj_up_ne _ _ _ (by omega)] | rw [aj_up_ni _ _ _ (by omega)] | rw [aj_nw_ne _ _ (by omega)] | rw [aj_nw_self] | rw [e9 _ (by omega)] | rw [e8 _ (by omega)] | rw [e7 _ (by omega)] | rw [e6 _ (by omega)] | rw [e5 _ (by omega)] | rw [e4 _ (by omega)] | rw [e3 _ (by omega)] | rw [e2 _ (by omega)] | rw [e1 _ (by omega)]))
  · (repeat (first | rw [aj_up_self] | rw [aj_up_ne _ _ _ (by omega)] | rw [aj_up_ni _ _ _ (by omega)] | rw [aj_nw_ne _ _ (by omega)] | rw [aj_nw_self] | rw [e9 _ (by omega)] | rw [e8 _ (by omega)] | rw [e7 _ (by omega)] | rw [e6 _ (by omega)] | rw [e5 _ (by omega)] | rw [e4 _ (by omega)] | rw [e3 _ (by omega)] | rw [e2 _ (by omega)] | rw [e1 _ (by omega)]))
  · (repeat (first | rw [aj_up_self] | rw [aj_up_ne _ _ _ (by omega)] | rw [aj_up_ni _ _ _ (by omega)] | rw [aj_nw_ne _ _ (by omega)] | rw [aj_nw_self] | rw [e9 _ (by omega)] | rw [e8 _ (by omega)] | rw [e7 _ (by omega)] | rw [e6 _ (by omega)] | rw [e5 _ (by omega)] | rw [e4 _ (by omega)] | rw [e3 _ (by omega)] | rw [e2 _ (by omega)] | rw [e1 _ (by omega)]))
  · (repeat (first | rw [aj_up_self] | rw [aj_up_ne _ _ _ (by omega)] | rw [aj_up_ni _ _ _ (by omega)] | rw [aj_nw_ne _ _ (by omega)] | rw [aj_nw_self] | rw [e9 _ (by omega)] | rw [e8 _ (by omega)] | rw [e7 _ (by omega)] | rw [e6 _ (by omega)] | rw [e5 _ (by omega)] | rw [e4 _ (by omega)] | rw [e3 _ (by omega)] | rw [e2 _ (by omega)] | rw [e1 _ (by omega)]))
  · (repeat (first | rw [aj_up_self] | rw [aj_up_ne _ _ _ (by omega)] | rw [aj_up_ni _ _ _ (by omega)] | rw [aj_nw_ne _ _ (by omega)] | rw [aj_nw_self] | rw [e9 _ (by omega)] | rw [e8 _ (by omega)] | rw [e7 _ (by omega)] | rw [e6 _ (by omega)] | rw [e5 _ (by omega)] | rw [e4 _ (by omega)] | rw [e3 _ (by omega)] | rw [e2 _ (by omega)] | rw [e1 _ (by omega)]))
  · (repeat (first | rw [aj_up_self] | rw [aj_up_ne _ _ _ (by omega)] | rw [aj_up_ni _ _ _ (by omega)] | rw [aj_nw_ne _ _ (by omega)] | rw [aj_nw_self] | rw [e9 _ (by omega)] | rw [e8 _ (by omega)] | rw [e7 _ (by omega)] | rw [e6 _ (by omega)] | rw [e5 _ (by omega)] | rw [e4 _ (by omega)] | rw [e3 _ (by omega)] | rw [e2 _ (by omega)] | rw [e1 _ (by omega)]))
  · (repeat (first | rw [aj_up_self] | rw [aj_up_ne _ _ _ (by omega)] | rw [aj_up_ni _ _ _ (by omega)] | rw [aj_nw_ne _ _ (by omega)] | rw [aj_nw_self] | rw [e9 _ (by omega)] | rw [e8 _ (by omega)] | rw [e7 _ (by omega)] | rw [e6 _ (by omega)] | rw [e5 _ (by omega)] | rw [e4 _ (by omega)] | rw [e3 _ (by omega)] | rw [e2 _ (by omega)] | rw [e1 _ (by omega)]))
  · unfold reF
    rw [d2 4 (by omega) (by omega)]
    exact h2
  · unfold faF
    rw [d3 13 (by omega) (by omega), d3 24 (by omega) (by omega), d3 14 (by omega) (by omega), d3 15 (by omega) (by omega)]
    exact ⟨h3.1, h3.2.1, h3.2.2.1, h3.2.2.2.1, h3.2.2.2.2.1, fun v hv => ⟨(h3.2.2.2.2.2 v hv).1, by rw [d3 _ (by omega) (by omega)]; exact (h3.2.2.2.2.2 v hv).2.1, (h3.2.2.2.2.2 v hv).2.2⟩⟩
  · unfold seF
    rw [d5 44 (by omega) (by omega), d5 45 (by omega) (by omega)]
    exact ⟨s0, s1, s2, s3, s4, s5, s6, s7⟩
  · rw [d6 53 (by omega) (by omega)]
    exact ⟨t0, t1⟩
  · rw [d7 56 (by omega) (by omega)]
    exact ⟨w0, w1⟩
  · unfold suF0
    rw [d8 58 (by omega) (by omega)]
    exact h8
  · unfold suF0
    rw [d9 68 (by omega)]
    exact h9
