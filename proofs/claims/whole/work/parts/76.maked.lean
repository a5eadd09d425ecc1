/-! making: Model; what the constructors leave is the first state -/
def mR (g : aj_G) (k n : Nat) : Prop := (∀ q ∈ mo_t, g 78 ((q.1 : Nat) : Int) = ((q.2.1 : Nat) : Int)) ∧ (g 78 1 = n ∧ g 78 2 = k ∧ g 78 5 = 0 ∧ g 78 6 = 0 ∧ g 78 8 = 0 ∧ g 78 16 = 1 ∧ g 78 17 = 0 ∧ g 78 20 = 0 ∧ g 78 25 = 0 ∧ g 78 29 = -1 ∧ g 78 30 = -1) ∧ (∀ a b : Nat, a < 8 → b < 3 → g 79 (3 * (a : Int) + b) = a) ∧ ∀ i, g 80 i = 0
def iL (g g1 : aj_G) (s i : Nat) : Prop := (∀ r', r' ≠ 79 → g1 r' = g r') ∧ ∀ a b : Nat, b < 3 → (a < s ∨ (a = s ∧ b < i)) → g1 79 (3 * (a : Int) + b) = a
set_option maxHeartbeats 4000000 in
theorem k_mi_in {al : Prop} {X : Option (Nat × (Int → Int))} {d : Nat} {g : aj_G} {Q : aj_R → List aj_S → aj_G → Prop} {k : Nat} {x y : Int} (h79 : g 78 3 = 79) {s : Nat} (hs : s < 8) (hgo : ∀ (g1 : aj_G) (o4 : Option aj_A), iL g g1 (s + 1) 0 → aj_wp nE al al X m_Model_init d 0 0 242 [some (1, 78), some (0, x), some (0, y), some (0, ((s + 1 : Nat) : Int)), o4] [] (bsh k 100) g1 Q) : ∀ (n i : Nat) (g1 : aj_G), i ≤ 3 → 3 - i = n → iL g g1 s i → aj_wp nE al al X m_Model_init d 0 0 251 [some (1, 78), some (0, x), some (0, y), some (0, (s : Int)), some (0, (i : Int))] [] (bsh k 100) g1 Q := by
  intro n
  induction n using Nat.strongRecOn with
  | ind n ih =>
    intro i g1 hi hnn hI
    refine aj_iload 4 253 (dx d_Model_init 128 rfl) rfl rfl ?_
    refine aj_iconst 254 (dx d_Model_init 129 rfl) rfl ?_
    refine aj_icmp_ge 275 257 (dx d_Model_init 130 rfl) rfl rfl (by unfold aj_I; omega) (by unfold aj_I; omega) (fun h254 => ?_) (fun h254 => ?_)
    · obtain rfl : i = 3 := by omega
      refine aj_iinc 3 278 (dx d_Model_init 142 rfl) rfl rfl rfl ?_
      simp only [List.set]
      refine aj_goto 242 (dx d_Model_init 143 rfl) rfl ?_
      rw [show ((s : Nat) : Int) + 1 = ((s + 1 : Nat) : Int) by omega]
      exact hgo g1 _ ⟨hI.1, fun a b hb h => hI.2 a b hb (by omega)⟩
    · refine aj_aload_n 0 258 (dx d_Model_init 131 rfl) rfl rfl rfl ?_
      refine aj_getfv (v := 79) 261 fl_Model_7 (dx d_Model_init 132 rfl) rfl rfl (by rw [hI.1 78 (by omega)]; exact h79) ?_
      refine aj_iconst 262 (dx d_Model_init 133 rfl) rfl ?_
      refine aj_iload_n 3 263 (dx d_Model_init 134 rfl) rfl rfl rfl ?_
      refine aj_imul 264 (dx d_Model_init 135 rfl) rfl ?_
      refine aj_iload 4 266 (dx d_Model_init 136 rfl) rfl rfl ?_
      refine aj_iadd 267 (dx d_Model_init 137 rfl) rfl ?_
      refine aj_iload_n 3 268 (dx d_Model_init 138 rfl) rfl rfl rfl ?_
      refine aj_iast 269 (dx d_Model_init 139 rfl) rfl rfl rfl (by omega) (by omega) ?_
      refine aj_iinc 4 272 (dx d_Model_init 140 rfl) rfl rfl rfl ?_
      simp only [List.set]
      refine aj_goto 251 (dx d_Model_init 141 rfl) rfl ?_
      rw [show ((i : Nat) : Int) + 1 = ((i + 1 : Nat) : Int) by omega]
      refine ih _ (by omega) (i + 1) _ (by omega) rfl ⟨fun r' h => by rw [aj_up_ne _ _ _ h]; exact hI.1 r' h, fun a b hb h => ?_⟩
      by_cases e : a = s ∧ b = i
      · obtain ⟨rfl, rfl⟩ := e
        exact aj_up_self _ _ _ _
      · rw [aj_up_ni _ _ _ (by omega)]
        exact hI.2 a b hb (by omega)
set_option maxHeartbeats 4000000 in
theorem k_mi_out {al : Prop} {X : Option (Nat × (Int → Int))} {d : Nat} {g : aj_G} {Q : aj_R → List aj_S → aj_G → Prop} {k : Nat} {x y : Int} (h79 : g 78 3 = 79) (hk : ∀ g1 : aj_G, iL g g1 8 0 → Q (.inl none) (bsh k 100) g1) : ∀ (n s : Nat) (g1 : aj_G) (o4 : Option aj_A), s ≤ 8 → 8 - s = n → iL g g1 s 0 → aj_wp nE al al X m_Model_init d 0 0 242 [some (1, 78), some (0, x), some (0, y), some (0, (s : Int)), o4] [] (bsh k 100) g1 Q := by
  intro n
  induction n using Nat.strongRecOn with
  | ind n ih =>
    intro s g1 o4 hs hnn hI
    refine aj_iload_n 3 243 (dx d_Model_init 123 rfl) rfl rfl rfl ?_
    refine aj_bipush 245 (dx d_Model_init 124 rfl) rfl (by decide +kernel) ?_
    refine aj_icmp_ge 281 248 (dx d_Model_init 125 rfl) rfl rfl (by unfold aj_I; omega) (by unfold aj_I; omega) (fun h245 => ?_) (fun h245 => ?_)
    · refine aj_vret (dx d_Model_init 144 rfl) rfl id ?_
      rw [show s = 8 by omega] at hI
      exact hk g1 hI
    · refine aj_iconst 249 (dx d_Model_init 126 rfl) rfl ?_
      refine aj_istore 4 251 (dx d_Model_init 127 rfl) rfl rfl ?_
      simp only [List.set]
      refine k_mi_in h79 (show s < 8 by omega) (fun g2 o5 hI2 => ?_) _ 0 g1 (by omega) rfl hI
      exact ih _ (by omega) (s + 1) g2 o5 (by omega) rfl hI2
set_option maxHeartbeats 4000000 in
theorem k_mi_k {al : Prop} {X : Option (Nat × (Int → Int))} {d : Nat} {g : aj_G} {Q : aj_R → List aj_S → aj_G → Prop} {k : Nat} {x y : Int} (h79 : g 78 3 = 79) (hy : aj_I y) (hk : ∀ (g1 : aj_G) (vk : Int), vk = (clK y : Nat) → iL (aj_up g 78 2 vk) g1 8 0 → Q (.inl none) (bsh k 100) g1) : aj_wp nE al al X m_Model_init d 0 0 217 [some (1, 78), some (0, x), some (0, y), none, none] [] (bsh k 100) g Q := by
  refine aj_aload_n 0 218 (dx d_Model_init 108 rfl) rfl rfl rfl ?_
  refine aj_iload_n 2 219 (dx d_Model_init 109 rfl) rfl rfl rfl ?_
  refine aj_iconst 220 (dx d_Model_init 110 rfl) rfl ?_
  refine aj_icmp_ge 227 223 (dx d_Model_init 111 rfl) rfl rfl hy (by unfold aj_I; omega) (fun h220 => ?_) (fun h220 => ?_)
  · refine aj_iload_n 2 228 (dx d_Model_init 114 rfl) rfl rfl rfl ?_
    refine aj_iconst 229 (dx d_Model_init 115 rfl) rfl ?_
    refine aj_icmp_le 236 232 (dx d_Model_init 116 rfl) rfl rfl hy (by unfold aj_I; omega) (fun h229 => ?_) (fun h229 => ?_)
    · refine aj_iload_n 2 237 (dx d_Model_init 119 rfl) rfl rfl rfl ?_
      refine aj_putf 240 pl_Model_89 (dx d_Model_init 120 rfl) rfl rfl (aj_fitI _) ?_
      refine aj_iconst 241 (dx d_Model_init 121 rfl) rfl ?_
      refine aj_istore_n 3 242 (dx d_Model_init 122 rfl) rfl rfl rfl ?_
      simp only [List.set]
      refine k_mi_out (g := aj_up g 78 2 _) ?_ (fun g1 hI => hk g1 _ (by unfold clK; (repeat' split) <;> omega) hI) _ 0 _ none (by omega) rfl ⟨fun _ _ => rfl, fun a b hb h => absurd h (by omega)⟩
      rw [aj_up_ni _ _ _ (by omega)]
      exact h79
    · refine aj_iconst 233 (dx d_Model_init 117 rfl) rfl ?_
      refine aj_goto 237 (dx d_Model_init 118 rfl) rfl ?_
      refine aj_putf 240 pl_Model_89 (dx d_Model_init 120 rfl) rfl rfl (aj_fitI _) ?_
      refine aj_iconst 241 (dx d_Model_init 121 rfl) rfl ?_
      refine aj_istore_n 3 242 (dx d_Model_init 122 rfl) rfl rfl rfl ?_
      simp only [List.set]
      refine k_mi_out (g := aj_up g 78 2 _) ?_ (fun g1 hI => hk g1 _ (by unfold clK; (repeat' split) <;> omega) hI) _ 0 _ none (by omega) rfl ⟨fun _ _ => rfl, fun a b hb h => absurd h (by omega)⟩
      rw [aj_up_ni _ _ _ (by omega)]
      exact h79
  · refine aj_iconst 224 (dx d_Model_init 112 rfl) rfl ?_
    refine aj_goto 237 (dx d_Model_init 113 rfl) rfl ?_
    refine aj_putf 240 pl_Model_89 (dx d_Model_init 120 rfl) rfl rfl (aj_fitI _) ?_
    refine aj_iconst 241 (dx d_Model_init 121 rfl) rfl ?_
    refine aj_istore_n 3 242 (dx d_Model_init 122 rfl) rfl rfl rfl ?_
    simp only [List.set]
    refine k_mi_out (g := aj_up g 78 2 _) ?_ (fun g1 hI => hk g1 _ (by unfold clK; (repeat' split) <;> omega) hI) _ 0 _ none (by omega) rfl ⟨fun _ _ => rfl, fun a b hb h => absurd h (by omega)⟩
    rw [aj_up_ni _ _ _ (by omega)]
    exact h79
set_option maxHeartbeats 32000000 in
theorem k_Model_init {al : Prop} {X : Option (Nat × (Int → Int))} {d : Nat} {g : aj_G} {Q : aj_R → List aj_S → aj_G → Prop} (hal : al) {k : Nat} {x y : Int} (hx : aj_I x) (hy : aj_I y) (hg : ∀ j, g 78 j = aj_dv (nE.2.2.1 8 j.toNat)) (hk : ∀ g1 : aj_G, (∀ r', r' < 78 → g1 r' = g r') → mR g1 (clK y) (clN x) → Q (.inl none) (bsh k 100) g1) : aj_wp nE al al X m_Model_init (d + 1) 21 7833 0 [some (1, 78), some (0, x), some (0, y), none, none] [] (bsh k 79) g Q := by
  refine aj_aload_n 0 1 (dx d_Model_init 0 rfl) rfl rfl rfl ?_
  refine aj_objInit 4 ob_Model_1 (dx d_Model_init 1 rfl) rfl (by omega) (by omega) ?_
  refine aj_aload_n 0 5 (dx d_Model_init 2 rfl) rfl rfl rfl ?_
  refine aj_bipush 7 (dx d_Model_init 3 rfl) rfl (by decide +kernel) ?_
  refine aj_newp (t0 := 0) (x := 79) (N := 24) (bc1 := 20) (bs1 := 7809) 9 (dx d_Model_init 4 rfl) rfl rfl (Or.inl rfl) rfl ac_int rfl (by omega) rfl rfl hal rfl (by omega) ?_
  change aj_wp _ _ _ _ _ _ _ _ _ _ _ (bsh k 80) _ _
  refine aj_putf 12 pl_Model_7 (dx d_Model_init 5 rfl) rfl rfl (aj_fitA _ _) ?_
  refine aj_aload_n 0 13 (dx d_Model_init 6 rfl) rfl rfl rfl ?_
  refine aj_bipush 15 (dx d_Model_init 7 rfl) rfl (by decide +kernel) ?_
  refine aj_newp (t0 := 0) (x := 80) (N := 24) (bc1 := 19) (bs1 := 7785) 17 (dx d_Model_init 8 rfl) rfl rfl (Or.inl rfl) rfl ac_int rfl (by omega) rfl rfl hal rfl (by omega) ?_
  change aj_wp _ _ _ _ _ _ _ _ _ _ _ (bsh k 81) _ _
  refine aj_putf 20 pl_Model_13 (dx d_Model_init 9 rfl) rfl rfl (aj_fitA _ _) ?_
  refine aj_aload_n 0 21 (dx d_Model_init 10 rfl) rfl rfl rfl ?_
  refine aj_bipush 23 (dx d_Model_init 11 rfl) rfl (by decide +kernel) ?_
  refine aj_newp (t0 := 0) (x := 81) (N := 64) (bc1 := 18) (bs1 := 7721) 25 (dx d_Model_init 12 rfl) rfl rfl (Or.inl rfl) rfl ac_int rfl (by omega) rfl rfl hal rfl (by omega) ?_
  change aj_wp _ _ _ _ _ _ _ _ _ _ _ (bsh k 82) _ _
  refine aj_putf 28 pl_Model_16 (dx d_Model_init 13 rfl) rfl rfl (aj_fitA _ _) ?_
  refine aj_aload_n 0 29 (dx d_Model_init 14 rfl) rfl rfl rfl ?_
  refine aj_bipush 31 (dx d_Model_init 15 rfl) rfl (by decide +kernel) ?_
  refine aj_newp (t0 := 0) (x := 82) (N := 8) (bc1 := 17) (bs1 := 7713) 33 (dx d_Model_init 16 rfl) rfl rfl (Or.inl rfl) rfl ac_int rfl (by omega) rfl rfl hal rfl (by omega) ?_
  change aj_wp _ _ _ _ _ _ _ _ _ _ _ (bsh k 83) _ _
  refine aj_putf 36 pl_Model_19 (dx d_Model_init 17 rfl) rfl rfl (aj_fitA _ _) ?_
  refine aj_aload_n 0 37 (dx d_Model_init 18 rfl) rfl rfl rfl ?_
  refine aj_bipush 39 (dx d_Model_init 19 rfl) rfl (by decide +kernel) ?_
  refine aj_newp (t0 := 0) (x := 83) (N := 8) (bc1 := 16) (bs1 := 7705) 41 (dx d_Model_init 20 rfl) rfl rfl (Or.inl rfl) rfl ac_int rfl (by omega) rfl rfl hal rfl (by omega) ?_
  change aj_wp _ _ _ _ _ _ _ _ _ _ _ (bsh k 84) _ _
  refine aj_putf 44 pl_Model_22 (dx d_Model_init 21 rfl) rfl rfl (aj_fitA _ _) ?_
  refine aj_aload_n 0 45 (dx d_Model_init 22 rfl) rfl rfl rfl ?_
  refine aj_bipush 47 (dx d_Model_init 23 rfl) rfl (by decide +kernel) ?_
  refine aj_newp (t0 := 2) (x := 84) (N := 8) (bc1 := 15) (bs1 := 7697) 49 (dx d_Model_init 24 rfl) rfl rfl (Or.inr (Or.inr rfl)) rfl ac_long rfl (by omega) rfl rfl hal rfl (by omega) ?_
  change aj_wp _ _ _ _ _ _ _ _ _ _ _ (bsh k 85) _ _
  refine aj_putf 52 pl_Model_25 (dx d_Model_init 25 rfl) rfl rfl (aj_fitA _ _) ?_
  refine aj_aload_n 0 53 (dx d_Model_init 26 rfl) rfl rfl rfl ?_
  refine aj_bipush 55 (dx d_Model_init 27 rfl) rfl (by decide +kernel) ?_
  refine aj_newp (t0 := 2) (x := 85) (N := 28) (bc1 := 14) (bs1 := 7669) 57 (dx d_Model_init 28 rfl) rfl rfl (Or.inr (Or.inr rfl)) rfl ac_long rfl (by omega) rfl rfl hal rfl (by omega) ?_
  change aj_wp _ _ _ _ _ _ _ _ _ _ _ (bsh k 86) _ _
  refine aj_putf 60 pl_Model_29 (dx d_Model_init 29 rfl) rfl rfl (aj_fitA _ _) ?_
  refine aj_aload_n 0 61 (dx d_Model_init 30 rfl) rfl rfl rfl ?_
  refine aj_bipush 63 (dx d_Model_init 31 rfl) rfl (by decide +kernel) ?_
  refine aj_newp (t0 := 0) (x := 86) (N := 8) (bc1 := 13) (bs1 := 7661) 65 (dx d_Model_init 32 rfl) rfl rfl (Or.inl rfl) rfl ac_int rfl (by omega) rfl rfl hal rfl (by omega) ?_
  change aj_wp _ _ _ _ _ _ _ _ _ _ _ (bsh k 87) _ _
  refine aj_putf 68 pl_Model_32 (dx d_Model_init 33 rfl) rfl rfl (aj_fitA _ _) ?_
  refine aj_aload_n 0 69 (dx d_Model_init 34 rfl) rfl rfl rfl ?_
  refine aj_bipush 71 (dx d_Model_init 35 rfl) rfl (by decide +kernel) ?_
  refine aj_newp (t0 := 0) (x := 87) (N := 64) (bc1 := 12) (bs1 := 7597) 73 (dx d_Model_init 36 rfl) rfl rfl (Or.inl rfl) rfl ac_int rfl (by omega) rfl rfl hal rfl (by omega) ?_
  change aj_wp _ _ _ _ _ _ _ _ _ _ _ (bsh k 88) _ _
  refine aj_putf 76 pl_Model_35 (dx d_Model_init 37 rfl) rfl rfl (aj_fitA _ _) ?_
  refine aj_aload_n 0 77 (dx d_Model_init 38 rfl) rfl rfl rfl ?_
  refine aj_lconst (x := 1) 78 (dx d_Model_init 39 rfl) rfl rfl ?_
  refine aj_putf 81 (pl_Model_38 _) (dx d_Model_init 40 rfl) rfl rfl (aj_fitJ _) ?_
  refine aj_aload_n 0 82 (dx d_Model_init 41 rfl) rfl rfl rfl ?_
  refine aj_bipush 84 (dx d_Model_init 42 rfl) rfl (by decide +kernel) ?_
  refine aj_newp (t0 := 0) (x := 88) (N := 30) (bc1 := 11) (bs1 := 7567) 86 (dx d_Model_init 43 rfl) rfl rfl (Or.inl rfl) rfl ac_int rfl (by omega) rfl rfl hal rfl (by omega) ?_
  change aj_wp _ _ _ _ _ _ _ _ _ _ _ (bsh k 89) _ _
  refine aj_putf 89 pl_Model_42 (dx d_Model_init 44 rfl) rfl rfl (aj_fitA _ _) ?_
  refine aj_aload_n 0 90 (dx d_Model_init 45 rfl) rfl rfl rfl ?_
  refine aj_bipush 92 (dx d_Model_init 46 rfl) rfl (by decide +kernel) ?_
  refine aj_newp (t0 := 0) (x := 89) (N := 30) (bc1 := 10) (bs1 := 7537) 94 (dx d_Model_init 47 rfl) rfl rfl (Or.inl rfl) rfl ac_int rfl (by omega) rfl rfl hal rfl (by omega) ?_
  change aj_wp _ _ _ _ _ _ _ _ _ _ _ (bsh k 90) _ _
  refine aj_putf 97 pl_Model_45 (dx d_Model_init 48 rfl) rfl rfl (aj_fitA _ _) ?_
  refine aj_aload_n 0 98 (dx d_Model_init 49 rfl) rfl rfl rfl ?_
  refine aj_sipush 101 (dx d_Model_init 50 rfl) rfl (by decide +kernel) ?_
  refine aj_newp (t0 := 0) (x := 90) (N := 2403) (bc1 := 9) (bs1 := 5134) 103 (dx d_Model_init 51 rfl) rfl rfl (Or.inl rfl) rfl ac_int rfl (by omega) rfl rfl hal rfl (by omega) ?_
  change aj_wp _ _ _ _ _ _ _ _ _ _ _ (bsh k 91) _ _
  refine aj_putf 106 pl_Model_48 (dx d_Model_init 52 rfl) rfl rfl (aj_fitA _ _) ?_
  refine aj_aload_n 0 107 (dx d_Model_init 53 rfl) rfl rfl rfl ?_
  refine aj_sipush 110 (dx d_Model_init 54 rfl) rfl (by decide +kernel) ?_
  refine aj_newp (t0 := 0) (x := 91) (N := 2403) (bc1 := 8) (bs1 := 2731) 112 (dx d_Model_init 55 rfl) rfl rfl (Or.inl rfl) rfl ac_int rfl (by omega) rfl rfl hal rfl (by omega) ?_
  change aj_wp _ _ _ _ _ _ _ _ _ _ _ (bsh k 92) _ _
  refine aj_putf 115 pl_Model_51 (dx d_Model_init 56 rfl) rfl rfl (aj_fitA _ _) ?_
  refine aj_aload_n 0 116 (dx d_Model_init 57 rfl) rfl rfl rfl ?_
  refine aj_sipush 119 (dx d_Model_init 58 rfl) rfl (by decide +kernel) ?_
  refine aj_newp (t0 := 0) (x := 92) (N := 801) (bc1 := 7) (bs1 := 1930) 121 (dx d_Model_init 59 rfl) rfl rfl (Or.inl rfl) rfl ac_int rfl (by omega) rfl rfl hal rfl (by omega) ?_
  change aj_wp _ _ _ _ _ _ _ _ _ _ _ (bsh k 93) _ _
  refine aj_putf 124 pl_Model_54 (dx d_Model_init 60 rfl) rfl rfl (aj_fitA _ _) ?_
  refine aj_aload_n 0 125 (dx d_Model_init 61 rfl) rfl rfl rfl ?_
  refine aj_sipush 128 (dx d_Model_init 62 rfl) rfl (by decide +kernel) ?_
  refine aj_newp (t0 := 0) (x := 93) (N := 801) (bc1 := 6) (bs1 := 1129) 130 (dx d_Model_init 63 rfl) rfl rfl (Or.inl rfl) rfl ac_int rfl (by omega) rfl rfl hal rfl (by omega) ?_
  change aj_wp _ _ _ _ _ _ _ _ _ _ _ (bsh k 94) _ _
  refine aj_putf 133 pl_Model_57 (dx d_Model_init 64 rfl) rfl rfl (aj_fitA _ _) ?_
  refine aj_aload_n 0 134 (dx d_Model_init 65 rfl) rfl rfl rfl ?_
  refine aj_sipush 137 (dx d_Model_init 66 rfl) rfl (by decide +kernel) ?_
  refine aj_newp (t0 := 0) (x := 94) (N := 801) (bc1 := 5) (bs1 := 328) 139 (dx d_Model_init 67 rfl) rfl rfl (Or.inl rfl) rfl ac_int rfl (by omega) rfl rfl hal rfl (by omega) ?_
  change aj_wp _ _ _ _ _ _ _ _ _ _ _ (bsh k 95) _ _
  refine aj_putf 142 pl_Model_60 (dx d_Model_init 68 rfl) rfl rfl (aj_fitA _ _) ?_
  refine aj_aload_n 0 143 (dx d_Model_init 69 rfl) rfl rfl rfl ?_
  refine aj_iconst 144 (dx d_Model_init 70 rfl) rfl ?_
  refine aj_putf 147 (pl_Model_63 _) (dx d_Model_init 71 rfl) rfl rfl (aj_fitI _) ?_
  refine aj_aload_n 0 148 (dx d_Model_init 72 rfl) rfl rfl rfl ?_
  refine aj_iconst 149 (dx d_Model_init 73 rfl) rfl ?_
  refine aj_putf 152 (pl_Model_67 _) (dx d_Model_init 74 rfl) rfl rfl (aj_fitI _) ?_
  refine aj_aload_n 0 153 (dx d_Model_init 75 rfl) rfl rfl rfl ?_
  refine aj_bipush 155 (dx d_Model_init 76 rfl) rfl (by decide +kernel) ?_
  refine aj_newp (t0 := 0) (x := 95) (N := 64) (bc1 := 4) (bs1 := 264) 157 (dx d_Model_init 77 rfl) rfl rfl (Or.inl rfl) rfl ac_int rfl (by omega) rfl rfl hal rfl (by omega) ?_
  change aj_wp _ _ _ _ _ _ _ _ _ _ _ (bsh k 96) _ _
  refine aj_putf 160 pl_Model_70 (dx d_Model_init 78 rfl) rfl rfl (aj_fitA _ _) ?_
  refine aj_aload_n 0 161 (dx d_Model_init 79 rfl) rfl rfl rfl ?_
  refine aj_bipush 163 (dx d_Model_init 80 rfl) rfl (by decide +kernel) ?_
  refine aj_newp (t0 := 0) (x := 96) (N := 80) (bc1 := 3) (bs1 := 184) 165 (dx d_Model_init 81 rfl) rfl rfl (Or.inl rfl) rfl ac_int rfl (by omega) rfl rfl hal rfl (by omega) ?_
  change aj_wp _ _ _ _ _ _ _ _ _ _ _ (bsh k 97) _ _
  refine aj_putf 168 pl_Model_73 (dx d_Model_init 82 rfl) rfl rfl (aj_fitA _ _) ?_
  refine aj_aload_n 0 169 (dx d_Model_init 83 rfl) rfl rfl rfl ?_
  refine aj_bipush 171 (dx d_Model_init 84 rfl) rfl (by decide +kernel) ?_
  refine aj_newp (t0 := 1) (x := 97) (N := 80) (bc1 := 2) (bs1 := 104) 173 (dx d_Model_init 85 rfl) rfl rfl (Or.inr (Or.inl rfl)) rfl ac_bool rfl (by omega) rfl rfl hal rfl (by omega) ?_
  change aj_wp _ _ _ _ _ _ _ _ _ _ _ (bsh k 98) _ _
  refine aj_putf 176 pl_Model_76 (dx d_Model_init 86 rfl) rfl rfl (aj_fitA _ _) ?_
  refine aj_aload_n 0 177 (dx d_Model_init 87 rfl) rfl rfl rfl ?_
  refine aj_bipush 179 (dx d_Model_init 88 rfl) rfl (by decide +kernel) ?_
  refine aj_newp (t0 := 2) (x := 98) (N := 80) (bc1 := 1) (bs1 := 24) 181 (dx d_Model_init 89 rfl) rfl rfl (Or.inr (Or.inr rfl)) rfl ac_long rfl (by omega) rfl rfl hal rfl (by omega) ?_
  change aj_wp _ _ _ _ _ _ _ _ _ _ _ (bsh k 99) _ _
  refine aj_putf 184 pl_Model_80 (dx d_Model_init 90 rfl) rfl rfl (aj_fitA _ _) ?_
  refine aj_aload_n 0 185 (dx d_Model_init 91 rfl) rfl rfl rfl ?_
  refine aj_bipush 187 (dx d_Model_init 92 rfl) rfl (by decide +kernel) ?_
  refine aj_newp (t0 := 1) (x := 99) (N := 24) (bc1 := 0) (bs1 := 0) 189 (dx d_Model_init 93 rfl) rfl rfl (Or.inr (Or.inl rfl)) rfl ac_bool rfl (by omega) rfl rfl hal rfl (by omega) ?_
  change aj_wp _ _ _ _ _ _ _ _ _ _ _ (bsh k 100) _ _
  refine aj_putf 192 pl_Model_83 (dx d_Model_init 94 rfl) rfl rfl (aj_fitA _ _) ?_
  refine aj_aload_n 0 193 (dx d_Model_init 95 rfl) rfl rfl rfl ?_
  refine aj_iload_n 1 194 (dx d_Model_init 96 rfl) rfl rfl rfl ?_
  refine aj_iconst 195 (dx d_Model_init 97 rfl) rfl ?_
  refine aj_icmp_ge 202 198 (dx d_Model_init 98 rfl) rfl rfl hx (by unfold aj_I; omega) (fun h195 => ?_) (fun h195 => ?_)
  · refine aj_iload_n 1 203 (dx d_Model_init 101 rfl) rfl rfl rfl ?_
    refine aj_bipush 205 (dx d_Model_init 102 rfl) rfl (by decide +kernel) ?_
    refine aj_icmp_le 213 208 (dx d_Model_init 103 rfl) rfl rfl hx (by unfold aj_I; omega) (fun h205 => ?_) (fun h205 => ?_)
    · refine aj_iload_n 1 214 (dx d_Model_init 106 rfl) rfl rfl rfl ?_
      refine aj_putf 217 pl_Model_86 (dx d_Model_init 107 rfl) rfl rfl (aj_fitI _) ?_
      refine k_mi_k ?_ hy (fun g1 vk hvk hI => ?_)
      · (repeat (first | rw [aj_up_self] | rw [aj_up_ne _ _ _ (by omega)] | rw [aj_up_ni _ _ _ (by omega)] | rw [aj_nw_ne _ _ (by omega)] | rw [aj_nw_self]))
      · refine hk g1 (fun r' h => ?_) ⟨fun q hq => ?_, ⟨?_, ?_, ?_, ?_, ?_, ?_, ?_, ?_, ?_, ?_, ?_⟩, fun a b ha hb => hI.2 a b hb (by omega), fun i => ?_⟩
        · rw [hI.1 r' (by omega)]
          (repeat (first | rw [aj_up_self] | rw [aj_up_ne _ _ _ (by omega)] | rw [aj_up_ni _ _ _ (by omega)] | rw [aj_nw_ne _ _ (by omega)] | rw [aj_nw_self]))
        · rw [hI.1 78 (by omega)]
          show _ = _
          rcases List.mem_cons.mp hq with rfl | hq
          · show aj_up _ 78 2 _ 78 3 = 79
            (repeat (first | rw [aj_up_self] | rw [aj_up_ne _ _ _ (by omega)] | rw [aj_up_ni _ _ _ (by omega)] | rw [aj_nw_ne _ _ (by omega)] | rw [aj_nw_self]))
          · rcases List.mem_cons.mp hq with rfl | hq
            · show aj_up _ 78 2 _ 78 4 = 80
              (repeat (first | rw [aj_up_self] | rw [aj_up_ne _ _ _ (by omega)] | rw [aj_up_ni _ _ _ (by omega)] | rw [aj_nw_ne _ _ (by omega)] | rw [aj_nw_self]))
            · rcases List.mem_cons.mp hq with rfl | hq
              · show aj_up _ 78 2 _ 78 7 = 81
                (repeat (first | rw [aj_up_self] | rw [aj_up_ne _ _ _ (by omega)] | rw [aj_up_ni _ _ _ (by omega)] | rw [aj_nw_ne _ _ (by omega)] | rw [aj_nw_self]))
              · rcases List.mem_cons.mp hq with rfl | hq
                · show aj_up _ 78 2 _ 78 9 = 82
                  (repeat (first | rw [aj_up_self] | rw [aj_up_ne _ _ _ (by omega)] | rw [aj_up_ni _ _ _ (by omega)] | rw [aj_nw_ne _ _ (by omega)] | rw [aj_nw_self]))
                · rcases List.mem_cons.mp hq with rfl | hq
                  · show aj_up _ 78 2 _ 78 10 = 83
                    (repeat (first | rw [aj_up_self] | rw [aj_up_ne _ _ _ (by omega)] | rw [aj_up_ni _ _ _ (by omega)] | rw [aj_nw_ne _ _ (by omega)] | rw [aj_nw_self]))
                  · rcases List.mem_cons.mp hq with rfl | hq
                    · show aj_up _ 78 2 _ 78 11 = 84
                      (repeat (first | rw [aj_up_self] | rw [aj_up_ne _ _ _ (by omega)] | rw [aj_up_ni _ _ _ (by omega)] | rw [aj_nw_ne _ _ (by omega)] | rw [aj_nw_self]))
                    · rcases List.mem_cons.mp hq with rfl | hq
                      · show aj_up _ 78 2 _ 78 13 = 85
                        (repeat (first | rw [aj_up_self] | rw [aj_up_ne _ _ _ (by omega)] | rw [aj_up_ni _ _ _ (by omega)] | rw [aj_nw_ne _ _ (by omega)] | rw [aj_nw_self]))
                      · rcases List.mem_cons.mp hq with rfl | hq
                        · show aj_up _ 78 2 _ 78 14 = 86
                          (repeat (first | rw [aj_up_self] | rw [aj_up_ne _ _ _ (by omega)] | rw [aj_up_ni _ _ _ (by omega)] | rw [aj_nw_ne _ _ (by omega)] | rw [aj_nw_self]))
                        · rcases List.mem_cons.mp hq with rfl | hq
                          · show aj_up _ 78 2 _ 78 15 = 87
                            (repeat (first | rw [aj_up_self] | rw [aj_up_ne _ _ _ (by omega)] | rw [aj_up_ni _ _ _ (by omega)] | rw [aj_nw_ne _ _ (by omega)] | rw [aj_nw_self]))
                          · rcases List.mem_cons.mp hq with rfl | hq
                            · show aj_up _ 78 2 _ 78 18 = 88
                              (repeat (first | rw [aj_up_self] | rw [aj_up_ne _ _ _ (by omega)] | rw [aj_up_ni _ _ _ (by omega)] | rw [aj_nw_ne _ _ (by omega)] | rw [aj_nw_self]))
                            · rcases List.mem_cons.mp hq with rfl | hq
                              · show aj_up _ 78 2 _ 78 19 = 89
                                (repeat (first | rw [aj_up_self] | rw [aj_up_ne _ _ _ (by omega)] | rw [aj_up_ni _ _ _ (by omega)] | rw [aj_nw_ne _ _ (by omega)] | rw [aj_nw_self]))
                              · rcases List.mem_cons.mp hq with rfl | hq
                                · show aj_up _ 78 2 _ 78 22 = 90
                                  (repeat (first | rw [aj_up_self] | rw [aj_up_ne _ _ _ (by omega)] | rw [aj_up_ni _ _ _ (by omega)] | rw [aj_nw_ne _ _ (by omega)] | rw [aj_nw_self]))
                                · rcases List.mem_cons.mp hq with rfl | hq
                                  · show aj_up _ 78 2 _ 78 24 = 91
                                    (repeat (first | rw [aj_up_self] | rw [aj_up_ne _ _ _ (by omega)] | rw [aj_up_ni _ _ _ (by omega)] | rw [aj_nw_ne _ _ (by omega)] | rw [aj_nw_self]))
                                  · rcases List.mem_cons.mp hq with rfl | hq
                                    · show aj_up _ 78 2 _ 78 26 = 92
                                      (repeat (first | rw [aj_up_self] | rw [aj_up_ne _ _ _ (by omega)] | rw [aj_up_ni _ _ _ (by omega)] | rw [aj_nw_ne _ _ (by omega)] | rw [aj_nw_self]))
                                    · rcases List.mem_cons.mp hq with rfl | hq
                                      · show aj_up _ 78 2 _ 78 27 = 93
                                        (repeat (first | rw [aj_up_self] | rw [aj_up_ne _ _ _ (by omega)] | rw [aj_up_ni _ _ _ (by omega)] | rw [aj_nw_ne _ _ (by omega)] | rw [aj_nw_self]))
                                      · rcases List.mem_cons.mp hq with rfl | hq
                                        · show aj_up _ 78 2 _ 78 28 = 94
                                          (repeat (first | rw [aj_up_self] | rw [aj_up_ne _ _ _ (by omega)] | rw [aj_up_ni _ _ _ (by omega)] | rw [aj_nw_ne _ _ (by omega)] | rw [aj_nw_self]))
                                        · rcases List.mem_cons.mp hq with rfl | hq
                                          · show aj_up _ 78 2 _ 78 32 = 95
                                            (repeat (first | rw [aj_up_self] | rw [aj_up_ne _ _ _ (by omega)] | rw [aj_up_ni _ _ _ (by omega)] | rw [aj_nw_ne _ _ (by omega)] | rw [aj_nw_self]))
                                          · rcases List.mem_cons.mp hq with rfl | hq
                                            · show aj_up _ 78 2 _ 78 33 = 96
                                              (repeat (first | rw [aj_up_self] | rw [aj_up_ne _ _ _ (by omega)] | rw [aj_up_ni _ _ _ (by omega)] | rw [aj_nw_ne _ _ (by omega)] | rw [aj_nw_self]))
                                            · rcases List.mem_cons.mp hq with rfl | hq
                                              · show aj_up _ 78 2 _ 78 34 = 97
                                                (repeat (first | rw [aj_up_self] | rw [aj_up_ne _ _ _ (by omega)] | rw [aj_up_ni _ _ _ (by omega)] | rw [aj_nw_ne _ _ (by omega)] | rw [aj_nw_self]))
                                              · rcases List.mem_cons.mp hq with rfl | hq
                                                · show aj_up _ 78 2 _ 78 35 = 98
                                                  (repeat (first | rw [aj_up_self] | rw [aj_up_ne _ _ _ (by omega)] | rw [aj_up_ni _ _ _ (by omega)] | rw [aj_nw_ne _ _ (by omega)] | rw [aj_nw_self]))
                                                · rcases List.mem_cons.mp hq with rfl | hq
                                                  · show aj_up _ 78 2 _ 78 36 = 99
                                                    (repeat (first | rw [aj_up_self] | rw [aj_up_ne _ _ _ (by omega)] | rw [aj_up_ni _ _ _ (by omega)] | rw [aj_nw_ne _ _ (by omega)] | rw [aj_nw_self]))
                                                  · cases hq
        · rw [hI.1 78 (by omega)]
          (repeat (first | rw [aj_up_self] | rw [aj_up_ne _ _ _ (by omega)] | rw [aj_up_ni _ _ _ (by omega)] | rw [aj_nw_ne _ _ (by omega)] | rw [aj_nw_self]))
          unfold clN; (repeat' split) <;> omega
        · rw [hI.1 78 (by omega)]
          (repeat (first | rw [aj_up_self] | rw [aj_up_ne _ _ _ (by omega)] | rw [aj_up_ni _ _ _ (by omega)] | rw [aj_nw_ne _ _ (by omega)] | rw [aj_nw_self]))
          exact hvk
        · rw [hI.1 78 (by omega)]
          (repeat (first | rw [aj_up_self] | rw [aj_up_ne _ _ _ (by omega)] | rw [aj_up_ni _ _ _ (by omega)] | rw [aj_nw_ne _ _ (by omega)] | rw [aj_nw_self]))
          exact hg 5
        · rw [hI.1 78 (by omega)]
          (repeat (first | rw [aj_up_self] | rw [aj_up_ne _ _ _ (by omega)] | rw [aj_up_ni _ _ _ (by omega)] | rw [aj_nw_ne _ _ (by omega)] | rw [aj_nw_self]))
          exact hg 6
        · rw [hI.1 78 (by omega)]
          (repeat (first | rw [aj_up_self] | rw [aj_up_ne _ _ _ (by omega)] | rw [aj_up_ni _ _ _ (by omega)] | rw [aj_nw_ne _ _ (by omega)] | rw [aj_nw_self]))
          exact hg 8
        · rw [hI.1 78 (by omega)]
          (repeat (first | rw [aj_up_self] | rw [aj_up_ne _ _ _ (by omega)] | rw [aj_up_ni _ _ _ (by omega)] | rw [aj_nw_ne _ _ (by omega)] | rw [aj_nw_self]))
        · rw [hI.1 78 (by omega)]
          (repeat (first | rw [aj_up_self] | rw [aj_up_ne _ _ _ (by omega)] | rw [aj_up_ni _ _ _ (by omega)] | rw [aj_nw_ne _ _ (by omega)] | rw [aj_nw_self]))
          exact hg 17
        · rw [hI.1 78 (by omega)]
          (repeat (first | rw [aj_up_self] | rw [aj_up_ne _ _ _ (by omega)] | rw [aj_up_ni _ _ _ (by omega)] | rw [aj_nw_ne _ _ (by omega)] | rw [aj_nw_self]))
          exact hg 20
        · rw [hI.1 78 (by omega)]
          (repeat (first | rw [aj_up_self] | rw [aj_up_ne _ _ _ (by omega)] | rw [aj_up_ni _ _ _ (by omega)] | rw [aj_nw_ne _ _ (by omega)] | rw [aj_nw_self]))
          exact hg 25
        · rw [hI.1 78 (by omega)]
          (repeat (first | rw [aj_up_self] | rw [aj_up_ne _ _ _ (by omega)] | rw [aj_up_ni _ _ _ (by omega)] | rw [aj_nw_ne _ _ (by omega)] | rw [aj_nw_self]))
        · rw [hI.1 78 (by omega)]
          (repeat (first | rw [aj_up_self] | rw [aj_up_ne _ _ _ (by omega)] | rw [aj_up_ni _ _ _ (by omega)] | rw [aj_nw_ne _ _ (by omega)] | rw [aj_nw_self]))
        · rw [hI.1 80 (by omega)]
          (repeat (first | rw [aj_up_self] | rw [aj_up_ne _ _ _ (by omega)] | rw [aj_up_ni _ _ _ (by omega)] | rw [aj_nw_ne _ _ (by omega)] | rw [aj_nw_self]))
    · refine aj_bipush 210 (dx d_Model_init 104 rfl) rfl (by decide +kernel) ?_
      refine aj_goto 214 (dx d_Model_init 105 rfl) rfl ?_
      refine aj_putf 217 pl_Model_86 (dx d_Model_init 107 rfl) rfl rfl (aj_fitI _) ?_
      refine k_mi_k ?_ hy (fun g1 vk hvk hI => ?_)
      · (repeat (first | rw [aj_up_self] | rw [aj_up_ne _ _ _ (by omega)] | rw [aj_up_ni _ _ _ (by omega)] | rw [aj_nw_ne _ _ (by omega)] | rw [aj_nw_self]))
      · refine hk g1 (fun r' h => ?_) ⟨fun q hq => ?_, ⟨?_, ?_, ?_, ?_, ?_, ?_, ?_, ?_, ?_, ?_, ?_⟩, fun a b ha hb => hI.2 a b hb (by omega), fun i => ?_⟩
        · rw [hI.1 r' (by omega)]
          (repeat (first | rw [aj_up_self] | rw [aj_up_ne _ _ _ (by omega)] | rw [aj_up_ni _ _ _ (by omega)] | rw [aj_nw_ne _ _ (by omega)] | rw [aj_nw_self]))
        · rw [hI.1 78 (by omega)]
          show _ = _
          rcases List.mem_cons.mp hq with rfl | hq
          · show aj_up _ 78 2 _ 78 3 = 79
            (repeat (first | rw [aj_up_self] | rw [aj_up_ne _ _ _ (by omega)] | rw [aj_up_ni _ _ _ (by omega)] | rw [aj_nw_ne _ _ (by omega)] | rw [aj_nw_self]))
          · rcases List.mem_cons.mp hq with rfl | hq
            · show aj_up _ 78 2 _ 78 4 = 80
              (repeat (first | rw [aj_up_self] | rw [aj_up_ne _ _ _ (by omega)] | rw [aj_up_ni _ _ _ (by omega)] | rw [aj_nw_ne _ _ (by omega)] | rw [aj_nw_self]))
            · rcases List.mem_cons.mp hq with rfl | hq
              · show aj_up _ 78 2 _ 78 7 = 81
                (repeat (first | rw [aj_up_self] | rw [aj_up_ne _ _ _ (by omega)] | rw [aj_up_ni _ _ _ (by omega)] | rw [aj_nw_ne _ _ (by omega)] | rw [aj_nw_self]))
              · rcases List.mem_cons.mp hq with rfl | hq
                · show aj_up _ 78 2 _ 78 9 = 82
                  (repeat (first | rw [aj_up_self] | rw [aj_up_ne _ _ _ (by omega)] | rw [aj_up_ni _ _ _ (by omega)] | rw [aj_nw_ne _ _ (by omega)] | rw [aj_nw_self]))
                · rcases List.mem_cons.mp hq with rfl | hq
                  · show aj_up _ 78 2 _ 78 10 = 83
                    (repeat (first | rw [aj_up_self] | rw [aj_up_ne _ _ _ (by omega)] | rw [aj_up_ni _ _ _ (by omega)] | rw [aj_nw_ne _ _ (by omega)] | rw [aj_nw_self]))
                  · rcases List.mem_cons.mp hq with rfl | hq
                    · show aj_up _ 78 2 _ 78 11 = 84
                      (repeat (first | rw [aj_up_self] | rw [aj_up_ne _ _ _ (by omega)] | rw [aj_up_ni _ _ _ (by omega)] | rw [aj_nw_ne _ _ (by omega)] | rw [aj_nw_self]))
                    · rcases List.mem_cons.mp hq with rfl | hq
                      · show aj_up _ 78 2 _ 78 13 = 85
                        (repeat (first | rw [aj_up_self] | rw [aj_up_ne _ _ _ (by omega)] | rw [aj_up_ni _ _ _ (by omega)] | rw [aj_nw_ne _ _ (by omega)] | rw [aj_nw_self]))
                      · rcases List.mem_cons.mp hq with rfl | hq
                        · show aj_up _ 78 2 _ 78 14 = 86
                          (repeat (first | rw [aj_up_self] | rw [aj_up_ne _ _ _ (by omega)] | rw [aj_up_ni _ _ _ (by omega)] | rw [aj_nw_ne _ _ (by omega)] | rw [aj_nw_self]))
                        · rcases List.mem_cons.mp hq with rfl | hq
                          · show aj_up _ 78 2 _ 78 15 = 87
                            (repeat (first | rw [aj_up_self] | rw [aj_up_ne _ _ _ (by omega)] | rw [aj_up_ni _ _ _ (by omega)] | rw [aj_nw_ne _ _ (by omega)] | rw [aj_nw_self]))
                          · rcases List.mem_cons.mp hq with rfl | hq
                            · show aj_up _ 78 2 _ 78 18 = 88
                              (repeat (first | rw [aj_up_self] | rw [aj_up_ne _ _ _ (by omega)] | rw [aj_up_ni _ _ _ (by omega)] | rw [aj_nw_ne _ _ (by omega)] | rw [aj_nw_self]))
                            · rcases List.mem_cons.mp hq with rfl | hq
                              · show aj_up _ 78 2 _ 78 19 = 89
                                (repeat (first | rw [aj_up_self] | rw [aj_up_ne _ _ _ (by omega)] | rw [aj_up_ni _ _ _ (by omega)] | rw [aj_nw_ne _ _ (by omega)] | rw [aj_nw_self]))
                              · rcases List.mem_cons.mp hq with rfl | hq
                                · show aj_up _ 78 2 _ 78 22 = 90
                                  (repeat (first | rw [aj_up_self] | rw [aj_up_ne _ _ _ (by omega)] | rw [aj_up_ni _ _ _ (by omega)] | rw [aj_nw_ne _ _ (by omega)] | rw [aj_nw_self]))
                                · rcases List.mem_cons.mp hq with rfl | hq
                                  · show aj_up _ 78 2 _ 78 24 = 91
                                    (repeat (first | rw [aj_up_self] | rw [aj_up_ne _ _ _ (by omega)] | rw [aj_up_ni _ _ _ (by omega)] | rw [aj_nw_ne _ _ (by omega)] | rw [aj_nw_self]))
                                  · rcases List.mem_cons.mp hq with rfl | hq
                                    · show aj_up _ 78 2 _ 78 26 = 92
                                      (repeat (first | rw [aj_up_self] | rw [aj_up_ne _ _ _ (by omega)] | rw [aj_up_ni _ _ _ (by omega)] | rw [aj_nw_ne _ _ (by omega)] | rw [aj_nw_self]))
                                    · rcases List.mem_cons.mp hq with rfl | hq
                                      · show aj_up _ 78 2 _ 78 27 = 93
                                        (repeat (first | rw [aj_up_self] | rw [aj_up_ne _ _ _ (by omega)] | rw [aj_up_ni _ _ _ (by omega)] | rw [aj_nw_ne _ _ (by omega)] | rw [aj_nw_self]))
                                      · rcases List.mem_cons.mp hq with rfl | hq
                                        · show aj_up _ 78 2 _ 78 28 = 94
                                          (repeat (first | rw [aj_up_self] | rw [aj_up_ne _ _ _ (by omega)] | rw [aj_up_ni _ _ _ (by omega)] | rw [aj_nw_ne _ _ (by omega)] | rw [aj_nw_self]))
                                        · rcases List.mem_cons.mp hq with rfl | hq
                                          · show aj_up _ 78 2 _ 78 32 = 95
                                            (repeat (first | rw [aj_up_self] | rw [aj_up_ne _ _ _ (by omega)] | rw [aj_up_ni _ _ _ (by omega)] | rw [aj_nw_ne _ _ (by omega)] | rw [aj_nw_self]))
                                          · rcases List.mem_cons.mp hq with rfl | hq
                                            · show aj_up _ 78 2 _ 78 33 = 96
                                              (repeat (first | rw [aj_up_self] | rw [aj_up_ne _ _ _ (by omega)] | rw [aj_up_ni _ _ _ (by omega)] | rw [aj_nw_ne _ _ (by omega)] | rw [aj_nw_self]))
                                            · rcases List.mem_cons.mp hq with rfl | hq
                                              · show aj_up _ 78 2 _ 78 34 = 97
                                                (repeat (first | rw [aj_up_self] | rw [aj_up_ne _ _ _ (by omega)] | rw [aj_up_ni _ _ _ (by omega)] | rw [aj_nw_ne _ _ (by omega)] | rw [aj_nw_self]))
                                              · rcases List.mem_cons.mp hq with rfl | hq
                                                · show aj_up _ 78 2 _ 78 35 = 98
                                                  (repeat (first | rw [aj_up_self] | rw [aj_up_ne _ _ _ (by omega)] | rw [aj_up_ni _ _ _ (by omega)] | rw [aj_nw_ne _ _ (by omega)] | rw [aj_nw_self]))
                                                · rcases List.mem_cons.mp hq with rfl | hq
                                                  · show aj_up _ 78 2 _ 78 36 = 99
                                                    (repeat (first | rw [aj_up_self] | rw [aj_up_ne _ _ _ (by omega)] | rw [aj_up_ni _ _ _ (by omega)] | rw [aj_nw_ne _ _ (by omega)] | rw [aj_nw_self]))
                                                  · cases hq
        · rw [hI.1 78 (by omega)]
          (repeat (first | rw [aj_up_self] | rw [aj_up_ne _ _ _ (by omega)] | rw [aj_up_ni _ _ _ (by omega)] | rw [aj_nw_ne _ _ (by omega)] | rw [aj_nw_self]))
          unfold clN; (repeat' split) <;> omega
        · rw [hI.1 78 (by omega)]
          (repeat (first | rw [aj_up_self] | rw [aj_up_ne _ _ _ (by omega)] | rw [aj_up_ni _ _ _ (by omega)] | rw [aj_nw_ne _ _ (by omega)] | rw [aj_nw_self]))
          exact hvk
        · rw [hI.1 78 (by omega)]
          (repeat (first | rw [aj_up_self] | rw [aj_up_ne _ _ _ (by omega)] | rw [aj_up_ni _ _ _ (by omega)] | rw [aj_nw_ne _ _ (by omega)] | rw [aj_nw_self]))
          exact hg 5
        · rw [hI.1 78 (by omega)]
          (repeat (first | rw [aj_up_self] | rw [aj_up_ne _ _ _ (by omega)] | rw [aj_up_ni _ _ _ (by omega)] | rw [aj_nw_ne _ _ (by omega)] | rw [aj_nw_self]))
          exact hg 6
        · rw [hI.1 78 (by omega)]
          (repeat (first | rw [aj_up_self] | rw [aj_up_ne _ _ _ (by omega)] | rw [aj_up_ni _ _ _ (by omega)] | rw [aj_nw_ne _ _ (by omega)] | rw [aj_nw_self]))
          exact hg 8
        · rw [hI.1 78 (by omega)]
          (repeat (first | rw [aj_up_self] | rw [aj_up_ne _ _ _ (by omega)] | rw [aj_up_ni _ _ _ (by omega)] | rw [aj_nw_ne _ _ (by omega)] | rw [aj_nw_self]))
        · rw [hI.1 78 (by omega)]
          (repeat (first | rw [aj_up_self] | rw [aj_up_ne _ _ _ (by omega)] | rw [aj_up_ni _ _ _ (by omega)] | rw [aj_nw_ne _ _ (by omega)] | rw [aj_nw_self]))
          exact hg 17
        · rw [hI.1 78 (by omega)]
          (repeat (first | rw [aj_up_self] | rw [aj_up_ne _ _ _ (by omega)] | rw [aj_up_ni _ _ _ (by omega)] | rw [aj_nw_ne _ _ (by omega)] | rw [aj_nw_self]))
          exact hg 20
        · rw [hI.1 78 (by omega)]
          (repeat (first | rw [aj_up_self] | rw [aj_up_ne _ _ _ (by omega)] | rw [aj_up_ni _ _ _ (by omega)] | rw [aj_nw_ne _ _ (by omega)] | rw [aj_nw_self]))
          exact hg 25
        · rw [hI.1 78 (by omega)]
          (repeat (first | rw [aj_up_self] | rw [aj_up_ne _ _ _ (by omega)] | rw [aj_up_ni _ _ _ (by omega)] | rw [aj_nw_ne _ _ (by omega)] | rw [aj_nw_self]))
        · rw [hI.1 78 (by omega)]
          (repeat (first | rw [aj_up_self] | rw [aj_up_ne _ _ _ (by omega)] | rw [aj_up_ni _ _ _ (by omega)] | rw [aj_nw_ne _ _ (by omega)] | rw [aj_nw_self]))
        · rw [hI.1 80 (by omega)]
          (repeat (first | rw [aj_up_self] | rw [aj_up_ne _ _ _ (by omega)] | rw [aj_up_ni _ _ _ (by omega)] | rw [aj_nw_ne _ _ (by omega)] | rw [aj_nw_self]))
  · refine aj_iconst 199 (dx d_Model_init 99 rfl) rfl ?_
    refine aj_goto 214 (dx d_Model_init 100 rfl) rfl ?_
    refine aj_putf 217 pl_Model_86 (dx d_Model_init 107 rfl) rfl rfl (aj_fitI _) ?_
    refine k_mi_k ?_ hy (fun g1 vk hvk hI => ?_)
    · (repeat (first | rw [aj_up_self] | rw [aj_up_ne _ _ _ (by omega)] | rw [aj_up_ni _ _ _ (by omega)] | rw [aj_nw_ne _ _ (by omega)] | rw [aj_nw_self]))
    · refine hk g1 (fun r' h => ?_) ⟨fun q hq => ?_, ⟨?_, ?_, ?_, ?_, ?_, ?_, ?_, ?_, ?_, ?_, ?_⟩, fun a b ha hb => hI.2 a b hb (by omega), fun i => ?_⟩
      · rw [hI.1 r' (by omega)]
        (repeat (first | rw [aj_up_self] | rw [aj_up_ne _ _ _ (by omega)] | rw [aj_up_ni _ _ _ (by omega)] | rw [aj_nw_ne _ _ (by omega)] | rw [aj_nw_self]))
      · rw [hI.1 78 (by omega)]
        show _ = _
        rcases List.mem_cons.mp hq with rfl | hq
        · show aj_up _ 78 2 _ 78 3 = 79
          (repeat (first | rw [aj_up_self] | rw [aj_up_ne _ _ _ (by omega)] | rw [aj_up_ni _ _ _ (by omega)] | rw [aj_nw_ne _ _ (by omega)] | rw [aj_nw_self]))
        · rcases List.mem_cons.mp hq with rfl | hq
          · show aj_up _ 78 2 _ 78 4 = 80
            (repeat (first | rw [aj_up_self] | rw [aj_up_ne _ _ _ (by omega)] | rw [aj_up_ni _ _ _ (by omega)] | rw [aj_nw_ne _ _ (by omega)] | rw [aj_nw_self]))
          · rcases List.mem_cons.mp hq with rfl | hq
            · show aj_up _ 78 2 _ 78 7 = 81
              (repeat (first | rw [aj_up_self] | rw [aj_up_ne _ _ _ (by omega)] | rw [aj_up_ni _ _ _ (by omega)] | rw [aj_nw_ne _ _ (by omega)] | rw [aj_nw_self]))
            · rcases List.mem_cons.mp hq with rfl | hq
              · show aj_up _ 78 2 _ 78 9 = 82
                (repeat (first | rw [aj_up_self] | rw [aj_up_ne _ _ _ (by omega)] | rw [aj_up_ni _ _ _ (by omega)] | rw [aj_nw_ne _ _ (by omega)] | rw [aj_nw_self]))
              · rcases List.mem_cons.mp hq with rfl | hq
                · show aj_up _ 78 2 _ 78 10 = 83
                  (repeat (first | rw [aj_up_self] | rw [aj_up_ne _ _ _ (by omega)] | rw [aj_up_ni _ _ _ (by omega)] | rw [aj_nw_ne _ _ (by omega)] | rw [aj_nw_self]))
                · rcases List.mem_cons.mp hq with rfl | hq
                  · show aj_up _ 78 2 _ 78 11 = 84
                    (repeat (first | rw [aj_up_self] | rw [aj_up_ne _ _ _ (by omega)] | rw [aj_up_ni _ _ _ (by omega)] | rw [aj_nw_ne _ _ (by omega)] | rw [aj_nw_self]))
                  · rcases List.mem_cons.mp hq with rfl | hq
                    · show aj_up _ 78 2 _ 78 13 = 85
                      (repeat (first | rw [aj_up_self] | rw [aj_up_ne _ _ _ (by omega)] | rw [aj_up_ni _ _ _ (by omega)] | rw [aj_nw_ne _ _ (by omega)] | rw [aj_nw_self]))
                    · rcases List.mem_cons.mp hq with rfl | hq
                      · show aj_up _ 78 2 _ 78 14 = 86
                        (repeat (first | rw [aj_up_self] | rw [aj_up_ne _ _ _ (by omega)] | rw [aj_up_ni _ _ _ (by omega)] | rw [aj_nw_ne _ _ (by omega)] | rw [aj_nw_self]))
                      · rcases List.mem_cons.mp hq with rfl | hq
                        · show aj_up _ 78 2 _ 78 15 = 87
                          (repeat (first | rw [aj_up_self] | rw [aj_up_ne _ _ _ (by omega)] | rw [aj_up_ni _ _ _ (by omega)] | rw [aj_nw_ne _ _ (by omega)] | rw [aj_nw_self]))
                        · rcases List.mem_cons.mp hq with rfl | hq
                          · show aj_up _ 78 2 _ 78 18 = 88
                            (repeat (first | rw [aj_up_self] | rw [aj_up_ne _ _ _ (by omega)] | rw [aj_up_ni _ _ _ (by omega)] | rw [aj_nw_ne _ _ (by omega)] | rw [aj_nw_self]))
                          · rcases List.mem_cons.mp hq with rfl | hq
                            · show aj_up _ 78 2 _ 78 19 = 89
                              (repeat (first | rw [aj_up_self] | rw [aj_up_ne _ _ _ (by omega)] | rw [aj_up_ni _ _ _ (by omega)] | rw [aj_nw_ne _ _ (by omega)] | rw [aj_nw_self]))
                            · rcases List.mem_cons.mp hq with rfl | hq
                              · show aj_up _ 78 2 _ 78 22 = 90
                                (repeat (first | rw [aj_up_self] | rw [aj_up_ne _ _ _ (by omega)] | rw [aj_up_ni _ _ _ (by omega)] | rw [aj_nw_ne _ _ (by omega)] | rw [aj_nw_self]))
                              · rcases List.mem_cons.mp hq with rfl | hq
                                · show aj_up _ 78 2 _ 78 24 = 91
                                  (repeat (first | rw [aj_up_self] | rw [aj_up_ne _ _ _ (by omega)] | rw [aj_up_ni _ _ _ (by omega)] | rw [aj_nw_ne _ _ (by omega)] | rw [aj_nw_self]))
                                · rcases List.mem_cons.mp hq with rfl | hq
                                  · show aj_up _ 78 2 _ 78 26 = 92
                                    (repeat (first | rw [aj_up_self] | rw [aj_up_ne _ _ _ (by omega)] | rw [aj_up_ni _ _ _ (by omega)] | rw [aj_nw_ne _ _ (by omega)] | rw [aj_nw_self]))
                                  · rcases List.mem_cons.mp hq with rfl | hq
                                    · show aj_up _ 78 2 _ 78 27 = 93
                                      (repeat (first | rw [aj_up_self] | rw [aj_up_ne _ _ _ (by omega)] | rw [aj_up_ni _ _ _ (by omega)] | rw [aj_nw_ne _ _ (by omega)] | rw [aj_nw_self]))
                                    · rcases List.mem_cons.mp hq with rfl | hq
                                      · show aj_up _ 78 2 _ 78 28 = 94
                                        (repeat (first | rw [aj_up_self] | rw [aj_up_ne _ _ _ (by omega)] | rw [aj_up_ni _ _ _ (by omega)] | rw [aj_nw_ne _ _ (by omega)] | rw [aj_nw_self]))
                                      · rcases List.mem_cons.mp hq with rfl | hq
                                        · show aj_up _ 78 2 _ 78 32 = 95
                                          (repeat (first | rw [aj_up_self] | rw [aj_up_ne _ _ _ (by omega)] | rw [aj_up_ni _ _ _ (by omega)] | rw [aj_nw_ne _ _ (by omega)] | rw [aj_nw_self]))
                                        · rcases List.mem_cons.mp hq with rfl | hq
                                          · show aj_up _ 78 2 _ 78 33 = 96
                                            (repeat (first | rw [aj_up_self] | rw [aj_up_ne _ _ _ (by omega)] | rw [aj_up_ni _ _ _ (by omega)] | rw [aj_nw_ne _ _ (by omega)] | rw [aj_nw_self]))
                                          · rcases List.mem_cons.mp hq with rfl | hq
                                            · show aj_up _ 78 2 _ 78 34 = 97
                                              (repeat (first | rw [aj_up_self] | rw [aj_up_ne _ _ _ (by omega)] | rw [aj_up_ni _ _ _ (by omega)] | rw [aj_nw_ne _ _ (by omega)] | rw [aj_nw_self]))
                                            · rcases List.mem_cons.mp hq with rfl | hq
                                              · show aj_up _ 78 2 _ 78 35 = 98
                                                (repeat (first | rw [aj_up_self] | rw [aj_up_ne _ _ _ (by omega)] | rw [aj_up_ni _ _ _ (by omega)] | rw [aj_nw_ne _ _ (by omega)] | rw [aj_nw_self]))
                                              · rcases List.mem_cons.mp hq with rfl | hq
                                                · show aj_up _ 78 2 _ 78 36 = 99
                                                  (repeat (first | rw [aj_up_self] | rw [aj_up_ne _ _ _ (by omega)] | rw [aj_up_ni _ _ _ (by omega)] | rw [aj_nw_ne _ _ (by omega)] | rw [aj_nw_self]))
                                                · cases hq
      · rw [hI.1 78 (by omega)]
        (repeat (first | rw [aj_up_self] | rw [aj_up_ne _ _ _ (by omega)] | rw [aj_up_ni _ _ _ (by omega)] | rw [aj_nw_ne _ _ (by omega)] | rw [aj_nw_self]))
        unfold clN; (repeat' split) <;> omega
      · rw [hI.1 78 (by omega)]
        (repeat (first | rw [aj_up_self] | rw [aj_up_ne _ _ _ (by omega)] | rw [aj_up_ni _ _ _ (by omega)] | rw [aj_nw_ne _ _ (by omega)] | rw [aj_nw_self]))
        exact hvk
      · rw [hI.1 78 (by omega)]
        (repeat (first | rw [aj_up_self] | rw [aj_up_ne _ _ _ (by omega)] | rw [aj_up_ni _ _ _ (by omega)] | rw [aj_nw_ne _ _ (by omega)] | rw [aj_nw_self]))
        exact hg 5
      · rw [hI.1 78 (by omega)]
        (repeat (first | rw [aj_up_self] | rw [aj_up_ne _ _ _ (by omega)] | rw [aj_up_ni _ _ _ (by omega)] | rw [aj_nw_ne _ _ (by omega)] | rw [aj_nw_self]))
        exact hg 6
      · rw [hI.1 78 (by omega)]
        (repeat (first | rw [aj_up_self] | rw [aj_up_ne _ _ _ (by omega)] | rw [aj_up_ni _ _ _ (by omega)] | rw [aj_nw_ne _ _ (by omega)] | rw [aj_nw_self]))
        exact hg 8
      · rw [hI.1 78 (by omega)]
        (repeat (first | rw [aj_up_self] | rw [aj_up_ne _ _ _ (by omega)] | rw [aj_up_ni _ _ _ (by omega)] | rw [aj_nw_ne _ _ (by omega)] | rw [aj_nw_self]))
      · rw [hI.1 78 (by omega)]
        (repeat (first | rw [aj_up_self] | rw [aj_up_ne _ _ _ (by omega)] | rw [aj_up_ni _ _ _ (by omega)] | rw [aj_nw_ne _ _ (by omega)] | rw [aj_nw_self]))
        exact hg 17
      · rw [hI.1 78 (by omega)]
        (repeat (first | rw [aj_up_self] | rw [aj_up_ne _ _ _ (by omega)] | rw [aj_up_ni _ _ _ (by omega)] | rw [aj_nw_ne _ _ (by omega)] | rw [aj_nw_self]))
        exact hg 20
      · rw [hI.1 78 (by omega)]
        (repeat (first | rw [aj_up_self] | rw [aj_up_ne _ _ _ (by omega)] | rw [aj_up_ni _ _ _ (by omega)] | rw [aj_nw_ne _ _ (by omega)] | rw [aj_nw_self]))
        exact hg 25
      · rw [hI.1 78 (by omega)]
        (repeat (first | rw [aj_up_self] | rw [aj_up_ne _ _ _ (by omega)] | rw [aj_up_ni _ _ _ (by omega)] | rw [aj_nw_ne _ _ (by omega)] | rw [aj_nw_self]))
      · rw [hI.1 78 (by omega)]
        (repeat (first | rw [aj_up_self] | rw [aj_up_ne _ _ _ (by omega)] | rw [aj_up_ni _ _ _ (by omega)] | rw [aj_nw_ne _ _ (by omega)] | rw [aj_nw_self]))
      · rw [hI.1 80 (by omega)]
        (repeat (first | rw [aj_up_self] | rw [aj_up_ne _ _ _ (by omega)] | rw [aj_up_ni _ _ _ (by omega)] | rw [aj_nw_ne _ _ (by omega)] | rw [aj_nw_self]))
theorem st_cI {g : aj_G} {k n : Nat} (hk3 : k = 1 ∨ k = 2 ∨ k = 3) (hn : 1 ≤ n ∧ n ≤ 8) (h : bR g k n) (tw : Nat → Nat) (N : Nat) (q : nb_T) (mnx mou : Nat → Nat → Nat) (mi : Nat) (ix io : Nat → Nat → Nat) (S : List Nat → Prop) : cI (shL k) g 58 68 k n 0 (fun s _ => s) (fun _ _ => 0) 0 tw N q mnx mou mi ix io [] 0 S (-1) (-1) 0 := by
  obtain ⟨⟨⟨b0, b1, b2, b3, b4, b5, b6, b7, b8⟩, b9, b10, b11, b12, b13⟩, h1, ⟨r0, r1, r2, r3, r4, r5⟩, h10, ⟨f0, f1, f2, f3, f4, f5⟩, h41, ⟨s0, s1, s2, s3, s4, s5, s6, s7⟩, t0, w0, u58, u68⟩ := h
  have hsu : ∀ p : Int, p = 58 ∨ p = 68 → suF0 g p → sus (shL k) g p k := fun p hp u => by
    obtain ⟨v0, v1, v2, v3, v4, v5, v6, v7, v8, v9, v10, v11, -⟩ := u
    rcases hp with rfl | rfl
    · exact ⟨rfl, ⟨v0, v1, v2⟩, ⟨v3, v4, v5, v6, v7, v8, v9, v10, v11⟩, ⟨rfl, rfl, rfl, rfl, rfl, rfl, rfl, rfl, rfl⟩⟩
    · exact ⟨rfl, ⟨v0, v1, v2⟩, ⟨v3, v4, v5, v6, v7, v8, v9, v10, v11⟩, ⟨rfl, rfl, rfl, rfl, rfl, rfl, rfl, rfl, rfl⟩⟩
  refine ⟨⟨rfl, ⟨b0, b1, b2, b3, b4, b5, b6, b7, b8⟩, Or.inl ⟨rfl, rfl⟩⟩, ⟨b9, by omega, b10, Or.inl rfl, b11, by unfold aj_I; omega, b12, by unfold aj_I; omega, fun h => absurd h (by decide)⟩, ⟨⟨⟨rfl, h1.1.2.1, h1.1.2.2.1, rfl, rfl⟩, h1.1.1, h1.1.2.2.2, ?_, by omega, by omega, fun x i hx hi => ⟨(h1.2 x i hx hi).1, (h1.2 x i hx hi).2, hx, (by decide : (0 : Nat) < 4)⟩⟩, hn.1, hn.2, hk3⟩, ⟨⟨rfl, ⟨r0, r1, r2, r3, r4, r5⟩, rfl, rfl, rfl, rfl, rfl, rfl⟩, ⟨rfl, h10.1.2.1, h10.1.2.2.1, rfl, rfl⟩, h10.1.1, ⟨rfl, ⟨f0, f1, f2⟩, rfl, rfl, rfl, fun w hw => ?_⟩, ⟨rfl, h41.1.2.1, h41.1.2.2.1, rfl, rfl⟩, h41.1.1, ⟨rfl, ⟨s0, s1, s2, s3, s4, s5, s6⟩, ⟨rfl, s7, rfl⟩, rfl, rfl, rfl, rfl, rfl, rfl⟩, ⟨rfl, t0, rfl, rfl⟩, hsu 58 (Or.inl rfl) u58, hsu 68 (Or.inr rfl) u68⟩, ⟨⟨rfl, w0.1, rfl⟩, ⟨w0.2, fun j hj => absurd hj (Nat.not_lt_zero _)⟩, wd_ok_nil k, Nat.zero_le _⟩, fun _ => ⟨h10.1.2.2.2, f3, fun a _ => f4 a, h41.1.2.2.2⟩, fun hz => absurd hz (by decide), Or.inl ⟨rfl, u58.2.2.2.2.2.2.2.2.2.2.2.2.1, u58.2.2.2.2.2.2.2.2.2.2.2.2.2, rfl⟩⟩
  · rcases hk3 with rfl | rfl | rfl <;> push_cast <;> omega
  · obtain ⟨f6, f7, f8⟩ := f5 w hw
    obtain rfl | rfl | rfl | rfl | rfl | rfl | rfl | rfl : w = 0 ∨ w = 1 ∨ w = 2 ∨ w = 3 ∨ w = 4 ∨ w = 5 ∨ w = 6 ∨ w = 7 := by omega
    all_goals exact ⟨f6, ⟨rfl, f7, rfl⟩, f8, rfl⟩
theorem st_mI {g : aj_G} {k n : Nat} (hk3 : k = 1 ∨ k = 2 ∨ k = 3) (hn : 1 ≤ n ∧ n ≤ 8) (h : mR g k n) (tw : Nat → Nat) (N : Nat) (q : nb_T) (mnx mou : Nat → Nat → Nat) (mi : Nat) (ix io : Nat → Nat → Nat) (S : List Nat → Prop) : mI (shL k) g k n 0 (fun s _ => s) (fun _ _ => 0) 0 tw N q mnx mou mi ix io [] 0 S (-1) (-1) 0 := by
  obtain ⟨h1, ⟨m1, m2, m5, m6, m8, m16, m17, m20, m25, m29, m30⟩, h3, h4⟩ := h
  have hsh : ∀ q ∈ mo_t, aj_sh (shL k) ((q.2.1 : Nat) : Int) = some (.inl (q.2.2.1, q.2.2.2)) := by
    intro q hq
    rcases List.mem_cons.mp hq with rfl | hq
    · exact rfl
    · rcases List.mem_cons.mp hq with rfl | hq
      · exact rfl
      · rcases List.mem_cons.mp hq with rfl | hq
        · exact rfl
        · rcases List.mem_cons.mp hq with rfl | hq
          · exact rfl
          · rcases List.mem_cons.mp hq with rfl | hq
            · exact rfl
            · rcases List.mem_cons.mp hq with rfl | hq
              · exact rfl
              · rcases List.mem_cons.mp hq with rfl | hq
                · exact rfl
                · rcases List.mem_cons.mp hq with rfl | hq
                  · exact rfl
                  · rcases List.mem_cons.mp hq with rfl | hq
                    · exact rfl
                    · rcases List.mem_cons.mp hq with rfl | hq
                      · exact rfl
                      · rcases List.mem_cons.mp hq with rfl | hq
                        · exact rfl
                        · rcases List.mem_cons.mp hq with rfl | hq
                          · exact rfl
                          · rcases List.mem_cons.mp hq with rfl | hq
                            · exact rfl
                            · rcases List.mem_cons.mp hq with rfl | hq
                              · exact rfl
                              · rcases List.mem_cons.mp hq with rfl | hq
                                · exact rfl
                                · rcases List.mem_cons.mp hq with rfl | hq
                                  · exact rfl
                                  · rcases List.mem_cons.mp hq with rfl | hq
                                    · exact rfl
                                    · rcases List.mem_cons.mp hq with rfl | hq
                                      · exact rfl
                                      · rcases List.mem_cons.mp hq with rfl | hq
                                        · exact rfl
                                        · rcases List.mem_cons.mp hq with rfl | hq
                                          · exact rfl
                                          · rcases List.mem_cons.mp hq with rfl | hq
                                            · exact rfl
                                            · cases hq
  exact ⟨⟨⟨rfl, fun q hq => ⟨h1 q hq, hsh q hq⟩⟩, m1, m2, by omega, hn, fun x i hx hi => ⟨h3 x i (by omega) (by omega), h4 _, hx, (by decide : (0 : Nat) < 4)⟩⟩, ⟨m5, by omega, m6, Or.inl rfl, m29, m30, by unfold aj_I; omega, fun h => absurd h (by decide)⟩, ⟨m16, wd_ok_nil k, Nat.zero_le _⟩, fun _ => ⟨m8, m17⟩, fun hz => absurd hz (by decide), m20, Or.inl rfl, Or.inl ⟨rfl, m25, rfl⟩⟩
