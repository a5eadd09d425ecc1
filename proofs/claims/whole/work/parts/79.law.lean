/-! the law: its loop, from the beginning -/
set_option maxHeartbeats 4000000 in
theorem k_Law_cell {al : Prop} {X : Option (Nat × (Int → Int))} {d L : Nat} {xs : Int → Int} {sh : List aj_S} {g : aj_G} {Q : aj_R → List aj_S → aj_G → Prop} (hX : X = some (L, xs)) (hL : L < 2147483648) {c : Int} (h0 : 0 ≤ c) (h1 : c ≤ 10) (hk : Q (.inl (some (0, if c < L then xs c else 0))) sh g) : aj_wp nE al al X m_Law_cell d 0 0 0 [some (1, 1000000), some (0, c)] [] sh g Q := by
  refine aj_iload_n 1 1 (dx d_Law_cell 0 rfl) rfl rfl rfl ?_
  refine aj_aload_n 0 2 (dx d_Law_cell 1 rfl) rfl rfl rfl ?_
  refine aj_slen 3 (dx d_Law_cell 2 rfl) rfl hX rfl ?_
  refine aj_icmp_ge 12 6 (dx d_Law_cell 3 rfl) rfl rfl (by unfold aj_I; omega) (by unfold aj_I; omega) (fun h3 => ?_) (fun h3 => ?_)
  · refine aj_iconst 13 (dx d_Law_cell 8 rfl) rfl ?_
    refine aj_iret (dx d_Law_cell 9 rfl) rfl id ?_
    rw [if_neg (by omega)] at hk
    exact hk
  · refine aj_aload_n 0 7 (dx d_Law_cell 4 rfl) rfl rfl rfl ?_
    refine aj_iload_n 1 8 (dx d_Law_cell 5 rfl) rfl rfl rfl ?_
    refine aj_sld 9 (dx d_Law_cell 6 rfl) rfl hX (by omega) (by omega) ?_
    refine aj_goto 13 (dx d_Law_cell 7 rfl) rfl ?_
    refine aj_iret (dx d_Law_cell 9 rfl) rfl id ?_
    rw [if_pos (by omega)] at hk
    exact hk
set_option maxHeartbeats 16000000 in
theorem law_loop {X : Option (Nat × (Int → Int))} {L d k n : Nat} {xs : Int → Int} {Q : aj_R → List aj_S → aj_G → Prop} (hX : X = some (L, xs)) (hxs : ∀ j, aj_I (xs j)) (hL : L < 2147483648) (hk : ∀ g1 : aj_G, Q (.inl (some (0, 1))) (shL k) g1) : ∀ (m i bc bs : Nat) (g : aj_G) (r r2 : Int) (s0 : Nat) (nx ou : Nat → Nat → Nat) (z : Int) (tw : Nat → Nat) (N : Nat) (q : nb_T) (mnx mou : Nat → Nat → Nat) (mi : Nat) (ix io : Nat → Nat → Nat) (w : List Nat) (v : Int) (S : List Nat → Prop) (fp hd hp : Int) (o5 o6 : Option aj_A), (L : Int) < i + 5 * m + 5 → (i ≤ L ∨ i = 2) → m ≤ bc → 6 * m ≤ bs → cI (shL k) g r r2 k n s0 nx ou z tw N q mnx mou mi ix io w v S fp hd hp → mI (shL k) g k n s0 nx ou z tw N q mnx mou mi ix io w v S fp hd hp → aj_wp nE False False X m_Law_law (d + 8) bc bs 43 [some (1, 1000000), some (1, 0), some (1, 78), some (1, 100), some (0, (i : Int)), o5, o6] [] (shL k) g Q := by
  intro m
  induction m with
  | zero =>
    intro i bc bs g r r2 s0 nx ou z tw N q mnx mou mi ix io w v S fp hd hp o5 o6 hm5 hi2 hbc hbs hc hm
    refine aj_iload 4 45 (dx d_Law_law_0 25 rfl) rfl rfl ?_
    refine aj_aload_n 0 46 (dx d_Law_law_0 26 rfl) rfl rfl rfl ?_
    refine aj_slen 47 (dx d_Law_law_0 27 rfl) rfl hX rfl ?_
    refine aj_iconst 48 (dx d_Law_law_0 28 rfl) rfl ?_
    refine aj_isub 49 (dx d_Law_law_0 29 rfl) rfl ?_
    refine aj_icmp_gt 990 52 (dx d_Law_law_0 30 rfl) rfl rfl (by unfold aj_I; omega) (by unfold aj_I; omega) (fun h49 => ?_) (fun h49 => ?_)
    · refine aj_iconst 991 (dx d_Law_law_11 36 rfl) rfl ?_
      refine aj_zret (dx d_Law_law_11 37 rfl) rfl (by omega) id ?_
      exact hk g
    · exact absurd h49 (by omega)
  | succ m ih =>
    intro i bc bs g r r2 s0 nx ou z tw N q mnx mou mi ix io w v S fp hd hp o5 o6 hm5 hi2 hbc hbs hc hm
    have hk3 := hc.2.2.1.2.2.2
    refine aj_iload 4 45 (dx d_Law_law_0 25 rfl) rfl rfl ?_
    refine aj_aload_n 0 46 (dx d_Law_law_0 26 rfl) rfl rfl rfl ?_
    refine aj_slen 47 (dx d_Law_law_0 27 rfl) rfl hX rfl ?_
    refine aj_iconst 48 (dx d_Law_law_0 28 rfl) rfl ?_
    refine aj_isub 49 (dx d_Law_law_0 29 rfl) rfl ?_
    refine aj_icmp_gt 990 52 (dx d_Law_law_0 30 rfl) rfl rfl (by unfold aj_I; omega) (by unfold aj_I; omega) (fun h49 => ?_) (fun h49 => ?_)
    · refine aj_iconst 991 (dx d_Law_law_11 36 rfl) rfl ?_
      refine aj_zret (dx d_Law_law_11 37 rfl) rfl (by omega) id ?_
      exact hk g
    · have hi4 : i + 4 < L := by omega
      have hb : 1 ≤ bc ∧ 6 ≤ bs := by omega
      have hnx : ∀ {g1 : aj_G} {r r2 : Int} {s0 : Nat} {nx ou : Nat → Nat → Nat} {z : Int} {tw : Nat → Nat} {N : Nat} {q : nb_T} {mnx mou : Nat → Nat → Nat} {mi : Nat} {ix io : Nat → Nat → Nat} {w : List Nat} {v : Int} {S : List Nat → Prop} {fp hd hp : Int} {bc1 bs1 : Nat} {o5 o6 : Option aj_A}, cI (shL k) g1 r r2 k n s0 nx ou z tw N q mnx mou mi ix io w v S fp hd hp → mI (shL k) g1 k n s0 nx ou z tw N q mnx mou mi ix io w v S fp hd hp → bc ≤ bc1 + 1 → bs ≤ bs1 + 6 → aj_wp nE False False X m_Law_law (d + 8) bc1 bs1 984 [some (1, 1000000), some (1, 0), some (1, 78), some (1, 100), some (0, (i : Int)), o5, o6] [] (shL k) g1 Q := by
        intro g1 r r2 s0 nx ou z tw N q mnx mou mi ix io w v S fp hd hp bc1 bs1 o5 o6 hc1 hm1 hb1 hb2
        refine aj_iinc 4 987 (dx d_Law_law_11 34 rfl) rfl rfl rfl ?_
        simp only [List.set]
        refine aj_goto 43 (dx d_Law_law_11 35 rfl) rfl ?_
        rw [show ((i : Nat) : Int) + 5 = ((i + 5 : Nat) : Int) by omega]
        exact ih (i + 5) bc1 bs1 g1 r r2 s0 nx ou z tw N q mnx mou mi ix io w v S fp hd hp o5 o6 (by push_cast at hm5 ⊢; omega) (by omega) (by omega) (by omega) hc1 hm1
      refine aj_aload_n 0 53 (dx d_Law_law_0 31 rfl) rfl rfl rfl ?_
      refine aj_iload 4 55 (dx d_Law_law_0 32 rfl) rfl rfl ?_
      refine aj_sld 56 (dx d_Law_law_0 33 rfl) rfl hX (by omega) (by omega) ?_
      refine aj_bipush 58 (dx d_Law_law_0 34 rfl) rfl (by decide +kernel) ?_
      refine aj_iand (v := (Int32.ofInt (xs (i : Int)) &&& Int32.ofInt 31).toInt) 59 (dx d_Law_law_0 35 rfl) rfl (Int32.ofInt_toInt _).symm ?_
      have hcI : aj_I (Int32.ofInt (xs (i : Int)) &&& Int32.ofInt 31).toInt := by
        have h1 := Int32.toInt_lt (Int32.ofInt (xs (i : Int)) &&& Int32.ofInt 31)
        have h2 := Int32.le_toInt (Int32.ofInt (xs (i : Int)) &&& Int32.ofInt 31)
        unfold aj_I
        omega
      generalize (Int32.ofInt (xs (i : Int)) &&& Int32.ofInt 31).toInt = cc at *
      by_cases hc0 : cc = 0
      · subst hc0
        refine aj_tableIn 148 (dx d_Law_law_0 36 rfl) hcI (by omega) (by omega) rfl rfl ?_
        exact O_edge hX hxs hi4 hb hc hm hnx
      by_cases hc1 : cc = 1
      · subst hc1
        refine aj_tableIn 220 (dx d_Law_law_0 36 rfl) hcI (by omega) (by omega) rfl rfl ?_
        exact O_start hX hxs hi4 hb hc hm hnx
      by_cases hc2 : cc = 2
      · subst hc2
        refine aj_tableIn 256 (dx d_Law_law_0 36 rfl) hcI (by omega) (by omega) rfl rfl ?_
        exact O_seal hX hxs hi4 hb hc hm hnx
      by_cases hc3 : cc = 3
      · subst hc3
        refine aj_tableIn 300 (dx d_Law_law_0 36 rfl) hcI (by omega) (by omega) rfl rfl ?_
        exact O_minimal hX hxs hi4 hb hc hm hnx
      by_cases hc4 : cc = 4
      · subst hc4
        refine aj_tableIn 325 (dx d_Law_law_0 36 rfl) hcI (by omega) (by omega) rfl rfl ?_
        exact O_apart hX hxs hi4 hb hc hm hnx
      by_cases hc5 : cc = 5
      · subst hc5
        refine aj_tableIn 393 (dx d_Law_law_0 36 rfl) hcI (by omega) (by omega) rfl rfl ?_
        exact O_word hX hxs hi4 hb hc hm hnx
      by_cases hc6 : cc = 6
      · subst hc6
        refine aj_tableIn 418 (dx d_Law_law_0 36 rfl) hcI (by omega) (by omega) rfl rfl ?_
        exact O_family hX hxs hi4 hb hc hm hnx
      by_cases hc7 : cc = 7
      · subst hc7
        refine aj_tableIn 455 (dx d_Law_law_0 36 rfl) hcI (by omega) (by omega) rfl rfl ?_
        exact O_own hX hxs hi4 hb hc hm hnx
      by_cases hc8 : cc = 8
      · subst hc8
        refine aj_tableIn 492 (dx d_Law_law_0 36 rfl) hcI (by omega) (by omega) rfl rfl ?_
        exact O_suite hX hxs hi4 hb hc hm hnx
      by_cases hc9 : cc = 9
      · subst hc9
        refine aj_tableIn 560 (dx d_Law_law_0 36 rfl) hcI (by omega) (by omega) rfl rfl ?_
        exact O_test hX hxs hi4 hb hc hm hnx
      by_cases hc10 : cc = 10
      · subst hc10
        refine aj_tableIn 625 (dx d_Law_law_0 36 rfl) hcI (by omega) (by omega) rfl rfl ?_
        exact O_resize hX hxs hi4 hb hc hm hnx
      by_cases hc11 : cc = 11
      · subst hc11
        refine aj_tableIn 661 (dx d_Law_law_0 36 rfl) hcI (by omega) (by omega) rfl rfl ?_
        exact O_change hX hxs hi4 hb hc hm hnx
      by_cases hc12 : cc = 12
      · subst hc12
        refine aj_tableIn 733 (dx d_Law_law_0 36 rfl) hcI (by omega) (by omega) rfl rfl ?_
        exact O_run hX hxs hi4 hb hc hm hnx
      by_cases hc13 : cc = 13
      · subst hc13
        refine aj_tableIn 777 (dx d_Law_law_0 36 rfl) hcI (by omega) (by omega) rfl rfl ?_
        exact O_failed hX hxs hi4 hb hc hm hnx
      by_cases hc14 : cc = 14
      · subst hc14
        refine aj_tableIn 790 (dx d_Law_law_0 36 rfl) hcI (by omega) (by omega) rfl rfl ?_
        exact O_begin hX hxs hi4 hb hc hm hnx
      by_cases hc15 : cc = 15
      · subst hc15
        refine aj_tableIn 846 (dx d_Law_law_0 36 rfl) hcI (by omega) (by omega) rfl rfl ?_
        exact O_give hX hxs hi4 hb hc hm hnx
      by_cases hc16 : cc = 16
      · subst hc16
        refine aj_tableIn 902 (dx d_Law_law_0 36 rfl) hcI (by omega) (by omega) rfl rfl ?_
        exact O_same hX hxs hi4 hb hc hm hnx
      by_cases hc17 : cc = 17
      · subst hc17
        refine aj_tableIn 946 (dx d_Law_law_0 36 rfl) hcI (by omega) (by omega) rfl rfl ?_
        exact O_covered hX hxs hi4 hb hc hm hnx
      by_cases hc18 : cc = 18
      · subst hc18
        refine aj_tableIn 959 (dx d_Law_law_0 36 rfl) hcI (by omega) (by omega) rfl rfl ?_
        exact O_look hX hxs hi4 hb hc hm hnx
      refine aj_tableOut 984 (dx d_Law_law_0 36 rfl) hcI (by omega) rfl ?_
      exact hnx hc hm (by omega) (by omega)
set_option maxHeartbeats 16000000 in
theorem law_wp {X : Option (Nat × (Int → Int))} {L d m : Nat} {xs : Int → Int} {g : aj_G} {Q : aj_R → List aj_S → aj_G → Prop} (hX : X = some (L, xs)) (hxs : ∀ j, aj_I (xs j)) (hL : L < 2147483648) (hm : L < 5 * m + 7) (hk : ∀ (sh1 : List aj_S) (g1 : aj_G), Q (.inl (some (0, 1))) sh1 g1) : aj_wp nE True False X m_Law_law (d + 8) (101 + m) (25917 + 6 * m) 0 [some (1, 1000000), none, none, none, none, none, none] [] [] g Q := by
  have hxI : aj_I (if (0 : Int) < (L : Int) then xs 0 else 0) := by
    split
    · exact hxs 0
    · unfold aj_I; omega
  have hyI : aj_I (if (1 : Int) < (L : Int) then xs 1 else 0) := by
    split
    · exact hxs 1
    · unfold aj_I; omega
  refine aj_newop (x := 0) (bc1 := 100 + m) (bs1 := 25903 + 6 * m) 3 nw_Law_8 (dx d_Law_law_0 0 rfl) rfl (by omega) (by omega) trivial rfl (by omega) ?_
  refine aj_dup 4 (dx d_Law_law_0 1 rfl) rfl rfl ?_
  refine aj_aload_n 0 5 (dx d_Law_law_0 2 rfl) rfl rfl rfl ?_
  refine aj_iconst 6 (dx d_Law_law_0 3 rfl) rfl ?_
  refine aj_callS2 (bc1 := 0) (bc2 := 100 + m) (bs1 := 0) (bs2 := 25903 + 6 * m) 9 cl_Law_53 (dx d_Law_law_0 4 rfl) rfl rfl rfl rfl rfl rfl (k_Law_cell hX hL (by omega) (by omega) ?_)
  change aj_wp _ _ _ _ _ _ _ _ _ _ _ _ _ _
  refine aj_aload_n 0 10 (dx d_Law_law_0 5 rfl) rfl rfl rfl ?_
  refine aj_iconst 11 (dx d_Law_law_0 6 rfl) rfl ?_
  refine aj_callS2 (bc1 := 0) (bc2 := 100 + m) (bs1 := 0) (bs2 := 25903 + 6 * m) 14 cl_Law_53 (dx d_Law_law_0 7 rfl) rfl rfl rfl rfl rfl rfl (k_Law_cell hX hL (by omega) (by omega) ?_)
  change aj_wp _ _ _ _ _ _ _ _ _ _ _ _ _ _
  refine aj_callI2 (bc1 := 77) (bc2 := 23 + m) (bs1 := 18032) (bs2 := 7871 + 6 * m) 17 cl_Law_59 (dx d_Law_law_0 8 rfl) rfl rfl (by omega) (by omega) rfl rfl (by omega) (k_Bench_init (sh := []) trivial hxI hyI (fun g1 hB => ?_))
  change aj_wp _ _ _ _ _ _ _ _ _ _ _ _ _ _
  refine aj_astore_n 1 18 (dx d_Law_law_0 9 rfl) rfl rfl rfl ?_
  simp only [List.set]
  refine aj_newop (x := 78) (bc1 := 22 + m) (bs1 := 7834 + 6 * m) 21 nw_Law_62 (dx d_Law_law_0 10 rfl) rfl (by omega) (by omega) trivial rfl (by omega) ?_
  change aj_wp _ _ _ _ _ _ _ _ _ _ _ (bsh (clK (if (1 : Int) < (L : Int) then xs 1 else 0)) 79) _ _
  refine aj_dup 22 (dx d_Law_law_0 11 rfl) rfl rfl ?_
  refine aj_aload_n 0 23 (dx d_Law_law_0 12 rfl) rfl rfl rfl ?_
  refine aj_iconst 24 (dx d_Law_law_0 13 rfl) rfl ?_
  refine aj_callS2 (bc1 := 0) (bc2 := 22 + m) (bs1 := 0) (bs2 := 7834 + 6 * m) 27 cl_Law_53 (dx d_Law_law_0 14 rfl) rfl rfl rfl rfl rfl rfl (k_Law_cell hX hL (by omega) (by omega) ?_)
  change aj_wp _ _ _ _ _ _ _ _ _ _ _ _ _ _
  refine aj_aload_n 0 28 (dx d_Law_law_0 15 rfl) rfl rfl rfl ?_
  refine aj_iconst 29 (dx d_Law_law_0 16 rfl) rfl ?_
  refine aj_callS2 (bc1 := 0) (bc2 := 22 + m) (bs1 := 0) (bs2 := 7834 + 6 * m) 32 cl_Law_53 (dx d_Law_law_0 17 rfl) rfl rfl rfl rfl rfl rfl (k_Law_cell hX hL (by omega) (by omega) ?_)
  change aj_wp _ _ _ _ _ _ _ _ _ _ _ _ _ _
  refine aj_callI2 (bc1 := 21) (bc2 := 1 + m) (bs1 := 7833) (bs2 := 1 + 6 * m) 35 cl_Law_64 (dx d_Law_law_0 18 rfl) rfl rfl (by omega) (by omega) rfl rfl (by omega) (k_Model_init trivial hxI hyI (fun j => by rw [aj_nw_self]) (fun g2 e2 hR => ?_))
  change aj_wp _ _ _ _ _ _ _ _ _ _ _ _ _ _
  refine aj_astore_n 2 36 (dx d_Law_law_0 19 rfl) rfl rfl rfl ?_
  simp only [List.set]
  refine aj_iconst 37 (dx d_Law_law_0 20 rfl) rfl ?_
  refine aj_newp (t0 := 2) (x := 100) (N := 1) (bc1 := 0 + m) (bs1 := 0 + 6 * m) 39 (dx d_Law_law_0 21 rfl) rfl rfl (Or.inr (Or.inr rfl)) rfl ac_long rfl (by omega) (by omega) (by omega) trivial rfl (by omega) ?_
  change aj_wp _ _ _ _ _ _ _ _ _ _ _ (shL (clK (if (1 : Int) < (L : Int) then xs 1 else 0))) _ _
  refine aj_astore_n 3 40 (dx d_Law_law_0 22 rfl) rfl rfl rfl ?_
  simp only [List.set]
  refine aj_iconst 41 (dx d_Law_law_0 23 rfl) rfl ?_
  refine aj_istore 4 43 (dx d_Law_law_0 24 rfl) rfl rfl ?_
  simp only [List.set]
  refine aj_less ?_
  have hk3 := clK_b (if (1 : Int) < (L : Int) then xs 1 else 0)
  have hn8 := clN_b (if (0 : Int) < (L : Int) then xs 0 else 0)
  refine law_loop (n := clN (if (0 : Int) < (L : Int) then xs 0 else 0)) hX hxs hL (fun g1 => hk _ g1) m 2 (0 + m) (0 + 6 * m) _ 58 68 0 (fun s _ => s) (fun _ _ => 0) 0 (fun _ => 0) 0 (0, fun _ => 0, fun _ => 0, fun _ => 0) (fun _ _ => 0) (fun _ _ => 0) 0 (fun _ _ => 0) (fun _ _ => 0) [] 0 (fun _ => False) (-1) (-1) 0 none none (by omega) (Or.inr rfl) (by omega) (by omega) ?_ ?_
  · refine st_cI hk3 hn8 (bR_of hB (fun r' h => ?_)) _ _ _ _ _ _ _ _ _
    rw [aj_nw_ne _ _ (by omega), e2 r' h, aj_nw_ne _ _ (by omega)]
  · refine st_mI hk3 hn8 ?_ _ _ _ _ _ _ _ _ _
    unfold mR at hR ⊢
    rw [aj_nw_ne _ _ (show (78 : Int) ≠ 100 by omega), aj_nw_ne _ _ (show (79 : Int) ≠ 100 by omega), aj_nw_ne _ _ (show (80 : Int) ≠ 100 by omega)]
    exact hR
