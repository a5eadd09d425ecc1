/-! Bench: minimal, word, family, own, test, failed, covered, look -/
theorem if_e0 {c : Prop} [Decidable c] (h : (if c then (1 : Int) else 0) = 0) : ¬ c := fun hc => by
  rw [if_pos hc] at h
  exact absurd h (by decide)
theorem if_n0 {c : Prop} [Decidable c] (h : ¬ (if c then (1 : Int) else 0) = 0) : c := Decidable.byContradiction fun hc => h (if_neg hc)
theorem if_I {c : Prop} [Decidable c] : aj_I (if c then (1 : Int) else 0) := by
  unfold aj_I
  split <;> omega
theorem wd_atV {g : aj_G} {x i : Int} {u : List Nat} (ha : wat g x u) : (if 0 ≤ i ∧ i < g x 1 then g (x + 1) i else -1) = wordV u i := by
  unfold wordV
  rw [ha.1]
  by_cases c : 0 ≤ i ∧ i < (u.length : Int)
  · rw [if_pos c, if_pos c]
    obtain ⟨j, rfl⟩ := Int.eq_ofNat_of_zero_le c.1
    have hj : j < u.length := by omega
    rw [Int.toNat_natCast, ltr_eq hj, ← ha.2 (u.length - 1 - j) (by omega)]
    congr 1
    omega
  · rw [if_neg c, if_neg c]
/-! counting by blocks -/
theorem mo_add (V : Nat → Prop) (a : Nat) : ∀ b, mo_c V (a + b) = mo_c V a + mo_c (fun e => V (a + e)) b
  | 0 => rfl
  | b + 1 => by
    show mo_c V (a + b) + @ite Nat (V (a + b)) (Classical.propDecidable _) 1 0 = mo_c V a + (mo_c (fun e => V (a + e)) b + @ite Nat (V (a + b)) (Classical.propDecidable _) 1 0)
    rw [mo_add V a b, Nat.add_assoc]
theorem mo_tail {V : Nat → Prop} {a : Nat} (h : ∀ e, a ≤ e → ¬ V e) (b : Nat) : mo_c V (a + b) = mo_c V a := by
  rw [mo_add, mc_cg (V' := fun _ => False) (fun e _ => ⟨fun z => h _ (Nat.le_add_right _ _) z, fun z => z.elim⟩), mc_0, Nat.add_zero]
def mo_s (f : Nat → Nat) : Nat → Nat
  | 0 => 0
  | s + 1 => mo_s f s + f s
theorem mo_blk (R : Nat → Nat → Prop) {p k : Nat} (hkp : k ≤ p) (hk : ∀ s b, R s b → b < k) : ∀ n, mo_c (fun e => ∃ s b, R s b ∧ e = p * s + b) (p * n) = mo_s (fun s => mo_c (R s) k) n
  | 0 => rfl
  | n + 1 => by
    rw [Nat.mul_succ, mo_add, mo_blk R hkp hk n]
    show _ = mo_s (fun s => mo_c (R s) k) n + mo_c (R n) k
    congr 1
    obtain ⟨x, rfl⟩ : ∃ x, p = k + x := ⟨p - k, by omega⟩
    have h1 : ∀ e, e < k + x → ((∃ s b, R s b ∧ (k + x) * n + e = (k + x) * s + b) ↔ R n e) := fun e he => by
      constructor
      · rintro ⟨s, b, h1, h2⟩
        have hb := hk s b h1
        have hs : s = n := by
          have e1 : ((k + x) * n + e) / (k + x) = n := by rw [Nat.mul_add_div (by omega), Nat.div_eq_of_lt he]; rfl
          have e2 : ((k + x) * s + b) / (k + x) = s := by rw [Nat.mul_add_div (by omega), Nat.div_eq_of_lt (by omega)]; rfl
          rw [← e2, ← h2, e1]
        subst hs
        have : b = e := by omega
        rw [← this]; exact h1
      · intro h
        exact ⟨n, e, h, rfl⟩
    rw [mc_cg h1]
    exact mo_tail (fun e he z => absurd (hk n e z) (by omega)) x
theorem mo_cov {mnx : Nat → Nat → Nat} {k c : Nat} {W : Nat → List Nat} {S : List Nat → Prop} (hk : k = 1 ∨ k = 2 ∨ k = 3) (hI : tr_I k c W) (hS : ∀ u, pr c W u ↔ S u) (hN : ∀ u, wd_ok k u → rn mnx 0 u < 8) : mo_c (trV k mnx W c) 24 = mo_c (fun e => ∃ b u, S (b :: u) ∧ e = 3 * rn mnx 0 u + b) 24 := by
  have hbl : ∀ s b, (∃ u, S (b :: u) ∧ rn mnx 0 u = s) → b < k := fun s b ⟨u, h1, _⟩ => by
    obtain ⟨p, p1, p2⟩ := (hS _).mpr h1
    have := hI.2.2.1 p p1
    rw [p2] at this
    exact (wd_ok_cons.mp this).1
  have h3 := mo_blk (fun s b => ∃ u, S (b :: u) ∧ rn mnx 0 u = s) (p := 3) (k := k) (by omega) hbl 8
  have hp := mo_blk (fun s b => ∃ u, S (b :: u) ∧ rn mnx 0 u = s) (p := k) (k := k) (Nat.le_refl _) hbl 8
  rw [← hp] at h3
  have e1 : mo_c (fun e => ∃ b u, S (b :: u) ∧ e = 3 * rn mnx 0 u + b) 24 = mo_c (fun e => ∃ s b, (∃ u, S (b :: u) ∧ rn mnx 0 u = s) ∧ e = 3 * s + b) (3 * 8) := mc_cg (fun e _ => ⟨fun ⟨b, u, h1, h2⟩ => ⟨_, b, ⟨u, h1, rfl⟩, h2⟩, fun ⟨s, b, ⟨u, h1, h2⟩, h4⟩ => ⟨b, u, h1, by rw [h2]; exact h4⟩⟩)
  rw [e1, h3]
  have e2 : ∀ e, trV k mnx W c e ↔ ∃ s b, (∃ u, S (b :: u) ∧ rn mnx 0 u = s) ∧ e = k * s + b := fun e => by
    constructor
    · rintro ⟨p, b, u, h1, h2, h3, h4⟩
      exact ⟨_, b, ⟨u, (hS _).mp ⟨p, h2, h3⟩, rfl⟩, by rw [Nat.mul_comm]; exact h4⟩
    · rintro ⟨s, b, ⟨u, h1, rfl⟩, h4⟩
      obtain ⟨p, p1, p2⟩ := (hS _).mpr h1
      refine ⟨p, b, u, ?_, p1, p2, by rw [Nat.mul_comm]; exact h4⟩
      rcases Nat.eq_zero_or_pos p with z | z
      · rw [z, hI.2.1] at p2; cases p2
      · exact z
  rw [mc_cg (fun e _ => e2 e)]
  obtain ⟨x, hx⟩ : ∃ x, 24 = k * 8 + x := ⟨24 - k * 8, by omega⟩
  rw [hx]
  refine mo_tail (fun e he => ?_) x
  rintro ⟨s, b, ⟨u, h1, rfl⟩, h4⟩
  have hb := hbl _ b ⟨u, h1, rfl⟩
  obtain ⟨p, p1, p2⟩ := (hS _).mpr h1
  have hok := hI.2.2.1 p p1
  rw [p2] at hok
  have h8 := hN u (wd_ok_cons.mp hok).2
  rcases hk with rfl | rfl | rfl <;> omega
set_option maxHeartbeats 4000000 in
theorem k_Bench_minimal {al : Prop} {X : Option (Nat × (Int → Int))} {d : Nat} {sh : List aj_S} {g : aj_G} {Q : aj_R → List aj_S → aj_G → Prop} {r r2 : Int} {k n s0 : Nat} {nx ou : Nat → Nat → Nat} {z : Int} {tw : Nat → Nat} {N : Nat} {q : nb_T} {mnx mou : Nat → Nat → Nat} {mi : Nat} {ix io : Nat → Nat → Nat} {w : List Nat} {v : Int} {S : List Nat → Prop} {fp hd hp : Int} (hI : cI sh g r r2 k n s0 nx ou z tw N q mnx mou mi ix io w v S fp hd hp) {s : Int} (hx : aj_I s) (hk : Q (.inl (some (0, minV z n q N tw s))) sh g) : aj_wp nE al al X m_Bench_minimal (d + 6) 0 0 0 [some (1, 0), some (0, s)] [] sh g Q := by
  have hI0 := hI
  obtain ⟨hb, ⟨n9, ns0, n10, nz, n11, nfp, n12, nhd, n13⟩, ⟨hm1, hn1, hn8, hk3⟩, hO, hW, hU, hS, hT⟩ := hI
  have hr := bnO_r hb
  refine aj_aload_n 0 1 (dx d_Bench_minimal 0 rfl) rfl rfl rfl ?_
  refine aj_getfv (v := z) 4 fl_Bench_83 (dx d_Bench_minimal 1 rfl) rfl hb.1 (by first | exact n10 | ((repeat (first | rw [aj_up_ne _ _ _ (by omega)] | rw [aj_up_ni _ _ _ (by omega)])); exact n10)) ?_
  refine aj_if_eq 30 7 (dx d_Bench_minimal 2 rfl) rfl rfl (by unfold aj_I; omega) (fun h4 => ?_) (fun h4 => ?_)
  · refine aj_iconst 31 (dx d_Bench_minimal 14 rfl) rfl ?_
    refine aj_iret (dx d_Bench_minimal 15 rfl) rfl id ?_
    unfold minV at hk
    rw [if_neg (by omega)] at hk
    exact hk
  · have hz1 : z = 1 := by omega
    have hs1 := hS hz1
    refine aj_aload_n 0 8 (dx d_Bench_minimal 3 rfl) rfl rfl rfl ?_
    refine aj_getfv (v := 1) 11 fl_Bench_23 (dx d_Bench_minimal 4 rfl) rfl hb.1 (by first | exact (bf_specification hb) | ((repeat (first | rw [aj_up_ne _ _ _ (by omega)] | rw [aj_up_ni _ _ _ (by omega)])); exact (bf_specification hb))) ?_
    refine aj_iload_n 1 12 (dx d_Bench_minimal 5 rfl) rfl rfl rfl ?_
    refine aj_callV1 15 cl_Bench_110 (dx d_Bench_minimal 6 rfl) rfl rfl rfl rfl rfl rfl hm1.1.1 (k_Machine_hasState hm1.1.1 hx (by rw [hm1.2.2.1]; unfold aj_I; omega) ?_)
    change aj_wp _ _ _ _ _ _ _ _ _ _ _ _ _ _
    refine aj_if_eq 30 18 (dx d_Bench_minimal 7 rfl) rfl rfl if_I (fun h15 => ?_) (fun h15 => ?_)
    · have hc := if_e0 h15
      rw [hm1.2.2.1] at hc
      refine aj_iconst 31 (dx d_Bench_minimal 14 rfl) rfl ?_
      refine aj_iret (dx d_Bench_minimal 15 rfl) rfl id ?_
      unfold minV at hk
      rw [if_neg (fun y => hc y.2)] at hk
      exact hk
    · have hc := if_n0 h15
      rw [hm1.2.2.1] at hc
      refine aj_aload_n 0 19 (dx d_Bench_minimal 8 rfl) rfl rfl rfl ?_
      refine aj_getfv (v := 4) 22 fl_Bench_32 (dx d_Bench_minimal 9 rfl) rfl hb.1 (by first | exact (bf_reduction hb) | ((repeat (first | rw [aj_up_ne _ _ _ (by omega)] | rw [aj_up_ni _ _ _ (by omega)])); exact (bf_reduction hb))) ?_
      refine aj_getfv (v := 5) 25 fl_Bench_132 (dx d_Bench_minimal 10 rfl) rfl hO.1.1 hO.1.2.1.2.1 ?_
      refine aj_iload_n 1 26 (dx d_Bench_minimal 11 rfl) rfl rfl rfl ?_
      refine aj_iald 27 (dx d_Bench_minimal 12 rfl) rfl hO.1.2.2.1 rfl hc.1 (by omega) ?_
      refine aj_goto 31 (dx d_Bench_minimal 13 rfl) rfl ?_
      refine aj_iret (dx d_Bench_minimal 15 rfl) rfl id ?_
      unfold minV at hk
      rw [if_pos ⟨hz1, hc⟩] at hk
      obtain ⟨s', rfl⟩ := Int.eq_ofNat_of_zero_le hc.1
      rw [Int.toNat_natCast, nbF_eq (hs1.1.2.2.2.2.2.2.2.2 s' (by omega)).1 (hs1.1.2.2.2.2.2.2.2.2 s' (by omega)).2] at hk
      exact hk
set_option maxHeartbeats 4000000 in
theorem k_Bench_word {al : Prop} {X : Option (Nat × (Int → Int))} {d : Nat} {sh : List aj_S} {g : aj_G} {Q : aj_R → List aj_S → aj_G → Prop} {r r2 : Int} {k n s0 : Nat} {nx ou : Nat → Nat → Nat} {z : Int} {tw : Nat → Nat} {N : Nat} {q : nb_T} {mnx mou : Nat → Nat → Nat} {mi : Nat} {ix io : Nat → Nat → Nat} {w : List Nat} {v : Int} {S : List Nat → Prop} {fp hd hp : Int} (hI : cI sh g r r2 k n s0 nx ou z tw N q mnx mou mi ix io w v S fp hd hp) {s : Int} (hx : aj_I s) (hk : Q (.inl (some (0, wordV w s))) sh g) : aj_wp nE al al X m_Bench_word (d + 6) 0 0 0 [some (1, 0), some (0, s)] [] sh g Q := by
  have hI0 := hI
  obtain ⟨hb, ⟨n9, ns0, n10, nz, n11, nfp, n12, nhd, n13⟩, ⟨hm1, hn1, hn8, hk3⟩, hO, hW, hU, hS, hT⟩ := hI
  have hr := bnO_r hb
  refine aj_aload_n 0 1 (dx d_Bench_word 0 rfl) rfl rfl rfl ?_
  refine aj_getfv (v := 56) 4 fl_Bench_63 (dx d_Bench_word 1 rfl) rfl hb.1 (by first | exact (bf_word hb) | ((repeat (first | rw [aj_up_ne _ _ _ (by omega)] | rw [aj_up_ni _ _ _ (by omega)])); exact (bf_word hb))) ?_
  refine aj_iload_n 1 5 (dx d_Bench_word 2 rfl) rfl rfl rfl ?_
  refine aj_callV1 8 cl_Bench_149 (dx d_Bench_word 3 rfl) rfl rfl rfl rfl rfl rfl hW.1.1 (k_Word_at hW.1 hx (by rw [hW.2.1.1]; omega) (by have := hW.2.2.2; rw [hW.2.1.1]; omega) ?_)
  change aj_wp _ _ _ _ _ _ _ _ _ _ _ _ _ _
  refine aj_iret (dx d_Bench_word 4 rfl) rfl id ?_
  rw [wd_atV hW.2.1]
  exact hk
set_option maxHeartbeats 4000000 in
theorem k_Bench_family {al : Prop} {X : Option (Nat × (Int → Int))} {d : Nat} {sh : List aj_S} {g : aj_G} {Q : aj_R → List aj_S → aj_G → Prop} {r r2 : Int} {k n s0 : Nat} {nx ou : Nat → Nat → Nat} {z : Int} {tw : Nat → Nat} {N : Nat} {q : nb_T} {mnx mou : Nat → Nat → Nat} {mi : Nat} {ix io : Nat → Nat → Nat} {w : List Nat} {v : Int} {S : List Nat → Prop} {fp hd hp : Int} (hI : cI sh g r r2 k n s0 nx ou z tw N q mnx mou mi ix io w v S fp hd hp) {s y : Int} (hx : aj_I s) (hy : aj_I y) (hk : Q (.inl (some (0, famV z (FC k N mnx mou) (FW k N mnx mou) s y))) sh g) : aj_wp nE al al X m_Bench_family (d + 6) 0 0 0 [some (1, 0), some (0, s), some (0, y)] [] sh g Q := by
  have hI0 := hI
  obtain ⟨hb, ⟨n9, ns0, n10, nz, n11, nfp, n12, nhd, n13⟩, ⟨hm1, hn1, hn8, hk3⟩, hO, hW, hU, hS, hT⟩ := hI
  have hr := bnO_r hb
  refine aj_aload_n 0 1 (dx d_Bench_family 0 rfl) rfl rfl rfl ?_
  refine aj_getfv (v := z) 4 fl_Bench_83 (dx d_Bench_family 1 rfl) rfl hb.1 (by first | exact n10 | ((repeat (first | rw [aj_up_ne _ _ _ (by omega)] | rw [aj_up_ni _ _ _ (by omega)])); exact n10)) ?_
  refine aj_if_ne 9 7 (dx d_Bench_family 2 rfl) rfl rfl (by unfold aj_I; omega) (fun h4 => ?_) (fun h4 => ?_)
  · have hz1 : z = 1 := by omega
    have hs1 := hS hz1
    refine aj_iload_n 1 10 (dx d_Bench_family 5 rfl) rfl rfl rfl ?_
    refine aj_iconst 11 (dx d_Bench_family 6 rfl) rfl ?_
    refine aj_icmp_ne 22 14 (dx d_Bench_family 7 rfl) rfl rfl hx (by unfold aj_I; omega) (fun h11 => ?_) (fun h11 => ?_)
    · refine aj_aload_n 0 23 (dx d_Bench_family 12 rfl) rfl rfl rfl ?_
      refine aj_getfv (v := 13) 26 fl_Bench_39 (dx d_Bench_family 13 rfl) rfl hb.1 (by first | exact (bf_family hb) | ((repeat (first | rw [aj_up_ne _ _ _ (by omega)] | rw [aj_up_ni _ _ _ (by omega)])); exact (bf_family hb))) ?_
      refine aj_iload_n 1 27 (dx d_Bench_family 14 rfl) rfl rfl rfl ?_
      refine aj_callV1 30 cl_Bench_156 (dx d_Bench_family 15 rfl) rfl rfl rfl rfl rfl rfl hO.2.2.2.1.1 (k_Family_has hO.2.2.2.1 hx (by rw [hs1.2.2.2.1.2.1.1]; have := hs1.2.2.2.1.2.1.2.1; unfold aj_I; omega) ?_)
      change aj_wp _ _ _ _ _ _ _ _ _ _ _ _ _ _
      refine aj_if_ne 35 33 (dx d_Bench_family 16 rfl) rfl rfl if_I (fun h30 => ?_) (fun h30 => ?_)
      · have hc := if_n0 h30
        rw [hs1.2.2.2.1.2.1.1] at hc
        obtain ⟨w2, rfl⟩ := Int.eq_ofNat_of_zero_le hc.1
        have hwc : w2 < FC k N mnx mou := by omega
        have hf8 := hs1.2.2.2.1.2.1.2.1
        have hw8 : w2 < 8 := by omega
        obtain ⟨f1, f2, f3⟩ := hs1.2.2.2.1.2.1.2.2 w2 hwc
        unfold famV at hk
        rw [if_pos hz1, if_neg h11, if_pos hc, Int.toNat_natCast] at hk
        refine aj_iload_n 2 36 (dx d_Bench_family 19 rfl) rfl rfl rfl ?_
        refine aj_iconst 37 (dx d_Bench_family 20 rfl) rfl ?_
        refine aj_icmp_ne 55 40 (dx d_Bench_family 21 rfl) rfl rfl hy (by unfold aj_I; omega) (fun h37 => ?_) (fun h37 => ?_)
        · refine aj_aload_n 0 56 (dx d_Bench_family 29 rfl) rfl rfl rfl ?_
          refine aj_getfv (v := 13) 59 fl_Bench_39 (dx d_Bench_family 30 rfl) rfl hb.1 (by first | exact (bf_family hb) | ((repeat (first | rw [aj_up_ne _ _ _ (by omega)] | rw [aj_up_ni _ _ _ (by omega)])); exact (bf_family hb))) ?_
          refine aj_getfv (v := 14) 62 fl_Bench_159 (dx d_Bench_family 31 rfl) rfl hO.2.2.2.1.1 hO.2.2.2.1.2.1.1 ?_
          refine aj_iload_n 1 63 (dx d_Bench_family 32 rfl) rfl rfl rfl ?_
          refine aj_aald 64 (dx d_Bench_family 33 rfl) rfl hO.2.2.2.1.2.2.1 rfl rfl (by omega) (by omega) ?_
          rw [(hO.2.2.2.1.2.2.2.2.2 w2 hw8).1]
          refine aj_iload_n 2 65 (dx d_Bench_family 34 rfl) rfl rfl rfl ?_
          refine aj_callV1 68 cl_Bench_149 (dx d_Bench_family 35 rfl) rfl rfl rfl rfl rfl rfl (hO.2.2.2.1.2.2.2.2.2 w2 hw8).2.1.1 (k_Word_at (hO.2.2.2.1.2.2.2.2.2 w2 hw8).2.1 hy (by rw [f1.1]; omega) (by rw [f1.1]; omega) ?_)
          change aj_wp _ _ _ _ _ _ _ _ _ _ _ _ _ _
          refine aj_iret (dx d_Bench_family 36 rfl) rfl id ?_
          rw [if_neg h37] at hk
          rw [wd_atV f1]
          exact hk
        · refine aj_aload_n 0 41 (dx d_Bench_family 22 rfl) rfl rfl rfl ?_
          refine aj_getfv (v := 13) 44 fl_Bench_39 (dx d_Bench_family 23 rfl) rfl hb.1 (by first | exact (bf_family hb) | ((repeat (first | rw [aj_up_ne _ _ _ (by omega)] | rw [aj_up_ni _ _ _ (by omega)])); exact (bf_family hb))) ?_
          refine aj_getfv (v := 14) 47 fl_Bench_159 (dx d_Bench_family 24 rfl) rfl hO.2.2.2.1.1 hO.2.2.2.1.2.1.1 ?_
          refine aj_iload_n 1 48 (dx d_Bench_family 25 rfl) rfl rfl rfl ?_
          refine aj_aald 49 (dx d_Bench_family 26 rfl) rfl hO.2.2.2.1.2.2.1 rfl rfl (by omega) (by omega) ?_
          rw [(hO.2.2.2.1.2.2.2.2.2 w2 hw8).1]
          refine aj_getfv (v := ((FW k N mnx mou w2).length : Int)) 52 fl_Bench_146 (dx d_Bench_family 27 rfl) rfl (hO.2.2.2.1.2.2.2.2.2 w2 hw8).2.1.1 f1.1 ?_
          refine aj_goto 68 (dx d_Bench_family 28 rfl) rfl ?_
          refine aj_iret (dx d_Bench_family 36 rfl) rfl id ?_
          rw [if_pos h37] at hk
          exact hk
      · refine aj_iconst 34 (dx d_Bench_family 17 rfl) rfl ?_
        refine aj_iret (dx d_Bench_family 18 rfl) rfl id ?_
        have hc := if_e0 h30
        rw [hs1.2.2.2.1.2.1.1] at hc
        unfold famV at hk
        rw [if_pos hz1, if_neg h11, if_neg hc] at hk
        exact hk
    · refine aj_aload_n 0 15 (dx d_Bench_family 8 rfl) rfl rfl rfl ?_
      refine aj_getfv (v := 13) 18 fl_Bench_39 (dx d_Bench_family 9 rfl) rfl hb.1 (by first | exact (bf_family hb) | ((repeat (first | rw [aj_up_ne _ _ _ (by omega)] | rw [aj_up_ni _ _ _ (by omega)])); exact (bf_family hb))) ?_
      refine aj_getfv (v := (FC k N mnx mou : Int)) 21 fl_Bench_153 (dx d_Bench_family 10 rfl) rfl hO.2.2.2.1.1 hs1.2.2.2.1.2.1.1 ?_
      refine aj_iret (dx d_Bench_family 11 rfl) rfl id ?_
      unfold famV at hk
      rw [if_pos hz1, if_pos h11] at hk
      exact hk
  · refine aj_iconst 8 (dx d_Bench_family 3 rfl) rfl ?_
    refine aj_iret (dx d_Bench_family 4 rfl) rfl id ?_
    unfold famV at hk
    rw [if_neg (by omega)] at hk
    exact hk
set_option maxHeartbeats 4000000 in
theorem k_Bench_own {al : Prop} {X : Option (Nat × (Int → Int))} {d : Nat} {sh : List aj_S} {g : aj_G} {Q : aj_R → List aj_S → aj_G → Prop} {r r2 : Int} {k n s0 : Nat} {nx ou : Nat → Nat → Nat} {z : Int} {tw : Nat → Nat} {N : Nat} {q : nb_T} {mnx mou : Nat → Nat → Nat} {mi : Nat} {ix io : Nat → Nat → Nat} {w : List Nat} {v : Int} {S : List Nat → Prop} {fp hd hp : Int} (hI : cI sh g r r2 k n s0 nx ou z tw N q mnx mou mi ix io w v S fp hd hp) {s y : Int} (hx : aj_I s) (hy : aj_I y) (hk : Q (.inl (some (0, ownV z N (FO k N mnx mou) s y))) sh g) : aj_wp nE al al X m_Bench_own (d + 6) 0 0 0 [some (1, 0), some (0, s), some (0, y)] [] sh g Q := by
  have hI0 := hI
  obtain ⟨hb, ⟨n9, ns0, n10, nz, n11, nfp, n12, nhd, n13⟩, ⟨hm1, hn1, hn8, hk3⟩, hO, hW, hU, hS, hT⟩ := hI
  have hr := bnO_r hb
  refine aj_aload_n 0 1 (dx d_Bench_own 0 rfl) rfl rfl rfl ?_
  refine aj_getfv (v := z) 4 fl_Bench_83 (dx d_Bench_own 1 rfl) rfl hb.1 (by first | exact n10 | ((repeat (first | rw [aj_up_ne _ _ _ (by omega)] | rw [aj_up_ni _ _ _ (by omega)])); exact n10)) ?_
  refine aj_if_eq 21 7 (dx d_Bench_own 2 rfl) rfl rfl (by unfold aj_I; omega) (fun h4 => ?_) (fun h4 => ?_)
  · refine aj_iconst 22 (dx d_Bench_own 9 rfl) rfl ?_
    refine aj_iret (dx d_Bench_own 10 rfl) rfl id ?_
    unfold ownV at hk
    rw [if_neg (by omega)] at hk
    exact hk
  · have hz1 : z = 1 := by omega
    have hs1 := hS hz1
    refine aj_aload_n 0 8 (dx d_Bench_own 3 rfl) rfl rfl rfl ?_
    refine aj_getfv (v := 4) 11 fl_Bench_32 (dx d_Bench_own 4 rfl) rfl hb.1 (by first | exact (bf_reduction hb) | ((repeat (first | rw [aj_up_ne _ _ _ (by omega)] | rw [aj_up_ni _ _ _ (by omega)])); exact (bf_reduction hb))) ?_
    refine aj_getfv (v := 10) 14 fl_Bench_118 (dx d_Bench_own 5 rfl) rfl hO.1.1 (by first | exact hO.1.2.1.1 | ((repeat (first | rw [aj_up_ne _ _ _ (by omega)] | rw [aj_up_ni _ _ _ (by omega)])); exact hO.1.2.1.1)) ?_
    refine aj_iload_n 1 15 (dx d_Bench_own 6 rfl) rfl rfl rfl ?_
    refine aj_callV1 18 cl_Bench_110 (dx d_Bench_own 7 rfl) rfl rfl rfl rfl rfl rfl hs1.2.1.1.1.1 (k_Machine_hasState hs1.2.1.1.1.1 hx (by have := hs1.2.1.2.2.2; rw [hs1.2.1.1.2.2.1]; unfold aj_I; omega) ?_)
    change aj_wp _ _ _ _ _ _ _ _ _ _ _ _ _ _
    refine aj_if_ne 23 21 (dx d_Bench_own 8 rfl) rfl rfl if_I (fun h18 => ?_) (fun h18 => ?_)
    · have hc := if_n0 h18
      rw [hs1.2.1.1.2.2.1] at hc
      obtain ⟨s2, rfl⟩ := Int.eq_ofNat_of_zero_le hc.1
      have hsN : s2 < N := by omega
      have hN8 := hs1.2.1.2.2.2
      have hs8 : s2 < 8 := by omega
      obtain ⟨o1, o2, o3⟩ := hs1.2.2.2.1.2.2 s2 hsN
      unfold ownV at hk
      rw [if_pos ⟨hz1, hc⟩, Int.toNat_natCast] at hk
      refine aj_iload_n 2 24 (dx d_Bench_own 11 rfl) rfl rfl rfl ?_
      refine aj_iconst 25 (dx d_Bench_own 12 rfl) rfl ?_
      refine aj_icmp_ne 38 28 (dx d_Bench_own 13 rfl) rfl rfl hy (by unfold aj_I; omega) (fun h25 => ?_) (fun h25 => ?_)
      · refine aj_iload_n 2 39 (dx d_Bench_own 20 rfl) rfl rfl rfl ?_
        refine aj_if_lt 69 42 (dx d_Bench_own 21 rfl) rfl rfl hy (fun h39 => ?_) (fun h39 => ?_)
        · refine aj_iconst 70 (dx d_Bench_own 37 rfl) rfl ?_
          refine aj_iret (dx d_Bench_own 38 rfl) rfl id ?_
          rw [if_neg h25, if_neg (by omega)] at hk
          exact hk
        · refine aj_iload_n 2 43 (dx d_Bench_own 22 rfl) rfl rfl rfl ?_
          refine aj_aload_n 0 44 (dx d_Bench_own 23 rfl) rfl rfl rfl ?_
          refine aj_getfv (v := 13) 47 fl_Bench_39 (dx d_Bench_own 24 rfl) rfl hb.1 (by first | exact (bf_family hb) | ((repeat (first | rw [aj_up_ne _ _ _ (by omega)] | rw [aj_up_ni _ _ _ (by omega)])); exact (bf_family hb))) ?_
          refine aj_getfv (v := 24) 50 fl_Bench_163 (dx d_Bench_own 25 rfl) rfl hO.2.2.2.1.1 hO.2.2.2.1.2.1.2.2 ?_
          refine aj_iload_n 1 51 (dx d_Bench_own 26 rfl) rfl rfl rfl ?_
          refine aj_iald 52 (dx d_Bench_own 27 rfl) rfl hO.2.2.2.1.2.2.2.2.1 rfl (by omega) (by omega) ?_
          rw [o1.1]
          refine aj_icmp_ge 69 55 (dx d_Bench_own 28 rfl) rfl rfl hy (by unfold aj_I; omega) (fun h52 => ?_) (fun h52 => ?_)
          · refine aj_iconst 70 (dx d_Bench_own 37 rfl) rfl ?_
            refine aj_iret (dx d_Bench_own 38 rfl) rfl id ?_
            rw [if_neg h25, if_neg (by omega)] at hk
            exact hk
          · refine aj_aload_n 0 56 (dx d_Bench_own 29 rfl) rfl rfl rfl ?_
            refine aj_getfv (v := 13) 59 fl_Bench_39 (dx d_Bench_own 30 rfl) rfl hb.1 (by first | exact (bf_family hb) | ((repeat (first | rw [aj_up_ne _ _ _ (by omega)] | rw [aj_up_ni _ _ _ (by omega)])); exact (bf_family hb))) ?_
            refine aj_getfv (v := 15) 62 fl_Bench_166 (dx d_Bench_own 31 rfl) rfl hO.2.2.2.1.1 hO.2.2.2.1.2.1.2.1 ?_
            refine aj_iload_n 1 63 (dx d_Bench_own 32 rfl) rfl rfl rfl ?_
            refine aj_aald 64 (dx d_Bench_own 33 rfl) rfl hO.2.2.2.1.2.2.2.1 rfl rfl (by omega) (by omega) ?_
            rw [(hO.2.2.2.1.2.2.2.2.2 s2 hs8).2.2.1]
            refine aj_iload_n 2 65 (dx d_Bench_own 34 rfl) rfl rfl rfl ?_
            refine aj_iald 66 (dx d_Bench_own 35 rfl) rfl (hO.2.2.2.1.2.2.2.2.2 s2 hs8).2.2.2 rfl (by omega) (by omega) ?_
            refine aj_goto 70 (dx d_Bench_own 36 rfl) rfl ?_
            refine aj_iret (dx d_Bench_own 38 rfl) rfl id ?_
            rw [if_neg h25, if_pos (by omega)] at hk
            obtain ⟨y2, rfl⟩ := Int.eq_ofNat_of_zero_le (show 0 ≤ y by omega)
            rw [o1.2 y2 (by omega)]
            exact hk
      · refine aj_aload_n 0 29 (dx d_Bench_own 14 rfl) rfl rfl rfl ?_
        refine aj_getfv (v := 13) 32 fl_Bench_39 (dx d_Bench_own 15 rfl) rfl hb.1 (by first | exact (bf_family hb) | ((repeat (first | rw [aj_up_ne _ _ _ (by omega)] | rw [aj_up_ni _ _ _ (by omega)])); exact (bf_family hb))) ?_
        refine aj_getfv (v := 24) 35 fl_Bench_163 (dx d_Bench_own 16 rfl) rfl hO.2.2.2.1.1 hO.2.2.2.1.2.1.2.2 ?_
        refine aj_iload_n 1 36 (dx d_Bench_own 17 rfl) rfl rfl rfl ?_
        refine aj_iald 37 (dx d_Bench_own 18 rfl) rfl hO.2.2.2.1.2.2.2.2.1 rfl (by omega) (by omega) ?_
        rw [o1.1]
        refine aj_iret (dx d_Bench_own 19 rfl) rfl id ?_
        rw [if_pos h25] at hk
        exact hk
    · refine aj_iconst 22 (dx d_Bench_own 9 rfl) rfl ?_
      refine aj_iret (dx d_Bench_own 10 rfl) rfl id ?_
      have hc := if_e0 h18
      rw [hs1.2.1.1.2.2.1] at hc
      unfold ownV at hk
      rw [if_neg (fun y => hc y.2)] at hk
      exact hk
set_option maxHeartbeats 4000000 in
theorem k_Bench_failed {al : Prop} {X : Option (Nat × (Int → Int))} {d : Nat} {sh : List aj_S} {g : aj_G} {Q : aj_R → List aj_S → aj_G → Prop} {r r2 : Int} {k n s0 : Nat} {nx ou : Nat → Nat → Nat} {z : Int} {tw : Nat → Nat} {N : Nat} {q : nb_T} {mnx mou : Nat → Nat → Nat} {mi : Nat} {ix io : Nat → Nat → Nat} {w : List Nat} {v : Int} {S : List Nat → Prop} {fp hd hp : Int} (hI : cI sh g r r2 k n s0 nx ou z tw N q mnx mou mi ix io w v S fp hd hp) (hk : Q (.inl (some (0, fp))) sh g) : aj_wp nE al al X m_Bench_failed (d + 6) 0 0 0 [some (1, 0)] [] sh g Q := by
  have hI0 := hI
  obtain ⟨hb, ⟨n9, ns0, n10, nz, n11, nfp, n12, nhd, n13⟩, ⟨hm1, hn1, hn8, hk3⟩, hO, hW, hU, hS, hT⟩ := hI
  have hr := bnO_r hb
  refine aj_aload_n 0 1 (dx d_Bench_failed 0 rfl) rfl rfl rfl ?_
  refine aj_getfv (v := fp) 4 fl_Bench_87 (dx d_Bench_failed 1 rfl) rfl hb.1 (by first | exact n11 | ((repeat (first | rw [aj_up_ne _ _ _ (by omega)] | rw [aj_up_ni _ _ _ (by omega)])); exact n11)) ?_
  refine aj_iret (dx d_Bench_failed 2 rfl) rfl id ?_
  exact hk
set_option maxHeartbeats 4000000 in
theorem k_Bench_covered {al : Prop} {X : Option (Nat × (Int → Int))} {d : Nat} {sh : List aj_S} {g : aj_G} {Q : aj_R → List aj_S → aj_G → Prop} {r r2 : Int} {k n s0 : Nat} {nx ou : Nat → Nat → Nat} {z : Int} {tw : Nat → Nat} {N : Nat} {q : nb_T} {mnx mou : Nat → Nat → Nat} {mi : Nat} {ix io : Nat → Nat → Nat} {w : List Nat} {v : Int} {S : List Nat → Prop} {fp hd hp : Int} (hI : cI sh g r r2 k n s0 nx ou z tw N q mnx mou mi ix io w v S fp hd hp) (hk : Q (.inl (some (0, covV v mnx S))) sh g) : aj_wp nE al al X m_Bench_covered (d + 6) 0 0 0 [some (1, 0)] [] sh g Q := by
  have hI0 := hI
  obtain ⟨hb, ⟨n9, ns0, n10, nz, n11, nfp, n12, nhd, n13⟩, ⟨hm1, hn1, hn8, hk3⟩, hO, hW, hU, hS, hT⟩ := hI
  have hr := bnO_r hb
  have hsr : sus sh g r k := by
    rcases hr.1 with e | e <;> subst e
    · exact hO.2.2.2.2.2.2.2.2.1
    · exact hO.2.2.2.2.2.2.2.2.2
  rcases hT with ⟨t1, t2, t3, t4⟩ | ⟨t1, t2, t3, ⟨c, W, t5, t6⟩, t7⟩
  · refine aj_aload_n 0 1 (dx d_Bench_covered 0 rfl) rfl rfl rfl ?_
    refine aj_getfv (v := r) 4 fl_Bench_72 (dx d_Bench_covered 1 rfl) rfl hb.1 (by first | exact (bf_suite hb) | ((repeat (first | rw [aj_up_ne _ _ _ (by omega)] | rw [aj_up_ni _ _ _ (by omega)])); exact (bf_suite hb))) ?_
    refine aj_callV0 7 cl_Bench_195 (dx d_Bench_covered 2 rfl) rfl rfl rfl rfl rfl rfl hsr.1 (k_Suite_isMade (mnx := mnx) hsr t2 (by unfold aj_I; omega) ?_)
    change aj_wp _ _ _ _ _ _ _ _ _ _ _ _ _ _
    refine aj_if_eq 20 10 (dx d_Bench_covered 3 rfl) rfl rfl if_I (fun h7 => ?_) (fun h7 => ?_)
    · refine aj_iconst 21 (dx d_Bench_covered 8 rfl) rfl ?_
      refine aj_iret (dx d_Bench_covered 9 rfl) rfl id ?_
      unfold covV at hk
      rw [if_neg (by omega)] at hk
      exact hk
    · exact absurd (if_n0 h7) (by omega)
  · have hs1 := hS t2
    refine aj_aload_n 0 1 (dx d_Bench_covered 0 rfl) rfl rfl rfl ?_
    refine aj_getfv (v := r) 4 fl_Bench_72 (dx d_Bench_covered 1 rfl) rfl hb.1 (by first | exact (bf_suite hb) | ((repeat (first | rw [aj_up_ne _ _ _ (by omega)] | rw [aj_up_ni _ _ _ (by omega)])); exact (bf_suite hb))) ?_
    refine aj_callV0 7 cl_Bench_195 (dx d_Bench_covered 2 rfl) rfl rfl rfl rfl rfl rfl hsr.1 (k_Suite_isMade (mnx := mnx) hsr t5.1.1 (by have := t5.2.2.1; unfold aj_I; omega) ?_)
    change aj_wp _ _ _ _ _ _ _ _ _ _ _ _ _ _
    refine aj_if_eq 20 10 (dx d_Bench_covered 3 rfl) rfl rfl if_I (fun h7 => ?_) (fun h7 => ?_)
    · exact absurd (if_e0 h7) (by have := t5.2.1.1; omega)
    · refine aj_aload_n 0 11 (dx d_Bench_covered 4 rfl) rfl rfl rfl ?_
      refine aj_getfv (v := r) 14 fl_Bench_72 (dx d_Bench_covered 5 rfl) rfl hb.1 (by first | exact (bf_suite hb) | ((repeat (first | rw [aj_up_ne _ _ _ (by omega)] | rw [aj_up_ni _ _ _ (by omega)])); exact (bf_suite hb))) ?_
      refine aj_callV0 17 cl_Bench_214 (dx d_Bench_covered 6 rfl) rfl rfl rfl rfl rfl rfl hsr.1 (k_Suite_transitions hsr t5 hs1.2.1 ?_)
      change aj_wp _ _ _ _ _ _ _ _ _ _ _ _ _ _
      refine aj_goto 21 (dx d_Bench_covered 7 rfl) rfl ?_
      refine aj_iret (dx d_Bench_covered 9 rfl) rfl id ?_
      unfold covV at hk
      rw [if_pos t1, ← mo_cov hk3 t5.2.1 t6 (fun u hu => Nat.lt_of_lt_of_le (rn_lt (fun s i h1 h2 => (hs1.2.1.1.2.2.2.2.2.2 s i h1 h2).2.2.1) hs1.2.1.2.2.1 u hu) hs1.2.1.2.2.2)] at hk
      exact hk
set_option maxHeartbeats 4000000 in
theorem k_Bench_test {al : Prop} {X : Option (Nat × (Int → Int))} {d : Nat} {sh : List aj_S} {g : aj_G} {Q : aj_R → List aj_S → aj_G → Prop} {r r2 : Int} {k n s0 : Nat} {nx ou : Nat → Nat → Nat} {z : Int} {tw : Nat → Nat} {N : Nat} {q : nb_T} {mnx mou : Nat → Nat → Nat} {mi : Nat} {ix io : Nat → Nat → Nat} {w : List Nat} {v : Int} {S : List Nat → Prop} {fp hd hp : Int} (hI : cI sh g r r2 k n s0 nx ou z tw N q mnx mou mi ix io w v S fp hd hp) {s y e : Int} (hx : aj_I s) (hy : aj_I y) (he : e = 0 ∨ e = 1) (hk : Q (.inl (some (0, testV v (lvF S k 20 []) mnx mou 0 s y e))) sh g) : aj_wp nE al al X m_Bench_test (d + 6) 0 0 0 [some (1, 0), some (0, s), some (0, y), some (0, e)] [] sh g Q := by
  have hI0 := hI
  obtain ⟨hb, ⟨n9, ns0, n10, nz, n11, nfp, n12, nhd, n13⟩, ⟨hm1, hn1, hn8, hk3⟩, hO, hW, hU, hS, hT⟩ := hI
  have hr := bnO_r hb
  have hsr : sus sh g r k := by
    rcases hr.1 with e | e <;> subst e
    · exact hO.2.2.2.2.2.2.2.2.1
    · exact hO.2.2.2.2.2.2.2.2.2
  rcases hT with ⟨t1, t2, t3, t4⟩ | ⟨t1, t2, t3, ⟨c, W, t5, t6⟩, t7⟩
  · refine aj_aload_n 0 1 (dx d_Bench_test 0 rfl) rfl rfl rfl ?_
    refine aj_getfv (v := r) 4 fl_Bench_72 (dx d_Bench_test 1 rfl) rfl hb.1 (by first | exact (bf_suite hb) | ((repeat (first | rw [aj_up_ne _ _ _ (by omega)] | rw [aj_up_ni _ _ _ (by omega)])); exact (bf_suite hb))) ?_
    refine aj_iload_n 1 5 (dx d_Bench_test 2 rfl) rfl rfl rfl ?_
    refine aj_callV1 8 cl_Bench_180 (dx d_Bench_test 3 rfl) rfl rfl rfl rfl rfl rfl hsr.1 (k_Suite_hasTest (mnx := mnx) hsr t3 (by unfold aj_I; omega) hx ?_)
    change aj_wp _ _ _ _ _ _ _ _ _ _ _ _ _ _
    refine aj_if_ne 13 11 (dx d_Bench_test 4 rfl) rfl rfl if_I (fun h8 => ?_) (fun h8 => ?_)
    · exact absurd (if_n0 h8) (by omega)
    · refine aj_iconst 12 (dx d_Bench_test 5 rfl) rfl ?_
      refine aj_iret (dx d_Bench_test 6 rfl) rfl id ?_
      unfold testV at hk
      rw [if_neg (by omega)] at hk
      exact hk
  · have hs1 := hS t2
    refine aj_aload_n 0 1 (dx d_Bench_test 0 rfl) rfl rfl rfl ?_
    refine aj_getfv (v := r) 4 fl_Bench_72 (dx d_Bench_test 1 rfl) rfl hb.1 (by first | exact (bf_suite hb) | ((repeat (first | rw [aj_up_ne _ _ _ (by omega)] | rw [aj_up_ni _ _ _ (by omega)])); exact (bf_suite hb))) ?_
    refine aj_iload_n 1 5 (dx d_Bench_test 2 rfl) rfl rfl rfl ?_
    refine aj_callV1 8 cl_Bench_180 (dx d_Bench_test 3 rfl) rfl rfl rfl rfl rfl rfl hsr.1 (k_Suite_hasTest (mnx := mnx) hsr t5.2.2.2.2.1.1 (by have := t5.2.2.2.2.2; unfold aj_I; omega) hx ?_)
    change aj_wp _ _ _ _ _ _ _ _ _ _ _ _ _ _
    refine aj_if_ne 13 11 (dx d_Bench_test 4 rfl) rfl rfl if_I (fun h8 => ?_) (fun h8 => ?_)
    · have hc := if_n0 h8
      obtain ⟨t0, rfl⟩ := Int.eq_ofNat_of_zero_le hc.1
      have ht0 : t0 < (lvF S k 20 []).length := by omega
      have hg : (lvF S k 20 []).getD t0 [] = (lvF S k 20 [])[t0] := by rw [List.getD_eq_getElem?_getD, List.getElem?_eq_getElem ht0]; rfl
      have hl18 := (sT_t t5 ht0).2
      unfold testV at hk
      rw [if_pos ⟨t1, hc⟩, Int.toNat_natCast, hg] at hk
      refine aj_iload_n 2 14 (dx d_Bench_test 7 rfl) rfl rfl rfl ?_
      refine aj_iconst 15 (dx d_Bench_test 8 rfl) rfl ?_
      refine aj_icmp_ne 27 18 (dx d_Bench_test 9 rfl) rfl rfl hy (by unfold aj_I; omega) (fun h15 => ?_) (fun h15 => ?_)
      · refine aj_iload_n 2 28 (dx d_Bench_test 15 rfl) rfl rfl rfl ?_
        refine aj_if_lt 43 31 (dx d_Bench_test 16 rfl) rfl rfl hy (fun h28 => ?_) (fun h28 => ?_)
        · refine aj_iconst 44 (dx d_Bench_test 23 rfl) rfl ?_
          refine aj_iret (dx d_Bench_test 24 rfl) rfl id ?_
          rw [if_neg h15, if_neg (by omega)] at hk
          exact hk
        · refine aj_iload_n 2 32 (dx d_Bench_test 17 rfl) rfl rfl rfl ?_
          refine aj_aload_n 0 33 (dx d_Bench_test 18 rfl) rfl rfl rfl ?_
          refine aj_getfv (v := r) 36 fl_Bench_72 (dx d_Bench_test 19 rfl) rfl hb.1 (by first | exact (bf_suite hb) | ((repeat (first | rw [aj_up_ne _ _ _ (by omega)] | rw [aj_up_ni _ _ _ (by omega)])); exact (bf_suite hb))) ?_
          refine aj_iload_n 1 37 (dx d_Bench_test 20 rfl) rfl rfl rfl ?_
          refine aj_callV1 40 cl_Bench_183 (dx d_Bench_test 21 rfl) rfl rfl rfl rfl rfl rfl hsr.1 (k_Suite_lengthOf hsr t5 ht0 ?_)
          change aj_wp _ _ _ _ _ _ _ _ _ _ _ _ _ _
          refine aj_icmp_lt 45 43 (dx d_Bench_test 22 rfl) rfl rfl hy (by unfold aj_I; omega) (fun h40 => ?_) (fun h40 => ?_)
          · obtain ⟨y2, rfl⟩ := Int.eq_ofNat_of_zero_le (show 0 ≤ y by omega)
            have hi2 : y2 < (lvF S k 20 [])[t0].length := by omega
            rw [if_neg h15, if_pos (by omega), Int.toNat_natCast] at hk
            refine aj_iload_n 3 46 (dx d_Bench_test 25 rfl) rfl rfl rfl ?_
            refine aj_if_eq 61 49 (dx d_Bench_test 26 rfl) rfl rfl (by unfold aj_I; omega) (fun h46 => ?_) (fun h46 => ?_)
            · refine aj_aload_n 0 62 (dx d_Bench_test 33 rfl) rfl rfl rfl ?_
              refine aj_getfv (v := r) 65 fl_Bench_72 (dx d_Bench_test 34 rfl) rfl hb.1 (by first | exact (bf_suite hb) | ((repeat (first | rw [aj_up_ne _ _ _ (by omega)] | rw [aj_up_ni _ _ _ (by omega)])); exact (bf_suite hb))) ?_
              refine aj_iload_n 1 66 (dx d_Bench_test 35 rfl) rfl rfl rfl ?_
              refine aj_iload_n 2 67 (dx d_Bench_test 36 rfl) rfl rfl rfl ?_
              refine aj_callV2 70 cl_Bench_189 (dx d_Bench_test 37 rfl) rfl rfl rfl rfl rfl rfl hsr.1 (k_Suite_inputAt hsr t5 ht0 hi2 ?_)
              change aj_wp _ _ _ _ _ _ _ _ _ _ _ _ _ _
              refine aj_iret (dx d_Bench_test 38 rfl) rfl id ?_
              rw [if_neg (by omega), ltr_eq hi2] at hk
              exact hk
            · refine aj_aload_n 0 50 (dx d_Bench_test 27 rfl) rfl rfl rfl ?_
              refine aj_getfv (v := r) 53 fl_Bench_72 (dx d_Bench_test 28 rfl) rfl hb.1 (by first | exact (bf_suite hb) | ((repeat (first | rw [aj_up_ne _ _ _ (by omega)] | rw [aj_up_ni _ _ _ (by omega)])); exact (bf_suite hb))) ?_
              refine aj_iload_n 1 54 (dx d_Bench_test 29 rfl) rfl rfl rfl ?_
              refine aj_iload_n 2 55 (dx d_Bench_test 30 rfl) rfl rfl rfl ?_
              refine aj_callV2 58 cl_Bench_186 (dx d_Bench_test 31 rfl) rfl rfl rfl rfl rfl rfl hsr.1 (k_Suite_outputAt hsr t5 hs1.2.1 ht0 hi2 ?_)
              change aj_wp _ _ _ _ _ _ _ _ _ _ _ _ _ _
              refine aj_goto 70 (dx d_Bench_test 32 rfl) rfl ?_
              refine aj_iret (dx d_Bench_test 38 rfl) rfl id ?_
              rw [if_pos (by omega)] at hk
              exact hk
          · refine aj_iconst 44 (dx d_Bench_test 23 rfl) rfl ?_
            refine aj_iret (dx d_Bench_test 24 rfl) rfl id ?_
            rw [if_neg h15, if_neg (by omega)] at hk
            exact hk
      · refine aj_aload_n 0 19 (dx d_Bench_test 10 rfl) rfl rfl rfl ?_
        refine aj_getfv (v := r) 22 fl_Bench_72 (dx d_Bench_test 11 rfl) rfl hb.1 (by first | exact (bf_suite hb) | ((repeat (first | rw [aj_up_ne _ _ _ (by omega)] | rw [aj_up_ni _ _ _ (by omega)])); exact (bf_suite hb))) ?_
        refine aj_iload_n 1 23 (dx d_Bench_test 12 rfl) rfl rfl rfl ?_
        refine aj_callV1 26 cl_Bench_183 (dx d_Bench_test 13 rfl) rfl rfl rfl rfl rfl rfl hsr.1 (k_Suite_lengthOf hsr t5 ht0 ?_)
        change aj_wp _ _ _ _ _ _ _ _ _ _ _ _ _ _
        refine aj_iret (dx d_Bench_test 14 rfl) rfl id ?_
        rw [if_pos h15] at hk
        exact hk
    · refine aj_iconst 12 (dx d_Bench_test 5 rfl) rfl ?_
      refine aj_iret (dx d_Bench_test 6 rfl) rfl id ?_
      unfold testV at hk
      rw [if_neg (fun y => if_e0 h8 y.2)] at hk
      exact hk
set_option maxHeartbeats 8000000 in
theorem k_Bench_look {al : Prop} {X : Option (Nat × (Int → Int))} {d : Nat} {sh : List aj_S} {g : aj_G} {Q : aj_R → List aj_S → aj_G → Prop} {r r2 : Int} {k n s0 : Nat} {nx ou : Nat → Nat → Nat} {z : Int} {tw : Nat → Nat} {N : Nat} {q : nb_T} {mnx mou : Nat → Nat → Nat} {mi : Nat} {ix io : Nat → Nat → Nat} {w : List Nat} {v : Int} {S : List Nat → Prop} {fp hd hp : Int} (hI : cI sh g r r2 k n s0 nx ou z tw N q mnx mou mi ix io w v S fp hd hp) {s : Int} (hx : aj_I s) (hk : Q (.inl (some (0, lookV k n z N mi v S s))) sh g) : aj_wp nE al al X m_Bench_look (d + 6) 0 0 0 [some (1, 0), some (0, s)] [] sh g Q := by
  have hI0 := hI
  obtain ⟨hb, ⟨n9, ns0, n10, nz, n11, nfp, n12, nhd, n13⟩, ⟨hm1, hn1, hn8, hk3⟩, hO, hW, hU, hS, hT⟩ := hI
  have hr := bnO_r hb
  have hsr : sus sh g r k := by
    rcases hr.1 with e | e <;> subst e
    · exact hO.2.2.2.2.2.2.2.2.1
    · exact hO.2.2.2.2.2.2.2.2.2
  refine aj_iload_n 1 1 (dx d_Bench_look 0 rfl) rfl rfl rfl ?_
  by_cases hx0 : s = 0
  · subst hx0
    refine aj_tableIn 44 (dx d_Bench_look 1 rfl) (by unfold aj_I; omega) (by omega) (by omega) rfl rfl ?_
    refine aj_aload_n 0 45 (dx d_Bench_look 2 rfl) rfl rfl rfl ?_
    refine aj_getfv (v := 1) 48 fl_Bench_23 (dx d_Bench_look 3 rfl) rfl hb.1 (by first | exact (bf_specification hb) | ((repeat (first | rw [aj_up_ne _ _ _ (by omega)] | rw [aj_up_ni _ _ _ (by omega)])); exact (bf_specification hb))) ?_
    refine aj_getfv (v := (n : Int)) 51 fl_Bench_129 (dx d_Bench_look 4 rfl) rfl hm1.1.1 hm1.2.2.1 ?_
    refine aj_iret (dx d_Bench_look 5 rfl) rfl id ?_
    unfold lookV at hk
    rw [if_pos rfl] at hk
    exact hk
  by_cases hx1 : s = 1
  · subst hx1
    refine aj_tableIn 52 (dx d_Bench_look 1 rfl) (by unfold aj_I; omega) (by omega) (by omega) rfl rfl ?_
    refine aj_aload_n 0 53 (dx d_Bench_look 6 rfl) rfl rfl rfl ?_
    refine aj_getfv (v := 1) 56 fl_Bench_23 (dx d_Bench_look 7 rfl) rfl hb.1 (by first | exact (bf_specification hb) | ((repeat (first | rw [aj_up_ne _ _ _ (by omega)] | rw [aj_up_ni _ _ _ (by omega)])); exact (bf_specification hb))) ?_
    refine aj_getfv (v := (k : Int)) 59 fl_Bench_217 (dx d_Bench_look 8 rfl) rfl hm1.1.1 hm1.2.1 ?_
    refine aj_iret (dx d_Bench_look 9 rfl) rfl id ?_
    unfold lookV at hk
    rw [if_neg (by omega), if_pos rfl] at hk
    exact hk
  by_cases hx2 : s = 2
  · subst hx2
    refine aj_tableIn 60 (dx d_Bench_look 1 rfl) (by unfold aj_I; omega) (by omega) (by omega) rfl rfl ?_
    refine aj_aload_n 0 61 (dx d_Bench_look 10 rfl) rfl rfl rfl ?_
    refine aj_getfv (v := z) 64 fl_Bench_83 (dx d_Bench_look 11 rfl) rfl hb.1 (by first | exact n10 | ((repeat (first | rw [aj_up_ne _ _ _ (by omega)] | rw [aj_up_ni _ _ _ (by omega)])); exact n10)) ?_
    refine aj_if_eq 71 67 (dx d_Bench_look 12 rfl) rfl rfl (by unfold aj_I; omega) (fun h64 => ?_) (fun h64 => ?_)
    · refine aj_iconst 72 (dx d_Bench_look 15 rfl) rfl ?_
      refine aj_iret (dx d_Bench_look 16 rfl) rfl id ?_
      unfold lookV at hk
      rw [if_neg (by omega), if_neg (by omega), if_pos rfl] at hk
      rw [h64] at hk
      exact hk
    · refine aj_iconst 68 (dx d_Bench_look 13 rfl) rfl ?_
      refine aj_goto 72 (dx d_Bench_look 14 rfl) rfl ?_
      refine aj_iret (dx d_Bench_look 16 rfl) rfl id ?_
      unfold lookV at hk
      rw [if_neg (by omega), if_neg (by omega), if_pos rfl] at hk
      rw [show z = 1 by omega] at hk
      exact hk
  by_cases hx3 : s = 3
  · subst hx3
    refine aj_tableIn 73 (dx d_Bench_look 1 rfl) (by unfold aj_I; omega) (by omega) (by omega) rfl rfl ?_
    by_cases hz1 : z = 1
    · have hs1 := hS hz1
      refine aj_aload_n 0 74 (dx d_Bench_look 17 rfl) rfl rfl rfl ?_
      refine aj_getfv (v := 4) 77 fl_Bench_32 (dx d_Bench_look 18 rfl) rfl hb.1 (by first | exact (bf_reduction hb) | ((repeat (first | rw [aj_up_ne _ _ _ (by omega)] | rw [aj_up_ni _ _ _ (by omega)])); exact (bf_reduction hb))) ?_
      refine aj_getfv (v := 10) 80 fl_Bench_118 (dx d_Bench_look 19 rfl) rfl hO.1.1 (by first | exact hO.1.2.1.1 | ((repeat (first | rw [aj_up_ne _ _ _ (by omega)] | rw [aj_up_ni _ _ _ (by omega)])); exact hO.1.2.1.1)) ?_
      refine aj_getfv (v := (N : Int)) 83 fl_Bench_129 (dx d_Bench_look 20 rfl) rfl hs1.2.1.1.1.1 hs1.2.1.1.2.2.1 ?_
      refine aj_iret (dx d_Bench_look 21 rfl) rfl id ?_
      unfold lookV at hk
      rw [if_neg (by omega), if_neg (by omega), if_neg (by omega), if_pos rfl, if_pos hz1] at hk
      exact hk
    · have hu := hU (by omega)
      refine aj_aload_n 0 74 (dx d_Bench_look 17 rfl) rfl rfl rfl ?_
      refine aj_getfv (v := 4) 77 fl_Bench_32 (dx d_Bench_look 18 rfl) rfl hb.1 (by first | exact (bf_reduction hb) | ((repeat (first | rw [aj_up_ne _ _ _ (by omega)] | rw [aj_up_ni _ _ _ (by omega)])); exact (bf_reduction hb))) ?_
      refine aj_getfv (v := 10) 80 fl_Bench_118 (dx d_Bench_look 19 rfl) rfl hO.1.1 (by first | exact hO.1.2.1.1 | ((repeat (first | rw [aj_up_ne _ _ _ (by omega)] | rw [aj_up_ni _ _ _ (by omega)])); exact hO.1.2.1.1)) ?_
      refine aj_getfv (v := 0) 83 fl_Bench_129 (dx d_Bench_look 20 rfl) rfl hO.2.1.1 hu.1 ?_
      refine aj_iret (dx d_Bench_look 21 rfl) rfl id ?_
      unfold lookV at hk
      rw [if_neg (by omega), if_neg (by omega), if_neg (by omega), if_pos rfl, if_neg hz1] at hk
      exact hk
  by_cases hx4 : s = 4
  · subst hx4
    refine aj_tableIn 84 (dx d_Bench_look 1 rfl) (by unfold aj_I; omega) (by omega) (by omega) rfl rfl ?_
    rcases hT with ⟨t1, t2, t3, t4⟩ | ⟨t1, t2, t3, ⟨c, W, t5, t6⟩, t7⟩
    · refine aj_aload_n 0 85 (dx d_Bench_look 22 rfl) rfl rfl rfl ?_
      refine aj_getfv (v := r) 88 fl_Bench_72 (dx d_Bench_look 23 rfl) rfl hb.1 (by first | exact (bf_suite hb) | ((repeat (first | rw [aj_up_ne _ _ _ (by omega)] | rw [aj_up_ni _ _ _ (by omega)])); exact (bf_suite hb))) ?_
      refine aj_getfv (v := 0) 91 fl_Bench_177 (dx d_Bench_look 24 rfl) rfl hsr.1 t3 ?_
      refine aj_iret (dx d_Bench_look 25 rfl) rfl id ?_
      unfold lookV at hk
      rw [if_neg (by omega), if_neg (by omega), if_neg (by omega), if_neg (by omega), if_pos rfl, if_neg (by omega)] at hk
      exact hk
    · refine aj_aload_n 0 85 (dx d_Bench_look 22 rfl) rfl rfl rfl ?_
      refine aj_getfv (v := r) 88 fl_Bench_72 (dx d_Bench_look 23 rfl) rfl hb.1 (by first | exact (bf_suite hb) | ((repeat (first | rw [aj_up_ne _ _ _ (by omega)] | rw [aj_up_ni _ _ _ (by omega)])); exact (bf_suite hb))) ?_
      refine aj_getfv (v := ((lvF S k 20 []).length : Int)) 91 fl_Bench_177 (dx d_Bench_look 24 rfl) rfl hsr.1 t5.2.2.2.2.1.1 ?_
      refine aj_iret (dx d_Bench_look 25 rfl) rfl id ?_
      unfold lookV at hk
      rw [if_neg (by omega), if_neg (by omega), if_neg (by omega), if_neg (by omega), if_pos rfl, if_pos t1] at hk
      exact hk
  by_cases hx5 : s = 5
  · subst hx5
    refine aj_tableIn 92 (dx d_Bench_look 1 rfl) (by unfold aj_I; omega) (by omega) (by omega) rfl rfl ?_
    by_cases hz1 : z = 1
    · have hs1 := hS hz1
      refine aj_aload_n 0 93 (dx d_Bench_look 26 rfl) rfl rfl rfl ?_
      refine aj_getfv (v := 41) 96 fl_Bench_43 (dx d_Bench_look 27 rfl) rfl hb.1 (by first | exact (bf_implementation hb) | ((repeat (first | rw [aj_up_ne _ _ _ (by omega)] | rw [aj_up_ni _ _ _ (by omega)])); exact (bf_implementation hb))) ?_
      refine aj_getfv (v := (mi : Int)) 99 fl_Bench_129 (dx d_Bench_look 28 rfl) rfl hs1.2.2.2.2.1.1.1 hs1.2.2.2.2.1.2.2.1 ?_
      refine aj_iret (dx d_Bench_look 29 rfl) rfl id ?_
      unfold lookV at hk
      rw [if_neg (by omega), if_neg (by omega), if_neg (by omega), if_neg (by omega), if_neg (by omega), if_pos rfl, if_pos hz1] at hk
      exact hk
    · have hu := hU (by omega)
      refine aj_aload_n 0 93 (dx d_Bench_look 26 rfl) rfl rfl rfl ?_
      refine aj_getfv (v := 41) 96 fl_Bench_43 (dx d_Bench_look 27 rfl) rfl hb.1 (by first | exact (bf_implementation hb) | ((repeat (first | rw [aj_up_ne _ _ _ (by omega)] | rw [aj_up_ni _ _ _ (by omega)])); exact (bf_implementation hb))) ?_
      refine aj_getfv (v := 0) 99 fl_Bench_129 (dx d_Bench_look 28 rfl) rfl hO.2.2.2.2.1.1 hu.2.2.2 ?_
      refine aj_iret (dx d_Bench_look 29 rfl) rfl id ?_
      unfold lookV at hk
      rw [if_neg (by omega), if_neg (by omega), if_neg (by omega), if_neg (by omega), if_neg (by omega), if_pos rfl, if_neg hz1] at hk
      exact hk
  by_cases hx6 : s = 6
  · subst hx6
    refine aj_tableIn 100 (dx d_Bench_look 1 rfl) (by unfold aj_I; omega) (by omega) (by omega) rfl rfl ?_
    rcases hT with ⟨t1, t2, t3, t4⟩ | ⟨t1, t2, t3, ⟨c, W, t5, t6⟩, t7⟩
    · refine aj_aload_n 0 101 (dx d_Bench_look 30 rfl) rfl rfl rfl ?_
      refine aj_getfv (v := r) 104 fl_Bench_72 (dx d_Bench_look 31 rfl) rfl hb.1 (by first | exact (bf_suite hb) | ((repeat (first | rw [aj_up_ne _ _ _ (by omega)] | rw [aj_up_ni _ _ _ (by omega)])); exact (bf_suite hb))) ?_
      refine aj_getfv (v := 0) 107 fl_Bench_220 (dx d_Bench_look 32 rfl) rfl hsr.1 t2 ?_
      refine aj_iret (dx d_Bench_look 33 rfl) rfl id ?_
      unfold lookV at hk
      rw [if_neg (by omega), if_neg (by omega), if_neg (by omega), if_neg (by omega), if_neg (by omega), if_neg (by omega), if_pos rfl, if_neg (by omega)] at hk
      exact hk
    · refine aj_aload_n 0 101 (dx d_Bench_look 30 rfl) rfl rfl rfl ?_
      refine aj_getfv (v := r) 104 fl_Bench_72 (dx d_Bench_look 31 rfl) rfl hb.1 (by first | exact (bf_suite hb) | ((repeat (first | rw [aj_up_ne _ _ _ (by omega)] | rw [aj_up_ni _ _ _ (by omega)])); exact (bf_suite hb))) ?_
      refine aj_getfv (v := (c : Int)) 107 fl_Bench_220 (dx d_Bench_look 32 rfl) rfl hsr.1 t5.1.1 ?_
      refine aj_iret (dx d_Bench_look 33 rfl) rfl id ?_
      unfold lookV at hk
      rw [if_neg (by omega), if_neg (by omega), if_neg (by omega), if_neg (by omega), if_neg (by omega), if_neg (by omega), if_pos rfl, if_pos t1, szS_eq t5.2.1 t6] at hk
      exact hk
  refine aj_tableOut 108 (dx d_Bench_look 1 rfl) hx (by omega) rfl ?_
  refine aj_iconst 109 (dx d_Bench_look 34 rfl) rfl ?_
  refine aj_iret (dx d_Bench_look 35 rfl) rfl id ?_
  unfold lookV at hk
  rw [if_neg (by omega), if_neg (by omega), if_neg (by omega), if_neg (by omega), if_neg (by omega), if_neg (by omega), if_neg (by omega)] at hk
  exact hk

