/-! the law: one call on both sides -/
section AJS
variable {E : aj_E} {al ao : Prop} {X : Option (Nat × (Int → Int))} {M : aj_M} {d bc bs pc : Nat} {lv : List (Option aj_A)} {st : List aj_A} {sh : List aj_S} {g : aj_G} {Q : aj_R → List aj_S → aj_G → Prop}
theorem aj_icmp_same {x off : Int} (t : Nat) (hd : decode M.2.1 pc = .ok (.if_icmp .eq off, 3)) (ht : (pc : Int) + off = (t : Int)) (k : aj_wp E al ao X M d bc bs t lv st sh g Q) : aj_wp E al ao X M d bc bs pc lv ((0, x) :: (0, x) :: st) sh g Q :=
  aj_lift (fun p l e R s m args below meth c H locs cells slots Z ls a hx hb hls k => lv_icmp_eq (x := Int32.ofInt x) (y := Int32.ofInt x) hx hb hd ht (fun _ => k) (fun h => absurd rfl h)) k
end AJS
theorem sg_self (x : Int) : aj_sg x x = 0 := by
  unfold aj_sg
  rw [if_neg (by omega), if_pos rfl]
theorem cS_pu {sh : List aj_S} {g : aj_G} {k n s0 : Nat} {nx ou : Nat → Nat → Nat} {tw : Nat → Nat} {N : Nat} {q : nb_T} {mnx mou : Nat → Nat → Nat} {mi : Nat} {ix io : Nat → Nat → Nat} (h : cS sh g k n s0 nx ou tw N q mnx mou mi ix io) : pu k n s0 nx ou tw N q mnx mou := by
  obtain ⟨⟨-, p1, p2, p3, p4, -⟩, -, h3, -⟩ := h
  exact ⟨p1, p2, p3, p4, h3⟩
set_option maxHeartbeats 4000000 in
theorem k_Model_give2 {al : Prop} {X : Option (Nat × (Int → Int))} {d : Nat} {sh : List aj_S} {g : aj_G} {Q : aj_R → List aj_S → aj_G → Prop} {k n : Nat} {nx ou : Nat → Nat → Nat} (hM : mmm sh g k n nx ou) {x hd : Int} (h30 : g 78 30 = hd) (hdI : aj_I hd) (ho : aj_I x) (hh : 0 ≤ hd) (hbad : ¬ (0 ≤ x ∧ x < 4)) (hk : Q (.inl (some (0, 0))) sh (aj_up g 78 0 2)) : aj_wp nE al al X m_Model_give (d + 2) 0 0 0 [some (1, 78), some (0, x), none, none] [] sh g Q := by
  refine aj_aload_n 0 1 (dx d_Model_give 0 rfl) rfl rfl rfl ?_
  refine aj_aload_n 0 2 (dx d_Model_give 1 rfl) rfl rfl rfl ?_
  refine aj_getfv (v := hd) 5 fl_Model_67 (dx d_Model_give 2 rfl) rfl hM.1.1 h30 ?_
  refine aj_if_ge 12 8 (dx d_Model_give 3 rfl) rfl rfl hdI (fun h5 => ?_) (fun h5 => ?_)
  · refine aj_iload_n 1 13 (dx d_Model_give 6 rfl) rfl rfl rfl ?_
    refine aj_callS1 16 cl_Model_102 (dx d_Model_give 7 rfl) rfl rfl rfl rfl rfl rfl (k_isO ho (fun c2 => absurd c2 hbad) (fun c2 => ?_))
    change aj_wp _ _ _ _ _ _ _ _ _ _ _ _ _ _
    refine aj_if_ne 23 19 (dx d_Model_give 8 rfl) rfl rfl (by unfold aj_I; omega) (fun h16 => ?_) (fun h16 => ?_)
    · exact absurd rfl h16
    · refine aj_iconst 20 (dx d_Model_give 9 rfl) rfl ?_
      refine aj_goto 24 (dx d_Model_give 10 rfl) rfl ?_
      refine aj_putf 27 (pl_Model_92 _) (dx d_Model_give 12 rfl) rfl hM.1.1 (aj_fitI _) ?_
      refine aj_aload_n 0 28 (dx d_Model_give 13 rfl) rfl rfl rfl ?_
      refine aj_getf 31 fl_Model_92 (dx d_Model_give 14 rfl) rfl hM.1.1 ?_
      rw [show aj_up g 78 0 2 78 0 = 2 by rw [aj_up_self]]
      refine aj_if_le 36 34 (dx d_Model_give 15 rfl) rfl rfl (by unfold aj_I; omega) (fun h31 => ?_) (fun h31 => ?_)
      · exact absurd h31 (by decide)
      · refine aj_iconst 35 (dx d_Model_give 16 rfl) rfl ?_
        refine aj_iret (dx d_Model_give 17 rfl) rfl id ?_
        exact hk
  · exact absurd h5 (by omega)
theorem M_give2 {al : Prop} {X : Option (Nat × (Int → Int))} {d : Nat} {sh : List aj_S} {g : aj_G} {Q : aj_R → List aj_S → aj_G → Prop} {k n s0 : Nat} {nx ou : Nat → Nat → Nat} {z : Int} {tw : Nat → Nat} {N : Nat} {q : nb_T} {mnx mou : Nat → Nat → Nat} {mi : Nat} {ix io : Nat → Nat → Nat} {w : List Nat} {v : Int} {S : List Nat → Prop} {fp hd hp : Int} (hI : mI sh g k n s0 nx ou z tw N q mnx mou mi ix io w v S fp hd hp) {s : Int} (x1 : aj_I s) (hne : ¬ hd = -1) (hbad : ¬ (0 ≤ s ∧ s < 4)) (hk : ∀ g1 : aj_G, frM g g1 → g1 78 0 = 2 → mI sh g1 k n s0 nx ou z tw N q mnx mou mi ix io w v S fp hd hp → Q (.inl (some (0, 0))) sh g1) : aj_wp nE al al X m_Model_give (d + 6) 0 0 0 [some (1, 78), some (0, s), none, none] [] sh g Q := by
  have hh := mI_hh hI
  have hd0 : 0 ≤ hd := by
    rcases hI.2.2.2.2.2.2.1 with e | e
    · exact absurd (hh.1 e) hne
    · rcases hh.2 e with h | ⟨t, j, h, e1, -⟩
      · exact absurd h hne
      · omega
  exact k_Model_give2 hI.1 hI.2.1.2.2.2.2.2.1 hI.2.1.2.2.2.2.2.2.1 x1 hd0 hbad (hk _ (frM_th g _) (aj_up_self _ _ _ _) (mI_th hI _))
set_option maxHeartbeats 8000000 in
theorem O_edge {X : Option (Nat × (Int → Int))} {L i d k n bc bs : Nat} {xs : Int → Int} {g : aj_G} {Q : aj_R → List aj_S → aj_G → Prop} {r r2 : Int} {s0 : Nat} {nx ou : Nat → Nat → Nat} {z : Int} {tw : Nat → Nat} {N : Nat} {q : nb_T} {mnx mou : Nat → Nat → Nat} {mi : Nat} {ix io : Nat → Nat → Nat} {w : List Nat} {v : Int} {S : List Nat → Prop} {fp hd hp : Int} {o5 o6 : Option aj_A} (hX : X = some (L, xs)) (hxs : ∀ j, aj_I (xs j)) (hi : i + 4 < L) (hb : 1 ≤ bc ∧ 6 ≤ bs) (hc : cI (shL k) g r r2 k n s0 nx ou z tw N q mnx mou mi ix io w v S fp hd hp) (hm : mI (shL k) g k n s0 nx ou z tw N q mnx mou mi ix io w v S fp hd hp) (hnx : ∀ {g1 : aj_G} {r r2 : Int} {s0 : Nat} {nx ou : Nat → Nat → Nat} {z : Int} {tw : Nat → Nat} {N : Nat} {q : nb_T} {mnx mou : Nat → Nat → Nat} {mi : Nat} {ix io : Nat → Nat → Nat} {w : List Nat} {v : Int} {S : List Nat → Prop} {fp hd hp : Int} {bc1 bs1 : Nat} {o5 o6 : Option aj_A}, cI (shL k) g1 r r2 k n s0 nx ou z tw N q mnx mou mi ix io w v S fp hd hp → mI (shL k) g1 k n s0 nx ou z tw N q mnx mou mi ix io w v S fp hd hp → bc ≤ bc1 + 1 → bs ≤ bs1 + 6 → aj_wp nE False False X m_Law_law (d + 8) bc1 bs1 984 [some (1, 1000000), some (1, 0), some (1, 78), some (1, 100), some (0, (i : Int)), o5, o6] [] (shL k) g1 Q) : aj_wp nE False False X m_Law_law (d + 8) bc bs 148 [some (1, 1000000), some (1, 0), some (1, 78), some (1, 100), some (0, (i : Int)), o5, o6] [] (shL k) g Q := by
  have hk3 := hc.2.2.1.2.2.2
  refine aj_aload_n 1 149 (dx d_Law_law_0 37 rfl) rfl rfl rfl ?_
  refine aj_aload_n 0 150 (dx d_Law_law_0 38 rfl) rfl rfl rfl ?_
  refine aj_iload 4 152 (dx d_Law_law_0 39 rfl) rfl rfl ?_
  refine aj_iconst 153 (dx d_Law_law_0 40 rfl) rfl ?_
  refine aj_iadd 154 (dx d_Law_law_0 41 rfl) rfl ?_
  refine aj_sld 155 (dx d_Law_law_0 42 rfl) rfl hX (by omega) (by omega) ?_
  refine aj_aload_n 0 156 (dx d_Law_law_0 43 rfl) rfl rfl rfl ?_
  refine aj_iload 4 158 (dx d_Law_law_0 44 rfl) rfl rfl ?_
  refine aj_iconst 159 (dx d_Law_law_0 45 rfl) rfl ?_
  refine aj_iadd 160 (dx d_Law_law_0 46 rfl) rfl ?_
  refine aj_sld 161 (dx d_Law_law_0 47 rfl) rfl hX (by omega) (by omega) ?_
  refine aj_aload_n 0 162 (dx d_Law_law_0 48 rfl) rfl rfl rfl ?_
  refine aj_iload 4 164 (dx d_Law_law_0 49 rfl) rfl rfl ?_
  refine aj_iconst 165 (dx d_Law_law_1 0 rfl) rfl ?_
  refine aj_iadd 166 (dx d_Law_law_1 1 rfl) rfl ?_
  refine aj_sld 167 (dx d_Law_law_1 2 rfl) rfl hX (by omega) (by omega) ?_
  refine aj_aload_n 0 168 (dx d_Law_law_1 3 rfl) rfl rfl rfl ?_
  refine aj_iload 4 170 (dx d_Law_law_1 4 rfl) rfl rfl ?_
  refine aj_iconst 171 (dx d_Law_law_1 5 rfl) rfl ?_
  refine aj_iadd 172 (dx d_Law_law_1 6 rfl) rfl ?_
  refine aj_sld 173 (dx d_Law_law_1 7 rfl) rfl hX (by omega) (by omega) ?_
  refine aj_callW (bc1 := 1) (bc2 := bc - 1) (bs1 := 6) (bs2 := bs - 6) [(1, 0), (0, xs ((i : Int) + 1)), (0, xs ((i : Int) + 2)), (0, xs ((i : Int) + 3)), (0, xs ((i : Int) + 4))] 176 wl_Law_65 (dx d_Law_law_1 8 rfl) rfl rfl rfl (by omega) (by omega) rfl rfl (L_edge hc id (hxs _) (hxs _) (hxs _) (hxs _) (fun hok hz g1 hF hc1 => ?_) (fun hbad => ?_) (fun hok hz => ?_))
  · change aj_wp _ _ _ _ _ _ _ _ _ _ _ _ _ _
    have hm1 := mI_fr hm (fun r' h1 _ => hF r' h1)
    refine aj_istore 5 178 (dx d_Law_law_1 9 rfl) rfl rfl ?_
    simp only [List.set]
    refine aj_aload_n 2 179 (dx d_Law_law_1 10 rfl) rfl rfl rfl ?_
    refine aj_aload_n 0 180 (dx d_Law_law_1 11 rfl) rfl rfl rfl ?_
    refine aj_iload 4 182 (dx d_Law_law_1 12 rfl) rfl rfl ?_
    refine aj_iconst 183 (dx d_Law_law_1 13 rfl) rfl ?_
    refine aj_iadd 184 (dx d_Law_law_1 14 rfl) rfl ?_
    refine aj_sld 185 (dx d_Law_law_1 15 rfl) rfl hX (by omega) (by omega) ?_
    refine aj_aload_n 0 186 (dx d_Law_law_1 16 rfl) rfl rfl rfl ?_
    refine aj_iload 4 188 (dx d_Law_law_1 17 rfl) rfl rfl ?_
    refine aj_iconst 189 (dx d_Law_law_1 18 rfl) rfl ?_
    refine aj_iadd 190 (dx d_Law_law_1 19 rfl) rfl ?_
    refine aj_sld 191 (dx d_Law_law_1 20 rfl) rfl hX (by omega) (by omega) ?_
    refine aj_aload_n 0 192 (dx d_Law_law_1 21 rfl) rfl rfl rfl ?_
    refine aj_iload 4 194 (dx d_Law_law_1 22 rfl) rfl rfl ?_
    refine aj_iconst 195 (dx d_Law_law_1 23 rfl) rfl ?_
    refine aj_iadd 196 (dx d_Law_law_1 24 rfl) rfl ?_
    refine aj_sld 197 (dx d_Law_law_1 25 rfl) rfl hX (by omega) (by omega) ?_
    refine aj_aload_n 0 198 (dx d_Law_law_1 26 rfl) rfl rfl rfl ?_
    refine aj_iload 4 200 (dx d_Law_law_1 27 rfl) rfl rfl ?_
    refine aj_iconst 201 (dx d_Law_law_1 28 rfl) rfl ?_
    refine aj_iadd 202 (dx d_Law_law_1 29 rfl) rfl ?_
    refine aj_sld 203 (dx d_Law_law_1 30 rfl) rfl hX (by omega) (by omega) ?_
    refine aj_callV4 (bc1 := 0) (bc2 := bc - 1) (bs1 := 0) (bs2 := bs - 6) 206 cl_Law_68 (dx d_Law_law_1 31 rfl) rfl rfl rfl rfl rfl rfl rfl (M_edge hm1 (hxs _) (hxs _) (hxs _) (hxs _) (fun h => absurd hok h) (fun h h2 => absurd h2 (by omega)) (fun h h2 g2 hF2 h0 hm2 => ?_))
    change aj_wp _ _ _ _ _ _ _ _ _ _ _ _ _ _
    refine aj_aload_n 2 207 (dx d_Law_law_1 32 rfl) rfl rfl rfl ?_
    refine aj_callV0 (bc1 := 0) (bc2 := bc - 1) (bs1 := 0) (bs2 := bs - 6) 210 cl_Law_69 (dx d_Law_law_1 33 rfl) rfl rfl rfl rfl rfl rfl rfl (k_Model_thrown rfl ?_)
    change aj_wp _ _ _ _ _ _ _ _ _ _ _ _ _ _
    rw [h0]
    refine aj_iload 5 212 (dx d_Law_law_1 34 rfl) rfl rfl ?_
    refine aj_icmp_same 217 (dx d_Law_law_1 35 rfl) rfl ?_
    refine aj_goto 984 (dx d_Law_law_1 38 rfl) rfl ?_
    exact hnx (cI_of hc1 (fun r' h => hF2 r' (by omega))) hm2 (by omega) (by omega)
  · change aj_wp _ _ _ _ _ _ _ _ _ _ _ _ _ _
    refine aj_istore 5 178 (dx d_Law_law_1 9 rfl) rfl rfl ?_
    simp only [List.set]
    refine aj_aload_n 2 179 (dx d_Law_law_1 10 rfl) rfl rfl rfl ?_
    refine aj_aload_n 0 180 (dx d_Law_law_1 11 rfl) rfl rfl rfl ?_
    refine aj_iload 4 182 (dx d_Law_law_1 12 rfl) rfl rfl ?_
    refine aj_iconst 183 (dx d_Law_law_1 13 rfl) rfl ?_
    refine aj_iadd 184 (dx d_Law_law_1 14 rfl) rfl ?_
    refine aj_sld 185 (dx d_Law_law_1 15 rfl) rfl hX (by omega) (by omega) ?_
    refine aj_aload_n 0 186 (dx d_Law_law_1 16 rfl) rfl rfl rfl ?_
    refine aj_iload 4 188 (dx d_Law_law_1 17 rfl) rfl rfl ?_
    refine aj_iconst 189 (dx d_Law_law_1 18 rfl) rfl ?_
    refine aj_iadd 190 (dx d_Law_law_1 19 rfl) rfl ?_
    refine aj_sld 191 (dx d_Law_law_1 20 rfl) rfl hX (by omega) (by omega) ?_
    refine aj_aload_n 0 192 (dx d_Law_law_1 21 rfl) rfl rfl rfl ?_
    refine aj_iload 4 194 (dx d_Law_law_1 22 rfl) rfl rfl ?_
    refine aj_iconst 195 (dx d_Law_law_1 23 rfl) rfl ?_
    refine aj_iadd 196 (dx d_Law_law_1 24 rfl) rfl ?_
    refine aj_sld 197 (dx d_Law_law_1 25 rfl) rfl hX (by omega) (by omega) ?_
    refine aj_aload_n 0 198 (dx d_Law_law_1 26 rfl) rfl rfl rfl ?_
    refine aj_iload 4 200 (dx d_Law_law_1 27 rfl) rfl rfl ?_
    refine aj_iconst 201 (dx d_Law_law_1 28 rfl) rfl ?_
    refine aj_iadd 202 (dx d_Law_law_1 29 rfl) rfl ?_
    refine aj_sld 203 (dx d_Law_law_1 30 rfl) rfl hX (by omega) (by omega) ?_
    refine aj_callV4 (bc1 := 0) (bc2 := bc - 1) (bs1 := 0) (bs2 := bs - 6) 206 cl_Law_68 (dx d_Law_law_1 31 rfl) rfl rfl rfl rfl rfl rfl rfl (M_edge hm (hxs _) (hxs _) (hxs _) (hxs _) (fun h g2 hF2 h0 hm2 => ?_) (fun h => absurd h hbad) (fun h => absurd h hbad))
    change aj_wp _ _ _ _ _ _ _ _ _ _ _ _ _ _
    refine aj_aload_n 2 207 (dx d_Law_law_1 32 rfl) rfl rfl rfl ?_
    refine aj_callV0 (bc1 := 0) (bc2 := bc - 1) (bs1 := 0) (bs2 := bs - 6) 210 cl_Law_69 (dx d_Law_law_1 33 rfl) rfl rfl rfl rfl rfl rfl rfl (k_Model_thrown rfl ?_)
    change aj_wp _ _ _ _ _ _ _ _ _ _ _ _ _ _
    rw [h0]
    refine aj_iload 5 212 (dx d_Law_law_1 34 rfl) rfl rfl ?_
    refine aj_icmp_same 217 (dx d_Law_law_1 35 rfl) rfl ?_
    refine aj_goto 984 (dx d_Law_law_1 38 rfl) rfl ?_
    exact hnx (cI_of hc (fun r' h => hF2 r' (by omega))) hm2 (by omega) (by omega)
  · change aj_wp _ _ _ _ _ _ _ _ _ _ _ _ _ _
    refine aj_istore 5 178 (dx d_Law_law_1 9 rfl) rfl rfl ?_
    simp only [List.set]
    refine aj_aload_n 2 179 (dx d_Law_law_1 10 rfl) rfl rfl rfl ?_
    refine aj_aload_n 0 180 (dx d_Law_law_1 11 rfl) rfl rfl rfl ?_
    refine aj_iload 4 182 (dx d_Law_law_1 12 rfl) rfl rfl ?_
    refine aj_iconst 183 (dx d_Law_law_1 13 rfl) rfl ?_
    refine aj_iadd 184 (dx d_Law_law_1 14 rfl) rfl ?_
    refine aj_sld 185 (dx d_Law_law_1 15 rfl) rfl hX (by omega) (by omega) ?_
    refine aj_aload_n 0 186 (dx d_Law_law_1 16 rfl) rfl rfl rfl ?_
    refine aj_iload 4 188 (dx d_Law_law_1 17 rfl) rfl rfl ?_
    refine aj_iconst 189 (dx d_Law_law_1 18 rfl) rfl ?_
    refine aj_iadd 190 (dx d_Law_law_1 19 rfl) rfl ?_
    refine aj_sld 191 (dx d_Law_law_1 20 rfl) rfl hX (by omega) (by omega) ?_
    refine aj_aload_n 0 192 (dx d_Law_law_1 21 rfl) rfl rfl rfl ?_
    refine aj_iload 4 194 (dx d_Law_law_1 22 rfl) rfl rfl ?_
    refine aj_iconst 195 (dx d_Law_law_1 23 rfl) rfl ?_
    refine aj_iadd 196 (dx d_Law_law_1 24 rfl) rfl ?_
    refine aj_sld 197 (dx d_Law_law_1 25 rfl) rfl hX (by omega) (by omega) ?_
    refine aj_aload_n 0 198 (dx d_Law_law_1 26 rfl) rfl rfl rfl ?_
    refine aj_iload 4 200 (dx d_Law_law_1 27 rfl) rfl rfl ?_
    refine aj_iconst 201 (dx d_Law_law_1 28 rfl) rfl ?_
    refine aj_iadd 202 (dx d_Law_law_1 29 rfl) rfl ?_
    refine aj_sld 203 (dx d_Law_law_1 30 rfl) rfl hX (by omega) (by omega) ?_
    refine aj_callV4 (bc1 := 0) (bc2 := bc - 1) (bs1 := 0) (bs2 := bs - 6) 206 cl_Law_68 (dx d_Law_law_1 31 rfl) rfl rfl rfl rfl rfl rfl rfl (M_edge hm (hxs _) (hxs _) (hxs _) (hxs _) (fun h => absurd hok h) (fun h h2 g2 hF2 h0 hm2 => ?_) (fun h h2 => absurd h2 (by omega)))
    change aj_wp _ _ _ _ _ _ _ _ _ _ _ _ _ _
    refine aj_aload_n 2 207 (dx d_Law_law_1 32 rfl) rfl rfl rfl ?_
    refine aj_callV0 (bc1 := 0) (bc2 := bc - 1) (bs1 := 0) (bs2 := bs - 6) 210 cl_Law_69 (dx d_Law_law_1 33 rfl) rfl rfl rfl rfl rfl rfl rfl (k_Model_thrown rfl ?_)
    change aj_wp _ _ _ _ _ _ _ _ _ _ _ _ _ _
    rw [h0]
    refine aj_iload 5 212 (dx d_Law_law_1 34 rfl) rfl rfl ?_
    refine aj_icmp_same 217 (dx d_Law_law_1 35 rfl) rfl ?_
    refine aj_goto 984 (dx d_Law_law_1 38 rfl) rfl ?_
    exact hnx (cI_of hc (fun r' h => hF2 r' (by omega))) hm2 (by omega) (by omega)
set_option maxHeartbeats 8000000 in
theorem O_start {X : Option (Nat × (Int → Int))} {L i d k n bc bs : Nat} {xs : Int → Int} {g : aj_G} {Q : aj_R → List aj_S → aj_G → Prop} {r r2 : Int} {s0 : Nat} {nx ou : Nat → Nat → Nat} {z : Int} {tw : Nat → Nat} {N : Nat} {q : nb_T} {mnx mou : Nat → Nat → Nat} {mi : Nat} {ix io : Nat → Nat → Nat} {w : List Nat} {v : Int} {S : List Nat → Prop} {fp hd hp : Int} {o5 o6 : Option aj_A} (hX : X = some (L, xs)) (hxs : ∀ j, aj_I (xs j)) (hi : i + 4 < L) (hb : 1 ≤ bc ∧ 6 ≤ bs) (hc : cI (shL k) g r r2 k n s0 nx ou z tw N q mnx mou mi ix io w v S fp hd hp) (hm : mI (shL k) g k n s0 nx ou z tw N q mnx mou mi ix io w v S fp hd hp) (hnx : ∀ {g1 : aj_G} {r r2 : Int} {s0 : Nat} {nx ou : Nat → Nat → Nat} {z : Int} {tw : Nat → Nat} {N : Nat} {q : nb_T} {mnx mou : Nat → Nat → Nat} {mi : Nat} {ix io : Nat → Nat → Nat} {w : List Nat} {v : Int} {S : List Nat → Prop} {fp hd hp : Int} {bc1 bs1 : Nat} {o5 o6 : Option aj_A}, cI (shL k) g1 r r2 k n s0 nx ou z tw N q mnx mou mi ix io w v S fp hd hp → mI (shL k) g1 k n s0 nx ou z tw N q mnx mou mi ix io w v S fp hd hp → bc ≤ bc1 + 1 → bs ≤ bs1 + 6 → aj_wp nE False False X m_Law_law (d + 8) bc1 bs1 984 [some (1, 1000000), some (1, 0), some (1, 78), some (1, 100), some (0, (i : Int)), o5, o6] [] (shL k) g1 Q) : aj_wp nE False False X m_Law_law (d + 8) bc bs 220 [some (1, 1000000), some (1, 0), some (1, 78), some (1, 100), some (0, (i : Int)), o5, o6] [] (shL k) g Q := by
  have hk3 := hc.2.2.1.2.2.2
  refine aj_aload_n 1 221 (dx d_Law_law_1 39 rfl) rfl rfl rfl ?_
  refine aj_aload_n 0 222 (dx d_Law_law_1 40 rfl) rfl rfl rfl ?_
  refine aj_iload 4 224 (dx d_Law_law_1 41 rfl) rfl rfl ?_
  refine aj_iconst 225 (dx d_Law_law_1 42 rfl) rfl ?_
  refine aj_iadd 226 (dx d_Law_law_1 43 rfl) rfl ?_
  refine aj_sld 227 (dx d_Law_law_1 44 rfl) rfl hX (by omega) (by omega) ?_
  refine aj_callW (bc1 := 1) (bc2 := bc - 1) (bs1 := 6) (bs2 := bs - 6) [(1, 0), (0, xs ((i : Int) + 1))] 230 wl_Law_72 (dx d_Law_law_1 45 rfl) rfl rfl rfl (by omega) (by omega) rfl rfl (L_start hc id (hxs _) (fun hok hz g1 hF hc1 => ?_) (fun hbad => ?_) (fun hok hz => ?_))
  · change aj_wp _ _ _ _ _ _ _ _ _ _ _ _ _ _
    have hm1 := mI_fr hm (fun r' h1 _ => hF r' h1)
    refine aj_istore 5 232 (dx d_Law_law_1 46 rfl) rfl rfl ?_
    simp only [List.set]
    refine aj_aload_n 2 233 (dx d_Law_law_1 47 rfl) rfl rfl rfl ?_
    refine aj_aload_n 0 234 (dx d_Law_law_1 48 rfl) rfl rfl rfl ?_
    refine aj_iload 4 236 (dx d_Law_law_1 49 rfl) rfl rfl ?_
    refine aj_iconst 237 (dx d_Law_law_2 0 rfl) rfl ?_
    refine aj_iadd 238 (dx d_Law_law_2 1 rfl) rfl ?_
    refine aj_sld 239 (dx d_Law_law_2 2 rfl) rfl hX (by omega) (by omega) ?_
    refine aj_callV1 (bc1 := 0) (bc2 := bc - 1) (bs1 := 0) (bs2 := bs - 6) 242 cl_Law_75 (dx d_Law_law_2 3 rfl) rfl rfl rfl rfl rfl rfl rfl (M_start hm1 (hxs _) (fun h => absurd hok h) (fun h h2 => absurd h2 (by omega)) (fun h h2 g2 hF2 h0 hm2 => ?_))
    change aj_wp _ _ _ _ _ _ _ _ _ _ _ _ _ _
    refine aj_aload_n 2 243 (dx d_Law_law_2 4 rfl) rfl rfl rfl ?_
    refine aj_callV0 (bc1 := 0) (bc2 := bc - 1) (bs1 := 0) (bs2 := bs - 6) 246 cl_Law_69 (dx d_Law_law_2 5 rfl) rfl rfl rfl rfl rfl rfl rfl (k_Model_thrown rfl ?_)
    change aj_wp _ _ _ _ _ _ _ _ _ _ _ _ _ _
    rw [h0]
    refine aj_iload 5 248 (dx d_Law_law_2 6 rfl) rfl rfl ?_
    refine aj_icmp_same 253 (dx d_Law_law_2 7 rfl) rfl ?_
    refine aj_goto 984 (dx d_Law_law_2 10 rfl) rfl ?_
    exact hnx (cI_of hc1 (fun r' h => hF2 r' (by omega))) hm2 (by omega) (by omega)
  · change aj_wp _ _ _ _ _ _ _ _ _ _ _ _ _ _
    refine aj_istore 5 232 (dx d_Law_law_1 46 rfl) rfl rfl ?_
    simp only [List.set]
    refine aj_aload_n 2 233 (dx d_Law_law_1 47 rfl) rfl rfl rfl ?_
    refine aj_aload_n 0 234 (dx d_Law_law_1 48 rfl) rfl rfl rfl ?_
    refine aj_iload 4 236 (dx d_Law_law_1 49 rfl) rfl rfl ?_
    refine aj_iconst 237 (dx d_Law_law_2 0 rfl) rfl ?_
    refine aj_iadd 238 (dx d_Law_law_2 1 rfl) rfl ?_
    refine aj_sld 239 (dx d_Law_law_2 2 rfl) rfl hX (by omega) (by omega) ?_
    refine aj_callV1 (bc1 := 0) (bc2 := bc - 1) (bs1 := 0) (bs2 := bs - 6) 242 cl_Law_75 (dx d_Law_law_2 3 rfl) rfl rfl rfl rfl rfl rfl rfl (M_start hm (hxs _) (fun h g2 hF2 h0 hm2 => ?_) (fun h => absurd h hbad) (fun h => absurd h hbad))
    change aj_wp _ _ _ _ _ _ _ _ _ _ _ _ _ _
    refine aj_aload_n 2 243 (dx d_Law_law_2 4 rfl) rfl rfl rfl ?_
    refine aj_callV0 (bc1 := 0) (bc2 := bc - 1) (bs1 := 0) (bs2 := bs - 6) 246 cl_Law_69 (dx d_Law_law_2 5 rfl) rfl rfl rfl rfl rfl rfl rfl (k_Model_thrown rfl ?_)
    change aj_wp _ _ _ _ _ _ _ _ _ _ _ _ _ _
    rw [h0]
    refine aj_iload 5 248 (dx d_Law_law_2 6 rfl) rfl rfl ?_
    refine aj_icmp_same 253 (dx d_Law_law_2 7 rfl) rfl ?_
    refine aj_goto 984 (dx d_Law_law_2 10 rfl) rfl ?_
    exact hnx (cI_of hc (fun r' h => hF2 r' (by omega))) hm2 (by omega) (by omega)
  · change aj_wp _ _ _ _ _ _ _ _ _ _ _ _ _ _
    refine aj_istore 5 232 (dx d_Law_law_1 46 rfl) rfl rfl ?_
    simp only [List.set]
    refine aj_aload_n 2 233 (dx d_Law_law_1 47 rfl) rfl rfl rfl ?_
    refine aj_aload_n 0 234 (dx d_Law_law_1 48 rfl) rfl rfl rfl ?_
    refine aj_iload 4 236 (dx d_Law_law_1 49 rfl) rfl rfl ?_
    refine aj_iconst 237 (dx d_Law_law_2 0 rfl) rfl ?_
    refine aj_iadd 238 (dx d_Law_law_2 1 rfl) rfl ?_
    refine aj_sld 239 (dx d_Law_law_2 2 rfl) rfl hX (by omega) (by omega) ?_
    refine aj_callV1 (bc1 := 0) (bc2 := bc - 1) (bs1 := 0) (bs2 := bs - 6) 242 cl_Law_75 (dx d_Law_law_2 3 rfl) rfl rfl rfl rfl rfl rfl rfl (M_start hm (hxs _) (fun h => absurd hok h) (fun h h2 g2 hF2 h0 hm2 => ?_) (fun h h2 => absurd h2 (by omega)))
    change aj_wp _ _ _ _ _ _ _ _ _ _ _ _ _ _
    refine aj_aload_n 2 243 (dx d_Law_law_2 4 rfl) rfl rfl rfl ?_
    refine aj_callV0 (bc1 := 0) (bc2 := bc - 1) (bs1 := 0) (bs2 := bs - 6) 246 cl_Law_69 (dx d_Law_law_2 5 rfl) rfl rfl rfl rfl rfl rfl rfl (k_Model_thrown rfl ?_)
    change aj_wp _ _ _ _ _ _ _ _ _ _ _ _ _ _
    rw [h0]
    refine aj_iload 5 248 (dx d_Law_law_2 6 rfl) rfl rfl ?_
    refine aj_icmp_same 253 (dx d_Law_law_2 7 rfl) rfl ?_
    refine aj_goto 984 (dx d_Law_law_2 10 rfl) rfl ?_
    exact hnx (cI_of hc (fun r' h => hF2 r' (by omega))) hm2 (by omega) (by omega)
set_option maxHeartbeats 8000000 in
theorem O_resize {X : Option (Nat × (Int → Int))} {L i d k n bc bs : Nat} {xs : Int → Int} {g : aj_G} {Q : aj_R → List aj_S → aj_G → Prop} {r r2 : Int} {s0 : Nat} {nx ou : Nat → Nat → Nat} {z : Int} {tw : Nat → Nat} {N : Nat} {q : nb_T} {mnx mou : Nat → Nat → Nat} {mi : Nat} {ix io : Nat → Nat → Nat} {w : List Nat} {v : Int} {S : List Nat → Prop} {fp hd hp : Int} {o5 o6 : Option aj_A} (hX : X = some (L, xs)) (hxs : ∀ j, aj_I (xs j)) (hi : i + 4 < L) (hb : 1 ≤ bc ∧ 6 ≤ bs) (hc : cI (shL k) g r r2 k n s0 nx ou z tw N q mnx mou mi ix io w v S fp hd hp) (hm : mI (shL k) g k n s0 nx ou z tw N q mnx mou mi ix io w v S fp hd hp) (hnx : ∀ {g1 : aj_G} {r r2 : Int} {s0 : Nat} {nx ou : Nat → Nat → Nat} {z : Int} {tw : Nat → Nat} {N : Nat} {q : nb_T} {mnx mou : Nat → Nat → Nat} {mi : Nat} {ix io : Nat → Nat → Nat} {w : List Nat} {v : Int} {S : List Nat → Prop} {fp hd hp : Int} {bc1 bs1 : Nat} {o5 o6 : Option aj_A}, cI (shL k) g1 r r2 k n s0 nx ou z tw N q mnx mou mi ix io w v S fp hd hp → mI (shL k) g1 k n s0 nx ou z tw N q mnx mou mi ix io w v S fp hd hp → bc ≤ bc1 + 1 → bs ≤ bs1 + 6 → aj_wp nE False False X m_Law_law (d + 8) bc1 bs1 984 [some (1, 1000000), some (1, 0), some (1, 78), some (1, 100), some (0, (i : Int)), o5, o6] [] (shL k) g1 Q) : aj_wp nE False False X m_Law_law (d + 8) bc bs 625 [some (1, 1000000), some (1, 0), some (1, 78), some (1, 100), some (0, (i : Int)), o5, o6] [] (shL k) g Q := by
  have hk3 := hc.2.2.1.2.2.2
  refine aj_aload_n 1 626 (dx d_Law_law_7 9 rfl) rfl rfl rfl ?_
  refine aj_aload_n 0 627 (dx d_Law_law_7 10 rfl) rfl rfl rfl ?_
  refine aj_iload 4 629 (dx d_Law_law_7 11 rfl) rfl rfl ?_
  refine aj_iconst 630 (dx d_Law_law_7 12 rfl) rfl ?_
  refine aj_iadd 631 (dx d_Law_law_7 13 rfl) rfl ?_
  refine aj_sld 632 (dx d_Law_law_7 14 rfl) rfl hX (by omega) (by omega) ?_
  refine aj_callW (bc1 := 1) (bc2 := bc - 1) (bs1 := 6) (bs2 := bs - 6) [(1, 0), (0, xs ((i : Int) + 1))] 635 wl_Law_108 (dx d_Law_law_7 15 rfl) rfl rfl rfl (by omega) (by omega) rfl rfl (L_resize hc id (hxs _) (fun hok hz g1 hF hc1 => ?_) (fun hbad => ?_) (fun hok hz => ?_))
  · change aj_wp _ _ _ _ _ _ _ _ _ _ _ _ _ _
    have hm1 := mI_fr hm (fun r' h1 _ => hF r' h1)
    refine aj_istore 5 637 (dx d_Law_law_7 16 rfl) rfl rfl ?_
    simp only [List.set]
    refine aj_aload_n 2 638 (dx d_Law_law_7 17 rfl) rfl rfl rfl ?_
    refine aj_aload_n 0 639 (dx d_Law_law_7 18 rfl) rfl rfl rfl ?_
    refine aj_iload 4 641 (dx d_Law_law_7 19 rfl) rfl rfl ?_
    refine aj_iconst 642 (dx d_Law_law_7 20 rfl) rfl ?_
    refine aj_iadd 643 (dx d_Law_law_7 21 rfl) rfl ?_
    refine aj_sld 644 (dx d_Law_law_7 22 rfl) rfl hX (by omega) (by omega) ?_
    refine aj_callV1 (bc1 := 0) (bc2 := bc - 1) (bs1 := 0) (bs2 := bs - 6) 647 cl_Law_110 (dx d_Law_law_7 23 rfl) rfl rfl rfl rfl rfl rfl rfl (M_resize hm1 (hxs _) (fun h => absurd hok h) (fun h h2 => absurd h2 (by omega)) (fun h h2 g2 hF2 h0 hm2 => ?_))
    change aj_wp _ _ _ _ _ _ _ _ _ _ _ _ _ _
    refine aj_aload_n 2 648 (dx d_Law_law_7 24 rfl) rfl rfl rfl ?_
    refine aj_callV0 (bc1 := 0) (bc2 := bc - 1) (bs1 := 0) (bs2 := bs - 6) 651 cl_Law_69 (dx d_Law_law_7 25 rfl) rfl rfl rfl rfl rfl rfl rfl (k_Model_thrown rfl ?_)
    change aj_wp _ _ _ _ _ _ _ _ _ _ _ _ _ _
    rw [h0]
    refine aj_iload 5 653 (dx d_Law_law_7 26 rfl) rfl rfl ?_
    refine aj_icmp_same 658 (dx d_Law_law_7 27 rfl) rfl ?_
    refine aj_goto 984 (dx d_Law_law_7 30 rfl) rfl ?_
    exact hnx (cI_of hc1 (fun r' h => hF2 r' (by omega))) hm2 (by omega) (by omega)
  · change aj_wp _ _ _ _ _ _ _ _ _ _ _ _ _ _
    refine aj_istore 5 637 (dx d_Law_law_7 16 rfl) rfl rfl ?_
    simp only [List.set]
    refine aj_aload_n 2 638 (dx d_Law_law_7 17 rfl) rfl rfl rfl ?_
    refine aj_aload_n 0 639 (dx d_Law_law_7 18 rfl) rfl rfl rfl ?_
    refine aj_iload 4 641 (dx d_Law_law_7 19 rfl) rfl rfl ?_
    refine aj_iconst 642 (dx d_Law_law_7 20 rfl) rfl ?_
    refine aj_iadd 643 (dx d_Law_law_7 21 rfl) rfl ?_
    refine aj_sld 644 (dx d_Law_law_7 22 rfl) rfl hX (by omega) (by omega) ?_
    refine aj_callV1 (bc1 := 0) (bc2 := bc - 1) (bs1 := 0) (bs2 := bs - 6) 647 cl_Law_110 (dx d_Law_law_7 23 rfl) rfl rfl rfl rfl rfl rfl rfl (M_resize hm (hxs _) (fun h g2 hF2 h0 hm2 => ?_) (fun h => absurd h hbad) (fun h => absurd h hbad))
    change aj_wp _ _ _ _ _ _ _ _ _ _ _ _ _ _
    refine aj_aload_n 2 648 (dx d_Law_law_7 24 rfl) rfl rfl rfl ?_
    refine aj_callV0 (bc1 := 0) (bc2 := bc - 1) (bs1 := 0) (bs2 := bs - 6) 651 cl_Law_69 (dx d_Law_law_7 25 rfl) rfl rfl rfl rfl rfl rfl rfl (k_Model_thrown rfl ?_)
    change aj_wp _ _ _ _ _ _ _ _ _ _ _ _ _ _
    rw [h0]
    refine aj_iload 5 653 (dx d_Law_law_7 26 rfl) rfl rfl ?_
    refine aj_icmp_same 658 (dx d_Law_law_7 27 rfl) rfl ?_
    refine aj_goto 984 (dx d_Law_law_7 30 rfl) rfl ?_
    exact hnx (cI_of hc (fun r' h => hF2 r' (by omega))) hm2 (by omega) (by omega)
  · change aj_wp _ _ _ _ _ _ _ _ _ _ _ _ _ _
    refine aj_istore 5 637 (dx d_Law_law_7 16 rfl) rfl rfl ?_
    simp only [List.set]
    refine aj_aload_n 2 638 (dx d_Law_law_7 17 rfl) rfl rfl rfl ?_
    refine aj_aload_n 0 639 (dx d_Law_law_7 18 rfl) rfl rfl rfl ?_
    refine aj_iload 4 641 (dx d_Law_law_7 19 rfl) rfl rfl ?_
    refine aj_iconst 642 (dx d_Law_law_7 20 rfl) rfl ?_
    refine aj_iadd 643 (dx d_Law_law_7 21 rfl) rfl ?_
    refine aj_sld 644 (dx d_Law_law_7 22 rfl) rfl hX (by omega) (by omega) ?_
    refine aj_callV1 (bc1 := 0) (bc2 := bc - 1) (bs1 := 0) (bs2 := bs - 6) 647 cl_Law_110 (dx d_Law_law_7 23 rfl) rfl rfl rfl rfl rfl rfl rfl (M_resize hm (hxs _) (fun h => absurd hok h) (fun h h2 g2 hF2 h0 hm2 => ?_) (fun h h2 => absurd h2 (by omega)))
    change aj_wp _ _ _ _ _ _ _ _ _ _ _ _ _ _
    refine aj_aload_n 2 648 (dx d_Law_law_7 24 rfl) rfl rfl rfl ?_
    refine aj_callV0 (bc1 := 0) (bc2 := bc - 1) (bs1 := 0) (bs2 := bs - 6) 651 cl_Law_69 (dx d_Law_law_7 25 rfl) rfl rfl rfl rfl rfl rfl rfl (k_Model_thrown rfl ?_)
    change aj_wp _ _ _ _ _ _ _ _ _ _ _ _ _ _
    rw [h0]
    refine aj_iload 5 653 (dx d_Law_law_7 26 rfl) rfl rfl ?_
    refine aj_icmp_same 658 (dx d_Law_law_7 27 rfl) rfl ?_
    refine aj_goto 984 (dx d_Law_law_7 30 rfl) rfl ?_
    exact hnx (cI_of hc (fun r' h => hF2 r' (by omega))) hm2 (by omega) (by omega)
set_option maxHeartbeats 8000000 in
theorem O_change {X : Option (Nat × (Int → Int))} {L i d k n bc bs : Nat} {xs : Int → Int} {g : aj_G} {Q : aj_R → List aj_S → aj_G → Prop} {r r2 : Int} {s0 : Nat} {nx ou : Nat → Nat → Nat} {z : Int} {tw : Nat → Nat} {N : Nat} {q : nb_T} {mnx mou : Nat → Nat → Nat} {mi : Nat} {ix io : Nat → Nat → Nat} {w : List Nat} {v : Int} {S : List Nat → Prop} {fp hd hp : Int} {o5 o6 : Option aj_A} (hX : X = some (L, xs)) (hxs : ∀ j, aj_I (xs j)) (hi : i + 4 < L) (hb : 1 ≤ bc ∧ 6 ≤ bs) (hc : cI (shL k) g r r2 k n s0 nx ou z tw N q mnx mou mi ix io w v S fp hd hp) (hm : mI (shL k) g k n s0 nx ou z tw N q mnx mou mi ix io w v S fp hd hp) (hnx : ∀ {g1 : aj_G} {r r2 : Int} {s0 : Nat} {nx ou : Nat → Nat → Nat} {z : Int} {tw : Nat → Nat} {N : Nat} {q : nb_T} {mnx mou : Nat → Nat → Nat} {mi : Nat} {ix io : Nat → Nat → Nat} {w : List Nat} {v : Int} {S : List Nat → Prop} {fp hd hp : Int} {bc1 bs1 : Nat} {o5 o6 : Option aj_A}, cI (shL k) g1 r r2 k n s0 nx ou z tw N q mnx mou mi ix io w v S fp hd hp → mI (shL k) g1 k n s0 nx ou z tw N q mnx mou mi ix io w v S fp hd hp → bc ≤ bc1 + 1 → bs ≤ bs1 + 6 → aj_wp nE False False X m_Law_law (d + 8) bc1 bs1 984 [some (1, 1000000), some (1, 0), some (1, 78), some (1, 100), some (0, (i : Int)), o5, o6] [] (shL k) g1 Q) : aj_wp nE False False X m_Law_law (d + 8) bc bs 661 [some (1, 1000000), some (1, 0), some (1, 78), some (1, 100), some (0, (i : Int)), o5, o6] [] (shL k) g Q := by
  have hk3 := hc.2.2.1.2.2.2
  refine aj_aload_n 1 662 (dx d_Law_law_7 31 rfl) rfl rfl rfl ?_
  refine aj_aload_n 0 663 (dx d_Law_law_7 32 rfl) rfl rfl rfl ?_
  refine aj_iload 4 665 (dx d_Law_law_7 33 rfl) rfl rfl ?_
  refine aj_iconst 666 (dx d_Law_law_7 34 rfl) rfl ?_
  refine aj_iadd 667 (dx d_Law_law_7 35 rfl) rfl ?_
  refine aj_sld 668 (dx d_Law_law_7 36 rfl) rfl hX (by omega) (by omega) ?_
  refine aj_aload_n 0 669 (dx d_Law_law_7 37 rfl) rfl rfl rfl ?_
  refine aj_iload 4 671 (dx d_Law_law_7 38 rfl) rfl rfl ?_
  refine aj_iconst 672 (dx d_Law_law_7 39 rfl) rfl ?_
  refine aj_iadd 673 (dx d_Law_law_7 40 rfl) rfl ?_
  refine aj_sld 674 (dx d_Law_law_7 41 rfl) rfl hX (by omega) (by omega) ?_
  refine aj_aload_n 0 675 (dx d_Law_law_7 42 rfl) rfl rfl rfl ?_
  refine aj_iload 4 677 (dx d_Law_law_7 43 rfl) rfl rfl ?_
  refine aj_iconst 678 (dx d_Law_law_7 44 rfl) rfl ?_
  refine aj_iadd 679 (dx d_Law_law_7 45 rfl) rfl ?_
  refine aj_sld 680 (dx d_Law_law_7 46 rfl) rfl hX (by omega) (by omega) ?_
  refine aj_aload_n 0 681 (dx d_Law_law_7 47 rfl) rfl rfl rfl ?_
  refine aj_iload 4 683 (dx d_Law_law_7 48 rfl) rfl rfl ?_
  refine aj_iconst 684 (dx d_Law_law_7 49 rfl) rfl ?_
  refine aj_iadd 685 (dx d_Law_law_8 0 rfl) rfl ?_
  refine aj_sld 686 (dx d_Law_law_8 1 rfl) rfl hX (by omega) (by omega) ?_
  refine aj_callW (bc1 := 1) (bc2 := bc - 1) (bs1 := 6) (bs2 := bs - 6) [(1, 0), (0, xs ((i : Int) + 1)), (0, xs ((i : Int) + 2)), (0, xs ((i : Int) + 3)), (0, xs ((i : Int) + 4))] 689 wl_Law_111 (dx d_Law_law_8 2 rfl) rfl rfl rfl (by omega) (by omega) rfl rfl (L_change hc id (hxs _) (hxs _) (hxs _) (hxs _) (fun hok hz g1 hF hc1 => ?_) (fun hz => ?_) (fun hz hbad => ?_))
  · change aj_wp _ _ _ _ _ _ _ _ _ _ _ _ _ _
    have hm1 := mI_fr hm (fun r' h1 _ => hF r' h1)
    refine aj_istore 5 691 (dx d_Law_law_8 3 rfl) rfl rfl ?_
    simp only [List.set]
    refine aj_aload_n 2 692 (dx d_Law_law_8 4 rfl) rfl rfl rfl ?_
    refine aj_aload_n 0 693 (dx d_Law_law_8 5 rfl) rfl rfl rfl ?_
    refine aj_iload 4 695 (dx d_Law_law_8 6 rfl) rfl rfl ?_
    refine aj_iconst 696 (dx d_Law_law_8 7 rfl) rfl ?_
    refine aj_iadd 697 (dx d_Law_law_8 8 rfl) rfl ?_
    refine aj_sld 698 (dx d_Law_law_8 9 rfl) rfl hX (by omega) (by omega) ?_
    refine aj_aload_n 0 699 (dx d_Law_law_8 10 rfl) rfl rfl rfl ?_
    refine aj_iload 4 701 (dx d_Law_law_8 11 rfl) rfl rfl ?_
    refine aj_iconst 702 (dx d_Law_law_8 12 rfl) rfl ?_
    refine aj_iadd 703 (dx d_Law_law_8 13 rfl) rfl ?_
    refine aj_sld 704 (dx d_Law_law_8 14 rfl) rfl hX (by omega) (by omega) ?_
    refine aj_aload_n 0 705 (dx d_Law_law_8 15 rfl) rfl rfl rfl ?_
    refine aj_iload 4 707 (dx d_Law_law_8 16 rfl) rfl rfl ?_
    refine aj_iconst 708 (dx d_Law_law_8 17 rfl) rfl ?_
    refine aj_iadd 709 (dx d_Law_law_8 18 rfl) rfl ?_
    refine aj_sld 710 (dx d_Law_law_8 19 rfl) rfl hX (by omega) (by omega) ?_
    refine aj_aload_n 0 711 (dx d_Law_law_8 20 rfl) rfl rfl rfl ?_
    refine aj_iload 4 713 (dx d_Law_law_8 21 rfl) rfl rfl ?_
    refine aj_iconst 714 (dx d_Law_law_8 22 rfl) rfl ?_
    refine aj_iadd 715 (dx d_Law_law_8 23 rfl) rfl ?_
    refine aj_sld 716 (dx d_Law_law_8 24 rfl) rfl hX (by omega) (by omega) ?_
    refine aj_callV4 (bc1 := 0) (bc2 := bc - 1) (bs1 := 0) (bs2 := bs - 6) 719 cl_Law_113 (dx d_Law_law_8 25 rfl) rfl rfl rfl rfl rfl rfl rfl (M_change hm1 (hxs _) (hxs _) (hxs _) (hxs _) (fun h => absurd h (by omega)) (fun h h2 => absurd hok h2) (fun h h2 g2 hF2 h0 hm2 => ?_))
    change aj_wp _ _ _ _ _ _ _ _ _ _ _ _ _ _
    refine aj_aload_n 2 720 (dx d_Law_law_8 26 rfl) rfl rfl rfl ?_
    refine aj_callV0 (bc1 := 0) (bc2 := bc - 1) (bs1 := 0) (bs2 := bs - 6) 723 cl_Law_69 (dx d_Law_law_8 27 rfl) rfl rfl rfl rfl rfl rfl rfl (k_Model_thrown rfl ?_)
    change aj_wp _ _ _ _ _ _ _ _ _ _ _ _ _ _
    rw [h0]
    refine aj_iload 5 725 (dx d_Law_law_8 28 rfl) rfl rfl ?_
    refine aj_icmp_same 730 (dx d_Law_law_8 29 rfl) rfl ?_
    refine aj_goto 984 (dx d_Law_law_8 32 rfl) rfl ?_
    exact hnx (cI_of hc1 (fun r' h => hF2 r' (by omega))) hm2 (by omega) (by omega)
  · change aj_wp _ _ _ _ _ _ _ _ _ _ _ _ _ _
    refine aj_istore 5 691 (dx d_Law_law_8 3 rfl) rfl rfl ?_
    simp only [List.set]
    refine aj_aload_n 2 692 (dx d_Law_law_8 4 rfl) rfl rfl rfl ?_
    refine aj_aload_n 0 693 (dx d_Law_law_8 5 rfl) rfl rfl rfl ?_
    refine aj_iload 4 695 (dx d_Law_law_8 6 rfl) rfl rfl ?_
    refine aj_iconst 696 (dx d_Law_law_8 7 rfl) rfl ?_
    refine aj_iadd 697 (dx d_Law_law_8 8 rfl) rfl ?_
    refine aj_sld 698 (dx d_Law_law_8 9 rfl) rfl hX (by omega) (by omega) ?_
    refine aj_aload_n 0 699 (dx d_Law_law_8 10 rfl) rfl rfl rfl ?_
    refine aj_iload 4 701 (dx d_Law_law_8 11 rfl) rfl rfl ?_
    refine aj_iconst 702 (dx d_Law_law_8 12 rfl) rfl ?_
    refine aj_iadd 703 (dx d_Law_law_8 13 rfl) rfl ?_
    refine aj_sld 704 (dx d_Law_law_8 14 rfl) rfl hX (by omega) (by omega) ?_
    refine aj_aload_n 0 705 (dx d_Law_law_8 15 rfl) rfl rfl rfl ?_
    refine aj_iload 4 707 (dx d_Law_law_8 16 rfl) rfl rfl ?_
    refine aj_iconst 708 (dx d_Law_law_8 17 rfl) rfl ?_
    refine aj_iadd 709 (dx d_Law_law_8 18 rfl) rfl ?_
    refine aj_sld 710 (dx d_Law_law_8 19 rfl) rfl hX (by omega) (by omega) ?_
    refine aj_aload_n 0 711 (dx d_Law_law_8 20 rfl) rfl rfl rfl ?_
    refine aj_iload 4 713 (dx d_Law_law_8 21 rfl) rfl rfl ?_
    refine aj_iconst 714 (dx d_Law_law_8 22 rfl) rfl ?_
    refine aj_iadd 715 (dx d_Law_law_8 23 rfl) rfl ?_
    refine aj_sld 716 (dx d_Law_law_8 24 rfl) rfl hX (by omega) (by omega) ?_
    refine aj_callV4 (bc1 := 0) (bc2 := bc - 1) (bs1 := 0) (bs2 := bs - 6) 719 cl_Law_113 (dx d_Law_law_8 25 rfl) rfl rfl rfl rfl rfl rfl rfl (M_change hm (hxs _) (hxs _) (hxs _) (hxs _) (fun h g2 hF2 h0 hm2 => ?_) (fun h => absurd h (by omega)) (fun h h2 => absurd h2 (by omega)))
    change aj_wp _ _ _ _ _ _ _ _ _ _ _ _ _ _
    refine aj_aload_n 2 720 (dx d_Law_law_8 26 rfl) rfl rfl rfl ?_
    refine aj_callV0 (bc1 := 0) (bc2 := bc - 1) (bs1 := 0) (bs2 := bs - 6) 723 cl_Law_69 (dx d_Law_law_8 27 rfl) rfl rfl rfl rfl rfl rfl rfl (k_Model_thrown rfl ?_)
    change aj_wp _ _ _ _ _ _ _ _ _ _ _ _ _ _
    rw [h0]
    refine aj_iload 5 725 (dx d_Law_law_8 28 rfl) rfl rfl ?_
    refine aj_icmp_same 730 (dx d_Law_law_8 29 rfl) rfl ?_
    refine aj_goto 984 (dx d_Law_law_8 32 rfl) rfl ?_
    exact hnx (cI_of hc (fun r' h => hF2 r' (by omega))) hm2 (by omega) (by omega)
  · change aj_wp _ _ _ _ _ _ _ _ _ _ _ _ _ _
    refine aj_istore 5 691 (dx d_Law_law_8 3 rfl) rfl rfl ?_
    simp only [List.set]
    refine aj_aload_n 2 692 (dx d_Law_law_8 4 rfl) rfl rfl rfl ?_
    refine aj_aload_n 0 693 (dx d_Law_law_8 5 rfl) rfl rfl rfl ?_
    refine aj_iload 4 695 (dx d_Law_law_8 6 rfl) rfl rfl ?_
    refine aj_iconst 696 (dx d_Law_law_8 7 rfl) rfl ?_
    refine aj_iadd 697 (dx d_Law_law_8 8 rfl) rfl ?_
    refine aj_sld 698 (dx d_Law_law_8 9 rfl) rfl hX (by omega) (by omega) ?_
    refine aj_aload_n 0 699 (dx d_Law_law_8 10 rfl) rfl rfl rfl ?_
    refine aj_iload 4 701 (dx d_Law_law_8 11 rfl) rfl rfl ?_
    refine aj_iconst 702 (dx d_Law_law_8 12 rfl) rfl ?_
    refine aj_iadd 703 (dx d_Law_law_8 13 rfl) rfl ?_
    refine aj_sld 704 (dx d_Law_law_8 14 rfl) rfl hX (by omega) (by omega) ?_
    refine aj_aload_n 0 705 (dx d_Law_law_8 15 rfl) rfl rfl rfl ?_
    refine aj_iload 4 707 (dx d_Law_law_8 16 rfl) rfl rfl ?_
    refine aj_iconst 708 (dx d_Law_law_8 17 rfl) rfl ?_
    refine aj_iadd 709 (dx d_Law_law_8 18 rfl) rfl ?_
    refine aj_sld 710 (dx d_Law_law_8 19 rfl) rfl hX (by omega) (by omega) ?_
    refine aj_aload_n 0 711 (dx d_Law_law_8 20 rfl) rfl rfl rfl ?_
    refine aj_iload 4 713 (dx d_Law_law_8 21 rfl) rfl rfl ?_
    refine aj_iconst 714 (dx d_Law_law_8 22 rfl) rfl ?_
    refine aj_iadd 715 (dx d_Law_law_8 23 rfl) rfl ?_
    refine aj_sld 716 (dx d_Law_law_8 24 rfl) rfl hX (by omega) (by omega) ?_
    refine aj_callV4 (bc1 := 0) (bc2 := bc - 1) (bs1 := 0) (bs2 := bs - 6) 719 cl_Law_113 (dx d_Law_law_8 25 rfl) rfl rfl rfl rfl rfl rfl rfl (M_change hm (hxs _) (hxs _) (hxs _) (hxs _) (fun h => absurd h (by omega)) (fun h h2 g2 hF2 h0 hm2 => ?_) (fun h => absurd h hbad))
    change aj_wp _ _ _ _ _ _ _ _ _ _ _ _ _ _
    refine aj_aload_n 2 720 (dx d_Law_law_8 26 rfl) rfl rfl rfl ?_
    refine aj_callV0 (bc1 := 0) (bc2 := bc - 1) (bs1 := 0) (bs2 := bs - 6) 723 cl_Law_69 (dx d_Law_law_8 27 rfl) rfl rfl rfl rfl rfl rfl rfl (k_Model_thrown rfl ?_)
    change aj_wp _ _ _ _ _ _ _ _ _ _ _ _ _ _
    rw [h0]
    refine aj_iload 5 725 (dx d_Law_law_8 28 rfl) rfl rfl ?_
    refine aj_icmp_same 730 (dx d_Law_law_8 29 rfl) rfl ?_
    refine aj_goto 984 (dx d_Law_law_8 32 rfl) rfl ?_
    exact hnx (cI_of hc (fun r' h => hF2 r' (by omega))) hm2 (by omega) (by omega)
set_option maxHeartbeats 8000000 in
theorem O_seal {X : Option (Nat × (Int → Int))} {L i d k n bc bs : Nat} {xs : Int → Int} {g : aj_G} {Q : aj_R → List aj_S → aj_G → Prop} {r r2 : Int} {s0 : Nat} {nx ou : Nat → Nat → Nat} {z : Int} {tw : Nat → Nat} {N : Nat} {q : nb_T} {mnx mou : Nat → Nat → Nat} {mi : Nat} {ix io : Nat → Nat → Nat} {w : List Nat} {v : Int} {S : List Nat → Prop} {fp hd hp : Int} {o5 o6 : Option aj_A} (hX : X = some (L, xs)) (hxs : ∀ j, aj_I (xs j)) (hi : i + 4 < L) (hb : 1 ≤ bc ∧ 6 ≤ bs) (hc : cI (shL k) g r r2 k n s0 nx ou z tw N q mnx mou mi ix io w v S fp hd hp) (hm : mI (shL k) g k n s0 nx ou z tw N q mnx mou mi ix io w v S fp hd hp) (hnx : ∀ {g1 : aj_G} {r r2 : Int} {s0 : Nat} {nx ou : Nat → Nat → Nat} {z : Int} {tw : Nat → Nat} {N : Nat} {q : nb_T} {mnx mou : Nat → Nat → Nat} {mi : Nat} {ix io : Nat → Nat → Nat} {w : List Nat} {v : Int} {S : List Nat → Prop} {fp hd hp : Int} {bc1 bs1 : Nat} {o5 o6 : Option aj_A}, cI (shL k) g1 r r2 k n s0 nx ou z tw N q mnx mou mi ix io w v S fp hd hp → mI (shL k) g1 k n s0 nx ou z tw N q mnx mou mi ix io w v S fp hd hp → bc ≤ bc1 + 1 → bs ≤ bs1 + 6 → aj_wp nE False False X m_Law_law (d + 8) bc1 bs1 984 [some (1, 1000000), some (1, 0), some (1, 78), some (1, 100), some (0, (i : Int)), o5, o6] [] (shL k) g1 Q) : aj_wp nE False False X m_Law_law (d + 8) bc bs 256 [some (1, 1000000), some (1, 0), some (1, 78), some (1, 100), some (0, (i : Int)), o5, o6] [] (shL k) g Q := by
  have hk3 := hc.2.2.1.2.2.2
  refine aj_aload_n 1 257 (dx d_Law_law_2 11 rfl) rfl rfl rfl ?_
  refine aj_aload_n 3 258 (dx d_Law_law_2 12 rfl) rfl rfl rfl ?_
  refine aj_callW (bc1 := 1) (bc2 := bc - 1) (bs1 := 6) (bs2 := bs - 6) [(1, 0), (1, 100)] 261 wl_Law_76 (dx d_Law_law_2 13 rfl) rfl rfl rfl (by omega) (by omega) rfl rfl (L_seal hc id rfl (fun hz g1 tw1 N1 q1 mnx1 mou1 hF hout hc1 => ?_) (fun hz => ?_))
  · change aj_wp _ _ _ _ _ _ _ _ _ _ _ _ _ _
    have hm1 := mI_fr hm (fun r' h1 h2 => hF r' h1 h2)
    have hcs := hc1.2.2.2.2.2.2.1 rfl
    have hN8 := hcs.2.1.2.2.2
    refine aj_istore 5 263 (dx d_Law_law_2 14 rfl) rfl rfl ?_
    simp only [List.set]
    refine aj_aload_n 2 264 (dx d_Law_law_2 15 rfl) rfl rfl rfl ?_
    refine aj_callV0 (bc1 := 0) (bc2 := bc - 1) (bs1 := 0) (bs2 := bs - 6) 267 cl_Law_79 (dx d_Law_law_2 16 rfl) rfl rfl rfl rfl rfl rfl rfl (M_seal hm1 hz (cS_pu hcs) (fun g2 hF2 h0 hm2 => ?_))
    change aj_wp _ _ _ _ _ _ _ _ _ _ _ _ _ _
    have ho : g2 100 0 = _ := (congrFun (hF2 100 (by omega)) 0).trans hout
    refine aj_istore 6 269 (dx d_Law_law_2 17 rfl) rfl rfl ?_
    simp only [List.set]
    refine aj_aload_n 2 270 (dx d_Law_law_2 18 rfl) rfl rfl rfl ?_
    refine aj_callV0 (bc1 := 0) (bc2 := bc - 1) (bs1 := 0) (bs2 := bs - 6) 273 cl_Law_69 (dx d_Law_law_2 19 rfl) rfl rfl rfl rfl rfl rfl rfl (k_Model_thrown rfl ?_)
    change aj_wp _ _ _ _ _ _ _ _ _ _ _ _ _ _
    rw [h0]
    refine aj_iload 5 275 (dx d_Law_law_2 20 rfl) rfl rfl ?_
    refine aj_icmp_same 280 (dx d_Law_law_2 21 rfl) rfl ?_
    refine aj_iload 5 282 (dx d_Law_law_2 24 rfl) rfl rfl ?_
    refine aj_if_ne 297 285 (dx d_Law_law_2 25 rfl) rfl rfl (by unfold aj_I; omega) (fun h282 => ?_) (fun h282 => ?_)
    · exact absurd rfl h282
    · refine aj_aload_n 3 286 (dx d_Law_law_2 26 rfl) rfl rfl rfl ?_
      refine aj_iconst 287 (dx d_Law_law_2 27 rfl) rfl ?_
      refine aj_lald 288 (dx d_Law_law_2 28 rfl) rfl rfl rfl (by omega) (by omega) ?_
      rw [ho]
      refine aj_iload 6 290 (dx d_Law_law_2 29 rfl) rfl rfl ?_
      refine aj_i2l 291 (dx d_Law_law_2 30 rfl) rfl (by unfold aj_I; omega) ?_
      refine aj_lcmp 292 (dx d_Law_law_2 31 rfl) rfl (by unfold aj_L; omega) (by unfold aj_L; omega) ?_
      rw [sg_self]
      refine aj_if_eq 297 295 (dx d_Law_law_2 32 rfl) rfl rfl (by unfold aj_I; omega) (fun h292 => ?_) (fun h292 => ?_)
      · refine aj_goto 984 (dx d_Law_law_2 35 rfl) rfl ?_
        exact hnx (cI_of hc1 (fun r' h => hF2 r' (by omega))) hm2 (by omega) (by omega)
      · exact absurd rfl h292
  · change aj_wp _ _ _ _ _ _ _ _ _ _ _ _ _ _
    refine aj_istore 5 263 (dx d_Law_law_2 14 rfl) rfl rfl ?_
    simp only [List.set]
    refine aj_aload_n 2 264 (dx d_Law_law_2 15 rfl) rfl rfl rfl ?_
    refine aj_callV0 (bc1 := 0) (bc2 := bc - 1) (bs1 := 0) (bs2 := bs - 6) 267 cl_Law_79 (dx d_Law_law_2 16 rfl) rfl rfl rfl rfl rfl rfl rfl (M_seal_T hm hz (fun g2 hF2 h0 hm2 => ?_))
    change aj_wp _ _ _ _ _ _ _ _ _ _ _ _ _ _
    refine aj_istore 6 269 (dx d_Law_law_2 17 rfl) rfl rfl ?_
    simp only [List.set]
    refine aj_aload_n 2 270 (dx d_Law_law_2 18 rfl) rfl rfl rfl ?_
    refine aj_callV0 (bc1 := 0) (bc2 := bc - 1) (bs1 := 0) (bs2 := bs - 6) 273 cl_Law_69 (dx d_Law_law_2 19 rfl) rfl rfl rfl rfl rfl rfl rfl (k_Model_thrown rfl ?_)
    change aj_wp _ _ _ _ _ _ _ _ _ _ _ _ _ _
    rw [h0]
    refine aj_iload 5 275 (dx d_Law_law_2 20 rfl) rfl rfl ?_
    refine aj_icmp_same 280 (dx d_Law_law_2 21 rfl) rfl ?_
    refine aj_iload 5 282 (dx d_Law_law_2 24 rfl) rfl rfl ?_
    refine aj_if_ne 297 285 (dx d_Law_law_2 25 rfl) rfl rfl (by unfold aj_I; omega) (fun h282 => ?_) (fun h282 => ?_)
    · refine aj_goto 984 (dx d_Law_law_2 35 rfl) rfl ?_
      exact hnx (cI_of hc (fun r' h => hF2 r' (by omega))) hm2 (by omega) (by omega)
    · exact absurd h282 (by decide)
set_option maxHeartbeats 8000000 in
theorem O_apart {X : Option (Nat × (Int → Int))} {L i d k n bc bs : Nat} {xs : Int → Int} {g : aj_G} {Q : aj_R → List aj_S → aj_G → Prop} {r r2 : Int} {s0 : Nat} {nx ou : Nat → Nat → Nat} {z : Int} {tw : Nat → Nat} {N : Nat} {q : nb_T} {mnx mou : Nat → Nat → Nat} {mi : Nat} {ix io : Nat → Nat → Nat} {w : List Nat} {v : Int} {S : List Nat → Prop} {fp hd hp : Int} {o5 o6 : Option aj_A} (hX : X = some (L, xs)) (hxs : ∀ j, aj_I (xs j)) (hi : i + 4 < L) (hb : 1 ≤ bc ∧ 6 ≤ bs) (hc : cI (shL k) g r r2 k n s0 nx ou z tw N q mnx mou mi ix io w v S fp hd hp) (hm : mI (shL k) g k n s0 nx ou z tw N q mnx mou mi ix io w v S fp hd hp) (hnx : ∀ {g1 : aj_G} {r r2 : Int} {s0 : Nat} {nx ou : Nat → Nat → Nat} {z : Int} {tw : Nat → Nat} {N : Nat} {q : nb_T} {mnx mou : Nat → Nat → Nat} {mi : Nat} {ix io : Nat → Nat → Nat} {w : List Nat} {v : Int} {S : List Nat → Prop} {fp hd hp : Int} {bc1 bs1 : Nat} {o5 o6 : Option aj_A}, cI (shL k) g1 r r2 k n s0 nx ou z tw N q mnx mou mi ix io w v S fp hd hp → mI (shL k) g1 k n s0 nx ou z tw N q mnx mou mi ix io w v S fp hd hp → bc ≤ bc1 + 1 → bs ≤ bs1 + 6 → aj_wp nE False False X m_Law_law (d + 8) bc1 bs1 984 [some (1, 1000000), some (1, 0), some (1, 78), some (1, 100), some (0, (i : Int)), o5, o6] [] (shL k) g1 Q) : aj_wp nE False False X m_Law_law (d + 8) bc bs 325 [some (1, 1000000), some (1, 0), some (1, 78), some (1, 100), some (0, (i : Int)), o5, o6] [] (shL k) g Q := by
  have hk3 := hc.2.2.1.2.2.2
  refine aj_aload_n 1 326 (dx d_Law_law_3 3 rfl) rfl rfl rfl ?_
  refine aj_aload_n 0 327 (dx d_Law_law_3 4 rfl) rfl rfl rfl ?_
  refine aj_iload 4 329 (dx d_Law_law_3 5 rfl) rfl rfl ?_
  refine aj_iconst 330 (dx d_Law_law_3 6 rfl) rfl ?_
  refine aj_iadd 331 (dx d_Law_law_3 7 rfl) rfl ?_
  refine aj_sld 332 (dx d_Law_law_3 8 rfl) rfl hX (by omega) (by omega) ?_
  refine aj_aload_n 0 333 (dx d_Law_law_3 9 rfl) rfl rfl rfl ?_
  refine aj_iload 4 335 (dx d_Law_law_3 10 rfl) rfl rfl ?_
  refine aj_iconst 336 (dx d_Law_law_3 11 rfl) rfl ?_
  refine aj_iadd 337 (dx d_Law_law_3 12 rfl) rfl ?_
  refine aj_sld 338 (dx d_Law_law_3 13 rfl) rfl hX (by omega) (by omega) ?_
  refine aj_aload_n 3 339 (dx d_Law_law_3 14 rfl) rfl rfl rfl ?_
  refine aj_callW (bc1 := 1) (bc2 := bc - 1) (bs1 := 6) (bs2 := bs - 6) [(1, 0), (0, xs ((i : Int) + 1)), (0, xs ((i : Int) + 2)), (1, 100)] 342 wl_Law_84 (dx d_Law_law_3 15 rfl) rfl rfl rfl (by omega) (by omega) rfl rfl (L_apart hc id (hxs _) (hxs _) rfl (fun hok hz g1 w1 hF hout hr hc1 => ?_) (fun hbad => ?_) (fun hok hz => ?_))
  · change aj_wp _ _ _ _ _ _ _ _ _ _ _ _ _ _
    have hm1 := mI_fr hm (fun r' h1 h2 => hF r' h1 h2)
    refine aj_istore 5 344 (dx d_Law_law_3 16 rfl) rfl rfl ?_
    simp only [List.set]
    refine aj_aload_n 2 345 (dx d_Law_law_3 17 rfl) rfl rfl rfl ?_
    refine aj_aload_n 0 346 (dx d_Law_law_3 18 rfl) rfl rfl rfl ?_
    refine aj_iload 4 348 (dx d_Law_law_3 19 rfl) rfl rfl ?_
    refine aj_iconst 349 (dx d_Law_law_3 20 rfl) rfl ?_
    refine aj_iadd 350 (dx d_Law_law_3 21 rfl) rfl ?_
    refine aj_sld 351 (dx d_Law_law_3 22 rfl) rfl hX (by omega) (by omega) ?_
    refine aj_aload_n 0 352 (dx d_Law_law_3 23 rfl) rfl rfl rfl ?_
    refine aj_iload 4 354 (dx d_Law_law_3 24 rfl) rfl rfl ?_
    refine aj_iconst 355 (dx d_Law_law_3 25 rfl) rfl ?_
    refine aj_iadd 356 (dx d_Law_law_3 26 rfl) rfl ?_
    refine aj_sld 357 (dx d_Law_law_3 27 rfl) rfl hX (by omega) (by omega) ?_
    refine aj_callV2 (bc1 := 0) (bc2 := bc - 1) (bs1 := 0) (bs2 := bs - 6) 360 cl_Law_87 (dx d_Law_law_3 28 rfl) rfl rfl rfl rfl rfl rfl rfl (M_apart hm1 (hxs _) (hxs _) (fun h => absurd hok h) (fun h h2 => absurd h2 (by omega)) (fun h h2 g2 u hF2 h0 hr2 hm2 => ?_))
    change aj_wp _ _ _ _ _ _ _ _ _ _ _ _ _ _
    obtain rfl : u = w1 := lu_uniq (k := k) (by omega) hr2 hr
    have ho : g2 100 0 = _ := (congrFun (hF2 100 (by omega)) 0).trans hout
    have hl24 := hm2.2.2.1.2.2
    refine aj_istore 6 362 (dx d_Law_law_3 29 rfl) rfl rfl ?_
    simp only [List.set]
    refine aj_aload_n 2 363 (dx d_Law_law_3 30 rfl) rfl rfl rfl ?_
    refine aj_callV0 (bc1 := 0) (bc2 := bc - 1) (bs1 := 0) (bs2 := bs - 6) 366 cl_Law_69 (dx d_Law_law_3 31 rfl) rfl rfl rfl rfl rfl rfl rfl (k_Model_thrown rfl ?_)
    change aj_wp _ _ _ _ _ _ _ _ _ _ _ _ _ _
    rw [h0]
    refine aj_iload 5 368 (dx d_Law_law_3 32 rfl) rfl rfl ?_
    refine aj_icmp_same 373 (dx d_Law_law_3 33 rfl) rfl ?_
    refine aj_iload 5 375 (dx d_Law_law_3 36 rfl) rfl rfl ?_
    refine aj_if_ne 390 378 (dx d_Law_law_3 37 rfl) rfl rfl (by unfold aj_I; omega) (fun h375 => ?_) (fun h375 => ?_)
    · exact absurd rfl h375
    · refine aj_aload_n 3 379 (dx d_Law_law_3 38 rfl) rfl rfl rfl ?_
      refine aj_iconst 380 (dx d_Law_law_3 39 rfl) rfl ?_
      refine aj_lald 381 (dx d_Law_law_3 40 rfl) rfl rfl rfl (by omega) (by omega) ?_
      rw [ho]
      refine aj_iload 6 383 (dx d_Law_law_3 41 rfl) rfl rfl ?_
      refine aj_i2l 384 (dx d_Law_law_3 42 rfl) rfl (by unfold aj_I; omega) ?_
      refine aj_lcmp 385 (dx d_Law_law_3 43 rfl) rfl (by unfold aj_L; omega) (by unfold aj_L; omega) ?_
      rw [sg_self]
      refine aj_if_eq 390 388 (dx d_Law_law_3 44 rfl) rfl rfl (by unfold aj_I; omega) (fun h385 => ?_) (fun h385 => ?_)
      · refine aj_goto 984 (dx d_Law_law_3 47 rfl) rfl ?_
        exact hnx (cI_of hc1 (fun r' h => hF2 r' (by omega))) hm2 (by omega) (by omega)
      · exact absurd rfl h385
  · change aj_wp _ _ _ _ _ _ _ _ _ _ _ _ _ _
    refine aj_istore 5 344 (dx d_Law_law_3 16 rfl) rfl rfl ?_
    simp only [List.set]
    refine aj_aload_n 2 345 (dx d_Law_law_3 17 rfl) rfl rfl rfl ?_
    refine aj_aload_n 0 346 (dx d_Law_law_3 18 rfl) rfl rfl rfl ?_
    refine aj_iload 4 348 (dx d_Law_law_3 19 rfl) rfl rfl ?_
    refine aj_iconst 349 (dx d_Law_law_3 20 rfl) rfl ?_
    refine aj_iadd 350 (dx d_Law_law_3 21 rfl) rfl ?_
    refine aj_sld 351 (dx d_Law_law_3 22 rfl) rfl hX (by omega) (by omega) ?_
    refine aj_aload_n 0 352 (dx d_Law_law_3 23 rfl) rfl rfl rfl ?_
    refine aj_iload 4 354 (dx d_Law_law_3 24 rfl) rfl rfl ?_
    refine aj_iconst 355 (dx d_Law_law_3 25 rfl) rfl ?_
    refine aj_iadd 356 (dx d_Law_law_3 26 rfl) rfl ?_
    refine aj_sld 357 (dx d_Law_law_3 27 rfl) rfl hX (by omega) (by omega) ?_
    refine aj_callV2 (bc1 := 0) (bc2 := bc - 1) (bs1 := 0) (bs2 := bs - 6) 360 cl_Law_87 (dx d_Law_law_3 28 rfl) rfl rfl rfl rfl rfl rfl rfl (M_apart hm (hxs _) (hxs _) (fun h g2 hF2 h0 hm2 => ?_) (fun h => absurd h hbad) (fun h => absurd h hbad))
    change aj_wp _ _ _ _ _ _ _ _ _ _ _ _ _ _
    refine aj_istore 6 362 (dx d_Law_law_3 29 rfl) rfl rfl ?_
    simp only [List.set]
    refine aj_aload_n 2 363 (dx d_Law_law_3 30 rfl) rfl rfl rfl ?_
    refine aj_callV0 (bc1 := 0) (bc2 := bc - 1) (bs1 := 0) (bs2 := bs - 6) 366 cl_Law_69 (dx d_Law_law_3 31 rfl) rfl rfl rfl rfl rfl rfl rfl (k_Model_thrown rfl ?_)
    change aj_wp _ _ _ _ _ _ _ _ _ _ _ _ _ _
    rw [h0]
    refine aj_iload 5 368 (dx d_Law_law_3 32 rfl) rfl rfl ?_
    refine aj_icmp_same 373 (dx d_Law_law_3 33 rfl) rfl ?_
    refine aj_iload 5 375 (dx d_Law_law_3 36 rfl) rfl rfl ?_
    refine aj_if_ne 390 378 (dx d_Law_law_3 37 rfl) rfl rfl (by unfold aj_I; omega) (fun h375 => ?_) (fun h375 => ?_)
    · refine aj_goto 984 (dx d_Law_law_3 47 rfl) rfl ?_
      exact hnx (cI_of hc (fun r' h => hF2 r' (by omega))) hm2 (by omega) (by omega)
    · exact absurd h375 (by decide)
  · change aj_wp _ _ _ _ _ _ _ _ _ _ _ _ _ _
    refine aj_istore 5 344 (dx d_Law_law_3 16 rfl) rfl rfl ?_
    simp only [List.set]
    refine aj_aload_n 2 345 (dx d_Law_law_3 17 rfl) rfl rfl rfl ?_
    refine aj_aload_n 0 346 (dx d_Law_law_3 18 rfl) rfl rfl rfl ?_
    refine aj_iload 4 348 (dx d_Law_law_3 19 rfl) rfl rfl ?_
    refine aj_iconst 349 (dx d_Law_law_3 20 rfl) rfl ?_
    refine aj_iadd 350 (dx d_Law_law_3 21 rfl) rfl ?_
    refine aj_sld 351 (dx d_Law_law_3 22 rfl) rfl hX (by omega) (by omega) ?_
    refine aj_aload_n 0 352 (dx d_Law_law_3 23 rfl) rfl rfl rfl ?_
    refine aj_iload 4 354 (dx d_Law_law_3 24 rfl) rfl rfl ?_
    refine aj_iconst 355 (dx d_Law_law_3 25 rfl) rfl ?_
    refine aj_iadd 356 (dx d_Law_law_3 26 rfl) rfl ?_
    refine aj_sld 357 (dx d_Law_law_3 27 rfl) rfl hX (by omega) (by omega) ?_
    refine aj_callV2 (bc1 := 0) (bc2 := bc - 1) (bs1 := 0) (bs2 := bs - 6) 360 cl_Law_87 (dx d_Law_law_3 28 rfl) rfl rfl rfl rfl rfl rfl rfl (M_apart hm (hxs _) (hxs _) (fun h => absurd hok h) (fun h h2 g2 hF2 h0 hm2 => ?_) (fun h h2 => absurd h2 (by omega)))
    change aj_wp _ _ _ _ _ _ _ _ _ _ _ _ _ _
    refine aj_istore 6 362 (dx d_Law_law_3 29 rfl) rfl rfl ?_
    simp only [List.set]
    refine aj_aload_n 2 363 (dx d_Law_law_3 30 rfl) rfl rfl rfl ?_
    refine aj_callV0 (bc1 := 0) (bc2 := bc - 1) (bs1 := 0) (bs2 := bs - 6) 366 cl_Law_69 (dx d_Law_law_3 31 rfl) rfl rfl rfl rfl rfl rfl rfl (k_Model_thrown rfl ?_)
    change aj_wp _ _ _ _ _ _ _ _ _ _ _ _ _ _
    rw [h0]
    refine aj_iload 5 368 (dx d_Law_law_3 32 rfl) rfl rfl ?_
    refine aj_icmp_same 373 (dx d_Law_law_3 33 rfl) rfl ?_
    refine aj_iload 5 375 (dx d_Law_law_3 36 rfl) rfl rfl ?_
    refine aj_if_ne 390 378 (dx d_Law_law_3 37 rfl) rfl rfl (by unfold aj_I; omega) (fun h375 => ?_) (fun h375 => ?_)
    · refine aj_goto 984 (dx d_Law_law_3 47 rfl) rfl ?_
      exact hnx (cI_of hc (fun r' h => hF2 r' (by omega))) hm2 (by omega) (by omega)
    · exact absurd h375 (by decide)
set_option maxHeartbeats 8000000 in
theorem O_same {X : Option (Nat × (Int → Int))} {L i d k n bc bs : Nat} {xs : Int → Int} {g : aj_G} {Q : aj_R → List aj_S → aj_G → Prop} {r r2 : Int} {s0 : Nat} {nx ou : Nat → Nat → Nat} {z : Int} {tw : Nat → Nat} {N : Nat} {q : nb_T} {mnx mou : Nat → Nat → Nat} {mi : Nat} {ix io : Nat → Nat → Nat} {w : List Nat} {v : Int} {S : List Nat → Prop} {fp hd hp : Int} {o5 o6 : Option aj_A} (hX : X = some (L, xs)) (hxs : ∀ j, aj_I (xs j)) (hi : i + 4 < L) (hb : 1 ≤ bc ∧ 6 ≤ bs) (hc : cI (shL k) g r r2 k n s0 nx ou z tw N q mnx mou mi ix io w v S fp hd hp) (hm : mI (shL k) g k n s0 nx ou z tw N q mnx mou mi ix io w v S fp hd hp) (hnx : ∀ {g1 : aj_G} {r r2 : Int} {s0 : Nat} {nx ou : Nat → Nat → Nat} {z : Int} {tw : Nat → Nat} {N : Nat} {q : nb_T} {mnx mou : Nat → Nat → Nat} {mi : Nat} {ix io : Nat → Nat → Nat} {w : List Nat} {v : Int} {S : List Nat → Prop} {fp hd hp : Int} {bc1 bs1 : Nat} {o5 o6 : Option aj_A}, cI (shL k) g1 r r2 k n s0 nx ou z tw N q mnx mou mi ix io w v S fp hd hp → mI (shL k) g1 k n s0 nx ou z tw N q mnx mou mi ix io w v S fp hd hp → bc ≤ bc1 + 1 → bs ≤ bs1 + 6 → aj_wp nE False False X m_Law_law (d + 8) bc1 bs1 984 [some (1, 1000000), some (1, 0), some (1, 78), some (1, 100), some (0, (i : Int)), o5, o6] [] (shL k) g1 Q) : aj_wp nE False False X m_Law_law (d + 8) bc bs 902 [some (1, 1000000), some (1, 0), some (1, 78), some (1, 100), some (0, (i : Int)), o5, o6] [] (shL k) g Q := by
  have hk3 := hc.2.2.1.2.2.2
  refine aj_aload_n 1 903 (dx d_Law_law_10 35 rfl) rfl rfl rfl ?_
  refine aj_aload_n 3 904 (dx d_Law_law_10 36 rfl) rfl rfl rfl ?_
  refine aj_callW (bc1 := 1) (bc2 := bc - 1) (bs1 := 6) (bs2 := bs - 6) [(1, 0), (1, 100)] 907 wl_Law_128 (dx d_Law_law_10 37 rfl) rfl rfl rfl (by omega) (by omega) rfl rfl (L_same hc id rfl (fun hz g1 w1 hF hout hr hc1 => ?_) (fun hz => ?_))
  · change aj_wp _ _ _ _ _ _ _ _ _ _ _ _ _ _
    have hm1 := mI_fr hm (fun r' h1 h2 => hF r' h1 h2)
    refine aj_istore 5 909 (dx d_Law_law_10 38 rfl) rfl rfl ?_
    simp only [List.set]
    refine aj_aload_n 2 910 (dx d_Law_law_10 39 rfl) rfl rfl rfl ?_
    refine aj_callV0 (bc1 := 0) (bc2 := bc - 1) (bs1 := 0) (bs2 := bs - 6) 913 cl_Law_130 (dx d_Law_law_10 40 rfl) rfl rfl rfl rfl rfl rfl rfl (M_same hm1 (fun h => absurd h (by omega)) (fun h g2 u hF2 h0 hr2 hm2 => ?_))
    change aj_wp _ _ _ _ _ _ _ _ _ _ _ _ _ _
    obtain rfl : u = w1 := lu_uniq (k := k) (by omega) hr2 hr
    have ho : g2 100 0 = _ := (congrFun (hF2 100 (by omega)) 0).trans hout
    have hl24 := hm2.2.2.1.2.2
    refine aj_istore 6 915 (dx d_Law_law_10 41 rfl) rfl rfl ?_
    simp only [List.set]
    refine aj_aload_n 2 916 (dx d_Law_law_10 42 rfl) rfl rfl rfl ?_
    refine aj_callV0 (bc1 := 0) (bc2 := bc - 1) (bs1 := 0) (bs2 := bs - 6) 919 cl_Law_69 (dx d_Law_law_10 43 rfl) rfl rfl rfl rfl rfl rfl rfl (k_Model_thrown rfl ?_)
    change aj_wp _ _ _ _ _ _ _ _ _ _ _ _ _ _
    rw [h0]
    refine aj_iload 5 921 (dx d_Law_law_10 44 rfl) rfl rfl ?_
    refine aj_icmp_same 926 (dx d_Law_law_10 45 rfl) rfl ?_
    refine aj_iload 5 928 (dx d_Law_law_10 48 rfl) rfl rfl ?_
    refine aj_if_ne 943 931 (dx d_Law_law_10 49 rfl) rfl rfl (by unfold aj_I; omega) (fun h928 => ?_) (fun h928 => ?_)
    · exact absurd rfl h928
    · refine aj_aload_n 3 932 (dx d_Law_law_11 0 rfl) rfl rfl rfl ?_
      refine aj_iconst 933 (dx d_Law_law_11 1 rfl) rfl ?_
      refine aj_lald 934 (dx d_Law_law_11 2 rfl) rfl rfl rfl (by omega) (by omega) ?_
      rw [ho]
      refine aj_iload 6 936 (dx d_Law_law_11 3 rfl) rfl rfl ?_
      refine aj_i2l 937 (dx d_Law_law_11 4 rfl) rfl (by unfold aj_I; omega) ?_
      refine aj_lcmp 938 (dx d_Law_law_11 5 rfl) rfl (by unfold aj_L; omega) (by unfold aj_L; omega) ?_
      rw [sg_self]
      refine aj_if_eq 943 941 (dx d_Law_law_11 6 rfl) rfl rfl (by unfold aj_I; omega) (fun h938 => ?_) (fun h938 => ?_)
      · refine aj_goto 984 (dx d_Law_law_11 9 rfl) rfl ?_
        exact hnx (cI_of hc1 (fun r' h => hF2 r' (by omega))) hm2 (by omega) (by omega)
      · exact absurd rfl h938
  · change aj_wp _ _ _ _ _ _ _ _ _ _ _ _ _ _
    refine aj_istore 5 909 (dx d_Law_law_10 38 rfl) rfl rfl ?_
    simp only [List.set]
    refine aj_aload_n 2 910 (dx d_Law_law_10 39 rfl) rfl rfl rfl ?_
    refine aj_callV0 (bc1 := 0) (bc2 := bc - 1) (bs1 := 0) (bs2 := bs - 6) 913 cl_Law_130 (dx d_Law_law_10 40 rfl) rfl rfl rfl rfl rfl rfl rfl (M_same hm (fun h g2 hF2 h0 hm2 => ?_) (fun h => absurd h (by omega)))
    change aj_wp _ _ _ _ _ _ _ _ _ _ _ _ _ _
    refine aj_istore 6 915 (dx d_Law_law_10 41 rfl) rfl rfl ?_
    simp only [List.set]
    refine aj_aload_n 2 916 (dx d_Law_law_10 42 rfl) rfl rfl rfl ?_
    refine aj_callV0 (bc1 := 0) (bc2 := bc - 1) (bs1 := 0) (bs2 := bs - 6) 919 cl_Law_69 (dx d_Law_law_10 43 rfl) rfl rfl rfl rfl rfl rfl rfl (k_Model_thrown rfl ?_)
    change aj_wp _ _ _ _ _ _ _ _ _ _ _ _ _ _
    rw [h0]
    refine aj_iload 5 921 (dx d_Law_law_10 44 rfl) rfl rfl ?_
    refine aj_icmp_same 926 (dx d_Law_law_10 45 rfl) rfl ?_
    refine aj_iload 5 928 (dx d_Law_law_10 48 rfl) rfl rfl ?_
    refine aj_if_ne 943 931 (dx d_Law_law_10 49 rfl) rfl rfl (by unfold aj_I; omega) (fun h928 => ?_) (fun h928 => ?_)
    · refine aj_goto 984 (dx d_Law_law_11 9 rfl) rfl ?_
      exact hnx (cI_of hc (fun r' h => hF2 r' (by omega))) hm2 (by omega) (by omega)
    · exact absurd h928 (by decide)
set_option maxHeartbeats 8000000 in
theorem O_suite {X : Option (Nat × (Int → Int))} {L i d k n bc bs : Nat} {xs : Int → Int} {g : aj_G} {Q : aj_R → List aj_S → aj_G → Prop} {r r2 : Int} {s0 : Nat} {nx ou : Nat → Nat → Nat} {z : Int} {tw : Nat → Nat} {N : Nat} {q : nb_T} {mnx mou : Nat → Nat → Nat} {mi : Nat} {ix io : Nat → Nat → Nat} {w : List Nat} {v : Int} {S : List Nat → Prop} {fp hd hp : Int} {o5 o6 : Option aj_A} (hX : X = some (L, xs)) (hxs : ∀ j, aj_I (xs j)) (hi : i + 4 < L) (hb : 1 ≤ bc ∧ 6 ≤ bs) (hc : cI (shL k) g r r2 k n s0 nx ou z tw N q mnx mou mi ix io w v S fp hd hp) (hm : mI (shL k) g k n s0 nx ou z tw N q mnx mou mi ix io w v S fp hd hp) (hnx : ∀ {g1 : aj_G} {r r2 : Int} {s0 : Nat} {nx ou : Nat → Nat → Nat} {z : Int} {tw : Nat → Nat} {N : Nat} {q : nb_T} {mnx mou : Nat → Nat → Nat} {mi : Nat} {ix io : Nat → Nat → Nat} {w : List Nat} {v : Int} {S : List Nat → Prop} {fp hd hp : Int} {bc1 bs1 : Nat} {o5 o6 : Option aj_A}, cI (shL k) g1 r r2 k n s0 nx ou z tw N q mnx mou mi ix io w v S fp hd hp → mI (shL k) g1 k n s0 nx ou z tw N q mnx mou mi ix io w v S fp hd hp → bc ≤ bc1 + 1 → bs ≤ bs1 + 6 → aj_wp nE False False X m_Law_law (d + 8) bc1 bs1 984 [some (1, 1000000), some (1, 0), some (1, 78), some (1, 100), some (0, (i : Int)), o5, o6] [] (shL k) g1 Q) : aj_wp nE False False X m_Law_law (d + 8) bc bs 492 [some (1, 1000000), some (1, 0), some (1, 78), some (1, 100), some (0, (i : Int)), o5, o6] [] (shL k) g Q := by
  have hk3 := hc.2.2.1.2.2.2
  refine aj_aload_n 1 493 (dx d_Law_law_5 19 rfl) rfl rfl rfl ?_
  refine aj_aload_n 0 494 (dx d_Law_law_5 20 rfl) rfl rfl rfl ?_
  refine aj_iload 4 496 (dx d_Law_law_5 21 rfl) rfl rfl ?_
  refine aj_iconst 497 (dx d_Law_law_5 22 rfl) rfl ?_
  refine aj_iadd 498 (dx d_Law_law_5 23 rfl) rfl ?_
  refine aj_sld 499 (dx d_Law_law_5 24 rfl) rfl hX (by omega) (by omega) ?_
  refine aj_aload_n 0 500 (dx d_Law_law_5 25 rfl) rfl rfl rfl ?_
  refine aj_iload 4 502 (dx d_Law_law_5 26 rfl) rfl rfl ?_
  refine aj_iconst 503 (dx d_Law_law_5 27 rfl) rfl ?_
  refine aj_iadd 504 (dx d_Law_law_5 28 rfl) rfl ?_
  refine aj_sld 505 (dx d_Law_law_5 29 rfl) rfl hX (by omega) (by omega) ?_
  refine aj_aload_n 3 506 (dx d_Law_law_5 30 rfl) rfl rfl rfl ?_
  refine aj_callW (bc1 := 1) (bc2 := bc - 1) (bs1 := 6) (bs2 := bs - 6) [(1, 0), (0, xs ((i : Int) + 1)), (0, xs ((i : Int) + 2)), (1, 100)] 509 wl_Law_100 (dx d_Law_law_5 31 rfl) rfl rfl rfl (by omega) (by omega) rfl rfl (L_suite hc id (hxs _) (hxs _) rfl (fun hok hz u hu => mI_len hm hz (by omega) _ u hu) (fun hok hz hfit g1 hF hout hc1 => ?_) (fun hbad => ?_) (fun hok hz => ?_) (fun hok hz hnf g1 hF hc1 => ?_))
  · change aj_wp _ _ _ _ _ _ _ _ _ _ _ _ _ _
    have hm1 := mI_fr hm (fun r' h1 h2 => hF r' h1 h2)
    have hT8 := (cI_T hc1 rfl).1
    refine aj_istore 5 511 (dx d_Law_law_5 32 rfl) rfl rfl ?_
    simp only [List.set]
    refine aj_aload_n 2 512 (dx d_Law_law_5 33 rfl) rfl rfl rfl ?_
    refine aj_aload_n 0 513 (dx d_Law_law_5 34 rfl) rfl rfl rfl ?_
    refine aj_iload 4 515 (dx d_Law_law_5 35 rfl) rfl rfl ?_
    refine aj_iconst 516 (dx d_Law_law_5 36 rfl) rfl ?_
    refine aj_iadd 517 (dx d_Law_law_5 37 rfl) rfl ?_
    refine aj_sld 518 (dx d_Law_law_5 38 rfl) rfl hX (by omega) (by omega) ?_
    refine aj_aload_n 0 519 (dx d_Law_law_5 39 rfl) rfl rfl rfl ?_
    refine aj_iload 4 521 (dx d_Law_law_5 40 rfl) rfl rfl ?_
    refine aj_iconst 522 (dx d_Law_law_5 41 rfl) rfl ?_
    refine aj_iadd 523 (dx d_Law_law_5 42 rfl) rfl ?_
    refine aj_sld 524 (dx d_Law_law_5 43 rfl) rfl hX (by omega) (by omega) ?_
    refine aj_callV2 (bc1 := 0) (bc2 := bc - 1) (bs1 := 0) (bs2 := bs - 6) 527 cl_Law_102 (dx d_Law_law_5 44 rfl) rfl rfl rfl rfl rfl rfl rfl (M_suite hm1 (hxs _) (hxs _) (fun h => absurd hok h) (fun h h2 => absurd h2 (by omega)) (fun h h2 h3 => absurd hfit h3) (fun h h2 h3 g2 hF2 h0 hm2 => ?_))
    change aj_wp _ _ _ _ _ _ _ _ _ _ _ _ _ _
    have ho : g2 100 0 = _ := (congrFun (hF2 100 (by omega)) 0).trans hout
    refine aj_istore 6 529 (dx d_Law_law_5 45 rfl) rfl rfl ?_
    simp only [List.set]
    refine aj_aload_n 2 530 (dx d_Law_law_5 46 rfl) rfl rfl rfl ?_
    refine aj_callV0 (bc1 := 0) (bc2 := bc - 1) (bs1 := 0) (bs2 := bs - 6) 533 cl_Law_69 (dx d_Law_law_5 47 rfl) rfl rfl rfl rfl rfl rfl rfl (k_Model_thrown rfl ?_)
    change aj_wp _ _ _ _ _ _ _ _ _ _ _ _ _ _
    rw [h0]
    refine aj_iload 5 535 (dx d_Law_law_5 48 rfl) rfl rfl ?_
    refine aj_icmp_same 540 (dx d_Law_law_5 49 rfl) rfl ?_
    refine aj_iload 5 542 (dx d_Law_law_6 2 rfl) rfl rfl ?_
    refine aj_if_ne 557 545 (dx d_Law_law_6 3 rfl) rfl rfl (by unfold aj_I; omega) (fun h542 => ?_) (fun h542 => ?_)
    · exact absurd rfl h542
    · refine aj_aload_n 3 546 (dx d_Law_law_6 4 rfl) rfl rfl rfl ?_
      refine aj_iconst 547 (dx d_Law_law_6 5 rfl) rfl ?_
      refine aj_lald 548 (dx d_Law_law_6 6 rfl) rfl rfl rfl (by omega) (by omega) ?_
      rw [ho]
      refine aj_iload 6 550 (dx d_Law_law_6 7 rfl) rfl rfl ?_
      refine aj_i2l 551 (dx d_Law_law_6 8 rfl) rfl (by unfold aj_I; omega) ?_
      refine aj_lcmp 552 (dx d_Law_law_6 9 rfl) rfl (by unfold aj_L; omega) (by unfold aj_L; omega) ?_
      rw [sg_self]
      refine aj_if_eq 557 555 (dx d_Law_law_6 10 rfl) rfl rfl (by unfold aj_I; omega) (fun h552 => ?_) (fun h552 => ?_)
      · refine aj_goto 984 (dx d_Law_law_6 13 rfl) rfl ?_
        exact hnx (cI_of hc1 (fun r' h => hF2 r' (by omega))) hm2 (by omega) (by omega)
      · exact absurd rfl h552
  · change aj_wp _ _ _ _ _ _ _ _ _ _ _ _ _ _
    refine aj_istore 5 511 (dx d_Law_law_5 32 rfl) rfl rfl ?_
    simp only [List.set]
    refine aj_aload_n 2 512 (dx d_Law_law_5 33 rfl) rfl rfl rfl ?_
    refine aj_aload_n 0 513 (dx d_Law_law_5 34 rfl) rfl rfl rfl ?_
    refine aj_iload 4 515 (dx d_Law_law_5 35 rfl) rfl rfl ?_
    refine aj_iconst 516 (dx d_Law_law_5 36 rfl) rfl ?_
    refine aj_iadd 517 (dx d_Law_law_5 37 rfl) rfl ?_
    refine aj_sld 518 (dx d_Law_law_5 38 rfl) rfl hX (by omega) (by omega) ?_
    refine aj_aload_n 0 519 (dx d_Law_law_5 39 rfl) rfl rfl rfl ?_
    refine aj_iload 4 521 (dx d_Law_law_5 40 rfl) rfl rfl ?_
    refine aj_iconst 522 (dx d_Law_law_5 41 rfl) rfl ?_
    refine aj_iadd 523 (dx d_Law_law_5 42 rfl) rfl ?_
    refine aj_sld 524 (dx d_Law_law_5 43 rfl) rfl hX (by omega) (by omega) ?_
    refine aj_callV2 (bc1 := 0) (bc2 := bc - 1) (bs1 := 0) (bs2 := bs - 6) 527 cl_Law_102 (dx d_Law_law_5 44 rfl) rfl rfl rfl rfl rfl rfl rfl (M_suite hm (hxs _) (hxs _) (fun h g2 hF2 h0 hm2 => ?_) (fun h => absurd h hbad) (fun h => absurd h hbad) (fun h => absurd h hbad))
    change aj_wp _ _ _ _ _ _ _ _ _ _ _ _ _ _
    refine aj_istore 6 529 (dx d_Law_law_5 45 rfl) rfl rfl ?_
    simp only [List.set]
    refine aj_aload_n 2 530 (dx d_Law_law_5 46 rfl) rfl rfl rfl ?_
    refine aj_callV0 (bc1 := 0) (bc2 := bc - 1) (bs1 := 0) (bs2 := bs - 6) 533 cl_Law_69 (dx d_Law_law_5 47 rfl) rfl rfl rfl rfl rfl rfl rfl (k_Model_thrown rfl ?_)
    change aj_wp _ _ _ _ _ _ _ _ _ _ _ _ _ _
    rw [h0]
    refine aj_iload 5 535 (dx d_Law_law_5 48 rfl) rfl rfl ?_
    refine aj_icmp_same 540 (dx d_Law_law_5 49 rfl) rfl ?_
    refine aj_iload 5 542 (dx d_Law_law_6 2 rfl) rfl rfl ?_
    refine aj_if_ne 557 545 (dx d_Law_law_6 3 rfl) rfl rfl (by unfold aj_I; omega) (fun h542 => ?_) (fun h542 => ?_)
    · refine aj_goto 984 (dx d_Law_law_6 13 rfl) rfl ?_
      exact hnx (cI_of hc (fun r' h => hF2 r' (by omega))) hm2 (by omega) (by omega)
    · exact absurd h542 (by decide)
  · change aj_wp _ _ _ _ _ _ _ _ _ _ _ _ _ _
    refine aj_istore 5 511 (dx d_Law_law_5 32 rfl) rfl rfl ?_
    simp only [List.set]
    refine aj_aload_n 2 512 (dx d_Law_law_5 33 rfl) rfl rfl rfl ?_
    refine aj_aload_n 0 513 (dx d_Law_law_5 34 rfl) rfl rfl rfl ?_
    refine aj_iload 4 515 (dx d_Law_law_5 35 rfl) rfl rfl ?_
    refine aj_iconst 516 (dx d_Law_law_5 36 rfl) rfl ?_
    refine aj_iadd 517 (dx d_Law_law_5 37 rfl) rfl ?_
    refine aj_sld 518 (dx d_Law_law_5 38 rfl) rfl hX (by omega) (by omega) ?_
    refine aj_aload_n 0 519 (dx d_Law_law_5 39 rfl) rfl rfl rfl ?_
    refine aj_iload 4 521 (dx d_Law_law_5 40 rfl) rfl rfl ?_
    refine aj_iconst 522 (dx d_Law_law_5 41 rfl) rfl ?_
    refine aj_iadd 523 (dx d_Law_law_5 42 rfl) rfl ?_
    refine aj_sld 524 (dx d_Law_law_5 43 rfl) rfl hX (by omega) (by omega) ?_
    refine aj_callV2 (bc1 := 0) (bc2 := bc - 1) (bs1 := 0) (bs2 := bs - 6) 527 cl_Law_102 (dx d_Law_law_5 44 rfl) rfl rfl rfl rfl rfl rfl rfl (M_suite hm (hxs _) (hxs _) (fun h => absurd hok h) (fun h h2 g2 hF2 h0 hm2 => ?_) (fun h h2 => absurd h2 (by omega)) (fun h h2 => absurd h2 (by omega)))
    change aj_wp _ _ _ _ _ _ _ _ _ _ _ _ _ _
    refine aj_istore 6 529 (dx d_Law_law_5 45 rfl) rfl rfl ?_
    simp only [List.set]
    refine aj_aload_n 2 530 (dx d_Law_law_5 46 rfl) rfl rfl rfl ?_
    refine aj_callV0 (bc1 := 0) (bc2 := bc - 1) (bs1 := 0) (bs2 := bs - 6) 533 cl_Law_69 (dx d_Law_law_5 47 rfl) rfl rfl rfl rfl rfl rfl rfl (k_Model_thrown rfl ?_)
    change aj_wp _ _ _ _ _ _ _ _ _ _ _ _ _ _
    rw [h0]
    refine aj_iload 5 535 (dx d_Law_law_5 48 rfl) rfl rfl ?_
    refine aj_icmp_same 540 (dx d_Law_law_5 49 rfl) rfl ?_
    refine aj_iload 5 542 (dx d_Law_law_6 2 rfl) rfl rfl ?_
    refine aj_if_ne 557 545 (dx d_Law_law_6 3 rfl) rfl rfl (by unfold aj_I; omega) (fun h542 => ?_) (fun h542 => ?_)
    · refine aj_goto 984 (dx d_Law_law_6 13 rfl) rfl ?_
      exact hnx (cI_of hc (fun r' h => hF2 r' (by omega))) hm2 (by omega) (by omega)
    · exact absurd h542 (by decide)
  · change aj_wp _ _ _ _ _ _ _ _ _ _ _ _ _ _
    have hm1 := mI_fr hm (fun r' h1 _ => hF r' h1)
    refine aj_istore 5 511 (dx d_Law_law_5 32 rfl) rfl rfl ?_
    simp only [List.set]
    refine aj_aload_n 2 512 (dx d_Law_law_5 33 rfl) rfl rfl rfl ?_
    refine aj_aload_n 0 513 (dx d_Law_law_5 34 rfl) rfl rfl rfl ?_
    refine aj_iload 4 515 (dx d_Law_law_5 35 rfl) rfl rfl ?_
    refine aj_iconst 516 (dx d_Law_law_5 36 rfl) rfl ?_
    refine aj_iadd 517 (dx d_Law_law_5 37 rfl) rfl ?_
    refine aj_sld 518 (dx d_Law_law_5 38 rfl) rfl hX (by omega) (by omega) ?_
    refine aj_aload_n 0 519 (dx d_Law_law_5 39 rfl) rfl rfl rfl ?_
    refine aj_iload 4 521 (dx d_Law_law_5 40 rfl) rfl rfl ?_
    refine aj_iconst 522 (dx d_Law_law_5 41 rfl) rfl ?_
    refine aj_iadd 523 (dx d_Law_law_5 42 rfl) rfl ?_
    refine aj_sld 524 (dx d_Law_law_5 43 rfl) rfl hX (by omega) (by omega) ?_
    refine aj_callV2 (bc1 := 0) (bc2 := bc - 1) (bs1 := 0) (bs2 := bs - 6) 527 cl_Law_102 (dx d_Law_law_5 44 rfl) rfl rfl rfl rfl rfl rfl rfl (M_suite hm1 (hxs _) (hxs _) (fun h => absurd hok h) (fun h h2 => absurd h2 (by omega)) (fun h h2 h3 g2 hF2 h0 hm2 => ?_) (fun h h2 h3 => absurd h3 hnf))
    change aj_wp _ _ _ _ _ _ _ _ _ _ _ _ _ _
    refine aj_istore 6 529 (dx d_Law_law_5 45 rfl) rfl rfl ?_
    simp only [List.set]
    refine aj_aload_n 2 530 (dx d_Law_law_5 46 rfl) rfl rfl rfl ?_
    refine aj_callV0 (bc1 := 0) (bc2 := bc - 1) (bs1 := 0) (bs2 := bs - 6) 533 cl_Law_69 (dx d_Law_law_5 47 rfl) rfl rfl rfl rfl rfl rfl rfl (k_Model_thrown rfl ?_)
    change aj_wp _ _ _ _ _ _ _ _ _ _ _ _ _ _
    rw [h0]
    refine aj_iload 5 535 (dx d_Law_law_5 48 rfl) rfl rfl ?_
    refine aj_icmp_same 540 (dx d_Law_law_5 49 rfl) rfl ?_
    refine aj_iload 5 542 (dx d_Law_law_6 2 rfl) rfl rfl ?_
    refine aj_if_ne 557 545 (dx d_Law_law_6 3 rfl) rfl rfl (by unfold aj_I; omega) (fun h542 => ?_) (fun h542 => ?_)
    · refine aj_goto 984 (dx d_Law_law_6 13 rfl) rfl ?_
      exact hnx (cI_of hc1 (fun r' h => hF2 r' (by omega))) hm2 (by omega) (by omega)
    · exact absurd h542 (by decide)
set_option maxHeartbeats 8000000 in
theorem O_run {X : Option (Nat × (Int → Int))} {L i d k n bc bs : Nat} {xs : Int → Int} {g : aj_G} {Q : aj_R → List aj_S → aj_G → Prop} {r r2 : Int} {s0 : Nat} {nx ou : Nat → Nat → Nat} {z : Int} {tw : Nat → Nat} {N : Nat} {q : nb_T} {mnx mou : Nat → Nat → Nat} {mi : Nat} {ix io : Nat → Nat → Nat} {w : List Nat} {v : Int} {S : List Nat → Prop} {fp hd hp : Int} {o5 o6 : Option aj_A} (hX : X = some (L, xs)) (hxs : ∀ j, aj_I (xs j)) (hi : i + 4 < L) (hb : 1 ≤ bc ∧ 6 ≤ bs) (hc : cI (shL k) g r r2 k n s0 nx ou z tw N q mnx mou mi ix io w v S fp hd hp) (hm : mI (shL k) g k n s0 nx ou z tw N q mnx mou mi ix io w v S fp hd hp) (hnx : ∀ {g1 : aj_G} {r r2 : Int} {s0 : Nat} {nx ou : Nat → Nat → Nat} {z : Int} {tw : Nat → Nat} {N : Nat} {q : nb_T} {mnx mou : Nat → Nat → Nat} {mi : Nat} {ix io : Nat → Nat → Nat} {w : List Nat} {v : Int} {S : List Nat → Prop} {fp hd hp : Int} {bc1 bs1 : Nat} {o5 o6 : Option aj_A}, cI (shL k) g1 r r2 k n s0 nx ou z tw N q mnx mou mi ix io w v S fp hd hp → mI (shL k) g1 k n s0 nx ou z tw N q mnx mou mi ix io w v S fp hd hp → bc ≤ bc1 + 1 → bs ≤ bs1 + 6 → aj_wp nE False False X m_Law_law (d + 8) bc1 bs1 984 [some (1, 1000000), some (1, 0), some (1, 78), some (1, 100), some (0, (i : Int)), o5, o6] [] (shL k) g1 Q) : aj_wp nE False False X m_Law_law (d + 8) bc bs 733 [some (1, 1000000), some (1, 0), some (1, 78), some (1, 100), some (0, (i : Int)), o5, o6] [] (shL k) g Q := by
  have hk3 := hc.2.2.1.2.2.2
  refine aj_aload_n 1 734 (dx d_Law_law_8 33 rfl) rfl rfl rfl ?_
  refine aj_aload_n 3 735 (dx d_Law_law_8 34 rfl) rfl rfl rfl ?_
  refine aj_callW (bc1 := 1) (bc2 := bc - 1) (bs1 := 6) (bs2 := bs - 6) [(1, 0), (1, 100)] 738 wl_Law_114 (dx d_Law_law_8 35 rfl) rfl rfl rfl (by omega) (by omega) rfl rfl (L_run hc id rfl (fun hv g1 x fp1 hF hout hr hc1 => ?_) (fun hv => ?_) hm.2.2.2.2.2.2.1)
  · change aj_wp _ _ _ _ _ _ _ _ _ _ _ _ _ _
    have hm1 := mI_fr hm (fun r' h1 h2 => hF r' h1 h2)
    have hT8 := (cI_T hc hv).1
    have hxI : -1 ≤ x ∧ x ≤ 800 := by
      rcases hr with ⟨t, h, e, -⟩ | ⟨e, -⟩ <;> omega
    refine aj_istore 5 740 (dx d_Law_law_8 36 rfl) rfl rfl ?_
    simp only [List.set]
    refine aj_aload_n 2 741 (dx d_Law_law_8 37 rfl) rfl rfl rfl ?_
    refine aj_callV0 (bc1 := 0) (bc2 := bc - 1) (bs1 := 0) (bs2 := bs - 6) 744 cl_Law_116 (dx d_Law_law_8 38 rfl) rfl rfl rfl rfl rfl rfl rfl (M_run hm1 (fun h => absurd h (by omega)) (fun h g2 x2 fp2 hF2 h0 hr2 hm2 => ?_))
    change aj_wp _ _ _ _ _ _ _ _ _ _ _ _ _ _
    obtain ⟨rfl, rfl⟩ := rnR_uniq hr hr2
    have ho : g2 100 0 = _ := (congrFun (hF2 100 (by omega)) 0).trans hout
    refine aj_istore 6 746 (dx d_Law_law_8 39 rfl) rfl rfl ?_
    simp only [List.set]
    refine aj_aload_n 2 747 (dx d_Law_law_8 40 rfl) rfl rfl rfl ?_
    refine aj_callV0 (bc1 := 0) (bc2 := bc - 1) (bs1 := 0) (bs2 := bs - 6) 750 cl_Law_69 (dx d_Law_law_8 41 rfl) rfl rfl rfl rfl rfl rfl rfl (k_Model_thrown rfl ?_)
    change aj_wp _ _ _ _ _ _ _ _ _ _ _ _ _ _
    rw [h0]
    refine aj_iload 5 752 (dx d_Law_law_8 42 rfl) rfl rfl ?_
    refine aj_icmp_same 757 (dx d_Law_law_8 43 rfl) rfl ?_
    refine aj_iload 5 759 (dx d_Law_law_8 46 rfl) rfl rfl ?_
    refine aj_if_ne 774 762 (dx d_Law_law_8 47 rfl) rfl rfl (by unfold aj_I; omega) (fun h759 => ?_) (fun h759 => ?_)
    · exact absurd rfl h759
    · refine aj_aload_n 3 763 (dx d_Law_law_8 48 rfl) rfl rfl rfl ?_
      refine aj_iconst 764 (dx d_Law_law_8 49 rfl) rfl ?_
      refine aj_lald 765 (dx d_Law_law_9 0 rfl) rfl rfl rfl (by omega) (by omega) ?_
      rw [ho]
      refine aj_iload 6 767 (dx d_Law_law_9 1 rfl) rfl rfl ?_
      refine aj_i2l 768 (dx d_Law_law_9 2 rfl) rfl (by unfold aj_I; omega) ?_
      refine aj_lcmp 769 (dx d_Law_law_9 3 rfl) rfl (by unfold aj_L; omega) (by unfold aj_L; omega) ?_
      rw [sg_self]
      refine aj_if_eq 774 772 (dx d_Law_law_9 4 rfl) rfl rfl (by unfold aj_I; omega) (fun h769 => ?_) (fun h769 => ?_)
      · refine aj_goto 984 (dx d_Law_law_9 7 rfl) rfl ?_
        exact hnx (cI_of hc1 (fun r' h => hF2 r' (by omega))) hm2 (by omega) (by omega)
      · exact absurd rfl h769
  · change aj_wp _ _ _ _ _ _ _ _ _ _ _ _ _ _
    refine aj_istore 5 740 (dx d_Law_law_8 36 rfl) rfl rfl ?_
    simp only [List.set]
    refine aj_aload_n 2 741 (dx d_Law_law_8 37 rfl) rfl rfl rfl ?_
    refine aj_callV0 (bc1 := 0) (bc2 := bc - 1) (bs1 := 0) (bs2 := bs - 6) 744 cl_Law_116 (dx d_Law_law_8 38 rfl) rfl rfl rfl rfl rfl rfl rfl (M_run hm (fun h g2 hF2 h0 hm2 => ?_) (fun h => absurd h (by omega)))
    change aj_wp _ _ _ _ _ _ _ _ _ _ _ _ _ _
    refine aj_istore 6 746 (dx d_Law_law_8 39 rfl) rfl rfl ?_
    simp only [List.set]
    refine aj_aload_n 2 747 (dx d_Law_law_8 40 rfl) rfl rfl rfl ?_
    refine aj_callV0 (bc1 := 0) (bc2 := bc - 1) (bs1 := 0) (bs2 := bs - 6) 750 cl_Law_69 (dx d_Law_law_8 41 rfl) rfl rfl rfl rfl rfl rfl rfl (k_Model_thrown rfl ?_)
    change aj_wp _ _ _ _ _ _ _ _ _ _ _ _ _ _
    rw [h0]
    refine aj_iload 5 752 (dx d_Law_law_8 42 rfl) rfl rfl ?_
    refine aj_icmp_same 757 (dx d_Law_law_8 43 rfl) rfl ?_
    refine aj_iload 5 759 (dx d_Law_law_8 46 rfl) rfl rfl ?_
    refine aj_if_ne 774 762 (dx d_Law_law_8 47 rfl) rfl rfl (by unfold aj_I; omega) (fun h759 => ?_) (fun h759 => ?_)
    · refine aj_goto 984 (dx d_Law_law_9 7 rfl) rfl ?_
      exact hnx (cI_of hc (fun r' h => hF2 r' (by omega))) hm2 (by omega) (by omega)
    · exact absurd h759 (by decide)
set_option maxHeartbeats 8000000 in
theorem O_begin {X : Option (Nat × (Int → Int))} {L i d k n bc bs : Nat} {xs : Int → Int} {g : aj_G} {Q : aj_R → List aj_S → aj_G → Prop} {r r2 : Int} {s0 : Nat} {nx ou : Nat → Nat → Nat} {z : Int} {tw : Nat → Nat} {N : Nat} {q : nb_T} {mnx mou : Nat → Nat → Nat} {mi : Nat} {ix io : Nat → Nat → Nat} {w : List Nat} {v : Int} {S : List Nat → Prop} {fp hd hp : Int} {o5 o6 : Option aj_A} (hX : X = some (L, xs)) (hxs : ∀ j, aj_I (xs j)) (hi : i + 4 < L) (hb : 1 ≤ bc ∧ 6 ≤ bs) (hc : cI (shL k) g r r2 k n s0 nx ou z tw N q mnx mou mi ix io w v S fp hd hp) (hm : mI (shL k) g k n s0 nx ou z tw N q mnx mou mi ix io w v S fp hd hp) (hnx : ∀ {g1 : aj_G} {r r2 : Int} {s0 : Nat} {nx ou : Nat → Nat → Nat} {z : Int} {tw : Nat → Nat} {N : Nat} {q : nb_T} {mnx mou : Nat → Nat → Nat} {mi : Nat} {ix io : Nat → Nat → Nat} {w : List Nat} {v : Int} {S : List Nat → Prop} {fp hd hp : Int} {bc1 bs1 : Nat} {o5 o6 : Option aj_A}, cI (shL k) g1 r r2 k n s0 nx ou z tw N q mnx mou mi ix io w v S fp hd hp → mI (shL k) g1 k n s0 nx ou z tw N q mnx mou mi ix io w v S fp hd hp → bc ≤ bc1 + 1 → bs ≤ bs1 + 6 → aj_wp nE False False X m_Law_law (d + 8) bc1 bs1 984 [some (1, 1000000), some (1, 0), some (1, 78), some (1, 100), some (0, (i : Int)), o5, o6] [] (shL k) g1 Q) : aj_wp nE False False X m_Law_law (d + 8) bc bs 790 [some (1, 1000000), some (1, 0), some (1, 78), some (1, 100), some (0, (i : Int)), o5, o6] [] (shL k) g Q := by
  have hk3 := hc.2.2.1.2.2.2
  refine aj_aload_n 1 791 (dx d_Law_law_9 15 rfl) rfl rfl rfl ?_
  refine aj_aload_n 0 792 (dx d_Law_law_9 16 rfl) rfl rfl rfl ?_
  refine aj_iload 4 794 (dx d_Law_law_9 17 rfl) rfl rfl ?_
  refine aj_iconst 795 (dx d_Law_law_9 18 rfl) rfl ?_
  refine aj_iadd 796 (dx d_Law_law_9 19 rfl) rfl ?_
  refine aj_sld 797 (dx d_Law_law_9 20 rfl) rfl hX (by omega) (by omega) ?_
  refine aj_aload_n 3 798 (dx d_Law_law_9 21 rfl) rfl rfl rfl ?_
  refine aj_callW (bc1 := 1) (bc2 := bc - 1) (bs1 := 6) (bs2 := bs - 6) [(1, 0), (0, xs ((i : Int) + 1)), (1, 100)] 801 wl_Law_121 (dx d_Law_law_9 22 rfl) rfl rfl rfl (by omega) (by omega) rfl rfl (L_begin hc id (hxs _) rfl (fun hok g1 hF hout hc1 => ?_) (fun hbad => ?_))
  · change aj_wp _ _ _ _ _ _ _ _ _ _ _ _ _ _
    have hm1 := mI_fr hm (fun r' h1 h2 => hF r' h1 h2)
    have hlt : ltr ((lvF S k 20 []).getD (xs ((i : Int) + 1)).toNat []) 0 < k := by
      rw [List.getD_eq_getElem?_getD, List.getElem?_eq_getElem (show (xs ((i : Int) + 1)).toNat < (lvF S k 20 []).length by omega)]
      exact ltr_lt (by omega) ((cI_T hc hok.1).2 _ _) 0
    refine aj_istore 5 803 (dx d_Law_law_9 23 rfl) rfl rfl ?_
    simp only [List.set]
    refine aj_aload_n 2 804 (dx d_Law_law_9 24 rfl) rfl rfl rfl ?_
    refine aj_aload_n 0 805 (dx d_Law_law_9 25 rfl) rfl rfl rfl ?_
    refine aj_iload 4 807 (dx d_Law_law_9 26 rfl) rfl rfl ?_
    refine aj_iconst 808 (dx d_Law_law_9 27 rfl) rfl ?_
    refine aj_iadd 809 (dx d_Law_law_9 28 rfl) rfl ?_
    refine aj_sld 810 (dx d_Law_law_9 29 rfl) rfl hX (by omega) (by omega) ?_
    refine aj_callV1 (bc1 := 0) (bc2 := bc - 1) (bs1 := 0) (bs2 := bs - 6) 813 cl_Law_124 (dx d_Law_law_9 30 rfl) rfl rfl rfl rfl rfl rfl rfl (M_begin hm1 (hxs _) (fun h => absurd hok h) (fun h g2 hF2 h0 hm2 => ?_))
    change aj_wp _ _ _ _ _ _ _ _ _ _ _ _ _ _
    have ho : g2 100 0 = _ := (congrFun (hF2 100 (by omega)) 0).trans hout
    refine aj_istore 6 815 (dx d_Law_law_9 31 rfl) rfl rfl ?_
    simp only [List.set]
    refine aj_aload_n 2 816 (dx d_Law_law_9 32 rfl) rfl rfl rfl ?_
    refine aj_callV0 (bc1 := 0) (bc2 := bc - 1) (bs1 := 0) (bs2 := bs - 6) 819 cl_Law_69 (dx d_Law_law_9 33 rfl) rfl rfl rfl rfl rfl rfl rfl (k_Model_thrown rfl ?_)
    change aj_wp _ _ _ _ _ _ _ _ _ _ _ _ _ _
    rw [h0]
    refine aj_iload 5 821 (dx d_Law_law_9 34 rfl) rfl rfl ?_
    refine aj_icmp_same 826 (dx d_Law_law_9 35 rfl) rfl ?_
    refine aj_iload 5 828 (dx d_Law_law_9 38 rfl) rfl rfl ?_
    refine aj_if_ne 843 831 (dx d_Law_law_9 39 rfl) rfl rfl (by unfold aj_I; omega) (fun h828 => ?_) (fun h828 => ?_)
    · exact absurd rfl h828
    · refine aj_aload_n 3 832 (dx d_Law_law_9 40 rfl) rfl rfl rfl ?_
      refine aj_iconst 833 (dx d_Law_law_9 41 rfl) rfl ?_
      refine aj_lald 834 (dx d_Law_law_9 42 rfl) rfl rfl rfl (by omega) (by omega) ?_
      rw [ho]
      refine aj_iload 6 836 (dx d_Law_law_9 43 rfl) rfl rfl ?_
      refine aj_i2l 837 (dx d_Law_law_9 44 rfl) rfl (by unfold aj_I; omega) ?_
      refine aj_lcmp 838 (dx d_Law_law_9 45 rfl) rfl (by unfold aj_L; omega) (by unfold aj_L; omega) ?_
      rw [sg_self]
      refine aj_if_eq 843 841 (dx d_Law_law_9 46 rfl) rfl rfl (by unfold aj_I; omega) (fun h838 => ?_) (fun h838 => ?_)
      · refine aj_goto 984 (dx d_Law_law_9 49 rfl) rfl ?_
        exact hnx (cI_of hc1 (fun r' h => hF2 r' (by omega))) hm2 (by omega) (by omega)
      · exact absurd rfl h838
  · change aj_wp _ _ _ _ _ _ _ _ _ _ _ _ _ _
    refine aj_istore 5 803 (dx d_Law_law_9 23 rfl) rfl rfl ?_
    simp only [List.set]
    refine aj_aload_n 2 804 (dx d_Law_law_9 24 rfl) rfl rfl rfl ?_
    refine aj_aload_n 0 805 (dx d_Law_law_9 25 rfl) rfl rfl rfl ?_
    refine aj_iload 4 807 (dx d_Law_law_9 26 rfl) rfl rfl ?_
    refine aj_iconst 808 (dx d_Law_law_9 27 rfl) rfl ?_
    refine aj_iadd 809 (dx d_Law_law_9 28 rfl) rfl ?_
    refine aj_sld 810 (dx d_Law_law_9 29 rfl) rfl hX (by omega) (by omega) ?_
    refine aj_callV1 (bc1 := 0) (bc2 := bc - 1) (bs1 := 0) (bs2 := bs - 6) 813 cl_Law_124 (dx d_Law_law_9 30 rfl) rfl rfl rfl rfl rfl rfl rfl (M_begin hm (hxs _) (fun h g2 hF2 h0 hm2 => ?_) (fun h => absurd h hbad))
    change aj_wp _ _ _ _ _ _ _ _ _ _ _ _ _ _
    refine aj_istore 6 815 (dx d_Law_law_9 31 rfl) rfl rfl ?_
    simp only [List.set]
    refine aj_aload_n 2 816 (dx d_Law_law_9 32 rfl) rfl rfl rfl ?_
    refine aj_callV0 (bc1 := 0) (bc2 := bc - 1) (bs1 := 0) (bs2 := bs - 6) 819 cl_Law_69 (dx d_Law_law_9 33 rfl) rfl rfl rfl rfl rfl rfl rfl (k_Model_thrown rfl ?_)
    change aj_wp _ _ _ _ _ _ _ _ _ _ _ _ _ _
    rw [h0]
    refine aj_iload 5 821 (dx d_Law_law_9 34 rfl) rfl rfl ?_
    refine aj_icmp_same 826 (dx d_Law_law_9 35 rfl) rfl ?_
    refine aj_iload 5 828 (dx d_Law_law_9 38 rfl) rfl rfl ?_
    refine aj_if_ne 843 831 (dx d_Law_law_9 39 rfl) rfl rfl (by unfold aj_I; omega) (fun h828 => ?_) (fun h828 => ?_)
    · refine aj_goto 984 (dx d_Law_law_9 49 rfl) rfl ?_
      exact hnx (cI_of hc (fun r' h => hF2 r' (by omega))) hm2 (by omega) (by omega)
    · exact absurd h828 (by decide)
set_option maxHeartbeats 8000000 in
theorem O_give {X : Option (Nat × (Int → Int))} {L i d k n bc bs : Nat} {xs : Int → Int} {g : aj_G} {Q : aj_R → List aj_S → aj_G → Prop} {r r2 : Int} {s0 : Nat} {nx ou : Nat → Nat → Nat} {z : Int} {tw : Nat → Nat} {N : Nat} {q : nb_T} {mnx mou : Nat → Nat → Nat} {mi : Nat} {ix io : Nat → Nat → Nat} {w : List Nat} {v : Int} {S : List Nat → Prop} {fp hd hp : Int} {o5 o6 : Option aj_A} (hX : X = some (L, xs)) (hxs : ∀ j, aj_I (xs j)) (hi : i + 4 < L) (hb : 1 ≤ bc ∧ 6 ≤ bs) (hc : cI (shL k) g r r2 k n s0 nx ou z tw N q mnx mou mi ix io w v S fp hd hp) (hm : mI (shL k) g k n s0 nx ou z tw N q mnx mou mi ix io w v S fp hd hp) (hnx : ∀ {g1 : aj_G} {r r2 : Int} {s0 : Nat} {nx ou : Nat → Nat → Nat} {z : Int} {tw : Nat → Nat} {N : Nat} {q : nb_T} {mnx mou : Nat → Nat → Nat} {mi : Nat} {ix io : Nat → Nat → Nat} {w : List Nat} {v : Int} {S : List Nat → Prop} {fp hd hp : Int} {bc1 bs1 : Nat} {o5 o6 : Option aj_A}, cI (shL k) g1 r r2 k n s0 nx ou z tw N q mnx mou mi ix io w v S fp hd hp → mI (shL k) g1 k n s0 nx ou z tw N q mnx mou mi ix io w v S fp hd hp → bc ≤ bc1 + 1 → bs ≤ bs1 + 6 → aj_wp nE False False X m_Law_law (d + 8) bc1 bs1 984 [some (1, 1000000), some (1, 0), some (1, 78), some (1, 100), some (0, (i : Int)), o5, o6] [] (shL k) g1 Q) : aj_wp nE False False X m_Law_law (d + 8) bc bs 846 [some (1, 1000000), some (1, 0), some (1, 78), some (1, 100), some (0, (i : Int)), o5, o6] [] (shL k) g Q := by
  have hk3 := hc.2.2.1.2.2.2
  refine aj_aload_n 1 847 (dx d_Law_law_10 0 rfl) rfl rfl rfl ?_
  refine aj_aload_n 0 848 (dx d_Law_law_10 1 rfl) rfl rfl rfl ?_
  refine aj_iload 4 850 (dx d_Law_law_10 2 rfl) rfl rfl ?_
  refine aj_iconst 851 (dx d_Law_law_10 3 rfl) rfl ?_
  refine aj_iadd 852 (dx d_Law_law_10 4 rfl) rfl ?_
  refine aj_sld 853 (dx d_Law_law_10 5 rfl) rfl hX (by omega) (by omega) ?_
  refine aj_aload_n 3 854 (dx d_Law_law_10 6 rfl) rfl rfl rfl ?_
  refine aj_callW (bc1 := 1) (bc2 := bc - 1) (bs1 := 6) (bs2 := bs - 6) [(1, 0), (0, xs ((i : Int) + 1)), (1, 100)] 857 wl_Law_125 (dx d_Law_law_10 7 rfl) rfl rfl rfl (by omega) (by omega) rfl rfl (L_give hc id (hxs _) rfl (fun hm1 => ?_) (fun hne hbad => ?_) (fun hne hok t j ht e1 e2 e3 h4 g1 hF hout hc1 => ?_) (fun hne hok t j ht e1 e2 h4 h5 g1 hF hout hc1 => ?_) (fun hne hok t j ht e1 e2 h4 h5 g1 hF hout hc1 => ?_))
  · change aj_wp _ _ _ _ _ _ _ _ _ _ _ _ _ _
    refine aj_istore 5 859 (dx d_Law_law_10 8 rfl) rfl rfl ?_
    simp only [List.set]
    refine aj_aload_n 2 860 (dx d_Law_law_10 9 rfl) rfl rfl rfl ?_
    refine aj_aload_n 0 861 (dx d_Law_law_10 10 rfl) rfl rfl rfl ?_
    refine aj_iload 4 863 (dx d_Law_law_10 11 rfl) rfl rfl ?_
    refine aj_iconst 864 (dx d_Law_law_10 12 rfl) rfl ?_
    refine aj_iadd 865 (dx d_Law_law_10 13 rfl) rfl ?_
    refine aj_sld 866 (dx d_Law_law_10 14 rfl) rfl hX (by omega) (by omega) ?_
    refine aj_callV1 (bc1 := 0) (bc2 := bc - 1) (bs1 := 0) (bs2 := bs - 6) 869 cl_Law_127 (dx d_Law_law_10 15 rfl) rfl rfl rfl rfl rfl rfl rfl (M_give hm (hxs _) (fun h g2 hF2 h0 hm2 => ?_) (fun h => absurd hm1 h) (fun h => absurd hm1 h) (fun h => absurd hm1 h) (fun h => absurd hm1 h))
    change aj_wp _ _ _ _ _ _ _ _ _ _ _ _ _ _
    refine aj_istore 6 871 (dx d_Law_law_10 16 rfl) rfl rfl ?_
    simp only [List.set]
    refine aj_aload_n 2 872 (dx d_Law_law_10 17 rfl) rfl rfl rfl ?_
    refine aj_callV0 (bc1 := 0) (bc2 := bc - 1) (bs1 := 0) (bs2 := bs - 6) 875 cl_Law_69 (dx d_Law_law_10 18 rfl) rfl rfl rfl rfl rfl rfl rfl (k_Model_thrown rfl ?_)
    change aj_wp _ _ _ _ _ _ _ _ _ _ _ _ _ _
    rw [h0]
    refine aj_iload 5 877 (dx d_Law_law_10 19 rfl) rfl rfl ?_
    refine aj_icmp_same 882 (dx d_Law_law_10 20 rfl) rfl ?_
    refine aj_iload 5 884 (dx d_Law_law_10 23 rfl) rfl rfl ?_
    refine aj_if_ne 899 887 (dx d_Law_law_10 24 rfl) rfl rfl (by unfold aj_I; omega) (fun h884 => ?_) (fun h884 => ?_)
    · refine aj_goto 984 (dx d_Law_law_10 34 rfl) rfl ?_
      exact hnx (cI_of hc (fun r' h => hF2 r' (by omega))) hm2 (by omega) (by omega)
    · exact absurd h884 (by decide)
  · change aj_wp _ _ _ _ _ _ _ _ _ _ _ _ _ _
    refine aj_istore 5 859 (dx d_Law_law_10 8 rfl) rfl rfl ?_
    simp only [List.set]
    refine aj_aload_n 2 860 (dx d_Law_law_10 9 rfl) rfl rfl rfl ?_
    refine aj_aload_n 0 861 (dx d_Law_law_10 10 rfl) rfl rfl rfl ?_
    refine aj_iload 4 863 (dx d_Law_law_10 11 rfl) rfl rfl ?_
    refine aj_iconst 864 (dx d_Law_law_10 12 rfl) rfl ?_
    refine aj_iadd 865 (dx d_Law_law_10 13 rfl) rfl ?_
    refine aj_sld 866 (dx d_Law_law_10 14 rfl) rfl hX (by omega) (by omega) ?_
    refine aj_callV1 (bc1 := 0) (bc2 := bc - 1) (bs1 := 0) (bs2 := bs - 6) 869 cl_Law_127 (dx d_Law_law_10 15 rfl) rfl rfl rfl rfl rfl rfl rfl (M_give2 hm (hxs _) hne hbad (fun g2 hF2 h0 hm2 => ?_))
    change aj_wp _ _ _ _ _ _ _ _ _ _ _ _ _ _
    refine aj_istore 6 871 (dx d_Law_law_10 16 rfl) rfl rfl ?_
    simp only [List.set]
    refine aj_aload_n 2 872 (dx d_Law_law_10 17 rfl) rfl rfl rfl ?_
    refine aj_callV0 (bc1 := 0) (bc2 := bc - 1) (bs1 := 0) (bs2 := bs - 6) 875 cl_Law_69 (dx d_Law_law_10 18 rfl) rfl rfl rfl rfl rfl rfl rfl (k_Model_thrown rfl ?_)
    change aj_wp _ _ _ _ _ _ _ _ _ _ _ _ _ _
    rw [h0]
    refine aj_iload 5 877 (dx d_Law_law_10 19 rfl) rfl rfl ?_
    refine aj_icmp_same 882 (dx d_Law_law_10 20 rfl) rfl ?_
    refine aj_iload 5 884 (dx d_Law_law_10 23 rfl) rfl rfl ?_
    refine aj_if_ne 899 887 (dx d_Law_law_10 24 rfl) rfl rfl (by unfold aj_I; omega) (fun h884 => ?_) (fun h884 => ?_)
    · refine aj_goto 984 (dx d_Law_law_10 34 rfl) rfl ?_
      exact hnx (cI_of hc (fun r' h => hF2 r' (by omega))) hm2 (by omega) (by omega)
    · exact absurd h884 (by decide)
  · change aj_wp _ _ _ _ _ _ _ _ _ _ _ _ _ _
    have hm1 := mI_fr hm (fun r' h1 h2 => hF r' h1 h2)
    refine aj_istore 5 859 (dx d_Law_law_10 8 rfl) rfl rfl ?_
    simp only [List.set]
    refine aj_aload_n 2 860 (dx d_Law_law_10 9 rfl) rfl rfl rfl ?_
    refine aj_aload_n 0 861 (dx d_Law_law_10 10 rfl) rfl rfl rfl ?_
    refine aj_iload 4 863 (dx d_Law_law_10 11 rfl) rfl rfl ?_
    refine aj_iconst 864 (dx d_Law_law_10 12 rfl) rfl ?_
    refine aj_iadd 865 (dx d_Law_law_10 13 rfl) rfl ?_
    refine aj_sld 866 (dx d_Law_law_10 14 rfl) rfl hX (by omega) (by omega) ?_
    refine aj_callV1 (bc1 := 0) (bc2 := bc - 1) (bs1 := 0) (bs2 := bs - 6) 869 cl_Law_127 (dx d_Law_law_10 15 rfl) rfl rfl rfl rfl rfl rfl rfl (M_give hm1 (hxs _) (fun h => absurd h hne) (fun h h2 => absurd hok h2) (fun h t2 j2 ht2 f1 f2 f3 f4 g2 hF2 h0 hm2 => ?_) (fun _ t2 j2 ht2 f1 f2 f3 f4 => by
      obtain rfl : t2 = t := by omega
      obtain rfl : j2 = j := by omega
      exact absurd f3 h4) (fun _ t2 j2 ht2 f1 f2 f3 f4 => by
      obtain rfl : t2 = t := by omega
      obtain rfl : j2 = j := by omega
      exact absurd f3 h4))
    change aj_wp _ _ _ _ _ _ _ _ _ _ _ _ _ _
    have ho : g2 100 0 = _ := (congrFun (hF2 100 (by omega)) 0).trans hout
    refine aj_istore 6 871 (dx d_Law_law_10 16 rfl) rfl rfl ?_
    simp only [List.set]
    refine aj_aload_n 2 872 (dx d_Law_law_10 17 rfl) rfl rfl rfl ?_
    refine aj_callV0 (bc1 := 0) (bc2 := bc - 1) (bs1 := 0) (bs2 := bs - 6) 875 cl_Law_69 (dx d_Law_law_10 18 rfl) rfl rfl rfl rfl rfl rfl rfl (k_Model_thrown rfl ?_)
    change aj_wp _ _ _ _ _ _ _ _ _ _ _ _ _ _
    rw [h0]
    refine aj_iload 5 877 (dx d_Law_law_10 19 rfl) rfl rfl ?_
    refine aj_icmp_same 882 (dx d_Law_law_10 20 rfl) rfl ?_
    refine aj_iload 5 884 (dx d_Law_law_10 23 rfl) rfl rfl ?_
    refine aj_if_ne 899 887 (dx d_Law_law_10 24 rfl) rfl rfl (by unfold aj_I; omega) (fun h884 => ?_) (fun h884 => ?_)
    · exact absurd rfl h884
    · refine aj_aload_n 3 888 (dx d_Law_law_10 25 rfl) rfl rfl rfl ?_
      refine aj_iconst 889 (dx d_Law_law_10 26 rfl) rfl ?_
      refine aj_lald 890 (dx d_Law_law_10 27 rfl) rfl rfl rfl (by omega) (by omega) ?_
      rw [ho]
      refine aj_iload 6 892 (dx d_Law_law_10 28 rfl) rfl rfl ?_
      refine aj_i2l 893 (dx d_Law_law_10 29 rfl) rfl (by unfold aj_I; omega) ?_
      refine aj_lcmp 894 (dx d_Law_law_10 30 rfl) rfl (by unfold aj_L; omega) (by unfold aj_L; omega) ?_
      rw [sg_self]
      refine aj_if_eq 899 897 (dx d_Law_law_10 31 rfl) rfl rfl (by unfold aj_I; omega) (fun h894 => ?_) (fun h894 => ?_)
      · refine aj_goto 984 (dx d_Law_law_10 34 rfl) rfl ?_
        exact hnx (cI_of hc1 (fun r' h => hF2 r' (by omega))) hm2 (by omega) (by omega)
      · exact absurd rfl h894
  · change aj_wp _ _ _ _ _ _ _ _ _ _ _ _ _ _
    have hm1 := mI_fr hm (fun r' h1 h2 => hF r' h1 h2)
    refine aj_istore 5 859 (dx d_Law_law_10 8 rfl) rfl rfl ?_
    simp only [List.set]
    refine aj_aload_n 2 860 (dx d_Law_law_10 9 rfl) rfl rfl rfl ?_
    refine aj_aload_n 0 861 (dx d_Law_law_10 10 rfl) rfl rfl rfl ?_
    refine aj_iload 4 863 (dx d_Law_law_10 11 rfl) rfl rfl ?_
    refine aj_iconst 864 (dx d_Law_law_10 12 rfl) rfl ?_
    refine aj_iadd 865 (dx d_Law_law_10 13 rfl) rfl ?_
    refine aj_sld 866 (dx d_Law_law_10 14 rfl) rfl hX (by omega) (by omega) ?_
    refine aj_callV1 (bc1 := 0) (bc2 := bc - 1) (bs1 := 0) (bs2 := bs - 6) 869 cl_Law_127 (dx d_Law_law_10 15 rfl) rfl rfl rfl rfl rfl rfl rfl (M_give hm1 (hxs _) (fun h => absurd h hne) (fun h h2 => absurd hok h2) (fun _ t2 j2 ht2 f1 f2 f3 f4 => by
      obtain rfl : t2 = t := by omega
      obtain rfl : j2 = j := by omega
      exact absurd h4 f4) (fun h t2 j2 ht2 f1 f2 f3 f4 g2 hF2 h0 hm2 => ?_) (fun _ t2 j2 ht2 f1 f2 f3 f4 => by
      obtain rfl : t2 = t := by omega
      obtain rfl : j2 = j := by omega
      omega))
    change aj_wp _ _ _ _ _ _ _ _ _ _ _ _ _ _
    have ho : g2 100 0 = _ := (congrFun (hF2 100 (by omega)) 0).trans hout
    refine aj_istore 6 871 (dx d_Law_law_10 16 rfl) rfl rfl ?_
    simp only [List.set]
    refine aj_aload_n 2 872 (dx d_Law_law_10 17 rfl) rfl rfl rfl ?_
    refine aj_callV0 (bc1 := 0) (bc2 := bc - 1) (bs1 := 0) (bs2 := bs - 6) 875 cl_Law_69 (dx d_Law_law_10 18 rfl) rfl rfl rfl rfl rfl rfl rfl (k_Model_thrown rfl ?_)
    change aj_wp _ _ _ _ _ _ _ _ _ _ _ _ _ _
    rw [h0]
    refine aj_iload 5 877 (dx d_Law_law_10 19 rfl) rfl rfl ?_
    refine aj_icmp_same 882 (dx d_Law_law_10 20 rfl) rfl ?_
    refine aj_iload 5 884 (dx d_Law_law_10 23 rfl) rfl rfl ?_
    refine aj_if_ne 899 887 (dx d_Law_law_10 24 rfl) rfl rfl (by unfold aj_I; omega) (fun h884 => ?_) (fun h884 => ?_)
    · exact absurd rfl h884
    · refine aj_aload_n 3 888 (dx d_Law_law_10 25 rfl) rfl rfl rfl ?_
      refine aj_iconst 889 (dx d_Law_law_10 26 rfl) rfl ?_
      refine aj_lald 890 (dx d_Law_law_10 27 rfl) rfl rfl rfl (by omega) (by omega) ?_
      rw [ho]
      refine aj_iload 6 892 (dx d_Law_law_10 28 rfl) rfl rfl ?_
      refine aj_i2l 893 (dx d_Law_law_10 29 rfl) rfl (by unfold aj_I; omega) ?_
      refine aj_lcmp 894 (dx d_Law_law_10 30 rfl) rfl (by unfold aj_L; omega) (by unfold aj_L; omega) ?_
      rw [sg_self]
      refine aj_if_eq 899 897 (dx d_Law_law_10 31 rfl) rfl rfl (by unfold aj_I; omega) (fun h894 => ?_) (fun h894 => ?_)
      · refine aj_goto 984 (dx d_Law_law_10 34 rfl) rfl ?_
        exact hnx (cI_of hc1 (fun r' h => hF2 r' (by omega))) hm2 (by omega) (by omega)
      · exact absurd rfl h894
  · change aj_wp _ _ _ _ _ _ _ _ _ _ _ _ _ _
    have hm1 := mI_fr hm (fun r' h1 h2 => hF r' h1 h2)
    have hv1 : v = 1 := by
      rcases hc.2.2.2.2.2.2.2 with ⟨-, -, -, t4⟩ | ⟨t1, -⟩
      · exact absurd t4 hne
      · exact t1
    have hlt : ltr (lvF S k 20 [])[t] (j + 1) < k := ltr_lt (by omega) ((cI_T hc hv1).2 t ht) (j + 1)
    refine aj_istore 5 859 (dx d_Law_law_10 8 rfl) rfl rfl ?_
    simp only [List.set]
    refine aj_aload_n 2 860 (dx d_Law_law_10 9 rfl) rfl rfl rfl ?_
    refine aj_aload_n 0 861 (dx d_Law_law_10 10 rfl) rfl rfl rfl ?_
    refine aj_iload 4 863 (dx d_Law_law_10 11 rfl) rfl rfl ?_
    refine aj_iconst 864 (dx d_Law_law_10 12 rfl) rfl ?_
    refine aj_iadd 865 (dx d_Law_law_10 13 rfl) rfl ?_
    refine aj_sld 866 (dx d_Law_law_10 14 rfl) rfl hX (by omega) (by omega) ?_
    refine aj_callV1 (bc1 := 0) (bc2 := bc - 1) (bs1 := 0) (bs2 := bs - 6) 869 cl_Law_127 (dx d_Law_law_10 15 rfl) rfl rfl rfl rfl rfl rfl rfl (M_give hm1 (hxs _) (fun h => absurd h hne) (fun h h2 => absurd hok h2) (fun _ t2 j2 ht2 f1 f2 f3 f4 => by
      obtain rfl : t2 = t := by omega
      obtain rfl : j2 = j := by omega
      exact absurd h4 f4) (fun _ t2 j2 ht2 f1 f2 f3 f4 => by
      obtain rfl : t2 = t := by omega
      obtain rfl : j2 = j := by omega
      omega) (fun h t2 j2 ht2 f1 f2 f3 f4 g2 hF2 h0 hm2 => ?_))
    change aj_wp _ _ _ _ _ _ _ _ _ _ _ _ _ _
    obtain rfl : t2 = t := by omega
    obtain rfl : j2 = j := by omega
    have ho : g2 100 0 = _ := (congrFun (hF2 100 (by omega)) 0).trans hout
    refine aj_istore 6 871 (dx d_Law_law_10 16 rfl) rfl rfl ?_
    simp only [List.set]
    refine aj_aload_n 2 872 (dx d_Law_law_10 17 rfl) rfl rfl rfl ?_
    refine aj_callV0 (bc1 := 0) (bc2 := bc - 1) (bs1 := 0) (bs2 := bs - 6) 875 cl_Law_69 (dx d_Law_law_10 18 rfl) rfl rfl rfl rfl rfl rfl rfl (k_Model_thrown rfl ?_)
    change aj_wp _ _ _ _ _ _ _ _ _ _ _ _ _ _
    rw [h0]
    refine aj_iload 5 877 (dx d_Law_law_10 19 rfl) rfl rfl ?_
    refine aj_icmp_same 882 (dx d_Law_law_10 20 rfl) rfl ?_
    refine aj_iload 5 884 (dx d_Law_law_10 23 rfl) rfl rfl ?_
    refine aj_if_ne 899 887 (dx d_Law_law_10 24 rfl) rfl rfl (by unfold aj_I; omega) (fun h884 => ?_) (fun h884 => ?_)
    · exact absurd rfl h884
    · refine aj_aload_n 3 888 (dx d_Law_law_10 25 rfl) rfl rfl rfl ?_
      refine aj_iconst 889 (dx d_Law_law_10 26 rfl) rfl ?_
      refine aj_lald 890 (dx d_Law_law_10 27 rfl) rfl rfl rfl (by omega) (by omega) ?_
      rw [ho]
      refine aj_iload 6 892 (dx d_Law_law_10 28 rfl) rfl rfl ?_
      refine aj_i2l 893 (dx d_Law_law_10 29 rfl) rfl (by unfold aj_I; omega) ?_
      refine aj_lcmp 894 (dx d_Law_law_10 30 rfl) rfl (by unfold aj_L; omega) (by unfold aj_L; omega) ?_
      rw [sg_self]
      refine aj_if_eq 899 897 (dx d_Law_law_10 31 rfl) rfl rfl (by unfold aj_I; omega) (fun h894 => ?_) (fun h894 => ?_)
      · refine aj_goto 984 (dx d_Law_law_10 34 rfl) rfl ?_
        exact hnx (cI_of hc1 (fun r' h => hF2 r' (by omega))) hm2 (by omega) (by omega)
      · exact absurd rfl h894
set_option maxHeartbeats 8000000 in
theorem O_minimal {X : Option (Nat × (Int → Int))} {L i d k n bc bs : Nat} {xs : Int → Int} {g : aj_G} {Q : aj_R → List aj_S → aj_G → Prop} {r r2 : Int} {s0 : Nat} {nx ou : Nat → Nat → Nat} {z : Int} {tw : Nat → Nat} {N : Nat} {q : nb_T} {mnx mou : Nat → Nat → Nat} {mi : Nat} {ix io : Nat → Nat → Nat} {w : List Nat} {v : Int} {S : List Nat → Prop} {fp hd hp : Int} {o5 o6 : Option aj_A} (hX : X = some (L, xs)) (hxs : ∀ j, aj_I (xs j)) (hi : i + 4 < L) (hb : 1 ≤ bc ∧ 6 ≤ bs) (hc : cI (shL k) g r r2 k n s0 nx ou z tw N q mnx mou mi ix io w v S fp hd hp) (hm : mI (shL k) g k n s0 nx ou z tw N q mnx mou mi ix io w v S fp hd hp) (hnx : ∀ {g1 : aj_G} {r r2 : Int} {s0 : Nat} {nx ou : Nat → Nat → Nat} {z : Int} {tw : Nat → Nat} {N : Nat} {q : nb_T} {mnx mou : Nat → Nat → Nat} {mi : Nat} {ix io : Nat → Nat → Nat} {w : List Nat} {v : Int} {S : List Nat → Prop} {fp hd hp : Int} {bc1 bs1 : Nat} {o5 o6 : Option aj_A}, cI (shL k) g1 r r2 k n s0 nx ou z tw N q mnx mou mi ix io w v S fp hd hp → mI (shL k) g1 k n s0 nx ou z tw N q mnx mou mi ix io w v S fp hd hp → bc ≤ bc1 + 1 → bs ≤ bs1 + 6 → aj_wp nE False False X m_Law_law (d + 8) bc1 bs1 984 [some (1, 1000000), some (1, 0), some (1, 78), some (1, 100), some (0, (i : Int)), o5, o6] [] (shL k) g1 Q) : aj_wp nE False False X m_Law_law (d + 8) bc bs 300 [some (1, 1000000), some (1, 0), some (1, 78), some (1, 100), some (0, (i : Int)), o5, o6] [] (shL k) g Q := by
  have hk3 := hc.2.2.1.2.2.2
  refine aj_aload_n 1 301 (dx d_Law_law_2 36 rfl) rfl rfl rfl ?_
  refine aj_aload_n 0 302 (dx d_Law_law_2 37 rfl) rfl rfl rfl ?_
  refine aj_iload 4 304 (dx d_Law_law_2 38 rfl) rfl rfl ?_
  refine aj_iconst 305 (dx d_Law_law_2 39 rfl) rfl ?_
  refine aj_iadd 306 (dx d_Law_law_2 40 rfl) rfl ?_
  refine aj_sld 307 (dx d_Law_law_2 41 rfl) rfl hX (by omega) (by omega) ?_
  refine aj_callV1 (bc1 := 0) (bc2 := bc) (bs1 := 0) (bs2 := bs) 310 cl_Law_80 (dx d_Law_law_2 42 rfl) rfl rfl rfl rfl rfl rfl hc.1.1 (k_Bench_minimal hc (hxs _) ?_)
  change aj_wp _ _ _ _ _ _ _ _ _ _ _ _ _ _
  refine aj_aload_n 2 311 (dx d_Law_law_2 43 rfl) rfl rfl rfl ?_
  refine aj_aload_n 0 312 (dx d_Law_law_2 44 rfl) rfl rfl rfl ?_
  refine aj_iload 4 314 (dx d_Law_law_2 45 rfl) rfl rfl ?_
  refine aj_iconst 315 (dx d_Law_law_2 46 rfl) rfl ?_
  refine aj_iadd 316 (dx d_Law_law_2 47 rfl) rfl ?_
  refine aj_sld 317 (dx d_Law_law_2 48 rfl) rfl hX (by omega) (by omega) ?_
  refine aj_callV1 (bc1 := 0) (bc2 := bc) (bs1 := 0) (bs2 := bs) 320 cl_Law_83 (dx d_Law_law_2 49 rfl) rfl rfl rfl rfl rfl rfl rfl (M_minimal hm (hxs _) (fun g2 hF2 hm2 => ?_))
  change aj_wp _ _ _ _ _ _ _ _ _ _ _ _ _ _
  refine aj_icmp_same 984 (dx d_Law_law_3 0 rfl) rfl ?_
  exact hnx (cI_of hc (fun r' h => hF2 r' (by omega))) hm2 (by omega) (by omega)
set_option maxHeartbeats 8000000 in
theorem O_word {X : Option (Nat × (Int → Int))} {L i d k n bc bs : Nat} {xs : Int → Int} {g : aj_G} {Q : aj_R → List aj_S → aj_G → Prop} {r r2 : Int} {s0 : Nat} {nx ou : Nat → Nat → Nat} {z : Int} {tw : Nat → Nat} {N : Nat} {q : nb_T} {mnx mou : Nat → Nat → Nat} {mi : Nat} {ix io : Nat → Nat → Nat} {w : List Nat} {v : Int} {S : List Nat → Prop} {fp hd hp : Int} {o5 o6 : Option aj_A} (hX : X = some (L, xs)) (hxs : ∀ j, aj_I (xs j)) (hi : i + 4 < L) (hb : 1 ≤ bc ∧ 6 ≤ bs) (hc : cI (shL k) g r r2 k n s0 nx ou z tw N q mnx mou mi ix io w v S fp hd hp) (hm : mI (shL k) g k n s0 nx ou z tw N q mnx mou mi ix io w v S fp hd hp) (hnx : ∀ {g1 : aj_G} {r r2 : Int} {s0 : Nat} {nx ou : Nat → Nat → Nat} {z : Int} {tw : Nat → Nat} {N : Nat} {q : nb_T} {mnx mou : Nat → Nat → Nat} {mi : Nat} {ix io : Nat → Nat → Nat} {w : List Nat} {v : Int} {S : List Nat → Prop} {fp hd hp : Int} {bc1 bs1 : Nat} {o5 o6 : Option aj_A}, cI (shL k) g1 r r2 k n s0 nx ou z tw N q mnx mou mi ix io w v S fp hd hp → mI (shL k) g1 k n s0 nx ou z tw N q mnx mou mi ix io w v S fp hd hp → bc ≤ bc1 + 1 → bs ≤ bs1 + 6 → aj_wp nE False False X m_Law_law (d + 8) bc1 bs1 984 [some (1, 1000000), some (1, 0), some (1, 78), some (1, 100), some (0, (i : Int)), o5, o6] [] (shL k) g1 Q) : aj_wp nE False False X m_Law_law (d + 8) bc bs 393 [some (1, 1000000), some (1, 0), some (1, 78), some (1, 100), some (0, (i : Int)), o5, o6] [] (shL k) g Q := by
  have hk3 := hc.2.2.1.2.2.2
  refine aj_aload_n 1 394 (dx d_Law_law_3 48 rfl) rfl rfl rfl ?_
  refine aj_aload_n 0 395 (dx d_Law_law_3 49 rfl) rfl rfl rfl ?_
  refine aj_iload 4 397 (dx d_Law_law_4 0 rfl) rfl rfl ?_
  refine aj_iconst 398 (dx d_Law_law_4 1 rfl) rfl ?_
  refine aj_iadd 399 (dx d_Law_law_4 2 rfl) rfl ?_
  refine aj_sld 400 (dx d_Law_law_4 3 rfl) rfl hX (by omega) (by omega) ?_
  refine aj_callV1 (bc1 := 0) (bc2 := bc) (bs1 := 0) (bs2 := bs) 403 cl_Law_88 (dx d_Law_law_4 4 rfl) rfl rfl rfl rfl rfl rfl hc.1.1 (k_Bench_word hc (hxs _) ?_)
  change aj_wp _ _ _ _ _ _ _ _ _ _ _ _ _ _
  refine aj_aload_n 2 404 (dx d_Law_law_4 5 rfl) rfl rfl rfl ?_
  refine aj_aload_n 0 405 (dx d_Law_law_4 6 rfl) rfl rfl rfl ?_
  refine aj_iload 4 407 (dx d_Law_law_4 7 rfl) rfl rfl ?_
  refine aj_iconst 408 (dx d_Law_law_4 8 rfl) rfl ?_
  refine aj_iadd 409 (dx d_Law_law_4 9 rfl) rfl ?_
  refine aj_sld 410 (dx d_Law_law_4 10 rfl) rfl hX (by omega) (by omega) ?_
  refine aj_callV1 (bc1 := 0) (bc2 := bc) (bs1 := 0) (bs2 := bs) 413 cl_Law_91 (dx d_Law_law_4 11 rfl) rfl rfl rfl rfl rfl rfl rfl (M_word hm (hxs _) (fun g2 hF2 hm2 => ?_))
  change aj_wp _ _ _ _ _ _ _ _ _ _ _ _ _ _
  refine aj_icmp_same 984 (dx d_Law_law_4 12 rfl) rfl ?_
  exact hnx (cI_of hc (fun r' h => hF2 r' (by omega))) hm2 (by omega) (by omega)
set_option maxHeartbeats 8000000 in
theorem O_family {X : Option (Nat × (Int → Int))} {L i d k n bc bs : Nat} {xs : Int → Int} {g : aj_G} {Q : aj_R → List aj_S → aj_G → Prop} {r r2 : Int} {s0 : Nat} {nx ou : Nat → Nat → Nat} {z : Int} {tw : Nat → Nat} {N : Nat} {q : nb_T} {mnx mou : Nat → Nat → Nat} {mi : Nat} {ix io : Nat → Nat → Nat} {w : List Nat} {v : Int} {S : List Nat → Prop} {fp hd hp : Int} {o5 o6 : Option aj_A} (hX : X = some (L, xs)) (hxs : ∀ j, aj_I (xs j)) (hi : i + 4 < L) (hb : 1 ≤ bc ∧ 6 ≤ bs) (hc : cI (shL k) g r r2 k n s0 nx ou z tw N q mnx mou mi ix io w v S fp hd hp) (hm : mI (shL k) g k n s0 nx ou z tw N q mnx mou mi ix io w v S fp hd hp) (hnx : ∀ {g1 : aj_G} {r r2 : Int} {s0 : Nat} {nx ou : Nat → Nat → Nat} {z : Int} {tw : Nat → Nat} {N : Nat} {q : nb_T} {mnx mou : Nat → Nat → Nat} {mi : Nat} {ix io : Nat → Nat → Nat} {w : List Nat} {v : Int} {S : List Nat → Prop} {fp hd hp : Int} {bc1 bs1 : Nat} {o5 o6 : Option aj_A}, cI (shL k) g1 r r2 k n s0 nx ou z tw N q mnx mou mi ix io w v S fp hd hp → mI (shL k) g1 k n s0 nx ou z tw N q mnx mou mi ix io w v S fp hd hp → bc ≤ bc1 + 1 → bs ≤ bs1 + 6 → aj_wp nE False False X m_Law_law (d + 8) bc1 bs1 984 [some (1, 1000000), some (1, 0), some (1, 78), some (1, 100), some (0, (i : Int)), o5, o6] [] (shL k) g1 Q) : aj_wp nE False False X m_Law_law (d + 8) bc bs 418 [some (1, 1000000), some (1, 0), some (1, 78), some (1, 100), some (0, (i : Int)), o5, o6] [] (shL k) g Q := by
  have hk3 := hc.2.2.1.2.2.2
  refine aj_aload_n 1 419 (dx d_Law_law_4 15 rfl) rfl rfl rfl ?_
  refine aj_aload_n 0 420 (dx d_Law_law_4 16 rfl) rfl rfl rfl ?_
  refine aj_iload 4 422 (dx d_Law_law_4 17 rfl) rfl rfl ?_
  refine aj_iconst 423 (dx d_Law_law_4 18 rfl) rfl ?_
  refine aj_iadd 424 (dx d_Law_law_4 19 rfl) rfl ?_
  refine aj_sld 425 (dx d_Law_law_4 20 rfl) rfl hX (by omega) (by omega) ?_
  refine aj_aload_n 0 426 (dx d_Law_law_4 21 rfl) rfl rfl rfl ?_
  refine aj_iload 4 428 (dx d_Law_law_4 22 rfl) rfl rfl ?_
  refine aj_iconst 429 (dx d_Law_law_4 23 rfl) rfl ?_
  refine aj_iadd 430 (dx d_Law_law_4 24 rfl) rfl ?_
  refine aj_sld 431 (dx d_Law_law_4 25 rfl) rfl hX (by omega) (by omega) ?_
  refine aj_callV2 (bc1 := 0) (bc2 := bc) (bs1 := 0) (bs2 := bs) 434 cl_Law_92 (dx d_Law_law_4 26 rfl) rfl rfl rfl rfl rfl rfl hc.1.1 (k_Bench_family hc (hxs _) (hxs _) ?_)
  change aj_wp _ _ _ _ _ _ _ _ _ _ _ _ _ _
  refine aj_aload_n 2 435 (dx d_Law_law_4 27 rfl) rfl rfl rfl ?_
  refine aj_aload_n 0 436 (dx d_Law_law_4 28 rfl) rfl rfl rfl ?_
  refine aj_iload 4 438 (dx d_Law_law_4 29 rfl) rfl rfl ?_
  refine aj_iconst 439 (dx d_Law_law_4 30 rfl) rfl ?_
  refine aj_iadd 440 (dx d_Law_law_4 31 rfl) rfl ?_
  refine aj_sld 441 (dx d_Law_law_4 32 rfl) rfl hX (by omega) (by omega) ?_
  refine aj_aload_n 0 442 (dx d_Law_law_4 33 rfl) rfl rfl rfl ?_
  refine aj_iload 4 444 (dx d_Law_law_4 34 rfl) rfl rfl ?_
  refine aj_iconst 445 (dx d_Law_law_4 35 rfl) rfl ?_
  refine aj_iadd 446 (dx d_Law_law_4 36 rfl) rfl ?_
  refine aj_sld 447 (dx d_Law_law_4 37 rfl) rfl hX (by omega) (by omega) ?_
  refine aj_callV2 (bc1 := 0) (bc2 := bc) (bs1 := 0) (bs2 := bs) 450 cl_Law_95 (dx d_Law_law_4 38 rfl) rfl rfl rfl rfl rfl rfl rfl (M_family hm (hxs _) (hxs _) (fun g2 hF2 hm2 => ?_))
  change aj_wp _ _ _ _ _ _ _ _ _ _ _ _ _ _
  refine aj_icmp_same 984 (dx d_Law_law_4 39 rfl) rfl ?_
  exact hnx (cI_of hc (fun r' h => hF2 r' (by omega))) hm2 (by omega) (by omega)
set_option maxHeartbeats 8000000 in
theorem O_own {X : Option (Nat × (Int → Int))} {L i d k n bc bs : Nat} {xs : Int → Int} {g : aj_G} {Q : aj_R → List aj_S → aj_G → Prop} {r r2 : Int} {s0 : Nat} {nx ou : Nat → Nat → Nat} {z : Int} {tw : Nat → Nat} {N : Nat} {q : nb_T} {mnx mou : Nat → Nat → Nat} {mi : Nat} {ix io : Nat → Nat → Nat} {w : List Nat} {v : Int} {S : List Nat → Prop} {fp hd hp : Int} {o5 o6 : Option aj_A} (hX : X = some (L, xs)) (hxs : ∀ j, aj_I (xs j)) (hi : i + 4 < L) (hb : 1 ≤ bc ∧ 6 ≤ bs) (hc : cI (shL k) g r r2 k n s0 nx ou z tw N q mnx mou mi ix io w v S fp hd hp) (hm : mI (shL k) g k n s0 nx ou z tw N q mnx mou mi ix io w v S fp hd hp) (hnx : ∀ {g1 : aj_G} {r r2 : Int} {s0 : Nat} {nx ou : Nat → Nat → Nat} {z : Int} {tw : Nat → Nat} {N : Nat} {q : nb_T} {mnx mou : Nat → Nat → Nat} {mi : Nat} {ix io : Nat → Nat → Nat} {w : List Nat} {v : Int} {S : List Nat → Prop} {fp hd hp : Int} {bc1 bs1 : Nat} {o5 o6 : Option aj_A}, cI (shL k) g1 r r2 k n s0 nx ou z tw N q mnx mou mi ix io w v S fp hd hp → mI (shL k) g1 k n s0 nx ou z tw N q mnx mou mi ix io w v S fp hd hp → bc ≤ bc1 + 1 → bs ≤ bs1 + 6 → aj_wp nE False False X m_Law_law (d + 8) bc1 bs1 984 [some (1, 1000000), some (1, 0), some (1, 78), some (1, 100), some (0, (i : Int)), o5, o6] [] (shL k) g1 Q) : aj_wp nE False False X m_Law_law (d + 8) bc bs 455 [some (1, 1000000), some (1, 0), some (1, 78), some (1, 100), some (0, (i : Int)), o5, o6] [] (shL k) g Q := by
  have hk3 := hc.2.2.1.2.2.2
  refine aj_aload_n 1 456 (dx d_Law_law_4 42 rfl) rfl rfl rfl ?_
  refine aj_aload_n 0 457 (dx d_Law_law_4 43 rfl) rfl rfl rfl ?_
  refine aj_iload 4 459 (dx d_Law_law_4 44 rfl) rfl rfl ?_
  refine aj_iconst 460 (dx d_Law_law_4 45 rfl) rfl ?_
  refine aj_iadd 461 (dx d_Law_law_4 46 rfl) rfl ?_
  refine aj_sld 462 (dx d_Law_law_4 47 rfl) rfl hX (by omega) (by omega) ?_
  refine aj_aload_n 0 463 (dx d_Law_law_4 48 rfl) rfl rfl rfl ?_
  refine aj_iload 4 465 (dx d_Law_law_4 49 rfl) rfl rfl ?_
  refine aj_iconst 466 (dx d_Law_law_5 0 rfl) rfl ?_
  refine aj_iadd 467 (dx d_Law_law_5 1 rfl) rfl ?_
  refine aj_sld 468 (dx d_Law_law_5 2 rfl) rfl hX (by omega) (by omega) ?_
  refine aj_callV2 (bc1 := 0) (bc2 := bc) (bs1 := 0) (bs2 := bs) 471 cl_Law_96 (dx d_Law_law_5 3 rfl) rfl rfl rfl rfl rfl rfl hc.1.1 (k_Bench_own hc (hxs _) (hxs _) ?_)
  change aj_wp _ _ _ _ _ _ _ _ _ _ _ _ _ _
  refine aj_aload_n 2 472 (dx d_Law_law_5 4 rfl) rfl rfl rfl ?_
  refine aj_aload_n 0 473 (dx d_Law_law_5 5 rfl) rfl rfl rfl ?_
  refine aj_iload 4 475 (dx d_Law_law_5 6 rfl) rfl rfl ?_
  refine aj_iconst 476 (dx d_Law_law_5 7 rfl) rfl ?_
  refine aj_iadd 477 (dx d_Law_law_5 8 rfl) rfl ?_
  refine aj_sld 478 (dx d_Law_law_5 9 rfl) rfl hX (by omega) (by omega) ?_
  refine aj_aload_n 0 479 (dx d_Law_law_5 10 rfl) rfl rfl rfl ?_
  refine aj_iload 4 481 (dx d_Law_law_5 11 rfl) rfl rfl ?_
  refine aj_iconst 482 (dx d_Law_law_5 12 rfl) rfl ?_
  refine aj_iadd 483 (dx d_Law_law_5 13 rfl) rfl ?_
  refine aj_sld 484 (dx d_Law_law_5 14 rfl) rfl hX (by omega) (by omega) ?_
  refine aj_callV2 (bc1 := 0) (bc2 := bc) (bs1 := 0) (bs2 := bs) 487 cl_Law_99 (dx d_Law_law_5 15 rfl) rfl rfl rfl rfl rfl rfl rfl (M_own hm (hxs _) (hxs _) (fun g2 hF2 hm2 => ?_))
  change aj_wp _ _ _ _ _ _ _ _ _ _ _ _ _ _
  refine aj_icmp_same 984 (dx d_Law_law_5 16 rfl) rfl ?_
  exact hnx (cI_of hc (fun r' h => hF2 r' (by omega))) hm2 (by omega) (by omega)
set_option maxHeartbeats 8000000 in
theorem O_failed {X : Option (Nat × (Int → Int))} {L i d k n bc bs : Nat} {xs : Int → Int} {g : aj_G} {Q : aj_R → List aj_S → aj_G → Prop} {r r2 : Int} {s0 : Nat} {nx ou : Nat → Nat → Nat} {z : Int} {tw : Nat → Nat} {N : Nat} {q : nb_T} {mnx mou : Nat → Nat → Nat} {mi : Nat} {ix io : Nat → Nat → Nat} {w : List Nat} {v : Int} {S : List Nat → Prop} {fp hd hp : Int} {o5 o6 : Option aj_A} (hX : X = some (L, xs)) (hxs : ∀ j, aj_I (xs j)) (hi : i + 4 < L) (hb : 1 ≤ bc ∧ 6 ≤ bs) (hc : cI (shL k) g r r2 k n s0 nx ou z tw N q mnx mou mi ix io w v S fp hd hp) (hm : mI (shL k) g k n s0 nx ou z tw N q mnx mou mi ix io w v S fp hd hp) (hnx : ∀ {g1 : aj_G} {r r2 : Int} {s0 : Nat} {nx ou : Nat → Nat → Nat} {z : Int} {tw : Nat → Nat} {N : Nat} {q : nb_T} {mnx mou : Nat → Nat → Nat} {mi : Nat} {ix io : Nat → Nat → Nat} {w : List Nat} {v : Int} {S : List Nat → Prop} {fp hd hp : Int} {bc1 bs1 : Nat} {o5 o6 : Option aj_A}, cI (shL k) g1 r r2 k n s0 nx ou z tw N q mnx mou mi ix io w v S fp hd hp → mI (shL k) g1 k n s0 nx ou z tw N q mnx mou mi ix io w v S fp hd hp → bc ≤ bc1 + 1 → bs ≤ bs1 + 6 → aj_wp nE False False X m_Law_law (d + 8) bc1 bs1 984 [some (1, 1000000), some (1, 0), some (1, 78), some (1, 100), some (0, (i : Int)), o5, o6] [] (shL k) g1 Q) : aj_wp nE False False X m_Law_law (d + 8) bc bs 777 [some (1, 1000000), some (1, 0), some (1, 78), some (1, 100), some (0, (i : Int)), o5, o6] [] (shL k) g Q := by
  have hk3 := hc.2.2.1.2.2.2
  refine aj_aload_n 1 778 (dx d_Law_law_9 8 rfl) rfl rfl rfl ?_
  refine aj_callV0 (bc1 := 0) (bc2 := bc) (bs1 := 0) (bs2 := bs) 781 cl_Law_117 (dx d_Law_law_9 9 rfl) rfl rfl rfl rfl rfl rfl hc.1.1 (k_Bench_failed hc ?_)
  change aj_wp _ _ _ _ _ _ _ _ _ _ _ _ _ _
  refine aj_aload_n 2 782 (dx d_Law_law_9 10 rfl) rfl rfl rfl ?_
  refine aj_callV0 (bc1 := 0) (bc2 := bc) (bs1 := 0) (bs2 := bs) 785 cl_Law_120 (dx d_Law_law_9 11 rfl) rfl rfl rfl rfl rfl rfl rfl (M_failed hm (fun g2 hF2 hm2 => ?_))
  change aj_wp _ _ _ _ _ _ _ _ _ _ _ _ _ _
  refine aj_icmp_same 984 (dx d_Law_law_9 12 rfl) rfl ?_
  exact hnx (cI_of hc (fun r' h => hF2 r' (by omega))) hm2 (by omega) (by omega)
set_option maxHeartbeats 8000000 in
theorem O_covered {X : Option (Nat × (Int → Int))} {L i d k n bc bs : Nat} {xs : Int → Int} {g : aj_G} {Q : aj_R → List aj_S → aj_G → Prop} {r r2 : Int} {s0 : Nat} {nx ou : Nat → Nat → Nat} {z : Int} {tw : Nat → Nat} {N : Nat} {q : nb_T} {mnx mou : Nat → Nat → Nat} {mi : Nat} {ix io : Nat → Nat → Nat} {w : List Nat} {v : Int} {S : List Nat → Prop} {fp hd hp : Int} {o5 o6 : Option aj_A} (hX : X = some (L, xs)) (hxs : ∀ j, aj_I (xs j)) (hi : i + 4 < L) (hb : 1 ≤ bc ∧ 6 ≤ bs) (hc : cI (shL k) g r r2 k n s0 nx ou z tw N q mnx mou mi ix io w v S fp hd hp) (hm : mI (shL k) g k n s0 nx ou z tw N q mnx mou mi ix io w v S fp hd hp) (hnx : ∀ {g1 : aj_G} {r r2 : Int} {s0 : Nat} {nx ou : Nat → Nat → Nat} {z : Int} {tw : Nat → Nat} {N : Nat} {q : nb_T} {mnx mou : Nat → Nat → Nat} {mi : Nat} {ix io : Nat → Nat → Nat} {w : List Nat} {v : Int} {S : List Nat → Prop} {fp hd hp : Int} {bc1 bs1 : Nat} {o5 o6 : Option aj_A}, cI (shL k) g1 r r2 k n s0 nx ou z tw N q mnx mou mi ix io w v S fp hd hp → mI (shL k) g1 k n s0 nx ou z tw N q mnx mou mi ix io w v S fp hd hp → bc ≤ bc1 + 1 → bs ≤ bs1 + 6 → aj_wp nE False False X m_Law_law (d + 8) bc1 bs1 984 [some (1, 1000000), some (1, 0), some (1, 78), some (1, 100), some (0, (i : Int)), o5, o6] [] (shL k) g1 Q) : aj_wp nE False False X m_Law_law (d + 8) bc bs 946 [some (1, 1000000), some (1, 0), some (1, 78), some (1, 100), some (0, (i : Int)), o5, o6] [] (shL k) g Q := by
  have hk3 := hc.2.2.1.2.2.2
  refine aj_aload_n 1 947 (dx d_Law_law_11 10 rfl) rfl rfl rfl ?_
  refine aj_callV0 (bc1 := 0) (bc2 := bc) (bs1 := 0) (bs2 := bs) 950 cl_Law_131 (dx d_Law_law_11 11 rfl) rfl rfl rfl rfl rfl rfl hc.1.1 (k_Bench_covered hc ?_)
  change aj_wp _ _ _ _ _ _ _ _ _ _ _ _ _ _
  refine aj_aload_n 2 951 (dx d_Law_law_11 12 rfl) rfl rfl rfl ?_
  refine aj_callV0 (bc1 := 0) (bc2 := bc) (bs1 := 0) (bs2 := bs) 954 cl_Law_134 (dx d_Law_law_11 13 rfl) rfl rfl rfl rfl rfl rfl rfl (M_covered hm (fun g2 hF2 hm2 => ?_))
  change aj_wp _ _ _ _ _ _ _ _ _ _ _ _ _ _
  refine aj_icmp_same 984 (dx d_Law_law_11 14 rfl) rfl ?_
  exact hnx (cI_of hc (fun r' h => hF2 r' (by omega))) hm2 (by omega) (by omega)
set_option maxHeartbeats 8000000 in
theorem O_look {X : Option (Nat × (Int → Int))} {L i d k n bc bs : Nat} {xs : Int → Int} {g : aj_G} {Q : aj_R → List aj_S → aj_G → Prop} {r r2 : Int} {s0 : Nat} {nx ou : Nat → Nat → Nat} {z : Int} {tw : Nat → Nat} {N : Nat} {q : nb_T} {mnx mou : Nat → Nat → Nat} {mi : Nat} {ix io : Nat → Nat → Nat} {w : List Nat} {v : Int} {S : List Nat → Prop} {fp hd hp : Int} {o5 o6 : Option aj_A} (hX : X = some (L, xs)) (hxs : ∀ j, aj_I (xs j)) (hi : i + 4 < L) (hb : 1 ≤ bc ∧ 6 ≤ bs) (hc : cI (shL k) g r r2 k n s0 nx ou z tw N q mnx mou mi ix io w v S fp hd hp) (hm : mI (shL k) g k n s0 nx ou z tw N q mnx mou mi ix io w v S fp hd hp) (hnx : ∀ {g1 : aj_G} {r r2 : Int} {s0 : Nat} {nx ou : Nat → Nat → Nat} {z : Int} {tw : Nat → Nat} {N : Nat} {q : nb_T} {mnx mou : Nat → Nat → Nat} {mi : Nat} {ix io : Nat → Nat → Nat} {w : List Nat} {v : Int} {S : List Nat → Prop} {fp hd hp : Int} {bc1 bs1 : Nat} {o5 o6 : Option aj_A}, cI (shL k) g1 r r2 k n s0 nx ou z tw N q mnx mou mi ix io w v S fp hd hp → mI (shL k) g1 k n s0 nx ou z tw N q mnx mou mi ix io w v S fp hd hp → bc ≤ bc1 + 1 → bs ≤ bs1 + 6 → aj_wp nE False False X m_Law_law (d + 8) bc1 bs1 984 [some (1, 1000000), some (1, 0), some (1, 78), some (1, 100), some (0, (i : Int)), o5, o6] [] (shL k) g1 Q) : aj_wp nE False False X m_Law_law (d + 8) bc bs 959 [some (1, 1000000), some (1, 0), some (1, 78), some (1, 100), some (0, (i : Int)), o5, o6] [] (shL k) g Q := by
  have hk3 := hc.2.2.1.2.2.2
  refine aj_aload_n 1 960 (dx d_Law_law_11 17 rfl) rfl rfl rfl ?_
  refine aj_aload_n 0 961 (dx d_Law_law_11 18 rfl) rfl rfl rfl ?_
  refine aj_iload 4 963 (dx d_Law_law_11 19 rfl) rfl rfl ?_
  refine aj_iconst 964 (dx d_Law_law_11 20 rfl) rfl ?_
  refine aj_iadd 965 (dx d_Law_law_11 21 rfl) rfl ?_
  refine aj_sld 966 (dx d_Law_law_11 22 rfl) rfl hX (by omega) (by omega) ?_
  refine aj_callV1 (bc1 := 0) (bc2 := bc) (bs1 := 0) (bs2 := bs) 969 cl_Law_135 (dx d_Law_law_11 23 rfl) rfl rfl rfl rfl rfl rfl hc.1.1 (k_Bench_look hc (hxs _) ?_)
  change aj_wp _ _ _ _ _ _ _ _ _ _ _ _ _ _
  refine aj_aload_n 2 970 (dx d_Law_law_11 24 rfl) rfl rfl rfl ?_
  refine aj_aload_n 0 971 (dx d_Law_law_11 25 rfl) rfl rfl rfl ?_
  refine aj_iload 4 973 (dx d_Law_law_11 26 rfl) rfl rfl ?_
  refine aj_iconst 974 (dx d_Law_law_11 27 rfl) rfl ?_
  refine aj_iadd 975 (dx d_Law_law_11 28 rfl) rfl ?_
  refine aj_sld 976 (dx d_Law_law_11 29 rfl) rfl hX (by omega) (by omega) ?_
  refine aj_callV1 (bc1 := 0) (bc2 := bc) (bs1 := 0) (bs2 := bs) 979 cl_Law_138 (dx d_Law_law_11 30 rfl) rfl rfl rfl rfl rfl rfl rfl (M_look hm (hxs _) (fun g2 hF2 hm2 => ?_))
  change aj_wp _ _ _ _ _ _ _ _ _ _ _ _ _ _
  refine aj_icmp_same 984 (dx d_Law_law_11 31 rfl) rfl ?_
  exact hnx (cI_of hc (fun r' h => hF2 r' (by omega))) hm2 (by omega) (by omega)
set_option maxHeartbeats 8000000 in
theorem O_test {X : Option (Nat × (Int → Int))} {L i d k n bc bs : Nat} {xs : Int → Int} {g : aj_G} {Q : aj_R → List aj_S → aj_G → Prop} {r r2 : Int} {s0 : Nat} {nx ou : Nat → Nat → Nat} {z : Int} {tw : Nat → Nat} {N : Nat} {q : nb_T} {mnx mou : Nat → Nat → Nat} {mi : Nat} {ix io : Nat → Nat → Nat} {w : List Nat} {v : Int} {S : List Nat → Prop} {fp hd hp : Int} {o5 o6 : Option aj_A} (hX : X = some (L, xs)) (hxs : ∀ j, aj_I (xs j)) (hi : i + 4 < L) (hb : 1 ≤ bc ∧ 6 ≤ bs) (hc : cI (shL k) g r r2 k n s0 nx ou z tw N q mnx mou mi ix io w v S fp hd hp) (hm : mI (shL k) g k n s0 nx ou z tw N q mnx mou mi ix io w v S fp hd hp) (hnx : ∀ {g1 : aj_G} {r r2 : Int} {s0 : Nat} {nx ou : Nat → Nat → Nat} {z : Int} {tw : Nat → Nat} {N : Nat} {q : nb_T} {mnx mou : Nat → Nat → Nat} {mi : Nat} {ix io : Nat → Nat → Nat} {w : List Nat} {v : Int} {S : List Nat → Prop} {fp hd hp : Int} {bc1 bs1 : Nat} {o5 o6 : Option aj_A}, cI (shL k) g1 r r2 k n s0 nx ou z tw N q mnx mou mi ix io w v S fp hd hp → mI (shL k) g1 k n s0 nx ou z tw N q mnx mou mi ix io w v S fp hd hp → bc ≤ bc1 + 1 → bs ≤ bs1 + 6 → aj_wp nE False False X m_Law_law (d + 8) bc1 bs1 984 [some (1, 1000000), some (1, 0), some (1, 78), some (1, 100), some (0, (i : Int)), o5, o6] [] (shL k) g1 Q) : aj_wp nE False False X m_Law_law (d + 8) bc bs 560 [some (1, 1000000), some (1, 0), some (1, 78), some (1, 100), some (0, (i : Int)), o5, o6] [] (shL k) g Q := by
  have hk3 := hc.2.2.1.2.2.2
  by_cases he : xs ((i : Int) + 3) = 0
  · refine aj_aload_n 1 561 (dx d_Law_law_6 14 rfl) rfl rfl rfl ?_
    refine aj_aload_n 0 562 (dx d_Law_law_6 15 rfl) rfl rfl rfl ?_
    refine aj_iload 4 564 (dx d_Law_law_6 16 rfl) rfl rfl ?_
    refine aj_iconst 565 (dx d_Law_law_6 17 rfl) rfl ?_
    refine aj_iadd 566 (dx d_Law_law_6 18 rfl) rfl ?_
    refine aj_sld 567 (dx d_Law_law_6 19 rfl) rfl hX (by omega) (by omega) ?_
    refine aj_aload_n 0 568 (dx d_Law_law_6 20 rfl) rfl rfl rfl ?_
    refine aj_iload 4 570 (dx d_Law_law_6 21 rfl) rfl rfl ?_
    refine aj_iconst 571 (dx d_Law_law_6 22 rfl) rfl ?_
    refine aj_iadd 572 (dx d_Law_law_6 23 rfl) rfl ?_
    refine aj_sld 573 (dx d_Law_law_6 24 rfl) rfl hX (by omega) (by omega) ?_
    refine aj_aload_n 0 574 (dx d_Law_law_6 25 rfl) rfl rfl rfl ?_
    refine aj_iload 4 576 (dx d_Law_law_6 26 rfl) rfl rfl ?_
    refine aj_iconst 577 (dx d_Law_law_6 27 rfl) rfl ?_
    refine aj_iadd 578 (dx d_Law_law_6 28 rfl) rfl ?_
    refine aj_sld 579 (dx d_Law_law_6 29 rfl) rfl hX (by omega) (by omega) ?_
    refine aj_if_eq 586 582 (dx d_Law_law_6 30 rfl) rfl rfl (hxs _) (fun h579 => ?_) (fun h579 => ?_)
    · refine aj_iconst 587 (dx d_Law_law_6 33 rfl) rfl ?_
      refine aj_callV3 (bc1 := 0) (bc2 := bc) (bs1 := 0) (bs2 := bs) 590 cl_Law_103 (dx d_Law_law_6 34 rfl) rfl rfl rfl rfl rfl rfl hc.1.1 (k_Bench_test hc (hxs _) (hxs _) (by omega) ?_)
      change aj_wp _ _ _ _ _ _ _ _ _ _ _ _ _ _
      refine aj_aload_n 2 591 (dx d_Law_law_6 35 rfl) rfl rfl rfl ?_
      refine aj_aload_n 0 592 (dx d_Law_law_6 36 rfl) rfl rfl rfl ?_
      refine aj_iload 4 594 (dx d_Law_law_6 37 rfl) rfl rfl ?_
      refine aj_iconst 595 (dx d_Law_law_6 38 rfl) rfl ?_
      refine aj_iadd 596 (dx d_Law_law_6 39 rfl) rfl ?_
      refine aj_sld 597 (dx d_Law_law_6 40 rfl) rfl hX (by omega) (by omega) ?_
      refine aj_aload_n 0 598 (dx d_Law_law_6 41 rfl) rfl rfl rfl ?_
      refine aj_iload 4 600 (dx d_Law_law_6 42 rfl) rfl rfl ?_
      refine aj_iconst 601 (dx d_Law_law_6 43 rfl) rfl ?_
      refine aj_iadd 602 (dx d_Law_law_6 44 rfl) rfl ?_
      refine aj_sld 603 (dx d_Law_law_6 45 rfl) rfl hX (by omega) (by omega) ?_
      refine aj_aload_n 0 604 (dx d_Law_law_6 46 rfl) rfl rfl rfl ?_
      refine aj_iload 4 606 (dx d_Law_law_6 47 rfl) rfl rfl ?_
      refine aj_iconst 607 (dx d_Law_law_6 48 rfl) rfl ?_
      refine aj_iadd 608 (dx d_Law_law_6 49 rfl) rfl ?_
      refine aj_sld 609 (dx d_Law_law_7 0 rfl) rfl hX (by omega) (by omega) ?_
      refine aj_if_eq 616 612 (dx d_Law_law_7 1 rfl) rfl rfl (hxs _) (fun h609 => ?_) (fun h609 => ?_)
      · refine aj_iconst 617 (dx d_Law_law_7 4 rfl) rfl ?_
        refine aj_callV3 (bc1 := 0) (bc2 := bc) (bs1 := 0) (bs2 := bs) 620 cl_Law_107 (dx d_Law_law_7 5 rfl) rfl rfl rfl rfl rfl rfl rfl (M_test hm (hxs _) (hxs _) (by omega) (fun g2 hF2 hm2 => ?_))
        change aj_wp _ _ _ _ _ _ _ _ _ _ _ _ _ _
        refine aj_icmp_same 984 (dx d_Law_law_7 6 rfl) rfl ?_
        exact hnx (cI_of hc (fun r' h => hF2 r' (by omega))) hm2 (by omega) (by omega)
      · exact absurd he h609
    · exact absurd he h579
  · refine aj_aload_n 1 561 (dx d_Law_law_6 14 rfl) rfl rfl rfl ?_
    refine aj_aload_n 0 562 (dx d_Law_law_6 15 rfl) rfl rfl rfl ?_
    refine aj_iload 4 564 (dx d_Law_law_6 16 rfl) rfl rfl ?_
    refine aj_iconst 565 (dx d_Law_law_6 17 rfl) rfl ?_
    refine aj_iadd 566 (dx d_Law_law_6 18 rfl) rfl ?_
    refine aj_sld 567 (dx d_Law_law_6 19 rfl) rfl hX (by omega) (by omega) ?_
    refine aj_aload_n 0 568 (dx d_Law_law_6 20 rfl) rfl rfl rfl ?_
    refine aj_iload 4 570 (dx d_Law_law_6 21 rfl) rfl rfl ?_
    refine aj_iconst 571 (dx d_Law_law_6 22 rfl) rfl ?_
    refine aj_iadd 572 (dx d_Law_law_6 23 rfl) rfl ?_
    refine aj_sld 573 (dx d_Law_law_6 24 rfl) rfl hX (by omega) (by omega) ?_
    refine aj_aload_n 0 574 (dx d_Law_law_6 25 rfl) rfl rfl rfl ?_
    refine aj_iload 4 576 (dx d_Law_law_6 26 rfl) rfl rfl ?_
    refine aj_iconst 577 (dx d_Law_law_6 27 rfl) rfl ?_
    refine aj_iadd 578 (dx d_Law_law_6 28 rfl) rfl ?_
    refine aj_sld 579 (dx d_Law_law_6 29 rfl) rfl hX (by omega) (by omega) ?_
    refine aj_if_eq 586 582 (dx d_Law_law_6 30 rfl) rfl rfl (hxs _) (fun h579 => ?_) (fun h579 => ?_)
    · exact absurd h579 he
    · refine aj_iconst 583 (dx d_Law_law_6 31 rfl) rfl ?_
      refine aj_goto 587 (dx d_Law_law_6 32 rfl) rfl ?_
      refine aj_callV3 (bc1 := 0) (bc2 := bc) (bs1 := 0) (bs2 := bs) 590 cl_Law_103 (dx d_Law_law_6 34 rfl) rfl rfl rfl rfl rfl rfl hc.1.1 (k_Bench_test hc (hxs _) (hxs _) (by omega) ?_)
      change aj_wp _ _ _ _ _ _ _ _ _ _ _ _ _ _
      refine aj_aload_n 2 591 (dx d_Law_law_6 35 rfl) rfl rfl rfl ?_
      refine aj_aload_n 0 592 (dx d_Law_law_6 36 rfl) rfl rfl rfl ?_
      refine aj_iload 4 594 (dx d_Law_law_6 37 rfl) rfl rfl ?_
      refine aj_iconst 595 (dx d_Law_law_6 38 rfl) rfl ?_
      refine aj_iadd 596 (dx d_Law_law_6 39 rfl) rfl ?_
      refine aj_sld 597 (dx d_Law_law_6 40 rfl) rfl hX (by omega) (by omega) ?_
      refine aj_aload_n 0 598 (dx d_Law_law_6 41 rfl) rfl rfl rfl ?_
      refine aj_iload 4 600 (dx d_Law_law_6 42 rfl) rfl rfl ?_
      refine aj_iconst 601 (dx d_Law_law_6 43 rfl) rfl ?_
      refine aj_iadd 602 (dx d_Law_law_6 44 rfl) rfl ?_
      refine aj_sld 603 (dx d_Law_law_6 45 rfl) rfl hX (by omega) (by omega) ?_
      refine aj_aload_n 0 604 (dx d_Law_law_6 46 rfl) rfl rfl rfl ?_
      refine aj_iload 4 606 (dx d_Law_law_6 47 rfl) rfl rfl ?_
      refine aj_iconst 607 (dx d_Law_law_6 48 rfl) rfl ?_
      refine aj_iadd 608 (dx d_Law_law_6 49 rfl) rfl ?_
      refine aj_sld 609 (dx d_Law_law_7 0 rfl) rfl hX (by omega) (by omega) ?_
      refine aj_if_eq 616 612 (dx d_Law_law_7 1 rfl) rfl rfl (hxs _) (fun h609 => ?_) (fun h609 => ?_)
      · exact absurd h609 he
      · refine aj_iconst 613 (dx d_Law_law_7 2 rfl) rfl ?_
        refine aj_goto 617 (dx d_Law_law_7 3 rfl) rfl ?_
        refine aj_callV3 (bc1 := 0) (bc2 := bc) (bs1 := 0) (bs2 := bs) 620 cl_Law_107 (dx d_Law_law_7 5 rfl) rfl rfl rfl rfl rfl rfl rfl (M_test hm (hxs _) (hxs _) (by omega) (fun g2 hF2 hm2 => ?_))
        change aj_wp _ _ _ _ _ _ _ _ _ _ _ _ _ _
        refine aj_icmp_same 984 (dx d_Law_law_7 6 rfl) rfl ?_
        exact hnx (cI_of hc (fun r' h => hF2 r' (by omega))) hm2 (by omega) (by omega)
