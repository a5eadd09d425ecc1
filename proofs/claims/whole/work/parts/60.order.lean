/-! Suite: orderTests, and what is asked of a suite that is made -/
theorem lvc_cg2 {S : List Nat → Prop} {k : Nat} {L L' : List Nat → List (List Nat)} {w : List Nat} (h : ∀ a, a < k → L (a :: w) = L' (a :: w)) : ∀ j, j ≤ k → lvc S k L w j = lvc S k L' w j
  | 0, _ => rfl
  | j + 1, hj => by
    show @ite (List (List Nat)) (S ((k - (j + 1)) :: w)) (Classical.propDecidable _) (L ((k - (j + 1)) :: w)) [] ++ lvc S k L w j = @ite (List (List Nat)) (S ((k - (j + 1)) :: w)) (Classical.propDecidable _) (L' ((k - (j + 1)) :: w)) [] ++ lvc S k L' w j
    rw [lvc_cg2 h j (by omega), h _ (by omega)]
noncomputable def lvL (S : List Nat → Prop) (k : Nat) (v : List Nat) : List (List Nat) := lvF S k (20 - v.length) v
noncomputable def ndL (S : List Nat → Prop) (k : Nat) (v : List Nat) : List (List Nat) := ndF S k (20 - v.length) v
theorem lvL_more {S : List Nat → Prop} {k : Nat} {w : List Nat} (hl : w.length ≤ 18) (h : ∃ a, a < k ∧ S (a :: w)) : lvL S k w = lvc S k (lvL S k) w k := by
  unfold lvL
  rw [show 20 - w.length = (19 - w.length) + 1 by omega, lv_more h]
  exact lvc_cg2 (fun a _ => by rw [List.length_cons, show 20 - (w.length + 1) = 19 - w.length by omega]) k (Nat.le_refl _)
theorem lvL_one {S : List Nat → Prop} {k : Nat} {w : List Nat} (h : ∀ a, a < k → ¬ S (a :: w)) : lvL S k w = [w] := lv_one h
theorem ndL_eq {S : List Nat → Prop} {k : Nat} {w : List Nat} (hl : w.length ≤ 18) : ndL S k w = w :: lvc S k (ndL S k) w k := by
  unfold ndL
  rw [show 20 - w.length = (19 - w.length) + 1 by omega]
  show w :: lvc S k (ndF S k (19 - w.length)) w k = _
  rw [lvc_cg2 (L' := fun v => ndF S k (20 - v.length) v) (fun a _ => by rw [List.length_cons, show 20 - (w.length + 1) = 19 - w.length by omega]) k (Nat.le_refl _)]
theorem ndL_pos {S : List Nat → Prop} {k : Nat} (w : List Nat) : 0 < (ndL S k w).length := by
  unfold ndL
  cases 20 - w.length with
  | zero => exact Nat.one_pos
  | succ f => exact Nat.succ_pos _
/-- what stands on the stack, the top first -/
noncomputable def skL (S : List Nat → Prop) (k : Nat) (W : Nat → List Nat) : List Nat → List (List Nat)
  | [] => []
  | p :: s => lvL S k (W p) ++ skL S k W s
noncomputable def skN (S : List Nat → Prop) (k : Nat) (W : Nat → List Nat) : List Nat → Nat
  | [] => 0
  | p :: s => (ndL S k (W p)).length + skN S k W s
theorem skN_le (S : List Nat → Prop) (k : Nat) (W : Nat → List Nat) : ∀ s, s.length ≤ skN S k W s
  | [] => Nat.le_refl _
  | p :: s => by
    have h1 := skN_le S k W s
    have h2 := ndL_pos (S := S) (k := k) (W p)
    rw [List.length_cons]
    show s.length + 1 ≤ (ndL S k (W p)).length + skN S k W s
    omega
theorem skL_app (S : List Nat → Prop) (k : Nat) (W : Nat → List Nat) : ∀ a b, skL S k W (a ++ b) = skL S k W a ++ skL S k W b
  | [], _ => rfl
  | p :: a, b => by
    show lvL S k (W p) ++ skL S k W (a ++ b) = lvL S k (W p) ++ skL S k W a ++ skL S k W b
    rw [skL_app S k W a b, List.append_assoc]
theorem skN_app (S : List Nat → Prop) (k : Nat) (W : Nat → List Nat) : ∀ a b, skN S k W (a ++ b) = skN S k W a + skN S k W b
  | [], b => (Nat.zero_add _).symm
  | p :: a, b => by
    show (ndL S k (W p)).length + skN S k W (a ++ b) = (ndL S k (W p)).length + skN S k W a + skN S k W b
    rw [skN_app S k W a b, Nat.add_assoc]
def stk (g : aj_G) (r : Int) (c : Nat) (s : List Nat) : Prop := ∀ (i : Nat) (h : i < s.length), g (r + 6) ((s.length : Int) - 1 - i) = (s[i] : Nat) ∧ s[i] < c
theorem stk_push {g : aj_G} {r : Int} {c : Nat} {s : List Nat} (h : stk g r c s) {p : Nat} (hp : p < c) : stk (aj_up g (r + 6) (s.length : Nat) (p : Nat)) r c (p :: s) := by
  intro i hi
  cases i with
  | zero => exact ⟨by rw [List.length_cons, show ((s.length + 1 : Nat) : Int) - 1 - ((0 : Nat) : Int) = (s.length : Nat) by omega, aj_up_self]; rfl, hp⟩
  | succ i =>
    rw [List.length_cons] at hi
    obtain ⟨h1, h2⟩ := h i (by omega)
    refine ⟨?_, h2⟩
    rw [List.length_cons, show ((s.length + 1 : Nat) : Int) - 1 - ((i + 1 : Nat) : Int) = (s.length : Int) - 1 - i by omega, aj_up_ni _ _ _ (by omega)]
    exact h1
theorem stk_pop {g : aj_G} {r : Int} {c p : Nat} {s : List Nat} (h : stk g r c (p :: s)) : g (r + 6) (s.length : Nat) = (p : Nat) ∧ p < c ∧ stk g r c s := by
  obtain ⟨h1, h2⟩ := h 0 (Nat.succ_pos _)
  rw [List.length_cons, show ((s.length + 1 : Nat) : Int) - 1 - ((0 : Nat) : Int) = (s.length : Nat) by omega] at h1
  refine ⟨h1, h2, fun i hi => ?_⟩
  have := h (i + 1) (Nat.succ_lt_succ hi)
  rw [List.length_cons, show ((s.length + 1 : Nat) : Int) - 1 - ((i + 1 : Nat) : Int) = (s.length : Int) - 1 - i by omega] at this
  exact this
def lsC (g : aj_G) (r : Int) (c : Nat) (W : Nat → List Nat) (T : List (List Nat)) : Prop := g r 13 = T.length ∧ ∀ (t : Nat) (h : t < T.length), ∃ p : Nat, p < c ∧ g (r + 5) t = p ∧ W p = T[t]
theorem lsC_add {g : aj_G} {r : Int} {c p : Nat} {W : Nat → List Nat} {T : List (List Nat)} (h : lsC g r c W T) (hp : p < c) : lsC (aj_up (aj_up g (r + 5) (T.length : Nat) (p : Nat)) r 13 ((T.length : Int) + 1)) r c W (T ++ [W p]) := by
  refine ⟨by rw [aj_up_self, List.length_append, List.length_singleton]; push_cast; rfl, fun t ht => ?_⟩
  rw [List.length_append, List.length_singleton] at ht
  rw [aj_up_ne _ _ _ (by omega)]
  by_cases e : t = T.length
  · exact ⟨p, hp, by rw [e, aj_up_self], by simp [e]⟩
  · obtain ⟨p', h1, h2, h3⟩ := h.2 t (by omega)
    exact ⟨p', h1, by rw [aj_up_ni _ _ _ (by omega)]; exact h2, by rw [h3, List.getElem_append_left (by omega)]⟩
theorem lsC_of {g g1 : aj_G} {r : Int} {c : Nat} {W : Nat → List Nat} {T : List (List Nat)} (h : lsC g r c W T) (e1 : g1 r 13 = g r 13) (e2 : g1 (r + 5) = g (r + 5)) : lsC g1 r c W T := by
  unfold lsC at h ⊢
  rw [e1, e2]
  exact h
def oF (g g1 : aj_G) (r : Int) : Prop := (∀ r', r' ≠ r → r' ≠ r + 5 → r' ≠ r + 6 → g1 r' = g r') ∧ ∀ j, j ≠ 13 → g1 r j = g r j
theorem oF_refl (g : aj_G) (r : Int) : oF g g r := ⟨fun _ _ _ _ => rfl, fun _ _ => rfl⟩
theorem oF_s {sh : List aj_S} {g g1 : aj_G} {r : Int} {k : Nat} (hs : sus sh g r k) (h : oF g g1 r) : sus sh g1 r k := sus_of hs (fun j _ => h.2 j (by omega))
theorem oF_C {sh : List aj_S} {g g1 : aj_G} {r : Int} {L k N : Nat} {mnx mou : Nat → Nat → Nat} (hr : r = 58 ∨ r = 68) (hC : suC sh g L k N mnx mou) (h : oF g g1 r) : suC sh g1 L k N mnx mou := suC_of hC (fun r' _ => h.1 r' (by omega) (by omega) (by omega))
theorem oF_6 {g g1 : aj_G} {r : Int} (h : oF g g1 r) (i x : Int) : oF g (aj_up g1 (r + 6) i x) r := ⟨fun r' a b c => by rw [aj_up_ne _ _ _ c]; exact h.1 r' a b c, fun j hj => by rw [aj_up_ne _ _ _ (by omega)]; exact h.2 j hj⟩
theorem oF_5 {g g1 : aj_G} {r : Int} (h : oF g g1 r) (i x y : Int) : oF g (aj_up (aj_up g1 (r + 5) i x) r 13 y) r := ⟨fun r' a b c => by rw [aj_up_ne _ _ _ a, aj_up_ne _ _ _ b]; exact h.1 r' a b c, fun j hj => by rw [aj_up_ni _ _ _ hj, aj_up_ne _ _ _ (by omega)]; exact h.2 j hj⟩
theorem lvc_mono {S : List Nat → Prop} {k : Nat} {L : List Nat → List (List Nat)} {w : List Nat} (j : Nat) : ∀ e, (lvc S k L w j).length ≤ (lvc S k L w (j + e)).length
  | 0 => Nat.le_refl _
  | e + 1 => by
    have ih := lvc_mono (S := S) (k := k) (L := L) (w := w) j e
    show _ ≤ (@ite (List (List Nat)) (S ((k - (j + e + 1)) :: w)) (Classical.propDecidable _) (L ((k - (j + e + 1)) :: w)) [] ++ lvc S k L w (j + e)).length
    rw [List.length_append]
    omega
set_option maxHeartbeats 8000000 in
theorem k_ot_in {al : Prop} {X : Option (Nat × (Int → Int))} {d : Nat} {sh : List aj_S} {g : aj_G} {Q : aj_R → List aj_S → aj_G → Prop} {r : Int} {L k N : Nat} {mnx mou : Nat → Nat → Nat} (hr : r = 58 ∨ r = 68) (hs : sus sh g r k) (hC : suC sh g L k N mnx mou) {c : Nat} {W : Nat → List Nat} (hT : tC g r k c W mnx) (hI : tr_I k c W) (hc8 : c ≤ 800) (hlen : ∀ p, p < c → (W p).length ≤ 18) {p v : Nat} {T : List (List Nat)} {St : List Nat} (hp : p < c) (hB : (lvc (pr c W) k (ndL (pr c W) k) (W p) k).length + skN (pr c W) k W St + 1 ≤ 800) (hgo : ∀ (g1 : aj_G) (Cs : List Nat) (o6 : Option aj_A), oF g g1 r → stk g1 r c (Cs ++ St) → lsC g1 r c W T → skL (pr c W) k W Cs = lvc (pr c W) k (lvL (pr c W) k) (W p) k → skN (pr c W) k W Cs = (lvc (pr c W) k (ndL (pr c W) k) (W p) k).length → (Cs = [] → ∀ a, a < k → ¬ pr c W (a :: W p)) → (Cs ≠ [] → ∃ a, a < k ∧ pr c W (a :: W p)) → aj_wp nE al al X m_Suite_orderTests d 0 0 94 [some (1, r), some (0, ((Cs ++ St).length : Int)), some (0, (v : Int)), some (0, (p : Int)), some (0, (St.length : Int)), some (0, -1), o6] [] sh g1 Q) :
    ∀ (i : Nat), i ≤ k → ∀ (g1 : aj_G) (Cs : List Nat) (o6 : Option aj_A), oF g g1 r → stk g1 r c (Cs ++ St) → lsC g1 r c W T → skL (pr c W) k W Cs = lvc (pr c W) k (lvL (pr c W) k) (W p) (k - i) → skN (pr c W) k W Cs = (lvc (pr c W) k (ndL (pr c W) k) (W p) (k - i)).length → ((Cs = [] → ∀ a, i ≤ a → a < k → ¬ pr c W (a :: W p)) ∧ (Cs ≠ [] → ∃ a, a < k ∧ pr c W (a :: W p))) →
    aj_wp nE al al X m_Suite_orderTests d 0 0 47 [some (1, r), some (0, ((Cs ++ St).length : Int)), some (0, (v : Int)), some (0, (p : Int)), some (0, (St.length : Int)), some (0, (i : Int) - 1), o6] [] sh g1 Q := by
  have hk3 := hC.2.1
  intro i0
  induction i0 with
  | zero =>
    intro i0 g1 Cs o6 hF1 hst hls hL hN hne
    have hs1 := oF_s hs hF1
    have hC1 := oF_C hr hC hF1
    refine aj_iload 5 49 (dx d_Suite_orderTests 29 rfl) rfl rfl ?_
    refine aj_if_lt 94 52 (dx d_Suite_orderTests 30 rfl) rfl rfl (by unfold aj_I; omega) (fun h49 => ?_) (fun h49 => ?_)
    · exact hgo g1 Cs _ hF1 hst hls hL hN (fun h a ha => hne.1 h a (Nat.zero_le _) ha) hne.2
    · exact absurd h49 (by omega)
  | succ a ih =>
    intro i0 g1 Cs o6 hF1 hst hls hL hN hne
    have hs1 := oF_s hs hF1
    have hC1 := oF_C hr hC hF1
    refine aj_iload 5 49 (dx d_Suite_orderTests 29 rfl) rfl rfl ?_
    refine aj_if_lt 94 52 (dx d_Suite_orderTests 30 rfl) rfl rfl (by unfold aj_I; omega) (fun h49 => ?_) (fun h49 => ?_)
    · exact absurd h49 (by omega)
    · have hi0 := i0
      have hak : a < k := by omega
      have hix := ik_in (a := a) (c := 800) hC.2.1 (show p < 800 by omega) hak
      rw [show ((a + 1 : Nat) : Int) - 1 = (a : Nat) by omega]
      have h9 : g1 (r + 9) = g (r + 9) := hF1.1 _ (by omega) (by omega) (by omega)
      have hch := hT.2.2.2 p a hp hak
      rw [← h9] at hch
      have hvI : aj_I (g1 (r + 9) ((p : Int) * (k : Int) + (a : Int))) := by
        rcases hch with ⟨q, q1, -, q3⟩ | ⟨-, q3⟩ <;> rw [q3] <;> unfold aj_I <;> omega
      refine aj_aload_n 0 53 (dx d_Suite_orderTests 31 rfl) rfl rfl rfl ?_
      refine aj_getfv (v := (r + 9)) 56 fl_Suite_67 (dx d_Suite_orderTests 32 rfl) rfl hs1.1 (by (repeat (first | rw [aj_up_ne _ _ _ (by omega)] | rw [aj_up_ni _ _ _ (by omega)])); exact (sf_children hs1)) ?_
      refine aj_iload_n 3 57 (dx d_Suite_orderTests 33 rfl) rfl rfl rfl ?_
      refine aj_aload_n 0 58 (dx d_Suite_orderTests 34 rfl) rfl rfl rfl ?_
      refine aj_getfv (v := 10) 61 fl_Suite_61 (dx d_Suite_orderTests 35 rfl) rfl hs1.1 (by (repeat (first | rw [aj_up_ne _ _ _ (by omega)] | rw [aj_up_ni _ _ _ (by omega)])); exact (sf_machine hs1)) ?_
      refine aj_getfv (v := (k : Int)) 64 fl_Suite_62 (dx d_Suite_orderTests 36 rfl) rfl hC1.1.1.1 hC1.1.2.1 ?_
      refine aj_imul 65 (dx d_Suite_orderTests 37 rfl) rfl ?_
      refine aj_iload 5 67 (dx d_Suite_orderTests 38 rfl) rfl rfl ?_
      refine aj_iadd 68 (dx d_Suite_orderTests 39 rfl) rfl ?_
      refine aj_iald 69 (dx d_Suite_orderTests 40 rfl) rfl (ss_children hs1) rfl hix.1 hix.2 ?_
      refine aj_istore 6 71 (dx d_Suite_orderTests 41 rfl) rfl rfl ?_
      simp only [List.set]
      refine aj_iload 6 73 (dx d_Suite_orderTests 42 rfl) rfl rfl ?_
      refine aj_iconst 74 (dx d_Suite_orderTests 43 rfl) rfl ?_
      refine aj_icmp_eq 88 77 (dx d_Suite_orderTests 44 rfl) rfl rfl hvI (by unfold aj_I; omega) (fun h74 => ?_) (fun h74 => ?_)
      · have hno : ¬ pr c W (a :: W p) := by
          rcases hch with ⟨q, q1, -, q3⟩ | ⟨q1, -⟩
          · omega
          · exact fun ⟨q, z1, z2⟩ => q1 q z1 z2
        refine aj_iinc 5 91 (dx d_Suite_orderTests 51 rfl) rfl rfl rfl ?_
        simp only [List.set]
        refine aj_goto 47 (dx d_Suite_orderTests 52 rfl) rfl ?_
        rw [show ((a : Nat) : Int) + -1 = (a : Int) - 1 by omega]
        refine ih (by omega) g1 Cs _ hF1 hst hls (by rw [lvc_f hak hno]; exact hL) (by rw [lvc_f hak hno]; exact hN) ⟨fun h b hb1 hb2 => ?_, hne.2⟩
        by_cases e : b = a
        · rw [e]; exact hno
        · exact hne.1 h b (by omega) hb2
      · obtain ⟨q, q1, q2, q3⟩ : ∃ q : Nat, q < c ∧ W q = a :: W p ∧ g1 (r + 9) ((p : Int) * k + a) = q := by
          rcases hch with q | ⟨-, q3⟩
          · exact q
          · omega
        rw [q3]
        have hn2 : skN (pr c W) k W (q :: Cs) = (lvc (pr c W) k (ndL (pr c W) k) (W p) (k - a)).length := by
          rw [lvc_t hak ⟨q, q1, q2⟩, List.length_append, ← hN, ← q2]
          rfl
        have hl2 : skL (pr c W) k W (q :: Cs) = lvc (pr c W) k (lvL (pr c W) k) (W p) (k - a) := by
          rw [lvc_t hak ⟨q, q1, q2⟩, ← hL, ← q2]
          rfl
        have hle1 := lvc_mono (S := pr c W) (k := k) (L := ndL (pr c W) k) (w := W p) (k - a) a
        rw [show k - a + a = k by omega] at hle1
        have hsz := skN_le (pr c W) k W (q :: Cs)
        have hsz2 := skN_le (pr c W) k W St
        rw [hn2, List.length_cons] at hsz
        have hap : (Cs ++ St).length = Cs.length + St.length := List.length_append
        have h800 : (Cs ++ St).length < 800 := by omega
        refine aj_aload_n 0 78 (dx d_Suite_orderTests 45 rfl) rfl rfl rfl ?_
        refine aj_getfv (v := (r + 6)) 81 fl_Suite_27 (dx d_Suite_orderTests 46 rfl) rfl hs1.1 (by (repeat (first | rw [aj_up_ne _ _ _ (by omega)] | rw [aj_up_ni _ _ _ (by omega)])); exact (sf_open hs1)) ?_
        refine aj_iload_n 1 82 (dx d_Suite_orderTests 47 rfl) rfl rfl rfl ?_
        refine aj_iload 6 84 (dx d_Suite_orderTests 48 rfl) rfl rfl ?_
        refine aj_iast 85 (dx d_Suite_orderTests 49 rfl) rfl (ss_open hs1) rfl (by omega) (by omega) ?_
        refine aj_iinc 1 88 (dx d_Suite_orderTests 50 rfl) rfl rfl rfl ?_
        simp only [List.set]
        refine aj_iinc 5 91 (dx d_Suite_orderTests 51 rfl) rfl rfl rfl ?_
        simp only [List.set]
        refine aj_goto 47 (dx d_Suite_orderTests 52 rfl) rfl ?_
        rw [show ((a : Nat) : Int) + -1 = (a : Int) - 1 by omega]
        have hst2 := stk_push hst q1
        have hg := ih (by omega) _ (q :: Cs) (some (0, (q : Int))) (oF_6 hF1 _ _) hst2 (lsC_of hls (by rw [aj_up_ne _ _ _ (by omega)]) (aj_up_ne _ _ _ (by omega))) hl2 hn2 ⟨fun h => absurd h (List.cons_ne_nil _ _), fun _ => ⟨a, hak, q, q1, q2⟩⟩
        rw [List.cons_append, List.length_cons] at hg
        rw [show (((Cs ++ St).length : Nat) : Int) + 1 = (((Cs ++ St).length + 1 : Nat) : Int) by omega]
        exact hg
set_option maxHeartbeats 8000000 in
theorem k_ot_out {al : Prop} {X : Option (Nat × (Int → Int))} {d : Nat} {sh : List aj_S} {g : aj_G} {Q : aj_R → List aj_S → aj_G → Prop} {r : Int} {L k N : Nat} {mnx mou : Nat → Nat → Nat} (hr : r = 58 ∨ r = 68) (hs : sus sh g r k) (hC : suC sh g L k N mnx mou) {c : Nat} {W : Nat → List Nat} (hT : tC g r k c W mnx) (hI : tr_I k c W) (hc8 : c ≤ 800) (hlen : ∀ p, p < c → (W p).length ≤ 18) {n0 : Nat} (hn0c : n0 ≤ c) (hlv : (lvF (pr c W) k 20 []).length ≤ 800) (hk : ∀ g1 : aj_G, oF g g1 r → lsC g1 r c W (lvF (pr c W) k 20 []) → Q (.inl none) sh g1) :
    ∀ (n v : Nat) (g1 : aj_G) (T : List (List Nat)) (St : List Nat) (o3 o4 o5 o6 : Option aj_A), oF g g1 r → stk g1 r c St → lsC g1 r c W T → T ++ skL (pr c W) k W St = lvF (pr c W) k 20 [] → v + skN (pr c W) k W St = n0 → n0 - v = n →
    aj_wp nE al al X m_Suite_orderTests d 0 0 11 [some (1, r), some (0, (St.length : Int)), some (0, (v : Int)), o3, o4, o5, o6] [] sh g1 Q := by
  have hk3 := hC.2.1
  intro n
  induction n using Nat.strongRecOn with
  | ind n ih =>
    intro v g1 T St o3 o4 o5 o6 hF1 hst hls htot hn0 hnn
    have hs1 := oF_s hs hF1
    have hC1 := oF_C hr hC hF1
    have hsk0 := skN_le (pr c W) k W St
    refine aj_iload_n 2 12 (dx d_Suite_orderTests 9 rfl) rfl rfl rfl ?_
    refine aj_aload_n 0 13 (dx d_Suite_orderTests 10 rfl) rfl rfl rfl ?_
    refine aj_getfv (v := (c : Int)) 16 fl_Suite_36 (dx d_Suite_orderTests 11 rfl) rfl hs1.1 (by rw [hF1.2 12 (by omega)]; exact hT.1) ?_
    refine aj_icmp_ge 126 19 (dx d_Suite_orderTests 12 rfl) rfl rfl (by unfold aj_I; omega) (by unfold aj_I; omega) (fun h16 => ?_) (fun h16 => ?_)
    · refine aj_vret (dx d_Suite_orderTests 70 rfl) rfl id ?_
      have hSt : St = [] := by
        cases St with
        | nil => rfl
        | cons p s => have := skN_le (pr c W) k W (p :: s); rw [List.length_cons] at this; omega
      subst hSt
      rw [show skL (pr c W) k W [] = [] from rfl, List.append_nil] at htot
      rw [htot] at hls
      exact hk g1 hF1 hls
    · refine aj_iload_n 1 20 (dx d_Suite_orderTests 13 rfl) rfl rfl rfl ?_
      refine aj_if_le 126 23 (dx d_Suite_orderTests 14 rfl) rfl rfl (by unfold aj_I; omega) (fun h20 => ?_) (fun h20 => ?_)
      · refine aj_vret (dx d_Suite_orderTests 70 rfl) rfl id ?_
        have hSt : St = [] := by
          cases St with
          | nil => rfl
          | cons p s => rw [List.length_cons] at h20; omega
        subst hSt
        rw [show skL (pr c W) k W [] = [] from rfl, List.append_nil] at htot
        rw [htot] at hls
        exact hk g1 hF1 hls
      · obtain ⟨p, St', rfl⟩ : ∃ p St', St = p :: St' := by
          cases St with
          | nil => exact absurd h20 (by simp)
          | cons p s => exact ⟨p, s, rfl⟩
        obtain ⟨st1, hp, hst3⟩ := stk_pop hst
        have hsk := skN_le (pr c W) k W (p :: St')
        rw [List.length_cons] at hsk
        have hpos := ndL_eq (S := pr c W) (k := k) (hlen p hp)
        have hbud : (lvc (pr c W) k (ndL (pr c W) k) (W p) k).length + 1 + skN (pr c W) k W St' + v = n0 := by
          rw [← hn0]
          show _ = v + ((ndL (pr c W) k (W p)).length + skN (pr c W) k W St')
          rw [hpos, List.length_cons]
          omega
        refine aj_iinc 1 26 (dx d_Suite_orderTests 15 rfl) rfl rfl rfl ?_
        simp only [List.set]
        rw [List.length_cons, show ((St'.length + 1 : Nat) : Int) + -1 = (St'.length : Nat) by omega]
        refine aj_aload_n 0 27 (dx d_Suite_orderTests 16 rfl) rfl rfl rfl ?_
        refine aj_getfv (v := (r + 6)) 30 fl_Suite_27 (dx d_Suite_orderTests 17 rfl) rfl hs1.1 (by (repeat (first | rw [aj_up_ne _ _ _ (by omega)] | rw [aj_up_ni _ _ _ (by omega)])); exact (sf_open hs1)) ?_
        refine aj_iload_n 1 31 (dx d_Suite_orderTests 18 rfl) rfl rfl rfl ?_
        refine aj_iald 32 (dx d_Suite_orderTests 19 rfl) rfl (ss_open hs1) rfl (by omega) (by omega) ?_
        rw [st1]
        refine aj_istore_n 3 33 (dx d_Suite_orderTests 20 rfl) rfl rfl rfl ?_
        simp only [List.set]
        refine aj_iload_n 1 34 (dx d_Suite_orderTests 21 rfl) rfl rfl rfl ?_
        refine aj_istore 4 36 (dx d_Suite_orderTests 22 rfl) rfl rfl ?_
        simp only [List.set]
        refine aj_aload_n 0 37 (dx d_Suite_orderTests 23 rfl) rfl rfl rfl ?_
        refine aj_getfv (v := 10) 40 fl_Suite_61 (dx d_Suite_orderTests 24 rfl) rfl hs1.1 (by (repeat (first | rw [aj_up_ne _ _ _ (by omega)] | rw [aj_up_ni _ _ _ (by omega)])); exact (sf_machine hs1)) ?_
        refine aj_getfv (v := (k : Int)) 43 fl_Suite_62 (dx d_Suite_orderTests 25 rfl) rfl hC1.1.1.1 hC1.1.2.1 ?_
        refine aj_iconst 44 (dx d_Suite_orderTests 26 rfl) rfl ?_
        refine aj_isub 45 (dx d_Suite_orderTests 27 rfl) rfl ?_
        refine aj_istore 5 47 (dx d_Suite_orderTests 28 rfl) rfl rfl ?_
        simp only [List.set]
        have hg := k_ot_in (Q := Q) (X := X) (d := d) (al := al) (v := v) (T := T) (St := St') hr hs hC hT hI hc8 hlen hp (by omega) (fun g2 Cs o6' hF2 hst2 hls2 hL2 hN2 hCn hCy => ?_) k (Nat.le_refl _) g1 [] o6 hF1 hst3 hls (by rw [Nat.sub_self]; rfl) (by rw [Nat.sub_self]; rfl) ⟨fun _ a h1 h2 => absurd h1 (by omega), fun h => absurd rfl h⟩
        · exact hg
        · have hs2 := oF_s hs hF2
          have hcsl := skN_le (pr c W) k W (Cs ++ St')
          rw [skN_app, hN2] at hcsl
          have htot : T ++ (lvL (pr c W) k (W p) ++ skL (pr c W) k W St') = lvF (pr c W) k 20 [] := htot
          refine aj_iload_n 1 95 (dx d_Suite_orderTests 53 rfl) rfl rfl rfl ?_
          refine aj_iload 4 97 (dx d_Suite_orderTests 54 rfl) rfl rfl ?_
          refine aj_icmp_ne 120 100 (dx d_Suite_orderTests 55 rfl) rfl rfl (by unfold aj_I; omega) (by unfold aj_I; omega) (fun h97 => ?_) (fun h97 => ?_)
          · have hCs : Cs ≠ [] := fun e => h97 (by rw [e]; rfl)
            have hyes := hCy hCs
            rw [lvL_more (hlen p hp) hyes, ← hL2] at htot
            refine aj_iinc 2 123 (dx d_Suite_orderTests 68 rfl) rfl rfl rfl ?_
            simp only [List.set]
            refine aj_goto 11 (dx d_Suite_orderTests 69 rfl) rfl ?_
            rw [show ((v : Nat) : Int) + 1 = ((v + 1 : Nat) : Int) by omega]
            refine ih _ (by omega) (v + 1) g2 T (Cs ++ St') _ _ _ _ hF2 hst2 hls2 ?_ ?_ rfl
            · rw [skL_app]; exact htot
            · rw [skN_app, hN2]; omega
          · have hCs : Cs = [] := List.eq_nil_of_length_eq_zero (by rw [List.length_append] at h97; omega)
            subst hCs
            have hno := hCn rfl
            rw [lvL_one hno] at htot
            have hT8 : T.length < 800 := by
              have := congrArg List.length htot
              rw [List.length_append, List.length_append, List.length_singleton] at this
              omega
            refine aj_aload_n 0 101 (dx d_Suite_orderTests 56 rfl) rfl rfl rfl ?_
            refine aj_getfv (v := (r + 5)) 104 fl_Suite_24 (dx d_Suite_orderTests 57 rfl) rfl hs2.1 (by (repeat (first | rw [aj_up_ne _ _ _ (by omega)] | rw [aj_up_ni _ _ _ (by omega)])); exact (sf_leaves hs2)) ?_
            refine aj_aload_n 0 105 (dx d_Suite_orderTests 58 rfl) rfl rfl rfl ?_
            refine aj_getfv (v := (T.length : Int)) 108 fl_Suite_40 (dx d_Suite_orderTests 59 rfl) rfl hs2.1 (by (repeat (first | rw [aj_up_ne _ _ _ (by omega)] | rw [aj_up_ni _ _ _ (by omega)])); exact hls2.1) ?_
            refine aj_iload_n 3 109 (dx d_Suite_orderTests 60 rfl) rfl rfl rfl ?_
            refine aj_iast 110 (dx d_Suite_orderTests 61 rfl) rfl (ss_leaves hs2) rfl (by omega) (by omega) ?_
            refine aj_aload_n 0 111 (dx d_Suite_orderTests 62 rfl) rfl rfl rfl ?_
            refine aj_dup 112 (dx d_Suite_orderTests 63 rfl) rfl rfl ?_
            refine aj_getfv (v := (T.length : Int)) 115 fl_Suite_40 (dx d_Suite_orderTests 64 rfl) rfl hs2.1 (by (repeat (first | rw [aj_up_ne _ _ _ (by omega)] | rw [aj_up_ni _ _ _ (by omega)])); exact hls2.1) ?_
            refine aj_iconst 116 (dx d_Suite_orderTests 65 rfl) rfl ?_
            refine aj_iadd 117 (dx d_Suite_orderTests 66 rfl) rfl ?_
            refine aj_putf 120 (pl_Suite_40 _) (dx d_Suite_orderTests 67 rfl) rfl hs2.1 (aj_fitI _) ?_
            refine aj_iinc 2 123 (dx d_Suite_orderTests 68 rfl) rfl rfl rfl ?_
            simp only [List.set]
            refine aj_goto 11 (dx d_Suite_orderTests 69 rfl) rfl ?_
            rw [show ((v : Nat) : Int) + 1 = ((v + 1 : Nat) : Int) by omega]
            refine ih _ (by omega) (v + 1) _ (T ++ [W p]) St' _ _ _ _ (oF_5 hF2 _ _ _) ?_ (lsC_add hls2 hp) ?_ ?_ rfl
            · intro i hi
              rw [aj_up_ne _ _ _ (by omega), aj_up_ne _ _ _ (by omega)]
              exact hst2 i hi
            · rw [List.append_assoc]; exact htot
            · rw [show skN (pr c W) k W [] = 0 from rfl] at hN2
              omega
set_option maxHeartbeats 8000000 in
theorem k_Suite_orderTests {al : Prop} {X : Option (Nat × (Int → Int))} {d : Nat} {sh : List aj_S} {g : aj_G} {Q : aj_R → List aj_S → aj_G → Prop} {r : Int} {L k N : Nat} {mnx mou : Nat → Nat → Nat} (hr : r = 58 ∨ r = 68) (hs : sus sh g r k) (hC : suC sh g L k N mnx mou) {c : Nat} {W : Nat → List Nat} (hT : tC g r k c W mnx) (hI : tr_I k c W) (hc8 : c ≤ 800) (hlen : ∀ p, p < c → (W p).length ≤ 18) (h13 : g r 13 = 0) (hk : ∀ g1 : aj_G, oF g g1 r → lsC g1 r c W (lvF (pr c W) k 20 []) → Q (.inl none) sh g1) : aj_wp nE al al X m_Suite_orderTests d 0 0 0 [some (1, r), none, none, none, none, none, none] [] sh g Q := by
  have h0 : pr c W [] := ⟨0, hI.1, hI.2.1⟩
  have hnd : (ndF (pr c W) k 20 []).length ≤ c := tr_cnt (nd_nodup 20 []) (fun v hv => nd_S 20 [] v h0 hv)
  have hlv := lv_nd (S := pr c W) (k := k) 20 []
  refine aj_iconst 1 (dx d_Suite_orderTests 0 rfl) rfl ?_
  refine aj_istore_n 1 2 (dx d_Suite_orderTests 1 rfl) rfl rfl rfl ?_
  simp only [List.set]
  refine aj_aload_n 0 3 (dx d_Suite_orderTests 2 rfl) rfl rfl rfl ?_
  refine aj_getfv (v := (r + 6)) 6 fl_Suite_27 (dx d_Suite_orderTests 3 rfl) rfl hs.1 (by (repeat (first | rw [aj_up_ne _ _ _ (by omega)] | rw [aj_up_ni _ _ _ (by omega)])); exact (sf_open hs)) ?_
  refine aj_iconst 7 (dx d_Suite_orderTests 4 rfl) rfl ?_
  refine aj_iconst 8 (dx d_Suite_orderTests 5 rfl) rfl ?_
  refine aj_iast 9 (dx d_Suite_orderTests 6 rfl) rfl (ss_open hs) rfl (by omega) (by omega) ?_
  refine aj_iconst 10 (dx d_Suite_orderTests 7 rfl) rfl ?_
  refine aj_istore_n 2 11 (dx d_Suite_orderTests 8 rfl) rfl rfl rfl ?_
  simp only [List.set]
  have hst : stk (aj_up g (r + 6) (([] : List Nat).length : Nat) ((0 : Nat) : Int)) r c [0] := stk_push (s := []) (fun i hi => absurd hi (Nat.not_lt_zero _)) hI.1
  refine k_ot_out (n0 := (ndF (pr c W) k 20 []).length) hr hs hC hT hI hc8 hlen hnd (by omega) hk _ 0 _ [] [0] _ _ _ _ (oF_6 (oF_refl g r) _ _) hst ⟨by rw [aj_up_ne _ _ _ (by omega)]; exact h13, fun t ht => absurd ht (Nat.not_lt_zero _)⟩ ?_ ?_ rfl
  · show [] ++ (lvL (pr c W) k (W 0) ++ []) = _
    rw [hI.2.1, List.append_nil]
    rfl
  · show 0 + ((ndL (pr c W) k (W 0)).length + 0) = _
    rw [hI.2.1]
    unfold ndL
    simp
