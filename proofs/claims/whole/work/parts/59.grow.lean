/-! Suite: addFamily, addOwn, grow -/
def suF (sh : List aj_S) (g : aj_G) (k N cf : Nat) (F : Nat → List Nat) (O : Nat → ow_T) : Prop := fms sh g ∧ fam g k cf F ∧ ∀ s, s < N → oat g s (O s) ∧ (O s).1 ≤ 8 ∧ ∀ v, v < (O s).1 → (O s).2 v < cf
theorem suF_of {sh : List aj_S} {g g1 : aj_G} {k N cf : Nat} {F : Nat → List Nat} {O : Nat → ow_T} (h : suF sh g k N cf F O) (hN : N ≤ 8) (e : ∀ r', r' < 58 → g1 r' = g r') : suF sh g1 k N cf F O := by
  refine ⟨fms_of h.1 (fun j _ => by rw [e 13 (by omega)]) (e _ (by omega)) (e _ (by omega)) (fun w hw => by rw [e _ (by omega)]), fam_of h.2.1 (by rw [e 13 (by omega)]) (fun w hw => ⟨e _ (by omega), e _ (by omega)⟩), fun s hs => ⟨?_, (h.2.2 s hs).2⟩⟩
  obtain ⟨⟨a1, a2⟩, -⟩ := h.2.2 s hs
  exact ⟨by rw [e 24 (by omega)]; exact a1, fun v hv => by rw [e (16 + (s : Int)) (by omega)]; exact a2 v hv⟩
theorem eF_fam {sh : List aj_S} {g g1 : aj_G} {r : Int} {k N cf : Nat} {F : Nat → List Nat} {O : Nat → ow_T} (hr : r = 58 ∨ r = 68) (hN : N ≤ 8) (h : suF sh g k N cf F O) (e : eF g g1 r) : suF sh g1 k N cf F O := suF_of h hN (fun r' _ => e.1 r' (by omega))
set_option maxHeartbeats 8000000 in
theorem k_af_loop {al : Prop} {X : Option (Nat × (Int → Int))} {d : Nat} {sh : List aj_S} {g : aj_G} {Q : aj_R → List aj_S → aj_G → Prop} {r : Int} {L k N : Nat} {mnx mou : Nat → Nat → Nat} (hr : r = 58 ∨ r = 68) (hs : sus sh g r k) (hC : suC sh g L k N mnx mou) {c : Nat} {W : Nat → List Nat} {P : List Nat → Prop} {z : Int} (hT : tS g r k c W mnx P z) {cf : Nat} {F : Nat → List Nat} {O : Nat → ow_T} (hf : suF sh g k N cf F O) {p : Nat} (hp : p < c) (hP : z = 1 → ∀ v, v < cf → ∀ u t, t ++ u = F v ++ W p → P u) (hk : ∀ (g1 : aj_G) (c1 : Nat) (W1 : Nat → List Nat) (z1 : Int), tS g1 r k c1 W1 mnx P z1 → eF g g1 r → tr_ex c W c1 W1 → (z1 = 1 → z = 1 ∧ ∀ v, v < cf → pr c1 W1 (F v ++ W p)) → Q (.inl none) sh g1) : ∀ (m v : Nat) (g1 : aj_G) (c1 : Nat) (W1 : Nat → List Nat) (z1 : Int), v ≤ cf → cf - v = m → tS g1 r k c1 W1 mnx P z1 → eF g g1 r → tr_ex c W c1 W1 → (z1 = 1 → z = 1 ∧ ∀ v', v' < v → pr c1 W1 (F v' ++ W p)) →
    aj_wp nE al al X m_Suite_addFamily (d + 3) 0 0 2 [some (1, r), some (0, (p : Int)), some (0, (v : Int))] [] sh g1 Q := by
  have hcf8 := hf.2.1.2.1
  intro m
  induction m using Nat.strongRecOn with
  | ind m ih =>
    intro v g1 c1 W1 z1 hv hmm hT1 hF1 hX1 hat
    have hs1 := eF_s hs hF1
    have hC1 := eF_C hr hC hF1
    have hf1 := eF_fam hr hC.2.2.2 hf hF1
    have hp1 : p < c1 := Nat.lt_of_lt_of_le hp hX1.1
    have hWp := hX1.2 p hp
    refine aj_iload_n 2 3 (dx d_Suite_addFamily 2 rfl) rfl rfl rfl ?_
    refine aj_aload_n 0 4 (dx d_Suite_addFamily 3 rfl) rfl rfl rfl ?_
    refine aj_getfv (v := 13) 7 fl_Suite_51 (dx d_Suite_addFamily 4 rfl) rfl hs1.1 (by (repeat (first | rw [aj_up_ne _ _ _ (by omega)] | rw [aj_up_ni _ _ _ (by omega)])); exact (sf_family hs1)) ?_
    refine aj_getfv (v := (cf : Int)) 10 fl_Suite_118 (dx d_Suite_addFamily 5 rfl) rfl hf1.1.1 hf1.2.1.1 ?_
    refine aj_icmp_ge 33 13 (dx d_Suite_addFamily 6 rfl) rfl rfl (by unfold aj_I; omega) (by unfold aj_I; omega) (fun h10 => ?_) (fun h10 => ?_)
    · refine aj_vret (dx d_Suite_addFamily 17 rfl) rfl id ?_
      exact hk g1 c1 W1 z1 hT1 hF1 hX1 (fun h => ⟨(hat h).1, fun v' hv' => (hat h).2 v' (by omega)⟩)
    · have hvc : v < cf := by omega
      have hv8 : v < 8 := by omega
      obtain ⟨f1, f2, f3⟩ := hf1.2.1.2.2 v hvc
      refine aj_aload_n 0 14 (dx d_Suite_addFamily 7 rfl) rfl rfl rfl ?_
      refine aj_iload_n 1 15 (dx d_Suite_addFamily 8 rfl) rfl rfl rfl ?_
      refine aj_aload_n 0 16 (dx d_Suite_addFamily 9 rfl) rfl rfl rfl ?_
      refine aj_getfv (v := 13) 19 fl_Suite_51 (dx d_Suite_addFamily 10 rfl) rfl hs1.1 (by (repeat (first | rw [aj_up_ne _ _ _ (by omega)] | rw [aj_up_ni _ _ _ (by omega)])); exact (sf_family hs1)) ?_
      refine aj_getfv (v := 14) 22 fl_Suite_121 (dx d_Suite_addFamily 11 rfl) rfl hf1.1.1 hf1.1.2.1.1 ?_
      refine aj_iload_n 2 23 (dx d_Suite_addFamily 12 rfl) rfl rfl rfl ?_
      refine aj_aald 24 (dx d_Suite_addFamily 13 rfl) rfl hf1.1.2.2.1 rfl rfl (by omega) (by omega) ?_
      rw [(hf1.1.2.2.2.2.2 v hv8).1]
      refine aj_callV2 27 cl_Suite_125 (dx d_Suite_addFamily 14 rfl) rfl rfl rfl rfl rfl rfl hs1.1 (k_Suite_addWord hr hs1 hC1 hT1 (by omega) (by omega) (hf1.1.2.2.2.2.2 v hv8).2.1 f1 f2 f3 hp1 (fun h u t e => hP (hat h).1 v hvc u t (by rw [e, hWp])) (fun g2 c2 W2 z2 hT2 hF2 hX2 hw2 => ?_))
      change aj_wp _ _ _ _ _ _ _ _ _ _ _ _ _ _
      refine aj_iinc 2 30 (dx d_Suite_addFamily 15 rfl) rfl rfl rfl ?_
      simp only [List.set]
      refine aj_goto 2 (dx d_Suite_addFamily 16 rfl) rfl ?_
      rw [show ((v : Nat) : Int) + 1 = ((v + 1 : Nat) : Int) by omega]
      exact ih _ (by omega) (v + 1) g2 c2 W2 z2 (by omega) rfl hT2 (eF_trans hF1 hF2) (tr_ex_trans hX1 hX2) (fun h => by
        obtain ⟨y1, y2⟩ := hw2 h
        obtain ⟨y3, y4⟩ := hat y1
        refine ⟨y3, fun v' hv' => ?_⟩
        rcases Nat.lt_or_ge v' v with e | e
        · exact pr_ex hX2 (y4 v' e)
        · rw [show v' = v by omega, ← hWp]; exact y2)
set_option maxHeartbeats 8000000 in
theorem k_Suite_addFamily {al : Prop} {X : Option (Nat × (Int → Int))} {d : Nat} {sh : List aj_S} {g : aj_G} {Q : aj_R → List aj_S → aj_G → Prop} {r : Int} {L k N : Nat} {mnx mou : Nat → Nat → Nat} (hr : r = 58 ∨ r = 68) (hs : sus sh g r k) (hC : suC sh g L k N mnx mou) {c : Nat} {W : Nat → List Nat} {P : List Nat → Prop} {z : Int} (hT : tS g r k c W mnx P z) {cf : Nat} {F : Nat → List Nat} {O : Nat → ow_T} (hf : suF sh g k N cf F O) {p : Nat} (hp : p < c) (hP : z = 1 → ∀ v, v < cf → ∀ u t, t ++ u = F v ++ W p → P u) (hk : ∀ (g1 : aj_G) (c1 : Nat) (W1 : Nat → List Nat) (z1 : Int), tS g1 r k c1 W1 mnx P z1 → eF g g1 r → tr_ex c W c1 W1 → (z1 = 1 → z = 1 ∧ ∀ v, v < cf → pr c1 W1 (F v ++ W p)) → Q (.inl none) sh g1) : aj_wp nE al al X m_Suite_addFamily (d + 3) 0 0 0 [some (1, r), some (0, (p : Int)), none] [] sh g Q := by
  refine aj_iconst 1 (dx d_Suite_addFamily 0 rfl) rfl ?_
  refine aj_istore_n 2 2 (dx d_Suite_addFamily 1 rfl) rfl rfl rfl ?_
  simp only [List.set]
  exact k_af_loop hr hs hC hT hf hp hP hk _ 0 g c W z (Nat.zero_le _) rfl hT (eF_refl g r) (tr_ex_refl c W) (fun h => ⟨h, fun v hv => absurd hv (Nat.not_lt_zero _)⟩)
set_option maxHeartbeats 8000000 in
theorem k_ao_loop {al : Prop} {X : Option (Nat × (Int → Int))} {d : Nat} {sh : List aj_S} {g : aj_G} {Q : aj_R → List aj_S → aj_G → Prop} {r : Int} {L k N : Nat} {mnx mou : Nat → Nat → Nat} (hr : r = 58 ∨ r = 68) (hs : sus sh g r k) (hC : suC sh g L k N mnx mou) {c : Nat} {W : Nat → List Nat} {P : List Nat → Prop} {z : Int} (hT : tS g r k c W mnx P z) {cf : Nat} {F : Nat → List Nat} {O : Nat → ow_T} (hf : suF sh g k N cf F O) {p s : Nat} (hp : p < c) (hsp : s = rn mnx 0 (W p)) (hP : z = 1 → ∀ v, v < (O s).1 → ∀ u t, t ++ u = F ((O s).2 v) ++ W p → P u) (hk : ∀ (g1 : aj_G) (c1 : Nat) (W1 : Nat → List Nat) (z1 : Int), tS g1 r k c1 W1 mnx P z1 → eF g g1 r → tr_ex c W c1 W1 → (z1 = 1 → z = 1 ∧ ∀ v, v < (O s).1 → pr c1 W1 (F ((O s).2 v) ++ W p)) → Q (.inl none) sh g1) : ∀ (m v : Nat) (g1 : aj_G) (c1 : Nat) (W1 : Nat → List Nat) (z1 : Int), v ≤ (O s).1 → (O s).1 - v = m → tS g1 r k c1 W1 mnx P z1 → eF g g1 r → tr_ex c W c1 W1 → (z1 = 1 → z = 1 ∧ ∀ v', v' < v → pr c1 W1 (F ((O s).2 v') ++ W p)) →
    aj_wp nE al al X m_Suite_addOwn (d + 3) 0 0 9 [some (1, r), some (0, (p : Int)), some (0, (s : Int)), some (0, (v : Int))] [] sh g1 Q := by
  have hcf8 := hf.2.1.2.1
  have hN8 := hC.2.2.2
  have hsN : s < N := by
    rw [hsp]
    exact rn_lt (fun s i h1 h2 => (hC.1.2.2.2.2.2.2 s i h1 h2).2.2.1) hC.2.2.1 (W p) (hT.2.1.2.2.1 p hp)
  have hs8 : s < 8 := by omega
  intro m
  induction m using Nat.strongRecOn with
  | ind m ih =>
    intro v g1 c1 W1 z1 hv hmm hT1 hF1 hX1 hat
    have hs1 := eF_s hs hF1
    have hC1 := eF_C hr hC hF1
    have hf1 := eF_fam hr hC.2.2.2 hf hF1
    have hp1 : p < c1 := Nat.lt_of_lt_of_le hp hX1.1
    have hWp := hX1.2 p hp
    have hO := hf1.2.2 s hsN
    have hO8 := hO.2.1
    refine aj_iload_n 3 10 (dx d_Suite_addOwn 7 rfl) rfl rfl rfl ?_
    refine aj_aload_n 0 11 (dx d_Suite_addOwn 8 rfl) rfl rfl rfl ?_
    refine aj_getfv (v := 13) 14 fl_Suite_51 (dx d_Suite_addOwn 9 rfl) rfl hs1.1 (by (repeat (first | rw [aj_up_ne _ _ _ (by omega)] | rw [aj_up_ni _ _ _ (by omega)])); exact (sf_family hs1)) ?_
    refine aj_getfv (v := 24) 17 fl_Suite_129 (dx d_Suite_addOwn 10 rfl) rfl hf1.1.1 hf1.1.2.1.2.2 ?_
    refine aj_iload_n 2 18 (dx d_Suite_addOwn 11 rfl) rfl rfl rfl ?_
    refine aj_iald 19 (dx d_Suite_addOwn 12 rfl) rfl hf1.1.2.2.2.2.1 rfl (by omega) (by omega) ?_
    rw [hO.1.1]
    refine aj_icmp_ge 52 22 (dx d_Suite_addOwn 13 rfl) rfl rfl (by unfold aj_I; omega) (by unfold aj_I; omega) (fun h19 => ?_) (fun h19 => ?_)
    · refine aj_vret (dx d_Suite_addOwn 30 rfl) rfl id ?_
      exact hk g1 c1 W1 z1 hT1 hF1 hX1 (fun h => ⟨(hat h).1, fun v' hv' => (hat h).2 v' (by omega)⟩)
    · have hvo : v < (O s).1 := by omega
      have hvc := hO.2.2 v hvo
      have hv8 : (O s).2 v < 8 := by omega
      obtain ⟨f1, f2, f3⟩ := hf1.2.1.2.2 _ hvc
      refine aj_aload_n 0 23 (dx d_Suite_addOwn 14 rfl) rfl rfl rfl ?_
      refine aj_iload_n 1 24 (dx d_Suite_addOwn 15 rfl) rfl rfl rfl ?_
      refine aj_aload_n 0 25 (dx d_Suite_addOwn 16 rfl) rfl rfl rfl ?_
      refine aj_getfv (v := 13) 28 fl_Suite_51 (dx d_Suite_addOwn 17 rfl) rfl hs1.1 (by (repeat (first | rw [aj_up_ne _ _ _ (by omega)] | rw [aj_up_ni _ _ _ (by omega)])); exact (sf_family hs1)) ?_
      refine aj_getfv (v := 14) 31 fl_Suite_121 (dx d_Suite_addOwn 18 rfl) rfl hf1.1.1 hf1.1.2.1.1 ?_
      refine aj_aload_n 0 32 (dx d_Suite_addOwn 19 rfl) rfl rfl rfl ?_
      refine aj_getfv (v := 13) 35 fl_Suite_51 (dx d_Suite_addOwn 20 rfl) rfl hs1.1 (by (repeat (first | rw [aj_up_ne _ _ _ (by omega)] | rw [aj_up_ni _ _ _ (by omega)])); exact (sf_family hs1)) ?_
      refine aj_getfv (v := 15) 38 fl_Suite_132 (dx d_Suite_addOwn 21 rfl) rfl hf1.1.1 hf1.1.2.1.2.1 ?_
      refine aj_iload_n 2 39 (dx d_Suite_addOwn 22 rfl) rfl rfl rfl ?_
      refine aj_aald 40 (dx d_Suite_addOwn 23 rfl) rfl hf1.1.2.2.2.1 rfl rfl (by omega) (by omega) ?_
      rw [(hf1.1.2.2.2.2.2 s hs8).2.2.1]
      refine aj_iload_n 3 41 (dx d_Suite_addOwn 24 rfl) rfl rfl rfl ?_
      refine aj_iald 42 (dx d_Suite_addOwn 25 rfl) rfl (hf1.1.2.2.2.2.2 s hs8).2.2.2 rfl (by omega) (by omega) ?_
      rw [hO.1.2 v hvo]
      refine aj_aald 43 (dx d_Suite_addOwn 26 rfl) rfl hf1.1.2.2.1 rfl rfl (by omega) (by omega) ?_
      rw [(hf1.1.2.2.2.2.2 _ hv8).1]
      refine aj_callV2 46 cl_Suite_125 (dx d_Suite_addOwn 27 rfl) rfl rfl rfl rfl rfl rfl hs1.1 (k_Suite_addWord hr hs1 hC1 hT1 (by omega) (by omega) (hf1.1.2.2.2.2.2 _ hv8).2.1 f1 f2 f3 hp1 (fun h u t e => hP (hat h).1 v hvo u t (by rw [e, hWp])) (fun g2 c2 W2 z2 hT2 hF2 hX2 hw2 => ?_))
      change aj_wp _ _ _ _ _ _ _ _ _ _ _ _ _ _
      refine aj_iinc 3 49 (dx d_Suite_addOwn 28 rfl) rfl rfl rfl ?_
      simp only [List.set]
      refine aj_goto 9 (dx d_Suite_addOwn 29 rfl) rfl ?_
      rw [show ((v : Nat) : Int) + 1 = ((v + 1 : Nat) : Int) by omega]
      exact ih _ (by omega) (v + 1) g2 c2 W2 z2 (by omega) rfl hT2 (eF_trans hF1 hF2) (tr_ex_trans hX1 hX2) (fun h => by
        obtain ⟨y1, y2⟩ := hw2 h
        obtain ⟨y3, y4⟩ := hat y1
        refine ⟨y3, fun v' hv' => ?_⟩
        rcases Nat.lt_or_ge v' v with e | e
        · exact pr_ex hX2 (y4 v' e)
        · rw [show v' = v by omega, ← hWp]; exact y2)
set_option maxHeartbeats 8000000 in
theorem k_Suite_addOwn {al : Prop} {X : Option (Nat × (Int → Int))} {d : Nat} {sh : List aj_S} {g : aj_G} {Q : aj_R → List aj_S → aj_G → Prop} {r : Int} {L k N : Nat} {mnx mou : Nat → Nat → Nat} (hr : r = 58 ∨ r = 68) (hs : sus sh g r k) (hC : suC sh g L k N mnx mou) {c : Nat} {W : Nat → List Nat} {P : List Nat → Prop} {z : Int} (hT : tS g r k c W mnx P z) {cf : Nat} {F : Nat → List Nat} {O : Nat → ow_T} (hf : suF sh g k N cf F O) {p s : Nat} (hp : p < c) (hsp : s = rn mnx 0 (W p)) (hP : z = 1 → ∀ v, v < (O s).1 → ∀ u t, t ++ u = F ((O s).2 v) ++ W p → P u) (hk : ∀ (g1 : aj_G) (c1 : Nat) (W1 : Nat → List Nat) (z1 : Int), tS g1 r k c1 W1 mnx P z1 → eF g g1 r → tr_ex c W c1 W1 → (z1 = 1 → z = 1 ∧ ∀ v, v < (O s).1 → pr c1 W1 (F ((O s).2 v) ++ W p)) → Q (.inl none) sh g1) : aj_wp nE al al X m_Suite_addOwn (d + 3) 0 0 0 [some (1, r), some (0, (p : Int)), none, none] [] sh g Q := by
  have hc8 := hT.2.2.2.1
  refine aj_aload_n 0 1 (dx d_Suite_addOwn 0 rfl) rfl rfl rfl ?_
  refine aj_getfv (v := (r + 4)) 4 fl_Suite_21 (dx d_Suite_addOwn 1 rfl) rfl hs.1 (by (repeat (first | rw [aj_up_ne _ _ _ (by omega)] | rw [aj_up_ni _ _ _ (by omega)])); exact (sf_state hs)) ?_
  refine aj_iload_n 1 5 (dx d_Suite_addOwn 2 rfl) rfl rfl rfl ?_
  refine aj_iald 6 (dx d_Suite_addOwn 3 rfl) rfl (ss_state hs) rfl (by omega) (by omega) ?_
  rw [(hT.1.2.1 p hp).2, ← hsp]
  refine aj_istore_n 2 7 (dx d_Suite_addOwn 4 rfl) rfl rfl rfl ?_
  simp only [List.set]
  refine aj_iconst 8 (dx d_Suite_addOwn 5 rfl) rfl ?_
  refine aj_istore_n 3 9 (dx d_Suite_addOwn 6 rfl) rfl rfl rfl ?_
  simp only [List.set]
  exact k_ao_loop hr hs hC hT hf hp hsp hP hk _ 0 g c W z (Nat.zero_le _) rfl hT (eF_refl g r) (tr_ex_refl c W) (fun h => ⟨h, fun v hv => absurd hv (Nat.not_lt_zero _)⟩)
def yw (k : Nat) : Nat → Nat → List Nat
  | 0, _ => []
  | l + 1, j => (j % k) :: yw k l (j / k)
theorem yw_len (k : Nat) : ∀ l j, (yw k l j).length = l
  | 0, _ => rfl
  | l + 1, j => by show (yw k l (j / k)).length + 1 = l + 1; rw [yw_len k l]
theorem yw_ok {k : Nat} (hk : 0 < k) : ∀ l j, wd_ok k (yw k l j)
  | 0, _ => wd_ok_nil k
  | l + 1, j => wd_ok_cons.mpr ⟨Nat.mod_lt _ hk, yw_ok hk l (j / k)⟩
theorem yw_st {k i : Nat} (hi : i < k) (l j : Nat) : yw k (l + 1) (k * j + i) = i :: yw k l j := by
  show ((k * j + i) % k) :: yw k l ((k * j + i) / k) = _
  rw [Nat.mul_add_mod, Nat.mod_eq_of_lt hi, Nat.mul_add_div (by omega), Nat.div_eq_of_lt hi]
  rfl
theorem yw_all {k : Nat} : ∀ y, wd_ok k y → ∃ j, j < k ^ y.length ∧ yw k y.length j = y
  | [], _ => ⟨0, by simp, rfl⟩
  | a :: y, h => by
    obtain ⟨h1, h2⟩ := wd_ok_cons.mp h
    obtain ⟨j, j1, j2⟩ := yw_all y h2
    refine ⟨k * j + a, ?_, ?_⟩
    · rw [List.length_cons, Nat.pow_succ, Nat.mul_comm (k ^ _) k]
      calc k * j + a < k * j + k := by omega
        _ = k * (j + 1) := by rw [Nat.mul_succ]
        _ ≤ k * k ^ y.length := Nat.mul_le_mul_left _ j1
    · rw [List.length_cons, yw_st h1, j2]
def lb (k : Nat) : Nat → Nat
  | 0 => 0
  | l + 1 => lb k l + k ^ l
theorem lb_13 {k l : Nat} (hk : k = 1 ∨ k = 2 ∨ k = 3) (hl : l ≤ 2) : lb k (l + 1) ≤ 13 := by
  obtain rfl | rfl | rfl : l = 0 ∨ l = 1 ∨ l = 2 := by omega
  all_goals rcases hk with rfl | rfl | rfl <;> decide +kernel
theorem lb_s (k l : Nat) : lb k (l + 1) = lb k l + k ^ l := rfl
theorem pw_s (k l : Nat) : k ^ (l + 1) = k * k ^ l := by rw [Nat.pow_succ, Nat.mul_comm]
theorem kj_lt {k j n : Nat} (hj : j < n) : k * j + k ≤ k * n := by
  have := Nat.mul_le_mul_left k (show j + 1 ≤ n from hj)
  rwa [Nat.mul_succ] at this
/-- grow also writes the row of reached nodes -/
def gF (g g1 : aj_G) (r : Int) : Prop := (∀ r', r' < r ∨ r + 9 < r' ∨ (r + 4 < r' ∧ r' < r + 8) → g1 r' = g r') ∧ ∀ j, j ≠ 12 → j ≠ 14 → g1 r j = g r j
theorem gF_refl (g : aj_G) (r : Int) : gF g g r := ⟨fun _ _ => rfl, fun _ _ _ => rfl⟩
theorem gF_trans {g g1 g2 : aj_G} {r : Int} (h : gF g g1 r) (h' : gF g1 g2 r) : gF g g2 r := ⟨fun r' a => (h'.1 r' a).trans (h.1 r' a), fun j a b => (h'.2 j a b).trans (h.2 j a b)⟩
theorem gF_e {g g1 : aj_G} {r : Int} (h : eF g g1 r) : gF g g1 r := ⟨fun r' a => h.1 r' (by omega), h.2⟩
theorem gF_s {sh : List aj_S} {g g1 : aj_G} {r : Int} {k : Nat} (hs : sus sh g r k) (h : gF g g1 r) : sus sh g1 r k := sus_of hs (fun j _ => h.2 j (by omega) (by omega))
theorem gF_C {sh : List aj_S} {g g1 : aj_G} {r : Int} {L k N : Nat} {mnx mou : Nat → Nat → Nat} (hr : r = 58 ∨ r = 68) (hC : suC sh g L k N mnx mou) (h : gF g g1 r) : suC sh g1 L k N mnx mou := suC_of hC (fun r' _ => h.1 r' (by omega))
theorem gF_fam {sh : List aj_S} {g g1 : aj_G} {r : Int} {k N cf : Nat} {F : Nat → List Nat} {O : Nat → ow_T} (hr : r = 58 ∨ r = 68) (hN : N ≤ 8) (h : suF sh g k N cf F O) (e : gF g g1 r) : suF sh g1 k N cf F O := suF_of h hN (fun r' _ => e.1 r' (by omega))
theorem gF_up (g : aj_G) (r i x : Int) : gF g (aj_up g (r + 8) i x) r := ⟨fun r' h => aj_up_ne _ _ _ (by omega), fun j _ _ => by rw [aj_up_ne _ _ _ (by omega)]⟩
theorem tS_of {g g1 : aj_G} {r : Int} {k c : Nat} {W : Nat → List Nat} {mnx : Nat → Nat → Nat} {P : List Nat → Prop} {z : Int} (h : tS g r k c W mnx P z) (e1 : g1 r 12 = g r 12) (e2 : g1 r 14 = g r 14) (e3 : ∀ i, (1 ≤ i ∧ i ≤ 4) ∨ i = 9 → g1 (r + i) = g (r + i)) : tS g1 r k c W mnx P z := by
  unfold tS tC at h ⊢
  rw [e1, e2, e3 1 (by omega), e3 2 (by omega), e3 3 (by omega), e3 4 (by omega), e3 9 (by omega)]
  exact h
theorem tS_up {g : aj_G} {r i x : Int} {k c : Nat} {W : Nat → List Nat} {mnx : Nat → Nat → Nat} {P : List Nat → Prop} {z : Int} (h : tS g r k c W mnx P z) : tS (aj_up g (r + 8) i x) r k c W mnx P z := tS_of h (by rw [aj_up_ne _ _ _ (by omega)]) (by rw [aj_up_ne _ _ _ (by omega)]) (fun j hj => aj_up_ne _ _ _ (by omega))
def gR (g1 : aj_G) (r : Int) (k : Nat) (x : List Nat) (b l n c1 : Nat) (W1 : Nat → List Nat) (z1 : Int) : Prop := ∀ j, j < n → ∃ q : Nat, g1 (r + 8) ((b + j : Nat) : Int) = q ∧ q < c1 ∧ (z1 = 1 → W1 q = yw k l j ++ x)
theorem gR_ex {g1 g2 : aj_G} {r : Int} {k : Nat} {x : List Nat} {b l n c1 c2 : Nat} {W1 W2 : Nat → List Nat} {z1 z2 : Int} (h : gR g1 r k x b l n c1 W1 z1) (hx : tr_ex c1 W1 c2 W2) (hz : z2 = 1 → z1 = 1) (e : ∀ j, j < n → g2 (r + 8) ((b + j : Nat) : Int) = g1 (r + 8) ((b + j : Nat) : Int)) : gR g2 r k x b l n c2 W2 z2 := fun j hj => by
  obtain ⟨q, q1, q2, q3⟩ := h j hj
  exact ⟨q, by rw [e j hj]; exact q1, Nat.lt_of_lt_of_le q2 hx.1, fun hz2 => by rw [hx.2 q q2]; exact q3 (hz hz2)⟩
def gC (all : Prop) (m : Nat) (F : Nat → List Nat) (cf : Nat) (O : Nat → ow_T) (mnx : Nat → Nat → Nat) (x : List Nat) (c : Nat) (W : Nat → List Nat) (y : List Nat) : Prop := ∀ zz, su_z all m F cf O mnx x y zz → pr c W (zz ++ (y ++ x))
theorem gC_ex {all : Prop} {m : Nat} {F : Nat → List Nat} {cf : Nat} {O : Nat → ow_T} {mnx : Nat → Nat → Nat} {x : List Nat} {c c1 : Nat} {W W1 : Nat → List Nat} {y : List Nat} (h : gC all m F cf O mnx x c W y) (hx : tr_ex c W c1 W1) : gC all m F cf O mnx x c1 W1 y := fun zz hz => pr_ex hx (h zz hz)
/-- the loop over one length's words -/
def gL (g : aj_G) (c : Nat) (W : Nat → List Nat) (z : Int) (r : Int) (k m : Nat) (x : List Nat) (own : Int) (F : Nat → List Nat) (cf : Nat) (O : Nat → ow_T) (mnx : Nat → Nat → Nat) (P : List Nat → Prop) (l j : Nat) (g1 : aj_G) (c1 : Nat) (W1 : Nat → List Nat) (z1 : Int) (ad : Nat) : Prop :=
  (tS g1 r k c1 W1 mnx P z1 ∧ gF g g1 r ∧ tr_ex c W c1 W1 ∧ (z1 = 1 → z = 1)) ∧ gR g1 r k x (lb k l) l (k ^ l) c1 W1 z1 ∧ (l < m → gR g1 r k x (lb k (l + 1)) (l + 1) (k * j) c1 W1 z1) ∧ ad = lb k (l + 1) + (if l < m then k * j else 0) ∧
  (z1 = 1 → (∀ j', j' < j → gC (own = 0) m F cf O mnx x c1 W1 (yw k l j')) ∧ ∀ y, y.length < l → wd_ok k y → gC (own = 0) m F cf O mnx x c1 W1 y)
set_option maxHeartbeats 8000000 in
theorem k_gr_in {al : Prop} {X : Option (Nat × (Int → Int))} {d : Nat} {sh : List aj_S} {g : aj_G} {Q : aj_R → List aj_S → aj_G → Prop} {r : Int} {L k N : Nat} {mnx mou : Nat → Nat → Nat} (hr : r = 58 ∨ r = 68) (hs : sus sh g r k) (hC : suC sh g L k N mnx mou) {c : Nat} {W : Nat → List Nat} {P : List Nat → Prop} {z : Int} (hT : tS g r k c W mnx P z) {pp own : Int} {m l : Nat} (hlm : l < m) (hm2 : m ≤ 2) {f e : Int} {a q b : Nat} {y : List Nat} (hq : q < c) (hgq : g (r + 8) (a : Nat) = (q : Nat)) (hy : z = 1 → W q = y) (hab : a < b) (hb : b + k ≤ 13) (hP : z = 1 → ∀ i, i < k → P (i :: y)) (hgo : ∀ (g2 : aj_G) (c2 : Nat) (W2 : Nat → List Nat) (z2 : Int), tS g2 r k c2 W2 mnx P z2 → gF g g2 r → (∀ t, t < (b : Int) → g2 (r + 8) t = g (r + 8) t) → tr_ex c W c2 W2 → (z2 = 1 → z = 1) → (∀ i, i < k → ∃ q : Nat, g2 (r + 8) ((b + i : Nat) : Int) = q ∧ q < c2 ∧ (z2 = 1 → W2 q = i :: y)) → aj_wp nE al al X m_Suite_grow (d + 4) 0 0 129 [some (1, r), some (0, pp), some (0, (m : Int)), some (0, own), some (0, f), some (0, e), some (0, (l : Int)), some (0, ((b + k : Nat) : Int)), some (0, (a : Int)), some (0, (k : Int))] [] sh g2 Q) : ∀ (n i : Nat) (g1 : aj_G) (c1 : Nat) (W1 : Nat → List Nat) (z1 : Int), i ≤ k → k - i = n → tS g1 r k c1 W1 mnx P z1 → gF g g1 r → (∀ t, t < (b : Int) → g1 (r + 8) t = g (r + 8) t) → tr_ex c W c1 W1 → (z1 = 1 → z = 1) → (∀ i', i' < i → ∃ q : Nat, g1 (r + 8) ((b + i' : Nat) : Int) = q ∧ q < c1 ∧ (z1 = 1 → W1 q = i' :: y)) →
    aj_wp nE al al X m_Suite_grow (d + 4) 0 0 82 [some (1, r), some (0, pp), some (0, (m : Int)), some (0, own), some (0, f), some (0, e), some (0, (l : Int)), some (0, ((b + i : Nat) : Int)), some (0, (a : Int)), some (0, (i : Int))] [] sh g1 Q := by
  have hk3 := hC.2.1
  intro n
  induction n using Nat.strongRecOn with
  | ind n ih =>
    intro i g1 c1 W1 z1 hi hnn hT1 hF1 hlo hX1 hz1 hR
    have hs1 := gF_s hs hF1
    have hC1 := gF_C hr hC hF1
    refine aj_iload 6 84 (dx d_Suite_grow 44 rfl) rfl rfl ?_
    refine aj_iload_n 2 85 (dx d_Suite_grow 45 rfl) rfl rfl rfl ?_
    refine aj_icmp_ge 129 88 (dx d_Suite_grow 46 rfl) rfl rfl (by unfold aj_I; omega) (by unfold aj_I; omega) (fun h85 => ?_) (fun h85 => ?_)
    · exact absurd h85 (by omega)
    · refine aj_iload 9 90 (dx d_Suite_grow 47 rfl) rfl rfl ?_
      refine aj_aload_n 0 91 (dx d_Suite_grow 48 rfl) rfl rfl rfl ?_
      refine aj_getfv (v := 10) 94 fl_Suite_61 (dx d_Suite_grow 49 rfl) rfl hs1.1 (by (repeat (first | rw [aj_up_ne _ _ _ (by omega)] | rw [aj_up_ni _ _ _ (by omega)])); exact (sf_machine hs1)) ?_
      refine aj_getfv (v := (k : Int)) 97 fl_Suite_62 (dx d_Suite_grow 50 rfl) rfl hC1.1.1.1 hC1.1.2.1 ?_
      refine aj_icmp_ge 129 100 (dx d_Suite_grow 51 rfl) rfl rfl (by unfold aj_I; omega) (by unfold aj_I; omega) (fun h97 => ?_) (fun h97 => ?_)
      · obtain rfl : i = k := by omega
        exact hgo g1 c1 W1 z1 hT1 hF1 hlo hX1 hz1 hR
      · have hik : i < k := by omega
        refine aj_aload_n 0 101 (dx d_Suite_grow 52 rfl) rfl rfl rfl ?_
        refine aj_getfv (v := (r + 8)) 104 fl_Suite_33 (dx d_Suite_grow 53 rfl) rfl hs1.1 (by (repeat (first | rw [aj_up_ne _ _ _ (by omega)] | rw [aj_up_ni _ _ _ (by omega)])); exact (sf_reach hs1)) ?_
        refine aj_iload 7 106 (dx d_Suite_grow 54 rfl) rfl rfl ?_
        refine aj_aload_n 0 107 (dx d_Suite_grow 55 rfl) rfl rfl rfl ?_
        refine aj_aload_n 0 108 (dx d_Suite_grow 56 rfl) rfl rfl rfl ?_
        refine aj_getfv (v := (r + 8)) 111 fl_Suite_33 (dx d_Suite_grow 57 rfl) rfl hs1.1 (by (repeat (first | rw [aj_up_ne _ _ _ (by omega)] | rw [aj_up_ni _ _ _ (by omega)])); exact (sf_reach hs1)) ?_
        refine aj_iload 8 113 (dx d_Suite_grow 58 rfl) rfl rfl ?_
        refine aj_iald 114 (dx d_Suite_grow 59 rfl) rfl (ss_reach hs1) rfl (by omega) (by omega) ?_
        rw [hlo _ (by omega), hgq]
        refine aj_iload 9 116 (dx d_Suite_grow 60 rfl) rfl rfl ?_
        refine aj_callV2 119 cl_Suite_97 (dx d_Suite_grow 61 rfl) rfl rfl rfl rfl rfl rfl hs1.1 (k_Suite_enter hr hs1 hC1 hT1 (Nat.lt_of_lt_of_le hq hX1.1) hik (fun h => by rw [hX1.2 q hq, hy (hz1 h)]; exact hP (hz1 h) i hik) (fun g2 c2 W2 z2 q2 hT2 hF2 hX2 hq2 hw2 => ?_))
        have hs2 := eF_s hs1 hF2
        change aj_wp _ _ _ _ _ _ _ _ _ _ _ _ _ _
        refine aj_iast 120 (dx d_Suite_grow 62 rfl) rfl (ss_reach hs2) rfl (by omega) (by omega) ?_
        refine aj_iinc 7 123 (dx d_Suite_grow 63 rfl) rfl rfl rfl ?_
        simp only [List.set]
        refine aj_iinc 9 126 (dx d_Suite_grow 64 rfl) rfl rfl rfl ?_
        simp only [List.set]
        refine aj_goto 82 (dx d_Suite_grow 65 rfl) rfl ?_
        rw [show ((b + i : Nat) : Int) + 1 = ((b + (i + 1) : Nat) : Int) by omega, show ((i : Nat) : Int) + 1 = ((i + 1 : Nat) : Int) by omega]
        exact ih _ (by omega) (i + 1) _ c2 W2 z2 (by omega) rfl (tS_up hT2) (gF_trans (gF_trans hF1 (gF_e hF2)) (gF_up _ _ _ _)) (fun t ht => by rw [aj_up_ni _ _ _ (by omega), hF2.1 (r + 8) (by omega)]; exact hlo t ht) (tr_ex_trans hX1 hX2) (fun h => hz1 (hw2 h).1) (fun i' hi' => by
          by_cases e0 : i' = i
          · refine ⟨q2, by rw [e0, aj_up_self], hq2, fun h => ?_⟩
            obtain ⟨w1, w2⟩ := hw2 h
            rw [w2, hX1.2 q hq, hy (hz1 w1), e0]
          · obtain ⟨q3, t1, t2, t3⟩ := hR i' (by omega)
            refine ⟨q3, by rw [aj_up_ni _ _ _ (by omega), hF2.1 (r + 8) (by omega)]; exact t1, Nat.lt_of_lt_of_le t2 hX2.1, fun h => ?_⟩
            rw [hX2.2 q3 t2]
            exact t3 (hw2 h).1)
set_option maxHeartbeats 8000000 in
theorem k_gr_79 {al : Prop} {X : Option (Nat × (Int → Int))} {d : Nat} {sh : List aj_S} {g : aj_G} {Q : aj_R → List aj_S → aj_G → Prop} {r : Int} {L k N : Nat} {mnx mou : Nat → Nat → Nat} (hr : r = 58 ∨ r = 68) (hs : sus sh g r k) (hC : suC sh g L k N mnx mou) {c : Nat} {W : Nat → List Nat} {P : List Nat → Prop} {z : Int} (hT : tS g r k c W mnx P z) {cf : Nat} {F : Nat → List Nat} {O : Nat → ow_T} {x : List Nat} {pp own : Int} {m l : Nat} (hm2 : m ≤ 2) (hlm : l ≤ m) (hPy : z = 1 → ∀ y, wd_ok k y → y.length ≤ m → ∀ u t, t ++ u = y ++ x → P u) {j : Nat} (hj : j < k ^ l) {g1 : aj_G} {c1 : Nat} {W1 : Nat → List Nat} {z1 : Int} {ad : Nat} {o9 : Option aj_A} (hL : gL g c W z r k m x own F cf O mnx P l j g1 c1 W1 z1 ad) (hthis : z1 = 1 → gC (own = 0) m F cf O mnx x c1 W1 (yw k l j))
    (hnx : ∀ (g2 : aj_G) (c2 : Nat) (W2 : Nat → List Nat) (z2 : Int) (ad2 : Nat) (i9 : Int), gL g c W z r k m x own F cf O mnx P l (j + 1) g2 c2 W2 z2 ad2 → aj_wp nE al al X m_Suite_grow (d + 4) 0 0 129 [some (1, r), some (0, pp), some (0, (m : Int)), some (0, own), some (0, (lb k l : Nat)), some (0, ((lb k l + k ^ l : Nat) : Int)), some (0, (l : Int)), some (0, (ad2 : Int)), some (0, ((lb k l + j : Nat) : Int)), some (0, i9)] [] sh g2 Q) :
    aj_wp nE al al X m_Suite_grow (d + 4) 0 0 79 [some (1, r), some (0, pp), some (0, (m : Int)), some (0, own), some (0, (lb k l : Nat)), some (0, ((lb k l + k ^ l : Nat) : Int)), some (0, (l : Int)), some (0, (ad : Int)), some (0, ((lb k l + j : Nat) : Int)), o9] [] sh g1 Q := by
  have hk3 := hC.2.1
  have hk0 : 0 < k := by omega
  refine aj_iconst 80 (dx d_Suite_grow 42 rfl) rfl ?_
  refine aj_istore 9 82 (dx d_Suite_grow 43 rfl) rfl rfl ?_
  simp only [List.set]
  obtain ⟨⟨hT1, hF1, hX1, hz1⟩, hR, hR2, had, hcv⟩ := hL
  obtain ⟨q, q1, q2, q3⟩ := hR j hj
  have hs1 := gF_s hs hF1
  have hC1 := gF_C hr hC hF1
  by_cases hlt : l < m
  · have hkj := kj_lt (k := k) hj
    have h13 := lb_13 (l := l + 1) hC.2.1 (by omega)
    rw [lb_s, pw_s] at h13
    rw [if_pos hlt] at had
    have hls := lb_s k l
    have g79 := k_gr_in (Q := Q) (X := X) (d := d) (al := al) (pp := pp) (own := own) (m := m) (l := l) (f := ((lb k l : Nat) : Int)) (e := ((lb k l + k ^ l : Nat) : Int)) (a := lb k l + j) (q := q) (b := lb k (l + 1) + k * j) (y := yw k l j ++ x) hr hs1 hC1 hT1 hlt hm2 q2 q1 q3 (by omega) (by omega) (fun h i hi => hPy (hz1 h) (i :: yw k l j) (wd_ok_cons.mpr ⟨hi, yw_ok (by omega) l j⟩) (by rw [List.length_cons, yw_len]; omega) _ [] rfl) (fun g2 c2 W2 z2 hT2 hF2 hlo hX2 hz2 hR3 => ?_) _ 0 g1 c1 W1 z1 (Nat.zero_le _) rfl hT1 (gF_refl g1 r) (fun t _ => rfl) (tr_ex_refl c1 W1) id (fun i hi => absurd hi (Nat.not_lt_zero _))
    · rw [had]
      exact g79
    · refine hnx g2 c2 W2 z2 (lb k (l + 1) + k * j + k) _ ?_
      refine ⟨⟨hT2, gF_trans hF1 hF2, tr_ex_trans hX1 hX2, fun h => hz1 (hz2 h)⟩, gR_ex hR hX2 hz2 (fun j' hj' => hlo _ (by omega)), fun _ j' hj' => ?_, by rw [if_pos hlt, Nat.mul_succ]; omega, fun h => ⟨fun j' hj' => ?_, fun y y1 y2 => gC_ex ((hcv (hz2 h)).2 y y1 y2) hX2⟩⟩
      · rcases Nat.lt_or_ge j' (k * j) with e0 | e0
        · exact gR_ex (hR2 hlt) hX2 hz2 (fun j3 hj3 => hlo _ (by omega)) j' e0
        · obtain ⟨i, rfl⟩ : ∃ i, j' = k * j + i := ⟨j' - k * j, by omega⟩
          rw [Nat.mul_succ] at hj'
          obtain ⟨q4, t1, t2, t3⟩ := hR3 i (by omega)
          exact ⟨q4, by rw [← Nat.add_assoc]; exact t1, t2, fun h => by rw [yw_st (by omega)]; exact t3 h⟩
      · rcases Nat.lt_or_ge j' j with e0 | e0
        · exact gC_ex ((hcv (hz2 h)).1 j' e0) hX2
        · rw [show j' = j by omega]
          exact gC_ex (hthis (hz2 h)) hX2
  · refine aj_iload 6 84 (dx d_Suite_grow 44 rfl) rfl rfl ?_
    refine aj_iload_n 2 85 (dx d_Suite_grow 45 rfl) rfl rfl rfl ?_
    refine aj_icmp_ge 129 88 (dx d_Suite_grow 46 rfl) rfl rfl (by unfold aj_I; omega) (by unfold aj_I; omega) (fun h85 => ?_) (fun h85 => ?_)
    · refine hnx g1 c1 W1 z1 ad _ ⟨⟨hT1, hF1, hX1, hz1⟩, hR, fun h => absurd h hlt, by rw [had, if_neg hlt, if_neg hlt], fun h => ⟨fun j' hj' => ?_, (hcv h).2⟩⟩
      rcases Nat.lt_or_ge j' j with e0 | e0
      · exact (hcv h).1 j' e0
      · rw [show j' = j by omega]
        exact hthis h
    · exact absurd h85 (by omega)
set_option maxHeartbeats 16000000 in
theorem k_gr_at {al : Prop} {X : Option (Nat × (Int → Int))} {d : Nat} {sh : List aj_S} {g : aj_G} {Q : aj_R → List aj_S → aj_G → Prop} {r : Int} {L k N : Nat} {mnx mou : Nat → Nat → Nat} (hr : r = 58 ∨ r = 68) (hs : sus sh g r k) (hC : suC sh g L k N mnx mou) {c : Nat} {W : Nat → List Nat} {P : List Nat → Prop} {z : Int} (hT : tS g r k c W mnx P z) {cf : Nat} {F : Nat → List Nat} {O : Nat → ow_T} {x : List Nat} {pp own : Int} {m l : Nat} (hm2 : m ≤ 2) (hlm : l ≤ m) (hPy : z = 1 → ∀ y, wd_ok k y → y.length ≤ m → ∀ u t, t ++ u = y ++ x → P u) (hPs : z = 1 → ∀ y zz, wd_ok k y → su_z (own = 0) m F cf O mnx x y zz → ∀ u t, t ++ u = zz ++ (y ++ x) → P u) (ho : own = 0 ∨ own = 1) (hf : suF sh g k N cf F O) (hgo : ∀ (g1 : aj_G) (c1 : Nat) (W1 : Nat → List Nat) (z1 : Int) (ad : Nat) (o9 : Option aj_A), gL g c W z r k m x own F cf O mnx P l (k ^ l) g1 c1 W1 z1 ad → aj_wp nE al al X m_Suite_grow (d + 4) 0 0 135 [some (1, r), some (0, pp), some (0, (m : Int)), some (0, own), some (0, (lb k l : Nat)), some (0, ((lb k l + k ^ l : Nat) : Int)), some (0, (l : Int)), some (0, (ad : Int)), some (0, ((lb k l + k ^ l : Nat) : Int)), o9] [] sh g1 Q) :
    ∀ (n j : Nat) (g1 : aj_G) (c1 : Nat) (W1 : Nat → List Nat) (z1 : Int) (ad : Nat) (o9 : Option aj_A), j ≤ k ^ l → k ^ l - j = n → gL g c W z r k m x own F cf O mnx P l j g1 c1 W1 z1 ad →
    aj_wp nE al al X m_Suite_grow (d + 4) 0 0 37 [some (1, r), some (0, pp), some (0, (m : Int)), some (0, own), some (0, (lb k l : Nat)), some (0, ((lb k l + k ^ l : Nat) : Int)), some (0, (l : Int)), some (0, (ad : Int)), some (0, ((lb k l + j : Nat) : Int)), o9] [] sh g1 Q := by
  have hk3 := hC.2.1
  have hk0 : 0 < k := by omega
  have h13 := lb_13 (l := l) hC.2.1 (by omega)
  rw [lb_s] at h13
  intro n
  induction n using Nat.strongRecOn with
  | ind n ih =>
    intro j g1 c1 W1 z1 ad o9 hj0 hnn hL
    obtain ⟨⟨hT1, hF1, hX1, hz1⟩, hR, hR2, had, hcv⟩ := hL
    have hL : gL g c W z r k m x own F cf O mnx P l j g1 c1 W1 z1 ad := ⟨⟨hT1, hF1, hX1, hz1⟩, hR, hR2, had, hcv⟩
    have hs1 := gF_s hs hF1
    have hC1 := gF_C hr hC hF1
    have hf1 := gF_fam hr hC.2.2.2 hf hF1
    refine aj_iload 8 39 (dx d_Suite_grow 21 rfl) rfl rfl ?_
    refine aj_iload 5 41 (dx d_Suite_grow 22 rfl) rfl rfl ?_
    refine aj_icmp_ge 135 44 (dx d_Suite_grow 23 rfl) rfl rfl (by unfold aj_I; omega) (by unfold aj_I; omega) (fun h41 => ?_) (fun h41 => ?_)
    · obtain rfl : j = k ^ l := by omega
      exact hgo g1 c1 W1 z1 ad o9 hL
    · have hj : j < k ^ l := by omega
      obtain ⟨q, q1, q2, q3⟩ := hR j hj
      refine aj_iload_n 3 45 (dx d_Suite_grow 24 rfl) rfl rfl rfl ?_
      refine aj_if_ne 62 48 (dx d_Suite_grow 25 rfl) rfl rfl (by unfold aj_I; omega) (fun h45 => ?_) (fun h45 => ?_)
      · have ho1 : own = 1 := by omega
        refine aj_iload 6 64 (dx d_Suite_grow 33 rfl) rfl rfl ?_
        refine aj_iload_n 2 65 (dx d_Suite_grow 34 rfl) rfl rfl rfl ?_
        refine aj_icmp_ne 79 68 (dx d_Suite_grow 35 rfl) rfl rfl (by unfold aj_I; omega) (by unfold aj_I; omega) (fun h65 => ?_) (fun h65 => ?_)
        · refine k_gr_79 hr hs hC hT hm2 hlm hPy (j := j) hj (g1 := g1) (c1 := c1) (W1 := W1) (z1 := z1) (ad := ad) hL (fun h zz hz => by
              rcases hz with ⟨hh, -⟩ | ⟨-, hh, -⟩
              · exact absurd hh (by omega)
              · rw [yw_len] at hh; omega) (fun g3 c3 W3 z3 ad3 i9 hL3 => ?_)
          refine aj_iinc 8 132 (dx d_Suite_grow 66 rfl) rfl rfl rfl ?_
          simp only [List.set]
          refine aj_goto 37 (dx d_Suite_grow 67 rfl) rfl ?_
          rw [show ((lb k l + j : Nat) : Int) + 1 = ((lb k l + (j + 1) : Nat) : Int) by omega]
          exact ih _ (by omega) (j + 1) g3 c3 W3 z3 ad3 _ (by omega) rfl hL3
        · obtain rfl : l = m := by omega
          refine aj_aload_n 0 69 (dx d_Suite_grow 36 rfl) rfl rfl rfl ?_
          refine aj_aload_n 0 70 (dx d_Suite_grow 37 rfl) rfl rfl rfl ?_
          refine aj_getfv (v := (r + 8)) 73 fl_Suite_33 (dx d_Suite_grow 38 rfl) rfl hs1.1 (by (repeat (first | rw [aj_up_ne _ _ _ (by omega)] | rw [aj_up_ni _ _ _ (by omega)])); exact (sf_reach hs1)) ?_
          refine aj_iload 8 75 (dx d_Suite_grow 39 rfl) rfl rfl ?_
          refine aj_iald 76 (dx d_Suite_grow 40 rfl) rfl (ss_reach hs1) rfl (by omega) (by omega) ?_
          rw [q1]
          refine aj_callV1 79 cl_Suite_115 (dx d_Suite_grow 41 rfl) rfl rfl rfl rfl rfl rfl hs1.1 (k_Suite_addOwn hr hs1 hC1 hT1 hf1 q2 rfl (fun h v hv u t e => hPs (hz1 h) (yw k l j) (F ((O (rn mnx 0 (W1 q))).2 v)) (yw_ok (by omega) l j) (Or.inr ⟨by omega, by rw [yw_len], Or.inr ⟨v, by rw [← q3 h]; exact hv, by rw [q3 h]⟩⟩) u t (by rw [e, q3 h])) (fun g2 c2 W2 z2 hT2 hF2 hX2 hw2 => ?_))
          · change aj_wp _ _ _ _ _ _ _ _ _ _ _ _ _ _
            refine k_gr_79 hr hs hC hT hm2 hlm hPy (j := j) hj (g1 := g2) (c1 := c2) (W1 := W2) (z1 := z2) (ad := ad) ⟨⟨hT2, gF_trans hF1 (gF_e hF2), tr_ex_trans hX1 hX2, fun h => hz1 (hw2 h).1⟩, gR_ex hR hX2 (fun h => (hw2 h).1) (fun j' _ => by rw [hF2.1 (r + 8) (by omega)]), fun h => gR_ex (hR2 h) hX2 (fun h => (hw2 h).1) (fun j' _ => by rw [hF2.1 (r + 8) (by omega)]), had, fun h => ⟨fun j' hj' => gC_ex ((hcv (hw2 h).1).1 j' hj') hX2, fun y y1 y2 => gC_ex ((hcv (hw2 h).1).2 y y1 y2) hX2⟩⟩ (fun h zz hz => by
                rcases hz with ⟨hh, -⟩ | ⟨-, -, rfl | ⟨v, v1, rfl⟩⟩
                · exact absurd hh (by omega)
                · exact ⟨q, Nat.lt_of_lt_of_le q2 hX2.1, by rw [hX2.2 q q2]; exact q3 (hw2 h).1⟩
                · rw [← q3 (hw2 h).1] at v1 ⊢
                  exact (hw2 h).2 v v1) (fun g3 c3 W3 z3 ad3 i9 hL3 => ?_)
            refine aj_iinc 8 132 (dx d_Suite_grow 66 rfl) rfl rfl rfl ?_
            simp only [List.set]
            refine aj_goto 37 (dx d_Suite_grow 67 rfl) rfl ?_
            rw [show ((lb k l + j : Nat) : Int) + 1 = ((lb k l + (j + 1) : Nat) : Int) by omega]
            exact ih _ (by omega) (j + 1) g3 c3 W3 z3 ad3 _ (by omega) rfl hL3
      · have ho0 : own = 0 := by omega
        refine aj_aload_n 0 49 (dx d_Suite_grow 26 rfl) rfl rfl rfl ?_
        refine aj_aload_n 0 50 (dx d_Suite_grow 27 rfl) rfl rfl rfl ?_
        refine aj_getfv (v := (r + 8)) 53 fl_Suite_33 (dx d_Suite_grow 28 rfl) rfl hs1.1 (by (repeat (first | rw [aj_up_ne _ _ _ (by omega)] | rw [aj_up_ni _ _ _ (by omega)])); exact (sf_reach hs1)) ?_
        refine aj_iload 8 55 (dx d_Suite_grow 29 rfl) rfl rfl ?_
        refine aj_iald 56 (dx d_Suite_grow 30 rfl) rfl (ss_reach hs1) rfl (by omega) (by omega) ?_
        rw [q1]
        refine aj_callV1 59 cl_Suite_111 (dx d_Suite_grow 31 rfl) rfl rfl rfl rfl rfl rfl hs1.1 (k_Suite_addFamily hr hs1 hC1 hT1 hf1 q2 (fun h v hv u t e => hPs (hz1 h) (yw k l j) (F v) (yw_ok (by omega) l j) (Or.inl ⟨ho0, by rw [yw_len]; omega, Or.inr ⟨v, hv, rfl⟩⟩) u t (by rw [e, q3 h])) (fun g2 c2 W2 z2 hT2 hF2 hX2 hw2 => ?_))
        · change aj_wp _ _ _ _ _ _ _ _ _ _ _ _ _ _
          refine aj_goto 79 (dx d_Suite_grow 32 rfl) rfl ?_
          refine k_gr_79 hr hs hC hT hm2 hlm hPy (j := j) hj (g1 := g2) (c1 := c2) (W1 := W2) (z1 := z2) (ad := ad) ⟨⟨hT2, gF_trans hF1 (gF_e hF2), tr_ex_trans hX1 hX2, fun h => hz1 (hw2 h).1⟩, gR_ex hR hX2 (fun h => (hw2 h).1) (fun j' _ => by rw [hF2.1 (r + 8) (by omega)]), fun h => gR_ex (hR2 h) hX2 (fun h => (hw2 h).1) (fun j' _ => by rw [hF2.1 (r + 8) (by omega)]), had, fun h => ⟨fun j' hj' => gC_ex ((hcv (hw2 h).1).1 j' hj') hX2, fun y y1 y2 => gC_ex ((hcv (hw2 h).1).2 y y1 y2) hX2⟩⟩ (fun h zz hz => by
              rcases hz with ⟨-, -, rfl | ⟨v, v1, rfl⟩⟩ | ⟨hh, -⟩
              · exact ⟨q, Nat.lt_of_lt_of_le q2 hX2.1, by rw [hX2.2 q q2]; exact q3 (hw2 h).1⟩
              · have := (hw2 h).2 v v1
                rwa [q3 (hw2 h).1] at this
              · exact absurd ho0 hh) (fun g3 c3 W3 z3 ad3 i9 hL3 => ?_)
          refine aj_iinc 8 132 (dx d_Suite_grow 66 rfl) rfl rfl rfl ?_
          simp only [List.set]
          refine aj_goto 37 (dx d_Suite_grow 67 rfl) rfl ?_
          rw [show ((lb k l + j : Nat) : Int) + 1 = ((lb k l + (j + 1) : Nat) : Int) by omega]
          exact ih _ (by omega) (j + 1) g3 c3 W3 z3 ad3 _ (by omega) rfl hL3
set_option maxHeartbeats 16000000 in
theorem k_gr_out {al : Prop} {X : Option (Nat × (Int → Int))} {d : Nat} {sh : List aj_S} {g : aj_G} {Q : aj_R → List aj_S → aj_G → Prop} {r : Int} {L k N : Nat} {mnx mou : Nat → Nat → Nat} (hr : r = 58 ∨ r = 68) (hs : sus sh g r k) (hC : suC sh g L k N mnx mou) {c : Nat} {W : Nat → List Nat} {P : List Nat → Prop} {z : Int} (hT : tS g r k c W mnx P z) {cf : Nat} {F : Nat → List Nat} {O : Nat → ow_T} {x : List Nat} {own : Int} {m : Nat} (hm2 : m ≤ 2) (hPs : z = 1 → ∀ y zz, wd_ok k y → su_z (own = 0) m F cf O mnx x y zz → ∀ u t, t ++ u = zz ++ (y ++ x) → P u) (ho : own = 0 ∨ own = 1) (hf : suF sh g k N cf F O) (hk : ∀ (g1 : aj_G) (c1 : Nat) (W1 : Nat → List Nat) (z1 : Int), tS g1 r k c1 W1 mnx P z1 → gF g g1 r → tr_ex c W c1 W1 → (z1 = 1 → z = 1 ∧ ∀ y zz, wd_ok k y → su_z (own = 0) m F cf O mnx x y zz → pr c1 W1 (zz ++ (y ++ x))) → Q (.inl none) sh g1) {pp : Int} : ∀ (n l : Nat) (g1 : aj_G) (c1 : Nat) (W1 : Nat → List Nat) (z1 : Int) (o7 o8 o9 : Option aj_A) (fi en : Nat), l ≤ m + 1 → m + 1 - l = n → fi = lb k l → (l ≤ m → en = lb k l + k ^ l) → tS g1 r k c1 W1 mnx P z1 → gF g g1 r → tr_ex c W c1 W1 → (z1 = 1 → z = 1) → (l ≤ m → gR g1 r k x (lb k l) l (k ^ l) c1 W1 z1) → (z1 = 1 → ∀ y, y.length < l → wd_ok k y → gC (own = 0) m F cf O mnx x c1 W1 y) →
    aj_wp nE al al X m_Suite_grow (d + 4) 0 0 16 [some (1, r), some (0, pp), some (0, (m : Int)), some (0, own), some (0, (fi : Nat)), some (0, ((en : Nat) : Int)), some (0, (l : Int)), o7, o8, o9] [] sh g1 Q := by
  have hk3 := hC.2.1
  have hk0 : 0 < k := by omega
  have hPy : z = 1 → ∀ y, wd_ok k y → y.length ≤ m → ∀ u t, t ++ u = y ++ x → P u := fun h y y1 y2 u t e => by
    rcases ho with h0 | h0
    · exact hPs h y [] y1 (Or.inl ⟨h0, y2, Or.inl rfl⟩) u t e
    · refine hPs h (List.replicate (m - y.length) 0 ++ y) [] (wd_ok_app2 y1 (fun i hi => by rw [List.eq_of_mem_replicate hi]; exact hk0)) (Or.inr ⟨by omega, by rw [List.length_append, List.length_replicate]; omega, Or.inl rfl⟩) u (List.replicate (m - y.length) 0 ++ t) ?_
      rw [List.append_assoc, e, List.nil_append, List.append_assoc]
  intro n
  induction n using Nat.strongRecOn with
  | ind n ih =>
    intro l g1 c1 W1 z1 o7 o8 o9 fi en hl hnn hfi hen hT1 hF1 hX1 hz1 hR hcv
    have hs1 := gF_s hs hF1
    refine aj_aload_n 0 17 (dx d_Suite_grow 11 rfl) rfl rfl rfl ?_
    refine aj_getfv (v := z1) 20 fl_Suite_43 (dx d_Suite_grow 12 rfl) rfl hs1.1 hT1.2.2.2.2.1 ?_
    refine aj_if_eq 149 23 (dx d_Suite_grow 13 rfl) rfl rfl (by rcases hT1.2.2.2.2.2 with e0 | ⟨e0, -⟩ <;> rw [e0] <;> unfold aj_I <;> omega) (fun h20 => ?_) (fun h20 => ?_)
    · refine aj_vret (dx d_Suite_grow 74 rfl) rfl id ?_
      exact hk g1 c1 W1 z1 hT1 hF1 hX1 (fun h => absurd h (by omega))
    · refine aj_iload 6 25 (dx d_Suite_grow 14 rfl) rfl rfl ?_
      refine aj_iload_n 2 26 (dx d_Suite_grow 15 rfl) rfl rfl rfl ?_
      refine aj_icmp_gt 149 29 (dx d_Suite_grow 16 rfl) rfl rfl (by unfold aj_I; omega) (by unfold aj_I; omega) (fun h26 => ?_) (fun h26 => ?_)
      · refine aj_vret (dx d_Suite_grow 74 rfl) rfl id ?_
        exact hk g1 c1 W1 z1 hT1 hF1 hX1 (fun h => ⟨hz1 h, fun y zz y1 y2 => hcv h y (by
          rcases y2 with ⟨-, e0, -⟩ | ⟨-, e0, -⟩ <;> omega) y1 zz y2⟩)
      · have hlm : l ≤ m := by omega
        refine aj_iload 5 31 (dx d_Suite_grow 17 rfl) rfl rfl ?_
        refine aj_istore 7 33 (dx d_Suite_grow 18 rfl) rfl rfl ?_
        simp only [List.set]
        refine aj_iload 4 35 (dx d_Suite_grow 19 rfl) rfl rfl ?_
        refine aj_istore 8 37 (dx d_Suite_grow 20 rfl) rfl rfl ?_
        simp only [List.set]
        obtain rfl := hen hlm
        obtain rfl := hfi
        have hg := k_gr_at (pp := pp) (Q := Q) (X := X) (d := d) (al := al) hr hs hC hT hm2 hlm hPy hPs ho hf (fun g2 c2 W2 z2 ad o9' hL => ?_) _ 0 g1 c1 W1 z1 (lb k l + k ^ l) o9 (Nat.zero_le _) rfl ⟨⟨hT1, hF1, hX1, hz1⟩, hR hlm, fun _ j hj => absurd hj (by rw [Nat.mul_zero]; exact Nat.not_lt_zero _), by rw [Nat.mul_zero, ite_self]; rfl, fun h => ⟨fun j hj => absurd hj (Nat.not_lt_zero _), hcv h⟩⟩
        · rw [Nat.add_zero] at hg
          exact hg
        · rw [← lb_s]
          refine aj_iload 5 137 (dx d_Suite_grow 68 rfl) rfl rfl ?_
          refine aj_istore 4 139 (dx d_Suite_grow 69 rfl) rfl rfl ?_
          simp only [List.set]
          refine aj_iload 7 141 (dx d_Suite_grow 70 rfl) rfl rfl ?_
          refine aj_istore 5 143 (dx d_Suite_grow 71 rfl) rfl rfl ?_
          simp only [List.set]
          refine aj_iinc 6 146 (dx d_Suite_grow 72 rfl) rfl rfl rfl ?_
          simp only [List.set]
          refine aj_goto 16 (dx d_Suite_grow 73 rfl) rfl ?_
          obtain ⟨⟨hT2, hF2, hX2, hz2⟩, hR', hR2, had, hcv⟩ := hL
          rw [show ((l : Nat) : Int) + 1 = ((l + 1 : Nat) : Int) by omega]
          refine ih (m + 1 - (l + 1)) (by omega) (l + 1) g2 c2 W2 z2 _ _ _ (lb k (l + 1)) ad (by omega) rfl rfl (fun hl => ?_) hT2 hF2 hX2 hz2 (fun hl => ?_) (fun h y y1 y2 => ?_)
          · rw [had, if_pos (by omega), ← pw_s]
          · have := hR2 (by omega)
            rwa [← pw_s] at this
          · rcases Nat.lt_or_ge y.length l with e0 | e0
            · exact (hcv h).2 y e0 y2
            · obtain ⟨j, j1, j2⟩ := yw_all y y2
              have e1 : y.length = l := by omega
              rw [e1] at j1 j2
              rw [← j2]
              exact (hcv h).1 j j1
set_option maxHeartbeats 16000000 in
theorem k_Suite_grow {al : Prop} {X : Option (Nat × (Int → Int))} {d : Nat} {sh : List aj_S} {g : aj_G} {Q : aj_R → List aj_S → aj_G → Prop} {r : Int} {L k N : Nat} {mnx mou : Nat → Nat → Nat} (hr : r = 58 ∨ r = 68) (hs : sus sh g r k) (hC : suC sh g L k N mnx mou) {c : Nat} {W : Nat → List Nat} {P : List Nat → Prop} {z : Int} (hT : tS g r k c W mnx P z) {cf : Nat} {F : Nat → List Nat} {O : Nat → ow_T} {x : List Nat} {own : Int} {m : Nat} (hm2 : m ≤ 2) (hPs : z = 1 → ∀ y zz, wd_ok k y → su_z (own = 0) m F cf O mnx x y zz → ∀ u t, t ++ u = zz ++ (y ++ x) → P u) (ho : own = 0 ∨ own = 1) (hf : suF sh g k N cf F O) {p : Nat} (hp : p < c) (hx : z = 1 → W p = x) (hk : ∀ (g1 : aj_G) (c1 : Nat) (W1 : Nat → List Nat) (z1 : Int), tS g1 r k c1 W1 mnx P z1 → gF g g1 r → tr_ex c W c1 W1 → (z1 = 1 → z = 1 ∧ ∀ y zz, wd_ok k y → su_z (own = 0) m F cf O mnx x y zz → pr c1 W1 (zz ++ (y ++ x))) → Q (.inl none) sh g1) : aj_wp nE al al X m_Suite_grow (d + 4) 0 0 0 [some (1, r), some (0, (p : Int)), some (0, (m : Int)), some (0, own), none, none, none, none, none, none] [] sh g Q := by
  refine aj_iconst 1 (dx d_Suite_grow 0 rfl) rfl ?_
  refine aj_istore 4 3 (dx d_Suite_grow 1 rfl) rfl rfl ?_
  simp only [List.set]
  refine aj_iconst 4 (dx d_Suite_grow 2 rfl) rfl ?_
  refine aj_istore 5 6 (dx d_Suite_grow 3 rfl) rfl rfl ?_
  simp only [List.set]
  refine aj_aload_n 0 7 (dx d_Suite_grow 4 rfl) rfl rfl rfl ?_
  refine aj_getfv (v := (r + 8)) 10 fl_Suite_33 (dx d_Suite_grow 5 rfl) rfl hs.1 (by (repeat (first | rw [aj_up_ne _ _ _ (by omega)] | rw [aj_up_ni _ _ _ (by omega)])); exact (sf_reach hs)) ?_
  refine aj_iconst 11 (dx d_Suite_grow 6 rfl) rfl ?_
  refine aj_iload_n 1 12 (dx d_Suite_grow 7 rfl) rfl rfl rfl ?_
  refine aj_iast 13 (dx d_Suite_grow 8 rfl) rfl (ss_reach hs) rfl (by omega) (by omega) ?_
  refine aj_iconst 14 (dx d_Suite_grow 9 rfl) rfl ?_
  refine aj_istore 6 16 (dx d_Suite_grow 10 rfl) rfl rfl ?_
  simp only [List.set]
  exact k_gr_out hr hs hC hT hm2 hPs ho hf hk _ 0 _ c W z _ _ _ 0 1 (by omega) rfl rfl (fun _ => rfl) (tS_up hT) (gF_up _ _ _ _) (tr_ex_refl c W) id (fun _ j hj => ⟨p, by rw [show j = 0 by rw [Nat.pow_zero] at hj; omega]; exact aj_up_self _ _ _ _, hp, fun h => by rw [hx h]; rfl⟩) (fun _ y hy => absurd hy (Nat.not_lt_zero _))
