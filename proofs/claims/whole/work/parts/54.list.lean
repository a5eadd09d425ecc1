/-! the leaves of a tree in the order of the words; Model: isEnd, list -/
noncomputable def lvc (S : List Nat → Prop) (k : Nat) (L : List Nat → List (List Nat)) (w : List Nat) : Nat → List (List Nat)
  | 0 => []
  | j + 1 => @ite (List (List Nat)) (S ((k - (j + 1)) :: w)) (Classical.propDecidable _) (L ((k - (j + 1)) :: w)) [] ++ lvc S k L w j
noncomputable def lvF (S : List Nat → Prop) (k : Nat) : Nat → List Nat → List (List Nat)
  | 0, w => [w]
  | f + 1, w => @ite (List (List Nat)) (∃ a, a < k ∧ S (a :: w)) (Classical.propDecidable _) (lvc S k (lvF S k f) w k) [w]
/-- all the nodes behind one -/
noncomputable def ndF (S : List Nat → Prop) (k : Nat) : Nat → List Nat → List (List Nat)
  | 0, w => [w]
  | f + 1, w => w :: lvc S k (ndF S k f) w k
section LV
variable {S : List Nat → Prop} {k : Nat} {L : List Nat → List (List Nat)} {w : List Nat}
theorem lvc_t {i : Nat} (hi : i < k) (h : S (i :: w)) : lvc S k L w (k - i) = L (i :: w) ++ lvc S k L w (k - (i + 1)) := by
  obtain ⟨j, hj⟩ : ∃ j, k - i = j + 1 := ⟨k - i - 1, by omega⟩
  rw [hj, show k - (i + 1) = j by omega]
  show @ite (List (List Nat)) (S ((k - (j + 1)) :: w)) (Classical.propDecidable _) (L ((k - (j + 1)) :: w)) [] ++ lvc S k L w j = _
  rw [show k - (j + 1) = i by omega, if_pos h]
theorem lvc_f {i : Nat} (hi : i < k) (h : ¬ S (i :: w)) : lvc S k L w (k - i) = lvc S k L w (k - (i + 1)) := by
  obtain ⟨j, hj⟩ : ∃ j, k - i = j + 1 := ⟨k - i - 1, by omega⟩
  rw [hj, show k - (i + 1) = j by omega]
  show @ite (List (List Nat)) (S ((k - (j + 1)) :: w)) (Classical.propDecidable _) (L ((k - (j + 1)) :: w)) [] ++ lvc S k L w j = _
  rw [show k - (j + 1) = i by omega, if_neg h, List.nil_append]
theorem lvc_no (h : ∀ a, a < k → ¬ S (a :: w)) : ∀ j, j ≤ k → lvc S k L w j = []
  | 0, _ => rfl
  | j + 1, hj => by
    have e := lvc_f (S := S) (L := L) (w := w) (k := k) (i := k - (j + 1)) (by omega) (h _ (by omega))
    rw [show k - (k - (j + 1)) = j + 1 by omega, show k - (k - (j + 1) + 1) = j by omega] at e
    rw [e, lvc_no h j (by omega)]
theorem lvc_mem {v : List Nat} : ∀ j, j ≤ k → v ∈ lvc S k L w j → ∃ a, k - j ≤ a ∧ a < k ∧ S (a :: w) ∧ v ∈ L (a :: w)
  | 0, _, h => by cases h
  | j + 1, hj, h => by
    by_cases c : S ((k - (j + 1)) :: w)
    · have e := lvc_t (S := S) (L := L) (w := w) (k := k) (i := k - (j + 1)) (by omega) c
      rw [show k - (k - (j + 1)) = j + 1 by omega, show k - (k - (j + 1) + 1) = j by omega] at e
      rw [e] at h
      rcases List.mem_append.mp h with h | h
      · exact ⟨_, Nat.le_refl _, by omega, c, h⟩
      · obtain ⟨a, a1, a2, a3, a4⟩ := lvc_mem j (by omega) h
        exact ⟨a, by omega, a2, a3, a4⟩
    · have e := lvc_f (S := S) (L := L) (w := w) (k := k) (i := k - (j + 1)) (by omega) c
      rw [show k - (k - (j + 1)) = j + 1 by omega, show k - (k - (j + 1) + 1) = j by omega] at e
      rw [e] at h
      obtain ⟨a, a1, a2, a3, a4⟩ := lvc_mem j (by omega) h
      exact ⟨a, by omega, a2, a3, a4⟩
theorem lvc_in {v : List Nat} {a : Nat} (ha : a < k) (hS : S (a :: w)) (hv : v ∈ L (a :: w)) : ∀ j, j ≤ k → k - j ≤ a → v ∈ lvc S k L w j
  | 0, _, h => by omega
  | j + 1, hj, h => by
    by_cases e0 : k - (j + 1) = a
    · have e := lvc_t (S := S) (L := L) (w := w) (k := k) (i := a) ha hS
      rw [show k - a = j + 1 by omega] at e
      rw [e]
      exact List.mem_append.mpr (Or.inl hv)
    · have ih := lvc_in ha hS hv j (by omega) (by omega)
      show v ∈ _ ++ lvc S k L w j
      exact List.mem_append.mpr (Or.inr ih)
theorem lvc_len {L' : List Nat → List (List Nat)} (h : ∀ a, a < k → (L (a :: w)).length ≤ (L' (a :: w)).length) : ∀ j, j ≤ k → (lvc S k L w j).length ≤ (lvc S k L' w j).length
  | 0, _ => Nat.le_refl _
  | j + 1, hj => by
    have ih := lvc_len h j (by omega)
    show (_ ++ lvc S k L w j).length ≤ (_ ++ lvc S k L' w j).length
    rw [List.length_append, List.length_append]
    by_cases c : S ((k - (j + 1)) :: w)
    · rw [if_pos c, if_pos c]
      have := h (k - (j + 1)) (by omega)
      omega
    · rw [if_neg c, if_neg c]
      omega
theorem lvc_nodup (h1 : ∀ a, a < k → (L (a :: w)).Nodup) (h2 : ∀ a v, v ∈ L (a :: w) → ∃ t, v = t ++ a :: w) : ∀ j, j ≤ k → (lvc S k L w j).Nodup
  | 0, _ => List.nodup_nil
  | j + 1, hj => by
    have ih := lvc_nodup h1 h2 j (by omega)
    show (_ ++ lvc S k L w j).Nodup
    by_cases c : S ((k - (j + 1)) :: w)
    · rw [if_pos c]
      refine List.nodup_append.mpr ⟨h1 _ (by omega), ih, fun v hv u hu e => ?_⟩
      subst e
      obtain ⟨a, a1, a2, a3, a4⟩ := lvc_mem j (by omega) hu
      obtain ⟨t, e1⟩ := h2 _ _ hv
      obtain ⟨t', e2⟩ := h2 _ _ a4
      rw [e1] at e2
      have e3 := (List.append_inj' e2 rfl).2
      have := (List.cons.inj e3).1
      omega
    · rw [if_neg c, List.nil_append]
      exact ih
theorem nd_end : ∀ f (w v : List Nat), v ∈ ndF S k f w → ∃ t, v = t ++ w
  | 0, w, v, h => ⟨[], by rw [List.mem_singleton.mp h]; rfl⟩
  | f + 1, w, v, h => by
    rcases List.mem_cons.mp h with rfl | h
    · exact ⟨[], rfl⟩
    · obtain ⟨a, -, -, -, a4⟩ := lvc_mem k (Nat.le_refl _) h
      obtain ⟨t, e⟩ := nd_end f (a :: w) v a4
      exact ⟨t ++ [a], by rw [e]; simp⟩
theorem nd_nodup : ∀ f (w : List Nat), (ndF S k f w).Nodup
  | 0, w => by show ([w] : List (List Nat)).Nodup; simp
  | f + 1, w => by
    refine List.nodup_cons.mpr ⟨fun h => ?_, lvc_nodup (fun a _ => nd_nodup f (a :: w)) (fun a v hv => nd_end f (a :: w) v hv) k (Nat.le_refl _)⟩
    obtain ⟨a, -, -, -, a4⟩ := lvc_mem k (Nat.le_refl _) h
    obtain ⟨t, e⟩ := nd_end f (a :: w) w a4
    have := congrArg List.length e
    simp at this
    omega
theorem nd_S : ∀ f (w v : List Nat), S w → v ∈ ndF S k f w → S v
  | 0, w, v, hw, h => by rw [List.mem_singleton.mp h]; exact hw
  | f + 1, w, v, hw, h => by
    rcases List.mem_cons.mp h with rfl | h
    · exact hw
    · obtain ⟨a, -, -, a3, a4⟩ := lvc_mem k (Nat.le_refl _) h
      exact nd_S f (a :: w) v a3 a4
theorem lv_nd : ∀ f (w : List Nat), (lvF S k f w).length ≤ (ndF S k f w).length
  | 0, w => Nat.le_refl _
  | f + 1, w => by
    have ih := lvc_len (S := S) (k := k) (w := w) (L := lvF S k f) (L' := ndF S k f) (fun a _ => lv_nd f (a :: w)) k (Nat.le_refl _)
    show (@ite (List (List Nat)) (∃ a, a < k ∧ S (a :: w)) (Classical.propDecidable _) (lvc S k (lvF S k f) w k) [w]).length ≤ (w :: lvc S k (ndF S k f) w k).length
    rw [List.length_cons]
    by_cases c : ∃ a, a < k ∧ S (a :: w)
    · rw [if_pos c]; omega
    · rw [if_neg c, List.length_singleton]; omega
theorem lv_one {f : Nat} (h : ∀ a, a < k → ¬ S (a :: w)) : lvF S k f w = [w] := by
  cases f with
  | zero => rfl
  | succ f =>
    show @ite (List (List Nat)) (∃ a, a < k ∧ S (a :: w)) (Classical.propDecidable _) (lvc S k (lvF S k f) w k) [w] = [w]
    rw [if_neg (fun z => by obtain ⟨a, a1, a2⟩ := z; exact h a a1 a2)]
theorem lv_more {f : Nat} (h : ∃ a, a < k ∧ S (a :: w)) : lvF S k (f + 1) w = lvc S k (lvF S k f) w k := by
  show @ite (List (List Nat)) (∃ a, a < k ∧ S (a :: w)) (Classical.propDecidable _) (lvc S k (lvF S k f) w k) [w] = _
  rw [if_pos h]
theorem lv_S : ∀ f (w v : List Nat), S w → v ∈ lvF S k f w → S v
  | 0, w, v, hw, h => by rw [List.mem_singleton.mp h]; exact hw
  | f + 1, w, v, hw, h => by
    by_cases c : ∃ a, a < k ∧ S (a :: w)
    · rw [lv_more c] at h
      obtain ⟨a, -, -, a3, a4⟩ := lvc_mem k (Nat.le_refl _) h
      exact lv_S f (a :: w) v a3 a4
    · rw [lv_one (fun a h1 h2 => c ⟨a, h1, h2⟩)] at h
      rw [List.mem_singleton.mp h]; exact hw
end LV
theorem lv_cg {S S' : List Nat → Prop} {k : Nat} (h : ∀ w, S w ↔ S' w) : S = S' := funext fun w => propext (h w)
/-- a list of different words of the tree is no longer than it -/
theorem tr_cnt {c : Nat} {W : Nat → List Nat} {l : List (List Nat)} (hn : l.Nodup) (h : ∀ v, v ∈ l → pr c W v) : l.length ≤ c := by
  have hf : ∀ i, ∃ q, ∀ hi : i < l.length, q < c ∧ W q = l[i] := fun i => by
    by_cases z : i < l.length
    · obtain ⟨q, q1, q2⟩ := h l[i] (List.getElem_mem z)
      exact ⟨q, fun _ => ⟨q1, q2⟩⟩
    · exact ⟨0, fun y => absurd y z⟩
  refine pg_hole c l.length (fun i => Classical.choose (hf i)) (fun i hi => (Classical.choose_spec (hf i) hi).1) (fun i j hi hj e => ?_)
  have e1 := (Classical.choose_spec (hf i) hi).2
  have e2 := (Classical.choose_spec (hf j) hj).2
  have e' : Classical.choose (hf i) = Classical.choose (hf j) := e
  rw [e'] at e1
  have e3 : l[i] = l[j] := e1.symm.trans e2
  exact (List.getElem_inj hn).mp e3
/-! Model.list -/
def pbM (g : aj_G) (c : Nat) (W : Nat → List Nat) (p : Nat) : Prop := ∀ t b v, W p = t ++ b :: v → ∃ q r : Nat, q < c ∧ r < c ∧ W q = b :: v ∧ W r = v ∧ g 93 q = r ∧ g 94 q = b
def lsM (g g1 : aj_G) (c : Nat) (W : Nat → List Nat) (L : List (List Nat)) : Prop := ((∀ r, r ≠ 78 → r ≠ 92 → r ≠ 93 → r ≠ 94 → g1 r = g r) ∧ ∀ j, j ≠ 25 → g1 78 j = g 78 j) ∧ g1 78 25 = L.length ∧ ∀ (t : Nat) (h : t < L.length), ∃ p : Nat, p < c ∧ g1 92 t = p ∧ W p = L[t] ∧ pbM g1 c W p
theorem pb_up {g : aj_G} {k c : Nat} {W : Nat → List Nat} (hI : tr_I k c W) {p q a p0 : Nat} (hp : p < c) (hq : q < c) (hW : W q = a :: W p) (h : pbM g c W p0) : pbM (aj_up (aj_up g 93 (q : Nat) (p : Nat)) 94 (q : Nat) (a : Nat)) c W p0 := by
  intro t b v e
  obtain ⟨q', r', h1, h2, h3, h4, h5, h6⟩ := h t b v e
  refine ⟨q', r', h1, h2, h3, h4, ?_⟩
  by_cases c0 : q' = q
  · subst c0
    rw [hW] at h3
    obtain ⟨e1, e2⟩ := List.cons.inj h3
    have e3 : r' = p := hI.2.2.2.2 r' p h2 hp (by rw [h4, ← e2])
    exact ⟨by rw [aj_up_ne _ _ _ (by omega), aj_up_self, e3], by rw [aj_up_self, e1]⟩
  · exact ⟨by rw [aj_up_ne _ _ _ (by omega), aj_up_ni _ _ _ (by omega)]; exact h5, by rw [aj_up_ni _ _ _ (by omega), aj_up_ne _ _ _ (by omega)]; exact h6⟩
theorem pb_new {g : aj_G} {k c : Nat} {W : Nat → List Nat} (hI : tr_I k c W) {p q a : Nat} (hp : p < c) (hq : q < c) (hW : W q = a :: W p) (h : pbM g c W p) : pbM (aj_up (aj_up g 93 (q : Nat) (p : Nat)) 94 (q : Nat) (a : Nat)) c W q := by
  intro t b v e
  rw [hW] at e
  cases t with
  | nil =>
    obtain ⟨e1, e2⟩ := List.cons.inj e
    exact ⟨q, p, hq, hp, by rw [hW, e1, e2], e2, by rw [aj_up_ne _ _ _ (by omega), aj_up_self], by rw [aj_up_self, e1]⟩
  | cons x t =>
    obtain ⟨-, e2⟩ := List.cons.inj e
    exact pb_up hI hp hq hW h t b v e2
theorem ls_up {g g1 : aj_G} {k c : Nat} {W : Nat → List Nat} {L : List (List Nat)} (hI : tr_I k c W) {p q a : Nat} (hp : p < c) (hq : q < c) (hW : W q = a :: W p) (h : lsM g g1 c W L) : lsM g (aj_up (aj_up g1 93 (q : Nat) (p : Nat)) 94 (q : Nat) (a : Nat)) c W L := by
  obtain ⟨⟨h1, h2⟩, h3, h4⟩ := h
  refine ⟨⟨fun r x1 x2 x3 x4 => by rw [aj_up_ne _ _ _ x4, aj_up_ne _ _ _ x3]; exact h1 r x1 x2 x3 x4, fun j hj => by rw [aj_up_ne _ _ _ (by omega), aj_up_ne _ _ _ (by omega)]; exact h2 j hj⟩, by rw [aj_up_ne _ _ _ (by omega), aj_up_ne _ _ _ (by omega)]; exact h3, fun t ht => ?_⟩
  obtain ⟨p0, y1, y2, y3, y4⟩ := h4 t ht
  exact ⟨p0, y1, by rw [aj_up_ne _ _ _ (by omega), aj_up_ne _ _ _ (by omega)]; exact y2, y3, pb_up hI hp hq hW y4⟩
theorem ls_add {g g1 : aj_G} {k c : Nat} {W : Nat → List Nat} {L : List (List Nat)} {q : Nat} (hq : q < c) (hp : pbM g1 c W q) (h : lsM g g1 c W L) : lsM g (aj_up (aj_up g1 92 (L.length : Nat) (q : Nat)) 78 25 ((L.length : Int) + 1)) c W (L ++ [W q]) ∧ pbM (aj_up (aj_up g1 92 (L.length : Nat) (q : Nat)) 78 25 ((L.length : Int) + 1)) c W q := by
  obtain ⟨⟨h1, h2⟩, h3, h4⟩ := h
  have hpb : ∀ p0, pbM g1 c W p0 → pbM (aj_up (aj_up g1 92 (L.length : Nat) (q : Nat)) 78 25 ((L.length : Int) + 1)) c W p0 := fun p0 hp0 t b v e => by
    obtain ⟨q', r', y1, y2, y3, y4, y5, y6⟩ := hp0 t b v e
    exact ⟨q', r', y1, y2, y3, y4, by rw [aj_up_ne _ _ _ (by omega), aj_up_ne _ _ _ (by omega)]; exact y5, by rw [aj_up_ne _ _ _ (by omega), aj_up_ne _ _ _ (by omega)]; exact y6⟩
  refine ⟨⟨⟨fun r x1 x2 x3 x4 => by rw [aj_up_ne _ _ _ x1, aj_up_ne _ _ _ x2]; exact h1 r x1 x2 x3 x4, fun j hj => by rw [aj_up_ni _ _ _ hj, aj_up_ne _ _ _ (by omega)]; exact h2 j hj⟩, by rw [aj_up_self, List.length_append]; push_cast; rfl, fun t ht => ?_⟩, hpb q hp⟩
  rw [List.length_append, List.length_singleton] at ht
  rw [aj_up_ne _ _ _ (by omega)]
  by_cases e : t = L.length
  · subst e
    exact ⟨q, hq, by rw [aj_up_self], by simp, hpb q hp⟩
  · obtain ⟨p0, y1, y2, y3, y4⟩ := h4 t (by omega)
    exact ⟨p0, y1, by rw [aj_up_ni _ _ _ (by omega)]; exact y2, by rw [List.getElem_append_left (by omega)]; exact y3, hpb p0 y4⟩
set_option maxHeartbeats 4000000 in
theorem k_Model_isEnd {al : Prop} {X : Option (Nat × (Int → Int))} {d : Nat} {sh : List aj_S} {g : aj_G} {Q : aj_R → List aj_S → aj_G → Prop} {c : Nat} {W : Nat → List Nat} {k p : Nat} (hm : mos sh g) (hI : tr_I k c W) (hc : c ≤ 800) (hC : chd g 90 c W) (hp : p < c) (hk1 : (∀ a, a < 3 → ∀ q, q < c → W q ≠ a :: W p) → Q (.inl (some (0, 1))) sh g) (hk0 : (∃ a, a < 3 ∧ ∃ q, q < c ∧ W q = a :: W p) → Q (.inl (some (0, 0))) sh g) :
    aj_wp nE al al X m_Model_isEnd d 0 0 0 [some (1, 78), some (0, (p : Int))] [] sh g Q := by
  have h := fun (a : Nat) (ha : a < 3) => hC p a hp ha
  have hpos : ∀ q, q < c → ∀ a, W q = a :: W p → 0 < q := fun q _ a e => by
    rcases Nat.eq_zero_or_pos q with z | z
    · rw [z, hI.2.1] at e; cases e
    · exact z
  have v0 : ∀ (a : Nat), a < 3 → aj_I (g 90 (3 * (p : Int) + (a : Nat))) := fun a ha => by
    rcases h a ha with ⟨q, q1, -, q3⟩ | ⟨-, q3⟩ <;> rw [q3] <;> unfold aj_I <;> omega
  have v00 : aj_I (g 90 (3 * (p : Int))) := by have := v0 0 (by omega); rw [show (3 * (p : Int) + ((0 : Nat) : Int)) = 3 * (p : Int) by omega] at this; exact this
  refine aj_aload_n 0 1 (dx d_Model_isEnd 0 rfl) rfl rfl rfl ?_
  refine aj_getfv (v := 90) 4 fl_Model_48 (dx d_Model_isEnd 1 rfl) rfl hm.1 (by first | exact mf_child hm | (simp [aj_up_at]; exact mf_child hm) | exact mf_child (by assumption)) ?_
  refine aj_iconst 5 (dx d_Model_isEnd 2 rfl) rfl ?_
  refine aj_iload_n 1 6 (dx d_Model_isEnd 3 rfl) rfl rfl rfl ?_
  refine aj_imul 7 (dx d_Model_isEnd 4 rfl) rfl ?_
  refine aj_iald 8 (dx d_Model_isEnd 5 rfl) rfl (ms_child hm) rfl (by omega) (by omega) ?_
  refine aj_if_ne 41 11 (dx d_Model_isEnd 6 rfl) rfl rfl v00 (fun h8 => ?_) (fun h8 => ?_)
  · refine aj_iconst 42 (dx d_Model_isEnd 27 rfl) rfl ?_
    refine aj_zret (dx d_Model_isEnd 28 rfl) rfl (by omega) id ?_
    refine hk0 ?_
    have hx : ∃ a, a < 3 ∧ g 90 (3 * (p : Int) + (a : Nat)) ≠ 0 := ⟨0, by omega, by rw [show (3 * (p : Int) + ((0 : Nat) : Int)) = 3 * (p : Int) by omega]; exact h8⟩
    obtain ⟨a, a1, a2⟩ := hx
    rcases h a a1 with ⟨q, q1, q2, -⟩ | ⟨-, q2⟩
    · exact ⟨a, a1, q, q1, q2⟩
    · exact absurd q2 a2
  · refine aj_aload_n 0 12 (dx d_Model_isEnd 7 rfl) rfl rfl rfl ?_
    refine aj_getfv (v := 90) 15 fl_Model_48 (dx d_Model_isEnd 8 rfl) rfl hm.1 (by first | exact mf_child hm | (simp [aj_up_at]; exact mf_child hm) | exact mf_child (by assumption)) ?_
    refine aj_iconst 16 (dx d_Model_isEnd 9 rfl) rfl ?_
    refine aj_iload_n 1 17 (dx d_Model_isEnd 10 rfl) rfl rfl rfl ?_
    refine aj_imul 18 (dx d_Model_isEnd 11 rfl) rfl ?_
    refine aj_iconst 19 (dx d_Model_isEnd 12 rfl) rfl ?_
    refine aj_iadd 20 (dx d_Model_isEnd 13 rfl) rfl ?_
    refine aj_iald 21 (dx d_Model_isEnd 14 rfl) rfl (ms_child hm) rfl (by omega) (by omega) ?_
    refine aj_if_ne 41 24 (dx d_Model_isEnd 15 rfl) rfl rfl (v0 1 (by omega)) (fun h21 => ?_) (fun h21 => ?_)
    · refine aj_iconst 42 (dx d_Model_isEnd 27 rfl) rfl ?_
      refine aj_zret (dx d_Model_isEnd 28 rfl) rfl (by omega) id ?_
      refine hk0 ?_
      have hx : ∃ a, a < 3 ∧ g 90 (3 * (p : Int) + (a : Nat)) ≠ 0 := ⟨1, by omega, by rw [show (3 * (p : Int) + ((1 : Nat) : Int)) = 3 * (p : Int) + 1 by omega]; exact h21⟩
      obtain ⟨a, a1, a2⟩ := hx
      rcases h a a1 with ⟨q, q1, q2, -⟩ | ⟨-, q2⟩
      · exact ⟨a, a1, q, q1, q2⟩
      · exact absurd q2 a2
    · refine aj_aload_n 0 25 (dx d_Model_isEnd 16 rfl) rfl rfl rfl ?_
      refine aj_getfv (v := 90) 28 fl_Model_48 (dx d_Model_isEnd 17 rfl) rfl hm.1 (by first | exact mf_child hm | (simp [aj_up_at]; exact mf_child hm) | exact mf_child (by assumption)) ?_
      refine aj_iconst 29 (dx d_Model_isEnd 18 rfl) rfl ?_
      refine aj_iload_n 1 30 (dx d_Model_isEnd 19 rfl) rfl rfl rfl ?_
      refine aj_imul 31 (dx d_Model_isEnd 20 rfl) rfl ?_
      refine aj_iconst 32 (dx d_Model_isEnd 21 rfl) rfl ?_
      refine aj_iadd 33 (dx d_Model_isEnd 22 rfl) rfl ?_
      refine aj_iald 34 (dx d_Model_isEnd 23 rfl) rfl (ms_child hm) rfl (by omega) (by omega) ?_
      refine aj_if_ne 41 37 (dx d_Model_isEnd 24 rfl) rfl rfl (v0 2 (by omega)) (fun h34 => ?_) (fun h34 => ?_)
      · refine aj_iconst 42 (dx d_Model_isEnd 27 rfl) rfl ?_
        refine aj_zret (dx d_Model_isEnd 28 rfl) rfl (by omega) id ?_
        refine hk0 ?_
        have hx : ∃ a, a < 3 ∧ g 90 (3 * (p : Int) + (a : Nat)) ≠ 0 := ⟨2, by omega, by rw [show (3 * (p : Int) + ((2 : Nat) : Int)) = 3 * (p : Int) + 2 by omega]; exact h34⟩
        obtain ⟨a, a1, a2⟩ := hx
        rcases h a a1 with ⟨q, q1, q2, -⟩ | ⟨-, q2⟩
        · exact ⟨a, a1, q, q1, q2⟩
        · exact absurd q2 a2
      · refine aj_iconst 38 (dx d_Model_isEnd 25 rfl) rfl ?_
        refine aj_goto 42 (dx d_Model_isEnd 26 rfl) rfl ?_
        refine aj_zret (dx d_Model_isEnd 28 rfl) rfl (by omega) id ?_
        refine hk1 (fun a ha => ?_)
        rcases h a ha with ⟨q, q1, q2, q3⟩ | ⟨q1, -⟩
        · have hq0 := hpos q q1 a q2
          have : a = 0 ∨ a = 1 ∨ a = 2 := by omega
          rcases this with rfl | rfl | rfl
          · rw [show (3 * (p : Int) + ((0 : Nat) : Int)) = 3 * (p : Int) by omega] at q3; omega
          · rw [show (3 * (p : Int) + ((1 : Nat) : Int)) = 3 * (p : Int) + 1 by omega] at q3; omega
          · rw [show (3 * (p : Int) + ((2 : Nat) : Int)) = 3 * (p : Int) + 2 by omega] at q3; omega
        · exact q1
theorem lsM_M {sh : List aj_S} {g g1 : aj_G} {k n : Nat} {nx ou : Nat → Nat → Nat} {c : Nat} {W : Nat → List Nat} {L : List (List Nat)} (hM : mmm sh g k n nx ou) (h : lsM g g1 c W L) : mmm sh g1 k n nx ou := mmm_of hM (fun j hj => h.1.2 j (by unfold mo_fin at hj; omega)) (h.1.1 79 (by omega) (by omega) (by omega) (by omega)) (h.1.1 80 (by omega) (by omega) (by omega) (by omega))
set_option maxHeartbeats 8000000 in
theorem k_li_f {al : Prop} {X : Option (Nat × (Int → Int))} {d : Nat} {sh : List aj_S} {g : aj_G} {Q : aj_R → List aj_S → aj_G → Prop} {c : Nat} {W : Nat → List Nat} {k n : Nat} {nx ou : Nat → Nat → Nat} (hM : mmm sh g k n nx ou) (hI : tr_I k c W) (hc8 : c ≤ 800) (hC : chd g 90 c W) (hlen : ∀ p, p < c → (W p).length ≤ 20) :
    ∀ (f p : Nat), p < c → (W p).length + f = 20 → ∀ (m i : Nat) (g1 : aj_G) (L : List (List Nat)), i ≤ k → k - i = m → lsM g g1 c W L → pbM g1 c W p → L.length + (lvc (pr c W) k (fun v => lvF (pr c W) k (f - 1) v) (W p) (k - i)).length ≤ 800 →
    (∀ g2, lsM g g2 c W (L ++ lvc (pr c W) k (fun v => lvF (pr c W) k (f - 1) v) (W p) (k - i)) → pbM g2 c W p → aj_wp nE al al X m_Model_list (d + 1) 0 0 137 [some (1, 78), some (0, (p : Int)), none, some (0, 1), none, none] [] sh g2 Q) →
    aj_wp nE al al X m_Model_list (d + 1) 0 0 18 [some (1, 78), some (0, (p : Int)), none, some (0, 1), some (0, (i : Int)), none] [] sh g1 Q := by
  have hk4 := hM.2.2.2.1
  intro f
  induction f using Nat.strongRecOn with
  | ind f ihf =>
  intro p hp hf m
  induction m using Nat.strongRecOn with
  | ind m ih =>
    intro i g1 L hi hmm hL hP hcnt hgo
    have hM1 := lsM_M hM hL
    have hC1 : chd g1 90 c W := by unfold chd; rw [hL.1.1 90 (by omega) (by omega) (by omega) (by omega)]; exact hC
    refine aj_iload 4 20 (dx d_Model_list 13 rfl) rfl rfl ?_
    refine aj_aload_n 0 21 (dx d_Model_list 14 rfl) rfl rfl rfl ?_
    refine aj_getfv (v := (k : Int)) 24 fl_Model_89 (dx d_Model_list 15 rfl) rfl hM1.1.1 hM1.2.2.1 ?_
    refine aj_icmp_ge 60 27 (dx d_Model_list 16 rfl) rfl rfl (by unfold aj_I; omega) (by unfold aj_I; omega) (fun h24 => ?_) (fun h24 => ?_)
    · refine aj_iload 4 62 (dx d_Model_list 34 rfl) rfl rfl ?_
      refine aj_aload_n 0 63 (dx d_Model_list 35 rfl) rfl rfl rfl ?_
      refine aj_getfv (v := (k : Int)) 66 fl_Model_89 (dx d_Model_list 36 rfl) rfl hM1.1.1 hM1.2.2.1 ?_
      refine aj_icmp_ge 137 69 (dx d_Model_list 37 rfl) rfl rfl (by unfold aj_I; omega) (by unfold aj_I; omega) (fun h66 => ?_) (fun h66 => ?_)
      · refine aj_forget 4 ?_
        simp only [List.set]
        refine hgo g1 ?_ hP
        rw [show k - i = 0 by omega]
        show lsM g g1 c W (L ++ [])
        rw [List.append_nil]
        exact hL
      · exact absurd h66 (by omega)
    · have hik : i < k := by omega
      have hci := hC1 p i hp (by omega)
      refine aj_aload_n 0 28 (dx d_Model_list 17 rfl) rfl rfl rfl ?_
      refine aj_getfv (v := 90) 31 fl_Model_48 (dx d_Model_list 18 rfl) rfl hM1.1.1 (by first | exact mf_child hM1.1 | (simp [aj_up_at]; exact mf_child hM1.1) | exact mf_child (by assumption)) ?_
      refine aj_iconst 32 (dx d_Model_list 19 rfl) rfl ?_
      refine aj_iload_n 1 33 (dx d_Model_list 20 rfl) rfl rfl rfl ?_
      refine aj_imul 34 (dx d_Model_list 21 rfl) rfl ?_
      refine aj_iload 4 36 (dx d_Model_list 22 rfl) rfl rfl ?_
      refine aj_aload_n 0 37 (dx d_Model_list 23 rfl) rfl rfl rfl ?_
      refine aj_getfv (v := (k : Int)) 40 fl_Model_89 (dx d_Model_list 24 rfl) rfl hM1.1.1 hM1.2.2.1 ?_
      refine aj_icmp_ge 48 43 (dx d_Model_list 25 rfl) rfl rfl (by unfold aj_I; omega) (by unfold aj_I; omega) (fun h40 => ?_) (fun h40 => ?_)
      · exact absurd h40 (by omega)
      · refine aj_iload 4 45 (dx d_Model_list 26 rfl) rfl rfl ?_
        refine aj_goto 49 (dx d_Model_list 27 rfl) rfl ?_
        refine aj_iadd 50 (dx d_Model_list 29 rfl) rfl ?_
        refine aj_iald 51 (dx d_Model_list 30 rfl) rfl (ms_child hM1.1) rfl (by omega) (by omega) ?_
        refine aj_if_ne 60 54 (dx d_Model_list 31 rfl) rfl rfl (by rcases hci with ⟨q, q1, -, q3⟩ | ⟨-, q3⟩ <;> rw [q3] <;> unfold aj_I <;> omega) (fun h51 => ?_) (fun h51 => ?_)
        · obtain ⟨q, q1, q2, q3⟩ : ∃ q : Nat, q < c ∧ W q = i :: W p ∧ g1 90 (3 * (p : Int) + i) = q := by
            rcases hci with z | ⟨-, z⟩
            · exact z
            · exact absurd z h51
          have hq0 : 0 < q := by
            rcases Nat.eq_zero_or_pos q with z | z
            · rw [z, hI.2.1] at q2; cases q2
            · exact z
          have hSq : pr c W (i :: W p) := ⟨q, q1, q2⟩
          have hlenq := hlen q q1
          have hlq : (W q).length = (W p).length + 1 := by rw [q2]; rfl
          obtain ⟨f', rfl⟩ : ∃ f', f = f' + 1 := ⟨f - 1, by omega⟩
          have hsplit := lvc_t (S := pr c W) (L := fun v => lvF (pr c W) k (f' + 1 - 1) v) (w := W p) hik hSq
          have hsplit' : lvc (pr c W) k (fun v => lvF (pr c W) k (f' + 1 - 1) v) (W p) (k - i) = lvF (pr c W) k f' (i :: W p) ++ lvc (pr c W) k (fun v => lvF (pr c W) k (f' + 1 - 1) v) (W p) (k - (i + 1)) := hsplit
          rw [hsplit'] at hcnt hgo
          have hL1 := ls_up hI hp q1 q2 hL
          have hP1 := pb_new hI hp q1 q2 hP
          have hPp := pb_up hI hp q1 q2 hP
          refine aj_iload 4 62 (dx d_Model_list 34 rfl) rfl rfl ?_
          refine aj_aload_n 0 63 (dx d_Model_list 35 rfl) rfl rfl rfl ?_
          refine aj_getfv (v := (k : Int)) 66 fl_Model_89 (dx d_Model_list 36 rfl) rfl hM1.1.1 hM1.2.2.1 ?_
          refine aj_icmp_ge 137 69 (dx d_Model_list 37 rfl) rfl rfl (by unfold aj_I; omega) (by unfold aj_I; omega) (fun h66 => ?_) (fun h66 => ?_)
          · exact absurd h66 (by omega)
          · refine aj_aload_n 0 70 (dx d_Model_list 38 rfl) rfl rfl rfl ?_
            refine aj_getfv (v := 90) 73 fl_Model_48 (dx d_Model_list 39 rfl) rfl hM1.1.1 (by first | exact mf_child hM1.1 | (simp [aj_up_at]; exact mf_child hM1.1) | exact mf_child (by assumption)) ?_
            refine aj_iconst 74 (dx d_Model_list 40 rfl) rfl ?_
            refine aj_iload_n 1 75 (dx d_Model_list 41 rfl) rfl rfl rfl ?_
            refine aj_imul 76 (dx d_Model_list 42 rfl) rfl ?_
            refine aj_iload 4 78 (dx d_Model_list 43 rfl) rfl rfl ?_
            refine aj_iadd 79 (dx d_Model_list 44 rfl) rfl ?_
            refine aj_iald 80 (dx d_Model_list 45 rfl) rfl (ms_child hM1.1) rfl (by omega) (by omega) ?_
            rw [q3]
            refine aj_istore 5 82 (dx d_Model_list 46 rfl) rfl rfl ?_
            simp only [List.set]
            refine aj_aload_n 0 83 (dx d_Model_list 47 rfl) rfl rfl rfl ?_
            refine aj_getfv (v := 93) 86 fl_Model_57 (dx d_Model_list 48 rfl) rfl hM1.1.1 (by first | exact mf_parent hM1.1 | (simp [aj_up_at]; exact mf_parent hM1.1) | exact mf_parent (by assumption)) ?_
            refine aj_iload 5 88 (dx d_Model_list 49 rfl) rfl rfl ?_
            refine aj_iload_n 1 89 (dx d_Model_list 50 rfl) rfl rfl rfl ?_
            refine aj_iast 90 (dx d_Model_list 51 rfl) rfl (ms_parent hM1.1) rfl (by omega) (by omega) ?_
            refine aj_aload_n 0 91 (dx d_Model_list 52 rfl) rfl rfl rfl ?_
            refine aj_getfv (v := 94) 94 fl_Model_60 (dx d_Model_list 53 rfl) rfl hM1.1.1 (by first | exact mf_by hM1.1 | (simp [aj_up_at]; exact mf_by hM1.1) | exact mf_by (by assumption)) ?_
            refine aj_iload 5 96 (dx d_Model_list 54 rfl) rfl rfl ?_
            refine aj_iload 4 98 (dx d_Model_list 55 rfl) rfl rfl ?_
            refine aj_iast 99 (dx d_Model_list 56 rfl) rfl (ms_by hM1.1) rfl (by omega) (by omega) ?_
            refine aj_iload 5 101 (dx d_Model_list 57 rfl) rfl rfl ?_
            refine aj_istore_n 1 102 (dx d_Model_list 58 rfl) rfl rfl rfl ?_
            simp only [List.set]
            refine aj_iconst 103 (dx d_Model_list 59 rfl) rfl ?_
            refine aj_istore_n 2 104 (dx d_Model_list 60 rfl) rfl rfl rfl ?_
            simp only [List.set]
            refine aj_aload_n 0 105 (dx d_Model_list 61 rfl) rfl rfl rfl ?_
            refine aj_iload 5 107 (dx d_Model_list 62 rfl) rfl rfl ?_
            refine aj_callV1 110 cl_Model_195 (dx d_Model_list 63 rfl) rfl rfl rfl rfl rfl rfl hM1.1.1 (k_Model_isEnd (k := k) (mos_of hM1.1 (fun j _ => by simp [aj_up_at])) hI hc8 (fun p0 a h1 h2 => by rw [aj_up_ne _ _ _ (by omega), aj_up_ne _ _ _ (by omega)]; exact hC1 p0 a h1 h2) q1 (fun hend => ?_) (fun hend => ?_))
            · change aj_wp _ _ _ _ _ _ _ _ _ _ _ _ _ _
              refine aj_if_eq 134 113 (dx d_Model_list 64 rfl) rfl rfl (by unfold aj_I; omega) (fun h110 => ?_) (fun h110 => ?_)
              · exact absurd h110 (by decide)
              · refine aj_aload_n 0 114 (dx d_Model_list 65 rfl) rfl rfl rfl ?_
                refine aj_getfv (v := 92) 117 fl_Model_54 (dx d_Model_list 66 rfl) rfl hM1.1.1 (by first | exact mf_testPlace hM1.1 | (simp [aj_up_at]; exact mf_testPlace hM1.1) | exact mf_testPlace (by assumption)) ?_
                refine aj_aload_n 0 118 (dx d_Model_list 67 rfl) rfl rfl rfl ?_
                refine aj_getfv (v := (L.length : Int)) 121 fl_Model_192 (dx d_Model_list 68 rfl) rfl hM1.1.1 (by first | exact hL.2.1 | (simp [aj_up_at]; exact hL.2.1)) ?_
                refine aj_iload 5 123 (dx d_Model_list 69 rfl) rfl rfl ?_
                refine aj_iast 124 (dx d_Model_list 70 rfl) rfl (ms_testPlace hM1.1) rfl (by omega) (by omega) ?_
                refine aj_aload_n 0 125 (dx d_Model_list 71 rfl) rfl rfl rfl ?_
                refine aj_dup 126 (dx d_Model_list 72 rfl) rfl rfl ?_
                refine aj_getfv (v := (L.length : Int)) 129 fl_Model_192 (dx d_Model_list 73 rfl) rfl hM1.1.1 (by first | exact hL.2.1 | (simp [aj_up_at]; exact hL.2.1)) ?_
                refine aj_iconst 130 (dx d_Model_list 74 rfl) rfl ?_
                refine aj_iadd 131 (dx d_Model_list 75 rfl) rfl ?_
                refine aj_putf 134 (pl_Model_192 _) (dx d_Model_list 76 rfl) rfl hM1.1.1 (aj_fitI _) ?_
                refine aj_goto 162 (dx d_Model_list 77 rfl) rfl ?_
                refine aj_goto 11 (dx d_Model_list 95 rfl) rfl ?_
                have hnoch : ∀ a, a < k → ¬ pr c W (a :: W q) := fun a ha z => by obtain ⟨x, x1, x2⟩ := z; exact hend a (by omega) x x1 x2
                have hone : lvF (pr c W) k f' (i :: W p) = [W q] := by rw [← q2]; exact lv_one hnoch
                obtain ⟨hL2, hP2⟩ := ls_add (k := k) q1 hP1 hL1
                have hback : ∀ (g3 : aj_G) (L3 : List (List Nat)), L3 = L ++ lvF (pr c W) k f' (i :: W p) → lsM g g3 c W L3 → pbM g3 c W q → aj_wp nE al al X m_Model_list (d + 1) 0 0 137 [some (1, 78), some (0, (q : Int)), none, some (0, 1), none, none] [] sh g3 Q := by
                  intro g3 L3 hL3 hl3 hp3
                  subst hL3
                  have hM3 := lsM_M hM hl3
                  obtain ⟨q', r', y1, y2, y3, y4, y5, y6⟩ := hp3 [] i (W p) q2
                  have e1 : q' = q := hI.2.2.2.2 q' q y1 q1 (y3.trans q2.symm)
                  have e2 : r' = p := hI.2.2.2.2 r' p y2 hp y4
                  subst e1
                  subst e2
                  have hp3' : pbM g3 c W r' := fun t b v e => hp3 (i :: t) b v (by rw [q2, e]; rfl)
                  refine aj_iload_n 1 138 (dx d_Model_list 78 rfl) rfl rfl rfl ?_
                  refine aj_if_ne 146 141 (dx d_Model_list 79 rfl) rfl rfl (by unfold aj_I; omega) (fun h138 => ?_) (fun h138 => ?_)
                  · refine aj_aload_n 0 147 (dx d_Model_list 83 rfl) rfl rfl rfl ?_
                    refine aj_getfv (v := 94) 150 fl_Model_60 (dx d_Model_list 84 rfl) rfl hM3.1.1 (by first | exact mf_by hM3.1 | (simp [aj_up_at]; exact mf_by hM3.1) | exact mf_by (by assumption)) ?_
                    refine aj_iload_n 1 151 (dx d_Model_list 85 rfl) rfl rfl rfl ?_
                    refine aj_iald 152 (dx d_Model_list 86 rfl) rfl (ms_by hM3.1) rfl (by omega) (by omega) ?_
                    rw [y6]
                    refine aj_iconst 153 (dx d_Model_list 87 rfl) rfl ?_
                    refine aj_iadd 154 (dx d_Model_list 88 rfl) rfl ?_
                    refine aj_istore_n 2 155 (dx d_Model_list 89 rfl) rfl rfl rfl ?_
                    simp only [List.set]
                    refine aj_aload_n 0 156 (dx d_Model_list 90 rfl) rfl rfl rfl ?_
                    refine aj_getfv (v := 93) 159 fl_Model_57 (dx d_Model_list 91 rfl) rfl hM3.1.1 (by first | exact mf_parent hM3.1 | (simp [aj_up_at]; exact mf_parent hM3.1) | exact mf_parent (by assumption)) ?_
                    refine aj_iload_n 1 160 (dx d_Model_list 92 rfl) rfl rfl rfl ?_
                    refine aj_iald 161 (dx d_Model_list 93 rfl) rfl (ms_parent hM3.1) rfl (by omega) (by omega) ?_
                    rw [y5]
                    refine aj_istore_n 1 162 (dx d_Model_list 94 rfl) rfl rfl rfl ?_
                    simp only [List.set]
                    refine aj_goto 11 (dx d_Model_list 95 rfl) rfl ?_
                    refine aj_iload_n 3 12 (dx d_Model_list 9 rfl) rfl rfl rfl ?_
                    refine aj_if_eq 165 15 (dx d_Model_list 10 rfl) rfl rfl (by unfold aj_I; omega) (fun h12 => ?_) (fun h12 => ?_)
                    · exact absurd h12 (by decide)
                    · refine aj_iload_n 2 16 (dx d_Model_list 11 rfl) rfl rfl rfl ?_
                      refine aj_istore 4 18 (dx d_Model_list 12 rfl) rfl rfl ?_
                      simp only [List.set]
                      refine aj_forget 2 ?_
                      simp only [List.set]
                      rw [show ((i : Nat) : Int) + 1 = ((i + 1 : Nat) : Int) by omega]
                      exact ih _ (by omega) (i + 1) g3 _ (by omega) rfl hl3 hp3' (by rw [List.length_append]; rw [List.length_append] at hcnt; omega) (fun g4 hl4 hp4 => hgo g4 (by rw [List.append_assoc] at hl4; exact hl4) hp4)
                  · exact absurd h138 (by omega)
                refine aj_iload_n 3 12 (dx d_Model_list 9 rfl) rfl rfl rfl ?_
                refine aj_if_eq 165 15 (dx d_Model_list 10 rfl) rfl rfl (by unfold aj_I; omega) (fun h12 => ?_) (fun h12 => ?_)
                · exact absurd h12 (by decide)
                · refine aj_iload_n 2 16 (dx d_Model_list 11 rfl) rfl rfl rfl ?_
                  refine aj_istore 4 18 (dx d_Model_list 12 rfl) rfl rfl ?_
                  simp only [List.set]
                  refine aj_forget 2 ?_
                  refine aj_forget 5 ?_
                  simp only [List.set]
                  refine ihf f' (Nat.lt_succ_self _) q q1 (by omega) _ 0 _ _ (Nat.zero_le _) rfl hL2 hP2 (by
                    rw [Nat.sub_zero, lvc_no hnoch k (Nat.le_refl _), List.length_append, List.length_singleton]; rw [hone] at hcnt; rw [List.length_append, List.length_singleton] at hcnt; simp; omega) (fun g3 hl3 hp3 => hback g3 _ ?_ hl3 hp3)
                  rw [Nat.sub_zero, lvc_no hnoch k (Nat.le_refl _), List.append_nil, hone]
            · change aj_wp _ _ _ _ _ _ _ _ _ _ _ _ _ _
              refine aj_if_eq 134 113 (dx d_Model_list 64 rfl) rfl rfl (by unfold aj_I; omega) (fun h110 => ?_) (fun h110 => ?_)
              · refine aj_goto 162 (dx d_Model_list 77 rfl) rfl ?_
                refine aj_goto 11 (dx d_Model_list 95 rfl) rfl ?_
                have hch : ∃ a, a < k ∧ pr c W (a :: W q) := by
                  obtain ⟨a, a1, x, x1, x2⟩ := hend
                  refine ⟨a, ?_, x, x1, x2⟩
                  have := hI.2.2.1 x x1
                  rw [x2] at this
                  exact (wd_ok_cons.mp this).1
                obtain ⟨f2, rfl⟩ : ∃ f2, f' = f2 + 1 := by
                  obtain ⟨a, a1, x, x1, x2⟩ := hch
                  have h1 := hlen x x1
                  have h2 : (W x).length = (W q).length + 1 := by rw [x2]; rfl
                  exact ⟨f' - 1, by omega⟩
                have hmore : lvF (pr c W) k (f2 + 1) (i :: W p) = lvc (pr c W) k (lvF (pr c W) k f2) (W q) k := by rw [← q2]; exact lv_more hch
                have hback : ∀ (g3 : aj_G) (L3 : List (List Nat)), L3 = L ++ lvF (pr c W) k (f2 + 1) (i :: W p) → lsM g g3 c W L3 → pbM g3 c W q → aj_wp nE al al X m_Model_list (d + 1) 0 0 137 [some (1, 78), some (0, (q : Int)), none, some (0, 1), none, none] [] sh g3 Q := by
                  intro g3 L3 hL3 hl3 hp3
                  subst hL3
                  have hM3 := lsM_M hM hl3
                  obtain ⟨q', r', y1, y2, y3, y4, y5, y6⟩ := hp3 [] i (W p) q2
                  have e1 : q' = q := hI.2.2.2.2 q' q y1 q1 (y3.trans q2.symm)
                  have e2 : r' = p := hI.2.2.2.2 r' p y2 hp y4
                  subst e1
                  subst e2
                  have hp3' : pbM g3 c W r' := fun t b v e => hp3 (i :: t) b v (by rw [q2, e]; rfl)
                  refine aj_iload_n 1 138 (dx d_Model_list 78 rfl) rfl rfl rfl ?_
                  refine aj_if_ne 146 141 (dx d_Model_list 79 rfl) rfl rfl (by unfold aj_I; omega) (fun h138 => ?_) (fun h138 => ?_)
                  · refine aj_aload_n 0 147 (dx d_Model_list 83 rfl) rfl rfl rfl ?_
                    refine aj_getfv (v := 94) 150 fl_Model_60 (dx d_Model_list 84 rfl) rfl hM3.1.1 (by first | exact mf_by hM3.1 | (simp [aj_up_at]; exact mf_by hM3.1) | exact mf_by (by assumption)) ?_
                    refine aj_iload_n 1 151 (dx d_Model_list 85 rfl) rfl rfl rfl ?_
                    refine aj_iald 152 (dx d_Model_list 86 rfl) rfl (ms_by hM3.1) rfl (by omega) (by omega) ?_
                    rw [y6]
                    refine aj_iconst 153 (dx d_Model_list 87 rfl) rfl ?_
                    refine aj_iadd 154 (dx d_Model_list 88 rfl) rfl ?_
                    refine aj_istore_n 2 155 (dx d_Model_list 89 rfl) rfl rfl rfl ?_
                    simp only [List.set]
                    refine aj_aload_n 0 156 (dx d_Model_list 90 rfl) rfl rfl rfl ?_
                    refine aj_getfv (v := 93) 159 fl_Model_57 (dx d_Model_list 91 rfl) rfl hM3.1.1 (by first | exact mf_parent hM3.1 | (simp [aj_up_at]; exact mf_parent hM3.1) | exact mf_parent (by assumption)) ?_
                    refine aj_iload_n 1 160 (dx d_Model_list 92 rfl) rfl rfl rfl ?_
                    refine aj_iald 161 (dx d_Model_list 93 rfl) rfl (ms_parent hM3.1) rfl (by omega) (by omega) ?_
                    rw [y5]
                    refine aj_istore_n 1 162 (dx d_Model_list 94 rfl) rfl rfl rfl ?_
                    simp only [List.set]
                    refine aj_goto 11 (dx d_Model_list 95 rfl) rfl ?_
                    refine aj_iload_n 3 12 (dx d_Model_list 9 rfl) rfl rfl rfl ?_
                    refine aj_if_eq 165 15 (dx d_Model_list 10 rfl) rfl rfl (by unfold aj_I; omega) (fun h12 => ?_) (fun h12 => ?_)
                    · exact absurd h12 (by decide)
                    · refine aj_iload_n 2 16 (dx d_Model_list 11 rfl) rfl rfl rfl ?_
                      refine aj_istore 4 18 (dx d_Model_list 12 rfl) rfl rfl ?_
                      simp only [List.set]
                      refine aj_forget 2 ?_
                      simp only [List.set]
                      rw [show ((i : Nat) : Int) + 1 = ((i + 1 : Nat) : Int) by omega]
                      exact ih _ (by omega) (i + 1) g3 _ (by omega) rfl hl3 hp3' (by rw [List.length_append]; rw [List.length_append] at hcnt; omega) (fun g4 hl4 hp4 => hgo g4 (by rw [List.append_assoc] at hl4; exact hl4) hp4)
                  · exact absurd h138 (by omega)
                refine aj_iload_n 3 12 (dx d_Model_list 9 rfl) rfl rfl rfl ?_
                refine aj_if_eq 165 15 (dx d_Model_list 10 rfl) rfl rfl (by unfold aj_I; omega) (fun h12 => ?_) (fun h12 => ?_)
                · exact absurd h12 (by decide)
                · refine aj_iload_n 2 16 (dx d_Model_list 11 rfl) rfl rfl rfl ?_
                  refine aj_istore 4 18 (dx d_Model_list 12 rfl) rfl rfl ?_
                  simp only [List.set]
                  refine aj_forget 2 ?_
                  refine aj_forget 5 ?_
                  simp only [List.set]
                  refine ihf (f2 + 1) (Nat.lt_succ_self _) q q1 (by omega) _ 0 _ _ (Nat.zero_le _) rfl hL1 hP1 (by
                    rw [List.length_append, hmore] at hcnt; show L.length + (lvc (pr c W) k (lvF (pr c W) k f2) (W q) (k - 0)).length ≤ 800; rw [Nat.sub_zero]; omega) (fun g3 hl3 hp3 => hback g3 _ ?_ hl3 hp3)
                  rw [hmore, Nat.sub_zero]; rfl
              · exact absurd rfl h110
        · have hno : ¬ pr c W (i :: W p) := by
            rcases hci with ⟨q, q1, q2, q3⟩ | ⟨z, -⟩
            · have hq0 : 0 < q := by
                rcases Nat.eq_zero_or_pos q with y | y
                · rw [y, hI.2.1] at q2; cases q2
                · exact y
              omega
            · rintro ⟨q, q1, q2⟩; exact z q q1 q2
          have hsk := lvc_f (S := pr c W) (L := (fun v => lvF (pr c W) k (f - 1) v)) (w := W p) hik hno
          rw [hsk] at hcnt hgo
          refine aj_iinc 4 57 (dx d_Model_list 32 rfl) rfl rfl rfl ?_
          simp only [List.set]
          refine aj_goto 18 (dx d_Model_list 33 rfl) rfl ?_
          rw [show ((i : Nat) : Int) + 1 = ((i + 1 : Nat) : Int) by omega]
          exact ih _ (by omega) (i + 1) g1 L (by omega) rfl hL hP hcnt hgo
set_option maxHeartbeats 8000000 in
theorem k_Model_list {al : Prop} {X : Option (Nat × (Int → Int))} {d : Nat} {sh : List aj_S} {g : aj_G} {Q : aj_R → List aj_S → aj_G → Prop} {c : Nat} {W : Nat → List Nat} {k n : Nat} {nx ou : Nat → Nat → Nat} (hM : mmm sh g k n nx ou) (hI : tr_I k c W) (hc8 : c ≤ 800) (hC : chd g 90 c W) (hlen : ∀ p, p < c → (W p).length ≤ 20) (hch : ∃ a, a < k ∧ pr c W [a]) (hk : ∀ g1, lsM g g1 c W (lvF (pr c W) k 20 []) → Q (.inl none) sh g1) :
    aj_wp nE al al X m_Model_list (d + 1) 0 0 0 [some (1, 78), none, none, none, none, none] [] sh g Q := by
  refine aj_aload_n 0 1 (dx d_Model_list 0 rfl) rfl rfl rfl ?_
  refine aj_iconst 2 (dx d_Model_list 1 rfl) rfl ?_
  refine aj_putf 5 (pl_Model_192 _) (dx d_Model_list 2 rfl) rfl hM.1.1 (aj_fitI _) ?_
  refine aj_iconst 6 (dx d_Model_list 3 rfl) rfl ?_
  refine aj_istore_n 1 7 (dx d_Model_list 4 rfl) rfl rfl rfl ?_
  simp only [List.set]
  refine aj_iconst 8 (dx d_Model_list 5 rfl) rfl ?_
  refine aj_istore_n 2 9 (dx d_Model_list 6 rfl) rfl rfl rfl ?_
  simp only [List.set]
  refine aj_iconst 10 (dx d_Model_list 7 rfl) rfl ?_
  refine aj_istore_n 3 11 (dx d_Model_list 8 rfl) rfl rfl rfl ?_
  simp only [List.set]
  refine aj_iload_n 3 12 (dx d_Model_list 9 rfl) rfl rfl rfl ?_
  refine aj_if_eq 165 15 (dx d_Model_list 10 rfl) rfl rfl (by unfold aj_I; omega) (fun h12 => ?_) (fun h12 => ?_)
  · exact absurd h12 (by decide)
  · refine aj_iload_n 2 16 (dx d_Model_list 11 rfl) rfl rfl rfl ?_
    refine aj_istore 4 18 (dx d_Model_list 12 rfl) rfl rfl ?_
    simp only [List.set]
    refine aj_forget 2 ?_
    simp only [List.set]
    have hG0 : lsM g (aj_up g 78 25 0) c W [] := ⟨⟨fun r x1 _ _ _ => by rw [aj_up_ne _ _ _ x1], fun j hj => by rw [aj_up_ni _ _ _ hj]⟩, by rw [aj_up_self]; rfl, fun t ht => absurd ht (Nat.not_lt_zero _)⟩
    have hlv : lvF (pr c W) k 20 [] = lvc (pr c W) k (lvF (pr c W) k 19) [] k := lv_more hch
    have hnd := tr_cnt (nd_nodup (S := pr c W) (k := k) 20 []) (fun v hv => nd_S 20 [] v ⟨0, hI.1, hI.2.1⟩ hv)
    have hle := lv_nd (S := pr c W) (k := k) 20 []
    refine k_li_f hM hI hc8 hC hlen 20 0 hI.1 (by rw [hI.2.1]; rfl) _ 0 _ [] (Nat.zero_le _) rfl hG0 (fun t b v e => by rw [hI.2.1] at e; cases t <;> cases e) (by
      show 0 + (lvc (pr c W) k (lvF (pr c W) k 19) (W 0) (k - 0)).length ≤ 800
      rw [hI.2.1, Nat.sub_zero, ← hlv]
      omega) (fun g2 hL2 hP2 => ?_)
    have hL3 : lsM g g2 c W (lvF (pr c W) k 20 []) := by
      have hh : lsM g g2 c W ([] ++ lvc (pr c W) k (lvF (pr c W) k 19) (W 0) (k - 0)) := hL2
      rw [hI.2.1, Nat.sub_zero, List.nil_append, ← hlv] at hh
      exact hh
    refine aj_iload_n 1 138 (dx d_Model_list 78 rfl) rfl rfl rfl ?_
    refine aj_if_ne 146 141 (dx d_Model_list 79 rfl) rfl rfl (by unfold aj_I; omega) (fun h138 => ?_) (fun h138 => ?_)
    · exact absurd rfl h138
    · refine aj_iconst 142 (dx d_Model_list 80 rfl) rfl ?_
      refine aj_istore_n 3 143 (dx d_Model_list 81 rfl) rfl rfl rfl ?_
      simp only [List.set]
      refine aj_goto 162 (dx d_Model_list 82 rfl) rfl ?_
      refine aj_goto 11 (dx d_Model_list 95 rfl) rfl ?_
      refine aj_iload_n 3 12 (dx d_Model_list 9 rfl) rfl rfl rfl ?_
      refine aj_if_eq 165 15 (dx d_Model_list 10 rfl) rfl rfl (by unfold aj_I; omega) (fun h12 => ?_) (fun h12 => ?_)
      · refine aj_vret (dx d_Model_list 96 rfl) rfl id ?_
        exact hk g2 hL3
      · exact absurd rfl h12
