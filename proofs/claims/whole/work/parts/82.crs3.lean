/-! Crosses: nextOrder of the model -/
theorem c_desc {w : Nat → Nat} {a n : Nat} (h : ∀ i, a ≤ i → i + 1 < n → w (i + 1) < w i) : ∀ j i, a ≤ i → i < j → j < n → w j < w i := by
  intro j
  induction j with
  | zero => intro i _ h; omega
  | succ j ih =>
    intro i ha hij hj
    have h1 := h j (by omega) hj
    by_cases e : i = j
    · rw [e]; exact h1
    · have := ih i ha (by omega) (by omega)
      omega
/-- half of the tail turned -/
def c_rv (w : Nat → Nat) (n k o t : Nat) : Nat → Nat := fun x => if x ≤ k then w (s_sw k o x) else if x < k + 1 + t ∨ n - 1 - t < x then w (s_sw k o (n + k - x)) else w (s_sw k o x)
theorem c_rv_end {w : Nat → Nat} {n k o t x : Nat} (h : n - 1 - t ≤ k + 1 + t) (h2 : k + 1 + t ≤ n - t) (hx : x < n) : c_rv w n k o t x = c_nx w n k o x := by
  unfold c_rv c_nx
  by_cases e1 : x ≤ k
  · rw [if_pos e1, if_pos e1]
  · rw [if_neg e1, if_neg e1]
    by_cases e2 : x < k + 1 + t ∨ n - 1 - t < x
    · rw [if_pos e2]
    · rw [if_neg e2, show n + k - x = x by omega]
theorem c_rv_s {w : Nat → Nat} {n k o t x : Nat} (h : k + 1 + t < n - 1 - t) (hx : x < n) : c_rv w n k o (t + 1) x = if x = n - 1 - t then c_rv w n k o t (k + 1 + t) else if x = k + 1 + t then c_rv w n k o t (n - 1 - t) else c_rv w n k o t x := by
  unfold c_rv
  by_cases x1 : x = n - 1 - t
  · subst x1
    rw [if_neg (by omega), if_pos (by omega), if_pos rfl, if_neg (by omega), if_neg (by omega), show n + k - (n - 1 - t) = k + 1 + t by omega]
  · rw [if_neg x1]
    by_cases x2 : x = k + 1 + t
    · subst x2
      rw [if_neg (by omega), if_pos (by omega), if_pos rfl, if_neg (by omega), if_neg (by omega), show n + k - (k + 1 + t) = n - 1 - t by omega]
    · rw [if_neg x2]
      by_cases y1 : x ≤ k
      · rw [if_pos y1, if_pos y1]
      · rw [if_neg y1, if_neg y1]
        by_cases y2 : x < k + 1 + t ∨ n - 1 - t < x
        · rw [if_pos y2, if_pos (by omega)]
        · rw [if_neg y2, if_neg (by omega)]
section CRS3
variable {l : Launch} {n : Nat} {K L : Nat → Nat} {I : Nat → Nat → Int32} {J : Nat → Nat → Int64} {G : Nat → Nat → Value} {N cm : Nat} {fs w : Nat → Nat}
abbrev c232_post (n : Nat) (K L : Nat → Nat) (I : Nat → Nat → Int32) (J : Nat → Nat → Int64) (G : Nat → Nat → Value) (cm : Nat) (fs w : Nat → Nat) : Option Value → zH → Prop := fun r h' => (r = some (.int 0) ∧ h' = (n, K, L, I, J, G) ∧ ∀ i, i + 1 < cm → w (i + 1) < w i) ∨ (r = some (.int 1) ∧ ∃ I' k o, h' = (n, K, L, I', J, G) ∧ c_tl w cm k o ∧ (∀ q, q ≠ 95 → I' q = I q) ∧ ∀ x, x < cm → I' 95 x = nI (fs (c_nx w cm k o x)))
theorem c232_3 {X : zX} (hS : SS K L G) (hj : X.2.1 = 232) (hcm : cm ≤ 16) (hF : c_F cm fs) (hP : c_P cm w) {k o : Nat} (ht : c_tl w cm k o) (hQ : ∀ r h', c232_post n K L I J G cm fs w r h' → X.2.2.2.2.2.2 r h') : ∀ (f t : Nat) (I' : Nat → Nat → Int32) (y3 : Int32), cm ≤ t + f → k + 1 + t ≤ cm - t → (∀ q, q ≠ 95 → I' q = I q) → (∀ x, x < cm → I' 95 x = nI (fs (c_rv w cm k o t x))) → zV X 109 [some (.ref 71), some (.int (nI k)), some (.int (nI o)), some (.int y3), some (.int (nI (k + 1 + t))), some (.int (nI (cm - 1 - t)))] [] (n, K, L, I', J, G) 0 0 := by
  obtain ⟨t1, t2, t3, t4, t5, t6⟩ := id ht
  have fin : ∀ (t : Nat) (I' : Nat → Nat → Int32) (y3 : Int32) (x4 x5 : Option Value), cm - 1 - t ≤ k + 1 + t → k + 1 + t ≤ cm - t → (∀ q, q ≠ 95 → I' q = I q) → (∀ x, x < cm → I' 95 x = nI (fs (c_rv w cm k o t x))) → zV X 161 [some (.ref 71), some (.int (nI k)), some (.int (nI o)), some (.int y3), x4, x5] [] (n, K, L, I', J, G) 0 0 := by
    intro t I' y3 x4 x5 h h2 ho hr
    refine zW_ok hj B232_161 161 _ _ _ _ _ b232_161 ?_
    simp only [B232_161, zW, z_wp1, z_ld, z_f0, z_f1, z_f2, z_f3, List.getElem?_cons_zero, List.getElem?_cons_succ, true_and, and_true, Int32.reduceOfInt, z_i10, z_i01, Int32.reduceLT, Int32.reduceLE, Int32.reduceAdd, Int32.reduceSub, z_set, z_set2, z_kil, List.set_cons_zero, List.set_cons_succ, List.take_succ_cons, List.take_zero, List.drop_succ_cons, List.drop_zero, List.reverse_cons, List.reverse_nil, List.nil_append, List.cons_append, List.getD_cons_succ, List.getD_cons_zero, List.getD_nil, List.length_cons, List.length_nil, List.map_cons, List.map_nil, List.sum_cons, List.sum_nil, Nat.reduceAdd, Nat.reduceLeDiff, Value.category, Option.toList, true_or, or_true, z_ua, ↓reduceIte, Nat.reduceEqDiff, eq_self, not_true_eq_false, not_false_eq_true, false_implies, true_implies, Classical.not_not, Nat.le_refl, Nat.zero_le]
    try dsimp only
    refine hQ _ _ (Or.inr ⟨rfl, I', k, o, rfl, ht, ho, fun x hx => ?_⟩)
    rw [hr x hx, c_rv_end h h2 hx]
  intro f
  induction f with
  | zero =>
    intro t I' y3 hf h2 ho hr
    omega
  | succ f ih =>
    intro t I' y3 hf h2 ho hr
    have le : nI (cm - 1 - t) ≤ nI (k + 1 + t) ↔ cm - 1 - t ≤ k + 1 + t := nI_leI (by omega) (by omega)
    by_cases hge : cm - 1 - t ≤ k + 1 + t
    · have := le.mpr hge
      refine zW_ok hj B232_109 109 _ _ _ _ _ b232_109 ?_
      simp only [B232_109, zW, z_wp1, z_ld, z_f0, z_f1, z_f2, z_f3, List.getElem?_cons_zero, List.getElem?_cons_succ, true_and, and_true, Int32.reduceOfInt, z_i10, z_i01, Int32.reduceLT, Int32.reduceLE, Int32.reduceAdd, Int32.reduceSub, z_set, z_set2, z_kil, List.set_cons_zero, List.set_cons_succ, List.take_succ_cons, List.take_zero, List.drop_succ_cons, List.drop_zero, List.reverse_cons, List.reverse_nil, List.nil_append, List.cons_append, List.getD_cons_succ, List.getD_cons_zero, List.getD_nil, List.length_cons, List.length_nil, List.map_cons, List.map_nil, List.sum_cons, List.sum_nil, Nat.reduceAdd, Nat.reduceLeDiff, Value.category, Option.toList, true_or, or_true, z_ua, ↓reduceIte, Nat.reduceEqDiff, eq_self, not_true_eq_false, not_false_eq_true, false_implies, true_implies, Classical.not_not, Nat.le_refl, Nat.zero_le, this]
      try dsimp only
      exact fin t I' y3 _ _ hge h2 ho hr
    · have nle : ¬ nI (cm - 1 - t) ≤ nI (k + 1 + t) := fun q => hge (le.mp q)
      have e1 : (nI (k + 1 + t)).toNatClampNeg = k + 1 + t := nI_clamp (by omega)
      have v1 : vp_in (nI (k + 1 + t)) 16 := vp_in_nI (by omega) (by omega)
      have e2 : (nI (cm - 1 - t)).toNatClampNeg = cm - 1 - t := nI_clamp (by omega)
      have v2 : vp_in (nI (cm - 1 - t)) 16 := vp_in_nI (by omega) (by omega)
      have e3 : nI (cm - 1 - t) - 1 = nI (cm - 1 - (t + 1)) := by rw [← nI_pred (cm - 1 - (t + 1)), show cm - 1 - (t + 1) + 1 = cm - 1 - t by omega]
      have ra := hr (k + 1 + t) (by omega)
      have rb := hr (cm - 1 - t) (by omega)
      refine zW_ok hj B232_109 109 _ _ _ _ _ b232_109 ?_
      simp only [B232_109, zW, z_wp1, z_ld, z_f0, z_f1, z_f2, z_f3, List.getElem?_cons_zero, List.getElem?_cons_succ, true_and, and_true, Int32.reduceOfInt, z_i10, z_i01, Int32.reduceLT, Int32.reduceLE, Int32.reduceAdd, Int32.reduceSub, z_set, z_set2, z_kil, List.set_cons_zero, List.set_cons_succ, List.take_succ_cons, List.take_zero, List.drop_succ_cons, List.drop_zero, List.reverse_cons, List.reverse_nil, List.nil_append, List.cons_append, List.getD_cons_succ, List.getD_cons_zero, List.getD_nil, List.length_cons, List.length_nil, List.map_cons, List.map_nil, List.sum_cons, List.sum_nil, Nat.reduceAdd, Nat.reduceLeDiff, Value.category, Option.toList, true_or, or_true, z_ua, ↓reduceIte, Nat.reduceEqDiff, eq_self, not_true_eq_false, not_false_eq_true, false_implies, true_implies, Classical.not_not, Nat.le_refl, Nat.zero_le, z_hI, sK71 hS, nle, sG71_49 hS, sK95 hS, sL95 hS, v1, v2, nI_1, e3]
      try dsimp only
      rw [e1, e2]
      rw [show k + 1 + t + 1 = k + 1 + (t + 1) from rfl]
      refine ih (t + 1) _ _ (by omega) (by omega) (fun q hq => by rw [z_u_ne hq, z_u_ne hq]; exact ho q hq) (fun x hx => ?_)
      rw [z_u_at, c_rv_s (by omega) hx]
      by_cases x1 : x = cm - 1 - t
      · rw [if_pos x1, if_pos x1, ra]
      · rw [if_neg x1, if_neg x1, z_u_at]
        by_cases x2 : x = k + 1 + t
        · rw [if_pos x2, if_pos x2, rb]
        · rw [if_neg x2, if_neg x2, hr x hx]
theorem c232_2 {X : zX} (hS : SS K L G) (hj : X.2.1 = 232) (hc : I 71 51 = nI cm) (hcm : cm ≤ 16) (hF : c_F cm fs) (hP : c_P cm w) (hr : ∀ x, x < cm → I 95 x = nI (fs (w x))) {k : Nat} (hk : k + 1 < cm) (hd : ∀ i, k + 1 ≤ i → i + 1 < cm → w (i + 1) < w i) (hk1 : w k < w (k + 1)) (hQ : ∀ r h', c232_post n K L I J G cm fs w r h' → X.2.2.2.2.2.2 r h') : ∀ (f o : Nat), o = k + 1 + f → o < cm → (∀ j, o < j → j < cm → w j < w k) → zV X 48 [some (.ref 71), some (.int (nI k)), some (.int (nI o)), none, none, none] [] (n, K, L, I, J, G) 0 0 := by
  intro f
  induction f with
  | zero =>
    intro o ho ho2 hj2
    have e1 : (nI k).toNatClampNeg = k := nI_clamp (by omega)
    have v1 : vp_in (nI k) 16 := vp_in_nI (by omega) (by omega)
    have e2 : (nI o).toNatClampNeg = o := nI_clamp (by omega)
    have v2 : vp_in (nI o) 16 := vp_in_nI (by omega) (by omega)
    have lt : w k < w o := by rw [ho]; exact hk1
    have rk := hr k (by omega)
    have ro := hr o ho2
    have le : nI (fs (w k)) ≤ nI (fs (w o)) := (hF.le (hP.1 k (by omega)) (hP.1 o ho2)).mpr (by omega)
    have e3 : nI cm - 1 = nI (cm - 1) := by rw [← nI_pred (cm - 1), show cm - 1 + 1 = cm by omega]
    refine zW_ok hj B232_48 48 _ _ _ _ _ b232_48 ?_
    simp only [B232_48, zW, z_wp1, z_ld, z_f0, z_f1, z_f2, z_f3, List.getElem?_cons_zero, List.getElem?_cons_succ, true_and, and_true, Int32.reduceOfInt, z_i10, z_i01, Int32.reduceLT, Int32.reduceLE, Int32.reduceAdd, Int32.reduceSub, z_set, z_set2, z_kil, List.set_cons_zero, List.set_cons_succ, List.take_succ_cons, List.take_zero, List.drop_succ_cons, List.drop_zero, List.reverse_cons, List.reverse_nil, List.nil_append, List.cons_append, List.getD_cons_succ, List.getD_cons_zero, List.getD_nil, List.length_cons, List.length_nil, List.map_cons, List.map_nil, List.sum_cons, List.sum_nil, Nat.reduceAdd, Nat.reduceLeDiff, Value.category, Option.toList, true_or, or_true, z_ua, ↓reduceIte, Nat.reduceEqDiff, eq_self, not_true_eq_false, not_false_eq_true, false_implies, true_implies, Classical.not_not, Nat.le_refl, Nat.zero_le, sK71 hS, sG71_49 hS, sK95 hS, sL95 hS, e1, v1, e2, v2, rk, ro, le]
    try dsimp only
    refine zW_ok hj B232_70 70 _ _ _ _ _ b232_70 ?_
    simp only [B232_70, zW, z_wp1, z_ld, z_f0, z_f1, z_f2, z_f3, List.getElem?_cons_zero, List.getElem?_cons_succ, true_and, and_true, Int32.reduceOfInt, z_i10, z_i01, Int32.reduceLT, Int32.reduceLE, Int32.reduceAdd, Int32.reduceSub, z_set, z_set2, z_kil, List.set_cons_zero, List.set_cons_succ, List.take_succ_cons, List.take_zero, List.drop_succ_cons, List.drop_zero, List.reverse_cons, List.reverse_nil, List.nil_append, List.cons_append, List.getD_cons_succ, List.getD_cons_zero, List.getD_nil, List.length_cons, List.length_nil, List.map_cons, List.map_nil, List.sum_cons, List.sum_nil, Nat.reduceAdd, Nat.reduceLeDiff, Value.category, Option.toList, true_or, or_true, z_ua, ↓reduceIte, Nat.reduceEqDiff, eq_self, not_true_eq_false, not_false_eq_true, false_implies, true_implies, Classical.not_not, Nat.le_refl, Nat.zero_le, z_hI, sK71 hS, sG71_49 hS, sK95 hS, sL95 hS, v1, v2, nI_1, hc, e3]
    try dsimp only
    rw [e1, e2, rk, ro]
    have q3 := c232_3 (I := I) (J := J) (n := n) hS hj hcm hF hP (k := k) (o := o) ⟨hk, by omega, ho2, fun i j a b c => c_desc hd j i (by omega) b c, lt, hj2⟩ hQ cm 0
    rw [Nat.add_zero, Nat.sub_zero] at q3
    refine q3 _ _ (by omega) (by omega) (fun q hq => by rw [z_u_ne hq, z_u_ne hq]) (fun x hx => ?_)
    rw [z_u_at, z_u_at]
    have : c_rv w cm k o 0 x = w (s_sw k o x) := by
      unfold c_rv
      by_cases y : x ≤ k
      · rw [if_pos y]
      · rw [if_neg y, if_neg (by omega)]
    rw [this]
    unfold s_sw
    by_cases x1 : x = o
    · rw [if_pos x1, x1, if_neg (by omega), if_pos rfl]
    · rw [if_neg x1, if_neg x1]
      by_cases x2 : x = k
      · rw [if_pos x2, if_pos x2]
      · rw [if_neg x2, if_neg x2, hr x hx]
  | succ f ih =>
    intro o ho ho2 hj2
    have e1 : (nI k).toNatClampNeg = k := nI_clamp (by omega)
    have v1 : vp_in (nI k) 16 := vp_in_nI (by omega) (by omega)
    have e2 : (nI o).toNatClampNeg = o := nI_clamp (by omega)
    have v2 : vp_in (nI o) 16 := vp_in_nI (by omega) (by omega)
    have rk := hr k (by omega)
    have ro := hr o ho2
    have lei : nI (fs (w k)) ≤ nI (fs (w o)) ↔ w k ≤ w o := hF.le (hP.1 k (by omega)) (hP.1 o ho2)
    have e3 : nI cm - 1 = nI (cm - 1) := by rw [← nI_pred (cm - 1), show cm - 1 + 1 = cm by omega]
    by_cases hle : w k ≤ w o
    · have lt : w k < w o := by
        rcases Nat.lt_or_ge (w k) (w o) with q | q
        · exact q
        · have := hP.2 k o (by omega) ho2 (by omega)
          omega
      have le := lei.mpr hle
      refine zW_ok hj B232_48 48 _ _ _ _ _ b232_48 ?_
      simp only [B232_48, zW, z_wp1, z_ld, z_f0, z_f1, z_f2, z_f3, List.getElem?_cons_zero, List.getElem?_cons_succ, true_and, and_true, Int32.reduceOfInt, z_i10, z_i01, Int32.reduceLT, Int32.reduceLE, Int32.reduceAdd, Int32.reduceSub, z_set, z_set2, z_kil, List.set_cons_zero, List.set_cons_succ, List.take_succ_cons, List.take_zero, List.drop_succ_cons, List.drop_zero, List.reverse_cons, List.reverse_nil, List.nil_append, List.cons_append, List.getD_cons_succ, List.getD_cons_zero, List.getD_nil, List.length_cons, List.length_nil, List.map_cons, List.map_nil, List.sum_cons, List.sum_nil, Nat.reduceAdd, Nat.reduceLeDiff, Value.category, Option.toList, true_or, or_true, z_ua, ↓reduceIte, Nat.reduceEqDiff, eq_self, not_true_eq_false, not_false_eq_true, false_implies, true_implies, Classical.not_not, Nat.le_refl, Nat.zero_le, sK71 hS, sG71_49 hS, sK95 hS, sL95 hS, e1, v1, e2, v2, rk, ro, le]
      try dsimp only
      refine zW_ok hj B232_70 70 _ _ _ _ _ b232_70 ?_
      simp only [B232_70, zW, z_wp1, z_ld, z_f0, z_f1, z_f2, z_f3, List.getElem?_cons_zero, List.getElem?_cons_succ, true_and, and_true, Int32.reduceOfInt, z_i10, z_i01, Int32.reduceLT, Int32.reduceLE, Int32.reduceAdd, Int32.reduceSub, z_set, z_set2, z_kil, List.set_cons_zero, List.set_cons_succ, List.take_succ_cons, List.take_zero, List.drop_succ_cons, List.drop_zero, List.reverse_cons, List.reverse_nil, List.nil_append, List.cons_append, List.getD_cons_succ, List.getD_cons_zero, List.getD_nil, List.length_cons, List.length_nil, List.map_cons, List.map_nil, List.sum_cons, List.sum_nil, Nat.reduceAdd, Nat.reduceLeDiff, Value.category, Option.toList, true_or, or_true, z_ua, ↓reduceIte, Nat.reduceEqDiff, eq_self, not_true_eq_false, not_false_eq_true, false_implies, true_implies, Classical.not_not, Nat.le_refl, Nat.zero_le, z_hI, sK71 hS, sG71_49 hS, sK95 hS, sL95 hS, v1, v2, nI_1, hc, e3]
      try dsimp only
      rw [e1, e2, rk, ro]
      have q3 := c232_3 (I := I) (J := J) (n := n) hS hj hcm hF hP (k := k) (o := o) ⟨hk, by omega, ho2, fun i j a b c => c_desc hd j i (by omega) b c, lt, hj2⟩ hQ cm 0
      rw [Nat.add_zero, Nat.sub_zero] at q3
      refine q3 _ _ (by omega) (by omega) (fun q hq => by rw [z_u_ne hq, z_u_ne hq]) (fun x hx => ?_)
      rw [z_u_at, z_u_at]
      have : c_rv w cm k o 0 x = w (s_sw k o x) := by
        unfold c_rv
        by_cases y : x ≤ k
        · rw [if_pos y]
        · rw [if_neg y, if_neg (by omega)]
      rw [this]
      unfold s_sw
      by_cases x1 : x = o
      · rw [if_pos x1, x1, if_neg (by omega), if_pos rfl]
      · rw [if_neg x1, if_neg x1]
        by_cases x2 : x = k
        · rw [if_pos x2, if_pos x2]
        · rw [if_neg x2, if_neg x2, hr x hx]
    · have nle : ¬ nI (fs (w k)) ≤ nI (fs (w o)) := fun q => hle (lei.mp q)
      have e4 : nI o - 1 = nI (o - 1) := by rw [← nI_pred (o - 1), show o - 1 + 1 = o by omega]
      refine zW_ok hj B232_48 48 _ _ _ _ _ b232_48 ?_
      simp only [B232_48, zW, z_wp1, z_ld, z_f0, z_f1, z_f2, z_f3, List.getElem?_cons_zero, List.getElem?_cons_succ, true_and, and_true, Int32.reduceOfInt, z_i10, z_i01, Int32.reduceLT, Int32.reduceLE, Int32.reduceAdd, Int32.reduceSub, z_set, z_set2, z_kil, List.set_cons_zero, List.set_cons_succ, List.take_succ_cons, List.take_zero, List.drop_succ_cons, List.drop_zero, List.reverse_cons, List.reverse_nil, List.nil_append, List.cons_append, List.getD_cons_succ, List.getD_cons_zero, List.getD_nil, List.length_cons, List.length_nil, List.map_cons, List.map_nil, List.sum_cons, List.sum_nil, Nat.reduceAdd, Nat.reduceLeDiff, Value.category, Option.toList, true_or, or_true, z_ua, ↓reduceIte, Nat.reduceEqDiff, eq_self, not_true_eq_false, not_false_eq_true, false_implies, true_implies, Classical.not_not, Nat.le_refl, Nat.zero_le, sK71 hS, sG71_49 hS, sK95 hS, sL95 hS, e1, v1, e2, v2, rk, ro, nle, e4]
      try dsimp only
      refine ih (o - 1) (by omega) (by omega) (fun j a b => ?_)
      by_cases z : j = o
      · rw [z]; omega
      · exact hj2 j (by omega) b
theorem c232_1 {X : zX} (hS : SS K L G) (hj : X.2.1 = 232) (hc : I 71 51 = nI cm) (hcm : cm ≤ 16) (hF : c_F cm fs) (hP : c_P cm w) (hr : ∀ x, x < cm → I 95 x = nI (fs (w x))) (hQ : ∀ r h', c232_post n K L I J G cm fs w r h' → X.2.2.2.2.2.2 r h') : ∀ (k : Nat), k < cm → (∀ i, k ≤ i → i + 1 < cm → w (i + 1) < w i) → zV X 7 [some (.ref 71), some (.int (nI k - 1)), none, none, none, none] [] (n, K, L, I, J, G) 0 0
  | 0, hk, hd => by
    have e : nI 0 - 1 = -1 := by decide
    have n0 : ¬ (0 : Int32) ≤ -1 := by decide
    rw [e]
    refine zW_ok hj B232_7 7 _ _ _ _ _ b232_7 ?_
    simp only [B232_7, zW, z_wp1, z_ld, z_f0, z_f1, z_f2, z_f3, List.getElem?_cons_zero, List.getElem?_cons_succ, true_and, and_true, Int32.reduceOfInt, z_i10, z_i01, Int32.reduceLT, Int32.reduceLE, Int32.reduceAdd, Int32.reduceSub, z_set, z_set2, z_kil, List.set_cons_zero, List.set_cons_succ, List.take_succ_cons, List.take_zero, List.drop_succ_cons, List.drop_zero, List.reverse_cons, List.reverse_nil, List.nil_append, List.cons_append, List.getD_cons_succ, List.getD_cons_zero, List.getD_nil, List.length_cons, List.length_nil, List.map_cons, List.map_nil, List.sum_cons, List.sum_nil, Nat.reduceAdd, Nat.reduceLeDiff, Value.category, Option.toList, true_or, or_true, z_ua, ↓reduceIte, Nat.reduceEqDiff, eq_self, not_true_eq_false, not_false_eq_true, false_implies, true_implies, Classical.not_not, Nat.le_refl, Nat.zero_le]
    try dsimp only
    refine zW_ok hj B232_35 35 _ _ _ _ _ b232_35 ?_
    simp only [B232_35, zW, z_wp1, z_ld, z_f0, z_f1, z_f2, z_f3, List.getElem?_cons_zero, List.getElem?_cons_succ, true_and, and_true, Int32.reduceOfInt, z_i10, z_i01, Int32.reduceLT, Int32.reduceLE, Int32.reduceAdd, Int32.reduceSub, z_set, z_set2, z_kil, List.set_cons_zero, List.set_cons_succ, List.take_succ_cons, List.take_zero, List.drop_succ_cons, List.drop_zero, List.reverse_cons, List.reverse_nil, List.nil_append, List.cons_append, List.getD_cons_succ, List.getD_cons_zero, List.getD_nil, List.length_cons, List.length_nil, List.map_cons, List.map_nil, List.sum_cons, List.sum_nil, Nat.reduceAdd, Nat.reduceLeDiff, Value.category, Option.toList, true_or, or_true, z_ua, ↓reduceIte, Nat.reduceEqDiff, eq_self, not_true_eq_false, not_false_eq_true, false_implies, true_implies, Classical.not_not, Nat.le_refl, Nat.zero_le]
    try dsimp only
    exact hQ _ _ (Or.inl ⟨rfl, rfl, fun i hi => hd i (Nat.zero_le _) hi⟩)
  | k + 1, hk, hd => by
    have ih := c232_1 hS hj hc hcm hF hP hr hQ k (by omega)
    have e : nI (k + 1) - 1 = nI k := nI_pred k
    have e1 : (nI k).toNatClampNeg = k := nI_clamp (by omega)
    have v1 : vp_in (nI k) 16 := vp_in_nI (by omega) (by omega)
    have e2 : (nI (k + 1)).toNatClampNeg = k + 1 := nI_clamp (by omega)
    have v2 : vp_in (nI (k + 1)) 16 := vp_in_nI (by omega) (by omega)
    have n0 : ¬ nI k < 0 := nI_pos (by omega)
    have p0 : 0 ≤ nI k := nI_pos' (by omega)
    have rk := hr k (by omega)
    have ro := hr (k + 1) hk
    have lei : nI (fs (w k)) ≤ nI (fs (w (k + 1))) ↔ w k ≤ w (k + 1) := hF.le (hP.1 k (by omega)) (hP.1 (k + 1) hk)
    rw [e]
    refine zW_ok hj B232_7 7 _ _ _ _ _ b232_7 ?_
    simp only [B232_7, zW, z_wp1, z_ld, z_f0, z_f1, z_f2, z_f3, List.getElem?_cons_zero, List.getElem?_cons_succ, true_and, and_true, Int32.reduceOfInt, z_i10, z_i01, Int32.reduceLT, Int32.reduceLE, Int32.reduceAdd, Int32.reduceSub, z_set, z_set2, z_kil, List.set_cons_zero, List.set_cons_succ, List.take_succ_cons, List.take_zero, List.drop_succ_cons, List.drop_zero, List.reverse_cons, List.reverse_nil, List.nil_append, List.cons_append, List.getD_cons_succ, List.getD_cons_zero, List.getD_nil, List.length_cons, List.length_nil, List.map_cons, List.map_nil, List.sum_cons, List.sum_nil, Nat.reduceAdd, Nat.reduceLeDiff, Value.category, Option.toList, true_or, or_true, z_ua, ↓reduceIte, Nat.reduceEqDiff, eq_self, not_true_eq_false, not_false_eq_true, false_implies, true_implies, Classical.not_not, Nat.le_refl, Nat.zero_le, n0, sK71 hS, sG71_49 hS, sK95 hS, sL95 hS, e1, v1, nI_1, e2, v2, rk, ro, lei]
    try dsimp only
    refine ⟨fun h => ?_, fun h => ih (fun i hi hi2 => ?_)⟩
    · have lt : w k < w (k + 1) := by
        rcases Nat.lt_or_ge (w k) (w (k + 1)) with q | q
        · exact q
        · have := hP.2 k (k + 1) (by omega) hk (by omega)
          omega
      have e3 : nI cm - 1 = nI (cm - 1) := by rw [← nI_pred (cm - 1), show cm - 1 + 1 = cm by omega]
      refine zW_ok hj B232_35 35 _ _ _ _ _ b232_35 ?_
      simp only [B232_35, zW, z_wp1, z_ld, z_f0, z_f1, z_f2, z_f3, List.getElem?_cons_zero, List.getElem?_cons_succ, true_and, and_true, Int32.reduceOfInt, z_i10, z_i01, Int32.reduceLT, Int32.reduceLE, Int32.reduceAdd, Int32.reduceSub, z_set, z_set2, z_kil, List.set_cons_zero, List.set_cons_succ, List.take_succ_cons, List.take_zero, List.drop_succ_cons, List.drop_zero, List.reverse_cons, List.reverse_nil, List.nil_append, List.cons_append, List.getD_cons_succ, List.getD_cons_zero, List.getD_nil, List.length_cons, List.length_nil, List.map_cons, List.map_nil, List.sum_cons, List.sum_nil, Nat.reduceAdd, Nat.reduceLeDiff, Value.category, Option.toList, true_or, or_true, z_ua, ↓reduceIte, Nat.reduceEqDiff, eq_self, not_true_eq_false, not_false_eq_true, false_implies, true_implies, Classical.not_not, Nat.le_refl, Nat.zero_le, p0]
      try dsimp only
      refine zW_ok hj B232_41 41 _ _ _ _ _ b232_41 ?_
      simp only [B232_41, zW, z_wp1, z_ld, z_f0, z_f1, z_f2, z_f3, List.getElem?_cons_zero, List.getElem?_cons_succ, true_and, and_true, Int32.reduceOfInt, z_i10, z_i01, Int32.reduceLT, Int32.reduceLE, Int32.reduceAdd, Int32.reduceSub, z_set, z_set2, z_kil, List.set_cons_zero, List.set_cons_succ, List.take_succ_cons, List.take_zero, List.drop_succ_cons, List.drop_zero, List.reverse_cons, List.reverse_nil, List.nil_append, List.cons_append, List.getD_cons_succ, List.getD_cons_zero, List.getD_nil, List.length_cons, List.length_nil, List.map_cons, List.map_nil, List.sum_cons, List.sum_nil, Nat.reduceAdd, Nat.reduceLeDiff, Value.category, Option.toList, true_or, or_true, z_ua, ↓reduceIte, Nat.reduceEqDiff, eq_self, not_true_eq_false, not_false_eq_true, false_implies, true_implies, Classical.not_not, Nat.le_refl, Nat.zero_le, sK71 hS, hc, e3]
      try dsimp only
      exact c232_2 hS hj hc hcm hF hP hr hk hd lt hQ (cm - 1 - (k + 1)) (cm - 1) (by omega) (by omega) (fun j a b => by omega)
    · by_cases z : i = k
      · rw [z]; omega
      · exact hd i (by omega) hi2
/-- nextOrder -/
theorem c232 (hS : SS K L G) (hc : I 71 51 = nI cm) (hcm : cm ≤ 16) (hF : c_F cm fs) (hP : c_P cm w) (hr : ∀ x, x < cm → I 95 x = nI (fs (w x))) : z_Ctr l 0 232 [.ref 71] (n, K, L, I, J, G) 0 0 (c232_post n K L I J G cm fs w) := by
  refine z_ctr (by decide) (by decide +kernel) (Nat.le_of_ble_eq_true rfl) (by decide +kernel) (fun X hl hj hd hm hs hsc hQ => ?_)
  show zV X 0 [some (.ref 71), none, none, none, none, none] [] _ 0 0
  refine zW_ok hj B232_0 0 _ _ _ _ _ b232_0 ?_
  simp only [B232_0, zW, z_wp1, z_ld, z_f0, z_f1, z_f2, z_f3, List.getElem?_cons_zero, List.getElem?_cons_succ, true_and, and_true, Int32.reduceOfInt, z_i10, z_i01, Int32.reduceLT, Int32.reduceLE, Int32.reduceAdd, Int32.reduceSub, z_set, z_set2, z_kil, List.set_cons_zero, List.set_cons_succ, List.take_succ_cons, List.take_zero, List.drop_succ_cons, List.drop_zero, List.reverse_cons, List.reverse_nil, List.nil_append, List.cons_append, List.getD_cons_succ, List.getD_cons_zero, List.getD_nil, List.length_cons, List.length_nil, List.map_cons, List.map_nil, List.sum_cons, List.sum_nil, Nat.reduceAdd, Nat.reduceLeDiff, Value.category, Option.toList, true_or, or_true, z_ua, ↓reduceIte, Nat.reduceEqDiff, eq_self, not_true_eq_false, not_false_eq_true, false_implies, true_implies, Classical.not_not, Nat.le_refl, Nat.zero_le, sK71 hS, hc]
  try dsimp only
  by_cases h0 : cm = 0
  · subst h0
    have e : nI 0 - 2 = -2 := by decide
    have n0 : (-2 : Int32) < 0 := by decide
    have n1 : ¬ (0 : Int32) ≤ -2 := by decide
    rw [e]
    refine zW_ok hj B232_7 7 _ _ _ _ _ b232_7 ?_
    simp only [B232_7, zW, z_wp1, z_ld, z_f0, z_f1, z_f2, z_f3, List.getElem?_cons_zero, List.getElem?_cons_succ, true_and, and_true, Int32.reduceOfInt, z_i10, z_i01, Int32.reduceLT, Int32.reduceLE, Int32.reduceAdd, Int32.reduceSub, z_set, z_set2, z_kil, List.set_cons_zero, List.set_cons_succ, List.take_succ_cons, List.take_zero, List.drop_succ_cons, List.drop_zero, List.reverse_cons, List.reverse_nil, List.nil_append, List.cons_append, List.getD_cons_succ, List.getD_cons_zero, List.getD_nil, List.length_cons, List.length_nil, List.map_cons, List.map_nil, List.sum_cons, List.sum_nil, Nat.reduceAdd, Nat.reduceLeDiff, Value.category, Option.toList, true_or, or_true, z_ua, ↓reduceIte, Nat.reduceEqDiff, eq_self, not_true_eq_false, not_false_eq_true, false_implies, true_implies, Classical.not_not, Nat.le_refl, Nat.zero_le, n0]
    try dsimp only
    refine zW_ok hj B232_35 35 _ _ _ _ _ b232_35 ?_
    simp only [B232_35, zW, z_wp1, z_ld, z_f0, z_f1, z_f2, z_f3, List.getElem?_cons_zero, List.getElem?_cons_succ, true_and, and_true, Int32.reduceOfInt, z_i10, z_i01, Int32.reduceLT, Int32.reduceLE, Int32.reduceAdd, Int32.reduceSub, z_set, z_set2, z_kil, List.set_cons_zero, List.set_cons_succ, List.take_succ_cons, List.take_zero, List.drop_succ_cons, List.drop_zero, List.reverse_cons, List.reverse_nil, List.nil_append, List.cons_append, List.getD_cons_succ, List.getD_cons_zero, List.getD_nil, List.length_cons, List.length_nil, List.map_cons, List.map_nil, List.sum_cons, List.sum_nil, Nat.reduceAdd, Nat.reduceLeDiff, Value.category, Option.toList, true_or, or_true, z_ua, ↓reduceIte, Nat.reduceEqDiff, eq_self, not_true_eq_false, not_false_eq_true, false_implies, true_implies, Classical.not_not, Nat.le_refl, Nat.zero_le, n1]
    try dsimp only
    exact hQ _ _ (Or.inl ⟨rfl, rfl, fun i hi => by omega⟩)
  · have e : nI cm - 2 = nI (cm - 1) - 1 := by
      have h1 : nI cm = nI (cm - 1) + 1 := by rw [nI_1]; congr 1; omega
      rw [h1, show (2 : Int32) = 1 + 1 from rfl]
      grind
    rw [e]
    exact c232_1 hS hj hc hcm hF hP hr hQ (cm - 1) (by omega) (fun i a b => by omega)
end CRS3
