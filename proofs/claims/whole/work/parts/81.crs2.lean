/-! Crosses: crossed, nextOrder and ones of the model -/
theorem z_sub1 (v : Int32) : v - 1 = ~~~ (-v) := by
  refine Int32.toBitVec_inj.mp ?_
  rw [Int32.toBitVec_sub, Int32.toBitVec_not, Int32.toBitVec_neg, BitVec.neg_eq_not_add, BitVec.not_add_one, BitVec.not_not]
  rfl
theorem z_dlow {o : Int32} {i : Nat} (h : zb o i = true) : ∃ p, p ≤ i ∧ zb o p = true ∧ ∀ k, zb (o &&& (o - 1)) k = (zb o k && !decide (k = p)) := by
  obtain ⟨p, h1, h2, h3⟩ := z_least (b := zb o) h
  refine ⟨p, h1, h2, fun k => ?_⟩
  rw [zb_and, z_sub1, zb_not, zb_neg]
  cases e : zb o k with
  | false => simp
  | true =>
    have hk := zb_lt e
    by_cases z : k = p
    · subst z
      have hn : ¬ ∃ j, j < k ∧ zb o j = true := fun ⟨j, hj, q⟩ => by rw [h3 j hj] at q; cases q
      simp [hn, hk]
    · have : ∃ j, j < k ∧ zb o j = true := ⟨p, by
        rcases Nat.lt_trichotomy k p with y | y | y
        · rw [h3 k y] at e; cases e
        · exact absurd y z
        · exact y, h2⟩
      simp [this, hk, z]
theorem s_rk_del {b b' : Nat → Bool} {p n : Nat} (hp : p < n) (h : b p = true) (h' : ∀ q, q < n → b' q = (b q && !decide (q = p))) : s_rk b n = s_rk b' n + 1 := by
  rw [s_rk_sum, s_rk_sum, s_sum_one _ hp]
  simp only [h, if_true]
  congr 1
  refine s_sum_congr (fun q hq => ?_)
  rw [h' q hq]
  by_cases e : q = p
  · simp [e]
  · simp [e]
/-- finds in their order -/
def c_F (n : Nat) (fs : Nat → Nat) : Prop := (∀ p, p < n → fs p < 16) ∧ ∀ p q, p < q → q < n → fs p < fs q
theorem c_F.le {n : Nat} {fs : Nat → Nat} (h : c_F n fs) {p q : Nat} (hp : p < n) (hq : q < n) : nI (fs p) ≤ nI (fs q) ↔ p ≤ q := by
  have h1 := h.1 p hp
  have h2 := h.1 q hq
  rw [nI_leI (by omega) (by omega)]
  rcases Nat.lt_trichotomy p q with z | z | z
  · have := h.2 p q z hq; omega
  · subst z; omega
  · have := h.2 q p z hp; omega
section CRS2
variable {l : Launch} {n : Nat} {K L : Nat → Nat} {I : Nat → Nat → Int32} {J : Nat → Nat → Int64} {G : Nat → Nat → Value} {N cm : Nat} {fs w : Nat → Nat}
abbrev mH (I : Nat → Nat → Int32) (fs : Nat → Nat) (i p : Nat) : Bool := zb (I 94 i) (fs p)
theorem c231_in {X : zX} (hS : SS K L G) (hj : X.2.1 = 231) (hc : I 71 51 = nI cm) (hcm : cm ≤ 16) (hF : ∀ p, p < cm → fs p < 16) (hw : ∀ x, x < cm → w x < cm) (hr : ∀ x, x < cm → I 95 x = nI (fs (w x))) {i : Nat} (hi : i < 12) {sum : Int32} (kk : ∀ x7, zV X 100 [some (.ref 71), some (.int sum), some (.int (nI i)), some (.int (nI (s_rk (fun x => mH I fs i (w x)) cm))), some (.int (nI (c_l (fun x => mH I fs i (w x)) cm))), some (.int (nI (c_r (fun x => mH I fs i (w x)) cm))), some (.int (nI cm)), x7] [] (n, K, L, I, J, G) 0 0) : ∀ (k x : Nat) (x7 : Option Value), x + k = cm → zV X 23 [some (.ref 71), some (.int sum), some (.int (nI i)), some (.int (nI (s_rk (fun x => mH I fs i (w x)) x))), some (.int (nI (c_l (fun x => mH I fs i (w x)) x))), some (.int (nI (c_r (fun x => mH I fs i (w x)) x))), some (.int (nI x)), x7] [] (n, K, L, I, J, G) 0 0
  | 0, x, x7, hk => by
    have e : x = cm := by omega
    subst e
    refine zW_ok hj B231_23 23 _ _ _ _ _ b231_23 ?_
    simp only [B231_23, zW, z_wp1, z_ld, z_f0, z_f1, z_f2, z_f3, List.getElem?_cons_zero, List.getElem?_cons_succ, true_and, and_true, Int32.reduceOfInt, z_i10, z_i01, Int32.reduceLT, Int32.reduceLE, Int32.reduceAdd, Int32.reduceSub, z_set, z_set2, z_kil, List.set_cons_zero, List.set_cons_succ, List.take_succ_cons, List.take_zero, List.drop_succ_cons, List.drop_zero, List.reverse_cons, List.reverse_nil, List.nil_append, List.cons_append, List.getD_cons_succ, List.getD_cons_zero, List.getD_nil, List.length_cons, List.length_nil, List.map_cons, List.map_nil, List.sum_cons, List.sum_nil, Nat.reduceAdd, Nat.reduceLeDiff, Value.category, Option.toList, true_or, or_true, z_ua, ↓reduceIte, Nat.reduceEqDiff, eq_self, not_true_eq_false, not_false_eq_true, false_implies, true_implies, Classical.not_not, Nat.le_refl, Nat.zero_le, sK71 hS, hc]
    try dsimp only
    exact ⟨fun _ => kk _, fun q => absurd (nI_le (Nat.le_refl _) (by omega)) q⟩
  | k + 1, x, x7, hk => by
    have ih := c231_in hS hj hc hcm hF hw hr hi kk k (x + 1)
    have e1 : (nI x).toNatClampNeg = x := nI_clamp (by omega)
    have v1 : vp_in (nI x) 16 := vp_in_nI (by omega) (by omega)
    have e2 : (nI i).toNatClampNeg = i := nI_clamp (by omega)
    have v2 : vp_in (nI i) 12 := vp_in_nI (by omega) (by omega)
    have hrx := hr x (by omega)
    have hf := hF (w x) (hw x (by omega))
    generalize hb : (fun x => mH I fs i (w x)) = b at *
    have hbx : b x = zb (I 94 i) (fs (w x)) := by rw [← hb]
    have c1 := c_r_l b x
    have c2 := c_l_rk b x
    have c3 := s_rk_n b x
    refine zW_ok hj B231_23 23 _ _ _ _ _ b231_23 ?_
    simp only [B231_23, zW, z_wp1, z_ld, z_f0, z_f1, z_f2, z_f3, List.getElem?_cons_zero, List.getElem?_cons_succ, true_and, and_true, Int32.reduceOfInt, z_i10, z_i01, Int32.reduceLT, Int32.reduceLE, Int32.reduceAdd, Int32.reduceSub, z_set, z_set2, z_kil, List.set_cons_zero, List.set_cons_succ, List.take_succ_cons, List.take_zero, List.drop_succ_cons, List.drop_zero, List.reverse_cons, List.reverse_nil, List.nil_append, List.cons_append, List.getD_cons_succ, List.getD_cons_zero, List.getD_nil, List.length_cons, List.length_nil, List.map_cons, List.map_nil, List.sum_cons, List.sum_nil, Nat.reduceAdd, Nat.reduceLeDiff, Value.category, Option.toList, true_or, or_true, z_ua, ↓reduceIte, Nat.reduceEqDiff, eq_self, not_true_eq_false, not_false_eq_true, false_implies, true_implies, Classical.not_not, Nat.le_refl, Nat.zero_le, sK71 hS, hc, sG71_48 hS, sK94 hS, sL94 hS, sG71_49 hS, sK95 hS, sL95 hS, e1, v1, e2, v2, hrx, zb_get1 (show fs (w x) < 32 by omega)]
    try dsimp only
    refine ⟨fun q => absurd q (nI_ge (by omega) (by omega)), fun _ => ⟨fun h => ?_, fun h => ?_⟩⟩
    · have hbf : b x = false := by rw [hbx]; simpa using h
      have f1 : s_rk b (x + 1) = s_rk b x := by rw [s_rk, hbf]; rfl
      have f2 : c_r b (x + 1) = 0 := by rw [c_r, hbf]; rfl
      have f3 : c_l b (x + 1) = c_l b x := by rw [c_l, f2]; exact Nat.max_eq_left (Nat.zero_le _)
      have ih' := ih (some (.int 0)) (by omega)
      rw [f1, f2, f3, nI_0] at ih'
      have le0 : (0 : Int32) ≤ nI (c_l b x) := nI_pos' (by omega)
      refine zW_ok hj B231_56 56 _ _ _ _ _ b231_56 ?_
      simp only [B231_56, zW, z_wp1, z_ld, z_f0, z_f1, z_f2, z_f3, List.getElem?_cons_zero, List.getElem?_cons_succ, true_and, and_true, Int32.reduceOfInt, z_i10, z_i01, Int32.reduceLT, Int32.reduceLE, Int32.reduceAdd, Int32.reduceSub, z_set, z_set2, z_kil, List.set_cons_zero, List.set_cons_succ, List.take_succ_cons, List.take_zero, List.drop_succ_cons, List.drop_zero, List.reverse_cons, List.reverse_nil, List.nil_append, List.cons_append, List.getD_cons_succ, List.getD_cons_zero, List.getD_nil, List.length_cons, List.length_nil, List.map_cons, List.map_nil, List.sum_cons, List.sum_nil, Nat.reduceAdd, Nat.reduceLeDiff, Value.category, Option.toList, true_or, or_true, z_ua, ↓reduceIte, Nat.reduceEqDiff, eq_self, not_true_eq_false, not_false_eq_true, false_implies, true_implies, Classical.not_not, Nat.le_refl, Nat.zero_le]
      try dsimp only
      refine zW_ok hj B231_57 57 _ _ _ _ _ b231_57 ?_
      simp only [B231_57, zW, z_wp1, z_ld, z_f0, z_f1, z_f2, z_f3, List.getElem?_cons_zero, List.getElem?_cons_succ, true_and, and_true, Int32.reduceOfInt, z_i10, z_i01, Int32.reduceLT, Int32.reduceLE, Int32.reduceAdd, Int32.reduceSub, z_set, z_set2, z_kil, List.set_cons_zero, List.set_cons_succ, List.take_succ_cons, List.take_zero, List.drop_succ_cons, List.drop_zero, List.reverse_cons, List.reverse_nil, List.nil_append, List.cons_append, List.getD_cons_succ, List.getD_cons_zero, List.getD_nil, List.length_cons, List.length_nil, List.map_cons, List.map_nil, List.sum_cons, List.sum_nil, Nat.reduceAdd, Nat.reduceLeDiff, Value.category, Option.toList, true_or, or_true, z_ua, ↓reduceIte, Nat.reduceEqDiff, eq_self, not_true_eq_false, not_false_eq_true, false_implies, true_implies, Classical.not_not, Nat.le_refl, Nat.zero_le]
      try dsimp only
      refine zW_ok hj B231_71 71 _ _ _ _ _ b231_71 ?_
      simp only [B231_71, zW, z_wp1, z_ld, z_f0, z_f1, z_f2, z_f3, List.getElem?_cons_zero, List.getElem?_cons_succ, true_and, and_true, Int32.reduceOfInt, z_i10, z_i01, Int32.reduceLT, Int32.reduceLE, Int32.reduceAdd, Int32.reduceSub, z_set, z_set2, z_kil, List.set_cons_zero, List.set_cons_succ, List.take_succ_cons, List.take_zero, List.drop_succ_cons, List.drop_zero, List.reverse_cons, List.reverse_nil, List.nil_append, List.cons_append, List.getD_cons_succ, List.getD_cons_zero, List.getD_nil, List.length_cons, List.length_nil, List.map_cons, List.map_nil, List.sum_cons, List.sum_nil, Nat.reduceAdd, Nat.reduceLeDiff, Value.category, Option.toList, true_or, or_true, z_ua, ↓reduceIte, Nat.reduceEqDiff, eq_self, not_true_eq_false, not_false_eq_true, false_implies, true_implies, Classical.not_not, Nat.le_refl, Nat.zero_le]
      try dsimp only
      refine zW_ok hj B231_72 72 _ _ _ _ _ b231_72 ?_
      simp only [B231_72, zW, z_wp1, z_ld, z_f0, z_f1, z_f2, z_f3, List.getElem?_cons_zero, List.getElem?_cons_succ, true_and, and_true, Int32.reduceOfInt, z_i10, z_i01, Int32.reduceLT, Int32.reduceLE, Int32.reduceAdd, Int32.reduceSub, z_set, z_set2, z_kil, List.set_cons_zero, List.set_cons_succ, List.take_succ_cons, List.take_zero, List.drop_succ_cons, List.drop_zero, List.reverse_cons, List.reverse_nil, List.nil_append, List.cons_append, List.getD_cons_succ, List.getD_cons_zero, List.getD_nil, List.length_cons, List.length_nil, List.map_cons, List.map_nil, List.sum_cons, List.sum_nil, Nat.reduceAdd, Nat.reduceLeDiff, Value.category, Option.toList, true_or, or_true, z_ua, ↓reduceIte, Nat.reduceEqDiff, eq_self, not_true_eq_false, not_false_eq_true, false_implies, true_implies, Classical.not_not, Nat.le_refl, Nat.zero_le]
      try dsimp only
      refine zW_ok hj B231_83 83 _ _ _ _ _ b231_83 ?_
      simp only [B231_83, zW, z_wp1, z_ld, z_f0, z_f1, z_f2, z_f3, List.getElem?_cons_zero, List.getElem?_cons_succ, true_and, and_true, Int32.reduceOfInt, z_i10, z_i01, Int32.reduceLT, Int32.reduceLE, Int32.reduceAdd, Int32.reduceSub, z_set, z_set2, z_kil, List.set_cons_zero, List.set_cons_succ, List.take_succ_cons, List.take_zero, List.drop_succ_cons, List.drop_zero, List.reverse_cons, List.reverse_nil, List.nil_append, List.cons_append, List.getD_cons_succ, List.getD_cons_zero, List.getD_nil, List.length_cons, List.length_nil, List.map_cons, List.map_nil, List.sum_cons, List.sum_nil, Nat.reduceAdd, Nat.reduceLeDiff, Value.category, Option.toList, true_or, or_true, z_ua, ↓reduceIte, Nat.reduceEqDiff, eq_self, not_true_eq_false, not_false_eq_true, false_implies, true_implies, Classical.not_not, Nat.le_refl, Nat.zero_le, le0]
      try dsimp only
      refine zW_ok hj B231_94 94 _ _ _ _ _ b231_94 ?_
      simp only [B231_94, zW, z_wp1, z_ld, z_f0, z_f1, z_f2, z_f3, List.getElem?_cons_zero, List.getElem?_cons_succ, true_and, and_true, Int32.reduceOfInt, z_i10, z_i01, Int32.reduceLT, Int32.reduceLE, Int32.reduceAdd, Int32.reduceSub, z_set, z_set2, z_kil, List.set_cons_zero, List.set_cons_succ, List.take_succ_cons, List.take_zero, List.drop_succ_cons, List.drop_zero, List.reverse_cons, List.reverse_nil, List.nil_append, List.cons_append, List.getD_cons_succ, List.getD_cons_zero, List.getD_nil, List.length_cons, List.length_nil, List.map_cons, List.map_nil, List.sum_cons, List.sum_nil, Nat.reduceAdd, Nat.reduceLeDiff, Value.category, Option.toList, true_or, or_true, z_ua, ↓reduceIte, Nat.reduceEqDiff, eq_self, not_true_eq_false, not_false_eq_true, false_implies, true_implies, Classical.not_not, Nat.le_refl, Nat.zero_le, nI_1]
      try dsimp only
      exact ih'
    · have hbt : b x = true := by rw [hbx]; exact h
      have f1 : s_rk b (x + 1) = s_rk b x + 1 := by rw [s_rk, hbt]; rfl
      have f2 : c_r b (x + 1) = c_r b x + 1 := by rw [c_r, hbt]; rfl
      have ih' := ih (some (.int 1)) (by omega)
      have le : nI (c_r b x + 1) ≤ nI (c_l b x) ↔ c_r b x + 1 ≤ c_l b x := nI_leI (by omega) (by omega)
      rw [f1, f2, c_l, f2] at ih'
      refine zW_ok hj B231_57 57 _ _ _ _ _ b231_57 ?_
      simp only [B231_57, zW, z_wp1, z_ld, z_f0, z_f1, z_f2, z_f3, List.getElem?_cons_zero, List.getElem?_cons_succ, true_and, and_true, Int32.reduceOfInt, z_i10, z_i01, Int32.reduceLT, Int32.reduceLE, Int32.reduceAdd, Int32.reduceSub, z_set, z_set2, z_kil, List.set_cons_zero, List.set_cons_succ, List.take_succ_cons, List.take_zero, List.drop_succ_cons, List.drop_zero, List.reverse_cons, List.reverse_nil, List.nil_append, List.cons_append, List.getD_cons_succ, List.getD_cons_zero, List.getD_nil, List.length_cons, List.length_nil, List.map_cons, List.map_nil, List.sum_cons, List.sum_nil, Nat.reduceAdd, Nat.reduceLeDiff, Value.category, Option.toList, true_or, or_true, z_ua, ↓reduceIte, Nat.reduceEqDiff, eq_self, not_true_eq_false, not_false_eq_true, false_implies, true_implies, Classical.not_not, Nat.le_refl, Nat.zero_le, nI_1]
      try dsimp only
      refine zW_ok hj B231_72 72 _ _ _ _ _ b231_72 ?_
      simp only [B231_72, zW, z_wp1, z_ld, z_f0, z_f1, z_f2, z_f3, List.getElem?_cons_zero, List.getElem?_cons_succ, true_and, and_true, Int32.reduceOfInt, z_i10, z_i01, Int32.reduceLT, Int32.reduceLE, Int32.reduceAdd, Int32.reduceSub, z_set, z_set2, z_kil, List.set_cons_zero, List.set_cons_succ, List.take_succ_cons, List.take_zero, List.drop_succ_cons, List.drop_zero, List.reverse_cons, List.reverse_nil, List.nil_append, List.cons_append, List.getD_cons_succ, List.getD_cons_zero, List.getD_nil, List.length_cons, List.length_nil, List.map_cons, List.map_nil, List.sum_cons, List.sum_nil, Nat.reduceAdd, Nat.reduceLeDiff, Value.category, Option.toList, true_or, or_true, z_ua, ↓reduceIte, Nat.reduceEqDiff, eq_self, not_true_eq_false, not_false_eq_true, false_implies, true_implies, Classical.not_not, Nat.le_refl, Nat.zero_le, nI_1]
      try dsimp only
      refine zW_ok hj B231_83 83 _ _ _ _ _ b231_83 ?_
      simp only [B231_83, zW, z_wp1, z_ld, z_f0, z_f1, z_f2, z_f3, List.getElem?_cons_zero, List.getElem?_cons_succ, true_and, and_true, Int32.reduceOfInt, z_i10, z_i01, Int32.reduceLT, Int32.reduceLE, Int32.reduceAdd, Int32.reduceSub, z_set, z_set2, z_kil, List.set_cons_zero, List.set_cons_succ, List.take_succ_cons, List.take_zero, List.drop_succ_cons, List.drop_zero, List.reverse_cons, List.reverse_nil, List.nil_append, List.cons_append, List.getD_cons_succ, List.getD_cons_zero, List.getD_nil, List.length_cons, List.length_nil, List.map_cons, List.map_nil, List.sum_cons, List.sum_nil, Nat.reduceAdd, Nat.reduceLeDiff, Value.category, Option.toList, true_or, or_true, z_ua, ↓reduceIte, Nat.reduceEqDiff, eq_self, not_true_eq_false, not_false_eq_true, false_implies, true_implies, Classical.not_not, Nat.le_refl, Nat.zero_le, le]
      try dsimp only
      refine ⟨fun q => ?_, fun q => ?_⟩
      · rw [Nat.max_eq_left q] at ih'
        refine zW_ok hj B231_94 94 _ _ _ _ _ b231_94 ?_
        simp only [B231_94, zW, z_wp1, z_ld, z_f0, z_f1, z_f2, z_f3, List.getElem?_cons_zero, List.getElem?_cons_succ, true_and, and_true, Int32.reduceOfInt, z_i10, z_i01, Int32.reduceLT, Int32.reduceLE, Int32.reduceAdd, Int32.reduceSub, z_set, z_set2, z_kil, List.set_cons_zero, List.set_cons_succ, List.take_succ_cons, List.take_zero, List.drop_succ_cons, List.drop_zero, List.reverse_cons, List.reverse_nil, List.nil_append, List.cons_append, List.getD_cons_succ, List.getD_cons_zero, List.getD_nil, List.length_cons, List.length_nil, List.map_cons, List.map_nil, List.sum_cons, List.sum_nil, Nat.reduceAdd, Nat.reduceLeDiff, Value.category, Option.toList, true_or, or_true, z_ua, ↓reduceIte, Nat.reduceEqDiff, eq_self, not_true_eq_false, not_false_eq_true, false_implies, true_implies, Classical.not_not, Nat.le_refl, Nat.zero_le, nI_1]
        try dsimp only
        exact ih'
      · rw [Nat.max_eq_right (by omega)] at ih'
        refine zW_ok hj B231_94 94 _ _ _ _ _ b231_94 ?_
        simp only [B231_94, zW, z_wp1, z_ld, z_f0, z_f1, z_f2, z_f3, List.getElem?_cons_zero, List.getElem?_cons_succ, true_and, and_true, Int32.reduceOfInt, z_i10, z_i01, Int32.reduceLT, Int32.reduceLE, Int32.reduceAdd, Int32.reduceSub, z_set, z_set2, z_kil, List.set_cons_zero, List.set_cons_succ, List.take_succ_cons, List.take_zero, List.drop_succ_cons, List.drop_zero, List.reverse_cons, List.reverse_nil, List.nil_append, List.cons_append, List.getD_cons_succ, List.getD_cons_zero, List.getD_nil, List.length_cons, List.length_nil, List.map_cons, List.map_nil, List.sum_cons, List.sum_nil, Nat.reduceAdd, Nat.reduceLeDiff, Value.category, Option.toList, true_or, or_true, z_ua, ↓reduceIte, Nat.reduceEqDiff, eq_self, not_true_eq_false, not_false_eq_true, false_implies, true_implies, Classical.not_not, Nat.le_refl, Nat.zero_le, nI_1]
        try dsimp only
        exact ih'
theorem c231_out {X : zX} (hS : SS K L G) (hj : X.2.1 = 231) (hN : I 71 17 = nI N) (hN12 : N ≤ 12) (hc : I 71 51 = nI cm) (hcm : cm ≤ 16) (hF : ∀ p, p < cm → fs p < 16) (hw : ∀ x, x < cm → w x < cm) (hr : ∀ x, x < cm → I 95 x = nI (fs (w x))) (hQ : ∀ r h', r = some (.int (nI (c_C (mH I fs) cm N w))) ∧ h' = (n, K, L, I, J, G) → X.2.2.2.2.2.2 r h') : ∀ (k i : Nat) (x3 x4 x5 x6 x7 : Option Value), i + k = N → zV X 4 [some (.ref 71), some (.int (nI (c_C (mH I fs) cm i w))), some (.int (nI i)), x3, x4, x5, x6, x7] [] (n, K, L, I, J, G) 0 0
  | 0, i, x3, x4, x5, x6, x7, hk => by
    have e : i = N := by omega
    subst e
    refine zW_ok hj B231_4 4 _ _ _ _ _ b231_4 ?_
    simp only [B231_4, zW, z_wp1, z_ld, z_f0, z_f1, z_f2, z_f3, List.getElem?_cons_zero, List.getElem?_cons_succ, true_and, and_true, Int32.reduceOfInt, z_i10, z_i01, Int32.reduceLT, Int32.reduceLE, Int32.reduceAdd, Int32.reduceSub, z_set, z_set2, z_kil, List.set_cons_zero, List.set_cons_succ, List.take_succ_cons, List.take_zero, List.drop_succ_cons, List.drop_zero, List.reverse_cons, List.reverse_nil, List.nil_append, List.cons_append, List.getD_cons_succ, List.getD_cons_zero, List.getD_nil, List.length_cons, List.length_nil, List.map_cons, List.map_nil, List.sum_cons, List.sum_nil, Nat.reduceAdd, Nat.reduceLeDiff, Value.category, Option.toList, true_or, or_true, z_ua, ↓reduceIte, Nat.reduceEqDiff, eq_self, not_true_eq_false, not_false_eq_true, false_implies, true_implies, Classical.not_not, Nat.le_refl, Nat.zero_le, sK71 hS, hN]
    try dsimp only
    refine ⟨fun _ => ?_, fun q => absurd (nI_le (Nat.le_refl _) (by omega)) q⟩
    refine zW_ok hj B231_113 113 _ _ _ _ _ b231_113 ?_
    simp only [B231_113, zW, z_wp1, z_ld, z_f0, z_f1, z_f2, z_f3, List.getElem?_cons_zero, List.getElem?_cons_succ, true_and, and_true, Int32.reduceOfInt, z_i10, z_i01, Int32.reduceLT, Int32.reduceLE, Int32.reduceAdd, Int32.reduceSub, z_set, z_set2, z_kil, List.set_cons_zero, List.set_cons_succ, List.take_succ_cons, List.take_zero, List.drop_succ_cons, List.drop_zero, List.reverse_cons, List.reverse_nil, List.nil_append, List.cons_append, List.getD_cons_succ, List.getD_cons_zero, List.getD_nil, List.length_cons, List.length_nil, List.map_cons, List.map_nil, List.sum_cons, List.sum_nil, Nat.reduceAdd, Nat.reduceLeDiff, Value.category, Option.toList, true_or, or_true, z_ua, ↓reduceIte, Nat.reduceEqDiff, eq_self, not_true_eq_false, not_false_eq_true, false_implies, true_implies, Classical.not_not, Nat.le_refl, Nat.zero_le]
    try dsimp only
    exact hQ _ _ ⟨rfl, rfl⟩
  | k + 1, i, x3, x4, x5, x6, x7, hk => by
    have ih := c231_out hS hj hN hN12 hc hcm hF hw hr hQ k (i + 1)
    refine zW_ok hj B231_4 4 _ _ _ _ _ b231_4 ?_
    simp only [B231_4, zW, z_wp1, z_ld, z_f0, z_f1, z_f2, z_f3, List.getElem?_cons_zero, List.getElem?_cons_succ, true_and, and_true, Int32.reduceOfInt, z_i10, z_i01, Int32.reduceLT, Int32.reduceLE, Int32.reduceAdd, Int32.reduceSub, z_set, z_set2, z_kil, List.set_cons_zero, List.set_cons_succ, List.take_succ_cons, List.take_zero, List.drop_succ_cons, List.drop_zero, List.reverse_cons, List.reverse_nil, List.nil_append, List.cons_append, List.getD_cons_succ, List.getD_cons_zero, List.getD_nil, List.length_cons, List.length_nil, List.map_cons, List.map_nil, List.sum_cons, List.sum_nil, Nat.reduceAdd, Nat.reduceLeDiff, Value.category, Option.toList, true_or, or_true, z_ua, ↓reduceIte, Nat.reduceEqDiff, eq_self, not_true_eq_false, not_false_eq_true, false_implies, true_implies, Classical.not_not, Nat.le_refl, Nat.zero_le, sK71 hS, hN]
    try dsimp only
    refine ⟨fun q => absurd q (nI_ge (by omega) (by omega)), fun _ => ?_⟩
    refine (c231_in (sum := nI (c_C (mH I fs) cm i w)) hS hj hc hcm hF hw hr (show i < 12 by omega) (fun y => ?_) cm 0 x7 (by omega)).weak (by simp only [z_le, nI_0, s_rk, c_r, c_l]; simp)
    have c2 := c_l_rk (fun x => mH I fs i (w x)) cm
    have e : nI (c_C (mH I fs) cm i w) + nI (s_rk (fun x => mH I fs i (w x)) cm) - nI (c_l (fun x => mH I fs i (w x)) cm) = nI (c_C (mH I fs) cm (i + 1) w) := by
      rw [nI_add, nI_sub' (by omega)]
      congr 1
      unfold c_C
      rw [s_sum]
      omega
    refine zW_ok hj B231_100 100 _ _ _ _ _ b231_100 ?_
    simp only [B231_100, zW, z_wp1, z_ld, z_f0, z_f1, z_f2, z_f3, List.getElem?_cons_zero, List.getElem?_cons_succ, true_and, and_true, Int32.reduceOfInt, z_i10, z_i01, Int32.reduceLT, Int32.reduceLE, Int32.reduceAdd, Int32.reduceSub, z_set, z_set2, z_kil, List.set_cons_zero, List.set_cons_succ, List.take_succ_cons, List.take_zero, List.drop_succ_cons, List.drop_zero, List.reverse_cons, List.reverse_nil, List.nil_append, List.cons_append, List.getD_cons_succ, List.getD_cons_zero, List.getD_nil, List.length_cons, List.length_nil, List.map_cons, List.map_nil, List.sum_cons, List.sum_nil, Nat.reduceAdd, Nat.reduceLeDiff, Value.category, Option.toList, true_or, or_true, z_ua, ↓reduceIte, Nat.reduceEqDiff, eq_self, not_true_eq_false, not_false_eq_true, false_implies, true_implies, Classical.not_not, Nat.le_refl, Nat.zero_le, nI_1, e]
    try dsimp only
    exact ih _ _ _ _ _ (by omega)
/-- crossed -/
theorem c231 (hS : SS K L G) (hN : I 71 17 = nI N) (hN12 : N ≤ 12) (hc : I 71 51 = nI cm) (hcm : cm ≤ 16) (hF : ∀ p, p < cm → fs p < 16) (hw : ∀ x, x < cm → w x < cm) (hr : ∀ x, x < cm → I 95 x = nI (fs (w x))) : z_D l 0 231 [.ref 71] (n, K, L, I, J, G) (some (.int (nI (c_C (mH I fs) cm N w)))) (n, K, L, I, J, G) := by
  refine z_ctr (by decide) (by decide +kernel) (Nat.le_of_ble_eq_true rfl) (by decide +kernel) (fun X hl hj hd hm hs hsc hQ => ?_)
  show zV X 0 [some (.ref 71), none, none, none, none, none, none, none] [] _ 0 0
  refine zW_ok hj B231_0 0 _ _ _ _ _ b231_0 ?_
  simp only [B231_0, zW, z_wp1, z_ld, z_f0, z_f1, z_f2, z_f3, List.getElem?_cons_zero, List.getElem?_cons_succ, true_and, and_true, Int32.reduceOfInt, z_i10, z_i01, Int32.reduceLT, Int32.reduceLE, Int32.reduceAdd, Int32.reduceSub, z_set, z_set2, z_kil, List.set_cons_zero, List.set_cons_succ, List.take_succ_cons, List.take_zero, List.drop_succ_cons, List.drop_zero, List.reverse_cons, List.reverse_nil, List.nil_append, List.cons_append, List.getD_cons_succ, List.getD_cons_zero, List.getD_nil, List.length_cons, List.length_nil, List.map_cons, List.map_nil, List.sum_cons, List.sum_nil, Nat.reduceAdd, Nat.reduceLeDiff, Value.category, Option.toList, true_or, or_true, z_ua, ↓reduceIte, Nat.reduceEqDiff, eq_self, not_true_eq_false, not_false_eq_true, false_implies, true_implies, Classical.not_not, Nat.le_refl, Nat.zero_le]
  try dsimp only
  exact c231_out hS hj hN hN12 hc hcm hF hw hr hQ N 0 _ _ _ _ _ (by omega)
theorem c233_loop {X : zX} (hj : X.2.1 = 233) {set v : Int32} (hQ : ∀ r h', r = some (.int v) ∧ h' = (n, K, L, I, J, G) → X.2.2.2.2.2.2 r h') : ∀ (k c : Nat) (o : Int32), (∀ i, 16 ≤ i → zb o i = false) → s_rk (zb o) 16 = k → nI (c + k) = v → zV X 4 [some (.ref 71), some (.int set), some (.int (nI c)), some (.int o)] [] (n, K, L, I, J, G) 0 0
  | 0, c, o, ho, hk, hv => by
    have e : o = 0 := zb_ext (fun i _ => by
      rw [zb_0]
      rcases Nat.lt_or_ge i 16 with q | q
      · exact s_rk_0 hk q
      · exact ho i q)
    subst e
    refine zW_ok hj B233_4 4 _ _ _ _ _ b233_4 ?_
    simp only [B233_4, zW, z_wp1, z_ld, z_f0, z_f1, z_f2, z_f3, List.getElem?_cons_zero, List.getElem?_cons_succ, true_and, and_true, Int32.reduceOfInt, z_i10, z_i01, Int32.reduceLT, Int32.reduceLE, Int32.reduceAdd, Int32.reduceSub, z_set, z_set2, z_kil, List.set_cons_zero, List.set_cons_succ, List.take_succ_cons, List.take_zero, List.drop_succ_cons, List.drop_zero, List.reverse_cons, List.reverse_nil, List.nil_append, List.cons_append, List.getD_cons_succ, List.getD_cons_zero, List.getD_nil, List.length_cons, List.length_nil, List.map_cons, List.map_nil, List.sum_cons, List.sum_nil, Nat.reduceAdd, Nat.reduceLeDiff, Value.category, Option.toList, true_or, or_true, z_ua, ↓reduceIte, Nat.reduceEqDiff, eq_self, not_true_eq_false, not_false_eq_true, false_implies, true_implies, Classical.not_not, Nat.le_refl, Nat.zero_le]
    try dsimp only
    refine zW_ok hj B233_21 21 _ _ _ _ _ b233_21 ?_
    simp only [B233_21, zW, z_wp1, z_ld, z_f0, z_f1, z_f2, z_f3, List.getElem?_cons_zero, List.getElem?_cons_succ, true_and, and_true, Int32.reduceOfInt, z_i10, z_i01, Int32.reduceLT, Int32.reduceLE, Int32.reduceAdd, Int32.reduceSub, z_set, z_set2, z_kil, List.set_cons_zero, List.set_cons_succ, List.take_succ_cons, List.take_zero, List.drop_succ_cons, List.drop_zero, List.reverse_cons, List.reverse_nil, List.nil_append, List.cons_append, List.getD_cons_succ, List.getD_cons_zero, List.getD_nil, List.length_cons, List.length_nil, List.map_cons, List.map_nil, List.sum_cons, List.sum_nil, Nat.reduceAdd, Nat.reduceLeDiff, Value.category, Option.toList, true_or, or_true, z_ua, ↓reduceIte, Nat.reduceEqDiff, eq_self, not_true_eq_false, not_false_eq_true, false_implies, true_implies, Classical.not_not, Nat.le_refl, Nat.zero_le]
    try dsimp only
    exact hQ _ _ ⟨by rw [← hv]; rfl, rfl⟩
  | k + 1, c, o, ho, hk, hv => by
    have ne : ¬ o = 0 := fun e => by
      have : s_rk (zb o) 16 = s_rk (fun _ => false) 16 := s_rk_congr (fun p _ => by rw [e, zb_0])
      rw [hk] at this
      exact absurd this (by simp [s_rk])
    obtain ⟨i, -, hi⟩ := zb_ne0.mp ne
    obtain ⟨p, h1, h2, h3⟩ := z_dlow hi
    have hp : p < 16 := by
      rcases Nat.lt_or_ge p 16 with q | q
      · exact q
      · rw [ho p q] at h2; cases h2
    have hd := s_rk_del (n := 16) hp h2 (fun q _ => h3 q)
    refine zW_ok hj B233_4 4 _ _ _ _ _ b233_4 ?_
    simp only [B233_4, zW, z_wp1, z_ld, z_f0, z_f1, z_f2, z_f3, List.getElem?_cons_zero, List.getElem?_cons_succ, true_and, and_true, Int32.reduceOfInt, z_i10, z_i01, Int32.reduceLT, Int32.reduceLE, Int32.reduceAdd, Int32.reduceSub, z_set, z_set2, z_kil, List.set_cons_zero, List.set_cons_succ, List.take_succ_cons, List.take_zero, List.drop_succ_cons, List.drop_zero, List.reverse_cons, List.reverse_nil, List.nil_append, List.cons_append, List.getD_cons_succ, List.getD_cons_zero, List.getD_nil, List.length_cons, List.length_nil, List.map_cons, List.map_nil, List.sum_cons, List.sum_nil, Nat.reduceAdd, Nat.reduceLeDiff, Value.category, Option.toList, true_or, or_true, z_ua, ↓reduceIte, Nat.reduceEqDiff, eq_self, not_true_eq_false, not_false_eq_true, false_implies, true_implies, Classical.not_not, Nat.le_refl, Nat.zero_le, ne, nI_1]
    try dsimp only
    exact c233_loop hj hQ k (c + 1) _ (fun i hi => by rw [h3, ho i hi]; rfl) (by omega) (by rw [← hv]; congr 1; omega)
/-- ones -/
theorem c233 (set : Int32) (h : ∀ i, 16 ≤ i → zb set i = false) : z_D l 0 233 [.ref 71, .int set] (n, K, L, I, J, G) (some (.int (nI (s_rk (zb set) 16)))) (n, K, L, I, J, G) := by
  refine z_ctr (by decide) (by decide +kernel) (Nat.le_of_ble_eq_true rfl) (by decide +kernel) (fun X hl hj hd hm hs hsc hQ => ?_)
  show zV X 0 [some (.ref 71), some (.int set), none, none] [] _ 0 0
  refine zW_ok hj B233_0 0 _ _ _ _ _ b233_0 ?_
  simp only [B233_0, zW, z_wp1, z_ld, z_f0, z_f1, z_f2, z_f3, List.getElem?_cons_zero, List.getElem?_cons_succ, true_and, and_true, Int32.reduceOfInt, z_i10, z_i01, Int32.reduceLT, Int32.reduceLE, Int32.reduceAdd, Int32.reduceSub, z_set, z_set2, z_kil, List.set_cons_zero, List.set_cons_succ, List.take_succ_cons, List.take_zero, List.drop_succ_cons, List.drop_zero, List.reverse_cons, List.reverse_nil, List.nil_append, List.cons_append, List.getD_cons_succ, List.getD_cons_zero, List.getD_nil, List.length_cons, List.length_nil, List.map_cons, List.map_nil, List.sum_cons, List.sum_nil, Nat.reduceAdd, Nat.reduceLeDiff, Value.category, Option.toList, true_or, or_true, z_ua, ↓reduceIte, Nat.reduceEqDiff, eq_self, not_true_eq_false, not_false_eq_true, false_implies, true_implies, Classical.not_not, Nat.le_refl, Nat.zero_le]
  try dsimp only
  exact c233_loop hj hQ _ 0 set h rfl (by rw [Nat.zero_add])
end CRS2
