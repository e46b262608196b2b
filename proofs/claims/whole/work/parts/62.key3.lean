/-! Key and path of the model -/
theorem k_st_ask (ys mb co : Nat → Int32) (g : Nat → Int32 × Int32 × Int32) (s : Int32) : ∀ N, (k_st ys mb co g s N).2.1 = -1 ∨ ∃ i, i < N ∧ (k_st ys mb co g s N).2.1 = nI i ∧ k_ok ys mb s i ∧ (k_st ys mb co g s N).1 = k_v1 ys co g s i ∧ (k_st ys mb co g s N).2.2 = (g (s &&& ys i).toNatClampNeg).2.2 + (g (s &&& (ys i ^^^ -1)).toNatClampNeg).2.2
  | 0 => Or.inl rfl
  | N + 1 => by
    rw [k_st]
    by_cases h : k_ok ys mb s N ∧ ((k_st ys mb co g s N).2.1 = -1 ∨ k_v1 ys co g s N < (k_st ys mb co g s N).1)
    · rw [if_pos h]
      exact Or.inr ⟨N, by omega, rfl, h.1, rfl, rfl⟩
    · rw [if_neg h]
      rcases k_st_ask ys mb co g s N with q | ⟨i, a, b⟩
      · exact Or.inl q
      · exact Or.inr ⟨i, by omega, b⟩
/-- the part of a set to which f belongs -/
def k_to (ys : Nat → Int32) (f i s : Nat) : Nat := if ys i >>> (nI f &&& 31) &&& 1 = 1 then (nI s &&& ys i).toNatClampNeg else (nI s &&& (ys i ^^^ -1)).toNatClampNeg
/-- the way of f: the marks asked, and what is left -/
def k_pt (kv : Nat → Int32 × Int32 × Int32) (ys : Nat → Int32) (f : Nat) : Nat → Nat → List Nat × Nat
  | 0, s => ([], s)
  | k + 1, s => if (kv s).2.1 = -1 then ([], s) else ((kv s).2.1.toNatClampNeg :: (k_pt kv ys f k (k_to ys f (kv s).2.1.toNatClampNeg s)).1, (k_pt kv ys f k (k_to ys f (kv s).2.1.toNatClampNeg s)).2)
theorem k_pt_more {kv : Nat → Int32 × Int32 × Int32} {ys : Nat → Int32} {f : Nat} : ∀ (k s : Nat), (kv (k_pt kv ys f k s).2).2.1 = -1 → ∀ j, k_pt kv ys f (k + j) s = k_pt kv ys f k s
  | 0, s, h, j => by
    simp only [k_pt] at h ⊢
    cases j with
    | zero => rfl
    | succ j => rw [Nat.zero_add, k_pt, if_pos h]
  | k + 1, s, h, j => by
    rw [show k + 1 + j = (k + j) + 1 by omega, k_pt, k_pt]
    by_cases hc : (kv s).2.1 = -1
    · rw [if_pos hc, if_pos hc]
    · rw [k_pt, if_neg hc] at h
      rw [if_neg hc, if_neg hc, k_pt_more k _ h j]
def k_sum (co : Nat → Int32) : List Nat → Int32 → Int32
  | [], a => a
  | i :: r, a => k_sum co r (a + co i)
def k_ans (co : Nat → Int32) (w : Int32) (P : List Nat × Nat) (n0 : Nat) (c0 a0 : Int32) : Int32 := if w = 0 then nI (n0 + P.1.length) else if w = 1 then k_sum co P.1 c0 else if w = 2 then nI P.2 else m_fa w P.1 n0 a0
theorem m_offk.F {I I' : Nat → Nat → Int32} (h : m_offk I I') : mF I I' := ⟨fun q hq => h q (by unfold mP at hq; omega) (by unfold mP at hq; omega) (by unfold mP at hq; omega) (by unfold mP at hq; omega) (by unfold mP at hq; omega) (by unfold mP at hq; omega) (by unfold mP at hq; omega), fun k _ => by rw [h 71 (by decide) (by decide) (by decide) (by decide) (by decide) (by decide) (by decide)]⟩
abbrev m_isF (F : Nat) (s : Int32) : Prop := 0 ≤ s ∧ s < nI (2 ^ F)
theorem z_powF {F : Nat} (h : F ≤ 16) : 2 ^ F ≤ 2 ^ 16 := Nat.pow_le_pow_right (by omega) h
section KEY3
variable {l : Launch} {n : Nat} {K L : Nat → Nat} {I : Nat → Nat → Int32} {J : Nat → Nat → Int64} {G : Nat → Nat → Value} {c F N s : Nat} {tr : Nat → (Int32 → Int32) → Int32} {ys mb co : Nat → Int32}
theorem c201y (hS : SS K L G) (hF : I 71 1 = nI F) (hF16 : F ≤ 16) {m : Int32} (h : m_isF F m) : z_D l 0 201 [.ref 71, .int m] (n, K, L, I, J, G) (some (.int 1)) (n, K, L, I, J, G) := by
  have q := c201 (l := l) (n := n) (I := I) (J := J) hS m
  rw [hF, z_shl1 (by omega), z_b1 h] at q
  exact q
theorem c201n (hS : SS K L G) (hF : I 71 1 = nI F) (hF16 : F ≤ 16) {m : Int32} (h : ¬ m_isF F m) : z_D l 0 201 [.ref 71, .int m] (n, K, L, I, J, G) (some (.int 0)) (n, K, L, I, J, G) := by
  have q := c201 (l := l) (n := n) (I := I) (J := J) hS m
  rw [hF, z_shl1 (by omega), z_b0 h] at q
  exact q
theorem c239a (hS : SS K L G) (hst : m_st I c F N tr) {w : Int32} (hs16 : s < 2 ^ F) (hs0 : s ≠ 0) (hw : 0 ≤ w ∧ w ≤ 2) : z_Ctr l 5 239 [.ref 71, .int (nI s), .int w] (n, K, L, I, J, G) 0 0 (fun r h' => r = some (.int (if w = 0 then (mKV I c F N tr s).1 else if w = 1 then (mKV I c F N tr s).2.1 else (mKV I c F N tr s).2.2)) ∧ ∃ I', h' = (n, K, L, I', J, G) ∧ mF I I') := by
  have hst' := (m_sm.t I).st hst
  obtain ⟨s1, s2, s3, s4, s5, s6, s7⟩ := id hst'
  have hp := z_powF s4
  have e2 : (nI s).toNatClampNeg = s := nI_clamp (by omega)
  have v2 : vp_in (nI s) 65536 := vp_in_nI (by omega) (by omega)
  have ne : ¬ nI s = 0 := nI_ne0 (by omega) (by omega)
  refine z_ctr (by decide) (by decide +kernel) (Nat.le_of_ble_eq_true rfl) (by decide +kernel) (fun X hl hj hd hm hs hsc hQ => ?_)
  show zV X 0 [some (.ref 71), some (.int (nI s)), some (.int w)] [] _ 0 0
  refine zW_ok hj B239_0 0 _ _ _ _ _ b239_0 ?_
  simp only [B239_0, zW, z_wp1, z_ld, z_f0, z_f1, z_f2, z_f3, List.getElem?_cons_zero, List.getElem?_cons_succ, true_and, and_true, Int32.reduceOfInt, z_i10, z_i01, Int32.reduceLT, Int32.reduceLE, Int32.reduceAdd, Int32.reduceSub, z_set, z_set2, z_kil, List.set_cons_zero, List.set_cons_succ, List.take_succ_cons, List.take_zero, List.drop_succ_cons, List.drop_zero, List.reverse_cons, List.reverse_nil, List.nil_append, List.cons_append, List.getD_cons_succ, List.getD_cons_zero, List.getD_nil, List.length_cons, List.length_nil, List.map_cons, List.map_nil, List.sum_cons, List.sum_nil, Nat.reduceAdd, Nat.reduceLeDiff, Value.category, Option.toList, true_or, or_true, z_ua, ↓reduceIte, Nat.reduceEqDiff, eq_self, not_true_eq_false, not_false_eq_true, false_implies, true_implies, Classical.not_not, Nat.le_refl, Nat.zero_le, sK71 hS]
  try dsimp only
  refine z_callD (c201y hS s3 s4 ⟨nI_pos' (by omega), nI_lt hs16 (by omega)⟩) (by omega) (by omega) (by omega) (Nat.le_of_ble_eq_true rfl) ?_
  try simp only [zW, z_wp1, z_ld, z_f0, z_f1, z_f2, z_f3, List.getElem?_cons_zero, List.getElem?_cons_succ, true_and, and_true, Int32.reduceOfInt, z_i10, z_i01, Int32.reduceLT, Int32.reduceLE, Int32.reduceAdd, Int32.reduceSub, z_set, z_set2, z_kil, List.set_cons_zero, List.set_cons_succ, List.take_succ_cons, List.take_zero, List.drop_succ_cons, List.drop_zero, List.reverse_cons, List.reverse_nil, List.nil_append, List.cons_append, List.getD_cons_succ, List.getD_cons_zero, List.getD_nil, List.length_cons, List.length_nil, List.map_cons, List.map_nil, List.sum_cons, List.sum_nil, Nat.reduceAdd, Nat.reduceLeDiff, Value.category, Option.toList, true_or, or_true, z_ua, ↓reduceIte, Nat.reduceEqDiff, eq_self, not_true_eq_false, not_false_eq_true, false_implies, true_implies, Classical.not_not, Nat.le_refl, Nat.zero_le, sK71 hS, ne]
  try dsimp only
  refine z_callD (c160 hS w 0 2) (by omega) (by omega) (by omega) (Nat.le_of_ble_eq_true rfl) ?_
  try simp only [zW, z_wp1, z_ld, z_f0, z_f1, z_f2, z_f3, List.getElem?_cons_zero, List.getElem?_cons_succ, true_and, and_true, Int32.reduceOfInt, z_i10, z_i01, Int32.reduceLT, Int32.reduceLE, Int32.reduceAdd, Int32.reduceSub, z_set, z_set2, z_kil, List.set_cons_zero, List.set_cons_succ, List.take_succ_cons, List.take_zero, List.drop_succ_cons, List.drop_zero, List.reverse_cons, List.reverse_nil, List.nil_append, List.cons_append, List.getD_cons_succ, List.getD_cons_zero, List.getD_nil, List.length_cons, List.length_nil, List.map_cons, List.map_nil, List.sum_cons, List.sum_nil, Nat.reduceAdd, Nat.reduceLeDiff, Value.category, Option.toList, true_or, or_true, z_ua, ↓reduceIte, Nat.reduceEqDiff, eq_self, not_true_eq_false, not_false_eq_true, false_implies, true_implies, Classical.not_not, Nat.le_refl, Nat.zero_le, sK71 hS, z_b1 hw]
  try dsimp only
  refine zW_ok hj B239_29 29 _ _ _ _ _ b239_29 ?_
  simp only [B239_29, zW, z_wp1, z_ld, z_f0, z_f1, z_f2, z_f3, List.getElem?_cons_zero, List.getElem?_cons_succ, true_and, and_true, Int32.reduceOfInt, z_i10, z_i01, Int32.reduceLT, Int32.reduceLE, Int32.reduceAdd, Int32.reduceSub, z_set, z_set2, z_kil, List.set_cons_zero, List.set_cons_succ, List.take_succ_cons, List.take_zero, List.drop_succ_cons, List.drop_zero, List.reverse_cons, List.reverse_nil, List.nil_append, List.cons_append, List.getD_cons_succ, List.getD_cons_zero, List.getD_nil, List.length_cons, List.length_nil, List.map_cons, List.map_nil, List.sum_cons, List.sum_nil, Nat.reduceAdd, Nat.reduceLeDiff, Value.category, Option.toList, true_or, or_true, z_ua, ↓reduceIte, Nat.reduceEqDiff, eq_self, not_true_eq_false, not_false_eq_true, false_implies, true_implies, Classical.not_not, Nat.le_refl, Nat.zero_le, sK71 hS]
  try dsimp only
  refine z_callQ (c238 (I := m_t I) (s := s) hS hst' (by omega)) (by omega) (by omega) (by omega) (Nat.le_of_ble_eq_true rfl) ?_
  rintro r h' ⟨rfl, I', rfl, ho, _, h1⟩
  obtain ⟨g1, g2, g3⟩ := h1 s hs0 (by simp)
  have hF := (mF.t I).tr ho.F
  have ek : mKV (m_t I) c F N tr s = mKV I c F N tr s := rfl
  rw [ek] at g1 g2 g3
  simp only [zW, z_wp1, z_ld, z_f0, z_f1, z_f2, z_f3, List.getElem?_cons_zero, List.getElem?_cons_succ, true_and, and_true, Int32.reduceOfInt, z_i10, z_i01, Int32.reduceLT, Int32.reduceLE, Int32.reduceAdd, Int32.reduceSub, z_set, z_set2, z_kil, List.set_cons_zero, List.set_cons_succ, List.take_succ_cons, List.take_zero, List.drop_succ_cons, List.drop_zero, List.reverse_cons, List.reverse_nil, List.nil_append, List.cons_append, List.getD_cons_succ, List.getD_cons_zero, List.getD_nil, List.length_cons, List.length_nil, List.map_cons, List.map_nil, List.sum_cons, List.sum_nil, Nat.reduceAdd, Nat.reduceLeDiff, Value.category, Option.toList, true_or, or_true, z_ua, ↓reduceIte, Nat.reduceEqDiff, eq_self, not_true_eq_false, not_false_eq_true, false_implies, true_implies, Classical.not_not, Nat.le_refl, Nat.zero_le, sK71 hS, sG71_54 hS, sK98 hS, sL98 hS, e2, v2, g1]
  try dsimp only
  have ret : ∀ z : Int32, z = (if w = 0 then (mKV I c F N tr s).1 else if w = 1 then (mKV I c F N tr s).2.1 else (mKV I c F N tr s).2.2) → zV X 67 [some (.ref 71), some (.int (nI s)), some (.int w)] [.int z] (n, K, L, I', J, G) 0 0 := by
    intro z hz
    subst hz
    refine zW_ok hj B239_67 67 _ _ _ _ _ b239_67 ?_
    simp only [B239_67, zW, z_wp1, z_ld, z_f0, z_f1, z_f2, z_f3, List.getElem?_cons_zero, List.getElem?_cons_succ, true_and, and_true, Int32.reduceOfInt, z_i10, z_i01, Int32.reduceLT, Int32.reduceLE, Int32.reduceAdd, Int32.reduceSub, z_set, z_set2, z_kil, List.set_cons_zero, List.set_cons_succ, List.take_succ_cons, List.take_zero, List.drop_succ_cons, List.drop_zero, List.reverse_cons, List.reverse_nil, List.nil_append, List.cons_append, List.getD_cons_succ, List.getD_cons_zero, List.getD_nil, List.length_cons, List.length_nil, List.map_cons, List.map_nil, List.sum_cons, List.sum_nil, Nat.reduceAdd, Nat.reduceLeDiff, Value.category, Option.toList, true_or, or_true, z_ua, ↓reduceIte, Nat.reduceEqDiff, eq_self, not_true_eq_false, not_false_eq_true, false_implies, true_implies, Classical.not_not, Nat.le_refl, Nat.zero_le]
    try dsimp only
    exact hQ _ _ ⟨rfl, I', rfl, hF⟩
  refine ⟨fun h => ?_, fun h => ret _ (by rw [if_pos h])⟩
  refine zW_ok hj B239_47 47 _ _ _ _ _ b239_47 ?_
  simp only [B239_47, zW, z_wp1, z_ld, z_f0, z_f1, z_f2, z_f3, List.getElem?_cons_zero, List.getElem?_cons_succ, true_and, and_true, Int32.reduceOfInt, z_i10, z_i01, Int32.reduceLT, Int32.reduceLE, Int32.reduceAdd, Int32.reduceSub, z_set, z_set2, z_kil, List.set_cons_zero, List.set_cons_succ, List.take_succ_cons, List.take_zero, List.drop_succ_cons, List.drop_zero, List.reverse_cons, List.reverse_nil, List.nil_append, List.cons_append, List.getD_cons_succ, List.getD_cons_zero, List.getD_nil, List.length_cons, List.length_nil, List.map_cons, List.map_nil, List.sum_cons, List.sum_nil, Nat.reduceAdd, Nat.reduceLeDiff, Value.category, Option.toList, true_or, or_true, z_ua, ↓reduceIte, Nat.reduceEqDiff, eq_self, not_true_eq_false, not_false_eq_true, false_implies, true_implies, Classical.not_not, Nat.le_refl, Nat.zero_le, sK71 hS, sG71_55 hS, sK99 hS, sL99 hS, e2, v2, g2]
  try dsimp only
  refine ⟨fun h' => ?_, fun h' => ret _ (by rw [if_neg h, if_pos h'])⟩
  refine zW_ok hj B239_61 61 _ _ _ _ _ b239_61 ?_
  simp only [B239_61, zW, z_wp1, z_ld, z_f0, z_f1, z_f2, z_f3, List.getElem?_cons_zero, List.getElem?_cons_succ, true_and, and_true, Int32.reduceOfInt, z_i10, z_i01, Int32.reduceLT, Int32.reduceLE, Int32.reduceAdd, Int32.reduceSub, z_set, z_set2, z_kil, List.set_cons_zero, List.set_cons_succ, List.take_succ_cons, List.take_zero, List.drop_succ_cons, List.drop_zero, List.reverse_cons, List.reverse_nil, List.nil_append, List.cons_append, List.getD_cons_succ, List.getD_cons_zero, List.getD_nil, List.length_cons, List.length_nil, List.map_cons, List.map_nil, List.sum_cons, List.sum_nil, Nat.reduceAdd, Nat.reduceLeDiff, Value.category, Option.toList, true_or, or_true, z_ua, ↓reduceIte, Nat.reduceEqDiff, eq_self, not_true_eq_false, not_false_eq_true, false_implies, true_implies, Classical.not_not, Nat.le_refl, Nat.zero_le, sK71 hS, sG71_56 hS, sK100 hS, sL100 hS, e2, v2, g3]
  try dsimp only
  exact ret _ (by rw [if_neg h, if_neg h'])
theorem c239b (hS : SS K L G) (hst : m_st I c F N tr) {s w : Int32} (h : ¬ (m_isF F s ∧ ¬ s = 0 ∧ (0 ≤ w ∧ w ≤ 2))) : z_D l 5 239 [.ref 71, .int s, .int w] (n, K, L, I, J, G) (some (.int (-1))) (n, K, L, m_t I, J, G) := by
  obtain ⟨s1, s2, s3, s4, s5, s6, s7⟩ := (m_sm.t I).st hst
  refine z_ctr (by decide) (by decide +kernel) (Nat.le_of_ble_eq_true rfl) (by decide +kernel) (fun X hl hj hd hm hs hsc hQ => ?_)
  show zV X 0 [some (.ref 71), some (.int s), some (.int w)] [] _ 0 0
  have no : zV X 27 [some (.ref 71), some (.int s), some (.int w)] [] (n, K, L, m_t I, J, G) 0 0 := by
    refine zW_ok hj B239_27 27 _ _ _ _ _ b239_27 ?_
    simp only [B239_27, zW, z_wp1, z_ld, z_f0, z_f1, z_f2, z_f3, List.getElem?_cons_zero, List.getElem?_cons_succ, true_and, and_true, Int32.reduceOfInt, z_i10, z_i01, Int32.reduceLT, Int32.reduceLE, Int32.reduceAdd, Int32.reduceSub, z_set, z_set2, z_kil, List.set_cons_zero, List.set_cons_succ, List.take_succ_cons, List.take_zero, List.drop_succ_cons, List.drop_zero, List.reverse_cons, List.reverse_nil, List.nil_append, List.cons_append, List.getD_cons_succ, List.getD_cons_zero, List.getD_nil, List.length_cons, List.length_nil, List.map_cons, List.map_nil, List.sum_cons, List.sum_nil, Nat.reduceAdd, Nat.reduceLeDiff, Value.category, Option.toList, true_or, or_true, z_ua, ↓reduceIte, Nat.reduceEqDiff, eq_self, not_true_eq_false, not_false_eq_true, false_implies, true_implies, Classical.not_not, Nat.le_refl, Nat.zero_le]
    try dsimp only
    exact hQ _ _ ⟨rfl, rfl⟩
  refine zW_ok hj B239_0 0 _ _ _ _ _ b239_0 ?_
  simp only [B239_0, zW, z_wp1, z_ld, z_f0, z_f1, z_f2, z_f3, List.getElem?_cons_zero, List.getElem?_cons_succ, true_and, and_true, Int32.reduceOfInt, z_i10, z_i01, Int32.reduceLT, Int32.reduceLE, Int32.reduceAdd, Int32.reduceSub, z_set, z_set2, z_kil, List.set_cons_zero, List.set_cons_succ, List.take_succ_cons, List.take_zero, List.drop_succ_cons, List.drop_zero, List.reverse_cons, List.reverse_nil, List.nil_append, List.cons_append, List.getD_cons_succ, List.getD_cons_zero, List.getD_nil, List.length_cons, List.length_nil, List.map_cons, List.map_nil, List.sum_cons, List.sum_nil, Nat.reduceAdd, Nat.reduceLeDiff, Value.category, Option.toList, true_or, or_true, z_ua, ↓reduceIte, Nat.reduceEqDiff, eq_self, not_true_eq_false, not_false_eq_true, false_implies, true_implies, Classical.not_not, Nat.le_refl, Nat.zero_le, sK71 hS]
  try dsimp only
  by_cases h1 : m_isF F s
  · refine z_callD (c201y hS s3 s4 h1) (by omega) (by omega) (by omega) (Nat.le_of_ble_eq_true rfl) ?_
    try simp only [zW, z_wp1, z_ld, z_f0, z_f1, z_f2, z_f3, List.getElem?_cons_zero, List.getElem?_cons_succ, true_and, and_true, Int32.reduceOfInt, z_i10, z_i01, Int32.reduceLT, Int32.reduceLE, Int32.reduceAdd, Int32.reduceSub, z_set, z_set2, z_kil, List.set_cons_zero, List.set_cons_succ, List.take_succ_cons, List.take_zero, List.drop_succ_cons, List.drop_zero, List.reverse_cons, List.reverse_nil, List.nil_append, List.cons_append, List.getD_cons_succ, List.getD_cons_zero, List.getD_nil, List.length_cons, List.length_nil, List.map_cons, List.map_nil, List.sum_cons, List.sum_nil, Nat.reduceAdd, Nat.reduceLeDiff, Value.category, Option.toList, true_or, or_true, z_ua, ↓reduceIte, Nat.reduceEqDiff, eq_self, not_true_eq_false, not_false_eq_true, false_implies, true_implies, Classical.not_not, Nat.le_refl, Nat.zero_le, sK71 hS]
    try dsimp only
    refine ⟨fun _ => no, fun h2 => ?_⟩
    refine z_callD (c160 hS w 0 2) (by omega) (by omega) (by omega) (Nat.le_of_ble_eq_true rfl) ?_
    try simp only [zW, z_wp1, z_ld, z_f0, z_f1, z_f2, z_f3, List.getElem?_cons_zero, List.getElem?_cons_succ, true_and, and_true, Int32.reduceOfInt, z_i10, z_i01, Int32.reduceLT, Int32.reduceLE, Int32.reduceAdd, Int32.reduceSub, z_set, z_set2, z_kil, List.set_cons_zero, List.set_cons_succ, List.take_succ_cons, List.take_zero, List.drop_succ_cons, List.drop_zero, List.reverse_cons, List.reverse_nil, List.nil_append, List.cons_append, List.getD_cons_succ, List.getD_cons_zero, List.getD_nil, List.length_cons, List.length_nil, List.map_cons, List.map_nil, List.sum_cons, List.sum_nil, Nat.reduceAdd, Nat.reduceLeDiff, Value.category, Option.toList, true_or, or_true, z_ua, ↓reduceIte, Nat.reduceEqDiff, eq_self, not_true_eq_false, not_false_eq_true, false_implies, true_implies, Classical.not_not, Nat.le_refl, Nat.zero_le, sK71 hS, z_b_eq]
    try dsimp only
    exact ⟨fun h3 => absurd ⟨h1, h2, h3⟩ h, fun _ => no⟩
  · refine z_callD (c201n hS s3 s4 h1) (by omega) (by omega) (by omega) (Nat.le_of_ble_eq_true rfl) ?_
    try simp only [zW, z_wp1, z_ld, z_f0, z_f1, z_f2, z_f3, List.getElem?_cons_zero, List.getElem?_cons_succ, true_and, and_true, Int32.reduceOfInt, z_i10, z_i01, Int32.reduceLT, Int32.reduceLE, Int32.reduceAdd, Int32.reduceSub, z_set, z_set2, z_kil, List.set_cons_zero, List.set_cons_succ, List.take_succ_cons, List.take_zero, List.drop_succ_cons, List.drop_zero, List.reverse_cons, List.reverse_nil, List.nil_append, List.cons_append, List.getD_cons_succ, List.getD_cons_zero, List.getD_nil, List.length_cons, List.length_nil, List.map_cons, List.map_nil, List.sum_cons, List.sum_nil, Nat.reduceAdd, Nat.reduceLeDiff, Value.category, Option.toList, true_or, or_true, z_ua, ↓reduceIte, Nat.reduceEqDiff, eq_self, not_true_eq_false, not_false_eq_true, false_implies, true_implies, Classical.not_not, Nat.le_refl, Nat.zero_le]
    try dsimp only
    exact no
theorem c240_loop {X : zX} (hS : SS K L G) (hj : X.2.1 = 240) (hN12 : N ≤ 12) {f : Nat} (hf : f < 16) (hy : ∀ i, i < N → I 101 i = ys i ∧ I 97 i = co i) {set w v : Int32} {s0 : Nat} (hs16 : s0 < 2 ^ 16) (hg : ∀ t, t ≠ 0 → t &&& s0 = t → m_kv I t (k_v ys mb co N t)) (hQ : ∀ r h', r = some (.int v) ∧ h' = (n, K, L, I, J, G) → X.2.2.2.2.2.2 r h') : ∀ (k s steps : Nat) (cs asked : Int32) (x8 : Option Value), s ≤ k → s ≠ 0 → s &&& s0 = s → v = k_ans co w (k_pt (k_v ys mb co N) ys f k s) steps cs asked → zV X 48 [some (.ref 71), some (.int set), some (.int (nI f)), some (.int w), some (.int (nI s)), some (.int (nI steps)), some (.int cs), some (.int asked), x8] [] (n, K, L, I, J, G) 0 0 := by
  intro k
  induction k with
  | zero => intro s steps cs asked x8 hk h0; omega
  | succ k ih =>
    intro s steps cs asked x8 hk h0 hsub hv
    have hle : s ≤ s0 := by rw [← hsub]; exact Nat.and_le_right
    obtain ⟨g1, g2, g3⟩ := hg s h0 hsub
    have e2 : (nI s).toNatClampNeg = s := nI_clamp (by omega)
    have v2 : vp_in (nI s) 65536 := vp_in_nI (by omega) (by omega)
    refine zW_ok hj B240_48 48 _ _ _ _ _ b240_48 ?_
    simp only [B240_48, zW, z_wp1, z_ld, z_f0, z_f1, z_f2, z_f3, List.getElem?_cons_zero, List.getElem?_cons_succ, true_and, and_true, Int32.reduceOfInt, z_i10, z_i01, Int32.reduceLT, Int32.reduceLE, Int32.reduceAdd, Int32.reduceSub, z_set, z_set2, z_kil, List.set_cons_zero, List.set_cons_succ, List.take_succ_cons, List.take_zero, List.drop_succ_cons, List.drop_zero, List.reverse_cons, List.reverse_nil, List.nil_append, List.cons_append, List.getD_cons_succ, List.getD_cons_zero, List.getD_nil, List.length_cons, List.length_nil, List.map_cons, List.map_nil, List.sum_cons, List.sum_nil, Nat.reduceAdd, Nat.reduceLeDiff, Value.category, Option.toList, true_or, or_true, z_ua, ↓reduceIte, Nat.reduceEqDiff, eq_self, not_true_eq_false, not_false_eq_true, false_implies, true_implies, Classical.not_not, Nat.le_refl, Nat.zero_le, sK71 hS, sG71_55 hS, sK99 hS, sL99 hS, e2, v2, g2]
    try dsimp only
    refine ⟨fun hend => ?_, fun hgo => ?_⟩
    · rw [k_pt, if_pos hend] at hv
      have ret : ∀ z : Int32, z = v → zV X 175 [some (.ref 71), some (.int set), some (.int (nI f)), some (.int w), some (.int (nI s)), some (.int (nI steps)), some (.int cs), some (.int asked), x8] [.int z] (n, K, L, I, J, G) 0 0 := by
        intro z hz
        subst hz
        refine zW_ok hj B240_175 175 _ _ _ _ _ b240_175 ?_
        simp only [B240_175, zW, z_wp1, z_ld, z_f0, z_f1, z_f2, z_f3, List.getElem?_cons_zero, List.getElem?_cons_succ, true_and, and_true, Int32.reduceOfInt, z_i10, z_i01, Int32.reduceLT, Int32.reduceLE, Int32.reduceAdd, Int32.reduceSub, z_set, z_set2, z_kil, List.set_cons_zero, List.set_cons_succ, List.take_succ_cons, List.take_zero, List.drop_succ_cons, List.drop_zero, List.reverse_cons, List.reverse_nil, List.nil_append, List.cons_append, List.getD_cons_succ, List.getD_cons_zero, List.getD_nil, List.length_cons, List.length_nil, List.map_cons, List.map_nil, List.sum_cons, List.sum_nil, Nat.reduceAdd, Nat.reduceLeDiff, Value.category, Option.toList, true_or, or_true, z_ua, ↓reduceIte, Nat.reduceEqDiff, eq_self, not_true_eq_false, not_false_eq_true, false_implies, true_implies, Classical.not_not, Nat.le_refl, Nat.zero_le]
        try dsimp only
        exact hQ _ _ ⟨rfl, rfl⟩
      simp only [k_ans, List.length_nil, Nat.add_zero, k_sum, m_fa] at hv
      refine zW_ok hj B240_144 144 _ _ _ _ _ b240_144 ?_
      simp only [B240_144, zW, z_wp1, z_ld, z_f0, z_f1, z_f2, z_f3, List.getElem?_cons_zero, List.getElem?_cons_succ, true_and, and_true, Int32.reduceOfInt, z_i10, z_i01, Int32.reduceLT, Int32.reduceLE, Int32.reduceAdd, Int32.reduceSub, z_set, z_set2, z_kil, List.set_cons_zero, List.set_cons_succ, List.take_succ_cons, List.take_zero, List.drop_succ_cons, List.drop_zero, List.reverse_cons, List.reverse_nil, List.nil_append, List.cons_append, List.getD_cons_succ, List.getD_cons_zero, List.getD_nil, List.length_cons, List.length_nil, List.map_cons, List.map_nil, List.sum_cons, List.sum_nil, Nat.reduceAdd, Nat.reduceLeDiff, Value.category, Option.toList, true_or, or_true, z_ua, ↓reduceIte, Nat.reduceEqDiff, eq_self, not_true_eq_false, not_false_eq_true, false_implies, true_implies, Classical.not_not, Nat.le_refl, Nat.zero_le]
      try dsimp only
      refine ⟨fun h => ?_, fun h => ret _ (by rw [hv, if_pos h])⟩
      refine zW_ok hj B240_153 153 _ _ _ _ _ b240_153 ?_
      simp only [B240_153, zW, z_wp1, z_ld, z_f0, z_f1, z_f2, z_f3, List.getElem?_cons_zero, List.getElem?_cons_succ, true_and, and_true, Int32.reduceOfInt, z_i10, z_i01, Int32.reduceLT, Int32.reduceLE, Int32.reduceAdd, Int32.reduceSub, z_set, z_set2, z_kil, List.set_cons_zero, List.set_cons_succ, List.take_succ_cons, List.take_zero, List.drop_succ_cons, List.drop_zero, List.reverse_cons, List.reverse_nil, List.nil_append, List.cons_append, List.getD_cons_succ, List.getD_cons_zero, List.getD_nil, List.length_cons, List.length_nil, List.map_cons, List.map_nil, List.sum_cons, List.sum_nil, Nat.reduceAdd, Nat.reduceLeDiff, Value.category, Option.toList, true_or, or_true, z_ua, ↓reduceIte, Nat.reduceEqDiff, eq_self, not_true_eq_false, not_false_eq_true, false_implies, true_implies, Classical.not_not, Nat.le_refl, Nat.zero_le]
      try dsimp only
      refine ⟨fun h' => ?_, fun h' => ret _ (by rw [hv, if_neg h, if_pos h'])⟩
      refine zW_ok hj B240_163 163 _ _ _ _ _ b240_163 ?_
      simp only [B240_163, zW, z_wp1, z_ld, z_f0, z_f1, z_f2, z_f3, List.getElem?_cons_zero, List.getElem?_cons_succ, true_and, and_true, Int32.reduceOfInt, z_i10, z_i01, Int32.reduceLT, Int32.reduceLE, Int32.reduceAdd, Int32.reduceSub, z_set, z_set2, z_kil, List.set_cons_zero, List.set_cons_succ, List.take_succ_cons, List.take_zero, List.drop_succ_cons, List.drop_zero, List.reverse_cons, List.reverse_nil, List.nil_append, List.cons_append, List.getD_cons_succ, List.getD_cons_zero, List.getD_nil, List.length_cons, List.length_nil, List.map_cons, List.map_nil, List.sum_cons, List.sum_nil, Nat.reduceAdd, Nat.reduceLeDiff, Value.category, Option.toList, true_or, or_true, z_ua, ↓reduceIte, Nat.reduceEqDiff, eq_self, not_true_eq_false, not_false_eq_true, false_implies, true_implies, Classical.not_not, Nat.le_refl, Nat.zero_le]
      try dsimp only
      refine ⟨fun h'' => ?_, fun h'' => ret _ (by rw [hv, if_neg h, if_neg h', if_pos h''])⟩
      refine zW_ok hj B240_173 173 _ _ _ _ _ b240_173 ?_
      simp only [B240_173, zW, z_wp1, z_ld, z_f0, z_f1, z_f2, z_f3, List.getElem?_cons_zero, List.getElem?_cons_succ, true_and, and_true, Int32.reduceOfInt, z_i10, z_i01, Int32.reduceLT, Int32.reduceLE, Int32.reduceAdd, Int32.reduceSub, z_set, z_set2, z_kil, List.set_cons_zero, List.set_cons_succ, List.take_succ_cons, List.take_zero, List.drop_succ_cons, List.drop_zero, List.reverse_cons, List.reverse_nil, List.nil_append, List.cons_append, List.getD_cons_succ, List.getD_cons_zero, List.getD_nil, List.length_cons, List.length_nil, List.map_cons, List.map_nil, List.sum_cons, List.sum_nil, Nat.reduceAdd, Nat.reduceLeDiff, Value.category, Option.toList, true_or, or_true, z_ua, ↓reduceIte, Nat.reduceEqDiff, eq_self, not_true_eq_false, not_false_eq_true, false_implies, true_implies, Classical.not_not, Nat.le_refl, Nat.zero_le]
      try dsimp only
      exact ret _ (by rw [hv, if_neg h, if_neg h', if_neg h''])
    · have hkv := k_v_eq ys mb co N (s := s) (by omega)
      have hask := k_st_ask ys mb co (k_v ys mb co N) (nI s) N
      rw [← hkv] at hask
      obtain ⟨i, hi, ei, hok, -, -⟩ := hask.resolve_left hgo
      obtain ⟨p, q, ep, eq, hp, hq, hp0, hq0, bp, bq⟩ := k_part (by omega) hok
      have e1 : (nI i).toNatClampNeg = i := nI_clamp (by omega)
      have v1 : vp_in (nI i) 12 := vp_in_nI (by omega) (by omega)
      have y1 := (hy i hi).1
      have y2 := (hy i hi).2
      rw [k_pt, if_neg hgo, ei, e1] at hv
      rw [ei]
      have fin : ∀ t asked', (t = p ∨ t = q) → t = k_to ys f i s → asked' = (if w = 10 + nI steps then nI i else asked) → zV X 139 [some (.ref 71), some (.int set), some (.int (nI f)), some (.int w), some (.int (nI s)), some (.int (nI (steps + 1))), some (.int (cs + co i)), some (.int asked'), some (.int (nI i))] [.int (nI t)] (n, K, L, I, J, G) 0 0 := by
        intro t asked' hpq ht ha
        refine zW_ok hj B240_139 139 _ _ _ _ _ b240_139 ?_
        simp only [B240_139, zW, z_wp1, z_ld, z_f0, z_f1, z_f2, z_f3, List.getElem?_cons_zero, List.getElem?_cons_succ, true_and, and_true, Int32.reduceOfInt, z_i10, z_i01, Int32.reduceLT, Int32.reduceLE, Int32.reduceAdd, Int32.reduceSub, z_set, z_set2, z_kil, List.set_cons_zero, List.set_cons_succ, List.take_succ_cons, List.take_zero, List.drop_succ_cons, List.drop_zero, List.reverse_cons, List.reverse_nil, List.nil_append, List.cons_append, List.getD_cons_succ, List.getD_cons_zero, List.getD_nil, List.length_cons, List.length_nil, List.map_cons, List.map_nil, List.sum_cons, List.sum_nil, Nat.reduceAdd, Nat.reduceLeDiff, Value.category, Option.toList, true_or, or_true, z_ua, ↓reduceIte, Nat.reduceEqDiff, eq_self, not_true_eq_false, not_false_eq_true, false_implies, true_implies, Classical.not_not, Nat.le_refl, Nat.zero_le]
        try dsimp only
        have hts : t &&& s0 = t := by
          rw [← nI_sb (by omega) (by omega), zb_sub']
          intro j hj
          have h6 : zb (nI s) j = true := by
            rcases hpq with rfl | rfl
            · rw [bp] at hj; simp at hj; exact hj.1
            · rw [bq] at hj; simp at hj; exact hj.1
          exact zb_sub'.mp ((nI_sb (s := s) (r := s0) (by omega) (by omega)).mpr hsub) j h6
        refine ih t (steps + 1) _ _ _ (by omega) (by omega) hts ?_
        rw [hv, ← ht, ha]
        simp only [k_ans, List.length_cons, k_sum, m_fa]
        rw [show steps + ((k_pt (k_v ys mb co N) ys f k t).1.length + 1) = steps + 1 + (k_pt (k_v ys mb co N) ys f k t).1.length by omega]
      have two : ∀ asked', asked' = (if w = 10 + nI steps then nI i else asked) → zV X 81 [some (.ref 71), some (.int set), some (.int (nI f)), some (.int w), some (.int (nI s)), some (.int (nI steps)), some (.int cs), some (.int asked'), some (.int (nI i))] [] (n, K, L, I, J, G) 0 0 := by
        intro asked' ha
        refine zW_ok hj B240_81 81 _ _ _ _ _ b240_81 ?_
        simp only [B240_81, zW, z_wp1, z_ld, z_f0, z_f1, z_f2, z_f3, List.getElem?_cons_zero, List.getElem?_cons_succ, true_and, and_true, Int32.reduceOfInt, z_i10, z_i01, Int32.reduceLT, Int32.reduceLE, Int32.reduceAdd, Int32.reduceSub, z_set, z_set2, z_kil, List.set_cons_zero, List.set_cons_succ, List.take_succ_cons, List.take_zero, List.drop_succ_cons, List.drop_zero, List.reverse_cons, List.reverse_nil, List.nil_append, List.cons_append, List.getD_cons_succ, List.getD_cons_zero, List.getD_nil, List.length_cons, List.length_nil, List.map_cons, List.map_nil, List.sum_cons, List.sum_nil, Nat.reduceAdd, Nat.reduceLeDiff, Value.category, Option.toList, true_or, or_true, z_ua, ↓reduceIte, Nat.reduceEqDiff, eq_self, not_true_eq_false, not_false_eq_true, false_implies, true_implies, Classical.not_not, Nat.le_refl, Nat.zero_le, sK71 hS, sG71_53 hS, sK97 hS, sL97 hS, sG71_57 hS, sK101 hS, sL101 hS, e1, v1, y1, y2, nI_1, ep]
        try dsimp only
        refine ⟨fun h => ?_, fun h => fin p _ (Or.inl rfl) (by rw [k_to, if_pos h, ep, nI_clamp (by omega)]) ha⟩
        refine zW_ok hj B240_127 127 _ _ _ _ _ b240_127 ?_
        simp only [B240_127, zW, z_wp1, z_ld, z_f0, z_f1, z_f2, z_f3, List.getElem?_cons_zero, List.getElem?_cons_succ, true_and, and_true, Int32.reduceOfInt, z_i10, z_i01, Int32.reduceLT, Int32.reduceLE, Int32.reduceAdd, Int32.reduceSub, z_set, z_set2, z_kil, List.set_cons_zero, List.set_cons_succ, List.take_succ_cons, List.take_zero, List.drop_succ_cons, List.drop_zero, List.reverse_cons, List.reverse_nil, List.nil_append, List.cons_append, List.getD_cons_succ, List.getD_cons_zero, List.getD_nil, List.length_cons, List.length_nil, List.map_cons, List.map_nil, List.sum_cons, List.sum_nil, Nat.reduceAdd, Nat.reduceLeDiff, Value.category, Option.toList, true_or, or_true, z_ua, ↓reduceIte, Nat.reduceEqDiff, eq_self, not_true_eq_false, not_false_eq_true, false_implies, true_implies, Classical.not_not, Nat.le_refl, Nat.zero_le, sK71 hS, sG71_57 hS, sK101 hS, sL101 hS, e1, v1, y1, eq]
        try dsimp only
        exact fin q _ (Or.inr rfl) (by rw [k_to, if_neg h, eq, nI_clamp (by omega)]) ha
      exact ⟨fun h => two _ (if_neg h).symm, fun h => two _ (if_pos h).symm⟩
theorem c240a (hS : SS K L G) (hst : m_st I c F N tr) {w : Int32} {f : Nat} (hf : f < F) (hs16 : s < 2 ^ F) (hfs : zb (nI s) f = true) : z_Ctr l 5 240 [.ref 71, .int (nI s), .int (nI f), .int w] (n, K, L, I, J, G) 0 0 (fun r h' => r = some (.int (k_ans (I 97) w (k_pt (mKV I c F N tr) (mYs I c F tr 1) f s s) 0 0 (-1))) ∧ ∃ I', h' = (n, K, L, I', J, G) ∧ mF I I') := by
  have hst' := (m_sm.t I).st hst
  obtain ⟨s1, s2, s3, s4, s5, s6, s7⟩ := id hst'
  have hp := z_powF s4
  have hs0 : s ≠ 0 := by
    intro e
    rw [e, nI_0, zb_0] at hfs
    cases hfs
  have hb : ¬ nI s >>> (nI f &&& 31) &&& 1 = 0 := by
    rw [zb_get0 (by omega), hfs]
    decide
  have hfF : (0 : Int32) ≤ nI f ∧ nI f < nI F := ⟨nI_pos' (by omega), nI_lt hf (by omega)⟩
  refine z_ctr (by decide) (by decide +kernel) (Nat.le_of_ble_eq_true rfl) (by decide +kernel) (fun X hl hj hd hm hs hsc hQ => ?_)
  show zV X 0 [some (.ref 71), some (.int (nI s)), some (.int (nI f)), some (.int w), none, none, none, none, none] [] _ 0 0
  refine zW_ok hj B240_0 0 _ _ _ _ _ b240_0 ?_
  simp only [B240_0, zW, z_wp1, z_ld, z_f0, z_f1, z_f2, z_f3, List.getElem?_cons_zero, List.getElem?_cons_succ, true_and, and_true, Int32.reduceOfInt, z_i10, z_i01, Int32.reduceLT, Int32.reduceLE, Int32.reduceAdd, Int32.reduceSub, z_set, z_set2, z_kil, List.set_cons_zero, List.set_cons_succ, List.take_succ_cons, List.take_zero, List.drop_succ_cons, List.drop_zero, List.reverse_cons, List.reverse_nil, List.nil_append, List.cons_append, List.getD_cons_succ, List.getD_cons_zero, List.getD_nil, List.length_cons, List.length_nil, List.map_cons, List.map_nil, List.sum_cons, List.sum_nil, Nat.reduceAdd, Nat.reduceLeDiff, Value.category, Option.toList, true_or, or_true, z_ua, ↓reduceIte, Nat.reduceEqDiff, eq_self, not_true_eq_false, not_false_eq_true, false_implies, true_implies, Classical.not_not, Nat.le_refl, Nat.zero_le, sK71 hS]
  try dsimp only
  refine z_callD (c201y hS s3 s4 ⟨nI_pos' (by omega), nI_lt hs16 (by omega)⟩) (by omega) (by omega) (by omega) (Nat.le_of_ble_eq_true rfl) ?_
  try simp only [zW, z_wp1, z_ld, z_f0, z_f1, z_f2, z_f3, List.getElem?_cons_zero, List.getElem?_cons_succ, true_and, and_true, Int32.reduceOfInt, z_i10, z_i01, Int32.reduceLT, Int32.reduceLE, Int32.reduceAdd, Int32.reduceSub, z_set, z_set2, z_kil, List.set_cons_zero, List.set_cons_succ, List.take_succ_cons, List.take_zero, List.drop_succ_cons, List.drop_zero, List.reverse_cons, List.reverse_nil, List.nil_append, List.cons_append, List.getD_cons_succ, List.getD_cons_zero, List.getD_nil, List.length_cons, List.length_nil, List.map_cons, List.map_nil, List.sum_cons, List.sum_nil, Nat.reduceAdd, Nat.reduceLeDiff, Value.category, Option.toList, true_or, or_true, z_ua, ↓reduceIte, Nat.reduceEqDiff, eq_self, not_true_eq_false, not_false_eq_true, false_implies, true_implies, Classical.not_not, Nat.le_refl, Nat.zero_le, sK71 hS]
  try dsimp only
  have hc161 := c161 (l := X.1) (n := n) (I := m_t I) (J := J) hS (nI f)
  rw [s3, z_b1 hfF] at hc161
  refine z_callD (hc161) (by omega) (by omega) (by omega) (Nat.le_of_ble_eq_true rfl) ?_
  try simp only [zW, z_wp1, z_ld, z_f0, z_f1, z_f2, z_f3, List.getElem?_cons_zero, List.getElem?_cons_succ, true_and, and_true, Int32.reduceOfInt, z_i10, z_i01, Int32.reduceLT, Int32.reduceLE, Int32.reduceAdd, Int32.reduceSub, z_set, z_set2, z_kil, List.set_cons_zero, List.set_cons_succ, List.take_succ_cons, List.take_zero, List.drop_succ_cons, List.drop_zero, List.reverse_cons, List.reverse_nil, List.nil_append, List.cons_append, List.getD_cons_succ, List.getD_cons_zero, List.getD_nil, List.length_cons, List.length_nil, List.map_cons, List.map_nil, List.sum_cons, List.sum_nil, Nat.reduceAdd, Nat.reduceLeDiff, Value.category, Option.toList, true_or, or_true, z_ua, ↓reduceIte, Nat.reduceEqDiff, eq_self, not_true_eq_false, not_false_eq_true, false_implies, true_implies, Classical.not_not, Nat.le_refl, Nat.zero_le, sK71 hS, hb]
  try dsimp only
  refine zW_ok hj B240_31 31 _ _ _ _ _ b240_31 ?_
  simp only [B240_31, zW, z_wp1, z_ld, z_f0, z_f1, z_f2, z_f3, List.getElem?_cons_zero, List.getElem?_cons_succ, true_and, and_true, Int32.reduceOfInt, z_i10, z_i01, Int32.reduceLT, Int32.reduceLE, Int32.reduceAdd, Int32.reduceSub, z_set, z_set2, z_kil, List.set_cons_zero, List.set_cons_succ, List.take_succ_cons, List.take_zero, List.drop_succ_cons, List.drop_zero, List.reverse_cons, List.reverse_nil, List.nil_append, List.cons_append, List.getD_cons_succ, List.getD_cons_zero, List.getD_nil, List.length_cons, List.length_nil, List.map_cons, List.map_nil, List.sum_cons, List.sum_nil, Nat.reduceAdd, Nat.reduceLeDiff, Value.category, Option.toList, true_or, or_true, z_ua, ↓reduceIte, Nat.reduceEqDiff, eq_self, not_true_eq_false, not_false_eq_true, false_implies, true_implies, Classical.not_not, Nat.le_refl, Nat.zero_le, sK71 hS]
  try dsimp only
  refine z_callQ (c238 (I := m_t I) (s := s) hS hst' (by omega)) (by omega) (by omega) (by omega) (Nat.le_of_ble_eq_true rfl) ?_
  rintro r h' ⟨rfl, I', rfl, ho, h0, h1⟩
  have hF := (mF.t I).tr ho.F
  simp only [zW, z_wp1, z_ld, z_f0, z_f1, z_f2, z_f3, List.getElem?_cons_zero, List.getElem?_cons_succ, true_and, and_true, Int32.reduceOfInt, z_i10, z_i01, Int32.reduceLT, Int32.reduceLE, Int32.reduceAdd, Int32.reduceSub, z_set, z_set2, z_kil, List.set_cons_zero, List.set_cons_succ, List.take_succ_cons, List.take_zero, List.drop_succ_cons, List.drop_zero, List.reverse_cons, List.reverse_nil, List.nil_append, List.cons_append, List.getD_cons_succ, List.getD_cons_zero, List.getD_nil, List.length_cons, List.length_nil, List.map_cons, List.map_nil, List.sum_cons, List.sum_nil, Nat.reduceAdd, Nat.reduceLeDiff, Value.category, Option.toList, true_or, or_true, z_ua, ↓reduceIte, Nat.reduceEqDiff, eq_self, not_true_eq_false, not_false_eq_true, false_implies, true_implies, Classical.not_not, Nat.le_refl, Nat.zero_le]
  try dsimp only
  exact c240_loop (I := I') (ys := mYs I c F tr 1) (mb := mYs I c F tr 2) (co := I 97) (N := N) hS hj s6 (show f < 16 by omega) (fun i hi => ⟨h0 i hi, by rw [ho 97 (by decide) (by decide) (by decide) (by decide) (by decide) (by decide) (by decide)]; rfl⟩) (s0 := s) (by omega) h1 (fun r h' q => hQ _ _ ⟨q.1, I', q.2, hF⟩) s s 0 0 (-1) _ (Nat.le_refl _) hs0 (by simp) rfl
theorem c240b (hS : SS K L G) (hst : m_st I c F N tr) {s f w : Int32} (h : ¬ (m_isF F s ∧ (0 ≤ f ∧ f < nI F) ∧ ¬ s >>> (f &&& 31) &&& 1 = 0)) : z_D l 5 240 [.ref 71, .int s, .int f, .int w] (n, K, L, I, J, G) (some (.int (-1))) (n, K, L, m_t I, J, G) := by
  obtain ⟨s1, s2, s3, s4, s5, s6, s7⟩ := (m_sm.t I).st hst
  refine z_ctr (by decide) (by decide +kernel) (Nat.le_of_ble_eq_true rfl) (by decide +kernel) (fun X hl hj hd hm hs hsc hQ => ?_)
  show zV X 0 [some (.ref 71), some (.int s), some (.int f), some (.int w), none, none, none, none, none] [] _ 0 0
  have no : zV X 29 [some (.ref 71), some (.int s), some (.int f), some (.int w), none, none, none, none, none] [] (n, K, L, m_t I, J, G) 0 0 := by
    refine zW_ok hj B240_29 29 _ _ _ _ _ b240_29 ?_
    simp only [B240_29, zW, z_wp1, z_ld, z_f0, z_f1, z_f2, z_f3, List.getElem?_cons_zero, List.getElem?_cons_succ, true_and, and_true, Int32.reduceOfInt, z_i10, z_i01, Int32.reduceLT, Int32.reduceLE, Int32.reduceAdd, Int32.reduceSub, z_set, z_set2, z_kil, List.set_cons_zero, List.set_cons_succ, List.take_succ_cons, List.take_zero, List.drop_succ_cons, List.drop_zero, List.reverse_cons, List.reverse_nil, List.nil_append, List.cons_append, List.getD_cons_succ, List.getD_cons_zero, List.getD_nil, List.length_cons, List.length_nil, List.map_cons, List.map_nil, List.sum_cons, List.sum_nil, Nat.reduceAdd, Nat.reduceLeDiff, Value.category, Option.toList, true_or, or_true, z_ua, ↓reduceIte, Nat.reduceEqDiff, eq_self, not_true_eq_false, not_false_eq_true, false_implies, true_implies, Classical.not_not, Nat.le_refl, Nat.zero_le]
    try dsimp only
    exact hQ _ _ ⟨rfl, rfl⟩
  refine zW_ok hj B240_0 0 _ _ _ _ _ b240_0 ?_
  simp only [B240_0, zW, z_wp1, z_ld, z_f0, z_f1, z_f2, z_f3, List.getElem?_cons_zero, List.getElem?_cons_succ, true_and, and_true, Int32.reduceOfInt, z_i10, z_i01, Int32.reduceLT, Int32.reduceLE, Int32.reduceAdd, Int32.reduceSub, z_set, z_set2, z_kil, List.set_cons_zero, List.set_cons_succ, List.take_succ_cons, List.take_zero, List.drop_succ_cons, List.drop_zero, List.reverse_cons, List.reverse_nil, List.nil_append, List.cons_append, List.getD_cons_succ, List.getD_cons_zero, List.getD_nil, List.length_cons, List.length_nil, List.map_cons, List.map_nil, List.sum_cons, List.sum_nil, Nat.reduceAdd, Nat.reduceLeDiff, Value.category, Option.toList, true_or, or_true, z_ua, ↓reduceIte, Nat.reduceEqDiff, eq_self, not_true_eq_false, not_false_eq_true, false_implies, true_implies, Classical.not_not, Nat.le_refl, Nat.zero_le, sK71 hS]
  try dsimp only
  by_cases h1 : m_isF F s
  · refine z_callD (c201y hS s3 s4 h1) (by omega) (by omega) (by omega) (Nat.le_of_ble_eq_true rfl) ?_
    try simp only [zW, z_wp1, z_ld, z_f0, z_f1, z_f2, z_f3, List.getElem?_cons_zero, List.getElem?_cons_succ, true_and, and_true, Int32.reduceOfInt, z_i10, z_i01, Int32.reduceLT, Int32.reduceLE, Int32.reduceAdd, Int32.reduceSub, z_set, z_set2, z_kil, List.set_cons_zero, List.set_cons_succ, List.take_succ_cons, List.take_zero, List.drop_succ_cons, List.drop_zero, List.reverse_cons, List.reverse_nil, List.nil_append, List.cons_append, List.getD_cons_succ, List.getD_cons_zero, List.getD_nil, List.length_cons, List.length_nil, List.map_cons, List.map_nil, List.sum_cons, List.sum_nil, Nat.reduceAdd, Nat.reduceLeDiff, Value.category, Option.toList, true_or, or_true, z_ua, ↓reduceIte, Nat.reduceEqDiff, eq_self, not_true_eq_false, not_false_eq_true, false_implies, true_implies, Classical.not_not, Nat.le_refl, Nat.zero_le, sK71 hS]
    try dsimp only
    have hc161 := c161 (l := X.1) (n := n) (I := m_t I) (J := J) hS f
    rw [s3] at hc161
    refine z_callD (hc161) (by omega) (by omega) (by omega) (Nat.le_of_ble_eq_true rfl) ?_
    try simp only [zW, z_wp1, z_ld, z_f0, z_f1, z_f2, z_f3, List.getElem?_cons_zero, List.getElem?_cons_succ, true_and, and_true, Int32.reduceOfInt, z_i10, z_i01, Int32.reduceLT, Int32.reduceLE, Int32.reduceAdd, Int32.reduceSub, z_set, z_set2, z_kil, List.set_cons_zero, List.set_cons_succ, List.take_succ_cons, List.take_zero, List.drop_succ_cons, List.drop_zero, List.reverse_cons, List.reverse_nil, List.nil_append, List.cons_append, List.getD_cons_succ, List.getD_cons_zero, List.getD_nil, List.length_cons, List.length_nil, List.map_cons, List.map_nil, List.sum_cons, List.sum_nil, Nat.reduceAdd, Nat.reduceLeDiff, Value.category, Option.toList, true_or, or_true, z_ua, ↓reduceIte, Nat.reduceEqDiff, eq_self, not_true_eq_false, not_false_eq_true, false_implies, true_implies, Classical.not_not, Nat.le_refl, Nat.zero_le, sK71 hS, z_b_eq]
    try dsimp only
    exact ⟨fun _ => no, fun h2 => ⟨fun h3 => absurd ⟨h1, h2, h3⟩ h, fun _ => no⟩⟩
  · refine z_callD (c201n hS s3 s4 h1) (by omega) (by omega) (by omega) (Nat.le_of_ble_eq_true rfl) ?_
    try simp only [zW, z_wp1, z_ld, z_f0, z_f1, z_f2, z_f3, List.getElem?_cons_zero, List.getElem?_cons_succ, true_and, and_true, Int32.reduceOfInt, z_i10, z_i01, Int32.reduceLT, Int32.reduceLE, Int32.reduceAdd, Int32.reduceSub, z_set, z_set2, z_kil, List.set_cons_zero, List.set_cons_succ, List.take_succ_cons, List.take_zero, List.drop_succ_cons, List.drop_zero, List.reverse_cons, List.reverse_nil, List.nil_append, List.cons_append, List.getD_cons_succ, List.getD_cons_zero, List.getD_nil, List.length_cons, List.length_nil, List.map_cons, List.map_nil, List.sum_cons, List.sum_nil, Nat.reduceAdd, Nat.reduceLeDiff, Value.category, Option.toList, true_or, or_true, z_ua, ↓reduceIte, Nat.reduceEqDiff, eq_self, not_true_eq_false, not_false_eq_true, false_implies, true_implies, Classical.not_not, Nat.le_refl, Nat.zero_le]
    try dsimp only
    exact no
end KEY3
