/-! The public methods: a rule, following rules -/
section PUBL3
variable {l : Launch} {n : Nat} {K L : Nat → Nat} {I : Nat → Nat → Int32} {J : Nat → Nat → Int64} {G : Nat → Nat → Value} {M : Nat → Nat → Int32} {c F N : Nat} {tr : Nat → (Int32 → Int32) → Int32} {cd : Nat} {D : Nat → Nat} {ch rr : Nat}
theorem m_nth_map {RL : List (Int32 × Int32)} {f : Int32 × Int32 → Int32} {i w : Int32} (h : ∀ r ∈ RL, f r = if w = 0 then r.1 else r.2) : m_nth (RL.map f) i = m_rule RL i w := by
  unfold m_nth m_rule
  rw [List.length_map]
  by_cases z : 0 ≤ i ∧ i < nI RL.length
  · rw [if_pos z, if_pos z]
    by_cases y : i.toNatClampNeg < RL.length
    · have e : RL[i.toNatClampNeg]? = some (RL[i.toNatClampNeg]'y) := List.getElem?_eq_getElem y
      rw [List.getD_eq_getElem?_getD, List.getD_eq_getElem?_getD, List.getElem?_map, e]
      have := h _ (List.getElem_mem y)
      by_cases w0 : w = 0
      · rw [if_pos w0] at this ⊢
        exact this
      · rw [if_neg w0] at this ⊢
        exact this
    · have e : RL[i.toNatClampNeg]? = none := List.getElem?_eq_none (by omega)
      rw [List.getD_eq_getElem?_getD, List.getD_eq_getElem?_getD, List.getElem?_map, e]
      simp
  · rw [if_neg z, if_neg z]
/-- the class's rules -/
theorem x_XR (hx : XI n K L I J G M c F N tr cd D ch rr) {lp b : Nat} {mode : Int32} (hl : x_lpb lp b mode) (h5 : I lp 5 = nI ch) (h9 : I lp 9 = nI ch) : XR I lp (D b) (D (b + 3)) (L (D b)) (L (D (b + 2))) (m_rl nI (x_cl M c F N tr mode) (2 ^ N)) := by
  obtain ⟨-, -, y3, y4⟩ := hx.lt hl
  obtain ⟨i0, i1, i2, i3, i4, il⟩ := y3 h5
  obtain ⟨-, j2, j3, j4⟩ := y4 h9
  have hle := m_rl_len nI (x_cl M c F N tr mode) (2 ^ N)
  refine ⟨j3, by omega, fun t r ht => ?_⟩
  obtain ⟨u, hu, -, e⟩ := (m_rl_mem _ r _).mp (List.mem_of_getElem? ht)
  refine ⟨u, by omega, ?_, by rw [e], by rw [e, i3 u hu]⟩
  rw [j4 t r.1 (by rw [List.getElem?_map, ht]; rfl), e]
/-- rule -/
theorem d133a (hx : XI n K L I J G M c F N tr cd D ch rr) (hr : rr < 600) {mode i w : Int32} (hmd : mode = 0 ∨ mode = 1) (hw : 0 ≤ w ∧ w ≤ 1) : ∃ mc ms, (mc ≤ 4 ∧ ms ≤ 400000) ∧ z_Ctr l 8 133 [.ref 5, .int mode, .int i, .int w] (n, K, L, I, J, G) mc ms (x_po n I J M c F N tr (rr + 1) (x_u L D + ms) (.int (m_rule (m_rl (mS N) (mC M c F N tr mode) (2 ^ N)) i w))) := by
  have hS : SS K L G := hx.S
  obtain ⟨f1, f2, f3, f4⟩ := hx.fn
  obtain ⟨lp, b, hlb⟩ := x_lpb.of hmd
  have n1 : ¬ w < 0 := Int32.not_lt.mpr hw.1
  have n2 : w ≤ 1 := hw.2
  have hin := m_rl_in (N := N) (by omega) (fun s hs => (x_clb M c F tr mode f4 s hs).1) (2 ^ N)
  have hrl := b_rl (N := N) (by omega) (x_clb M c F tr mode f4) (2 ^ N) (Nat.le_refl _)
  refine ⟨2 * x_g30 L I D lp b N ch + 2 * x_g33 L I D lp b N ch, 2 * 2 ^ N * x_g30 L I D lp b N ch + 2 * 2 ^ N * x_g33 L I D lp b N ch, ⟨by have := x_g30_le L I D lp b N ch; have := x_g33_le L I D lp b N ch; omega, by rw [Nat.mul_assoc, Nat.mul_assoc]; have := z_pwg hx.fn.2.2.2 (x_g30_le L I D lp b N ch); have := z_pwg hx.fn.2.2.2 (x_g33_le L I D lp b N ch); omega⟩, ?_⟩
  refine z_ctr (by decide) (by decide +kernel) (Nat.le_of_ble_eq_true rfl) (by decide +kernel) (fun X hl hj hd hm hs hsc hQ => ?_)
  show zV X 0 [some (.ref 5), some (.int mode), some (.int i), some (.int w), none] [] _ 0 0
  subst hl
  refine zW_ok hj B133_0 0 _ _ _ _ _ b133_0 ?_
  simp only [B133_0, zW, z_wp1, z_ld, z_f0, z_f1, z_f2, z_f3, List.getElem?_cons_zero, List.getElem?_cons_succ, true_and, and_true, Int32.reduceOfInt, z_i10, z_i01, Int32.reduceLT, Int32.reduceLE, Int32.reduceAdd, Int32.reduceSub, z_set, z_set2, z_kil, List.set_cons_zero, List.set_cons_succ, List.take_succ_cons, List.take_zero, List.drop_succ_cons, List.drop_zero, List.reverse_cons, List.reverse_nil, List.nil_append, List.cons_append, List.getD_cons_succ, List.getD_cons_zero, List.getD_nil, List.length_cons, List.length_nil, List.map_cons, List.map_nil, List.sum_cons, List.sum_nil, Nat.reduceAdd, Nat.reduceLeDiff, Value.category, Option.toList, true_or, or_true, z_ua, ↓reduceIte, Nat.reduceEqDiff, eq_self, not_true_eq_false, not_false_eq_true, false_implies, true_implies, Classical.not_not, Nat.le_refl, Nat.zero_le]
  try dsimp only
  refine z_callD (c155 (h := (n, K, L, I, J, G)) mode) (by omega) (by omega) (by omega) (Nat.le_of_ble_eq_true rfl) ?_
  try simp only [zW, z_wp1, z_ld, z_f0, z_f1, z_f2, z_f3, List.getElem?_cons_zero, List.getElem?_cons_succ, true_and, and_true, Int32.reduceOfInt, z_i10, z_i01, Int32.reduceLT, Int32.reduceLE, Int32.reduceAdd, Int32.reduceSub, z_set, z_set2, z_kil, List.set_cons_zero, List.set_cons_succ, List.take_succ_cons, List.take_zero, List.drop_succ_cons, List.drop_zero, List.reverse_cons, List.reverse_nil, List.nil_append, List.cons_append, List.getD_cons_succ, List.getD_cons_zero, List.getD_nil, List.length_cons, List.length_nil, List.map_cons, List.map_nil, List.sum_cons, List.sum_nil, Nat.reduceAdd, Nat.reduceLeDiff, Value.category, Option.toList, true_or, or_true, z_ua, ↓reduceIte, Nat.reduceEqDiff, eq_self, not_true_eq_false, not_false_eq_true, false_implies, true_implies, Classical.not_not, Nat.le_refl, Nat.zero_le, z_b1 hmd, n1, n2]
  try dsimp only
  refine zW_ok hj B133_18 18 _ _ _ _ _ b133_18 ?_
  simp only [B133_18, zW, z_wp1, z_ld, z_f0, z_f1, z_f2, z_f3, List.getElem?_cons_zero, List.getElem?_cons_succ, true_and, and_true, Int32.reduceOfInt, z_i10, z_i01, Int32.reduceLT, Int32.reduceLE, Int32.reduceAdd, Int32.reduceSub, z_set, z_set2, z_kil, List.set_cons_zero, List.set_cons_succ, List.take_succ_cons, List.take_zero, List.drop_succ_cons, List.drop_zero, List.reverse_cons, List.reverse_nil, List.nil_append, List.cons_append, List.getD_cons_succ, List.getD_cons_zero, List.getD_nil, List.length_cons, List.length_nil, List.map_cons, List.map_nil, List.sum_cons, List.sum_nil, Nat.reduceAdd, Nat.reduceLeDiff, Value.category, Option.toList, true_or, or_true, z_ua, ↓reduceIte, Nat.reduceEqDiff, eq_self, not_true_eq_false, not_false_eq_true, false_implies, true_implies, Classical.not_not, Nat.le_refl, Nat.zero_le, sK5 hS]
  try dsimp only
  refine z_callA (d151 (l := X.1) hx hlb) (by omega) (by omega) (by omega) (Nat.le_of_ble_eq_true rfl) ?_
  rintro r h' ⟨rfl, n', K', L', I', J', G', D', rfl, hx', u1, u2, u3, u4, u5⟩
  obtain ⟨hL, hL2⟩ := hx'.1.2.2.2.1.XL hx'.S hlb
  have q1 := hL.1
  obtain ⟨i0, i1, i2, i3, i4, il⟩ := (hx'.lt hlb).2.2.1 u4
  obtain ⟨-, j2, j3, j4⟩ := (hx'.lt hlb).2.2.2 u5
  have hle := m_rl_len nI (x_cl M c F N tr mode) (2 ^ N)
  have j3' : I' lp 8 = nI ((m_rl nI (x_cl M c F N tr mode) (2 ^ N)).map Prod.fst).length := by rw [List.length_map]; exact j3
  have hle' : ((m_rl nI (x_cl M c F N tr mode) (2 ^ N)).map Prod.fst).length ≤ L' (D' (b + 2)) := by rw [List.length_map]; omega
  have fin : x_po n I J M c F N tr (rr + 1) (x_u L D + (2 * 2 ^ N * x_g30 L I D lp b N ch + 2 * 2 ^ N * x_g33 L I D lp b N ch)) (.int (m_rule (m_rl (mS N) (mC M c F N tr mode) (2 ^ N)) i w)) (some (.int (m_rule (m_rl (mS N) (mC M c F N tr mode) (2 ^ N)) i w))) (n', K', L', I', J', G') := ⟨rfl, n', K', L', I', J', G', cd, D', ch, rfl, hx'.up hr, u1, u2, u3⟩
  by_cases h0 : w = 0
  · have e : m_nth (((m_rl nI (x_cl M c F N tr mode) (2 ^ N)).map Prod.fst).map (fun s => x_bw s N)) i = m_rule (m_rl (mS N) (mC M c F N tr mode) (2 ^ N)) i w := by
      rw [hrl, List.map_map, List.map_map]
      refine m_nth_map (fun r hr => ?_)
      rw [if_pos h0]
      exact b_inv (by omega) (hin r hr).1
    simp only [zW, z_wp1, z_ld, z_f0, z_f1, z_f2, z_f3, List.getElem?_cons_zero, List.getElem?_cons_succ, true_and, and_true, Int32.reduceOfInt, z_i10, z_i01, Int32.reduceLT, Int32.reduceLE, Int32.reduceAdd, Int32.reduceSub, z_set, z_set2, z_kil, List.set_cons_zero, List.set_cons_succ, List.take_succ_cons, List.take_zero, List.drop_succ_cons, List.drop_zero, List.reverse_cons, List.reverse_nil, List.nil_append, List.cons_append, List.getD_cons_succ, List.getD_cons_zero, List.getD_nil, List.length_cons, List.length_nil, List.map_cons, List.map_nil, List.sum_cons, List.sum_nil, Nat.reduceAdd, Nat.reduceLeDiff, Value.category, Option.toList, true_or, or_true, z_ua, ↓reduceIte, Nat.reduceEqDiff, eq_self, not_true_eq_false, not_false_eq_true, false_implies, true_implies, Classical.not_not, Nat.le_refl, Nat.zero_le, h0, q1]
    try dsimp only
    refine z_callD (c37 (l := X.1) (n := n') (J := J') q1 hL2 f4 i0 j3' j4 hle' i) (by omega) (by omega) (by omega) (Nat.le_of_ble_eq_true rfl) ?_
    try simp only [zW, z_wp1, z_ld, z_f0, z_f1, z_f2, z_f3, List.getElem?_cons_zero, List.getElem?_cons_succ, true_and, and_true, Int32.reduceOfInt, z_i10, z_i01, Int32.reduceLT, Int32.reduceLE, Int32.reduceAdd, Int32.reduceSub, z_set, z_set2, z_kil, List.set_cons_zero, List.set_cons_succ, List.take_succ_cons, List.take_zero, List.drop_succ_cons, List.drop_zero, List.reverse_cons, List.reverse_nil, List.nil_append, List.cons_append, List.getD_cons_succ, List.getD_cons_zero, List.getD_nil, List.length_cons, List.length_nil, List.map_cons, List.map_nil, List.sum_cons, List.sum_nil, Nat.reduceAdd, Nat.reduceLeDiff, Value.category, Option.toList, true_or, or_true, z_ua, ↓reduceIte, Nat.reduceEqDiff, eq_self, not_true_eq_false, not_false_eq_true, false_implies, true_implies, Classical.not_not, Nat.le_refl, Nat.zero_le]
    try dsimp only
    refine zW_ok hj B133_44 44 _ _ _ _ _ b133_44 ?_
    simp only [B133_44, zW, z_wp1, z_ld, z_f0, z_f1, z_f2, z_f3, List.getElem?_cons_zero, List.getElem?_cons_succ, true_and, and_true, Int32.reduceOfInt, z_i10, z_i01, Int32.reduceLT, Int32.reduceLE, Int32.reduceAdd, Int32.reduceSub, z_set, z_set2, z_kil, List.set_cons_zero, List.set_cons_succ, List.take_succ_cons, List.take_zero, List.drop_succ_cons, List.drop_zero, List.reverse_cons, List.reverse_nil, List.nil_append, List.cons_append, List.getD_cons_succ, List.getD_cons_zero, List.getD_nil, List.length_cons, List.length_nil, List.map_cons, List.map_nil, List.sum_cons, List.sum_nil, Nat.reduceAdd, Nat.reduceLeDiff, Value.category, Option.toList, true_or, or_true, z_ua, ↓reduceIte, Nat.reduceEqDiff, eq_self, not_true_eq_false, not_false_eq_true, false_implies, true_implies, Classical.not_not, Nat.le_refl, Nat.zero_le]
    try dsimp only
    rw [e]
    exact hQ _ _ fin
  · have e : m_nth (((m_rl nI (x_cl M c F N tr mode) (2 ^ N)).map Prod.fst).map (fun s => x_bw (x_cl M c F N tr mode s) N)) i = m_rule (m_rl (mS N) (mC M c F N tr mode) (2 ^ N)) i w := by
      rw [hrl, List.map_map, List.map_map]
      refine m_nth_map (fun r hr => ?_)
      obtain ⟨r1, r2, r3⟩ := hin r hr
      rw [if_neg h0]
      show x_bw (x_cl M c F N tr mode (x_bw r.1 N)) N = r.2
      rw [(x_clb M c F tr mode f4 r.1 r1).2, ← r3, b_inv (by omega) r2]
    have h3 : ∀ s ∈ (m_rl nI (x_cl M c F N tr mode) (2 ^ N)).map Prod.fst, ∃ u, u < L' (D' b) ∧ s = nI u ∧ I' (D' b) u = x_cl M c F N tr mode s := fun s hs' => by
      obtain ⟨r, hr', rfl⟩ := List.mem_map.mp hs'
      obtain ⟨u, hu, -, e⟩ := (m_rl_mem _ r _).mp hr'
      exact ⟨u, by omega, by rw [e], by rw [e, i3 u hu]⟩
    simp only [zW, z_wp1, z_ld, z_f0, z_f1, z_f2, z_f3, List.getElem?_cons_zero, List.getElem?_cons_succ, true_and, and_true, Int32.reduceOfInt, z_i10, z_i01, Int32.reduceLT, Int32.reduceLE, Int32.reduceAdd, Int32.reduceSub, z_set, z_set2, z_kil, List.set_cons_zero, List.set_cons_succ, List.take_succ_cons, List.take_zero, List.drop_succ_cons, List.drop_zero, List.reverse_cons, List.reverse_nil, List.nil_append, List.cons_append, List.getD_cons_succ, List.getD_cons_zero, List.getD_nil, List.length_cons, List.length_nil, List.map_cons, List.map_nil, List.sum_cons, List.sum_nil, Nat.reduceAdd, Nat.reduceLeDiff, Value.category, Option.toList, true_or, or_true, z_ua, ↓reduceIte, Nat.reduceEqDiff, eq_self, not_true_eq_false, not_false_eq_true, false_implies, true_implies, Classical.not_not, Nat.le_refl, Nat.zero_le, h0, q1]
    try dsimp only
    refine zW_ok hj B133_38 38 _ _ _ _ _ b133_38 ?_
    simp only [B133_38, zW, z_wp1, z_ld, z_f0, z_f1, z_f2, z_f3, List.getElem?_cons_zero, List.getElem?_cons_succ, true_and, and_true, Int32.reduceOfInt, z_i10, z_i01, Int32.reduceLT, Int32.reduceLE, Int32.reduceAdd, Int32.reduceSub, z_set, z_set2, z_kil, List.set_cons_zero, List.set_cons_succ, List.take_succ_cons, List.take_zero, List.drop_succ_cons, List.drop_zero, List.reverse_cons, List.reverse_nil, List.nil_append, List.cons_append, List.getD_cons_succ, List.getD_cons_zero, List.getD_nil, List.length_cons, List.length_nil, List.map_cons, List.map_nil, List.sum_cons, List.sum_nil, Nat.reduceAdd, Nat.reduceLeDiff, Value.category, Option.toList, true_or, or_true, z_ua, ↓reduceIte, Nat.reduceEqDiff, eq_self, not_true_eq_false, not_false_eq_true, false_implies, true_implies, Classical.not_not, Nat.le_refl, Nat.zero_le, q1]
    try dsimp only
    refine z_callD (c38 (l := X.1) (n := n') (J := J') hL hL2 f4 i0 j3' j4 hle' h3 i) (by omega) (by omega) (by omega) (Nat.le_of_ble_eq_true rfl) ?_
    try simp only [zW, z_wp1, z_ld, z_f0, z_f1, z_f2, z_f3, List.getElem?_cons_zero, List.getElem?_cons_succ, true_and, and_true, Int32.reduceOfInt, z_i10, z_i01, Int32.reduceLT, Int32.reduceLE, Int32.reduceAdd, Int32.reduceSub, z_set, z_set2, z_kil, List.set_cons_zero, List.set_cons_succ, List.take_succ_cons, List.take_zero, List.drop_succ_cons, List.drop_zero, List.reverse_cons, List.reverse_nil, List.nil_append, List.cons_append, List.getD_cons_succ, List.getD_cons_zero, List.getD_nil, List.length_cons, List.length_nil, List.map_cons, List.map_nil, List.sum_cons, List.sum_nil, Nat.reduceAdd, Nat.reduceLeDiff, Value.category, Option.toList, true_or, or_true, z_ua, ↓reduceIte, Nat.reduceEqDiff, eq_self, not_true_eq_false, not_false_eq_true, false_implies, true_implies, Classical.not_not, Nat.le_refl, Nat.zero_le]
    try dsimp only
    refine zW_ok hj B133_44 44 _ _ _ _ _ b133_44 ?_
    simp only [B133_44, zW, z_wp1, z_ld, z_f0, z_f1, z_f2, z_f3, List.getElem?_cons_zero, List.getElem?_cons_succ, true_and, and_true, Int32.reduceOfInt, z_i10, z_i01, Int32.reduceLT, Int32.reduceLE, Int32.reduceAdd, Int32.reduceSub, z_set, z_set2, z_kil, List.set_cons_zero, List.set_cons_succ, List.take_succ_cons, List.take_zero, List.drop_succ_cons, List.drop_zero, List.reverse_cons, List.reverse_nil, List.nil_append, List.cons_append, List.getD_cons_succ, List.getD_cons_zero, List.getD_nil, List.length_cons, List.length_nil, List.map_cons, List.map_nil, List.sum_cons, List.sum_nil, Nat.reduceAdd, Nat.reduceLeDiff, Value.category, Option.toList, true_or, or_true, z_ua, ↓reduceIte, Nat.reduceEqDiff, eq_self, not_true_eq_false, not_false_eq_true, false_implies, true_implies, Classical.not_not, Nat.le_refl, Nat.zero_le]
    try dsimp only
    rw [e]
    exact hQ _ _ fin
theorem d133b (hx : XI n K L I J G M c F N tr cd D ch rr) (hr : rr < 600) {mode i w : Int32} (h : ¬ ((mode = 0 ∨ mode = 1) ∧ (0 ≤ w ∧ w ≤ 1))) : z_Ctr l 8 133 [.ref 5, .int mode, .int i, .int w] (n, K, L, I, J, G) 0 0 (x_po n I J M c F N tr (rr + 1) (x_u L D) (.int (-1))) := by
  have hS : SS K L G := hx.S
  refine z_ctr (by decide) (by decide +kernel) (Nat.le_of_ble_eq_true rfl) (by decide +kernel) (fun X hl hj hd hm hs hsc hQ => ?_)
  show zV X 0 [some (.ref 5), some (.int mode), some (.int i), some (.int w), none] [] _ 0 0
  have no : zV X 16 [some (.ref 5), some (.int mode), some (.int i), some (.int w), none] [] (n, K, L, I, J, G) 0 0 := by
    refine zW_ok hj B133_16 16 _ _ _ _ _ b133_16 ?_
    simp only [B133_16, zW, z_wp1, z_ld, z_f0, z_f1, z_f2, z_f3, List.getElem?_cons_zero, List.getElem?_cons_succ, true_and, and_true, Int32.reduceOfInt, z_i10, z_i01, Int32.reduceLT, Int32.reduceLE, Int32.reduceAdd, Int32.reduceSub, z_set, z_set2, z_kil, List.set_cons_zero, List.set_cons_succ, List.take_succ_cons, List.take_zero, List.drop_succ_cons, List.drop_zero, List.reverse_cons, List.reverse_nil, List.nil_append, List.cons_append, List.getD_cons_succ, List.getD_cons_zero, List.getD_nil, List.length_cons, List.length_nil, List.map_cons, List.map_nil, List.sum_cons, List.sum_nil, Nat.reduceAdd, Nat.reduceLeDiff, Value.category, Option.toList, true_or, or_true, z_ua, ↓reduceIte, Nat.reduceEqDiff, eq_self, not_true_eq_false, not_false_eq_true, false_implies, true_implies, Classical.not_not, Nat.le_refl, Nat.zero_le]
    try dsimp only
    exact hQ _ _ (x_po.id hx hr _)
  refine zW_ok hj B133_0 0 _ _ _ _ _ b133_0 ?_
  simp only [B133_0, zW, z_wp1, z_ld, z_f0, z_f1, z_f2, z_f3, List.getElem?_cons_zero, List.getElem?_cons_succ, true_and, and_true, Int32.reduceOfInt, z_i10, z_i01, Int32.reduceLT, Int32.reduceLE, Int32.reduceAdd, Int32.reduceSub, z_set, z_set2, z_kil, List.set_cons_zero, List.set_cons_succ, List.take_succ_cons, List.take_zero, List.drop_succ_cons, List.drop_zero, List.reverse_cons, List.reverse_nil, List.nil_append, List.cons_append, List.getD_cons_succ, List.getD_cons_zero, List.getD_nil, List.length_cons, List.length_nil, List.map_cons, List.map_nil, List.sum_cons, List.sum_nil, Nat.reduceAdd, Nat.reduceLeDiff, Value.category, Option.toList, true_or, or_true, z_ua, ↓reduceIte, Nat.reduceEqDiff, eq_self, not_true_eq_false, not_false_eq_true, false_implies, true_implies, Classical.not_not, Nat.le_refl, Nat.zero_le]
  try dsimp only
  by_cases hmd : mode = 0 ∨ mode = 1
  · refine z_callD (c155 (h := (n, K, L, I, J, G)) mode) (by omega) (by omega) (by omega) (Nat.le_of_ble_eq_true rfl) ?_
    try simp only [zW, z_wp1, z_ld, z_f0, z_f1, z_f2, z_f3, List.getElem?_cons_zero, List.getElem?_cons_succ, true_and, and_true, Int32.reduceOfInt, z_i10, z_i01, Int32.reduceLT, Int32.reduceLE, Int32.reduceAdd, Int32.reduceSub, z_set, z_set2, z_kil, List.set_cons_zero, List.set_cons_succ, List.take_succ_cons, List.take_zero, List.drop_succ_cons, List.drop_zero, List.reverse_cons, List.reverse_nil, List.nil_append, List.cons_append, List.getD_cons_succ, List.getD_cons_zero, List.getD_nil, List.length_cons, List.length_nil, List.map_cons, List.map_nil, List.sum_cons, List.sum_nil, Nat.reduceAdd, Nat.reduceLeDiff, Value.category, Option.toList, true_or, or_true, z_ua, ↓reduceIte, Nat.reduceEqDiff, eq_self, not_true_eq_false, not_false_eq_true, false_implies, true_implies, Classical.not_not, Nat.le_refl, Nat.zero_le, z_b1 hmd]
    try dsimp only
    exact ⟨fun _ => no, fun h1 => ⟨fun h2 => absurd ⟨hmd, Int32.not_lt.mp h1, h2⟩ h, fun _ => no⟩⟩
  · refine z_callD (c155 (h := (n, K, L, I, J, G)) mode) (by omega) (by omega) (by omega) (Nat.le_of_ble_eq_true rfl) ?_
    try simp only [zW, z_wp1, z_ld, z_f0, z_f1, z_f2, z_f3, List.getElem?_cons_zero, List.getElem?_cons_succ, true_and, and_true, Int32.reduceOfInt, z_i10, z_i01, Int32.reduceLT, Int32.reduceLE, Int32.reduceAdd, Int32.reduceSub, z_set, z_set2, z_kil, List.set_cons_zero, List.set_cons_succ, List.take_succ_cons, List.take_zero, List.drop_succ_cons, List.drop_zero, List.reverse_cons, List.reverse_nil, List.nil_append, List.cons_append, List.getD_cons_succ, List.getD_cons_zero, List.getD_nil, List.length_cons, List.length_nil, List.map_cons, List.map_nil, List.sum_cons, List.sum_nil, Nat.reduceAdd, Nat.reduceLeDiff, Value.category, Option.toList, true_or, or_true, z_ua, ↓reduceIte, Nat.reduceEqDiff, eq_self, not_true_eq_false, not_false_eq_true, false_implies, true_implies, Classical.not_not, Nat.le_refl, Nat.zero_le, z_b0 hmd]
    try dsimp only
    exact no
end PUBL3
