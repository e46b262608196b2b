/-! The public methods: have, close, against, mark, value, fault, look, accepted -/
theorem z_of {x : Int32} {F : Nat} (hF : F < 2 ^ 31) (h : 0 ≤ x ∧ x < nI F) : ∃ k, k < F ∧ x = nI k := by
  obtain ⟨k, hk, rfl⟩ := nI_of (Int32.not_lt.mpr h.1)
  refine ⟨k, ?_, rfl⟩
  rcases Nat.lt_or_ge k F with q | q
  · exact q
  · exact absurd h.2 (Int32.not_lt.mpr (nI_le q hk))
theorem m_have_b {row : Nat → Int32} {s : Int32} : ∀ {F : Nat}, F ≤ 16 → ∀ i, zb (m_have row s F) i = (decide (i < F) && decide (row i &&& s = s))
  | 0, _, i => by simp [m_have, zb_0]
  | f + 1, hF, i => by
    have ih := m_have_b (row := row) (s := s) (F := f) (by omega) i
    rw [m_have]
    by_cases h : row f &&& s = s
    · rw [if_pos h, zb_or, ih, zb_sh1 (by omega)]
      by_cases e : i = f
      · subst e; simp [h]
      · by_cases e2 : i < f
        · have : i < f + 1 := by omega
          simp [e, e2, this]
        · have : ¬ i < f + 1 := by omega
          simp [e, e2, this]
    · rw [if_neg h, ih]
      by_cases e : i = f
      · subst e; simp [h]
      · by_cases e2 : i < f
        · have : i < f + 1 := by omega
          simp [e2, this]
        · have : ¬ i < f + 1 := by omega
          simp [e2, this]
theorem m_ag_b {row : Nat → Int32} {p q : Int32} : ∀ {F : Nat}, F ≤ 16 → ∀ i, zb (m_ag row p q F) i = (decide (i < F) && decide (row i &&& p = p ∧ ¬ row i &&& q = q))
  | 0, _, i => by simp [m_ag, zb_0]
  | f + 1, hF, i => by
    have ih := m_ag_b (row := row) (p := p) (q := q) (F := f) (by omega) i
    rw [m_ag]
    by_cases h : row f &&& p = p ∧ ¬ row f &&& q = q
    · rw [if_pos h, zb_or, ih, zb_sh1 (by omega)]
      by_cases e : i = f
      · subst e; simp [h]
      · by_cases e2 : i < f
        · have : i < f + 1 := by omega
          simp [e, e2, this]
        · have : ¬ i < f + 1 := by omega
          simp [e, e2, this]
    · rw [if_neg h, ih]
      by_cases e : i = f
      · subst e; simp [h]
      · by_cases e2 : i < f
        · have : i < f + 1 := by omega
          simp [e2, this]
        · have : ¬ i < f + 1 := by omega
          simp [e2, this]
theorem m_ag_have {row : Nat → Int32} {p q : Int32} {F : Nat} (hF : F ≤ 16) : m_have row p F &&& (m_have row q F ^^^ -1) = m_ag row p q F := zb_ext (fun i hi => by
  rw [zb_and, zb_xor, zb_m1, m_have_b hF, m_have_b hF, m_ag_b hF]
  by_cases e : i < F <;> by_cases h1 : row i &&& p = p <;> by_cases h2 : row i &&& q = q <;> simp [e, h1, h2, hi])
section PUB2
variable {l : Launch} {n : Nat} {K L : Nat → Nat} {I : Nat → Nat → Int32} {J : Nat → Nat → Int64} {G : Nat → Nat → Value} {M : Nat → Nat → Int32} {c F N : Nat} {tr : Nat → (Int32 → Int32) → Int32} {cd : Nat} {D : Nat → Nat} {ch rr : Nat}
theorem c88y (hx : XI n K L I J G M c F N tr cd D ch rr) {s : Int32} (h : m_isM N s) : z_D l 0 88 [.ref 10, .int s] (n, K, L, I, J, G) (some (.int 1)) (n, K, L, I, J, G) := by
  obtain ⟨f1, f2, f3, f4⟩ := hx.fn
  have k := c88 (l := l) (n := n) (I := I) (J := J) hx.S hx.C s
  rw [f3] at k
  rw [z_b1 ((zb_has (by omega)).mpr h)] at k
  exact k
theorem c88n (hx : XI n K L I J G M c F N tr cd D ch rr) {s : Int32} (h : ¬ m_isM N s) : z_D l 0 88 [.ref 10, .int s] (n, K, L, I, J, G) (some (.int 0)) (n, K, L, I, J, G) := by
  obtain ⟨f1, f2, f3, f4⟩ := hx.fn
  have k := c88 (l := l) (n := n) (I := I) (J := J) hx.S hx.C s
  rw [f3] at k
  rw [z_b0 (fun q => h ((zb_has (by omega)).mp q))] at k
  exact k
/-- have -/
theorem d127a (hx : XI n K L I J G M c F N tr cd D ch rr) (hr : rr < 600) {set mode : Int32} (hset : m_isM N set) (hmd : m_md mode) : z_Ctr l 6 127 [.ref 5, .int set, .int mode] (n, K, L, I, J, G) 0 0 (x_po n I J M c F N tr (rr + 1) (x_u L D) (.int (m_have (mR M c N tr mode) set F))) := by
  have hS : SS K L G := hx.S
  obtain ⟨f1, f2, f3, f4⟩ := hx.fn
  have hmd' : mode = 0 ∨ mode = 1 := hmd
  refine z_ctr (by decide) (by decide +kernel) (Nat.le_of_ble_eq_true rfl) (by decide +kernel) (fun X hl hj hd hm hs hsc hQ => ?_)
  show zV X 0 [some (.ref 5), some (.int set), some (.int mode)] [] _ 0 0
  refine zW_ok hj B127_0 0 _ _ _ _ _ b127_0 ?_
  simp only [B127_0, zW, z_wp1, z_ld, z_f0, z_f1, z_f2, z_f3, List.getElem?_cons_zero, List.getElem?_cons_succ, true_and, and_true, Int32.reduceOfInt, z_i10, z_i01, Int32.reduceLT, Int32.reduceLE, Int32.reduceAdd, Int32.reduceSub, z_set, z_set2, z_kil, List.set_cons_zero, List.set_cons_succ, List.take_succ_cons, List.take_zero, List.drop_succ_cons, List.drop_zero, List.reverse_cons, List.reverse_nil, List.nil_append, List.cons_append, List.getD_cons_succ, List.getD_cons_zero, List.getD_nil, List.length_cons, List.length_nil, List.map_cons, List.map_nil, List.sum_cons, List.sum_nil, Nat.reduceAdd, Nat.reduceLeDiff, Value.category, Option.toList, true_or, or_true, z_ua, ↓reduceIte, Nat.reduceEqDiff, eq_self, not_true_eq_false, not_false_eq_true, false_implies, true_implies, Classical.not_not, Nat.le_refl, Nat.zero_le, sK5 hS, sG5_1 hS, sK10 hS]
  try dsimp only
  refine z_callD (c155 (h := (n, K, L, I, J, G)) mode) (by omega) (by omega) (by omega) (Nat.le_of_ble_eq_true rfl) ?_
  try simp only [zW, z_wp1, z_ld, z_f0, z_f1, z_f2, z_f3, List.getElem?_cons_zero, List.getElem?_cons_succ, true_and, and_true, Int32.reduceOfInt, z_i10, z_i01, Int32.reduceLT, Int32.reduceLE, Int32.reduceAdd, Int32.reduceSub, z_set, z_set2, z_kil, List.set_cons_zero, List.set_cons_succ, List.take_succ_cons, List.take_zero, List.drop_succ_cons, List.drop_zero, List.reverse_cons, List.reverse_nil, List.nil_append, List.cons_append, List.getD_cons_succ, List.getD_cons_zero, List.getD_nil, List.length_cons, List.length_nil, List.map_cons, List.map_nil, List.sum_cons, List.sum_nil, Nat.reduceAdd, Nat.reduceLeDiff, Value.category, Option.toList, true_or, or_true, z_ua, ↓reduceIte, Nat.reduceEqDiff, eq_self, not_true_eq_false, not_false_eq_true, false_implies, true_implies, Classical.not_not, Nat.le_refl, Nat.zero_le, z_b1 hmd', sK5 hS, sG5_1 hS, sK10 hS]
  try dsimp only
  refine z_callD (c88y hx hset) (by omega) (by omega) (by omega) (Nat.le_of_ble_eq_true rfl) ?_
  try simp only [zW, z_wp1, z_ld, z_f0, z_f1, z_f2, z_f3, List.getElem?_cons_zero, List.getElem?_cons_succ, true_and, and_true, Int32.reduceOfInt, z_i10, z_i01, Int32.reduceLT, Int32.reduceLE, Int32.reduceAdd, Int32.reduceSub, z_set, z_set2, z_kil, List.set_cons_zero, List.set_cons_succ, List.take_succ_cons, List.take_zero, List.drop_succ_cons, List.drop_zero, List.reverse_cons, List.reverse_nil, List.nil_append, List.cons_append, List.getD_cons_succ, List.getD_cons_zero, List.getD_nil, List.length_cons, List.length_nil, List.map_cons, List.map_nil, List.sum_cons, List.sum_nil, Nat.reduceAdd, Nat.reduceLeDiff, Value.category, Option.toList, true_or, or_true, z_ua, ↓reduceIte, Nat.reduceEqDiff, eq_self, not_true_eq_false, not_false_eq_true, false_implies, true_implies, Classical.not_not, Nat.le_refl, Nat.zero_le]
  try dsimp only
  refine zW_ok hj B127_20 20 _ _ _ _ _ b127_20 ?_
  simp only [B127_20, zW, z_wp1, z_ld, z_f0, z_f1, z_f2, z_f3, List.getElem?_cons_zero, List.getElem?_cons_succ, true_and, and_true, Int32.reduceOfInt, z_i10, z_i01, Int32.reduceLT, Int32.reduceLE, Int32.reduceAdd, Int32.reduceSub, z_set, z_set2, z_kil, List.set_cons_zero, List.set_cons_succ, List.take_succ_cons, List.take_zero, List.drop_succ_cons, List.drop_zero, List.reverse_cons, List.reverse_nil, List.nil_append, List.cons_append, List.getD_cons_succ, List.getD_cons_zero, List.getD_nil, List.length_cons, List.length_nil, List.map_cons, List.map_nil, List.sum_cons, List.sum_nil, Nat.reduceAdd, Nat.reduceLeDiff, Value.category, Option.toList, true_or, or_true, z_ua, ↓reduceIte, Nat.reduceEqDiff, eq_self, not_true_eq_false, not_false_eq_true, false_implies, true_implies, Classical.not_not, Nat.le_refl, Nat.zero_le, sK5 hS, sG5_1 hS, sK10 hS]
  try dsimp only
  refine z_callQ (c96x hx) (by omega) (by omega) (by omega) (Nat.le_of_ble_eq_true rfl) ?_
  rintro r h' ⟨rfl, I', rfl, hx', hI, hw⟩
  simp only [zW, z_wp1, z_ld, z_f0, z_f1, z_f2, z_f3, List.getElem?_cons_zero, List.getElem?_cons_succ, true_and, and_true, Int32.reduceOfInt, z_i10, z_i01, Int32.reduceLT, Int32.reduceLE, Int32.reduceAdd, Int32.reduceSub, z_set, z_set2, z_kil, List.set_cons_zero, List.set_cons_succ, List.take_succ_cons, List.take_zero, List.drop_succ_cons, List.drop_zero, List.reverse_cons, List.reverse_nil, List.nil_append, List.cons_append, List.getD_cons_succ, List.getD_cons_zero, List.getD_nil, List.length_cons, List.length_nil, List.map_cons, List.map_nil, List.sum_cons, List.sum_nil, Nat.reduceAdd, Nat.reduceLeDiff, Value.category, Option.toList, true_or, or_true, z_ua, ↓reduceIte, Nat.reduceEqDiff, eq_self, not_true_eq_false, not_false_eq_true, false_implies, true_implies, Classical.not_not, Nat.le_refl, Nat.zero_le, sK5 hS, sG5_1 hS, sK10 hS]
  try dsimp only
  refine z_callD (c100 (I := I') (J := J) hS hx'.fn.1 f2 set mode) (by omega) (by omega) (by omega) (Nat.le_of_ble_eq_true rfl) ?_
  try simp only [zW, z_wp1, z_ld, z_f0, z_f1, z_f2, z_f3, List.getElem?_cons_zero, List.getElem?_cons_succ, true_and, and_true, Int32.reduceOfInt, z_i10, z_i01, Int32.reduceLT, Int32.reduceLE, Int32.reduceAdd, Int32.reduceSub, z_set, z_set2, z_kil, List.set_cons_zero, List.set_cons_succ, List.take_succ_cons, List.take_zero, List.drop_succ_cons, List.drop_zero, List.reverse_cons, List.reverse_nil, List.nil_append, List.cons_append, List.getD_cons_succ, List.getD_cons_zero, List.getD_nil, List.length_cons, List.length_nil, List.map_cons, List.map_nil, List.sum_cons, List.sum_nil, Nat.reduceAdd, Nat.reduceLeDiff, Value.category, Option.toList, true_or, or_true, z_ua, ↓reduceIte, Nat.reduceEqDiff, eq_self, not_true_eq_false, not_false_eq_true, false_implies, true_implies, Classical.not_not, Nat.le_refl, Nat.zero_le]
  try dsimp only
  rw [m_have_congr (fun g hg => hw.row f4 hmd hg)]
  exact hQ _ _ (x_po.same hx hr hx' (fun q a _ => hI q (by omega)) _)
theorem d127b (hx : XI n K L I J G M c F N tr cd D ch rr) (hr : rr < 600) {set mode : Int32} (h : ¬ (m_isM N set ∧ m_md mode)) : z_Ctr l 6 127 [.ref 5, .int set, .int mode] (n, K, L, I, J, G) 0 0 (x_po n I J M c F N tr (rr + 1) (x_u L D) (.int (-1))) := by
  have hS : SS K L G := hx.S
  refine z_ctr (by decide) (by decide +kernel) (Nat.le_of_ble_eq_true rfl) (by decide +kernel) (fun X hl hj hd hm hs hsc hQ => ?_)
  show zV X 0 [some (.ref 5), some (.int set), some (.int mode)] [] _ 0 0
  have no : zV X 18 [some (.ref 5), some (.int set), some (.int mode)] [] (n, K, L, I, J, G) 0 0 := by
    refine zW_ok hj B127_18 18 _ _ _ _ _ b127_18 ?_
    simp only [B127_18, zW, z_wp1, z_ld, z_f0, z_f1, z_f2, z_f3, List.getElem?_cons_zero, List.getElem?_cons_succ, true_and, and_true, Int32.reduceOfInt, z_i10, z_i01, Int32.reduceLT, Int32.reduceLE, Int32.reduceAdd, Int32.reduceSub, z_set, z_set2, z_kil, List.set_cons_zero, List.set_cons_succ, List.take_succ_cons, List.take_zero, List.drop_succ_cons, List.drop_zero, List.reverse_cons, List.reverse_nil, List.nil_append, List.cons_append, List.getD_cons_succ, List.getD_cons_zero, List.getD_nil, List.length_cons, List.length_nil, List.map_cons, List.map_nil, List.sum_cons, List.sum_nil, Nat.reduceAdd, Nat.reduceLeDiff, Value.category, Option.toList, true_or, or_true, z_ua, ↓reduceIte, Nat.reduceEqDiff, eq_self, not_true_eq_false, not_false_eq_true, false_implies, true_implies, Classical.not_not, Nat.le_refl, Nat.zero_le]
    try dsimp only
    exact hQ _ _ (x_po.id hx hr _)
  refine zW_ok hj B127_0 0 _ _ _ _ _ b127_0 ?_
  simp only [B127_0, zW, z_wp1, z_ld, z_f0, z_f1, z_f2, z_f3, List.getElem?_cons_zero, List.getElem?_cons_succ, true_and, and_true, Int32.reduceOfInt, z_i10, z_i01, Int32.reduceLT, Int32.reduceLE, Int32.reduceAdd, Int32.reduceSub, z_set, z_set2, z_kil, List.set_cons_zero, List.set_cons_succ, List.take_succ_cons, List.take_zero, List.drop_succ_cons, List.drop_zero, List.reverse_cons, List.reverse_nil, List.nil_append, List.cons_append, List.getD_cons_succ, List.getD_cons_zero, List.getD_nil, List.length_cons, List.length_nil, List.map_cons, List.map_nil, List.sum_cons, List.sum_nil, Nat.reduceAdd, Nat.reduceLeDiff, Value.category, Option.toList, true_or, or_true, z_ua, ↓reduceIte, Nat.reduceEqDiff, eq_self, not_true_eq_false, not_false_eq_true, false_implies, true_implies, Classical.not_not, Nat.le_refl, Nat.zero_le, sK5 hS, sG5_1 hS, sK10 hS]
  try dsimp only
  by_cases h1 : mode = 0 ∨ mode = 1
  · refine z_callD (c155 (h := (n, K, L, I, J, G)) mode) (by omega) (by omega) (by omega) (Nat.le_of_ble_eq_true rfl) ?_
    try simp only [zW, z_wp1, z_ld, z_f0, z_f1, z_f2, z_f3, List.getElem?_cons_zero, List.getElem?_cons_succ, true_and, and_true, Int32.reduceOfInt, z_i10, z_i01, Int32.reduceLT, Int32.reduceLE, Int32.reduceAdd, Int32.reduceSub, z_set, z_set2, z_kil, List.set_cons_zero, List.set_cons_succ, List.take_succ_cons, List.take_zero, List.drop_succ_cons, List.drop_zero, List.reverse_cons, List.reverse_nil, List.nil_append, List.cons_append, List.getD_cons_succ, List.getD_cons_zero, List.getD_nil, List.length_cons, List.length_nil, List.map_cons, List.map_nil, List.sum_cons, List.sum_nil, Nat.reduceAdd, Nat.reduceLeDiff, Value.category, Option.toList, true_or, or_true, z_ua, ↓reduceIte, Nat.reduceEqDiff, eq_self, not_true_eq_false, not_false_eq_true, false_implies, true_implies, Classical.not_not, Nat.le_refl, Nat.zero_le, z_b1 h1, sK5 hS, sG5_1 hS, sK10 hS]
    try dsimp only
    refine z_callD (c88n hx (fun q => h ⟨q, h1⟩)) (by omega) (by omega) (by omega) (Nat.le_of_ble_eq_true rfl) ?_
    try simp only [zW, z_wp1, z_ld, z_f0, z_f1, z_f2, z_f3, List.getElem?_cons_zero, List.getElem?_cons_succ, true_and, and_true, Int32.reduceOfInt, z_i10, z_i01, Int32.reduceLT, Int32.reduceLE, Int32.reduceAdd, Int32.reduceSub, z_set, z_set2, z_kil, List.set_cons_zero, List.set_cons_succ, List.take_succ_cons, List.take_zero, List.drop_succ_cons, List.drop_zero, List.reverse_cons, List.reverse_nil, List.nil_append, List.cons_append, List.getD_cons_succ, List.getD_cons_zero, List.getD_nil, List.length_cons, List.length_nil, List.map_cons, List.map_nil, List.sum_cons, List.sum_nil, Nat.reduceAdd, Nat.reduceLeDiff, Value.category, Option.toList, true_or, or_true, z_ua, ↓reduceIte, Nat.reduceEqDiff, eq_self, not_true_eq_false, not_false_eq_true, false_implies, true_implies, Classical.not_not, Nat.le_refl, Nat.zero_le]
    try dsimp only
    exact no
  · refine z_callD (c155 (h := (n, K, L, I, J, G)) mode) (by omega) (by omega) (by omega) (Nat.le_of_ble_eq_true rfl) ?_
    try simp only [zW, z_wp1, z_ld, z_f0, z_f1, z_f2, z_f3, List.getElem?_cons_zero, List.getElem?_cons_succ, true_and, and_true, Int32.reduceOfInt, z_i10, z_i01, Int32.reduceLT, Int32.reduceLE, Int32.reduceAdd, Int32.reduceSub, z_set, z_set2, z_kil, List.set_cons_zero, List.set_cons_succ, List.take_succ_cons, List.take_zero, List.drop_succ_cons, List.drop_zero, List.reverse_cons, List.reverse_nil, List.nil_append, List.cons_append, List.getD_cons_succ, List.getD_cons_zero, List.getD_nil, List.length_cons, List.length_nil, List.map_cons, List.map_nil, List.sum_cons, List.sum_nil, Nat.reduceAdd, Nat.reduceLeDiff, Value.category, Option.toList, true_or, or_true, z_ua, ↓reduceIte, Nat.reduceEqDiff, eq_self, not_true_eq_false, not_false_eq_true, false_implies, true_implies, Classical.not_not, Nat.le_refl, Nat.zero_le, z_b0 h1, sK5 hS, sG5_1 hS, sK10 hS]
    try dsimp only
    exact no
/-- close -/
theorem d128a (hx : XI n K L I J G M c F N tr cd D ch rr) (hr : rr < 600) {set mode : Int32} (hset : m_isM N set) (hmd : m_md mode) : z_Ctr l 6 128 [.ref 5, .int set, .int mode] (n, K, L, I, J, G) 0 0 (x_po n I J M c F N tr (rr + 1) (x_u L D) (.int (mC M c F N tr mode set))) := by
  have hS : SS K L G := hx.S
  obtain ⟨f1, f2, f3, f4⟩ := hx.fn
  have hmd' : mode = 0 ∨ mode = 1 := hmd
  refine z_ctr (by decide) (by decide +kernel) (Nat.le_of_ble_eq_true rfl) (by decide +kernel) (fun X hl hj hd hm hs hsc hQ => ?_)
  show zV X 0 [some (.ref 5), some (.int set), some (.int mode)] [] _ 0 0
  refine zW_ok hj B128_0 0 _ _ _ _ _ b128_0 ?_
  simp only [B128_0, zW, z_wp1, z_ld, z_f0, z_f1, z_f2, z_f3, List.getElem?_cons_zero, List.getElem?_cons_succ, true_and, and_true, Int32.reduceOfInt, z_i10, z_i01, Int32.reduceLT, Int32.reduceLE, Int32.reduceAdd, Int32.reduceSub, z_set, z_set2, z_kil, List.set_cons_zero, List.set_cons_succ, List.take_succ_cons, List.take_zero, List.drop_succ_cons, List.drop_zero, List.reverse_cons, List.reverse_nil, List.nil_append, List.cons_append, List.getD_cons_succ, List.getD_cons_zero, List.getD_nil, List.length_cons, List.length_nil, List.map_cons, List.map_nil, List.sum_cons, List.sum_nil, Nat.reduceAdd, Nat.reduceLeDiff, Value.category, Option.toList, true_or, or_true, z_ua, ↓reduceIte, Nat.reduceEqDiff, eq_self, not_true_eq_false, not_false_eq_true, false_implies, true_implies, Classical.not_not, Nat.le_refl, Nat.zero_le, sK5 hS, sG5_1 hS, sK10 hS]
  try dsimp only
  refine z_callD (c155 (h := (n, K, L, I, J, G)) mode) (by omega) (by omega) (by omega) (Nat.le_of_ble_eq_true rfl) ?_
  try simp only [zW, z_wp1, z_ld, z_f0, z_f1, z_f2, z_f3, List.getElem?_cons_zero, List.getElem?_cons_succ, true_and, and_true, Int32.reduceOfInt, z_i10, z_i01, Int32.reduceLT, Int32.reduceLE, Int32.reduceAdd, Int32.reduceSub, z_set, z_set2, z_kil, List.set_cons_zero, List.set_cons_succ, List.take_succ_cons, List.take_zero, List.drop_succ_cons, List.drop_zero, List.reverse_cons, List.reverse_nil, List.nil_append, List.cons_append, List.getD_cons_succ, List.getD_cons_zero, List.getD_nil, List.length_cons, List.length_nil, List.map_cons, List.map_nil, List.sum_cons, List.sum_nil, Nat.reduceAdd, Nat.reduceLeDiff, Value.category, Option.toList, true_or, or_true, z_ua, ↓reduceIte, Nat.reduceEqDiff, eq_self, not_true_eq_false, not_false_eq_true, false_implies, true_implies, Classical.not_not, Nat.le_refl, Nat.zero_le, z_b1 hmd', sK5 hS, sG5_1 hS, sK10 hS]
  try dsimp only
  refine z_callD (c88y hx hset) (by omega) (by omega) (by omega) (Nat.le_of_ble_eq_true rfl) ?_
  try simp only [zW, z_wp1, z_ld, z_f0, z_f1, z_f2, z_f3, List.getElem?_cons_zero, List.getElem?_cons_succ, true_and, and_true, Int32.reduceOfInt, z_i10, z_i01, Int32.reduceLT, Int32.reduceLE, Int32.reduceAdd, Int32.reduceSub, z_set, z_set2, z_kil, List.set_cons_zero, List.set_cons_succ, List.take_succ_cons, List.take_zero, List.drop_succ_cons, List.drop_zero, List.reverse_cons, List.reverse_nil, List.nil_append, List.cons_append, List.getD_cons_succ, List.getD_cons_zero, List.getD_nil, List.length_cons, List.length_nil, List.map_cons, List.map_nil, List.sum_cons, List.sum_nil, Nat.reduceAdd, Nat.reduceLeDiff, Value.category, Option.toList, true_or, or_true, z_ua, ↓reduceIte, Nat.reduceEqDiff, eq_self, not_true_eq_false, not_false_eq_true, false_implies, true_implies, Classical.not_not, Nat.le_refl, Nat.zero_le]
  try dsimp only
  refine zW_ok hj B128_20 20 _ _ _ _ _ b128_20 ?_
  simp only [B128_20, zW, z_wp1, z_ld, z_f0, z_f1, z_f2, z_f3, List.getElem?_cons_zero, List.getElem?_cons_succ, true_and, and_true, Int32.reduceOfInt, z_i10, z_i01, Int32.reduceLT, Int32.reduceLE, Int32.reduceAdd, Int32.reduceSub, z_set, z_set2, z_kil, List.set_cons_zero, List.set_cons_succ, List.take_succ_cons, List.take_zero, List.drop_succ_cons, List.drop_zero, List.reverse_cons, List.reverse_nil, List.nil_append, List.cons_append, List.getD_cons_succ, List.getD_cons_zero, List.getD_nil, List.length_cons, List.length_nil, List.map_cons, List.map_nil, List.sum_cons, List.sum_nil, Nat.reduceAdd, Nat.reduceLeDiff, Value.category, Option.toList, true_or, or_true, z_ua, ↓reduceIte, Nat.reduceEqDiff, eq_self, not_true_eq_false, not_false_eq_true, false_implies, true_implies, Classical.not_not, Nat.le_refl, Nat.zero_le, sK5 hS, sG5_1 hS, sK10 hS]
  try dsimp only
  refine z_callQ (c96x hx) (by omega) (by omega) (by omega) (Nat.le_of_ble_eq_true rfl) ?_
  rintro r h' ⟨rfl, I', rfl, hx', hI, hw⟩
  simp only [zW, z_wp1, z_ld, z_f0, z_f1, z_f2, z_f3, List.getElem?_cons_zero, List.getElem?_cons_succ, true_and, and_true, Int32.reduceOfInt, z_i10, z_i01, Int32.reduceLT, Int32.reduceLE, Int32.reduceAdd, Int32.reduceSub, z_set, z_set2, z_kil, List.set_cons_zero, List.set_cons_succ, List.take_succ_cons, List.take_zero, List.drop_succ_cons, List.drop_zero, List.reverse_cons, List.reverse_nil, List.nil_append, List.cons_append, List.getD_cons_succ, List.getD_cons_zero, List.getD_nil, List.length_cons, List.length_nil, List.map_cons, List.map_nil, List.sum_cons, List.sum_nil, Nat.reduceAdd, Nat.reduceLeDiff, Value.category, Option.toList, true_or, or_true, z_ua, ↓reduceIte, Nat.reduceEqDiff, eq_self, not_true_eq_false, not_false_eq_true, false_implies, true_implies, Classical.not_not, Nat.le_refl, Nat.zero_le, sK5 hS, sG5_1 hS, sK10 hS]
  try dsimp only
  refine z_callD (c101 (I := I') (J := J) hS hx'.C hx'.fn.1 f2 hx'.fn.2.2.1 f4 set mode) (by omega) (by omega) (by omega) (Nat.le_of_ble_eq_true rfl) ?_
  try simp only [zW, z_wp1, z_ld, z_f0, z_f1, z_f2, z_f3, List.getElem?_cons_zero, List.getElem?_cons_succ, true_and, and_true, Int32.reduceOfInt, z_i10, z_i01, Int32.reduceLT, Int32.reduceLE, Int32.reduceAdd, Int32.reduceSub, z_set, z_set2, z_kil, List.set_cons_zero, List.set_cons_succ, List.take_succ_cons, List.take_zero, List.drop_succ_cons, List.drop_zero, List.reverse_cons, List.reverse_nil, List.nil_append, List.cons_append, List.getD_cons_succ, List.getD_cons_zero, List.getD_nil, List.length_cons, List.length_nil, List.map_cons, List.map_nil, List.sum_cons, List.sum_nil, Nat.reduceAdd, Nat.reduceLeDiff, Value.category, Option.toList, true_or, or_true, z_ua, ↓reduceIte, Nat.reduceEqDiff, eq_self, not_true_eq_false, not_false_eq_true, false_implies, true_implies, Classical.not_not, Nat.le_refl, Nat.zero_le]
  try dsimp only
  rw [m_clo_congr (fun g hg => hw.row f4 hmd hg)]
  exact hQ _ _ (x_po.same hx hr hx' (fun q a _ => hI q (by omega)) _)
theorem d128b (hx : XI n K L I J G M c F N tr cd D ch rr) (hr : rr < 600) {set mode : Int32} (h : ¬ (m_isM N set ∧ m_md mode)) : z_Ctr l 6 128 [.ref 5, .int set, .int mode] (n, K, L, I, J, G) 0 0 (x_po n I J M c F N tr (rr + 1) (x_u L D) (.int (-1))) := by
  have hS : SS K L G := hx.S
  refine z_ctr (by decide) (by decide +kernel) (Nat.le_of_ble_eq_true rfl) (by decide +kernel) (fun X hl hj hd hm hs hsc hQ => ?_)
  show zV X 0 [some (.ref 5), some (.int set), some (.int mode)] [] _ 0 0
  have no : zV X 18 [some (.ref 5), some (.int set), some (.int mode)] [] (n, K, L, I, J, G) 0 0 := by
    refine zW_ok hj B128_18 18 _ _ _ _ _ b128_18 ?_
    simp only [B128_18, zW, z_wp1, z_ld, z_f0, z_f1, z_f2, z_f3, List.getElem?_cons_zero, List.getElem?_cons_succ, true_and, and_true, Int32.reduceOfInt, z_i10, z_i01, Int32.reduceLT, Int32.reduceLE, Int32.reduceAdd, Int32.reduceSub, z_set, z_set2, z_kil, List.set_cons_zero, List.set_cons_succ, List.take_succ_cons, List.take_zero, List.drop_succ_cons, List.drop_zero, List.reverse_cons, List.reverse_nil, List.nil_append, List.cons_append, List.getD_cons_succ, List.getD_cons_zero, List.getD_nil, List.length_cons, List.length_nil, List.map_cons, List.map_nil, List.sum_cons, List.sum_nil, Nat.reduceAdd, Nat.reduceLeDiff, Value.category, Option.toList, true_or, or_true, z_ua, ↓reduceIte, Nat.reduceEqDiff, eq_self, not_true_eq_false, not_false_eq_true, false_implies, true_implies, Classical.not_not, Nat.le_refl, Nat.zero_le]
    try dsimp only
    exact hQ _ _ (x_po.id hx hr _)
  refine zW_ok hj B128_0 0 _ _ _ _ _ b128_0 ?_
  simp only [B128_0, zW, z_wp1, z_ld, z_f0, z_f1, z_f2, z_f3, List.getElem?_cons_zero, List.getElem?_cons_succ, true_and, and_true, Int32.reduceOfInt, z_i10, z_i01, Int32.reduceLT, Int32.reduceLE, Int32.reduceAdd, Int32.reduceSub, z_set, z_set2, z_kil, List.set_cons_zero, List.set_cons_succ, List.take_succ_cons, List.take_zero, List.drop_succ_cons, List.drop_zero, List.reverse_cons, List.reverse_nil, List.nil_append, List.cons_append, List.getD_cons_succ, List.getD_cons_zero, List.getD_nil, List.length_cons, List.length_nil, List.map_cons, List.map_nil, List.sum_cons, List.sum_nil, Nat.reduceAdd, Nat.reduceLeDiff, Value.category, Option.toList, true_or, or_true, z_ua, ↓reduceIte, Nat.reduceEqDiff, eq_self, not_true_eq_false, not_false_eq_true, false_implies, true_implies, Classical.not_not, Nat.le_refl, Nat.zero_le, sK5 hS, sG5_1 hS, sK10 hS]
  try dsimp only
  by_cases h1 : mode = 0 ∨ mode = 1
  · refine z_callD (c155 (h := (n, K, L, I, J, G)) mode) (by omega) (by omega) (by omega) (Nat.le_of_ble_eq_true rfl) ?_
    try simp only [zW, z_wp1, z_ld, z_f0, z_f1, z_f2, z_f3, List.getElem?_cons_zero, List.getElem?_cons_succ, true_and, and_true, Int32.reduceOfInt, z_i10, z_i01, Int32.reduceLT, Int32.reduceLE, Int32.reduceAdd, Int32.reduceSub, z_set, z_set2, z_kil, List.set_cons_zero, List.set_cons_succ, List.take_succ_cons, List.take_zero, List.drop_succ_cons, List.drop_zero, List.reverse_cons, List.reverse_nil, List.nil_append, List.cons_append, List.getD_cons_succ, List.getD_cons_zero, List.getD_nil, List.length_cons, List.length_nil, List.map_cons, List.map_nil, List.sum_cons, List.sum_nil, Nat.reduceAdd, Nat.reduceLeDiff, Value.category, Option.toList, true_or, or_true, z_ua, ↓reduceIte, Nat.reduceEqDiff, eq_self, not_true_eq_false, not_false_eq_true, false_implies, true_implies, Classical.not_not, Nat.le_refl, Nat.zero_le, z_b1 h1, sK5 hS, sG5_1 hS, sK10 hS]
    try dsimp only
    refine z_callD (c88n hx (fun q => h ⟨q, h1⟩)) (by omega) (by omega) (by omega) (Nat.le_of_ble_eq_true rfl) ?_
    try simp only [zW, z_wp1, z_ld, z_f0, z_f1, z_f2, z_f3, List.getElem?_cons_zero, List.getElem?_cons_succ, true_and, and_true, Int32.reduceOfInt, z_i10, z_i01, Int32.reduceLT, Int32.reduceLE, Int32.reduceAdd, Int32.reduceSub, z_set, z_set2, z_kil, List.set_cons_zero, List.set_cons_succ, List.take_succ_cons, List.take_zero, List.drop_succ_cons, List.drop_zero, List.reverse_cons, List.reverse_nil, List.nil_append, List.cons_append, List.getD_cons_succ, List.getD_cons_zero, List.getD_nil, List.length_cons, List.length_nil, List.map_cons, List.map_nil, List.sum_cons, List.sum_nil, Nat.reduceAdd, Nat.reduceLeDiff, Value.category, Option.toList, true_or, or_true, z_ua, ↓reduceIte, Nat.reduceEqDiff, eq_self, not_true_eq_false, not_false_eq_true, false_implies, true_implies, Classical.not_not, Nat.le_refl, Nat.zero_le]
    try dsimp only
    exact no
  · refine z_callD (c155 (h := (n, K, L, I, J, G)) mode) (by omega) (by omega) (by omega) (Nat.le_of_ble_eq_true rfl) ?_
    try simp only [zW, z_wp1, z_ld, z_f0, z_f1, z_f2, z_f3, List.getElem?_cons_zero, List.getElem?_cons_succ, true_and, and_true, Int32.reduceOfInt, z_i10, z_i01, Int32.reduceLT, Int32.reduceLE, Int32.reduceAdd, Int32.reduceSub, z_set, z_set2, z_kil, List.set_cons_zero, List.set_cons_succ, List.take_succ_cons, List.take_zero, List.drop_succ_cons, List.drop_zero, List.reverse_cons, List.reverse_nil, List.nil_append, List.cons_append, List.getD_cons_succ, List.getD_cons_zero, List.getD_nil, List.length_cons, List.length_nil, List.map_cons, List.map_nil, List.sum_cons, List.sum_nil, Nat.reduceAdd, Nat.reduceLeDiff, Value.category, Option.toList, true_or, or_true, z_ua, ↓reduceIte, Nat.reduceEqDiff, eq_self, not_true_eq_false, not_false_eq_true, false_implies, true_implies, Classical.not_not, Nat.le_refl, Nat.zero_le, z_b0 h1, sK5 hS, sG5_1 hS, sK10 hS]
    try dsimp only
    exact no
/-- against -/
theorem d135a (hx : XI n K L I J G M c F N tr cd D ch rr) (hr : rr < 600) {p q mode : Int32} (hp : m_isM N p) (hq : m_isM N q) (hmd : m_md mode) : z_Ctr l 6 135 [.ref 5, .int mode, .int p, .int q] (n, K, L, I, J, G) 0 0 (x_po n I J M c F N tr (rr + 1) (x_u L D) (.int (m_ag (mR M c N tr mode) p q F))) := by
  have hS : SS K L G := hx.S
  obtain ⟨f1, f2, f3, f4⟩ := hx.fn
  have hmd' : mode = 0 ∨ mode = 1 := hmd
  refine z_ctr (by decide) (by decide +kernel) (Nat.le_of_ble_eq_true rfl) (by decide +kernel) (fun X hl hj hd hm hs hsc hQ => ?_)
  show zV X 0 [some (.ref 5), some (.int mode), some (.int p), some (.int q)] [] _ 0 0
  refine zW_ok hj B135_0 0 _ _ _ _ _ b135_0 ?_
  simp only [B135_0, zW, z_wp1, z_ld, z_f0, z_f1, z_f2, z_f3, List.getElem?_cons_zero, List.getElem?_cons_succ, true_and, and_true, Int32.reduceOfInt, z_i10, z_i01, Int32.reduceLT, Int32.reduceLE, Int32.reduceAdd, Int32.reduceSub, z_set, z_set2, z_kil, List.set_cons_zero, List.set_cons_succ, List.take_succ_cons, List.take_zero, List.drop_succ_cons, List.drop_zero, List.reverse_cons, List.reverse_nil, List.nil_append, List.cons_append, List.getD_cons_succ, List.getD_cons_zero, List.getD_nil, List.length_cons, List.length_nil, List.map_cons, List.map_nil, List.sum_cons, List.sum_nil, Nat.reduceAdd, Nat.reduceLeDiff, Value.category, Option.toList, true_or, or_true, z_ua, ↓reduceIte, Nat.reduceEqDiff, eq_self, not_true_eq_false, not_false_eq_true, false_implies, true_implies, Classical.not_not, Nat.le_refl, Nat.zero_le, sK5 hS, sG5_1 hS, sK10 hS]
  try dsimp only
  refine z_callD (c155 (h := (n, K, L, I, J, G)) mode) (by omega) (by omega) (by omega) (Nat.le_of_ble_eq_true rfl) ?_
  try simp only [zW, z_wp1, z_ld, z_f0, z_f1, z_f2, z_f3, List.getElem?_cons_zero, List.getElem?_cons_succ, true_and, and_true, Int32.reduceOfInt, z_i10, z_i01, Int32.reduceLT, Int32.reduceLE, Int32.reduceAdd, Int32.reduceSub, z_set, z_set2, z_kil, List.set_cons_zero, List.set_cons_succ, List.take_succ_cons, List.take_zero, List.drop_succ_cons, List.drop_zero, List.reverse_cons, List.reverse_nil, List.nil_append, List.cons_append, List.getD_cons_succ, List.getD_cons_zero, List.getD_nil, List.length_cons, List.length_nil, List.map_cons, List.map_nil, List.sum_cons, List.sum_nil, Nat.reduceAdd, Nat.reduceLeDiff, Value.category, Option.toList, true_or, or_true, z_ua, ↓reduceIte, Nat.reduceEqDiff, eq_self, not_true_eq_false, not_false_eq_true, false_implies, true_implies, Classical.not_not, Nat.le_refl, Nat.zero_le, z_b1 hmd', sK5 hS, sG5_1 hS, sK10 hS]
  try dsimp only
  refine z_callD (c88y hx hp) (by omega) (by omega) (by omega) (Nat.le_of_ble_eq_true rfl) ?_
  try simp only [zW, z_wp1, z_ld, z_f0, z_f1, z_f2, z_f3, List.getElem?_cons_zero, List.getElem?_cons_succ, true_and, and_true, Int32.reduceOfInt, z_i10, z_i01, Int32.reduceLT, Int32.reduceLE, Int32.reduceAdd, Int32.reduceSub, z_set, z_set2, z_kil, List.set_cons_zero, List.set_cons_succ, List.take_succ_cons, List.take_zero, List.drop_succ_cons, List.drop_zero, List.reverse_cons, List.reverse_nil, List.nil_append, List.cons_append, List.getD_cons_succ, List.getD_cons_zero, List.getD_nil, List.length_cons, List.length_nil, List.map_cons, List.map_nil, List.sum_cons, List.sum_nil, Nat.reduceAdd, Nat.reduceLeDiff, Value.category, Option.toList, true_or, or_true, z_ua, ↓reduceIte, Nat.reduceEqDiff, eq_self, not_true_eq_false, not_false_eq_true, false_implies, true_implies, Classical.not_not, Nat.le_refl, Nat.zero_le, sK5 hS, sG5_1 hS, sK10 hS]
  try dsimp only
  refine z_callD (c88y hx hq) (by omega) (by omega) (by omega) (Nat.le_of_ble_eq_true rfl) ?_
  try simp only [zW, z_wp1, z_ld, z_f0, z_f1, z_f2, z_f3, List.getElem?_cons_zero, List.getElem?_cons_succ, true_and, and_true, Int32.reduceOfInt, z_i10, z_i01, Int32.reduceLT, Int32.reduceLE, Int32.reduceAdd, Int32.reduceSub, z_set, z_set2, z_kil, List.set_cons_zero, List.set_cons_succ, List.take_succ_cons, List.take_zero, List.drop_succ_cons, List.drop_zero, List.reverse_cons, List.reverse_nil, List.nil_append, List.cons_append, List.getD_cons_succ, List.getD_cons_zero, List.getD_nil, List.length_cons, List.length_nil, List.map_cons, List.map_nil, List.sum_cons, List.sum_nil, Nat.reduceAdd, Nat.reduceLeDiff, Value.category, Option.toList, true_or, or_true, z_ua, ↓reduceIte, Nat.reduceEqDiff, eq_self, not_true_eq_false, not_false_eq_true, false_implies, true_implies, Classical.not_not, Nat.le_refl, Nat.zero_le]
  try dsimp only
  refine zW_ok hj B135_31 31 _ _ _ _ _ b135_31 ?_
  simp only [B135_31, zW, z_wp1, z_ld, z_f0, z_f1, z_f2, z_f3, List.getElem?_cons_zero, List.getElem?_cons_succ, true_and, and_true, Int32.reduceOfInt, z_i10, z_i01, Int32.reduceLT, Int32.reduceLE, Int32.reduceAdd, Int32.reduceSub, z_set, z_set2, z_kil, List.set_cons_zero, List.set_cons_succ, List.take_succ_cons, List.take_zero, List.drop_succ_cons, List.drop_zero, List.reverse_cons, List.reverse_nil, List.nil_append, List.cons_append, List.getD_cons_succ, List.getD_cons_zero, List.getD_nil, List.length_cons, List.length_nil, List.map_cons, List.map_nil, List.sum_cons, List.sum_nil, Nat.reduceAdd, Nat.reduceLeDiff, Value.category, Option.toList, true_or, or_true, z_ua, ↓reduceIte, Nat.reduceEqDiff, eq_self, not_true_eq_false, not_false_eq_true, false_implies, true_implies, Classical.not_not, Nat.le_refl, Nat.zero_le, sK5 hS, sG5_1 hS, sK10 hS]
  try dsimp only
  refine z_callQ (c96x hx) (by omega) (by omega) (by omega) (Nat.le_of_ble_eq_true rfl) ?_
  rintro r h' ⟨rfl, I', rfl, hx', hI, hw⟩
  simp only [zW, z_wp1, z_ld, z_f0, z_f1, z_f2, z_f3, List.getElem?_cons_zero, List.getElem?_cons_succ, true_and, and_true, Int32.reduceOfInt, z_i10, z_i01, Int32.reduceLT, Int32.reduceLE, Int32.reduceAdd, Int32.reduceSub, z_set, z_set2, z_kil, List.set_cons_zero, List.set_cons_succ, List.take_succ_cons, List.take_zero, List.drop_succ_cons, List.drop_zero, List.reverse_cons, List.reverse_nil, List.nil_append, List.cons_append, List.getD_cons_succ, List.getD_cons_zero, List.getD_nil, List.length_cons, List.length_nil, List.map_cons, List.map_nil, List.sum_cons, List.sum_nil, Nat.reduceAdd, Nat.reduceLeDiff, Value.category, Option.toList, true_or, or_true, z_ua, ↓reduceIte, Nat.reduceEqDiff, eq_self, not_true_eq_false, not_false_eq_true, false_implies, true_implies, Classical.not_not, Nat.le_refl, Nat.zero_le, sK5 hS, sG5_1 hS, sK10 hS]
  try dsimp only
  refine z_callD (c100 (I := I') (J := J) hS hx'.fn.1 f2 p mode) (by omega) (by omega) (by omega) (Nat.le_of_ble_eq_true rfl) ?_
  try simp only [zW, z_wp1, z_ld, z_f0, z_f1, z_f2, z_f3, List.getElem?_cons_zero, List.getElem?_cons_succ, true_and, and_true, Int32.reduceOfInt, z_i10, z_i01, Int32.reduceLT, Int32.reduceLE, Int32.reduceAdd, Int32.reduceSub, z_set, z_set2, z_kil, List.set_cons_zero, List.set_cons_succ, List.take_succ_cons, List.take_zero, List.drop_succ_cons, List.drop_zero, List.reverse_cons, List.reverse_nil, List.nil_append, List.cons_append, List.getD_cons_succ, List.getD_cons_zero, List.getD_nil, List.length_cons, List.length_nil, List.map_cons, List.map_nil, List.sum_cons, List.sum_nil, Nat.reduceAdd, Nat.reduceLeDiff, Value.category, Option.toList, true_or, or_true, z_ua, ↓reduceIte, Nat.reduceEqDiff, eq_self, not_true_eq_false, not_false_eq_true, false_implies, true_implies, Classical.not_not, Nat.le_refl, Nat.zero_le, sK5 hS, sG5_1 hS, sK10 hS]
  try dsimp only
  refine z_callD (c100 (I := I') (J := J) hS hx'.fn.1 f2 q mode) (by omega) (by omega) (by omega) (Nat.le_of_ble_eq_true rfl) ?_
  try simp only [zW, z_wp1, z_ld, z_f0, z_f1, z_f2, z_f3, List.getElem?_cons_zero, List.getElem?_cons_succ, true_and, and_true, Int32.reduceOfInt, z_i10, z_i01, Int32.reduceLT, Int32.reduceLE, Int32.reduceAdd, Int32.reduceSub, z_set, z_set2, z_kil, List.set_cons_zero, List.set_cons_succ, List.take_succ_cons, List.take_zero, List.drop_succ_cons, List.drop_zero, List.reverse_cons, List.reverse_nil, List.nil_append, List.cons_append, List.getD_cons_succ, List.getD_cons_zero, List.getD_nil, List.length_cons, List.length_nil, List.map_cons, List.map_nil, List.sum_cons, List.sum_nil, Nat.reduceAdd, Nat.reduceLeDiff, Value.category, Option.toList, true_or, or_true, z_ua, ↓reduceIte, Nat.reduceEqDiff, eq_self, not_true_eq_false, not_false_eq_true, false_implies, true_implies, Classical.not_not, Nat.le_refl, Nat.zero_le]
  try dsimp only
  rw [m_have_congr (fun g hg => hw.row f4 hmd hg), m_have_congr (fun g hg => hw.row f4 hmd hg), m_ag_have f2]
  exact hQ _ _ (x_po.same hx hr hx' (fun q a _ => hI q (by omega)) _)
theorem d135b (hx : XI n K L I J G M c F N tr cd D ch rr) (hr : rr < 600) {p q mode : Int32} (h : ¬ (m_md mode ∧ m_isM N p ∧ m_isM N q)) : z_Ctr l 6 135 [.ref 5, .int mode, .int p, .int q] (n, K, L, I, J, G) 0 0 (x_po n I J M c F N tr (rr + 1) (x_u L D) (.int (-1))) := by
  have hS : SS K L G := hx.S
  refine z_ctr (by decide) (by decide +kernel) (Nat.le_of_ble_eq_true rfl) (by decide +kernel) (fun X hl hj hd hm hs hsc hQ => ?_)
  show zV X 0 [some (.ref 5), some (.int mode), some (.int p), some (.int q)] [] _ 0 0
  have no : zV X 29 [some (.ref 5), some (.int mode), some (.int p), some (.int q)] [] (n, K, L, I, J, G) 0 0 := by
    refine zW_ok hj B135_29 29 _ _ _ _ _ b135_29 ?_
    simp only [B135_29, zW, z_wp1, z_ld, z_f0, z_f1, z_f2, z_f3, List.getElem?_cons_zero, List.getElem?_cons_succ, true_and, and_true, Int32.reduceOfInt, z_i10, z_i01, Int32.reduceLT, Int32.reduceLE, Int32.reduceAdd, Int32.reduceSub, z_set, z_set2, z_kil, List.set_cons_zero, List.set_cons_succ, List.take_succ_cons, List.take_zero, List.drop_succ_cons, List.drop_zero, List.reverse_cons, List.reverse_nil, List.nil_append, List.cons_append, List.getD_cons_succ, List.getD_cons_zero, List.getD_nil, List.length_cons, List.length_nil, List.map_cons, List.map_nil, List.sum_cons, List.sum_nil, Nat.reduceAdd, Nat.reduceLeDiff, Value.category, Option.toList, true_or, or_true, z_ua, ↓reduceIte, Nat.reduceEqDiff, eq_self, not_true_eq_false, not_false_eq_true, false_implies, true_implies, Classical.not_not, Nat.le_refl, Nat.zero_le]
    try dsimp only
    exact hQ _ _ (x_po.id hx hr _)
  refine zW_ok hj B135_0 0 _ _ _ _ _ b135_0 ?_
  simp only [B135_0, zW, z_wp1, z_ld, z_f0, z_f1, z_f2, z_f3, List.getElem?_cons_zero, List.getElem?_cons_succ, true_and, and_true, Int32.reduceOfInt, z_i10, z_i01, Int32.reduceLT, Int32.reduceLE, Int32.reduceAdd, Int32.reduceSub, z_set, z_set2, z_kil, List.set_cons_zero, List.set_cons_succ, List.take_succ_cons, List.take_zero, List.drop_succ_cons, List.drop_zero, List.reverse_cons, List.reverse_nil, List.nil_append, List.cons_append, List.getD_cons_succ, List.getD_cons_zero, List.getD_nil, List.length_cons, List.length_nil, List.map_cons, List.map_nil, List.sum_cons, List.sum_nil, Nat.reduceAdd, Nat.reduceLeDiff, Value.category, Option.toList, true_or, or_true, z_ua, ↓reduceIte, Nat.reduceEqDiff, eq_self, not_true_eq_false, not_false_eq_true, false_implies, true_implies, Classical.not_not, Nat.le_refl, Nat.zero_le, sK5 hS, sG5_1 hS, sK10 hS]
  try dsimp only
  by_cases h1 : mode = 0 ∨ mode = 1
  · refine z_callD (c155 (h := (n, K, L, I, J, G)) mode) (by omega) (by omega) (by omega) (Nat.le_of_ble_eq_true rfl) ?_
    try simp only [zW, z_wp1, z_ld, z_f0, z_f1, z_f2, z_f3, List.getElem?_cons_zero, List.getElem?_cons_succ, true_and, and_true, Int32.reduceOfInt, z_i10, z_i01, Int32.reduceLT, Int32.reduceLE, Int32.reduceAdd, Int32.reduceSub, z_set, z_set2, z_kil, List.set_cons_zero, List.set_cons_succ, List.take_succ_cons, List.take_zero, List.drop_succ_cons, List.drop_zero, List.reverse_cons, List.reverse_nil, List.nil_append, List.cons_append, List.getD_cons_succ, List.getD_cons_zero, List.getD_nil, List.length_cons, List.length_nil, List.map_cons, List.map_nil, List.sum_cons, List.sum_nil, Nat.reduceAdd, Nat.reduceLeDiff, Value.category, Option.toList, true_or, or_true, z_ua, ↓reduceIte, Nat.reduceEqDiff, eq_self, not_true_eq_false, not_false_eq_true, false_implies, true_implies, Classical.not_not, Nat.le_refl, Nat.zero_le, z_b1 h1, sK5 hS, sG5_1 hS, sK10 hS]
    try dsimp only
    by_cases h2 : m_isM N p
    · refine z_callD (c88y hx h2) (by omega) (by omega) (by omega) (Nat.le_of_ble_eq_true rfl) ?_
      try simp only [zW, z_wp1, z_ld, z_f0, z_f1, z_f2, z_f3, List.getElem?_cons_zero, List.getElem?_cons_succ, true_and, and_true, Int32.reduceOfInt, z_i10, z_i01, Int32.reduceLT, Int32.reduceLE, Int32.reduceAdd, Int32.reduceSub, z_set, z_set2, z_kil, List.set_cons_zero, List.set_cons_succ, List.take_succ_cons, List.take_zero, List.drop_succ_cons, List.drop_zero, List.reverse_cons, List.reverse_nil, List.nil_append, List.cons_append, List.getD_cons_succ, List.getD_cons_zero, List.getD_nil, List.length_cons, List.length_nil, List.map_cons, List.map_nil, List.sum_cons, List.sum_nil, Nat.reduceAdd, Nat.reduceLeDiff, Value.category, Option.toList, true_or, or_true, z_ua, ↓reduceIte, Nat.reduceEqDiff, eq_self, not_true_eq_false, not_false_eq_true, false_implies, true_implies, Classical.not_not, Nat.le_refl, Nat.zero_le, sK5 hS, sG5_1 hS, sK10 hS]
      try dsimp only
      refine z_callD (c88n hx (fun z => h ⟨h1, h2, z⟩)) (by omega) (by omega) (by omega) (Nat.le_of_ble_eq_true rfl) ?_
      try simp only [zW, z_wp1, z_ld, z_f0, z_f1, z_f2, z_f3, List.getElem?_cons_zero, List.getElem?_cons_succ, true_and, and_true, Int32.reduceOfInt, z_i10, z_i01, Int32.reduceLT, Int32.reduceLE, Int32.reduceAdd, Int32.reduceSub, z_set, z_set2, z_kil, List.set_cons_zero, List.set_cons_succ, List.take_succ_cons, List.take_zero, List.drop_succ_cons, List.drop_zero, List.reverse_cons, List.reverse_nil, List.nil_append, List.cons_append, List.getD_cons_succ, List.getD_cons_zero, List.getD_nil, List.length_cons, List.length_nil, List.map_cons, List.map_nil, List.sum_cons, List.sum_nil, Nat.reduceAdd, Nat.reduceLeDiff, Value.category, Option.toList, true_or, or_true, z_ua, ↓reduceIte, Nat.reduceEqDiff, eq_self, not_true_eq_false, not_false_eq_true, false_implies, true_implies, Classical.not_not, Nat.le_refl, Nat.zero_le]
      try dsimp only
      exact no
    · refine z_callD (c88n hx h2) (by omega) (by omega) (by omega) (Nat.le_of_ble_eq_true rfl) ?_
      try simp only [zW, z_wp1, z_ld, z_f0, z_f1, z_f2, z_f3, List.getElem?_cons_zero, List.getElem?_cons_succ, true_and, and_true, Int32.reduceOfInt, z_i10, z_i01, Int32.reduceLT, Int32.reduceLE, Int32.reduceAdd, Int32.reduceSub, z_set, z_set2, z_kil, List.set_cons_zero, List.set_cons_succ, List.take_succ_cons, List.take_zero, List.drop_succ_cons, List.drop_zero, List.reverse_cons, List.reverse_nil, List.nil_append, List.cons_append, List.getD_cons_succ, List.getD_cons_zero, List.getD_nil, List.length_cons, List.length_nil, List.map_cons, List.map_nil, List.sum_cons, List.sum_nil, Nat.reduceAdd, Nat.reduceLeDiff, Value.category, Option.toList, true_or, or_true, z_ua, ↓reduceIte, Nat.reduceEqDiff, eq_self, not_true_eq_false, not_false_eq_true, false_implies, true_implies, Classical.not_not, Nat.le_refl, Nat.zero_le, sK5 hS, sG5_1 hS, sK10 hS]
      try dsimp only
      exact no
  · refine z_callD (c155 (h := (n, K, L, I, J, G)) mode) (by omega) (by omega) (by omega) (Nat.le_of_ble_eq_true rfl) ?_
    try simp only [zW, z_wp1, z_ld, z_f0, z_f1, z_f2, z_f3, List.getElem?_cons_zero, List.getElem?_cons_succ, true_and, and_true, Int32.reduceOfInt, z_i10, z_i01, Int32.reduceLT, Int32.reduceLE, Int32.reduceAdd, Int32.reduceSub, z_set, z_set2, z_kil, List.set_cons_zero, List.set_cons_succ, List.take_succ_cons, List.take_zero, List.drop_succ_cons, List.drop_zero, List.reverse_cons, List.reverse_nil, List.nil_append, List.cons_append, List.getD_cons_succ, List.getD_cons_zero, List.getD_nil, List.length_cons, List.length_nil, List.map_cons, List.map_nil, List.sum_cons, List.sum_nil, Nat.reduceAdd, Nat.reduceLeDiff, Value.category, Option.toList, true_or, or_true, z_ua, ↓reduceIte, Nat.reduceEqDiff, eq_self, not_true_eq_false, not_false_eq_true, false_implies, true_implies, Classical.not_not, Nat.le_refl, Nat.zero_le, z_b0 h1, sK5 hS, sG5_1 hS, sK10 hS]
    try dsimp only
    exact no
/-- mark -/
theorem d124a (hx : XI n K L I J G M c F N tr cd D ch rr) (hr : rr < 600) {f i : Nat} (hf : f < F) (hi : i < N) : z_Ctr l 6 124 [.ref 5, .int (nI f), .int (nI i)] (n, K, L, I, J, G) 0 0 (x_po n I J M c F N tr (rr + 1) (x_u L D) (.int (mTv M c tr i (nI f)))) := by
  have hS : SS K L G := hx.S
  obtain ⟨f1, f2, f3, f4⟩ := hx.fn
  have h1 : (0 : Int32) ≤ nI f ∧ nI f < I 10 0 := ⟨nI_pos' (by omega), by rw [f1]; exact nI_lt hf (by omega)⟩
  have h2 : (0 : Int32) ≤ nI i ∧ nI i < I cd 3 := ⟨nI_pos' (by omega), by rw [f3]; exact nI_lt hi (by omega)⟩
  refine z_ctr (by decide) (by decide +kernel) (Nat.le_of_ble_eq_true rfl) (by decide +kernel) (fun X hl hj hd hm hs hsc hQ => ?_)
  show zV X 0 [some (.ref 5), some (.int (nI f)), some (.int (nI i))] [] _ 0 0
  refine zW_ok hj B124_0 0 _ _ _ _ _ b124_0 ?_
  simp only [B124_0, zW, z_wp1, z_ld, z_f0, z_f1, z_f2, z_f3, List.getElem?_cons_zero, List.getElem?_cons_succ, true_and, and_true, Int32.reduceOfInt, z_i10, z_i01, Int32.reduceLT, Int32.reduceLE, Int32.reduceAdd, Int32.reduceSub, z_set, z_set2, z_kil, List.set_cons_zero, List.set_cons_succ, List.take_succ_cons, List.take_zero, List.drop_succ_cons, List.drop_zero, List.reverse_cons, List.reverse_nil, List.nil_append, List.cons_append, List.getD_cons_succ, List.getD_cons_zero, List.getD_nil, List.length_cons, List.length_nil, List.map_cons, List.map_nil, List.sum_cons, List.sum_nil, Nat.reduceAdd, Nat.reduceLeDiff, Value.category, Option.toList, true_or, or_true, z_ua, ↓reduceIte, Nat.reduceEqDiff, eq_self, not_true_eq_false, not_false_eq_true, false_implies, true_implies, Classical.not_not, Nat.le_refl, Nat.zero_le, sK5 hS, sG5_1 hS, sK10 hS]
  try dsimp only
  refine z_callD (c86 (I := I) (J := J) hS (nI f)) (by omega) (by omega) (by omega) (Nat.le_of_ble_eq_true rfl) ?_
  try simp only [zW, z_wp1, z_ld, z_f0, z_f1, z_f2, z_f3, List.getElem?_cons_zero, List.getElem?_cons_succ, true_and, and_true, Int32.reduceOfInt, z_i10, z_i01, Int32.reduceLT, Int32.reduceLE, Int32.reduceAdd, Int32.reduceSub, z_set, z_set2, z_kil, List.set_cons_zero, List.set_cons_succ, List.take_succ_cons, List.take_zero, List.drop_succ_cons, List.drop_zero, List.reverse_cons, List.reverse_nil, List.nil_append, List.cons_append, List.getD_cons_succ, List.getD_cons_zero, List.getD_nil, List.length_cons, List.length_nil, List.map_cons, List.map_nil, List.sum_cons, List.sum_nil, Nat.reduceAdd, Nat.reduceLeDiff, Value.category, Option.toList, true_or, or_true, z_ua, ↓reduceIte, Nat.reduceEqDiff, eq_self, not_true_eq_false, not_false_eq_true, false_implies, true_implies, Classical.not_not, Nat.le_refl, Nat.zero_le, z_b1 h1, sK5 hS, sG5_1 hS, sK10 hS]
  try dsimp only
  refine z_callD (c89 (I := I) (J := J) hS hx.C (nI i)) (by omega) (by omega) (by omega) (Nat.le_of_ble_eq_true rfl) ?_
  try simp only [zW, z_wp1, z_ld, z_f0, z_f1, z_f2, z_f3, List.getElem?_cons_zero, List.getElem?_cons_succ, true_and, and_true, Int32.reduceOfInt, z_i10, z_i01, Int32.reduceLT, Int32.reduceLE, Int32.reduceAdd, Int32.reduceSub, z_set, z_set2, z_kil, List.set_cons_zero, List.set_cons_succ, List.take_succ_cons, List.take_zero, List.drop_succ_cons, List.drop_zero, List.reverse_cons, List.reverse_nil, List.nil_append, List.cons_append, List.getD_cons_succ, List.getD_cons_zero, List.getD_nil, List.length_cons, List.length_nil, List.map_cons, List.map_nil, List.sum_cons, List.sum_nil, Nat.reduceAdd, Nat.reduceLeDiff, Value.category, Option.toList, true_or, or_true, z_ua, ↓reduceIte, Nat.reduceEqDiff, eq_self, not_true_eq_false, not_false_eq_true, false_implies, true_implies, Classical.not_not, Nat.le_refl, Nat.zero_le, z_b1 h2]
  try dsimp only
  refine zW_ok hj B124_24 24 _ _ _ _ _ b124_24 ?_
  simp only [B124_24, zW, z_wp1, z_ld, z_f0, z_f1, z_f2, z_f3, List.getElem?_cons_zero, List.getElem?_cons_succ, true_and, and_true, Int32.reduceOfInt, z_i10, z_i01, Int32.reduceLT, Int32.reduceLE, Int32.reduceAdd, Int32.reduceSub, z_set, z_set2, z_kil, List.set_cons_zero, List.set_cons_succ, List.take_succ_cons, List.take_zero, List.drop_succ_cons, List.drop_zero, List.reverse_cons, List.reverse_nil, List.nil_append, List.cons_append, List.getD_cons_succ, List.getD_cons_zero, List.getD_nil, List.length_cons, List.length_nil, List.map_cons, List.map_nil, List.sum_cons, List.sum_nil, Nat.reduceAdd, Nat.reduceLeDiff, Value.category, Option.toList, true_or, or_true, z_ua, ↓reduceIte, Nat.reduceEqDiff, eq_self, not_true_eq_false, not_false_eq_true, false_implies, true_implies, Classical.not_not, Nat.le_refl, Nat.zero_le, sK5 hS, sG5_1 hS, sK10 hS]
  try dsimp only
  refine z_callQ (c96x hx) (by omega) (by omega) (by omega) (Nat.le_of_ble_eq_true rfl) ?_
  rintro r h' ⟨rfl, I', rfl, hx', hI, hw⟩
  simp only [zW, z_wp1, z_ld, z_f0, z_f1, z_f2, z_f3, List.getElem?_cons_zero, List.getElem?_cons_succ, true_and, and_true, Int32.reduceOfInt, z_i10, z_i01, Int32.reduceLT, Int32.reduceLE, Int32.reduceAdd, Int32.reduceSub, z_set, z_set2, z_kil, List.set_cons_zero, List.set_cons_succ, List.take_succ_cons, List.take_zero, List.drop_succ_cons, List.drop_zero, List.reverse_cons, List.reverse_nil, List.nil_append, List.cons_append, List.getD_cons_succ, List.getD_cons_zero, List.getD_nil, List.length_cons, List.length_nil, List.map_cons, List.map_nil, List.sum_cons, List.sum_nil, Nat.reduceAdd, Nat.reduceLeDiff, Value.category, Option.toList, true_or, or_true, z_ua, ↓reduceIte, Nat.reduceEqDiff, eq_self, not_true_eq_false, not_false_eq_true, false_implies, true_implies, Classical.not_not, Nat.le_refl, Nat.zero_le, sK5 hS, sG5_1 hS, sK10 hS]
  try dsimp only
  refine z_callD (c97 (I := I') (J := J) hS (show f < 16 by omega) (nI i)) (by omega) (by omega) (by omega) (Nat.le_of_ble_eq_true rfl) ?_
  try simp only [zW, z_wp1, z_ld, z_f0, z_f1, z_f2, z_f3, List.getElem?_cons_zero, List.getElem?_cons_succ, true_and, and_true, Int32.reduceOfInt, z_i10, z_i01, Int32.reduceLT, Int32.reduceLE, Int32.reduceAdd, Int32.reduceSub, z_set, z_set2, z_kil, List.set_cons_zero, List.set_cons_succ, List.take_succ_cons, List.take_zero, List.drop_succ_cons, List.drop_zero, List.reverse_cons, List.reverse_nil, List.nil_append, List.cons_append, List.getD_cons_succ, List.getD_cons_zero, List.getD_nil, List.length_cons, List.length_nil, List.map_cons, List.map_nil, List.sum_cons, List.sum_nil, Nat.reduceAdd, Nat.reduceLeDiff, Value.category, Option.toList, true_or, or_true, z_ua, ↓reduceIte, Nat.reduceEqDiff, eq_self, not_true_eq_false, not_false_eq_true, false_implies, true_implies, Classical.not_not, Nat.le_refl, Nat.zero_le]
  try dsimp only
  rw [l_truth (T := fun i => mTv M c tr i (nI f)) (by omega) hi (hx.2.2.2.1.2.2.2.2.2.2.1 i hi _) (hw f hf).1 (hw f hf).2]
  exact hQ _ _ (x_po.same hx hr hx' (fun q a _ => hI q (by omega)) _)
theorem d124b (hx : XI n K L I J G M c F N tr cd D ch rr) (hr : rr < 600) {f i : Int32} (h : ¬ ((0 ≤ f ∧ f < nI F) ∧ (0 ≤ i ∧ i < nI N))) : z_Ctr l 6 124 [.ref 5, .int f, .int i] (n, K, L, I, J, G) 0 0 (x_po n I J M c F N tr (rr + 1) (x_u L D) (.int (-1))) := by
  have hS : SS K L G := hx.S
  obtain ⟨f1, f2, f3, f4⟩ := hx.fn
  refine z_ctr (by decide) (by decide +kernel) (Nat.le_of_ble_eq_true rfl) (by decide +kernel) (fun X hl hj hd hm hs hsc hQ => ?_)
  show zV X 0 [some (.ref 5), some (.int f), some (.int i)] [] _ 0 0
  have no : zV X 22 [some (.ref 5), some (.int f), some (.int i)] [] (n, K, L, I, J, G) 0 0 := by
    refine zW_ok hj B124_22 22 _ _ _ _ _ b124_22 ?_
    simp only [B124_22, zW, z_wp1, z_ld, z_f0, z_f1, z_f2, z_f3, List.getElem?_cons_zero, List.getElem?_cons_succ, true_and, and_true, Int32.reduceOfInt, z_i10, z_i01, Int32.reduceLT, Int32.reduceLE, Int32.reduceAdd, Int32.reduceSub, z_set, z_set2, z_kil, List.set_cons_zero, List.set_cons_succ, List.take_succ_cons, List.take_zero, List.drop_succ_cons, List.drop_zero, List.reverse_cons, List.reverse_nil, List.nil_append, List.cons_append, List.getD_cons_succ, List.getD_cons_zero, List.getD_nil, List.length_cons, List.length_nil, List.map_cons, List.map_nil, List.sum_cons, List.sum_nil, Nat.reduceAdd, Nat.reduceLeDiff, Value.category, Option.toList, true_or, or_true, z_ua, ↓reduceIte, Nat.reduceEqDiff, eq_self, not_true_eq_false, not_false_eq_true, false_implies, true_implies, Classical.not_not, Nat.le_refl, Nat.zero_le]
    try dsimp only
    exact hQ _ _ (x_po.id hx hr _)
  refine zW_ok hj B124_0 0 _ _ _ _ _ b124_0 ?_
  simp only [B124_0, zW, z_wp1, z_ld, z_f0, z_f1, z_f2, z_f3, List.getElem?_cons_zero, List.getElem?_cons_succ, true_and, and_true, Int32.reduceOfInt, z_i10, z_i01, Int32.reduceLT, Int32.reduceLE, Int32.reduceAdd, Int32.reduceSub, z_set, z_set2, z_kil, List.set_cons_zero, List.set_cons_succ, List.take_succ_cons, List.take_zero, List.drop_succ_cons, List.drop_zero, List.reverse_cons, List.reverse_nil, List.nil_append, List.cons_append, List.getD_cons_succ, List.getD_cons_zero, List.getD_nil, List.length_cons, List.length_nil, List.map_cons, List.map_nil, List.sum_cons, List.sum_nil, Nat.reduceAdd, Nat.reduceLeDiff, Value.category, Option.toList, true_or, or_true, z_ua, ↓reduceIte, Nat.reduceEqDiff, eq_self, not_true_eq_false, not_false_eq_true, false_implies, true_implies, Classical.not_not, Nat.le_refl, Nat.zero_le, sK5 hS, sG5_1 hS, sK10 hS]
  try dsimp only
  by_cases h1 : 0 ≤ f ∧ f < I 10 0
  · refine z_callD (c86 (I := I) (J := J) hS f) (by omega) (by omega) (by omega) (Nat.le_of_ble_eq_true rfl) ?_
    try simp only [zW, z_wp1, z_ld, z_f0, z_f1, z_f2, z_f3, List.getElem?_cons_zero, List.getElem?_cons_succ, true_and, and_true, Int32.reduceOfInt, z_i10, z_i01, Int32.reduceLT, Int32.reduceLE, Int32.reduceAdd, Int32.reduceSub, z_set, z_set2, z_kil, List.set_cons_zero, List.set_cons_succ, List.take_succ_cons, List.take_zero, List.drop_succ_cons, List.drop_zero, List.reverse_cons, List.reverse_nil, List.nil_append, List.cons_append, List.getD_cons_succ, List.getD_cons_zero, List.getD_nil, List.length_cons, List.length_nil, List.map_cons, List.map_nil, List.sum_cons, List.sum_nil, Nat.reduceAdd, Nat.reduceLeDiff, Value.category, Option.toList, true_or, or_true, z_ua, ↓reduceIte, Nat.reduceEqDiff, eq_self, not_true_eq_false, not_false_eq_true, false_implies, true_implies, Classical.not_not, Nat.le_refl, Nat.zero_le, z_b1 h1, sK5 hS, sG5_1 hS, sK10 hS]
    try dsimp only
    have h2 : ¬ (0 ≤ i ∧ i < I cd 3) := fun q => h ⟨by rw [f1] at h1; exact h1, by rw [f3] at q; exact q⟩
    refine z_callD (c89 (I := I) (J := J) hS hx.C i) (by omega) (by omega) (by omega) (Nat.le_of_ble_eq_true rfl) ?_
    try simp only [zW, z_wp1, z_ld, z_f0, z_f1, z_f2, z_f3, List.getElem?_cons_zero, List.getElem?_cons_succ, true_and, and_true, Int32.reduceOfInt, z_i10, z_i01, Int32.reduceLT, Int32.reduceLE, Int32.reduceAdd, Int32.reduceSub, z_set, z_set2, z_kil, List.set_cons_zero, List.set_cons_succ, List.take_succ_cons, List.take_zero, List.drop_succ_cons, List.drop_zero, List.reverse_cons, List.reverse_nil, List.nil_append, List.cons_append, List.getD_cons_succ, List.getD_cons_zero, List.getD_nil, List.length_cons, List.length_nil, List.map_cons, List.map_nil, List.sum_cons, List.sum_nil, Nat.reduceAdd, Nat.reduceLeDiff, Value.category, Option.toList, true_or, or_true, z_ua, ↓reduceIte, Nat.reduceEqDiff, eq_self, not_true_eq_false, not_false_eq_true, false_implies, true_implies, Classical.not_not, Nat.le_refl, Nat.zero_le, z_b0 h2]
    try dsimp only
    exact no
  · refine z_callD (c86 (I := I) (J := J) hS f) (by omega) (by omega) (by omega) (Nat.le_of_ble_eq_true rfl) ?_
    try simp only [zW, z_wp1, z_ld, z_f0, z_f1, z_f2, z_f3, List.getElem?_cons_zero, List.getElem?_cons_succ, true_and, and_true, Int32.reduceOfInt, z_i10, z_i01, Int32.reduceLT, Int32.reduceLE, Int32.reduceAdd, Int32.reduceSub, z_set, z_set2, z_kil, List.set_cons_zero, List.set_cons_succ, List.take_succ_cons, List.take_zero, List.drop_succ_cons, List.drop_zero, List.reverse_cons, List.reverse_nil, List.nil_append, List.cons_append, List.getD_cons_succ, List.getD_cons_zero, List.getD_nil, List.length_cons, List.length_nil, List.map_cons, List.map_nil, List.sum_cons, List.sum_nil, Nat.reduceAdd, Nat.reduceLeDiff, Value.category, Option.toList, true_or, or_true, z_ua, ↓reduceIte, Nat.reduceEqDiff, eq_self, not_true_eq_false, not_false_eq_true, false_implies, true_implies, Classical.not_not, Nat.le_refl, Nat.zero_le, z_b0 h1, sK5 hS, sG5_1 hS, sK10 hS]
    try dsimp only
    exact no
/-- value -/
theorem d119a (hx : XI n K L I J G M c F N tr cd D ch rr) (hr : rr < 600) {f m : Nat} (hf : f < F) (hm6 : m < 6) : z_Ctr l 6 119 [.ref 5, .int (nI f), .int (nI m)] (n, K, L, I, J, G) 0 0 (x_po n I J M c F N tr (rr + 1) (x_u L D) (.int (mI_known M c (M 71 8) (nI f) (nI m) (M 71 9)))) := by
  have hS : SS K L G := hx.S
  obtain ⟨f1, f2, f3, f4⟩ := hx.fn
  obtain ⟨a1, a2, a3, a4, a5, -⟩ := hx.2.2.2.1
  have h1 : (0 : Int32) ≤ nI f ∧ nI f < I 10 0 := ⟨nI_pos' (by omega), by rw [f1]; exact nI_lt hf (by omega)⟩
  have h2 : (0 : Int32) ≤ nI m ∧ nI m ≤ 5 := ⟨nI_pos' (by omega), nI_le (b := 5) (by omega) (by omega)⟩
  have e6 : nI f * 6 + nI m = nI (6 * f + m) := by rw [show (6 : Int32) = nI 6 from rfl, nI_mul, nI_add, Nat.mul_comm]
  have em := l_me (I := I) (q := 11) a5 a4 (show f < 16 by omega) hm6
  have em2 : x_two (I 10 1) (I 11 (6 * f + m)) (I 11 (96 + (6 * f + m))) = mI_known M c (M 71 8) (nI f) (nI m) (M 71 9) := by
    rw [a2, ← em]
    unfold x_me
    rw [nI_clamp (by omega)]
  refine z_ctr (by decide) (by decide +kernel) (Nat.le_of_ble_eq_true rfl) (by decide +kernel) (fun X hl hj hd hm hs hsc hQ => ?_)
  show zV X 0 [some (.ref 5), some (.int (nI f)), some (.int (nI m))] [] _ 0 0
  refine zW_ok hj B119_0 0 _ _ _ _ _ b119_0 ?_
  simp only [B119_0, zW, z_wp1, z_ld, z_f0, z_f1, z_f2, z_f3, List.getElem?_cons_zero, List.getElem?_cons_succ, true_and, and_true, Int32.reduceOfInt, z_i10, z_i01, Int32.reduceLT, Int32.reduceLE, Int32.reduceAdd, Int32.reduceSub, z_set, z_set2, z_kil, List.set_cons_zero, List.set_cons_succ, List.take_succ_cons, List.take_zero, List.drop_succ_cons, List.drop_zero, List.reverse_cons, List.reverse_nil, List.nil_append, List.cons_append, List.getD_cons_succ, List.getD_cons_zero, List.getD_nil, List.length_cons, List.length_nil, List.map_cons, List.map_nil, List.sum_cons, List.sum_nil, Nat.reduceAdd, Nat.reduceLeDiff, Value.category, Option.toList, true_or, or_true, z_ua, ↓reduceIte, Nat.reduceEqDiff, eq_self, not_true_eq_false, not_false_eq_true, false_implies, true_implies, Classical.not_not, Nat.le_refl, Nat.zero_le, sK5 hS, sG5_1 hS, sK10 hS]
  try dsimp only
  refine z_callD (c86 (I := I) (J := J) hS (nI f)) (by omega) (by omega) (by omega) (Nat.le_of_ble_eq_true rfl) ?_
  try simp only [zW, z_wp1, z_ld, z_f0, z_f1, z_f2, z_f3, List.getElem?_cons_zero, List.getElem?_cons_succ, true_and, and_true, Int32.reduceOfInt, z_i10, z_i01, Int32.reduceLT, Int32.reduceLE, Int32.reduceAdd, Int32.reduceSub, z_set, z_set2, z_kil, List.set_cons_zero, List.set_cons_succ, List.take_succ_cons, List.take_zero, List.drop_succ_cons, List.drop_zero, List.reverse_cons, List.reverse_nil, List.nil_append, List.cons_append, List.getD_cons_succ, List.getD_cons_zero, List.getD_nil, List.length_cons, List.length_nil, List.map_cons, List.map_nil, List.sum_cons, List.sum_nil, Nat.reduceAdd, Nat.reduceLeDiff, Value.category, Option.toList, true_or, or_true, z_ua, ↓reduceIte, Nat.reduceEqDiff, eq_self, not_true_eq_false, not_false_eq_true, false_implies, true_implies, Classical.not_not, Nat.le_refl, Nat.zero_le, z_b1 h1]
  try dsimp only
  refine z_callD (c152 (h := (n, K, L, I, J, G)) (nI m)) (by omega) (by omega) (by omega) (Nat.le_of_ble_eq_true rfl) ?_
  try simp only [zW, z_wp1, z_ld, z_f0, z_f1, z_f2, z_f3, List.getElem?_cons_zero, List.getElem?_cons_succ, true_and, and_true, Int32.reduceOfInt, z_i10, z_i01, Int32.reduceLT, Int32.reduceLE, Int32.reduceAdd, Int32.reduceSub, z_set, z_set2, z_kil, List.set_cons_zero, List.set_cons_succ, List.take_succ_cons, List.take_zero, List.drop_succ_cons, List.drop_zero, List.reverse_cons, List.reverse_nil, List.nil_append, List.cons_append, List.getD_cons_succ, List.getD_cons_zero, List.getD_nil, List.length_cons, List.length_nil, List.map_cons, List.map_nil, List.sum_cons, List.sum_nil, Nat.reduceAdd, Nat.reduceLeDiff, Value.category, Option.toList, true_or, or_true, z_ua, ↓reduceIte, Nat.reduceEqDiff, eq_self, not_true_eq_false, not_false_eq_true, false_implies, true_implies, Classical.not_not, Nat.le_refl, Nat.zero_le, z_b1 h2]
  try dsimp only
  refine zW_ok hj B119_20 20 _ _ _ _ _ b119_20 ?_
  simp only [B119_20, zW, z_wp1, z_ld, z_f0, z_f1, z_f2, z_f3, List.getElem?_cons_zero, List.getElem?_cons_succ, true_and, and_true, Int32.reduceOfInt, z_i10, z_i01, Int32.reduceLT, Int32.reduceLE, Int32.reduceAdd, Int32.reduceSub, z_set, z_set2, z_kil, List.set_cons_zero, List.set_cons_succ, List.take_succ_cons, List.take_zero, List.drop_succ_cons, List.drop_zero, List.reverse_cons, List.reverse_nil, List.nil_append, List.cons_append, List.getD_cons_succ, List.getD_cons_zero, List.getD_nil, List.length_cons, List.length_nil, List.map_cons, List.map_nil, List.sum_cons, List.sum_nil, Nat.reduceAdd, Nat.reduceLeDiff, Value.category, Option.toList, true_or, or_true, z_ua, ↓reduceIte, Nat.reduceEqDiff, eq_self, not_true_eq_false, not_false_eq_true, false_implies, true_implies, Classical.not_not, Nat.le_refl, Nat.zero_le, sK5 hS, sG5_1 hS, sK10 hS, sK10 hS, sG10_3 hS, sK11 hS, sL11 hS, e6]
  try dsimp only
  refine z_callD (c156 (p := 11) (I := I) (J := J) (sK11 hS) (sL11 hS) (show 6 * f + m < 96 by omega) (I 10 1)) (by omega) (by omega) (by omega) (Nat.le_of_ble_eq_true rfl) ?_
  try simp only [zW, z_wp1, z_ld, z_f0, z_f1, z_f2, z_f3, List.getElem?_cons_zero, List.getElem?_cons_succ, true_and, and_true, Int32.reduceOfInt, z_i10, z_i01, Int32.reduceLT, Int32.reduceLE, Int32.reduceAdd, Int32.reduceSub, z_set, z_set2, z_kil, List.set_cons_zero, List.set_cons_succ, List.take_succ_cons, List.take_zero, List.drop_succ_cons, List.drop_zero, List.reverse_cons, List.reverse_nil, List.nil_append, List.cons_append, List.getD_cons_succ, List.getD_cons_zero, List.getD_nil, List.length_cons, List.length_nil, List.map_cons, List.map_nil, List.sum_cons, List.sum_nil, Nat.reduceAdd, Nat.reduceLeDiff, Value.category, Option.toList, true_or, or_true, z_ua, ↓reduceIte, Nat.reduceEqDiff, eq_self, not_true_eq_false, not_false_eq_true, false_implies, true_implies, Classical.not_not, Nat.le_refl, Nat.zero_le]
  try dsimp only
  rw [em2]
  exact hQ _ _ (x_po.id hx hr _)
theorem d119b (hx : XI n K L I J G M c F N tr cd D ch rr) (hr : rr < 600) {f m : Int32} (h : ¬ ((0 ≤ f ∧ f < nI F) ∧ (0 ≤ m ∧ m ≤ 5))) : z_Ctr l 6 119 [.ref 5, .int f, .int m] (n, K, L, I, J, G) 0 0 (x_po n I J M c F N tr (rr + 1) (x_u L D) (.int (-1))) := by
  have hS : SS K L G := hx.S
  obtain ⟨f1, f2, f3, f4⟩ := hx.fn
  refine z_ctr (by decide) (by decide +kernel) (Nat.le_of_ble_eq_true rfl) (by decide +kernel) (fun X hl hj hd hm hs hsc hQ => ?_)
  show zV X 0 [some (.ref 5), some (.int f), some (.int m)] [] _ 0 0
  have no : zV X 18 [some (.ref 5), some (.int f), some (.int m)] [] (n, K, L, I, J, G) 0 0 := by
    refine zW_ok hj B119_18 18 _ _ _ _ _ b119_18 ?_
    simp only [B119_18, zW, z_wp1, z_ld, z_f0, z_f1, z_f2, z_f3, List.getElem?_cons_zero, List.getElem?_cons_succ, true_and, and_true, Int32.reduceOfInt, z_i10, z_i01, Int32.reduceLT, Int32.reduceLE, Int32.reduceAdd, Int32.reduceSub, z_set, z_set2, z_kil, List.set_cons_zero, List.set_cons_succ, List.take_succ_cons, List.take_zero, List.drop_succ_cons, List.drop_zero, List.reverse_cons, List.reverse_nil, List.nil_append, List.cons_append, List.getD_cons_succ, List.getD_cons_zero, List.getD_nil, List.length_cons, List.length_nil, List.map_cons, List.map_nil, List.sum_cons, List.sum_nil, Nat.reduceAdd, Nat.reduceLeDiff, Value.category, Option.toList, true_or, or_true, z_ua, ↓reduceIte, Nat.reduceEqDiff, eq_self, not_true_eq_false, not_false_eq_true, false_implies, true_implies, Classical.not_not, Nat.le_refl, Nat.zero_le]
    try dsimp only
    exact hQ _ _ (x_po.id hx hr _)
  refine zW_ok hj B119_0 0 _ _ _ _ _ b119_0 ?_
  simp only [B119_0, zW, z_wp1, z_ld, z_f0, z_f1, z_f2, z_f3, List.getElem?_cons_zero, List.getElem?_cons_succ, true_and, and_true, Int32.reduceOfInt, z_i10, z_i01, Int32.reduceLT, Int32.reduceLE, Int32.reduceAdd, Int32.reduceSub, z_set, z_set2, z_kil, List.set_cons_zero, List.set_cons_succ, List.take_succ_cons, List.take_zero, List.drop_succ_cons, List.drop_zero, List.reverse_cons, List.reverse_nil, List.nil_append, List.cons_append, List.getD_cons_succ, List.getD_cons_zero, List.getD_nil, List.length_cons, List.length_nil, List.map_cons, List.map_nil, List.sum_cons, List.sum_nil, Nat.reduceAdd, Nat.reduceLeDiff, Value.category, Option.toList, true_or, or_true, z_ua, ↓reduceIte, Nat.reduceEqDiff, eq_self, not_true_eq_false, not_false_eq_true, false_implies, true_implies, Classical.not_not, Nat.le_refl, Nat.zero_le, sK5 hS, sG5_1 hS, sK10 hS]
  try dsimp only
  by_cases h1 : 0 ≤ f ∧ f < I 10 0
  · refine z_callD (c86 (I := I) (J := J) hS f) (by omega) (by omega) (by omega) (Nat.le_of_ble_eq_true rfl) ?_
    try simp only [zW, z_wp1, z_ld, z_f0, z_f1, z_f2, z_f3, List.getElem?_cons_zero, List.getElem?_cons_succ, true_and, and_true, Int32.reduceOfInt, z_i10, z_i01, Int32.reduceLT, Int32.reduceLE, Int32.reduceAdd, Int32.reduceSub, z_set, z_set2, z_kil, List.set_cons_zero, List.set_cons_succ, List.take_succ_cons, List.take_zero, List.drop_succ_cons, List.drop_zero, List.reverse_cons, List.reverse_nil, List.nil_append, List.cons_append, List.getD_cons_succ, List.getD_cons_zero, List.getD_nil, List.length_cons, List.length_nil, List.map_cons, List.map_nil, List.sum_cons, List.sum_nil, Nat.reduceAdd, Nat.reduceLeDiff, Value.category, Option.toList, true_or, or_true, z_ua, ↓reduceIte, Nat.reduceEqDiff, eq_self, not_true_eq_false, not_false_eq_true, false_implies, true_implies, Classical.not_not, Nat.le_refl, Nat.zero_le, z_b1 h1]
    try dsimp only
    have h2 : ¬ (0 ≤ m ∧ m ≤ 5) := fun q => h ⟨by rw [f1] at h1; exact h1, q⟩
    refine z_callD (c152 (h := (n, K, L, I, J, G)) m) (by omega) (by omega) (by omega) (Nat.le_of_ble_eq_true rfl) ?_
    try simp only [zW, z_wp1, z_ld, z_f0, z_f1, z_f2, z_f3, List.getElem?_cons_zero, List.getElem?_cons_succ, true_and, and_true, Int32.reduceOfInt, z_i10, z_i01, Int32.reduceLT, Int32.reduceLE, Int32.reduceAdd, Int32.reduceSub, z_set, z_set2, z_kil, List.set_cons_zero, List.set_cons_succ, List.take_succ_cons, List.take_zero, List.drop_succ_cons, List.drop_zero, List.reverse_cons, List.reverse_nil, List.nil_append, List.cons_append, List.getD_cons_succ, List.getD_cons_zero, List.getD_nil, List.length_cons, List.length_nil, List.map_cons, List.map_nil, List.sum_cons, List.sum_nil, Nat.reduceAdd, Nat.reduceLeDiff, Value.category, Option.toList, true_or, or_true, z_ua, ↓reduceIte, Nat.reduceEqDiff, eq_self, not_true_eq_false, not_false_eq_true, false_implies, true_implies, Classical.not_not, Nat.le_refl, Nat.zero_le, z_b0 h2]
    try dsimp only
    exact no
  · refine z_callD (c86 (I := I) (J := J) hS f) (by omega) (by omega) (by omega) (Nat.le_of_ble_eq_true rfl) ?_
    try simp only [zW, z_wp1, z_ld, z_f0, z_f1, z_f2, z_f3, List.getElem?_cons_zero, List.getElem?_cons_succ, true_and, and_true, Int32.reduceOfInt, z_i10, z_i01, Int32.reduceLT, Int32.reduceLE, Int32.reduceAdd, Int32.reduceSub, z_set, z_set2, z_kil, List.set_cons_zero, List.set_cons_succ, List.take_succ_cons, List.take_zero, List.drop_succ_cons, List.drop_zero, List.reverse_cons, List.reverse_nil, List.nil_append, List.cons_append, List.getD_cons_succ, List.getD_cons_zero, List.getD_nil, List.length_cons, List.length_nil, List.map_cons, List.map_nil, List.sum_cons, List.sum_nil, Nat.reduceAdd, Nat.reduceLeDiff, Value.category, Option.toList, true_or, or_true, z_ua, ↓reduceIte, Nat.reduceEqDiff, eq_self, not_true_eq_false, not_false_eq_true, false_implies, true_implies, Classical.not_not, Nat.le_refl, Nat.zero_le, z_b0 h1]
    try dsimp only
    exact no
/-- fault -/
theorem d123 (hx : XI n K L I J G M c F N tr cd D ch rr) (hr : rr < 600) (w : Int32) : z_Ctr l 6 123 [.ref 5, .int w] (n, K, L, I, J, G) 0 0 (x_po n I J M c F N tr (rr + 1) (x_u L D) (.int (m_fault M w))) := by
  have hS : SS K L G := hx.S
  obtain ⟨e1, e2⟩ : I 60 2 = M 71 28 ∧ I 60 3 = M 71 29 := hx.2.2.2.2.2.1
  refine z_ctr (by decide) (by decide +kernel) (Nat.le_of_ble_eq_true rfl) (by decide +kernel) (fun X hl hj hd hm hs hsc hQ => ?_)
  show zV X 0 [some (.ref 5), some (.int w)] [] _ 0 0
  have fin : ∀ v : Int32, v = m_fault M w → zV X 28 [some (.ref 5), some (.int w)] [.int v] (n, K, L, I, J, G) 0 0 := fun v hv => by
    refine zW_ok hj B123_28 28 _ _ _ _ _ b123_28 ?_
    simp only [B123_28, zW, z_wp1, z_ld, z_f0, z_f1, z_f2, z_f3, List.getElem?_cons_zero, List.getElem?_cons_succ, true_and, and_true, Int32.reduceOfInt, z_i10, z_i01, Int32.reduceLT, Int32.reduceLE, Int32.reduceAdd, Int32.reduceSub, z_set, z_set2, z_kil, List.set_cons_zero, List.set_cons_succ, List.take_succ_cons, List.take_zero, List.drop_succ_cons, List.drop_zero, List.reverse_cons, List.reverse_nil, List.nil_append, List.cons_append, List.getD_cons_succ, List.getD_cons_zero, List.getD_nil, List.length_cons, List.length_nil, List.map_cons, List.map_nil, List.sum_cons, List.sum_nil, Nat.reduceAdd, Nat.reduceLeDiff, Value.category, Option.toList, true_or, or_true, z_ua, ↓reduceIte, Nat.reduceEqDiff, eq_self, not_true_eq_false, not_false_eq_true, false_implies, true_implies, Classical.not_not, Nat.le_refl, Nat.zero_le]
    try dsimp only
    rw [hv]
    exact hQ _ _ (x_po.id hx hr _)
  by_cases h0 : w = 0
  · refine zW_ok hj B123_0 0 _ _ _ _ _ b123_0 ?_
    simp only [B123_0, zW, z_wp1, z_ld, z_f0, z_f1, z_f2, z_f3, List.getElem?_cons_zero, List.getElem?_cons_succ, true_and, and_true, Int32.reduceOfInt, z_i10, z_i01, Int32.reduceLT, Int32.reduceLE, Int32.reduceAdd, Int32.reduceSub, z_set, z_set2, z_kil, List.set_cons_zero, List.set_cons_succ, List.take_succ_cons, List.take_zero, List.drop_succ_cons, List.drop_zero, List.reverse_cons, List.reverse_nil, List.nil_append, List.cons_append, List.getD_cons_succ, List.getD_cons_zero, List.getD_nil, List.length_cons, List.length_nil, List.map_cons, List.map_nil, List.sum_cons, List.sum_nil, Nat.reduceAdd, Nat.reduceLeDiff, Value.category, Option.toList, true_or, or_true, z_ua, ↓reduceIte, Nat.reduceEqDiff, eq_self, not_true_eq_false, not_false_eq_true, false_implies, true_implies, Classical.not_not, Nat.le_refl, Nat.zero_le, h0, sK5 hS, sG5_9 hS, sK60 hS, sK60 hS, e1]
    try dsimp only
    have : m_fault M w = M 71 28 := by unfold m_fault; rw [if_pos h0]
    rw [← this]
    exact hQ _ _ (x_po.id hx hr _)
  · refine zW_ok hj B123_0 0 _ _ _ _ _ b123_0 ?_
    simp only [B123_0, zW, z_wp1, z_ld, z_f0, z_f1, z_f2, z_f3, List.getElem?_cons_zero, List.getElem?_cons_succ, true_and, and_true, Int32.reduceOfInt, z_i10, z_i01, Int32.reduceLT, Int32.reduceLE, Int32.reduceAdd, Int32.reduceSub, z_set, z_set2, z_kil, List.set_cons_zero, List.set_cons_succ, List.take_succ_cons, List.take_zero, List.drop_succ_cons, List.drop_zero, List.reverse_cons, List.reverse_nil, List.nil_append, List.cons_append, List.getD_cons_succ, List.getD_cons_zero, List.getD_nil, List.length_cons, List.length_nil, List.map_cons, List.map_nil, List.sum_cons, List.sum_nil, Nat.reduceAdd, Nat.reduceLeDiff, Value.category, Option.toList, true_or, or_true, z_ua, ↓reduceIte, Nat.reduceEqDiff, eq_self, not_true_eq_false, not_false_eq_true, false_implies, true_implies, Classical.not_not, Nat.le_refl, Nat.zero_le, h0]
    try dsimp only
    by_cases h1 : w = 1
    · have := fin (M 71 29) (by unfold m_fault; rw [if_neg h0, if_pos h1])
      rw [h1] at this
      refine zW_ok hj B123_12 12 _ _ _ _ _ b123_12 ?_
      simp only [B123_12, zW, z_wp1, z_ld, z_f0, z_f1, z_f2, z_f3, List.getElem?_cons_zero, List.getElem?_cons_succ, true_and, and_true, Int32.reduceOfInt, z_i10, z_i01, Int32.reduceLT, Int32.reduceLE, Int32.reduceAdd, Int32.reduceSub, z_set, z_set2, z_kil, List.set_cons_zero, List.set_cons_succ, List.take_succ_cons, List.take_zero, List.drop_succ_cons, List.drop_zero, List.reverse_cons, List.reverse_nil, List.nil_append, List.cons_append, List.getD_cons_succ, List.getD_cons_zero, List.getD_nil, List.length_cons, List.length_nil, List.map_cons, List.map_nil, List.sum_cons, List.sum_nil, Nat.reduceAdd, Nat.reduceLeDiff, Value.category, Option.toList, true_or, or_true, z_ua, ↓reduceIte, Nat.reduceEqDiff, eq_self, not_true_eq_false, not_false_eq_true, false_implies, true_implies, Classical.not_not, Nat.le_refl, Nat.zero_le, h1, sK5 hS, sG5_9 hS, sK60 hS, sK60 hS, e2]
      try dsimp only
      exact this
    · refine zW_ok hj B123_12 12 _ _ _ _ _ b123_12 ?_
      simp only [B123_12, zW, z_wp1, z_ld, z_f0, z_f1, z_f2, z_f3, List.getElem?_cons_zero, List.getElem?_cons_succ, true_and, and_true, Int32.reduceOfInt, z_i10, z_i01, Int32.reduceLT, Int32.reduceLE, Int32.reduceAdd, Int32.reduceSub, z_set, z_set2, z_kil, List.set_cons_zero, List.set_cons_succ, List.take_succ_cons, List.take_zero, List.drop_succ_cons, List.drop_zero, List.reverse_cons, List.reverse_nil, List.nil_append, List.cons_append, List.getD_cons_succ, List.getD_cons_zero, List.getD_nil, List.length_cons, List.length_nil, List.map_cons, List.map_nil, List.sum_cons, List.sum_nil, Nat.reduceAdd, Nat.reduceLeDiff, Value.category, Option.toList, true_or, or_true, z_ua, ↓reduceIte, Nat.reduceEqDiff, eq_self, not_true_eq_false, not_false_eq_true, false_implies, true_implies, Classical.not_not, Nat.le_refl, Nat.zero_le, h1]
      try dsimp only
      refine zW_ok hj B123_27 27 _ _ _ _ _ b123_27 ?_
      simp only [B123_27, zW, z_wp1, z_ld, z_f0, z_f1, z_f2, z_f3, List.getElem?_cons_zero, List.getElem?_cons_succ, true_and, and_true, Int32.reduceOfInt, z_i10, z_i01, Int32.reduceLT, Int32.reduceLE, Int32.reduceAdd, Int32.reduceSub, z_set, z_set2, z_kil, List.set_cons_zero, List.set_cons_succ, List.take_succ_cons, List.take_zero, List.drop_succ_cons, List.drop_zero, List.reverse_cons, List.reverse_nil, List.nil_append, List.cons_append, List.getD_cons_succ, List.getD_cons_zero, List.getD_nil, List.length_cons, List.length_nil, List.map_cons, List.map_nil, List.sum_cons, List.sum_nil, Nat.reduceAdd, Nat.reduceLeDiff, Value.category, Option.toList, true_or, or_true, z_ua, ↓reduceIte, Nat.reduceEqDiff, eq_self, not_true_eq_false, not_false_eq_true, false_implies, true_implies, Classical.not_not, Nat.le_refl, Nat.zero_le]
      try dsimp only
      exact fin (-1) (by unfold m_fault; rw [if_neg h0, if_neg h1])
end PUB2
