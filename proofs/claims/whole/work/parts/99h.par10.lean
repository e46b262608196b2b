/-! The model's reader: a claim, readAny -/
section PAR10
variable {l : Launch} {n : Nat} {K L : Nat → Nat} {I : Nat → Nat → Int32} {J : Nat → Nat → Int64} {G : Nat → Nat → Value} {t : Nat → Int32} {N i : Nat} {ms : List (Int32 × Int32)} {S : List Int32} {o : Nat}
theorem m_re_q {R : p_R} {r : Option Value} {I' : Nat → Nat → Int32} (h : m_re t N ms R r I') : (∃ e, R = .error e ∧ r = some (.int (-1)) ∧ I' 71 26 = e.1 ∧ I' 71 27 = nI (p_P t N e.2)) ∨ ∃ y, R = .ok y ∧ r = some (.int 0) ∧ m_rd I' t N y.1 (ms ++ y.2) := by
  cases R with
  | error e => exact Or.inl ⟨e, rfl, h⟩
  | ok y => exact Or.inr ⟨y, rfl, h⟩
/-- a comparison as a claim -/
theorem c189_m {X : zX} (hS : SS K L G) (hj : X.2.1 = 189) (hdp : X.2.2.1 = 7) (hm : X.2.2.2.1 = 0) (hs : X.2.2.2.2.1 = 0) {a b : Nat} {x3 : Option Value} (hra : m_ra I t N i ms (List.replicate a 9 ++ S) o) (h9 : p_lc 9 S = 0) (hao : a ≤ o) (hSl : S.length ≤ 3 * (o - a) + 2) {I0 : Nat → Nat → Int32} (hf : m_f2 I0 I) (her : q_er X n K L I0 J G t N (r_cm (p_K t N) (p_A t N) i)) (hok : ∀ y I2 x3, r_cm (p_K t N) (p_A t N) i = .ok y → m_f2 I0 I2 → m_ra I2 t N y.1 (ms ++ y.2 ++ List.replicate a (9, 0)) S (o - a) → zV X 9 [some (.ref 71), some (.int (nI b)), some (.int 0), x3] [] (n, K, L, I2, J, G) 0 0) : zV X 88 [some (.ref 71), some (.int (nI b)), some (.int 1), x3] [] (n, K, L, I, J, G) 0 0 := by
  obtain ⟨h1, h2, h3, h4, h5, h6, h7⟩ := id hra
  refine zW_ok hj B189_88 88 _ _ _ _ _ b189_88 ?_
  simp only [B189_88, zW, z_wp1, z_ld, z_f0, z_f1, z_f2, z_f3, List.getElem?_cons_zero, List.getElem?_cons_succ, true_and, and_true, Int32.reduceOfInt, z_i10, z_i01, Int32.reduceLT, Int32.reduceLE, Int32.reduceAdd, Int32.reduceSub, z_set, z_set2, z_kil, List.set_cons_zero, List.set_cons_succ, List.take_succ_cons, List.take_zero, List.drop_succ_cons, List.drop_zero, List.reverse_cons, List.reverse_nil, List.nil_append, List.cons_append, List.getD_cons_succ, List.getD_cons_zero, List.getD_nil, List.length_cons, List.length_nil, List.map_cons, List.map_nil, List.sum_cons, List.sum_nil, Nat.reduceAdd, Nat.reduceLeDiff, Value.category, Option.toList, true_or, or_true, z_ua, ↓reduceIte, Nat.reduceEqDiff, eq_self, not_true_eq_false, not_false_eq_true, false_implies, true_implies, Classical.not_not, Nat.le_refl, Nat.zero_le, sK71 hS]
  try dsimp only
  refine z_callQ (c186 (I := I) (J := J) hS hra.rd) (by omega) (by omega) (by omega) (Nat.le_of_ble_eq_true rfl) ?_
  rintro r h' ⟨I2, rfl, f2, e2⟩
  rcases m_re_q e2 with ⟨e, hR, rfl, q1, q2⟩ | ⟨y, hR, rfl, rd2⟩
  · simp only [zW, z_wp1, z_ld, z_f0, z_f1, z_f2, z_f3, List.getElem?_cons_zero, List.getElem?_cons_succ, true_and, and_true, Int32.reduceOfInt, z_i10, z_i01, Int32.reduceLT, Int32.reduceLE, Int32.reduceAdd, Int32.reduceSub, z_set, z_set2, z_kil, List.set_cons_zero, List.set_cons_succ, List.take_succ_cons, List.take_zero, List.drop_succ_cons, List.drop_zero, List.reverse_cons, List.reverse_nil, List.nil_append, List.cons_append, List.getD_cons_succ, List.getD_cons_zero, List.getD_nil, List.length_cons, List.length_nil, List.map_cons, List.map_nil, List.sum_cons, List.sum_nil, Nat.reduceAdd, Nat.reduceLeDiff, Value.category, Option.toList, true_or, or_true, z_ua, ↓reduceIte, Nat.reduceEqDiff, eq_self, not_true_eq_false, not_false_eq_true, false_implies, true_implies, Classical.not_not, Nat.le_refl, Nat.zero_le]
    try dsimp only
    exact her e I2 hR (hf.tr f2.f2) q1 q2
  · simp only [zW, z_wp1, z_ld, z_f0, z_f1, z_f2, z_f3, List.getElem?_cons_zero, List.getElem?_cons_succ, true_and, and_true, Int32.reduceOfInt, z_i10, z_i01, Int32.reduceLT, Int32.reduceLE, Int32.reduceAdd, Int32.reduceSub, z_set, z_set2, z_kil, List.set_cons_zero, List.set_cons_succ, List.take_succ_cons, List.take_zero, List.drop_succ_cons, List.drop_zero, List.reverse_cons, List.reverse_nil, List.nil_append, List.cons_append, List.getD_cons_succ, List.getD_cons_zero, List.getD_nil, List.length_cons, List.length_nil, List.map_cons, List.map_nil, List.sum_cons, List.sum_nil, Nat.reduceAdd, Nat.reduceLeDiff, Value.category, Option.toList, true_or, or_true, z_ua, ↓reduceIte, Nat.reduceEqDiff, eq_self, not_true_eq_false, not_false_eq_true, false_implies, true_implies, Classical.not_not, Nat.le_refl, Nat.zero_le]
    try dsimp only
    refine ⟨fun _ => ?_, fun q => absurd q (by decide)⟩
    obtain ⟨g1, g2, g3⟩ := m_rd_iff.mp rd2
    obtain ⟨ya, yb⟩ := r_cm_go _ _ _ y hR
    have sk2 := f2.sk h3
    have ra2 : m_ra I2 t N y.1 (ms ++ y.2) (List.replicate a 9 ++ S) o := ⟨g1, g2, sk2, by rw [f2.op]; exact h4, by rw [List.length_append]; omega, h6, h7⟩
    have e1 : p_lc 9 (List.replicate a 9 ++ S) = a := by rw [p_lc_rep, h9]; rfl
    have st := c188a (l := X.1) (n := n) (J := J) hS ra2 9 (fun _ => by rw [e1, List.length_append, List.length_replicate]; exact ⟨hao, by omega⟩)
    rw [e1, p_rep_drop, if_pos rfl] at st
    refine zW_ok hj B189_98 98 _ _ _ _ _ b189_98 ?_
    simp only [B189_98, zW, z_wp1, z_ld, z_f0, z_f1, z_f2, z_f3, List.getElem?_cons_zero, List.getElem?_cons_succ, true_and, and_true, Int32.reduceOfInt, z_i10, z_i01, Int32.reduceLT, Int32.reduceLE, Int32.reduceAdd, Int32.reduceSub, z_set, z_set2, z_kil, List.set_cons_zero, List.set_cons_succ, List.take_succ_cons, List.take_zero, List.drop_succ_cons, List.drop_zero, List.reverse_cons, List.reverse_nil, List.nil_append, List.cons_append, List.getD_cons_succ, List.getD_cons_zero, List.getD_nil, List.length_cons, List.length_nil, List.map_cons, List.map_nil, List.sum_cons, List.sum_nil, Nat.reduceAdd, Nat.reduceLeDiff, Value.category, Option.toList, true_or, or_true, z_ua, ↓reduceIte, Nat.reduceEqDiff, eq_self, not_true_eq_false, not_false_eq_true, false_implies, true_implies, Classical.not_not, Nat.le_refl, Nat.zero_le, sK71 hS]
    try dsimp only
    refine z_callQ st (by omega) (by omega) (by omega) (Nat.le_of_ble_eq_true rfl) ?_
    rintro r h' ⟨rfl, I3, rfl, f3, ra3⟩
    simp only [zW, z_wp1, z_ld, z_f0, z_f1, z_f2, z_f3, List.getElem?_cons_zero, List.getElem?_cons_succ, true_and, and_true, Int32.reduceOfInt, z_i10, z_i01, Int32.reduceLT, Int32.reduceLE, Int32.reduceAdd, Int32.reduceSub, z_set, z_set2, z_kil, List.set_cons_zero, List.set_cons_succ, List.take_succ_cons, List.take_zero, List.drop_succ_cons, List.drop_zero, List.reverse_cons, List.reverse_nil, List.nil_append, List.cons_append, List.getD_cons_succ, List.getD_cons_zero, List.getD_nil, List.length_cons, List.length_nil, List.map_cons, List.map_nil, List.sum_cons, List.sum_nil, Nat.reduceAdd, Nat.reduceLeDiff, Value.category, Option.toList, true_or, or_true, z_ua, ↓reduceIte, Nat.reduceEqDiff, eq_self, not_true_eq_false, not_false_eq_true, false_implies, true_implies, Classical.not_not, Nat.le_refl, Nat.zero_le]
    try dsimp only
    exact hok y I3 x3 hR ((hf.tr f2.f2).tr f3) ra3
/-- an opening -/
theorem c189_o {X : zX} (hS : SS K L G) (hj : X.2.1 = 189) (hdp : X.2.2.1 = 7) (hm : X.2.2.2.1 = 0) (hs : X.2.2.2.2.1 = 0) {b : Nat} {nt : Int32} (hra : m_ra I t N i ms S o) (ho8 : o < 8) (hk0 : ¬ p_K t N i = 0) {w : Int32} {b' : Nat} (hw : (nt = 0 ∧ w = 13 ∧ b' = b + 1) ∨ (nt = 1 ∧ w = 9 ∧ b' = b)) (hok : ∀ I2, m_f2 I I2 → m_ra I2 t N (i + 1) ms (w :: S) (o + 1) → zV X 9 [some (.ref 71), some (.int (nI b')), some (.int 1), some (.int nt)] [] (n, K, L, I2, J, G) 0 0) : zV X 33 [some (.ref 71), some (.int (nI b)), some (.int 1), some (.int nt)] [] (n, K, L, I, J, G) 0 0 := by
  obtain ⟨h1, h2, h3, h4, h5, h6, h7⟩ := id hra
  have n8 : ¬ nI o = 8 := fun q => by
    have := (nI_eq (a := o) (b := 8) (by omega) (by omega)).mp q
    omega
  obtain ⟨q1, q2, q3, q4, q5⟩ := m_rop h1 h2 h3 (nI (o + 1))
  obtain ⟨p1, p2, p3, p4, p5⟩ := m_rpu q2 q3 q4 w
  have go : zV X 78 [some (.ref 71), some (.int (nI b')), some (.int 1), some (.int nt)] [.int w, .ref 71] (n, K, L, z_u I 71 23 (nI (o + 1)), J, G) 0 0 := by
    refine zW_ok hj B189_78 78 _ _ _ _ _ b189_78 ?_
    simp only [B189_78, zW, z_wp1, z_ld, z_f0, z_f1, z_f2, z_f3, List.getElem?_cons_zero, List.getElem?_cons_succ, true_and, and_true, Int32.reduceOfInt, z_i10, z_i01, Int32.reduceLT, Int32.reduceLE, Int32.reduceAdd, Int32.reduceSub, z_set, z_set2, z_kil, List.set_cons_zero, List.set_cons_succ, List.take_succ_cons, List.take_zero, List.drop_succ_cons, List.drop_zero, List.reverse_cons, List.reverse_nil, List.nil_append, List.cons_append, List.getD_cons_succ, List.getD_cons_zero, List.getD_nil, List.length_cons, List.length_nil, List.map_cons, List.map_nil, List.sum_cons, List.sum_nil, Nat.reduceAdd, Nat.reduceLeDiff, Value.category, Option.toList, true_or, or_true, z_ua, ↓reduceIte, Nat.reduceEqDiff, eq_self, not_true_eq_false, not_false_eq_true, false_implies, true_implies, Classical.not_not, Nat.le_refl, Nat.zero_le, sK71 hS]
    try dsimp only
    refine z_callD (c187 (I := z_u I 71 23 (nI (o + 1))) (J := J) hS q4 (by omega) w) (by omega) (by omega) (by omega) (Nat.le_of_ble_eq_true rfl) ?_
    try simp only [zW, z_wp1, z_ld, z_f0, z_f1, z_f2, z_f3, List.getElem?_cons_zero, List.getElem?_cons_succ, true_and, and_true, Int32.reduceOfInt, z_i10, z_i01, Int32.reduceLT, Int32.reduceLE, Int32.reduceAdd, Int32.reduceSub, z_set, z_set2, z_kil, List.set_cons_zero, List.set_cons_succ, List.take_succ_cons, List.take_zero, List.drop_succ_cons, List.drop_zero, List.reverse_cons, List.reverse_nil, List.nil_append, List.cons_append, List.getD_cons_succ, List.getD_cons_zero, List.getD_nil, List.length_cons, List.length_nil, List.map_cons, List.map_nil, List.sum_cons, List.sum_nil, Nat.reduceAdd, Nat.reduceLeDiff, Value.category, Option.toList, true_or, or_true, z_ua, ↓reduceIte, Nat.reduceEqDiff, eq_self, not_true_eq_false, not_false_eq_true, false_implies, true_implies, Classical.not_not, Nat.le_refl, Nat.zero_le, sK71 hS]
    try dsimp only
    refine z_callQ (c177a (J := J) hS p2 p3 p4 (p5.trans q5) (by rw [List.length_cons]; omega) (by rw [List.length_cons]; omega) (by omega) hk0) (by omega) (by omega) (by omega) (Nat.le_of_ble_eq_true rfl) ?_
    rintro r h' ⟨rfl, I3, rfl, f3, ra3⟩
    simp only [zW, z_wp1, z_ld, z_f0, z_f1, z_f2, z_f3, List.getElem?_cons_zero, List.getElem?_cons_succ, true_and, and_true, Int32.reduceOfInt, z_i10, z_i01, Int32.reduceLT, Int32.reduceLE, Int32.reduceAdd, Int32.reduceSub, z_set, z_set2, z_kil, List.set_cons_zero, List.set_cons_succ, List.take_succ_cons, List.take_zero, List.drop_succ_cons, List.drop_zero, List.reverse_cons, List.reverse_nil, List.nil_append, List.cons_append, List.getD_cons_succ, List.getD_cons_zero, List.getD_nil, List.length_cons, List.length_nil, List.map_cons, List.map_nil, List.sum_cons, List.sum_nil, Nat.reduceAdd, Nat.reduceLeDiff, Value.category, Option.toList, true_or, or_true, z_ua, ↓reduceIte, Nat.reduceEqDiff, eq_self, not_true_eq_false, not_false_eq_true, false_implies, true_implies, Classical.not_not, Nat.le_refl, Nat.zero_le, sK71 hS]
    try dsimp only
    exact hok I3 ((q1.tr p1).tr f3) ra3
  refine zW_ok hj B189_33 33 _ _ _ _ _ b189_33 ?_
  simp only [B189_33, zW, z_wp1, z_ld, z_f0, z_f1, z_f2, z_f3, List.getElem?_cons_zero, List.getElem?_cons_succ, true_and, and_true, Int32.reduceOfInt, z_i10, z_i01, Int32.reduceLT, Int32.reduceLE, Int32.reduceAdd, Int32.reduceSub, z_set, z_set2, z_kil, List.set_cons_zero, List.set_cons_succ, List.take_succ_cons, List.take_zero, List.drop_succ_cons, List.drop_zero, List.reverse_cons, List.reverse_nil, List.nil_append, List.cons_append, List.getD_cons_succ, List.getD_cons_zero, List.getD_nil, List.length_cons, List.length_nil, List.map_cons, List.map_nil, List.sum_cons, List.sum_nil, Nat.reduceAdd, Nat.reduceLeDiff, Value.category, Option.toList, true_or, or_true, z_ua, ↓reduceIte, Nat.reduceEqDiff, eq_self, not_true_eq_false, not_false_eq_true, false_implies, true_implies, Classical.not_not, Nat.le_refl, Nat.zero_le, sK71 hS, h4, n8]
  try dsimp only
  refine zW_ok hj B189_48 48 _ _ _ _ _ b189_48 ?_
  simp only [B189_48, zW, z_wp1, z_ld, z_f0, z_f1, z_f2, z_f3, List.getElem?_cons_zero, List.getElem?_cons_succ, true_and, and_true, Int32.reduceOfInt, z_i10, z_i01, Int32.reduceLT, Int32.reduceLE, Int32.reduceAdd, Int32.reduceSub, z_set, z_set2, z_kil, List.set_cons_zero, List.set_cons_succ, List.take_succ_cons, List.take_zero, List.drop_succ_cons, List.drop_zero, List.reverse_cons, List.reverse_nil, List.nil_append, List.cons_append, List.getD_cons_succ, List.getD_cons_zero, List.getD_nil, List.length_cons, List.length_nil, List.map_cons, List.map_nil, List.sum_cons, List.sum_nil, Nat.reduceAdd, Nat.reduceLeDiff, Value.category, Option.toList, true_or, or_true, z_ua, ↓reduceIte, Nat.reduceEqDiff, eq_self, not_true_eq_false, not_false_eq_true, false_implies, true_implies, Classical.not_not, Nat.le_refl, Nat.zero_le, sK71 hS, h4, nI_1]
  try dsimp only
  rcases hw with ⟨rfl, rfl, rfl⟩ | ⟨rfl, rfl, rfl⟩
  · simp only [zW, z_wp1, z_ld, z_f0, z_f1, z_f2, z_f3, List.getElem?_cons_zero, List.getElem?_cons_succ, true_and, and_true, Int32.reduceOfInt, z_i10, z_i01, Int32.reduceLT, Int32.reduceLE, Int32.reduceAdd, Int32.reduceSub, z_set, z_set2, z_kil, List.set_cons_zero, List.set_cons_succ, List.take_succ_cons, List.take_zero, List.drop_succ_cons, List.drop_zero, List.reverse_cons, List.reverse_nil, List.nil_append, List.cons_append, List.getD_cons_succ, List.getD_cons_zero, List.getD_nil, List.length_cons, List.length_nil, List.map_cons, List.map_nil, List.sum_cons, List.sum_nil, Nat.reduceAdd, Nat.reduceLeDiff, Value.category, Option.toList, true_or, or_true, z_ua, ↓reduceIte, Nat.reduceEqDiff, eq_self, not_true_eq_false, not_false_eq_true, false_implies, true_implies, Classical.not_not, Nat.le_refl, Nat.zero_le, nI_1]
    try dsimp only
    refine zW_ok hj B189_66 66 _ _ _ _ _ b189_66 ?_
    simp only [B189_66, zW, z_wp1, z_ld, z_f0, z_f1, z_f2, z_f3, List.getElem?_cons_zero, List.getElem?_cons_succ, true_and, and_true, Int32.reduceOfInt, z_i10, z_i01, Int32.reduceLT, Int32.reduceLE, Int32.reduceAdd, Int32.reduceSub, z_set, z_set2, z_kil, List.set_cons_zero, List.set_cons_succ, List.take_succ_cons, List.take_zero, List.drop_succ_cons, List.drop_zero, List.reverse_cons, List.reverse_nil, List.nil_append, List.cons_append, List.getD_cons_succ, List.getD_cons_zero, List.getD_nil, List.length_cons, List.length_nil, List.map_cons, List.map_nil, List.sum_cons, List.sum_nil, Nat.reduceAdd, Nat.reduceLeDiff, Value.category, Option.toList, true_or, or_true, z_ua, ↓reduceIte, Nat.reduceEqDiff, eq_self, not_true_eq_false, not_false_eq_true, false_implies, true_implies, Classical.not_not, Nat.le_refl, Nat.zero_le, sK71 hS]
    try dsimp only
    refine zW_ok hj B189_76 76 _ _ _ _ _ b189_76 ?_
    simp only [B189_76, zW, z_wp1, z_ld, z_f0, z_f1, z_f2, z_f3, List.getElem?_cons_zero, List.getElem?_cons_succ, true_and, and_true, Int32.reduceOfInt, z_i10, z_i01, Int32.reduceLT, Int32.reduceLE, Int32.reduceAdd, Int32.reduceSub, z_set, z_set2, z_kil, List.set_cons_zero, List.set_cons_succ, List.take_succ_cons, List.take_zero, List.drop_succ_cons, List.drop_zero, List.reverse_cons, List.reverse_nil, List.nil_append, List.cons_append, List.getD_cons_succ, List.getD_cons_zero, List.getD_nil, List.length_cons, List.length_nil, List.map_cons, List.map_nil, List.sum_cons, List.sum_nil, Nat.reduceAdd, Nat.reduceLeDiff, Value.category, Option.toList, true_or, or_true, z_ua, ↓reduceIte, Nat.reduceEqDiff, eq_self, not_true_eq_false, not_false_eq_true, false_implies, true_implies, Classical.not_not, Nat.le_refl, Nat.zero_le]
    try dsimp only
    exact go
  · simp only [zW, z_wp1, z_ld, z_f0, z_f1, z_f2, z_f3, List.getElem?_cons_zero, List.getElem?_cons_succ, true_and, and_true, Int32.reduceOfInt, z_i10, z_i01, Int32.reduceLT, Int32.reduceLE, Int32.reduceAdd, Int32.reduceSub, z_set, z_set2, z_kil, List.set_cons_zero, List.set_cons_succ, List.take_succ_cons, List.take_zero, List.drop_succ_cons, List.drop_zero, List.reverse_cons, List.reverse_nil, List.nil_append, List.cons_append, List.getD_cons_succ, List.getD_cons_zero, List.getD_nil, List.length_cons, List.length_nil, List.map_cons, List.map_nil, List.sum_cons, List.sum_nil, Nat.reduceAdd, Nat.reduceLeDiff, Value.category, Option.toList, true_or, or_true, z_ua, ↓reduceIte, Nat.reduceEqDiff, eq_self, not_true_eq_false, not_false_eq_true, false_implies, true_implies, Classical.not_not, Nat.le_refl, Nat.zero_le]
    try dsimp only
    refine zW_ok hj B189_66 66 _ _ _ _ _ b189_66 ?_
    simp only [B189_66, zW, z_wp1, z_ld, z_f0, z_f1, z_f2, z_f3, List.getElem?_cons_zero, List.getElem?_cons_succ, true_and, and_true, Int32.reduceOfInt, z_i10, z_i01, Int32.reduceLT, Int32.reduceLE, Int32.reduceAdd, Int32.reduceSub, z_set, z_set2, z_kil, List.set_cons_zero, List.set_cons_succ, List.take_succ_cons, List.take_zero, List.drop_succ_cons, List.drop_zero, List.reverse_cons, List.reverse_nil, List.nil_append, List.cons_append, List.getD_cons_succ, List.getD_cons_zero, List.getD_nil, List.length_cons, List.length_nil, List.map_cons, List.map_nil, List.sum_cons, List.sum_nil, Nat.reduceAdd, Nat.reduceLeDiff, Value.category, Option.toList, true_or, or_true, z_ua, ↓reduceIte, Nat.reduceEqDiff, eq_self, not_true_eq_false, not_false_eq_true, false_implies, true_implies, Classical.not_not, Nat.le_refl, Nat.zero_le, sK71 hS]
    try dsimp only
    exact go
theorem c189_cl {X : zX} (hS : SS K L G) (hj : X.2.1 = 189) (hdp : X.2.2.1 = 7) (hm : X.2.2.2.1 = 0) (hs : X.2.2.2.2.1 = 0) : ∀ d, q_cl X n K L I J G t N d := by
  intro d
  induction d with
  | zero =>
    intro i o a b S ms I' x3 hra h9 hod hbo hao hSl hf her hok
    have c14 := c179 (l := X.1) (n := n) (J := J) hS hra.rd (w := 8) (k := 14) (by decide) (by decide)
    have c7 := c181 (l := X.1) (n := n) (J := J) hS hra.rd m_sg40 (k := 7) (by decide)
    have o8 : I' 71 23 = 8 := by rw [hra.2.2.2.1, show o = 8 by omega]; rfl
    have full : ∀ nt : Int32, (p_K t N i = 14 ∨ p_K t N i = 7) → zV X 33 [some (.ref 71), some (.int (nI b)), some (.int 1), some (.int nt)] [] (n, K, L, I', J, G) 0 0 := by
      intro nt hy
      refine zW_ok hj B189_33 33 _ _ _ _ _ b189_33 ?_
      simp only [B189_33, zW, z_wp1, z_ld, z_f0, z_f1, z_f2, z_f3, List.getElem?_cons_zero, List.getElem?_cons_succ, true_and, and_true, Int32.reduceOfInt, z_i10, z_i01, Int32.reduceLT, Int32.reduceLE, Int32.reduceAdd, Int32.reduceSub, z_set, z_set2, z_kil, List.set_cons_zero, List.set_cons_succ, List.take_succ_cons, List.take_zero, List.drop_succ_cons, List.drop_zero, List.reverse_cons, List.reverse_nil, List.nil_append, List.cons_append, List.getD_cons_succ, List.getD_cons_zero, List.getD_nil, List.length_cons, List.length_nil, List.map_cons, List.map_nil, List.sum_cons, List.sum_nil, Nat.reduceAdd, Nat.reduceLeDiff, Value.category, Option.toList, true_or, or_true, z_ua, ↓reduceIte, Nat.reduceEqDiff, eq_self, not_true_eq_false, not_false_eq_true, false_implies, true_implies, Classical.not_not, Nat.le_refl, Nat.zero_le, sK71 hS, o8]
      try dsimp only
      refine z_callD (c178 (I := I') (J := J) hS 3) (by omega) (by omega) (by omega) (Nat.le_of_ble_eq_true rfl) ?_
      try simp only [zW, z_wp1, z_ld, z_f0, z_f1, z_f2, z_f3, List.getElem?_cons_zero, List.getElem?_cons_succ, true_and, and_true, Int32.reduceOfInt, z_i10, z_i01, Int32.reduceLT, Int32.reduceLE, Int32.reduceAdd, Int32.reduceSub, z_set, z_set2, z_kil, List.set_cons_zero, List.set_cons_succ, List.take_succ_cons, List.take_zero, List.drop_succ_cons, List.drop_zero, List.reverse_cons, List.reverse_nil, List.nil_append, List.cons_append, List.getD_cons_succ, List.getD_cons_zero, List.getD_nil, List.length_cons, List.length_nil, List.map_cons, List.map_nil, List.sum_cons, List.sum_nil, Nat.reduceAdd, Nat.reduceLeDiff, Value.category, Option.toList, true_or, or_true, z_ua, ↓reduceIte, Nat.reduceEqDiff, eq_self, not_true_eq_false, not_false_eq_true, false_implies, true_implies, Classical.not_not, Nat.le_refl, Nat.zero_le, sK71 hS]
      try dsimp only
      have h0 := hra.rd.f 3 (ms' := [])
      obtain ⟨-, q1, q2⟩ := m_re_er.mp h0
      exact her (3, i) _ (by rw [r_cl, if_pos hy]) (hf.tr (m_fr_f I' _ _).f2) q1 q2
    refine zW_ok hj B189_9 9 _ _ _ _ _ b189_9 ?_
    simp only [B189_9, zW, z_wp1, z_ld, z_f0, z_f1, z_f2, z_f3, List.getElem?_cons_zero, List.getElem?_cons_succ, true_and, and_true, Int32.reduceOfInt, z_i10, z_i01, Int32.reduceLT, Int32.reduceLE, Int32.reduceAdd, Int32.reduceSub, z_set, z_set2, z_kil, List.set_cons_zero, List.set_cons_succ, List.take_succ_cons, List.take_zero, List.drop_succ_cons, List.drop_zero, List.reverse_cons, List.reverse_nil, List.nil_append, List.cons_append, List.getD_cons_succ, List.getD_cons_zero, List.getD_nil, List.length_cons, List.length_nil, List.map_cons, List.map_nil, List.sum_cons, List.sum_nil, Nat.reduceAdd, Nat.reduceLeDiff, Value.category, Option.toList, true_or, or_true, z_ua, ↓reduceIte, Nat.reduceEqDiff, eq_self, not_true_eq_false, not_false_eq_true, false_implies, true_implies, Classical.not_not, Nat.le_refl, Nat.zero_le, sK71 hS]
    try dsimp only
    by_cases h14 : p_K t N i = 14
    · refine z_callD (c14) (by omega) (by omega) (by omega) (Nat.le_of_ble_eq_true rfl) ?_
      try simp only [zW, z_wp1, z_ld, z_f0, z_f1, z_f2, z_f3, List.getElem?_cons_zero, List.getElem?_cons_succ, true_and, and_true, Int32.reduceOfInt, z_i10, z_i01, Int32.reduceLT, Int32.reduceLE, Int32.reduceAdd, Int32.reduceSub, z_set, z_set2, z_kil, List.set_cons_zero, List.set_cons_succ, List.take_succ_cons, List.take_zero, List.drop_succ_cons, List.drop_zero, List.reverse_cons, List.reverse_nil, List.nil_append, List.cons_append, List.getD_cons_succ, List.getD_cons_zero, List.getD_nil, List.length_cons, List.length_nil, List.map_cons, List.map_nil, List.sum_cons, List.sum_nil, Nat.reduceAdd, Nat.reduceLeDiff, Value.category, Option.toList, true_or, or_true, z_ua, ↓reduceIte, Nat.reduceEqDiff, eq_self, not_true_eq_false, not_false_eq_true, false_implies, true_implies, Classical.not_not, Nat.le_refl, Nat.zero_le, sK71 hS, z_b1 h14]
      try dsimp only
      exact full 1 (Or.inl h14)
    · refine z_callD (c14) (by omega) (by omega) (by omega) (Nat.le_of_ble_eq_true rfl) ?_
      try simp only [zW, z_wp1, z_ld, z_f0, z_f1, z_f2, z_f3, List.getElem?_cons_zero, List.getElem?_cons_succ, true_and, and_true, Int32.reduceOfInt, z_i10, z_i01, Int32.reduceLT, Int32.reduceLE, Int32.reduceAdd, Int32.reduceSub, z_set, z_set2, z_kil, List.set_cons_zero, List.set_cons_succ, List.take_succ_cons, List.take_zero, List.drop_succ_cons, List.drop_zero, List.reverse_cons, List.reverse_nil, List.nil_append, List.cons_append, List.getD_cons_succ, List.getD_cons_zero, List.getD_nil, List.length_cons, List.length_nil, List.map_cons, List.map_nil, List.sum_cons, List.sum_nil, Nat.reduceAdd, Nat.reduceLeDiff, Value.category, Option.toList, true_or, or_true, z_ua, ↓reduceIte, Nat.reduceEqDiff, eq_self, not_true_eq_false, not_false_eq_true, false_implies, true_implies, Classical.not_not, Nat.le_refl, Nat.zero_le, sK71 hS, z_b0 h14]
      try dsimp only
      by_cases h7 : p_K t N i = 7
      · refine z_callD (c7) (by omega) (by omega) (by omega) (Nat.le_of_ble_eq_true rfl) ?_
        try simp only [zW, z_wp1, z_ld, z_f0, z_f1, z_f2, z_f3, List.getElem?_cons_zero, List.getElem?_cons_succ, true_and, and_true, Int32.reduceOfInt, z_i10, z_i01, Int32.reduceLT, Int32.reduceLE, Int32.reduceAdd, Int32.reduceSub, z_set, z_set2, z_kil, List.set_cons_zero, List.set_cons_succ, List.take_succ_cons, List.take_zero, List.drop_succ_cons, List.drop_zero, List.reverse_cons, List.reverse_nil, List.nil_append, List.cons_append, List.getD_cons_succ, List.getD_cons_zero, List.getD_nil, List.length_cons, List.length_nil, List.map_cons, List.map_nil, List.sum_cons, List.sum_nil, Nat.reduceAdd, Nat.reduceLeDiff, Value.category, Option.toList, true_or, or_true, z_ua, ↓reduceIte, Nat.reduceEqDiff, eq_self, not_true_eq_false, not_false_eq_true, false_implies, true_implies, Classical.not_not, Nat.le_refl, Nat.zero_le, sK71 hS, z_b1 h7]
        try dsimp only
        exact full 0 (Or.inr h7)
      · refine z_callD (c7) (by omega) (by omega) (by omega) (Nat.le_of_ble_eq_true rfl) ?_
        try simp only [zW, z_wp1, z_ld, z_f0, z_f1, z_f2, z_f3, List.getElem?_cons_zero, List.getElem?_cons_succ, true_and, and_true, Int32.reduceOfInt, z_i10, z_i01, Int32.reduceLT, Int32.reduceLE, Int32.reduceAdd, Int32.reduceSub, z_set, z_set2, z_kil, List.set_cons_zero, List.set_cons_succ, List.take_succ_cons, List.take_zero, List.drop_succ_cons, List.drop_zero, List.reverse_cons, List.reverse_nil, List.nil_append, List.cons_append, List.getD_cons_succ, List.getD_cons_zero, List.getD_nil, List.length_cons, List.length_nil, List.map_cons, List.map_nil, List.sum_cons, List.sum_nil, Nat.reduceAdd, Nat.reduceLeDiff, Value.category, Option.toList, true_or, or_true, z_ua, ↓reduceIte, Nat.reduceEqDiff, eq_self, not_true_eq_false, not_false_eq_true, false_implies, true_implies, Classical.not_not, Nat.le_refl, Nat.zero_le, sK71 hS, z_b0 h7]
        try dsimp only
        have er : r_cl (p_K t N) (p_A t N) 0 i = r_cm (p_K t N) (p_A t N) i := by rw [r_cl, if_neg (fun q => q.elim h14 h7)]
        rw [er] at her hok
        exact c189_m hS hj hdp hm hs hra h9 hao hSl hf her hok
  | succ d ih =>
    intro i o a b S ms I' x3 hra h9 hod hbo hao hSl hf her hok
    have c14 := c179 (l := X.1) (n := n) (J := J) hS hra.rd (w := 8) (k := 14) (by decide) (by decide)
    have c7 := c181 (l := X.1) (n := n) (J := J) hS hra.rd m_sg40 (k := 7) (by decide)
    refine zW_ok hj B189_9 9 _ _ _ _ _ b189_9 ?_
    simp only [B189_9, zW, z_wp1, z_ld, z_f0, z_f1, z_f2, z_f3, List.getElem?_cons_zero, List.getElem?_cons_succ, true_and, and_true, Int32.reduceOfInt, z_i10, z_i01, Int32.reduceLT, Int32.reduceLE, Int32.reduceAdd, Int32.reduceSub, z_set, z_set2, z_kil, List.set_cons_zero, List.set_cons_succ, List.take_succ_cons, List.take_zero, List.drop_succ_cons, List.drop_zero, List.reverse_cons, List.reverse_nil, List.nil_append, List.cons_append, List.getD_cons_succ, List.getD_cons_zero, List.getD_nil, List.length_cons, List.length_nil, List.map_cons, List.map_nil, List.sum_cons, List.sum_nil, Nat.reduceAdd, Nat.reduceLeDiff, Value.category, Option.toList, true_or, or_true, z_ua, ↓reduceIte, Nat.reduceEqDiff, eq_self, not_true_eq_false, not_false_eq_true, false_implies, true_implies, Classical.not_not, Nat.le_refl, Nat.zero_le, sK71 hS]
    try dsimp only
    by_cases h14 : p_K t N i = 14
    · have hk0 : ¬ p_K t N i = 0 := by rw [h14]; decide
      rw [r_cl, if_pos h14] at her hok
      refine z_callD (c14) (by omega) (by omega) (by omega) (Nat.le_of_ble_eq_true rfl) ?_
      try simp only [zW, z_wp1, z_ld, z_f0, z_f1, z_f2, z_f3, List.getElem?_cons_zero, List.getElem?_cons_succ, true_and, and_true, Int32.reduceOfInt, z_i10, z_i01, Int32.reduceLT, Int32.reduceLE, Int32.reduceAdd, Int32.reduceSub, z_set, z_set2, z_kil, List.set_cons_zero, List.set_cons_succ, List.take_succ_cons, List.take_zero, List.drop_succ_cons, List.drop_zero, List.reverse_cons, List.reverse_nil, List.nil_append, List.cons_append, List.getD_cons_succ, List.getD_cons_zero, List.getD_nil, List.length_cons, List.length_nil, List.map_cons, List.map_nil, List.sum_cons, List.sum_nil, Nat.reduceAdd, Nat.reduceLeDiff, Value.category, Option.toList, true_or, or_true, z_ua, ↓reduceIte, Nat.reduceEqDiff, eq_self, not_true_eq_false, not_false_eq_true, false_implies, true_implies, Classical.not_not, Nat.le_refl, Nat.zero_le, sK71 hS, z_b1 h14]
      try dsimp only
      refine c189_o (b := b) (b' := b) (w := 9) hS hj hdp hm hs hra (by omega) hk0 (Or.inr ⟨rfl, rfl, rfl⟩) (fun I2 f2 ra2 => ?_)
      refine ih (i + 1) (o + 1) (a + 1) b S ms I2 _ (by rw [List.replicate_succ]; exact ra2) h9 (by omega) (by omega) (by omega) (by omega) (hf.tr f2) (fun e I3 he f3 e1 e2 => her e I3 (by rw [he, r_bd_r]) f3 e1 e2) (fun y I3 x4 hy f3 ra3 => hok (y.1, y.2 ++ [(9, 0)]) I3 x4 (by rw [hy, r_bd_k (y := y) (z := (y.1, [(9, 0)])) rfl]) f3 ?_)
      rw [show o + 1 - (a + 1) = o - a by omega, List.replicate_succ] at ra3
      simpa [List.append_assoc] using ra3
    · refine z_callD (c14) (by omega) (by omega) (by omega) (Nat.le_of_ble_eq_true rfl) ?_
      try simp only [zW, z_wp1, z_ld, z_f0, z_f1, z_f2, z_f3, List.getElem?_cons_zero, List.getElem?_cons_succ, true_and, and_true, Int32.reduceOfInt, z_i10, z_i01, Int32.reduceLT, Int32.reduceLE, Int32.reduceAdd, Int32.reduceSub, z_set, z_set2, z_kil, List.set_cons_zero, List.set_cons_succ, List.take_succ_cons, List.take_zero, List.drop_succ_cons, List.drop_zero, List.reverse_cons, List.reverse_nil, List.nil_append, List.cons_append, List.getD_cons_succ, List.getD_cons_zero, List.getD_nil, List.length_cons, List.length_nil, List.map_cons, List.map_nil, List.sum_cons, List.sum_nil, Nat.reduceAdd, Nat.reduceLeDiff, Value.category, Option.toList, true_or, or_true, z_ua, ↓reduceIte, Nat.reduceEqDiff, eq_self, not_true_eq_false, not_false_eq_true, false_implies, true_implies, Classical.not_not, Nat.le_refl, Nat.zero_le, sK71 hS, z_b0 h14]
      try dsimp only
      by_cases h7 : p_K t N i = 7
      · have hk0 : ¬ p_K t N i = 0 := by rw [h7]; decide
        rw [r_cl, if_neg h14, if_pos h7] at her hok
        refine z_callD (c7) (by omega) (by omega) (by omega) (Nat.le_of_ble_eq_true rfl) ?_
        try simp only [zW, z_wp1, z_ld, z_f0, z_f1, z_f2, z_f3, List.getElem?_cons_zero, List.getElem?_cons_succ, true_and, and_true, Int32.reduceOfInt, z_i10, z_i01, Int32.reduceLT, Int32.reduceLE, Int32.reduceAdd, Int32.reduceSub, z_set, z_set2, z_kil, List.set_cons_zero, List.set_cons_succ, List.take_succ_cons, List.take_zero, List.drop_succ_cons, List.drop_zero, List.reverse_cons, List.reverse_nil, List.nil_append, List.cons_append, List.getD_cons_succ, List.getD_cons_zero, List.getD_nil, List.length_cons, List.length_nil, List.map_cons, List.map_nil, List.sum_cons, List.sum_nil, Nat.reduceAdd, Nat.reduceLeDiff, Value.category, Option.toList, true_or, or_true, z_ua, ↓reduceIte, Nat.reduceEqDiff, eq_self, not_true_eq_false, not_false_eq_true, false_implies, true_implies, Classical.not_not, Nat.le_refl, Nat.zero_le, sK71 hS, z_b1 h7]
        try dsimp only
        have hra6 := hra.2.2.2.2.2.1
        refine c189_o (b := b) (b' := b + 1) (w := 13) hS hj hdp hm hs hra (by omega) hk0 (Or.inl ⟨rfl, rfl, rfl⟩) (fun I2 f2 ra2 => ?_)
        have hlT : (13 :: (List.replicate a 9 ++ S) : List Int32).length ≤ 3 * (o + 1) := by rw [List.length_cons]; omega
        refine ih (i + 1) (o + 1) 0 (b + 1) (13 :: (List.replicate a 9 ++ S)) ms I2 _ ra2 (by rw [p_lc, if_neg (by decide)]) (by omega) (by omega) (Nat.zero_le _) (by omega) (hf.tr f2) (fun e I3 he f3 e1 e2 => her e I3 (by rw [r_cs, he, r_bd_r, r_bd_r]) f3 e1 e2) (fun y I3 x4 hy f3 ra3 => ?_)
        rw [Nat.sub_zero, List.replicate_zero, List.append_nil] at ra3
        obtain ⟨ya, yb⟩ := r_cl_go _ _ _ _ y hy
        refine c189_q hS hj hdp hm hs ih (by omega) (Or.inr ⟨_, rfl⟩) hlT (by omega) 802 y.1 false false (ms ++ y.2) I3 x4 (by omega) (by simpa using ra3) f3 (fun e I4 he f4 e1 e2 => her e I4 (by rw [r_cs, hy, r_bd_e he, r_bd_r]) f4 e1 e2) (fun z I4 x5 hz f4 ra4 => ⟨fun q => absurd q (by omega), fun _ => ?_⟩)
        have ecs : r_cs (p_K t N) (r_cl (p_K t N) (p_A t N) d) (i + 1) = .ok (z.1, y.2 ++ z.2) := by rw [r_cs, hy, r_bd_k hz]
        rw [ecs] at her hok
        have ra4' : m_ra I4 t N z.1 (ms ++ y.2 ++ z.2) (13 :: (List.replicate a 9 ++ S)) (o + 1) := by simpa using ra4
        obtain ⟨g1, g2, g3, g4, g5, g6, g7⟩ := id ra4'
        rw [List.length_cons] at g5 g6
        have c8 := c181 (l := X.1) (n := n) (J := J) hS ra4'.rd m_sg41 (k := 8) (by decide)
        refine zW_ok hj B189_193 193 _ _ _ _ _ b189_193 ?_
        simp only [B189_193, zW, z_wp1, z_ld, z_f0, z_f1, z_f2, z_f3, List.getElem?_cons_zero, List.getElem?_cons_succ, true_and, and_true, Int32.reduceOfInt, z_i10, z_i01, Int32.reduceLT, Int32.reduceLE, Int32.reduceAdd, Int32.reduceSub, z_set, z_set2, z_kil, List.set_cons_zero, List.set_cons_succ, List.take_succ_cons, List.take_zero, List.drop_succ_cons, List.drop_zero, List.reverse_cons, List.reverse_nil, List.nil_append, List.cons_append, List.getD_cons_succ, List.getD_cons_zero, List.getD_nil, List.length_cons, List.length_nil, List.map_cons, List.map_nil, List.sum_cons, List.sum_nil, Nat.reduceAdd, Nat.reduceLeDiff, Value.category, Option.toList, true_or, or_true, z_ua, ↓reduceIte, Nat.reduceEqDiff, eq_self, not_true_eq_false, not_false_eq_true, false_implies, true_implies, Classical.not_not, Nat.le_refl, Nat.zero_le, sK71 hS]
        try dsimp only
        by_cases h8 : p_K t N z.1 = 8
        · have hk8 : ¬ p_K t N z.1 = 0 := by rw [h8]; decide
          have esh : r_bd (.ok (z.1, y.2 ++ z.2)) (r_sh (p_K t N)) = .ok (z.1 + 1, y.2 ++ z.2) := by
            rw [r_bd_k (y := (z.1, y.2 ++ z.2)) (z := (z.1 + 1, [])) (by show r_sh (p_K t N) z.1 = _; rw [r_sh, if_pos h8]), List.append_nil]
          rw [esh] at her hok
          refine z_callD (c8) (by omega) (by omega) (by omega) (Nat.le_of_ble_eq_true rfl) ?_
          try simp only [zW, z_wp1, z_ld, z_f0, z_f1, z_f2, z_f3, List.getElem?_cons_zero, List.getElem?_cons_succ, true_and, and_true, Int32.reduceOfInt, z_i10, z_i01, Int32.reduceLT, Int32.reduceLE, Int32.reduceAdd, Int32.reduceSub, z_set, z_set2, z_kil, List.set_cons_zero, List.set_cons_succ, List.take_succ_cons, List.take_zero, List.drop_succ_cons, List.drop_zero, List.reverse_cons, List.reverse_nil, List.nil_append, List.cons_append, List.getD_cons_succ, List.getD_cons_zero, List.getD_nil, List.length_cons, List.length_nil, List.map_cons, List.map_nil, List.sum_cons, List.sum_nil, Nat.reduceAdd, Nat.reduceLeDiff, Value.category, Option.toList, true_or, or_true, z_ua, ↓reduceIte, Nat.reduceEqDiff, eq_self, not_true_eq_false, not_false_eq_true, false_implies, true_implies, Classical.not_not, Nat.le_refl, Nat.zero_le, sK71 hS, z_b1 h8]
          try dsimp only
          have hp4 : I4 71 25 = nI ((List.replicate a 9 ++ S).length + 1) := g3.1
          obtain ⟨p1, p2, p3, p4, p5⟩ := m_rpo g1 g2 g3
          obtain ⟨q1, q2, q3, q4, q5⟩ := m_rop p2 p3 p4 (nI o)
          have ra5 : m_ra (z_u (z_u I4 71 25 (nI (List.replicate a 9 ++ S).length)) 71 23 (nI o)) t N z.1 (ms ++ y.2 ++ z.2) (List.replicate a 9 ++ S) o := ⟨q2, q3, q4, q5, by omega, by omega, by omega⟩
          have e1 : p_lc 9 (List.replicate a 9 ++ S) = a := by rw [p_lc_rep, h9]; rfl
          have st := c188a (l := X.1) (n := n) (J := J) hS ra5 9 (fun _ => by rw [e1, List.length_append, List.length_replicate]; exact ⟨hao, by omega⟩)
          rw [e1, p_rep_drop, if_pos rfl] at st
          refine zW_ok hj B189_208 208 _ _ _ _ _ b189_208 ?_
          simp only [B189_208, zW, z_wp1, z_ld, z_f0, z_f1, z_f2, z_f3, List.getElem?_cons_zero, List.getElem?_cons_succ, true_and, and_true, Int32.reduceOfInt, z_i10, z_i01, Int32.reduceLT, Int32.reduceLE, Int32.reduceAdd, Int32.reduceSub, z_set, z_set2, z_kil, List.set_cons_zero, List.set_cons_succ, List.take_succ_cons, List.take_zero, List.drop_succ_cons, List.drop_zero, List.reverse_cons, List.reverse_nil, List.nil_append, List.cons_append, List.getD_cons_succ, List.getD_cons_zero, List.getD_nil, List.length_cons, List.length_nil, List.map_cons, List.map_nil, List.sum_cons, List.sum_nil, Nat.reduceAdd, Nat.reduceLeDiff, Value.category, Option.toList, true_or, or_true, z_ua, ↓reduceIte, Nat.reduceEqDiff, eq_self, not_true_eq_false, not_false_eq_true, false_implies, true_implies, Classical.not_not, Nat.le_refl, Nat.zero_le, sK71 hS, hp4, nI_pred, g4]
          try dsimp only
          refine z_callQ st (by omega) (by omega) (by omega) (Nat.le_of_ble_eq_true rfl) ?_
          rintro r h' ⟨rfl, I6, rfl, f6, ra6⟩
          obtain ⟨k1, k2, k3, k4, k5, k6, k7⟩ := ra6
          simp only [zW, z_wp1, z_ld, z_f0, z_f1, z_f2, z_f3, List.getElem?_cons_zero, List.getElem?_cons_succ, true_and, and_true, Int32.reduceOfInt, z_i10, z_i01, Int32.reduceLT, Int32.reduceLE, Int32.reduceAdd, Int32.reduceSub, z_set, z_set2, z_kil, List.set_cons_zero, List.set_cons_succ, List.take_succ_cons, List.take_zero, List.drop_succ_cons, List.drop_zero, List.reverse_cons, List.reverse_nil, List.nil_append, List.cons_append, List.getD_cons_succ, List.getD_cons_zero, List.getD_nil, List.length_cons, List.length_nil, List.map_cons, List.map_nil, List.sum_cons, List.sum_nil, Nat.reduceAdd, Nat.reduceLeDiff, Value.category, Option.toList, true_or, or_true, z_ua, ↓reduceIte, Nat.reduceEqDiff, eq_self, not_true_eq_false, not_false_eq_true, false_implies, true_implies, Classical.not_not, Nat.le_refl, Nat.zero_le, sK71 hS]
          try dsimp only
          refine z_callQ (c177a (J := J) hS k1 k2 k3 k4 (by omega) k6 k7 hk8) (by omega) (by omega) (by omega) (Nat.le_of_ble_eq_true rfl) ?_
          rintro r h' ⟨rfl, I7, rfl, f7, ra7⟩
          simp only [zW, z_wp1, z_ld, z_f0, z_f1, z_f2, z_f3, List.getElem?_cons_zero, List.getElem?_cons_succ, true_and, and_true, Int32.reduceOfInt, z_i10, z_i01, Int32.reduceLT, Int32.reduceLE, Int32.reduceAdd, Int32.reduceSub, z_set, z_set2, z_kil, List.set_cons_zero, List.set_cons_succ, List.take_succ_cons, List.take_zero, List.drop_succ_cons, List.drop_zero, List.reverse_cons, List.reverse_nil, List.nil_append, List.cons_append, List.getD_cons_succ, List.getD_cons_zero, List.getD_nil, List.length_cons, List.length_nil, List.map_cons, List.map_nil, List.sum_cons, List.sum_nil, Nat.reduceAdd, Nat.reduceLeDiff, Value.category, Option.toList, true_or, or_true, z_ua, ↓reduceIte, Nat.reduceEqDiff, eq_self, not_true_eq_false, not_false_eq_true, false_implies, true_implies, Classical.not_not, Nat.le_refl, Nat.zero_le, sK71 hS]
          try dsimp only
          refine hok _ I7 _ rfl ((((f4.tr p1).tr q1).tr f6).tr f7) ?_
          simpa [List.append_assoc] using ra7
        · refine z_callD (c8) (by omega) (by omega) (by omega) (Nat.le_of_ble_eq_true rfl) ?_
          try simp only [zW, z_wp1, z_ld, z_f0, z_f1, z_f2, z_f3, List.getElem?_cons_zero, List.getElem?_cons_succ, true_and, and_true, Int32.reduceOfInt, z_i10, z_i01, Int32.reduceLT, Int32.reduceLE, Int32.reduceAdd, Int32.reduceSub, z_set, z_set2, z_kil, List.set_cons_zero, List.set_cons_succ, List.take_succ_cons, List.take_zero, List.drop_succ_cons, List.drop_zero, List.reverse_cons, List.reverse_nil, List.nil_append, List.cons_append, List.getD_cons_succ, List.getD_cons_zero, List.getD_nil, List.length_cons, List.length_nil, List.map_cons, List.map_nil, List.sum_cons, List.sum_nil, Nat.reduceAdd, Nat.reduceLeDiff, Value.category, Option.toList, true_or, or_true, z_ua, ↓reduceIte, Nat.reduceEqDiff, eq_self, not_true_eq_false, not_false_eq_true, false_implies, true_implies, Classical.not_not, Nat.le_refl, Nat.zero_le, sK71 hS, z_b0 h8]
          try dsimp only
          refine z_callD (c178 (I := I4) (J := J) hS 1) (by omega) (by omega) (by omega) (Nat.le_of_ble_eq_true rfl) ?_
          try simp only [zW, z_wp1, z_ld, z_f0, z_f1, z_f2, z_f3, List.getElem?_cons_zero, List.getElem?_cons_succ, true_and, and_true, Int32.reduceOfInt, z_i10, z_i01, Int32.reduceLT, Int32.reduceLE, Int32.reduceAdd, Int32.reduceSub, z_set, z_set2, z_kil, List.set_cons_zero, List.set_cons_succ, List.take_succ_cons, List.take_zero, List.drop_succ_cons, List.drop_zero, List.reverse_cons, List.reverse_nil, List.nil_append, List.cons_append, List.getD_cons_succ, List.getD_cons_zero, List.getD_nil, List.length_cons, List.length_nil, List.map_cons, List.map_nil, List.sum_cons, List.sum_nil, Nat.reduceAdd, Nat.reduceLeDiff, Value.category, Option.toList, true_or, or_true, z_ua, ↓reduceIte, Nat.reduceEqDiff, eq_self, not_true_eq_false, not_false_eq_true, false_implies, true_implies, Classical.not_not, Nat.le_refl, Nat.zero_le, sK71 hS]
          try dsimp only
          have h0 := ra4'.rd.f 1 (ms' := [])
          obtain ⟨-, q1, q2⟩ := m_re_er.mp h0
          exact her (1, z.1) _ (r_bd_e (y := (z.1, y.2 ++ z.2)) (by show r_sh (p_K t N) z.1 = _; rw [r_sh, if_neg h8])) (f4.tr (m_fr_f I4 _ _).f2) q1 q2
      · rw [r_cl, if_neg h14, if_neg h7] at her hok
        refine z_callD (c7) (by omega) (by omega) (by omega) (Nat.le_of_ble_eq_true rfl) ?_
        try simp only [zW, z_wp1, z_ld, z_f0, z_f1, z_f2, z_f3, List.getElem?_cons_zero, List.getElem?_cons_succ, true_and, and_true, Int32.reduceOfInt, z_i10, z_i01, Int32.reduceLT, Int32.reduceLE, Int32.reduceAdd, Int32.reduceSub, z_set, z_set2, z_kil, List.set_cons_zero, List.set_cons_succ, List.take_succ_cons, List.take_zero, List.drop_succ_cons, List.drop_zero, List.reverse_cons, List.reverse_nil, List.nil_append, List.cons_append, List.getD_cons_succ, List.getD_cons_zero, List.getD_nil, List.length_cons, List.length_nil, List.map_cons, List.map_nil, List.sum_cons, List.sum_nil, Nat.reduceAdd, Nat.reduceLeDiff, Value.category, Option.toList, true_or, or_true, z_ua, ↓reduceIte, Nat.reduceEqDiff, eq_self, not_true_eq_false, not_false_eq_true, false_implies, true_implies, Classical.not_not, Nat.le_refl, Nat.zero_le, sK71 hS, z_b0 h7]
        try dsimp only
        exact c189_m hS hj hdp hm hs hra h9 hao hSl hf her hok
/-- readAny -/
theorem c189 (hS : SS K L G) (hr : m_rd I t N i ms) (ho : I 71 23 = 0) : z_Ctr l 7 189 [.ref 71] (n, K, L, I, J, G) 0 0 (fun r h' => ∃ I', h' = (n, K, L, I', J, G) ∧ m_f2 I I' ∧ m_re t N ms (r_cs (p_K t N) (r_cl (p_K t N) (p_A t N) 8) i) r I' ∧ (r = some (.int 0) → I' 71 23 = 0)) := by
  obtain ⟨h1, h2, h3⟩ := m_rd_iff.mp hr
  refine z_ctr (by decide) (by decide +kernel) (Nat.le_of_ble_eq_true rfl) (by decide +kernel) (fun X hl hj hd hm hs hsc hQ => ?_)
  show zV X 0 [some (.ref 71), none, none, none] [] _ 0 0
  subst hl
  refine zW_ok hj B189_0 0 _ _ _ _ _ b189_0 ?_
  simp only [B189_0, zW, z_wp1, z_ld, z_f0, z_f1, z_f2, z_f3, List.getElem?_cons_zero, List.getElem?_cons_succ, true_and, and_true, Int32.reduceOfInt, z_i10, z_i01, Int32.reduceLT, Int32.reduceLE, Int32.reduceAdd, Int32.reduceSub, z_set, z_set2, z_kil, List.set_cons_zero, List.set_cons_succ, List.take_succ_cons, List.take_zero, List.drop_succ_cons, List.drop_zero, List.reverse_cons, List.reverse_nil, List.nil_append, List.cons_append, List.getD_cons_succ, List.getD_cons_zero, List.getD_nil, List.length_cons, List.length_nil, List.map_cons, List.map_nil, List.sum_cons, List.sum_nil, Nat.reduceAdd, Nat.reduceLeDiff, Value.category, Option.toList, true_or, or_true, z_ua, ↓reduceIte, Nat.reduceEqDiff, eq_self, not_true_eq_false, not_false_eq_true, false_implies, true_implies, Classical.not_not, Nat.le_refl, Nat.zero_le, sK71 hS]
  try dsimp only
  have f0 : m_f2 I (z_u I 71 25 0) := ⟨fun q a b c d => by rw [z_u_ne a], fun k a b c d e f g h i => by rw [z_u_at, if_neg h], fun k _ => ⟨by rw [z_u_ne (by decide)], by rw [z_u_ne (by decide)]⟩⟩
  have ra0 : m_ra (z_u I 71 25 0) t N i ms [] 0 := ⟨h1.f2 f0 (fun k a b c => by rw [z_u_at, if_neg b]), ⟨by rw [z_u_at, if_neg (by decide)]; exact h2.1, fun j x hj => by rw [z_u_ne (by decide), z_u_ne (by decide)]; exact h2.2 j x hj⟩, ⟨by rw [z_u_at, if_pos rfl]; rfl, fun j x hj => by simp at hj⟩, by rw [z_u_at, if_neg (by decide)]; exact ho, by simpa using h3, by simp, by omega⟩
  have her : ∀ e I2, r_cs (p_K t N) (r_cl (p_K t N) (p_A t N) 8) i = .error e → m_f2 I I2 → I2 71 26 = e.1 → I2 71 27 = nI (p_P t N e.2) → X.2.2.2.2.2.2 (some (.int (-1))) (n, K, L, I2, J, G) := by
    intro e I2 he f2 q1 q2
    refine hQ _ _ ⟨I2, rfl, f2, ?_, fun q => ?_⟩
    · rw [he]; exact m_re_er.mpr ⟨rfl, q1, q2⟩
    · exact absurd q (by decide)
  refine c189_cl (I := I) hS hj hd hm hs 8 i 0 0 0 [] ms _ none ra0 rfl (by omega) (by omega) (by omega) (by simp) f0 (fun e I2 he f2 q1 q2 => her e I2 (by rw [r_cs, he, r_bd_r]) f2 q1 q2) (fun y I2 x3 hy f2 ra2 => ?_)
  rw [Nat.sub_zero, List.replicate_zero, List.append_nil] at ra2
  refine c189_q (T := []) (o := 0) (b := 0) hS hj hd hm hs (c189_cl (I := I) hS hj hd hm hs 8) (by omega) (Or.inl rfl) (by simp) (by omega) 802 y.1 false false (ms ++ y.2) I2 x3 (by omega) (by simpa using ra2) f2 (fun e I3 he f3 q1 q2 => her e I3 (by rw [r_cs, hy, r_bd_e he]) f3 q1 q2) (fun z I3 x4 hz f3 ra3 => ⟨fun _ => ?_, fun q => absurd rfl q⟩)
  refine hQ _ _ ⟨I3, rfl, f3, ?_, fun _ => ra3.2.2.2.1⟩
  rw [r_cs, hy, r_bd_k hz]
  refine m_re_ok.mpr ⟨rfl, ?_⟩
  have := ra3.rd
  simpa [List.append_assoc] using this
end PAR10
