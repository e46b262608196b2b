/-! The public methods: key -/
section KEYP
variable {l : Launch} {n : Nat} {K L : Nat → Nat} {I : Nat → Nat → Int32} {J : Nat → Nat → Int64} {G : Nat → Nat → Value} {M : Nat → Nat → Int32} {c F N : Nat} {tr : Nat → (Int32 → Int32) → Int32} {cd : Nat} {D : Nat → Nat} {ch rr : Nat}
theorem c87y (hx : XI n K L I J G M c F N tr cd D ch rr) {s : Int32} (h : m_isF F s) : z_D l 0 87 [.ref 10, .int s] (n, K, L, I, J, G) (some (.int 1)) (n, K, L, I, J, G) := by
  have h1 : 0 ≤ s ∧ s >>> (I 10 0 &&& 31) = 0 := by rw [hx.fn.1]; exact (zb_has hx.fn.2.1).mpr h
  have := c87 (l := l) (n := n) (I := I) (J := J) hx.S s
  rw [z_b1 h1] at this
  exact this
theorem c87n (hx : XI n K L I J G M c F N tr cd D ch rr) {s : Int32} (h : ¬ m_isF F s) : z_D l 0 87 [.ref 10, .int s] (n, K, L, I, J, G) (some (.int 0)) (n, K, L, I, J, G) := by
  have h1 : ¬ (0 ≤ s ∧ s >>> (I 10 0 &&& 31) = 0) := fun q => h (by rw [hx.fn.1] at q; exact (zb_has hx.fn.2.1).mp q)
  have := c87 (l := l) (n := n) (I := I) (J := J) hx.S s
  rw [z_b0 h1] at this
  exact this
/-- key -/
theorem d145a (hx : XI n K L I J G M c F N tr cd D ch rr) (hr : rr < 600) {s : Nat} {w : Int32} (hsF : s < 2 ^ F) (hs0 : s ≠ 0) (hw : 0 ≤ w ∧ w ≤ 2) : ∃ mc ms, (mc ≤ 4 ∧ ms ≤ 400000) ∧ z_Ctr l 32 145 [.ref 5, .int (nI s), .int w] (n, K, L, I, J, G) mc ms (x_po n I J M c F N tr (rr + 1) (x_u L D + ms) (.int (if w = 0 then (mKV M c F N tr s).1 else if w = 1 then (mKV M c F N tr s).2.1 else (mKV M c F N tr s).2.2))) := by
  have hS : SS K L G := hx.S
  obtain ⟨f1, f2, f3, f4⟩ := hx.fn
  have h16 : 2 ^ F ≤ 2 ^ 16 := Nat.pow_le_pow_right (by omega) f2
  have hsN : ¬ nI s = 0 := fun q => hs0 ((nI_eq (a := s) (b := 0) (by omega) (by omega)).mp q)
  have hset : m_isF F (nI s) := ⟨nI_pos' (by omega), nI_lt hsF (by omega)⟩
  have hg1 : x_g21 L I D F ch ≤ 1 := by unfold x_g21; split <;> omega
  refine ⟨x_g21 L I D F ch, 2 ^ F * x_g21 L I D F ch, ⟨by omega, by have := z_pwg hx.fn.2.1 hg1; omega⟩, ?_⟩
  refine z_ctr (by decide) (by decide +kernel) (Nat.le_of_ble_eq_true rfl) (by decide +kernel) (fun X hl hj hd hm hs hsc hQ => ?_)
  show zV X 0 [some (.ref 5), some (.int (nI s)), some (.int w)] [] _ 0 0
  subst hl
  refine zW_ok hj B145_0 0 _ _ _ _ _ b145_0 ?_
  simp only [B145_0, zW, z_wp1, z_ld, z_f0, z_f1, z_f2, z_f3, List.getElem?_cons_zero, List.getElem?_cons_succ, true_and, and_true, Int32.reduceOfInt, z_i10, z_i01, Int32.reduceLT, Int32.reduceLE, Int32.reduceAdd, Int32.reduceSub, z_set, z_set2, z_kil, List.set_cons_zero, List.set_cons_succ, List.take_succ_cons, List.take_zero, List.drop_succ_cons, List.drop_zero, List.reverse_cons, List.reverse_nil, List.nil_append, List.cons_append, List.getD_cons_succ, List.getD_cons_zero, List.getD_nil, List.length_cons, List.length_nil, List.map_cons, List.map_nil, List.sum_cons, List.sum_nil, Nat.reduceAdd, Nat.reduceLeDiff, Value.category, Option.toList, true_or, or_true, z_ua, ↓reduceIte, Nat.reduceEqDiff, eq_self, not_true_eq_false, not_false_eq_true, false_implies, true_implies, Classical.not_not, Nat.le_refl, Nat.zero_le, hsN, sK5 hS, sG5_1 hS, sK10 hS]
  try dsimp only
  refine z_callD (c87y hx hset) (by omega) (by omega) (by omega) (Nat.le_of_ble_eq_true rfl) ?_
  try simp only [zW, z_wp1, z_ld, z_f0, z_f1, z_f2, z_f3, List.getElem?_cons_zero, List.getElem?_cons_succ, true_and, and_true, Int32.reduceOfInt, z_i10, z_i01, Int32.reduceLT, Int32.reduceLE, Int32.reduceAdd, Int32.reduceSub, z_set, z_set2, z_kil, List.set_cons_zero, List.set_cons_succ, List.take_succ_cons, List.take_zero, List.drop_succ_cons, List.drop_zero, List.reverse_cons, List.reverse_nil, List.nil_append, List.cons_append, List.getD_cons_succ, List.getD_cons_zero, List.getD_nil, List.length_cons, List.length_nil, List.map_cons, List.map_nil, List.sum_cons, List.sum_nil, Nat.reduceAdd, Nat.reduceLeDiff, Value.category, Option.toList, true_or, or_true, z_ua, ↓reduceIte, Nat.reduceEqDiff, eq_self, not_true_eq_false, not_false_eq_true, false_implies, true_implies, Classical.not_not, Nat.le_refl, Nat.zero_le]
  try dsimp only
  refine zW_ok hj B145_17 17 _ _ _ _ _ b145_17 ?_
  simp only [B145_17, zW, z_wp1, z_ld, z_f0, z_f1, z_f2, z_f3, List.getElem?_cons_zero, List.getElem?_cons_succ, true_and, and_true, Int32.reduceOfInt, z_i10, z_i01, Int32.reduceLT, Int32.reduceLE, Int32.reduceAdd, Int32.reduceSub, z_set, z_set2, z_kil, List.set_cons_zero, List.set_cons_succ, List.take_succ_cons, List.take_zero, List.drop_succ_cons, List.drop_zero, List.reverse_cons, List.reverse_nil, List.nil_append, List.cons_append, List.getD_cons_succ, List.getD_cons_zero, List.getD_nil, List.length_cons, List.length_nil, List.map_cons, List.map_nil, List.sum_cons, List.sum_nil, Nat.reduceAdd, Nat.reduceLeDiff, Value.category, Option.toList, true_or, or_true, z_ua, ↓reduceIte, Nat.reduceEqDiff, eq_self, not_true_eq_false, not_false_eq_true, false_implies, true_implies, Classical.not_not, Nat.le_refl, Nat.zero_le, sK5 hS, sG5_1 hS, sK10 hS]
  try dsimp only
  refine z_callQ (c96x hx) (by omega) (by omega) (by omega) (Nat.le_of_ble_eq_true rfl) ?_
  rintro r h' ⟨rfl, I1, rfl, hx1, hI, hrow⟩
  have eg : x_g21 L I1 D F ch = x_g21 L I D F ch := by unfold x_g21; rw [hI 53 (by omega)]
  simp only [zW, z_wp1, z_ld, z_f0, z_f1, z_f2, z_f3, List.getElem?_cons_zero, List.getElem?_cons_succ, true_and, and_true, Int32.reduceOfInt, z_i10, z_i01, Int32.reduceLT, Int32.reduceLE, Int32.reduceAdd, Int32.reduceSub, z_set, z_set2, z_kil, List.set_cons_zero, List.set_cons_succ, List.take_succ_cons, List.take_zero, List.drop_succ_cons, List.drop_zero, List.reverse_cons, List.reverse_nil, List.nil_append, List.cons_append, List.getD_cons_succ, List.getD_cons_zero, List.getD_nil, List.length_cons, List.length_nil, List.map_cons, List.map_nil, List.sum_cons, List.sum_nil, Nat.reduceAdd, Nat.reduceLeDiff, Value.category, Option.toList, true_or, or_true, z_ua, ↓reduceIte, Nat.reduceEqDiff, eq_self, not_true_eq_false, not_false_eq_true, false_implies, true_implies, Classical.not_not, Nat.le_refl, Nat.zero_le, sK5 hS, sG5_1 hS, sK10 hS, sG5_6 hS, sK53 hS]
  try dsimp only
  refine z_callA (c21x (l := X.1) hx1 hr hrow) (by omega) (by rw [eg]; omega) (by rw [eg]; omega) (Nat.le_of_ble_eq_true rfl) ?_
  rintro r h' ⟨rfl, n', K', L', I2, J', G', D', rfl, hx2, u1, u2, u3, u4⟩
  rw [eg] at u1
  obtain ⟨R, hR, hX, hmm⟩ := hx2.xk u4
  have hS := hx2.S
  have hp9 : D' 9 = 57 ∨ 103 ≤ D' 9 := (hx2.1.2.2.2.1.at (i := 9) rfl).2.2.2.1
  have fin : ∀ v I3, (∀ q, q ≠ D' 9 → I3 q = I2 q) → k_memo I3 (D' 9) (L' (D' 9)) N R (mYs M c F tr 1) (mYs M c F tr 2) (M 97) → x_po n I J M c F N tr (rr + 1) (x_u L D + 2 ^ F * x_g21 L I D F ch) v (some v) (n', K', L', I3, J', G') := fun v I3 o3 hm3 => ⟨rfl, n', K', L', I3, J', G', cd, D', ch, rfl, hx2.km u4 hR hX (fun q a _ _ => o3 q a) (fun k _ _ _ => by rw [o3 53 (by omega)]) hm3, u1, fun q x y => ⟨by rw [o3 q (by omega), (u2 q x y).1, hI q (by omega)], (u2 q x y).2⟩, u3⟩
  rw [eg]
  have t0 : w = 0 → zV X 64 [some (.ref 5), some (.int (nI s)), some (.int w)] [] (n', K', L', I2, J', G') (0 + x_g21 L I D F ch) (0 + 2 ^ F * x_g21 L I D F ch) := fun h0 => by
    rw [if_pos h0] at hQ
    refine zW_ok hj B145_64 64 _ _ _ _ _ b145_64 ?_
    simp only [B145_64, zW, z_wp1, z_ld, z_f0, z_f1, z_f2, z_f3, List.getElem?_cons_zero, List.getElem?_cons_succ, true_and, and_true, Int32.reduceOfInt, z_i10, z_i01, Int32.reduceLT, Int32.reduceLE, Int32.reduceAdd, Int32.reduceSub, z_set, z_set2, z_kil, List.set_cons_zero, List.set_cons_succ, List.take_succ_cons, List.take_zero, List.drop_succ_cons, List.drop_zero, List.reverse_cons, List.reverse_nil, List.nil_append, List.cons_append, List.getD_cons_succ, List.getD_cons_zero, List.getD_nil, List.length_cons, List.length_nil, List.map_cons, List.map_nil, List.sum_cons, List.sum_nil, Nat.reduceAdd, Nat.reduceLeDiff, Value.category, Option.toList, true_or, or_true, z_ua, ↓reduceIte, Nat.reduceEqDiff, eq_self, not_true_eq_false, not_false_eq_true, false_implies, true_implies, Classical.not_not, Nat.le_refl, Nat.zero_le, sK5 hS, sG5_6 hS, sK53 hS]
    try dsimp only
    refine z_callQ (c22 (l := X.1) (n := n') (J := J') hS hsF hs0 hX hmm) (by omega) (by omega) (by omega) (Nat.le_of_ble_eq_true rfl) ?_
    rintro r h' ⟨rfl, I3, rfl, o3, hm3, -⟩
    simp only [zW, z_wp1, z_ld, z_f0, z_f1, z_f2, z_f3, List.getElem?_cons_zero, List.getElem?_cons_succ, true_and, and_true, Int32.reduceOfInt, z_i10, z_i01, Int32.reduceLT, Int32.reduceLE, Int32.reduceAdd, Int32.reduceSub, z_set, z_set2, z_kil, List.set_cons_zero, List.set_cons_succ, List.take_succ_cons, List.take_zero, List.drop_succ_cons, List.drop_zero, List.reverse_cons, List.reverse_nil, List.nil_append, List.cons_append, List.getD_cons_succ, List.getD_cons_zero, List.getD_nil, List.length_cons, List.length_nil, List.map_cons, List.map_nil, List.sum_cons, List.sum_nil, Nat.reduceAdd, Nat.reduceLeDiff, Value.category, Option.toList, true_or, or_true, z_ua, ↓reduceIte, Nat.reduceEqDiff, eq_self, not_true_eq_false, not_false_eq_true, false_implies, true_implies, Classical.not_not, Nat.le_refl, Nat.zero_le]
    try dsimp only
    exact hQ _ _ (fin _ I3 o3 hm3)
  have t1 : w = 1 → zV X 73 [some (.ref 5), some (.int (nI s)), some (.int w)] [] (n', K', L', I2, J', G') (0 + x_g21 L I D F ch) (0 + 2 ^ F * x_g21 L I D F ch) := fun h0 => by
    rw [if_neg (by rw [h0]; decide), if_pos h0] at hQ
    refine zW_ok hj B145_73 73 _ _ _ _ _ b145_73 ?_
    simp only [B145_73, zW, z_wp1, z_ld, z_f0, z_f1, z_f2, z_f3, List.getElem?_cons_zero, List.getElem?_cons_succ, true_and, and_true, Int32.reduceOfInt, z_i10, z_i01, Int32.reduceLT, Int32.reduceLE, Int32.reduceAdd, Int32.reduceSub, z_set, z_set2, z_kil, List.set_cons_zero, List.set_cons_succ, List.take_succ_cons, List.take_zero, List.drop_succ_cons, List.drop_zero, List.reverse_cons, List.reverse_nil, List.nil_append, List.cons_append, List.getD_cons_succ, List.getD_cons_zero, List.getD_nil, List.length_cons, List.length_nil, List.map_cons, List.map_nil, List.sum_cons, List.sum_nil, Nat.reduceAdd, Nat.reduceLeDiff, Value.category, Option.toList, true_or, or_true, z_ua, ↓reduceIte, Nat.reduceEqDiff, eq_self, not_true_eq_false, not_false_eq_true, false_implies, true_implies, Classical.not_not, Nat.le_refl, Nat.zero_le, sK5 hS, sG5_6 hS, sK53 hS]
    try dsimp only
    refine z_callQ (c23 (l := X.1) (n := n') (J := J') hS hsF hs0 hX hmm) (by omega) (by omega) (by omega) (Nat.le_of_ble_eq_true rfl) ?_
    rintro r h' ⟨rfl, I3, rfl, o3, hm3⟩
    simp only [zW, z_wp1, z_ld, z_f0, z_f1, z_f2, z_f3, List.getElem?_cons_zero, List.getElem?_cons_succ, true_and, and_true, Int32.reduceOfInt, z_i10, z_i01, Int32.reduceLT, Int32.reduceLE, Int32.reduceAdd, Int32.reduceSub, z_set, z_set2, z_kil, List.set_cons_zero, List.set_cons_succ, List.take_succ_cons, List.take_zero, List.drop_succ_cons, List.drop_zero, List.reverse_cons, List.reverse_nil, List.nil_append, List.cons_append, List.getD_cons_succ, List.getD_cons_zero, List.getD_nil, List.length_cons, List.length_nil, List.map_cons, List.map_nil, List.sum_cons, List.sum_nil, Nat.reduceAdd, Nat.reduceLeDiff, Value.category, Option.toList, true_or, or_true, z_ua, ↓reduceIte, Nat.reduceEqDiff, eq_self, not_true_eq_false, not_false_eq_true, false_implies, true_implies, Classical.not_not, Nat.le_refl, Nat.zero_le]
    try dsimp only
    exact hQ _ _ (fin _ I3 o3 hm3)
  have t2 : w = 2 → zV X 82 [some (.ref 5), some (.int (nI s)), some (.int w)] [] (n', K', L', I2, J', G') (0 + x_g21 L I D F ch) (0 + 2 ^ F * x_g21 L I D F ch) := fun h0 => by
    rw [if_neg (by rw [h0]; decide), if_neg (by rw [h0]; decide)] at hQ
    refine zW_ok hj B145_82 82 _ _ _ _ _ b145_82 ?_
    simp only [B145_82, zW, z_wp1, z_ld, z_f0, z_f1, z_f2, z_f3, List.getElem?_cons_zero, List.getElem?_cons_succ, true_and, and_true, Int32.reduceOfInt, z_i10, z_i01, Int32.reduceLT, Int32.reduceLE, Int32.reduceAdd, Int32.reduceSub, z_set, z_set2, z_kil, List.set_cons_zero, List.set_cons_succ, List.take_succ_cons, List.take_zero, List.drop_succ_cons, List.drop_zero, List.reverse_cons, List.reverse_nil, List.nil_append, List.cons_append, List.getD_cons_succ, List.getD_cons_zero, List.getD_nil, List.length_cons, List.length_nil, List.map_cons, List.map_nil, List.sum_cons, List.sum_nil, Nat.reduceAdd, Nat.reduceLeDiff, Value.category, Option.toList, true_or, or_true, z_ua, ↓reduceIte, Nat.reduceEqDiff, eq_self, not_true_eq_false, not_false_eq_true, false_implies, true_implies, Classical.not_not, Nat.le_refl, Nat.zero_le, sK5 hS, sG5_6 hS, sK53 hS]
    try dsimp only
    refine z_callQ (c25 (l := X.1) (n := n') (J := J') hS hsF hs0 hX hmm) (by omega) (by omega) (by omega) (Nat.le_of_ble_eq_true rfl) ?_
    rintro r h' ⟨rfl, I3, rfl, o3, hm3⟩
    simp only [zW, z_wp1, z_ld, z_f0, z_f1, z_f2, z_f3, List.getElem?_cons_zero, List.getElem?_cons_succ, true_and, and_true, Int32.reduceOfInt, z_i10, z_i01, Int32.reduceLT, Int32.reduceLE, Int32.reduceAdd, Int32.reduceSub, z_set, z_set2, z_kil, List.set_cons_zero, List.set_cons_succ, List.take_succ_cons, List.take_zero, List.drop_succ_cons, List.drop_zero, List.reverse_cons, List.reverse_nil, List.nil_append, List.cons_append, List.getD_cons_succ, List.getD_cons_zero, List.getD_nil, List.length_cons, List.length_nil, List.map_cons, List.map_nil, List.sum_cons, List.sum_nil, Nat.reduceAdd, Nat.reduceLeDiff, Value.category, Option.toList, true_or, or_true, z_ua, ↓reduceIte, Nat.reduceEqDiff, eq_self, not_true_eq_false, not_false_eq_true, false_implies, true_implies, Classical.not_not, Nat.le_refl, Nat.zero_le]
    try dsimp only
    exact hQ _ _ (fin _ I3 o3 hm3)
  obtain ⟨k, hk, e⟩ : ∃ k : Nat, k < 3 ∧ w = nI k := by
    obtain ⟨m, hm', e⟩ := nI_of (x := w) (Int32.not_lt.mpr hw.1)
    have h2 := hw.2
    rw [e] at h2
    have := (nI_leI (a := m) (b := 2) hm' (by omega)).mp h2
    exact ⟨m, by omega, e⟩
  have et : w.toInt = (k : Int) := by rw [e, nI_toInt (by omega)]
  simp only [zW, z_wp1, z_ld, z_f0, z_f1, z_f2, z_f3, List.getElem?_cons_zero, List.getElem?_cons_succ, true_and, and_true, Int32.reduceOfInt, z_i10, z_i01, Int32.reduceLT, Int32.reduceLE, Int32.reduceAdd, Int32.reduceSub, z_set, z_set2, z_kil, List.set_cons_zero, List.set_cons_succ, List.take_succ_cons, List.take_zero, List.drop_succ_cons, List.drop_zero, List.reverse_cons, List.reverse_nil, List.nil_append, List.cons_append, List.getD_cons_succ, List.getD_cons_zero, List.getD_nil, List.length_cons, List.length_nil, List.map_cons, List.map_nil, List.sum_cons, List.sum_nil, Nat.reduceAdd, Nat.reduceLeDiff, Value.category, Option.toList, true_or, or_true, z_ua, ↓reduceIte, Nat.reduceEqDiff, eq_self, not_true_eq_false, not_false_eq_true, false_implies, true_implies, Classical.not_not, Nat.le_refl, Nat.zero_le]
  try dsimp only
  refine ⟨fun q => ?_, fun q1 q2 => ?_⟩
  · rw [et] at q
    omega
  rw [et]
  have : k = 0 ∨ k = 1 ∨ k = 2 := by omega
  rcases this with rfl | rfl | rfl
  · exact ⟨_, rfl, t0 e⟩
  · exact ⟨_, rfl, t1 e⟩
  · exact ⟨_, rfl, t2 e⟩
/-- a set that is none -/
theorem d145b (hx : XI n K L I J G M c F N tr cd D ch rr) (hr : rr < 600) {s w : Int32} (h : ¬ (m_isF F s ∧ ¬ s = 0)) : z_Ctr l 32 145 [.ref 5, .int s, .int w] (n, K, L, I, J, G) 0 0 (x_po n I J M c F N tr (rr + 1) (x_u L D) (.int (-1))) := by
  have hS : SS K L G := hx.S
  refine z_ctr (by decide) (by decide +kernel) (Nat.le_of_ble_eq_true rfl) (by decide +kernel) (fun X hl hj hd hm hs hsc hQ => ?_)
  show zV X 0 [some (.ref 5), some (.int s), some (.int w)] [] _ 0 0
  have no : zV X 15 [some (.ref 5), some (.int s), some (.int w)] [] (n, K, L, I, J, G) 0 0 := by
    refine zW_ok hj B145_15 15 _ _ _ _ _ b145_15 ?_
    simp only [B145_15, zW, z_wp1, z_ld, z_f0, z_f1, z_f2, z_f3, List.getElem?_cons_zero, List.getElem?_cons_succ, true_and, and_true, Int32.reduceOfInt, z_i10, z_i01, Int32.reduceLT, Int32.reduceLE, Int32.reduceAdd, Int32.reduceSub, z_set, z_set2, z_kil, List.set_cons_zero, List.set_cons_succ, List.take_succ_cons, List.take_zero, List.drop_succ_cons, List.drop_zero, List.reverse_cons, List.reverse_nil, List.nil_append, List.cons_append, List.getD_cons_succ, List.getD_cons_zero, List.getD_nil, List.length_cons, List.length_nil, List.map_cons, List.map_nil, List.sum_cons, List.sum_nil, Nat.reduceAdd, Nat.reduceLeDiff, Value.category, Option.toList, true_or, or_true, z_ua, ↓reduceIte, Nat.reduceEqDiff, eq_self, not_true_eq_false, not_false_eq_true, false_implies, true_implies, Classical.not_not, Nat.le_refl, Nat.zero_le]
    try dsimp only
    exact hQ _ _ (x_po.id hx hr _)
  by_cases h0 : s = 0
  · refine zW_ok hj B145_0 0 _ _ _ _ _ b145_0 ?_
    simp only [B145_0, zW, z_wp1, z_ld, z_f0, z_f1, z_f2, z_f3, List.getElem?_cons_zero, List.getElem?_cons_succ, true_and, and_true, Int32.reduceOfInt, z_i10, z_i01, Int32.reduceLT, Int32.reduceLE, Int32.reduceAdd, Int32.reduceSub, z_set, z_set2, z_kil, List.set_cons_zero, List.set_cons_succ, List.take_succ_cons, List.take_zero, List.drop_succ_cons, List.drop_zero, List.reverse_cons, List.reverse_nil, List.nil_append, List.cons_append, List.getD_cons_succ, List.getD_cons_zero, List.getD_nil, List.length_cons, List.length_nil, List.map_cons, List.map_nil, List.sum_cons, List.sum_nil, Nat.reduceAdd, Nat.reduceLeDiff, Value.category, Option.toList, true_or, or_true, z_ua, ↓reduceIte, Nat.reduceEqDiff, eq_self, not_true_eq_false, not_false_eq_true, false_implies, true_implies, Classical.not_not, Nat.le_refl, Nat.zero_le, h0]
    try dsimp only
    rw [h0] at no
    exact no
  · have hn : ¬ m_isF F s := fun q => h ⟨q, h0⟩
    refine zW_ok hj B145_0 0 _ _ _ _ _ b145_0 ?_
    simp only [B145_0, zW, z_wp1, z_ld, z_f0, z_f1, z_f2, z_f3, List.getElem?_cons_zero, List.getElem?_cons_succ, true_and, and_true, Int32.reduceOfInt, z_i10, z_i01, Int32.reduceLT, Int32.reduceLE, Int32.reduceAdd, Int32.reduceSub, z_set, z_set2, z_kil, List.set_cons_zero, List.set_cons_succ, List.take_succ_cons, List.take_zero, List.drop_succ_cons, List.drop_zero, List.reverse_cons, List.reverse_nil, List.nil_append, List.cons_append, List.getD_cons_succ, List.getD_cons_zero, List.getD_nil, List.length_cons, List.length_nil, List.map_cons, List.map_nil, List.sum_cons, List.sum_nil, Nat.reduceAdd, Nat.reduceLeDiff, Value.category, Option.toList, true_or, or_true, z_ua, ↓reduceIte, Nat.reduceEqDiff, eq_self, not_true_eq_false, not_false_eq_true, false_implies, true_implies, Classical.not_not, Nat.le_refl, Nat.zero_le, h0, sK5 hS, sG5_1 hS, sK10 hS]
    try dsimp only
    refine z_callD (c87n hx hn) (by omega) (by omega) (by omega) (Nat.le_of_ble_eq_true rfl) ?_
    try simp only [zW, z_wp1, z_ld, z_f0, z_f1, z_f2, z_f3, List.getElem?_cons_zero, List.getElem?_cons_succ, true_and, and_true, Int32.reduceOfInt, z_i10, z_i01, Int32.reduceLT, Int32.reduceLE, Int32.reduceAdd, Int32.reduceSub, z_set, z_set2, z_kil, List.set_cons_zero, List.set_cons_succ, List.take_succ_cons, List.take_zero, List.drop_succ_cons, List.drop_zero, List.reverse_cons, List.reverse_nil, List.nil_append, List.cons_append, List.getD_cons_succ, List.getD_cons_zero, List.getD_nil, List.length_cons, List.length_nil, List.map_cons, List.map_nil, List.sum_cons, List.sum_nil, Nat.reduceAdd, Nat.reduceLeDiff, Value.category, Option.toList, true_or, or_true, z_ua, ↓reduceIte, Nat.reduceEqDiff, eq_self, not_true_eq_false, not_false_eq_true, false_implies, true_implies, Classical.not_not, Nat.le_refl, Nat.zero_le]
    try dsimp only
    exact no
/-- a wrong what -/
theorem d145c (hx : XI n K L I J G M c F N tr cd D ch rr) (hr : rr < 600) {s w : Int32} (hset : m_isF F s) (hsN : ¬ s = 0) (hw : ¬ (0 ≤ w ∧ w ≤ 2)) : ∃ mc ms, (mc ≤ 4 ∧ ms ≤ 400000) ∧ z_Ctr l 32 145 [.ref 5, .int s, .int w] (n, K, L, I, J, G) mc ms (x_po n I J M c F N tr (rr + 1) (x_u L D + ms) (.int (-1))) := by
  have hS : SS K L G := hx.S
  have hg1 : x_g21 L I D F ch ≤ 1 := by unfold x_g21; split <;> omega
  refine ⟨x_g21 L I D F ch, 2 ^ F * x_g21 L I D F ch, ⟨by omega, by have := z_pwg hx.fn.2.1 hg1; omega⟩, ?_⟩
  refine z_ctr (by decide) (by decide +kernel) (Nat.le_of_ble_eq_true rfl) (by decide +kernel) (fun X hl hj hd hm hs hsc hQ => ?_)
  show zV X 0 [some (.ref 5), some (.int s), some (.int w)] [] _ 0 0
  subst hl
  refine zW_ok hj B145_0 0 _ _ _ _ _ b145_0 ?_
  simp only [B145_0, zW, z_wp1, z_ld, z_f0, z_f1, z_f2, z_f3, List.getElem?_cons_zero, List.getElem?_cons_succ, true_and, and_true, Int32.reduceOfInt, z_i10, z_i01, Int32.reduceLT, Int32.reduceLE, Int32.reduceAdd, Int32.reduceSub, z_set, z_set2, z_kil, List.set_cons_zero, List.set_cons_succ, List.take_succ_cons, List.take_zero, List.drop_succ_cons, List.drop_zero, List.reverse_cons, List.reverse_nil, List.nil_append, List.cons_append, List.getD_cons_succ, List.getD_cons_zero, List.getD_nil, List.length_cons, List.length_nil, List.map_cons, List.map_nil, List.sum_cons, List.sum_nil, Nat.reduceAdd, Nat.reduceLeDiff, Value.category, Option.toList, true_or, or_true, z_ua, ↓reduceIte, Nat.reduceEqDiff, eq_self, not_true_eq_false, not_false_eq_true, false_implies, true_implies, Classical.not_not, Nat.le_refl, Nat.zero_le, hsN, sK5 hS, sG5_1 hS, sK10 hS]
  try dsimp only
  refine z_callD (c87y hx hset) (by omega) (by omega) (by omega) (Nat.le_of_ble_eq_true rfl) ?_
  try simp only [zW, z_wp1, z_ld, z_f0, z_f1, z_f2, z_f3, List.getElem?_cons_zero, List.getElem?_cons_succ, true_and, and_true, Int32.reduceOfInt, z_i10, z_i01, Int32.reduceLT, Int32.reduceLE, Int32.reduceAdd, Int32.reduceSub, z_set, z_set2, z_kil, List.set_cons_zero, List.set_cons_succ, List.take_succ_cons, List.take_zero, List.drop_succ_cons, List.drop_zero, List.reverse_cons, List.reverse_nil, List.nil_append, List.cons_append, List.getD_cons_succ, List.getD_cons_zero, List.getD_nil, List.length_cons, List.length_nil, List.map_cons, List.map_nil, List.sum_cons, List.sum_nil, Nat.reduceAdd, Nat.reduceLeDiff, Value.category, Option.toList, true_or, or_true, z_ua, ↓reduceIte, Nat.reduceEqDiff, eq_self, not_true_eq_false, not_false_eq_true, false_implies, true_implies, Classical.not_not, Nat.le_refl, Nat.zero_le]
  try dsimp only
  refine zW_ok hj B145_17 17 _ _ _ _ _ b145_17 ?_
  simp only [B145_17, zW, z_wp1, z_ld, z_f0, z_f1, z_f2, z_f3, List.getElem?_cons_zero, List.getElem?_cons_succ, true_and, and_true, Int32.reduceOfInt, z_i10, z_i01, Int32.reduceLT, Int32.reduceLE, Int32.reduceAdd, Int32.reduceSub, z_set, z_set2, z_kil, List.set_cons_zero, List.set_cons_succ, List.take_succ_cons, List.take_zero, List.drop_succ_cons, List.drop_zero, List.reverse_cons, List.reverse_nil, List.nil_append, List.cons_append, List.getD_cons_succ, List.getD_cons_zero, List.getD_nil, List.length_cons, List.length_nil, List.map_cons, List.map_nil, List.sum_cons, List.sum_nil, Nat.reduceAdd, Nat.reduceLeDiff, Value.category, Option.toList, true_or, or_true, z_ua, ↓reduceIte, Nat.reduceEqDiff, eq_self, not_true_eq_false, not_false_eq_true, false_implies, true_implies, Classical.not_not, Nat.le_refl, Nat.zero_le, sK5 hS, sG5_1 hS, sK10 hS]
  try dsimp only
  refine z_callQ (c96x hx) (by omega) (by omega) (by omega) (Nat.le_of_ble_eq_true rfl) ?_
  rintro r h' ⟨rfl, I1, rfl, hx1, hI, hrow⟩
  have eg : x_g21 L I1 D F ch = x_g21 L I D F ch := by unfold x_g21; rw [hI 53 (by omega)]
  simp only [zW, z_wp1, z_ld, z_f0, z_f1, z_f2, z_f3, List.getElem?_cons_zero, List.getElem?_cons_succ, true_and, and_true, Int32.reduceOfInt, z_i10, z_i01, Int32.reduceLT, Int32.reduceLE, Int32.reduceAdd, Int32.reduceSub, z_set, z_set2, z_kil, List.set_cons_zero, List.set_cons_succ, List.take_succ_cons, List.take_zero, List.drop_succ_cons, List.drop_zero, List.reverse_cons, List.reverse_nil, List.nil_append, List.cons_append, List.getD_cons_succ, List.getD_cons_zero, List.getD_nil, List.length_cons, List.length_nil, List.map_cons, List.map_nil, List.sum_cons, List.sum_nil, Nat.reduceAdd, Nat.reduceLeDiff, Value.category, Option.toList, true_or, or_true, z_ua, ↓reduceIte, Nat.reduceEqDiff, eq_self, not_true_eq_false, not_false_eq_true, false_implies, true_implies, Classical.not_not, Nat.le_refl, Nat.zero_le, sK5 hS, sG5_1 hS, sK10 hS, sG5_6 hS, sK53 hS]
  try dsimp only
  refine z_callA (c21x (l := X.1) hx1 hr hrow) (by omega) (by rw [eg]; omega) (by rw [eg]; omega) (Nat.le_of_ble_eq_true rfl) ?_
  rintro r h' ⟨rfl, n', K', L', I2, J', G', D', rfl, hx2, u1, u2, u3, u4⟩
  rw [eg] at u1
  rw [eg]
  have t3 : zV X 91 [some (.ref 5), some (.int s), some (.int w)] [] (n', K', L', I2, J', G') (0 + x_g21 L I D F ch) (0 + 2 ^ F * x_g21 L I D F ch) := by
    refine zW_ok hj B145_91 91 _ _ _ _ _ b145_91 ?_
    simp only [B145_91, zW, z_wp1, z_ld, z_f0, z_f1, z_f2, z_f3, List.getElem?_cons_zero, List.getElem?_cons_succ, true_and, and_true, Int32.reduceOfInt, z_i10, z_i01, Int32.reduceLT, Int32.reduceLE, Int32.reduceAdd, Int32.reduceSub, z_set, z_set2, z_kil, List.set_cons_zero, List.set_cons_succ, List.take_succ_cons, List.take_zero, List.drop_succ_cons, List.drop_zero, List.reverse_cons, List.reverse_nil, List.nil_append, List.cons_append, List.getD_cons_succ, List.getD_cons_zero, List.getD_nil, List.length_cons, List.length_nil, List.map_cons, List.map_nil, List.sum_cons, List.sum_nil, Nat.reduceAdd, Nat.reduceLeDiff, Value.category, Option.toList, true_or, or_true, z_ua, ↓reduceIte, Nat.reduceEqDiff, eq_self, not_true_eq_false, not_false_eq_true, false_implies, true_implies, Classical.not_not, Nat.le_refl, Nat.zero_le]
    try dsimp only
    exact hQ _ _ ⟨rfl, n', K', L', I2, J', G', cd, D', ch, rfl, hx2, u1, fun q x y => ⟨by rw [(u2 q x y).1, hI q (by omega)], (u2 q x y).2⟩, u3⟩
  simp only [zW, z_wp1, z_ld, z_f0, z_f1, z_f2, z_f3, List.getElem?_cons_zero, List.getElem?_cons_succ, true_and, and_true, Int32.reduceOfInt, z_i10, z_i01, Int32.reduceLT, Int32.reduceLE, Int32.reduceAdd, Int32.reduceSub, z_set, z_set2, z_kil, List.set_cons_zero, List.set_cons_succ, List.take_succ_cons, List.take_zero, List.drop_succ_cons, List.drop_zero, List.reverse_cons, List.reverse_nil, List.nil_append, List.cons_append, List.getD_cons_succ, List.getD_cons_zero, List.getD_nil, List.length_cons, List.length_nil, List.map_cons, List.map_nil, List.sum_cons, List.sum_nil, Nat.reduceAdd, Nat.reduceLeDiff, Value.category, Option.toList, true_or, or_true, z_ua, ↓reduceIte, Nat.reduceEqDiff, eq_self, not_true_eq_false, not_false_eq_true, false_implies, true_implies, Classical.not_not, Nat.le_refl, Nat.zero_le]
  try dsimp only
  refine ⟨fun _ => t3, fun q1 q2 => absurd ⟨?_, ?_⟩ hw⟩
  · have e0 : (0 : Int32).toInt = 0 := by decide
    exact Int32.le_iff_toInt_le.mpr (by rw [e0]; omega)
  · have e0 : (2 : Int32).toInt = 2 := by decide
    exact Int32.le_iff_toInt_le.mpr (by rw [e0]; omega)
end KEYP
