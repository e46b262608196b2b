/-! The public methods: path -/
theorem k_pt_len {kv : Nat → Int32 × Int32 × Int32} {ys : Nat → Int32} {f : Nat} : ∀ (k s : Nat), (k_pt kv ys f k s).1.length ≤ k
  | 0, s => by simp [k_pt]
  | k + 1, s => by
    rw [k_pt]
    split
    · simp
    · have := k_pt_len (kv := kv) (ys := ys) (f := f) k (k_to ys f (kv s).2.1.toNatClampNeg s)
      simp
      exact this
theorem k_pt_fin {ys mb co : Nat → Int32} {N f : Nat} (hN : N ≤ 12) : ∀ (k s : Nat), s < 2 ^ 16 → s ≤ k → (k_v ys mb co N (k_pt (k_v ys mb co N) ys f k s).2).2.1 = -1 := by
  intro k
  induction k with
  | zero =>
    intro s hs hk
    simp only [k_pt]
    have hask := k_st_ask ys mb co (k_v ys mb co N) (nI s) N
    rw [← k_v_eq ys mb co N hs] at hask
    rcases hask with e | ⟨i, hi, e, hok, _⟩
    · exact e
    · obtain ⟨a, b, ea, eb, ha, hb, ha0, hb0, ba, bb⟩ := k_part hs hok
      omega
  | succ k ih =>
    intro s hs hk
    rw [k_pt]
    by_cases h : (k_v ys mb co N s).2.1 = -1
    · rw [if_pos h]
      exact h
    · rw [if_neg h]
      have hask := k_st_ask ys mb co (k_v ys mb co N) (nI s) N
      rw [← k_v_eq ys mb co N hs] at hask
      obtain ⟨i, hi, e, hok, _⟩ := hask.resolve_left h
      obtain ⟨a, b, ea, eb, ha, hb, ha0, hb0, ba, bb⟩ := k_part hs hok
      rw [e, nI_clamp (by omega)]
      have ht := k_to_eq (mb := mb) (f := f) hs ea eb ha hb
      by_cases hc : ys i >>> (nI f &&& 31) &&& 1 = 1
      · rw [ht.1 hc]
        exact ih a (by omega) (by omega)
      · rw [ht.2 hc]
        exact ih b (by omega) (by omega)
theorem k_pt_12 {ys mb co : Nat → Int32} {N f s : Nat} (hN : N ≤ 12) (hs : s < 2 ^ 16) : k_pt (k_v ys mb co N) ys f 12 s = k_pt (k_v ys mb co N) ys f s s := by
  have h1 := k_pt_more 12 s (k_pt_end (ys := ys) (mb := mb) (co := co) (f := f) hN 12 s hs (by have := k_sp_N ys (nI s) N; omega)).1 s
  have h2 := k_pt_more s s (k_pt_fin (ys := ys) (mb := mb) (co := co) (f := f) hN s s hs (Nat.le_refl _)) 12
  rw [← h1, ← h2, Nat.add_comm]
section PATHP
variable {l : Launch} {n : Nat} {K L : Nat → Nat} {I : Nat → Nat → Int32} {J : Nat → Nat → Int64} {G : Nat → Nat → Value} {M : Nat → Nat → Int32} {c F N : Nat} {tr : Nat → (Int32 → Int32) → Int32} {cd : Nat} {D : Nat → Nat} {ch rr : Nat}
theorem d146a (hx : XI n K L I J G M c F N tr cd D ch rr) (hr : rr < 600) {s f : Nat} {w : Int32} (hf : f < F) (hsF : s < 2 ^ F) (hfs : zb (nI s) f = true) : ∃ mc ms, (mc ≤ 4 ∧ ms ≤ 400000) ∧ z_Ctr l 32 146 [.ref 5, .int (nI s), .int (nI f), .int w] (n, K, L, I, J, G) mc ms (x_po n I J M c F N tr (rr + 1) (x_u L D + ms) (.int (k_ans (M 97) w (k_pt (mKV M c F N tr) (mYs M c F tr 1) f s s) 0 0 (-1)))) := by
  have hS : SS K L G := hx.S
  obtain ⟨f1, f2, f3, f4⟩ := hx.fn
  have h16 : 2 ^ F ≤ 2 ^ 16 := Nat.pow_le_pow_right (by omega) f2
  have hs0 : s ≠ 0 := fun q => by
    rw [q] at hfs
    have : zb (nI 0) f = false := zb_0 f
    rw [this] at hfs
    cases hfs
  have hset : m_isF F (nI s) := ⟨nI_pos' (by omega), nI_lt hsF (by omega)⟩
  have hf' : (0 : Int32) ≤ nI f ∧ nI f < I 10 0 := ⟨nI_pos' (by omega), by rw [f1]; exact nI_lt hf (by omega)⟩
  have hbit : ¬ nI s &&& 1 <<< (nI f &&& 31) = 0 := fun q => by
    rw [zb_tst (by omega), hfs] at q
    cases q
  have hg1 : x_g21 L I D F ch ≤ 1 := by unfold x_g21; split <;> omega
  have e12 := k_pt_12 (ys := mYs M c F tr 1) (mb := mYs M c F tr 2) (co := M 97) (f := f) (s := s) f4 (by omega)
  have hlen := k_pt_len (kv := mKV M c F N tr) (ys := mYs M c F tr 1) (f := f) 12 s
  refine ⟨x_g21 L I D F ch, 2 ^ F * x_g21 L I D F ch, ⟨by omega, by have := z_pwg hx.fn.2.1 hg1; omega⟩, ?_⟩
  rw [show k_pt (mKV M c F N tr) (mYs M c F tr 1) f s s = k_pt (mKV M c F N tr) (mYs M c F tr 1) f 12 s from e12.symm]
  generalize hP : k_pt (mKV M c F N tr) (mYs M c F tr 1) f 12 s = PP at hlen
  refine z_ctr (by decide) (by decide +kernel) (Nat.le_of_ble_eq_true rfl) (by decide +kernel) (fun X hl hj hd hm hs hsc hQ => ?_)
  show zV X 0 [some (.ref 5), some (.int (nI s)), some (.int (nI f)), some (.int w)] [] _ 0 0
  subst hl
  refine zW_ok hj B146_0 0 _ _ _ _ _ b146_0 ?_
  simp only [B146_0, zW, z_wp1, z_ld, z_f0, z_f1, z_f2, z_f3, List.getElem?_cons_zero, List.getElem?_cons_succ, true_and, and_true, Int32.reduceOfInt, z_i10, z_i01, Int32.reduceLT, Int32.reduceLE, Int32.reduceAdd, Int32.reduceSub, z_set, z_set2, z_kil, List.set_cons_zero, List.set_cons_succ, List.take_succ_cons, List.take_zero, List.drop_succ_cons, List.drop_zero, List.reverse_cons, List.reverse_nil, List.nil_append, List.cons_append, List.getD_cons_succ, List.getD_cons_zero, List.getD_nil, List.length_cons, List.length_nil, List.map_cons, List.map_nil, List.sum_cons, List.sum_nil, Nat.reduceAdd, Nat.reduceLeDiff, Value.category, Option.toList, true_or, or_true, z_ua, ↓reduceIte, Nat.reduceEqDiff, eq_self, not_true_eq_false, not_false_eq_true, false_implies, true_implies, Classical.not_not, Nat.le_refl, Nat.zero_le, sK5 hS, sG5_1 hS, sK10 hS]
  try dsimp only
  refine z_callD (c87y hx hset) (by omega) (by omega) (by omega) (Nat.le_of_ble_eq_true rfl) ?_
  try simp only [zW, z_wp1, z_ld, z_f0, z_f1, z_f2, z_f3, List.getElem?_cons_zero, List.getElem?_cons_succ, true_and, and_true, Int32.reduceOfInt, z_i10, z_i01, Int32.reduceLT, Int32.reduceLE, Int32.reduceAdd, Int32.reduceSub, z_set, z_set2, z_kil, List.set_cons_zero, List.set_cons_succ, List.take_succ_cons, List.take_zero, List.drop_succ_cons, List.drop_zero, List.reverse_cons, List.reverse_nil, List.nil_append, List.cons_append, List.getD_cons_succ, List.getD_cons_zero, List.getD_nil, List.length_cons, List.length_nil, List.map_cons, List.map_nil, List.sum_cons, List.sum_nil, Nat.reduceAdd, Nat.reduceLeDiff, Value.category, Option.toList, true_or, or_true, z_ua, ↓reduceIte, Nat.reduceEqDiff, eq_self, not_true_eq_false, not_false_eq_true, false_implies, true_implies, Classical.not_not, Nat.le_refl, Nat.zero_le, sK5 hS, sG5_1 hS, sK10 hS]
  try dsimp only
  refine z_callD (c86 (I := I) (J := J) hS (nI f)) (by omega) (by omega) (by omega) (Nat.le_of_ble_eq_true rfl) ?_
  try simp only [zW, z_wp1, z_ld, z_f0, z_f1, z_f2, z_f3, List.getElem?_cons_zero, List.getElem?_cons_succ, true_and, and_true, Int32.reduceOfInt, z_i10, z_i01, Int32.reduceLT, Int32.reduceLE, Int32.reduceAdd, Int32.reduceSub, z_set, z_set2, z_kil, List.set_cons_zero, List.set_cons_succ, List.take_succ_cons, List.take_zero, List.drop_succ_cons, List.drop_zero, List.reverse_cons, List.reverse_nil, List.nil_append, List.cons_append, List.getD_cons_succ, List.getD_cons_zero, List.getD_nil, List.length_cons, List.length_nil, List.map_cons, List.map_nil, List.sum_cons, List.sum_nil, Nat.reduceAdd, Nat.reduceLeDiff, Value.category, Option.toList, true_or, or_true, z_ua, ↓reduceIte, Nat.reduceEqDiff, eq_self, not_true_eq_false, not_false_eq_true, false_implies, true_implies, Classical.not_not, Nat.le_refl, Nat.zero_le, z_b1 hf', hbit]
  try dsimp only
  refine zW_ok hj B146_32 32 _ _ _ _ _ b146_32 ?_
  simp only [B146_32, zW, z_wp1, z_ld, z_f0, z_f1, z_f2, z_f3, List.getElem?_cons_zero, List.getElem?_cons_succ, true_and, and_true, Int32.reduceOfInt, z_i10, z_i01, Int32.reduceLT, Int32.reduceLE, Int32.reduceAdd, Int32.reduceSub, z_set, z_set2, z_kil, List.set_cons_zero, List.set_cons_succ, List.take_succ_cons, List.take_zero, List.drop_succ_cons, List.drop_zero, List.reverse_cons, List.reverse_nil, List.nil_append, List.cons_append, List.getD_cons_succ, List.getD_cons_zero, List.getD_nil, List.length_cons, List.length_nil, List.map_cons, List.map_nil, List.sum_cons, List.sum_nil, Nat.reduceAdd, Nat.reduceLeDiff, Value.category, Option.toList, true_or, or_true, z_ua, ↓reduceIte, Nat.reduceEqDiff, eq_self, not_true_eq_false, not_false_eq_true, false_implies, true_implies, Classical.not_not, Nat.le_refl, Nat.zero_le, sK5 hS, sG5_1 hS, sK10 hS]
  try dsimp only
  refine z_callQ (c96x hx) (by omega) (by omega) (by omega) (Nat.le_of_ble_eq_true rfl) ?_
  rintro r h' ⟨rfl, I1, rfl, hx1, hI, hrow⟩
  have eg : x_g21 L I1 D F ch = x_g21 L I D F ch := by unfold x_g21; rw [hI 53 (by omega)]
  simp only [zW, z_wp1, z_ld, z_f0, z_f1, z_f2, z_f3, List.getElem?_cons_zero, List.getElem?_cons_succ, true_and, and_true, Int32.reduceOfInt, z_i10, z_i01, Int32.reduceLT, Int32.reduceLE, Int32.reduceAdd, Int32.reduceSub, z_set, z_set2, z_kil, List.set_cons_zero, List.set_cons_succ, List.take_succ_cons, List.take_zero, List.drop_succ_cons, List.drop_zero, List.reverse_cons, List.reverse_nil, List.nil_append, List.cons_append, List.getD_cons_succ, List.getD_cons_zero, List.getD_nil, List.length_cons, List.length_nil, List.map_cons, List.map_nil, List.sum_cons, List.sum_nil, Nat.reduceAdd, Nat.reduceLeDiff, Value.category, Option.toList, true_or, or_true, z_ua, ↓reduceIte, Nat.reduceEqDiff, eq_self, not_true_eq_false, not_false_eq_true, false_implies, true_implies, Classical.not_not, Nat.le_refl, Nat.zero_le, sK5 hS, sG5_1 hS, sK10 hS, sG5_6 hS, sK53 hS]
  try dsimp only
  refine z_callA (c21x (l := X.1) hx1 hr hrow) (by omega) (by rw [eg]; omega) (by rw [eg]; omega) (Nat.le_of_ble_eq_true rfl) ?_
  rintro r h' ⟨rfl, n', K', L', I2, J', G', D', rfl, hx2, u1, u2, u3, u4⟩
  rw [eg] at u1
  rw [eg]
  obtain ⟨R, hR, hX, hmm⟩ := hx2.xk u4
  have hS := hx2.S
  have hp9 : D' 9 = 57 ∨ 103 ≤ D' 9 := (hx2.1.2.2.2.1.at (i := 9) rfl).2.2.2.1
  simp only [zW, z_wp1, z_ld, z_f0, z_f1, z_f2, z_f3, List.getElem?_cons_zero, List.getElem?_cons_succ, true_and, and_true, Int32.reduceOfInt, z_i10, z_i01, Int32.reduceLT, Int32.reduceLE, Int32.reduceAdd, Int32.reduceSub, z_set, z_set2, z_kil, List.set_cons_zero, List.set_cons_succ, List.take_succ_cons, List.take_zero, List.drop_succ_cons, List.drop_zero, List.reverse_cons, List.reverse_nil, List.nil_append, List.cons_append, List.getD_cons_succ, List.getD_cons_zero, List.getD_nil, List.length_cons, List.length_nil, List.map_cons, List.map_nil, List.sum_cons, List.sum_nil, Nat.reduceAdd, Nat.reduceLeDiff, Value.category, Option.toList, true_or, or_true, z_ua, ↓reduceIte, Nat.reduceEqDiff, eq_self, not_true_eq_false, not_false_eq_true, false_implies, true_implies, Classical.not_not, Nat.le_refl, Nat.zero_le, sK5 hS, sG5_6 hS, sK53 hS]
  try dsimp only
  refine z_callQ (c27 (l := X.1) (n := n') (J := J') hS hsF hs0 hX hmm (f := f) (by omega)) (by omega) (by omega) (by omega) (Nat.le_of_ble_eq_true rfl) ?_
  rintro r h' ⟨rfl, I3, rfl, o3, o4, hm3, v8, v9, v10, vl⟩
  rw [show k_pt (k_v (mYs M c F tr 1) (mYs M c F tr 2) (M 97) N) (mYs M c F tr 1) f 12 s = PP from hP] at v8 v9 v10 vl
  have hx3 := hx2.km u4 hR hX o3 o4 hm3
  have fin : ∀ v, x_po n I J M c F N tr (rr + 1) (x_u L D + 2 ^ F * x_g21 L I D F ch) v (some v) (n', K', L', I3, J', G') := fun v => ⟨rfl, n', K', L', I3, J', G', cd, D', ch, rfl, hx3, u1, fun q x y => ⟨by rw [o3 q (by omega) (by omega) (by omega), (u2 q x y).1, hI q (by omega)], (u2 q x y).2⟩, u3⟩
  have rt : ∀ v : Int32, k_ans (M 97) w PP 0 0 (-1) = v → X.2.2.2.2.2.2 (some (.int v)) (n', K', L', I3, J', G') := fun v q => hQ _ _ (by rw [← q]; exact fin _)
  have t0 : w = 0 → zV X 88 [some (.ref 5), some (.int (nI s)), some (.int (nI f)), some (.int w)] [] (n', K', L', I3, J', G') (0 + x_g21 L I D F ch) (0 + 2 ^ F * x_g21 L I D F ch) := fun h0 => by
    refine zW_ok hj B146_88 88 _ _ _ _ _ b146_88 ?_
    simp only [B146_88, zW, z_wp1, z_ld, z_f0, z_f1, z_f2, z_f3, List.getElem?_cons_zero, List.getElem?_cons_succ, true_and, and_true, Int32.reduceOfInt, z_i10, z_i01, Int32.reduceLT, Int32.reduceLE, Int32.reduceAdd, Int32.reduceSub, z_set, z_set2, z_kil, List.set_cons_zero, List.set_cons_succ, List.take_succ_cons, List.take_zero, List.drop_succ_cons, List.drop_zero, List.reverse_cons, List.reverse_nil, List.nil_append, List.cons_append, List.getD_cons_succ, List.getD_cons_zero, List.getD_nil, List.length_cons, List.length_nil, List.map_cons, List.map_nil, List.sum_cons, List.sum_nil, Nat.reduceAdd, Nat.reduceLeDiff, Value.category, Option.toList, true_or, or_true, z_ua, ↓reduceIte, Nat.reduceEqDiff, eq_self, not_true_eq_false, not_false_eq_true, false_implies, true_implies, Classical.not_not, Nat.le_refl, Nat.zero_le, sK5 hS, sG5_6 hS, sK53 hS, sK53 hS, v8]
    try dsimp only
    exact rt _ (by rw [k_ans, if_pos h0, Nat.zero_add])
  have t1 : w = 1 → zV X 96 [some (.ref 5), some (.int (nI s)), some (.int (nI f)), some (.int w)] [] (n', K', L', I3, J', G') (0 + x_g21 L I D F ch) (0 + 2 ^ F * x_g21 L I D F ch) := fun h0 => by
    refine zW_ok hj B146_96 96 _ _ _ _ _ b146_96 ?_
    simp only [B146_96, zW, z_wp1, z_ld, z_f0, z_f1, z_f2, z_f3, List.getElem?_cons_zero, List.getElem?_cons_succ, true_and, and_true, Int32.reduceOfInt, z_i10, z_i01, Int32.reduceLT, Int32.reduceLE, Int32.reduceAdd, Int32.reduceSub, z_set, z_set2, z_kil, List.set_cons_zero, List.set_cons_succ, List.take_succ_cons, List.take_zero, List.drop_succ_cons, List.drop_zero, List.reverse_cons, List.reverse_nil, List.nil_append, List.cons_append, List.getD_cons_succ, List.getD_cons_zero, List.getD_nil, List.length_cons, List.length_nil, List.map_cons, List.map_nil, List.sum_cons, List.sum_nil, Nat.reduceAdd, Nat.reduceLeDiff, Value.category, Option.toList, true_or, or_true, z_ua, ↓reduceIte, Nat.reduceEqDiff, eq_self, not_true_eq_false, not_false_eq_true, false_implies, true_implies, Classical.not_not, Nat.le_refl, Nat.zero_le, sK5 hS, sG5_6 hS, sK53 hS, sK53 hS, v9]
    try dsimp only
    exact rt _ (by rw [k_ans, if_neg (by rw [h0]; decide), if_pos h0])
  have t2 : w = 2 → zV X 104 [some (.ref 5), some (.int (nI s)), some (.int (nI f)), some (.int w)] [] (n', K', L', I3, J', G') (0 + x_g21 L I D F ch) (0 + 2 ^ F * x_g21 L I D F ch) := fun h0 => by
    refine zW_ok hj B146_104 104 _ _ _ _ _ b146_104 ?_
    simp only [B146_104, zW, z_wp1, z_ld, z_f0, z_f1, z_f2, z_f3, List.getElem?_cons_zero, List.getElem?_cons_succ, true_and, and_true, Int32.reduceOfInt, z_i10, z_i01, Int32.reduceLT, Int32.reduceLE, Int32.reduceAdd, Int32.reduceSub, z_set, z_set2, z_kil, List.set_cons_zero, List.set_cons_succ, List.take_succ_cons, List.take_zero, List.drop_succ_cons, List.drop_zero, List.reverse_cons, List.reverse_nil, List.nil_append, List.cons_append, List.getD_cons_succ, List.getD_cons_zero, List.getD_nil, List.length_cons, List.length_nil, List.map_cons, List.map_nil, List.sum_cons, List.sum_nil, Nat.reduceAdd, Nat.reduceLeDiff, Value.category, Option.toList, true_or, or_true, z_ua, ↓reduceIte, Nat.reduceEqDiff, eq_self, not_true_eq_false, not_false_eq_true, false_implies, true_implies, Classical.not_not, Nat.le_refl, Nat.zero_le, sK5 hS, sG5_6 hS, sK53 hS, sK53 hS, v10]
    try dsimp only
    exact rt _ (by rw [k_ans, if_neg (by rw [h0]; decide), if_neg (by rw [h0]; decide), if_pos h0])
  have t3 : ¬ w = 0 → ¬ w = 1 → ¬ w = 2 → zV X 112 [some (.ref 5), some (.int (nI s)), some (.int (nI f)), some (.int w)] [] (n', K', L', I3, J', G') (0 + x_g21 L I D F ch) (0 + 2 ^ F * x_g21 L I D F ch) := fun h0 h1 h2 => by
    have ea : k_ans (M 97) w PP 0 0 (-1) = if w < 10 then -1 else m_nth (PP.1.map nI) (w - 10) := by rw [k_ans, if_neg h0, if_neg h1, if_neg h2, m_fa_nth hlen]
    have vl8 : I3 53 8 = nI (PP.1.map nI).length := by rw [List.length_map]; exact v8
    have hl12 : (PP.1.map nI).length ≤ 12 := by rw [List.length_map]; exact hlen
    by_cases h10 : w < 10
    · rw [if_pos h10] at ea
      refine zW_ok hj B146_112 112 _ _ _ _ _ b146_112 ?_
      simp only [B146_112, zW, z_wp1, z_ld, z_f0, z_f1, z_f2, z_f3, List.getElem?_cons_zero, List.getElem?_cons_succ, true_and, and_true, Int32.reduceOfInt, z_i10, z_i01, Int32.reduceLT, Int32.reduceLE, Int32.reduceAdd, Int32.reduceSub, z_set, z_set2, z_kil, List.set_cons_zero, List.set_cons_succ, List.take_succ_cons, List.take_zero, List.drop_succ_cons, List.drop_zero, List.reverse_cons, List.reverse_nil, List.nil_append, List.cons_append, List.getD_cons_succ, List.getD_cons_zero, List.getD_nil, List.length_cons, List.length_nil, List.map_cons, List.map_nil, List.sum_cons, List.sum_nil, Nat.reduceAdd, Nat.reduceLeDiff, Value.category, Option.toList, true_or, or_true, z_ua, ↓reduceIte, Nat.reduceEqDiff, eq_self, not_true_eq_false, not_false_eq_true, false_implies, true_implies, Classical.not_not, Nat.le_refl, Nat.zero_le, h10, sK5 hS, sG5_6 hS, sK53 hS]
      try dsimp only
      refine zW_ok hj B146_130 130 _ _ _ _ _ b146_130 ?_
      simp only [B146_130, zW, z_wp1, z_ld, z_f0, z_f1, z_f2, z_f3, List.getElem?_cons_zero, List.getElem?_cons_succ, true_and, and_true, Int32.reduceOfInt, z_i10, z_i01, Int32.reduceLT, Int32.reduceLE, Int32.reduceAdd, Int32.reduceSub, z_set, z_set2, z_kil, List.set_cons_zero, List.set_cons_succ, List.take_succ_cons, List.take_zero, List.drop_succ_cons, List.drop_zero, List.reverse_cons, List.reverse_nil, List.nil_append, List.cons_append, List.getD_cons_succ, List.getD_cons_zero, List.getD_nil, List.length_cons, List.length_nil, List.map_cons, List.map_nil, List.sum_cons, List.sum_nil, Nat.reduceAdd, Nat.reduceLeDiff, Value.category, Option.toList, true_or, or_true, z_ua, ↓reduceIte, Nat.reduceEqDiff, eq_self, not_true_eq_false, not_false_eq_true, false_implies, true_implies, Classical.not_not, Nat.le_refl, Nat.zero_le]
      try dsimp only
      refine zW_ok hj B146_131 131 _ _ _ _ _ b146_131 ?_
      simp only [B146_131, zW, z_wp1, z_ld, z_f0, z_f1, z_f2, z_f3, List.getElem?_cons_zero, List.getElem?_cons_succ, true_and, and_true, Int32.reduceOfInt, z_i10, z_i01, Int32.reduceLT, Int32.reduceLE, Int32.reduceAdd, Int32.reduceSub, z_set, z_set2, z_kil, List.set_cons_zero, List.set_cons_succ, List.take_succ_cons, List.take_zero, List.drop_succ_cons, List.drop_zero, List.reverse_cons, List.reverse_nil, List.nil_append, List.cons_append, List.getD_cons_succ, List.getD_cons_zero, List.getD_nil, List.length_cons, List.length_nil, List.map_cons, List.map_nil, List.sum_cons, List.sum_nil, Nat.reduceAdd, Nat.reduceLeDiff, Value.category, Option.toList, true_or, or_true, z_ua, ↓reduceIte, Nat.reduceEqDiff, eq_self, not_true_eq_false, not_false_eq_true, false_implies, true_implies, Classical.not_not, Nat.le_refl, Nat.zero_le, sK53 hS]
      try dsimp only
      refine z_callD (c28 (l := X.1) (n := n') (J := J') hS vl8 vl hl12 (w - 10) 0) (by omega) (by omega) (by omega) (Nat.le_of_ble_eq_true rfl) ?_
      try simp only [zW, z_wp1, z_ld, z_f0, z_f1, z_f2, z_f3, List.getElem?_cons_zero, List.getElem?_cons_succ, true_and, and_true, Int32.reduceOfInt, z_i10, z_i01, Int32.reduceLT, Int32.reduceLE, Int32.reduceAdd, Int32.reduceSub, z_set, z_set2, z_kil, List.set_cons_zero, List.set_cons_succ, List.take_succ_cons, List.take_zero, List.drop_succ_cons, List.drop_zero, List.reverse_cons, List.reverse_nil, List.nil_append, List.cons_append, List.getD_cons_succ, List.getD_cons_zero, List.getD_nil, List.length_cons, List.length_nil, List.map_cons, List.map_nil, List.sum_cons, List.sum_nil, Nat.reduceAdd, Nat.reduceLeDiff, Value.category, Option.toList, true_or, or_true, z_ua, ↓reduceIte, Nat.reduceEqDiff, eq_self, not_true_eq_false, not_false_eq_true, false_implies, true_implies, Classical.not_not, Nat.le_refl, Nat.zero_le]
      try dsimp only
      exact rt _ ea
    · rw [if_neg h10] at ea
      refine zW_ok hj B146_112 112 _ _ _ _ _ b146_112 ?_
      simp only [B146_112, zW, z_wp1, z_ld, z_f0, z_f1, z_f2, z_f3, List.getElem?_cons_zero, List.getElem?_cons_succ, true_and, and_true, Int32.reduceOfInt, z_i10, z_i01, Int32.reduceLT, Int32.reduceLE, Int32.reduceAdd, Int32.reduceSub, z_set, z_set2, z_kil, List.set_cons_zero, List.set_cons_succ, List.take_succ_cons, List.take_zero, List.drop_succ_cons, List.drop_zero, List.reverse_cons, List.reverse_nil, List.nil_append, List.cons_append, List.getD_cons_succ, List.getD_cons_zero, List.getD_nil, List.length_cons, List.length_nil, List.map_cons, List.map_nil, List.sum_cons, List.sum_nil, Nat.reduceAdd, Nat.reduceLeDiff, Value.category, Option.toList, true_or, or_true, z_ua, ↓reduceIte, Nat.reduceEqDiff, eq_self, not_true_eq_false, not_false_eq_true, false_implies, true_implies, Classical.not_not, Nat.le_refl, Nat.zero_le, h10, sK5 hS, sG5_6 hS, sK53 hS]
      try dsimp only
      refine zW_ok hj B146_131 131 _ _ _ _ _ b146_131 ?_
      simp only [B146_131, zW, z_wp1, z_ld, z_f0, z_f1, z_f2, z_f3, List.getElem?_cons_zero, List.getElem?_cons_succ, true_and, and_true, Int32.reduceOfInt, z_i10, z_i01, Int32.reduceLT, Int32.reduceLE, Int32.reduceAdd, Int32.reduceSub, z_set, z_set2, z_kil, List.set_cons_zero, List.set_cons_succ, List.take_succ_cons, List.take_zero, List.drop_succ_cons, List.drop_zero, List.reverse_cons, List.reverse_nil, List.nil_append, List.cons_append, List.getD_cons_succ, List.getD_cons_zero, List.getD_nil, List.length_cons, List.length_nil, List.map_cons, List.map_nil, List.sum_cons, List.sum_nil, Nat.reduceAdd, Nat.reduceLeDiff, Value.category, Option.toList, true_or, or_true, z_ua, ↓reduceIte, Nat.reduceEqDiff, eq_self, not_true_eq_false, not_false_eq_true, false_implies, true_implies, Classical.not_not, Nat.le_refl, Nat.zero_le, sK53 hS]
      try dsimp only
      refine z_callD (c28 (l := X.1) (n := n') (J := J') hS vl8 vl hl12 (w - 10) 1) (by omega) (by omega) (by omega) (Nat.le_of_ble_eq_true rfl) ?_
      try simp only [zW, z_wp1, z_ld, z_f0, z_f1, z_f2, z_f3, List.getElem?_cons_zero, List.getElem?_cons_succ, true_and, and_true, Int32.reduceOfInt, z_i10, z_i01, Int32.reduceLT, Int32.reduceLE, Int32.reduceAdd, Int32.reduceSub, z_set, z_set2, z_kil, List.set_cons_zero, List.set_cons_succ, List.take_succ_cons, List.take_zero, List.drop_succ_cons, List.drop_zero, List.reverse_cons, List.reverse_nil, List.nil_append, List.cons_append, List.getD_cons_succ, List.getD_cons_zero, List.getD_nil, List.length_cons, List.length_nil, List.map_cons, List.map_nil, List.sum_cons, List.sum_nil, Nat.reduceAdd, Nat.reduceLeDiff, Value.category, Option.toList, true_or, or_true, z_ua, ↓reduceIte, Nat.reduceEqDiff, eq_self, not_true_eq_false, not_false_eq_true, false_implies, true_implies, Classical.not_not, Nat.le_refl, Nat.zero_le]
      try dsimp only
      exact rt _ ea
  simp only [zW, z_wp1, z_ld, z_f0, z_f1, z_f2, z_f3, List.getElem?_cons_zero, List.getElem?_cons_succ, true_and, and_true, Int32.reduceOfInt, z_i10, z_i01, Int32.reduceLT, Int32.reduceLE, Int32.reduceAdd, Int32.reduceSub, z_set, z_set2, z_kil, List.set_cons_zero, List.set_cons_succ, List.take_succ_cons, List.take_zero, List.drop_succ_cons, List.drop_zero, List.reverse_cons, List.reverse_nil, List.nil_append, List.cons_append, List.getD_cons_succ, List.getD_cons_zero, List.getD_nil, List.length_cons, List.length_nil, List.map_cons, List.map_nil, List.sum_cons, List.sum_nil, Nat.reduceAdd, Nat.reduceLeDiff, Value.category, Option.toList, true_or, or_true, z_ua, ↓reduceIte, Nat.reduceEqDiff, eq_self, not_true_eq_false, not_false_eq_true, false_implies, true_implies, Classical.not_not, Nat.le_refl, Nat.zero_le]
  try dsimp only
  have ne : ∀ k : Nat, k < 3 → (w.toInt < 0 ∨ 2 < w.toInt) → ¬ w = nI k := fun k hk q e => by
    rw [e, nI_toInt (by omega)] at q
    omega
  refine ⟨fun q => t3 (ne 0 (by omega) q) (ne 1 (by omega) q) (ne 2 (by omega) q), fun q1 q2 => ?_⟩
  obtain ⟨k, hk, e⟩ : ∃ k : Nat, k < 3 ∧ w = nI k := by
    obtain ⟨m, hm', e⟩ := nI_of (x := w) (fun q => by
      have : w.toInt < 0 := Int32.lt_iff_toInt_lt.mp q
      omega)
    refine ⟨m, ?_, e⟩
    rw [e, nI_toInt (by omega)] at q2
    omega
  rw [show w.toInt = (k : Int) by rw [e, nI_toInt (by omega)]]
  have : k = 0 ∨ k = 1 ∨ k = 2 := by omega
  rcases this with rfl | rfl | rfl
  · exact ⟨_, rfl, t0 e⟩
  · exact ⟨_, rfl, t1 e⟩
  · exact ⟨_, rfl, t2 e⟩
theorem d146b (hx : XI n K L I J G M c F N tr cd D ch rr) (hr : rr < 600) {s f w : Int32} (h : ¬ (m_isF F s ∧ (0 ≤ f ∧ f < nI F) ∧ ¬ s >>> (f &&& 31) &&& 1 = 0)) : z_Ctr l 32 146 [.ref 5, .int s, .int f, .int w] (n, K, L, I, J, G) 0 0 (x_po n I J M c F N tr (rr + 1) (x_u L D) (.int (-1))) := by
  have hS : SS K L G := hx.S
  obtain ⟨f1, f2, f3, f4⟩ := hx.fn
  refine z_ctr (by decide) (by decide +kernel) (Nat.le_of_ble_eq_true rfl) (by decide +kernel) (fun X hl hj hd hm hs hsc hQ => ?_)
  show zV X 0 [some (.ref 5), some (.int s), some (.int f), some (.int w)] [] _ 0 0
  have no : zV X 30 [some (.ref 5), some (.int s), some (.int f), some (.int w)] [] (n, K, L, I, J, G) 0 0 := by
    refine zW_ok hj B146_30 30 _ _ _ _ _ b146_30 ?_
    simp only [B146_30, zW, z_wp1, z_ld, z_f0, z_f1, z_f2, z_f3, List.getElem?_cons_zero, List.getElem?_cons_succ, true_and, and_true, Int32.reduceOfInt, z_i10, z_i01, Int32.reduceLT, Int32.reduceLE, Int32.reduceAdd, Int32.reduceSub, z_set, z_set2, z_kil, List.set_cons_zero, List.set_cons_succ, List.take_succ_cons, List.take_zero, List.drop_succ_cons, List.drop_zero, List.reverse_cons, List.reverse_nil, List.nil_append, List.cons_append, List.getD_cons_succ, List.getD_cons_zero, List.getD_nil, List.length_cons, List.length_nil, List.map_cons, List.map_nil, List.sum_cons, List.sum_nil, Nat.reduceAdd, Nat.reduceLeDiff, Value.category, Option.toList, true_or, or_true, z_ua, ↓reduceIte, Nat.reduceEqDiff, eq_self, not_true_eq_false, not_false_eq_true, false_implies, true_implies, Classical.not_not, Nat.le_refl, Nat.zero_le]
    try dsimp only
    exact hQ _ _ (x_po.id hx hr _)
  refine zW_ok hj B146_0 0 _ _ _ _ _ b146_0 ?_
  simp only [B146_0, zW, z_wp1, z_ld, z_f0, z_f1, z_f2, z_f3, List.getElem?_cons_zero, List.getElem?_cons_succ, true_and, and_true, Int32.reduceOfInt, z_i10, z_i01, Int32.reduceLT, Int32.reduceLE, Int32.reduceAdd, Int32.reduceSub, z_set, z_set2, z_kil, List.set_cons_zero, List.set_cons_succ, List.take_succ_cons, List.take_zero, List.drop_succ_cons, List.drop_zero, List.reverse_cons, List.reverse_nil, List.nil_append, List.cons_append, List.getD_cons_succ, List.getD_cons_zero, List.getD_nil, List.length_cons, List.length_nil, List.map_cons, List.map_nil, List.sum_cons, List.sum_nil, Nat.reduceAdd, Nat.reduceLeDiff, Value.category, Option.toList, true_or, or_true, z_ua, ↓reduceIte, Nat.reduceEqDiff, eq_self, not_true_eq_false, not_false_eq_true, false_implies, true_implies, Classical.not_not, Nat.le_refl, Nat.zero_le, sK5 hS, sG5_1 hS, sK10 hS]
  try dsimp only
  by_cases h1 : m_isF F s
  · refine z_callD (c87y hx h1) (by omega) (by omega) (by omega) (Nat.le_of_ble_eq_true rfl) ?_
    try simp only [zW, z_wp1, z_ld, z_f0, z_f1, z_f2, z_f3, List.getElem?_cons_zero, List.getElem?_cons_succ, true_and, and_true, Int32.reduceOfInt, z_i10, z_i01, Int32.reduceLT, Int32.reduceLE, Int32.reduceAdd, Int32.reduceSub, z_set, z_set2, z_kil, List.set_cons_zero, List.set_cons_succ, List.take_succ_cons, List.take_zero, List.drop_succ_cons, List.drop_zero, List.reverse_cons, List.reverse_nil, List.nil_append, List.cons_append, List.getD_cons_succ, List.getD_cons_zero, List.getD_nil, List.length_cons, List.length_nil, List.map_cons, List.map_nil, List.sum_cons, List.sum_nil, Nat.reduceAdd, Nat.reduceLeDiff, Value.category, Option.toList, true_or, or_true, z_ua, ↓reduceIte, Nat.reduceEqDiff, eq_self, not_true_eq_false, not_false_eq_true, false_implies, true_implies, Classical.not_not, Nat.le_refl, Nat.zero_le, sK5 hS, sG5_1 hS, sK10 hS]
    try dsimp only
    by_cases h2 : 0 ≤ f ∧ f < I 10 0
    · refine z_callD (c86 (I := I) (J := J) hS f) (by omega) (by omega) (by omega) (Nat.le_of_ble_eq_true rfl) ?_
      try simp only [zW, z_wp1, z_ld, z_f0, z_f1, z_f2, z_f3, List.getElem?_cons_zero, List.getElem?_cons_succ, true_and, and_true, Int32.reduceOfInt, z_i10, z_i01, Int32.reduceLT, Int32.reduceLE, Int32.reduceAdd, Int32.reduceSub, z_set, z_set2, z_kil, List.set_cons_zero, List.set_cons_succ, List.take_succ_cons, List.take_zero, List.drop_succ_cons, List.drop_zero, List.reverse_cons, List.reverse_nil, List.nil_append, List.cons_append, List.getD_cons_succ, List.getD_cons_zero, List.getD_nil, List.length_cons, List.length_nil, List.map_cons, List.map_nil, List.sum_cons, List.sum_nil, Nat.reduceAdd, Nat.reduceLeDiff, Value.category, Option.toList, true_or, or_true, z_ua, ↓reduceIte, Nat.reduceEqDiff, eq_self, not_true_eq_false, not_false_eq_true, false_implies, true_implies, Classical.not_not, Nat.le_refl, Nat.zero_le, z_b1 h2]
      try dsimp only
      rw [f1] at h2
      obtain ⟨k, hk, e⟩ := z_of (by omega) h2
      refine ⟨fun h3 => absurd ⟨h1, h2, fun q => h3 ?_⟩ h, fun _ => no⟩
      rw [e] at q ⊢
      rw [zb_tst (by omega)]
      exact (zb_get0 (by omega)).mp q
    · refine z_callD (c86 (I := I) (J := J) hS f) (by omega) (by omega) (by omega) (Nat.le_of_ble_eq_true rfl) ?_
      try simp only [zW, z_wp1, z_ld, z_f0, z_f1, z_f2, z_f3, List.getElem?_cons_zero, List.getElem?_cons_succ, true_and, and_true, Int32.reduceOfInt, z_i10, z_i01, Int32.reduceLT, Int32.reduceLE, Int32.reduceAdd, Int32.reduceSub, z_set, z_set2, z_kil, List.set_cons_zero, List.set_cons_succ, List.take_succ_cons, List.take_zero, List.drop_succ_cons, List.drop_zero, List.reverse_cons, List.reverse_nil, List.nil_append, List.cons_append, List.getD_cons_succ, List.getD_cons_zero, List.getD_nil, List.length_cons, List.length_nil, List.map_cons, List.map_nil, List.sum_cons, List.sum_nil, Nat.reduceAdd, Nat.reduceLeDiff, Value.category, Option.toList, true_or, or_true, z_ua, ↓reduceIte, Nat.reduceEqDiff, eq_self, not_true_eq_false, not_false_eq_true, false_implies, true_implies, Classical.not_not, Nat.le_refl, Nat.zero_le, z_b0 h2]
      try dsimp only
      exact no
  · refine z_callD (c87n hx h1) (by omega) (by omega) (by omega) (Nat.le_of_ble_eq_true rfl) ?_
    try simp only [zW, z_wp1, z_ld, z_f0, z_f1, z_f2, z_f3, List.getElem?_cons_zero, List.getElem?_cons_succ, true_and, and_true, Int32.reduceOfInt, z_i10, z_i01, Int32.reduceLT, Int32.reduceLE, Int32.reduceAdd, Int32.reduceSub, z_set, z_set2, z_kil, List.set_cons_zero, List.set_cons_succ, List.take_succ_cons, List.take_zero, List.drop_succ_cons, List.drop_zero, List.reverse_cons, List.reverse_nil, List.nil_append, List.cons_append, List.getD_cons_succ, List.getD_cons_zero, List.getD_nil, List.length_cons, List.length_nil, List.map_cons, List.map_nil, List.sum_cons, List.sum_nil, Nat.reduceAdd, Nat.reduceLeDiff, Value.category, Option.toList, true_or, or_true, z_ua, ↓reduceIte, Nat.reduceEqDiff, eq_self, not_true_eq_false, not_false_eq_true, false_implies, true_implies, Classical.not_not, Nat.le_refl, Nat.zero_le]
    try dsimp only
    exact no
end PATHP
