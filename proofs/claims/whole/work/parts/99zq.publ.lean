/-! The public methods: closed sets and rules -/
section PUBL
variable {l : Launch} {n : Nat} {K L : Nat → Nat} {I : Nat → Nat → Int32} {J : Nat → Nat → Int64} {G : Nat → Nat → Value} {M : Nat → Nat → Int32} {c F N : Nat} {tr : Nat → (Int32 → Int32) → Int32} {cd : Nat} {D : Nat → Nat} {ch rr : Nat}
theorem d150 (hx : XI n K L I J G M c F N tr cd D ch rr) {lp b : Nat} {mode : Int32} (hl : x_lpb lp b mode) : z_Ctr l 6 150 [.ref 5, .int mode] (n, K, L, I, J, G) (2 * x_g30 L I D lp b N ch) (2 * 2 ^ N * x_g30 L I D lp b N ch) (fun r h' => r = some (.ref lp) ∧ x_gp n I J M c F N tr cd ch rr (x_u L D + 2 * 2 ^ N * x_g30 L I D lp b N ch) (fun I' _ _ => I' lp 5 = nI ch) h') := by
  have hS : SS K L G := hx.S
  have hl0 := hl
  rcases hl with ⟨rfl, rfl, rfl⟩ | ⟨rfl, rfl, rfl⟩
  · refine z_ctr (by decide) (by decide +kernel) (Nat.le_of_ble_eq_true rfl) (by decide +kernel) (fun X hl hj hd hm hs hsc hQ => ?_)
    show zV X 0 [some (.ref 5), some (.int 0), none] [] _ 0 0
    subst hl
    refine zW_ok hj B150_0 0 _ _ _ _ _ b150_0 ?_
    simp only [B150_0, zW, z_wp1, z_ld, z_f0, z_f1, z_f2, z_f3, List.getElem?_cons_zero, List.getElem?_cons_succ, true_and, and_true, Int32.reduceOfInt, z_i10, z_i01, Int32.reduceLT, Int32.reduceLE, Int32.reduceAdd, Int32.reduceSub, z_set, z_set2, z_kil, List.set_cons_zero, List.set_cons_succ, List.take_succ_cons, List.take_zero, List.drop_succ_cons, List.drop_zero, List.reverse_cons, List.reverse_nil, List.nil_append, List.cons_append, List.getD_cons_succ, List.getD_cons_zero, List.getD_nil, List.length_cons, List.length_nil, List.map_cons, List.map_nil, List.sum_cons, List.sum_nil, Nat.reduceAdd, Nat.reduceLeDiff, Value.category, Option.toList, true_or, or_true, z_ua, ↓reduceIte, Nat.reduceEqDiff, eq_self, not_true_eq_false, not_false_eq_true, false_implies, true_implies, Classical.not_not, Nat.le_refl, Nat.zero_le, sK5 hS, sG5_1 hS, sK10 hS]
    try dsimp only
    refine z_callQ (c96x hx) (by omega) (by omega) (by omega) (Nat.le_of_ble_eq_true rfl) ?_
    rintro r h' ⟨rfl, I1, rfl, hx1, hI, hw⟩
    simp only [zW, z_wp1, z_ld, z_f0, z_f1, z_f2, z_f3, List.getElem?_cons_zero, List.getElem?_cons_succ, true_and, and_true, Int32.reduceOfInt, z_i10, z_i01, Int32.reduceLT, Int32.reduceLE, Int32.reduceAdd, Int32.reduceSub, z_set, z_set2, z_kil, List.set_cons_zero, List.set_cons_succ, List.take_succ_cons, List.take_zero, List.drop_succ_cons, List.drop_zero, List.reverse_cons, List.reverse_nil, List.nil_append, List.cons_append, List.getD_cons_succ, List.getD_cons_zero, List.getD_nil, List.length_cons, List.length_nil, List.map_cons, List.map_nil, List.sum_cons, List.sum_nil, Nat.reduceAdd, Nat.reduceLeDiff, Value.category, Option.toList, true_or, or_true, z_ua, ↓reduceIte, Nat.reduceEqDiff, eq_self, not_true_eq_false, not_false_eq_true, false_implies, true_implies, Classical.not_not, Nat.le_refl, Nat.zero_le, sK5 hS, sG5_1 hS, sK10 hS, sG5_2 hS, sK21 hS, sL21 hS, sK22 hS, sK28 hS]
    try dsimp only
    have g : G 21 (Int32.toNatClampNeg 0) = .ref 22 := sG21_0 hS
    have eg : x_g30 L I1 D 22 0 N ch = x_g30 L I D 22 0 N ch := by unfold x_g30; rw [hI 22 (by omega)]
    rw [g]
    refine ⟨show vp_in (nI 0) 2 from vp_in_nI (by omega) (by omega), sK22 hS, z_callA (c30x (l := X.1) hx1 hw hl0) (by omega) (by rw [eg]; omega) (by rw [eg]; omega) (Nat.le_of_ble_eq_true rfl) ?_⟩
    rintro r h' ⟨rfl, n', K', L', I', J', G', D', rfl, hx', u1, u2, u3, u4⟩
    rw [eg] at u1
    exact hQ _ _ ⟨rfl, n', K', L', I', J', G', D', rfl, hx', u1, fun q a b => ⟨by rw [(u2 q a b).1, hI q (by omega)], (u2 q a b).2⟩, u3, u4.1⟩
  · refine z_ctr (by decide) (by decide +kernel) (Nat.le_of_ble_eq_true rfl) (by decide +kernel) (fun X hl hj hd hm hs hsc hQ => ?_)
    show zV X 0 [some (.ref 5), some (.int 1), none] [] _ 0 0
    subst hl
    refine zW_ok hj B150_0 0 _ _ _ _ _ b150_0 ?_
    simp only [B150_0, zW, z_wp1, z_ld, z_f0, z_f1, z_f2, z_f3, List.getElem?_cons_zero, List.getElem?_cons_succ, true_and, and_true, Int32.reduceOfInt, z_i10, z_i01, Int32.reduceLT, Int32.reduceLE, Int32.reduceAdd, Int32.reduceSub, z_set, z_set2, z_kil, List.set_cons_zero, List.set_cons_succ, List.take_succ_cons, List.take_zero, List.drop_succ_cons, List.drop_zero, List.reverse_cons, List.reverse_nil, List.nil_append, List.cons_append, List.getD_cons_succ, List.getD_cons_zero, List.getD_nil, List.length_cons, List.length_nil, List.map_cons, List.map_nil, List.sum_cons, List.sum_nil, Nat.reduceAdd, Nat.reduceLeDiff, Value.category, Option.toList, true_or, or_true, z_ua, ↓reduceIte, Nat.reduceEqDiff, eq_self, not_true_eq_false, not_false_eq_true, false_implies, true_implies, Classical.not_not, Nat.le_refl, Nat.zero_le, sK5 hS, sG5_1 hS, sK10 hS]
    try dsimp only
    refine z_callQ (c96x hx) (by omega) (by omega) (by omega) (Nat.le_of_ble_eq_true rfl) ?_
    rintro r h' ⟨rfl, I1, rfl, hx1, hI, hw⟩
    simp only [zW, z_wp1, z_ld, z_f0, z_f1, z_f2, z_f3, List.getElem?_cons_zero, List.getElem?_cons_succ, true_and, and_true, Int32.reduceOfInt, z_i10, z_i01, Int32.reduceLT, Int32.reduceLE, Int32.reduceAdd, Int32.reduceSub, z_set, z_set2, z_kil, List.set_cons_zero, List.set_cons_succ, List.take_succ_cons, List.take_zero, List.drop_succ_cons, List.drop_zero, List.reverse_cons, List.reverse_nil, List.nil_append, List.cons_append, List.getD_cons_succ, List.getD_cons_zero, List.getD_nil, List.length_cons, List.length_nil, List.map_cons, List.map_nil, List.sum_cons, List.sum_nil, Nat.reduceAdd, Nat.reduceLeDiff, Value.category, Option.toList, true_or, or_true, z_ua, ↓reduceIte, Nat.reduceEqDiff, eq_self, not_true_eq_false, not_false_eq_true, false_implies, true_implies, Classical.not_not, Nat.le_refl, Nat.zero_le, sK5 hS, sG5_1 hS, sK10 hS, sG5_2 hS, sK21 hS, sL21 hS, sK22 hS, sK28 hS]
    try dsimp only
    have g : G 21 (Int32.toNatClampNeg 1) = .ref 28 := sG21_1 hS
    have eg : x_g30 L I1 D 28 4 N ch = x_g30 L I D 28 4 N ch := by unfold x_g30; rw [hI 28 (by omega)]
    rw [g]
    refine ⟨show vp_in (nI 1) 2 from vp_in_nI (by omega) (by omega), sK28 hS, z_callA (c30x (l := X.1) hx1 hw hl0) (by omega) (by rw [eg]; omega) (by rw [eg]; omega) (Nat.le_of_ble_eq_true rfl) ?_⟩
    rintro r h' ⟨rfl, n', K', L', I', J', G', D', rfl, hx', u1, u2, u3, u4⟩
    rw [eg] at u1
    exact hQ _ _ ⟨rfl, n', K', L', I', J', G', D', rfl, hx', u1, fun q a b => ⟨by rw [(u2 q a b).1, hI q (by omega)], (u2 q a b).2⟩, u3, u4.1⟩
theorem d151 (hx : XI n K L I J G M c F N tr cd D ch rr) {lp b : Nat} {mode : Int32} (hl : x_lpb lp b mode) : z_Ctr l 6 151 [.ref 5, .int mode] (n, K, L, I, J, G) (2 * x_g30 L I D lp b N ch + 2 * x_g33 L I D lp b N ch) (2 * 2 ^ N * x_g30 L I D lp b N ch + 2 * 2 ^ N * x_g33 L I D lp b N ch) (fun r h' => r = some (.ref lp) ∧ x_gp n I J M c F N tr cd ch rr (x_u L D + (2 * 2 ^ N * x_g30 L I D lp b N ch + 2 * 2 ^ N * x_g33 L I D lp b N ch)) (fun I' _ _ => I' lp 5 = nI ch ∧ I' lp 9 = nI ch) h') := by
  have hS : SS K L G := hx.S
  have hl0 := hl
  rcases hl with ⟨rfl, rfl, rfl⟩ | ⟨rfl, rfl, rfl⟩
  · refine z_ctr (by decide) (by decide +kernel) (Nat.le_of_ble_eq_true rfl) (by decide +kernel) (fun X hl hj hd hm hs hsc hQ => ?_)
    show zV X 0 [some (.ref 5), some (.int 0), none] [] _ 0 0
    subst hl
    refine zW_ok hj B151_0 0 _ _ _ _ _ b151_0 ?_
    simp only [B151_0, zW, z_wp1, z_ld, z_f0, z_f1, z_f2, z_f3, List.getElem?_cons_zero, List.getElem?_cons_succ, true_and, and_true, Int32.reduceOfInt, z_i10, z_i01, Int32.reduceLT, Int32.reduceLE, Int32.reduceAdd, Int32.reduceSub, z_set, z_set2, z_kil, List.set_cons_zero, List.set_cons_succ, List.take_succ_cons, List.take_zero, List.drop_succ_cons, List.drop_zero, List.reverse_cons, List.reverse_nil, List.nil_append, List.cons_append, List.getD_cons_succ, List.getD_cons_zero, List.getD_nil, List.length_cons, List.length_nil, List.map_cons, List.map_nil, List.sum_cons, List.sum_nil, Nat.reduceAdd, Nat.reduceLeDiff, Value.category, Option.toList, true_or, or_true, z_ua, ↓reduceIte, Nat.reduceEqDiff, eq_self, not_true_eq_false, not_false_eq_true, false_implies, true_implies, Classical.not_not, Nat.le_refl, Nat.zero_le, sK5 hS, sG5_1 hS, sK10 hS]
    try dsimp only
    refine z_callQ (c96x hx) (by omega) (by omega) (by omega) (Nat.le_of_ble_eq_true rfl) ?_
    rintro r h' ⟨rfl, I1, rfl, hx1, hI, hw⟩
    simp only [zW, z_wp1, z_ld, z_f0, z_f1, z_f2, z_f3, List.getElem?_cons_zero, List.getElem?_cons_succ, true_and, and_true, Int32.reduceOfInt, z_i10, z_i01, Int32.reduceLT, Int32.reduceLE, Int32.reduceAdd, Int32.reduceSub, z_set, z_set2, z_kil, List.set_cons_zero, List.set_cons_succ, List.take_succ_cons, List.take_zero, List.drop_succ_cons, List.drop_zero, List.reverse_cons, List.reverse_nil, List.nil_append, List.cons_append, List.getD_cons_succ, List.getD_cons_zero, List.getD_nil, List.length_cons, List.length_nil, List.map_cons, List.map_nil, List.sum_cons, List.sum_nil, Nat.reduceAdd, Nat.reduceLeDiff, Value.category, Option.toList, true_or, or_true, z_ua, ↓reduceIte, Nat.reduceEqDiff, eq_self, not_true_eq_false, not_false_eq_true, false_implies, true_implies, Classical.not_not, Nat.le_refl, Nat.zero_le, sK5 hS, sG5_1 hS, sK10 hS, sG5_2 hS, sK21 hS, sL21 hS, sK22 hS, sK28 hS]
    try dsimp only
    have g : G 21 (Int32.toNatClampNeg 0) = .ref 22 := sG21_0 hS
    have eg : x_g30 L I1 D 22 0 N ch = x_g30 L I D 22 0 N ch := by unfold x_g30; rw [hI 22 (by omega)]
    rw [g]
    refine ⟨show vp_in (nI 0) 2 from vp_in_nI (by omega) (by omega), sK22 hS, z_callA (c30x (l := X.1) hx1 hw hl0) (by omega) (by rw [eg]; omega) (by rw [eg]; omega) (Nat.le_of_ble_eq_true rfl) ?_⟩
    rintro r h' ⟨rfl, n', K', L', I', J', G', D', rfl, hx', u1, u2, u3, u4, u5, u6⟩
    rw [eg] at u1
    have eg2 : x_g33 L' I' D' 22 0 N ch = x_g33 L I D 22 0 N ch := by unfold x_g33; rw [u5, u6, hI 22 (by omega)]
    have hS := hx'.S
    simp only [zW, z_wp1, z_ld, z_f0, z_f1, z_f2, z_f3, List.getElem?_cons_zero, List.getElem?_cons_succ, true_and, and_true, Int32.reduceOfInt, z_i10, z_i01, Int32.reduceLT, Int32.reduceLE, Int32.reduceAdd, Int32.reduceSub, z_set, z_set2, z_kil, List.set_cons_zero, List.set_cons_succ, List.take_succ_cons, List.take_zero, List.drop_succ_cons, List.drop_zero, List.reverse_cons, List.reverse_nil, List.nil_append, List.cons_append, List.getD_cons_succ, List.getD_cons_zero, List.getD_nil, List.length_cons, List.length_nil, List.map_cons, List.map_nil, List.sum_cons, List.sum_nil, Nat.reduceAdd, Nat.reduceLeDiff, Value.category, Option.toList, true_or, or_true, z_ua, ↓reduceIte, Nat.reduceEqDiff, eq_self, not_true_eq_false, not_false_eq_true, false_implies, true_implies, Classical.not_not, Nat.le_refl, Nat.zero_le, sK22 hS, sK28 hS]
    try dsimp only
    refine z_callA (c33x (l := X.1) hx' hl0 u4) (by omega) (by rw [eg, eg2]; omega) (by rw [eg, eg2]; omega) (Nat.le_of_ble_eq_true rfl) ?_
    rintro r h' ⟨rfl, n2, K2, L2, I2, J2, G2, D2, rfl, hx2, w1, w2, w3, w4⟩
    rw [eg2] at w1
    exact hQ _ _ ⟨rfl, n2, K2, L2, I2, J2, G2, D2, rfl, hx2, by omega, fun q a b => ⟨by rw [(w2 q a b).1, (u2 q a b).1, hI q (by omega)], by rw [(w2 q a b).2, (u2 q a b).2]⟩, by omega, w4⟩
  · refine z_ctr (by decide) (by decide +kernel) (Nat.le_of_ble_eq_true rfl) (by decide +kernel) (fun X hl hj hd hm hs hsc hQ => ?_)
    show zV X 0 [some (.ref 5), some (.int 1), none] [] _ 0 0
    subst hl
    refine zW_ok hj B151_0 0 _ _ _ _ _ b151_0 ?_
    simp only [B151_0, zW, z_wp1, z_ld, z_f0, z_f1, z_f2, z_f3, List.getElem?_cons_zero, List.getElem?_cons_succ, true_and, and_true, Int32.reduceOfInt, z_i10, z_i01, Int32.reduceLT, Int32.reduceLE, Int32.reduceAdd, Int32.reduceSub, z_set, z_set2, z_kil, List.set_cons_zero, List.set_cons_succ, List.take_succ_cons, List.take_zero, List.drop_succ_cons, List.drop_zero, List.reverse_cons, List.reverse_nil, List.nil_append, List.cons_append, List.getD_cons_succ, List.getD_cons_zero, List.getD_nil, List.length_cons, List.length_nil, List.map_cons, List.map_nil, List.sum_cons, List.sum_nil, Nat.reduceAdd, Nat.reduceLeDiff, Value.category, Option.toList, true_or, or_true, z_ua, ↓reduceIte, Nat.reduceEqDiff, eq_self, not_true_eq_false, not_false_eq_true, false_implies, true_implies, Classical.not_not, Nat.le_refl, Nat.zero_le, sK5 hS, sG5_1 hS, sK10 hS]
    try dsimp only
    refine z_callQ (c96x hx) (by omega) (by omega) (by omega) (Nat.le_of_ble_eq_true rfl) ?_
    rintro r h' ⟨rfl, I1, rfl, hx1, hI, hw⟩
    simp only [zW, z_wp1, z_ld, z_f0, z_f1, z_f2, z_f3, List.getElem?_cons_zero, List.getElem?_cons_succ, true_and, and_true, Int32.reduceOfInt, z_i10, z_i01, Int32.reduceLT, Int32.reduceLE, Int32.reduceAdd, Int32.reduceSub, z_set, z_set2, z_kil, List.set_cons_zero, List.set_cons_succ, List.take_succ_cons, List.take_zero, List.drop_succ_cons, List.drop_zero, List.reverse_cons, List.reverse_nil, List.nil_append, List.cons_append, List.getD_cons_succ, List.getD_cons_zero, List.getD_nil, List.length_cons, List.length_nil, List.map_cons, List.map_nil, List.sum_cons, List.sum_nil, Nat.reduceAdd, Nat.reduceLeDiff, Value.category, Option.toList, true_or, or_true, z_ua, ↓reduceIte, Nat.reduceEqDiff, eq_self, not_true_eq_false, not_false_eq_true, false_implies, true_implies, Classical.not_not, Nat.le_refl, Nat.zero_le, sK5 hS, sG5_1 hS, sK10 hS, sG5_2 hS, sK21 hS, sL21 hS, sK22 hS, sK28 hS]
    try dsimp only
    have g : G 21 (Int32.toNatClampNeg 1) = .ref 28 := sG21_1 hS
    have eg : x_g30 L I1 D 28 4 N ch = x_g30 L I D 28 4 N ch := by unfold x_g30; rw [hI 28 (by omega)]
    rw [g]
    refine ⟨show vp_in (nI 1) 2 from vp_in_nI (by omega) (by omega), sK28 hS, z_callA (c30x (l := X.1) hx1 hw hl0) (by omega) (by rw [eg]; omega) (by rw [eg]; omega) (Nat.le_of_ble_eq_true rfl) ?_⟩
    rintro r h' ⟨rfl, n', K', L', I', J', G', D', rfl, hx', u1, u2, u3, u4, u5, u6⟩
    rw [eg] at u1
    have eg2 : x_g33 L' I' D' 28 4 N ch = x_g33 L I D 28 4 N ch := by unfold x_g33; rw [u5, u6, hI 28 (by omega)]
    have hS := hx'.S
    simp only [zW, z_wp1, z_ld, z_f0, z_f1, z_f2, z_f3, List.getElem?_cons_zero, List.getElem?_cons_succ, true_and, and_true, Int32.reduceOfInt, z_i10, z_i01, Int32.reduceLT, Int32.reduceLE, Int32.reduceAdd, Int32.reduceSub, z_set, z_set2, z_kil, List.set_cons_zero, List.set_cons_succ, List.take_succ_cons, List.take_zero, List.drop_succ_cons, List.drop_zero, List.reverse_cons, List.reverse_nil, List.nil_append, List.cons_append, List.getD_cons_succ, List.getD_cons_zero, List.getD_nil, List.length_cons, List.length_nil, List.map_cons, List.map_nil, List.sum_cons, List.sum_nil, Nat.reduceAdd, Nat.reduceLeDiff, Value.category, Option.toList, true_or, or_true, z_ua, ↓reduceIte, Nat.reduceEqDiff, eq_self, not_true_eq_false, not_false_eq_true, false_implies, true_implies, Classical.not_not, Nat.le_refl, Nat.zero_le, sK22 hS, sK28 hS]
    try dsimp only
    refine z_callA (c33x (l := X.1) hx' hl0 u4) (by omega) (by rw [eg, eg2]; omega) (by rw [eg, eg2]; omega) (Nat.le_of_ble_eq_true rfl) ?_
    rintro r h' ⟨rfl, n2, K2, L2, I2, J2, G2, D2, rfl, hx2, w1, w2, w3, w4⟩
    rw [eg2] at w1
    exact hQ _ _ ⟨rfl, n2, K2, L2, I2, J2, G2, D2, rfl, hx2, by omega, fun q a b => ⟨by rw [(w2 q a b).1, (u2 q a b).1, hI q (by omega)], by rw [(w2 q a b).2, (u2 q a b).2]⟩, by omega, w4⟩
end PUBL
