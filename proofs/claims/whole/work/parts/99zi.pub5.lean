/-! The public methods: finds, views, the tape's end, look -/
section PUB5
variable {l : Launch} {n : Nat} {K L : Nat → Nat} {I I' : Nat → Nat → Int32} {J : Nat → Nat → Int64} {G G' : Nat → Nat → Value} {M M' : Nat → Nat → Int32} {c F N c' F' N' : Nat} {tr tr' : Nat → (Int32 → Int32) → Int32} {cd cd' : Nat} {D : Nat → Nat} {ch rr : Nat}
theorem x_exq.mg (h : x_exq I M) (e : ∀ q, 90 ≤ q → q ≤ 92 → M' q = M q) (e1 : M' 71 38 = M 71 38) (e2 : M' 71 39 = M 71 39) (e3 : M' 71 40 = M 71 40) (e4 : M' 71 42 = M 71 42) : x_exq I M' := by
  unfold x_exq m_ex at *
  rw [e1, e2, e3, e4, e 90 (by omega) (by omega), e 91 (by omega) (by omega), e 92 (by omega) (by omega)]
  exact h
/-- the table has changed: all that was kept is old -/
theorem XI.nw (hx : XI n K L I J G M c F N tr cd D ch rr) (hr : rr < 600) (hS' : SS K L G') (hC' : XC G' cd') (hG : ∀ (i : Nat) (r : Nat × Nat × Nat × Nat × Nat), d_tb[i]? = some r → G' r.1 r.2.1 = G r.1 r.2.1) (hI : ∀ q, (20 ≤ q ∧ q ≤ 57) ∨ 103 ≤ q → I' q = I q) (hst : m_st M' c' F' N' tr' ∧ p_lay (M' 78) 0 p_ws) (hl : x_led I' M' c') (ht : x_tab I' M' c' F' N' tr' cd' (ch + 1)) (hp : x_tap I' M') (hf : x_flt I' M') (e : ∀ q, 90 ≤ q → q ≤ 92 → M' q = M q) (e1 : M' 71 38 = M 71 38) (e2 : M' 71 39 = M 71 39) (e3 : M' 71 40 = M 71 40) (e4 : M' 71 42 = M 71 42) (e97 : M' 97 = M 97) : XI n K L I' J G' M' c' F' N' tr' cd' D (ch + 1) (rr + 1) := by
  obtain ⟨h0, h1, h2, h3, h4, h5, h6, h7, h8, h9, h10, h11⟩ := hx
  obtain ⟨a1, a2, a3, a4, a5, a6⟩ := h0
  have hD : ∀ i, i < 10 → I' (D i) = I (D i) := fun i hi => by
    obtain ⟨p, h1, -, h2, -⟩ := a4.pl hi
    have hp : 20 ≤ p ∧ p ≤ 57 := by
      revert h1
      simp only [List.mem_cons, List.not_mem_nil, or_false]
      omega
    exact hI _ (by omega)
  have hc : ch < 2 ^ 30 := by omega
  refine ⟨⟨hS', hC', a3, ⟨fun i r hr => ?_, a4.2⟩, by omega, by omega⟩, hst, hl, ht, hp, hf, (h6.old hc).cg (hI _ (by omega)) (hD 0 (by omega)) (hD 1 (by omega)) (hD 3 (by omega)), (h7.old hc).cg (hI _ (by omega)) (hD 4 (by omega)) (hD 5 (by omega)) (hD 7 (by omega)), (h8.mg e e1 e2 e3 e4).cg (hI _ (by omega)) (hI _ (by omega)) (hI _ (by omega)) (hI _ (by omega)), (h9.old hc).cg (fun q _ _ => hI q (by omega)) rfl rfl, (h10.old hc).cg (fun q _ _ => hI q (by omega)), (h11.old hc e97).cg (fun q _ _ => hI q (by omega)) (hD 9 (by omega))⟩
  rw [hG i r hr]
  exact a4.1 i r hr
/-- look -/
theorem d125 (hx : XI n K L I J G M c F N tr cd D ch rr) (hr : rr < 600) (w : Int32) : z_Ctr l 6 125 [.ref 5, .int w] (n, K, L, I, J, G) 0 0 (x_po n I J M c F N tr (rr + 1) (x_u L D) (.int (m_look M w))) := by
  have hS : SS K L G := hx.S
  obtain ⟨s1, s2, s3, s4, s5, s6, s7⟩ := hx.2.1.1
  obtain ⟨f1, f2, f3, f4⟩ := hx.fn
  have t1 := hx.2.2.1.1
  have t3 : I 10 1 = M 71 8 := hx.2.2.2.1.2.1
  have t4 : I 10 2 = M 71 9 := hx.2.2.2.1.2.2.1
  refine z_ctr (by decide) (by decide +kernel) (Nat.le_of_ble_eq_true rfl) (by decide +kernel) (fun X hl hj hd hm hs hsc hQ => ?_)
  show zV X 0 [some (.ref 5), some (.int w)] [] _ 0 0
  subst hl
  have rt : ∀ v : Int32, m_look M w = v → X.2.2.2.2.2.2 (some (.int v)) (n, K, L, I, J, G) := fun v q => hQ _ _ (by rw [← q]; exact x_po.id hx hr _)
  have t0 : m_look M w = nI F → zV X 44 [some (.ref 5), some (.int w)] [] (n, K, L, I, J, G) 0 0 := fun q => by
    refine zW_ok hj B125_44 44 _ _ _ _ _ b125_44 ?_
    simp only [B125_44, zW, z_wp1, z_ld, z_f0, z_f1, z_f2, z_f3, List.getElem?_cons_zero, List.getElem?_cons_succ, true_and, and_true, Int32.reduceOfInt, z_i10, z_i01, Int32.reduceLT, Int32.reduceLE, Int32.reduceAdd, Int32.reduceSub, z_set, z_set2, z_kil, List.set_cons_zero, List.set_cons_succ, List.take_succ_cons, List.take_zero, List.drop_succ_cons, List.drop_zero, List.reverse_cons, List.reverse_nil, List.nil_append, List.cons_append, List.getD_cons_succ, List.getD_cons_zero, List.getD_nil, List.length_cons, List.length_nil, List.map_cons, List.map_nil, List.sum_cons, List.sum_nil, Nat.reduceAdd, Nat.reduceLeDiff, Value.category, Option.toList, true_or, or_true, z_ua, ↓reduceIte, Nat.reduceEqDiff, eq_self, not_true_eq_false, not_false_eq_true, false_implies, true_implies, Classical.not_not, Nat.le_refl, Nat.zero_le, sK5 hS, sG5_1 hS, sK10 hS, sK10 hS, f1]
    try dsimp only
    exact rt _ q
  have t1' : m_look M w = nI N → zV X 52 [some (.ref 5), some (.int w)] [] (n, K, L, I, J, G) 0 0 := fun q => by
    refine zW_ok hj B125_52 52 _ _ _ _ _ b125_52 ?_
    simp only [B125_52, zW, z_wp1, z_ld, z_f0, z_f1, z_f2, z_f3, List.getElem?_cons_zero, List.getElem?_cons_succ, true_and, and_true, Int32.reduceOfInt, z_i10, z_i01, Int32.reduceLT, Int32.reduceLE, Int32.reduceAdd, Int32.reduceSub, z_set, z_set2, z_kil, List.set_cons_zero, List.set_cons_succ, List.take_succ_cons, List.take_zero, List.drop_succ_cons, List.drop_zero, List.reverse_cons, List.reverse_nil, List.nil_append, List.cons_append, List.getD_cons_succ, List.getD_cons_zero, List.getD_nil, List.length_cons, List.length_nil, List.map_cons, List.map_nil, List.sum_cons, List.sum_nil, Nat.reduceAdd, Nat.reduceLeDiff, Value.category, Option.toList, true_or, or_true, z_ua, ↓reduceIte, Nat.reduceEqDiff, eq_self, not_true_eq_false, not_false_eq_true, false_implies, true_implies, Classical.not_not, Nat.le_refl, Nat.zero_le, sK5 hS, sG5_1 hS, sK10 hS]
    try dsimp only
    refine z_callD (c90 (n := n) (I := I) (J := J) hS hx.C) (by omega) (by omega) (by omega) (Nat.le_of_ble_eq_true rfl) ?_
    try simp only [zW, z_wp1, z_ld, z_f0, z_f1, z_f2, z_f3, List.getElem?_cons_zero, List.getElem?_cons_succ, true_and, and_true, Int32.reduceOfInt, z_i10, z_i01, Int32.reduceLT, Int32.reduceLE, Int32.reduceAdd, Int32.reduceSub, z_set, z_set2, z_kil, List.set_cons_zero, List.set_cons_succ, List.take_succ_cons, List.take_zero, List.drop_succ_cons, List.drop_zero, List.reverse_cons, List.reverse_nil, List.nil_append, List.cons_append, List.getD_cons_succ, List.getD_cons_zero, List.getD_nil, List.length_cons, List.length_nil, List.map_cons, List.map_nil, List.sum_cons, List.sum_nil, Nat.reduceAdd, Nat.reduceLeDiff, Value.category, Option.toList, true_or, or_true, z_ua, ↓reduceIte, Nat.reduceEqDiff, eq_self, not_true_eq_false, not_false_eq_true, false_implies, true_implies, Classical.not_not, Nat.le_refl, Nat.zero_le]
    try dsimp only
    rw [f3]
    exact rt _ q
  have t2 : m_look M w = nI c → zV X 60 [some (.ref 5), some (.int w)] [] (n, K, L, I, J, G) 0 0 := fun q => by
    refine zW_ok hj B125_60 60 _ _ _ _ _ b125_60 ?_
    simp only [B125_60, zW, z_wp1, z_ld, z_f0, z_f1, z_f2, z_f3, List.getElem?_cons_zero, List.getElem?_cons_succ, true_and, and_true, Int32.reduceOfInt, z_i10, z_i01, Int32.reduceLT, Int32.reduceLE, Int32.reduceAdd, Int32.reduceSub, z_set, z_set2, z_kil, List.set_cons_zero, List.set_cons_succ, List.take_succ_cons, List.take_zero, List.drop_succ_cons, List.drop_zero, List.reverse_cons, List.reverse_nil, List.nil_append, List.cons_append, List.getD_cons_succ, List.getD_cons_zero, List.getD_nil, List.length_cons, List.length_nil, List.map_cons, List.map_nil, List.sum_cons, List.sum_nil, Nat.reduceAdd, Nat.reduceLeDiff, Value.category, Option.toList, true_or, or_true, z_ua, ↓reduceIte, Nat.reduceEqDiff, eq_self, not_true_eq_false, not_false_eq_true, false_implies, true_implies, Classical.not_not, Nat.le_refl, Nat.zero_le, sK5 hS, sG5_0 hS, sK6 hS, sK6 hS, t1]
    try dsimp only
    exact rt _ q
  have t3' : m_look M w = M 71 8 → zV X 68 [some (.ref 5), some (.int w)] [] (n, K, L, I, J, G) 0 0 := fun q => by
    refine zW_ok hj B125_68 68 _ _ _ _ _ b125_68 ?_
    simp only [B125_68, zW, z_wp1, z_ld, z_f0, z_f1, z_f2, z_f3, List.getElem?_cons_zero, List.getElem?_cons_succ, true_and, and_true, Int32.reduceOfInt, z_i10, z_i01, Int32.reduceLT, Int32.reduceLE, Int32.reduceAdd, Int32.reduceSub, z_set, z_set2, z_kil, List.set_cons_zero, List.set_cons_succ, List.take_succ_cons, List.take_zero, List.drop_succ_cons, List.drop_zero, List.reverse_cons, List.reverse_nil, List.nil_append, List.cons_append, List.getD_cons_succ, List.getD_cons_zero, List.getD_nil, List.length_cons, List.length_nil, List.map_cons, List.map_nil, List.sum_cons, List.sum_nil, Nat.reduceAdd, Nat.reduceLeDiff, Value.category, Option.toList, true_or, or_true, z_ua, ↓reduceIte, Nat.reduceEqDiff, eq_self, not_true_eq_false, not_false_eq_true, false_implies, true_implies, Classical.not_not, Nat.le_refl, Nat.zero_le, sK5 hS, sG5_1 hS, sK10 hS, sK10 hS, t3]
    try dsimp only
    exact rt _ q
  have t4' : m_look M w = M 71 9 → zV X 76 [some (.ref 5), some (.int w)] [] (n, K, L, I, J, G) 0 0 := fun q => by
    refine zW_ok hj B125_76 76 _ _ _ _ _ b125_76 ?_
    simp only [B125_76, zW, z_wp1, z_ld, z_f0, z_f1, z_f2, z_f3, List.getElem?_cons_zero, List.getElem?_cons_succ, true_and, and_true, Int32.reduceOfInt, z_i10, z_i01, Int32.reduceLT, Int32.reduceLE, Int32.reduceAdd, Int32.reduceSub, z_set, z_set2, z_kil, List.set_cons_zero, List.set_cons_succ, List.take_succ_cons, List.take_zero, List.drop_succ_cons, List.drop_zero, List.reverse_cons, List.reverse_nil, List.nil_append, List.cons_append, List.getD_cons_succ, List.getD_cons_zero, List.getD_nil, List.length_cons, List.length_nil, List.map_cons, List.map_nil, List.sum_cons, List.sum_nil, Nat.reduceAdd, Nat.reduceLeDiff, Value.category, Option.toList, true_or, or_true, z_ua, ↓reduceIte, Nat.reduceEqDiff, eq_self, not_true_eq_false, not_false_eq_true, false_implies, true_implies, Classical.not_not, Nat.le_refl, Nat.zero_le, sK5 hS, sG5_1 hS, sK10 hS, sK10 hS, t4]
    try dsimp only
    exact rt _ q
  have t5 : m_look M w = (if M 71 38 = 0 then -1 else M 71 40) → zV X 84 [some (.ref 5), some (.int w)] [] (n, K, L, I, J, G) 0 0 := fun q => by
    rcases hx.2.2.2.2.2.2.2.2.1 with ⟨b0, b1, -⟩ | ⟨b0, b1, EN, E, A, v0, he1, he2, he3, -⟩
    · rw [if_pos b1] at q
      refine zW_ok hj B125_84 84 _ _ _ _ _ b125_84 ?_
      simp only [B125_84, zW, z_wp1, z_ld, z_f0, z_f1, z_f2, z_f3, List.getElem?_cons_zero, List.getElem?_cons_succ, true_and, and_true, Int32.reduceOfInt, z_i10, z_i01, Int32.reduceLT, Int32.reduceLE, Int32.reduceAdd, Int32.reduceSub, z_set, z_set2, z_kil, List.set_cons_zero, List.set_cons_succ, List.take_succ_cons, List.take_zero, List.drop_succ_cons, List.drop_zero, List.reverse_cons, List.reverse_nil, List.nil_append, List.cons_append, List.getD_cons_succ, List.getD_cons_zero, List.getD_nil, List.length_cons, List.length_nil, List.map_cons, List.map_nil, List.sum_cons, List.sum_nil, Nat.reduceAdd, Nat.reduceLeDiff, Value.category, Option.toList, true_or, or_true, z_ua, ↓reduceIte, Nat.reduceEqDiff, eq_self, not_true_eq_false, not_false_eq_true, false_implies, true_implies, Classical.not_not, Nat.le_refl, Nat.zero_le, sK5 hS, sG5_3 hS, sK34 hS, sK34 hS, b0]
      try dsimp only
      refine zW_ok hj B125_104 104 _ _ _ _ _ b125_104 ?_
      simp only [B125_104, zW, z_wp1, z_ld, z_f0, z_f1, z_f2, z_f3, List.getElem?_cons_zero, List.getElem?_cons_succ, true_and, and_true, Int32.reduceOfInt, z_i10, z_i01, Int32.reduceLT, Int32.reduceLE, Int32.reduceAdd, Int32.reduceSub, z_set, z_set2, z_kil, List.set_cons_zero, List.set_cons_succ, List.take_succ_cons, List.take_zero, List.drop_succ_cons, List.drop_zero, List.reverse_cons, List.reverse_nil, List.nil_append, List.cons_append, List.getD_cons_succ, List.getD_cons_zero, List.getD_nil, List.length_cons, List.length_nil, List.map_cons, List.map_nil, List.sum_cons, List.sum_nil, Nat.reduceAdd, Nat.reduceLeDiff, Value.category, Option.toList, true_or, or_true, z_ua, ↓reduceIte, Nat.reduceEqDiff, eq_self, not_true_eq_false, not_false_eq_true, false_implies, true_implies, Classical.not_not, Nat.le_refl, Nat.zero_le]
      try dsimp only
      refine zW_ok hj B125_105 105 _ _ _ _ _ b125_105 ?_
      simp only [B125_105, zW, z_wp1, z_ld, z_f0, z_f1, z_f2, z_f3, List.getElem?_cons_zero, List.getElem?_cons_succ, true_and, and_true, Int32.reduceOfInt, z_i10, z_i01, Int32.reduceLT, Int32.reduceLE, Int32.reduceAdd, Int32.reduceSub, z_set, z_set2, z_kil, List.set_cons_zero, List.set_cons_succ, List.take_succ_cons, List.take_zero, List.drop_succ_cons, List.drop_zero, List.reverse_cons, List.reverse_nil, List.nil_append, List.cons_append, List.getD_cons_succ, List.getD_cons_zero, List.getD_nil, List.length_cons, List.length_nil, List.map_cons, List.map_nil, List.sum_cons, List.sum_nil, Nat.reduceAdd, Nat.reduceLeDiff, Value.category, Option.toList, true_or, or_true, z_ua, ↓reduceIte, Nat.reduceEqDiff, eq_self, not_true_eq_false, not_false_eq_true, false_implies, true_implies, Classical.not_not, Nat.le_refl, Nat.zero_le]
      try dsimp only
      exact rt _ q
    · rw [if_neg b1, he3.2.2.1] at q
      have b2 := he1.2.2.2.1
      refine zW_ok hj B125_84 84 _ _ _ _ _ b125_84 ?_
      simp only [B125_84, zW, z_wp1, z_ld, z_f0, z_f1, z_f2, z_f3, List.getElem?_cons_zero, List.getElem?_cons_succ, true_and, and_true, Int32.reduceOfInt, z_i10, z_i01, Int32.reduceLT, Int32.reduceLE, Int32.reduceAdd, Int32.reduceSub, z_set, z_set2, z_kil, List.set_cons_zero, List.set_cons_succ, List.take_succ_cons, List.take_zero, List.drop_succ_cons, List.drop_zero, List.reverse_cons, List.reverse_nil, List.nil_append, List.cons_append, List.getD_cons_succ, List.getD_cons_zero, List.getD_nil, List.length_cons, List.length_nil, List.map_cons, List.map_nil, List.sum_cons, List.sum_nil, Nat.reduceAdd, Nat.reduceLeDiff, Value.category, Option.toList, true_or, or_true, z_ua, ↓reduceIte, Nat.reduceEqDiff, eq_self, not_true_eq_false, not_false_eq_true, false_implies, true_implies, Classical.not_not, Nat.le_refl, Nat.zero_le, sK5 hS, sG5_3 hS, sK34 hS, sK34 hS, b0, b2]
      try dsimp only
      refine zW_ok hj B125_105 105 _ _ _ _ _ b125_105 ?_
      simp only [B125_105, zW, z_wp1, z_ld, z_f0, z_f1, z_f2, z_f3, List.getElem?_cons_zero, List.getElem?_cons_succ, true_and, and_true, Int32.reduceOfInt, z_i10, z_i01, Int32.reduceLT, Int32.reduceLE, Int32.reduceAdd, Int32.reduceSub, z_set, z_set2, z_kil, List.set_cons_zero, List.set_cons_succ, List.take_succ_cons, List.take_zero, List.drop_succ_cons, List.drop_zero, List.reverse_cons, List.reverse_nil, List.nil_append, List.cons_append, List.getD_cons_succ, List.getD_cons_zero, List.getD_nil, List.length_cons, List.length_nil, List.map_cons, List.map_nil, List.sum_cons, List.sum_nil, Nat.reduceAdd, Nat.reduceLeDiff, Value.category, Option.toList, true_or, or_true, z_ua, ↓reduceIte, Nat.reduceEqDiff, eq_self, not_true_eq_false, not_false_eq_true, false_implies, true_implies, Classical.not_not, Nat.le_refl, Nat.zero_le]
      try dsimp only
      exact rt _ q
  have t6 : m_look M w = (if M 71 38 = 0 then -1 else M 71 42) → zV X 106 [some (.ref 5), some (.int w)] [] (n, K, L, I, J, G) 0 0 := fun q => by
    rcases hx.2.2.2.2.2.2.2.2.1 with ⟨b0, b1, -⟩ | ⟨b0, b1, EN, E, A, v0, he1, he2, he3, -⟩
    · rw [if_pos b1] at q
      refine zW_ok hj B125_106 106 _ _ _ _ _ b125_106 ?_
      simp only [B125_106, zW, z_wp1, z_ld, z_f0, z_f1, z_f2, z_f3, List.getElem?_cons_zero, List.getElem?_cons_succ, true_and, and_true, Int32.reduceOfInt, z_i10, z_i01, Int32.reduceLT, Int32.reduceLE, Int32.reduceAdd, Int32.reduceSub, z_set, z_set2, z_kil, List.set_cons_zero, List.set_cons_succ, List.take_succ_cons, List.take_zero, List.drop_succ_cons, List.drop_zero, List.reverse_cons, List.reverse_nil, List.nil_append, List.cons_append, List.getD_cons_succ, List.getD_cons_zero, List.getD_nil, List.length_cons, List.length_nil, List.map_cons, List.map_nil, List.sum_cons, List.sum_nil, Nat.reduceAdd, Nat.reduceLeDiff, Value.category, Option.toList, true_or, or_true, z_ua, ↓reduceIte, Nat.reduceEqDiff, eq_self, not_true_eq_false, not_false_eq_true, false_implies, true_implies, Classical.not_not, Nat.le_refl, Nat.zero_le, sK5 hS, sG5_3 hS, sK34 hS, sK34 hS, b0]
      try dsimp only
      refine zW_ok hj B125_126 126 _ _ _ _ _ b125_126 ?_
      simp only [B125_126, zW, z_wp1, z_ld, z_f0, z_f1, z_f2, z_f3, List.getElem?_cons_zero, List.getElem?_cons_succ, true_and, and_true, Int32.reduceOfInt, z_i10, z_i01, Int32.reduceLT, Int32.reduceLE, Int32.reduceAdd, Int32.reduceSub, z_set, z_set2, z_kil, List.set_cons_zero, List.set_cons_succ, List.take_succ_cons, List.take_zero, List.drop_succ_cons, List.drop_zero, List.reverse_cons, List.reverse_nil, List.nil_append, List.cons_append, List.getD_cons_succ, List.getD_cons_zero, List.getD_nil, List.length_cons, List.length_nil, List.map_cons, List.map_nil, List.sum_cons, List.sum_nil, Nat.reduceAdd, Nat.reduceLeDiff, Value.category, Option.toList, true_or, or_true, z_ua, ↓reduceIte, Nat.reduceEqDiff, eq_self, not_true_eq_false, not_false_eq_true, false_implies, true_implies, Classical.not_not, Nat.le_refl, Nat.zero_le]
      try dsimp only
      refine zW_ok hj B125_127 127 _ _ _ _ _ b125_127 ?_
      simp only [B125_127, zW, z_wp1, z_ld, z_f0, z_f1, z_f2, z_f3, List.getElem?_cons_zero, List.getElem?_cons_succ, true_and, and_true, Int32.reduceOfInt, z_i10, z_i01, Int32.reduceLT, Int32.reduceLE, Int32.reduceAdd, Int32.reduceSub, z_set, z_set2, z_kil, List.set_cons_zero, List.set_cons_succ, List.take_succ_cons, List.take_zero, List.drop_succ_cons, List.drop_zero, List.reverse_cons, List.reverse_nil, List.nil_append, List.cons_append, List.getD_cons_succ, List.getD_cons_zero, List.getD_nil, List.length_cons, List.length_nil, List.map_cons, List.map_nil, List.sum_cons, List.sum_nil, Nat.reduceAdd, Nat.reduceLeDiff, Value.category, Option.toList, true_or, or_true, z_ua, ↓reduceIte, Nat.reduceEqDiff, eq_self, not_true_eq_false, not_false_eq_true, false_implies, true_implies, Classical.not_not, Nat.le_refl, Nat.zero_le]
      try dsimp only
      exact rt _ q
    · rw [if_neg b1, he3.2.2.2.2.1] at q
      have b2 := he1.2.2.2.2.2.1
      refine zW_ok hj B125_106 106 _ _ _ _ _ b125_106 ?_
      simp only [B125_106, zW, z_wp1, z_ld, z_f0, z_f1, z_f2, z_f3, List.getElem?_cons_zero, List.getElem?_cons_succ, true_and, and_true, Int32.reduceOfInt, z_i10, z_i01, Int32.reduceLT, Int32.reduceLE, Int32.reduceAdd, Int32.reduceSub, z_set, z_set2, z_kil, List.set_cons_zero, List.set_cons_succ, List.take_succ_cons, List.take_zero, List.drop_succ_cons, List.drop_zero, List.reverse_cons, List.reverse_nil, List.nil_append, List.cons_append, List.getD_cons_succ, List.getD_cons_zero, List.getD_nil, List.length_cons, List.length_nil, List.map_cons, List.map_nil, List.sum_cons, List.sum_nil, Nat.reduceAdd, Nat.reduceLeDiff, Value.category, Option.toList, true_or, or_true, z_ua, ↓reduceIte, Nat.reduceEqDiff, eq_self, not_true_eq_false, not_false_eq_true, false_implies, true_implies, Classical.not_not, Nat.le_refl, Nat.zero_le, sK5 hS, sG5_3 hS, sK34 hS, sK34 hS, b0, b2]
      try dsimp only
      refine zW_ok hj B125_127 127 _ _ _ _ _ b125_127 ?_
      simp only [B125_127, zW, z_wp1, z_ld, z_f0, z_f1, z_f2, z_f3, List.getElem?_cons_zero, List.getElem?_cons_succ, true_and, and_true, Int32.reduceOfInt, z_i10, z_i01, Int32.reduceLT, Int32.reduceLE, Int32.reduceAdd, Int32.reduceSub, z_set, z_set2, z_kil, List.set_cons_zero, List.set_cons_succ, List.take_succ_cons, List.take_zero, List.drop_succ_cons, List.drop_zero, List.reverse_cons, List.reverse_nil, List.nil_append, List.cons_append, List.getD_cons_succ, List.getD_cons_zero, List.getD_nil, List.length_cons, List.length_nil, List.map_cons, List.map_nil, List.sum_cons, List.sum_nil, Nat.reduceAdd, Nat.reduceLeDiff, Value.category, Option.toList, true_or, or_true, z_ua, ↓reduceIte, Nat.reduceEqDiff, eq_self, not_true_eq_false, not_false_eq_true, false_implies, true_implies, Classical.not_not, Nat.le_refl, Nat.zero_le]
      try dsimp only
      exact rt _ q
  have t7 : m_look M w = -2 → zV X 128 [some (.ref 5), some (.int w)] [] (n, K, L, I, J, G) 0 0 := fun q => by
    refine zW_ok hj B125_128 128 _ _ _ _ _ b125_128 ?_
    simp only [B125_128, zW, z_wp1, z_ld, z_f0, z_f1, z_f2, z_f3, List.getElem?_cons_zero, List.getElem?_cons_succ, true_and, and_true, Int32.reduceOfInt, z_i10, z_i01, Int32.reduceLT, Int32.reduceLE, Int32.reduceAdd, Int32.reduceSub, z_set, z_set2, z_kil, List.set_cons_zero, List.set_cons_succ, List.take_succ_cons, List.take_zero, List.drop_succ_cons, List.drop_zero, List.reverse_cons, List.reverse_nil, List.nil_append, List.cons_append, List.getD_cons_succ, List.getD_cons_zero, List.getD_nil, List.length_cons, List.length_nil, List.map_cons, List.map_nil, List.sum_cons, List.sum_nil, Nat.reduceAdd, Nat.reduceLeDiff, Value.category, Option.toList, true_or, or_true, z_ua, ↓reduceIte, Nat.reduceEqDiff, eq_self, not_true_eq_false, not_false_eq_true, false_implies, true_implies, Classical.not_not, Nat.le_refl, Nat.zero_le]
    try dsimp only
    exact rt _ q
  have out : (w.toInt < 0 ∨ 6 < w.toInt) → m_look M w = -2 := fun q => by
    have ne : ∀ k : Nat, k < 7 → ¬ w = nI k := fun k hk e => by
      rw [e, nI_toInt (by omega)] at q
      omega
    unfold m_look
    rw [if_neg (show ¬ w = 0 from ne 0 (by omega)), if_neg (show ¬ w = 1 from ne 1 (by omega)), if_neg (show ¬ w = 2 from ne 2 (by omega)), if_neg (show ¬ w = 3 from ne 3 (by omega)), if_neg (show ¬ w = 4 from ne 4 (by omega)), if_neg (show ¬ w = 5 from ne 5 (by omega)), if_neg (show ¬ w = 6 from ne 6 (by omega))]
  refine zW_ok hj B125_0 0 _ _ _ _ _ b125_0 ?_
  simp only [B125_0, zW, z_wp1, z_ld, z_f0, z_f1, z_f2, z_f3, List.getElem?_cons_zero, List.getElem?_cons_succ, true_and, and_true, Int32.reduceOfInt, z_i10, z_i01, Int32.reduceLT, Int32.reduceLE, Int32.reduceAdd, Int32.reduceSub, z_set, z_set2, z_kil, List.set_cons_zero, List.set_cons_succ, List.take_succ_cons, List.take_zero, List.drop_succ_cons, List.drop_zero, List.reverse_cons, List.reverse_nil, List.nil_append, List.cons_append, List.getD_cons_succ, List.getD_cons_zero, List.getD_nil, List.length_cons, List.length_nil, List.map_cons, List.map_nil, List.sum_cons, List.sum_nil, Nat.reduceAdd, Nat.reduceLeDiff, Value.category, Option.toList, true_or, or_true, z_ua, ↓reduceIte, Nat.reduceEqDiff, eq_self, not_true_eq_false, not_false_eq_true, false_implies, true_implies, Classical.not_not, Nat.le_refl, Nat.zero_le]
  try dsimp only
  refine ⟨fun q => t7 (out q), fun q1 q2 => ?_⟩
  obtain ⟨k, hk, rfl⟩ : ∃ k : Nat, k < 7 ∧ w = nI k := by
    obtain ⟨m, hm, e⟩ := nI_of (x := w) (fun q => by
      have : w.toInt < 0 := Int32.lt_iff_toInt_lt.mp q
      omega)
    refine ⟨m, ?_, e⟩
    rw [e, nI_toInt (by omega)] at q2
    omega
  rw [nI_toInt (by omega)]
  have : k = 0 ∨ k = 1 ∨ k = 2 ∨ k = 3 ∨ k = 4 ∨ k = 5 ∨ k = 6 := by omega
  rcases this with rfl | rfl | rfl | rfl | rfl | rfl | rfl
  · exact ⟨_, rfl, t0 s3⟩
  · exact ⟨_, rfl, t1' s5⟩
  · exact ⟨_, rfl, t2 s1⟩
  · exact ⟨_, rfl, t3' rfl⟩
  · exact ⟨_, rfl, t4' rfl⟩
  · exact ⟨_, rfl, t5 rfl⟩
  · exact ⟨_, rfl, t6 rfl⟩
/-- find -/
theorem d116a (hx : XI n K L I J G M c F N tr cd D ch rr) (hr : rr < 600) (hF : F < 16) : z_Ctr l 6 116 [.ref 5] (n, K, L, I, J, G) 0 0 (x_pq n I J (fun M' => mGd (fun k => k = 1) (fun _ => False) M M' ∧ M' 71 1 = nI (F + 1)) c (F + 1) N tr (rr + 1) (x_u L D) (.int (nI F))) := by
  have hS : SS K L G := hx.S
  have hx0 := hx
  obtain ⟨h0, h1, h2, h3, h4, h5, h6, h7, h8, h9, h10, h11⟩ := hx
  obtain ⟨a1, a2, a3, a4, a5, a6, a7, a8, a9, a10⟩ := h3
  obtain ⟨s1, s2, s3, s4, s5⟩ := h1.1
  have hcd : cd = 12 ∨ cd = 65 := h0.2.1.1
  refine z_ctr (by decide) (by decide +kernel) (Nat.le_of_ble_eq_true rfl) (by decide +kernel) (fun X hl hj hd hm hs hsc hQ => ?_)
  show zV X 0 [some (.ref 5)] [] _ 0 0
  refine zW_ok hj B116_0 0 _ _ _ _ _ b116_0 ?_
  simp only [B116_0, zW, z_wp1, z_ld, z_f0, z_f1, z_f2, z_f3, List.getElem?_cons_zero, List.getElem?_cons_succ, true_and, and_true, Int32.reduceOfInt, z_i10, z_i01, Int32.reduceLT, Int32.reduceLE, Int32.reduceAdd, Int32.reduceSub, z_set, z_set2, z_kil, List.set_cons_zero, List.set_cons_succ, List.take_succ_cons, List.take_zero, List.drop_succ_cons, List.drop_zero, List.reverse_cons, List.reverse_nil, List.nil_append, List.cons_append, List.getD_cons_succ, List.getD_cons_zero, List.getD_nil, List.length_cons, List.length_nil, List.map_cons, List.map_nil, List.sum_cons, List.sum_nil, Nat.reduceAdd, Nat.reduceLeDiff, Value.category, Option.toList, true_or, or_true, z_ua, ↓reduceIte, Nat.reduceEqDiff, eq_self, not_true_eq_false, not_false_eq_true, false_implies, true_implies, Classical.not_not, Nat.le_refl, Nat.zero_le, sK5 hS, sG5_1 hS, sK10 hS]
  try dsimp only
  refine z_callD (c91a (n := n) (J := J) hS a1 hF) (by omega) (by omega) (by omega) (Nat.le_of_ble_eq_true rfl) ?_
  try simp only [zW, z_wp1, z_ld, z_f0, z_f1, z_f2, z_f3, List.getElem?_cons_zero, List.getElem?_cons_succ, true_and, and_true, Int32.reduceOfInt, z_i10, z_i01, Int32.reduceLT, Int32.reduceLE, Int32.reduceAdd, Int32.reduceSub, z_set, z_set2, z_kil, List.set_cons_zero, List.set_cons_succ, List.take_succ_cons, List.take_zero, List.drop_succ_cons, List.drop_zero, List.reverse_cons, List.reverse_nil, List.nil_append, List.cons_append, List.getD_cons_succ, List.getD_cons_zero, List.getD_nil, List.length_cons, List.length_nil, List.map_cons, List.map_nil, List.sum_cons, List.sum_nil, Nat.reduceAdd, Nat.reduceLeDiff, Value.category, Option.toList, true_or, or_true, z_ua, ↓reduceIte, Nat.reduceEqDiff, eq_self, not_true_eq_false, not_false_eq_true, false_implies, true_implies, Classical.not_not, Nat.le_refl, Nat.zero_le]
  try dsimp only
  generalize hI2 : z_u (z_u I 10 0 (nI (F + 1))) 10 10 (I 10 10 + 1) = I2
  have o : ∀ q, q ≠ 10 → I2 q = I q := fun q hq => by rw [← hI2, z_u_ne hq, z_u_ne hq]
  have ok : ∀ k, k ≠ 0 → k ≠ 10 → I2 10 k = I 10 k := fun k k1 k2 => by rw [← hI2, z_u_at, if_neg k2, z_u_at, if_neg k1]
  refine hQ _ _ ⟨rfl, n, K, L, I2, J, G, cd, D, ch + 1, rfl, fun M' hP => ?_, hS, Nat.le_refl _, fun q a b => ⟨o q (by omega), rfl⟩, Nat.le_refl _⟩
  obtain ⟨hg, m1⟩ := hP
  have gq : ∀ q, (72 ≤ q ∧ q ≤ 82) ∨ (90 ≤ q ∧ q ≤ 92) ∨ q = 97 → M' q = M q := fun q hq => hg.1 q hq (fun x => x)
  have e72 := gq 72 (by omega)
  have e73 := gq 73 (by omega)
  have e74 := gq 74 (by omega)
  have e75 := gq 75 (by omega)
  have e76 := gq 76 (by omega)
  have gk : ∀ k, mQ k → ¬ k = 1 → M' 71 k = M 71 k := hg.2
  have vk : M' 71 8 = M 71 8 := gk _ (by unfold mQ; omega) (by decide)
  have vd : M' 71 9 = M 71 9 := gk _ (by unfold mQ; omega) (by decide)
  have ek : I2 10 1 = I 10 1 := ok _ (by decide) (by decide)
  refine hx0.nw hr hS h0.2.1 (fun _ _ _ => rfl) (fun q hq => o q (by omega)) ⟨⟨by rw [gk _ (by unfold mQ; omega) (by decide)]; exact s1, s2, m1, by omega, ?_⟩, by rw [gq 78 (by omega)]; exact h1.2⟩ ?_ ⟨by rw [← hI2, z_u_at, if_neg (by decide), z_u_at, if_pos rfl], by rw [ek, vk]; exact a2, by rw [ok _ (by decide) (by decide), vd]; exact a3, by rw [vk]; exact a4, fun k f m hk hf hm => ?_, a6.congr (by rw [o cd (by omega)]) (o _ (by omega)) (o _ (by omega)), a7, fun f hf q => ?_, fun f hf => by rw [o 18 (by omega)]; exact a9 f (by omega), ?_⟩ ?_ ?_ (fun q _ _ => gq q (by omega)) (gk _ (by unfold mQ; omega) (by decide)) (gk _ (by unfold mQ; omega) (by decide)) (gk _ (by unfold mQ; omega) (by decide)) (gk _ (by unfold mQ; omega) (by decide)) (gq 97 (by omega))
  · unfold m_scale m_code at *
    rw [gk 17 (by unfold mQ; omega) (by decide), gq 79 (by omega), gq 80 (by omega), gq 81 (by omega), gq 82 (by omega)]
    exact s5
  · have h2' := h2.cg (I' := I2) (fun q _ _ => o q (by omega))
    unfold x_led l_ok at *
    rw [e72, e73, e74, e75, e76]
    exact h2'
  · rw [o 11 (by omega), a5 k f m hk hf hm, vd]
    unfold mI_kn
    rw [e72, e73, e74, e75, e76]
  · rw [o 18 (by omega)] at q
    have hf' : f < F := by
      by_cases z : f = F
      · exact absurd (a9 f (by omega)) q
      · omega
    rw [o 16 (by omega), o 17 (by omega)]
    have eT : x_T I2 tr f = x_T I tr f := by funext i; unfold x_T; rw [ek, o 11 (by omega)]
    rw [eT]
    exact a8 f hf' q
  · rw [← hI2, z_u_at, if_pos rfl, a10]
    exact nI_add ch 1
  · have h4' := h4.cg (I' := I2) (by rw [o 5 (by omega)]) (o 59 (by omega))
    unfold x_tap at *
    rw [gk 11 (by unfold mQ; omega) (by decide), gq 77 (by omega)]
    exact h4'
  · have h5' := h5.cg (I' := I2) (o 60 (by omega))
    unfold x_flt at *
    rw [gk 28 (by unfold mQ; omega) (by decide), gk 29 (by unfold mQ; omega) (by decide)]
    exact h5'
theorem d116b (hx : XI n K L I J G M c F N tr cd D ch rr) (hr : rr < 600) (hF : F = 16) : z_Ctr l 6 116 [.ref 5] (n, K, L, I, J, G) 0 0 (x_po n I J M c F N tr (rr + 1) (x_u L D) (.int (-1))) := by
  have hS : SS K L G := hx.S
  refine z_ctr (by decide) (by decide +kernel) (Nat.le_of_ble_eq_true rfl) (by decide +kernel) (fun X hl hj hd hm hs hsc hQ => ?_)
  show zV X 0 [some (.ref 5)] [] _ 0 0
  refine zW_ok hj B116_0 0 _ _ _ _ _ b116_0 ?_
  simp only [B116_0, zW, z_wp1, z_ld, z_f0, z_f1, z_f2, z_f3, List.getElem?_cons_zero, List.getElem?_cons_succ, true_and, and_true, Int32.reduceOfInt, z_i10, z_i01, Int32.reduceLT, Int32.reduceLE, Int32.reduceAdd, Int32.reduceSub, z_set, z_set2, z_kil, List.set_cons_zero, List.set_cons_succ, List.take_succ_cons, List.take_zero, List.drop_succ_cons, List.drop_zero, List.reverse_cons, List.reverse_nil, List.nil_append, List.cons_append, List.getD_cons_succ, List.getD_cons_zero, List.getD_nil, List.length_cons, List.length_nil, List.map_cons, List.map_nil, List.sum_cons, List.sum_nil, Nat.reduceAdd, Nat.reduceLeDiff, Value.category, Option.toList, true_or, or_true, z_ua, ↓reduceIte, Nat.reduceEqDiff, eq_self, not_true_eq_false, not_false_eq_true, false_implies, true_implies, Classical.not_not, Nat.le_refl, Nat.zero_le, sK5 hS, sG5_1 hS, sK10 hS]
  try dsimp only
  refine z_callD (c91b (n := n) (J := J) hS hx.fn.1 hF) (by omega) (by omega) (by omega) (Nat.le_of_ble_eq_true rfl) ?_
  try simp only [zW, z_wp1, z_ld, z_f0, z_f1, z_f2, z_f3, List.getElem?_cons_zero, List.getElem?_cons_succ, true_and, and_true, Int32.reduceOfInt, z_i10, z_i01, Int32.reduceLT, Int32.reduceLE, Int32.reduceAdd, Int32.reduceSub, z_set, z_set2, z_kil, List.set_cons_zero, List.set_cons_succ, List.take_succ_cons, List.take_zero, List.drop_succ_cons, List.drop_zero, List.reverse_cons, List.reverse_nil, List.nil_append, List.cons_append, List.getD_cons_succ, List.getD_cons_zero, List.getD_nil, List.length_cons, List.length_nil, List.map_cons, List.map_nil, List.sum_cons, List.sum_nil, Nat.reduceAdd, Nat.reduceLeDiff, Value.category, Option.toList, true_or, or_true, z_ua, ↓reduceIte, Nat.reduceEqDiff, eq_self, not_true_eq_false, not_false_eq_true, false_implies, true_implies, Classical.not_not, Nat.le_refl, Nat.zero_le]
  try dsimp only
  exact hQ _ _ (x_po.id hx hr _)
end PUB5
