/-! The class's reader: claims at every depth, a whole text -/
/-- a piece read puts something down -/
def r_ne (x : p_R) : Prop := ∀ y, x = .ok y → 1 ≤ y.2.length
theorem r_ne.bd {x : p_R} {f : Nat → p_R} (h : r_ne x) : r_ne (r_bd x f) := by
  intro y hy
  cases x with
  | error e => rw [r_bd_r] at hy; cases hy
  | ok z =>
    have := h z rfl
    cases e : f z.1 with
    | error q => rw [r_bd_e e] at hy; cases hy
    | ok u =>
      rw [r_bd_k e] at hy
      cases hy
      show 1 ≤ (z.2 ++ u.2).length
      rw [List.length_append]
      omega
theorem r_un_ne (kd am : Nat → Int32) (i : Nat) : r_ne (r_un kd am i) := by
  intro y hy
  unfold r_un at hy
  split at hy
  · cases hy; exact Nat.le_refl _
  · cases hy
theorem r_cm_ne (kd am : Nat → Int32) (i : Nat) : r_ne (r_cm kd am i) := by
  unfold r_cm
  by_cases h : kd i = 15
  · rw [if_pos h]
    by_cases h2 : ¬ kd (i + 1) = 16
    · rw [if_pos h2]; intro y hy; cases hy
    · rw [if_neg h2]; intro y hy; cases hy; exact Nat.le_refl _
  · rw [if_neg h]
    cases hR : r_sm kd am i with
    | error e => intro y hy; cases hy
    | ok x =>
      dsimp only
      by_cases h2 : ¬ (kd x.1 = 9 ∨ kd x.1 = 10 ∨ kd x.1 = 11)
      · rw [if_pos h2]; intro y hy; cases hy
      · rw [if_neg h2]
        have g : r_ne (r_sm kd am i) := ((r_un_ne kd am i).bd).bd
        rw [hR] at g
        exact g.bd
theorem r_cl_ne (kd am : Nat → Int32) : ∀ d i, r_ne (r_cl kd am d i)
  | 0, i => by
    rw [r_cl]
    by_cases h : kd i = 14 ∨ kd i = 7
    · rw [if_pos h]; intro y hy; cases hy
    · rw [if_neg h]; exact r_cm_ne kd am i
  | d + 1, i => by
    rw [r_cl]
    by_cases h : kd i = 14
    · rw [if_pos h]; exact (r_cl_ne kd am d (i + 1)).bd
    · rw [if_neg h]
      by_cases h7 : kd i = 7
      · rw [if_pos h7]; exact ((r_cl_ne kd am d (i + 1)).bd).bd
      · rw [if_neg h7]; exact r_cm_ne kd am i
theorem r_cl_pos (kd am : Nat → Int32) (d i : Nat) (y : Nat × List (Int32 × Int32)) (h : r_cl kd am d i = .ok y) : i + 1 ≤ y.1 := by
  have h1 := (r_cl_go kd am d i y h).2
  have h2 := r_cl_ne kd am d i y h
  omega
section XRD5
variable {l : Launch} {n : Nat} {K L : Nat → Nat} {I : Nat → Nat → Int32} {J : Nat → Nat → Int64} {G : Nat → Nat → Value} {t : Nat → Int32} {N M i cd : Nat} {xs : List (Int32 × Int32)}
/-- readClaims -/
theorem c61 {d o : Nat} (he : x_en K L G t N cd) (hq : x_q62 l G K L t N cd d) (hod : o + d = 8) (hr : x_rd I t N M cd i xs) : z_Ctr l (5 + 3 * d) 61 [.ref 60, .int (nI o)] (n, K, L, I, J, G) 0 0 (x_rp n K L I J G t N M cd i xs (r_cs (p_K t N) (r_cl (p_K t N) (p_A t N) d) i)) := by
  obtain ⟨hS, h2, hG, hK, hch⟩ := id he
  refine z_ctr (by decide) (by decide +kernel) (Nat.le_of_ble_eq_true rfl) (by decide +kernel) (fun X hl hj hd hm hs hsc hQ => ?_)
  show zV X 0 [some (.ref 60), some (.int (nI o)), none, none, none] [] _ 0 0
  subst hl
  refine zW_ok hj B61_0 0 _ _ _ _ _ b61_0 ?_
  simp only [B61_0, zW, z_wp1, z_ld, z_f0, z_f1, z_f2, z_f3, List.getElem?_cons_zero, List.getElem?_cons_succ, true_and, and_true, Int32.reduceOfInt, z_i10, z_i01, Int32.reduceLT, Int32.reduceLE, Int32.reduceAdd, Int32.reduceSub, z_set, z_set2, z_kil, List.set_cons_zero, List.set_cons_succ, List.take_succ_cons, List.take_zero, List.drop_succ_cons, List.drop_zero, List.reverse_cons, List.reverse_nil, List.nil_append, List.cons_append, List.getD_cons_succ, List.getD_cons_zero, List.getD_nil, List.length_cons, List.length_nil, List.map_cons, List.map_nil, List.sum_cons, List.sum_nil, Nat.reduceAdd, Nat.reduceLeDiff, Value.category, Option.toList, true_or, or_true, z_ua, ↓reduceIte, Nat.reduceEqDiff, eq_self, not_true_eq_false, not_false_eq_true, false_implies, true_implies, Classical.not_not, Nat.le_refl, Nat.zero_le, sK60 hS]
  try dsimp only
  refine z_callQ (hq n M i o I J xs hod hr) (by omega) (by omega) (by omega) (Nat.le_of_ble_eq_true rfl) ?_
  rintro r h' ⟨I2, rfl, f2, e2⟩
  rcases x_re_q e2 with ⟨e, hR, rfl, q1, q2⟩ | ⟨y, hR, rfl, zs, rd2, hz, hl2⟩
  · simp only [zW, z_wp1, z_ld, z_f0, z_f1, z_f2, z_f3, List.getElem?_cons_zero, List.getElem?_cons_succ, true_and, and_true, Int32.reduceOfInt, z_i10, z_i01, Int32.reduceLT, Int32.reduceLE, Int32.reduceAdd, Int32.reduceSub, z_set, z_set2, z_kil, List.set_cons_zero, List.set_cons_succ, List.take_succ_cons, List.take_zero, List.drop_succ_cons, List.drop_zero, List.reverse_cons, List.reverse_nil, List.nil_append, List.cons_append, List.getD_cons_succ, List.getD_cons_zero, List.getD_nil, List.length_cons, List.length_nil, List.map_cons, List.map_nil, List.sum_cons, List.sum_nil, Nat.reduceAdd, Nat.reduceLeDiff, Value.category, Option.toList, true_or, or_true, z_ua, ↓reduceIte, Nat.reduceEqDiff, eq_self, not_true_eq_false, not_false_eq_true, false_implies, true_implies, Classical.not_not, Nat.le_refl, Nat.zero_le]
    try dsimp only
    refine hQ _ _ ⟨I2, rfl, f2, ?_⟩
    rw [r_cs, hR, r_bd_r]
    exact ⟨rfl, q1, q2⟩
  · have hy : i < y.1 := by
      have := r_cl_pos _ _ _ _ y hR
      omega
    simp only [zW, z_wp1, z_ld, z_f0, z_f1, z_f2, z_f3, List.getElem?_cons_zero, List.getElem?_cons_succ, true_and, and_true, Int32.reduceOfInt, z_i10, z_i01, Int32.reduceLT, Int32.reduceLE, Int32.reduceAdd, Int32.reduceSub, z_set, z_set2, z_kil, List.set_cons_zero, List.set_cons_succ, List.take_succ_cons, List.take_zero, List.drop_succ_cons, List.drop_zero, List.reverse_cons, List.reverse_nil, List.nil_append, List.cons_append, List.getD_cons_succ, List.getD_cons_zero, List.getD_nil, List.length_cons, List.length_nil, List.map_cons, List.map_nil, List.sum_cons, List.sum_nil, Nat.reduceAdd, Nat.reduceLeDiff, Value.category, Option.toList, true_or, or_true, z_ua, ↓reduceIte, Nat.reduceEqDiff, eq_self, not_true_eq_false, not_false_eq_true, false_implies, true_implies, Classical.not_not, Nat.le_refl, Nat.zero_le]
    try dsimp only
    refine zW_ok hj B61_10 10 _ _ _ _ _ b61_10 ?_
    simp only [B61_10, zW, z_wp1, z_ld, z_f0, z_f1, z_f2, z_f3, List.getElem?_cons_zero, List.getElem?_cons_succ, true_and, and_true, Int32.reduceOfInt, z_i10, z_i01, Int32.reduceLT, Int32.reduceLE, Int32.reduceAdd, Int32.reduceSub, z_set, z_set2, z_kil, List.set_cons_zero, List.set_cons_succ, List.take_succ_cons, List.take_zero, List.drop_succ_cons, List.drop_zero, List.reverse_cons, List.reverse_nil, List.nil_append, List.cons_append, List.getD_cons_succ, List.getD_cons_zero, List.getD_nil, List.length_cons, List.length_nil, List.map_cons, List.map_nil, List.sum_cons, List.sum_nil, Nat.reduceAdd, Nat.reduceLeDiff, Value.category, Option.toList, true_or, or_true, z_ua, ↓reduceIte, Nat.reduceEqDiff, eq_self, not_true_eq_false, not_false_eq_true, false_implies, true_implies, Classical.not_not, Nat.le_refl, Nat.zero_le]
    try dsimp only
    have key := c61_loop (I := I) (n := n) (J := J) he hq hod hj hd hm hs 802 y.1 0 802 y.1 (xs ++ zs) false I2 none (by omega) (by omega) (by omega) rd2 (by simpa using rd2.2.2) (by simp) f2 (fun r I3 f3 e3 => hQ _ _ ⟨I3, rfl, f3, ?_⟩)
    · exact key
    · rw [r_cs, hR]
      exact x_re_bd hz hl2 e3
theorem c63 {d o : Nat} (he : x_en K L G t N cd) (hq : x_q62 l G K L t N cd d) (hod : o + d = 8) (hr : x_rd I t N M cd i xs) (hlen : xs.length + 1 ≤ i) : z_Ctr l (5 + 3 * d) 63 [.ref 60, .int (nI o)] (n, K, L, I, J, G) 0 0 (x_rp n K L I J G t N M cd (i - 1) xs (r_bd (r_cl (p_K t N) (p_A t N) d i) (fun j => .ok (j, [(9, 0)])))) := by
  obtain ⟨hS, h2, hG, hK, hch⟩ := id he
  refine z_ctr (by decide) (by decide +kernel) (Nat.le_of_ble_eq_true rfl) (by decide +kernel) (fun X hl hj hd hm hs hsc hQ => ?_)
  show zV X 0 [some (.ref 60), some (.int (nI o))] [] _ 0 0
  subst hl
  refine zW_ok hj B63_0 0 _ _ _ _ _ b63_0 ?_
  simp only [B63_0, zW, z_wp1, z_ld, z_f0, z_f1, z_f2, z_f3, List.getElem?_cons_zero, List.getElem?_cons_succ, true_and, and_true, Int32.reduceOfInt, z_i10, z_i01, Int32.reduceLT, Int32.reduceLE, Int32.reduceAdd, Int32.reduceSub, z_set, z_set2, z_kil, List.set_cons_zero, List.set_cons_succ, List.take_succ_cons, List.take_zero, List.drop_succ_cons, List.drop_zero, List.reverse_cons, List.reverse_nil, List.nil_append, List.cons_append, List.getD_cons_succ, List.getD_cons_zero, List.getD_nil, List.length_cons, List.length_nil, List.map_cons, List.map_nil, List.sum_cons, List.sum_nil, Nat.reduceAdd, Nat.reduceLeDiff, Value.category, Option.toList, true_or, or_true, z_ua, ↓reduceIte, Nat.reduceEqDiff, eq_self, not_true_eq_false, not_false_eq_true, false_implies, true_implies, Classical.not_not, Nat.le_refl, Nat.zero_le, sK60 hS]
  try dsimp only
  refine z_callQ (hq n M i o I J xs hod hr) (by omega) (by omega) (by omega) (Nat.le_of_ble_eq_true rfl) ?_
  rintro r h' ⟨I2, rfl, f2, e2⟩
  rcases x_re_q e2 with ⟨e, hR, rfl, q1, q2⟩ | ⟨y, hR, rfl, zs, rd2, hz, hl2⟩
  · simp only [zW, z_wp1, z_ld, z_f0, z_f1, z_f2, z_f3, List.getElem?_cons_zero, List.getElem?_cons_succ, true_and, and_true, Int32.reduceOfInt, z_i10, z_i01, Int32.reduceLT, Int32.reduceLE, Int32.reduceAdd, Int32.reduceSub, z_set, z_set2, z_kil, List.set_cons_zero, List.set_cons_succ, List.take_succ_cons, List.take_zero, List.drop_succ_cons, List.drop_zero, List.reverse_cons, List.reverse_nil, List.nil_append, List.cons_append, List.getD_cons_succ, List.getD_cons_zero, List.getD_nil, List.length_cons, List.length_nil, List.map_cons, List.map_nil, List.sum_cons, List.sum_nil, Nat.reduceAdd, Nat.reduceLeDiff, Value.category, Option.toList, true_or, or_true, z_ua, ↓reduceIte, Nat.reduceEqDiff, eq_self, not_true_eq_false, not_false_eq_true, false_implies, true_implies, Classical.not_not, Nat.le_refl, Nat.zero_le]
    try dsimp only
    refine hQ _ _ ⟨I2, rfl, f2, ?_⟩
    rw [hR, r_bd_r]
    exact ⟨rfl, q1, q2⟩
  · have hyM := rd2.1.2.1
    have hM8 := rd2.1.1.2.1
    simp only [zW, z_wp1, z_ld, z_f0, z_f1, z_f2, z_f3, List.getElem?_cons_zero, List.getElem?_cons_succ, true_and, and_true, Int32.reduceOfInt, z_i10, z_i01, Int32.reduceLT, Int32.reduceLE, Int32.reduceAdd, Int32.reduceSub, z_set, z_set2, z_kil, List.set_cons_zero, List.set_cons_succ, List.take_succ_cons, List.take_zero, List.drop_succ_cons, List.drop_zero, List.reverse_cons, List.reverse_nil, List.nil_append, List.cons_append, List.getD_cons_succ, List.getD_cons_zero, List.getD_nil, List.length_cons, List.length_nil, List.map_cons, List.map_nil, List.sum_cons, List.sum_nil, Nat.reduceAdd, Nat.reduceLeDiff, Value.category, Option.toList, true_or, or_true, z_ua, ↓reduceIte, Nat.reduceEqDiff, eq_self, not_true_eq_false, not_false_eq_true, false_implies, true_implies, Classical.not_not, Nat.le_refl, Nat.zero_le]
    try dsimp only
    refine zW_ok hj B63_10 10 _ _ _ _ _ b63_10 ?_
    simp only [B63_10, zW, z_wp1, z_ld, z_f0, z_f1, z_f2, z_f3, List.getElem?_cons_zero, List.getElem?_cons_succ, true_and, and_true, Int32.reduceOfInt, z_i10, z_i01, Int32.reduceLT, Int32.reduceLE, Int32.reduceAdd, Int32.reduceSub, z_set, z_set2, z_kil, List.set_cons_zero, List.set_cons_succ, List.take_succ_cons, List.take_zero, List.drop_succ_cons, List.drop_zero, List.reverse_cons, List.reverse_nil, List.nil_append, List.cons_append, List.getD_cons_succ, List.getD_cons_zero, List.getD_nil, List.length_cons, List.length_nil, List.map_cons, List.map_nil, List.sum_cons, List.sum_nil, Nat.reduceAdd, Nat.reduceLeDiff, Value.category, Option.toList, true_or, or_true, z_ua, ↓reduceIte, Nat.reduceEqDiff, eq_self, not_true_eq_false, not_false_eq_true, false_implies, true_implies, Classical.not_not, Nat.le_refl, Nat.zero_le, sK60 hS, hG, hK]
    try dsimp only
    refine z_callQ (c49x (J := J) (k := 14) (a := 0) hS rd2.1 rd2.2.1 (by rw [List.length_append]; omega) h2 (by omega) (by omega)) (by omega) (by omega) (by omega) (Nat.le_of_ble_eq_true rfl) ?_
    rintro r h' ⟨rfl, I3, rfl, f3, r3, c3, -⟩
    simp only [zW, z_wp1, z_ld, z_f0, z_f1, z_f2, z_f3, List.getElem?_cons_zero, List.getElem?_cons_succ, true_and, and_true, Int32.reduceOfInt, z_i10, z_i01, Int32.reduceLT, Int32.reduceLE, Int32.reduceAdd, Int32.reduceSub, z_set, z_set2, z_kil, List.set_cons_zero, List.set_cons_succ, List.take_succ_cons, List.take_zero, List.drop_succ_cons, List.drop_zero, List.reverse_cons, List.reverse_nil, List.nil_append, List.cons_append, List.getD_cons_succ, List.getD_cons_zero, List.getD_nil, List.length_cons, List.length_nil, List.map_cons, List.map_nil, List.sum_cons, List.sum_nil, Nat.reduceAdd, Nat.reduceLeDiff, Value.category, Option.toList, true_or, or_true, z_ua, ↓reduceIte, Nat.reduceEqDiff, eq_self, not_true_eq_false, not_false_eq_true, false_implies, true_implies, Classical.not_not, Nat.le_refl, Nat.zero_le]
    try dsimp only
    refine hQ _ _ ⟨I3, rfl, f2.tr f3, ?_⟩
    rw [hR]
    refine x_re_bd (i2 := y.1 - 1) hz (by omega) ⟨rfl, [(nI 14, nI 0)], ⟨r3, c3, ?_⟩, q_ok.one rfl (by decide), ?_⟩
    · rw [List.length_append, List.length_append]; show xs.length + zs.length + 1 ≤ y.1; omega
    · show 1 + (y.1 - 1) ≤ y.1; omega
theorem c64 {d o : Nat} (he : x_en K L G t N cd) (hq : x_q62 l G K L t N cd d) (hod : o + d = 8) (hr : x_rd I t N M cd i xs) : z_Ctr l (6 + 3 * d) 64 [.ref 60, .int (nI o)] (n, K, L, I, J, G) 0 0 (x_rp n K L I J G t N M cd i xs (r_bd (r_cs (p_K t N) (r_cl (p_K t N) (p_A t N) d) i) (r_sh (p_K t N)))) := by
  obtain ⟨hS, h2, hG, hK, hch⟩ := id he
  refine z_ctr (by decide) (by decide +kernel) (Nat.le_of_ble_eq_true rfl) (by decide +kernel) (fun X hl hj hd hm hs hsc hQ => ?_)
  show zV X 0 [some (.ref 60), some (.int (nI o))] [] _ 0 0
  subst hl
  refine zW_ok hj B64_0 0 _ _ _ _ _ b64_0 ?_
  simp only [B64_0, zW, z_wp1, z_ld, z_f0, z_f1, z_f2, z_f3, List.getElem?_cons_zero, List.getElem?_cons_succ, true_and, and_true, Int32.reduceOfInt, z_i10, z_i01, Int32.reduceLT, Int32.reduceLE, Int32.reduceAdd, Int32.reduceSub, z_set, z_set2, z_kil, List.set_cons_zero, List.set_cons_succ, List.take_succ_cons, List.take_zero, List.drop_succ_cons, List.drop_zero, List.reverse_cons, List.reverse_nil, List.nil_append, List.cons_append, List.getD_cons_succ, List.getD_cons_zero, List.getD_nil, List.length_cons, List.length_nil, List.map_cons, List.map_nil, List.sum_cons, List.sum_nil, Nat.reduceAdd, Nat.reduceLeDiff, Value.category, Option.toList, true_or, or_true, z_ua, ↓reduceIte, Nat.reduceEqDiff, eq_self, not_true_eq_false, not_false_eq_true, false_implies, true_implies, Classical.not_not, Nat.le_refl, Nat.zero_le, sK60 hS]
  try dsimp only
  refine z_callQ (c61 (J := J) he hq hod hr) (by omega) (by omega) (by omega) (Nat.le_of_ble_eq_true rfl) ?_
  rintro r h' ⟨I2, rfl, f2, e2⟩
  rcases x_re_q e2 with ⟨e, hR, rfl, q1, q2⟩ | ⟨y, hR, rfl, zs, rd2, hz, hl2⟩
  · simp only [zW, z_wp1, z_ld, z_f0, z_f1, z_f2, z_f3, List.getElem?_cons_zero, List.getElem?_cons_succ, true_and, and_true, Int32.reduceOfInt, z_i10, z_i01, Int32.reduceLT, Int32.reduceLE, Int32.reduceAdd, Int32.reduceSub, z_set, z_set2, z_kil, List.set_cons_zero, List.set_cons_succ, List.take_succ_cons, List.take_zero, List.drop_succ_cons, List.drop_zero, List.reverse_cons, List.reverse_nil, List.nil_append, List.cons_append, List.getD_cons_succ, List.getD_cons_zero, List.getD_nil, List.length_cons, List.length_nil, List.map_cons, List.map_nil, List.sum_cons, List.sum_nil, Nat.reduceAdd, Nat.reduceLeDiff, Value.category, Option.toList, true_or, or_true, z_ua, ↓reduceIte, Nat.reduceEqDiff, eq_self, not_true_eq_false, not_false_eq_true, false_implies, true_implies, Classical.not_not, Nat.le_refl, Nat.zero_le]
    try dsimp only
    refine hQ _ _ ⟨I2, rfl, f2, ?_⟩
    rw [hR, r_bd_r]
    exact ⟨rfl, q1, q2⟩
  · have hkd : I2 61 5 = p_K t N y.1 := rd2.1.2.2.2.1
    rw [hR] at hQ
    simp only [zW, z_wp1, z_ld, z_f0, z_f1, z_f2, z_f3, List.getElem?_cons_zero, List.getElem?_cons_succ, true_and, and_true, Int32.reduceOfInt, z_i10, z_i01, Int32.reduceLT, Int32.reduceLE, Int32.reduceAdd, Int32.reduceSub, z_set, z_set2, z_kil, List.set_cons_zero, List.set_cons_succ, List.take_succ_cons, List.take_zero, List.drop_succ_cons, List.drop_zero, List.reverse_cons, List.reverse_nil, List.nil_append, List.cons_append, List.getD_cons_succ, List.getD_cons_zero, List.getD_nil, List.length_cons, List.length_nil, List.map_cons, List.map_nil, List.sum_cons, List.sum_nil, Nat.reduceAdd, Nat.reduceLeDiff, Value.category, Option.toList, true_or, or_true, z_ua, ↓reduceIte, Nat.reduceEqDiff, eq_self, not_true_eq_false, not_false_eq_true, false_implies, true_implies, Classical.not_not, Nat.le_refl, Nat.zero_le]
    try dsimp only
    by_cases h8 : p_K t N y.1 = 8
    · have hk0 : ¬ p_K t N y.1 = 0 := by rw [h8]; decide
      refine zW_ok hj B64_10 10 _ _ _ _ _ b64_10 ?_
      simp only [B64_10, zW, z_wp1, z_ld, z_f0, z_f1, z_f2, z_f3, List.getElem?_cons_zero, List.getElem?_cons_succ, true_and, and_true, Int32.reduceOfInt, z_i10, z_i01, Int32.reduceLT, Int32.reduceLE, Int32.reduceAdd, Int32.reduceSub, z_set, z_set2, z_kil, List.set_cons_zero, List.set_cons_succ, List.take_succ_cons, List.take_zero, List.drop_succ_cons, List.drop_zero, List.reverse_cons, List.reverse_nil, List.nil_append, List.cons_append, List.getD_cons_succ, List.getD_cons_zero, List.getD_nil, List.length_cons, List.length_nil, List.map_cons, List.map_nil, List.sum_cons, List.sum_nil, Nat.reduceAdd, Nat.reduceLeDiff, Value.category, Option.toList, true_or, or_true, z_ua, ↓reduceIte, Nat.reduceEqDiff, eq_self, not_true_eq_false, not_false_eq_true, false_implies, true_implies, Classical.not_not, Nat.le_refl, Nat.zero_le, sK60 hS, sG60_0 hS, sK61 hS, sK61 hS, hkd, h8]
      try dsimp only
      refine zW_ok hj B64_28 28 _ _ _ _ _ b64_28 ?_
      simp only [B64_28, zW, z_wp1, z_ld, z_f0, z_f1, z_f2, z_f3, List.getElem?_cons_zero, List.getElem?_cons_succ, true_and, and_true, Int32.reduceOfInt, z_i10, z_i01, Int32.reduceLT, Int32.reduceLE, Int32.reduceAdd, Int32.reduceSub, z_set, z_set2, z_kil, List.set_cons_zero, List.set_cons_succ, List.take_succ_cons, List.take_zero, List.drop_succ_cons, List.drop_zero, List.reverse_cons, List.reverse_nil, List.nil_append, List.cons_append, List.getD_cons_succ, List.getD_cons_zero, List.getD_nil, List.length_cons, List.length_nil, List.map_cons, List.map_nil, List.sum_cons, List.sum_nil, Nat.reduceAdd, Nat.reduceLeDiff, Value.category, Option.toList, true_or, or_true, z_ua, ↓reduceIte, Nat.reduceEqDiff, eq_self, not_true_eq_false, not_false_eq_true, false_implies, true_implies, Classical.not_not, Nat.le_refl, Nat.zero_le, sK60 hS, sG60_0 hS, sK61 hS, sK61 hS]
      try dsimp only
      refine z_callQ (c107x (J := J) hS rd2.1 rd2.2.1 h2 hk0) (by omega) (by omega) (by omega) (Nat.le_of_ble_eq_true rfl) ?_
      rintro r h' ⟨rfl, I3, rfl, f3, r3, c3, -⟩
      simp only [zW, z_wp1, z_ld, z_f0, z_f1, z_f2, z_f3, List.getElem?_cons_zero, List.getElem?_cons_succ, true_and, and_true, Int32.reduceOfInt, z_i10, z_i01, Int32.reduceLT, Int32.reduceLE, Int32.reduceAdd, Int32.reduceSub, z_set, z_set2, z_kil, List.set_cons_zero, List.set_cons_succ, List.take_succ_cons, List.take_zero, List.drop_succ_cons, List.drop_zero, List.reverse_cons, List.reverse_nil, List.nil_append, List.cons_append, List.getD_cons_succ, List.getD_cons_zero, List.getD_nil, List.length_cons, List.length_nil, List.map_cons, List.map_nil, List.sum_cons, List.sum_nil, Nat.reduceAdd, Nat.reduceLeDiff, Value.category, Option.toList, true_or, or_true, z_ua, ↓reduceIte, Nat.reduceEqDiff, eq_self, not_true_eq_false, not_false_eq_true, false_implies, true_implies, Classical.not_not, Nat.le_refl, Nat.zero_le]
      try dsimp only
      refine hQ _ _ ⟨I3, rfl, f2.tr f3, ?_⟩
      refine x_re_bd (i2 := y.1) hz hl2 ?_
      rw [r_sh, if_pos h8]
      refine ⟨rfl, [], ⟨r3, by rw [List.append_nil]; exact c3, ?_⟩, q_ok.nil, ?_⟩
      · have := rd2.2.2; rw [List.append_nil]; omega
      · show 0 + y.1 ≤ y.1 + 1; omega
    · refine zW_ok hj B64_10 10 _ _ _ _ _ b64_10 ?_
      simp only [B64_10, zW, z_wp1, z_ld, z_f0, z_f1, z_f2, z_f3, List.getElem?_cons_zero, List.getElem?_cons_succ, true_and, and_true, Int32.reduceOfInt, z_i10, z_i01, Int32.reduceLT, Int32.reduceLE, Int32.reduceAdd, Int32.reduceSub, z_set, z_set2, z_kil, List.set_cons_zero, List.set_cons_succ, List.take_succ_cons, List.take_zero, List.drop_succ_cons, List.drop_zero, List.reverse_cons, List.reverse_nil, List.nil_append, List.cons_append, List.getD_cons_succ, List.getD_cons_zero, List.getD_nil, List.length_cons, List.length_nil, List.map_cons, List.map_nil, List.sum_cons, List.sum_nil, Nat.reduceAdd, Nat.reduceLeDiff, Value.category, Option.toList, true_or, or_true, z_ua, ↓reduceIte, Nat.reduceEqDiff, eq_self, not_true_eq_false, not_false_eq_true, false_implies, true_implies, Classical.not_not, Nat.le_refl, Nat.zero_le, sK60 hS, sG60_0 hS, sK61 hS, sK61 hS, hkd, h8]
      try dsimp only
      refine z_callD (c71 (I := I2) (J := J) hS 1) (by omega) (by omega) (by omega) (Nat.le_of_ble_eq_true rfl) ?_
      try simp only [zW, z_wp1, z_ld, z_f0, z_f1, z_f2, z_f3, List.getElem?_cons_zero, List.getElem?_cons_succ, true_and, and_true, Int32.reduceOfInt, z_i10, z_i01, Int32.reduceLT, Int32.reduceLE, Int32.reduceAdd, Int32.reduceSub, z_set, z_set2, z_kil, List.set_cons_zero, List.set_cons_succ, List.take_succ_cons, List.take_zero, List.drop_succ_cons, List.drop_zero, List.reverse_cons, List.reverse_nil, List.nil_append, List.cons_append, List.getD_cons_succ, List.getD_cons_zero, List.getD_nil, List.length_cons, List.length_nil, List.map_cons, List.map_nil, List.sum_cons, List.sum_nil, Nat.reduceAdd, Nat.reduceLeDiff, Value.category, Option.toList, true_or, or_true, z_ua, ↓reduceIte, Nat.reduceEqDiff, eq_self, not_true_eq_false, not_false_eq_true, false_implies, true_implies, Classical.not_not, Nat.le_refl, Nat.zero_le, sK60 hS]
      try dsimp only
      refine hQ _ _ ⟨_, rfl, f2.tr (x_rf_f I2 _ _ h2), ?_⟩
      rw [r_bd_e (y := y) (q := (1, y.1)) (by rw [r_sh, if_neg h8])]
      exact ⟨rfl, rd2.1.f 1⟩
/-- readClaim -/
theorem c62_b {X : zX} {o d : Nat} (he : x_en K L G t N cd) (hr : x_rd I t N M cd i xs) (hj : X.2.1 = 62) (hdp : 4 ≤ X.2.2.1) (hm : X.2.2.2.1 = 0) (hs : X.2.2.2.2.1 = 0) (hn : ¬ (p_K t N i = 14 ∨ p_K t N i = 7)) (hQ : ∀ r h', x_rp n K L I J G t N M cd i xs (r_cm (p_K t N) (p_A t N) i) r h' → X.2.2.2.2.2.2 r h') : zV X 0 [some (.ref 60), some (.int (nI o)), none] [] (n, K, L, I, J, G) 0 0 := by
  obtain ⟨hS, h2, hG, hK, hch⟩ := id he
  have hkd : I 61 5 = p_K t N i := hr.1.2.2.2.1
  have e14 : ¬ p_K t N i = 14 := fun q => hn (Or.inl q)
  have e7 : ¬ p_K t N i = 7 := fun q => hn (Or.inr q)
  have ret : ∀ r h', x_rp n K L I J G t N M cd i xs (r_cm (p_K t N) (p_A t N) i) r h' → ∃ v : Int32, (v = 0 ∨ v = 1) ∧ r = some (.int v) := by
    rintro r h' ⟨I', rfl, f, e⟩
    rcases x_re_q e with ⟨_, _, q, _⟩ | ⟨_, _, q, _⟩
    · exact ⟨0, Or.inl rfl, q⟩
    · exact ⟨1, Or.inr rfl, q⟩
  by_cases h15 : p_K t N i = 15
  · refine zW_ok hj B62_0 0 _ _ _ _ _ b62_0 ?_
    simp only [B62_0, zW, z_wp1, z_ld, z_f0, z_f1, z_f2, z_f3, List.getElem?_cons_zero, List.getElem?_cons_succ, true_and, and_true, Int32.reduceOfInt, z_i10, z_i01, Int32.reduceLT, Int32.reduceLE, Int32.reduceAdd, Int32.reduceSub, z_set, z_set2, z_kil, List.set_cons_zero, List.set_cons_succ, List.take_succ_cons, List.take_zero, List.drop_succ_cons, List.drop_zero, List.reverse_cons, List.reverse_nil, List.nil_append, List.cons_append, List.getD_cons_succ, List.getD_cons_zero, List.getD_nil, List.length_cons, List.length_nil, List.map_cons, List.map_nil, List.sum_cons, List.sum_nil, Nat.reduceAdd, Nat.reduceLeDiff, Value.category, Option.toList, true_or, or_true, z_ua, ↓reduceIte, Nat.reduceEqDiff, eq_self, not_true_eq_false, not_false_eq_true, false_implies, true_implies, Classical.not_not, Nat.le_refl, Nat.zero_le, sK60 hS, sG60_0 hS, sK61 hS, sK61 hS, hkd, h15]
    try dsimp only
    refine z_callQ (c65 (J := J) he hr h15) (by omega) (by omega) (by omega) (Nat.le_of_ble_eq_true rfl) ?_
    intro r h' q
    obtain ⟨v, hv, rfl⟩ := ret r h' q
    simp only [zW, z_wp1, z_ld, z_f0, z_f1, z_f2, z_f3, List.getElem?_cons_zero, List.getElem?_cons_succ, true_and, and_true, Int32.reduceOfInt, z_i10, z_i01, Int32.reduceLT, Int32.reduceLE, Int32.reduceAdd, Int32.reduceSub, z_set, z_set2, z_kil, List.set_cons_zero, List.set_cons_succ, List.take_succ_cons, List.take_zero, List.drop_succ_cons, List.drop_zero, List.reverse_cons, List.reverse_nil, List.nil_append, List.cons_append, List.getD_cons_succ, List.getD_cons_zero, List.getD_nil, List.length_cons, List.length_nil, List.map_cons, List.map_nil, List.sum_cons, List.sum_nil, Nat.reduceAdd, Nat.reduceLeDiff, Value.category, Option.toList, true_or, or_true, z_ua, ↓reduceIte, Nat.reduceEqDiff, eq_self, not_true_eq_false, not_false_eq_true, false_implies, true_implies, Classical.not_not, Nat.le_refl, Nat.zero_le]
    try dsimp only
    exact ⟨hv, hQ _ _ q⟩
  · refine zW_ok hj B62_0 0 _ _ _ _ _ b62_0 ?_
    simp only [B62_0, zW, z_wp1, z_ld, z_f0, z_f1, z_f2, z_f3, List.getElem?_cons_zero, List.getElem?_cons_succ, true_and, and_true, Int32.reduceOfInt, z_i10, z_i01, Int32.reduceLT, Int32.reduceLE, Int32.reduceAdd, Int32.reduceSub, z_set, z_set2, z_kil, List.set_cons_zero, List.set_cons_succ, List.take_succ_cons, List.take_zero, List.drop_succ_cons, List.drop_zero, List.reverse_cons, List.reverse_nil, List.nil_append, List.cons_append, List.getD_cons_succ, List.getD_cons_zero, List.getD_nil, List.length_cons, List.length_nil, List.map_cons, List.map_nil, List.sum_cons, List.sum_nil, Nat.reduceAdd, Nat.reduceLeDiff, Value.category, Option.toList, true_or, or_true, z_ua, ↓reduceIte, Nat.reduceEqDiff, eq_self, not_true_eq_false, not_false_eq_true, false_implies, true_implies, Classical.not_not, Nat.le_refl, Nat.zero_le, sK60 hS, sG60_0 hS, sK61 hS, sK61 hS, hkd, h15]
    try dsimp only
    refine zW_ok hj B62_19 19 _ _ _ _ _ b62_19 ?_
    simp only [B62_19, zW, z_wp1, z_ld, z_f0, z_f1, z_f2, z_f3, List.getElem?_cons_zero, List.getElem?_cons_succ, true_and, and_true, Int32.reduceOfInt, z_i10, z_i01, Int32.reduceLT, Int32.reduceLE, Int32.reduceAdd, Int32.reduceSub, z_set, z_set2, z_kil, List.set_cons_zero, List.set_cons_succ, List.take_succ_cons, List.take_zero, List.drop_succ_cons, List.drop_zero, List.reverse_cons, List.reverse_nil, List.nil_append, List.cons_append, List.getD_cons_succ, List.getD_cons_zero, List.getD_nil, List.length_cons, List.length_nil, List.map_cons, List.map_nil, List.sum_cons, List.sum_nil, Nat.reduceAdd, Nat.reduceLeDiff, Value.category, Option.toList, true_or, or_true, z_ua, ↓reduceIte, Nat.reduceEqDiff, eq_self, not_true_eq_false, not_false_eq_true, false_implies, true_implies, Classical.not_not, Nat.le_refl, Nat.zero_le, e14, e7, sK60 hS]
    try dsimp only
    refine z_callQ (c66 (J := J) he hr h15) (by omega) (by omega) (by omega) (Nat.le_of_ble_eq_true rfl) ?_
    intro r h' q
    obtain ⟨v, hv, rfl⟩ := ret r h' q
    simp only [zW, z_wp1, z_ld, z_f0, z_f1, z_f2, z_f3, List.getElem?_cons_zero, List.getElem?_cons_succ, true_and, and_true, Int32.reduceOfInt, z_i10, z_i01, Int32.reduceLT, Int32.reduceLE, Int32.reduceAdd, Int32.reduceSub, z_set, z_set2, z_kil, List.set_cons_zero, List.set_cons_succ, List.take_succ_cons, List.take_zero, List.drop_succ_cons, List.drop_zero, List.reverse_cons, List.reverse_nil, List.nil_append, List.cons_append, List.getD_cons_succ, List.getD_cons_zero, List.getD_nil, List.length_cons, List.length_nil, List.map_cons, List.map_nil, List.sum_cons, List.sum_nil, Nat.reduceAdd, Nat.reduceLeDiff, Value.category, Option.toList, true_or, or_true, z_ua, ↓reduceIte, Nat.reduceEqDiff, eq_self, not_true_eq_false, not_false_eq_true, false_implies, true_implies, Classical.not_not, Nat.le_refl, Nat.zero_le]
    try dsimp only
    exact ⟨hv, hQ _ _ q⟩
theorem c62 (he : x_en K L G t N cd) : ∀ d, x_q62 l G K L t N cd d := by
  obtain ⟨hS, h2, hG, hK, hch⟩ := id he
  intro d
  induction d with
  | zero =>
    intro n M i o I J xs hod hr
    have hkd : I 61 5 = p_K t N i := hr.1.2.2.2.1
    have ho8 : (8 : Int32) ≤ nI o := nI_le (a := 8) (by omega) (by omega)
    have nlt : ¬ nI o < 8 := Int32.not_lt.mpr ho8
    refine z_ctr (by decide) (by decide +kernel) (Nat.le_of_ble_eq_true rfl) (by decide +kernel) (fun X hl hj hd hm hs hsc hQ => ?_)
    show zV X 0 [some (.ref 60), some (.int (nI o)), none] [] _ 0 0
    subst hl
    rw [r_cl] at hQ
    by_cases hy : p_K t N i = 14 ∨ p_K t N i = 7
    · rw [if_pos hy] at hQ
      have n15 : ¬ p_K t N i = 15 := fun q => by rcases hy with z | z <;> (rw [z] at q; exact absurd q (by decide))
      have go : zV X 36 [some (.ref 60), some (.int (nI o)), some (.int (p_K t N i))] [] (n, K, L, I, J, G) 0 0 := by
        refine zW_ok hj B62_36 36 _ _ _ _ _ b62_36 ?_
        simp only [B62_36, zW, z_wp1, z_ld, z_f0, z_f1, z_f2, z_f3, List.getElem?_cons_zero, List.getElem?_cons_succ, true_and, and_true, Int32.reduceOfInt, z_i10, z_i01, Int32.reduceLT, Int32.reduceLE, Int32.reduceAdd, Int32.reduceSub, z_set, z_set2, z_kil, List.set_cons_zero, List.set_cons_succ, List.take_succ_cons, List.take_zero, List.drop_succ_cons, List.drop_zero, List.reverse_cons, List.reverse_nil, List.nil_append, List.cons_append, List.getD_cons_succ, List.getD_cons_zero, List.getD_nil, List.length_cons, List.length_nil, List.map_cons, List.map_nil, List.sum_cons, List.sum_nil, Nat.reduceAdd, Nat.reduceLeDiff, Value.category, Option.toList, true_or, or_true, z_ua, ↓reduceIte, Nat.reduceEqDiff, eq_self, not_true_eq_false, not_false_eq_true, false_implies, true_implies, Classical.not_not, Nat.le_refl, Nat.zero_le, nlt, sK60 hS]
        try dsimp only
        refine z_callD (c71 (I := I) (J := J) hS 3) (by omega) (by omega) (by omega) (Nat.le_of_ble_eq_true rfl) ?_
        try simp only [zW, z_wp1, z_ld, z_f0, z_f1, z_f2, z_f3, List.getElem?_cons_zero, List.getElem?_cons_succ, true_and, and_true, Int32.reduceOfInt, z_i10, z_i01, Int32.reduceLT, Int32.reduceLE, Int32.reduceAdd, Int32.reduceSub, z_set, z_set2, z_kil, List.set_cons_zero, List.set_cons_succ, List.take_succ_cons, List.take_zero, List.drop_succ_cons, List.drop_zero, List.reverse_cons, List.reverse_nil, List.nil_append, List.cons_append, List.getD_cons_succ, List.getD_cons_zero, List.getD_nil, List.length_cons, List.length_nil, List.map_cons, List.map_nil, List.sum_cons, List.sum_nil, Nat.reduceAdd, Nat.reduceLeDiff, Value.category, Option.toList, true_or, or_true, z_ua, ↓reduceIte, Nat.reduceEqDiff, eq_self, not_true_eq_false, not_false_eq_true, false_implies, true_implies, Classical.not_not, Nat.le_refl, Nat.zero_le, sK60 hS]
        try dsimp only
        exact hQ _ _ ⟨_, rfl, x_rf_f I _ _ h2, rfl, hr.1.f 3⟩
      refine zW_ok hj B62_0 0 _ _ _ _ _ b62_0 ?_
      simp only [B62_0, zW, z_wp1, z_ld, z_f0, z_f1, z_f2, z_f3, List.getElem?_cons_zero, List.getElem?_cons_succ, true_and, and_true, Int32.reduceOfInt, z_i10, z_i01, Int32.reduceLT, Int32.reduceLE, Int32.reduceAdd, Int32.reduceSub, z_set, z_set2, z_kil, List.set_cons_zero, List.set_cons_succ, List.take_succ_cons, List.take_zero, List.drop_succ_cons, List.drop_zero, List.reverse_cons, List.reverse_nil, List.nil_append, List.cons_append, List.getD_cons_succ, List.getD_cons_zero, List.getD_nil, List.length_cons, List.length_nil, List.map_cons, List.map_nil, List.sum_cons, List.sum_nil, Nat.reduceAdd, Nat.reduceLeDiff, Value.category, Option.toList, true_or, or_true, z_ua, ↓reduceIte, Nat.reduceEqDiff, eq_self, not_true_eq_false, not_false_eq_true, false_implies, true_implies, Classical.not_not, Nat.le_refl, Nat.zero_le, sK60 hS, sG60_0 hS, sK61 hS, sK61 hS, hkd, n15]
      try dsimp only
      refine zW_ok hj B62_19 19 _ _ _ _ _ b62_19 ?_
      simp only [B62_19, zW, z_wp1, z_ld, z_f0, z_f1, z_f2, z_f3, List.getElem?_cons_zero, List.getElem?_cons_succ, true_and, and_true, Int32.reduceOfInt, z_i10, z_i01, Int32.reduceLT, Int32.reduceLE, Int32.reduceAdd, Int32.reduceSub, z_set, z_set2, z_kil, List.set_cons_zero, List.set_cons_succ, List.take_succ_cons, List.take_zero, List.drop_succ_cons, List.drop_zero, List.reverse_cons, List.reverse_nil, List.nil_append, List.cons_append, List.getD_cons_succ, List.getD_cons_zero, List.getD_nil, List.length_cons, List.length_nil, List.map_cons, List.map_nil, List.sum_cons, List.sum_nil, Nat.reduceAdd, Nat.reduceLeDiff, Value.category, Option.toList, true_or, or_true, z_ua, ↓reduceIte, Nat.reduceEqDiff, eq_self, not_true_eq_false, not_false_eq_true, false_implies, true_implies, Classical.not_not, Nat.le_refl, Nat.zero_le]
      try dsimp only
      exact ⟨fun _ => go, fun q1 => ⟨fun _ => go, fun q2 => absurd hy (fun z => z.elim q1 q2)⟩⟩
    · rw [if_neg hy] at hQ
      exact c62_b (o := o) (d := 0) he hr hj (by omega) hm hs hy hQ
  | succ d ih =>
    intro n M i o I J xs hod hr
    have hkd : I 61 5 = p_K t N i := hr.1.2.2.2.1
    have lt8 : nI o < 8 := nI_lt (b := 8) (by omega) (by omega)
    refine z_ctr (by decide) (by decide +kernel) (Nat.le_of_ble_eq_true rfl) (by decide +kernel) (fun X hl hj hd hm hs hsc hQ => ?_)
    show zV X 0 [some (.ref 60), some (.int (nI o)), none] [] _ 0 0
    subst hl
    rw [r_cl] at hQ
    by_cases hy : p_K t N i = 14 ∨ p_K t N i = 7
    · have hk0 : ¬ p_K t N i = 0 := fun q => by rcases hy with z | z <;> (rw [z] at q; exact absurd q (by decide))
      have n15 : ¬ p_K t N i = 15 := fun q => by rcases hy with z | z <;> (rw [z] at q; exact absurd q (by decide))
      have go : zV X 36 [some (.ref 60), some (.int (nI o)), some (.int (p_K t N i))] [] (n, K, L, I, J, G) 0 0 := by
        refine zW_ok hj B62_36 36 _ _ _ _ _ b62_36 ?_
        simp only [B62_36, zW, z_wp1, z_ld, z_f0, z_f1, z_f2, z_f3, List.getElem?_cons_zero, List.getElem?_cons_succ, true_and, and_true, Int32.reduceOfInt, z_i10, z_i01, Int32.reduceLT, Int32.reduceLE, Int32.reduceAdd, Int32.reduceSub, z_set, z_set2, z_kil, List.set_cons_zero, List.set_cons_succ, List.take_succ_cons, List.take_zero, List.drop_succ_cons, List.drop_zero, List.reverse_cons, List.reverse_nil, List.nil_append, List.cons_append, List.getD_cons_succ, List.getD_cons_zero, List.getD_nil, List.length_cons, List.length_nil, List.map_cons, List.map_nil, List.sum_cons, List.sum_nil, Nat.reduceAdd, Nat.reduceLeDiff, Value.category, Option.toList, true_or, or_true, z_ua, ↓reduceIte, Nat.reduceEqDiff, eq_self, not_true_eq_false, not_false_eq_true, false_implies, true_implies, Classical.not_not, Nat.le_refl, Nat.zero_le, lt8]
        try dsimp only
        refine zW_ok hj B62_48 48 _ _ _ _ _ b62_48 ?_
        simp only [B62_48, zW, z_wp1, z_ld, z_f0, z_f1, z_f2, z_f3, List.getElem?_cons_zero, List.getElem?_cons_succ, true_and, and_true, Int32.reduceOfInt, z_i10, z_i01, Int32.reduceLT, Int32.reduceLE, Int32.reduceAdd, Int32.reduceSub, z_set, z_set2, z_kil, List.set_cons_zero, List.set_cons_succ, List.take_succ_cons, List.take_zero, List.drop_succ_cons, List.drop_zero, List.reverse_cons, List.reverse_nil, List.nil_append, List.cons_append, List.getD_cons_succ, List.getD_cons_zero, List.getD_nil, List.length_cons, List.length_nil, List.map_cons, List.map_nil, List.sum_cons, List.sum_nil, Nat.reduceAdd, Nat.reduceLeDiff, Value.category, Option.toList, true_or, or_true, z_ua, ↓reduceIte, Nat.reduceEqDiff, eq_self, not_true_eq_false, not_false_eq_true, false_implies, true_implies, Classical.not_not, Nat.le_refl, Nat.zero_le, sK60 hS, sG60_0 hS, sK61 hS, sK61 hS]
        try dsimp only
        refine z_callQ (c107x (J := J) hS hr.1 hr.2.1 h2 hk0) (by omega) (by omega) (by omega) (Nat.le_of_ble_eq_true rfl) ?_
        rintro r h' ⟨rfl, I2, rfl, f2, r2, c2, -⟩
        have rd2 : x_rd I2 t N M cd (i + 1) xs := ⟨r2, c2, by have := hr.2.2; omega⟩
        have fin : ∀ (R : p_R) r h', x_rp n K L I2 J G t N M cd i xs R r h' → (∀ r h', x_rp n K L I J G t N M cd i xs R r h' → X.2.2.2.2.2.2 r h') → ∃ v : Int32, (v = 0 ∨ v = 1) ∧ r = some (.int v) ∧ zV X 78 [some (.ref 60), some (.int (nI o)), some (.int (p_K t N i))] [.int v] h' 0 0 := by
          rintro R r h' ⟨I3, rfl, f3, e3⟩ hq
          have q := hq r _ ⟨I3, rfl, f2.tr f3, e3⟩
          rcases x_re_q e3 with ⟨_, _, z, _⟩ | ⟨_, _, z, _⟩
          · subst z
            refine ⟨0, Or.inl rfl, rfl, ?_⟩
            refine zW_ok hj B62_78 78 _ _ _ _ _ b62_78 ?_
            simp only [B62_78, zW, z_wp1, z_ld, z_f0, z_f1, z_f2, z_f3, List.getElem?_cons_zero, List.getElem?_cons_succ, true_and, and_true, Int32.reduceOfInt, z_i10, z_i01, Int32.reduceLT, Int32.reduceLE, Int32.reduceAdd, Int32.reduceSub, z_set, z_set2, z_kil, List.set_cons_zero, List.set_cons_succ, List.take_succ_cons, List.take_zero, List.drop_succ_cons, List.drop_zero, List.reverse_cons, List.reverse_nil, List.nil_append, List.cons_append, List.getD_cons_succ, List.getD_cons_zero, List.getD_nil, List.length_cons, List.length_nil, List.map_cons, List.map_nil, List.sum_cons, List.sum_nil, Nat.reduceAdd, Nat.reduceLeDiff, Value.category, Option.toList, true_or, or_true, z_ua, ↓reduceIte, Nat.reduceEqDiff, eq_self, not_true_eq_false, not_false_eq_true, false_implies, true_implies, Classical.not_not, Nat.le_refl, Nat.zero_le]
            try dsimp only
            exact q
          · subst z
            refine ⟨1, Or.inr rfl, rfl, ?_⟩
            refine zW_ok hj B62_78 78 _ _ _ _ _ b62_78 ?_
            simp only [B62_78, zW, z_wp1, z_ld, z_f0, z_f1, z_f2, z_f3, List.getElem?_cons_zero, List.getElem?_cons_succ, true_and, and_true, Int32.reduceOfInt, z_i10, z_i01, Int32.reduceLT, Int32.reduceLE, Int32.reduceAdd, Int32.reduceSub, z_set, z_set2, z_kil, List.set_cons_zero, List.set_cons_succ, List.take_succ_cons, List.take_zero, List.drop_succ_cons, List.drop_zero, List.reverse_cons, List.reverse_nil, List.nil_append, List.cons_append, List.getD_cons_succ, List.getD_cons_zero, List.getD_nil, List.length_cons, List.length_nil, List.map_cons, List.map_nil, List.sum_cons, List.sum_nil, Nat.reduceAdd, Nat.reduceLeDiff, Value.category, Option.toList, true_or, or_true, z_ua, ↓reduceIte, Nat.reduceEqDiff, eq_self, not_true_eq_false, not_false_eq_true, false_implies, true_implies, Classical.not_not, Nat.le_refl, Nat.zero_le]
            try dsimp only
            exact q
        by_cases h14 : p_K t N i = 14
        · rw [if_pos h14] at hQ
          have c := c63 (l := X.1) (n := n) (J := J) (d := d) (o := o + 1) he ih (by omega) rd2 (by have := hr.2.2; omega)
          rw [Nat.add_sub_cancel] at c
          simp only [zW, z_wp1, z_ld, z_f0, z_f1, z_f2, z_f3, List.getElem?_cons_zero, List.getElem?_cons_succ, true_and, and_true, Int32.reduceOfInt, z_i10, z_i01, Int32.reduceLT, Int32.reduceLE, Int32.reduceAdd, Int32.reduceSub, z_set, z_set2, z_kil, List.set_cons_zero, List.set_cons_succ, List.take_succ_cons, List.take_zero, List.drop_succ_cons, List.drop_zero, List.reverse_cons, List.reverse_nil, List.nil_append, List.cons_append, List.getD_cons_succ, List.getD_cons_zero, List.getD_nil, List.length_cons, List.length_nil, List.map_cons, List.map_nil, List.sum_cons, List.sum_nil, Nat.reduceAdd, Nat.reduceLeDiff, Value.category, Option.toList, true_or, or_true, z_ua, ↓reduceIte, Nat.reduceEqDiff, eq_self, not_true_eq_false, not_false_eq_true, false_implies, true_implies, Classical.not_not, Nat.le_refl, Nat.zero_le, h14, nI_1, sK60 hS]
          try dsimp only
          refine z_callQ c (by omega) (by omega) (by omega) (Nat.le_of_ble_eq_true rfl) ?_
          intro r h' q
          obtain ⟨v, hv, rfl, z⟩ := fin _ r h' q hQ
          rw [h14] at z
          simp only [zW, z_wp1, z_ld, z_f0, z_f1, z_f2, z_f3, List.getElem?_cons_zero, List.getElem?_cons_succ, true_and, and_true, Int32.reduceOfInt, z_i10, z_i01, Int32.reduceLT, Int32.reduceLE, Int32.reduceAdd, Int32.reduceSub, z_set, z_set2, z_kil, List.set_cons_zero, List.set_cons_succ, List.take_succ_cons, List.take_zero, List.drop_succ_cons, List.drop_zero, List.reverse_cons, List.reverse_nil, List.nil_append, List.cons_append, List.getD_cons_succ, List.getD_cons_zero, List.getD_nil, List.length_cons, List.length_nil, List.map_cons, List.map_nil, List.sum_cons, List.sum_nil, Nat.reduceAdd, Nat.reduceLeDiff, Value.category, Option.toList, true_or, or_true, z_ua, ↓reduceIte, Nat.reduceEqDiff, eq_self, not_true_eq_false, not_false_eq_true, false_implies, true_implies, Classical.not_not, Nat.le_refl, Nat.zero_le]
          try dsimp only
          exact z
        · have h7 : p_K t N i = 7 := hy.elim (fun q => absurd q h14) id
          rw [if_neg h14, if_pos h7] at hQ
          have c := c64 (l := X.1) (n := n) (J := J) (d := d) (o := o + 1) he ih (by omega) rd2
          simp only [zW, z_wp1, z_ld, z_f0, z_f1, z_f2, z_f3, List.getElem?_cons_zero, List.getElem?_cons_succ, true_and, and_true, Int32.reduceOfInt, z_i10, z_i01, Int32.reduceLT, Int32.reduceLE, Int32.reduceAdd, Int32.reduceSub, z_set, z_set2, z_kil, List.set_cons_zero, List.set_cons_succ, List.take_succ_cons, List.take_zero, List.drop_succ_cons, List.drop_zero, List.reverse_cons, List.reverse_nil, List.nil_append, List.cons_append, List.getD_cons_succ, List.getD_cons_zero, List.getD_nil, List.length_cons, List.length_nil, List.map_cons, List.map_nil, List.sum_cons, List.sum_nil, Nat.reduceAdd, Nat.reduceLeDiff, Value.category, Option.toList, true_or, or_true, z_ua, ↓reduceIte, Nat.reduceEqDiff, eq_self, not_true_eq_false, not_false_eq_true, false_implies, true_implies, Classical.not_not, Nat.le_refl, Nat.zero_le, h14]
          try dsimp only
          refine zW_ok hj B62_71 71 _ _ _ _ _ b62_71 ?_
          simp only [B62_71, zW, z_wp1, z_ld, z_f0, z_f1, z_f2, z_f3, List.getElem?_cons_zero, List.getElem?_cons_succ, true_and, and_true, Int32.reduceOfInt, z_i10, z_i01, Int32.reduceLT, Int32.reduceLE, Int32.reduceAdd, Int32.reduceSub, z_set, z_set2, z_kil, List.set_cons_zero, List.set_cons_succ, List.take_succ_cons, List.take_zero, List.drop_succ_cons, List.drop_zero, List.reverse_cons, List.reverse_nil, List.nil_append, List.cons_append, List.getD_cons_succ, List.getD_cons_zero, List.getD_nil, List.length_cons, List.length_nil, List.map_cons, List.map_nil, List.sum_cons, List.sum_nil, Nat.reduceAdd, Nat.reduceLeDiff, Value.category, Option.toList, true_or, or_true, z_ua, ↓reduceIte, Nat.reduceEqDiff, eq_self, not_true_eq_false, not_false_eq_true, false_implies, true_implies, Classical.not_not, Nat.le_refl, Nat.zero_le, nI_1, sK60 hS]
          try dsimp only
          refine z_callQ c (by omega) (by omega) (by omega) (Nat.le_of_ble_eq_true rfl) ?_
          rintro r h' ⟨I3, rfl, f3, e3⟩
          have e3' : x_re t N M cd i xs (r_bd (r_cs (p_K t N) (r_cl (p_K t N) (p_A t N) d) (i + 1)) (r_sh (p_K t N))) r I3 := by
            cases hR : r_bd (r_cs (p_K t N) (r_cl (p_K t N) (p_A t N) d) (i + 1)) (r_sh (p_K t N)) with
            | error e => rw [hR] at e3; exact e3
            | ok y =>
              rw [hR] at e3
              obtain ⟨a, zs, b, c, d'⟩ := e3
              exact ⟨a, zs, b, c, by omega⟩
          obtain ⟨v, hv, rfl, z⟩ := fin _ r _ ⟨I3, rfl, f3, e3'⟩ hQ
          simp only [zW, z_wp1, z_ld, z_f0, z_f1, z_f2, z_f3, List.getElem?_cons_zero, List.getElem?_cons_succ, true_and, and_true, Int32.reduceOfInt, z_i10, z_i01, Int32.reduceLT, Int32.reduceLE, Int32.reduceAdd, Int32.reduceSub, z_set, z_set2, z_kil, List.set_cons_zero, List.set_cons_succ, List.take_succ_cons, List.take_zero, List.drop_succ_cons, List.drop_zero, List.reverse_cons, List.reverse_nil, List.nil_append, List.cons_append, List.getD_cons_succ, List.getD_cons_zero, List.getD_nil, List.length_cons, List.length_nil, List.map_cons, List.map_nil, List.sum_cons, List.sum_nil, Nat.reduceAdd, Nat.reduceLeDiff, Value.category, Option.toList, true_or, or_true, z_ua, ↓reduceIte, Nat.reduceEqDiff, eq_self, not_true_eq_false, not_false_eq_true, false_implies, true_implies, Classical.not_not, Nat.le_refl, Nat.zero_le]
          try dsimp only
          exact z
      refine zW_ok hj B62_0 0 _ _ _ _ _ b62_0 ?_
      simp only [B62_0, zW, z_wp1, z_ld, z_f0, z_f1, z_f2, z_f3, List.getElem?_cons_zero, List.getElem?_cons_succ, true_and, and_true, Int32.reduceOfInt, z_i10, z_i01, Int32.reduceLT, Int32.reduceLE, Int32.reduceAdd, Int32.reduceSub, z_set, z_set2, z_kil, List.set_cons_zero, List.set_cons_succ, List.take_succ_cons, List.take_zero, List.drop_succ_cons, List.drop_zero, List.reverse_cons, List.reverse_nil, List.nil_append, List.cons_append, List.getD_cons_succ, List.getD_cons_zero, List.getD_nil, List.length_cons, List.length_nil, List.map_cons, List.map_nil, List.sum_cons, List.sum_nil, Nat.reduceAdd, Nat.reduceLeDiff, Value.category, Option.toList, true_or, or_true, z_ua, ↓reduceIte, Nat.reduceEqDiff, eq_self, not_true_eq_false, not_false_eq_true, false_implies, true_implies, Classical.not_not, Nat.le_refl, Nat.zero_le, sK60 hS, sG60_0 hS, sK61 hS, sK61 hS, hkd, n15]
      try dsimp only
      refine zW_ok hj B62_19 19 _ _ _ _ _ b62_19 ?_
      simp only [B62_19, zW, z_wp1, z_ld, z_f0, z_f1, z_f2, z_f3, List.getElem?_cons_zero, List.getElem?_cons_succ, true_and, and_true, Int32.reduceOfInt, z_i10, z_i01, Int32.reduceLT, Int32.reduceLE, Int32.reduceAdd, Int32.reduceSub, z_set, z_set2, z_kil, List.set_cons_zero, List.set_cons_succ, List.take_succ_cons, List.take_zero, List.drop_succ_cons, List.drop_zero, List.reverse_cons, List.reverse_nil, List.nil_append, List.cons_append, List.getD_cons_succ, List.getD_cons_zero, List.getD_nil, List.length_cons, List.length_nil, List.map_cons, List.map_nil, List.sum_cons, List.sum_nil, Nat.reduceAdd, Nat.reduceLeDiff, Value.category, Option.toList, true_or, or_true, z_ua, ↓reduceIte, Nat.reduceEqDiff, eq_self, not_true_eq_false, not_false_eq_true, false_implies, true_implies, Classical.not_not, Nat.le_refl, Nat.zero_le]
      try dsimp only
      exact ⟨fun _ => go, fun q1 => ⟨fun _ => go, fun q2 => absurd hy (fun z => z.elim q1 q2)⟩⟩
    · rw [if_neg (fun q => hy (Or.inl q)), if_neg (fun q => hy (Or.inr q))] at hQ
      exact c62_b (o := o) (d := d + 1) he hr hj (by omega) hm hs hy hQ
end XRD5
