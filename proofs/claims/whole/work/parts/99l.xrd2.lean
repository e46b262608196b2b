/-! The class's reader: units, divisors, what is known -/
theorem p_A_bd {t : Nat → Int32} {N i : Nat} (hch : ∀ k, k < N → 0 ≤ t k) (h : p_K t N i = 16 ∨ p_K t N i = 17) : ∃ m, m < 2 ^ 25 ∧ p_A t N i = nI m := by
  have hle := p_at_le (t := t) (N := N) i
  generalize ha : p_at t N i = a at *
  unfold p_K at h
  rw [ha] at h
  unfold p_A
  rw [ha]
  unfold p_kd at h
  unfold p_am
  by_cases h1 : p_st t N a < N
  · rw [if_neg (fun q => q h1)] at h
    by_cases hL : p_L (t (p_st t N a)) = true
    · rw [if_pos hL] at h ⊢
      rcases p_w_in t (p_st t N a) (p_ed p_L t N (p_st t N a + 1)) with q | ⟨j, hj, q⟩
      · rw [q] at h
        rcases h with z | z <;> exact absurd z (by decide)
      · exact ⟨j, by omega, q⟩
    · rw [if_neg hL] at h ⊢
      by_cases hD : p_D (t (p_st t N a)) = true
      · rw [if_pos hD] at h
        by_cases h5 : p_ed p_D t N (p_st t N a + 1) - p_st t N a < 5
        · obtain ⟨i1, i2, i3⟩ := p_ed_in (P := p_D) (t := t) (N := N) (a := p_st t N a + 1)
          obtain ⟨m, hm, e⟩ := p_nu_bd (t := t) (w := p_st t N a) (p_ed p_D t N (p_st t N a + 1) - p_st t N a) (by omega) (fun j hj => by
            by_cases z : j = 0
            · subst z; exact hD
            · exact (i3 (p_st t N a + j) (by omega) (by omega)).2)
          have : 10 ^ (p_ed p_D t N (p_st t N a + 1) - p_st t N a) ≤ 10 ^ 4 := Nat.pow_le_pow_right (by omega) (by omega)
          exact ⟨m, by omega, e⟩
        · rw [if_neg h5] at h
          rcases h with z | z <;> exact absurd z (by decide)
      · rw [if_neg hD] at h
        rcases p_sg_rg (t (p_st t N a)) with q | ⟨-, q⟩ | ⟨-, q⟩ | ⟨-, q⟩ | ⟨-, q⟩ | ⟨-, q⟩ | ⟨-, q⟩ | ⟨-, q⟩ | ⟨-, q⟩ | ⟨-, q⟩ | ⟨-, q⟩ <;> (rw [q] at h; rcases h with z | z <;> exact absurd z (by decide))
  · rw [if_pos h1] at h
    rcases h with z | z <;> exact absurd z (by decide)
theorem p_A_16 {t : Nat → Int32} {N i : Nat} (h : p_K t N i = 16) : 0 ≤ p_A t N i ∧ p_A t N i < 6 := by
  generalize ha : p_at t N i = a at *
  unfold p_K at h
  rw [ha] at h
  unfold p_A
  rw [ha]
  unfold p_kd at h
  unfold p_am
  by_cases h1 : p_st t N a < N
  · rw [if_neg (fun q => q h1)] at h
    by_cases hL : p_L (t (p_st t N a)) = true
    · rw [if_pos hL] at h ⊢
      rcases p_w_in t (p_st t N a) (p_ed p_L t N (p_st t N a + 1)) with q | ⟨j, hj, q⟩
      · rw [q] at h; exact absurd h (by decide)
      · rw [q] at h ⊢
        rcases p_wk_ok j hj with ⟨_, _, y, z⟩ | ⟨y, _⟩
        · exact ⟨y, z⟩
        · rcases y with y | y | y | y <;> (rw [y] at h; exact absurd h (by decide))
    · rw [if_neg hL] at h
      by_cases hD : p_D (t (p_st t N a)) = true
      · rw [if_pos hD] at h
        split at h <;> exact absurd h (by decide)
      · rw [if_neg hD] at h
        rcases p_sg_rg (t (p_st t N a)) with q | ⟨-, q⟩ | ⟨-, q⟩ | ⟨-, q⟩ | ⟨-, q⟩ | ⟨-, q⟩ | ⟨-, q⟩ | ⟨-, q⟩ | ⟨-, q⟩ | ⟨-, q⟩ | ⟨-, q⟩ <;> (rw [q] at h; exact absurd h (by decide))
  · rw [if_pos h1] at h; exact absurd h (by decide)
section XRD2
variable {l : Launch} {n : Nat} {K L : Nat → Nat} {I : Nat → Nat → Int32} {J : Nat → Nat → Int64} {G : Nat → Nat → Value} {t : Nat → Int32} {N M i cd : Nat} {xs : List (Int32 × Int32)}
/-- what reading rests on -/
def x_en (K L : Nat → Nat) (G : Nat → Nat → Value) (t : Nat → Int32) (N cd : Nat) : Prop := SS K L G ∧ (cd = 12 ∨ cd = 65) ∧ G 60 1 = .ref cd ∧ K cd = 5 ∧ ∀ k, k < N → 0 ≤ t k
/-- readUnit -/
theorem c70 (he : x_en K L G t N cd) (hr : x_rd I t N M cd i xs) : z_Ctr l 1 70 [.ref 60] (n, K, L, I, J, G) 0 0 (x_rp n K L I J G t N M cd i xs (r_un (p_K t N) (p_A t N) i)) := by
  obtain ⟨hS, h2, hG, hK, hch⟩ := he
  obtain ⟨h0, hc, hl8⟩ := hr
  have hkd : I 61 5 = p_K t N i := h0.2.2.2.1
  refine z_ctr (by decide) (by decide +kernel) (Nat.le_of_ble_eq_true rfl) (by decide +kernel) (fun X hl hj hd hm hs hsc hQ => ?_)
  show zV X 0 [some (.ref 60)] [] _ 0 0
  subst hl
  have body : (p_K t N i = 16 ∨ p_K t N i = 17) → zV X 30 [some (.ref 60)] [] (n, K, L, I, J, G) 0 0 := by
    intro hy
    have hk0 : ¬ p_K t N i = 0 := fun q => by rcases hy with z | z <;> (rw [z] at q; exact absurd q (by decide))
    obtain ⟨hiM, hM8⟩ := h0.lt hk0
    have ham : I 61 7 = p_A t N i := h0.2.2.2.2.2.1 hy
    obtain ⟨m, hm', em⟩ := p_A_bd hch hy
    obtain ⟨k, hk32, ek⟩ : ∃ k, k < 32 ∧ p_K t N i = nI k := by
      rcases hy with z | z
      · exact ⟨16, by omega, z⟩
      · exact ⟨17, by omega, z⟩
    have put := c49x (l := X.1) (n := n) (J := J) hS h0 hc (by omega) h2 hk32 hm'
    rw [← ek, ← em] at put
    refine zW_ok hj B70_30 30 _ _ _ _ _ b70_30 ?_
    simp only [B70_30, zW, z_wp1, z_ld, z_f0, z_f1, z_f2, z_f3, List.getElem?_cons_zero, List.getElem?_cons_succ, true_and, and_true, Int32.reduceOfInt, z_i10, z_i01, Int32.reduceLT, Int32.reduceLE, Int32.reduceAdd, Int32.reduceSub, z_set, z_set2, z_kil, List.set_cons_zero, List.set_cons_succ, List.take_succ_cons, List.take_zero, List.drop_succ_cons, List.drop_zero, List.reverse_cons, List.reverse_nil, List.nil_append, List.cons_append, List.getD_cons_succ, List.getD_cons_zero, List.getD_nil, List.length_cons, List.length_nil, List.map_cons, List.map_nil, List.sum_cons, List.sum_nil, Nat.reduceAdd, Nat.reduceLeDiff, Value.category, Option.toList, true_or, or_true, z_ua, ↓reduceIte, Nat.reduceEqDiff, eq_self, not_true_eq_false, not_false_eq_true, false_implies, true_implies, Classical.not_not, Nat.le_refl, Nat.zero_le, sK60 hS, hG, hK, sG60_0 hS, sK61 hS, sK61 hS, hkd, ham]
    try dsimp only
    refine z_callQ put (by omega) (by omega) (by omega) (Nat.le_of_ble_eq_true rfl) ?_
    rintro r h' ⟨rfl, I2, rfl, f2, r2, c2, -⟩
    simp only [zW, z_wp1, z_ld, z_f0, z_f1, z_f2, z_f3, List.getElem?_cons_zero, List.getElem?_cons_succ, true_and, and_true, Int32.reduceOfInt, z_i10, z_i01, Int32.reduceLT, Int32.reduceLE, Int32.reduceAdd, Int32.reduceSub, z_set, z_set2, z_kil, List.set_cons_zero, List.set_cons_succ, List.take_succ_cons, List.take_zero, List.drop_succ_cons, List.drop_zero, List.reverse_cons, List.reverse_nil, List.nil_append, List.cons_append, List.getD_cons_succ, List.getD_cons_zero, List.getD_nil, List.length_cons, List.length_nil, List.map_cons, List.map_nil, List.sum_cons, List.sum_nil, Nat.reduceAdd, Nat.reduceLeDiff, Value.category, Option.toList, true_or, or_true, z_ua, ↓reduceIte, Nat.reduceEqDiff, eq_self, not_true_eq_false, not_false_eq_true, false_implies, true_implies, Classical.not_not, Nat.le_refl, Nat.zero_le, sK60 hS, sG60_0 hS, sK61 hS, sK61 hS]
    try dsimp only
    refine z_callQ (c107x (J := J) hS r2 c2 h2 hk0) (by omega) (by omega) (by omega) (Nat.le_of_ble_eq_true rfl) ?_
    rintro r h' ⟨rfl, I3, rfl, f3, r3, c3, -⟩
    simp only [zW, z_wp1, z_ld, z_f0, z_f1, z_f2, z_f3, List.getElem?_cons_zero, List.getElem?_cons_succ, true_and, and_true, Int32.reduceOfInt, z_i10, z_i01, Int32.reduceLT, Int32.reduceLE, Int32.reduceAdd, Int32.reduceSub, z_set, z_set2, z_kil, List.set_cons_zero, List.set_cons_succ, List.take_succ_cons, List.take_zero, List.drop_succ_cons, List.drop_zero, List.reverse_cons, List.reverse_nil, List.nil_append, List.cons_append, List.getD_cons_succ, List.getD_cons_zero, List.getD_nil, List.length_cons, List.length_nil, List.map_cons, List.map_nil, List.sum_cons, List.sum_nil, Nat.reduceAdd, Nat.reduceLeDiff, Value.category, Option.toList, true_or, or_true, z_ua, ↓reduceIte, Nat.reduceEqDiff, eq_self, not_true_eq_false, not_false_eq_true, false_implies, true_implies, Classical.not_not, Nat.le_refl, Nat.zero_le]
    try dsimp only
    refine hQ _ _ ⟨I3, rfl, f2.tr f3, ?_⟩
    rw [r_un, if_pos hy]
    refine ⟨rfl, [(p_K t N i, p_A t N i)], ⟨r3, c3, ?_⟩, ?_, ?_⟩
    · rw [List.length_append]; show xs.length + 1 ≤ i + 1; omega
    · refine q_ok.one ?_ ?_
      · rcases hy with z | z <;> simp [p_f1, p_g, z]
      · rcases hy with z | z
        · exact Or.inr (Or.inl ⟨Or.inl z, p_A_16 z⟩)
        · exact Or.inl z
    · show 1 + i ≤ i + 1; omega
  by_cases h17 : p_K t N i = 17
  · refine zW_ok hj B70_0 0 _ _ _ _ _ b70_0 ?_
    simp only [B70_0, zW, z_wp1, z_ld, z_f0, z_f1, z_f2, z_f3, List.getElem?_cons_zero, List.getElem?_cons_succ, true_and, and_true, Int32.reduceOfInt, z_i10, z_i01, Int32.reduceLT, Int32.reduceLE, Int32.reduceAdd, Int32.reduceSub, z_set, z_set2, z_kil, List.set_cons_zero, List.set_cons_succ, List.take_succ_cons, List.take_zero, List.drop_succ_cons, List.drop_zero, List.reverse_cons, List.reverse_nil, List.nil_append, List.cons_append, List.getD_cons_succ, List.getD_cons_zero, List.getD_nil, List.length_cons, List.length_nil, List.map_cons, List.map_nil, List.sum_cons, List.sum_nil, Nat.reduceAdd, Nat.reduceLeDiff, Value.category, Option.toList, true_or, or_true, z_ua, ↓reduceIte, Nat.reduceEqDiff, eq_self, not_true_eq_false, not_false_eq_true, false_implies, true_implies, Classical.not_not, Nat.le_refl, Nat.zero_le, sK60 hS, sG60_0 hS, sK61 hS, sK61 hS, hkd, h17]
    try dsimp only
    exact body (Or.inr h17)
  · by_cases h16 : p_K t N i = 16
    · refine zW_ok hj B70_0 0 _ _ _ _ _ b70_0 ?_
      simp only [B70_0, zW, z_wp1, z_ld, z_f0, z_f1, z_f2, z_f3, List.getElem?_cons_zero, List.getElem?_cons_succ, true_and, and_true, Int32.reduceOfInt, z_i10, z_i01, Int32.reduceLT, Int32.reduceLE, Int32.reduceAdd, Int32.reduceSub, z_set, z_set2, z_kil, List.set_cons_zero, List.set_cons_succ, List.take_succ_cons, List.take_zero, List.drop_succ_cons, List.drop_zero, List.reverse_cons, List.reverse_nil, List.nil_append, List.cons_append, List.getD_cons_succ, List.getD_cons_zero, List.getD_nil, List.length_cons, List.length_nil, List.map_cons, List.map_nil, List.sum_cons, List.sum_nil, Nat.reduceAdd, Nat.reduceLeDiff, Value.category, Option.toList, true_or, or_true, z_ua, ↓reduceIte, Nat.reduceEqDiff, eq_self, not_true_eq_false, not_false_eq_true, false_implies, true_implies, Classical.not_not, Nat.le_refl, Nat.zero_le, sK60 hS, sG60_0 hS, sK61 hS, sK61 hS, hkd, h17, h16]
      try dsimp only
      exact ⟨fun _ => body (Or.inl h16), fun _ => body (Or.inl h16)⟩
    · refine zW_ok hj B70_0 0 _ _ _ _ _ b70_0 ?_
      simp only [B70_0, zW, z_wp1, z_ld, z_f0, z_f1, z_f2, z_f3, List.getElem?_cons_zero, List.getElem?_cons_succ, true_and, and_true, Int32.reduceOfInt, z_i10, z_i01, Int32.reduceLT, Int32.reduceLE, Int32.reduceAdd, Int32.reduceSub, z_set, z_set2, z_kil, List.set_cons_zero, List.set_cons_succ, List.take_succ_cons, List.take_zero, List.drop_succ_cons, List.drop_zero, List.reverse_cons, List.reverse_nil, List.nil_append, List.cons_append, List.getD_cons_succ, List.getD_cons_zero, List.getD_nil, List.length_cons, List.length_nil, List.map_cons, List.map_nil, List.sum_cons, List.sum_nil, Nat.reduceAdd, Nat.reduceLeDiff, Value.category, Option.toList, true_or, or_true, z_ua, ↓reduceIte, Nat.reduceEqDiff, eq_self, not_true_eq_false, not_false_eq_true, false_implies, true_implies, Classical.not_not, Nat.le_refl, Nat.zero_le, sK60 hS, sG60_0 hS, sK61 hS, sK61 hS, hkd, h17, h16]
      try dsimp only
      refine z_callD (c71 (I := I) (J := J) hS 1) (by omega) (by omega) (by omega) (Nat.le_of_ble_eq_true rfl) ?_
      try simp only [zW, z_wp1, z_ld, z_f0, z_f1, z_f2, z_f3, List.getElem?_cons_zero, List.getElem?_cons_succ, true_and, and_true, Int32.reduceOfInt, z_i10, z_i01, Int32.reduceLT, Int32.reduceLE, Int32.reduceAdd, Int32.reduceSub, z_set, z_set2, z_kil, List.set_cons_zero, List.set_cons_succ, List.take_succ_cons, List.take_zero, List.drop_succ_cons, List.drop_zero, List.reverse_cons, List.reverse_nil, List.nil_append, List.cons_append, List.getD_cons_succ, List.getD_cons_zero, List.getD_nil, List.length_cons, List.length_nil, List.map_cons, List.map_nil, List.sum_cons, List.sum_nil, Nat.reduceAdd, Nat.reduceLeDiff, Value.category, Option.toList, true_or, or_true, z_ua, ↓reduceIte, Nat.reduceEqDiff, eq_self, not_true_eq_false, not_false_eq_true, false_implies, true_implies, Classical.not_not, Nat.le_refl, Nat.zero_le, sK60 hS]
      try dsimp only
      refine hQ _ _ ⟨_, rfl, x_rf_f I _ _ h2, ?_⟩
      rw [r_un, if_neg (fun q => q.elim h16 h17)]
      exact ⟨rfl, h0.f 1⟩
/-- readDivisor -/
theorem c69 (he : x_en K L G t N cd) (hr : x_rd I t N M cd i xs) : z_Ctr l 1 69 [.ref 60] (n, K, L, I, J, G) 0 0 (x_rp n K L I J G t N M cd i xs (if ¬ p_K t N i = 17 then .error (1, i) else if p_A t N i = 0 then .error (2, i) else .ok (i + 1, [(0, p_A t N i), (5, 0)]))) := by
  obtain ⟨hS, h2, hG, hK, hch⟩ := he
  obtain ⟨h0, hc, hl8⟩ := hr
  have hkd : I 61 5 = p_K t N i := h0.2.2.2.1
  refine z_ctr (by decide) (by decide +kernel) (Nat.le_of_ble_eq_true rfl) (by decide +kernel) (fun X hl hj hd hm hs hsc hQ => ?_)
  show zV X 0 [some (.ref 60)] [] _ 0 0
  subst hl
  by_cases h17 : p_K t N i = 17
  · have hk0 : ¬ p_K t N i = 0 := by rw [h17]; decide
    obtain ⟨hiM, hM8⟩ := h0.lt hk0
    have ham : I 61 7 = p_A t N i := h0.2.2.2.2.2.1 (Or.inr h17)
    obtain ⟨m, hm', em⟩ := p_A_bd hch (Or.inr h17)
    rw [if_neg (fun q => q h17)] at hQ
    refine zW_ok hj B69_0 0 _ _ _ _ _ b69_0 ?_
    simp only [B69_0, zW, z_wp1, z_ld, z_f0, z_f1, z_f2, z_f3, List.getElem?_cons_zero, List.getElem?_cons_succ, true_and, and_true, Int32.reduceOfInt, z_i10, z_i01, Int32.reduceLT, Int32.reduceLE, Int32.reduceAdd, Int32.reduceSub, z_set, z_set2, z_kil, List.set_cons_zero, List.set_cons_succ, List.take_succ_cons, List.take_zero, List.drop_succ_cons, List.drop_zero, List.reverse_cons, List.reverse_nil, List.nil_append, List.cons_append, List.getD_cons_succ, List.getD_cons_zero, List.getD_nil, List.length_cons, List.length_nil, List.map_cons, List.map_nil, List.sum_cons, List.sum_nil, Nat.reduceAdd, Nat.reduceLeDiff, Value.category, Option.toList, true_or, or_true, z_ua, ↓reduceIte, Nat.reduceEqDiff, eq_self, not_true_eq_false, not_false_eq_true, false_implies, true_implies, Classical.not_not, Nat.le_refl, Nat.zero_le, sK60 hS, sG60_0 hS, sK61 hS, sK61 hS, hkd, h17]
    try dsimp only
    by_cases ha : p_A t N i = 0
    · rw [if_pos ha] at hQ
      refine zW_ok hj B69_18 18 _ _ _ _ _ b69_18 ?_
      simp only [B69_18, zW, z_wp1, z_ld, z_f0, z_f1, z_f2, z_f3, List.getElem?_cons_zero, List.getElem?_cons_succ, true_and, and_true, Int32.reduceOfInt, z_i10, z_i01, Int32.reduceLT, Int32.reduceLE, Int32.reduceAdd, Int32.reduceSub, z_set, z_set2, z_kil, List.set_cons_zero, List.set_cons_succ, List.take_succ_cons, List.take_zero, List.drop_succ_cons, List.drop_zero, List.reverse_cons, List.reverse_nil, List.nil_append, List.cons_append, List.getD_cons_succ, List.getD_cons_zero, List.getD_nil, List.length_cons, List.length_nil, List.map_cons, List.map_nil, List.sum_cons, List.sum_nil, Nat.reduceAdd, Nat.reduceLeDiff, Value.category, Option.toList, true_or, or_true, z_ua, ↓reduceIte, Nat.reduceEqDiff, eq_self, not_true_eq_false, not_false_eq_true, false_implies, true_implies, Classical.not_not, Nat.le_refl, Nat.zero_le, sK60 hS, sG60_0 hS, sK61 hS, sK61 hS, ham, ha]
      try dsimp only
      refine z_callD (c71 (I := I) (J := J) hS 2) (by omega) (by omega) (by omega) (Nat.le_of_ble_eq_true rfl) ?_
      try simp only [zW, z_wp1, z_ld, z_f0, z_f1, z_f2, z_f3, List.getElem?_cons_zero, List.getElem?_cons_succ, true_and, and_true, Int32.reduceOfInt, z_i10, z_i01, Int32.reduceLT, Int32.reduceLE, Int32.reduceAdd, Int32.reduceSub, z_set, z_set2, z_kil, List.set_cons_zero, List.set_cons_succ, List.take_succ_cons, List.take_zero, List.drop_succ_cons, List.drop_zero, List.reverse_cons, List.reverse_nil, List.nil_append, List.cons_append, List.getD_cons_succ, List.getD_cons_zero, List.getD_nil, List.length_cons, List.length_nil, List.map_cons, List.map_nil, List.sum_cons, List.sum_nil, Nat.reduceAdd, Nat.reduceLeDiff, Value.category, Option.toList, true_or, or_true, z_ua, ↓reduceIte, Nat.reduceEqDiff, eq_self, not_true_eq_false, not_false_eq_true, false_implies, true_implies, Classical.not_not, Nat.le_refl, Nat.zero_le, sK60 hS]
      try dsimp only
      exact hQ _ _ ⟨_, rfl, x_rf_f I _ _ h2, rfl, h0.f 2⟩
    · rw [if_neg ha] at hQ
      have put := c49x (l := X.1) (n := n) (J := J) hS h0 hc (by omega) h2 (k := 6) (by omega) hm'
      rw [← em] at put
      refine zW_ok hj B69_18 18 _ _ _ _ _ b69_18 ?_
      simp only [B69_18, zW, z_wp1, z_ld, z_f0, z_f1, z_f2, z_f3, List.getElem?_cons_zero, List.getElem?_cons_succ, true_and, and_true, Int32.reduceOfInt, z_i10, z_i01, Int32.reduceLT, Int32.reduceLE, Int32.reduceAdd, Int32.reduceSub, z_set, z_set2, z_kil, List.set_cons_zero, List.set_cons_succ, List.take_succ_cons, List.take_zero, List.drop_succ_cons, List.drop_zero, List.reverse_cons, List.reverse_nil, List.nil_append, List.cons_append, List.getD_cons_succ, List.getD_cons_zero, List.getD_nil, List.length_cons, List.length_nil, List.map_cons, List.map_nil, List.sum_cons, List.sum_nil, Nat.reduceAdd, Nat.reduceLeDiff, Value.category, Option.toList, true_or, or_true, z_ua, ↓reduceIte, Nat.reduceEqDiff, eq_self, not_true_eq_false, not_false_eq_true, false_implies, true_implies, Classical.not_not, Nat.le_refl, Nat.zero_le, sK60 hS, sG60_0 hS, sK61 hS, sK61 hS, ham, ha]
      try dsimp only
      refine zW_ok hj B69_34 34 _ _ _ _ _ b69_34 ?_
      simp only [B69_34, zW, z_wp1, z_ld, z_f0, z_f1, z_f2, z_f3, List.getElem?_cons_zero, List.getElem?_cons_succ, true_and, and_true, Int32.reduceOfInt, z_i10, z_i01, Int32.reduceLT, Int32.reduceLE, Int32.reduceAdd, Int32.reduceSub, z_set, z_set2, z_kil, List.set_cons_zero, List.set_cons_succ, List.take_succ_cons, List.take_zero, List.drop_succ_cons, List.drop_zero, List.reverse_cons, List.reverse_nil, List.nil_append, List.cons_append, List.getD_cons_succ, List.getD_cons_zero, List.getD_nil, List.length_cons, List.length_nil, List.map_cons, List.map_nil, List.sum_cons, List.sum_nil, Nat.reduceAdd, Nat.reduceLeDiff, Value.category, Option.toList, true_or, or_true, z_ua, ↓reduceIte, Nat.reduceEqDiff, eq_self, not_true_eq_false, not_false_eq_true, false_implies, true_implies, Classical.not_not, Nat.le_refl, Nat.zero_le, sK60 hS, hG, hK, sG60_0 hS, sK61 hS, sK61 hS, ham]
      try dsimp only
      refine z_callQ put (by omega) (by omega) (by omega) (Nat.le_of_ble_eq_true rfl) ?_
      rintro r h' ⟨rfl, I2, rfl, f2, r2, c2, -⟩
      simp only [zW, z_wp1, z_ld, z_f0, z_f1, z_f2, z_f3, List.getElem?_cons_zero, List.getElem?_cons_succ, true_and, and_true, Int32.reduceOfInt, z_i10, z_i01, Int32.reduceLT, Int32.reduceLE, Int32.reduceAdd, Int32.reduceSub, z_set, z_set2, z_kil, List.set_cons_zero, List.set_cons_succ, List.take_succ_cons, List.take_zero, List.drop_succ_cons, List.drop_zero, List.reverse_cons, List.reverse_nil, List.nil_append, List.cons_append, List.getD_cons_succ, List.getD_cons_zero, List.getD_nil, List.length_cons, List.length_nil, List.map_cons, List.map_nil, List.sum_cons, List.sum_nil, Nat.reduceAdd, Nat.reduceLeDiff, Value.category, Option.toList, true_or, or_true, z_ua, ↓reduceIte, Nat.reduceEqDiff, eq_self, not_true_eq_false, not_false_eq_true, false_implies, true_implies, Classical.not_not, Nat.le_refl, Nat.zero_le, sK60 hS, sG60_0 hS, sK61 hS, sK61 hS]
      try dsimp only
      refine z_callQ (c107x (J := J) hS r2 c2 h2 hk0) (by omega) (by omega) (by omega) (Nat.le_of_ble_eq_true rfl) ?_
      rintro r h' ⟨rfl, I3, rfl, f3, r3, c3, -⟩
      simp only [zW, z_wp1, z_ld, z_f0, z_f1, z_f2, z_f3, List.getElem?_cons_zero, List.getElem?_cons_succ, true_and, and_true, Int32.reduceOfInt, z_i10, z_i01, Int32.reduceLT, Int32.reduceLE, Int32.reduceAdd, Int32.reduceSub, z_set, z_set2, z_kil, List.set_cons_zero, List.set_cons_succ, List.take_succ_cons, List.take_zero, List.drop_succ_cons, List.drop_zero, List.reverse_cons, List.reverse_nil, List.nil_append, List.cons_append, List.getD_cons_succ, List.getD_cons_zero, List.getD_nil, List.length_cons, List.length_nil, List.map_cons, List.map_nil, List.sum_cons, List.sum_nil, Nat.reduceAdd, Nat.reduceLeDiff, Value.category, Option.toList, true_or, or_true, z_ua, ↓reduceIte, Nat.reduceEqDiff, eq_self, not_true_eq_false, not_false_eq_true, false_implies, true_implies, Classical.not_not, Nat.le_refl, Nat.zero_le]
      try dsimp only
      refine hQ _ _ ⟨I3, rfl, f2.tr f3, rfl, [(nI 6, p_A t N i)], ⟨r3, c3, ?_⟩, ?_, ?_⟩
      · rw [List.length_append]; show xs.length + 1 ≤ i + 1; omega
      · exact q_ok.one (if_pos (show nI 6 = 6 from rfl)) (Or.inr (Or.inr (Or.inl ⟨rfl, ha⟩)))
      · show 1 + i ≤ i + 1; omega
  · rw [if_pos h17] at hQ
    refine zW_ok hj B69_0 0 _ _ _ _ _ b69_0 ?_
    simp only [B69_0, zW, z_wp1, z_ld, z_f0, z_f1, z_f2, z_f3, List.getElem?_cons_zero, List.getElem?_cons_succ, true_and, and_true, Int32.reduceOfInt, z_i10, z_i01, Int32.reduceLT, Int32.reduceLE, Int32.reduceAdd, Int32.reduceSub, z_set, z_set2, z_kil, List.set_cons_zero, List.set_cons_succ, List.take_succ_cons, List.take_zero, List.drop_succ_cons, List.drop_zero, List.reverse_cons, List.reverse_nil, List.nil_append, List.cons_append, List.getD_cons_succ, List.getD_cons_zero, List.getD_nil, List.length_cons, List.length_nil, List.map_cons, List.map_nil, List.sum_cons, List.sum_nil, Nat.reduceAdd, Nat.reduceLeDiff, Value.category, Option.toList, true_or, or_true, z_ua, ↓reduceIte, Nat.reduceEqDiff, eq_self, not_true_eq_false, not_false_eq_true, false_implies, true_implies, Classical.not_not, Nat.le_refl, Nat.zero_le, sK60 hS, sG60_0 hS, sK61 hS, sK61 hS, hkd, h17]
    try dsimp only
    refine z_callD (c71 (I := I) (J := J) hS 1) (by omega) (by omega) (by omega) (Nat.le_of_ble_eq_true rfl) ?_
    try simp only [zW, z_wp1, z_ld, z_f0, z_f1, z_f2, z_f3, List.getElem?_cons_zero, List.getElem?_cons_succ, true_and, and_true, Int32.reduceOfInt, z_i10, z_i01, Int32.reduceLT, Int32.reduceLE, Int32.reduceAdd, Int32.reduceSub, z_set, z_set2, z_kil, List.set_cons_zero, List.set_cons_succ, List.take_succ_cons, List.take_zero, List.drop_succ_cons, List.drop_zero, List.reverse_cons, List.reverse_nil, List.nil_append, List.cons_append, List.getD_cons_succ, List.getD_cons_zero, List.getD_nil, List.length_cons, List.length_nil, List.map_cons, List.map_nil, List.sum_cons, List.sum_nil, Nat.reduceAdd, Nat.reduceLeDiff, Value.category, Option.toList, true_or, or_true, z_ua, ↓reduceIte, Nat.reduceEqDiff, eq_self, not_true_eq_false, not_false_eq_true, false_implies, true_implies, Classical.not_not, Nat.le_refl, Nat.zero_le, sK60 hS]
    try dsimp only
    exact hQ _ _ ⟨_, rfl, x_rf_f I _ _ h2, rfl, h0.f 1⟩
/-- readKnown -/
theorem c65 (he : x_en K L G t N cd) (hr : x_rd I t N M cd i xs) (h15 : p_K t N i = 15) : z_Ctr l 1 65 [.ref 60] (n, K, L, I, J, G) 0 0 (x_rp n K L I J G t N M cd i xs (r_cm (p_K t N) (p_A t N) i)) := by
  obtain ⟨hS, h2, hG, hK, hch⟩ := he
  obtain ⟨h0, hc, hl8⟩ := hr
  have hk0 : ¬ p_K t N i = 0 := by rw [h15]; decide
  obtain ⟨hiM, hM8⟩ := h0.lt hk0
  refine z_ctr (by decide) (by decide +kernel) (Nat.le_of_ble_eq_true rfl) (by decide +kernel) (fun X hl hj hd hm hs hsc hQ => ?_)
  show zV X 0 [some (.ref 60)] [] _ 0 0
  subst hl
  rw [r_cm, if_pos h15] at hQ
  refine zW_ok hj B65_0 0 _ _ _ _ _ b65_0 ?_
  simp only [B65_0, zW, z_wp1, z_ld, z_f0, z_f1, z_f2, z_f3, List.getElem?_cons_zero, List.getElem?_cons_succ, true_and, and_true, Int32.reduceOfInt, z_i10, z_i01, Int32.reduceLT, Int32.reduceLE, Int32.reduceAdd, Int32.reduceSub, z_set, z_set2, z_kil, List.set_cons_zero, List.set_cons_succ, List.take_succ_cons, List.take_zero, List.drop_succ_cons, List.drop_zero, List.reverse_cons, List.reverse_nil, List.nil_append, List.cons_append, List.getD_cons_succ, List.getD_cons_zero, List.getD_nil, List.length_cons, List.length_nil, List.map_cons, List.map_nil, List.sum_cons, List.sum_nil, Nat.reduceAdd, Nat.reduceLeDiff, Value.category, Option.toList, true_or, or_true, z_ua, ↓reduceIte, Nat.reduceEqDiff, eq_self, not_true_eq_false, not_false_eq_true, false_implies, true_implies, Classical.not_not, Nat.le_refl, Nat.zero_le, sK60 hS, sG60_0 hS, sK61 hS]
  try dsimp only
  refine z_callQ (c107x (J := J) hS h0 hc h2 hk0) (by omega) (by omega) (by omega) (Nat.le_of_ble_eq_true rfl) ?_
  rintro r h' ⟨rfl, I1, rfl, f1, r1, c1, -⟩
  have hkd : I1 61 5 = p_K t N (i + 1) := r1.2.2.2.1
  by_cases h16 : p_K t N (i + 1) = 16
  · have hk1 : ¬ p_K t N (i + 1) = 0 := by rw [h16]; decide
    obtain ⟨hiM1, -⟩ := r1.lt hk1
    have ham : I1 61 7 = p_A t N (i + 1) := r1.2.2.2.2.2.1 (Or.inl h16)
    obtain ⟨m, hm', em⟩ := p_A_bd hch (Or.inl h16)
    rw [if_neg (fun q => q h16)] at hQ
    have put := c49x (l := X.1) (n := n) (J := J) hS r1 c1 (by omega) h2 (k := 15) (by omega) hm'
    rw [← em] at put
    simp only [zW, z_wp1, z_ld, z_f0, z_f1, z_f2, z_f3, List.getElem?_cons_zero, List.getElem?_cons_succ, true_and, and_true, Int32.reduceOfInt, z_i10, z_i01, Int32.reduceLT, Int32.reduceLE, Int32.reduceAdd, Int32.reduceSub, z_set, z_set2, z_kil, List.set_cons_zero, List.set_cons_succ, List.take_succ_cons, List.take_zero, List.drop_succ_cons, List.drop_zero, List.reverse_cons, List.reverse_nil, List.nil_append, List.cons_append, List.getD_cons_succ, List.getD_cons_zero, List.getD_nil, List.length_cons, List.length_nil, List.map_cons, List.map_nil, List.sum_cons, List.sum_nil, Nat.reduceAdd, Nat.reduceLeDiff, Value.category, Option.toList, true_or, or_true, z_ua, ↓reduceIte, Nat.reduceEqDiff, eq_self, not_true_eq_false, not_false_eq_true, false_implies, true_implies, Classical.not_not, Nat.le_refl, Nat.zero_le, sK60 hS, sG60_0 hS, sK61 hS, sK61 hS, hkd, h16]
    try dsimp only
    refine zW_ok hj B65_25 25 _ _ _ _ _ b65_25 ?_
    simp only [B65_25, zW, z_wp1, z_ld, z_f0, z_f1, z_f2, z_f3, List.getElem?_cons_zero, List.getElem?_cons_succ, true_and, and_true, Int32.reduceOfInt, z_i10, z_i01, Int32.reduceLT, Int32.reduceLE, Int32.reduceAdd, Int32.reduceSub, z_set, z_set2, z_kil, List.set_cons_zero, List.set_cons_succ, List.take_succ_cons, List.take_zero, List.drop_succ_cons, List.drop_zero, List.reverse_cons, List.reverse_nil, List.nil_append, List.cons_append, List.getD_cons_succ, List.getD_cons_zero, List.getD_nil, List.length_cons, List.length_nil, List.map_cons, List.map_nil, List.sum_cons, List.sum_nil, Nat.reduceAdd, Nat.reduceLeDiff, Value.category, Option.toList, true_or, or_true, z_ua, ↓reduceIte, Nat.reduceEqDiff, eq_self, not_true_eq_false, not_false_eq_true, false_implies, true_implies, Classical.not_not, Nat.le_refl, Nat.zero_le, sK60 hS, hG, hK, sG60_0 hS, sK61 hS, sK61 hS, ham]
    try dsimp only
    refine z_callQ put (by omega) (by omega) (by omega) (Nat.le_of_ble_eq_true rfl) ?_
    rintro r h' ⟨rfl, I2, rfl, f2, r2, c2, -⟩
    simp only [zW, z_wp1, z_ld, z_f0, z_f1, z_f2, z_f3, List.getElem?_cons_zero, List.getElem?_cons_succ, true_and, and_true, Int32.reduceOfInt, z_i10, z_i01, Int32.reduceLT, Int32.reduceLE, Int32.reduceAdd, Int32.reduceSub, z_set, z_set2, z_kil, List.set_cons_zero, List.set_cons_succ, List.take_succ_cons, List.take_zero, List.drop_succ_cons, List.drop_zero, List.reverse_cons, List.reverse_nil, List.nil_append, List.cons_append, List.getD_cons_succ, List.getD_cons_zero, List.getD_nil, List.length_cons, List.length_nil, List.map_cons, List.map_nil, List.sum_cons, List.sum_nil, Nat.reduceAdd, Nat.reduceLeDiff, Value.category, Option.toList, true_or, or_true, z_ua, ↓reduceIte, Nat.reduceEqDiff, eq_self, not_true_eq_false, not_false_eq_true, false_implies, true_implies, Classical.not_not, Nat.le_refl, Nat.zero_le, sK60 hS, sG60_0 hS, sK61 hS, sK61 hS]
    try dsimp only
    refine z_callQ (c107x (J := J) hS r2 c2 h2 hk1) (by omega) (by omega) (by omega) (Nat.le_of_ble_eq_true rfl) ?_
    rintro r h' ⟨rfl, I3, rfl, f3, r3, c3, -⟩
    simp only [zW, z_wp1, z_ld, z_f0, z_f1, z_f2, z_f3, List.getElem?_cons_zero, List.getElem?_cons_succ, true_and, and_true, Int32.reduceOfInt, z_i10, z_i01, Int32.reduceLT, Int32.reduceLE, Int32.reduceAdd, Int32.reduceSub, z_set, z_set2, z_kil, List.set_cons_zero, List.set_cons_succ, List.take_succ_cons, List.take_zero, List.drop_succ_cons, List.drop_zero, List.reverse_cons, List.reverse_nil, List.nil_append, List.cons_append, List.getD_cons_succ, List.getD_cons_zero, List.getD_nil, List.length_cons, List.length_nil, List.map_cons, List.map_nil, List.sum_cons, List.sum_nil, Nat.reduceAdd, Nat.reduceLeDiff, Value.category, Option.toList, true_or, or_true, z_ua, ↓reduceIte, Nat.reduceEqDiff, eq_self, not_true_eq_false, not_false_eq_true, false_implies, true_implies, Classical.not_not, Nat.le_refl, Nat.zero_le]
    try dsimp only
    refine hQ _ _ ⟨I3, rfl, (f1.tr f2).tr f3, rfl, [(nI 15, p_A t N (i + 1))], ⟨r3, c3, ?_⟩, ?_, ?_⟩
    · rw [List.length_append]; show xs.length + 1 ≤ i + 1 + 1; omega
    · exact q_ok.one rfl (Or.inr (Or.inl ⟨Or.inr rfl, p_A_16 h16⟩))
    · show 1 + i ≤ i + 2; omega
  · rw [if_pos h16] at hQ
    simp only [zW, z_wp1, z_ld, z_f0, z_f1, z_f2, z_f3, List.getElem?_cons_zero, List.getElem?_cons_succ, true_and, and_true, Int32.reduceOfInt, z_i10, z_i01, Int32.reduceLT, Int32.reduceLE, Int32.reduceAdd, Int32.reduceSub, z_set, z_set2, z_kil, List.set_cons_zero, List.set_cons_succ, List.take_succ_cons, List.take_zero, List.drop_succ_cons, List.drop_zero, List.reverse_cons, List.reverse_nil, List.nil_append, List.cons_append, List.getD_cons_succ, List.getD_cons_zero, List.getD_nil, List.length_cons, List.length_nil, List.map_cons, List.map_nil, List.sum_cons, List.sum_nil, Nat.reduceAdd, Nat.reduceLeDiff, Value.category, Option.toList, true_or, or_true, z_ua, ↓reduceIte, Nat.reduceEqDiff, eq_self, not_true_eq_false, not_false_eq_true, false_implies, true_implies, Classical.not_not, Nat.le_refl, Nat.zero_le, sK60 hS, sG60_0 hS, sK61 hS, sK61 hS, hkd, h16]
    try dsimp only
    refine z_callD (c71 (I := I1) (J := J) hS 1) (by omega) (by omega) (by omega) (Nat.le_of_ble_eq_true rfl) ?_
    try simp only [zW, z_wp1, z_ld, z_f0, z_f1, z_f2, z_f3, List.getElem?_cons_zero, List.getElem?_cons_succ, true_and, and_true, Int32.reduceOfInt, z_i10, z_i01, Int32.reduceLT, Int32.reduceLE, Int32.reduceAdd, Int32.reduceSub, z_set, z_set2, z_kil, List.set_cons_zero, List.set_cons_succ, List.take_succ_cons, List.take_zero, List.drop_succ_cons, List.drop_zero, List.reverse_cons, List.reverse_nil, List.nil_append, List.cons_append, List.getD_cons_succ, List.getD_cons_zero, List.getD_nil, List.length_cons, List.length_nil, List.map_cons, List.map_nil, List.sum_cons, List.sum_nil, Nat.reduceAdd, Nat.reduceLeDiff, Value.category, Option.toList, true_or, or_true, z_ua, ↓reduceIte, Nat.reduceEqDiff, eq_self, not_true_eq_false, not_false_eq_true, false_implies, true_implies, Classical.not_not, Nat.le_refl, Nat.zero_le, sK60 hS]
    try dsimp only
    exact hQ _ _ ⟨_, rfl, f1.tr (x_rf_f I1 _ _ h2), rfl, r1.f 1⟩
end XRD2
