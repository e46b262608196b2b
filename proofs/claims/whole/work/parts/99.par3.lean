/-! The model's reader: next token, units and products -/
/-- the reader at a token, its codes apart -/
def m_r0 (I : Nat → Nat → Int32) (t : Nat → Int32) (N i : Nat) : Prop := I 71 11 = nI N ∧ N ≤ 800 ∧ I 77 = t ∧ (∀ k, k < N → 0 ≤ t k) ∧ p_lay (I 78) 0 p_ws ∧ I 71 12 = nI (p_at t N (i + 1)) ∧ I 71 13 = nI (p_P t N i) ∧ p_tk (I 71 14) (I 71 15) (p_K t N i) (p_A t N i) ∧ ∀ j, j < i → ¬ p_K t N j = 0
theorem m_rd_iff {I : Nat → Nat → Int32} {t : Nat → Int32} {N i : Nat} {ms : List (Int32 × Int32)} : m_rd I t N i ms ↔ m_r0 I t N i ∧ p_cd I ms ∧ ms.length ≤ i := by
  constructor
  · rintro ⟨a1, a2, a3, a4, a5, a6, a7, a8, a9, a10, a11⟩
    exact ⟨⟨a1, a2, a3, a4, a5, a6, a7, a8, a11⟩, a9, a10⟩
  · rintro ⟨⟨a1, a2, a3, a4, a5, a6, a7, a8, a11⟩, a9, a10⟩
    exact ⟨a1, a2, a3, a4, a5, a6, a7, a8, a9, a10, a11⟩
theorem m_r0.le {I : Nat → Nat → Int32} {t : Nat → Int32} {N i : Nat} (h : m_r0 I t N i) : i ≤ 800 := by
  have h1 := p_at_ge i h.2.2.2.2.2.2.2.2
  have h2 := p_at_le (t := t) (N := N) i
  have := h.2.1
  omega
theorem m_rd.le {I : Nat → Nat → Int32} {t : Nat → Int32} {N i : Nat} {ms : List (Int32 × Int32)} (h : m_rd I t N i ms) : i ≤ 800 := (m_rd_iff.mp h).1.le
/-- one after the other -/
def r_bd (x : p_R) (f : Nat → p_R) : p_R := match x with
  | .error e => .error e
  | .ok y => match f y.1 with
    | .error e => .error e
    | .ok z => .ok (z.1, y.2 ++ z.2)
theorem r_bd_e {y : Nat × List (Int32 × Int32)} {f : Nat → p_R} {q : Int32 × Nat} (h : f y.1 = .error q) : r_bd (.ok y) f = .error q := by simp [r_bd, h]
theorem r_bd_k {y z : Nat × List (Int32 × Int32)} {f : Nat → p_R} (h : f y.1 = .ok z) : r_bd (.ok y) f = .ok (z.1, y.2 ++ z.2) := by simp [r_bd, h]
theorem m_re_bd {t : Nat → Int32} {N : Nat} {ms : List (Int32 × Int32)} {y : Nat × List (Int32 × Int32)} {f : Nat → p_R} {r : Option Value} {I : Nat → Nat → Int32} (h : m_re t N (ms ++ y.2) (f y.1) r I) : m_re t N ms (r_bd (.ok y) f) r I := by
  cases e : f y.1 with
  | error q => rw [e] at h; rw [r_bd_e e]; exact h
  | ok z =>
    rw [e] at h
    rw [r_bd_k e]
    refine ⟨h.1, ?_⟩
    have h2 : m_rd I t N z.1 (ms ++ y.2 ++ z.2) := h.2
    rw [List.append_assoc] at h2
    exact h2
def r_un (kd am : Nat → Int32) (i : Nat) : p_R := if kd i = 16 ∨ kd i = 17 then .ok (i + 1, [(if kd i = 16 then 1 else 0, am i)]) else .error (1, i)
def r_pl (kd am : Nat → Int32) : Nat → Nat → p_R
  | 0, j => .ok (j, [])
  | k + 1, j => if kd j = 5 then r_bd (r_bd (r_un kd am (j + 1)) (fun j => .ok (j, [(4, 0)]))) (r_pl kd am k) else if kd j = 6 then (if ¬ kd (j + 1) = 17 then .error (1, j + 1) else if am (j + 1) = 0 then .error (2, j + 1) else r_bd (.ok (j + 2, [(0, am (j + 1)), (5, 0)])) (r_pl kd am k)) else .ok (j, [])
/-- a product -/
def r_pr (kd am : Nat → Int32) (i : Nat) : p_R := r_bd (r_un kd am i) (r_pl kd am 802)
section PAR3
variable {l : Launch} {n : Nat} {K L : Nat → Nat} {I : Nat → Nat → Int32} {J : Nat → Nat → Int64} {G : Nat → Nat → Value} {t : Nat → Int32} {N i : Nat} {ms : List (Int32 × Int32)}
/-- next, for the reader -/
theorem c177r (hS : SS K L G) (h0 : m_r0 I t N i) : z_Ctr l 2 177 [.ref 71] (n, K, L, I, J, G) 0 0 (fun r h' => r = none ∧ ∃ I', h' = (n, K, L, I', J, G) ∧ p_fr I I' ∧ I' 71 12 = nI (p_nx t N (p_at t N (i + 1))) ∧ I' 71 13 = nI (p_st t N (p_at t N (i + 1))) ∧ p_tk (I' 71 14) (I' 71 15) (p_kd t N (p_at t N (i + 1))) (p_am t N (p_at t N (i + 1)))) := by
  obtain ⟨a1, a2, a3, a4, a5, a6, a7, a8, a9⟩ := h0
  have h := c177 (l := l) (n := n) (I := I) (J := J) (N := N) (a := p_at t N (i + 1)) hS a5 a1 a2 (by rw [a3]; exact a4) (p_at_le _) a6
  rw [a3] at h
  exact h
theorem m_r0.nx (h0 : m_r0 I t N i) (hk : ¬ p_K t N i = 0) {I' : Nat → Nat → Int32} (f1 : p_fr I I') (f2 : I' 71 12 = nI (p_nx t N (p_at t N (i + 1)))) (f3 : I' 71 13 = nI (p_st t N (p_at t N (i + 1)))) (f4 : p_tk (I' 71 14) (I' 71 15) (p_kd t N (p_at t N (i + 1))) (p_am t N (p_at t N (i + 1)))) : m_fr I I' ∧ m_r0 I' t N (i + 1) ∧ ∀ ms, p_cd I ms → p_cd I' ms := by
  obtain ⟨a1, a2, a3, a4, a5, a6, a7, a8, a9⟩ := h0
  refine ⟨f1.m, ⟨by rw [f1.2 _ (by decide) (by decide) (by decide) (by decide)]; exact a1, a2, by rw [f1.1 77 (by decide)]; exact a3, a4, by rw [f1.1 78 (by decide)]; exact a5, f2, f3, f4, fun j hj => ?_⟩, fun ms hc => ⟨by rw [f1.2 _ (by decide) (by decide) (by decide) (by decide)]; exact hc.1, fun j x hj => by rw [f1.1 81 (by decide), f1.1 82 (by decide)]; exact hc.2 j x hj⟩⟩
  by_cases z : j = i
  · rw [z]; exact hk
  · exact a9 j (by omega)
/-- a code more leaves the token -/
theorem m_r0.em (h0 : m_r0 I t N i) {I' : Nat → Nat → Int32} (f1 : m_fr I I') (f2 : ∀ k, k ≠ 22 → I' 71 k = I 71 k) : m_r0 I' t N i := by
  obtain ⟨a1, a2, a3, a4, a5, a6, a7, a8, a9⟩ := h0
  exact ⟨by rw [f2 _ (by decide)]; exact a1, a2, by rw [f1.1 77 (by decide) (by decide) (by decide)]; exact a3, a4, by rw [f1.1 78 (by decide) (by decide) (by decide)]; exact a5, by rw [f2 _ (by decide)]; exact a6, by rw [f2 _ (by decide)]; exact a7, by rw [f2 _ (by decide), f2 _ (by decide)]; exact a8, a9⟩
/-- readUnit -/
theorem c183 (hS : SS K L G) (hr : m_rd I t N i ms) : z_Ctr l 3 183 [.ref 71] (n, K, L, I, J, G) 0 0 (m_rp n K L I J G t N ms (r_un (p_K t N) (p_A t N) i)) := by
  obtain ⟨h0, hc, hl8⟩ := m_rd_iff.mp hr
  have hle := h0.le
  have htk := h0.2.2.2.2.2.2.2.1
  have en := t_nu htk
  refine z_ctr (by decide) (by decide +kernel) (Nat.le_of_ble_eq_true rfl) (by decide +kernel) (fun X hl hj hd hm hs hsc hQ => ?_)
  show zV X 0 [some (.ref 71)] [] _ 0 0
  subst hl
  have body : (p_K t N i = 16 ∨ p_K t N i = 17) → zV X 21 [some (.ref 71)] [] (n, K, L, I, J, G) 0 0 := by
    intro hy
    have hk0 : ¬ p_K t N i = 0 := fun q => by rcases hy with z | z <;> (rw [z] at q; exact absurd q (by decide))
    have ev : I 71 15 = p_A t N i := by
      rcases htk with ⟨z, _⟩ | ⟨z, _⟩ | ⟨_, _, z, _⟩ | ⟨z, _⟩ | ⟨_, _, z⟩ | ⟨z1, z2, z3⟩
      · exact absurd z hk0
      · rcases hy with y | y <;> (rw [y] at z; exact absurd z (by decide))
      · exact z
      · rcases hy with y | y <;> (rw [y] at z; rcases z with z | z | z | z <;> exact absurd z (by decide))
      · exact z
      · rcases p_sg_rg (I 71 15) with q | ⟨-, q⟩ | ⟨-, q⟩ | ⟨-, q⟩ | ⟨-, q⟩ | ⟨-, q⟩ | ⟨-, q⟩ | ⟨-, q⟩ | ⟨-, q⟩ | ⟨-, q⟩ | ⟨-, q⟩ <;> (rw [q] at z3; rcases hy with y | y <;> (rw [y] at z3; exact absurd z3 (by decide)))
    have put : ∀ w : Int32, w = (if p_K t N i = 16 then 1 else 0) → zV X 34 [some (.ref 71)] [.int w, .ref 71] (n, K, L, I, J, G) 0 0 := by
      intro w hw
      refine zW_ok hj B183_34 34 _ _ _ _ _ b183_34 ?_
      simp only [B183_34, zW, z_wp1, z_ld, z_f0, z_f1, z_f2, z_f3, List.getElem?_cons_zero, List.getElem?_cons_succ, true_and, and_true, Int32.reduceOfInt, z_i10, z_i01, Int32.reduceLT, Int32.reduceLE, Int32.reduceAdd, Int32.reduceSub, z_set, z_set2, z_kil, List.set_cons_zero, List.set_cons_succ, List.take_succ_cons, List.take_zero, List.drop_succ_cons, List.drop_zero, List.reverse_cons, List.reverse_nil, List.nil_append, List.cons_append, List.getD_cons_succ, List.getD_cons_zero, List.getD_nil, List.length_cons, List.length_nil, List.map_cons, List.map_nil, List.sum_cons, List.sum_nil, Nat.reduceAdd, Nat.reduceLeDiff, Value.category, Option.toList, true_or, or_true, z_ua, ↓reduceIte, Nat.reduceEqDiff, eq_self, not_true_eq_false, not_false_eq_true, false_implies, true_implies, Classical.not_not, Nat.le_refl, Nat.zero_le, sK71 hS, ev]
      try dsimp only
      refine z_callQ (c182 (I := I) (J := J) hS hc (by omega) w (p_A t N i)) (by omega) (by omega) (by omega) (Nat.le_of_ble_eq_true rfl) ?_
      rintro r h' ⟨rfl, I2, rfl, f2, g2, c2⟩
      have r2 := h0.em f2 g2
      simp only [zW, z_wp1, z_ld, z_f0, z_f1, z_f2, z_f3, List.getElem?_cons_zero, List.getElem?_cons_succ, true_and, and_true, Int32.reduceOfInt, z_i10, z_i01, Int32.reduceLT, Int32.reduceLE, Int32.reduceAdd, Int32.reduceSub, z_set, z_set2, z_kil, List.set_cons_zero, List.set_cons_succ, List.take_succ_cons, List.take_zero, List.drop_succ_cons, List.drop_zero, List.reverse_cons, List.reverse_nil, List.nil_append, List.cons_append, List.getD_cons_succ, List.getD_cons_zero, List.getD_nil, List.length_cons, List.length_nil, List.map_cons, List.map_nil, List.sum_cons, List.sum_nil, Nat.reduceAdd, Nat.reduceLeDiff, Value.category, Option.toList, true_or, or_true, z_ua, ↓reduceIte, Nat.reduceEqDiff, eq_self, not_true_eq_false, not_false_eq_true, false_implies, true_implies, Classical.not_not, Nat.le_refl, Nat.zero_le, sK71 hS]
      try dsimp only
      refine z_callQ (c177r (I := I2) (J := J) hS r2) (by omega) (by omega) (by omega) (Nat.le_of_ble_eq_true rfl) ?_
      rintro r h' ⟨rfl, I3, rfl, q1, q2, q3, q4⟩
      obtain ⟨f3, r3, c3⟩ := r2.nx hk0 q1 q2 q3 q4
      simp only [zW, z_wp1, z_ld, z_f0, z_f1, z_f2, z_f3, List.getElem?_cons_zero, List.getElem?_cons_succ, true_and, and_true, Int32.reduceOfInt, z_i10, z_i01, Int32.reduceLT, Int32.reduceLE, Int32.reduceAdd, Int32.reduceSub, z_set, z_set2, z_kil, List.set_cons_zero, List.set_cons_succ, List.take_succ_cons, List.take_zero, List.drop_succ_cons, List.drop_zero, List.reverse_cons, List.reverse_nil, List.nil_append, List.cons_append, List.getD_cons_succ, List.getD_cons_zero, List.getD_nil, List.length_cons, List.length_nil, List.map_cons, List.map_nil, List.sum_cons, List.sum_nil, Nat.reduceAdd, Nat.reduceLeDiff, Value.category, Option.toList, true_or, or_true, z_ua, ↓reduceIte, Nat.reduceEqDiff, eq_self, not_true_eq_false, not_false_eq_true, false_implies, true_implies, Classical.not_not, Nat.le_refl, Nat.zero_le]
      try dsimp only
      refine hQ _ _ ⟨I3, rfl, f2.tr f3, ?_⟩
      rw [r_un, if_pos hy, ← hw]
      refine ⟨rfl, m_rd_iff.mpr ⟨r3, c3 _ c2, ?_⟩⟩
      show (ms ++ [(w, p_A t N i)]).length ≤ i + 1
      rw [List.length_append]
      show ms.length + 1 ≤ i + 1
      omega
    refine zW_ok hj B183_21 21 _ _ _ _ _ b183_21 ?_
    simp only [B183_21, zW, z_wp1, z_ld, z_f0, z_f1, z_f2, z_f3, List.getElem?_cons_zero, List.getElem?_cons_succ, true_and, and_true, Int32.reduceOfInt, z_i10, z_i01, Int32.reduceLT, Int32.reduceLE, Int32.reduceAdd, Int32.reduceSub, z_set, z_set2, z_kil, List.set_cons_zero, List.set_cons_succ, List.take_succ_cons, List.take_zero, List.drop_succ_cons, List.drop_zero, List.reverse_cons, List.reverse_nil, List.nil_append, List.cons_append, List.getD_cons_succ, List.getD_cons_zero, List.getD_nil, List.length_cons, List.length_nil, List.map_cons, List.map_nil, List.sum_cons, List.sum_nil, Nat.reduceAdd, Nat.reduceLeDiff, Value.category, Option.toList, true_or, or_true, z_ua, ↓reduceIte, Nat.reduceEqDiff, eq_self, not_true_eq_false, not_false_eq_true, false_implies, true_implies, Classical.not_not, Nat.le_refl, Nat.zero_le, sK71 hS]
    try dsimp only
    by_cases h16 : p_K t N i = 16
    · refine z_callD (c180 (I := I) (J := J) hS hr) (by omega) (by omega) (by omega) (Nat.le_of_ble_eq_true rfl) ?_
      try simp only [zW, z_wp1, z_ld, z_f0, z_f1, z_f2, z_f3, List.getElem?_cons_zero, List.getElem?_cons_succ, true_and, and_true, Int32.reduceOfInt, z_i10, z_i01, Int32.reduceLT, Int32.reduceLE, Int32.reduceAdd, Int32.reduceSub, z_set, z_set2, z_kil, List.set_cons_zero, List.set_cons_succ, List.take_succ_cons, List.take_zero, List.drop_succ_cons, List.drop_zero, List.reverse_cons, List.reverse_nil, List.nil_append, List.cons_append, List.getD_cons_succ, List.getD_cons_zero, List.getD_nil, List.length_cons, List.length_nil, List.map_cons, List.map_nil, List.sum_cons, List.sum_nil, Nat.reduceAdd, Nat.reduceLeDiff, Value.category, Option.toList, true_or, or_true, z_ua, ↓reduceIte, Nat.reduceEqDiff, eq_self, not_true_eq_false, not_false_eq_true, false_implies, true_implies, Classical.not_not, Nat.le_refl, Nat.zero_le, z_b1 h16, sK71 hS]
      try dsimp only
      exact put 1 (by rw [if_pos h16])
    · refine z_callD (c180 (I := I) (J := J) hS hr) (by omega) (by omega) (by omega) (Nat.le_of_ble_eq_true rfl) ?_
      try simp only [zW, z_wp1, z_ld, z_f0, z_f1, z_f2, z_f3, List.getElem?_cons_zero, List.getElem?_cons_succ, true_and, and_true, Int32.reduceOfInt, z_i10, z_i01, Int32.reduceLT, Int32.reduceLE, Int32.reduceAdd, Int32.reduceSub, z_set, z_set2, z_kil, List.set_cons_zero, List.set_cons_succ, List.take_succ_cons, List.take_zero, List.drop_succ_cons, List.drop_zero, List.reverse_cons, List.reverse_nil, List.nil_append, List.cons_append, List.getD_cons_succ, List.getD_cons_zero, List.getD_nil, List.length_cons, List.length_nil, List.map_cons, List.map_nil, List.sum_cons, List.sum_nil, Nat.reduceAdd, Nat.reduceLeDiff, Value.category, Option.toList, true_or, or_true, z_ua, ↓reduceIte, Nat.reduceEqDiff, eq_self, not_true_eq_false, not_false_eq_true, false_implies, true_implies, Classical.not_not, Nat.le_refl, Nat.zero_le, z_b0 h16, sK71 hS]
      try dsimp only
      refine zW_ok hj B183_33 33 _ _ _ _ _ b183_33 ?_
      simp only [B183_33, zW, z_wp1, z_ld, z_f0, z_f1, z_f2, z_f3, List.getElem?_cons_zero, List.getElem?_cons_succ, true_and, and_true, Int32.reduceOfInt, z_i10, z_i01, Int32.reduceLT, Int32.reduceLE, Int32.reduceAdd, Int32.reduceSub, z_set, z_set2, z_kil, List.set_cons_zero, List.set_cons_succ, List.take_succ_cons, List.take_zero, List.drop_succ_cons, List.drop_zero, List.reverse_cons, List.reverse_nil, List.nil_append, List.cons_append, List.getD_cons_succ, List.getD_cons_zero, List.getD_nil, List.length_cons, List.length_nil, List.map_cons, List.map_nil, List.sum_cons, List.sum_nil, Nat.reduceAdd, Nat.reduceLeDiff, Value.category, Option.toList, true_or, or_true, z_ua, ↓reduceIte, Nat.reduceEqDiff, eq_self, not_true_eq_false, not_false_eq_true, false_implies, true_implies, Classical.not_not, Nat.le_refl, Nat.zero_le]
      try dsimp only
      exact put 0 (by rw [if_neg h16])
  refine zW_ok hj B183_0 0 _ _ _ _ _ b183_0 ?_
  simp only [B183_0, zW, z_wp1, z_ld, z_f0, z_f1, z_f2, z_f3, List.getElem?_cons_zero, List.getElem?_cons_succ, true_and, and_true, Int32.reduceOfInt, z_i10, z_i01, Int32.reduceLT, Int32.reduceLE, Int32.reduceAdd, Int32.reduceSub, z_set, z_set2, z_kil, List.set_cons_zero, List.set_cons_succ, List.take_succ_cons, List.take_zero, List.drop_succ_cons, List.drop_zero, List.reverse_cons, List.reverse_nil, List.nil_append, List.cons_append, List.getD_cons_succ, List.getD_cons_zero, List.getD_nil, List.length_cons, List.length_nil, List.map_cons, List.map_nil, List.sum_cons, List.sum_nil, Nat.reduceAdd, Nat.reduceLeDiff, Value.category, Option.toList, true_or, or_true, z_ua, ↓reduceIte, Nat.reduceEqDiff, eq_self, not_true_eq_false, not_false_eq_true, false_implies, true_implies, Classical.not_not, Nat.le_refl, Nat.zero_le, sK71 hS]
  try dsimp only
  by_cases h16 : p_K t N i = 16
  · refine z_callD (c180 (I := I) (J := J) hS hr) (by omega) (by omega) (by omega) (Nat.le_of_ble_eq_true rfl) ?_
    try simp only [zW, z_wp1, z_ld, z_f0, z_f1, z_f2, z_f3, List.getElem?_cons_zero, List.getElem?_cons_succ, true_and, and_true, Int32.reduceOfInt, z_i10, z_i01, Int32.reduceLT, Int32.reduceLE, Int32.reduceAdd, Int32.reduceSub, z_set, z_set2, z_kil, List.set_cons_zero, List.set_cons_succ, List.take_succ_cons, List.take_zero, List.drop_succ_cons, List.drop_zero, List.reverse_cons, List.reverse_nil, List.nil_append, List.cons_append, List.getD_cons_succ, List.getD_cons_zero, List.getD_nil, List.length_cons, List.length_nil, List.map_cons, List.map_nil, List.sum_cons, List.sum_nil, Nat.reduceAdd, Nat.reduceLeDiff, Value.category, Option.toList, true_or, or_true, z_ua, ↓reduceIte, Nat.reduceEqDiff, eq_self, not_true_eq_false, not_false_eq_true, false_implies, true_implies, Classical.not_not, Nat.le_refl, Nat.zero_le, z_b1 h16, sK71 hS]
    try dsimp only
    exact body (Or.inl h16)
  · refine z_callD (c180 (I := I) (J := J) hS hr) (by omega) (by omega) (by omega) (Nat.le_of_ble_eq_true rfl) ?_
    try simp only [zW, z_wp1, z_ld, z_f0, z_f1, z_f2, z_f3, List.getElem?_cons_zero, List.getElem?_cons_succ, true_and, and_true, Int32.reduceOfInt, z_i10, z_i01, Int32.reduceLT, Int32.reduceLE, Int32.reduceAdd, Int32.reduceSub, z_set, z_set2, z_kil, List.set_cons_zero, List.set_cons_succ, List.take_succ_cons, List.take_zero, List.drop_succ_cons, List.drop_zero, List.reverse_cons, List.reverse_nil, List.nil_append, List.cons_append, List.getD_cons_succ, List.getD_cons_zero, List.getD_nil, List.length_cons, List.length_nil, List.map_cons, List.map_nil, List.sum_cons, List.sum_nil, Nat.reduceAdd, Nat.reduceLeDiff, Value.category, Option.toList, true_or, or_true, z_ua, ↓reduceIte, Nat.reduceEqDiff, eq_self, not_true_eq_false, not_false_eq_true, false_implies, true_implies, Classical.not_not, Nat.le_refl, Nat.zero_le, z_b0 h16, sK71 hS, en]
    try dsimp only
    refine ⟨fun h => body (Or.inr h), fun h => ?_⟩
    refine z_callD (c178 (I := I) (J := J) hS 1) (by omega) (by omega) (by omega) (Nat.le_of_ble_eq_true rfl) ?_
    try simp only [zW, z_wp1, z_ld, z_f0, z_f1, z_f2, z_f3, List.getElem?_cons_zero, List.getElem?_cons_succ, true_and, and_true, Int32.reduceOfInt, z_i10, z_i01, Int32.reduceLT, Int32.reduceLE, Int32.reduceAdd, Int32.reduceSub, z_set, z_set2, z_kil, List.set_cons_zero, List.set_cons_succ, List.take_succ_cons, List.take_zero, List.drop_succ_cons, List.drop_zero, List.reverse_cons, List.reverse_nil, List.nil_append, List.cons_append, List.getD_cons_succ, List.getD_cons_zero, List.getD_nil, List.length_cons, List.length_nil, List.map_cons, List.map_nil, List.sum_cons, List.sum_nil, Nat.reduceAdd, Nat.reduceLeDiff, Value.category, Option.toList, true_or, or_true, z_ua, ↓reduceIte, Nat.reduceEqDiff, eq_self, not_true_eq_false, not_false_eq_true, false_implies, true_implies, Classical.not_not, Nat.le_refl, Nat.zero_le, sK71 hS]
    try dsimp only
    refine hQ _ _ ⟨_, rfl, m_fr_f I _ _, ?_⟩
    rw [r_un, if_neg (fun q => q.elim h16 h)]
    exact hr.f 1
end PAR3
