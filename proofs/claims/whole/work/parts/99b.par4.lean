/-! The model's reader: products and sums -/
theorem t_val {tok val kd am : Int32} (h : p_tk tok val kd am) (hy : kd = 16 ∨ kd = 17) : val = am := by
  rcases h with ⟨z, _⟩ | ⟨z, _⟩ | ⟨_, _, z, _⟩ | ⟨z, _⟩ | ⟨_, _, z⟩ | ⟨z1, z2, z3⟩
  · rcases hy with y | y <;> (rw [y] at z; exact absurd z (by decide))
  · rcases hy with y | y <;> (rw [y] at z; exact absurd z (by decide))
  · exact z
  · rcases hy with y | y <;> (rw [y] at z; rcases z with z | z | z | z <;> exact absurd z (by decide))
  · exact z
  · rcases p_sg_rg val with q | ⟨-, q⟩ | ⟨-, q⟩ | ⟨-, q⟩ | ⟨-, q⟩ | ⟨-, q⟩ | ⟨-, q⟩ | ⟨-, q⟩ | ⟨-, q⟩ | ⟨-, q⟩ | ⟨-, q⟩ <;> (rw [q] at z3; rcases hy with y | y <;> (rw [y] at z3; exact absurd z3 (by decide)))
/-- a sum: products joined -/
def r_sl (kd am : Nat → Int32) : Nat → Nat → p_R
  | 0, j => .ok (j, [])
  | k + 1, j => if kd j = 3 ∨ kd j = 4 then r_bd (r_bd (r_pr kd am (j + 1)) (fun i => .ok (i, [(if kd j = 3 then 2 else 3, 0)]))) (r_sl kd am k) else .ok (j, [])
def r_sm (kd am : Nat → Int32) (i : Nat) : p_R := r_bd (r_pr kd am i) (r_sl kd am 802)
theorem r_bd_r {e : Int32 × Nat} {f : Nat → p_R} : r_bd (.error e) f = .error e := rfl
/-- a piece read goes on, and puts down less than it takes -/
def r_go (i : Nat) (x : p_R) : Prop := ∀ y, x = .ok y → i ≤ y.1 ∧ y.2.length + i ≤ y.1
theorem r_go.bd {i : Nat} {x : p_R} {f : Nat → p_R} (h : r_go i x) (hf : ∀ j, r_go j (f j)) : r_go i (r_bd x f) := by
  intro y hy
  cases x with
  | error e => rw [r_bd_r] at hy; cases hy
  | ok z =>
    obtain ⟨a, b⟩ := h z rfl
    cases e : f z.1 with
    | error q => rw [r_bd_e e] at hy; cases hy
    | ok u =>
      rw [r_bd_k e] at hy
      cases hy
      obtain ⟨c, d⟩ := hf z.1 u e
      refine ⟨by show i ≤ u.1; omega, ?_⟩
      show (z.2 ++ u.2).length + i ≤ u.1
      rw [List.length_append]
      omega
theorem r_un_go (kd am : Nat → Int32) (i : Nat) : r_go i (r_un kd am i) := by
  intro y hy
  unfold r_un at hy
  split at hy
  · cases hy
    exact ⟨by show i ≤ i + 1; omega, by show 1 + i ≤ i + 1; omega⟩
  · cases hy
theorem r_go1 {i : Nat} {x : p_R} (h : r_go (i + 1) x) (op : Nat → Int32 × Int32) : r_go i (r_bd x (fun j => .ok (j, [op j]))) := by
  intro y hy
  cases x with
  | error e => rw [r_bd_r] at hy; cases hy
  | ok z =>
    obtain ⟨a, b⟩ := h z rfl
    rw [r_bd_k (z := (z.1, [op z.1])) rfl] at hy
    cases hy
    refine ⟨by show i ≤ z.1; omega, ?_⟩
    show (z.2 ++ [op z.1]).length + i ≤ z.1
    rw [List.length_append]
    show z.2.length + 1 + i ≤ z.1
    omega
theorem r_pl_go (kd am : Nat → Int32) : ∀ k j, r_go j (r_pl kd am k j)
  | 0, j => by intro y hy; cases hy; exact ⟨Nat.le_refl _, by show 0 + j ≤ j; omega⟩
  | k + 1, j => by
    rw [r_pl]
    by_cases h5 : kd j = 5
    · rw [if_pos h5]
      exact (r_go1 (r_un_go kd am (j + 1)) (fun _ => (4, 0))).bd (r_pl_go kd am k)
    · rw [if_neg h5]
      by_cases h6 : kd j = 6
      · rw [if_pos h6]
        by_cases h17 : ¬ kd (j + 1) = 17
        · rw [if_pos h17]; intro y hy; cases hy
        · rw [if_neg h17]
          by_cases ha : am (j + 1) = 0
          · rw [if_pos ha]; intro y hy; cases hy
          · rw [if_neg ha]
            refine r_go.bd (fun y hy => ?_) (r_pl_go kd am k)
            cases hy
            exact ⟨by show j ≤ j + 2; omega, by show 2 + j ≤ j + 2; omega⟩
      · rw [if_neg h6]
        intro y hy; cases hy; exact ⟨Nat.le_refl _, by show 0 + j ≤ j; omega⟩
theorem r_pr_go (kd am : Nat → Int32) (i : Nat) : r_go i (r_pr kd am i) := (r_un_go kd am i).bd (r_pl_go kd am 802)
section PAR4
variable {l : Launch} {n : Nat} {K L : Nat → Nat} {I : Nat → Nat → Int32} {J : Nat → Nat → Int64} {G : Nat → Nat → Value} {t : Nat → Int32} {N i : Nat} {ms : List (Int32 × Int32)}
theorem m_sg42 : m_sign 42 := by unfold m_sign; simp
theorem m_sg47 : m_sign 47 := by unfold m_sign; simp
theorem m_sg43 : m_sign 43 := by unfold m_sign; simp
theorem m_sg45 : m_sign 45 := by unfold m_sign; simp
theorem m_re_ok {x : Nat × List (Int32 × Int32)} {r : Option Value} : m_re t N ms (.ok x) r I ↔ r = some (.int 0) ∧ m_rd I t N x.1 (ms ++ x.2) := Iff.rfl
theorem m_re_er {e : Int32 × Nat} {r : Option Value} : m_re t N ms (.error e) r I ↔ r = some (.int (-1)) ∧ I 71 26 = e.1 ∧ I 71 27 = nI (p_P t N e.2) := Iff.rfl
/-- the codes one more -/
theorem m_rd.em (h : m_rd I t N i ms) {I' : Nat → Nat → Int32} {x : Int32 × Int32} (f1 : m_fr I I') (f2 : ∀ k, k ≠ 22 → I' 71 k = I 71 k) (f3 : p_cd I' (ms ++ [x])) (hl : ms.length + 1 ≤ i) : m_rd I' t N i (ms ++ [x]) := m_rd_iff.mpr ⟨(m_rd_iff.mp h).1.em f1 f2, f3, by rw [List.length_append]; exact hl⟩
theorem c184_loop {X : zX} (hS : SS K L G) (hj : X.2.1 = 184) (hdp : X.2.2.1 = 4) (hm : X.2.2.2.1 = 0) (hs : X.2.2.2.2.1 = 0) : ∀ (k j : Nat) (ms : List (Int32 × Int32)) (I' : Nat → Nat → Int32) (x1 : Option Value), m_rd I' t N j ms → 802 ≤ j + k → m_fr I I' → (∀ r I2, m_fr I I2 → m_re t N ms (r_pl (p_K t N) (p_A t N) k j) r I2 → X.2.2.2.2.2.2 r (n, K, L, I2, J, G)) → zV X 10 [some (.ref 71), x1] [] (n, K, L, I', J, G) 0 0 := by
  intro k
  induction k with
  | zero =>
    intro j ms I' x1 hr hk
    have := hr.le
    omega
  | succ k ih =>
    intro j ms I' x1 hr hk hfr hQ
    obtain ⟨h0, hc, hl8⟩ := m_rd_iff.mp hr
    have c5 := c181 (l := X.1) (n := n) (J := J) hS hr m_sg42 (k := 5) (by decide)
    have c6 := c181 (l := X.1) (n := n) (J := J) hS hr m_sg47 (k := 6) (by decide)
    -- behind the sign: the unit, and the code
    have tail : ∀ (b : Int32) (I2 : Nat → Nat → Int32) (op : Int32), m_rd I2 t N (j + 1) ms → m_fr I I2 → ((b = 0 ∧ op = 5) ∨ (¬ b = 0 ∧ op = 4)) → (∀ r I2, m_fr I I2 → m_re t N ms (r_bd (r_bd (r_un (p_K t N) (p_A t N) (j + 1)) (fun j => .ok (j, [(op, 0)]))) (r_pl (p_K t N) (p_A t N) k)) r I2 → X.2.2.2.2.2.2 r (n, K, L, I2, J, G)) → zV X 74 [some (.ref 71), some (.int b)] [] (n, K, L, I2, J, G) 0 0 := by
      intro b I2 op hr2 hf2 hb hQ2
      refine zW_ok hj B184_74 74 _ _ _ _ _ b184_74 ?_
      simp only [B184_74, zW, z_wp1, z_ld, z_f0, z_f1, z_f2, z_f3, List.getElem?_cons_zero, List.getElem?_cons_succ, true_and, and_true, Int32.reduceOfInt, z_i10, z_i01, Int32.reduceLT, Int32.reduceLE, Int32.reduceAdd, Int32.reduceSub, z_set, z_set2, z_kil, List.set_cons_zero, List.set_cons_succ, List.take_succ_cons, List.take_zero, List.drop_succ_cons, List.drop_zero, List.reverse_cons, List.reverse_nil, List.nil_append, List.cons_append, List.getD_cons_succ, List.getD_cons_zero, List.getD_nil, List.length_cons, List.length_nil, List.map_cons, List.map_nil, List.sum_cons, List.sum_nil, Nat.reduceAdd, Nat.reduceLeDiff, Value.category, Option.toList, true_or, or_true, z_ua, ↓reduceIte, Nat.reduceEqDiff, eq_self, not_true_eq_false, not_false_eq_true, false_implies, true_implies, Classical.not_not, Nat.le_refl, Nat.zero_le, sK71 hS]
      try dsimp only
      refine z_callQ (c183 (I := I2) (J := J) hS hr2) (by omega) (by omega) (by omega) (Nat.le_of_ble_eq_true rfl) ?_
      rintro r h' ⟨I3, rfl, f3, e3⟩
      cases hR : r_un (p_K t N) (p_A t N) (j + 1) with
      | error e =>
        rw [hR] at e3 hQ2
        obtain ⟨rfl, e4, e5⟩ := m_re_er.mp e3
        simp only [zW, z_wp1, z_ld, z_f0, z_f1, z_f2, z_f3, List.getElem?_cons_zero, List.getElem?_cons_succ, true_and, and_true, Int32.reduceOfInt, z_i10, z_i01, Int32.reduceLT, Int32.reduceLE, Int32.reduceAdd, Int32.reduceSub, z_set, z_set2, z_kil, List.set_cons_zero, List.set_cons_succ, List.take_succ_cons, List.take_zero, List.drop_succ_cons, List.drop_zero, List.reverse_cons, List.reverse_nil, List.nil_append, List.cons_append, List.getD_cons_succ, List.getD_cons_zero, List.getD_nil, List.length_cons, List.length_nil, List.map_cons, List.map_nil, List.sum_cons, List.sum_nil, Nat.reduceAdd, Nat.reduceLeDiff, Value.category, Option.toList, true_or, or_true, z_ua, ↓reduceIte, Nat.reduceEqDiff, eq_self, not_true_eq_false, not_false_eq_true, false_implies, true_implies, Classical.not_not, Nat.le_refl, Nat.zero_le]
        try dsimp only
        exact hQ2 _ _ (hf2.tr f3) (m_re_er.mpr ⟨rfl, e4, e5⟩)
      | ok x =>
        rw [hR] at e3 hQ2
        obtain ⟨rfl, r3⟩ := m_re_ok.mp e3
        obtain ⟨g1, g2⟩ := r_un_go _ _ _ x hR
        obtain ⟨h03, hc3, hl3⟩ := m_rd_iff.mp r3
        have hle3 := r3.le
        have hlen : (ms ++ x.2).length + 1 ≤ x.1 := by rw [List.length_append]; omega
        simp only [zW, z_wp1, z_ld, z_f0, z_f1, z_f2, z_f3, List.getElem?_cons_zero, List.getElem?_cons_succ, true_and, and_true, Int32.reduceOfInt, z_i10, z_i01, Int32.reduceLT, Int32.reduceLE, Int32.reduceAdd, Int32.reduceSub, z_set, z_set2, z_kil, List.set_cons_zero, List.set_cons_succ, List.take_succ_cons, List.take_zero, List.drop_succ_cons, List.drop_zero, List.reverse_cons, List.reverse_nil, List.nil_append, List.cons_append, List.getD_cons_succ, List.getD_cons_zero, List.getD_nil, List.length_cons, List.length_nil, List.map_cons, List.map_nil, List.sum_cons, List.sum_nil, Nat.reduceAdd, Nat.reduceLeDiff, Value.category, Option.toList, true_or, or_true, z_ua, ↓reduceIte, Nat.reduceEqDiff, eq_self, not_true_eq_false, not_false_eq_true, false_implies, true_implies, Classical.not_not, Nat.le_refl, Nat.zero_le]
        try dsimp only
        have put : zV X 94 [some (.ref 71), some (.int b)] [.int op, .ref 71] (n, K, L, I3, J, G) 0 0 := by
          refine zW_ok hj B184_94 94 _ _ _ _ _ b184_94 ?_
          simp only [B184_94, zW, z_wp1, z_ld, z_f0, z_f1, z_f2, z_f3, List.getElem?_cons_zero, List.getElem?_cons_succ, true_and, and_true, Int32.reduceOfInt, z_i10, z_i01, Int32.reduceLT, Int32.reduceLE, Int32.reduceAdd, Int32.reduceSub, z_set, z_set2, z_kil, List.set_cons_zero, List.set_cons_succ, List.take_succ_cons, List.take_zero, List.drop_succ_cons, List.drop_zero, List.reverse_cons, List.reverse_nil, List.nil_append, List.cons_append, List.getD_cons_succ, List.getD_cons_zero, List.getD_nil, List.length_cons, List.length_nil, List.map_cons, List.map_nil, List.sum_cons, List.sum_nil, Nat.reduceAdd, Nat.reduceLeDiff, Value.category, Option.toList, true_or, or_true, z_ua, ↓reduceIte, Nat.reduceEqDiff, eq_self, not_true_eq_false, not_false_eq_true, false_implies, true_implies, Classical.not_not, Nat.le_refl, Nat.zero_le, sK71 hS]
          try dsimp only
          refine z_callQ (c182 (I := I3) (J := J) hS hc3 (by omega) op 0) (by omega) (by omega) (by omega) (Nat.le_of_ble_eq_true rfl) ?_
          rintro r h' ⟨rfl, I4, rfl, f4, g4, c4⟩
          simp only [zW, z_wp1, z_ld, z_f0, z_f1, z_f2, z_f3, List.getElem?_cons_zero, List.getElem?_cons_succ, true_and, and_true, Int32.reduceOfInt, z_i10, z_i01, Int32.reduceLT, Int32.reduceLE, Int32.reduceAdd, Int32.reduceSub, z_set, z_set2, z_kil, List.set_cons_zero, List.set_cons_succ, List.take_succ_cons, List.take_zero, List.drop_succ_cons, List.drop_zero, List.reverse_cons, List.reverse_nil, List.nil_append, List.cons_append, List.getD_cons_succ, List.getD_cons_zero, List.getD_nil, List.length_cons, List.length_nil, List.map_cons, List.map_nil, List.sum_cons, List.sum_nil, Nat.reduceAdd, Nat.reduceLeDiff, Value.category, Option.toList, true_or, or_true, z_ua, ↓reduceIte, Nat.reduceEqDiff, eq_self, not_true_eq_false, not_false_eq_true, false_implies, true_implies, Classical.not_not, Nat.le_refl, Nat.zero_le]
          try dsimp only
          refine ih x.1 (ms ++ x.2 ++ [(op, 0)]) I4 _ (r3.em f4 g4 c4 hlen) (by omega) ((hf2.tr f3).tr f4) (fun r I5 f5 e5 => hQ2 r I5 f5 ?_)
          rw [r_bd_k (y := x) (f := fun j => .ok (j, [(op, 0)])) (z := (x.1, [(op, 0)])) rfl]
          exact m_re_bd (y := (x.1, x.2 ++ [(op, 0)])) (by rw [← List.append_assoc]; exact e5)
        refine ⟨fun _ => ?_, fun q => absurd q (by decide)⟩
        refine zW_ok hj B184_84 84 _ _ _ _ _ b184_84 ?_
        simp only [B184_84, zW, z_wp1, z_ld, z_f0, z_f1, z_f2, z_f3, List.getElem?_cons_zero, List.getElem?_cons_succ, true_and, and_true, Int32.reduceOfInt, z_i10, z_i01, Int32.reduceLT, Int32.reduceLE, Int32.reduceAdd, Int32.reduceSub, z_set, z_set2, z_kil, List.set_cons_zero, List.set_cons_succ, List.take_succ_cons, List.take_zero, List.drop_succ_cons, List.drop_zero, List.reverse_cons, List.reverse_nil, List.nil_append, List.cons_append, List.getD_cons_succ, List.getD_cons_zero, List.getD_nil, List.length_cons, List.length_nil, List.map_cons, List.map_nil, List.sum_cons, List.sum_nil, Nat.reduceAdd, Nat.reduceLeDiff, Value.category, Option.toList, true_or, or_true, z_ua, ↓reduceIte, Nat.reduceEqDiff, eq_self, not_true_eq_false, not_false_eq_true, false_implies, true_implies, Classical.not_not, Nat.le_refl, Nat.zero_le, sK71 hS]
        try dsimp only
        refine ⟨fun hb0 => ?_, fun hb0 => ?_⟩
        · have e : op = 5 := hb.elim (fun q => q.2) (fun q => absurd hb0 q.1)
          refine zW_ok hj B184_93 93 _ _ _ _ _ b184_93 ?_
          simp only [B184_93, zW, z_wp1, z_ld, z_f0, z_f1, z_f2, z_f3, List.getElem?_cons_zero, List.getElem?_cons_succ, true_and, and_true, Int32.reduceOfInt, z_i10, z_i01, Int32.reduceLT, Int32.reduceLE, Int32.reduceAdd, Int32.reduceSub, z_set, z_set2, z_kil, List.set_cons_zero, List.set_cons_succ, List.take_succ_cons, List.take_zero, List.drop_succ_cons, List.drop_zero, List.reverse_cons, List.reverse_nil, List.nil_append, List.cons_append, List.getD_cons_succ, List.getD_cons_zero, List.getD_nil, List.length_cons, List.length_nil, List.map_cons, List.map_nil, List.sum_cons, List.sum_nil, Nat.reduceAdd, Nat.reduceLeDiff, Value.category, Option.toList, true_or, or_true, z_ua, ↓reduceIte, Nat.reduceEqDiff, eq_self, not_true_eq_false, not_false_eq_true, false_implies, true_implies, Classical.not_not, Nat.le_refl, Nat.zero_le]
          try dsimp only
          rw [e] at put
          exact put
        · have e : op = 4 := hb.elim (fun q => absurd q.1 hb0) (fun q => q.2)
          rw [e] at put
          exact put
    have nx : ∀ (b : Int32) (hk0 : ¬ p_K t N j = 0) (op : Int32), z_b (p_K t N j = 5) = b → (∀ I2, (b = 0 → p_K t N (j + 1) = 17) → m_rd I2 t N (j + 1) ms → m_fr I I2 → zV X 57 [some (.ref 71), some (.int b)] [] (n, K, L, I2, J, G) 0 0) → (∀ I2, b = 0 → m_rd I2 t N (j + 1) ms → m_fr I I2 → ¬ p_K t N (j + 1) = 17 → X.2.2.2.2.2.2 (some (.int (-1))) (n, K, L, z_u (z_u I2 71 26 1) 71 27 (I2 71 13), J, G)) → zV X 28 [some (.ref 71), x1] [] (n, K, L, I', J, G) 0 0 := by
      intro b hk0 op hb k57 kf
      refine zW_ok hj B184_28 28 _ _ _ _ _ b184_28 ?_
      simp only [B184_28, zW, z_wp1, z_ld, z_f0, z_f1, z_f2, z_f3, List.getElem?_cons_zero, List.getElem?_cons_succ, true_and, and_true, Int32.reduceOfInt, z_i10, z_i01, Int32.reduceLT, Int32.reduceLE, Int32.reduceAdd, Int32.reduceSub, z_set, z_set2, z_kil, List.set_cons_zero, List.set_cons_succ, List.take_succ_cons, List.take_zero, List.drop_succ_cons, List.drop_zero, List.reverse_cons, List.reverse_nil, List.nil_append, List.cons_append, List.getD_cons_succ, List.getD_cons_zero, List.getD_nil, List.length_cons, List.length_nil, List.map_cons, List.map_nil, List.sum_cons, List.sum_nil, Nat.reduceAdd, Nat.reduceLeDiff, Value.category, Option.toList, true_or, or_true, z_ua, ↓reduceIte, Nat.reduceEqDiff, eq_self, not_true_eq_false, not_false_eq_true, false_implies, true_implies, Classical.not_not, Nat.le_refl, Nat.zero_le, sK71 hS]
      try dsimp only
      refine z_callD (c5) (by omega) (by omega) (by omega) (Nat.le_of_ble_eq_true rfl) ?_
      try simp only [zW, z_wp1, z_ld, z_f0, z_f1, z_f2, z_f3, List.getElem?_cons_zero, List.getElem?_cons_succ, true_and, and_true, Int32.reduceOfInt, z_i10, z_i01, Int32.reduceLT, Int32.reduceLE, Int32.reduceAdd, Int32.reduceSub, z_set, z_set2, z_kil, List.set_cons_zero, List.set_cons_succ, List.take_succ_cons, List.take_zero, List.drop_succ_cons, List.drop_zero, List.reverse_cons, List.reverse_nil, List.nil_append, List.cons_append, List.getD_cons_succ, List.getD_cons_zero, List.getD_nil, List.length_cons, List.length_nil, List.map_cons, List.map_nil, List.sum_cons, List.sum_nil, Nat.reduceAdd, Nat.reduceLeDiff, Value.category, Option.toList, true_or, or_true, z_ua, ↓reduceIte, Nat.reduceEqDiff, eq_self, not_true_eq_false, not_false_eq_true, false_implies, true_implies, Classical.not_not, Nat.le_refl, Nat.zero_le, sK71 hS, hb]
      try dsimp only
      refine z_callQ (c177r (I := I') (J := J) hS h0) (by omega) (by omega) (by omega) (Nat.le_of_ble_eq_true rfl) ?_
      rintro r h' ⟨rfl, I2, rfl, q1, q2, q3, q4⟩
      obtain ⟨f2, r2, cc2⟩ := h0.nx hk0 q1 q2 q3 q4
      have hr2 : m_rd I2 t N (j + 1) ms := m_rd_iff.mpr ⟨r2, cc2 _ hc, by omega⟩
      have en := t_nu r2.2.2.2.2.2.2.2.1
      simp only [zW, z_wp1, z_ld, z_f0, z_f1, z_f2, z_f3, List.getElem?_cons_zero, List.getElem?_cons_succ, true_and, and_true, Int32.reduceOfInt, z_i10, z_i01, Int32.reduceLT, Int32.reduceLE, Int32.reduceAdd, Int32.reduceSub, z_set, z_set2, z_kil, List.set_cons_zero, List.set_cons_succ, List.take_succ_cons, List.take_zero, List.drop_succ_cons, List.drop_zero, List.reverse_cons, List.reverse_nil, List.nil_append, List.cons_append, List.getD_cons_succ, List.getD_cons_zero, List.getD_nil, List.length_cons, List.length_nil, List.map_cons, List.map_nil, List.sum_cons, List.sum_nil, Nat.reduceAdd, Nat.reduceLeDiff, Value.category, Option.toList, true_or, or_true, z_ua, ↓reduceIte, Nat.reduceEqDiff, eq_self, not_true_eq_false, not_false_eq_true, false_implies, true_implies, Classical.not_not, Nat.le_refl, Nat.zero_le, sK71 hS, en]
      try dsimp only
      refine ⟨fun hb0 => k57 I2 (fun q => absurd q hb0) hr2 (hfr.tr f2), fun hb0 => ⟨fun h17 => k57 I2 (fun _ => h17) hr2 (hfr.tr f2), fun h17 => ?_⟩⟩
      refine z_callD (c178 (I := I2) (J := J) hS 1) (by omega) (by omega) (by omega) (Nat.le_of_ble_eq_true rfl) ?_
      try simp only [zW, z_wp1, z_ld, z_f0, z_f1, z_f2, z_f3, List.getElem?_cons_zero, List.getElem?_cons_succ, true_and, and_true, Int32.reduceOfInt, z_i10, z_i01, Int32.reduceLT, Int32.reduceLE, Int32.reduceAdd, Int32.reduceSub, z_set, z_set2, z_kil, List.set_cons_zero, List.set_cons_succ, List.take_succ_cons, List.take_zero, List.drop_succ_cons, List.drop_zero, List.reverse_cons, List.reverse_nil, List.nil_append, List.cons_append, List.getD_cons_succ, List.getD_cons_zero, List.getD_nil, List.length_cons, List.length_nil, List.map_cons, List.map_nil, List.sum_cons, List.sum_nil, Nat.reduceAdd, Nat.reduceLeDiff, Value.category, Option.toList, true_or, or_true, z_ua, ↓reduceIte, Nat.reduceEqDiff, eq_self, not_true_eq_false, not_false_eq_true, false_implies, true_implies, Classical.not_not, Nat.le_refl, Nat.zero_le, sK71 hS]
      try dsimp only
      exact kf I2 hb0 hr2 (hfr.tr f2) h17
    by_cases h5 : p_K t N j = 5
    · rw [r_pl, if_pos h5] at hQ
      refine zW_ok hj B184_10 10 _ _ _ _ _ b184_10 ?_
      simp only [B184_10, zW, z_wp1, z_ld, z_f0, z_f1, z_f2, z_f3, List.getElem?_cons_zero, List.getElem?_cons_succ, true_and, and_true, Int32.reduceOfInt, z_i10, z_i01, Int32.reduceLT, Int32.reduceLE, Int32.reduceAdd, Int32.reduceSub, z_set, z_set2, z_kil, List.set_cons_zero, List.set_cons_succ, List.take_succ_cons, List.take_zero, List.drop_succ_cons, List.drop_zero, List.reverse_cons, List.reverse_nil, List.nil_append, List.cons_append, List.getD_cons_succ, List.getD_cons_zero, List.getD_nil, List.length_cons, List.length_nil, List.map_cons, List.map_nil, List.sum_cons, List.sum_nil, Nat.reduceAdd, Nat.reduceLeDiff, Value.category, Option.toList, true_or, or_true, z_ua, ↓reduceIte, Nat.reduceEqDiff, eq_self, not_true_eq_false, not_false_eq_true, false_implies, true_implies, Classical.not_not, Nat.le_refl, Nat.zero_le, sK71 hS]
      try dsimp only
      refine z_callD (c5) (by omega) (by omega) (by omega) (Nat.le_of_ble_eq_true rfl) ?_
      try simp only [zW, z_wp1, z_ld, z_f0, z_f1, z_f2, z_f3, List.getElem?_cons_zero, List.getElem?_cons_succ, true_and, and_true, Int32.reduceOfInt, z_i10, z_i01, Int32.reduceLT, Int32.reduceLE, Int32.reduceAdd, Int32.reduceSub, z_set, z_set2, z_kil, List.set_cons_zero, List.set_cons_succ, List.take_succ_cons, List.take_zero, List.drop_succ_cons, List.drop_zero, List.reverse_cons, List.reverse_nil, List.nil_append, List.cons_append, List.getD_cons_succ, List.getD_cons_zero, List.getD_nil, List.length_cons, List.length_nil, List.map_cons, List.map_nil, List.sum_cons, List.sum_nil, Nat.reduceAdd, Nat.reduceLeDiff, Value.category, Option.toList, true_or, or_true, z_ua, ↓reduceIte, Nat.reduceEqDiff, eq_self, not_true_eq_false, not_false_eq_true, false_implies, true_implies, Classical.not_not, Nat.le_refl, Nat.zero_le, sK71 hS, z_b1 h5]
      try dsimp only
      refine nx 1 (by rw [h5]; decide) 4 (z_b1 h5) (fun I2 _ hr2 hf2 => ?_) (fun I2 q => absurd q (by decide))
      refine zW_ok hj B184_57 57 _ _ _ _ _ b184_57 ?_
      simp only [B184_57, zW, z_wp1, z_ld, z_f0, z_f1, z_f2, z_f3, List.getElem?_cons_zero, List.getElem?_cons_succ, true_and, and_true, Int32.reduceOfInt, z_i10, z_i01, Int32.reduceLT, Int32.reduceLE, Int32.reduceAdd, Int32.reduceSub, z_set, z_set2, z_kil, List.set_cons_zero, List.set_cons_succ, List.take_succ_cons, List.take_zero, List.drop_succ_cons, List.drop_zero, List.reverse_cons, List.reverse_nil, List.nil_append, List.cons_append, List.getD_cons_succ, List.getD_cons_zero, List.getD_nil, List.length_cons, List.length_nil, List.map_cons, List.map_nil, List.sum_cons, List.sum_nil, Nat.reduceAdd, Nat.reduceLeDiff, Value.category, Option.toList, true_or, or_true, z_ua, ↓reduceIte, Nat.reduceEqDiff, eq_self, not_true_eq_false, not_false_eq_true, false_implies, true_implies, Classical.not_not, Nat.le_refl, Nat.zero_le, sK71 hS]
      try dsimp only
      exact tail 1 I2 4 hr2 hf2 (Or.inr ⟨by decide, rfl⟩) hQ
    · by_cases h6 : p_K t N j = 6
      · rw [r_pl, if_neg h5, if_pos h6] at hQ
        refine zW_ok hj B184_10 10 _ _ _ _ _ b184_10 ?_
        simp only [B184_10, zW, z_wp1, z_ld, z_f0, z_f1, z_f2, z_f3, List.getElem?_cons_zero, List.getElem?_cons_succ, true_and, and_true, Int32.reduceOfInt, z_i10, z_i01, Int32.reduceLT, Int32.reduceLE, Int32.reduceAdd, Int32.reduceSub, z_set, z_set2, z_kil, List.set_cons_zero, List.set_cons_succ, List.take_succ_cons, List.take_zero, List.drop_succ_cons, List.drop_zero, List.reverse_cons, List.reverse_nil, List.nil_append, List.cons_append, List.getD_cons_succ, List.getD_cons_zero, List.getD_nil, List.length_cons, List.length_nil, List.map_cons, List.map_nil, List.sum_cons, List.sum_nil, Nat.reduceAdd, Nat.reduceLeDiff, Value.category, Option.toList, true_or, or_true, z_ua, ↓reduceIte, Nat.reduceEqDiff, eq_self, not_true_eq_false, not_false_eq_true, false_implies, true_implies, Classical.not_not, Nat.le_refl, Nat.zero_le, sK71 hS]
        try dsimp only
        refine z_callD (c5) (by omega) (by omega) (by omega) (Nat.le_of_ble_eq_true rfl) ?_
        try simp only [zW, z_wp1, z_ld, z_f0, z_f1, z_f2, z_f3, List.getElem?_cons_zero, List.getElem?_cons_succ, true_and, and_true, Int32.reduceOfInt, z_i10, z_i01, Int32.reduceLT, Int32.reduceLE, Int32.reduceAdd, Int32.reduceSub, z_set, z_set2, z_kil, List.set_cons_zero, List.set_cons_succ, List.take_succ_cons, List.take_zero, List.drop_succ_cons, List.drop_zero, List.reverse_cons, List.reverse_nil, List.nil_append, List.cons_append, List.getD_cons_succ, List.getD_cons_zero, List.getD_nil, List.length_cons, List.length_nil, List.map_cons, List.map_nil, List.sum_cons, List.sum_nil, Nat.reduceAdd, Nat.reduceLeDiff, Value.category, Option.toList, true_or, or_true, z_ua, ↓reduceIte, Nat.reduceEqDiff, eq_self, not_true_eq_false, not_false_eq_true, false_implies, true_implies, Classical.not_not, Nat.le_refl, Nat.zero_le, sK71 hS, z_b0 h5]
        try dsimp only
        refine z_callD (c6) (by omega) (by omega) (by omega) (Nat.le_of_ble_eq_true rfl) ?_
        try simp only [zW, z_wp1, z_ld, z_f0, z_f1, z_f2, z_f3, List.getElem?_cons_zero, List.getElem?_cons_succ, true_and, and_true, Int32.reduceOfInt, z_i10, z_i01, Int32.reduceLT, Int32.reduceLE, Int32.reduceAdd, Int32.reduceSub, z_set, z_set2, z_kil, List.set_cons_zero, List.set_cons_succ, List.take_succ_cons, List.take_zero, List.drop_succ_cons, List.drop_zero, List.reverse_cons, List.reverse_nil, List.nil_append, List.cons_append, List.getD_cons_succ, List.getD_cons_zero, List.getD_nil, List.length_cons, List.length_nil, List.map_cons, List.map_nil, List.sum_cons, List.sum_nil, Nat.reduceAdd, Nat.reduceLeDiff, Value.category, Option.toList, true_or, or_true, z_ua, ↓reduceIte, Nat.reduceEqDiff, eq_self, not_true_eq_false, not_false_eq_true, false_implies, true_implies, Classical.not_not, Nat.le_refl, Nat.zero_le, sK71 hS, z_b1 h6]
        try dsimp only
        refine nx 0 (by rw [h6]; decide) 5 (z_b0 h5) (fun I2 h17' hr2 hf2 => ?_) (fun I2 _ hr2 hf2 h17 => ?_)
        · obtain ⟨h02, hc2, hl2⟩ := m_rd_iff.mp hr2
          have h17 := h17' rfl
          · rw [if_neg (fun q => q h17)] at hQ
            have ev := t_val h02.2.2.2.2.2.2.2.1 (Or.inr h17)
            have eu : r_un (p_K t N) (p_A t N) (j + 1) = .ok (j + 2, [(0, p_A t N (j + 1))]) := by
              rw [r_un, if_pos (Or.inr h17), if_neg (by rw [h17]; decide)]
            refine zW_ok hj B184_57 57 _ _ _ _ _ b184_57 ?_
            simp only [B184_57, zW, z_wp1, z_ld, z_f0, z_f1, z_f2, z_f3, List.getElem?_cons_zero, List.getElem?_cons_succ, true_and, and_true, Int32.reduceOfInt, z_i10, z_i01, Int32.reduceLT, Int32.reduceLE, Int32.reduceAdd, Int32.reduceSub, z_set, z_set2, z_kil, List.set_cons_zero, List.set_cons_succ, List.take_succ_cons, List.take_zero, List.drop_succ_cons, List.drop_zero, List.reverse_cons, List.reverse_nil, List.nil_append, List.cons_append, List.getD_cons_succ, List.getD_cons_zero, List.getD_nil, List.length_cons, List.length_nil, List.map_cons, List.map_nil, List.sum_cons, List.sum_nil, Nat.reduceAdd, Nat.reduceLeDiff, Value.category, Option.toList, true_or, or_true, z_ua, ↓reduceIte, Nat.reduceEqDiff, eq_self, not_true_eq_false, not_false_eq_true, false_implies, true_implies, Classical.not_not, Nat.le_refl, Nat.zero_le, sK71 hS, ev]
            try dsimp only
            refine ⟨fun hv => ?_, fun hv => ?_⟩
            · rw [if_neg hv] at hQ
              refine tail 0 I2 5 hr2 hf2 (Or.inl ⟨rfl, rfl⟩) (fun r I3 f3 e3 => hQ r I3 f3 ?_)
              rw [eu, r_bd_k (y := (j + 2, [(0, p_A t N (j + 1))])) (f := fun j => .ok (j, [(5, 0)])) (z := (j + 2, [(5, 0)])) rfl] at e3
              exact e3
            · rw [if_pos hv] at hQ
              refine z_callD (c178 (I := I2) (J := J) hS 2) (by omega) (by omega) (by omega) (Nat.le_of_ble_eq_true rfl) ?_
              try simp only [zW, z_wp1, z_ld, z_f0, z_f1, z_f2, z_f3, List.getElem?_cons_zero, List.getElem?_cons_succ, true_and, and_true, Int32.reduceOfInt, z_i10, z_i01, Int32.reduceLT, Int32.reduceLE, Int32.reduceAdd, Int32.reduceSub, z_set, z_set2, z_kil, List.set_cons_zero, List.set_cons_succ, List.take_succ_cons, List.take_zero, List.drop_succ_cons, List.drop_zero, List.reverse_cons, List.reverse_nil, List.nil_append, List.cons_append, List.getD_cons_succ, List.getD_cons_zero, List.getD_nil, List.length_cons, List.length_nil, List.map_cons, List.map_nil, List.sum_cons, List.sum_nil, Nat.reduceAdd, Nat.reduceLeDiff, Value.category, Option.toList, true_or, or_true, z_ua, ↓reduceIte, Nat.reduceEqDiff, eq_self, not_true_eq_false, not_false_eq_true, false_implies, true_implies, Classical.not_not, Nat.le_refl, Nat.zero_le, sK71 hS]
              try dsimp only
              exact hQ _ _ (hf2.tr (m_fr_f I2 _ _)) (hr2.f 2)
        · rw [if_pos h17] at hQ
          exact hQ _ _ (hf2.tr (m_fr_f I2 _ _)) (hr2.f 1)
      · rw [r_pl, if_neg h5, if_neg h6] at hQ
        refine zW_ok hj B184_10 10 _ _ _ _ _ b184_10 ?_
        simp only [B184_10, zW, z_wp1, z_ld, z_f0, z_f1, z_f2, z_f3, List.getElem?_cons_zero, List.getElem?_cons_succ, true_and, and_true, Int32.reduceOfInt, z_i10, z_i01, Int32.reduceLT, Int32.reduceLE, Int32.reduceAdd, Int32.reduceSub, z_set, z_set2, z_kil, List.set_cons_zero, List.set_cons_succ, List.take_succ_cons, List.take_zero, List.drop_succ_cons, List.drop_zero, List.reverse_cons, List.reverse_nil, List.nil_append, List.cons_append, List.getD_cons_succ, List.getD_cons_zero, List.getD_nil, List.length_cons, List.length_nil, List.map_cons, List.map_nil, List.sum_cons, List.sum_nil, Nat.reduceAdd, Nat.reduceLeDiff, Value.category, Option.toList, true_or, or_true, z_ua, ↓reduceIte, Nat.reduceEqDiff, eq_self, not_true_eq_false, not_false_eq_true, false_implies, true_implies, Classical.not_not, Nat.le_refl, Nat.zero_le, sK71 hS]
        try dsimp only
        refine z_callD (c5) (by omega) (by omega) (by omega) (Nat.le_of_ble_eq_true rfl) ?_
        try simp only [zW, z_wp1, z_ld, z_f0, z_f1, z_f2, z_f3, List.getElem?_cons_zero, List.getElem?_cons_succ, true_and, and_true, Int32.reduceOfInt, z_i10, z_i01, Int32.reduceLT, Int32.reduceLE, Int32.reduceAdd, Int32.reduceSub, z_set, z_set2, z_kil, List.set_cons_zero, List.set_cons_succ, List.take_succ_cons, List.take_zero, List.drop_succ_cons, List.drop_zero, List.reverse_cons, List.reverse_nil, List.nil_append, List.cons_append, List.getD_cons_succ, List.getD_cons_zero, List.getD_nil, List.length_cons, List.length_nil, List.map_cons, List.map_nil, List.sum_cons, List.sum_nil, Nat.reduceAdd, Nat.reduceLeDiff, Value.category, Option.toList, true_or, or_true, z_ua, ↓reduceIte, Nat.reduceEqDiff, eq_self, not_true_eq_false, not_false_eq_true, false_implies, true_implies, Classical.not_not, Nat.le_refl, Nat.zero_le, sK71 hS, z_b0 h5]
        try dsimp only
        refine z_callD (c6) (by omega) (by omega) (by omega) (Nat.le_of_ble_eq_true rfl) ?_
        try simp only [zW, z_wp1, z_ld, z_f0, z_f1, z_f2, z_f3, List.getElem?_cons_zero, List.getElem?_cons_succ, true_and, and_true, Int32.reduceOfInt, z_i10, z_i01, Int32.reduceLT, Int32.reduceLE, Int32.reduceAdd, Int32.reduceSub, z_set, z_set2, z_kil, List.set_cons_zero, List.set_cons_succ, List.take_succ_cons, List.take_zero, List.drop_succ_cons, List.drop_zero, List.reverse_cons, List.reverse_nil, List.nil_append, List.cons_append, List.getD_cons_succ, List.getD_cons_zero, List.getD_nil, List.length_cons, List.length_nil, List.map_cons, List.map_nil, List.sum_cons, List.sum_nil, Nat.reduceAdd, Nat.reduceLeDiff, Value.category, Option.toList, true_or, or_true, z_ua, ↓reduceIte, Nat.reduceEqDiff, eq_self, not_true_eq_false, not_false_eq_true, false_implies, true_implies, Classical.not_not, Nat.le_refl, Nat.zero_le, sK71 hS, z_b0 h6]
        try dsimp only
        refine zW_ok hj B184_101 101 _ _ _ _ _ b184_101 ?_
        simp only [B184_101, zW, z_wp1, z_ld, z_f0, z_f1, z_f2, z_f3, List.getElem?_cons_zero, List.getElem?_cons_succ, true_and, and_true, Int32.reduceOfInt, z_i10, z_i01, Int32.reduceLT, Int32.reduceLE, Int32.reduceAdd, Int32.reduceSub, z_set, z_set2, z_kil, List.set_cons_zero, List.set_cons_succ, List.take_succ_cons, List.take_zero, List.drop_succ_cons, List.drop_zero, List.reverse_cons, List.reverse_nil, List.nil_append, List.cons_append, List.getD_cons_succ, List.getD_cons_zero, List.getD_nil, List.length_cons, List.length_nil, List.map_cons, List.map_nil, List.sum_cons, List.sum_nil, Nat.reduceAdd, Nat.reduceLeDiff, Value.category, Option.toList, true_or, or_true, z_ua, ↓reduceIte, Nat.reduceEqDiff, eq_self, not_true_eq_false, not_false_eq_true, false_implies, true_implies, Classical.not_not, Nat.le_refl, Nat.zero_le]
        try dsimp only
        exact hQ _ _ hfr (m_re_ok.mpr ⟨rfl, by rw [List.append_nil]; exact hr⟩)
end PAR4
