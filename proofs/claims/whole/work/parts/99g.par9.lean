/-! The model's reader: readAny -/
/-- how a fault ends it -/
def q_er (X : zX) (n : Nat) (K L : Nat → Nat) (I : Nat → Nat → Int32) (J : Nat → Nat → Int64) (G : Nat → Nat → Value) (t : Nat → Int32) (N : Nat) (R : p_R) : Prop := ∀ e I2, R = .error e → m_f2 I I2 → I2 71 26 = e.1 → I2 71 27 = nI (p_P t N e.2) → X.2.2.2.2.2.2 (some (.int (-1))) (n, K, L, I2, J, G)
/-- what a claim does, with so many openings left -/
def q_cl (X : zX) (n : Nat) (K L : Nat → Nat) (I : Nat → Nat → Int32) (J : Nat → Nat → Int64) (G : Nat → Nat → Value) (t : Nat → Int32) (N d : Nat) : Prop :=
  ∀ (i o a b : Nat) (S : List Int32) (ms : List (Int32 × Int32)) (I' : Nat → Nat → Int32) (x3 : Option Value), m_ra I' t N i ms (List.replicate a 9 ++ S) o → p_lc 9 S = 0 → o + d = 8 → b ≤ o → a ≤ o → S.length ≤ 3 * (o - a) + 2 → m_f2 I I' →
    q_er X n K L I J G t N (r_cl (p_K t N) (p_A t N) d i) →
    (∀ y I2 x3, r_cl (p_K t N) (p_A t N) d i = .ok y → m_f2 I I2 → m_ra I2 t N y.1 (ms ++ y.2 ++ List.replicate a (9, 0)) S (o - a) → zV X 9 [some (.ref 71), some (.int (nI b)), some (.int 0), x3] [] (n, K, L, I2, J, G) 0 0) →
    zV X 9 [some (.ref 71), some (.int (nI b)), some (.int 1), x3] [] (n, K, L, I', J, G) 0 0
theorem p_lc_aw (w : Bool) (a : Bool) (T : List Int32) (hT : T = [] ∨ ∃ T', T = 13 :: T') : p_lc 10 ((if a then [10] else []) ++ ((if w then [11] else []) ++ T)) = (if a then 1 else 0) ∧ p_lc 11 ((if w then [11] else []) ++ T) = (if w then 1 else 0) ∧ p_lc 9 T = 0 := by
  rcases hT with rfl | ⟨T', rfl⟩ <;> cases w <;> cases a <;> simp [p_lc]
section PAR9
variable {l : Launch} {n : Nat} {K L : Nat → Nat} {I : Nat → Nat → Int32} {J : Nat → Nat → Int64} {G : Nat → Nat → Value} {t : Nat → Int32} {N i : Nat} {ms : List (Int32 × Int32)} {S : List Int32} {o : Nat}
/-- claims joined -/
theorem c189_q {X : zX} (hS : SS K L G) (hj : X.2.1 = 189) (hdp : X.2.2.1 = 7) (hm : X.2.2.2.1 = 0) (hs : X.2.2.2.2.1 = 0) {d o b : Nat} {T : List Int32} (hcl : q_cl X n K L I J G t N d) (hod : o + d = 8) (hT : T = [] ∨ ∃ T', T = 13 :: T') (hTl : T.length ≤ 3 * o) (hb : b ≤ o) : ∀ (k j : Nat) (w a : Bool) (ms : List (Int32 × Int32)) (I' : Nat → Nat → Int32) (x3 : Option Value), 802 ≤ j + k → m_ra I' t N j ms ((if a then [10] else []) ++ ((if w then [11] else []) ++ T)) o → m_f2 I I' → q_er X n K L I J G t N (r_cq (p_K t N) (r_cl (p_K t N) (p_A t N) d) k w j) → (∀ y I2 x3, r_cq (p_K t N) (r_cl (p_K t N) (p_A t N) d) k w j = .ok y → m_f2 I I2 → m_ra I2 t N y.1 (ms ++ (if a then [(10, 0)] else []) ++ y.2) T o → (b = 0 → X.2.2.2.2.2.2 (some (.int 0)) (n, K, L, I2, J, G)) ∧ (¬ b = 0 → zV X 193 [some (.ref 71), some (.int (nI b)), some (.int 0), x3] [] (n, K, L, I2, J, G) 0 0)) → zV X 9 [some (.ref 71), some (.int (nI b)), some (.int 0), x3] [] (n, K, L, I', J, G) 0 0 := by
  intro k
  induction k with
  | zero =>
    intro j w a ms I' x3 hk hra
    have := hra.1.le
    omega
  | succ k ih =>
    intro j w a ms I' x3 hk hra hf her hok
    obtain ⟨s1, s2, s3⟩ := p_lc_aw w a T hT
    have hle := hra.1.le
    have dr1 : ((if a then [10] else []) ++ ((if w then [11] else []) ++ T)).drop (if a then 1 else 0) = (if w then [11] else []) ++ T := by cases a <;> simp
    have dr2 : ((if w then [11] else []) ++ T).drop (if w then 1 else 0) = T := by cases w <;> simp
    have rp1 : List.replicate (if a then 1 else 0) ((10 : Int32), (0 : Int32)) = if a then [(10, 0)] else [] := by cases a <;> simp
    have rp2 : List.replicate (if w then 1 else 0) ((11 : Int32), (0 : Int32)) = if w then [(11, 0)] else [] := by cases w <;> simp
    have lw : (if w then [11] else [] : List Int32).length ≤ 1 := by cases w <;> simp
    have c13 := c179 (l := X.1) (n := n) (J := J) hS hra.rd (w := 7) (k := 13) (by decide) (by decide)
    have c12 := c179 (l := X.1) (n := n) (J := J) hS hra.rd (w := 6) (k := 12) (by decide) (by decide)
    have st10 := c188a (l := X.1) (n := n) (J := J) hS hra 10 (fun q => absurd q (by decide))
    rw [s1, dr1, rp1, if_neg (show ¬ (10 : Int32) = 9 by decide)] at st10
    have both : ∀ I2, m_f2 I' I2 → m_ra I2 t N j (ms ++ if a then [(10, 0)] else []) ((if w then [11] else []) ++ T) o → z_Ctr X.1 1 188 [.ref 71, .int 11] (n, K, L, I2, J, G) 0 0 (fun r h' => r = none ∧ ∃ I3, h' = (n, K, L, I3, J, G) ∧ m_f2 I' I3 ∧ m_ra I3 t N j (ms ++ (if a then [(10, 0)] else []) ++ (if w then [(11, 0)] else [])) T o) := by
      intro I2 f2 ra2
      have st11 := c188a (l := X.1) (n := n) (J := J) hS ra2 11 (fun q => absurd q (by decide))
      rw [s2, dr2, rp2, if_neg (show ¬ (11 : Int32) = 9 by decide)] at st11
      refine st11.mono (fun r h' q => ?_)
      obtain ⟨rfl, I3, rfl, f3, ra3⟩ := q
      exact ⟨rfl, I3, rfl, f2.tr f3, ra3⟩
    refine zW_ok hj B189_9 9 _ _ _ _ _ b189_9 ?_
    simp only [B189_9, zW, z_wp1, z_ld, z_f0, z_f1, z_f2, z_f3, List.getElem?_cons_zero, List.getElem?_cons_succ, true_and, and_true, Int32.reduceOfInt, z_i10, z_i01, Int32.reduceLT, Int32.reduceLE, Int32.reduceAdd, Int32.reduceSub, z_set, z_set2, z_kil, List.set_cons_zero, List.set_cons_succ, List.take_succ_cons, List.take_zero, List.drop_succ_cons, List.drop_zero, List.reverse_cons, List.reverse_nil, List.nil_append, List.cons_append, List.getD_cons_succ, List.getD_cons_zero, List.getD_nil, List.length_cons, List.length_nil, List.map_cons, List.map_nil, List.sum_cons, List.sum_nil, Nat.reduceAdd, Nat.reduceLeDiff, Value.category, Option.toList, true_or, or_true, z_ua, ↓reduceIte, Nat.reduceEqDiff, eq_self, not_true_eq_false, not_false_eq_true, false_implies, true_implies, Classical.not_not, Nat.le_refl, Nat.zero_le, sK71 hS]
    try dsimp only
    refine zW_ok hj B189_109 109 _ _ _ _ _ b189_109 ?_
    simp only [B189_109, zW, z_wp1, z_ld, z_f0, z_f1, z_f2, z_f3, List.getElem?_cons_zero, List.getElem?_cons_succ, true_and, and_true, Int32.reduceOfInt, z_i10, z_i01, Int32.reduceLT, Int32.reduceLE, Int32.reduceAdd, Int32.reduceSub, z_set, z_set2, z_kil, List.set_cons_zero, List.set_cons_succ, List.take_succ_cons, List.take_zero, List.drop_succ_cons, List.drop_zero, List.reverse_cons, List.reverse_nil, List.nil_append, List.cons_append, List.getD_cons_succ, List.getD_cons_zero, List.getD_nil, List.length_cons, List.length_nil, List.map_cons, List.map_nil, List.sum_cons, List.sum_nil, Nat.reduceAdd, Nat.reduceLeDiff, Value.category, Option.toList, true_or, or_true, z_ua, ↓reduceIte, Nat.reduceEqDiff, eq_self, not_true_eq_false, not_false_eq_true, false_implies, true_implies, Classical.not_not, Nat.le_refl, Nat.zero_le, sK71 hS]
    try dsimp only
    by_cases h13 : p_K t N j = 13
    · have n12 : ¬ p_K t N j = 12 := by rw [h13]; decide
      have hk0 : ¬ p_K t N j = 0 := by rw [h13]; decide
      rw [r_cq, if_neg n12, if_pos h13] at her hok
      refine z_callD (c13) (by omega) (by omega) (by omega) (Nat.le_of_ble_eq_true rfl) ?_
      try simp only [zW, z_wp1, z_ld, z_f0, z_f1, z_f2, z_f3, List.getElem?_cons_zero, List.getElem?_cons_succ, true_and, and_true, Int32.reduceOfInt, z_i10, z_i01, Int32.reduceLT, Int32.reduceLE, Int32.reduceAdd, Int32.reduceSub, z_set, z_set2, z_kil, List.set_cons_zero, List.set_cons_succ, List.take_succ_cons, List.take_zero, List.drop_succ_cons, List.drop_zero, List.reverse_cons, List.reverse_nil, List.nil_append, List.cons_append, List.getD_cons_succ, List.getD_cons_zero, List.getD_nil, List.length_cons, List.length_nil, List.map_cons, List.map_nil, List.sum_cons, List.sum_nil, Nat.reduceAdd, Nat.reduceLeDiff, Value.category, Option.toList, true_or, or_true, z_ua, ↓reduceIte, Nat.reduceEqDiff, eq_self, not_true_eq_false, not_false_eq_true, false_implies, true_implies, Classical.not_not, Nat.le_refl, Nat.zero_le, sK71 hS, z_b1 h13]
      try dsimp only
      refine z_callQ st10 (by omega) (by omega) (by omega) (Nat.le_of_ble_eq_true rfl) ?_
      rintro r h' ⟨rfl, I2, rfl, f2, ra2⟩
      obtain ⟨g1, g2, g3, g4, g5, g6, g7⟩ := ra2
      have gl : ((if w then [11] else []) ++ T).length ≤ T.length + 1 := by rw [List.length_append]; omega
      obtain ⟨p1, p2, p3, p4, p5⟩ := m_rpu g1 g2 g3 10
      simp only [zW, z_wp1, z_ld, z_f0, z_f1, z_f2, z_f3, List.getElem?_cons_zero, List.getElem?_cons_succ, true_and, and_true, Int32.reduceOfInt, z_i10, z_i01, Int32.reduceLT, Int32.reduceLE, Int32.reduceAdd, Int32.reduceSub, z_set, z_set2, z_kil, List.set_cons_zero, List.set_cons_succ, List.take_succ_cons, List.take_zero, List.drop_succ_cons, List.drop_zero, List.reverse_cons, List.reverse_nil, List.nil_append, List.cons_append, List.getD_cons_succ, List.getD_cons_zero, List.getD_nil, List.length_cons, List.length_nil, List.map_cons, List.map_nil, List.sum_cons, List.sum_nil, Nat.reduceAdd, Nat.reduceLeDiff, Value.category, Option.toList, true_or, or_true, z_ua, ↓reduceIte, Nat.reduceEqDiff, eq_self, not_true_eq_false, not_false_eq_true, false_implies, true_implies, Classical.not_not, Nat.le_refl, Nat.zero_le, sK71 hS]
      try dsimp only
      refine z_callD (c187 (I := I2) (J := J) hS g3 (by omega) 10) (by omega) (by omega) (by omega) (Nat.le_of_ble_eq_true rfl) ?_
      try simp only [zW, z_wp1, z_ld, z_f0, z_f1, z_f2, z_f3, List.getElem?_cons_zero, List.getElem?_cons_succ, true_and, and_true, Int32.reduceOfInt, z_i10, z_i01, Int32.reduceLT, Int32.reduceLE, Int32.reduceAdd, Int32.reduceSub, z_set, z_set2, z_kil, List.set_cons_zero, List.set_cons_succ, List.take_succ_cons, List.take_zero, List.drop_succ_cons, List.drop_zero, List.reverse_cons, List.reverse_nil, List.nil_append, List.cons_append, List.getD_cons_succ, List.getD_cons_zero, List.getD_nil, List.length_cons, List.length_nil, List.map_cons, List.map_nil, List.sum_cons, List.sum_nil, Nat.reduceAdd, Nat.reduceLeDiff, Value.category, Option.toList, true_or, or_true, z_ua, ↓reduceIte, Nat.reduceEqDiff, eq_self, not_true_eq_false, not_false_eq_true, false_implies, true_implies, Classical.not_not, Nat.le_refl, Nat.zero_le, sK71 hS]
      try dsimp only
      refine z_callQ (c177a (J := J) hS p2 p3 p4 (p5.trans g4) (by rw [List.length_cons]; omega) (by rw [List.length_cons]; omega) g7 hk0) (by omega) (by omega) (by omega) (Nat.le_of_ble_eq_true rfl) ?_
      rintro r h' ⟨rfl, I3, rfl, f3, ra3⟩
      simp only [zW, z_wp1, z_ld, z_f0, z_f1, z_f2, z_f3, List.getElem?_cons_zero, List.getElem?_cons_succ, true_and, and_true, Int32.reduceOfInt, z_i10, z_i01, Int32.reduceLT, Int32.reduceLE, Int32.reduceAdd, Int32.reduceSub, z_set, z_set2, z_kil, List.set_cons_zero, List.set_cons_succ, List.take_succ_cons, List.take_zero, List.drop_succ_cons, List.drop_zero, List.reverse_cons, List.reverse_nil, List.nil_append, List.cons_append, List.getD_cons_succ, List.getD_cons_zero, List.getD_nil, List.length_cons, List.length_nil, List.map_cons, List.map_nil, List.sum_cons, List.sum_nil, Nat.reduceAdd, Nat.reduceLeDiff, Value.category, Option.toList, true_or, or_true, z_ua, ↓reduceIte, Nat.reduceEqDiff, eq_self, not_true_eq_false, not_false_eq_true, false_implies, true_implies, Classical.not_not, Nat.le_refl, Nat.zero_le, sK71 hS]
      try dsimp only
      have ff : m_f2 I I3 := ((hf.tr f2).tr p1).tr f3
      refine hcl (j + 1) o 0 b (10 :: ((if w then [11] else []) ++ T)) _ I3 x3 ra3 (by rw [p_lc, if_neg (by decide)]) hod hb (Nat.zero_le _) (by rw [List.length_cons]; omega) ff (fun e I4 he f4 e1 e2 => her e I4 (by rw [he, r_bd_r, r_bd_r]) f4 e1 e2) (fun y I4 x4 hy f4 ra4 => ?_)
      obtain ⟨ya, yb⟩ := r_cl_go _ _ _ _ y hy
      rw [Nat.sub_zero, List.replicate_zero, List.append_nil] at ra4
      rw [hy, r_bd_k (y := y) (z := (y.1, [(10, 0)])) rfl] at her hok
      refine ih y.1 w true _ I4 x4 (by omega) (by simpa using ra4) f4 (fun e I5 he f5 e1 e2 => her e I5 (r_bd_e2 he) f5 e1 e2) (fun z I5 x5 hz f5 ra5 => hok (z.1, y.2 ++ [(10, 0)] ++ z.2) I5 x5 (r_bd_k2 hz) f5 ?_)
      simpa [List.append_assoc] using ra5
    · refine z_callD (c13) (by omega) (by omega) (by omega) (Nat.le_of_ble_eq_true rfl) ?_
      try simp only [zW, z_wp1, z_ld, z_f0, z_f1, z_f2, z_f3, List.getElem?_cons_zero, List.getElem?_cons_succ, true_and, and_true, Int32.reduceOfInt, z_i10, z_i01, Int32.reduceLT, Int32.reduceLE, Int32.reduceAdd, Int32.reduceSub, z_set, z_set2, z_kil, List.set_cons_zero, List.set_cons_succ, List.take_succ_cons, List.take_zero, List.drop_succ_cons, List.drop_zero, List.reverse_cons, List.reverse_nil, List.nil_append, List.cons_append, List.getD_cons_succ, List.getD_cons_zero, List.getD_nil, List.length_cons, List.length_nil, List.map_cons, List.map_nil, List.sum_cons, List.sum_nil, Nat.reduceAdd, Nat.reduceLeDiff, Value.category, Option.toList, true_or, or_true, z_ua, ↓reduceIte, Nat.reduceEqDiff, eq_self, not_true_eq_false, not_false_eq_true, false_implies, true_implies, Classical.not_not, Nat.le_refl, Nat.zero_le, sK71 hS, z_b0 h13]
      try dsimp only
      refine zW_ok hj B189_139 139 _ _ _ _ _ b189_139 ?_
      simp only [B189_139, zW, z_wp1, z_ld, z_f0, z_f1, z_f2, z_f3, List.getElem?_cons_zero, List.getElem?_cons_succ, true_and, and_true, Int32.reduceOfInt, z_i10, z_i01, Int32.reduceLT, Int32.reduceLE, Int32.reduceAdd, Int32.reduceSub, z_set, z_set2, z_kil, List.set_cons_zero, List.set_cons_succ, List.take_succ_cons, List.take_zero, List.drop_succ_cons, List.drop_zero, List.reverse_cons, List.reverse_nil, List.nil_append, List.cons_append, List.getD_cons_succ, List.getD_cons_zero, List.getD_nil, List.length_cons, List.length_nil, List.map_cons, List.map_nil, List.sum_cons, List.sum_nil, Nat.reduceAdd, Nat.reduceLeDiff, Value.category, Option.toList, true_or, or_true, z_ua, ↓reduceIte, Nat.reduceEqDiff, eq_self, not_true_eq_false, not_false_eq_true, false_implies, true_implies, Classical.not_not, Nat.le_refl, Nat.zero_le, sK71 hS]
      try dsimp only
      by_cases h12 : p_K t N j = 12
      · have hk0 : ¬ p_K t N j = 0 := by rw [h12]; decide
        rw [r_cq, if_pos h12] at her hok
        refine z_callD (c12) (by omega) (by omega) (by omega) (Nat.le_of_ble_eq_true rfl) ?_
        try simp only [zW, z_wp1, z_ld, z_f0, z_f1, z_f2, z_f3, List.getElem?_cons_zero, List.getElem?_cons_succ, true_and, and_true, Int32.reduceOfInt, z_i10, z_i01, Int32.reduceLT, Int32.reduceLE, Int32.reduceAdd, Int32.reduceSub, z_set, z_set2, z_kil, List.set_cons_zero, List.set_cons_succ, List.take_succ_cons, List.take_zero, List.drop_succ_cons, List.drop_zero, List.reverse_cons, List.reverse_nil, List.nil_append, List.cons_append, List.getD_cons_succ, List.getD_cons_zero, List.getD_nil, List.length_cons, List.length_nil, List.map_cons, List.map_nil, List.sum_cons, List.sum_nil, Nat.reduceAdd, Nat.reduceLeDiff, Value.category, Option.toList, true_or, or_true, z_ua, ↓reduceIte, Nat.reduceEqDiff, eq_self, not_true_eq_false, not_false_eq_true, false_implies, true_implies, Classical.not_not, Nat.le_refl, Nat.zero_le, sK71 hS, z_b1 h12]
        try dsimp only
        refine z_callQ st10 (by omega) (by omega) (by omega) (Nat.le_of_ble_eq_true rfl) ?_
        rintro r h' ⟨rfl, I2, rfl, f2, ra2⟩
        simp only [zW, z_wp1, z_ld, z_f0, z_f1, z_f2, z_f3, List.getElem?_cons_zero, List.getElem?_cons_succ, true_and, and_true, Int32.reduceOfInt, z_i10, z_i01, Int32.reduceLT, Int32.reduceLE, Int32.reduceAdd, Int32.reduceSub, z_set, z_set2, z_kil, List.set_cons_zero, List.set_cons_succ, List.take_succ_cons, List.take_zero, List.drop_succ_cons, List.drop_zero, List.reverse_cons, List.reverse_nil, List.nil_append, List.cons_append, List.getD_cons_succ, List.getD_cons_zero, List.getD_nil, List.length_cons, List.length_nil, List.map_cons, List.map_nil, List.sum_cons, List.sum_nil, Nat.reduceAdd, Nat.reduceLeDiff, Value.category, Option.toList, true_or, or_true, z_ua, ↓reduceIte, Nat.reduceEqDiff, eq_self, not_true_eq_false, not_false_eq_true, false_implies, true_implies, Classical.not_not, Nat.le_refl, Nat.zero_le, sK71 hS]
        try dsimp only
        refine z_callQ (both I2 f2 ra2) (by omega) (by omega) (by omega) (Nat.le_of_ble_eq_true rfl) ?_
        rintro r h' ⟨rfl, I3, rfl, f3, ra3⟩
        obtain ⟨g1, g2, g3, g4, g5, g6, g7⟩ := ra3
        obtain ⟨p1, p2, p3, p4, p5⟩ := m_rpu g1 g2 g3 11
        simp only [zW, z_wp1, z_ld, z_f0, z_f1, z_f2, z_f3, List.getElem?_cons_zero, List.getElem?_cons_succ, true_and, and_true, Int32.reduceOfInt, z_i10, z_i01, Int32.reduceLT, Int32.reduceLE, Int32.reduceAdd, Int32.reduceSub, z_set, z_set2, z_kil, List.set_cons_zero, List.set_cons_succ, List.take_succ_cons, List.take_zero, List.drop_succ_cons, List.drop_zero, List.reverse_cons, List.reverse_nil, List.nil_append, List.cons_append, List.getD_cons_succ, List.getD_cons_zero, List.getD_nil, List.length_cons, List.length_nil, List.map_cons, List.map_nil, List.sum_cons, List.sum_nil, Nat.reduceAdd, Nat.reduceLeDiff, Value.category, Option.toList, true_or, or_true, z_ua, ↓reduceIte, Nat.reduceEqDiff, eq_self, not_true_eq_false, not_false_eq_true, false_implies, true_implies, Classical.not_not, Nat.le_refl, Nat.zero_le, sK71 hS]
        try dsimp only
        refine z_callD (c187 (I := I3) (J := J) hS g3 (by omega) 11) (by omega) (by omega) (by omega) (Nat.le_of_ble_eq_true rfl) ?_
        try simp only [zW, z_wp1, z_ld, z_f0, z_f1, z_f2, z_f3, List.getElem?_cons_zero, List.getElem?_cons_succ, true_and, and_true, Int32.reduceOfInt, z_i10, z_i01, Int32.reduceLT, Int32.reduceLE, Int32.reduceAdd, Int32.reduceSub, z_set, z_set2, z_kil, List.set_cons_zero, List.set_cons_succ, List.take_succ_cons, List.take_zero, List.drop_succ_cons, List.drop_zero, List.reverse_cons, List.reverse_nil, List.nil_append, List.cons_append, List.getD_cons_succ, List.getD_cons_zero, List.getD_nil, List.length_cons, List.length_nil, List.map_cons, List.map_nil, List.sum_cons, List.sum_nil, Nat.reduceAdd, Nat.reduceLeDiff, Value.category, Option.toList, true_or, or_true, z_ua, ↓reduceIte, Nat.reduceEqDiff, eq_self, not_true_eq_false, not_false_eq_true, false_implies, true_implies, Classical.not_not, Nat.le_refl, Nat.zero_le, sK71 hS]
        try dsimp only
        refine z_callQ (c177a (J := J) hS p2 p3 p4 (p5.trans g4) (by rw [List.length_cons]; omega) (by rw [List.length_cons]; omega) g7 hk0) (by omega) (by omega) (by omega) (Nat.le_of_ble_eq_true rfl) ?_
        rintro r h' ⟨rfl, I4, rfl, f4, ra4⟩
        simp only [zW, z_wp1, z_ld, z_f0, z_f1, z_f2, z_f3, List.getElem?_cons_zero, List.getElem?_cons_succ, true_and, and_true, Int32.reduceOfInt, z_i10, z_i01, Int32.reduceLT, Int32.reduceLE, Int32.reduceAdd, Int32.reduceSub, z_set, z_set2, z_kil, List.set_cons_zero, List.set_cons_succ, List.take_succ_cons, List.take_zero, List.drop_succ_cons, List.drop_zero, List.reverse_cons, List.reverse_nil, List.nil_append, List.cons_append, List.getD_cons_succ, List.getD_cons_zero, List.getD_nil, List.length_cons, List.length_nil, List.map_cons, List.map_nil, List.sum_cons, List.sum_nil, Nat.reduceAdd, Nat.reduceLeDiff, Value.category, Option.toList, true_or, or_true, z_ua, ↓reduceIte, Nat.reduceEqDiff, eq_self, not_true_eq_false, not_false_eq_true, false_implies, true_implies, Classical.not_not, Nat.le_refl, Nat.zero_le, sK71 hS]
        try dsimp only
        have ff : m_f2 I I4 := ((hf.tr f3).tr p1).tr f4
        refine hcl (j + 1) o 0 b (11 :: T) _ I4 x3 ra4 (by rw [p_lc, if_neg (by decide)]) hod hb (Nat.zero_le _) (by rw [List.length_cons]; omega) ff (fun e I5 he f5 e1 e2 => her e I5 (by rw [r_bd_e2 he, r_bd_r]) f5 e1 e2) (fun y I5 x5 hy f5 ra5 => ?_)
        obtain ⟨ya, yb⟩ := r_cl_go _ _ _ _ y hy
        rw [Nat.sub_zero, List.replicate_zero, List.append_nil] at ra5
        rw [r_bd_k2 hy] at her hok
        refine ih y.1 true false _ I5 x5 (by omega) (by simpa using ra5) f5 (fun e I6 he f6 e1 e2 => her e I6 (r_bd_e2 he) f6 e1 e2) (fun z I6 x6 hz f6 ra6 => hok (z.1, (if w then [(11, 0)] else []) ++ y.2 ++ z.2) I6 x6 (r_bd_k2 hz) f6 ?_)
        simpa [List.append_assoc] using ra6
      · rw [r_cq, if_neg h12, if_neg h13] at her hok
        refine z_callD (c12) (by omega) (by omega) (by omega) (Nat.le_of_ble_eq_true rfl) ?_
        try simp only [zW, z_wp1, z_ld, z_f0, z_f1, z_f2, z_f3, List.getElem?_cons_zero, List.getElem?_cons_succ, true_and, and_true, Int32.reduceOfInt, z_i10, z_i01, Int32.reduceLT, Int32.reduceLE, Int32.reduceAdd, Int32.reduceSub, z_set, z_set2, z_kil, List.set_cons_zero, List.set_cons_succ, List.take_succ_cons, List.take_zero, List.drop_succ_cons, List.drop_zero, List.reverse_cons, List.reverse_nil, List.nil_append, List.cons_append, List.getD_cons_succ, List.getD_cons_zero, List.getD_nil, List.length_cons, List.length_nil, List.map_cons, List.map_nil, List.sum_cons, List.sum_nil, Nat.reduceAdd, Nat.reduceLeDiff, Value.category, Option.toList, true_or, or_true, z_ua, ↓reduceIte, Nat.reduceEqDiff, eq_self, not_true_eq_false, not_false_eq_true, false_implies, true_implies, Classical.not_not, Nat.le_refl, Nat.zero_le, sK71 hS, z_b0 h12]
        try dsimp only
        refine zW_ok hj B189_175 175 _ _ _ _ _ b189_175 ?_
        simp only [B189_175, zW, z_wp1, z_ld, z_f0, z_f1, z_f2, z_f3, List.getElem?_cons_zero, List.getElem?_cons_succ, true_and, and_true, Int32.reduceOfInt, z_i10, z_i01, Int32.reduceLT, Int32.reduceLE, Int32.reduceAdd, Int32.reduceSub, z_set, z_set2, z_kil, List.set_cons_zero, List.set_cons_succ, List.take_succ_cons, List.take_zero, List.drop_succ_cons, List.drop_zero, List.reverse_cons, List.reverse_nil, List.nil_append, List.cons_append, List.getD_cons_succ, List.getD_cons_zero, List.getD_nil, List.length_cons, List.length_nil, List.map_cons, List.map_nil, List.sum_cons, List.sum_nil, Nat.reduceAdd, Nat.reduceLeDiff, Value.category, Option.toList, true_or, or_true, z_ua, ↓reduceIte, Nat.reduceEqDiff, eq_self, not_true_eq_false, not_false_eq_true, false_implies, true_implies, Classical.not_not, Nat.le_refl, Nat.zero_le, sK71 hS]
        try dsimp only
        refine z_callQ st10 (by omega) (by omega) (by omega) (Nat.le_of_ble_eq_true rfl) ?_
        rintro r h' ⟨rfl, I2, rfl, f2, ra2⟩
        simp only [zW, z_wp1, z_ld, z_f0, z_f1, z_f2, z_f3, List.getElem?_cons_zero, List.getElem?_cons_succ, true_and, and_true, Int32.reduceOfInt, z_i10, z_i01, Int32.reduceLT, Int32.reduceLE, Int32.reduceAdd, Int32.reduceSub, z_set, z_set2, z_kil, List.set_cons_zero, List.set_cons_succ, List.take_succ_cons, List.take_zero, List.drop_succ_cons, List.drop_zero, List.reverse_cons, List.reverse_nil, List.nil_append, List.cons_append, List.getD_cons_succ, List.getD_cons_zero, List.getD_nil, List.length_cons, List.length_nil, List.map_cons, List.map_nil, List.sum_cons, List.sum_nil, Nat.reduceAdd, Nat.reduceLeDiff, Value.category, Option.toList, true_or, or_true, z_ua, ↓reduceIte, Nat.reduceEqDiff, eq_self, not_true_eq_false, not_false_eq_true, false_implies, true_implies, Classical.not_not, Nat.le_refl, Nat.zero_le, sK71 hS]
        try dsimp only
        refine z_callQ (both I2 f2 ra2) (by omega) (by omega) (by omega) (Nat.le_of_ble_eq_true rfl) ?_
        rintro r h' ⟨rfl, I3, rfl, f3, ra3⟩
        simp only [zW, z_wp1, z_ld, z_f0, z_f1, z_f2, z_f3, List.getElem?_cons_zero, List.getElem?_cons_succ, true_and, and_true, Int32.reduceOfInt, z_i10, z_i01, Int32.reduceLT, Int32.reduceLE, Int32.reduceAdd, Int32.reduceSub, z_set, z_set2, z_kil, List.set_cons_zero, List.set_cons_succ, List.take_succ_cons, List.take_zero, List.drop_succ_cons, List.drop_zero, List.reverse_cons, List.reverse_nil, List.nil_append, List.cons_append, List.getD_cons_succ, List.getD_cons_zero, List.getD_nil, List.length_cons, List.length_nil, List.map_cons, List.map_nil, List.sum_cons, List.sum_nil, Nat.reduceAdd, Nat.reduceLeDiff, Value.category, Option.toList, true_or, or_true, z_ua, ↓reduceIte, Nat.reduceEqDiff, eq_self, not_true_eq_false, not_false_eq_true, false_implies, true_implies, Classical.not_not, Nat.le_refl, Nat.zero_le, sK71 hS]
        try dsimp only
        have hq := hok (j, if w then [(11, 0)] else []) I3 x3 rfl (hf.tr f3) ra3
        have e0 : nI b = 0 ↔ b = 0 := nI_eq (b := 0) (by omega) (by omega)
        exact ⟨fun q => hq.2 (fun z => q (e0.mpr z)), fun q => hq.1 (e0.mp q)⟩
end PAR9
