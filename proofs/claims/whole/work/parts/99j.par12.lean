/-! The model: scales -/
/-- a row's part copied -/
def z_cp (I : Nat → Nat → Int32) (a off k : Nat) : Nat → Nat → Int32 := fun q j => if q = a ∧ j < k then I a (off + j) else I q j
theorem z_cp_0 (I : Nat → Nat → Int32) (a off : Nat) : z_cp I a off 0 = I := by
  funext q j
  simp [z_cp]
theorem z_cp_ne {I : Nat → Nat → Int32} {a off k q : Nat} (h : q ≠ a) : z_cp I a off k q = I q := by
  funext j
  simp [z_cp, h]
theorem z_cp_at {I : Nat → Nat → Int32} {a off k j : Nat} : z_cp I a off k a j = if j < k then I a (off + j) else I a j := by simp [z_cp]
theorem z_cp_s {I : Nat → Nat → Int32} {a b off k : Nat} (hab : a ≠ b) (hk : k ≤ off) : z_u (z_u (z_cp (z_cp I a off k) b off k) a k (I a (off + k))) b k (I b (off + k)) = z_cp (z_cp I a off (k + 1)) b off (k + 1) := by
  funext q j
  by_cases hb : q = b
  · subst hb
    rw [z_u_at, z_cp_at]
    by_cases hj : j = k
    · subst hj
      rw [if_pos rfl, if_pos (by omega), z_cp_ne (Ne.symm hab)]
    · rw [if_neg hj, z_u_ne (Ne.symm hab), z_cp_at, z_cp_ne (Ne.symm hab), z_cp_ne (Ne.symm hab)]
      by_cases hjk : j < k
      · rw [if_pos hjk, if_pos (by omega)]
      · rw [if_neg hjk, if_neg (by omega)]
  · rw [z_u_ne hb, z_cp_ne hb]
    by_cases ha : q = a
    · subst ha
      rw [z_u_at, z_cp_at]
      by_cases hj : j = k
      · subst hj
        rw [if_pos rfl, if_pos (by omega)]
      · rw [if_neg hj, z_cp_ne hb, z_cp_at]
        by_cases hjk : j < k
        · rw [if_pos hjk, if_pos (by omega)]
        · rw [if_neg hjk, if_neg (by omega)]
    · rw [z_u_ne ha, z_cp_ne hb, z_cp_ne ha, z_cp_ne ha]
/-- what scales changes -/
def m_f4 (I I' : Nat → Nat → Int32) : Prop := (∀ q, q ≠ 71 → q ≠ 79 → q ≠ 80 → q ≠ 81 → q ≠ 82 → q ≠ 83 → I' q = I q) ∧ ∀ k, k ≠ 0 → k ≠ 11 → k ≠ 28 → k ≠ 29 → k ≠ 17 → k ≠ 12 → k ≠ 13 → k ≠ 14 → k ≠ 15 → k ≠ 22 → k ≠ 26 → k ≠ 27 → k ≠ 25 → k ≠ 23 → I' 71 k = I 71 k
/-- how scales ends -/
def m_sc (I : Nat → Nat → Int32) (t : Nat → Int32) (N : Nat) (R : Except (Int32 × Nat) (List (List (Int32 × Int32)))) (r : Option Value) (I' : Nat → Nat → Int32) : Prop := m_f4 I I' ∧ I' 71 11 = 0 ∧ match R with
  | .error e => r = some (.int (-1)) ∧ I' 71 28 = e.1 ∧ I' 71 29 = nI (p_P t N e.2) ∧ I' 71 17 = I 71 17 ∧ (∀ k, k < 900 → I' 81 k = I 81 k ∧ I' 82 k = I 82 k) ∧ ∀ k, k < 12 → I' 79 k = I 79 k ∧ I' 80 k = I 80 k
  | .ok Z => r = some (.int (nI Z.length)) ∧ I' 71 28 = 0 ∧ I' 71 29 = -1 ∧ I' 71 17 = nI Z.length ∧ Z.length ≤ 12 ∧ ∀ k x, Z[k]? = some x → m_code I' k x
theorem p_take_le {D : List (List (Int32 × Int32))} {k : Nat} {x : List (Int32 × Int32)} (h : D[k]? = some x) : (D.take k).flatten.length + x.length ≤ D.flatten.length ∧ ∀ j y, x[j]? = some y → D.flatten[(D.take k).flatten.length + j]? = some y := by
  have hlt := (List.getElem?_eq_some_iff.mp h).1
  have e : D = D.take k ++ (x :: D.drop (k + 1)) := by
    have h2 := (List.getElem?_eq_some_iff.mp h).2
    rw [← h2, List.getElem_cons_drop, List.take_append_drop]
  have e2 : D.flatten = (D.take k).flatten ++ (x ++ (D.drop (k + 1)).flatten) := by
    conv => lhs; rw [e]
    rw [List.flatten_append, List.flatten_cons]
  constructor
  · rw [e2, List.length_append, List.length_append]; omega
  · intro j y hj
    have hjl := (List.getElem?_eq_some_iff.mp hj).1
    rw [e2, List.getElem?_append_right (by omega), show (D.take k).flatten.length + j - (D.take k).flatten.length = j by omega, List.getElem?_append_left hjl]
    exact hj
section PAR12
variable {l : Launch} {n : Nat} {K L : Nat → Nat} {I : Nat → Nat → Int32} {J : Nat → Nat → Int64} {G : Nat → Nat → Value} {t : Nat → Int32} {N i : Nat} {ms : List (Int32 × Int32)}
theorem c191_a {X : zX} (hS : SS K L G) (hj : X.2.1 = 191) {Z : Nat} (hZ : Z ≤ 12) (kk : zV X 104 [some (.ref 71), some (.int (nI Z)), some (.int (nI Z))] [] (n, K, L, z_cp (z_cp I 79 12 Z) 80 12 Z, J, G) 0 0) : ∀ (f k : Nat), k + f = Z → zV X 63 [some (.ref 71), some (.int (nI Z)), some (.int (nI k))] [] (n, K, L, z_cp (z_cp I 79 12 k) 80 12 k, J, G) 0 0
  | 0, k, h => by
    have e : k = Z := by omega
    subst e
    have le : nI k ≤ nI k := nI_le (Nat.le_refl _) (by omega)
    refine zW_ok hj B191_63 63 _ _ _ _ _ b191_63 ?_
    simp only [B191_63, zW, z_wp1, z_ld, z_f0, z_f1, z_f2, z_f3, List.getElem?_cons_zero, List.getElem?_cons_succ, true_and, and_true, Int32.reduceOfInt, z_i10, z_i01, Int32.reduceLT, Int32.reduceLE, Int32.reduceAdd, Int32.reduceSub, z_set, z_set2, z_kil, List.set_cons_zero, List.set_cons_succ, List.take_succ_cons, List.take_zero, List.drop_succ_cons, List.drop_zero, List.reverse_cons, List.reverse_nil, List.nil_append, List.cons_append, List.getD_cons_succ, List.getD_cons_zero, List.getD_nil, List.length_cons, List.length_nil, List.map_cons, List.map_nil, List.sum_cons, List.sum_nil, Nat.reduceAdd, Nat.reduceLeDiff, Value.category, Option.toList, true_or, or_true, z_ua, ↓reduceIte, Nat.reduceEqDiff, eq_self, not_true_eq_false, not_false_eq_true, false_implies, true_implies, Classical.not_not, Nat.le_refl, Nat.zero_le, le]
    try dsimp only
    exact kk
  | f + 1, k, h => by
    have nle : ¬ nI Z ≤ nI k := nI_ge (by omega) (by omega)
    have e0 : (12 : Int32) + nI k = nI (12 + k) := by rw [show (12 : Int32) = nI 12 from rfl, nI_add]
    have e1 : (nI k).toNatClampNeg = k := nI_clamp (by omega)
    have e2 : (nI (12 + k)).toNatClampNeg = 12 + k := nI_clamp (by omega)
    have v1 : vp_in (nI k) 24 := vp_in_nI (by omega) (by omega)
    have v2 : vp_in (nI (12 + k)) 24 := vp_in_nI (by omega) (by omega)
    have ih := c191_a hS hj hZ kk f (k + 1) (by omega)
    have r1 : z_cp (z_cp I 79 12 k) 80 12 k 79 (12 + k) = I 79 (12 + k) := by rw [z_cp_ne (by decide), z_cp_at, if_neg (by omega)]
    have r2 : z_cp (z_cp I 79 12 k) 80 12 k 80 (12 + k) = I 80 (12 + k) := by rw [z_cp_at, if_neg (by omega), z_cp_ne (by decide)]
    rw [← z_cp_s (by decide) (by omega), ← r1, ← r2] at ih
    refine zW_ok hj B191_63 63 _ _ _ _ _ b191_63 ?_
    simp only [B191_63, zW, z_wp1, z_ld, z_f0, z_f1, z_f2, z_f3, List.getElem?_cons_zero, List.getElem?_cons_succ, true_and, and_true, Int32.reduceOfInt, z_i10, z_i01, Int32.reduceLT, Int32.reduceLE, Int32.reduceAdd, Int32.reduceSub, z_set, z_set2, z_kil, List.set_cons_zero, List.set_cons_succ, List.take_succ_cons, List.take_zero, List.drop_succ_cons, List.drop_zero, List.reverse_cons, List.reverse_nil, List.nil_append, List.cons_append, List.getD_cons_succ, List.getD_cons_zero, List.getD_nil, List.length_cons, List.length_nil, List.map_cons, List.map_nil, List.sum_cons, List.sum_nil, Nat.reduceAdd, Nat.reduceLeDiff, Value.category, Option.toList, true_or, or_true, z_ua, ↓reduceIte, Nat.reduceEqDiff, eq_self, not_true_eq_false, not_false_eq_true, false_implies, true_implies, Classical.not_not, Nat.le_refl, Nat.zero_le, z_hI, nle, sK71 hS, sG71_18 hS, sK79 hS, sL79 hS, sG71_19 hS, sK80 hS, sL80 hS, e0, v1, v2, nI_1]
    try dsimp only
    rw [e1, e2]
    exact ih
theorem c191_b {X : zX} (hS : SS K L G) (hj : X.2.1 = 191) {M : Nat} (hM : M ≤ 800) (hmy : I 71 22 = nI M) {y1 : Int32} (kk : ∀ x2, zV X 152 [some (.ref 71), some (.int y1), x2] [] (n, K, L, z_cp (z_cp I 81 900 M) 82 900 M, J, G) 0 0) : ∀ (f k : Nat), k + f = M → zV X 106 [some (.ref 71), some (.int y1), some (.int (nI k))] [] (n, K, L, z_cp (z_cp I 81 900 k) 82 900 k, J, G) 0 0
  | 0, k, h => by
    have e : k = M := by omega
    subst e
    have le : nI k ≤ nI k := nI_le (Nat.le_refl _) (by omega)
    have m1 : z_cp (z_cp I 81 900 k) 82 900 k 71 22 = nI k := by rw [z_cp_ne (by decide), z_cp_ne (by decide)]; exact hmy
    refine zW_ok hj B191_106 106 _ _ _ _ _ b191_106 ?_
    simp only [B191_106, zW, z_wp1, z_ld, z_f0, z_f1, z_f2, z_f3, List.getElem?_cons_zero, List.getElem?_cons_succ, true_and, and_true, Int32.reduceOfInt, z_i10, z_i01, Int32.reduceLT, Int32.reduceLE, Int32.reduceAdd, Int32.reduceSub, z_set, z_set2, z_kil, List.set_cons_zero, List.set_cons_succ, List.take_succ_cons, List.take_zero, List.drop_succ_cons, List.drop_zero, List.reverse_cons, List.reverse_nil, List.nil_append, List.cons_append, List.getD_cons_succ, List.getD_cons_zero, List.getD_nil, List.length_cons, List.length_nil, List.map_cons, List.map_nil, List.sum_cons, List.sum_nil, Nat.reduceAdd, Nat.reduceLeDiff, Value.category, Option.toList, true_or, or_true, z_ua, ↓reduceIte, Nat.reduceEqDiff, eq_self, not_true_eq_false, not_false_eq_true, false_implies, true_implies, Classical.not_not, Nat.le_refl, Nat.zero_le, sK71 hS, m1, le]
    try dsimp only
    exact kk _
  | f + 1, k, h => by
    have nle : ¬ nI M ≤ nI k := nI_ge (by omega) (by omega)
    have e0 : (900 : Int32) + nI k = nI (900 + k) := by rw [show (900 : Int32) = nI 900 from rfl, nI_add]
    have e1 : (nI k).toNatClampNeg = k := nI_clamp (by omega)
    have e2 : (nI (900 + k)).toNatClampNeg = 900 + k := nI_clamp (by omega)
    have v1 : vp_in (nI k) 1800 := vp_in_nI (by omega) (by omega)
    have v2 : vp_in (nI (900 + k)) 1800 := vp_in_nI (by omega) (by omega)
    have m1 : z_cp (z_cp I 81 900 k) 82 900 k 71 22 = nI M := by rw [z_cp_ne (by decide), z_cp_ne (by decide)]; exact hmy
    have ih := c191_b hS hj hM hmy kk f (k + 1) (by omega)
    have r1 : z_cp (z_cp I 81 900 k) 82 900 k 81 (900 + k) = I 81 (900 + k) := by rw [z_cp_ne (by decide), z_cp_at, if_neg (by omega)]
    have r2 : z_cp (z_cp I 81 900 k) 82 900 k 82 (900 + k) = I 82 (900 + k) := by rw [z_cp_at, if_neg (by omega), z_cp_ne (by decide)]
    rw [← z_cp_s (by decide) (by omega), ← r1, ← r2] at ih
    refine zW_ok hj B191_106 106 _ _ _ _ _ b191_106 ?_
    simp only [B191_106, zW, z_wp1, z_ld, z_f0, z_f1, z_f2, z_f3, List.getElem?_cons_zero, List.getElem?_cons_succ, true_and, and_true, Int32.reduceOfInt, z_i10, z_i01, Int32.reduceLT, Int32.reduceLE, Int32.reduceAdd, Int32.reduceSub, z_set, z_set2, z_kil, List.set_cons_zero, List.set_cons_succ, List.take_succ_cons, List.take_zero, List.drop_succ_cons, List.drop_zero, List.reverse_cons, List.reverse_nil, List.nil_append, List.cons_append, List.getD_cons_succ, List.getD_cons_zero, List.getD_nil, List.length_cons, List.length_nil, List.map_cons, List.map_nil, List.sum_cons, List.sum_nil, Nat.reduceAdd, Nat.reduceLeDiff, Value.category, Option.toList, true_or, or_true, z_ua, ↓reduceIte, Nat.reduceEqDiff, eq_self, not_true_eq_false, not_false_eq_true, false_implies, true_implies, Classical.not_not, Nat.le_refl, Nat.zero_le, z_hI, nle, sK71 hS, sG71_20 hS, sK81 hS, sL81 hS, sG71_21 hS, sK82 hS, sL82 hS, m1, e0, v1, v2, nI_1]
    try dsimp only
    rw [e1, e2]
    exact ih
/-- scales -/
theorem c191 (hS : SS K L G) (hx : m_tx I t N) : z_Ctr l 9 191 [.ref 71] (n, K, L, I, J, G) 0 0 (fun r h' => ∃ I', h' = (n, K, L, I', J, G) ∧ m_sc I t N (r_rd (p_K t N) (p_A t N) 13 0 0) r I') := by
  have hx' : m_tx (m_t I) t N := by
    obtain ⟨x1, x2, x3, x4, x5⟩ := hx
    exact ⟨by rw [m_t, z_u_at, if_neg (by decide)]; exact x1, x2, by rw [m_t, z_u_ne (by decide)]; exact x3, x4, by rw [m_t, z_u_ne (by decide)]; exact x5⟩
  refine z_ctr (by decide) (by decide +kernel) (Nat.le_of_ble_eq_true rfl) (by decide +kernel) (fun X hl hj hd hm hs hsc hQ => ?_)
  show zV X 0 [some (.ref 71), none, none] [] _ 0 0
  subst hl
  refine zW_ok hj B191_0 0 _ _ _ _ _ b191_0 ?_
  simp only [B191_0, zW, z_wp1, z_ld, z_f0, z_f1, z_f2, z_f3, List.getElem?_cons_zero, List.getElem?_cons_succ, true_and, and_true, Int32.reduceOfInt, z_i10, z_i01, Int32.reduceLT, Int32.reduceLE, Int32.reduceAdd, Int32.reduceSub, z_set, z_set2, z_kil, List.set_cons_zero, List.set_cons_succ, List.take_succ_cons, List.take_zero, List.drop_succ_cons, List.drop_zero, List.reverse_cons, List.reverse_nil, List.nil_append, List.cons_append, List.getD_cons_succ, List.getD_cons_zero, List.getD_nil, List.length_cons, List.length_nil, List.map_cons, List.map_nil, List.sum_cons, List.sum_nil, Nat.reduceAdd, Nat.reduceLeDiff, Value.category, Option.toList, true_or, or_true, z_ua, ↓reduceIte, Nat.reduceEqDiff, eq_self, not_true_eq_false, not_false_eq_true, false_implies, true_implies, Classical.not_not, Nat.le_refl, Nat.zero_le, sK71 hS]
  try dsimp only
  refine z_callQ (c190 (J := J) hS hx') (by omega) (by omega) (by omega) (Nat.le_of_ble_eq_true rfl) ?_
  rintro r h' ⟨I2, rfl, f2, e2⟩
  have base : m_f4 I I2 := ⟨fun q a b c d e f => by rw [f2.1 q a b c d e f, z_u_ne a], fun k a _ _ _ _ f g h i j k' l m o => by rw [f2.2.1 k f g h i j k' l m o, z_u_at, if_neg a]⟩
  have fl : ∀ a b : Int32, m_f4 I (z_u (z_u (z_u I2 71 11 0) 71 28 a) 71 29 b) := fun a b => ⟨fun q h1 h2 h3 h4 h5 h6 => by rw [z_u_ne h1, z_u_ne h1, z_u_ne h1]; exact base.1 q h1 h2 h3 h4 h5 h6, fun k h1 h2 h3 h4 h5 h6 h7 h8 h9 h10 h11 h12 h13 h14 => by rw [z_u_at, if_neg h4, z_u_at, if_neg h3, z_u_at, if_neg h2]; exact base.2 k h1 h2 h3 h4 h5 h6 h7 h8 h9 h10 h11 h12 h13 h14⟩
  cases hR : r_rd (p_K t N) (p_A t N) 13 0 0 with
  | error e =>
    rw [hR] at e2 hQ
    obtain ⟨rfl, q1, q2⟩ := e2
    simp only [zW, z_wp1, z_ld, z_f0, z_f1, z_f2, z_f3, List.getElem?_cons_zero, List.getElem?_cons_succ, true_and, and_true, Int32.reduceOfInt, z_i10, z_i01, Int32.reduceLT, Int32.reduceLE, Int32.reduceAdd, Int32.reduceSub, z_set, z_set2, z_kil, List.set_cons_zero, List.set_cons_succ, List.take_succ_cons, List.take_zero, List.drop_succ_cons, List.drop_zero, List.reverse_cons, List.reverse_nil, List.nil_append, List.cons_append, List.getD_cons_succ, List.getD_cons_zero, List.getD_nil, List.length_cons, List.length_nil, List.map_cons, List.map_nil, List.sum_cons, List.sum_nil, Nat.reduceAdd, Nat.reduceLeDiff, Value.category, Option.toList, true_or, or_true, z_ua, ↓reduceIte, Nat.reduceEqDiff, eq_self, not_true_eq_false, not_false_eq_true, false_implies, true_implies, Classical.not_not, Nat.le_refl, Nat.zero_le, sK71 hS]
    try dsimp only
    refine zW_ok hj B191_29 29 _ _ _ _ _ b191_29 ?_
    simp only [B191_29, zW, z_wp1, z_ld, z_f0, z_f1, z_f2, z_f3, List.getElem?_cons_zero, List.getElem?_cons_succ, true_and, and_true, Int32.reduceOfInt, z_i10, z_i01, Int32.reduceLT, Int32.reduceLE, Int32.reduceAdd, Int32.reduceSub, z_set, z_set2, z_kil, List.set_cons_zero, List.set_cons_succ, List.take_succ_cons, List.take_zero, List.drop_succ_cons, List.drop_zero, List.reverse_cons, List.reverse_nil, List.nil_append, List.cons_append, List.getD_cons_succ, List.getD_cons_zero, List.getD_nil, List.length_cons, List.length_nil, List.map_cons, List.map_nil, List.sum_cons, List.sum_nil, Nat.reduceAdd, Nat.reduceLeDiff, Value.category, Option.toList, true_or, or_true, z_ua, ↓reduceIte, Nat.reduceEqDiff, eq_self, not_true_eq_false, not_false_eq_true, false_implies, true_implies, Classical.not_not, Nat.le_refl, Nat.zero_le, sK71 hS]
    try dsimp only
    refine zW_ok hj B191_46 46 _ _ _ _ _ b191_46 ?_
    simp only [B191_46, zW, z_wp1, z_ld, z_f0, z_f1, z_f2, z_f3, List.getElem?_cons_zero, List.getElem?_cons_succ, true_and, and_true, Int32.reduceOfInt, z_i10, z_i01, Int32.reduceLT, Int32.reduceLE, Int32.reduceAdd, Int32.reduceSub, z_set, z_set2, z_kil, List.set_cons_zero, List.set_cons_succ, List.take_succ_cons, List.take_zero, List.drop_succ_cons, List.drop_zero, List.reverse_cons, List.reverse_nil, List.nil_append, List.cons_append, List.getD_cons_succ, List.getD_cons_zero, List.getD_nil, List.length_cons, List.length_nil, List.map_cons, List.map_nil, List.sum_cons, List.sum_nil, Nat.reduceAdd, Nat.reduceLeDiff, Value.category, Option.toList, true_or, or_true, z_ua, ↓reduceIte, Nat.reduceEqDiff, eq_self, not_true_eq_false, not_false_eq_true, false_implies, true_implies, Classical.not_not, Nat.le_refl, Nat.zero_le, sK71 hS]
    try dsimp only
    refine hQ _ _ ⟨_, rfl, fl _ _, ?_, rfl, ?_, ?_, ?_, fun k hk => ?_, fun k hk => ?_⟩
    · rw [z_u_at, if_neg (by decide), z_u_at, if_neg (by decide), z_u_at, if_pos rfl]
    · rw [z_u_at, if_neg (by decide), z_u_at, if_pos rfl]; exact q1
    · rw [z_u_at, if_pos rfl]; exact q2
    · rw [z_u_at, if_neg (by decide), z_u_at, if_neg (by decide), z_u_at, if_neg (by decide), f2.2.1 _ (by decide) (by decide) (by decide) (by decide) (by decide) (by decide) (by decide) (by decide) (by decide), z_u_at, if_neg (by decide)]
    · rw [z_u_ne (by decide), z_u_ne (by decide), z_u_ne (by decide), z_u_ne (by decide), z_u_ne (by decide), z_u_ne (by decide), (f2.2.2.1 k hk).1, (f2.2.2.1 k hk).2, z_u_ne (by decide), z_u_ne (by decide)]
      exact ⟨rfl, rfl⟩
    · rw [z_u_ne (by decide), z_u_ne (by decide), z_u_ne (by decide), z_u_ne (by decide), z_u_ne (by decide), z_u_ne (by decide), (f2.2.2.2 k hk).1, (f2.2.2.2 k hk).2, z_u_ne (by decide), z_u_ne (by decide)]
      exact ⟨rfl, rfl⟩
  | ok Z =>
    rw [hR] at e2 hQ
    obtain ⟨rfl, q1, q2, q3, q4⟩ := e2
    rw [List.nil_append] at q1 q2 q3 q4 ⊢
    have nm : ¬ nI Z.length = -1 := nI_neg1 (by omega)
    simp only [zW, z_wp1, z_ld, z_f0, z_f1, z_f2, z_f3, List.getElem?_cons_zero, List.getElem?_cons_succ, true_and, and_true, Int32.reduceOfInt, z_i10, z_i01, Int32.reduceLT, Int32.reduceLE, Int32.reduceAdd, Int32.reduceSub, z_set, z_set2, z_kil, List.set_cons_zero, List.set_cons_succ, List.take_succ_cons, List.take_zero, List.drop_succ_cons, List.drop_zero, List.reverse_cons, List.reverse_nil, List.nil_append, List.cons_append, List.getD_cons_succ, List.getD_cons_zero, List.getD_nil, List.length_cons, List.length_nil, List.map_cons, List.map_nil, List.sum_cons, List.sum_nil, Nat.reduceAdd, Nat.reduceLeDiff, Value.category, Option.toList, true_or, or_true, z_ua, ↓reduceIte, Nat.reduceEqDiff, eq_self, not_true_eq_false, not_false_eq_true, false_implies, true_implies, Classical.not_not, Nat.le_refl, Nat.zero_le, sK71 hS, nm]
    try dsimp only
    refine zW_ok hj B191_28 28 _ _ _ _ _ b191_28 ?_
    simp only [B191_28, zW, z_wp1, z_ld, z_f0, z_f1, z_f2, z_f3, List.getElem?_cons_zero, List.getElem?_cons_succ, true_and, and_true, Int32.reduceOfInt, z_i10, z_i01, Int32.reduceLT, Int32.reduceLE, Int32.reduceAdd, Int32.reduceSub, z_set, z_set2, z_kil, List.set_cons_zero, List.set_cons_succ, List.take_succ_cons, List.take_zero, List.drop_succ_cons, List.drop_zero, List.reverse_cons, List.reverse_nil, List.nil_append, List.cons_append, List.getD_cons_succ, List.getD_cons_zero, List.getD_nil, List.length_cons, List.length_nil, List.map_cons, List.map_nil, List.sum_cons, List.sum_nil, Nat.reduceAdd, Nat.reduceLeDiff, Value.category, Option.toList, true_or, or_true, z_ua, ↓reduceIte, Nat.reduceEqDiff, eq_self, not_true_eq_false, not_false_eq_true, false_implies, true_implies, Classical.not_not, Nat.le_refl, Nat.zero_le]
    try dsimp only
    refine zW_ok hj B191_29 29 _ _ _ _ _ b191_29 ?_
    simp only [B191_29, zW, z_wp1, z_ld, z_f0, z_f1, z_f2, z_f3, List.getElem?_cons_zero, List.getElem?_cons_succ, true_and, and_true, Int32.reduceOfInt, z_i10, z_i01, Int32.reduceLT, Int32.reduceLE, Int32.reduceAdd, Int32.reduceSub, z_set, z_set2, z_kil, List.set_cons_zero, List.set_cons_succ, List.take_succ_cons, List.take_zero, List.drop_succ_cons, List.drop_zero, List.reverse_cons, List.reverse_nil, List.nil_append, List.cons_append, List.getD_cons_succ, List.getD_cons_zero, List.getD_nil, List.length_cons, List.length_nil, List.map_cons, List.map_nil, List.sum_cons, List.sum_nil, Nat.reduceAdd, Nat.reduceLeDiff, Value.category, Option.toList, true_or, or_true, z_ua, ↓reduceIte, Nat.reduceEqDiff, eq_self, not_true_eq_false, not_false_eq_true, false_implies, true_implies, Classical.not_not, Nat.le_refl, Nat.zero_le, sK71 hS, nm]
    try dsimp only
    refine zW_ok hj B191_45 45 _ _ _ _ _ b191_45 ?_
    simp only [B191_45, zW, z_wp1, z_ld, z_f0, z_f1, z_f2, z_f3, List.getElem?_cons_zero, List.getElem?_cons_succ, true_and, and_true, Int32.reduceOfInt, z_i10, z_i01, Int32.reduceLT, Int32.reduceLE, Int32.reduceAdd, Int32.reduceSub, z_set, z_set2, z_kil, List.set_cons_zero, List.set_cons_succ, List.take_succ_cons, List.take_zero, List.drop_succ_cons, List.drop_zero, List.reverse_cons, List.reverse_nil, List.nil_append, List.cons_append, List.getD_cons_succ, List.getD_cons_zero, List.getD_nil, List.length_cons, List.length_nil, List.map_cons, List.map_nil, List.sum_cons, List.sum_nil, Nat.reduceAdd, Nat.reduceLeDiff, Value.category, Option.toList, true_or, or_true, z_ua, ↓reduceIte, Nat.reduceEqDiff, eq_self, not_true_eq_false, not_false_eq_true, false_implies, true_implies, Classical.not_not, Nat.le_refl, Nat.zero_le]
    try dsimp only
    refine zW_ok hj B191_46 46 _ _ _ _ _ b191_46 ?_
    simp only [B191_46, zW, z_wp1, z_ld, z_f0, z_f1, z_f2, z_f3, List.getElem?_cons_zero, List.getElem?_cons_succ, true_and, and_true, Int32.reduceOfInt, z_i10, z_i01, Int32.reduceLT, Int32.reduceLE, Int32.reduceAdd, Int32.reduceSub, z_set, z_set2, z_kil, List.set_cons_zero, List.set_cons_succ, List.take_succ_cons, List.take_zero, List.drop_succ_cons, List.drop_zero, List.reverse_cons, List.reverse_nil, List.nil_append, List.cons_append, List.getD_cons_succ, List.getD_cons_zero, List.getD_nil, List.length_cons, List.length_nil, List.map_cons, List.map_nil, List.sum_cons, List.sum_nil, Nat.reduceAdd, Nat.reduceLeDiff, Value.category, Option.toList, true_or, or_true, z_ua, ↓reduceIte, Nat.reduceEqDiff, eq_self, not_true_eq_false, not_false_eq_true, false_implies, true_implies, Classical.not_not, Nat.le_refl, Nat.zero_le, sK71 hS, nm]
    try dsimp only
    refine zW_ok hj B191_56 56 _ _ _ _ _ b191_56 ?_
    simp only [B191_56, zW, z_wp1, z_ld, z_f0, z_f1, z_f2, z_f3, List.getElem?_cons_zero, List.getElem?_cons_succ, true_and, and_true, Int32.reduceOfInt, z_i10, z_i01, Int32.reduceLT, Int32.reduceLE, Int32.reduceAdd, Int32.reduceSub, z_set, z_set2, z_kil, List.set_cons_zero, List.set_cons_succ, List.take_succ_cons, List.take_zero, List.drop_succ_cons, List.drop_zero, List.reverse_cons, List.reverse_nil, List.nil_append, List.cons_append, List.getD_cons_succ, List.getD_cons_zero, List.getD_nil, List.length_cons, List.length_nil, List.map_cons, List.map_nil, List.sum_cons, List.sum_nil, Nat.reduceAdd, Nat.reduceLeDiff, Value.category, Option.toList, true_or, or_true, z_ua, ↓reduceIte, Nat.reduceEqDiff, eq_self, not_true_eq_false, not_false_eq_true, false_implies, true_implies, Classical.not_not, Nat.le_refl, Nat.zero_le, sK71 hS]
    try dsimp only
    generalize hI3 : z_u (z_u (z_u (z_u I2 71 11 0) 71 28 0) 71 29 (-1)) 71 17 (nI Z.length) = I3
    have o3 : ∀ q, q ≠ 71 → I3 q = I2 q := fun q hq => by rw [← hI3, z_u_ne hq, z_u_ne hq, z_u_ne hq, z_u_ne hq]
    have my3 : I3 71 22 = nI Z.flatten.length := by rw [← hI3, z_u_at, if_neg (by decide), z_u_at, if_neg (by decide), z_u_at, if_neg (by decide), z_u_at, if_neg (by decide)]; exact q2.1
    have key := c191_a (n := n) (I := I3) (J := J) hS hj (Z := Z.length) q3 ?_ Z.length 0 (by omega)
    · rw [z_cp_0, z_cp_0, nI_0] at key
      exact key
    · have m4 : z_cp (z_cp I3 79 12 Z.length) 80 12 Z.length 71 22 = nI Z.flatten.length := by rw [z_cp_ne (by decide), z_cp_ne (by decide)]; exact my3
      refine zW_ok hj B191_104 104 _ _ _ _ _ b191_104 ?_
      simp only [B191_104, zW, z_wp1, z_ld, z_f0, z_f1, z_f2, z_f3, List.getElem?_cons_zero, List.getElem?_cons_succ, true_and, and_true, Int32.reduceOfInt, z_i10, z_i01, Int32.reduceLT, Int32.reduceLE, Int32.reduceAdd, Int32.reduceSub, z_set, z_set2, z_kil, List.set_cons_zero, List.set_cons_succ, List.take_succ_cons, List.take_zero, List.drop_succ_cons, List.drop_zero, List.reverse_cons, List.reverse_nil, List.nil_append, List.cons_append, List.getD_cons_succ, List.getD_cons_zero, List.getD_nil, List.length_cons, List.length_nil, List.map_cons, List.map_nil, List.sum_cons, List.sum_nil, Nat.reduceAdd, Nat.reduceLeDiff, Value.category, Option.toList, true_or, or_true, z_ua, ↓reduceIte, Nat.reduceEqDiff, eq_self, not_true_eq_false, not_false_eq_true, false_implies, true_implies, Classical.not_not, Nat.le_refl, Nat.zero_le]
      try dsimp only
      have key := c191_b (n := n) (I := z_cp (z_cp I3 79 12 Z.length) 80 12 Z.length) (J := J) hS hj (M := Z.flatten.length) q4 m4 (y1 := nI Z.length) (fun x2 => ?_) Z.flatten.length 0 (by omega)
      · rw [z_cp_0, z_cp_0, nI_0] at key
        exact key
      · refine zW_ok hj B191_152 152 _ _ _ _ _ b191_152 ?_
        simp only [B191_152, zW, z_wp1, z_ld, z_f0, z_f1, z_f2, z_f3, List.getElem?_cons_zero, List.getElem?_cons_succ, true_and, and_true, Int32.reduceOfInt, z_i10, z_i01, Int32.reduceLT, Int32.reduceLE, Int32.reduceAdd, Int32.reduceSub, z_set, z_set2, z_kil, List.set_cons_zero, List.set_cons_succ, List.take_succ_cons, List.take_zero, List.drop_succ_cons, List.drop_zero, List.reverse_cons, List.reverse_nil, List.nil_append, List.cons_append, List.getD_cons_succ, List.getD_cons_zero, List.getD_nil, List.length_cons, List.length_nil, List.map_cons, List.map_nil, List.sum_cons, List.sum_nil, Nat.reduceAdd, Nat.reduceLeDiff, Value.category, Option.toList, true_or, or_true, z_ua, ↓reduceIte, Nat.reduceEqDiff, eq_self, not_true_eq_false, not_false_eq_true, false_implies, true_implies, Classical.not_not, Nat.le_refl, Nat.zero_le]
        try dsimp only
        refine hQ _ _ ⟨_, rfl, ⟨fun q a b c d e f => ?_, fun k a b c d e f g h i j k' l m o => ?_⟩, ?_, rfl, ?_, ?_, ?_, q3, fun k x hk => ?_⟩
        · rw [z_cp_ne e, z_cp_ne d, z_cp_ne c, z_cp_ne b, o3 q a]; exact base.1 q a b c d e f
        · rw [z_cp_ne (by decide), z_cp_ne (by decide), z_cp_ne (by decide), z_cp_ne (by decide), ← hI3, z_u_at, if_neg e]
          exact (fl 0 (-1)).2 k a b c d e f g h i j k' l m o
        · rw [z_cp_ne (by decide), z_cp_ne (by decide), z_cp_ne (by decide), z_cp_ne (by decide), ← hI3, z_u_at, if_neg (by decide), z_u_at, if_neg (by decide), z_u_at, if_neg (by decide), z_u_at, if_pos rfl]
        · rw [z_cp_ne (by decide), z_cp_ne (by decide), z_cp_ne (by decide), z_cp_ne (by decide), ← hI3, z_u_at, if_neg (by decide), z_u_at, if_neg (by decide), z_u_at, if_pos rfl]
        · rw [z_cp_ne (by decide), z_cp_ne (by decide), z_cp_ne (by decide), z_cp_ne (by decide), ← hI3, z_u_at, if_neg (by decide), z_u_at, if_pos rfl]
        · rw [z_cp_ne (by decide), z_cp_ne (by decide), z_cp_ne (by decide), z_cp_ne (by decide), ← hI3, z_u_at, if_pos rfl]
        · have hkl := (List.getElem?_eq_some_iff.mp hk).1
          obtain ⟨p1, p2⟩ := p_take_le hk
          obtain ⟨m1, m2⟩ := q1 k x hk
          refine ⟨(Z.take k).flatten.length, ?_, ?_, by omega, fun j y hy => ?_⟩
          · rw [z_cp_ne (by decide), z_cp_ne (by decide), z_cp_ne (by decide), z_cp_at, if_pos hkl, o3 79 (by decide)]; exact m1
          · rw [z_cp_ne (by decide), z_cp_ne (by decide), z_cp_at, if_pos hkl, z_cp_ne (by decide), o3 80 (by decide)]; exact m2
          · have h1 := q2.2 _ y (p2 j y hy)
            have hjl := (List.getElem?_eq_some_iff.mp hy).1
            constructor
            · rw [z_cp_ne (by decide), z_cp_at, if_pos (by omega), z_cp_ne (by decide), z_cp_ne (by decide), o3 81 (by decide)]; exact h1.1
            · rw [z_cp_at, if_pos (by omega), z_cp_ne (by decide), z_cp_ne (by decide), z_cp_ne (by decide), o3 82 (by decide)]; exact h1.2
end PAR12
