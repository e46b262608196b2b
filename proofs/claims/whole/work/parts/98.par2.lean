/-! The model's reader: its state, and what reads a unit -/
/-- where tokens begin -/
def p_at (t : Nat → Int32) (N : Nat) : Nat → Nat
  | 0 => 0
  | i + 1 => p_nx t N (p_at t N i)
abbrev p_K (t : Nat → Int32) (N i : Nat) : Int32 := p_kd t N (p_at t N i)
abbrev p_A (t : Nat → Int32) (N i : Nat) : Int32 := p_am t N (p_at t N i)
abbrev p_P (t : Nat → Int32) (N i : Nat) : Nat := p_st t N (p_at t N i)
theorem p_nx_le {t : Nat → Int32} {N a : Nat} (ha : a ≤ N) : p_nx t N a ≤ N ∧ (¬ p_kd t N a = 0 → a < p_nx t N a) ∧ a ≤ p_nx t N a := by
  obtain ⟨s1, s2, s3⟩ := p_ed_in (P := p_W) (t := t) (N := N) (a := a)
  have hs : a ≤ p_st t N a := s1
  have hs2 : p_st t N a ≤ N := s2 ha
  unfold p_nx
  by_cases h : p_st t N a < N
  · rw [if_neg (fun q => q h)]
    by_cases hL : p_L (t (p_st t N a)) = true
    · rw [if_pos hL]
      obtain ⟨q1, q2, q3⟩ := p_ed_in (P := p_L) (t := t) (N := N) (a := p_st t N a + 1)
      have := q2 (by omega)
      exact ⟨this, fun _ => by omega, by omega⟩
    · rw [if_neg hL]
      by_cases hD : p_D (t (p_st t N a)) = true
      · rw [if_pos hD]
        obtain ⟨q1, q2, q3⟩ := p_ed_in (P := p_D) (t := t) (N := N) (a := p_st t N a + 1)
        have := q2 (by omega)
        exact ⟨this, fun _ => by omega, by omega⟩
      · rw [if_neg hD]
        exact ⟨by omega, fun _ => by omega, by omega⟩
  · rw [if_pos h]
    refine ⟨hs2, fun q => absurd (by rw [p_kd, if_pos h]) q, hs⟩
theorem p_at_le {t : Nat → Int32} {N : Nat} : ∀ i, p_at t N i ≤ N
  | 0 => Nat.zero_le _
  | i + 1 => by rw [p_at]; exact (p_nx_le (p_at_le i)).1
theorem p_at_ge {t : Nat → Int32} {N : Nat} : ∀ i, (∀ j, j < i → ¬ p_K t N j = 0) → i ≤ p_at t N i
  | 0, _ => Nat.zero_le _
  | i + 1, h => by
    have ih := p_at_ge i (fun j hj => h j (by omega))
    have := (p_nx_le (t := t) (p_at_le (t := t) (N := N) i)).2.1 (h i (by omega))
    rw [p_at]
    omega
/-- codes put down -/
def p_cd (I : Nat → Nat → Int32) (ms : List (Int32 × Int32)) : Prop := I 71 22 = nI ms.length ∧ ∀ j x, ms[j]? = some x → I 81 (900 + j) = x.1 ∧ I 82 (900 + j) = x.2
/-- the reader at token i, with these codes -/
def m_rd (I : Nat → Nat → Int32) (t : Nat → Int32) (N i : Nat) (ms : List (Int32 × Int32)) : Prop := I 71 11 = nI N ∧ N ≤ 800 ∧ I 77 = t ∧ (∀ k, k < N → 0 ≤ t k) ∧ p_lay (I 78) 0 p_ws ∧ I 71 12 = nI (p_at t N (i + 1)) ∧ I 71 13 = nI (p_P t N i) ∧ p_tk (I 71 14) (I 71 15) (p_K t N i) (p_A t N i) ∧ p_cd I ms ∧ ms.length ≤ i ∧ ∀ j, j < i → ¬ p_K t N j = 0
/-- what reading changes -/
def m_fr (I I' : Nat → Nat → Int32) : Prop := (∀ q, q ≠ 71 → q ≠ 81 → q ≠ 82 → I' q = I q) ∧ (∀ k, k ≠ 12 → k ≠ 13 → k ≠ 14 → k ≠ 15 → k ≠ 22 → k ≠ 26 → k ≠ 27 → I' 71 k = I 71 k) ∧ ∀ k, k < 900 → I' 81 k = I 81 k ∧ I' 82 k = I 82 k
theorem m_fr.rf (I : Nat → Nat → Int32) : m_fr I I := ⟨fun _ _ _ _ => rfl, fun _ _ _ _ _ _ _ _ => rfl, fun _ _ => ⟨rfl, rfl⟩⟩
theorem m_fr.tr {I I1 I2 : Nat → Nat → Int32} (h1 : m_fr I I1) (h2 : m_fr I1 I2) : m_fr I I2 := ⟨fun q a b c => (h2.1 q a b c).trans (h1.1 q a b c), fun k a b c d e f g => (h2.2.1 k a b c d e f g).trans (h1.2.1 k a b c d e f g), fun k a => ⟨(h2.2.2 k a).1.trans (h1.2.2 k a).1, (h2.2.2 k a).2.trans (h1.2.2 k a).2⟩⟩
theorem p_fr.m {I I' : Nat → Nat → Int32} (h : p_fr I I') : m_fr I I' := ⟨fun q a _ _ => h.1 q a, fun k a b c d _ _ _ => h.2 k a b c d, fun k _ => by rw [h.1 81 (by decide), h.1 82 (by decide)]; exact ⟨rfl, rfl⟩⟩
abbrev p_R : Type := Except (Int32 × Nat) (Nat × List (Int32 × Int32))
/-- how reading ends -/
def m_re (t : Nat → Int32) (N : Nat) (ms : List (Int32 × Int32)) (R : p_R) (r : Option Value) (I' : Nat → Nat → Int32) : Prop := match R with
  | .ok x => r = some (.int 0) ∧ m_rd I' t N x.1 (ms ++ x.2)
  | .error e => r = some (.int (-1)) ∧ I' 71 26 = e.1 ∧ I' 71 27 = nI (p_P t N e.2)
abbrev m_rp (n : Nat) (K L : Nat → Nat) (I : Nat → Nat → Int32) (J : Nat → Nat → Int64) (G : Nat → Nat → Value) (t : Nat → Int32) (N : Nat) (ms : List (Int32 × Int32)) (R : p_R) : Option Value → zH → Prop := fun r h' => ∃ I', h' = (n, K, L, I', J, G) ∧ m_fr I I' ∧ m_re t N ms R r I'
section PAR2
variable {l : Launch} {n : Nat} {K L : Nat → Nat} {I : Nat → Nat → Int32} {J : Nat → Nat → Int64} {G : Nat → Nat → Value} {t : Nat → Int32} {N i : Nat} {ms : List (Int32 × Int32)}
theorem c178 (hS : SS K L G) (k : Int32) : z_D l 0 178 [.ref 71, .int k] (n, K, L, I, J, G) (some (.int (-1))) (n, K, L, z_u (z_u I 71 26 k) 71 27 (I 71 13), J, G) := by
  refine z_ctr (by decide) (by decide +kernel) (Nat.le_of_ble_eq_true rfl) (by decide +kernel) (fun X hl hj hd hm hs hsc hQ => ?_)
  show zV X 0 [some (.ref 71), some (.int k)] [] _ 0 0
  refine zW_ok hj B178_0 0 _ _ _ _ _ b178_0 ?_
  simp only [B178_0, zW, z_wp1, z_ld, z_f0, z_f1, z_f2, z_f3, List.getElem?_cons_zero, List.getElem?_cons_succ, true_and, and_true, Int32.reduceOfInt, z_i10, z_i01, Int32.reduceLT, Int32.reduceLE, Int32.reduceAdd, Int32.reduceSub, z_set, z_set2, z_kil, List.set_cons_zero, List.set_cons_succ, List.take_succ_cons, List.take_zero, List.drop_succ_cons, List.drop_zero, List.reverse_cons, List.reverse_nil, List.nil_append, List.cons_append, List.getD_cons_succ, List.getD_cons_zero, List.getD_nil, List.length_cons, List.length_nil, List.map_cons, List.map_nil, List.sum_cons, List.sum_nil, Nat.reduceAdd, Nat.reduceLeDiff, Value.category, Option.toList, true_or, or_true, z_ua, ↓reduceIte, Nat.reduceEqDiff, eq_self, not_true_eq_false, not_false_eq_true, false_implies, true_implies, Classical.not_not, Nat.le_refl, Nat.zero_le, sK71 hS]
  try dsimp only
  exact hQ _ _ ⟨rfl, rfl⟩
theorem m_fr_f (I : Nat → Nat → Int32) (a b : Int32) : m_fr I (z_u (z_u I 71 26 a) 71 27 b) := ⟨fun q a _ _ => by rw [z_u_ne a, z_u_ne a], fun k a b c d e f g => by rw [z_u_at, if_neg g, z_u_at, if_neg f], fun k _ => by rw [z_u_ne (by decide), z_u_ne (by decide), z_u_ne (by decide), z_u_ne (by decide)]; exact ⟨rfl, rfl⟩⟩
/-- a fault at the token -/
theorem m_rd.f (h : m_rd I t N i ms) (k : Int32) {ms' : List (Int32 × Int32)} : m_re t N ms' (.error (k, i)) (some (.int (-1))) (z_u (z_u I 71 26 k) 71 27 (I 71 13)) := by
  obtain ⟨h1, h2, h3, h4, h5, h6, h7, h8⟩ := h
  refine ⟨rfl, ?_, ?_⟩
  · rw [z_u_at, if_neg (by decide), z_u_at, if_pos rfl]
  · rw [z_u_at, if_pos rfl]; exact h7
theorem c179 (hS : SS K L G) (hr : m_rd I t N i ms) {w k : Int32} (hw : w + 6 = k) (hk : k = 12 ∨ k = 13 ∨ k = 14 ∨ k = 15) : z_D l 0 179 [.ref 71, .int w] (n, K, L, I, J, G) (some (.int (z_b (p_K t N i = k)))) (n, K, L, I, J, G) := by
  have e := t_wd hr.2.2.2.2.2.2.2.1 hw hk
  refine z_ctr (by decide) (by decide +kernel) (Nat.le_of_ble_eq_true rfl) (by decide +kernel) (fun X hl hj hd hm hs hsc hQ => ?_)
  show zV X 0 [some (.ref 71), some (.int w)] [] _ 0 0
  have no : ¬ p_K t N i = k → zV X 20 [some (.ref 71), some (.int w)] [] (n, K, L, I, J, G) 0 0 := fun q => by
    refine zW_ok hj B179_20 20 _ _ _ _ _ b179_20 ?_
    simp only [B179_20, zW, z_wp1, z_ld, z_f0, z_f1, z_f2, z_f3, List.getElem?_cons_zero, List.getElem?_cons_succ, true_and, and_true, Int32.reduceOfInt, z_i10, z_i01, Int32.reduceLT, Int32.reduceLE, Int32.reduceAdd, Int32.reduceSub, z_set, z_set2, z_kil, List.set_cons_zero, List.set_cons_succ, List.take_succ_cons, List.take_zero, List.drop_succ_cons, List.drop_zero, List.reverse_cons, List.reverse_nil, List.nil_append, List.cons_append, List.getD_cons_succ, List.getD_cons_zero, List.getD_nil, List.length_cons, List.length_nil, List.map_cons, List.map_nil, List.sum_cons, List.sum_nil, Nat.reduceAdd, Nat.reduceLeDiff, Value.category, Option.toList, true_or, or_true, z_ua, ↓reduceIte, Nat.reduceEqDiff, eq_self, not_true_eq_false, not_false_eq_true, false_implies, true_implies, Classical.not_not, Nat.le_refl, Nat.zero_le]
    try dsimp only
    refine zW_ok hj B179_21 21 _ _ _ _ _ b179_21 ?_
    simp only [B179_21, zW, z_wp1, z_ld, z_f0, z_f1, z_f2, z_f3, List.getElem?_cons_zero, List.getElem?_cons_succ, true_and, and_true, Int32.reduceOfInt, z_i10, z_i01, Int32.reduceLT, Int32.reduceLE, Int32.reduceAdd, Int32.reduceSub, z_set, z_set2, z_kil, List.set_cons_zero, List.set_cons_succ, List.take_succ_cons, List.take_zero, List.drop_succ_cons, List.drop_zero, List.reverse_cons, List.reverse_nil, List.nil_append, List.cons_append, List.getD_cons_succ, List.getD_cons_zero, List.getD_nil, List.length_cons, List.length_nil, List.map_cons, List.map_nil, List.sum_cons, List.sum_nil, Nat.reduceAdd, Nat.reduceLeDiff, Value.category, Option.toList, true_or, or_true, z_ua, ↓reduceIte, Nat.reduceEqDiff, eq_self, not_true_eq_false, not_false_eq_true, false_implies, true_implies, Classical.not_not, Nat.le_refl, Nat.zero_le]
    try dsimp only
    exact hQ _ _ ⟨by rw [z_b0 q], rfl⟩
  refine zW_ok hj B179_0 0 _ _ _ _ _ b179_0 ?_
  simp only [B179_0, zW, z_wp1, z_ld, z_f0, z_f1, z_f2, z_f3, List.getElem?_cons_zero, List.getElem?_cons_succ, true_and, and_true, Int32.reduceOfInt, z_i10, z_i01, Int32.reduceLT, Int32.reduceLE, Int32.reduceAdd, Int32.reduceSub, z_set, z_set2, z_kil, List.set_cons_zero, List.set_cons_succ, List.take_succ_cons, List.take_zero, List.drop_succ_cons, List.drop_zero, List.reverse_cons, List.reverse_nil, List.nil_append, List.cons_append, List.getD_cons_succ, List.getD_cons_zero, List.getD_nil, List.length_cons, List.length_nil, List.map_cons, List.map_nil, List.sum_cons, List.sum_nil, Nat.reduceAdd, Nat.reduceLeDiff, Value.category, Option.toList, true_or, or_true, z_ua, ↓reduceIte, Nat.reduceEqDiff, eq_self, not_true_eq_false, not_false_eq_true, false_implies, true_implies, Classical.not_not, Nat.le_refl, Nat.zero_le, sK71 hS]
  try dsimp only
  refine ⟨fun q => no (fun z => q (e.mpr z).1), fun q1 => ⟨fun q => no (fun z => q (e.mpr z).2), fun q2 => ?_⟩⟩
  refine zW_ok hj B179_21 21 _ _ _ _ _ b179_21 ?_
  simp only [B179_21, zW, z_wp1, z_ld, z_f0, z_f1, z_f2, z_f3, List.getElem?_cons_zero, List.getElem?_cons_succ, true_and, and_true, Int32.reduceOfInt, z_i10, z_i01, Int32.reduceLT, Int32.reduceLE, Int32.reduceAdd, Int32.reduceSub, z_set, z_set2, z_kil, List.set_cons_zero, List.set_cons_succ, List.take_succ_cons, List.take_zero, List.drop_succ_cons, List.drop_zero, List.reverse_cons, List.reverse_nil, List.nil_append, List.cons_append, List.getD_cons_succ, List.getD_cons_zero, List.getD_nil, List.length_cons, List.length_nil, List.map_cons, List.map_nil, List.sum_cons, List.sum_nil, Nat.reduceAdd, Nat.reduceLeDiff, Value.category, Option.toList, true_or, or_true, z_ua, ↓reduceIte, Nat.reduceEqDiff, eq_self, not_true_eq_false, not_false_eq_true, false_implies, true_implies, Classical.not_not, Nat.le_refl, Nat.zero_le]
  try dsimp only
  exact hQ _ _ ⟨by rw [z_b1 (e.mp ⟨q1, q2⟩)], rfl⟩
theorem c180 (hS : SS K L G) (hr : m_rd I t N i ms) : z_D l 0 180 [.ref 71] (n, K, L, I, J, G) (some (.int (z_b (p_K t N i = 16)))) (n, K, L, I, J, G) := by
  have e := t_me hr.2.2.2.2.2.2.2.1
  refine z_ctr (by decide) (by decide +kernel) (Nat.le_of_ble_eq_true rfl) (by decide +kernel) (fun X hl hj hd hm hs hsc hQ => ?_)
  show zV X 0 [some (.ref 71)] [] _ 0 0
  have no : ¬ p_K t N i = 16 → zV X 21 [some (.ref 71)] [] (n, K, L, I, J, G) 0 0 := fun q => by
    refine zW_ok hj B180_21 21 _ _ _ _ _ b180_21 ?_
    simp only [B180_21, zW, z_wp1, z_ld, z_f0, z_f1, z_f2, z_f3, List.getElem?_cons_zero, List.getElem?_cons_succ, true_and, and_true, Int32.reduceOfInt, z_i10, z_i01, Int32.reduceLT, Int32.reduceLE, Int32.reduceAdd, Int32.reduceSub, z_set, z_set2, z_kil, List.set_cons_zero, List.set_cons_succ, List.take_succ_cons, List.take_zero, List.drop_succ_cons, List.drop_zero, List.reverse_cons, List.reverse_nil, List.nil_append, List.cons_append, List.getD_cons_succ, List.getD_cons_zero, List.getD_nil, List.length_cons, List.length_nil, List.map_cons, List.map_nil, List.sum_cons, List.sum_nil, Nat.reduceAdd, Nat.reduceLeDiff, Value.category, Option.toList, true_or, or_true, z_ua, ↓reduceIte, Nat.reduceEqDiff, eq_self, not_true_eq_false, not_false_eq_true, false_implies, true_implies, Classical.not_not, Nat.le_refl, Nat.zero_le]
    try dsimp only
    refine zW_ok hj B180_22 22 _ _ _ _ _ b180_22 ?_
    simp only [B180_22, zW, z_wp1, z_ld, z_f0, z_f1, z_f2, z_f3, List.getElem?_cons_zero, List.getElem?_cons_succ, true_and, and_true, Int32.reduceOfInt, z_i10, z_i01, Int32.reduceLT, Int32.reduceLE, Int32.reduceAdd, Int32.reduceSub, z_set, z_set2, z_kil, List.set_cons_zero, List.set_cons_succ, List.take_succ_cons, List.take_zero, List.drop_succ_cons, List.drop_zero, List.reverse_cons, List.reverse_nil, List.nil_append, List.cons_append, List.getD_cons_succ, List.getD_cons_zero, List.getD_nil, List.length_cons, List.length_nil, List.map_cons, List.map_nil, List.sum_cons, List.sum_nil, Nat.reduceAdd, Nat.reduceLeDiff, Value.category, Option.toList, true_or, or_true, z_ua, ↓reduceIte, Nat.reduceEqDiff, eq_self, not_true_eq_false, not_false_eq_true, false_implies, true_implies, Classical.not_not, Nat.le_refl, Nat.zero_le]
    try dsimp only
    exact hQ _ _ ⟨by rw [z_b0 q], rfl⟩
  refine zW_ok hj B180_0 0 _ _ _ _ _ b180_0 ?_
  simp only [B180_0, zW, z_wp1, z_ld, z_f0, z_f1, z_f2, z_f3, List.getElem?_cons_zero, List.getElem?_cons_succ, true_and, and_true, Int32.reduceOfInt, z_i10, z_i01, Int32.reduceLT, Int32.reduceLE, Int32.reduceAdd, Int32.reduceSub, z_set, z_set2, z_kil, List.set_cons_zero, List.set_cons_succ, List.take_succ_cons, List.take_zero, List.drop_succ_cons, List.drop_zero, List.reverse_cons, List.reverse_nil, List.nil_append, List.cons_append, List.getD_cons_succ, List.getD_cons_zero, List.getD_nil, List.length_cons, List.length_nil, List.map_cons, List.map_nil, List.sum_cons, List.sum_nil, Nat.reduceAdd, Nat.reduceLeDiff, Value.category, Option.toList, true_or, or_true, z_ua, ↓reduceIte, Nat.reduceEqDiff, eq_self, not_true_eq_false, not_false_eq_true, false_implies, true_implies, Classical.not_not, Nat.le_refl, Nat.zero_le, sK71 hS]
  try dsimp only
  refine ⟨fun q => no (fun z => q (e.mpr z).1), fun q1 => ⟨fun q => no (fun z => Int32.not_lt.mpr q (e.mpr z).2), fun q2 => ?_⟩⟩
  refine zW_ok hj B180_22 22 _ _ _ _ _ b180_22 ?_
  simp only [B180_22, zW, z_wp1, z_ld, z_f0, z_f1, z_f2, z_f3, List.getElem?_cons_zero, List.getElem?_cons_succ, true_and, and_true, Int32.reduceOfInt, z_i10, z_i01, Int32.reduceLT, Int32.reduceLE, Int32.reduceAdd, Int32.reduceSub, z_set, z_set2, z_kil, List.set_cons_zero, List.set_cons_succ, List.take_succ_cons, List.take_zero, List.drop_succ_cons, List.drop_zero, List.reverse_cons, List.reverse_nil, List.nil_append, List.cons_append, List.getD_cons_succ, List.getD_cons_zero, List.getD_nil, List.length_cons, List.length_nil, List.map_cons, List.map_nil, List.sum_cons, List.sum_nil, Nat.reduceAdd, Nat.reduceLeDiff, Value.category, Option.toList, true_or, or_true, z_ua, ↓reduceIte, Nat.reduceEqDiff, eq_self, not_true_eq_false, not_false_eq_true, false_implies, true_implies, Classical.not_not, Nat.le_refl, Nat.zero_le]
  try dsimp only
  exact hQ _ _ ⟨by rw [z_b1 (e.mp ⟨q1, Int32.not_le.mp q2⟩)], rfl⟩
theorem c181 (hS : SS K L G) (hr : m_rd I t N i ms) {c k : Int32} (hc : m_sign c) (hk : p_sg c = k) : z_D l 0 181 [.ref 71, .int c] (n, K, L, I, J, G) (some (.int (z_b (p_K t N i = k)))) (n, K, L, I, J, G) := by
  have e := t_sg hr.2.2.2.2.2.2.2.1 hc
  rw [hk] at e
  refine z_ctr (by decide) (by decide +kernel) (Nat.le_of_ble_eq_true rfl) (by decide +kernel) (fun X hl hj hd hm hs hsc hQ => ?_)
  show zV X 0 [some (.ref 71), some (.int c)] [] _ 0 0
  have no : ¬ p_K t N i = k → zV X 20 [some (.ref 71), some (.int c)] [] (n, K, L, I, J, G) 0 0 := fun q => by
    refine zW_ok hj B181_20 20 _ _ _ _ _ b181_20 ?_
    simp only [B181_20, zW, z_wp1, z_ld, z_f0, z_f1, z_f2, z_f3, List.getElem?_cons_zero, List.getElem?_cons_succ, true_and, and_true, Int32.reduceOfInt, z_i10, z_i01, Int32.reduceLT, Int32.reduceLE, Int32.reduceAdd, Int32.reduceSub, z_set, z_set2, z_kil, List.set_cons_zero, List.set_cons_succ, List.take_succ_cons, List.take_zero, List.drop_succ_cons, List.drop_zero, List.reverse_cons, List.reverse_nil, List.nil_append, List.cons_append, List.getD_cons_succ, List.getD_cons_zero, List.getD_nil, List.length_cons, List.length_nil, List.map_cons, List.map_nil, List.sum_cons, List.sum_nil, Nat.reduceAdd, Nat.reduceLeDiff, Value.category, Option.toList, true_or, or_true, z_ua, ↓reduceIte, Nat.reduceEqDiff, eq_self, not_true_eq_false, not_false_eq_true, false_implies, true_implies, Classical.not_not, Nat.le_refl, Nat.zero_le]
    try dsimp only
    refine zW_ok hj B181_21 21 _ _ _ _ _ b181_21 ?_
    simp only [B181_21, zW, z_wp1, z_ld, z_f0, z_f1, z_f2, z_f3, List.getElem?_cons_zero, List.getElem?_cons_succ, true_and, and_true, Int32.reduceOfInt, z_i10, z_i01, Int32.reduceLT, Int32.reduceLE, Int32.reduceAdd, Int32.reduceSub, z_set, z_set2, z_kil, List.set_cons_zero, List.set_cons_succ, List.take_succ_cons, List.take_zero, List.drop_succ_cons, List.drop_zero, List.reverse_cons, List.reverse_nil, List.nil_append, List.cons_append, List.getD_cons_succ, List.getD_cons_zero, List.getD_nil, List.length_cons, List.length_nil, List.map_cons, List.map_nil, List.sum_cons, List.sum_nil, Nat.reduceAdd, Nat.reduceLeDiff, Value.category, Option.toList, true_or, or_true, z_ua, ↓reduceIte, Nat.reduceEqDiff, eq_self, not_true_eq_false, not_false_eq_true, false_implies, true_implies, Classical.not_not, Nat.le_refl, Nat.zero_le]
    try dsimp only
    exact hQ _ _ ⟨by rw [z_b0 q], rfl⟩
  refine zW_ok hj B181_0 0 _ _ _ _ _ b181_0 ?_
  simp only [B181_0, zW, z_wp1, z_ld, z_f0, z_f1, z_f2, z_f3, List.getElem?_cons_zero, List.getElem?_cons_succ, true_and, and_true, Int32.reduceOfInt, z_i10, z_i01, Int32.reduceLT, Int32.reduceLE, Int32.reduceAdd, Int32.reduceSub, z_set, z_set2, z_kil, List.set_cons_zero, List.set_cons_succ, List.take_succ_cons, List.take_zero, List.drop_succ_cons, List.drop_zero, List.reverse_cons, List.reverse_nil, List.nil_append, List.cons_append, List.getD_cons_succ, List.getD_cons_zero, List.getD_nil, List.length_cons, List.length_nil, List.map_cons, List.map_nil, List.sum_cons, List.sum_nil, Nat.reduceAdd, Nat.reduceLeDiff, Value.category, Option.toList, true_or, or_true, z_ua, ↓reduceIte, Nat.reduceEqDiff, eq_self, not_true_eq_false, not_false_eq_true, false_implies, true_implies, Classical.not_not, Nat.le_refl, Nat.zero_le, sK71 hS]
  try dsimp only
  refine ⟨fun q => no (fun z => q (e.mpr z).1), fun q1 => ⟨fun q => no (fun z => q (e.mpr z).2), fun q2 => ?_⟩⟩
  refine zW_ok hj B181_21 21 _ _ _ _ _ b181_21 ?_
  simp only [B181_21, zW, z_wp1, z_ld, z_f0, z_f1, z_f2, z_f3, List.getElem?_cons_zero, List.getElem?_cons_succ, true_and, and_true, Int32.reduceOfInt, z_i10, z_i01, Int32.reduceLT, Int32.reduceLE, Int32.reduceAdd, Int32.reduceSub, z_set, z_set2, z_kil, List.set_cons_zero, List.set_cons_succ, List.take_succ_cons, List.take_zero, List.drop_succ_cons, List.drop_zero, List.reverse_cons, List.reverse_nil, List.nil_append, List.cons_append, List.getD_cons_succ, List.getD_cons_zero, List.getD_nil, List.length_cons, List.length_nil, List.map_cons, List.map_nil, List.sum_cons, List.sum_nil, Nat.reduceAdd, Nat.reduceLeDiff, Value.category, Option.toList, true_or, or_true, z_ua, ↓reduceIte, Nat.reduceEqDiff, eq_self, not_true_eq_false, not_false_eq_true, false_implies, true_implies, Classical.not_not, Nat.le_refl, Nat.zero_le]
  try dsimp only
  exact hQ _ _ ⟨by rw [z_b1 (e.mp ⟨q1, q2⟩)], rfl⟩
/-- the state without its token: what emits needs -/
theorem c182 (hS : SS K L G) (hc : p_cd I ms) (hl : ms.length ≤ 800) (a b : Int32) : z_Ctr l 0 182 [.ref 71, .int a, .int b] (n, K, L, I, J, G) 0 0 (fun r h' => r = none ∧ ∃ I', h' = (n, K, L, I', J, G) ∧ m_fr I I' ∧ (∀ k, k ≠ 22 → I' 71 k = I 71 k) ∧ p_cd I' (ms ++ [(a, b)])) := by
  have e0 : (900 : Int32) + nI ms.length = nI (900 + ms.length) := by rw [show (900 : Int32) = nI 900 from rfl, nI_add]
  have e1 : (nI (900 + ms.length)).toNatClampNeg = 900 + ms.length := nI_clamp (by omega)
  have v1 : vp_in (nI (900 + ms.length)) 1800 := vp_in_nI (by omega) (by omega)
  have hm := hc.1
  refine z_ctr (by decide) (by decide +kernel) (Nat.le_of_ble_eq_true rfl) (by decide +kernel) (fun X hl hj hd hm hs hsc hQ => ?_)
  show zV X 0 [some (.ref 71), some (.int a), some (.int b)] [] _ 0 0
  refine zW_ok hj B182_0 0 _ _ _ _ _ b182_0 ?_
  simp only [B182_0, zW, z_wp1, z_ld, z_f0, z_f1, z_f2, z_f3, List.getElem?_cons_zero, List.getElem?_cons_succ, true_and, and_true, Int32.reduceOfInt, z_i10, z_i01, Int32.reduceLT, Int32.reduceLE, Int32.reduceAdd, Int32.reduceSub, z_set, z_set2, z_kil, List.set_cons_zero, List.set_cons_succ, List.take_succ_cons, List.take_zero, List.drop_succ_cons, List.drop_zero, List.reverse_cons, List.reverse_nil, List.nil_append, List.cons_append, List.getD_cons_succ, List.getD_cons_zero, List.getD_nil, List.length_cons, List.length_nil, List.map_cons, List.map_nil, List.sum_cons, List.sum_nil, Nat.reduceAdd, Nat.reduceLeDiff, Value.category, Option.toList, true_or, or_true, z_ua, ↓reduceIte, Nat.reduceEqDiff, eq_self, not_true_eq_false, not_false_eq_true, false_implies, true_implies, Classical.not_not, Nat.le_refl, Nat.zero_le, z_hI, sK71 hS, sG71_20 hS, sK81 hS, sL81 hS, sG71_21 hS, sK82 hS, sL82 hS, ‹I 71 22 = nI ms.length›, e0, v1, nI_1]
  try dsimp only
  rw [e1]
  refine hQ _ _ ⟨rfl, _, rfl, ⟨fun q x y z => by rw [z_u_ne x, z_u_ne z, z_u_ne y], fun k _ _ _ _ e _ _ => by rw [z_u_at, if_neg e, z_u_ne (by decide), z_u_ne (by decide)], fun k hk => ⟨by rw [z_u_ne (by decide), z_u_ne (by decide), z_u_at, if_neg (by omega)], by rw [z_u_ne (by decide), z_u_at, if_neg (by omega), z_u_ne (by decide)]⟩⟩, fun k hk => by rw [z_u_at, if_neg hk, z_u_ne (by decide), z_u_ne (by decide)], by rw [z_u_at, if_pos rfl, List.length_append]; rfl, fun j x hj => ?_⟩
  rw [z_u_ne (show (81 : Nat) ≠ 71 by decide), z_u_ne (show (81 : Nat) ≠ 82 by decide), z_u_ne (show (82 : Nat) ≠ 71 by decide), z_u_at, z_u_at, z_u_ne (show (82 : Nat) ≠ 81 by decide)]
  by_cases z : j = ms.length
  · subst z
    rw [List.getElem?_append_right (Nat.le_refl _), Nat.sub_self] at hj
    simp at hj
    rw [if_pos rfl, if_pos rfl, ← hj]
    exact ⟨rfl, rfl⟩
  · have hlt : j < ms.length := by
      have := (List.getElem?_eq_some_iff.mp hj).1
      rw [List.length_append] at this
      simp at this
      omega
    rw [List.getElem?_append_left hlt] at hj
    rw [if_neg (by omega), if_neg (by omega)]
    exact hc.2 j x hj
end PAR2
