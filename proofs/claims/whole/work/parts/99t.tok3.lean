/-! The class's tokens: takeWord -/
theorem p_sp1 {t : Nat → Int32} {a b : Nat} {c : Int32} : p_sp t a b [c] = true ↔ (b = a + 1 ∧ t a = c) := by
  unfold p_sp
  simp [p_sl]
theorem p_w_b (t : Nat → Int32) (a b : Nat) : p_w t a b = if p_sp t a b [97] = true then 0 else if p_sp t a b [98] = true then 1 else if p_sp t a b [99] = true then 2 else if p_sp t a b [100] = true then 3 else if p_sp t a b [101] = true then 4 else if p_sp t a b [102] = true then 5 else if p_sp t a b (z_byt 1) = true then 6 else if p_sp t a b (z_byt 2) = true then 7 else if p_sp t a b (z_byt 3) = true then 8 else if p_sp t a b (z_byt 4) = true then 9 else -1 := rfl
theorem p_w_1 {t : Nat → Int32} {a b : Nat} (h : b = a + 1) (h1 : 97 ≤ t a) (h2 : t a < 103) : p_w t a b = t a - 97 ∧ p_wk (p_w t a b) = 16 := by
  obtain ⟨c, hc, ec⟩ := nI_of (x := t a) (Int32.not_lt.mpr (Int32.le_trans (show (0 : Int32) ≤ 97 by decide) h1))
  rw [ec] at h1 h2
  have g1 := (nI_leI (a := 97) (b := c) (by omega) hc).mp h1
  have g2 : c < 103 := by
    rcases Nat.lt_or_ge c 103 with q | q
    · exact q
    · exact absurd h2 (Int32.not_lt.mpr (nI_le (a := 103) q hc))
  rw [p_w_b]
  simp only [p_sp1, h, ec, true_and]
  have : c = 97 ∨ c = 98 ∨ c = 99 ∨ c = 100 ∨ c = 101 ∨ c = 102 := by omega
  rcases this with rfl | rfl | rfl | rfl | rfl | rfl
  · rw [if_pos (show nI 97 = 97 from rfl)]; decide
  · rw [if_neg (show ¬ nI 98 = 97 by decide), if_pos (show nI 98 = 98 from rfl)]; decide
  · rw [if_neg (show ¬ nI 99 = 97 by decide), if_neg (show ¬ nI 99 = 98 by decide), if_pos (show nI 99 = 99 from rfl)]; decide
  · rw [if_neg (show ¬ nI 100 = 97 by decide), if_neg (show ¬ nI 100 = 98 by decide), if_neg (show ¬ nI 100 = 99 by decide), if_pos (show nI 100 = 100 from rfl)]; decide
  · rw [if_neg (show ¬ nI 101 = 97 by decide), if_neg (show ¬ nI 101 = 98 by decide), if_neg (show ¬ nI 101 = 99 by decide), if_neg (show ¬ nI 101 = 100 by decide), if_pos (show nI 101 = 101 from rfl)]; decide
  · rw [if_neg (show ¬ nI 102 = 97 by decide), if_neg (show ¬ nI 102 = 98 by decide), if_neg (show ¬ nI 102 = 99 by decide), if_neg (show ¬ nI 102 = 100 by decide), if_neg (show ¬ nI 102 = 101 by decide), if_pos (show nI 102 = 102 from rfl)]; decide
theorem p_w_2 {t : Nat → Int32} {a b : Nat} (h : ¬ (b = a + 1 ∧ 97 ≤ t a ∧ t a < 103)) : p_w t a b = if p_sp t a b (z_byt 1) = true then 6 else if p_sp t a b (z_byt 2) = true then 7 else if p_sp t a b (z_byt 3) = true then 8 else if p_sp t a b (z_byt 4) = true then 9 else -1 := by
  have no : ∀ c : Int32, 97 ≤ c → c < 103 → ¬ p_sp t a b [c] = true := fun c c1 c2 q => by
    obtain ⟨q1, q2⟩ := p_sp1.mp q
    exact h ⟨q1, by rw [q2]; exact c1, by rw [q2]; exact c2⟩
  rw [p_w_b, if_neg (no 97 (by decide) (by decide)), if_neg (no 98 (by decide) (by decide)), if_neg (no 99 (by decide) (by decide)), if_neg (no 100 (by decide) (by decide)), if_neg (no 101 (by decide) (by decide)), if_neg (no 102 (by decide) (by decide))]
section TOK3
variable {l : Launch} {n : Nat} {K L : Nat → Nat} {I : Nat → Nat → Int32} {J : Nat → Nat → Int64} {G : Nat → Nat → Value} {la : Nat} {b a e N w : Nat}
/-- a token more -/
abbrev x_tok (I : Nat → Nat → Int32) (la : Nat) (k p a : Int32) : Nat → Nat → Int32 := z_u (z_u (z_u (z_u I 62 la k) 63 la p) 64 la a) 61 3 (nI (la + 1))
theorem c109_loop {X : zX} (hS : SS K L G) (hj : X.2.1 = 109) (hdp : X.2.2.1 = 5) (hm : X.2.2.2.1 = 0) (hs : X.2.2.2.2.1 = 0) (hN8 : N ≤ 800) {e : Nat} (kk : zV X 25 [some (.ref 61), some (.ref 59), some (.int (nI w)), some (.int (nI N)), some (.int (nI e))] [] (n, K, L, I, J, G) 0 0) : ∀ (f a : Nat), N - a ≤ f → a ≤ N → p_ed p_L (I 59) N a = e → zV X 3 [some (.ref 61), some (.ref 59), some (.int (nI w)), some (.int (nI N)), some (.int (nI a))] [] (n, K, L, I, J, G) 0 0 := by
  intro f
  induction f with
  | zero =>
    intro a hf ha he
    have hno : ¬ (a < N ∧ p_L (I 59 a) = true) := by omega
    rw [p_ed_n hno] at he
    subst he
    have le : nI N ≤ nI a := nI_le (by omega) (by omega)
    refine zW_ok hj B109_3 3 _ _ _ _ _ b109_3 ?_
    simp only [B109_3, zW, z_wp1, z_ld, z_f0, z_f1, z_f2, z_f3, List.getElem?_cons_zero, List.getElem?_cons_succ, true_and, and_true, Int32.reduceOfInt, z_i10, z_i01, Int32.reduceLT, Int32.reduceLE, Int32.reduceAdd, Int32.reduceSub, z_set, z_set2, z_kil, List.set_cons_zero, List.set_cons_succ, List.take_succ_cons, List.take_zero, List.drop_succ_cons, List.drop_zero, List.reverse_cons, List.reverse_nil, List.nil_append, List.cons_append, List.getD_cons_succ, List.getD_cons_zero, List.getD_nil, List.length_cons, List.length_nil, List.map_cons, List.map_nil, List.sum_cons, List.sum_nil, Nat.reduceAdd, Nat.reduceLeDiff, Value.category, Option.toList, true_or, or_true, z_ua, ↓reduceIte, Nat.reduceEqDiff, eq_self, not_true_eq_false, not_false_eq_true, false_implies, true_implies, Classical.not_not, Nat.le_refl, Nat.zero_le, le]
    try dsimp only
    exact kk
  | succ f ih =>
    intro a hf ha he
    by_cases haN : a < N
    · have nle : ¬ nI N ≤ nI a := nI_ge haN (by omega)
      have ea : (nI a).toNatClampNeg = a := nI_clamp (by omega)
      have va : vp_in (nI a) 800 := vp_in_nI (by omega) (by omega)
      by_cases hD : p_L (I 59 a) = true
      · rw [p_ed_s haN hD] at he
        have ih' := ih (a + 1) (by omega) (by omega) he
        refine zW_ok hj B109_3 3 _ _ _ _ _ b109_3 ?_
        simp only [B109_3, zW, z_wp1, z_ld, z_f0, z_f1, z_f2, z_f3, List.getElem?_cons_zero, List.getElem?_cons_succ, true_and, and_true, Int32.reduceOfInt, z_i10, z_i01, Int32.reduceLT, Int32.reduceLE, Int32.reduceAdd, Int32.reduceSub, z_set, z_set2, z_kil, List.set_cons_zero, List.set_cons_succ, List.take_succ_cons, List.take_zero, List.drop_succ_cons, List.drop_zero, List.reverse_cons, List.reverse_nil, List.nil_append, List.cons_append, List.getD_cons_succ, List.getD_cons_zero, List.getD_nil, List.length_cons, List.length_nil, List.map_cons, List.map_nil, List.sum_cons, List.sum_nil, Nat.reduceAdd, Nat.reduceLeDiff, Value.category, Option.toList, true_or, or_true, z_ua, ↓reduceIte, Nat.reduceEqDiff, eq_self, not_true_eq_false, not_false_eq_true, false_implies, true_implies, Classical.not_not, Nat.le_refl, Nat.zero_le, nle, sK59 hS, sL59 hS, ea, va]
        try dsimp only
        refine z_callD (c112 (h := (n, K, L, I, J, G)) (I 59 a)) (by omega) (by omega) (by omega) (Nat.le_of_ble_eq_true rfl) ?_
        try simp only [zW, z_wp1, z_ld, z_f0, z_f1, z_f2, z_f3, List.getElem?_cons_zero, List.getElem?_cons_succ, true_and, and_true, Int32.reduceOfInt, z_i10, z_i01, Int32.reduceLT, Int32.reduceLE, Int32.reduceAdd, Int32.reduceSub, z_set, z_set2, z_kil, List.set_cons_zero, List.set_cons_succ, List.take_succ_cons, List.take_zero, List.drop_succ_cons, List.drop_zero, List.reverse_cons, List.reverse_nil, List.nil_append, List.cons_append, List.getD_cons_succ, List.getD_cons_zero, List.getD_nil, List.length_cons, List.length_nil, List.map_cons, List.map_nil, List.sum_cons, List.sum_nil, Nat.reduceAdd, Nat.reduceLeDiff, Value.category, Option.toList, true_or, or_true, z_ua, ↓reduceIte, Nat.reduceEqDiff, eq_self, not_true_eq_false, not_false_eq_true, false_implies, true_implies, Classical.not_not, Nat.le_refl, Nat.zero_le, hD, nI_1]
        try dsimp only
        exact ih'
      · rw [p_ed_n (fun q => hD q.2)] at he
        subst he
        refine zW_ok hj B109_3 3 _ _ _ _ _ b109_3 ?_
        simp only [B109_3, zW, z_wp1, z_ld, z_f0, z_f1, z_f2, z_f3, List.getElem?_cons_zero, List.getElem?_cons_succ, true_and, and_true, Int32.reduceOfInt, z_i10, z_i01, Int32.reduceLT, Int32.reduceLE, Int32.reduceAdd, Int32.reduceSub, z_set, z_set2, z_kil, List.set_cons_zero, List.set_cons_succ, List.take_succ_cons, List.take_zero, List.drop_succ_cons, List.drop_zero, List.reverse_cons, List.reverse_nil, List.nil_append, List.cons_append, List.getD_cons_succ, List.getD_cons_zero, List.getD_nil, List.length_cons, List.length_nil, List.map_cons, List.map_nil, List.sum_cons, List.sum_nil, Nat.reduceAdd, Nat.reduceLeDiff, Value.category, Option.toList, true_or, or_true, z_ua, ↓reduceIte, Nat.reduceEqDiff, eq_self, not_true_eq_false, not_false_eq_true, false_implies, true_implies, Classical.not_not, Nat.le_refl, Nat.zero_le, nle, sK59 hS, sL59 hS, ea, va]
        try dsimp only
        refine z_callD (c112 (h := (n, K, L, I, J, G)) (I 59 a)) (by omega) (by omega) (by omega) (Nat.le_of_ble_eq_true rfl) ?_
        try simp only [zW, z_wp1, z_ld, z_f0, z_f1, z_f2, z_f3, List.getElem?_cons_zero, List.getElem?_cons_succ, true_and, and_true, Int32.reduceOfInt, z_i10, z_i01, Int32.reduceLT, Int32.reduceLE, Int32.reduceAdd, Int32.reduceSub, z_set, z_set2, z_kil, List.set_cons_zero, List.set_cons_succ, List.take_succ_cons, List.take_zero, List.drop_succ_cons, List.drop_zero, List.reverse_cons, List.reverse_nil, List.nil_append, List.cons_append, List.getD_cons_succ, List.getD_cons_zero, List.getD_nil, List.length_cons, List.length_nil, List.map_cons, List.map_nil, List.sum_cons, List.sum_nil, Nat.reduceAdd, Nat.reduceLeDiff, Value.category, Option.toList, true_or, or_true, z_ua, ↓reduceIte, Nat.reduceEqDiff, eq_self, not_true_eq_false, not_false_eq_true, false_implies, true_implies, Classical.not_not, Nat.le_refl, Nat.zero_le, hD]
        try dsimp only
        exact ⟨fun _ => kk, fun q => absurd rfl q⟩
    · rw [p_ed_n (fun q => haN q.1)] at he
      subst he
      have le : nI N ≤ nI a := nI_le (by omega) (by omega)
      refine zW_ok hj B109_3 3 _ _ _ _ _ b109_3 ?_
      simp only [B109_3, zW, z_wp1, z_ld, z_f0, z_f1, z_f2, z_f3, List.getElem?_cons_zero, List.getElem?_cons_succ, true_and, and_true, Int32.reduceOfInt, z_i10, z_i01, Int32.reduceLT, Int32.reduceLE, Int32.reduceAdd, Int32.reduceSub, z_set, z_set2, z_kil, List.set_cons_zero, List.set_cons_succ, List.take_succ_cons, List.take_zero, List.drop_succ_cons, List.drop_zero, List.reverse_cons, List.reverse_nil, List.nil_append, List.cons_append, List.getD_cons_succ, List.getD_cons_zero, List.getD_nil, List.length_cons, List.length_nil, List.map_cons, List.map_nil, List.sum_cons, List.sum_nil, Nat.reduceAdd, Nat.reduceLeDiff, Value.category, Option.toList, true_or, or_true, z_ua, ↓reduceIte, Nat.reduceEqDiff, eq_self, not_true_eq_false, not_false_eq_true, false_implies, true_implies, Classical.not_not, Nat.le_refl, Nat.zero_le, le]
      try dsimp only
      exact kk
/-- takeWord -/
theorem c109 (hS : SS K L G) (hla : I 61 3 = nI la) (hl8 : la < 800) (hN8 : N ≤ 800) (hw : w < N) : z_D l 5 109 [.ref 61, .ref 59, .int (nI w), .int (nI N)] (n, K, L, I, J, G) (some (.int (nI (p_ed p_L (I 59) N w)))) (n, K, L, x_tok I la (p_wk (p_w (I 59) w (p_ed p_L (I 59) N w))) (nI w) (if p_wk (p_w (I 59) w (p_ed p_L (I 59) N w)) = 16 then p_w (I 59) w (p_ed p_L (I 59) N w) else 0), J, G) := by
  obtain ⟨i1, i2, i3⟩ := p_ed_in (P := p_L) (t := I 59) (N := N) (a := w)
  have i2' := i2 (by omega)
  have hO : z_O 109 = 9 := by decide +kernel
  refine z_ctr (by decide) (by decide +kernel) (Nat.le_of_ble_eq_true rfl) (by decide +kernel) (fun X hl hj hd hm hs hsc hQ => ?_)
  show zV X 0 [some (.ref 61), some (.ref 59), some (.int (nI w)), some (.int (nI N)), none] [] _ 0 0
  subst hl
  refine zW_ok hj B109_0 0 _ _ _ _ _ b109_0 ?_
  simp only [B109_0, zW, z_wp1, z_ld, z_f0, z_f1, z_f2, z_f3, List.getElem?_cons_zero, List.getElem?_cons_succ, true_and, and_true, Int32.reduceOfInt, z_i10, z_i01, Int32.reduceLT, Int32.reduceLE, Int32.reduceAdd, Int32.reduceSub, z_set, z_set2, z_kil, List.set_cons_zero, List.set_cons_succ, List.take_succ_cons, List.take_zero, List.drop_succ_cons, List.drop_zero, List.reverse_cons, List.reverse_nil, List.nil_append, List.cons_append, List.getD_cons_succ, List.getD_cons_zero, List.getD_nil, List.length_cons, List.length_nil, List.map_cons, List.map_nil, List.sum_cons, List.sum_nil, Nat.reduceAdd, Nat.reduceLeDiff, Value.category, Option.toList, true_or, or_true, z_ua, ↓reduceIte, Nat.reduceEqDiff, eq_self, not_true_eq_false, not_false_eq_true, false_implies, true_implies, Classical.not_not, Nat.le_refl, Nat.zero_le]
  try dsimp only
  refine c109_loop hS hj hd hm hs hN8 (e := p_ed p_L (I 59) N w) ?_ N w (by omega) (by omega) rfl
  generalize p_ed p_L (I 59) N w = e at *
  have es : nI e - nI w = nI (e - w) := nI_sub' i1
  have eq1 : nI (e - w) = 1 ↔ e - w = 1 := nI_eq (b := 1) (by omega) (by omega)
  have ea : (nI w).toNatClampNeg = w := nI_clamp (by omega)
  have va : vp_in (nI w) 800 := vp_in_nI (by omega) (by omega)
  have fin : ∀ (k am : Int32), k = p_wk (p_w (I 59) w e) → am = (if p_wk (p_w (I 59) w e) = 16 then p_w (I 59) w e else 0) → zV X 164 [some (.ref 61), some (.ref 59), some (.int (nI w)), some (.int (nI N)), some (.int (nI e))] [] (n, K, L, x_tok I la k (nI w) am, J, G) 0 0 := by
    intro k am h1 h2
    subst h1; subst h2
    refine zW_ok hj B109_164 164 _ _ _ _ _ b109_164 ?_
    simp only [B109_164, zW, z_wp1, z_ld, z_f0, z_f1, z_f2, z_f3, List.getElem?_cons_zero, List.getElem?_cons_succ, true_and, and_true, Int32.reduceOfInt, z_i10, z_i01, Int32.reduceLT, Int32.reduceLE, Int32.reduceAdd, Int32.reduceSub, z_set, z_set2, z_kil, List.set_cons_zero, List.set_cons_succ, List.take_succ_cons, List.take_zero, List.drop_succ_cons, List.drop_zero, List.reverse_cons, List.reverse_nil, List.nil_append, List.cons_append, List.getD_cons_succ, List.getD_cons_zero, List.getD_nil, List.length_cons, List.length_nil, List.map_cons, List.map_nil, List.sum_cons, List.sum_nil, Nat.reduceAdd, Nat.reduceLeDiff, Value.category, Option.toList, true_or, or_true, z_ua, ↓reduceIte, Nat.reduceEqDiff, eq_self, not_true_eq_false, not_false_eq_true, false_implies, true_implies, Classical.not_not, Nat.le_refl, Nat.zero_le]
    try dsimp only
    exact hQ _ _ ⟨rfl, rfl⟩
  have words : ¬ (e = w + 1 ∧ 97 ≤ I 59 w ∧ I 59 w < 103) → zV X 65 [some (.ref 61), some (.ref 59), some (.int (nI w)), some (.int (nI N)), some (.int (nI e))] [] (n, K, L, I, J, G) 0 0 := by
    intro hno
    have pw := p_w_2 hno
    refine z_ldcT (i := 62) (q := 1) hj (by decide +kernel) hO (Or.inl ⟨rfl, rfl⟩) ?_
    show zV X 67 _ [.ref 1] _ 0 0
    by_cases s1 : p_sp (I 59) w e (z_byt 1) = true
    · rw [if_pos s1] at pw
      have c := c111 (l := X.1) (n := n) (I := I) (J := J) (b := 1) hS (by decide) (by decide) i1 (by omega)
      rw [if_pos s1] at c
      refine zW_ok hj B109_67 67 _ _ _ _ _ b109_67 ?_
      simp only [B109_67, zW, z_wp1, z_ld, z_f0, z_f1, z_f2, z_f3, List.getElem?_cons_zero, List.getElem?_cons_succ, true_and, and_true, Int32.reduceOfInt, z_i10, z_i01, Int32.reduceLT, Int32.reduceLE, Int32.reduceAdd, Int32.reduceSub, z_set, z_set2, z_kil, List.set_cons_zero, List.set_cons_succ, List.take_succ_cons, List.take_zero, List.drop_succ_cons, List.drop_zero, List.reverse_cons, List.reverse_nil, List.nil_append, List.cons_append, List.getD_cons_succ, List.getD_cons_zero, List.getD_nil, List.length_cons, List.length_nil, List.map_cons, List.map_nil, List.sum_cons, List.sum_nil, Nat.reduceAdd, Nat.reduceLeDiff, Value.category, Option.toList, true_or, or_true, z_ua, ↓reduceIte, Nat.reduceEqDiff, eq_self, not_true_eq_false, not_false_eq_true, false_implies, true_implies, Classical.not_not, Nat.le_refl, Nat.zero_le]
      try dsimp only
      refine z_callD (c) (by omega) (by omega) (by omega) (Nat.le_of_ble_eq_true rfl) ?_
      try simp only [zW, z_wp1, z_ld, z_f0, z_f1, z_f2, z_f3, List.getElem?_cons_zero, List.getElem?_cons_succ, true_and, and_true, Int32.reduceOfInt, z_i10, z_i01, Int32.reduceLT, Int32.reduceLE, Int32.reduceAdd, Int32.reduceSub, z_set, z_set2, z_kil, List.set_cons_zero, List.set_cons_succ, List.take_succ_cons, List.take_zero, List.drop_succ_cons, List.drop_zero, List.reverse_cons, List.reverse_nil, List.nil_append, List.cons_append, List.getD_cons_succ, List.getD_cons_zero, List.getD_nil, List.length_cons, List.length_nil, List.map_cons, List.map_nil, List.sum_cons, List.sum_nil, Nat.reduceAdd, Nat.reduceLeDiff, Value.category, Option.toList, true_or, or_true, z_ua, ↓reduceIte, Nat.reduceEqDiff, eq_self, not_true_eq_false, not_false_eq_true, false_implies, true_implies, Classical.not_not, Nat.le_refl, Nat.zero_le, sK61 hS]
      try dsimp only
      refine z_callD (c108 (I := I) (J := J) hS hla hl8 12 (nI w) 0) (by omega) (by omega) (by omega) (Nat.le_of_ble_eq_true rfl) ?_
      try simp only [zW, z_wp1, z_ld, z_f0, z_f1, z_f2, z_f3, List.getElem?_cons_zero, List.getElem?_cons_succ, true_and, and_true, Int32.reduceOfInt, z_i10, z_i01, Int32.reduceLT, Int32.reduceLE, Int32.reduceAdd, Int32.reduceSub, z_set, z_set2, z_kil, List.set_cons_zero, List.set_cons_succ, List.take_succ_cons, List.take_zero, List.drop_succ_cons, List.drop_zero, List.reverse_cons, List.reverse_nil, List.nil_append, List.cons_append, List.getD_cons_succ, List.getD_cons_zero, List.getD_nil, List.length_cons, List.length_nil, List.map_cons, List.map_nil, List.sum_cons, List.sum_nil, Nat.reduceAdd, Nat.reduceLeDiff, Value.category, Option.toList, true_or, or_true, z_ua, ↓reduceIte, Nat.reduceEqDiff, eq_self, not_true_eq_false, not_false_eq_true, false_implies, true_implies, Classical.not_not, Nat.le_refl, Nat.zero_le]
      try dsimp only
      exact fin 12 0 (by rw [pw]; decide) (by rw [pw]; decide)
    · rw [if_neg s1] at pw
      have c := c111 (l := X.1) (n := n) (I := I) (J := J) (b := 1) hS (by decide) (by decide) i1 (by omega)
      rw [if_neg s1] at c
      refine zW_ok hj B109_67 67 _ _ _ _ _ b109_67 ?_
      simp only [B109_67, zW, z_wp1, z_ld, z_f0, z_f1, z_f2, z_f3, List.getElem?_cons_zero, List.getElem?_cons_succ, true_and, and_true, Int32.reduceOfInt, z_i10, z_i01, Int32.reduceLT, Int32.reduceLE, Int32.reduceAdd, Int32.reduceSub, z_set, z_set2, z_kil, List.set_cons_zero, List.set_cons_succ, List.take_succ_cons, List.take_zero, List.drop_succ_cons, List.drop_zero, List.reverse_cons, List.reverse_nil, List.nil_append, List.cons_append, List.getD_cons_succ, List.getD_cons_zero, List.getD_nil, List.length_cons, List.length_nil, List.map_cons, List.map_nil, List.sum_cons, List.sum_nil, Nat.reduceAdd, Nat.reduceLeDiff, Value.category, Option.toList, true_or, or_true, z_ua, ↓reduceIte, Nat.reduceEqDiff, eq_self, not_true_eq_false, not_false_eq_true, false_implies, true_implies, Classical.not_not, Nat.le_refl, Nat.zero_le]
      try dsimp only
      refine z_callD (c) (by omega) (by omega) (by omega) (Nat.le_of_ble_eq_true rfl) ?_
      try simp only [zW, z_wp1, z_ld, z_f0, z_f1, z_f2, z_f3, List.getElem?_cons_zero, List.getElem?_cons_succ, true_and, and_true, Int32.reduceOfInt, z_i10, z_i01, Int32.reduceLT, Int32.reduceLE, Int32.reduceAdd, Int32.reduceSub, z_set, z_set2, z_kil, List.set_cons_zero, List.set_cons_succ, List.take_succ_cons, List.take_zero, List.drop_succ_cons, List.drop_zero, List.reverse_cons, List.reverse_nil, List.nil_append, List.cons_append, List.getD_cons_succ, List.getD_cons_zero, List.getD_nil, List.length_cons, List.length_nil, List.map_cons, List.map_nil, List.sum_cons, List.sum_nil, Nat.reduceAdd, Nat.reduceLeDiff, Value.category, Option.toList, true_or, or_true, z_ua, ↓reduceIte, Nat.reduceEqDiff, eq_self, not_true_eq_false, not_false_eq_true, false_implies, true_implies, Classical.not_not, Nat.le_refl, Nat.zero_le, sK61 hS]
      try dsimp only
      refine z_ldcT (i := 68) (q := 2) hj (by decide +kernel) hO (Or.inr (Or.inl ⟨rfl, rfl⟩)) ?_
      show zV X 90 _ [.ref 2] _ 0 0
      by_cases s2 : p_sp (I 59) w e (z_byt 2) = true
      · rw [if_pos s2] at pw
        have c := c111 (l := X.1) (n := n) (I := I) (J := J) (b := 2) hS (by decide) (by decide) i1 (by omega)
        rw [if_pos s2] at c
        refine zW_ok hj B109_90 90 _ _ _ _ _ b109_90 ?_
        simp only [B109_90, zW, z_wp1, z_ld, z_f0, z_f1, z_f2, z_f3, List.getElem?_cons_zero, List.getElem?_cons_succ, true_and, and_true, Int32.reduceOfInt, z_i10, z_i01, Int32.reduceLT, Int32.reduceLE, Int32.reduceAdd, Int32.reduceSub, z_set, z_set2, z_kil, List.set_cons_zero, List.set_cons_succ, List.take_succ_cons, List.take_zero, List.drop_succ_cons, List.drop_zero, List.reverse_cons, List.reverse_nil, List.nil_append, List.cons_append, List.getD_cons_succ, List.getD_cons_zero, List.getD_nil, List.length_cons, List.length_nil, List.map_cons, List.map_nil, List.sum_cons, List.sum_nil, Nat.reduceAdd, Nat.reduceLeDiff, Value.category, Option.toList, true_or, or_true, z_ua, ↓reduceIte, Nat.reduceEqDiff, eq_self, not_true_eq_false, not_false_eq_true, false_implies, true_implies, Classical.not_not, Nat.le_refl, Nat.zero_le]
        try dsimp only
        refine z_callD (c) (by omega) (by omega) (by omega) (Nat.le_of_ble_eq_true rfl) ?_
        try simp only [zW, z_wp1, z_ld, z_f0, z_f1, z_f2, z_f3, List.getElem?_cons_zero, List.getElem?_cons_succ, true_and, and_true, Int32.reduceOfInt, z_i10, z_i01, Int32.reduceLT, Int32.reduceLE, Int32.reduceAdd, Int32.reduceSub, z_set, z_set2, z_kil, List.set_cons_zero, List.set_cons_succ, List.take_succ_cons, List.take_zero, List.drop_succ_cons, List.drop_zero, List.reverse_cons, List.reverse_nil, List.nil_append, List.cons_append, List.getD_cons_succ, List.getD_cons_zero, List.getD_nil, List.length_cons, List.length_nil, List.map_cons, List.map_nil, List.sum_cons, List.sum_nil, Nat.reduceAdd, Nat.reduceLeDiff, Value.category, Option.toList, true_or, or_true, z_ua, ↓reduceIte, Nat.reduceEqDiff, eq_self, not_true_eq_false, not_false_eq_true, false_implies, true_implies, Classical.not_not, Nat.le_refl, Nat.zero_le, sK61 hS]
        try dsimp only
        refine z_callD (c108 (I := I) (J := J) hS hla hl8 13 (nI w) 0) (by omega) (by omega) (by omega) (Nat.le_of_ble_eq_true rfl) ?_
        try simp only [zW, z_wp1, z_ld, z_f0, z_f1, z_f2, z_f3, List.getElem?_cons_zero, List.getElem?_cons_succ, true_and, and_true, Int32.reduceOfInt, z_i10, z_i01, Int32.reduceLT, Int32.reduceLE, Int32.reduceAdd, Int32.reduceSub, z_set, z_set2, z_kil, List.set_cons_zero, List.set_cons_succ, List.take_succ_cons, List.take_zero, List.drop_succ_cons, List.drop_zero, List.reverse_cons, List.reverse_nil, List.nil_append, List.cons_append, List.getD_cons_succ, List.getD_cons_zero, List.getD_nil, List.length_cons, List.length_nil, List.map_cons, List.map_nil, List.sum_cons, List.sum_nil, Nat.reduceAdd, Nat.reduceLeDiff, Value.category, Option.toList, true_or, or_true, z_ua, ↓reduceIte, Nat.reduceEqDiff, eq_self, not_true_eq_false, not_false_eq_true, false_implies, true_implies, Classical.not_not, Nat.le_refl, Nat.zero_le]
        try dsimp only
        exact fin 13 0 (by rw [pw]; decide) (by rw [pw]; decide)
      · rw [if_neg s2] at pw
        have c := c111 (l := X.1) (n := n) (I := I) (J := J) (b := 2) hS (by decide) (by decide) i1 (by omega)
        rw [if_neg s2] at c
        refine zW_ok hj B109_90 90 _ _ _ _ _ b109_90 ?_
        simp only [B109_90, zW, z_wp1, z_ld, z_f0, z_f1, z_f2, z_f3, List.getElem?_cons_zero, List.getElem?_cons_succ, true_and, and_true, Int32.reduceOfInt, z_i10, z_i01, Int32.reduceLT, Int32.reduceLE, Int32.reduceAdd, Int32.reduceSub, z_set, z_set2, z_kil, List.set_cons_zero, List.set_cons_succ, List.take_succ_cons, List.take_zero, List.drop_succ_cons, List.drop_zero, List.reverse_cons, List.reverse_nil, List.nil_append, List.cons_append, List.getD_cons_succ, List.getD_cons_zero, List.getD_nil, List.length_cons, List.length_nil, List.map_cons, List.map_nil, List.sum_cons, List.sum_nil, Nat.reduceAdd, Nat.reduceLeDiff, Value.category, Option.toList, true_or, or_true, z_ua, ↓reduceIte, Nat.reduceEqDiff, eq_self, not_true_eq_false, not_false_eq_true, false_implies, true_implies, Classical.not_not, Nat.le_refl, Nat.zero_le]
        try dsimp only
        refine z_callD (c) (by omega) (by omega) (by omega) (Nat.le_of_ble_eq_true rfl) ?_
        try simp only [zW, z_wp1, z_ld, z_f0, z_f1, z_f2, z_f3, List.getElem?_cons_zero, List.getElem?_cons_succ, true_and, and_true, Int32.reduceOfInt, z_i10, z_i01, Int32.reduceLT, Int32.reduceLE, Int32.reduceAdd, Int32.reduceSub, z_set, z_set2, z_kil, List.set_cons_zero, List.set_cons_succ, List.take_succ_cons, List.take_zero, List.drop_succ_cons, List.drop_zero, List.reverse_cons, List.reverse_nil, List.nil_append, List.cons_append, List.getD_cons_succ, List.getD_cons_zero, List.getD_nil, List.length_cons, List.length_nil, List.map_cons, List.map_nil, List.sum_cons, List.sum_nil, Nat.reduceAdd, Nat.reduceLeDiff, Value.category, Option.toList, true_or, or_true, z_ua, ↓reduceIte, Nat.reduceEqDiff, eq_self, not_true_eq_false, not_false_eq_true, false_implies, true_implies, Classical.not_not, Nat.le_refl, Nat.zero_le, sK61 hS]
        try dsimp only
        refine z_ldcT (i := 70) (q := 3) hj (by decide +kernel) hO (Or.inr (Or.inr (Or.inl ⟨rfl, rfl⟩))) ?_
        show zV X 113 _ [.ref 3] _ 0 0
        by_cases s3 : p_sp (I 59) w e (z_byt 3) = true
        · rw [if_pos s3] at pw
          have c := c111 (l := X.1) (n := n) (I := I) (J := J) (b := 3) hS (by decide) (by decide) i1 (by omega)
          rw [if_pos s3] at c
          refine zW_ok hj B109_113 113 _ _ _ _ _ b109_113 ?_
          simp only [B109_113, zW, z_wp1, z_ld, z_f0, z_f1, z_f2, z_f3, List.getElem?_cons_zero, List.getElem?_cons_succ, true_and, and_true, Int32.reduceOfInt, z_i10, z_i01, Int32.reduceLT, Int32.reduceLE, Int32.reduceAdd, Int32.reduceSub, z_set, z_set2, z_kil, List.set_cons_zero, List.set_cons_succ, List.take_succ_cons, List.take_zero, List.drop_succ_cons, List.drop_zero, List.reverse_cons, List.reverse_nil, List.nil_append, List.cons_append, List.getD_cons_succ, List.getD_cons_zero, List.getD_nil, List.length_cons, List.length_nil, List.map_cons, List.map_nil, List.sum_cons, List.sum_nil, Nat.reduceAdd, Nat.reduceLeDiff, Value.category, Option.toList, true_or, or_true, z_ua, ↓reduceIte, Nat.reduceEqDiff, eq_self, not_true_eq_false, not_false_eq_true, false_implies, true_implies, Classical.not_not, Nat.le_refl, Nat.zero_le]
          try dsimp only
          refine z_callD (c) (by omega) (by omega) (by omega) (Nat.le_of_ble_eq_true rfl) ?_
          try simp only [zW, z_wp1, z_ld, z_f0, z_f1, z_f2, z_f3, List.getElem?_cons_zero, List.getElem?_cons_succ, true_and, and_true, Int32.reduceOfInt, z_i10, z_i01, Int32.reduceLT, Int32.reduceLE, Int32.reduceAdd, Int32.reduceSub, z_set, z_set2, z_kil, List.set_cons_zero, List.set_cons_succ, List.take_succ_cons, List.take_zero, List.drop_succ_cons, List.drop_zero, List.reverse_cons, List.reverse_nil, List.nil_append, List.cons_append, List.getD_cons_succ, List.getD_cons_zero, List.getD_nil, List.length_cons, List.length_nil, List.map_cons, List.map_nil, List.sum_cons, List.sum_nil, Nat.reduceAdd, Nat.reduceLeDiff, Value.category, Option.toList, true_or, or_true, z_ua, ↓reduceIte, Nat.reduceEqDiff, eq_self, not_true_eq_false, not_false_eq_true, false_implies, true_implies, Classical.not_not, Nat.le_refl, Nat.zero_le, sK61 hS]
          try dsimp only
          refine z_callD (c108 (I := I) (J := J) hS hla hl8 14 (nI w) 0) (by omega) (by omega) (by omega) (Nat.le_of_ble_eq_true rfl) ?_
          try simp only [zW, z_wp1, z_ld, z_f0, z_f1, z_f2, z_f3, List.getElem?_cons_zero, List.getElem?_cons_succ, true_and, and_true, Int32.reduceOfInt, z_i10, z_i01, Int32.reduceLT, Int32.reduceLE, Int32.reduceAdd, Int32.reduceSub, z_set, z_set2, z_kil, List.set_cons_zero, List.set_cons_succ, List.take_succ_cons, List.take_zero, List.drop_succ_cons, List.drop_zero, List.reverse_cons, List.reverse_nil, List.nil_append, List.cons_append, List.getD_cons_succ, List.getD_cons_zero, List.getD_nil, List.length_cons, List.length_nil, List.map_cons, List.map_nil, List.sum_cons, List.sum_nil, Nat.reduceAdd, Nat.reduceLeDiff, Value.category, Option.toList, true_or, or_true, z_ua, ↓reduceIte, Nat.reduceEqDiff, eq_self, not_true_eq_false, not_false_eq_true, false_implies, true_implies, Classical.not_not, Nat.le_refl, Nat.zero_le]
          try dsimp only
          exact fin 14 0 (by rw [pw]; decide) (by rw [pw]; decide)
        · rw [if_neg s3] at pw
          have c := c111 (l := X.1) (n := n) (I := I) (J := J) (b := 3) hS (by decide) (by decide) i1 (by omega)
          rw [if_neg s3] at c
          refine zW_ok hj B109_113 113 _ _ _ _ _ b109_113 ?_
          simp only [B109_113, zW, z_wp1, z_ld, z_f0, z_f1, z_f2, z_f3, List.getElem?_cons_zero, List.getElem?_cons_succ, true_and, and_true, Int32.reduceOfInt, z_i10, z_i01, Int32.reduceLT, Int32.reduceLE, Int32.reduceAdd, Int32.reduceSub, z_set, z_set2, z_kil, List.set_cons_zero, List.set_cons_succ, List.take_succ_cons, List.take_zero, List.drop_succ_cons, List.drop_zero, List.reverse_cons, List.reverse_nil, List.nil_append, List.cons_append, List.getD_cons_succ, List.getD_cons_zero, List.getD_nil, List.length_cons, List.length_nil, List.map_cons, List.map_nil, List.sum_cons, List.sum_nil, Nat.reduceAdd, Nat.reduceLeDiff, Value.category, Option.toList, true_or, or_true, z_ua, ↓reduceIte, Nat.reduceEqDiff, eq_self, not_true_eq_false, not_false_eq_true, false_implies, true_implies, Classical.not_not, Nat.le_refl, Nat.zero_le]
          try dsimp only
          refine z_callD (c) (by omega) (by omega) (by omega) (Nat.le_of_ble_eq_true rfl) ?_
          try simp only [zW, z_wp1, z_ld, z_f0, z_f1, z_f2, z_f3, List.getElem?_cons_zero, List.getElem?_cons_succ, true_and, and_true, Int32.reduceOfInt, z_i10, z_i01, Int32.reduceLT, Int32.reduceLE, Int32.reduceAdd, Int32.reduceSub, z_set, z_set2, z_kil, List.set_cons_zero, List.set_cons_succ, List.take_succ_cons, List.take_zero, List.drop_succ_cons, List.drop_zero, List.reverse_cons, List.reverse_nil, List.nil_append, List.cons_append, List.getD_cons_succ, List.getD_cons_zero, List.getD_nil, List.length_cons, List.length_nil, List.map_cons, List.map_nil, List.sum_cons, List.sum_nil, Nat.reduceAdd, Nat.reduceLeDiff, Value.category, Option.toList, true_or, or_true, z_ua, ↓reduceIte, Nat.reduceEqDiff, eq_self, not_true_eq_false, not_false_eq_true, false_implies, true_implies, Classical.not_not, Nat.le_refl, Nat.zero_le, sK61 hS]
          try dsimp only
          refine z_ldcT (i := 72) (q := 4) hj (by decide +kernel) hO (Or.inr (Or.inr (Or.inr ⟨rfl, rfl⟩))) ?_
          show zV X 136 _ [.ref 4] _ 0 0
          by_cases s4 : p_sp (I 59) w e (z_byt 4) = true
          · rw [if_pos s4] at pw
            have c := c111 (l := X.1) (n := n) (I := I) (J := J) (b := 4) hS (by decide) (by decide) i1 (by omega)
            rw [if_pos s4] at c
            refine zW_ok hj B109_136 136 _ _ _ _ _ b109_136 ?_
            simp only [B109_136, zW, z_wp1, z_ld, z_f0, z_f1, z_f2, z_f3, List.getElem?_cons_zero, List.getElem?_cons_succ, true_and, and_true, Int32.reduceOfInt, z_i10, z_i01, Int32.reduceLT, Int32.reduceLE, Int32.reduceAdd, Int32.reduceSub, z_set, z_set2, z_kil, List.set_cons_zero, List.set_cons_succ, List.take_succ_cons, List.take_zero, List.drop_succ_cons, List.drop_zero, List.reverse_cons, List.reverse_nil, List.nil_append, List.cons_append, List.getD_cons_succ, List.getD_cons_zero, List.getD_nil, List.length_cons, List.length_nil, List.map_cons, List.map_nil, List.sum_cons, List.sum_nil, Nat.reduceAdd, Nat.reduceLeDiff, Value.category, Option.toList, true_or, or_true, z_ua, ↓reduceIte, Nat.reduceEqDiff, eq_self, not_true_eq_false, not_false_eq_true, false_implies, true_implies, Classical.not_not, Nat.le_refl, Nat.zero_le]
            try dsimp only
            refine z_callD (c) (by omega) (by omega) (by omega) (Nat.le_of_ble_eq_true rfl) ?_
            try simp only [zW, z_wp1, z_ld, z_f0, z_f1, z_f2, z_f3, List.getElem?_cons_zero, List.getElem?_cons_succ, true_and, and_true, Int32.reduceOfInt, z_i10, z_i01, Int32.reduceLT, Int32.reduceLE, Int32.reduceAdd, Int32.reduceSub, z_set, z_set2, z_kil, List.set_cons_zero, List.set_cons_succ, List.take_succ_cons, List.take_zero, List.drop_succ_cons, List.drop_zero, List.reverse_cons, List.reverse_nil, List.nil_append, List.cons_append, List.getD_cons_succ, List.getD_cons_zero, List.getD_nil, List.length_cons, List.length_nil, List.map_cons, List.map_nil, List.sum_cons, List.sum_nil, Nat.reduceAdd, Nat.reduceLeDiff, Value.category, Option.toList, true_or, or_true, z_ua, ↓reduceIte, Nat.reduceEqDiff, eq_self, not_true_eq_false, not_false_eq_true, false_implies, true_implies, Classical.not_not, Nat.le_refl, Nat.zero_le, sK61 hS]
            try dsimp only
            refine z_callD (c108 (I := I) (J := J) hS hla hl8 15 (nI w) 0) (by omega) (by omega) (by omega) (Nat.le_of_ble_eq_true rfl) ?_
            try simp only [zW, z_wp1, z_ld, z_f0, z_f1, z_f2, z_f3, List.getElem?_cons_zero, List.getElem?_cons_succ, true_and, and_true, Int32.reduceOfInt, z_i10, z_i01, Int32.reduceLT, Int32.reduceLE, Int32.reduceAdd, Int32.reduceSub, z_set, z_set2, z_kil, List.set_cons_zero, List.set_cons_succ, List.take_succ_cons, List.take_zero, List.drop_succ_cons, List.drop_zero, List.reverse_cons, List.reverse_nil, List.nil_append, List.cons_append, List.getD_cons_succ, List.getD_cons_zero, List.getD_nil, List.length_cons, List.length_nil, List.map_cons, List.map_nil, List.sum_cons, List.sum_nil, Nat.reduceAdd, Nat.reduceLeDiff, Value.category, Option.toList, true_or, or_true, z_ua, ↓reduceIte, Nat.reduceEqDiff, eq_self, not_true_eq_false, not_false_eq_true, false_implies, true_implies, Classical.not_not, Nat.le_refl, Nat.zero_le]
            try dsimp only
            exact fin 15 0 (by rw [pw]; decide) (by rw [pw]; decide)
          · rw [if_neg s4] at pw
            have c := c111 (l := X.1) (n := n) (I := I) (J := J) (b := 4) hS (by decide) (by decide) i1 (by omega)
            rw [if_neg s4] at c
            refine zW_ok hj B109_136 136 _ _ _ _ _ b109_136 ?_
            simp only [B109_136, zW, z_wp1, z_ld, z_f0, z_f1, z_f2, z_f3, List.getElem?_cons_zero, List.getElem?_cons_succ, true_and, and_true, Int32.reduceOfInt, z_i10, z_i01, Int32.reduceLT, Int32.reduceLE, Int32.reduceAdd, Int32.reduceSub, z_set, z_set2, z_kil, List.set_cons_zero, List.set_cons_succ, List.take_succ_cons, List.take_zero, List.drop_succ_cons, List.drop_zero, List.reverse_cons, List.reverse_nil, List.nil_append, List.cons_append, List.getD_cons_succ, List.getD_cons_zero, List.getD_nil, List.length_cons, List.length_nil, List.map_cons, List.map_nil, List.sum_cons, List.sum_nil, Nat.reduceAdd, Nat.reduceLeDiff, Value.category, Option.toList, true_or, or_true, z_ua, ↓reduceIte, Nat.reduceEqDiff, eq_self, not_true_eq_false, not_false_eq_true, false_implies, true_implies, Classical.not_not, Nat.le_refl, Nat.zero_le]
            try dsimp only
            refine z_callD (c) (by omega) (by omega) (by omega) (Nat.le_of_ble_eq_true rfl) ?_
            try simp only [zW, z_wp1, z_ld, z_f0, z_f1, z_f2, z_f3, List.getElem?_cons_zero, List.getElem?_cons_succ, true_and, and_true, Int32.reduceOfInt, z_i10, z_i01, Int32.reduceLT, Int32.reduceLE, Int32.reduceAdd, Int32.reduceSub, z_set, z_set2, z_kil, List.set_cons_zero, List.set_cons_succ, List.take_succ_cons, List.take_zero, List.drop_succ_cons, List.drop_zero, List.reverse_cons, List.reverse_nil, List.nil_append, List.cons_append, List.getD_cons_succ, List.getD_cons_zero, List.getD_nil, List.length_cons, List.length_nil, List.map_cons, List.map_nil, List.sum_cons, List.sum_nil, Nat.reduceAdd, Nat.reduceLeDiff, Value.category, Option.toList, true_or, or_true, z_ua, ↓reduceIte, Nat.reduceEqDiff, eq_self, not_true_eq_false, not_false_eq_true, false_implies, true_implies, Classical.not_not, Nat.le_refl, Nat.zero_le, sK61 hS]
            try dsimp only
            refine zW_ok hj B109_157 157 _ _ _ _ _ b109_157 ?_
            simp only [B109_157, zW, z_wp1, z_ld, z_f0, z_f1, z_f2, z_f3, List.getElem?_cons_zero, List.getElem?_cons_succ, true_and, and_true, Int32.reduceOfInt, z_i10, z_i01, Int32.reduceLT, Int32.reduceLE, Int32.reduceAdd, Int32.reduceSub, z_set, z_set2, z_kil, List.set_cons_zero, List.set_cons_succ, List.take_succ_cons, List.take_zero, List.drop_succ_cons, List.drop_zero, List.reverse_cons, List.reverse_nil, List.nil_append, List.cons_append, List.getD_cons_succ, List.getD_cons_zero, List.getD_nil, List.length_cons, List.length_nil, List.map_cons, List.map_nil, List.sum_cons, List.sum_nil, Nat.reduceAdd, Nat.reduceLeDiff, Value.category, Option.toList, true_or, or_true, z_ua, ↓reduceIte, Nat.reduceEqDiff, eq_self, not_true_eq_false, not_false_eq_true, false_implies, true_implies, Classical.not_not, Nat.le_refl, Nat.zero_le, sK61 hS]
            try dsimp only
            refine z_callD (c108 (I := I) (J := J) hS hla hl8 1 (nI w) 0) (by omega) (by omega) (by omega) (Nat.le_of_ble_eq_true rfl) ?_
            try simp only [zW, z_wp1, z_ld, z_f0, z_f1, z_f2, z_f3, List.getElem?_cons_zero, List.getElem?_cons_succ, true_and, and_true, Int32.reduceOfInt, z_i10, z_i01, Int32.reduceLT, Int32.reduceLE, Int32.reduceAdd, Int32.reduceSub, z_set, z_set2, z_kil, List.set_cons_zero, List.set_cons_succ, List.take_succ_cons, List.take_zero, List.drop_succ_cons, List.drop_zero, List.reverse_cons, List.reverse_nil, List.nil_append, List.cons_append, List.getD_cons_succ, List.getD_cons_zero, List.getD_nil, List.length_cons, List.length_nil, List.map_cons, List.map_nil, List.sum_cons, List.sum_nil, Nat.reduceAdd, Nat.reduceLeDiff, Value.category, Option.toList, true_or, or_true, z_ua, ↓reduceIte, Nat.reduceEqDiff, eq_self, not_true_eq_false, not_false_eq_true, false_implies, true_implies, Classical.not_not, Nat.le_refl, Nat.zero_le]
            try dsimp only
            exact fin 1 0 (by rw [pw]; decide) (by rw [pw]; decide)
  refine zW_ok hj B109_25 25 _ _ _ _ _ b109_25 ?_
  simp only [B109_25, zW, z_wp1, z_ld, z_f0, z_f1, z_f2, z_f3, List.getElem?_cons_zero, List.getElem?_cons_succ, true_and, and_true, Int32.reduceOfInt, z_i10, z_i01, Int32.reduceLT, Int32.reduceLE, Int32.reduceAdd, Int32.reduceSub, z_set, z_set2, z_kil, List.set_cons_zero, List.set_cons_succ, List.take_succ_cons, List.take_zero, List.drop_succ_cons, List.drop_zero, List.reverse_cons, List.reverse_nil, List.nil_append, List.cons_append, List.getD_cons_succ, List.getD_cons_zero, List.getD_nil, List.length_cons, List.length_nil, List.map_cons, List.map_nil, List.sum_cons, List.sum_nil, Nat.reduceAdd, Nat.reduceLeDiff, Value.category, Option.toList, true_or, or_true, z_ua, ↓reduceIte, Nat.reduceEqDiff, eq_self, not_true_eq_false, not_false_eq_true, false_implies, true_implies, Classical.not_not, Nat.le_refl, Nat.zero_le, es, eq1, sK59 hS, sL59 hS, ea, va, sK61 hS]
  try dsimp only
  refine ⟨fun h1 => words (fun q => h1 (by omega)), fun h1 => ⟨fun h2 => words (fun q => Int32.not_lt.mpr q.2.1 h2), fun h2 => ⟨fun h3 => words (fun q => Int32.not_le.mpr q.2.2 h3), fun h3 => ?_⟩⟩⟩
  obtain ⟨p1, p2⟩ := p_w_1 (t := I 59) (a := w) (b := e) (by omega) (Int32.not_lt.mp h2) (Int32.not_le.mp h3)
  refine z_callD (c108 (I := I) (J := J) hS hla hl8 16 (nI w) (I 59 w - 97)) (by omega) (by omega) (by omega) (Nat.le_of_ble_eq_true rfl) ?_
  try simp only [zW, z_wp1, z_ld, z_f0, z_f1, z_f2, z_f3, List.getElem?_cons_zero, List.getElem?_cons_succ, true_and, and_true, Int32.reduceOfInt, z_i10, z_i01, Int32.reduceLT, Int32.reduceLE, Int32.reduceAdd, Int32.reduceSub, z_set, z_set2, z_kil, List.set_cons_zero, List.set_cons_succ, List.take_succ_cons, List.take_zero, List.drop_succ_cons, List.drop_zero, List.reverse_cons, List.reverse_nil, List.nil_append, List.cons_append, List.getD_cons_succ, List.getD_cons_zero, List.getD_nil, List.length_cons, List.length_nil, List.map_cons, List.map_nil, List.sum_cons, List.sum_nil, Nat.reduceAdd, Nat.reduceLeDiff, Value.category, Option.toList, true_or, or_true, z_ua, ↓reduceIte, Nat.reduceEqDiff, eq_self, not_true_eq_false, not_false_eq_true, false_implies, true_implies, Classical.not_not, Nat.le_refl, Nat.zero_le]
  try dsimp only
  exact fin 16 (I 59 w - 97) p2.symm (by rw [if_pos p2, p1])
end TOK3
