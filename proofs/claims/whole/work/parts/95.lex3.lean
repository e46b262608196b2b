/-! Texts cut: the model's next -/
theorem p_nu_bd {t : Nat → Int32} {w : Nat} : ∀ k, k ≤ 4 → (∀ j, j < k → p_D (t (w + j)) = true) → ∃ m, m < 10 ^ k ∧ p_nu t w k = nI m
  | 0, _, _ => ⟨0, by omega, rfl⟩
  | k + 1, hk, h => by
    obtain ⟨m, hm, e⟩ := p_nu_bd k (by omega) (fun j hj => h j (by omega))
    have hd := h k (by omega)
    unfold p_D at hd
    rw [decide_eq_true_eq] at hd
    obtain ⟨c, hc, ec⟩ := nI_of (x := t (w + k)) (Int32.not_lt.mpr (Int32.le_trans (show (0 : Int32) ≤ 48 by decide) hd.1))
    rw [ec] at hd
    have h1 := (nI_leI (a := 48) (b := c) (by omega) hc).mp hd.1
    have h2 := (nI_leI (a := c) (b := 57) hc (by omega)).mp hd.2
    refine ⟨m * 10 + (c - 48), by rw [Nat.pow_succ]; omega, ?_⟩
    rw [p_nu, e, ec, show (10 : Int32) = nI 10 from rfl, nI_mul, nI_add, show (48 : Int32) = nI 48 from rfl, nI_sub' (by omega)]
    congr 1
    omega
theorem p_sg_1 {c : Int32} : p_sg c = 1 ↔ ¬ m_sign c := by
  unfold p_sg m_sign
  constructor
  · intro h
    rintro (rfl | rfl | rfl | rfl | rfl | rfl | rfl | rfl | rfl | rfl) <;> simp at h
  · intro h
    simp only [not_or] at h
    obtain ⟨h1, h2, h3, h4, h5, h6, h7, h8, h9, h10⟩ := h
    rw [if_neg h1, if_neg h2, if_neg h3, if_neg h4, if_neg h5, if_neg h6, if_neg h7, if_neg h8, if_neg h9, if_neg h10]
section LEX3
variable {l : Launch} {n : Nat} {K L : Nat → Nat} {I : Nat → Nat → Int32} {J : Nat → Nat → Int64} {G : Nat → Nat → Value} {N : Nat}
theorem c177_d {X : zX} (hS : SS K L G) (hj : X.2.1 = 177) (hd : X.2.2.1 = 2) (hm : X.2.2.2.1 = 0) (hs : X.2.2.2.2.1 = 0) (hN : I 71 11 = nI N) (hN8 : N ≤ 800) {e w : Nat} {x1 : Option Value} {I0 : Nat → Nat → Int32} (kk : ∀ I', p_fr I I' → (∀ k, k ≠ 12 → k ≠ 15 → I' 71 k = I0 71 k) → I' 71 12 = nI e → (e - w ≤ 4 → I' 71 15 = p_nu (I 77) w (e - w)) → zV X 239 [some (.ref 71), x1] [] (n, K, L, I', J, G) 0 0) : ∀ (f a : Nat) (I' : Nat → Nat → Int32), N - a ≤ f → a ≤ N → w ≤ a → (∀ j, w ≤ j → j < a → p_D (I 77 j) = true) → p_ed p_D (I 77) N a = e → p_fr I I' → (∀ k, k ≠ 12 → k ≠ 15 → I' 71 k = I0 71 k) → I' 71 12 = nI a → (a - w ≤ 4 → I' 71 15 = p_nu (I 77) w (a - w)) → zV X 171 [some (.ref 71), x1] [] (n, K, L, I', J, G) 0 0 := by
  have stop : ∀ (a : Nat) (I' : Nat → Nat → Int32), a ≤ N → ¬ (a < N ∧ p_D (I 77 a) = true) → a = e → p_fr I I' → (∀ k, k ≠ 12 → k ≠ 15 → I' 71 k = I0 71 k) → I' 71 12 = nI a → (a - w ≤ 4 → I' 71 15 = p_nu (I 77) w (a - w)) → zV X 171 [some (.ref 71), x1] [] (n, K, L, I', J, G) 0 0 := by
    intro a I' ha hno he hfr h0 hat hv
    subst he
    have hl : ¬ (48 ≤ p_rw I N a ∧ p_rw I N a ≤ 57) := fun q => hno (p_rw_D.mp q)
    refine zW_ok hj B177_171 171 _ _ _ _ _ b177_171 ?_
    simp only [B177_171, zW, z_wp1, z_ld, z_f0, z_f1, z_f2, z_f3, List.getElem?_cons_zero, List.getElem?_cons_succ, true_and, and_true, Int32.reduceOfInt, z_i10, z_i01, Int32.reduceLT, Int32.reduceLE, Int32.reduceAdd, Int32.reduceSub, z_set, z_set2, z_kil, List.set_cons_zero, List.set_cons_succ, List.take_succ_cons, List.take_zero, List.drop_succ_cons, List.drop_zero, List.reverse_cons, List.reverse_nil, List.nil_append, List.cons_append, List.getD_cons_succ, List.getD_cons_zero, List.getD_nil, List.length_cons, List.length_nil, List.map_cons, List.map_nil, List.sum_cons, List.sum_nil, Nat.reduceAdd, Nat.reduceLeDiff, Value.category, Option.toList, true_or, or_true, z_ua, ↓reduceIte, Nat.reduceEqDiff, eq_self, not_true_eq_false, not_false_eq_true, false_implies, true_implies, Classical.not_not, Nat.le_refl, Nat.zero_le, sK71 hS, hat]
    try dsimp only
    refine z_callD (c172f hS hfr hN hN8 (show a ≤ 800 by omega)) (by omega) (by omega) (by omega) (Nat.le_of_ble_eq_true rfl) ?_
    try simp only [zW, z_wp1, z_ld, z_f0, z_f1, z_f2, z_f3, List.getElem?_cons_zero, List.getElem?_cons_succ, true_and, and_true, Int32.reduceOfInt, z_i10, z_i01, Int32.reduceLT, Int32.reduceLE, Int32.reduceAdd, Int32.reduceSub, z_set, z_set2, z_kil, List.set_cons_zero, List.set_cons_succ, List.take_succ_cons, List.take_zero, List.drop_succ_cons, List.drop_zero, List.reverse_cons, List.reverse_nil, List.nil_append, List.cons_append, List.getD_cons_succ, List.getD_cons_zero, List.getD_nil, List.length_cons, List.length_nil, List.map_cons, List.map_nil, List.sum_cons, List.sum_nil, Nat.reduceAdd, Nat.reduceLeDiff, Value.category, Option.toList, true_or, or_true, z_ua, ↓reduceIte, Nat.reduceEqDiff, eq_self, not_true_eq_false, not_false_eq_true, false_implies, true_implies, Classical.not_not, Nat.le_refl, Nat.zero_le, sK71 hS]
    try dsimp only
    refine z_callD (c174 (I := I') (J := J) hS (p_rw I N a)) (by omega) (by omega) (by omega) (Nat.le_of_ble_eq_true rfl) ?_
    try simp only [zW, z_wp1, z_ld, z_f0, z_f1, z_f2, z_f3, List.getElem?_cons_zero, List.getElem?_cons_succ, true_and, and_true, Int32.reduceOfInt, z_i10, z_i01, Int32.reduceLT, Int32.reduceLE, Int32.reduceAdd, Int32.reduceSub, z_set, z_set2, z_kil, List.set_cons_zero, List.set_cons_succ, List.take_succ_cons, List.take_zero, List.drop_succ_cons, List.drop_zero, List.reverse_cons, List.reverse_nil, List.nil_append, List.cons_append, List.getD_cons_succ, List.getD_cons_zero, List.getD_nil, List.length_cons, List.length_nil, List.map_cons, List.map_nil, List.sum_cons, List.sum_nil, Nat.reduceAdd, Nat.reduceLeDiff, Value.category, Option.toList, true_or, or_true, z_ua, ↓reduceIte, Nat.reduceEqDiff, eq_self, not_true_eq_false, not_false_eq_true, false_implies, true_implies, Classical.not_not, Nat.le_refl, Nat.zero_le, sK71 hS, z_b0 hl]
    try dsimp only
    exact kk I' hfr h0 hat hv
  intro f
  induction f with
  | zero =>
    intro a I' hf ha hwa hdg he hfr h0 hat hv
    have hno : ¬ (a < N ∧ p_D (I 77 a) = true) := by omega
    exact stop a I' ha hno (by rw [p_ed_n hno] at he; exact he) hfr h0 hat hv
  | succ f ih =>
    intro a I' hf ha hwa hdg he hfr h0 hat hv
    by_cases hy : a < N ∧ p_D (I 77 a) = true
    · rw [p_ed_s hy.1 hy.2] at he
      have hl := (p_rw_D (I := I) (N := N) (k := a)).mpr hy
      have er : p_rw I N a = I 77 a := if_pos hy.1
      have nx : ∀ x : Int32, (a + 1 - w ≤ 4 → x = p_nu (I 77) w (a + 1 - w)) → zV X 223 [some (.ref 71), x1] [.int x, .ref 71] (n, K, L, I', J, G) 0 0 := by
        intro x hx
        refine zW_ok hj B177_223 223 _ _ _ _ _ b177_223 ?_
        simp only [B177_223, zW, z_wp1, z_ld, z_f0, z_f1, z_f2, z_f3, List.getElem?_cons_zero, List.getElem?_cons_succ, true_and, and_true, Int32.reduceOfInt, z_i10, z_i01, Int32.reduceLT, Int32.reduceLE, Int32.reduceAdd, Int32.reduceSub, z_set, z_set2, z_kil, List.set_cons_zero, List.set_cons_succ, List.take_succ_cons, List.take_zero, List.drop_succ_cons, List.drop_zero, List.reverse_cons, List.reverse_nil, List.nil_append, List.cons_append, List.getD_cons_succ, List.getD_cons_zero, List.getD_nil, List.length_cons, List.length_nil, List.map_cons, List.map_nil, List.sum_cons, List.sum_nil, Nat.reduceAdd, Nat.reduceLeDiff, Value.category, Option.toList, true_or, or_true, z_ua, ↓reduceIte, Nat.reduceEqDiff, eq_self, not_true_eq_false, not_false_eq_true, false_implies, true_implies, Classical.not_not, Nat.le_refl, Nat.zero_le, sK71 hS, hat, nI_1]
        try dsimp only
        exact ih (a + 1) _ (by omega) (by omega) (by omega) (fun j j1 j2 => by
          by_cases z : j = a
          · rw [z]; exact hy.2
          · exact hdg j j1 (by omega)) he ((hfr.u _ _ (Or.inr (Or.inr (Or.inr rfl)))).u _ _ (Or.inl rfl)) (fun k b c => by rw [z_u_at, if_neg b, z_u_at, if_neg c]; exact h0 k b c) (by rw [z_u_at, if_pos rfl]) (fun q => by rw [z_u_at, if_neg (by decide), z_u_at, if_pos rfl]; exact hx q)
      refine zW_ok hj B177_171 171 _ _ _ _ _ b177_171 ?_
      simp only [B177_171, zW, z_wp1, z_ld, z_f0, z_f1, z_f2, z_f3, List.getElem?_cons_zero, List.getElem?_cons_succ, true_and, and_true, Int32.reduceOfInt, z_i10, z_i01, Int32.reduceLT, Int32.reduceLE, Int32.reduceAdd, Int32.reduceSub, z_set, z_set2, z_kil, List.set_cons_zero, List.set_cons_succ, List.take_succ_cons, List.take_zero, List.drop_succ_cons, List.drop_zero, List.reverse_cons, List.reverse_nil, List.nil_append, List.cons_append, List.getD_cons_succ, List.getD_cons_zero, List.getD_nil, List.length_cons, List.length_nil, List.map_cons, List.map_nil, List.sum_cons, List.sum_nil, Nat.reduceAdd, Nat.reduceLeDiff, Value.category, Option.toList, true_or, or_true, z_ua, ↓reduceIte, Nat.reduceEqDiff, eq_self, not_true_eq_false, not_false_eq_true, false_implies, true_implies, Classical.not_not, Nat.le_refl, Nat.zero_le, sK71 hS, hat]
      try dsimp only
      refine z_callD (c172f hS hfr hN hN8 (show a ≤ 800 by omega)) (by omega) (by omega) (by omega) (Nat.le_of_ble_eq_true rfl) ?_
      try simp only [zW, z_wp1, z_ld, z_f0, z_f1, z_f2, z_f3, List.getElem?_cons_zero, List.getElem?_cons_succ, true_and, and_true, Int32.reduceOfInt, z_i10, z_i01, Int32.reduceLT, Int32.reduceLE, Int32.reduceAdd, Int32.reduceSub, z_set, z_set2, z_kil, List.set_cons_zero, List.set_cons_succ, List.take_succ_cons, List.take_zero, List.drop_succ_cons, List.drop_zero, List.reverse_cons, List.reverse_nil, List.nil_append, List.cons_append, List.getD_cons_succ, List.getD_cons_zero, List.getD_nil, List.length_cons, List.length_nil, List.map_cons, List.map_nil, List.sum_cons, List.sum_nil, Nat.reduceAdd, Nat.reduceLeDiff, Value.category, Option.toList, true_or, or_true, z_ua, ↓reduceIte, Nat.reduceEqDiff, eq_self, not_true_eq_false, not_false_eq_true, false_implies, true_implies, Classical.not_not, Nat.le_refl, Nat.zero_le, sK71 hS]
      try dsimp only
      refine z_callD (c174 (I := I') (J := J) hS (p_rw I N a)) (by omega) (by omega) (by omega) (Nat.le_of_ble_eq_true rfl) ?_
      try simp only [zW, z_wp1, z_ld, z_f0, z_f1, z_f2, z_f3, List.getElem?_cons_zero, List.getElem?_cons_succ, true_and, and_true, Int32.reduceOfInt, z_i10, z_i01, Int32.reduceLT, Int32.reduceLE, Int32.reduceAdd, Int32.reduceSub, z_set, z_set2, z_kil, List.set_cons_zero, List.set_cons_succ, List.take_succ_cons, List.take_zero, List.drop_succ_cons, List.drop_zero, List.reverse_cons, List.reverse_nil, List.nil_append, List.cons_append, List.getD_cons_succ, List.getD_cons_zero, List.getD_nil, List.length_cons, List.length_nil, List.map_cons, List.map_nil, List.sum_cons, List.sum_nil, Nat.reduceAdd, Nat.reduceLeDiff, Value.category, Option.toList, true_or, or_true, z_ua, ↓reduceIte, Nat.reduceEqDiff, eq_self, not_true_eq_false, not_false_eq_true, false_implies, true_implies, Classical.not_not, Nat.le_refl, Nat.zero_le, sK71 hS, z_b1 hl]
      try dsimp only
      refine ⟨fun h => ?_, fun h => ?_⟩
      · refine zW_ok hj B177_219 219 _ _ _ _ _ b177_219 ?_
        simp only [B177_219, zW, z_wp1, z_ld, z_f0, z_f1, z_f2, z_f3, List.getElem?_cons_zero, List.getElem?_cons_succ, true_and, and_true, Int32.reduceOfInt, z_i10, z_i01, Int32.reduceLT, Int32.reduceLE, Int32.reduceAdd, Int32.reduceSub, z_set, z_set2, z_kil, List.set_cons_zero, List.set_cons_succ, List.take_succ_cons, List.take_zero, List.drop_succ_cons, List.drop_zero, List.reverse_cons, List.reverse_nil, List.nil_append, List.cons_append, List.getD_cons_succ, List.getD_cons_zero, List.getD_nil, List.length_cons, List.length_nil, List.map_cons, List.map_nil, List.sum_cons, List.sum_nil, Nat.reduceAdd, Nat.reduceLeDiff, Value.category, Option.toList, true_or, or_true, z_ua, ↓reduceIte, Nat.reduceEqDiff, eq_self, not_true_eq_false, not_false_eq_true, false_implies, true_implies, Classical.not_not, Nat.le_refl, Nat.zero_le, sK71 hS]
        try dsimp only
        refine nx _ (fun q => ?_)
        exfalso
        have hv' := hv (by omega)
        obtain ⟨m, hm', em⟩ := p_nu_bd (t := I 77) (w := w) (a - w) (by omega) (fun j hj => hdg (w + j) (by omega) (by omega))
        rw [hv', em] at h
        have h3 : 10 ^ (a - w) ≤ 10 ^ 3 := Nat.pow_le_pow_right (by omega) (by omega)
        have := (nI_leI (a := 10000) (b := m) (by omega) (by omega)).mp h
        omega
      · simp only [zW, z_wp1, z_ld, z_f0, z_f1, z_f2, z_f3, List.getElem?_cons_zero, List.getElem?_cons_succ, true_and, and_true, Int32.reduceOfInt, z_i10, z_i01, Int32.reduceLT, Int32.reduceLE, Int32.reduceAdd, Int32.reduceSub, z_set, z_set2, z_kil, List.set_cons_zero, List.set_cons_succ, List.take_succ_cons, List.take_zero, List.drop_succ_cons, List.drop_zero, List.reverse_cons, List.reverse_nil, List.nil_append, List.cons_append, List.getD_cons_succ, List.getD_cons_zero, List.getD_nil, List.length_cons, List.length_nil, List.map_cons, List.map_nil, List.sum_cons, List.sum_nil, Nat.reduceAdd, Nat.reduceLeDiff, Value.category, Option.toList, true_or, or_true, z_ua, ↓reduceIte, Nat.reduceEqDiff, eq_self, not_true_eq_false, not_false_eq_true, false_implies, true_implies, Classical.not_not, Nat.le_refl, Nat.zero_le, sK71 hS, hat]
        try dsimp only
        refine z_callD (c172f hS hfr hN hN8 (show a ≤ 800 by omega)) (by omega) (by omega) (by omega) (Nat.le_of_ble_eq_true rfl) ?_
        try simp only [zW, z_wp1, z_ld, z_f0, z_f1, z_f2, z_f3, List.getElem?_cons_zero, List.getElem?_cons_succ, true_and, and_true, Int32.reduceOfInt, z_i10, z_i01, Int32.reduceLT, Int32.reduceLE, Int32.reduceAdd, Int32.reduceSub, z_set, z_set2, z_kil, List.set_cons_zero, List.set_cons_succ, List.take_succ_cons, List.take_zero, List.drop_succ_cons, List.drop_zero, List.reverse_cons, List.reverse_nil, List.nil_append, List.cons_append, List.getD_cons_succ, List.getD_cons_zero, List.getD_nil, List.length_cons, List.length_nil, List.map_cons, List.map_nil, List.sum_cons, List.sum_nil, Nat.reduceAdd, Nat.reduceLeDiff, Value.category, Option.toList, true_or, or_true, z_ua, ↓reduceIte, Nat.reduceEqDiff, eq_self, not_true_eq_false, not_false_eq_true, false_implies, true_implies, Classical.not_not, Nat.le_refl, Nat.zero_le, sK71 hS]
        try dsimp only
        refine nx _ (fun q => ?_)
        rw [hv (by omega), er, show a + 1 - w = (a - w) + 1 by omega, p_nu, show w + (a - w) = a by omega, Int32.mul_comm]
    · exact stop a I' ha hy (by rw [p_ed_n hy] at he; exact he) hfr h0 hat hv
/-- next -/
theorem c177 (hS : SS K L G) (hW : p_lay (I 78) 0 p_ws) (hN : I 71 11 = nI N) (hN8 : N ≤ 800) (hch : ∀ k, k < N → 0 ≤ I 77 k) {a : Nat} (ha : a ≤ N) (hat : I 71 12 = nI a) : z_Ctr l 2 177 [.ref 71] (n, K, L, I, J, G) 0 0 (fun r h' => r = none ∧ ∃ I', h' = (n, K, L, I', J, G) ∧ p_fr I I' ∧ I' 71 12 = nI (p_nx (I 77) N a) ∧ I' 71 13 = nI (p_st (I 77) N a) ∧ p_tk (I' 71 14) (I' 71 15) (p_kd (I 77) N a) (p_am (I 77) N a)) := by
  refine z_ctr (by decide) (by decide +kernel) (Nat.le_of_ble_eq_true rfl) (by decide +kernel) (fun X hl hj hd hm hs hsc hQ => ?_)
  show zV X 0 [some (.ref 71), none] [] _ 0 0
  refine c177_w hS hj hd hm hs hN hN8 (w := p_st (I 77) N a) (fun I1 f1 at1 => ?_) N a I (by omega) ha rfl (p_fr.rf I) hat
  have hw1 : p_st (I 77) N a ≤ N := (p_ed_in (P := p_W)).2.1 ha
  generalize hwd : p_st (I 77) N a = w at *
  refine zW_ok hj B177_39 39 _ _ _ _ _ b177_39 ?_
  simp only [B177_39, zW, z_wp1, z_ld, z_f0, z_f1, z_f2, z_f3, List.getElem?_cons_zero, List.getElem?_cons_succ, true_and, and_true, Int32.reduceOfInt, z_i10, z_i01, Int32.reduceLT, Int32.reduceLE, Int32.reduceAdd, Int32.reduceSub, z_set, z_set2, z_kil, List.set_cons_zero, List.set_cons_succ, List.take_succ_cons, List.take_zero, List.drop_succ_cons, List.drop_zero, List.reverse_cons, List.reverse_nil, List.nil_append, List.cons_append, List.getD_cons_succ, List.getD_cons_zero, List.getD_nil, List.length_cons, List.length_nil, List.map_cons, List.map_nil, List.sum_cons, List.sum_nil, Nat.reduceAdd, Nat.reduceLeDiff, Value.category, Option.toList, true_or, or_true, z_ua, ↓reduceIte, Nat.reduceEqDiff, eq_self, not_true_eq_false, not_false_eq_true, false_implies, true_implies, Classical.not_not, Nat.le_refl, Nat.zero_le, sK71 hS, at1]
  try dsimp only
  have f2 : p_fr I (z_u (z_u I1 71 13 (nI w)) 71 14 1) := (f1.u _ _ (Or.inr (Or.inl rfl))).u _ _ (Or.inr (Or.inr (Or.inl rfl)))
  generalize hI2 : z_u (z_u I1 71 13 (nI w)) 71 14 1 = I2 at *
  have at2 : I2 71 12 = nI w := by rw [← hI2, z_u_at, if_neg (by decide), z_u_at, if_neg (by decide)]; exact at1
  have fr2 : I2 71 13 = nI w := by rw [← hI2, z_u_at, if_neg (by decide), z_u_at, if_pos rfl]
  have tk2 : I2 71 14 = 1 := by rw [← hI2, z_u_at, if_pos rfl]
  refine z_callD (c172f hS f2 hN hN8 (show w ≤ 800 by omega)) (by omega) (by omega) (by omega) (Nat.le_of_ble_eq_true rfl) ?_
  try simp only [zW, z_wp1, z_ld, z_f0, z_f1, z_f2, z_f3, List.getElem?_cons_zero, List.getElem?_cons_succ, true_and, and_true, Int32.reduceOfInt, z_i10, z_i01, Int32.reduceLT, Int32.reduceLE, Int32.reduceAdd, Int32.reduceSub, z_set, z_set2, z_kil, List.set_cons_zero, List.set_cons_succ, List.take_succ_cons, List.take_zero, List.drop_succ_cons, List.drop_zero, List.reverse_cons, List.reverse_nil, List.nil_append, List.cons_append, List.getD_cons_succ, List.getD_cons_zero, List.getD_nil, List.length_cons, List.length_nil, List.map_cons, List.map_nil, List.sum_cons, List.sum_nil, Nat.reduceAdd, Nat.reduceLeDiff, Value.category, Option.toList, true_or, or_true, z_ua, ↓reduceIte, Nat.reduceEqDiff, eq_self, not_true_eq_false, not_false_eq_true, false_implies, true_implies, Classical.not_not, Nat.le_refl, Nat.zero_le, sK71 hS]
  try dsimp only
  by_cases hwN : w < N
  · have er : p_rw I N w = I 77 w := if_pos hwN
    have hc := hch w hwN
    have nm1 : ¬ p_rw I N w = -1 := fun q => by
      rw [er] at q
      rw [q] at hc
      exact absurd hc (by decide)
    refine ⟨fun _ => ?_, fun q => absurd q nm1⟩
    refine zW_ok hj B177_72 72 _ _ _ _ _ b177_72 ?_
    simp only [B177_72, zW, z_wp1, z_ld, z_f0, z_f1, z_f2, z_f3, List.getElem?_cons_zero, List.getElem?_cons_succ, true_and, and_true, Int32.reduceOfInt, z_i10, z_i01, Int32.reduceLT, Int32.reduceLE, Int32.reduceAdd, Int32.reduceSub, z_set, z_set2, z_kil, List.set_cons_zero, List.set_cons_succ, List.take_succ_cons, List.take_zero, List.drop_succ_cons, List.drop_zero, List.reverse_cons, List.reverse_nil, List.nil_append, List.cons_append, List.getD_cons_succ, List.getD_cons_zero, List.getD_nil, List.length_cons, List.length_nil, List.map_cons, List.map_nil, List.sum_cons, List.sum_nil, Nat.reduceAdd, Nat.reduceLeDiff, Value.category, Option.toList, true_or, or_true, z_ua, ↓reduceIte, Nat.reduceEqDiff, eq_self, not_true_eq_false, not_false_eq_true, false_implies, true_implies, Classical.not_not, Nat.le_refl, Nat.zero_le, sK71 hS, at2, nI_1]
    try dsimp only
    have f3 : p_fr I (z_u (z_u I2 71 12 (nI (w + 1))) 71 15 (p_rw I N w)) := (f2.u _ _ (Or.inl rfl)).u _ _ (Or.inr (Or.inr (Or.inr rfl)))
    generalize hI3 : z_u (z_u I2 71 12 (nI (w + 1))) 71 15 (p_rw I N w) = I3 at *
    have at3 : I3 71 12 = nI (w + 1) := by rw [← hI3, z_u_at, if_neg (by decide), z_u_at, if_pos rfl]
    have vl3 : I3 71 15 = p_rw I N w := by rw [← hI3, z_u_at, if_pos rfl]
    have fr3 : I3 71 13 = nI w := by rw [← hI3, z_u_at, if_neg (by decide), z_u_at, if_neg (by decide)]; exact fr2
    have tk3 : I3 71 14 = 1 := by rw [← hI3, z_u_at, if_neg (by decide), z_u_at, if_neg (by decide)]; exact tk2
    have ret : ∀ (I' : Nat → Nat → Int32) (x : Option Value), p_fr I I' → I' 71 12 = nI (p_nx (I 77) N a) → I' 71 13 = nI w → p_tk (I' 71 14) (I' 71 15) (p_kd (I 77) N a) (p_am (I 77) N a) → zV X 273 [some (.ref 71), x] [] (n, K, L, I', J, G) 0 0 := by
      intro I' x g1 g2 g3 g4
      refine zW_ok hj B177_273 273 _ _ _ _ _ b177_273 ?_
      simp only [B177_273, zW, z_wp1, z_ld, z_f0, z_f1, z_f2, z_f3, List.getElem?_cons_zero, List.getElem?_cons_succ, true_and, and_true, Int32.reduceOfInt, z_i10, z_i01, Int32.reduceLT, Int32.reduceLE, Int32.reduceAdd, Int32.reduceSub, z_set, z_set2, z_kil, List.set_cons_zero, List.set_cons_succ, List.take_succ_cons, List.take_zero, List.drop_succ_cons, List.drop_zero, List.reverse_cons, List.reverse_nil, List.nil_append, List.cons_append, List.getD_cons_succ, List.getD_cons_zero, List.getD_nil, List.length_cons, List.length_nil, List.map_cons, List.map_nil, List.sum_cons, List.sum_nil, Nat.reduceAdd, Nat.reduceLeDiff, Value.category, Option.toList, true_or, or_true, z_ua, ↓reduceIte, Nat.reduceEqDiff, eq_self, not_true_eq_false, not_false_eq_true, false_implies, true_implies, Classical.not_not, Nat.le_refl, Nat.zero_le]
      try dsimp only
      exact hQ _ _ ⟨rfl, I', rfl, g1, g2, g3, g4⟩
    by_cases hL : p_L (I 77 w) = true
    · have hl := (p_rw_L (I := I) (N := N) (k := w)).mpr ⟨hwN, hL⟩
      refine z_callD (c173 (I := I3) (J := J) hS (p_rw I N w)) (by omega) (by omega) (by omega) (Nat.le_of_ble_eq_true rfl) ?_
      try simp only [zW, z_wp1, z_ld, z_f0, z_f1, z_f2, z_f3, List.getElem?_cons_zero, List.getElem?_cons_succ, true_and, and_true, Int32.reduceOfInt, z_i10, z_i01, Int32.reduceLT, Int32.reduceLE, Int32.reduceAdd, Int32.reduceSub, z_set, z_set2, z_kil, List.set_cons_zero, List.set_cons_succ, List.take_succ_cons, List.take_zero, List.drop_succ_cons, List.drop_zero, List.reverse_cons, List.reverse_nil, List.nil_append, List.cons_append, List.getD_cons_succ, List.getD_cons_zero, List.getD_nil, List.length_cons, List.length_nil, List.map_cons, List.map_nil, List.sum_cons, List.sum_nil, Nat.reduceAdd, Nat.reduceLeDiff, Value.category, Option.toList, true_or, or_true, z_ua, ↓reduceIte, Nat.reduceEqDiff, eq_self, not_true_eq_false, not_false_eq_true, false_implies, true_implies, Classical.not_not, Nat.le_refl, Nat.zero_le, sK71 hS, z_b1 hl]
      try dsimp only
      have ek : p_kd (I 77) N a = p_wk (p_w (I 77) w (p_ed p_L (I 77) N (w + 1))) := by rw [p_kd, hwd, if_neg (fun q => q hwN), if_pos hL]
      have ea : p_am (I 77) N a = p_w (I 77) w (p_ed p_L (I 77) N (w + 1)) := by rw [p_am, hwd, if_pos hL]
      have en : p_nx (I 77) N a = p_ed p_L (I 77) N (w + 1) := by rw [p_nx, hwd, if_neg (fun q => q hwN), if_pos hL]
      obtain ⟨i1, i2, i3⟩ := p_ed_in (P := p_L) (t := I 77) (N := N) (a := w + 1)
      refine c177_l (I0 := I3) hS hj hd hm hs hN hN8 (e := p_ed p_L (I 77) N (w + 1)) (fun I4 g1 g2 g3 => ?_) N (w + 1) I3 (by omega) (by omega) rfl f3 (fun _ _ => rfl) at3
      have fr4 : I4 71 13 = nI w := by rw [g2 _ (by decide)]; exact fr3
      have i2' := i2 (by omega)
      have cw := c176 (l := X.1) (n := n) (I := I4) (J := J) (a := w) (b := p_ed p_L (I 77) N (w + 1)) hS (by rw [g1.1 78 (by decide)]; exact hW) (by omega) (by omega) (fun j j1 j2 q => by
        rw [g1.1 77 (by decide)] at q
        have hj : p_L (I 77 j) = true := by
          by_cases z : j = w
          · rw [z]; exact hL
          · exact (i3 j (by omega) j2).2
        rw [q] at hj
        exact absurd hj (by decide))
      rw [g1.1 77 (by decide)] at cw
      refine zW_ok hj B177_123 123 _ _ _ _ _ b177_123 ?_
      simp only [B177_123, zW, z_wp1, z_ld, z_f0, z_f1, z_f2, z_f3, List.getElem?_cons_zero, List.getElem?_cons_succ, true_and, and_true, Int32.reduceOfInt, z_i10, z_i01, Int32.reduceLT, Int32.reduceLE, Int32.reduceAdd, Int32.reduceSub, z_set, z_set2, z_kil, List.set_cons_zero, List.set_cons_succ, List.take_succ_cons, List.take_zero, List.drop_succ_cons, List.drop_zero, List.reverse_cons, List.reverse_nil, List.nil_append, List.cons_append, List.getD_cons_succ, List.getD_cons_zero, List.getD_nil, List.length_cons, List.length_nil, List.map_cons, List.map_nil, List.sum_cons, List.sum_nil, Nat.reduceAdd, Nat.reduceLeDiff, Value.category, Option.toList, true_or, or_true, z_ua, ↓reduceIte, Nat.reduceEqDiff, eq_self, not_true_eq_false, not_false_eq_true, false_implies, true_implies, Classical.not_not, Nat.le_refl, Nat.zero_le, sK71 hS, fr4, g3]
      try dsimp only
      refine z_callD (cw) (by omega) (by omega) (by omega) (Nat.le_of_ble_eq_true rfl) ?_
      try simp only [zW, z_wp1, z_ld, z_f0, z_f1, z_f2, z_f3, List.getElem?_cons_zero, List.getElem?_cons_succ, true_and, and_true, Int32.reduceOfInt, z_i10, z_i01, Int32.reduceLT, Int32.reduceLE, Int32.reduceAdd, Int32.reduceSub, z_set, z_set2, z_kil, List.set_cons_zero, List.set_cons_succ, List.take_succ_cons, List.take_zero, List.drop_succ_cons, List.drop_zero, List.reverse_cons, List.reverse_nil, List.nil_append, List.cons_append, List.getD_cons_succ, List.getD_cons_zero, List.getD_nil, List.length_cons, List.length_nil, List.map_cons, List.map_nil, List.sum_cons, List.sum_nil, Nat.reduceAdd, Nat.reduceLeDiff, Value.category, Option.toList, true_or, or_true, z_ua, ↓reduceIte, Nat.reduceEqDiff, eq_self, not_true_eq_false, not_false_eq_true, false_implies, true_implies, Classical.not_not, Nat.le_refl, Nat.zero_le, sK71 hS]
      try dsimp only
      rcases p_w_in (I 77) w (p_ed p_L (I 77) N (w + 1)) with q | ⟨j, hj', q⟩
      · refine ⟨fun _ => ret _ _ (g1.u _ _ (Or.inr (Or.inr (Or.inr rfl)))) (by rw [z_u_at, if_neg (by decide), en]; exact g3) (by rw [z_u_at, if_neg (by decide)]; exact fr4) (Or.inr (Or.inl ⟨by rw [ek, q]; decide, by rw [z_u_at, if_neg (by decide), g2 _ (by decide)]; exact tk3⟩)), fun z => absurd q z⟩
      · refine ⟨fun z => absurd (q.symm.trans z) (nI_neg1 (by omega)), fun _ => ret _ _ ((g1.u _ _ (Or.inr (Or.inr (Or.inr rfl)))).u _ _ (Or.inr (Or.inr (Or.inl rfl)))) (by rw [z_u_at, if_neg (by decide), z_u_at, if_neg (by decide), en]; exact g3) (by rw [z_u_at, if_neg (by decide), z_u_at, if_neg (by decide)]; exact fr4) ?_⟩
        have t4 : z_u (z_u I4 71 15 (p_w (I 77) w (p_ed p_L (I 77) N (w + 1)))) 71 14 2 71 14 = 2 := by rw [z_u_at, if_pos rfl]
        have v4 : z_u (z_u I4 71 15 (p_w (I 77) w (p_ed p_L (I 77) N (w + 1)))) 71 14 2 71 15 = p_w (I 77) w (p_ed p_L (I 77) N (w + 1)) := by rw [z_u_at, if_neg (by decide), z_u_at, if_pos rfl]
        rw [t4, v4, ek, ea, q]
        rcases p_wk_ok j hj' with ⟨_, b, c, d⟩ | ⟨b, c⟩
        · exact Or.inr (Or.inr (Or.inl ⟨b, rfl, rfl, c, d⟩))
        · exact Or.inr (Or.inr (Or.inr (Or.inl ⟨b, rfl, c⟩)))
    · have hl : ¬ ((97 ≤ p_rw I N w ∧ p_rw I N w ≤ 122) ∨ (65 ≤ p_rw I N w ∧ p_rw I N w ≤ 90)) := fun q => hL (p_rw_L.mp q).2
      refine z_callD (c173 (I := I3) (J := J) hS (p_rw I N w)) (by omega) (by omega) (by omega) (Nat.le_of_ble_eq_true rfl) ?_
      try simp only [zW, z_wp1, z_ld, z_f0, z_f1, z_f2, z_f3, List.getElem?_cons_zero, List.getElem?_cons_succ, true_and, and_true, Int32.reduceOfInt, z_i10, z_i01, Int32.reduceLT, Int32.reduceLE, Int32.reduceAdd, Int32.reduceSub, z_set, z_set2, z_kil, List.set_cons_zero, List.set_cons_succ, List.take_succ_cons, List.take_zero, List.drop_succ_cons, List.drop_zero, List.reverse_cons, List.reverse_nil, List.nil_append, List.cons_append, List.getD_cons_succ, List.getD_cons_zero, List.getD_nil, List.length_cons, List.length_nil, List.map_cons, List.map_nil, List.sum_cons, List.sum_nil, Nat.reduceAdd, Nat.reduceLeDiff, Value.category, Option.toList, true_or, or_true, z_ua, ↓reduceIte, Nat.reduceEqDiff, eq_self, not_true_eq_false, not_false_eq_true, false_implies, true_implies, Classical.not_not, Nat.le_refl, Nat.zero_le, sK71 hS, z_b0 hl]
      try dsimp only
      refine zW_ok hj B177_155 155 _ _ _ _ _ b177_155 ?_
      simp only [B177_155, zW, z_wp1, z_ld, z_f0, z_f1, z_f2, z_f3, List.getElem?_cons_zero, List.getElem?_cons_succ, true_and, and_true, Int32.reduceOfInt, z_i10, z_i01, Int32.reduceLT, Int32.reduceLE, Int32.reduceAdd, Int32.reduceSub, z_set, z_set2, z_kil, List.set_cons_zero, List.set_cons_succ, List.take_succ_cons, List.take_zero, List.drop_succ_cons, List.drop_zero, List.reverse_cons, List.reverse_nil, List.nil_append, List.cons_append, List.getD_cons_succ, List.getD_cons_zero, List.getD_nil, List.length_cons, List.length_nil, List.map_cons, List.map_nil, List.sum_cons, List.sum_nil, Nat.reduceAdd, Nat.reduceLeDiff, Value.category, Option.toList, true_or, or_true, z_ua, ↓reduceIte, Nat.reduceEqDiff, eq_self, not_true_eq_false, not_false_eq_true, false_implies, true_implies, Classical.not_not, Nat.le_refl, Nat.zero_le, sK71 hS]
      try dsimp only
      by_cases hD : p_D (I 77 w) = true
      · have hd' := (p_rw_D (I := I) (N := N) (k := w)).mpr ⟨hwN, hD⟩
        have ek : p_kd (I 77) N a = if p_ed p_D (I 77) N (w + 1) - w < 5 then 17 else 1 := by rw [p_kd, hwd, if_neg (fun q => q hwN), if_neg hL, if_pos hD]
        have ea : p_am (I 77) N a = p_nu (I 77) w (p_ed p_D (I 77) N (w + 1) - w) := by rw [p_am, hwd, if_neg hL]
        have en : p_nx (I 77) N a = p_ed p_D (I 77) N (w + 1) := by rw [p_nx, hwd, if_neg (fun q => q hwN), if_neg hL, if_pos hD]
        obtain ⟨i1, i2, i3⟩ := p_ed_in (P := p_D) (t := I 77) (N := N) (a := w + 1)
        have i2' := i2 (by omega)
        refine z_callD (c174 (I := I3) (J := J) hS (p_rw I N w)) (by omega) (by omega) (by omega) (Nat.le_of_ble_eq_true rfl) ?_
        try simp only [zW, z_wp1, z_ld, z_f0, z_f1, z_f2, z_f3, List.getElem?_cons_zero, List.getElem?_cons_succ, true_and, and_true, Int32.reduceOfInt, z_i10, z_i01, Int32.reduceLT, Int32.reduceLE, Int32.reduceAdd, Int32.reduceSub, z_set, z_set2, z_kil, List.set_cons_zero, List.set_cons_succ, List.take_succ_cons, List.take_zero, List.drop_succ_cons, List.drop_zero, List.reverse_cons, List.reverse_nil, List.nil_append, List.cons_append, List.getD_cons_succ, List.getD_cons_zero, List.getD_nil, List.length_cons, List.length_nil, List.map_cons, List.map_nil, List.sum_cons, List.sum_nil, Nat.reduceAdd, Nat.reduceLeDiff, Value.category, Option.toList, true_or, or_true, z_ua, ↓reduceIte, Nat.reduceEqDiff, eq_self, not_true_eq_false, not_false_eq_true, false_implies, true_implies, Classical.not_not, Nat.le_refl, Nat.zero_le, sK71 hS, z_b1 hd']
        try dsimp only
        refine c177_d (I0 := I3) (w := w) hS hj hd hm hs hN hN8 (e := p_ed p_D (I 77) N (w + 1)) (fun I4 g1 g2 g3 g4 => ?_) N (w + 1) _ (by omega) (by omega) (by omega) (fun j j1 j2 => by rw [show j = w by omega]; exact hD) rfl (f3.u _ _ (Or.inr (Or.inr (Or.inr rfl)))) (fun k _ c => by rw [z_u_at, if_neg c]) (by rw [z_u_at, if_neg (by decide)]; exact at3) (fun _ => by
          rw [z_u_at, if_pos rfl, show w + 1 - w = 0 + 1 by omega, p_nu, p_nu, er, Nat.add_zero]
          simp)
        have fr4 : I4 71 13 = nI w := by rw [g2 _ (by decide) (by decide)]; exact fr3
        have esub : nI (p_ed p_D (I 77) N (w + 1)) - nI w = nI (p_ed p_D (I 77) N (w + 1) - w) := nI_sub' (by omega)
        have le5 : 5 ≤ nI (p_ed p_D (I 77) N (w + 1) - w) ↔ 5 ≤ p_ed p_D (I 77) N (w + 1) - w := nI_leI (a := 5) (by omega) (by omega)
        refine zW_ok hj B177_239 239 _ _ _ _ _ b177_239 ?_
        simp only [B177_239, zW, z_wp1, z_ld, z_f0, z_f1, z_f2, z_f3, List.getElem?_cons_zero, List.getElem?_cons_succ, true_and, and_true, Int32.reduceOfInt, z_i10, z_i01, Int32.reduceLT, Int32.reduceLE, Int32.reduceAdd, Int32.reduceSub, z_set, z_set2, z_kil, List.set_cons_zero, List.set_cons_succ, List.take_succ_cons, List.take_zero, List.drop_succ_cons, List.drop_zero, List.reverse_cons, List.reverse_nil, List.nil_append, List.cons_append, List.getD_cons_succ, List.getD_cons_zero, List.getD_nil, List.length_cons, List.length_nil, List.map_cons, List.map_nil, List.sum_cons, List.sum_nil, Nat.reduceAdd, Nat.reduceLeDiff, Value.category, Option.toList, true_or, or_true, z_ua, ↓reduceIte, Nat.reduceEqDiff, eq_self, not_true_eq_false, not_false_eq_true, false_implies, true_implies, Classical.not_not, Nat.le_refl, Nat.zero_le, sK71 hS, g3, fr4, esub, le5]
        try dsimp only
        refine ⟨fun h => ret I4 _ g1 (by rw [en]; exact g3) fr4 (Or.inr (Or.inl ⟨by rw [ek, if_neg (by omega)], by rw [g2 _ (by decide) (by decide)]; exact tk3⟩)), fun h => ret _ _ (g1.u _ _ (Or.inr (Or.inr (Or.inl rfl)))) (by rw [z_u_at, if_neg (by decide), en]; exact g3) (by rw [z_u_at, if_neg (by decide)]; exact fr4) (Or.inr (Or.inr (Or.inr (Or.inr (Or.inl ⟨by rw [ek, if_pos (by omega)], by rw [z_u_at, if_pos rfl], by rw [z_u_at, if_neg (by decide), g4 (by omega), ea]⟩)))))⟩
      · have hd' : ¬ (48 ≤ p_rw I N w ∧ p_rw I N w ≤ 57) := fun q => hD (p_rw_D.mp q).2
        have ek : p_kd (I 77) N a = p_sg (I 77 w) := by rw [p_kd, hwd, if_neg (fun q => q hwN), if_neg hL, if_neg hD]
        have en : p_nx (I 77) N a = w + 1 := by rw [p_nx, hwd, if_neg (fun q => q hwN), if_neg hL, if_neg hD]
        refine z_callD (c174 (I := I3) (J := J) hS (p_rw I N w)) (by omega) (by omega) (by omega) (Nat.le_of_ble_eq_true rfl) ?_
        try simp only [zW, z_wp1, z_ld, z_f0, z_f1, z_f2, z_f3, List.getElem?_cons_zero, List.getElem?_cons_succ, true_and, and_true, Int32.reduceOfInt, z_i10, z_i01, Int32.reduceLT, Int32.reduceLE, Int32.reduceAdd, Int32.reduceSub, z_set, z_set2, z_kil, List.set_cons_zero, List.set_cons_succ, List.take_succ_cons, List.take_zero, List.drop_succ_cons, List.drop_zero, List.reverse_cons, List.reverse_nil, List.nil_append, List.cons_append, List.getD_cons_succ, List.getD_cons_zero, List.getD_nil, List.length_cons, List.length_nil, List.map_cons, List.map_nil, List.sum_cons, List.sum_nil, Nat.reduceAdd, Nat.reduceLeDiff, Value.category, Option.toList, true_or, or_true, z_ua, ↓reduceIte, Nat.reduceEqDiff, eq_self, not_true_eq_false, not_false_eq_true, false_implies, true_implies, Classical.not_not, Nat.le_refl, Nat.zero_le, sK71 hS, z_b0 hd']
        try dsimp only
        have cs := @c175 X.1 n K L I3 J G (p_rw I N w) (Classical.propDecidable _)
        refine zW_ok hj B177_260 260 _ _ _ _ _ b177_260 ?_
        simp only [B177_260, zW, z_wp1, z_ld, z_f0, z_f1, z_f2, z_f3, List.getElem?_cons_zero, List.getElem?_cons_succ, true_and, and_true, Int32.reduceOfInt, z_i10, z_i01, Int32.reduceLT, Int32.reduceLE, Int32.reduceAdd, Int32.reduceSub, z_set, z_set2, z_kil, List.set_cons_zero, List.set_cons_succ, List.take_succ_cons, List.take_zero, List.drop_succ_cons, List.drop_zero, List.reverse_cons, List.reverse_nil, List.nil_append, List.cons_append, List.getD_cons_succ, List.getD_cons_zero, List.getD_nil, List.length_cons, List.length_nil, List.map_cons, List.map_nil, List.sum_cons, List.sum_nil, Nat.reduceAdd, Nat.reduceLeDiff, Value.category, Option.toList, true_or, or_true, z_ua, ↓reduceIte, Nat.reduceEqDiff, eq_self, not_true_eq_false, not_false_eq_true, false_implies, true_implies, Classical.not_not, Nat.le_refl, Nat.zero_le, sK71 hS]
        try dsimp only
        by_cases hsg : m_sign (p_rw I N w)
        · rw [@z_b1 _ (Classical.propDecidable _) hsg] at cs
          refine z_callD (cs) (by omega) (by omega) (by omega) (Nat.le_of_ble_eq_true rfl) ?_
          try simp only [zW, z_wp1, z_ld, z_f0, z_f1, z_f2, z_f3, List.getElem?_cons_zero, List.getElem?_cons_succ, true_and, and_true, Int32.reduceOfInt, z_i10, z_i01, Int32.reduceLT, Int32.reduceLE, Int32.reduceAdd, Int32.reduceSub, z_set, z_set2, z_kil, List.set_cons_zero, List.set_cons_succ, List.take_succ_cons, List.take_zero, List.drop_succ_cons, List.drop_zero, List.reverse_cons, List.reverse_nil, List.nil_append, List.cons_append, List.getD_cons_succ, List.getD_cons_zero, List.getD_nil, List.length_cons, List.length_nil, List.map_cons, List.map_nil, List.sum_cons, List.sum_nil, Nat.reduceAdd, Nat.reduceLeDiff, Value.category, Option.toList, true_or, or_true, z_ua, ↓reduceIte, Nat.reduceEqDiff, eq_self, not_true_eq_false, not_false_eq_true, false_implies, true_implies, Classical.not_not, Nat.le_refl, Nat.zero_le, sK71 hS]
          try dsimp only
          refine ret _ _ (f3.u _ _ (Or.inr (Or.inr (Or.inl rfl)))) (by rw [z_u_at, if_neg (by decide), en]; exact at3) (by rw [z_u_at, if_neg (by decide)]; exact fr3) (Or.inr (Or.inr (Or.inr (Or.inr (Or.inr ⟨fun q => ?_, by rw [z_u_at, if_pos rfl], by rw [z_u_at, if_neg (by decide), vl3, ek, er]⟩)))))
          rw [ek, ← er] at q
          exact p_sg_1.mp q hsg
        · rw [@z_b0 _ (Classical.propDecidable _) hsg] at cs
          refine z_callD (cs) (by omega) (by omega) (by omega) (Nat.le_of_ble_eq_true rfl) ?_
          try simp only [zW, z_wp1, z_ld, z_f0, z_f1, z_f2, z_f3, List.getElem?_cons_zero, List.getElem?_cons_succ, true_and, and_true, Int32.reduceOfInt, z_i10, z_i01, Int32.reduceLT, Int32.reduceLE, Int32.reduceAdd, Int32.reduceSub, z_set, z_set2, z_kil, List.set_cons_zero, List.set_cons_succ, List.take_succ_cons, List.take_zero, List.drop_succ_cons, List.drop_zero, List.reverse_cons, List.reverse_nil, List.nil_append, List.cons_append, List.getD_cons_succ, List.getD_cons_zero, List.getD_nil, List.length_cons, List.length_nil, List.map_cons, List.map_nil, List.sum_cons, List.sum_nil, Nat.reduceAdd, Nat.reduceLeDiff, Value.category, Option.toList, true_or, or_true, z_ua, ↓reduceIte, Nat.reduceEqDiff, eq_self, not_true_eq_false, not_false_eq_true, false_implies, true_implies, Classical.not_not, Nat.le_refl, Nat.zero_le, sK71 hS]
          try dsimp only
          exact ret _ _ f3 (by rw [en]; exact at3) fr3 (Or.inr (Or.inl ⟨by rw [ek, ← er]; exact p_sg_1.mpr hsg, tk3⟩))
  · have em : p_rw I N w = -1 := if_neg hwN
    refine ⟨fun q => absurd em q, fun _ => ?_⟩
    have en : p_nx (I 77) N a = w := by rw [p_nx, hwd, if_pos hwN]
    exact hQ _ _ ⟨rfl, _, rfl, f2.u _ _ (Or.inr (Or.inr (Or.inl rfl))), by rw [z_u_at, if_neg (by decide), en]; exact at2, by rw [z_u_at, if_neg (by decide)]; exact fr2, Or.inl ⟨by rw [p_kd, hwd, if_pos hwN], by rw [z_u_at, if_pos rfl]⟩⟩
end LEX3
